/-! Between calls: how the class stands to the model. -/
theorem zC_mono {M : MethodName × ByteArray × Nat × Option FieldType} {d : Nat} {as : List Value} {σ : zS} {K K' : Option Value → zS → Prop} (h : zC M d as σ K) (hk : ∀ r τ, K r τ → K' r τ) : zC M d as σ K' := by
  intro l D ad cs hi p e h1 h2 h3 s m args below h4 h5 h6 h7
  obtain ⟨n, o, a, b, c, ⟨r, τ, e1, e2, e3, e4⟩, q⟩ := h l D ad cs hi p e h1 h2 h3 s m args below h4 h5 h6 h7
  exact ⟨n, o, a, b, c, ⟨r, τ, e1, hk r τ e2, e3, e4⟩, q⟩
theorem zC_norm {M : MethodName × ByteArray × Nat × Option FieldType} {d : Nat} {as : List Value} {σ τ : zS} {K : Option Value → zS → Prop} (he : zEq σ τ) (hr : zRG σ → zRG τ) (h : zC M d as τ K) : zC M d as σ K := by
  intro l D ad cs hi p e h1 h2 h3 s m args below h4 h5 h6 h7
  exact h l D ad cs hi p e h1 h2 h3 s m args below h4 h5 ⟨h6.1, zWd_congr he (hr h6.2.1.2) h6.2.1, h6.2.2⟩ h7
def ACT (dk pl : zOb) (g : Int → Int) : Prop := ∃ U : T3, OKT U ∧ DKE dk U.2.2 ∧ dk.1 3 = U.2.2 2 ∧ PLX pl U ∧ ∀ k, 0 ≤ k → k < 119 → g k = U.2.2 k
def IMk (io tx dk pl m : zOb) (k : Int) : Prop := io.1 3 = m.2 3 k ∧ (m.2 3 k = 0 ∨ m.2 3 k = 1) ∧ (m.2 3 k = 1 → io.1 4 = m.2 1 (122 * (k + 1) + 120) ∧ io.1 5 = m.2 1 (122 * (k + 1) + 121) ∧ (0 ≤ tx.1 1 ∧ tx.1 1 ≤ 400) ∧ tx.1 1 = m.2 1 (122 * (k + 1) + 119) ∧ (∀ j, 0 ≤ j → j < 400 → tx.2 0 j = m.2 2 (400 * (k + 1) + j)) ∧ ACT dk pl (fun i => m.2 1 (122 * (k + 1) + i)))
def RT (σ : zS) : Prop := (0 ≤ (σ 1).1 1 ∧ (σ 1).1 1 ≤ 400) ∧ (σ 1).1 1 = (σ 31).2 1 119 ∧ (∀ j, 0 ≤ j → j < 400 → (σ 1).2 0 j = (σ 31).2 2 j)
def RI (σ : zS) : Prop := ((σ 0).2 9 0 = 19 ∧ (σ 0).2 9 1 = 23 ∧ (σ 0).2 9 2 = 27) ∧ IMk (σ 19) (σ 20) (σ 21) (σ 22) (σ 31) 0 ∧ IMk (σ 23) (σ 24) (σ 25) (σ 26) (σ 31) 1 ∧ IMk (σ 27) (σ 28) (σ 29) (σ 30) (σ 31) 2
def RA (σ : zS) : Prop := ACI σ ∧ (σ 31).1 5 = (σ 10).1 1 ∧ ∀ i, 0 ≤ i → i < (σ 10).1 1 → ACT (σ 4) (pa σ i) (fun k => (σ 31).2 4 (119 * i + k))
def REL (σ : zS) : Prop := RT σ ∧ ((σ 0).1 10 = (σ 31).2 1 120 ∧ (σ 0).1 11 = (σ 31).2 1 121) ∧ (∃ T, OKT T ∧ (σ 31).2 1 = T.2.2 ∧ CS T σ) ∧ RA σ ∧ RI σ
/-- an act of the class, then of the model, with one answer -/
def J2 (Mc : MethodName × ByteArray × Nat × Option FieldType) (ac : List Value) (Mm : MethodName × ByteArray × Nat × Option FieldType) (am : List Value) (σ : zS) : Prop := zC Mc 9 ac σ (fun r τ => ∃ v : Int, r = some (zI v) ∧ zC Mm 9 am τ (fun r2 τ2 => r2 = some (zI v) ∧ REL τ2))
theorem IMk_m {io tx dk pl m m' : zOb} {k : Int} (h : IMk io tx dk pl m k) (hk : 0 ≤ k ∧ k ≤ 2) (m3 : m'.2 3 = m.2 3) (m2 : ∀ j, 400 ≤ j → m'.2 2 j = m.2 2 j) (ma : ∀ i, 122 ≤ i → m'.2 1 i = m.2 1 i) : IMk io tx dk pl m' k := by
  obtain ⟨h1, h2, h3⟩ := h
  refine ⟨by rw [m3]; exact h1, by rw [m3]; exact h2, fun z => ?_⟩
  rw [m3] at z
  obtain ⟨a, b, c, d, e, U, u1, u2, u3, u4, u5⟩ := h3 z
  rw [ma _ (by omega), ma _ (by omega), ma _ (by omega)]
  refine ⟨a, b, c, d, fun j j0 j1 => by rw [m2 _ (by omega)]; exact e j j0 j1, U, u1, u2, u3, u4, fun i i0 i1 => ?_⟩
  show m'.2 1 (122 * (k + 1) + i) = _
  rw [ma _ (by omega)]
  exact u5 i i0 i1
theorem RI_f {σ τ : zS} (h : RI σ) (h0 : (τ 0).2 9 = (σ 0).2 9) (hi : ∀ o, 19 ≤ o → o ≤ 30 → τ o = σ o) (m3 : (τ 31).2 3 = (σ 31).2 3) (m2 : ∀ j, 400 ≤ j → (τ 31).2 2 j = (σ 31).2 2 j) (ma : ∀ i, 122 ≤ i → (τ 31).2 1 i = (σ 31).2 1 i) : RI τ := by
  obtain ⟨a, b, c, d⟩ := h
  refine ⟨by rw [h0]; exact a, ?_, ?_, ?_⟩
  · rw [hi 19 (by omega) (by omega), hi 20 (by omega) (by omega), hi 21 (by omega) (by omega), hi 22 (by omega) (by omega)]; exact IMk_m b (by omega) m3 m2 ma
  · rw [hi 23 (by omega) (by omega), hi 24 (by omega) (by omega), hi 25 (by omega) (by omega), hi 26 (by omega) (by omega)]; exact IMk_m c (by omega) m3 m2 ma
  · rw [hi 27 (by omega) (by omega), hi 28 (by omega) (by omega), hi 29 (by omega) (by omega), hi 30 (by omega) (by omega)]; exact IMk_m d (by omega) m3 m2 ma
theorem RT_f {σ τ : zS} (h : RT σ) (h1 : τ 1 = σ 1) (m2 : (τ 31).2 2 = (σ 31).2 2) (ma : (τ 31).2 1 119 = (σ 31).2 1 119) : RT τ := by
  unfold RT
  rw [h1, m2, ma]
  exact h
/-- what stays when an act is done -/
theorem REL_act {σ τ : zS} {T' : T3} (h : REL σ) (ho : ∀ o, (o = 0 ∨ o = 1 ∨ (19 ≤ o ∧ o ≤ 30)) → τ o = σ o) (hM : MP (σ 31) (τ 31)) (hw : RWS ((σ 31).2 1) T'.2.2 ∨ (∀ i, 119 ≤ i → T'.2.2 i = (σ 31).2 1 i)) (hT : OKT T') (e1 : (τ 31).2 1 = T'.2.2) (hC : CS T' τ) (hA : RA τ) : REL τ := by
  have hi : ∀ i, 119 ≤ i → (τ 31).2 1 i = (σ 31).2 1 i := fun i z => by
    rw [e1]
    rcases hw with w | w
    · exact w i (Or.inr z)
    · exact w i z
  refine ⟨RT_f h.1 (ho 1 (by omega)) hM.2.1 (hi 119 (by omega)), ?_, ⟨T', hT, e1, hC⟩, hA, RI_f h.2.2.2.2 (by rw [ho 0 (by omega)]) (fun o a b => ho o (by omega)) hM.2.2 (fun j _ => by rw [hM.2.1]) (fun i z => hi i (by omega))⟩
  rw [ho 0 (by omega), hi 120 (by omega), hi 121 (by omega)]
  exact h.2.1
theorem pa_o {σ τ : zS} (h10 : τ 10 = σ 10) (hA : ACI σ) (ho : ∀ o, 11 ≤ o → o ≤ 18 → τ o = σ o) {i : Int} (i0 : 0 ≤ i) (i1 : i < 8) : pa τ i = pa σ i := by
  have := hA.1.1 i i0 i1
  unfold pa
  rw [h10]
  exact ho _ (by omega) (by omega)
/-- acts are as they were -/
theorem RA_same {σ τ : zS} (h : RA σ) (h4 : τ 4 = σ 4) (h10 : τ 10 = σ 10) (ho : ∀ o, 11 ≤ o → o ≤ 18 → τ o = σ o) (m5 : (τ 31).1 5 = (σ 31).1 5) (m4 : (τ 31).2 4 = (σ 31).2 4) : RA τ := by
  obtain ⟨hA, h5, ha⟩ := h
  refine ⟨by unfold ACI; rw [h10]; exact hA, by rw [m5, h10]; exact h5, fun i i0 i1 => ?_⟩
  rw [h10] at i1
  have hm := hA.2
  rw [h4, pa_o h10 hA ho i0 (by omega), m4]
  exact ha i i0 i1
/-- one act more -/
theorem RA_push {σ τ : zS} {T : T3} (h : RA σ) (hT : OKT T) (hC : CS T σ) (e1 : (σ 31).2 1 = T.2.2) (hK : AK σ τ) (h4 : τ 4 = σ 4) (hP : PUSH T.2.2 (σ 31) (τ 31)) : RA τ := by
  obtain ⟨hA, h5, ha⟩ := h
  obtain ⟨k1, k2, k3, X, k4⟩ := hK
  obtain ⟨p1, p2, p3⟩ := hP
  have hm := hA.2
  have hN : kN ((σ 31).1 5) = if (σ 10).1 1 < 8 then (σ 10).1 1 else 7 := by
    rw [h5]
    unfold kN
    by_cases z : (σ 10).1 1 = 8
    · rw [if_pos z, if_neg (by omega)]
    · rw [if_neg z, if_pos (by omega)]
  have hO : ∀ i : Int, i + kO ((σ 31).1 5) = if (σ 10).1 1 < 8 then i else i + 1 := by
    intro i
    rw [h5]
    unfold kO
    by_cases z : (σ 10).1 1 = 8
    · rw [if_pos z, if_neg (by omega)]
    · rw [if_neg z, if_pos (by omega), Int.add_zero]
  rw [hN] at p1 p2 p3
  have hNb : 0 ≤ (if (σ 10).1 1 < 8 then (σ 10).1 1 else 7) ∧ (if (σ 10).1 1 < 8 then (σ 10).1 1 else 7) ≤ 7 := by split <;> omega
  refine ⟨k1, by rw [p1, k2], fun i i0 i1 => ?_⟩
  rw [k2] at i1
  rw [h4]
  by_cases z : i < (if (σ 10).1 1 < 8 then (σ 10).1 1 else 7)
  · rw [k3 i i0 z]
    have hj : 0 ≤ (if (σ 10).1 1 < 8 then i else i + 1) ∧ (if (σ 10).1 1 < 8 then i else i + 1) < (σ 10).1 1 := by
      split at z
      · rename_i q; rw [if_pos q]; omega
      · rename_i q; rw [if_neg q]; omega
    obtain ⟨U, u1, u2, u3, u4, u5⟩ := ha _ hj.1 hj.2
    refine ⟨U, u1, u2, u3, u4, fun k a b => ?_⟩
    show (τ 31).2 4 (119 * i + k) = _
    rw [p2 i k i0 z a b, hO i]
    exact u5 k a b
  · have ei : i = (if (σ 10).1 1 < 8 then (σ 10).1 1 else 7) := by omega
    rw [ei, k4]
    refine ⟨T, hT, hC.1, hC.2.1, hC.2.2.1, fun k a b => ?_⟩
    exact p3 k a b
theorem zself (σ : zS) (o : Nat) : zo σ o (σ o) = σ := zo_self σ o
