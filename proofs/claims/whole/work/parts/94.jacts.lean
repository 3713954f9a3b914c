/-! Law cases: acts. -/
def J3 (Mc : MethodName × ByteArray × Nat × Option FieldType) (dc : Nat) (ac : List Value) (Mm : MethodName × ByteArray × Nat × Option FieldType) (dm : Nat) (am : List Value) (σ : zS) : Prop := zC Mc dc ac σ (fun r τ => ∃ v : Int, r = some (zI v) ∧ zC Mm dm am τ (fun r2 τ2 => r2 = some (zI v) ∧ REL τ2))
theorem CS_31 {T : T3} {τ : zS} {m' : zOb} (h : CS T τ) : CS T (zo τ 31 m') := by
  unfold CS
  rw [zo_n (show (4 : Nat) ≠ 31 by decide), zo_n (show (5 : Nat) ≠ 31 by decide), zo_n (show (6 : Nat) ≠ 31 by decide)]
  exact h
theorem AK_31 {σ τ : zS} {m' : zOb} (h : AK σ τ) (hm : 0 ≤ (σ 10).1 1 ∧ (σ 10).1 1 ≤ 8) : AK σ (zo τ 31 m') := by
  obtain ⟨h1, h2, h3, Z, h4⟩ := h
  have e10 : zo τ 31 m' 10 = τ 10 := zo_n (by decide)
  have hN : 0 ≤ (if (σ 10).1 1 < 8 then (σ 10).1 1 else 7) ∧ (if (σ 10).1 1 < 8 then (σ 10).1 1 else 7) < 8 := by split <;> omega
  have hp : ∀ i, 0 ≤ i → i < 8 → pa (zo τ 31 m') i = pa τ i := fun i i0 i1 => pa_o e10 h1 (fun o a b => zo_n (by omega)) i0 i1
  refine ⟨by unfold ACI; rw [e10]; exact h1, by rw [e10]; exact h2, fun i i0 i1 => ?_, Z, ?_⟩
  · rw [hp i i0 (by omega)]; exact h3 i i0 i1
  · rw [hp _ hN.1 hN.2]; exact h4
theorem R_push {σ τ : zS} {m' : zOb} {T T' : T3} (h : REL σ) (hT : OKT T) (hC : CS T σ) (e1 : (σ 31).2 1 = T.2.2) (hC' : CS T' τ) (hK : AK σ τ) (hF : FRc σ τ) (hM : MP (σ 31) m') (em : m'.2 1 = T'.2.2) (hP : PUSH T.2.2 (σ 31) m') (hOK : OKT T') (hw : ∀ i, 119 ≤ i → T'.2.2 i = T.2.2 i) : REL (zo τ 31 m') := by
  have e31 : zo τ 31 m' 31 = m' := zo_s _ _ _
  refine REL_act (T' := T') h (fun o ho => ?_) (by rw [e31]; exact hM) (Or.inr (fun i z => by rw [e1]; exact hw i z)) hOK (by rw [e31]; exact em) (CS_31 hC') ?_
  · rw [zo_n (by omega)]; exact hF o (by omega)
  · exact RA_push h.2.2.2.1 hT hC e1 (AK_31 hK h.2.2.2.1.1.2) (by rw [zo_n (by decide)]; exact hF 4 (by omega)) (by rw [e31]; exact hP)
theorem R_same {σ τ : zS} {m' : zOb} {T : T3} (h : REL σ) (hT : OKT T) (hC : CS T σ) (e1 : (σ 31).2 1 = T.2.2) (hX : CX σ τ) (hM : MP (σ 31) m') (em : m'.2 1 = T.2.2) (m5 : m'.1 5 = (σ 31).1 5) (m4 : m'.2 4 = (σ 31).2 4) : REL (zo τ 31 m') := by
  have e31 : zo τ 31 m' 31 = m' := zo_s _ _ _
  have hCt : CS T τ := by
    unfold CS
    rw [hX 4 (by decide) (by decide) (by decide), hX 5 (by decide) (by decide) (by decide), hX 6 (by decide) (by decide) (by decide)]
    exact hC
  refine REL_act (T' := T) h (fun o ho => ?_) (by rw [e31]; exact hM) (Or.inr (fun i z => by rw [e1])) hT (by rw [e31]; exact em) (CS_31 hCt) ?_
  · rw [zo_n (by omega)]; exact hX o (by omega) (by omega) (by omega)
  · exact RA_same h.2.2.2.1 (by rw [zo_n (by decide)]; exact hX 4 (by decide) (by decide) (by decide)) (by rw [zo_n (by decide)]; exact hX 10 (by decide) (by decide) (by decide)) (fun o a b => by rw [zo_n (by omega)]; exact hX o (by omega) (by omega) (by omega)) (by rw [e31]; exact m5) (by rw [e31]; exact m4)
theorem CX.rf (σ : zS) : CX σ σ := fun _ _ _ _ => rfl
theorem REL.u {σ : zS} (h : REL σ) : 0 ≤ (σ 31).1 5 ∧ (σ 31).1 5 ≤ 8 := by
  rw [h.2.2.2.1.2.1]
  exact h.2.2.2.1.1.2
theorem J_place {σ : zS} {t d k : Int} (h : REL σ) (ht : zin t) (hd : zin d) (hk : zin k) : J3 M_X7_place 6 [zR 0, zI t, zI d, zI k] M_X8_place 7 [zR 31, zI t, zI d, zI k] σ := by
  obtain ⟨T, hT, e1, hC⟩ := h.2.2.1
  refine zC_mono (c_place hT hC h.2.2.2.1.1 ht hd hk) (fun r τ q => ?_)
  obtain ⟨rfl, q2⟩ := q
  refine ⟨_, rfl, ?_⟩
  have t31 : τ 31 = σ 31 := by
    split at q2
    · exact q2.2.2 31 (by omega)
    · rw [q2]
  have hm := m8_place (σ := τ) (m := τ 31) hT (by rw [t31]; exact e1) (by rw [t31]; exact h.u) ht hd hk
  rw [zo_self, t31] at hm
  refine zC_mono hm (fun r2 τ2 q' => ?_)
  obtain ⟨rfl, m', rfl, hMP, q3⟩ := q'
  refine ⟨rfl, ?_⟩
  by_cases z : mvT T t d k = 0
  · rw [if_pos z] at q2 q3
    have hc := mvC_0 z
    exact R_push h hT hC e1 q2.1 q2.2.1 q2.2.2 hMP q3.1 q3.2 (OKT_mv hT hc) (fun i hi => a_mv_o hT.1 hT.2.1 (hc.mvh _ hT.2.2) (Or.inr hi))
  · rw [if_neg z] at q2 q3
    rw [q2]
    exact R_same h hT hC e1 (CX.rf σ) hMP q3.1 q3.2.1 q3.2.2
theorem J_swap {σ : zS} {t u : Int} (h : REL σ) (ht : zin t) (hu : zin u) : J3 M_X7_swap 6 [zR 0, zI t, zI u] M_X8_swap 7 [zR 31, zI t, zI u] σ := by
  obtain ⟨T, hT, e1, hC⟩ := h.2.2.1
  refine zC_mono (c_swap hT hC h.2.2.2.1.1 ht hu) (fun r τ q => ?_)
  obtain ⟨rfl, q2⟩ := q
  refine ⟨_, rfl, ?_⟩
  have t31 : τ 31 = σ 31 := by
    split at q2
    · exact q2.2.2 31 (by omega)
    · rw [q2]
  have hm := m8_swap (σ := τ) (m := τ 31) hT (by rw [t31]; exact e1) (by rw [t31]; exact h.u) ht hu
  rw [zo_self, t31] at hm
  refine zC_mono hm (fun r2 τ2 q' => ?_)
  obtain ⟨rfl, m', rfl, hMP, q3⟩ := q'
  refine ⟨rfl, ?_⟩
  by_cases z : swT T t u = 0
  · rw [if_pos z] at q2 q3
    have hc := swC_0 z
    exact R_push h hT hC e1 q2.1 q2.2.1 q2.2.2 hMP q3.1 q3.2 (OKT_sw hT hc) (fun i hi => a_sw_o hT.1 hT.2.1 hc (Or.inr hi))
  · rw [if_neg z] at q2 q3
    rw [q2]
    exact R_same h hT hC e1 (CX.rf σ) hMP q3.1 q3.2.1 q3.2.2
theorem J_late {σ : zS} {t b : Int} (h : REL σ) (ht : zin t) (hb : zin b) : J3 M_X7_late 6 [zR 0, zI t, zI b] M_X8_late 7 [zR 31, zI t, zI b] σ := by
  obtain ⟨T, hT, e1, hC⟩ := h.2.2.1
  refine zC_mono (c_late hT hC h.2.2.2.1.1 ht hb) (fun r τ q => ?_)
  obtain ⟨rfl, q2⟩ := q
  refine ⟨_, rfl, ?_⟩
  have t31 : τ 31 = σ 31 := by
    split at q2
    · exact q2.2.2 31 (by omega)
    · rw [q2]
  have hm := m8_late (σ := τ) (m := τ 31) hT (by rw [t31]; exact e1) (by rw [t31]; exact h.u) ht hb
  rw [zo_self, t31] at hm
  refine zC_mono hm (fun r2 τ2 q' => ?_)
  obtain ⟨rfl, m', rfl, hMP, q3⟩ := q'
  refine ⟨rfl, ?_⟩
  by_cases z : ltK T t b = 0
  · rw [if_pos z] at q2 q3
    have hc := (ltK_0 z).1
    have h8 := hT.1.2.1
    exact R_push h hT hC e1 q2.1 q2.2.1 q2.2.2 hMP q3.1 q3.2 (OKT_lt hT hc) (fun i hi => zup_n _ _ (by have := hc.1; omega))
  · rw [if_neg z] at q2 q3
    rw [q2]
    exact R_same h hT hC e1 (CX.rf σ) hMP q3.1 q3.2.1 q3.2.2
theorem J_now {σ : zS} {v : Int} (h : REL σ) (hv : zin v) : J3 M_X7_now 3 [zR 0, zI v] M_X8_now 2 [zR 31, zI v] σ := by
  obtain ⟨T, hT, e1, hC⟩ := h.2.2.1
  refine zC_mono (c_now hT hC h.2.2.2.1.1 hv) (fun r τ q => ?_)
  obtain ⟨rfl, q2⟩ := q
  refine ⟨_, rfl, ?_⟩
  have t31 : τ 31 = σ 31 := by
    split at q2
    · exact q2.2.2 31 (by omega)
    · rw [q2]
  have hm := m8_now (σ := τ) (m := τ 31) hT (by rw [t31]; exact e1) (by rw [t31]; exact h.u) hv
  rw [zo_self, t31] at hm
  refine zC_mono hm (fun r2 τ2 q' => ?_)
  obtain ⟨rfl, m', rfl, hMP, q3⟩ := q'
  refine ⟨rfl, ?_⟩
  by_cases z : nwK T v = true
  · rw [if_pos z] at q2 q3
    have hc := of_decide_eq_true z
    have h4 := hT.1.2.2.2.2.1
    exact R_push h hT hC e1 q2.1 q2.2.1 q2.2.2 hMP q3.1 q3.2 (OKT_up hT (Or.inr rfl) ⟨by omega, fun w => absurd w (by decide), fun _ => hc.2⟩) (fun i hi => zup_n _ _ (by omega))
  · rw [if_neg z] at q2 q3
    rw [q2]
    exact R_same h hT hC e1 (CX.rf σ) hMP q3.1 q3.2.1 q3.2.2
theorem J_step {σ : zS} (h : REL σ) : J3 M_X7_step 8 [zR 0] M_X8_step 8 [zR 31] σ := by
  obtain ⟨T, hT, e1, hC⟩ := h.2.2.1
  refine zC_mono (c_step hT hC h.2.2.2.1.1) (fun r τ q => ?_)
  obtain ⟨rfl, q2⟩ := q
  refine ⟨_, rfl, ?_⟩
  have t31 : τ 31 = σ 31 := by
    split at q2
    · exact q2.2.2 31 (by omega)
    · exact q2 31 (by decide) (by decide) (by decide)
  have hm := m8_step (σ := τ) (m := τ 31) hT (by rw [t31]; exact e1) (by rw [t31]; exact h.u)
  rw [zo_self, t31] at hm
  refine zC_mono hm (fun r2 τ2 q' => ?_)
  obtain ⟨rfl, m', rfl, hMP, q3⟩ := q'
  refine ⟨rfl, ?_⟩
  by_cases z : (srch T).1 < rc T.2.2
  · rw [if_pos z] at q2 q3
    have hc := (GS_s hT).2 z
    exact R_push h hT hC e1 q2.1 q2.2.1 q2.2.2 hMP q3.1 q3.2 hc.1 (fun i hi => hc.2.1 i (Or.inr hi))
  · rw [if_neg z] at q2 q3
    exact R_same h hT hC e1 q2 hMP q3.1 q3.2.1 q3.2.2
theorem J_repair {σ : zS} (h : REL σ) : J3 M_X7_repair 8 [zR 0] M_X8_repair 8 [zR 31] σ := by
  obtain ⟨T, hT, e1, hC⟩ := h.2.2.1
  refine zC_mono (c_repair hT hC h.2.2.2.1.1) (fun r τ q => ?_)
  obtain ⟨rfl, q2⟩ := q
  refine ⟨_, rfl, ?_⟩
  have t31 : τ 31 = σ 31 := by
    split at q2
    · exact q2 31 (by decide) (by decide) (by decide)
    · exact q2.2.2 31 (by omega)
  have hm := m8_repair (σ := τ) (m := τ 31) hT (by rw [t31]; exact e1) (by rw [t31]; exact h.u)
  rw [zo_self, t31] at hm
  refine zC_mono hm (fun r2 τ2 q' => ?_)
  obtain ⟨rfl, m', rfl, hMP, q4, q3⟩ := q'
  refine ⟨rfl, ?_⟩
  have hr := rpL_ok 6 0 T hT (by omega) (by omega)
  by_cases z : (rep T).1 = 0
  · rw [if_pos z] at q2 q3
    have : (rep T).2 = T := hr.2.2.2.2 z
    rw [this] at q4
    exact R_same h hT hC e1 q2 hMP q4 q3.1 q3.2
  · rw [if_neg z] at q2 q3
    exact R_push h hT hC e1 q2.1 q2.2.1 q2.2.2 hMP q4 q3 hr.1 (fun i hi => hr.2.1 i (Or.inr hi))
