/-! The first plan: tables. -/
def fwf (a : Int → Int) (kd d b : Int) : Int := if a (5 + 2 * d) = kd ∧ (b = -1 ∨ a (65 + d) < a (65 + b)) then d else b
def fw (a : Int → Int) (kd : Int) : Int := zfor (fwf a kd) (a 0) (-1)
theorem fw_at (a : Int → Int) (kd : Int) {n : Int} (hn : 0 ≤ n) : (zfor (fwf a kd) n (-1) = -1 ∧ ∀ d, 0 ≤ d → d < n → a (5 + 2 * d) ≠ kd) ∨ (0 ≤ zfor (fwf a kd) n (-1) ∧ zfor (fwf a kd) n (-1) < n ∧ a (5 + 2 * zfor (fwf a kd) n (-1)) = kd) := by
  refine zfor_ind (f := fwf a kd) (a := (-1 : Int)) (fun k b => (b = -1 ∧ ∀ d, 0 ≤ d → d < k → a (5 + 2 * d) ≠ kd) ∨ (0 ≤ b ∧ b < k ∧ a (5 + 2 * b) = kd)) (n := n) (Or.inl ⟨rfl, fun d h0 h1 => by omega⟩) (fun i b h1 h2 h3 => ?_) n hn (Int.le_refl n)
  unfold fwf
  by_cases y : a (5 + 2 * i) = kd ∧ (b = -1 ∨ a (65 + i) < a (65 + b))
  · rw [if_pos y]
    exact Or.inr ⟨h1, by omega, y.1⟩
  · rw [if_neg y]
    rcases h3 with ⟨z1, z2⟩ | ⟨z1, z2, z3⟩
    · refine Or.inl ⟨z1, fun d g0 g1 => ?_⟩
      by_cases e : d = i
      · rw [e]; exact fun z => y ⟨z, Or.inl z1⟩
      · exact z2 d g0 (by omega)
    · exact Or.inr ⟨z1, by omega, z3⟩
theorem fw_spec {a : Int → Int} (h0 : 0 ≤ a 0) (kd : Int) : (fw a kd = -1 ∧ ∀ d, 0 ≤ d → d < a 0 → a (5 + 2 * d) ≠ kd) ∨ (0 ≤ fw a kd ∧ fw a kd < a 0 ∧ a (5 + 2 * fw a kd) = kd) := fw_at a kd h0
def a_ap (a : Int → Int) (t d : Int) : Int → Int := zup (zup a (71 + 8 * d + a (65 + d)) t) (65 + d) (a (65 + d) + 1)
def t_ap (T : T3) (t d : Int) : T3 := (zup T.1 t d, zup T.2.1 t (T.2.2 (65 + d)), a_ap T.2.2 t d)
theorem a_ap_eq {a : Int → Int} {t d : Int} (d0 : 0 ≤ d) (d1 : d < 6) (r0 : 0 ≤ a (65 + d)) : a_put a t d (a (65 + d)) = a_ap a t d := by
  funext i
  unfold a_put a_ap zup
  by_cases y : i = 65 + d
  · rw [if_pos y, if_pos y, y]
  · rw [if_neg y, if_neg y]
    by_cases y2 : i = 71 + 8 * d + a (65 + d)
    · rw [if_pos y2, if_pos y2]
    · rw [if_neg y2, if_neg y2, if_neg (by omega)]
theorem POS_ap {P0 P1 a : Int → Int} (hwa : WFa a) (h : POS P0 P1 a) {t d : Int} (t0 : 0 ≤ t) (t1 : t < a 1) (hp : P0 t = -1) (d0 : 0 ≤ d) (d1 : d < a 0) (hk : a (17 + 6 * t + 0) = a (5 + 2 * d)) : POS (zup P0 t d) (zup P1 t (a (65 + d))) (a_ap a t d) := by
  have h6 := hwa.1
  have hr := h.1 d d0 d1
  have hroom := h.room hwa t0 t1 d0 d1 (by omega)
  have hx : POSx t P0 P1 a := ⟨h.1, h.2.1, hp, fun u _ u0 u1 => h.2.2 u u0 u1⟩
  have := POS_put hwa hx t0 t1 d0 d1 hr.1 (Int.le_refl _) hroom hk
  have e : p_r2 P0 P1 d (a (65 + d)) = P1 := by
    funext o
    unfold p_r2
    rw [if_neg (by
      rintro ⟨⟨o0, o1⟩, z1, z2⟩
      rcases h.2.2 o o0 o1 with w | ⟨w0, w1, w2, w3⟩
      · omega
      · rw [z1] at w2; omega)]
  rw [e, a_ap_eq d0 (by omega) hr.1] at this
  exact this
def fp1 (mi t : Int) (T : T3) : T3 := if T.2.2 (17 + 6 * t + 1) = mi ∧ fw T.2.2 (T.2.2 (17 + 6 * t + 0)) ≠ -1 then t_ap T t (fw T.2.2 (T.2.2 (17 + 6 * t + 0))) else T
def fp2 (mi : Int) (T : T3) : T3 := zfor (fp1 mi) (T.2.2 1) T
def fpl (T : T3) : T3 := zfor fp2 100 T
/-- before the truck t of the minute mi is looked at -/
def FPI (a0 : Int → Int) (mi t : Int) (T : T3) : Prop := WFa T.2.2 ∧ POS T.1 T.2.1 T.2.2 ∧ RWS a0 T.2.2 ∧
  (∀ u, 0 ≤ u → u < T.2.2 1 → (T.2.2 (17 + 6 * u + 1) < mi ∨ (T.2.2 (17 + 6 * u + 1) = mi ∧ u < t)) → ∀ d, 0 ≤ d → d < T.2.2 0 → T.2.2 (17 + 6 * u + 0) = T.2.2 (5 + 2 * d) → T.1 u ≠ -1) ∧
  (∀ u, 0 ≤ u → u < T.2.2 1 → ¬ (T.2.2 (17 + 6 * u + 1) < mi ∨ (T.2.2 (17 + 6 * u + 1) = mi ∧ u < t)) → T.1 u = -1)
theorem FPI_1 {a0 : Int → Int} {mi t : Int} {T : T3} (h : FPI a0 mi t T) (t0 : 0 ≤ t) (t1 : t < T.2.2 1) : FPI a0 mi (t + 1) (fp1 mi t T) ∧ (fp1 mi t T).2.2 1 = T.2.2 1 := by
  obtain ⟨hwa, hP, hR, h1, h2⟩ := h
  have h6 := hwa.1
  have h8 := hwa.2.1
  unfold fp1
  by_cases y : T.2.2 (17 + 6 * t + 1) = mi ∧ fw T.2.2 (T.2.2 (17 + 6 * t + 0)) ≠ -1
  · rw [if_pos y]
    rcases fw_spec h6.1 (T.2.2 (17 + 6 * t + 0)) with ⟨z, -⟩ | ⟨d0, d1, hk⟩
    · exact absurd z y.2
    · generalize fw T.2.2 (T.2.2 (17 + 6 * t + 0)) = d at d0 d1 hk
      have hr := hP.1 d d0 d1
      have hp := h2 t t0 t1 (by omega)
      have hroom := hP.room hwa t0 t1 d0 d1 (by omega)
      have es : ∀ i, (i < 65 ∨ 119 ≤ i) → a_ap T.2.2 t d i = T.2.2 i := fun i hi => by unfold a_ap; rw [zup_n _ _ (by omega), zup_n _ _ (by omega)]
      have es' : ∀ i, i < 65 → (t_ap T t d).2.2 i = T.2.2 i := fun i hi => es i (Or.inl hi)
      refine ⟨⟨WFa_ext hwa es', POS_ap hwa hP t0 t1 hp d0 d1 hk.symm, fun i hi => (es i hi).trans (hR i hi), fun u u0 u1 hu e e0 e1 ek => ?_, fun u u0 u1 hu => ?_⟩, es' 1 (by omega)⟩
      · rw [es' 1 (by omega)] at u1
        rw [es' 0 (by omega)] at e1
        rw [es' _ (by omega)] at hu
        rw [es' _ (by omega), es' _ (by omega)] at ek
        show zup T.1 t d u ≠ -1
        by_cases eu : u = t
        · rw [eu, zup_s]; omega
        · rw [zup_n _ _ eu]; exact h1 u u0 u1 (by omega) e e0 e1 ek
      · rw [es' 1 (by omega)] at u1
        rw [es' _ (by omega)] at hu
        show zup T.1 t d u = -1
        have eu : u ≠ t := fun e => by rw [e] at hu; omega
        rw [zup_n _ _ eu]; exact h2 u u0 u1 (by omega)
  · rw [if_neg y]
    refine ⟨⟨hwa, hP, hR, fun u u0 u1 hu d d0 d1 ek => ?_, fun u u0 u1 hu => h2 u u0 u1 (by omega)⟩, rfl⟩
    by_cases eu : u = t ∧ T.2.2 (17 + 6 * t + 1) = mi
    · exfalso
      rw [eu.1] at ek
      rcases fw_spec h6.1 (T.2.2 (17 + 6 * t + 0)) with ⟨z, zn⟩ | ⟨z0, z1, z2⟩
      · exact zn d d0 d1 ek.symm
      · exact y ⟨eu.2, by omega⟩
    · refine h1 u u0 u1 ?_ d d0 d1 ek
      rcases hu with w | ⟨w1, w2⟩
      · exact Or.inl w
      · right
        refine ⟨w1, ?_⟩
        by_cases e : u = t
        · exfalso; rw [e] at w1; exact eu ⟨e, w1⟩
        · omega
theorem FPI_2 {a0 : Int → Int} {mi : Int} {T : T3} (h : FPI a0 mi 0 T) : FPI a0 (mi + 1) 0 (fp2 mi T) := by
  have h8 := h.1.2.1
  have key : ∀ n, 0 ≤ n → n ≤ T.2.2 1 → FPI a0 mi n (zfor (fp1 mi) n T) ∧ (zfor (fp1 mi) n T).2.2 1 = T.2.2 1 := fun n n0 n1 =>
    zfor_ind (f := fp1 mi) (a := T) (fun k U => FPI a0 mi k U ∧ U.2.2 1 = T.2.2 1) (n := T.2.2 1) ⟨h, rfl⟩ (fun i U i0 i1 hU => by
      obtain ⟨g1, g2⟩ := FPI_1 hU.1 i0 (by rw [hU.2]; exact i1)
      exact ⟨g1, g2.trans hU.2⟩) n n0 n1
  obtain ⟨⟨k1, k2, k3, k4, k5⟩, ke⟩ := key _ h8.1 (Int.le_refl _)
  unfold fp2
  refine ⟨k1, k2, k3, fun u u0 u1 hu d d0 d1 ek => k4 u u0 u1 (by omega) d d0 d1 ek, fun u u0 u1 hu => k5 u u0 u1 (by omega)⟩
theorem fpl_ok {a0 : Int → Int} {T : T3} (h : FPI a0 0 0 T) : OKT (fpl T) ∧ RWS a0 (fpl T).2.2 := by
  have key := zfor_ind (f := fp2) (a := T) (fun k U => FPI a0 k 0 U) (n := 100) h (fun i U _ _ hU => FPI_2 hU) 100 (by omega) (Int.le_refl _)
  unfold fpl
  generalize zfor fp2 100 T = U at key ⊢
  obtain ⟨k1, k2, k3, k4, k5⟩ := key
  refine ⟨⟨k1, k2, fun t d t0 t1 d0 d1 hk => k4 t t0 t1 (Or.inl ?_) d d0 d1 hk⟩, k3⟩
  have := (k1.2.2.2.2.2.2.1 t t0 t1).2.1
  omega
