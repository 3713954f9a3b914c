/-! What depends on the first 119 places of a table only. -/
theorem A119.sy {a b : Int → Int} (h : A119 a b) : A119 b a := fun i h0 h1 => (h i h0 h1).symm
theorem a_load_9 {a b : Int → Int} (e : A119 a b) {t : Int} (t0 : 0 ≤ t) (ht : t < 8) : a_load b t = a_load a t := by
  unfold a_load
  rw [e _ (by omega) (by omega), e _ (by omega) (by omega), e _ (by omega) (by omega), e _ (by omega) (by omega)]
theorem a_fs_9 {a b : Int → Int} (e : A119 a b) {t : Int} (ht : t ≤ 8) : a_fs b t = a_fs a t := zfor_congr (fun i c g0 g1 => by rw [e _ (by omega) (by omega), a_load_9 e (by omega) (by omega)])
theorem a_pl_9 {a b : Int → Int} (e : A119 a b) {t d : Int} (t0 : 0 ≤ t) (ht : t < 8) (hd : d ≤ 4) : a_pl b t d = a_pl a t d := zfor_congr (fun i c g0 g1 => by rw [e _ (by omega) (by omega)])
theorem WFa_9 {a b : Int → Int} (h : WFa a) (e : A119 a b) : WFa b := by
  obtain ⟨h0, h1, h2, h3, h4, h5, h7, h9⟩ := h
  unfold WFa
  rw [e 0 (by omega) (by omega), e 1 (by omega) (by omega), e 2 (by omega) (by omega), e 3 (by omega) (by omega), e 4 (by omega) (by omega)]
  refine ⟨h0, h1, h2, h3, h4, fun d g0 g1 => ?_, fun t g0 g1 => ?_, by rw [a_fs_9 e (by omega)]; exact h9⟩
  · rw [e _ (by omega) (by omega), e _ (by omega) (by omega)]
    exact h5 d g0 g1
  · rw [a_load_9 e g0 (by omega), e (17 + 6 * t + 0) (by omega) (by omega), e (17 + 6 * t + 1) (by omega) (by omega), e (17 + 6 * t + 2) (by omega) (by omega), e (17 + 6 * t + 3) (by omega) (by omega), e (17 + 6 * t + 4) (by omega) (by omega), e (17 + 6 * t + 5) (by omega) (by omega)]
    exact h7 t g0 g1
theorem POS_9 {P0 P1 a b : Int → Int} (hwa : WFa a) (h : POS P0 P1 a) (e : A119 a b) : POS P0 P1 b := by
  have h6 := hwa.1
  have h8 := hwa.2.1
  have e0 := e 0 (by omega) (by omega)
  have e1 := e 1 (by omega) (by omega)
  refine ⟨fun d g0 g1 => ?_, fun d j g0 g1 g2 g3 => ?_, fun t g0 g1 => ?_⟩
  · rw [e0] at g1
    rw [e _ (by omega) (by omega)]
    exact h.1 d g0 g1
  · rw [e0] at g1
    rw [e _ (by omega) (by omega)] at g3
    have hr := h.1 d g0 g1
    have := h.2.1 d j g0 g1 g2 g3
    rw [e _ (by omega) (by omega), e1, e (17 + 6 * a (71 + 8 * d + j) + 0) (by omega) (by omega), e (5 + 2 * d) (by omega) (by omega)]
    exact this
  · rcases h.2.2 t g0 g1 with z | ⟨z0, z1, z2, z3⟩
    · exact Or.inl z
    · have hr := h.1 _ z1.1 z1.2
      right
      rw [e0, e1, e _ (by omega) (by omega), e (71 + 8 * P0 t + P1 t) (by omega) (by omega)]
      exact ⟨z0, z1, z2, z3⟩
theorem WFi_9 {P0 a b : Int → Int} (hwa : WFa a) (h : WFi P0 a) (e : A119 a b) : WFi P0 b := by
  have h6 := hwa.1
  have h8 := hwa.2.1
  intro t d t0 t1 d0 d1 hk
  rw [e _ (by omega) (by omega)] at t1
  rw [e _ (by omega) (by omega)] at d1
  rw [e _ (by omega) (by omega), e _ (by omega) (by omega)] at hk
  exact h t d t0 t1 d0 d1 hk
theorem OKT_9 {P0 P1 a b : Int → Int} (h : OKT (P0, P1, a)) (e : A119 a b) : OKT (P0, P1, b) := ⟨WFa_9 h.1 e, POS_9 h.1 h.2.1 e, WFi_9 h.1 h.2.2 e⟩
theorem DKE_9 {dk : zOb} {a b : Int → Int} (hwa : WFa a) (e : A119 a b) (h : DKE dk a) : DKE dk b := by
  have h6 := hwa.1
  have h8 := hwa.2.1
  obtain ⟨d0, d1, d2, d4, d5, d6, d7⟩ := h
  unfold DKE
  rw [e 0 (by omega) (by omega), e 1 (by omega) (by omega), e 3 (by omega) (by omega), a_fs_9 e (by omega)]
  refine ⟨d0, d1, d2, d4, fun d g0 g1 => ?_, fun t g0 g1 => ?_, fun c g0 g1 => ?_⟩
  · rw [e _ (by omega) (by omega), e _ (by omega) (by omega)]
    exact d5 d g0 g1
  · rw [a_load_9 e g0 (by omega), a_fs_9 e (by omega), e (17 + 6 * t + 0) (by omega) (by omega), e (17 + 6 * t + 2) (by omega) (by omega), e (17 + 6 * t + 3) (by omega) (by omega), e (17 + 6 * t + 4) (by omega) (by omega), e (17 + 6 * t + 5) (by omega) (by omega)]
    exact d6 t g0 g1
  · obtain ⟨x1, x2, x3, x4, x5⟩ := d7 c g0 g1
    rw [a_fs_9 e (by omega), a_pl_9 e (by omega) (by omega) (by omega), e _ (by omega) (by omega), e (17 + 6 * dk.2 14 c + (2 + dk.2 15 c)) (by omega) (by omega)]
    exact ⟨x1, x2, x3, x4, x5⟩
theorem PLX_9 {pl : zOb} {P0 P1 a b : Int → Int} (hwa : WFa a) (e : A119 a b) (h : PLX pl (P0, P1, a)) : PLX pl (P0, P1, b) := by
  have h8 := hwa.2.1
  refine ⟨h.1, h.2.1, fun t g0 g1 => ?_, ?_⟩
  · have g1 : t < b 1 := g1
    rw [e _ (by omega) (by omega)] at g1
    show pl.2 2 t = b (17 + 6 * t + 1)
    rw [e _ (by omega) (by omega)]
    exact h.2.2.1 t g0 g1
  · show pl.1 3 = b 4
    rw [e _ (by omega) (by omega)]
    exact h.2.2.2
theorem cost_9 {m : zOb} {b : Int → Int} (hS : SI m) (e : AR4 (m.2 1) b) : s_cost (osA m 1 b) = s_cost m ∧ s_lc (osA m 1 b) = s_lc m := by
  have h8 := hS.1.2.1
  have : s_lc (osA m 1 b) = s_lc m := by
    unfold s_lc
    rw [show (osA m 1 b).2 1 1 = m.2 1 1 from e 1 (by omega) (by omega) (by omega)]
    refine zfor_congr (fun t s g0 g1 => ?_)
    have l : s_late (osA m 1 b) t = s_late m t := by
      unfold s_late
      rw [show (osA m 1 b).2 1 (17 + 6 * t + 0) = m.2 1 (17 + 6 * t + 0) from e _ (by omega) (by omega) (by omega), show (osA m 1 b).2 1 (17 + 6 * t + 3) = m.2 1 (17 + 6 * t + 3) from e _ (by omega) (by omega) (by omega), show (osA m 1 b).2 28 = m.2 28 from rfl]
    rw [l, show (osA m 1 b).2 1 (17 + 6 * t + 0) = m.2 1 (17 + 6 * t + 0) from e _ (by omega) (by omega) (by omega), show (osA m 1 b).2 1 (17 + 6 * t + 5) = m.2 1 (17 + 6 * t + 5) from e _ (by omega) (by omega) (by omega)]
  refine ⟨?_, this⟩
  unfold s_cost
  rw [this]
  rfl
theorem RES_4 {Y : zOb} {a b : Int → Int} (hwa : WFa a) (hwr : WFr a) (e : AR4 a b) (h : RES Y (ra a)) : RES Y (ra b) := by
  obtain ⟨k1, k2, k3, k4⟩ := run_ok (m := ob a) hwa hwr
  have k1 : SI (ra a) := k1
  have k2 : DI (-1) (ra a) := k2
  have k3 : (ra a).2 1 = a := k3
  have h6 := hwa.1
  have h8 := hwa.2.1
  rw [ra_x hwa hwr e]
  have e' : AR4 ((ra a).2 1) b := by rw [k3]; exact e
  obtain ⟨r1, r2, r3⟩ := h
  refine ⟨fun t g0 g1 => ?_, fun c g0 g1 => ?_, ?_⟩
  · refine r1 t g0 ?_
    have g1 : t < b 1 := g1
    rw [k3, ← e 1 (by omega) (by omega) (by omega)]; exact g1
  · obtain ⟨c1, c2, c3, c4, c5⟩ := r2 c g0 g1
    refine ⟨c1, c2, c3, c4, fun z => ?_⟩
    rw [c5 z]
    have hct := (k1.2.2.2.2.1 c g0 g1).1
    have hdo := k1.2.2.2.2.2.2 ((ra a).2 21 c) hct.1 hct.2
    have hne := (k2.2.2.2.2.2.2.1 c g0 g1).2.2.1 z
    rw [k3] at hdo
    show (ra a).2 1 (5 + 2 * (ra a).2 30 ((ra a).2 21 c) + 1) = b (5 + 2 * (ra a).2 30 ((ra a).2 21 c) + 1)
    rw [k3]
    exact (e _ (by omega) (by omega) (by omega)).symm
  · rw [r3, (cost_9 k1 e').1]
theorem RES_9 {Y : zOb} {a b : Int → Int} (hwa : WFa a) (hwr : WFr a) (e : A119 a b) (h : RES Y (ra a)) : RES Y (ra b) := RES_4 hwa hwr e.r4 h
theorem CS_9 {P0 P1 a b : Int → Int} {σ : zS} (hT : OKT (P0, P1, a)) (e : A119 a b) (h : CS (P0, P1, a) σ) : CS (P0, P1, b) σ :=
  ⟨DKE_9 hT.1 e h.1, h.2.1.trans (e 2 (by omega) (by omega)).symm, PLX_9 hT.1 e h.2.2.1, RES_9 hT.1 hT.2.1.wfr e h.2.2.2⟩
