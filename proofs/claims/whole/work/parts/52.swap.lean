/-! Swaps; what is fixed stands ahead; what a run leaves alone. -/
def SWH (P0 a : Int → Int) (t u : Int) : Prop := (0 ≤ t ∧ t < a 1) ∧ (0 ≤ u ∧ u < a 1) ∧ t ≠ u ∧ a (17 + 6 * t + 0) = a (17 + 6 * u + 0) ∧ P0 t ≠ -1 ∧ P0 u ≠ -1
theorem SWH.ne {P0 P1 a : Int → Int} (hwa : WFa a) (h : POS P0 P1 a) {t u : Int} (hm : SWH P0 a t u) : 71 + 8 * P0 t + P1 t ≠ 71 + 8 * P0 u + P1 u := by
  obtain ⟨⟨t0, t1⟩, ⟨u0, u1⟩, hne, hk, ht, hu⟩ := hm
  obtain ⟨p1, p2, p3, p4⟩ := h.at hwa t0 t1 ht
  obtain ⟨q1, q2, q3, q4⟩ := h.at hwa u0 u1 hu
  intro z
  rw [z] at p3
  omega
theorem a_sw_s {P0 P1 a : Int → Int} (hwa : WFa a) (h : POS P0 P1 a) {t u : Int} (hm : SWH P0 a t u) {i : Int} (hi : i < 71) : a_sw P0 P1 a t u i = a i := by
  obtain ⟨⟨t0, t1⟩, ⟨u0, u1⟩, hne, hk, ht, hu⟩ := hm
  obtain ⟨p1, p2, p3, p4⟩ := h.at hwa t0 t1 ht
  obtain ⟨q1, q2, q3, q4⟩ := h.at hwa u0 u1 hu
  unfold a_sw
  rw [zup_n _ _ (by omega), zup_n _ _ (by omega)]
/-- a place in a row after a swap -/
theorem a_sw_71 {P0 P1 a : Int → Int} (hwa : WFa a) (h : POS P0 P1 a) {t u : Int} (hm : SWH P0 a t u) {e j : Int} (g0 : 0 ≤ e) (g1 : e < a 0) (g2 : 0 ≤ j) (g3 : j < a (65 + e)) : a_sw P0 P1 a t u (71 + 8 * e + j) = if e = P0 u ∧ j = P1 u then t else if e = P0 t ∧ j = P1 t then u else a (71 + 8 * e + j) := by
  obtain ⟨⟨t0, t1⟩, ⟨u0, u1⟩, hne, hk, ht, hu⟩ := hm
  obtain ⟨p1, p2, p3, p4⟩ := h.at hwa t0 t1 ht
  obtain ⟨q1, q2, q3, q4⟩ := h.at hwa u0 u1 hu
  have r1 := h.1 _ p1.1 p1.2
  have r2 := h.1 _ q1.1 q1.2
  have r3 := h.1 _ g0 g1
  unfold a_sw zup
  by_cases y : e = P0 u ∧ j = P1 u
  · rw [if_pos (by omega), if_pos y]
  · rw [if_neg (by omega), if_neg y]
    by_cases y2 : e = P0 t ∧ j = P1 t
    · rw [if_pos (by omega), if_pos y2]
    · rw [if_neg (by omega), if_neg y2]
def x_sw (P : Int → Int) (t u : Int) : Int → Int := zup (zup P t (P u)) u (P t)
theorem POS_sw {P0 P1 a : Int → Int} (hwa : WFa a) (h : POS P0 P1 a) {t u : Int} (hm : SWH P0 a t u) : POS (x_sw P0 t u) (x_sw P1 t u) (a_sw P0 P1 a t u) := by
  have es := fun i hi => a_sw_s hwa h hm (i := i) hi
  have e71 := fun e j g0 g1 g2 g3 => a_sw_71 hwa h hm (e := e) (j := j) g0 g1 g2 g3
  obtain ⟨⟨t0, t1⟩, ⟨u0, u1⟩, hne, hk, ht, hu⟩ := id hm
  obtain ⟨p1, p2, p3, p4⟩ := h.at hwa t0 t1 ht
  obtain ⟨q1, q2, q3, q4⟩ := h.at hwa u0 u1 hu
  have h8 := hwa.2.1
  have h6 := hwa.1
  refine ⟨fun e g0 g1 => ?_, fun e j g0 g1 g2 g3 => ?_, fun o g0 g1 => ?_⟩
  · rw [es 0 (by omega)] at g1
    rw [es _ (by omega)]
    exact h.1 e g0 g1
  · rw [es 0 (by omega)] at g1
    rw [es _ (by omega)] at g3
    rw [e71 e j g0 g1 g2 g3, es 1 (by omega), es (5 + 2 * e) (by omega)]
    by_cases y : e = P0 u ∧ j = P1 u
    · rw [if_pos y, es _ (by omega)]
      unfold x_sw
      rw [zup_n _ _ hne, zup_s, zup_n _ _ hne, zup_s, y.1, y.2]
      exact ⟨⟨t0, t1⟩, by rw [hk, q4], rfl, rfl⟩
    · rw [if_neg y]
      by_cases y2 : e = P0 t ∧ j = P1 t
      · rw [if_pos y2, es _ (by omega)]
        unfold x_sw
        rw [zup_s, zup_s, y2.1, y2.2]
        exact ⟨⟨u0, u1⟩, by rw [← hk, p4], rfl, rfl⟩
      · rw [if_neg y2]
        obtain ⟨r1, r2, r3, r4⟩ := h.2.1 e j g0 g1 g2 g3
        have n1 : a (71 + 8 * e + j) ≠ t := fun z => by rw [z] at r3 r4; exact y2 ⟨r3.symm, r4.symm⟩
        have n2 : a (71 + 8 * e + j) ≠ u := fun z => by rw [z] at r3 r4; exact y ⟨r3.symm, r4.symm⟩
        rw [es _ (by omega)]
        unfold x_sw
        rw [zup_n _ _ n2, zup_n _ _ n1, zup_n _ _ n2, zup_n _ _ n1]
        exact ⟨r1, r2, r3, r4⟩
  · by_cases yu : o = u
    · right
      subst yu
      unfold x_sw
      rw [zup_s, zup_s, es 1 (by omega), es 0 (by omega), es _ (by omega), e71 _ _ p1.1 p1.2 p2.1 p2.2, if_neg (fun z => SWH.ne hwa h hm (by rw [z.1, z.2])), if_pos ⟨rfl, rfl⟩]
      exact ⟨u1, p1, p2, rfl⟩
    · by_cases yt : o = t
      · right
        subst yt
        unfold x_sw
        rw [zup_n _ _ yu, zup_s, zup_n _ _ yu, zup_s, es 1 (by omega), es 0 (by omega), es _ (by omega), e71 _ _ q1.1 q1.2 q2.1 q2.2, if_pos ⟨rfl, rfl⟩]
        exact ⟨t1, q1, q2, rfl⟩
      · unfold x_sw
        rw [zup_n _ _ yu, zup_n _ _ yt, zup_n _ _ yu, zup_n _ _ yt]
        rcases h.2.2 o g0 g1 with z | ⟨z0, z1, z2, z3⟩
        · exact Or.inl z
        · right
          rw [es 1 (by omega), es 0 (by omega), es _ (by omega), e71 _ _ z1.1 z1.2 z2.1 z2.2, if_neg (by rintro ⟨w1, w2⟩; rw [w1, w2] at z3; exact yu (z3.symm.trans q3)), if_neg (by rintro ⟨w1, w2⟩; rw [w1, w2] at z3; exact yt (z3.symm.trans p3))]
          exact ⟨z0, z1, z2, z3⟩
theorem sw_cb {P0 P1 a κ F : Int → Int} (hwa : WFa a) (h : POS P0 P1 a) (hK : KPT a κ) (hF : ∀ e, 0 ≤ e → e < a 0 → 0 ≤ F e ∧ F e ≤ a (65 + e)) {t u : Int} (hm : SWH P0 a t u) : a_cb (a_sw P0 P1 a t u) F κ ↔ (F (P0 t) ≤ P1 t ∧ F (P0 u) ≤ P1 u) := by
  have es := fun i hi => a_sw_s hwa h hm (i := i) hi
  have e71 := fun e j g0 g1 g2 g3 => a_sw_71 hwa h hm (e := e) (j := j) g0 g1 g2 g3
  obtain ⟨⟨t0, t1⟩, ⟨u0, u1⟩, hne, hk, ht, hu⟩ := id hm
  obtain ⟨p1, p2, p3, p4⟩ := h.at hwa t0 t1 ht
  obtain ⟨q1, q2, q3, q4⟩ := h.at hwa u0 u1 hu
  have h6 := hwa.1
  have r1 := h.1 _ p1.1 p1.2
  have r2 := h.1 _ q1.1 q1.2
  constructor
  · intro hc
    refine ⟨?_, ?_⟩
    · rcases Int.lt_or_le (P1 t) (F (P0 t)) with w | w
      · exfalso
        have := (hc (P0 t) p1.1 (by rw [es 0 (by omega)]; exact p1.2)).2 (P1 t) p2.1 w
        rw [hK.at p1.1 (by omega) p2.1 (by omega), p3, e71 _ _ p1.1 p1.2 p2.1 p2.2, if_neg (fun z => SWH.ne hwa h hm (by rw [z.1, z.2])), if_pos ⟨rfl, rfl⟩] at this
        exact hne this.symm
      · exact w
    · rcases Int.lt_or_le (P1 u) (F (P0 u)) with w | w
      · exfalso
        have := (hc (P0 u) q1.1 (by rw [es 0 (by omega)]; exact q1.2)).2 (P1 u) q2.1 w
        rw [hK.at q1.1 (by omega) q2.1 (by omega), q3, e71 _ _ q1.1 q1.2 q2.1 q2.2, if_pos ⟨rfl, rfl⟩] at this
        exact hne this
      · exact w
  · rintro ⟨w1, w2⟩ e g0 g1
    rw [es 0 (by omega)] at g1
    have hFe := hF e g0 g1
    have hre := h.1 e g0 g1
    refine ⟨by rw [es _ (by omega)]; exact hFe.2, fun j g2 g3 => ?_⟩
    rw [hK.at g0 (by omega) g2 (by omega), e71 e j g0 g1 g2 (by omega), if_neg (by rintro ⟨z1, z2⟩; subst z1; omega), if_neg (by rintro ⟨z1, z2⟩; subst z1; omega)]
/-- fixed trucks -/
def fxd (D a : Int → Int) (t : Int) : Bool := decide (D t ≠ -1 ∧ D t < a 4)
def a_F (D a : Int → Int) (e : Int) : Int := zcnt (fun k => fxd D a (a (71 + 8 * e + k))) (a (65 + e))
theorem fx_pre {m : zOb} (hS : SI m) (hD : DI (-1) m) {e j : Int} (g0 : 0 ≤ e) (g1 : e < m.2 1 0) (g2 : 0 ≤ j) (g3 : j < m.2 1 (65 + e)) : fxd (m.2 27) (m.2 1) (m.2 1 (71 + 8 * e + j)) = true ↔ j < a_F (m.2 27) (m.2 1) e := by
  have hr := hS.2.1.1 e g0 g1
  refine zcnt_pre (p := fun k => fxd (m.2 27) (m.2 1) (m.2 1 (71 + 8 * e + k))) hr.1 (fun i k y0 y1 y2 y3 => ?_) j g2 g3
  have y4 := of_decide_eq_true y3
  have := hD.2.2.2.2.1 e i k g0 g1 y0 y1 y2 y4.1
  exact decide_eq_true (by omega)
theorem a_F_b {D a : Int → Int} {e : Int} (h : 0 ≤ a (65 + e)) : 0 ≤ a_F D a e ∧ a_F D a e ≤ a (65 + e) := zcnt_b _ h
/-- a truck is fixed if it is among the first of its row -/
theorem fx_at {P0 P1 : Int → Int} {m : zOb} (hS : SI m) (hD : DI (-1) m) (h : POS P0 P1 (m.2 1)) {t : Int} (t0 : 0 ≤ t) (t1 : t < m.2 1 1) (hp : P0 t ≠ -1) : fxd (m.2 27) (m.2 1) t = true ↔ P1 t < a_F (m.2 27) (m.2 1) (P0 t) := by
  obtain ⟨p1, p2, p3, p4⟩ := h.at hS.1 t0 t1 hp
  have := fx_pre hS hD p1.1 p1.2 p2.1 p2.2
  rwa [p3] at this
/-! what a run leaves alone -/
def FR (m m' : zOb) : Prop := ∀ j, (j ≤ 19 ∨ 40 ≤ j) → m'.1 j = m.1 j ∧ m'.2 j = m.2 j
theorem FR.rf (m : zOb) : FR m m := fun _ _ => ⟨rfl, rfl⟩
theorem FR.tr {m m' m'' : zOb} (h : FR m m') (g : FR m' m'') : FR m m'' := fun j hj => ⟨(g j hj).1.trans (h j hj).1, (g j hj).2.trans (h j hj).2⟩
theorem FR.a {m m' : zOb} (h : FR m m') {j : Nat} (n v : Int) (hj : 19 < j ∧ j < 40) : FR m (osa m' j n v) := fun i hi => by
  refine ⟨(h i hi).1, ?_⟩
  rw [osa_2, if_neg (by omega)]
  exact (h i hi).2
theorem FR.s {m m' : zOb} (h : FR m m') {j : Nat} (v : Int) (hj : 19 < j ∧ j < 40) : FR m (oss m' j v) := fun i hi => by
  refine ⟨?_, (h i hi).2⟩
  rw [oss_1, if_neg (by omega)]
  exact (h i hi).1
theorem FR.f {f : Int → zOb → zOb} (hf : ∀ d m, FR m (f d m)) (n : Int) (m : zOb) : FR m (zfor f n m) := by
  unfold zfor
  generalize n.toNat = k
  induction k with
  | zero => exact FR.rf m
  | succ k ih => exact ih.tr (hf _ _)
theorem FR_lv (d : Int) (m : zOb) : FR m (s_lv d m) := ((((FR.rf m).a _ _ (by omega)).a _ _ (by omega)).a _ _ (by omega)).a _ _ (by omega)
theorem FR_dk (d : Int) (m : zOb) : FR m (s_dk d m) := by
  unfold s_dk
  split
  · exact ((FR.rf m).a _ _ (by omega)).a _ _ (by omega)
  · exact FR.rf m
theorem FR_po1 (d b : Int) (m : zOb) : FR m (s_po1 d b m) := (((((FR.rf m).a _ _ (by omega)).a _ _ (by omega)).a _ _ (by omega)).s _ (by omega)).a _ _ (by omega)
theorem FR_to1 (t c : Int) (m : zOb) : FR m (s_to1 t c m) := (((FR.rf m).a _ _ (by omega)).s _ (by omega)).a _ _ (by omega)
theorem FR_go (m : zOb) : FR m (s_go m) := by
  have f2 : ∀ d m, FR m (s_f2 d m) := fun d m => by
    unfold s_f2 s_po
    split
    · split
      · exact FR.rf m
      · split
        · exact (FR_po1 _ _ m).tr (FR_lv _ _)
        · exact FR_po1 _ _ m
    · exact FR.rf m
  have f3 : ∀ d m, FR m (s_f3 d m) := fun d m => by
    unfold s_f3 s_to
    split
    · split
      · exact (FR.rf m).s _ (by omega)
      · split
        · exact (FR_to1 _ _ m).tr (FR_lv _ _)
        · exact FR_to1 _ _ m
    · exact FR.rf m
  have f4 : ∀ d m, FR m (s_f4 d m) := fun d m => by
    unfold s_f4
    split
    · exact FR_lv _ _
    · exact FR.rf m
  have f5 : ∀ m, FR m (s_p5 m) := fun m => by
    unfold s_p5
    split
    · exact ((FR.rf m).s _ (by omega)).s _ (by omega)
    · exact FR.rf m
  unfold s_go
  rw [s_p1_eq, s_p2_eq, s_p3_eq, s_p4_eq]
  exact (((FR.f FR_dk _ m).tr (FR.f f2 _ _)).tr (FR.f f3 _ _)).tr (FR.f f4 _ _) |>.tr (f5 _)
theorem FR_lay (m : zOb) : FR m (s_lay m) := by
  have pc : ∀ t d m, FR m (s_pc t d m) := fun t d m => ((((((((FR.rf m).a _ _ (by omega)).a _ _ (by omega)).a _ _ (by omega)).a _ _ (by omega)).a _ _ (by omega)).a _ _ (by omega)).s _ (by omega))
  have l0 : ∀ t m, FR m (s_l0 t m) := fun t m => (((((FR.rf m).a _ _ (by omega)).a _ _ (by omega)).a _ _ (by omega)).a _ _ (by omega)).a _ _ (by omega)
  have l3 : ∀ t d m, FR m (s_l3 t d m) := fun t d m => FR.f (fun _ m => pc t d m) _ m
  have l1 : ∀ t m, FR m (s_l1 t m) := fun t m => by
    unfold s_l1 s_l2
    split
    · exact l0 t m
    · exact (l0 t m).tr (FR.f (l3 t) _ _)
  have ld : ∀ d m, FR m (s_ld d m) := fun d m => by
    unfold s_ld
    exact ((((FR.rf m).a _ _ (by omega)).a _ _ (by omega)).a _ _ (by omega)).tr (FR.f (fun k m => ((FR.rf m).a _ _ (by omega)).a _ _ (by omega)) _ _)
  unfold s_lay s_lt
  exact (((FR.rf m).s _ (by omega)).tr (FR.f l1 _ _)).tr (FR.f ld _ _)
theorem FR_run (m : zOb) : FR m (s_run m) := by
  have hl : ∀ (n : Nat) (m : zOb), FR m (s_loop n m) := by
    intro n
    induction n with
    | zero => intro m; exact FR.rf m
    | succ n ih =>
      intro m
      unfold s_loop
      split
      · exact ((FR_go m).s _ (by omega)).tr (ih _)
      · exact FR.rf m
  have hi : FR m (s_ini m) := by
    unfold s_ini
    exact (((((FR_lay m).s _ (by omega)).s _ (by omega)).s _ (by omega)).s _ (by omega)).s _ (by omega)
  exact hi.tr (hl 201 _)
