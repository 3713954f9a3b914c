/-! Moves and swaps: what is fixed, what is other. -/
theorem zcnt_pre {p : Int → Bool} {n : Int} (hn : 0 ≤ n) (h : ∀ i j, 0 ≤ i → i < j → j < n → p j = true → p i = true) : ∀ i, 0 ≤ i → i < n → (p i = true ↔ i < zcnt p n) := by
  have key : ∀ k : Nat, (k : Int) ≤ n → ∀ i, 0 ≤ i → i < (k : Int) → (p i = true ↔ i < zcnt p k) := by
    intro k
    induction k with
    | zero => intro _ i h0 h1; omega
    | succ k ih =>
      intro hk i h0 h1
      rw [show ((k + 1 : Nat) : Int) = (k : Int) + 1 by omega, zcnt_S p (by omega)]
      have hb := zcnt_b p (n := (k : Int)) (by omega)
      cases hp : p (k : Int) with
      | true =>
        simp only [if_true]
        have hall : p i = true := by
          by_cases e : i = (k : Int)
          · rw [e]; exact hp
          · exact h i k h0 (by omega) (by omega) hp
        have hz : zcnt p (k : Int) = k := by
          by_cases e : (k : Int) = 0
          · omega
          · have h2 := h ((k : Int) - 1) k (by omega) (by omega) (by omega) hp
            have := (ih (by omega) ((k : Int) - 1) (by omega) (by omega)).mp h2
            omega
        exact ⟨fun _ => by omega, fun _ => hall⟩
      | false =>
        simp only [Bool.false_eq_true, if_false]
        by_cases e : i = (k : Int)
        · rw [e, hp]
          exact ⟨fun z => absurd z (by decide), fun z => by omega⟩
        · exact ih (by omega) i h0 (by omega)
  have := key n.toNat (by omega)
  rwa [show ((n.toNat : Nat) : Int) = n by omega] at this
theorem a_out_65 {a : Int → Int} {d k e : Int} (h0 : 0 ≤ d) (h1 : d < 6) (hk : 0 ≤ k) (g0 : 0 ≤ e) (g1 : e < 6) : a_out a d k (65 + e) = if e = d then a (65 + e) - 1 else a (65 + e) := by
  unfold a_out
  by_cases y : e = d
  · rw [if_pos (by omega), if_pos y]
  · rw [if_neg (by omega), if_neg (by omega), if_neg y]
theorem a_out_71 {a : Int → Int} {d k e j : Int} (h0 : 0 ≤ d) (h1 : d < 6) (hk : 0 ≤ k) (hr : a (65 + d) ≤ 8) (g0 : 0 ≤ e) (g1 : e < 6) (g2 : 0 ≤ j) (g3 : j < 8) : a_out a d k (71 + 8 * e + j) = if e = d ∧ k ≤ j ∧ j < a (65 + d) - 1 then a (71 + 8 * e + (j + 1)) else a (71 + 8 * e + j) := by
  unfold a_out
  rw [if_neg (by omega)]
  by_cases y : e = d ∧ k ≤ j ∧ j < a (65 + d) - 1
  · rw [if_pos y, if_pos (by obtain ⟨rfl, y2⟩ := y; omega)]
    congr 1; omega
  · rw [if_neg y, if_neg (by
      intro z
      apply y
      have : e = d := by omega
      subst this
      exact ⟨rfl, by omega, by omega⟩)]
theorem a_put_65 {a : Int → Int} {t d k e : Int} (h0 : 0 ≤ d) (h1 : d < 6) (hk : 0 ≤ k) (g0 : 0 ≤ e) (g1 : e < 6) : a_put a t d k (65 + e) = if e = d then a (65 + e) + 1 else a (65 + e) := by
  unfold a_put
  by_cases y : e = d
  · rw [if_pos (by omega), if_pos y]
  · rw [if_neg (by omega), if_neg (by omega), if_neg (by omega), if_neg y]
theorem a_put_71 {a : Int → Int} {t d k e j : Int} (h0 : 0 ≤ d) (h1 : d < 6) (hk : 0 ≤ k) (hk7 : k ≤ 7) (hr : a (65 + d) ≤ 7) (g0 : 0 ≤ e) (g1 : e < 6) (g2 : 0 ≤ j) (g3 : j < 8) : a_put a t d k (71 + 8 * e + j) = if e = d ∧ j = k then t else if e = d ∧ k < j ∧ j ≤ a (65 + d) then a (71 + 8 * e + (j - 1)) else a (71 + 8 * e + j) := by
  unfold a_put
  rw [if_neg (by omega)]
  by_cases y : e = d ∧ j = k
  · rw [if_pos y, if_pos (by omega)]
  · rw [if_neg y, if_neg (by omega)]
    by_cases y2 : e = d ∧ k < j ∧ j ≤ a (65 + d)
    · rw [if_pos y2, if_pos (by obtain ⟨rfl, y3⟩ := y2; omega)]
      congr 1
      omega
    · rw [if_neg y2, if_neg (by
        intro z
        apply y2
        have : e = d := by omega
        subst this
        exact ⟨rfl, by omega, by omega⟩)]
def a_mv (P0 P1 a : Int → Int) (t d k : Int) : Int → Int := a_put (a_out a (P0 t) (P1 t)) t d k
def a_sw (P0 P1 a : Int → Int) (t u : Int) : Int → Int := zup (zup a (71 + 8 * P0 t + P1 t) u) (71 + 8 * P0 u + P1 u) t
/-- where a truck that is in a row is -/
theorem POS.at {P0 P1 a : Int → Int} (hwa : WFa a) (h : POS P0 P1 a) {t : Int} (ht0 : 0 ≤ t) (ht1 : t < a 1) (hp : P0 t ≠ -1) : (0 ≤ P0 t ∧ P0 t < a 0) ∧ (0 ≤ P1 t ∧ P1 t < a (65 + P0 t)) ∧ a (71 + 8 * P0 t + P1 t) = t ∧ a (17 + 6 * t + 0) = a (5 + 2 * P0 t) := by
  have h8 := hwa.2.1
  rcases h.2.2 t ht0 (by omega) with z | ⟨z0, z1, z2, z3⟩
  · exact absurd z.1 hp
  · have := (h.2.1 _ _ z1.1 z1.2 z2.1 z2.2).2.1
    rw [z3] at this
    exact ⟨z1, z2, z3, this⟩
theorem POS.ne {P0 P1 a : Int → Int} (h : POS P0 P1 a) {t e j : Int} (g0 : 0 ≤ e) (g1 : e < a 0) (g2 : 0 ≤ j) (g3 : j < a (65 + e)) (g4 : e ≠ P0 t ∨ j ≠ P1 t) : a (71 + 8 * e + j) ≠ t := by
  intro z
  have := (h.2.1 e j g0 g1 g2 g3).2.2
  rw [z] at this
  omega
/-- what a move needs -/
def MVH (P0 P1 a : Int → Int) (t d k : Int) : Prop := (0 ≤ t ∧ t < a 1) ∧ P0 t ≠ -1 ∧ (0 ≤ d ∧ d < a 0) ∧ a (17 + 6 * t + 0) = a (5 + 2 * d) ∧ 0 ≤ k ∧ k ≤ a (65 + d) - (if P0 t = d then 1 else 0)
theorem zup_zup (f : Int → Int) (n v w : Int) : zup (zup f n v) n w = zup f n w := by
  funext i
  unfold zup
  split <;> rfl
/-- a row has room for one who comes -/
theorem POS.room {P0 P1 a : Int → Int} (hwa : WFa a) (h : POS P0 P1 a) {t d : Int} (ht0 : 0 ≤ t) (ht1 : t < a 1) (hd0 : 0 ≤ d) (hd1 : d < a 0) (hn : P0 t ≠ d) : a (65 + d) ≤ 7 := by
  have h8 := hwa.2.1
  have e := cnt_row hwa h hd0 hd1 (fun _ => true)
  have e2 : zcnt (fun k => (fun _ : Int => true) (a (71 + 8 * d + k))) (a (65 + d)) = a (65 + d) := by
    have hr := h.1 d hd0 hd1
    refine zfor_ind (f := fun i b => if (fun _ : Int => true) (a (71 + 8 * d + i)) = true then b + 1 else b) (a := (0 : Int)) (fun i b => b = i) (n := a (65 + d)) rfl (fun i b h1 h2 h3 => by simp [h3]) _ hr.1 (Int.le_refl _)
  rw [e2] at e
  have e3 := zcnt_one (p := fun o => decide (P0 o = d) && true) (q := fun o => if o = t then true else (decide (P0 o = d) && true)) (n := 8) ht0 (by omega) (by simp [hn]) (by simp) (fun i _ _ hi => by simp [hi])
  have := (zcnt_b (fun o => if o = t then true else (decide (P0 o = d) && true)) (n := 8) (by omega)).2
  omega
theorem MVH.facts {P0 P1 a : Int → Int} (hwa : WFa a) (h : POS P0 P1 a) {t d k : Int} (hm : MVH P0 P1 a t d k) : a_out a (P0 t) (P1 t) (65 + d) ≤ 7 ∧ k ≤ a_out a (P0 t) (P1 t) (65 + d) ∧ k ≤ 7 := by
  obtain ⟨⟨t0, t1⟩, hp, ⟨d0, d1⟩, hk, k0, k1⟩ := hm
  have h6 := hwa.1
  obtain ⟨p1, p2, p3, p4⟩ := h.at hwa t0 t1 hp
  have hr := h.1 d d0 d1
  rw [a_out_65 p1.1 (by omega) p2.1 d0 (by omega)]
  by_cases e : d = P0 t
  · rw [if_pos e]
    rw [if_pos e.symm] at k1
    omega
  · rw [if_neg e]
    rw [if_neg (fun z => e z.symm)] at k1
    have := h.room hwa t0 t1 d0 d1 (fun z => e z.symm)
    omega
theorem WFa_ext {a b : Int → Int} (h : WFa a) (e : ∀ i, i < 65 → b i = a i) : WFa b := by
  obtain ⟨h0, h1, h2, h3, h4, h5, h7, h9⟩ := h
  have hl : ∀ t, t < 8 → a_load b t = a_load a t := fun t ht => by
    unfold a_load
    rw [e _ (by omega), e _ (by omega), e _ (by omega), e _ (by omega)]
  have hf : a_fs b (a 1) = a_fs a (a 1) := zfor_congr (fun i c g0 g1 => by rw [e _ (by omega), hl i (by omega)])
  unfold WFa
  rw [e 0 (by omega), e 1 (by omega), e 2 (by omega), e 3 (by omega), e 4 (by omega)]
  refine ⟨h0, h1, h2, h3, h4, fun d g0 g1 => ?_, fun t g0 g1 => ?_, by rw [hf]; exact h9⟩
  · rw [e _ (by omega), e _ (by omega)]
    exact h5 d g0 g1
  · rw [hl t (by omega), e (17 + 6 * t + 0) (by omega), e (17 + 6 * t + 1) (by omega), e (17 + 6 * t + 2) (by omega), e (17 + 6 * t + 3) (by omega), e (17 + 6 * t + 4) (by omega), e (17 + 6 * t + 5) (by omega)]
    exact h7 t g0 g1
theorem POS_mv {P0 P1 a : Int → Int} (hwa : WFa a) (h : POS P0 P1 a) {t d k : Int} (hm : MVH P0 P1 a t d k) : POS (zup P0 t d) (zup (p_r2 (zup P0 t (-1)) (p_r1 P0 P1 t) d k) t k) (a_mv P0 P1 a t d k) := by
  obtain ⟨f1, f2, f3⟩ := hm.facts hwa h
  obtain ⟨⟨t0, t1⟩, hp, ⟨d0, d1⟩, hk, k0, k1⟩ := hm
  obtain ⟨p1, p2, p3, p4⟩ := h.at hwa t0 t1 hp
  have h6 := hwa.1
  have es : ∀ i, i < 65 → a_out a (P0 t) (P1 t) i = a i := fun i hi => a_out_s p1.1 p2.1 hi
  have h8 := hwa.2.1
  have hwo : WFa (a_out a (P0 t) (P1 t)) := WFa_ext hwa (fun i hi => es i hi)
  have := POS_put hwo (t := t) (d := d) (k := k) (POS_out hwa h t0 t1 hp) t0 (by rw [es 1 (by omega)]; exact t1) d0 (by rw [es 0 (by omega)]; exact d1) k0 f2 f1 (by rw [es _ (by omega), es _ (by omega)]; exact hk)
  rw [zup_zup] at this
  exact this
theorem a_mv_s {P0 P1 a : Int → Int} (hwa : WFa a) (h : POS P0 P1 a) {t d k : Int} (hm : MVH P0 P1 a t d k) {i : Int} (hi : i < 65) : a_mv P0 P1 a t d k i = a i := by
  obtain ⟨⟨t0, t1⟩, hp, ⟨d0, d1⟩, hk, k0, k1⟩ := hm
  obtain ⟨p1, p2, p3, p4⟩ := h.at hwa t0 t1 hp
  unfold a_mv
  rw [a_put_s d0 k0 hi, a_out_s p1.1 p2.1 hi]
/-- a place that none leaves and none comes to -/
theorem a_mv_71 {P0 P1 a : Int → Int} (hwa : WFa a) (h : POS P0 P1 a) {t d k : Int} (hm : MVH P0 P1 a t d k) {e j : Int} (g0 : 0 ≤ e) (g1 : e < 6) (g2 : 0 ≤ j) (g3 : j < 8) (hs : e = P0 t → j < P1 t) (hd : e = d → j < k) : a_mv P0 P1 a t d k (71 + 8 * e + j) = a (71 + 8 * e + j) := by
  obtain ⟨f1, f2, f3⟩ := hm.facts hwa h
  obtain ⟨⟨t0, t1⟩, hp, ⟨d0, d1⟩, hk, k0, k1⟩ := hm
  obtain ⟨p1, p2, p3, p4⟩ := h.at hwa t0 t1 hp
  have h6 := hwa.1
  have hr := h.1 _ p1.1 p1.2
  unfold a_mv
  rw [a_put_71 d0 (by omega) k0 f3 f1 g0 g1 g2 g3, if_neg (by omega), if_neg (by omega), a_out_71 p1.1 (by omega) p2.1 hr.2 g0 g1 g2 g3, if_neg (by omega)]
theorem a_mv_65 {P0 P1 a : Int → Int} (hwa : WFa a) (h : POS P0 P1 a) {t d k : Int} (hm : MVH P0 P1 a t d k) {e : Int} (g0 : 0 ≤ e) (g1 : e < 6) : a_mv P0 P1 a t d k (65 + e) = a (65 + e) - (if e = P0 t then 1 else 0) + (if e = d then 1 else 0) := by
  obtain ⟨⟨t0, t1⟩, hp, ⟨d0, d1⟩, hk, k0, k1⟩ := hm
  obtain ⟨p1, p2, p3, p4⟩ := h.at hwa t0 t1 hp
  have h6 := hwa.1
  unfold a_mv
  rw [a_put_65 d0 (by omega) k0 g0 g1, a_out_65 p1.1 (by omega) p2.1 g0 g1]
  split <;> split <;> omega
/-- at its new place stands the truck -/
theorem a_mv_k {P0 P1 a : Int → Int} (hwa : WFa a) (h : POS P0 P1 a) {t d k : Int} (hm : MVH P0 P1 a t d k) : a_mv P0 P1 a t d k (71 + 8 * d + k) = t := by
  obtain ⟨f1, f2, f3⟩ := hm.facts hwa h
  obtain ⟨⟨t0, t1⟩, hp, ⟨d0, d1⟩, hk, k0, k1⟩ := hm
  have h6 := hwa.1
  unfold a_mv
  rw [a_put_71 d0 (by omega) k0 f3 f1 d0 (by omega) k0 (by omega), if_pos ⟨rfl, rfl⟩]
/-- each row begins with the first of what is kept -/
def a_cb (b F κ : Int → Int) : Prop := ∀ e, 0 ≤ e → e < b 0 → F e ≤ b (65 + e) ∧ ∀ j, 0 ≤ j → j < F e → b (71 + 8 * e + j) = κ (6 + 8 * e + j)
def a_ne (b κ : Int → Int) : Prop := ∃ e, (0 ≤ e ∧ e < b 0) ∧ (b (65 + e) ≠ κ e ∨ ∃ j, (0 ≤ j ∧ j < b (65 + e)) ∧ b (71 + 8 * e + j) ≠ κ (6 + 8 * e + j))
def KPT (a κ : Int → Int) : Prop := ∀ j, 0 ≤ j → j < 54 → κ j = a (65 + j)
theorem KPT.at {a κ : Int → Int} (h : KPT a κ) {e j : Int} (g0 : 0 ≤ e) (g1 : e < 6) (g2 : 0 ≤ j) (g3 : j < 8) : κ (6 + 8 * e + j) = a (71 + 8 * e + j) := by
  rw [h _ (by omega) (by omega), show 65 + (6 + 8 * e + j) = 71 + 8 * e + j by omega]
theorem mv_ne {P0 P1 a κ : Int → Int} (hwa : WFa a) (h : POS P0 P1 a) (hK : KPT a κ) {t d k : Int} (hm : MVH P0 P1 a t d k) : a_ne (a_mv P0 P1 a t d k) κ ↔ ¬ (P0 t = d ∧ P1 t = k) := by
  have e65 := fun e g0 g1 => a_mv_65 hwa h hm (e := e) g0 g1
  have e0 := a_mv_s hwa h hm (i := 0) (by omega)
  have ek := a_mv_k hwa h hm
  have e71 := fun e j g0 g1 g2 g3 hs hd => a_mv_71 hwa h hm (e := e) (j := j) g0 g1 g2 g3 hs hd
  have hfa := hm.facts hwa h
  obtain ⟨⟨t0, t1⟩, hp, ⟨d0, d1⟩, hk, k0, k1⟩ := id hm
  obtain ⟨p1, p2, p3, p4⟩ := h.at hwa t0 t1 hp
  have h6 := hwa.1
  have hr := h.1 d d0 d1
  constructor
  · rintro ⟨e, ⟨g0, g1⟩, g2⟩ ⟨y1, y2⟩
    rw [e0] at g1
    have hl : a_mv P0 P1 a t d k (65 + e) = a (65 + e) := by
      rw [e65 e g0 (by omega), y1]
      split <;> omega
    rcases g2 with g2 | ⟨j, ⟨g2, g3⟩, g4⟩
    · rw [hl, hK e g0 (by omega)] at g2
      exact g2 rfl
    · rw [hl] at g3
      have hre := h.1 e g0 g1
      rw [hK.at g0 (by omega) g2 (by omega)] at g4
      apply g4
      unfold a_mv
      rw [a_put_71 d0 (by omega) k0 hfa.2.2 hfa.1 g0 (by omega) g2 (by omega), a_out_65 p1.1 (by omega) p2.1 d0 (by omega), if_pos y1.symm]
      by_cases z : e = d ∧ j = k
      · rw [if_pos z, z.1, z.2, ← y1, ← y2, p3]
      · rw [if_neg z]
        by_cases z2 : e = d ∧ k < j ∧ j ≤ a (65 + d) - 1
        · rw [if_pos z2, a_out_71 p1.1 (by omega) p2.1 (by rw [y1]; omega) g0 (by omega) (by omega) (by omega), if_pos (by rw [y1, y2]; omega), show j - 1 + 1 = j by omega]
        · rw [if_neg z2, a_out_71 p1.1 (by omega) p2.1 (by rw [y1]; omega) g0 (by omega) g2 (by omega), if_neg (by
            rw [y1, y2]
            rintro ⟨w1, w2, w3⟩
            subst w1
            exact z2 ⟨rfl, by omega, by omega⟩)]
  · intro hn
    by_cases y : P0 t = d
    · have hpk : P1 t ≠ k := fun z => hn ⟨y, z⟩
      rw [if_pos y] at k1
      rw [y] at p2
      rcases Int.lt_or_le k (P1 t) with w | w
      · refine ⟨d, ⟨d0, by rw [e0]; exact d1⟩, Or.inr ⟨k, ⟨k0, ?_⟩, ?_⟩⟩
        · rw [e65 d d0 (by omega), if_pos y.symm, if_pos rfl]; omega
        · rw [ek, hK.at d0 (by omega) k0 (by omega)]
          exact fun z => h.ne (t := t) d0 d1 k0 (by omega) (Or.inr (by omega)) z.symm
      · refine ⟨d, ⟨d0, by rw [e0]; exact d1⟩, Or.inr ⟨k, ⟨k0, ?_⟩, ?_⟩⟩
        · rw [e65 d d0 (by omega), if_pos y.symm, if_pos rfl]; omega
        · rw [ek, hK.at d0 (by omega) k0 (by omega)]
          exact fun z => h.ne (t := t) d0 d1 k0 (by omega) (Or.inr (by omega)) z.symm
    · refine ⟨d, ⟨d0, by rw [e0]; exact d1⟩, Or.inl ?_⟩
      rw [e65 d d0 (by omega), if_neg (fun z => y z.symm), if_pos rfl, hK d d0 (by omega)]
      omega
theorem mv_cb {P0 P1 a κ F : Int → Int} (hwa : WFa a) (h : POS P0 P1 a) (hK : KPT a κ) (hF : ∀ e, 0 ≤ e → e < a 0 → 0 ≤ F e ∧ F e ≤ a (65 + e)) {t d k : Int} (hm : MVH P0 P1 a t d k) (hn : ¬ (P0 t = d ∧ P1 t = k)) : a_cb (a_mv P0 P1 a t d k) F κ ↔ (F (P0 t) ≤ P1 t ∧ F d ≤ k) := by
  have e65 := fun e g0 g1 => a_mv_65 hwa h hm (e := e) g0 g1
  have e0 := a_mv_s hwa h hm (i := 0) (by omega)
  have ek := a_mv_k hwa h hm
  have e71 := fun e j g0 g1 g2 g3 hs hd => a_mv_71 hwa h hm (e := e) (j := j) g0 g1 g2 g3 hs hd
  have hfa := hm.facts hwa h
  obtain ⟨⟨t0, t1⟩, hp, ⟨d0, d1⟩, hk, k0, k1⟩ := id hm
  obtain ⟨p1, p2, p3, p4⟩ := h.at hwa t0 t1 hp
  have h6 := hwa.1
  have hr := h.1 d d0 d1
  have hrs := h.1 _ p1.1 p1.2
  have hFd := hF d d0 d1
  have hFs := hF _ p1.1 p1.2
  constructor
  · intro hc
    have hnk : F d ≤ k := by
      rcases Int.lt_or_le k (F d) with w | w
      · exfalso
        have := (hc d d0 (by rw [e0]; exact d1)).2 k k0 w
        rw [ek, hK.at d0 (by omega) k0 (by omega)] at this
        by_cases y : P0 t = d
        · exact h.ne (t := t) d0 d1 k0 (by omega) (Or.inr (fun z => hn ⟨y, z.symm⟩)) this.symm
        · exact h.ne (t := t) d0 d1 k0 (by omega) (Or.inl (fun z => y z.symm)) this.symm
      · exact w
    refine ⟨?_, hnk⟩
    rcases Int.lt_or_le (P1 t) (F (P0 t)) with w | w
    · exfalso
      obtain ⟨c1, c2⟩ := hc (P0 t) p1.1 (by rw [e0]; exact p1.2)
      have c3 := c2 (P1 t) p2.1 w
      rw [hK.at p1.1 (by omega) p2.1 (by omega), p3] at c3
      rw [e65 _ p1.1 (by omega), if_pos rfl] at c1
      have hlt : P1 t < a (65 + P0 t) - 1 := by
        by_cases y : P0 t = d
        · rw [if_pos y] at c1
          rw [y] at w hFs ⊢
          by_cases y2 : P1 t < a (65 + d) - 1
          · exact y2
          · exfalso
            rw [if_pos y] at k1
            rw [y] at p2
            exact hn ⟨y, by omega⟩
        · rw [if_neg y] at c1
          omega
      have hv : a_mv P0 P1 a t d k (71 + 8 * P0 t + P1 t) = a (71 + 8 * P0 t + (P1 t + 1)) := by
        unfold a_mv
        rw [a_put_71 d0 (by omega) k0 hfa.2.2 hfa.1 p1.1 (by omega) p2.1 (by omega), if_neg (fun z => hn ⟨z.1, z.2⟩), if_neg (by
          rintro ⟨z1, z2, -⟩
          rw [z1] at w
          omega), a_out_71 p1.1 (by omega) p2.1 hrs.2 p1.1 (by omega) p2.1 (by omega), if_pos ⟨rfl, Int.le_refl _, hlt⟩]
      rw [hv] at c3
      exact h.ne (t := t) p1.1 p1.2 (show 0 ≤ P1 t + 1 by omega) (by omega) (Or.inr (by omega)) c3
    · exact w
  · rintro ⟨w1, w2⟩ e g0 g1
    rw [e0] at g1
    have hFe := hF e g0 g1
    have hre := h.1 e g0 g1
    refine ⟨?_, fun j g2 g3 => ?_⟩
    · rw [e65 e g0 (by omega)]
      by_cases y : e = P0 t
      · subst y
        rw [if_pos rfl]
        split <;> omega
      · rw [if_neg y]
        split <;> omega
    · rw [hK.at g0 (by omega) g2 (by omega)]
      exact e71 e j g0 (by omega) g2 (by omega) (fun z => by subst z; omega) (fun z => by subst z; omega)
theorem a_mv_same {P0 P1 a : Int → Int} (hwa : WFa a) (h : POS P0 P1 a) {t d k : Int} (hm : MVH P0 P1 a t d k) (y : P0 t = d ∧ P1 t = k) : a_mv P0 P1 a t d k = a := by
  obtain ⟨⟨t0, t1⟩, hp, ⟨d0, d1⟩, hk, k0, k1⟩ := id hm
  obtain ⟨p1, p2, p3, p4⟩ := h.at hwa t0 t1 hp
  have h6 := hwa.1
  have hrs := h.1 _ p1.1 p1.2
  obtain ⟨rfl, rfl⟩ := y
  have ho : a_out a (P0 t) (P1 t) (65 + P0 t) = a (65 + P0 t) - 1 := by rw [a_out_65 p1.1 (by omega) p2.1 p1.1 (by omega), if_pos rfl]
  funext i
  unfold a_mv a_put
  rw [ho]
  by_cases y1 : i = 65 + P0 t
  · rw [if_pos y1, y1, ho]; omega
  · rw [if_neg y1]
    by_cases y2 : i = 71 + 8 * P0 t + P1 t
    · rw [if_pos y2, y2, p3]
    · rw [if_neg y2]
      unfold a_out
      by_cases y3 : 71 + 8 * P0 t + P1 t < i ∧ i ≤ 71 + 8 * P0 t + (a (65 + P0 t) - 1)
      · rw [if_pos y3, if_neg (by omega), if_pos (by omega), show i - 1 + 1 = i by omega]
      · rw [if_neg y3, if_neg y1, if_neg (by omega)]
