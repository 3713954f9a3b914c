/-! Moves and swaps of trucks: tables and places. -/
def POS (P0 P1 a : Int → Int) : Prop :=
  (∀ e, 0 ≤ e → e < a 0 → 0 ≤ a (65 + e) ∧ a (65 + e) ≤ 8) ∧
  (∀ e j, 0 ≤ e → e < a 0 → 0 ≤ j → j < a (65 + e) → (0 ≤ a (71 + 8 * e + j) ∧ a (71 + 8 * e + j) < a 1) ∧ a (17 + 6 * a (71 + 8 * e + j) + 0) = a (5 + 2 * e) ∧ P0 (a (71 + 8 * e + j)) = e ∧ P1 (a (71 + 8 * e + j)) = j) ∧
  (∀ t, 0 ≤ t → t < 8 → (P0 t = -1 ∧ P1 t = -1) ∨ (t < a 1 ∧ (0 ≤ P0 t ∧ P0 t < a 0) ∧ (0 ≤ P1 t ∧ P1 t < a (65 + P0 t)) ∧ a (71 + 8 * P0 t + P1 t) = t))
theorem POS.wfr {P0 P1 a : Int → Int} (h : POS P0 P1 a) : WFr a := by
  refine ⟨h.1, fun d k h0 h1 h2 h3 => ?_, fun d k d' k' h0 h1 h2 h3 g0 g1 g2 g3 e => ?_⟩
  · have := h.2.1 d k h0 h1 h2 h3
    exact ⟨this.1.1, this.1.2, this.2.1⟩
  · have x := (h.2.1 d k h0 h1 h2 h3).2.2
    have y := (h.2.1 d' k' g0 g1 g2 g3).2.2
    rw [e] at x
    exact ⟨x.1.symm.trans y.1, x.2.symm.trans y.2⟩
theorem POS.of {P0 P1 a : Int → Int} (hwa : WFa a) (hwr : WFr a) (h : ∀ t, 0 ≤ t → t < 8 → (P0 t = -1 ∧ P1 t = -1 ∧ ∀ d k, 0 ≤ d → d < a 0 → 0 ≤ k → k < a (65 + d) → a (71 + 8 * d + k) ≠ t) ∨ (t < a 1 ∧ (0 ≤ P0 t ∧ P0 t < a 0) ∧ (0 ≤ P1 t ∧ P1 t < a (65 + P0 t)) ∧ a (71 + 8 * P0 t + P1 t) = t)) : POS P0 P1 a := by
  have h8 := hwa.2.1
  refine ⟨hwr.1, fun e j h0 h1 h2 h3 => ?_, fun t h0 h1 => ?_⟩
  · have hr := hwr.2.1 e j h0 h1 h2 h3
    refine ⟨⟨hr.1, hr.2.1⟩, hr.2.2, ?_⟩
    rcases h _ hr.1 (by omega) with ⟨-, -, z⟩ | ⟨z0, z1, z2, z3⟩
    · exact absurd rfl (z e j h0 h1 h2 h3)
    · exact hwr.2.2 _ _ e j z1.1 z1.2 z2.1 z2.2 h0 h1 h2 h3 z3
  · rcases h t h0 h1 with ⟨z1, z2, -⟩ | z
    · exact Or.inl ⟨z1, z2⟩
    · exact Or.inr z
theorem POS.rows {P0 P1 a : Int → Int} (h : POS P0 P1 a) : ∀ t, 0 ≤ t → t < 8 → (P0 t = -1 ∧ P1 t = -1 ∧ ∀ d k, 0 ≤ d → d < a 0 → 0 ≤ k → k < a (65 + d) → a (71 + 8 * d + k) ≠ t) ∨ (t < a 1 ∧ (0 ≤ P0 t ∧ P0 t < a 0) ∧ (0 ≤ P1 t ∧ P1 t < a (65 + P0 t)) ∧ a (71 + 8 * P0 t + P1 t) = t) := by
  intro t h0 h1
  rcases h.2.2 t h0 h1 with z | z
  · refine Or.inl ⟨z.1, z.2, fun d k g0 g1 g2 g3 e => ?_⟩
    have := (h.2.1 d k g0 g1 g2 g3).2.2.1
    rw [e] at this
    omega
  · exact Or.inr z
/-- counting a row by trucks or by places -/
theorem cnt_row {P0 P1 a : Int → Int} (hwa : WFa a) (h : POS P0 P1 a) {d : Int} (h0 : 0 ≤ d) (h1 : d < a 0) (q : Int → Bool) : zcnt (fun t => decide (P0 t = d) && q t) 8 = zcnt (fun k => q (a (71 + 8 * d + k))) (a (65 + d)) := by
  have h8 := hwa.2.1
  have hr := h.1 d h0 h1
  have key : ∀ k : Nat, (k : Int) ≤ a (65 + d) → zcnt (fun t => decide (P0 t = d ∧ P1 t < k) && q t) 8 = zcnt (fun k => q (a (71 + 8 * d + k))) k := by
    intro k
    induction k with
    | zero =>
      intro _
      refine (zcnt_none (fun t q0 q1 => ?_)).trans rfl
      rw [decide_eq_false, Bool.false_and]
      rintro ⟨y1, y2⟩
      rcases h.2.2 t q0 q1 with z | z
      · omega
      · omega
    | succ k ih =>
      intro hk
      obtain ⟨r1, r2, r3⟩ := h.2.1 d k h0 h1 (by omega) (by omega)
      rw [show ((k + 1 : Nat) : Int) = (k : Int) + 1 by omega, zcnt_S _ (by omega), ← ih (by omega)]
      have hoth : ∀ t, 0 ≤ t → t < 8 → t ≠ a (71 + 8 * d + k) → decide (P0 t = d ∧ P1 t < (k : Int)) = decide (P0 t = d ∧ P1 t < (k : Int) + 1) := by
        intro t q0 q1 q2
        by_cases y : P0 t = d ∧ P1 t = k
        · exfalso
          rcases h.2.2 t q0 q1 with z | ⟨z0, z1, z2, z3⟩
          · omega
          · rw [y.1, y.2] at z3
            exact q2 z3.symm
        · by_cases y2 : P0 t = d ∧ P1 t < (k : Int)
          · rw [decide_eq_true y2, decide_eq_true (by omega)]
          · rw [decide_eq_false y2, decide_eq_false (by omega)]
      cases hq : q (a (71 + 8 * d + k)) with
      | true =>
        simp only [if_true]
        exact zcnt_one (k := a (71 + 8 * d + k)) r1.1 (by omega) (by rw [decide_eq_false (by omega), Bool.false_and]) (by rw [decide_eq_true (by omega), hq]; rfl) (fun t q0 q1 q2 => by rw [hoth t q0 q1 q2])
      | false =>
        simp only [Bool.false_eq_true, if_false]
        refine zcnt_congr (fun t q0 q1 => ?_)
        by_cases y : t = a (71 + 8 * d + k)
        · rw [y, hq, Bool.and_false, Bool.and_false]
        · rw [hoth t q0 q1 y]
  have hk := key (a (65 + d)).toNat (by omega)
  rw [show (((a (65 + d)).toNat : Nat) : Int) = a (65 + d) by omega] at hk
  rw [← hk]
  refine zcnt_congr (fun t q0 q1 => ?_)
  by_cases y : P0 t = d
  · rw [decide_eq_true y]
    rcases h.2.2 t q0 q1 with z | ⟨z0, z1, z2, z3⟩
    · omega
    · rw [decide_eq_true ⟨y, by rw [y] at z2; omega⟩]
  · rw [decide_eq_false y, decide_eq_false (fun z => y z.1)]
theorem POS.len {P0 P1 a : Int → Int} (hwa : WFa a) (h : POS P0 P1 a) {d : Int} (h0 : 0 ≤ d) (h1 : d < a 0) : zcnt (fun t => decide (P0 t = d)) 8 = a (65 + d) := by
  have := cnt_row hwa h h0 h1 (fun _ => true)
  simp only [Bool.and_true] at this
  rw [this]
  have hr := h.1 d h0 h1
  have key : ∀ n : Nat, zcnt (fun _ => true) n = n := by
    intro n
    induction n with
    | zero => rfl
    | succ n ih => rw [show ((n + 1 : Nat) : Int) = (n : Int) + 1 by omega, zcnt_S _ (by omega), ih]; simp
  have hk := key (a (65 + d)).toNat
  rwa [show (((a (65 + d)).toNat : Nat) : Int) = a (65 + d) by omega] at hk
/-- room for one more -/
theorem POS.more {P0 P1 a : Int → Int} (hwa : WFa a) (h : POS P0 P1 a) {d t : Int} (h0 : 0 ≤ d) (h1 : d < a 0) (ht0 : 0 ≤ t) (ht1 : t < 8) (hne : P0 t ≠ d) : a (65 + d) ≤ 7 := by
  rw [← h.len hwa h0 h1]
  have := zcnt_one (p := fun u => decide (P0 u = d)) (q := fun u => decide (P0 u = d ∨ u = t)) (n := 8) (k := t) ht0 ht1 (decide_eq_false hne) (decide_eq_true (Or.inr rfl)) (fun i _ _ hi => by
    by_cases y : P0 i = d
    · rw [decide_eq_true y, decide_eq_true (Or.inl y)]
    · rw [decide_eq_false y, decide_eq_false (fun z => z.elim y hi)])
  have hb := zcnt_b (fun u => decide (P0 u = d ∨ u = t)) (n := 8) (by omega)
  omega
def a_out (a : Int → Int) (d k : Int) : Int → Int := fun i => if i = 65 + d then a i - 1 else if 71 + 8 * d + k ≤ i ∧ i < 71 + 8 * d + (a (65 + d) - 1) then a (i + 1) else a i
def a_put (a : Int → Int) (t d k : Int) : Int → Int := fun i => if i = 65 + d then a i + 1 else if i = 71 + 8 * d + k then t else if 71 + 8 * d + k < i ∧ i ≤ 71 + 8 * d + a (65 + d) then a (i - 1) else a i
def p_r1 (P0 P1 : Int → Int) (t : Int) : Int → Int := fun o => if (0 ≤ o ∧ o < 8) ∧ P0 o = P0 t ∧ P1 t < P1 o then P1 o - 1 else P1 o
def p_r2 (P0 P1 : Int → Int) (d k : Int) : Int → Int := fun o => if (0 ≤ o ∧ o < 8) ∧ P0 o = d ∧ k ≤ P1 o then P1 o + 1 else P1 o
/-- places, one truck being in none -/
def POSx (x : Int) (P0 P1 a : Int → Int) : Prop :=
  (∀ e, 0 ≤ e → e < a 0 → 0 ≤ a (65 + e) ∧ a (65 + e) ≤ 8) ∧
  (∀ e j, 0 ≤ e → e < a 0 → 0 ≤ j → j < a (65 + e) → (0 ≤ a (71 + 8 * e + j) ∧ a (71 + 8 * e + j) < a 1) ∧ a (17 + 6 * a (71 + 8 * e + j) + 0) = a (5 + 2 * e) ∧ P0 (a (71 + 8 * e + j)) = e ∧ P1 (a (71 + 8 * e + j)) = j) ∧
  P0 x = -1 ∧
  (∀ t, t ≠ x → 0 ≤ t → t < 8 → (P0 t = -1 ∧ P1 t = -1) ∨ (t < a 1 ∧ (0 ≤ P0 t ∧ P0 t < a 0) ∧ (0 ≤ P1 t ∧ P1 t < a (65 + P0 t)) ∧ a (71 + 8 * P0 t + P1 t) = t))
theorem a_out_s {a : Int → Int} {d k i : Int} (h0 : 0 ≤ d) (hk : 0 ≤ k) (hi : i < 65) : a_out a d k i = a i := by
  unfold a_out
  rw [if_neg (by omega), if_neg (by omega)]
theorem a_put_s {a : Int → Int} {t d k i : Int} (h0 : 0 ≤ d) (hk : 0 ≤ k) (hi : i < 65) : a_put a t d k i = a i := by
  unfold a_put
  rw [if_neg (by omega), if_neg (by omega), if_neg (by omega)]
theorem POS_out {P0 P1 a : Int → Int} (hwa : WFa a) (h : POS P0 P1 a) {t : Int} (ht0 : 0 ≤ t) (ht1 : t < a 1) (hp : P0 t ≠ -1) : POSx t (zup P0 t (-1)) (p_r1 P0 P1 t) (a_out a (P0 t) (P1 t)) := by
  have h8 := hwa.2.1
  have h6 := hwa.1
  obtain ⟨p0, p1, p2, p3⟩ : t < a 1 ∧ (0 ≤ P0 t ∧ P0 t < a 0) ∧ (0 ≤ P1 t ∧ P1 t < a (65 + P0 t)) ∧ a (71 + 8 * P0 t + P1 t) = t := by
    rcases h.2.2 t ht0 (by omega) with z | z
    · exact absurd z.1 hp
    · exact z
  have hrt := h.1 _ p1.1 p1.2
  have es : ∀ i, i < 65 → a_out a (P0 t) (P1 t) i = a i := fun i hi => a_out_s p1.1 p2.1 hi
  have e65 : ∀ e, 0 ≤ e → e < 6 → a_out a (P0 t) (P1 t) (65 + e) = if e = P0 t then a (65 + e) - 1 else a (65 + e) := by
    intro e g0 g1
    unfold a_out
    by_cases y : e = P0 t
    · rw [if_pos (by omega), if_pos y]
    · rw [if_neg (by omega), if_neg (by omega), if_neg y]
  have e71 : ∀ e j, 0 ≤ e → e < a 0 → 0 ≤ j → j < 8 → a_out a (P0 t) (P1 t) (71 + 8 * e + j) = if e = P0 t ∧ P1 t ≤ j ∧ j < a (65 + P0 t) - 1 then a (71 + 8 * e + (j + 1)) else a (71 + 8 * e + j) := by
    intro e j g0 g1 g2 g3
    unfold a_out
    rw [if_neg (by omega)]
    by_cases y : e = P0 t ∧ P1 t ≤ j ∧ j < a (65 + P0 t) - 1
    · rw [if_pos y, if_pos (by obtain ⟨rfl, y2⟩ := y; omega)]
      congr 1; omega
    · rw [if_neg y, if_neg (by
        intro z
        apply y
        have : e = P0 t := by omega
        subst this
        exact ⟨rfl, by omega, by omega⟩)]
  have hne : ∀ e j, 0 ≤ e → e < a 0 → 0 ≤ j → j < a (65 + e) → (e ≠ P0 t ∨ j ≠ P1 t) → a (71 + 8 * e + j) ≠ t := by
    intro e j g0 g1 g2 g3 g4 z
    have := (h.2.1 e j g0 g1 g2 g3).2.2
    rw [z] at this
    omega
  refine ⟨fun e g0 g1 => ?_, fun e j g0 g1 g2 g3 => ?_, by rw [zup_s], fun o ho g0 g1 => ?_⟩
  · rw [es 0 (by omega)] at g1
    rw [e65 e g0 (by omega)]
    have := h.1 e g0 g1
    split
    · rename_i y; subst y; omega
    · exact this
  · rw [es 0 (by omega)] at g1
    rw [e65 e g0 (by omega)] at g3
    have hre := h.1 e g0 g1
    have hj8 : j < 8 := by split at g3 <;> omega
    rw [e71 e j g0 g1 g2 hj8]
    by_cases y : e = P0 t ∧ P1 t ≤ j ∧ j < a (65 + P0 t) - 1
    · rw [if_pos y]
      obtain ⟨rfl, y2⟩ := y
      obtain ⟨r1, r2, r3, r4⟩ := h.2.1 (P0 t) (j + 1) g0 g1 (by omega) (by omega)
      have hn := hne (P0 t) (j + 1) g0 g1 (by omega) (by omega) (Or.inr (by omega))
      refine ⟨?_, ?_, ?_, ?_⟩
      · rw [es 1 (by omega)]; exact r1
      · rw [es _ (by omega), es _ (by omega)]; exact r2
      · rw [zup_n _ _ hn]; exact r3
      · unfold p_r1
        rw [if_pos ⟨⟨r1.1, by omega⟩, by omega, by omega⟩]
        omega
    · rw [if_neg y]
      have hjr : j < a (65 + e) := by split at g3 <;> omega
      obtain ⟨r1, r2, r3, r4⟩ := h.2.1 e j g0 g1 g2 hjr
      have hlt : e = P0 t → j < P1 t := fun z => by
        subst z
        rw [if_pos rfl] at g3
        rcases Int.lt_or_le j (P1 t) with w | w
        · exact w
        · exact absurd ⟨rfl, w, g3⟩ y
      have hn := hne e j g0 g1 g2 hjr (by by_cases z : e = P0 t; exact Or.inr (by have := hlt z; omega); exact Or.inl z)
      refine ⟨?_, ?_, ?_, ?_⟩
      · rw [es 1 (by omega)]; exact r1
      · rw [es _ (by omega), es _ (by omega)]; exact r2
      · rw [zup_n _ _ hn]; exact r3
      · unfold p_r1
        rw [if_neg (by
          rintro ⟨-, z1, z2⟩
          have := hlt (by omega)
          omega)]
        exact r4
  · rw [zup_n _ _ ho]
    rcases h.2.2 o g0 g1 with ⟨z1, z2⟩ | ⟨z0, z1, z2, z3⟩
    · left
      refine ⟨z1, ?_⟩
      unfold p_r1
      rw [if_neg (by omega)]
      exact z2
    · right
      rw [es 1 (by omega), es 0 (by omega), e65 _ z1.1 (by omega)]
      have hre := h.1 _ z1.1 z1.2
      by_cases y : P0 o = P0 t
      · have hjne : P1 o ≠ P1 t := fun w => ho (by rw [← z3, ← p3, y, w])
        rw [if_pos y]
        by_cases y2 : P1 t < P1 o
        · have e9 : p_r1 P0 P1 t o = P1 o - 1 := by unfold p_r1; rw [if_pos ⟨⟨g0, g1⟩, y, y2⟩]
          rw [e9, e71 _ _ z1.1 z1.2 (by omega) (by omega)]
          have hh : P0 o = P0 t ∧ P1 t ≤ P1 o - 1 ∧ P1 o - 1 < a (65 + P0 t) - 1 := ⟨y, by omega, by rw [← y]; omega⟩
          rw [if_pos hh, show P1 o - 1 + 1 = P1 o by omega]
          exact ⟨z0, z1, by omega, z3⟩
        · have e9 : p_r1 P0 P1 t o = P1 o := by unfold p_r1; rw [if_neg (fun w => y2 w.2.2)]
          rw [e9, e71 _ _ z1.1 z1.2 z2.1 (by omega), if_neg (fun w => by omega)]
          rw [y] at z2
          exact ⟨z0, z1, by rw [y]; omega, z3⟩
      · have e9 : p_r1 P0 P1 t o = P1 o := by unfold p_r1; rw [if_neg (fun w => y w.2.1)]
        rw [if_neg y, e9, e71 _ _ z1.1 z1.2 z2.1 (by omega), if_neg (fun w => y w.1)]
        exact ⟨z0, z1, z2, z3⟩
theorem POS_put {P0 P1 a : Int → Int} (hwa : WFa a) {t d k : Int} (h : POSx t P0 P1 a) (ht0 : 0 ≤ t) (ht1 : t < a 1) (hd0 : 0 ≤ d) (hd1 : d < a 0) (hk0 : 0 ≤ k) (hk1 : k ≤ a (65 + d)) (hm : a (65 + d) ≤ 7) (hkd : a (17 + 6 * t + 0) = a (5 + 2 * d)) : POS (zup P0 t d) (zup (p_r2 P0 P1 d k) t k) (a_put a t d k) := by
  have h8 := hwa.2.1
  have h6 := hwa.1
  obtain ⟨q1, q2, q3, q4⟩ := h
  have es : ∀ i, i < 65 → a_put a t d k i = a i := fun i hi => a_put_s hd0 hk0 hi
  have e65 : ∀ e, 0 ≤ e → e < 6 → a_put a t d k (65 + e) = if e = d then a (65 + e) + 1 else a (65 + e) := by
    intro e g0 g1
    unfold a_put
    by_cases y : e = d
    · rw [if_pos (by omega), if_pos y]
    · rw [if_neg (by omega), if_neg (by omega), if_neg (by omega), if_neg y]
  have e71 : ∀ e j, 0 ≤ e → e < a 0 → 0 ≤ j → j < 8 → a_put a t d k (71 + 8 * e + j) = if e = d ∧ j = k then t else if e = d ∧ k < j ∧ j ≤ a (65 + d) then a (71 + 8 * e + (j - 1)) else a (71 + 8 * e + j) := by
    intro e j g0 g1 g2 g3
    unfold a_put
    rw [if_neg (by omega)]
    by_cases y : e = d ∧ j = k
    · rw [if_pos y, if_pos (by omega)]
    · rw [if_neg y, if_neg (by omega)]
      by_cases y2 : e = d ∧ k < j ∧ j ≤ a (65 + d)
      · rw [if_pos y2, if_pos (by obtain ⟨rfl, y3⟩ := y2; omega)]
        congr 1
        omega
      · rw [if_neg y2, if_neg (by
          intro z
          apply y2
          have : e = d := by omega
          subst this
          exact ⟨rfl, by omega, by omega⟩)]
  have hne : ∀ e j, 0 ≤ e → e < a 0 → 0 ≤ j → j < a (65 + e) → a (71 + 8 * e + j) ≠ t := by
    intro e j g0 g1 g2 g3 z
    have := (q2 e j g0 g1 g2 g3).2.2.1
    rw [z] at this
    omega
  refine ⟨fun e g0 g1 => ?_, fun e j g0 g1 g2 g3 => ?_, fun o g0 g1 => ?_⟩
  · rw [es 0 (by omega)] at g1
    rw [e65 e g0 (by omega)]
    have := q1 e g0 g1
    split
    · rename_i y; subst y; omega
    · exact this
  · rw [es 0 (by omega)] at g1
    rw [e65 e g0 (by omega)] at g3
    have hre := q1 e g0 g1
    have hj8 : j < 8 := by
      split at g3
      · rename_i y; subst y; omega
      · omega
    rw [e71 e j g0 g1 g2 hj8]
    by_cases y : e = d ∧ j = k
    · rw [if_pos y, zup_s, zup_s]
      obtain ⟨rfl, rfl⟩ := y
      refine ⟨?_, ?_, rfl, rfl⟩
      · rw [es 1 (by omega)]; exact ⟨ht0, ht1⟩
      · rw [es _ (by omega), es _ (by omega)]; exact hkd
    · rw [if_neg y]
      by_cases y2 : e = d ∧ k < j ∧ j ≤ a (65 + d)
      · rw [if_pos y2]
        obtain ⟨rfl, y3⟩ := y2
        obtain ⟨r1, r2, r3, r4⟩ := q2 e (j - 1) g0 g1 (by omega) (by omega)
        have hn := hne e (j - 1) g0 g1 (by omega) (by omega)
        refine ⟨?_, ?_, ?_, ?_⟩
        · rw [es 1 (by omega)]; exact r1
        · rw [es _ (by omega), es _ (by omega)]; exact r2
        · rw [zup_n _ _ hn]; exact r3
        · rw [zup_n _ _ hn]
          unfold p_r2
          rw [if_pos ⟨⟨r1.1, by omega⟩, r3, by omega⟩]
          omega
      · rw [if_neg y2]
        have hjr : j < a (65 + e) := by
          split at g3
          · rename_i z; subst z
            rcases Int.lt_or_le j (a (65 + e)) with w | w
            · exact w
            · exact absurd ⟨rfl, by omega, by omega⟩ y2
          · exact g3
        obtain ⟨r1, r2, r3, r4⟩ := q2 e j g0 g1 g2 hjr
        have hn := hne e j g0 g1 g2 hjr
        refine ⟨?_, ?_, ?_, ?_⟩
        · rw [es 1 (by omega)]; exact r1
        · rw [es _ (by omega), es _ (by omega)]; exact r2
        · rw [zup_n _ _ hn]; exact r3
        · rw [zup_n _ _ hn]
          unfold p_r2
          rw [if_neg (by
            rintro ⟨-, z1, z2⟩
            have : e = d := by omega
            subst this
            exact y2 ⟨rfl, by omega, by omega⟩)]
          exact r4
  · by_cases ho : o = t
    · right
      subst ho
      rw [zup_s, zup_s, es 1 (by omega), es 0 (by omega), e65 _ hd0 (by omega), e71 _ _ hd0 hd1 hk0 (by omega), if_pos rfl, if_pos ⟨rfl, rfl⟩]
      exact ⟨ht1, ⟨hd0, hd1⟩, by omega, rfl⟩
    · rw [zup_n _ _ ho, zup_n _ _ ho]
      rcases q4 o ho g0 g1 with ⟨z1, z2⟩ | ⟨z0, z1, z2, z3⟩
      · left
        refine ⟨z1, ?_⟩
        unfold p_r2
        rw [if_neg (by omega)]
        exact z2
      · right
        have hre := q1 _ z1.1 z1.2
        rw [es 1 (by omega), es 0 (by omega), e65 _ z1.1 (by omega)]
        by_cases y : P0 o = d
        · rw [if_pos y]
          by_cases y2 : k ≤ P1 o
          · have e9 : p_r2 P0 P1 d k o = P1 o + 1 := by unfold p_r2; rw [if_pos ⟨⟨g0, g1⟩, y, y2⟩]
            rw [e9, e71 _ _ z1.1 z1.2 (by omega) (by rw [y] at z2; omega), if_neg (fun w => by omega), if_pos ⟨y, by omega, by rw [y] at z2; omega⟩, show P1 o + 1 - 1 = P1 o by omega]
            exact ⟨z0, z1, by omega, z3⟩
          · have e9 : p_r2 P0 P1 d k o = P1 o := by unfold p_r2; rw [if_neg (fun w => y2 w.2.2)]
            rw [e9, e71 _ _ z1.1 z1.2 z2.1 (by omega), if_neg (fun w => by omega), if_neg (fun w => by omega)]
            exact ⟨z0, z1, by omega, z3⟩
        · have e9 : p_r2 P0 P1 d k o = P1 o := by unfold p_r2; rw [if_neg (fun w => y w.2.1)]
          rw [if_neg y, e9, e71 _ _ z1.1 z1.2 z2.1 (by omega), if_neg (fun w => y w.1), if_neg (fun w => y w.1)]
          exact ⟨z0, z1, z2, z3⟩
