/-! The state behind the constructors. -/
def s0a : Int → Int := fun i => if i = 2 then 10 else if i = 3 then 2 else if i = 121 then -1 else 0
def s0c (c : Nat) : zOb := match c with
  | 0 => (fun j => if j = 0 then 11 else 0, fun j n => if j = 0 then (if 0 ≤ n ∧ n < 8 then 11 + n else 11) else 0)
  | 1 => (fun j => if j = 3 then 10 else if j = 4 then 2 else 0, fun _ _ => 0)
  | 3 => (fun _ => 0, fun j _ => if j = 2 then 0 else -1)
  | 4 => (fun j => if j = 5 then -1 else 0, fun _ _ => 0)
  | 5 => (fun _ => 0, fun j _ => if j = 2 then -1 else if j = 3 then -1 else if j = 5 then -1 else if j = 6 then -1 else 0)
  | 7 => (fun j => if j = 9 then 19 else if j = 11 then -1 else 0, fun j n => if j = 9 then (if n = 1 then 23 else if n = 2 then 27 else 19) else 0)
  | 8 => (fun _ => 0, fun j n => if j = 1 then s0a n else 0)
  | _ => (fun _ => 0, fun _ _ => 0)
def s0 : zS := fun o => s0c (zoc o)
theorem zfd78 : ∀ c j, ¬ (c = 0 ∧ j = 0) → ¬ (c = 7 ∧ j = 9) → (zfd c j).1 ≠ 7 ∧ (zfd c j).1 ≠ 8 := by
  intro c j h1 h2
  rcases Nat.lt_or_ge j 60 with q | q
  · rcases Nat.lt_or_ge c 9 with q2 | q2
    · have key : ((List.range 9).all fun c => (List.range 60).all fun j => (c == 0 && j == 0) || (c == 7 && j == 9) || ((zfd c j).1 != 7 && (zfd c j).1 != 8)) = true := by decide +kernel
      have k2 := List.all_eq_true.mp (List.all_eq_true.mp key c (List.mem_range.mpr q2)) j (List.mem_range.mpr q)
      simp only [Bool.or_eq_true, Bool.and_eq_true, beq_iff_eq, bne_iff_ne] at k2
      rcases k2 with (k2 | k2) | k2
      · exact absurd k2 h1
      · exact absurd k2 h2
      · exact k2
    · have : zfL c = [] := by
        match c, q2 with
        | c + 9, _ => rfl
      unfold zfd
      rw [this]
      exact ⟨by simp, by simp⟩
  · unfold zfd
    rw [zgd (Nat.le_trans (zfL_len c) q)]
    exact ⟨by decide, by decide⟩
theorem zrK_0 {k : Nat} (h : k ≠ 7 ∧ k ≠ 8) : zrK k 0 := by
  unfold zrK
  split <;> first | omega | exact absurd rfl h.1 | exact absurd rfl h.2
theorem zrK_i {k : Nat} {v : Int} (h : k = 0 ∨ k = 4) (h1 : -2147483648 ≤ v ∧ v ≤ 2147483647) : zrK k v := by
  rcases h with q | q <;> subst q <;> exact h1
theorem zRG_0 : zRG s0 := by
  refine ⟨fun o j => ?_, fun o j n => ?_⟩
  · show zrK (zfd (zoc o) j).1 ((s0c (zoc o)).1 j)
    generalize zoc o = c
    have h0 : ∀ c, ¬ (c = 0 ∧ j = 0) → ¬ (c = 7 ∧ j = 9) → zrK (zfd c j).1 0 := fun c a b => zrK_0 (zfd78 c j a b)
    unfold s0c
    split
    · by_cases a : j = 0
      · subst a; exact ⟨by decide, by decide⟩
      · simp only [if_neg a]; exact h0 0 (by omega) (by omega)
    · by_cases a : j = 3
      · subst a; exact zrK_i (by decide) (by decide)
      · by_cases b : j = 4
        · subst b; exact zrK_i (by decide) (by decide)
        · simp only [if_neg a, if_neg b]; exact h0 1 (by omega) (by omega)
    · exact h0 3 (by omega) (by omega)
    · by_cases a : j = 5
      · subst a; exact zrK_i (by decide) (by decide)
      · simp only [if_neg a]; exact h0 4 (by omega) (by omega)
    · exact h0 5 (by omega) (by omega)
    · by_cases a : j = 9
      · subst a; exact ⟨by decide, by decide⟩
      · by_cases b : j = 11
        · subst b; exact zrK_i (by decide) (by decide)
        · simp only [if_neg a, if_neg b]; exact h0 7 (by omega) (by omega)
    · exact h0 8 (by omega) (by omega)
    · exact h0 _ (by rintro ⟨rfl, _⟩; contradiction) (by rintro ⟨rfl, _⟩; contradiction)
  · show zrK (zfd (zoc o) j).1 ((s0c (zoc o)).2 j n)
    generalize zoc o = c
    have h0 : ∀ c, ¬ (c = 0 ∧ j = 0) → ¬ (c = 7 ∧ j = 9) → zrK (zfd c j).1 0 := fun c a b => zrK_0 (zfd78 c j a b)
    unfold s0c
    split
    · by_cases a : j = 0
      · subst a
        show zrK (zfd 0 0).1 (if 0 ≤ n ∧ n < 8 then 11 + n else 11)
        by_cases b : 0 ≤ n ∧ n < 8
        · rw [if_pos b]
          refine ⟨by omega, ?_⟩
          have : n = 0 ∨ n = 1 ∨ n = 2 ∨ n = 3 ∨ n = 4 ∨ n = 5 ∨ n = 6 ∨ n = 7 := by omega
          rcases this with q | q | q | q | q | q | q | q <;> subst q <;> rfl
        · rw [if_neg b]; exact ⟨by decide, by decide⟩
      · simp only [if_neg a]; exact h0 0 (by omega) (by omega)
    · exact h0 1 (by omega) (by omega)
    · by_cases a : j = 2
      · simp only [if_pos a]; exact h0 3 (by omega) (by omega)
      · simp only [if_neg a]
        by_cases b : j = 0
        · subst b; exact zrK_i (v := -1) (by decide) (by decide)
        · by_cases c : j = 1
          · subst c; exact zrK_i (v := -1) (by decide) (by decide)
          · by_cases e : j = 3
            · subst e; exact zrK_i (v := -1) (by decide) (by decide)
            · have : zfd 3 j = (99, 0) := by unfold zfd; exact zgd (by show 4 ≤ j; omega)
              rw [this]; exact ⟨by decide, by decide⟩
    · exact h0 4 (by omega) (by omega)
    · by_cases a : j = 2
      · subst a; exact zrK_i (v := -1) (by decide) (by decide)
      · by_cases b : j = 3
        · subst b; exact zrK_i (v := -1) (by decide) (by decide)
        · by_cases c : j = 5
          · subst c; exact zrK_i (v := -1) (by decide) (by decide)
          · by_cases e : j = 6
            · subst e; exact zrK_i (v := -1) (by decide) (by decide)
            · simp only [if_neg a, if_neg b, if_neg c, if_neg e]; exact h0 5 (by omega) (by omega)
    · by_cases a : j = 9
      · subst a
        show zrK (zfd 7 9).1 (if n = 1 then 23 else if n = 2 then 27 else 19)
        split
        · exact ⟨by decide, by decide⟩
        · split
          · exact ⟨by decide, by decide⟩
          · exact ⟨by decide, by decide⟩
      · simp only [if_neg a]; exact h0 7 (by omega) (by omega)
    · by_cases a : j = 1
      · subst a
        show zrK (zfd 8 1).1 (s0a n)
        refine zrK_i (by decide) ?_
        unfold s0a
        split
        · decide
        · split
          · decide
          · split <;> decide
      · simp only [if_neg a]; exact h0 8 (by omega) (by omega)
    · exact h0 _ (by rintro ⟨rfl, _⟩; contradiction) (by rintro ⟨rfl, _⟩; contradiction)
theorem REL_0 : REL s0 := by
  have a0 : s0a 0 = 0 := rfl
  have a1 : s0a 1 = 0 := rfl
  have fs : a_fs s0a 0 = 0 := rfl
  have hT : OKT ((fun _ => -1, fun _ => -1, s0a) : T3) := by
    refine ⟨⟨by decide, by decide, by decide, by decide, by decide, fun d h0 h1 => ?_, fun t h0 h1 => ?_, ?_⟩, ⟨fun e h0 h1 => ?_, fun e j h0 h1 => ?_, fun t _ _ => Or.inl ⟨rfl, rfl⟩⟩, fun t d h0 h1 => ?_⟩
    · have h1 : d < s0a 0 := h1
      rw [a0] at h1; omega
    · have h1 : t < s0a 1 := h1
      rw [a1] at h1; omega
    · show a_fs s0a (s0a 1) ≤ 40
      rw [a1, fs]; decide
    · have h1 : e < s0a 0 := h1
      rw [a0] at h1; omega
    · have h1 : e < s0a 0 := h1
      rw [a0] at h1; omega
    · have h1 : t < s0a 1 := h1
      rw [a1] at h1; omega
  obtain ⟨k1, k2, k3, k4⟩ := hT.run
  have k3 : (ra s0a).2 1 = s0a := k3
  have n0 : (ra s0a).1 20 = 0 := by
    have := k1.2.2.1
    rw [k3] at this
    have e : a_fs s0a (s0a 1) = 0 := by rw [a1, fs]
    show (ra s0a).1 20 = 0
    rw [← e]
    exact this
  refine ⟨⟨⟨by decide, by decide⟩, rfl, fun _ _ _ => rfl⟩, ⟨rfl, rfl⟩, ⟨(fun _ => -1, fun _ => -1, s0a), hT, rfl, ⟨⟨rfl, rfl, ?_, rfl, fun d h0 h1 => ?_, fun t h0 h1 => ?_, fun c h0 h1 => ?_⟩, rfl, ⟨rfl, rfl, fun t h0 h1 => ?_, rfl⟩, fun t h0 h1 => ?_, fun c h0 h1 => ?_, ?_⟩⟩, ⟨⟨⟨fun i h0 h1 => ?_, fun i j h0 h1 g0 g1 e => ?_⟩, by decide, by decide⟩, rfl, fun i h0 h1 => ?_⟩, ⟨rfl, rfl, rfl⟩, ?_, ?_, ?_⟩
  · show (0 : Int) = a_fs s0a (s0a 1)
    rw [a1, fs]
  · have h1 : d < s0a 0 := h1
    rw [a0] at h1; omega
  · have h1 : t < s0a 1 := h1
    rw [a1] at h1; omega
  · have h1 : c < a_fs s0a (s0a 1) := h1
    rw [a1, fs] at h1; omega
  · have h1 : t < s0a 1 := h1
    rw [a1] at h1; omega
  · have h1 : t < (ra s0a).2 1 1 := h1
    rw [k3, a1] at h1; omega
  · have h1 : c < (ra s0a).1 20 := h1
    rw [n0] at h1; omega
  · show (0 : Int) = s_cost (ra s0a)
    unfold s_cost s_lc s_far s_ss s_on
    rw [n0, k3, a1]
    rfl
  · have e : (s0 10).2 0 i = if 0 ≤ i ∧ i < 8 then 11 + i else 11 := rfl
    rw [e, if_pos ⟨h0, h1⟩]; omega
  · have e1 : (s0 10).2 0 i = if 0 ≤ i ∧ i < 8 then 11 + i else 11 := rfl
    have e2 : (s0 10).2 0 j = if 0 ≤ j ∧ j < 8 then 11 + j else 11 := rfl
    rw [e1, e2, if_pos ⟨h0, h1⟩, if_pos ⟨g0, g1⟩] at e; omega
  · have h1 : i < 0 := h1
    omega
  · exact ⟨rfl, Or.inl rfl, fun h => absurd h (by decide)⟩
  · exact ⟨rfl, Or.inl rfl, fun h => absurd h (by decide)⟩
  · exact ⟨rfl, Or.inl rfl, fun h => absurd h (by decide)⟩
