/-! Counts of rows; what a run begins with. -/
theorem zcnt_add {p q s : Int → Bool} {n : Int} (hn : 0 ≤ n) (h : ∀ i, 0 ≤ i → i < n → s i = (p i || q i) ∧ ¬ (p i = true ∧ q i = true)) : zcnt s n = zcnt p n + zcnt q n := by
  refine zfor_ind (fun i b => b = zcnt p i + zcnt q i) (n := n) rfl (fun i b h1 h2 h3 => ?_) n hn (Int.le_refl n)
  obtain ⟨e1, e2⟩ := h i h1 h2
  rw [zcnt_S p h1, zcnt_S q h1, h3, e1]
  cases hp : p i <;> cases hq : q i
  · simp
  · simp; omega
  · simp; omega
  · exact absurd ⟨hp, hq⟩ e2
theorem zcnt_ext {p : Int → Bool} {n k : Int} (h0 : 0 ≤ n) (hk : n ≤ k) (h : ∀ i, n ≤ i → i < k → p i = false) : zcnt p k = zcnt p n := by
  have key : ∀ j : Nat, n + j ≤ k → zcnt p (n + j) = zcnt p n := by
    intro j
    induction j with
    | zero => intro _; rw [show n + ((0 : Nat) : Int) = n by omega]
    | succ j ih =>
      intro hj
      rw [show n + ((j + 1 : Nat) : Int) = (n + j) + 1 by omega, zcnt_S p (by omega), h _ (by omega) (by omega), ih (by omega)]
      simp
  have := key (k - n).toNat (by omega)
  rwa [show n + (((k - n).toNat : Nat) : Int) = k by omega] at this
/-- a row's length, by the class's plan -/
theorem p_len_eq {pl : zOb} {a : Int → Int} (hwa : WFa a) (hwr : WFr a) (hP : PLE pl a) {d : Int} (h0 : 0 ≤ d) (h1 : d < a 0) : p_len pl d = a (65 + d) := by
  have h8 := hwa.2.1
  have hr := hwr.1 d h0 h1
  have key : ∀ k : Nat, (k : Int) ≤ a (65 + d) → zcnt (fun t => decide (pl.2 0 t = d ∧ pl.2 1 t < k)) 8 = k := by
    intro k
    induction k with
    | zero =>
      intro _
      refine zcnt_none (fun t q0 q1 => decide_eq_false ?_)
      rintro ⟨y1, y2⟩
      rcases hP.2 t q0 q1 with z | z
      · omega
      · omega
    | succ k ih =>
      intro hk
      obtain ⟨r1, r2, -⟩ := hwr.2.1 d k h0 h1 (by omega) (by omega)
      have hpos : pl.2 0 (a (71 + 8 * d + k)) = d ∧ pl.2 1 (a (71 + 8 * d + k)) = k := by
        rcases hP.2 _ r1 (by omega) with ⟨-, -, z3⟩ | ⟨z0, z1, z2, z3⟩
        · exact absurd rfl (z3 d k h0 h1 (by omega) (by omega))
        · exact hwr.2.2 _ _ d k z1.1 z1.2 z2.1 z2.2 h0 h1 (by omega) (by omega) z3
      have := zcnt_one (p := fun t => decide (pl.2 0 t = d ∧ pl.2 1 t < (k : Int))) (q := fun t => decide (pl.2 0 t = d ∧ pl.2 1 t < ((k + 1 : Nat) : Int))) (n := 8) (k := a (71 + 8 * d + k)) r1 (by omega) (decide_eq_false (by omega)) (decide_eq_true (by omega)) (fun t q0 q1 q2 => by
        by_cases y : pl.2 0 t = d ∧ pl.2 1 t = k
        · exfalso
          rcases hP.2 t q0 q1 with z | ⟨z0, z1, z2, z3⟩
          · omega
          · rw [y.1, y.2] at z3
            exact q2 z3.symm
        · by_cases y2 : pl.2 0 t = d ∧ pl.2 1 t < (k : Int)
          · rw [decide_eq_true y2, decide_eq_true (by omega)]
          · rw [decide_eq_false y2, decide_eq_false (by omega)])
      rw [this, ih (by omega)]
      omega
  have hk := key (a (65 + d)).toNat (by omega)
  rw [show (((a (65 + d)).toNat : Nat) : Int) = a (65 + d) by omega] at hk
  rw [← hk]
  refine zcnt_congr (fun t q0 q1 => ?_)
  by_cases y : pl.2 0 t = d
  · rw [decide_eq_true y]
    rcases hP.2 t q0 q1 with z | ⟨z0, z1, z2, z3⟩
    · omega
    · rw [decide_eq_true ⟨y, by rw [y] at z2; omega⟩]
  · rw [decide_eq_false y, decide_eq_false (fun z => y z.1)]
/-- trucks in rows -/
theorem p_all_eq {pl : zOb} {a : Int → Int} (hwa : WFa a) (hwr : WFr a) (hP : PLE pl a) : zcnt (fun t => decide (pl.2 0 t ≠ -1)) (a 1) = zsum (fun d => a (65 + d)) (a 0) := by
  have h8 := hwa.2.1
  have h6 := hwa.1
  have key : ∀ e, 0 ≤ e → e ≤ a 0 → zcnt (fun t => decide (0 ≤ pl.2 0 t ∧ pl.2 0 t < e)) 8 = zsum (fun d => a (65 + d)) e := by
    have key2 : ∀ n : Nat, (n : Int) ≤ a 0 → zcnt (fun t => decide (0 ≤ pl.2 0 t ∧ pl.2 0 t < n)) 8 = zsum (fun d => a (65 + d)) n := by
      intro n
      induction n with
      | zero =>
        intro _
        exact zcnt_none (fun t _ _ => decide_eq_false (by omega))
      | succ n ih =>
        intro hn
        rw [show ((n + 1 : Nat) : Int) = (n : Int) + 1 by omega, zsum_S _ (by omega), ← ih (by omega), ← p_len_eq hwa hwr hP (d := n) (by omega) (by omega)]
        unfold p_len
        refine zcnt_add (by omega) (fun t _ _ => ⟨?_, ?_⟩)
        · by_cases y : pl.2 0 t = n
          · rw [decide_eq_true y, Bool.or_true, decide_eq_true (by omega)]
          · rw [decide_eq_false y, Bool.or_false]
            by_cases y2 : 0 ≤ pl.2 0 t ∧ pl.2 0 t < (n : Int)
            · rw [decide_eq_true y2, decide_eq_true (by omega)]
            · rw [decide_eq_false y2, decide_eq_false (by omega)]
        · rintro ⟨y1, y2⟩
          have y1 := of_decide_eq_true y1
          have y2 := of_decide_eq_true y2
          omega
    intro e g1 g2
    have := key2 e.toNat (by omega)
    rwa [show ((e.toNat : Nat) : Int) = e by omega] at this
  rw [← key (a 0) h6.1 (Int.le_refl _), zcnt_ext (n := a 1) (k := 8) h8.1 h8.2]
  · refine zcnt_congr (fun t q0 q1 => ?_)
    rcases hP.2 t q0 (by omega) with ⟨z, -⟩ | ⟨z0, z1, z2, z3⟩
    · rw [decide_eq_false (fun y => y z), decide_eq_false (by omega)]
    · rw [decide_eq_true (by omega), decide_eq_true z1]
  · intro t q0 q1
    rcases hP.2 t (by omega) q1 with ⟨z, -⟩ | ⟨z0, z1, z2, z3⟩
    · exact decide_eq_false (by omega)
    · omega
theorem ini_facts {m : zOb} (hwa : WFa (m.2 1)) (hwr : WFr (m.2 1)) : (∀ t, 0 ≤ t → t < m.2 1 1 → (s_ini m).2 27 t = -1 ∧ (s_ini m).2 28 t = -1 ∧ (s_ini m).2 29 t = 0) ∧ (∀ c, 0 ≤ c → c < (s_ini m).1 20 → (s_ini m).2 23 c = -1 ∧ (s_ini m).2 24 c = -1 ∧ (s_ini m).2 25 c = -1 ∧ (s_ini m).2 26 c = -1) ∧ (∀ d, 0 ≤ d → d < m.2 1 0 → (s_ini m).2 32 d = 0 ∧ (s_ini m).2 33 d = 0 ∧ (s_ini m).2 34 d = 0) := by
  have hq := LQ_lt hwa (m := m) rfl (t := m.2 1 1) hwa.2.1.1 (Int.le_refl _)
  have e0 : s_lt m = zfor s_l1 (m.2 1 1) (oss m 20 0) := rfl
  rw [← e0] at hq
  obtain ⟨q1, q2, q3, q4, q5⟩ := hq
  have hd := LD_ld hwr (m0 := s_lt m) q1 (fun t g1 g2 => ⟨(q5 t g1 g2).2.2.2.1, (q5 t g1 g2).2.2.2.2⟩) (e := m.2 1 0) hwa.1.1 (Int.le_refl _)
  have e2 : s_lay m = zfor s_ld (m.2 1 0) (s_lt m) := rfl
  rw [← e2] at hd
  obtain ⟨h1, h2, h3, h4, h5, h6, h7, h8, h9, h10, h11, h12, h13⟩ := hd
  refine ⟨fun t g0 g1 => ?_, fun c g0 g1 => ?_, fun d g0 g1 => h12 d g0 (Or.inl g1)⟩
  · show (s_lay m).2 27 t = -1 ∧ (s_lay m).2 28 t = -1 ∧ (s_lay m).2 29 t = 0
    rw [h9, h10, h11]
    have := q5 t g0 g1
    exact ⟨this.1, this.2.1, this.2.2.1⟩
  · have g1' : c < (s_lay m).1 20 := g1
    show (s_lay m).2 23 c = -1 ∧ (s_lay m).2 24 c = -1 ∧ (s_lay m).2 25 c = -1 ∧ (s_lay m).2 26 c = -1
    rw [h5, h6, h7, h8]
    exact q4 c g0 (by rw [← q2, ← h2]; exact g1')
/-- the class's run as it is when all stands ready -/
def RB (dk pl : zOb) (a : Int → Int) (Y : zOb) : Prop :=
  (∀ j, (j = 2 ∨ j = 3 ∨ j = 5 ∨ j = 6 ∨ j = 7 ∨ j = 8 ∨ j = 10) → ∀ n, Y.2 j n = -1) ∧ (∀ j, (j = 4 ∨ j = 12 ∨ j = 13) → ∀ n, Y.2 j n = 0) ∧ Y.1 15 = a 2 ∧ Y.1 16 = 0
theorem RR_ini {dk pl Y m : zOb} (hwa : WFa (m.2 1)) (hwr : WFr (m.2 1)) (hE : DKE dk (m.2 1)) (hP : PLE pl (m.2 1)) (hB : RB dk pl (m.2 1) Y) (hn : ∀ d, 0 ≤ d → d < m.2 1 0 → Y.2 11 d = p_at pl d 0) (hu : Y.1 17 = zcnt (fun t => decide (pl.2 0 t ≠ -1)) (m.2 1 1)) (hx : ∀ z, 0 ≤ z → z ≤ 3 → Y.2 14 z = zcnt (fun c => decide (pl.2 0 (dk.2 14 c) ≠ -1 ∧ dk.2 15 c = z)) (dk.1 2)) : RR Y (s_ini m) := by
  obtain ⟨f1, f2, f3⟩ := ini_facts hwa hwr
  obtain ⟨k1, k2, k3⟩ := ini_ok hwa hwr
  obtain ⟨b1, b2, b3, b4⟩ := hB
  have hnc := k1.2.2.2.1
  refine ⟨fun t q0 q1 => ?_, fun c q0 q1 => ?_, fun d q0 q1 => ?_, fun z q0 q1 => ⟨?_, ?_⟩, ?_, ?_, ?_⟩
  · rw [k3] at q1
    obtain ⟨g1, g2, g3⟩ := f1 t q0 q1
    rw [g1, g2, g3, b1 2 (by omega), b1 3 (by omega), b2 4 (by omega)]
    exact ⟨rfl, rfl, rfl⟩
  · obtain ⟨g1, g2, g3, g4⟩ := f2 c q0 q1
    rw [g1, g2, g3, g4, b1 5 (by omega), b1 6 (by omega), b1 7 (by omega), b1 8 (by omega)]
    exact ⟨rfl, rfl, rfl, rfl, fun y => absurd rfl y⟩
  · rw [k3] at q1 ⊢
    obtain ⟨g1, g2, g3⟩ := f3 d q0 q1
    rw [g1, g2, g3, b1 10 (by omega), b2 12 (by omega), hn d q0 q1, p_at_eq hwa hwr hP q0 q1]
    refine ⟨rfl, ?_, rfl⟩
    rw [show (0 : Int) + 0 = 0 from rfl]
    by_cases y : 0 < m.2 1 (65 + d)
    · rw [if_pos ⟨Int.le_refl 0, y⟩, if_pos y]
    · rw [if_neg (fun y2 => y y2.2), if_neg y]
  · rw [b2 13 (by omega)]
    exact (zcnt_none (fun i g0 g1 => decide_eq_false (fun y => y.1 (f2 i g0 g1).1))).symm
  · rw [hx z q0 q1, hE.2.2.1, ← k3, ← k1.2.2.1]
    unfold s_x
    refine zcnt_congr (fun i g0 g1 => ?_)
    have hE2 : DKE dk ((s_ini m).2 1) := by rw [k3]; exact hE
    have hP2 : PLE pl ((s_ini m).2 1) := by rw [k3]; exact hP
    have hc := env_c k1 hE2 g0 g1
    have hct := (k1.2.2.2.2.1 i g0 g1).1
    have hd := (env_d k1 hP2 hct.1 hct.2).1
    rw [hc.1, hc.2, hd]
    have h24 := (f2 i g0 g1).2.1
    by_cases y : (s_ini m).2 30 ((s_ini m).2 21 i) ≠ -1 ∧ (s_ini m).2 22 i = z
    · rw [decide_eq_true y, decide_eq_true ⟨h24, y.2, y.1⟩]
    · rw [decide_eq_false y, decide_eq_false (fun y2 => y ⟨y2.2.2, y2.2.1⟩)]
  · rw [b3, k3]
  · rw [b4]
    exact rfl
  · rw [hu, p_all_eq hwa hwr hP]
    unfold s_u
    rw [k3]
    refine zsum_congr (fun i g0 g1 => ?_)
    rw [(f3 i g0 g1).1]
    omega
