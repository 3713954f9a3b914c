/-! A run reads the first 119 places of the table only. -/
def A119 (a b : Int → Int) : Prop := ∀ i, 0 ≤ i → i < 119 → b i = a i
def AR4 (a b : Int → Int) : Prop := ∀ i, 0 ≤ i → i < 119 → i ≠ 4 → b i = a i
theorem A119.r4 {a b : Int → Int} (h : A119 a b) : AR4 a b := fun i h0 h1 _ => h i h0 h1
theorem osa_c1 (m : zOb) (b : Int → Int) {j : Nat} (hj : j ≠ 1) (n v : Int) : osa (osA m 1 b) j n v = osA (osa m j n v) 1 b := by
  unfold osa osA
  refine Prod.ext rfl (funext fun i => ?_)
  simp only
  by_cases h1 : i = 1
  · subst h1
    rw [if_neg (fun z => hj z.symm), if_pos rfl]
    simp
  · by_cases h2 : i = j
    · subst h2; simp [h1]
    · simp [h1, h2]
theorem oss_c1 (m : zOb) (b : Int → Int) (j : Nat) (v : Int) : oss (osA m 1 b) j v = osA (oss m j v) 1 b := rfl
theorem tb_tr {m : zOb} {b : Int → Int} {d : Int} (hA : AR4 (m.2 1) b) (h0 : 0 ≤ d ∧ d ≤ 5) (h1 : 0 ≤ m.2 32 d ∧ m.2 32 d ≤ 7) : s_tr (osA m 1 b) d = s_tr m d := by
  show b (71 + 8 * d + m.2 32 d) = m.2 1 (71 + 8 * d + m.2 32 d)
  exact hA _ (by omega) (by omega) (by omega)
theorem tb_lv {m : zOb} {b : Int → Int} {d : Int} (hA : AR4 (m.2 1) b) (h0 : 0 ≤ d ∧ d ≤ 5) (h1 : 0 ≤ m.2 32 d ∧ m.2 32 d ≤ 7) : s_lv d (osA m 1 b) = osA (s_lv d m) 1 b := by
  have e1 : s_tr (osA m 1 b) d = s_tr m d := tb_tr hA (by omega) (by omega)
  have e3 : (osA m 1 b).2 1 3 = m.2 1 3 := hA 3 (by omega) (by omega) (by omega)
  unfold s_lv
  rw [e1, e3, osa_c1 _ _ (by decide), osa_c1 _ _ (by decide), osa_c1 _ _ (by decide), osa_c1 _ _ (by decide)]
  rfl
theorem tb_dk {m : zOb} {b : Int → Int} {d : Int} (hS : SI m) (hD : DI (-1) m) (hA : AR4 (m.2 1) b) (h0 : 0 ≤ d) (h1 : d < m.2 1 0) : s_dk d (osA m 1 b) = osA (s_dk d m) 1 b := by
  have h6 := hS.1.1
  have h8 := hS.1.2.1
  have hr := hS.2.1.1 d h0 h1
  have ht := (hD.1 d h0 h1).1
  have e65 : (osA m 1 b).2 1 (65 + d) = m.2 1 (65 + d) := hA _ (by omega) (by omega) (by omega)
  unfold s_dk
  rw [e65, show (osA m 1 b).2 33 d = m.2 33 d from rfl, show (osA m 1 b).2 32 d = m.2 32 d from rfl, show (osA m 1 b).2 34 d = m.2 34 d from rfl, show (osA m 1 b).1 35 = m.1 35 from rfl]
  by_cases y : m.2 32 d < m.2 1 (65 + d)
  · have e1 : s_tr (osA m 1 b) d = s_tr m d := tb_tr hA (by omega) (by omega)
    have hro : 0 ≤ s_tr m d ∧ s_tr m d < m.2 1 1 ∧ _ := hS.2.1.2.1 d (m.2 32 d) h0 h1 ht.1 y
    have e2 : (osA m 1 b).2 1 (17 + 6 * s_tr m d + 1) = m.2 1 (17 + 6 * s_tr m d + 1) := hA _ (by omega) (by omega) (by omega)
    rw [e1, e2]
    split
    · rw [osa_c1 _ _ (by decide), osa_c1 _ _ (by decide)]
    · rfl
  · rw [if_neg (fun z => y z.2.1), if_neg (fun z => y z.2.1)]
theorem tb_way {m : zOb} {b : Int → Int} {c d : Int} (hS : SI m) (hA : AR4 (m.2 1) b) (h0 : 0 ≤ d) (h1 : d < m.2 1 0) (c0 : 0 ≤ c) (c1 : c < m.1 20) (hne : m.2 30 (m.2 21 c) ≠ -1) : s_way (osA m 1 b) c d = s_way m c d := by
  have h6 := hS.1.1
  have hct := (hS.2.2.2.2.1 c c0 c1).1
  have hdo := hS.2.2.2.2.2.2 (m.2 21 c) hct.1 hct.2
  have hd : -1 ≤ m.2 30 (m.2 21 c) ∧ m.2 30 (m.2 21 c) ≤ 5 := by
    rcases hdo with z | z
    · omega
    · omega
  unfold s_way
  have e1 : (osA m 1 b).2 1 (5 + 2 * m.2 30 (m.2 21 c) + 1) = m.2 1 (5 + 2 * m.2 30 (m.2 21 c) + 1) := hA _ (by omega) (by omega) (by omega)
  have e2 : (osA m 1 b).2 1 (5 + 2 * d + 1) = m.2 1 (5 + 2 * d + 1) := hA _ (by omega) (by omega) (by omega)
  rw [show (osA m 1 b).2 30 = m.2 30 from rfl, show (osA m 1 b).2 21 = m.2 21 from rfl, e1, e2]
theorem tb_best {m : zOb} {b : Int → Int} {d : Int} (hS : SI m) (hD : DI (-1) m) (hA : AR4 (m.2 1) b) (h0 : 0 ≤ d) (h1 : d < m.2 1 0) (hst : m.2 33 d = 1) : s_best (osA m 1 b) d (m.1 20) = s_best m d (m.1 20) := by
  have h6 := hS.1.1
  have h8 := hS.1.2.1
  have htr := tr_ok hS hD h0 h1 hst
  have hr := hS.2.1.1 d h0 h1
  have e1 : s_tr (osA m 1 b) d = s_tr m d := tb_tr hA (by omega) (by omega)
  have e2 : (osA m 1 b).2 1 (17 + 6 * s_tr m d + 2) = m.2 1 (17 + 6 * s_tr m d + 2) := hA _ (by omega) (by omega) (by omega)
  refine zfor_congr (fun c v g0 g1 => ?_)
  have : s_can (osA m 1 b) d c = s_can m d c := by
    unfold s_can
    by_cases y : m.2 23 c = -1
    · rw [decide_eq_false (fun z => z.1 y), decide_eq_false (fun z => z.1 y)]
    · rw [e1, e2, tb_way hS hA h0 h1 g0 g1 ((hD.2.2.2.2.2.2.1 c g0 g1).2.2.1 y)]
      rfl
  rw [this]
  rfl
theorem tb_po {m : zOb} {b : Int → Int} {d : Int} (hS : SI m) (hD : DI (-1) m) (hA : AR4 (m.2 1) b) (h0 : 0 ≤ d) (h1 : d < m.2 1 0) (hst : m.2 33 d = 1) : s_po d (osA m 1 b) = osA (s_po d m) 1 b := by
  have h6 := hS.1.1
  have h8 := hS.1.2.1
  have htr := tr_ok hS hD h0 h1 hst
  have hr := hS.2.1.1 d h0 h1
  have hn := hS.2.2.2.1
  have e1 : s_tr (osA m 1 b) d = s_tr m d := tb_tr hA (by omega) (by omega)
  have e4 : (osA m 1 b).2 1 (17 + 6 * s_tr m d + 4) = m.2 1 (17 + 6 * s_tr m d + 4) := hA _ (by omega) (by omega) (by omega)
  unfold s_po
  rw [show (osA m 1 b).1 20 = m.1 20 from rfl, tb_best hS hD hA h0 h1 hst, e1, e4, show (osA m 1 b).2 29 = m.2 29 from rfl]
  by_cases y : s_best m d (m.1 20) = -1
  · rw [if_pos y, if_pos y]
  · rw [if_neg y, if_neg y]
    rcases s_best_spec m d hn.1 with z | ⟨z1, z2, z3⟩
    · exact absurd z y
    · have ep : s_po1 d (s_best m d (m.1 20)) (osA m 1 b) = osA (s_po1 d (s_best m d (m.1 20)) m) 1 b := by
        unfold s_po1
        rw [e1, tb_way hS hA h0 h1 z1 z2 ((hD.2.2.2.2.2.2.1 _ z1 z2).2.2.1 (of_decide_eq_true z3).1), osa_c1 _ _ (by decide), osa_c1 _ _ (by decide), osa_c1 _ _ (by decide), oss_c1, osa_c1 _ _ (by decide)]
        rfl
      rw [ep]
      split
      · exact tb_lv (m := s_po1 d (s_best m d (m.1 20)) m) hA (by omega) (show 0 ≤ m.2 32 d ∧ m.2 32 d ≤ 7 by omega)
      · rfl
theorem tb_to {m : zOb} {b : Int → Int} {d : Int} (hS : SI m) (hD : DI (-1) m) (hA : AR4 (m.2 1) b) (h0 : 0 ≤ d) (h1 : d < m.2 1 0) (hst : m.2 33 d = 1) : s_to d (osA m 1 b) = osA (s_to d m) 1 b := by
  have h6 := hS.1.1
  have h8 := hS.1.2.1
  have htr := tr_ok hS hD h0 h1 hst
  have hr := hS.2.1.1 d h0 h1
  have e1 : s_tr (osA m 1 b) d = s_tr m d := tb_tr hA (by omega) (by omega)
  have e2 : (osA m 1 b).2 1 2 = m.2 1 2 := hA _ (by omega) (by omega) (by omega)
  have el : s_load (osA m 1 b) (s_tr m d) = s_load m (s_tr m d) := by
    unfold s_load
    rw [show (osA m 1 b).2 1 = b from rfl, hA _ (by omega) (by omega) (by omega), hA _ (by omega) (by omega) (by omega), hA _ (by omega) (by omega) (by omega), hA _ (by omega) (by omega) (by omega)]
  unfold s_to
  rw [e1, e2, el, show s_nx (osA m 1 b) (s_tr m d) = s_nx m (s_tr m d) from rfl, show (osA m 1 b).2 29 = m.2 29 from rfl, show (osA m 1 b).1 36 = m.1 36 from rfl]
  have ep : s_to1 (s_tr m d) (s_nx m (s_tr m d)) (osA m 1 b) = osA (s_to1 (s_tr m d) (s_nx m (s_tr m d)) m) 1 b := by
    unfold s_to1
    rw [osa_c1 _ _ (by decide), oss_c1, osa_c1 _ _ (by decide)]
    rfl
  rw [ep]
  split
  · rfl
  · split
    · exact tb_lv (m := s_to1 (s_tr m d) (s_nx m (s_tr m d)) m) hA (by omega) (show 0 ≤ m.2 32 d ∧ m.2 32 d ≤ 7 by omega)
    · rfl
theorem tb_for {f : Int → zOb → zOb} {b : Int → Int} (hf : KP f) (hq : ∀ (d : Int) (m : zOb), SI m → DI (-1) m → AR4 (m.2 1) b → 0 ≤ d → d < m.2 1 0 → f d (osA m 1 b) = osA (f d m) 1 b) {m : zOb} (hS : SI m) (hD : DI (-1) m) (hA : AR4 (m.2 1) b) {i : Int} (h0 : 0 ≤ i) (h1 : i ≤ m.2 1 0) : zfor f i (osA m 1 b) = osA (zfor f i m) 1 b := by
  have key : ∀ n : Nat, (n : Int) ≤ m.2 1 0 → zfor f n (osA m 1 b) = osA (zfor f n m) 1 b := by
    intro n
    induction n with
    | zero => intro _; rfl
    | succ n ih =>
      intro hn
      obtain ⟨a1, a2, a3, -⟩ := KP_for hf hS hD (i := n) (by omega) (by omega)
      rw [show ((n + 1 : Nat) : Int) = (n : Int) + 1 by omega, zfor_S _ (by omega), zfor_S _ (by omega), ih (by omega)]
      exact hq n _ a1 a2 (by rw [a3.1]; exact hA) (by omega) (by rw [a3.1]; omega)
  have := key i.toNat (by omega)
  rwa [show ((i.toNat : Nat) : Int) = i by omega] at this
theorem tb_go {m : zOb} {b : Int → Int} (hS : SI m) (hD : DI (-1) m) (hA : AR4 (m.2 1) b) : s_go (osA m 1 b) = osA (s_go m) 1 b := by
  have h6 := hS.1.1
  have e0 : ∀ k : zOb, k.2 1 = m.2 1 → (osA k 1 b).2 1 0 = k.2 1 0 := fun k hk => by
    show b 0 = k.2 1 0
    rw [hk]; exact hA 0 (by omega) (by omega) (by omega)
  obtain ⟨a1, a2, a3, -⟩ := KP_for KP_dk hS hD h6.1 (Int.le_refl _)
  rw [← s_p1_eq] at a1 a2 a3
  have x1 : (s_p1 m).2 1 0 = m.2 1 0 := by rw [a3.1]
  have p1 : s_p1 (osA m 1 b) = osA (s_p1 m) 1 b := by
    rw [s_p1_eq, s_p1_eq, e0 m rfl]
    exact tb_for KP_dk (fun d m g1 g2 g3 g4 g5 => tb_dk g1 g2 g3 g4 g5) hS hD hA h6.1 (Int.le_refl _)
  obtain ⟨b1, b2, b3, -⟩ := KP_for KP_f2 a1 a2 (i := (s_p1 m).2 1 0) (by omega) (Int.le_refl _)
  rw [← s_p2_eq] at b1 b2 b3
  have A1 : AR4 ((s_p1 m).2 1) b := by rw [a3.1]; exact hA
  have p2 : s_p2 (osA (s_p1 m) 1 b) = osA (s_p2 (s_p1 m)) 1 b := by
    rw [s_p2_eq, s_p2_eq, e0 _ a3.1]
    refine tb_for KP_f2 (fun d m g1 g2 g3 g4 g5 => ?_) a1 a2 A1 (by omega) (Int.le_refl _)
    have w6 := g1.1.1
    unfold s_f2
    rw [show (osA m 1 b).2 1 (5 + 2 * d) = m.2 1 (5 + 2 * d) from g3 _ (by omega) (by omega) (by omega), show (osA m 1 b).2 33 d = m.2 33 d from rfl]
    split
    · rename_i y; exact tb_po g1 g2 g3 g4 g5 y.2
    · rfl
  have x2 : (s_p2 (s_p1 m)).2 1 0 = m.2 1 0 := by rw [b3.1, a3.1]
  have A2 : AR4 ((s_p2 (s_p1 m)).2 1) b := by rw [b3.1]; exact A1
  obtain ⟨c1, c2, c3, -⟩ := KP_for KP_f3 b1 b2 (i := (s_p2 (s_p1 m)).2 1 0) (by omega) (Int.le_refl _)
  rw [← s_p3_eq] at c1 c2 c3
  have p3 : s_p3 (osA (s_p2 (s_p1 m)) 1 b) = osA (s_p3 (s_p2 (s_p1 m))) 1 b := by
    rw [s_p3_eq, s_p3_eq, e0 _ (b3.1.trans a3.1)]
    refine tb_for KP_f3 (fun d m g1 g2 g3 g4 g5 => ?_) b1 b2 A2 (by omega) (Int.le_refl _)
    have w6 := g1.1.1
    unfold s_f3
    rw [show (osA m 1 b).2 1 (5 + 2 * d) = m.2 1 (5 + 2 * d) from g3 _ (by omega) (by omega) (by omega), show (osA m 1 b).2 33 d = m.2 33 d from rfl]
    split
    · rename_i y; exact tb_to g1 g2 g3 g4 g5 y.2
    · rfl
  have x3 : (s_p3 (s_p2 (s_p1 m))).2 1 0 = m.2 1 0 := by rw [c3.1, b3.1, a3.1]
  have A3 : AR4 ((s_p3 (s_p2 (s_p1 m))).2 1) b := by rw [c3.1]; exact A2
  have p4 : s_p4 (osA (s_p3 (s_p2 (s_p1 m))) 1 b) = osA (s_p4 (s_p3 (s_p2 (s_p1 m)))) 1 b := by
    rw [s_p4_eq, s_p4_eq, e0 _ (c3.1.trans (b3.1.trans a3.1))]
    refine tb_for KP_f4 (fun d m g1 g2 g3 g4 g5 => ?_) c1 c2 A3 (by omega) (Int.le_refl _)
    have w6 := g1.1.1
    have w8 := g1.1.2.1
    have wr := g1.2.1.1 d g4 g5
    unfold s_f4
    rw [show (osA m 1 b).2 1 (5 + 2 * d) = m.2 1 (5 + 2 * d) from g3 _ (by omega) (by omega) (by omega), show (osA m 1 b).2 33 d = m.2 33 d from rfl]
    by_cases y : m.2 33 d = 1
    · have htr := tr_ok g1 g2 g4 g5 y
      have e1 : s_tr (osA m 1 b) d = s_tr m d := tb_tr g3 (by omega) (by omega)
      have e2 : (osA m 1 b).2 1 (17 + 6 * s_tr m d + 2) = m.2 1 (17 + 6 * s_tr m d + 2) := g3 _ (by omega) (by omega) (by omega)
      rw [e1, e2, show s_left (osA m 1 b) (m.2 1 (17 + 6 * s_tr m d + 2)) = s_left m (m.2 1 (17 + 6 * s_tr m d + 2)) from rfl]
      split
      · exact tb_lv g3 (by omega) (by omega)
      · rfl
    · rw [if_neg (fun z => y z.2.1), if_neg (fun z => y z.2.1)]
  unfold s_go
  rw [p1, p2, p3, p4]
  generalize s_p4 (s_p3 (s_p2 (s_p1 m))) = k
  unfold s_p5
  rw [show (osA k 1 b).1 37 = k.1 37 from rfl, show (osA k 1 b).1 36 = k.1 36 from rfl, show (osA k 1 b).1 35 = k.1 35 from rfl]
  split
  · rfl
  · rfl
theorem tb_over {m : zOb} {b : Int → Int} (hS : SI m) (hA : AR4 (m.2 1) b) : s_over (osA m 1 b) = s_over m := by
  have h6 := hS.1.1
  unfold s_over
  have e0 : (osA m 1 b).2 1 0 = m.2 1 0 := hA 0 (by omega) (by omega) (by omega)
  rw [e0]
  have : zfst (fun d => decide ((osA m 1 b).2 32 d < (osA m 1 b).2 1 (65 + d))) (m.2 1 0) = zfst (fun d => decide (m.2 32 d < m.2 1 (65 + d))) (m.2 1 0) := zfst_congr (fun i g0 g1 => by
    rw [show (osA m 1 b).2 1 (65 + i) = m.2 1 (65 + i) from hA _ (by omega) (by omega) (by omega)]
    rfl)
  rw [this]
theorem tb_fold {f : Int → zOb → zOb} {b : Int → Int} {P : zOb → Prop} (hP : ∀ d m, P m → P (f d m)) {n : Int} (hq : ∀ (d : Int) (m : zOb), P m → 0 ≤ d → d < n → f d (osA m 1 b) = osA (f d m) 1 b) {m : zOb} (h : P m) : zfor f n (osA m 1 b) = osA (zfor f n m) 1 b := by
  rcases Int.lt_or_le n 0 with hn | hn
  · rw [zfor_n _ (by omega), zfor_n _ (by omega)]
  · have key : ∀ k : Nat, (k : Int) ≤ n → zfor f k (osA m 1 b) = osA (zfor f k m) 1 b ∧ P (zfor f k m) := by
      intro k
      induction k with
      | zero => intro _; exact ⟨rfl, h⟩
      | succ k ih =>
        intro hk
        obtain ⟨i1, i2⟩ := ih (by omega)
        rw [show ((k + 1 : Nat) : Int) = (k : Int) + 1 by omega, zfor_S _ (by omega), zfor_S _ (by omega), i1]
        exact ⟨hq k _ i2 (by omega) (by omega), hP _ _ i2⟩
    have := (key n.toNat (by omega)).1
    rwa [show ((n.toNat : Nat) : Int) = n by omega] at this
theorem zfor_keep' {α : Type} {f : Int → α → α} {P : α → Prop} {n : Int} {a : α} (h0 : P a) (h : ∀ i b, P b → P (f i b)) : P (zfor f n a) := by
  unfold zfor
  generalize n.toNat = k
  induction k with
  | zero => exact h0
  | succ k ih => exact h _ _ ih
theorem tb_lay {m : zOb} {b : Int → Int} (hwa : WFa (m.2 1)) (hwr : WFr (m.2 1)) (hA : AR4 (m.2 1) b) : s_lay (osA m 1 b) = osA (s_lay m) 1 b := by
  have h6 := hwa.1
  have h8 := hwa.2.1
  have pc1 : ∀ t d k, (s_pc t d k).2 1 = k.2 1 := fun _ _ _ => rfl
  have l31 : ∀ (t d : Int) (k : zOb), (s_l3 t d k).2 1 = k.2 1 := fun t d k => zfor_keep' (P := fun q : zOb => q.2 1 = k.2 1) rfl (fun _ q hq => hq)
  have l11 : ∀ (t : Int) (k : zOb), (s_l1 t k).2 1 = k.2 1 := fun t k => by
    unfold s_l1 s_l2
    split
    · rfl
    · exact zfor_keep' (P := fun q : zOb => q.2 1 = k.2 1) rfl (fun d q hq => (l31 t d q).trans hq)
  have ld1 : ∀ (d : Int) (k : zOb), (s_ld d k).2 1 = k.2 1 := fun d k => zfor_keep' (P := fun q : zOb => q.2 1 = k.2 1) rfl (fun _ q hq => hq)
  have T1 : s_lt (osA m 1 b) = osA (s_lt m) 1 b ∧ (s_lt m).2 1 = m.2 1 := by
    unfold s_lt
    refine ⟨?_, zfor_keep' (P := fun q : zOb => q.2 1 = m.2 1) rfl (fun d q hq => (l11 d q).trans hq)⟩
    rw [show (osA m 1 b).2 1 1 = m.2 1 1 from hA 1 (by omega) (by omega) (by omega), oss_c1]
    refine tb_fold (P := fun q : zOb => q.2 1 = m.2 1) (fun d q hq => (l11 d q).trans hq) (fun t q hq t0 t1 => ?_) rfl
    have e0 : s_l0 t (osA q 1 b) = osA (s_l0 t q) 1 b := by
      unfold s_l0
      rw [osa_c1 _ _ (by decide), osa_c1 _ _ (by decide), osa_c1 _ _ (by decide), osa_c1 _ _ (by decide), osa_c1 _ _ (by decide)]
    unfold s_l1
    rw [e0]
    have hq0 : (s_l0 t q).2 1 = m.2 1 := hq
    generalize s_l0 t q = q0 at hq0 ⊢
    unfold s_l2
    rw [show (osA q0 1 b).2 1 (17 + 6 * t + 0) = q0.2 1 (17 + 6 * t + 0) from by rw [hq0]; exact hA _ (by omega) (by omega) (by omega)]
    split
    · rfl
    · refine tb_fold (P := fun q : zOb => q.2 1 = m.2 1) (fun d q hq => (l31 t d q).trans hq) (fun d q hq d0 d1 => ?_) hq0
      unfold s_l3
      rw [show (osA q 1 b).2 1 (17 + 6 * t + (2 + d)) = q.2 1 (17 + 6 * t + (2 + d)) from by rw [hq]; exact hA _ (by omega) (by omega) (by omega)]
      refine tb_fold (P := fun _ => True) (fun _ _ _ => trivial) (fun _ q _ _ _ => ?_) trivial
      unfold s_pc
      rw [show (osA q 1 b).1 20 = q.1 20 from rfl, osa_c1 _ _ (by decide), osa_c1 _ _ (by decide), osa_c1 _ _ (by decide), osa_c1 _ _ (by decide), osa_c1 _ _ (by decide), osa_c1 _ _ (by decide), oss_c1]
  unfold s_lay
  rw [T1.1, show (osA m 1 b).2 1 0 = m.2 1 0 from hA 0 (by omega) (by omega) (by omega)]
  refine tb_fold (P := fun q : zOb => q.2 1 = m.2 1) (fun d q hq => (ld1 d q).trans hq) (fun d q hq d0 d1 => ?_) T1.2
  have hr := hwr.1 d d0 d1
  have e0 : s_ld0 d (osA q 1 b) = osA (s_ld0 d q) 1 b := by
    unfold s_ld0
    rw [osa_c1 _ _ (by decide), osa_c1 _ _ (by decide), osa_c1 _ _ (by decide)]
  unfold s_ld
  rw [e0, show (osA q 1 b).2 1 (65 + d) = q.2 1 (65 + d) from by rw [hq]; exact hA _ (by omega) (by omega) (by omega)]
  refine tb_fold (f := s_lk d) (P := fun q : zOb => q.2 1 = m.2 1) (fun d q hq => hq) (fun k p hp k0 k1 => ?_) (show (s_ld0 d q).2 1 = m.2 1 from hq)
  rw [hq] at k1
  unfold s_lk
  have e1 : (osA p 1 b).2 1 (71 + 8 * d + k) = p.2 1 (71 + 8 * d + k) := by rw [hp]; exact hA _ (by omega) (by omega) (by omega)
  rw [e1, osa_c1 _ _ (by decide), osa_c1 _ _ (by decide)]
theorem tb_run {m : zOb} {b : Int → Int} (hwa : WFa (m.2 1)) (hwr : WFr (m.2 1)) (hA : AR4 (m.2 1) b) : s_run (osA m 1 b) = osA (s_run m) 1 b := by
  have key : ∀ (n : Nat) (m : zOb), SI m → DI (-1) m → AR4 (m.2 1) b → s_loop n (osA m 1 b) = osA (s_loop n m) 1 b := by
    intro n
    induction n with
    | zero => intro m _ _ _; rfl
    | succ n ih =>
      intro m h1 h2 h3
      unfold s_loop
      rw [tb_over h1 h3, show (osA m 1 b).1 35 = m.1 35 from rfl]
      split
      · obtain ⟨g1, g2, g3, -⟩ := go_ok h1 h2
        have x1 : oss (s_go m) 35 ((s_go m).1 35 + 1) = oss (s_go m) 35 (m.1 35 + 1) := by rw [g3.2.2.2.2.2.2]
        rw [tb_go h1 h2 h3, oss_c1, ← x1]
        exact ih _ g1 (DI_min g2) (by show AR4 ((s_go m).2 1) b; rw [g3.1]; exact h3)
      · rfl
  obtain ⟨k1, k2, k3⟩ := ini_ok hwa hwr
  unfold s_run
  have e : s_ini (osA m 1 b) = osA (s_ini m) 1 b := by
    unfold s_ini
    rw [tb_lay hwa hwr hA]
    rfl
  rw [e]
  exact key 201 _ k1 k2 (by rw [k3]; exact hA)
/-- the run of a table is that of another one that agrees where it matters -/
theorem ra_x {a b : Int → Int} (hwa : WFa a) (hwr : WFr a) (hA : AR4 a b) : ra b = osA (ra a) 1 b := by
  have := tb_run (m := ob a) (b := b) hwa hwr hA
  have e : osA (ob a) 1 b = ob b := by
    unfold ob osA
    refine Prod.ext rfl (funext fun j => ?_)
    simp only
    split <;> rfl
  rw [e] at this
  exact this
