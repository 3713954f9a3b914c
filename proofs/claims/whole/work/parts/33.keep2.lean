/-! The invariants are kept: cartons. -/
theorem DI_full {m : zOb} {d : Int} (h : DI d m) (hc : m.2 33 d = 1 → m.2 29 (s_tr m d) < a_cap (m.2 1) (s_tr m d)) : DI (-1) m := by
  obtain ⟨i1, i2, i3⟩ := h
  refine ⟨i1, fun e _ he0 he1 hs => ?_, i3⟩
  by_cases hed : e = d
  · subst hed; exact hc hs
  · exact i2 e hed he0 he1 hs
theorem s_best_spec (m : zOb) (d : Int) {n : Int} (hn : 0 ≤ n) : s_best m d n = -1 ∨ (0 ≤ s_best m d n ∧ s_best m d n < n ∧ s_can m d (s_best m d n) = true) := by
  refine zfor_ind (fun k b => b = -1 ∨ (0 ≤ b ∧ b < k ∧ s_can m d b = true)) (Or.inl rfl) (fun i b h1 h2 h3 => ?_) n hn (Int.le_refl n)
  split
  · rename_i q
    exact Or.inr ⟨h1, by omega, q.1⟩
  · rcases h3 with z | z
    · exact Or.inl z
    · exact Or.inr ⟨z.1, by omega, z.2.2⟩
/-- the facts of a door where a truck stands -/
theorem tr_ok {m : zOb} {d x : Int} (hS : SI m) (h : DI x m) (hd0 : 0 ≤ d) (hd1 : d < m.2 1 0) (hst : m.2 33 d = 1) : (0 ≤ m.2 32 d ∧ m.2 32 d < m.2 1 (65 + d) ∧ m.2 1 (65 + d) ≤ 8) ∧ 0 ≤ s_tr m d ∧ s_tr m d < m.2 1 1 ∧ m.2 1 1 ≤ 8 ∧ m.2 1 0 ≤ 6 ∧ m.2 1 (17 + 6 * s_tr m d + 0) = m.2 1 (5 + 2 * d) := by
  obtain ⟨hwa, hwr, hly⟩ := hS
  obtain ⟨⟨t0, t1⟩, -, hs1, -⟩ := h.1 d hd0 hd1
  have g1 := (hs1 hst).1
  have hr := hwr.1 d hd0 hd1
  have hro : 0 ≤ s_tr m d ∧ s_tr m d < m.2 1 1 ∧ m.2 1 (17 + 6 * s_tr m d + 0) = m.2 1 (5 + 2 * d) := hwr.2.1 d (m.2 32 d) hd0 hd1 t0 g1
  have := hwa.1
  have := hwa.2.1
  exact ⟨⟨t0, g1, hr.2⟩, hro.1, hro.2.1, by omega, by omega, hro.2.2⟩
theorem tr_ne {m : zOb} {d e x : Int} (hS : SI m) (h : DI x m) (hd0 : 0 ≤ d) (hd1 : d < m.2 1 0) (hst : m.2 33 d = 1) (he0 : 0 ≤ e) (he1 : e < m.2 1 0) (hse : m.2 33 e = 1) (hne : e ≠ d) : s_tr m e ≠ s_tr m d := by
  have h1 := tr_ok hS h hd0 hd1 hst
  have h2 := tr_ok hS h he0 he1 hse
  exact ro_ne hS.2.1 he0 he1 h2.1.1 h2.1.2.1 hd0 hd1 h1.1.1 h1.1.2.1 (Or.inl hne)
/-- one that has not docked yet is not one that stands -/
theorem fut_ne {m : zOb} {d e k x : Int} (hS : SI m) (h : DI x m) (hd0 : 0 ≤ d) (hd1 : d < m.2 1 0) (hst : m.2 33 d = 1) (he0 : 0 ≤ e) (he1 : e < m.2 1 0) (hk0 : m.2 32 e + m.2 33 e ≤ k) (hk1 : k < m.2 1 (65 + e)) : m.2 1 (71 + 8 * e + k) ≠ s_tr m d := by
  have h1 := tr_ok hS h hd0 hd1 hst
  obtain ⟨a1, a2, -⟩ := h.1 e he0 he1
  refine ro_ne hS.2.1 he0 he1 (by omega) hk1 hd0 hd1 h1.1.1 h1.1.2.1 ?_
  rcases Classical.em (e = d) with z | z
  · subst z; exact Or.inr (by omega)
  · exact Or.inl z
theorem s_way_b {m : zOb} {d c : Int} (hS : SI m) (hd0 : 0 ≤ d) (hd1 : d < m.2 1 0) (hc0 : 0 ≤ c) (hc1 : c < m.1 20) (hdo : m.2 30 (m.2 21 c) ≠ -1) : 0 ≤ s_way m c d ∧ s_way m c d ≤ 10 := by
  obtain ⟨hwa, hwr, hly⟩ := hS
  have hc := hly.2.2.1 c hc0 hc1
  rcases hly.2.2.2.2 _ hc.1.1 hc.1.2 with q | q
  · exact absurd q.1 hdo
  · exact ⟨zway_nn _ _, zway_le (hwa.2.2.2.2.2.1 _ q.1.1 q.1.2).2 (hwa.2.2.2.2.2.1 d hd0 hd1).2⟩
theorem DI_po1 {m : zOb} {d b : Int} (hS : SI m) (h : DI (-1) m) (hd0 : 0 ≤ d) (hd1 : d < m.2 1 0) (hk : m.2 1 (5 + 2 * d) = 1) (hst : m.2 33 d = 1) (hb0 : 0 ≤ b) (hb1 : b < m.1 20) (hcan : s_can m d b = true) : DI d (s_po1 d b m) := by
  have htr := tr_ok hS h hd0 hd1 hst
  obtain ⟨i1, i2, i3, i4, i5, i6, i7, i8⟩ := id h
  have hwb := s_way_b hS hd0 hd1 hb0 hb1
  have hS0 := hS
  obtain ⟨hwa, hwr, hly⟩ := hS
  simp only [s_can, decide_eq_true_eq] at hcan
  obtain ⟨k1, k2, k3, k4⟩ := hcan
  have hcb := i7 b hb0 hb1
  have hw := hwb (hcb.2.2.1 k1)
  have hlt : m.2 23 b < m.1 35 := by split at k4 <;> omega
  have hm := i8.2
  generalize hm' : s_po1 d b m = m'
  have e1 : m'.2 1 = m.2 1 := by subst hm'; rfl
  have e20 : m'.1 20 = m.1 20 := by subst hm'; rfl
  have e21 : m'.2 21 = m.2 21 := by subst hm'; rfl
  have e23 : m'.2 23 = m.2 23 := by subst hm'; rfl
  have e24 : m'.2 24 = zup (m.2 24) b (m.1 35) := by subst hm'; rfl
  have e25 : m'.2 25 = zup (m.2 25) b (s_tr m d) := by subst hm'; rfl
  have e26 : m'.2 26 = zup (m.2 26) b (s_way m b d) := by subst hm'; rfl
  have e27 : m'.2 27 = m.2 27 := by subst hm'; rfl
  have e28 : m'.2 28 = m.2 28 := by subst hm'; rfl
  have e29 : m'.2 29 = zup (m.2 29) (s_tr m d) (m.2 29 (s_tr m d) + 1) := by subst hm'; rfl
  have e30 : m'.2 30 = m.2 30 := by subst hm'; rfl
  have e32 : m'.2 32 = m.2 32 := by subst hm'; rfl
  have e33 : m'.2 33 = m.2 33 := by subst hm'; rfl
  have e35 : m'.1 35 = m.1 35 := by subst hm'; rfl
  have e36 : m'.1 36 = m.1 36 - 1 := by subst hm'; rfl
  have etr : ∀ e, s_tr m' e = s_tr m e := by intro e; unfold s_tr; rw [e1, e32]
  refine ⟨?_, ?_, ?_, ?_, ?_, ?_, ?_, ?_⟩
  · subst hm'; exact i1
  · intro e hx he0 he1 hse
    rw [e1] at he1 ⊢
    rw [e33] at hse
    rw [etr, e29, zup_n _ _ (tr_ne hS0 h hd0 hd1 hst he0 he1 hse hx)]
    exact i2 e (by omega) he0 he1 hse
  · intro e k he0 he1 hk0 hk1
    rw [e1] at he1 hk1 ⊢
    rw [e32, e33] at hk0
    rw [e27, e28, e29, zup_n _ _ (fut_ne hS0 h hd0 hd1 hst he0 he1 hk0 hk1)]
    exact i3 e k he0 he1 hk0 hk1
  · subst hm'; exact i4
  · subst hm'; exact i5
  · intro t ht0 ht1
    rw [e1] at ht1 ⊢
    rw [e27, e28, e29, e30, e35]
    obtain ⟨a1, a2, a3, a4⟩ := i6 t ht0 ht1
    by_cases ht : t = s_tr m d
    · have := i2 d (by omega) hd0 hd1 hst
      rw [← ht] at this ⊢
      rw [zup_s]
      refine ⟨by omega, a2, a3, fun z => ?_⟩
      have := (i1 d hd0 hd1).2.2.1 hst
      rw [← ht] at this
      have := a4 z
      omega
    · rw [zup_n _ _ ht]
      exact ⟨a1, a2, a3, a4⟩
  · intro c hc0 hc1
    rw [e20] at hc1
    have hl := hly.2.2.1 c hc0 hc1
    have hne : m.2 21 c ≠ s_tr m d := by
      intro e
      rw [e] at hl
      omega
    rw [e1, e21, e23, e24, e25, e26, e29, e30, e35, zup_n _ _ hne]
    obtain ⟨a1, a2, a3, a4⟩ := i7 c hc0 hc1
    by_cases hcb' : c = b
    · subst hcb'
      rw [zup_s, zup_s, zup_s]
      exact ⟨a1, a2, a3, Or.inr ⟨k1, hlt, by omega, ⟨htr.2.1, htr.2.2.1⟩, hw.1, hw.2⟩⟩
    · rw [zup_n _ _ hcb', zup_n _ _ hcb', zup_n _ _ hcb']
      exact ⟨a1, a2, a3, a4⟩
  · refine ⟨?_, by rw [e35]; exact hm⟩
    rw [e36, i8.1]
    unfold s_stg
    rw [e20]
    have := zcnt_one (p := fun c => decide (m'.2 23 c ≠ -1 ∧ m'.2 24 c = -1)) (q := fun c => decide (m.2 23 c ≠ -1 ∧ m.2 24 c = -1)) (n := m.1 20) (k := b) hb0 hb1 (by rw [e23, e24, zup_s]; exact decide_eq_false (by omega)) (decide_eq_true ⟨k1, k2⟩) (fun i _ _ hi => by rw [e23, e24, zup_n _ _ hi])
    omega
/-- the next carton of an IN truck -/
theorem s_nx_eq {m : zOb} {d : Int} (hS : SI m) (h : DI (-1) m) (hd0 : 0 ≤ d) (hd1 : d < m.2 1 0) (hk : m.2 1 (5 + 2 * d) ≠ 1) (hst : m.2 33 d = 1) : s_nx m (s_tr m d) = a_fs (m.2 1) (s_tr m d) + m.2 29 (s_tr m d) ∧ (0 ≤ s_nx m (s_tr m d) ∧ s_nx m (s_tr m d) < m.1 20) ∧ m.2 21 (s_nx m (s_tr m d)) = s_tr m d ∧ m.2 23 (s_nx m (s_tr m d)) = -1 ∧ m.2 1 (17 + 6 * s_tr m d + 0) = 0 := by
  have htr := tr_ok hS h hd0 hd1 hst
  obtain ⟨i1, i2, i3, i4, i5, i6, i7, i8⟩ := id h
  obtain ⟨hwa, hwr, hly⟩ := hS
  have hk0 : m.2 1 (17 + 6 * s_tr m d + 0) = 0 := by
    rcases (hwa.2.2.2.2.2.1 d hd0 hd1).1 with z | z
    · omega
    · exact absurd z hk
  have hcap := i2 d (by omega) hd0 hd1 hst
  unfold a_cap at hcap
  rw [if_neg (by omega)] at hcap
  have hh := (i6 _ htr.2.1 htr.2.2.1).1
  have hl := hly.2.2.2.1 (s_tr m d) (a_fs (m.2 1) (s_tr m d) + m.2 29 (s_tr m d)) htr.2.1 htr.2.2.1 hk0 (by omega) (by omega)
  have hoff : m.2 23 (a_fs (m.2 1) (s_tr m d) + m.2 29 (s_tr m d)) = -1 := by
    have := (i7 _ hl.1.1 hl.1.2).2.1
    rw [hl.2] at this
    by_cases z : m.2 23 (a_fs (m.2 1) (s_tr m d) + m.2 29 (s_tr m d)) = -1
    · exact z
    · have := this.mp z
      omega
  have hnc := hly.2.1
  have e : s_nx m (s_tr m d) = a_fs (m.2 1) (s_tr m d) + m.2 29 (s_tr m d) := by
    refine zfst_some hl.1.1 (by omega) (decide_eq_true ⟨hl.2, hoff⟩) (fun j hj0 hj1 => decide_eq_false ?_)
    rintro ⟨q1, q2⟩
    have h1 := (hly.2.2.1 j hj0 (by omega))
    have h2 := (i7 j hj0 (by omega)).2.1
    rw [q1] at h1 h2
    exact (h2.mpr (by omega)) q2
  rw [e]
  exact ⟨rfl, hl.1, hl.2, hoff, hk0⟩
theorem DI_to1 {m : zOb} {d : Int} (hS : SI m) (h : DI (-1) m) (hd0 : 0 ≤ d) (hd1 : d < m.2 1 0) (hk : m.2 1 (5 + 2 * d) ≠ 1) (hst : m.2 33 d = 1) : DI d (s_to1 (s_tr m d) (s_nx m (s_tr m d)) m) := by
  have htr := tr_ok hS h hd0 hd1 hst
  have hS0 := hS
  obtain ⟨n1, n2, n3, n4, n5⟩ := s_nx_eq hS h hd0 hd1 hk hst
  obtain ⟨i1, i2, i3, i4, i5, i6, i7, i8⟩ := id h
  obtain ⟨hwa, hwr, hly⟩ := hS
  have hm := i8.2
  generalize hcx : s_nx m (s_tr m d) = cx at n1 n2 n3 n4
  generalize hm' : s_to1 (s_tr m d) cx m = m'
  have e1 : m'.2 1 = m.2 1 := by subst hm'; rfl
  have e20 : m'.1 20 = m.1 20 := by subst hm'; rfl
  have e21 : m'.2 21 = m.2 21 := by subst hm'; rfl
  have e23 : m'.2 23 = zup (m.2 23) cx (m.1 35) := by subst hm'; rfl
  have e24 : m'.2 24 = m.2 24 := by subst hm'; rfl
  have e25 : m'.2 25 = m.2 25 := by subst hm'; rfl
  have e26 : m'.2 26 = m.2 26 := by subst hm'; rfl
  have e27 : m'.2 27 = m.2 27 := by subst hm'; rfl
  have e28 : m'.2 28 = m.2 28 := by subst hm'; rfl
  have e29 : m'.2 29 = zup (m.2 29) (s_tr m d) (m.2 29 (s_tr m d) + 1) := by subst hm'; rfl
  have e30 : m'.2 30 = m.2 30 := by subst hm'; rfl
  have e32 : m'.2 32 = m.2 32 := by subst hm'; rfl
  have e33 : m'.2 33 = m.2 33 := by subst hm'; rfl
  have e35 : m'.1 35 = m.1 35 := by subst hm'; rfl
  have e36 : m'.1 36 = m.1 36 + 1 := by subst hm'; rfl
  have etr : ∀ e, s_tr m' e = s_tr m e := by intro e; unfold s_tr; rw [e1, e32]
  have hon : m.2 24 cx = -1 := by
    rcases (i7 cx n2.1 n2.2).2.2.2 with z | z
    · exact z
    · exact absurd n4 z.1
  refine ⟨?_, ?_, ?_, ?_, ?_, ?_, ?_, ?_⟩
  · subst hm'; exact i1
  · intro e hx he0 he1 hse
    rw [e1] at he1 ⊢
    rw [e33] at hse
    rw [etr, e29, zup_n _ _ (tr_ne hS0 h hd0 hd1 hst he0 he1 hse hx)]
    exact i2 e (by omega) he0 he1 hse
  · intro e k he0 he1 hk0 hk1
    rw [e1] at he1 hk1 ⊢
    rw [e32, e33] at hk0
    rw [e27, e28, e29, zup_n _ _ (fut_ne hS0 h hd0 hd1 hst he0 he1 hk0 hk1)]
    exact i3 e k he0 he1 hk0 hk1
  · subst hm'; exact i4
  · subst hm'; exact i5
  · intro t ht0 ht1
    rw [e1] at ht1 ⊢
    rw [e27, e28, e29, e30, e35]
    obtain ⟨a1, a2, a3, a4⟩ := i6 t ht0 ht1
    by_cases ht : t = s_tr m d
    · have := i2 d (by omega) hd0 hd1 hst
      rw [← ht] at this ⊢
      rw [zup_s]
      refine ⟨by omega, a2, a3, fun z => ?_⟩
      have := (i1 d hd0 hd1).2.2.1 hst
      rw [← ht] at this
      have := a4 z
      omega
    · rw [zup_n _ _ ht]
      exact ⟨a1, a2, a3, a4⟩
  · intro c hc0 hc1
    rw [e20] at hc1
    have hl := hly.2.2.1 c hc0 hc1
    rw [e1, e21, e23, e24, e25, e26, e29, e30, e35]
    obtain ⟨a1, a2, a3, a4⟩ := i7 c hc0 hc1
    have hdo : m.2 30 (s_tr m d) ≠ -1 := by
      intro z
      rcases hly.2.2.2.2 _ htr.2.1 htr.2.2.1 with q | q
      · exact q.2.2 d (m.2 32 d) hd0 hd1 htr.1.1 htr.1.2.1 rfl
      · omega
    by_cases hcc : c = cx
    · subst hcc
      rw [zup_s, n3, zup_s]
      exact ⟨by omega, ⟨fun _ => by omega, fun _ => by omega⟩, fun _ => hdo, Or.inl hon⟩
    · rw [zup_n _ _ hcc]
      refine ⟨a1, ?_, a3, a4⟩
      by_cases ht : m.2 21 c = s_tr m d
      · rw [ht] at a2 hl ⊢
        rw [zup_s]
        constructor
        · intro z; have := a2.mp z; omega
        · intro z; exact a2.mpr (by omega)
      · rw [zup_n _ _ ht]
        exact a2
  · refine ⟨?_, by rw [e35]; exact hm⟩
    rw [e36, i8.1]
    unfold s_stg
    rw [e20]
    have := zcnt_one (p := fun c => decide (m.2 23 c ≠ -1 ∧ m.2 24 c = -1)) (q := fun c => decide (m'.2 23 c ≠ -1 ∧ m'.2 24 c = -1)) (n := m.1 20) (k := cx) n2.1 n2.2 (decide_eq_false (fun z => z.1 n4)) (by rw [e23, e24, zup_s]; exact decide_eq_true ⟨by omega, hon⟩) (fun i _ _ hi => by rw [e23, e24, zup_n _ _ hi])
    omega
theorem DI_po {m : zOb} {d : Int} (hS : SI m) (h : DI (-1) m) (hd0 : 0 ≤ d) (hd1 : d < m.2 1 0) (hk : m.2 1 (5 + 2 * d) = 1) (hst : m.2 33 d = 1) : DI (-1) (s_po d m) ∧ SI (s_po d m) := by
  unfold s_po
  split
  · exact ⟨h, hS⟩
  · rename_i hb
    have htr := tr_ok hS h hd0 hd1 hst
    rcases s_best_spec m d hS.2.2.2.1.1 with z | ⟨z1, z2, z3⟩
    · exact absurd z hb
    · have hp := DI_po1 hS h hd0 hd1 hk hst z1 z2 z3
      split
      · exact ⟨DI_lv (m := s_po1 d (s_best m d (m.1 20)) m) (d := d) (x := d) hS hp hd0 hd1 hst (Or.inl rfl), hS⟩
      · rename_i hne
        refine ⟨DI_full hp (fun _ => ?_), hS⟩
        have h1 := h.2.1 d (by omega) hd0 hd1 hst
        show zup (m.2 29) (s_tr m d) (m.2 29 (s_tr m d) + 1) (s_tr m d) < a_cap (m.2 1) (s_tr m d)
        rw [zup_s]
        unfold a_cap at h1 ⊢
        rw [if_pos (by omega)] at h1 ⊢
        omega
theorem s_load_eq (m : zOb) (t : Int) : s_load m t = a_load (m.2 1) t := rfl
theorem DI_to {m : zOb} {d : Int} (hS : SI m) (h : DI (-1) m) (hd0 : 0 ≤ d) (hd1 : d < m.2 1 0) (hk : m.2 1 (5 + 2 * d) ≠ 1) (hst : m.2 33 d = 1) : DI (-1) (s_to d m) ∧ SI (s_to d m) := by
  unfold s_to
  split
  · exact ⟨h, hS⟩
  · have hp := DI_to1 hS h hd0 hd1 hk hst
    split
    · exact ⟨DI_lv (m := s_to1 (s_tr m d) (s_nx m (s_tr m d)) m) (d := d) (x := d) hS hp hd0 hd1 hst (Or.inl rfl), hS⟩
    · rename_i hne
      have n5 := (s_nx_eq hS h hd0 hd1 hk hst).2.2.2.2
      refine ⟨DI_full hp (fun _ => ?_), hS⟩
      have h1 := h.2.1 d (by omega) hd0 hd1 hst
      show zup (m.2 29) (s_tr m d) (m.2 29 (s_tr m d) + 1) (s_tr m d) < a_cap (m.2 1) (s_tr m d)
      rw [zup_s]
      rw [s_load_eq] at hne
      unfold a_cap at h1 ⊢
      rw [if_neg (by omega)] at h1 ⊢
      omega
