/-! A run is told by its table alone. -/
def EQM (m m' : zOb) : Prop := m'.2 1 = m.2 1 ∧ m'.1 20 = m.1 20 ∧ m'.1 35 = m.1 35 ∧ m'.1 36 = m.1 36 ∧ m'.1 37 = m.1 37 ∧ m'.1 38 = m.1 38 ∧ m'.1 39 = m.1 39 ∧
  (∀ c, 0 ≤ c → c < m.1 20 → m'.2 21 c = m.2 21 c ∧ m'.2 22 c = m.2 22 c ∧ m'.2 23 c = m.2 23 c ∧ m'.2 24 c = m.2 24 c ∧ m'.2 25 c = m.2 25 c ∧ m'.2 26 c = m.2 26 c) ∧
  (∀ t, 0 ≤ t → t < m.2 1 1 → m'.2 27 t = m.2 27 t ∧ m'.2 28 t = m.2 28 t ∧ m'.2 29 t = m.2 29 t ∧ m'.2 30 t = m.2 30 t ∧ m'.2 31 t = m.2 31 t) ∧
  (∀ d, 0 ≤ d → d < m.2 1 0 → m'.2 32 d = m.2 32 d ∧ m'.2 33 d = m.2 33 d ∧ m'.2 34 d = m.2 34 d)
theorem zup_eq {f g : Int → Int} {n v w x : Int} (h : g x = f x) (hv : w = v) : zup g n w x = zup f n v x := by
  unfold zup
  split
  · exact hv
  · exact h
theorem EQM_lv {m m' : zOb} {d : Int} (h : EQM m m') (h0 : 0 ≤ d) (h1 : d < m.2 1 0) : EQM (s_lv d m) (s_lv d m') := by
  obtain ⟨e1, e20, e35, e36, e37, e38, e39, ec, et, ed⟩ := h
  have htr : s_tr m' d = s_tr m d := by unfold s_tr; rw [e1, (ed d h0 h1).1]
  refine ⟨e1, e20, e35, e36, e37, e38, e39, ec, fun t g0 g1 => ?_, fun e g0 g1 => ?_⟩
  · obtain ⟨a1, a2, a3, a4, a5⟩ := et t g0 g1
    refine ⟨a1, ?_, a3, a4, a5⟩
    show zup (m'.2 28) (s_tr m' d) (m'.1 35) t = zup (m.2 28) (s_tr m d) (m.1 35) t
    rw [htr]
    exact zup_eq a2 e35
  · obtain ⟨a1, a2, a3⟩ := ed e g0 g1
    obtain ⟨b1, b2, b3⟩ := ed d h0 h1
    refine ⟨zup_eq a1 (by rw [b1]), zup_eq a2 rfl, zup_eq a3 ?_⟩
    rw [e35, e1]
theorem EQM_dk {m m' : zOb} {d : Int} (h : EQM m m') (h0 : 0 ≤ d) (h1 : d < m.2 1 0) : EQM (s_dk d m) (s_dk d m') := by
  have h' := h
  obtain ⟨e1, e20, e35, e36, e37, e38, e39, ec, et, ed⟩ := h
  have htr : s_tr m' d = s_tr m d := by unfold s_tr; rw [e1, (ed d h0 h1).1]
  obtain ⟨b1, b2, b3⟩ := ed d h0 h1
  unfold s_dk
  rw [htr, b1, b2, b3, e1, e35]
  split
  · refine ⟨e1, e20, e35, e36, e37, e38, e39, ec, fun t g0 g1 => ?_, fun e g0 g1 => ?_⟩
    · obtain ⟨a1, a2, a3, a4, a5⟩ := et t g0 g1
      exact ⟨zup_eq a1 rfl, a2, a3, a4, a5⟩
    · obtain ⟨a1, a2, a3⟩ := ed e g0 g1
      exact ⟨a1, zup_eq a2 rfl, a3⟩
  · exact h'
theorem EQM_way {m m' : zOb} {c d : Int} (hS : SI m) (h : EQM m m') (h0 : 0 ≤ c) (h1 : c < m.1 20) : s_way m' c d = s_way m c d := by
  obtain ⟨e1, e20, e35, e36, e37, e38, e39, ec, et, ed⟩ := h
  have hct := (hS.2.2.2.2.1 c h0 h1).1
  unfold s_way
  rw [e1, (ec c h0 h1).1, (et _ hct.1 hct.2).2.2.2.1]
theorem EQM_can {m m' : zOb} {c d : Int} (hS : SI m) (h : EQM m m') (h0 : 0 ≤ c) (h1 : c < m.1 20) (hd0 : 0 ≤ d) (hd1 : d < m.2 1 0) : s_can m' d c = s_can m d c := by
  have hw := EQM_way (d := d) hS h h0 h1
  obtain ⟨e1, e20, e35, e36, e37, e38, e39, ec, et, ed⟩ := h
  have htr : s_tr m' d = s_tr m d := by unfold s_tr; rw [e1, (ed d hd0 hd1).1]
  obtain ⟨c1, c2, c3, c4, c5, c6⟩ := ec c h0 h1
  unfold s_can
  rw [hw, htr, c2, c3, c4, e1, e35]
theorem EQM_best {m m' : zOb} {d : Int} (hS : SI m) (h : EQM m m') (hd0 : 0 ≤ d) (hd1 : d < m.2 1 0) {n : Int} (hn0 : 0 ≤ n) (hn : n ≤ m.1 20) : s_best m' d n = s_best m d n := by
  have key : s_best m' d n = s_best m d n := by
    refine zfor_ind (f := fun c b => if s_can m' d c = true ∧ (b = -1 ∨ m'.2 23 c < m'.2 23 b) then c else b) (a := (-1 : Int)) (fun i b => b = s_best m d i) (n := n) rfl (fun i b g0 g1 g2 => ?_) n hn0 (Int.le_refl n)
    rw [s_best_S _ _ g0, g2, EQM_can hS h g0 (by omega) hd0 hd1]
    have e23 := (h.2.2.2.2.2.2.2.1 i g0 (by omega)).2.2.1
    rcases s_best_spec m d (n := i) g0 with y | ⟨y1, y2, y3⟩
    · rw [y]
      simp
    · rw [e23, (h.2.2.2.2.2.2.2.1 _ y1 (by omega)).2.2.1]
  exact key
theorem EQM_po1 {m m' : zOb} {d b : Int} (hS : SI m) (h : EQM m m') (hd0 : 0 ≤ d) (hd1 : d < m.2 1 0) (hb0 : 0 ≤ b) (hb1 : b < m.1 20) (htn : 0 ≤ s_tr m d ∧ s_tr m d < m.2 1 1) : EQM (s_po1 d b m) (s_po1 d b m') := by
  have hw := EQM_way (d := d) hS h hb0 hb1
  obtain ⟨e1, e20, e35, e36, e37, e38, e39, ec, et, ed⟩ := h
  have htr : s_tr m' d = s_tr m d := by unfold s_tr; rw [e1, (ed d hd0 hd1).1]
  refine ⟨e1, e20, e35, by show m'.1 36 - 1 = m.1 36 - 1; rw [e36], e37, e38, e39, fun c g0 g1 => ?_, fun t g0 g1 => ?_, ed⟩
  · obtain ⟨c1, c2, c3, c4, c5, c6⟩ := ec c g0 g1
    exact ⟨c1, c2, c3, zup_eq c4 e35, zup_eq c5 htr, zup_eq c6 hw⟩
  · obtain ⟨a1, a2, a3, a4, a5⟩ := et t g0 g1
    refine ⟨a1, a2, ?_, a4, a5⟩
    show zup (m'.2 29) (s_tr m' d) (m'.2 29 (s_tr m' d) + 1) t = zup (m.2 29) (s_tr m d) (m.2 29 (s_tr m d) + 1) t
    rw [htr]
    exact zup_eq a3 (by rw [(et _ htn.1 htn.2).2.2.1])
theorem EQM_po {m m' : zOb} {d : Int} (hS : SI m) (hD : DI (-1) m) (h : EQM m m') (hd0 : 0 ≤ d) (hd1 : d < m.2 1 0) (hst : m.2 33 d = 1) : EQM (s_po d m) (s_po d m') := by
  have htr := tr_ok hS hD hd0 hd1 hst
  have e20 := h.2.1
  have htr' : s_tr m' d = s_tr m d := by unfold s_tr; rw [h.1, (h.2.2.2.2.2.2.2.2.2 d hd0 hd1).1]
  have e29 := (h.2.2.2.2.2.2.2.2.1 _ htr.2.1 htr.2.2.1).2.2.1
  unfold s_po
  rw [e20, EQM_best hS h hd0 hd1 hS.2.2.2.1.1 (Int.le_refl _), htr', e29, h.1]
  by_cases hb : s_best m d (m.1 20) = -1
  · rw [if_pos hb, if_pos hb]; exact h
  · rw [if_neg hb, if_neg hb]
    rcases s_best_spec m d hS.2.2.2.1.1 with y | ⟨y1, y2, y3⟩
    · exact absurd y hb
    · have hp := EQM_po1 hS h hd0 hd1 y1 y2 ⟨htr.2.1, htr.2.2.1⟩
      split
      · exact EQM_lv hp hd0 hd1
      · exact hp
theorem EQM_to {m m' : zOb} {d : Int} (hS : SI m) (hD : DI (-1) m) (hS' : SI m') (hD' : DI (-1) m') (h : EQM m m') (hd0 : 0 ≤ d) (hd1 : d < m.2 1 0) (hk : m.2 1 (5 + 2 * d) ≠ 1) (hst : m.2 33 d = 1) : EQM (s_to d m) (s_to d m') := by
  have htr := tr_ok hS hD hd0 hd1 hst
  obtain ⟨e1, e20, e35, e36, e37, e38, e39, ec, et, ed⟩ := id h
  have htr' : s_tr m' d = s_tr m d := by unfold s_tr; rw [h.1, (ed d hd0 hd1).1]
  have e29 := (et _ htr.2.1 htr.2.2.1).2.2.1
  have hn := s_nx_eq hS hD hd0 hd1 hk hst
  have hn' := s_nx_eq hS' hD' hd0 (by rw [e1]; exact hd1) (by rw [e1]; exact hk) (by rw [(ed d hd0 hd1).2.1]; exact hst)
  have hnx : s_nx m' (s_tr m d) = s_nx m (s_tr m d) := by
    have h1 := hn.1
    have h2 := hn'.1
    rw [htr', e1, e29] at h2
    rw [h1, h2]
  have hld : s_load m' (s_tr m d) = s_load m (s_tr m d) := by unfold s_load; rw [e1]
  unfold s_to
  rw [htr', hnx, hld, e29, e1, e36, e39]
  split
  · exact ⟨e1, e20, e35, e36, e37, e38, rfl, ec, et, ed⟩
  · have hp : EQM (s_to1 (s_tr m d) (s_nx m (s_tr m d)) m) (s_to1 (s_tr m d) (s_nx m (s_tr m d)) m') := by
      refine ⟨e1, e20, e35, by show m'.1 36 + 1 = m.1 36 + 1; rw [e36], e37, e38, e39, fun c g0 g1 => ?_, fun t g0 g1 => ?_, ed⟩
      · obtain ⟨c1, c2, c3, c4, c5, c6⟩ := ec c g0 g1
        exact ⟨c1, c2, zup_eq c3 e35, c4, c5, c6⟩
      · obtain ⟨a1, a2, a3, a4, a5⟩ := et t g0 g1
        exact ⟨a1, a2, zup_eq a3 (by rw [e29]), a4, a5⟩
    split
    · exact EQM_lv hp hd0 hd1
    · exact hp
theorem zfst_congr {p q : Int → Bool} {n : Int} (h : ∀ i, 0 ≤ i → i < n → p i = q i) : zfst p n = zfst q n := zfor_congr (fun i b h1 h2 => by rw [h i h1 h2])
theorem EQM_left {m m' : zOb} (hS : SI m) (h : EQM m m') (z : Int) : s_left m' z = s_left m z := by
  obtain ⟨e1, e20, e35, e36, e37, e38, e39, ec, et, ed⟩ := h
  unfold s_left
  rw [e20]
  have : zfst (fun c => decide (m'.2 22 c = z ∧ m'.2 24 c = -1 ∧ m'.2 30 (m'.2 21 c) ≠ -1)) (m.1 20) = zfst (fun c => decide (m.2 22 c = z ∧ m.2 24 c = -1 ∧ m.2 30 (m.2 21 c) ≠ -1)) (m.1 20) := by
    refine zfst_congr (fun i g0 g1 => ?_)
    obtain ⟨c1, c2, c3, c4, c5, c6⟩ := ec i g0 g1
    have hct := (hS.2.2.2.2.1 i g0 g1).1
    rw [c1, c2, c4, (et _ hct.1 hct.2).2.2.2.1]
  rw [this]
/-- both sides of a loop over doors -/
theorem EQM_for {f : Int → zOb → zOb} (hf : KP f) (hq : ∀ (d : Int) (m m' : zOb), SI m → DI (-1) m → SI m' → DI (-1) m' → EQM m m' → 0 ≤ d → d < m.2 1 0 → EQM (f d m) (f d m')) {m m' : zOb} (hS : SI m) (hD : DI (-1) m) (hS' : SI m') (hD' : DI (-1) m') (h : EQM m m') {i : Int} (h0 : 0 ≤ i) (h1 : i ≤ m.2 1 0) : EQM (zfor f i m) (zfor f i m') := by
  have key : ∀ n : Nat, (n : Int) ≤ m.2 1 0 → EQM (zfor f n m) (zfor f n m') := by
    intro n
    induction n with
    | zero => intro _; exact h
    | succ n ih =>
      intro hn
      obtain ⟨a1, a2, a3, -⟩ := KP_for hf hS hD (i := n) (by omega) (by omega)
      obtain ⟨b1, b2, b3, -⟩ := KP_for hf hS' hD' (i := n) (by omega) (by rw [h.1]; omega)
      rw [show ((n + 1 : Nat) : Int) = (n : Int) + 1 by omega, zfor_S _ (by omega), zfor_S _ (by omega)]
      exact hq n _ _ a1 a2 b1 b2 (ih (by omega)) (by omega) (by rw [a3.1]; omega)
  have := key i.toNat (by omega)
  rwa [show ((i.toNat : Nat) : Int) = i by omega] at this
theorem EQM_go {m m' : zOb} (hS : SI m) (hD : DI (-1) m) (hS' : SI m') (hD' : DI (-1) m') (h : EQM m m') : EQM (s_go m) (s_go m') := by
  have h6 := hS.1.1
  have e6 : m'.2 1 0 = m.2 1 0 := by rw [h.1]
  obtain ⟨a1, a2, a3, -⟩ := KP_for KP_dk hS hD h6.1 (Int.le_refl _)
  obtain ⟨a1', a2', a3', -⟩ := KP_for KP_dk hS' hD' (i := m'.2 1 0) (by omega) (Int.le_refl _)
  have p1 : EQM (s_p1 m) (s_p1 m') := by
    rw [s_p1_eq, s_p1_eq, e6]
    exact EQM_for KP_dk (fun d m m' _ _ _ _ q g0 g1 => EQM_dk q g0 g1) hS hD hS' hD' h h6.1 (Int.le_refl _)
  rw [← s_p1_eq] at a1 a2 a3 a1' a2' a3'
  have x1 : (s_p1 m).2 1 0 = m.2 1 0 := by rw [a3.1]
  have x1' : (s_p1 m').2 1 0 = (s_p1 m).2 1 0 := by rw [p1.1]
  obtain ⟨b1, b2, b3, -⟩ := KP_for KP_f2 a1 a2 (i := (s_p1 m).2 1 0) (by omega) (Int.le_refl _)
  obtain ⟨b1', b2', b3', -⟩ := KP_for KP_f2 a1' a2' (i := (s_p1 m').2 1 0) (by omega) (Int.le_refl _)
  have p2 : EQM (s_p2 (s_p1 m)) (s_p2 (s_p1 m')) := by
    rw [s_p2_eq, s_p2_eq, x1']
    refine EQM_for KP_f2 (fun d m m' g1 g2 g3 g4 q g0 g5 => ?_) a1 a2 a1' a2' p1 (by omega) (Int.le_refl _)
    unfold s_f2
    rw [q.1, (q.2.2.2.2.2.2.2.2.2 d g0 g5).2.1]
    split
    · rename_i y
      exact EQM_po g1 g2 q g0 g5 y.2
    · exact q
  rw [← s_p2_eq] at b1 b2 b3 b1' b2' b3'
  have x2 : (s_p2 (s_p1 m)).2 1 0 = m.2 1 0 := by rw [b3.1, a3.1]
  have x2' : (s_p2 (s_p1 m')).2 1 0 = (s_p2 (s_p1 m)).2 1 0 := by rw [p2.1]
  obtain ⟨c1, c2, c3, -⟩ := KP_for KP_f3 b1 b2 (i := (s_p2 (s_p1 m)).2 1 0) (by omega) (Int.le_refl _)
  obtain ⟨c1', c2', c3', -⟩ := KP_for KP_f3 b1' b2' (i := (s_p2 (s_p1 m')).2 1 0) (by omega) (Int.le_refl _)
  have p3 : EQM (s_p3 (s_p2 (s_p1 m))) (s_p3 (s_p2 (s_p1 m'))) := by
    rw [s_p3_eq, s_p3_eq, x2']
    refine EQM_for KP_f3 (fun d m m' g1 g2 g3 g4 q g0 g5 => ?_) b1 b2 b1' b2' p2 (by omega) (Int.le_refl _)
    unfold s_f3
    rw [q.1, (q.2.2.2.2.2.2.2.2.2 d g0 g5).2.1]
    split
    · rename_i y
      exact EQM_to g1 g2 g3 g4 q g0 g5 y.1 y.2
    · exact q
  rw [← s_p3_eq] at c1 c2 c3 c1' c2' c3'
  have x3 : (s_p3 (s_p2 (s_p1 m))).2 1 0 = m.2 1 0 := by rw [c3.1, b3.1, a3.1]
  have x3' : (s_p3 (s_p2 (s_p1 m'))).2 1 0 = (s_p3 (s_p2 (s_p1 m))).2 1 0 := by rw [p3.1]
  have p4 : EQM (s_p4 (s_p3 (s_p2 (s_p1 m)))) (s_p4 (s_p3 (s_p2 (s_p1 m')))) := by
    rw [s_p4_eq, s_p4_eq, x3']
    refine EQM_for KP_f4 (fun d m m' g1 g2 g3 g4 q g0 g5 => ?_) c1 c2 c1' c2' p3 (by omega) (Int.le_refl _)
    have htr : s_tr m' d = s_tr m d := by unfold s_tr; rw [q.1, (q.2.2.2.2.2.2.2.2.2 d g0 g5).1]
    unfold s_f4
    rw [EQM_left g1 q, htr, q.1, (q.2.2.2.2.2.2.2.2.2 d g0 g5).2.1]
    split
    · exact EQM_lv q g0 g5
    · exact q
  unfold s_go s_p5
  obtain ⟨e1, e20, e35, e36, e37, e38, e39, ec, et, ed⟩ := id p4
  rw [e36, e37]
  split
  · exact ⟨e1, e20, e35, e36, rfl, e35, e39, ec, et, ed⟩
  · exact p4
theorem EQM_over {m m' : zOb} (hS : SI m) (h : EQM m m') : s_over m' = s_over m := by
  obtain ⟨e1, e20, e35, e36, e37, e38, e39, ec, et, ed⟩ := h
  unfold s_over
  rw [e1]
  have : zfst (fun d => decide (m'.2 32 d < m.2 1 (65 + d))) (m.2 1 0) = zfst (fun d => decide (m.2 32 d < m.2 1 (65 + d))) (m.2 1 0) := zfst_congr (fun i g0 g1 => by rw [(ed i g0 g1).1])
  rw [this]
theorem EQM_ini {m m' : zOb} (he : m'.2 1 = m.2 1) (hwa : WFa (m.2 1)) (hwr : WFr (m.2 1)) : EQM (s_ini m) (s_ini m') := by
  have hwa' : WFa (m'.2 1) := by rw [he]; exact hwa
  have hwr' : WFr (m'.2 1) := by rw [he]; exact hwr
  obtain ⟨k1, k2, k3⟩ := ini_ok hwa hwr
  obtain ⟨j1, j2, j3⟩ := ini_ok hwa' hwr'
  obtain ⟨f1, f2, f3⟩ := ini_facts hwa hwr
  obtain ⟨g1, g2, g3⟩ := ini_facts hwa' hwr'
  have e1 : (s_ini m').2 1 = (s_ini m).2 1 := by rw [j3, k3, he]
  have e20 : (s_ini m').1 20 = (s_ini m).1 20 := by rw [j1.2.2.1, k1.2.2.1, e1]
  refine ⟨e1, e20, rfl, rfl, rfl, rfl, rfl, fun c q0 q1 => ?_, fun t q0 q1 => ?_, fun d q0 q1 => ?_⟩
  · obtain ⟨a1, a2, a3, a4⟩ := f2 c q0 q1
    obtain ⟨b1, b2, b3, b4⟩ := g2 c q0 (by rw [e20]; exact q1)
    have l1 := k1.2.2.2.2.1 c q0 q1
    have l2 := j1.2.2.2.2.1 c q0 (by rw [e20]; exact q1)
    rw [e1] at l2
    have hu := c_uniq k1.1 l2.1 l2.2.1 l2.2.2.1 l2.2.2.2.2.2.1 l2.2.2.2.2.2.2 l1.1 l1.2.1 l1.2.2.1 l1.2.2.2.2.2.1 l1.2.2.2.2.2.2
    rw [a1, a2, a3, a4, b1, b2, b3, b4]
    exact ⟨hu.1, hu.2, rfl, rfl, rfl, rfl⟩
  · rw [k3] at q1
    obtain ⟨a1, a2, a3⟩ := f1 t q0 q1
    obtain ⟨b1, b2, b3⟩ := g1 t q0 (by rw [he]; exact q1)
    rw [a1, a2, a3, b1, b2, b3]
    have l1 := k1.2.2.2.2.2.2 t q0 (by rw [k3]; exact q1)
    have l2 := j1.2.2.2.2.2.2 t q0 (by rw [e1, k3]; exact q1)
    rw [e1] at l2
    refine ⟨rfl, rfl, rfl, ?_⟩
    rcases l1 with ⟨z1, z2, z3⟩ | ⟨z1, z2, z3⟩ <;> rcases l2 with ⟨y1, y2, y3⟩ | ⟨y1, y2, y3⟩
    · omega
    · exact absurd y3 (z3 _ _ y1.1 y1.2 y2.1 y2.2)
    · exact absurd z3 (y3 _ _ z1.1 z1.2 z2.1 z2.2)
    · exact k1.2.1.2.2 _ _ _ _ y1.1 y1.2 y2.1 y2.2 z1.1 z1.2 z2.1 z2.2 (y3.trans z3.symm)
  · rw [k3] at q1
    obtain ⟨a1, a2, a3⟩ := f3 d q0 q1
    obtain ⟨b1, b2, b3⟩ := g3 d q0 (by rw [he]; exact q1)
    rw [a1, a2, a3, b1, b2, b3]
    exact ⟨rfl, rfl, rfl⟩
theorem EQM_run {m m' : zOb} (he : m'.2 1 = m.2 1) (hwa : WFa (m.2 1)) (hwr : WFr (m.2 1)) : EQM (s_run m) (s_run m') := by
  have key : ∀ (n : Nat) (m m' : zOb), SI m → DI (-1) m → SI m' → DI (-1) m' → EQM m m' → EQM (s_loop n m) (s_loop n m') := by
    intro n
    induction n with
    | zero => intro m m' _ _ _ _ h; exact h
    | succ n ih =>
      intro m m' h1 h2 h3 h4 h
      unfold s_loop
      rw [EQM_over h1 h, h.2.2.1]
      split
      · obtain ⟨g1, g2, g3, -⟩ := go_ok h1 h2
        obtain ⟨k1, k2, k3, -⟩ := go_ok h3 h4
        have e := EQM_go h1 h2 h3 h4 h
        have x1 : oss (s_go m) 35 ((s_go m).1 35 + 1) = oss (s_go m) 35 (m.1 35 + 1) := by rw [g3.2.2.2.2.2.2]
        have x2 : oss (s_go m') 35 ((s_go m').1 35 + 1) = oss (s_go m') 35 (m.1 35 + 1) := by rw [k3.2.2.2.2.2.2, h.2.2.1]
        rw [← x1, ← x2]
        refine ih _ _ g1 (DI_min g2) k1 (DI_min k2) ?_
        obtain ⟨e1, e20, e35, e36, e37, e38, e39, ec, et, ed⟩ := e
        exact ⟨e1, e20, by show (s_go m').1 35 + 1 = (s_go m).1 35 + 1; rw [e35], e36, e37, e38, e39, ec, et, ed⟩
      · exact h
  obtain ⟨k1, k2, k3⟩ := ini_ok hwa hwr
  obtain ⟨j1, j2, j3⟩ := ini_ok (m := m') (by rw [he]; exact hwa) (by rw [he]; exact hwr)
  exact key 201 _ _ k1 k2 j1 j2 (EQM_ini he hwa hwr)
/-- the run of a table -/
def ob (a : Int → Int) : zOb := (fun _ => 0, fun j => if j = 1 then a else fun _ => 0)
def ra (a : Int → Int) : zOb := s_run (ob a)
def rc (a : Int → Int) : Int := s_cost (ra a)
theorem ra_eq {m : zOb} (hwa : WFa (m.2 1)) (hwr : WFr (m.2 1)) : EQM (ra (m.2 1)) (s_run m) := EQM_run (m := ob (m.2 1)) (m' := m) rfl hwa hwr
theorem EQM_cost {m m' : zOb} (h : EQM m m') : s_cost m' = s_cost m ∧ s_lc m' = s_lc m ∧ s_far m' = s_far m ∧ s_ss m' = s_ss m ∧ s_on m' = s_on m := by
  obtain ⟨e1, e20, e35, e36, e37, e38, e39, ec, et, ed⟩ := h
  have l1 : s_lc m' = s_lc m := by
    unfold s_lc
    rw [e1]
    refine zfor_congr (fun t b g0 g1 => ?_)
    unfold s_late
    rw [e1, (et t g0 g1).2.1]
  have l2 : s_far m' = s_far m := by
    unfold s_far
    rw [e20]
    exact zfor_congr (fun c b g0 g1 => by rw [(ec c g0 g1).2.2.2.1, (ec c g0 g1).2.2.2.2.2])
  have l3 : s_ss m' = s_ss m := by
    unfold s_ss
    rw [e20]
    exact zfor_congr (fun c b g0 g1 => by rw [(ec c g0 g1).2.2.2.1, (ec c g0 g1).2.2.1])
  have l4 : s_on m' = s_on m := by
    unfold s_on
    rw [e20]
    exact zfor_congr (fun c b g0 g1 => by rw [(ec c g0 g1).2.2.2.1])
  refine ⟨?_, l1, l2, l3, l4⟩
  unfold s_cost
  rw [l1, l2, l3, l4, e20]
