/-! What a run's history says: the fullest staging, idle minutes. -/
def s_stA (m : zOb) (mu z : Int) : Int := zcnt (fun c => decide ((z = -1 ∨ m.2 22 c = z) ∧ m.2 23 c ≠ -1 ∧ m.2 23 c ≤ mu ∧ (m.2 24 c = -1 ∨ mu < m.2 24 c))) (m.1 20)
def s_fo (g : Int → Int) (n : Int) : Int × Int := zfor (fun mu p => if p.1 < g mu then (g mu, mu) else p) n (0, -1)
theorem s_fo_S (g : Int → Int) {n : Int} (h : 0 ≤ n) : s_fo g (n + 1) = if (s_fo g n).1 < g n then (g n, n) else s_fo g n := by
  unfold s_fo
  rw [zfor_S _ h]
theorem s_fo_ge (g : Int → Int) {n : Int} (hn : 0 ≤ n) : 0 ≤ (s_fo g n).1 ∧ ∀ i, 0 ≤ i → i < n → g i ≤ (s_fo g n).1 := by
  refine zfor_ind (fun k (p : Int × Int) => 0 ≤ p.1 ∧ ∀ i, 0 ≤ i → i < k → g i ≤ p.1) ⟨Int.le_refl 0, fun i h1 h2 => by omega⟩ (fun k p h1 h2 h3 => ?_) n hn (Int.le_refl n)
  split
  · rename_i hlt
    refine ⟨by show 0 ≤ g k; omega, fun i g1 g2 => ?_⟩
    show g i ≤ g k
    by_cases e : i = k
    · rw [e]; exact Int.le_refl _
    · have := h3.2 i g1 (by omega); omega
  · rename_i hlt
    refine ⟨h3.1, fun i g1 g2 => ?_⟩
    by_cases e : i = k
    · rw [e]; omega
    · exact h3.2 i g1 (by omega)
theorem s_fo_ext (g : Int → Int) {n k : Int} (hn : 0 ≤ n) (hk : n ≤ k) (h : ∀ i, n ≤ i → i < k → g i ≤ (s_fo g n).1) : s_fo g k = s_fo g n := by
  have key : ∀ j : Nat, n + j ≤ k → s_fo g (n + j) = s_fo g n := by
    intro j
    induction j with
    | zero => intro _; rw [show n + ((0 : Nat) : Int) = n by omega]
    | succ j ih =>
      intro hj
      rw [show n + ((j + 1 : Nat) : Int) = (n + j) + 1 by omega, s_fo_S g (by omega), ih (by omega), if_neg]
      have := h (n + j) (by omega) (by omega)
      omega
  have := key (k - n).toNat (by omega)
  rwa [show n + (((k - n).toNat : Nat) : Int) = k by omega] at this
theorem s_fo_congr {g g' : Int → Int} {n : Int} (h : ∀ i, 0 ≤ i → i < n → g i = g' i) : s_fo g n = s_fo g' n := zfor_congr (fun i b h1 h2 => by rw [h i h1 h2])
/-- what a minute leaves alone -/
def KH (m m' : zOb) : Prop := (∀ c, 0 ≤ c → c < m.1 20 → (m'.2 23 c = m.2 23 c ∨ (m.2 23 c = -1 ∧ m'.2 23 c = m.1 35)) ∧ (m'.2 24 c = m.2 24 c ∨ (m.2 24 c = -1 ∧ m'.2 24 c = m.1 35))) ∧ m'.1 37 = m.1 37 ∧ m'.1 38 = m.1 38
theorem KH.rf (m : zOb) : KH m m := ⟨fun c _ _ => ⟨Or.inl rfl, Or.inl rfl⟩, rfl, rfl⟩
theorem KH.tr {m m' m'' : zOb} (hs : SM m m') (h : KH m m') (g : KH m' m'') : KH m m'' := by
  refine ⟨fun c h0 h1 => ?_, g.2.1.trans h.2.1, g.2.2.trans h.2.2⟩
  have a := h.1 c h0 h1
  have b := g.1 c h0 (by rw [hs.2.1]; exact h1)
  have e := hs.2.2.2.2.2.2
  omega
theorem KH_lv (d : Int) (m : zOb) : KH m (s_lv d m) := ⟨fun c _ _ => ⟨Or.inl rfl, Or.inl rfl⟩, rfl, rfl⟩
theorem KH_dk (d : Int) (m : zOb) : KH m (s_dk d m) := by
  unfold s_dk
  split
  · exact ⟨fun c _ _ => ⟨Or.inl rfl, Or.inl rfl⟩, rfl, rfl⟩
  · exact KH.rf m
theorem KH_po1 {d b : Int} {m : zOb} (hb : s_can m d b = true) : KH m (s_po1 d b m) := by
  refine ⟨fun c _ _ => ⟨Or.inl rfl, ?_⟩, rfl, rfl⟩
  show zup (m.2 24) b (m.1 35) c = _ ∨ _ ∧ zup (m.2 24) b (m.1 35) c = _
  by_cases e : c = b
  · subst e
    rw [zup_s]
    have := hb
    unfold s_can at this
    exact Or.inr ⟨(of_decide_eq_true this).2.1, rfl⟩
  · rw [zup_n _ _ e]; exact Or.inl rfl
theorem KH_to1 {t : Int} {m : zOb} : KH m (s_to1 t (s_nx m t) m) := by
  refine ⟨fun c h0 _ => ⟨?_, Or.inl rfl⟩, rfl, rfl⟩
  show zup (m.2 23) (s_nx m t) (m.1 35) c = _ ∨ _ ∧ zup (m.2 23) (s_nx m t) (m.1 35) c = _
  by_cases e : c = s_nx m t
  · rw [e, zup_s]
    rcases zfst_cases (fun c => decide (m.2 21 c = t ∧ m.2 23 c = -1)) 40 with z | z
    · have : s_nx m t = -1 := z.1
      omega
    · exact Or.inr ⟨(of_decide_eq_true z.2.2.1).2, rfl⟩
  · rw [zup_n _ _ e]; exact Or.inl rfl
theorem KH_f2 (d : Int) {m : zOb} (hS : SI m) : KH m (s_f2 d m) := by
  unfold s_f2
  split
  · unfold s_po
    have hn := hS.2.2.2.1.1
    rcases s_best_spec m d hn with z | z
    · rw [if_pos z]; exact KH.rf m
    · rw [if_neg (by omega)]
      split
      · exact KH_po1 z.2.2
      · exact KH_po1 z.2.2
  · exact KH.rf m
theorem KH_f3 (d : Int) (m : zOb) : KH m (s_f3 d m) := by
  unfold s_f3
  split
  · unfold s_to
    split
    · exact ⟨fun c _ _ => ⟨Or.inl rfl, Or.inl rfl⟩, rfl, rfl⟩
    · split
      · exact KH_to1
      · exact KH_to1
  · exact KH.rf m
theorem KH_f4 (d : Int) (m : zOb) : KH m (s_f4 d m) := by
  unfold s_f4
  split
  · exact KH_lv d m
  · exact KH.rf m
theorem KH_for {f : Int → zOb → zOb} (hf : KP f) (hh : ∀ (d : Int) (m : zOb), SI m → KH m (f d m)) {m : zOb} (hS : SI m) (hD : DI (-1) m) {i : Int} (h0 : 0 ≤ i) (h1 : i ≤ m.2 1 0) : KH m (zfor f i m) := by
  have key : ∀ n : Nat, (n : Int) ≤ m.2 1 0 → KH m (zfor f n m) := by
    intro n
    induction n with
    | zero => intro _; exact KH.rf m
    | succ n ih =>
      intro hn
      obtain ⟨a1, a2, a3, -⟩ := KP_for hf hS hD (i := n) (by omega) (by omega)
      rw [show ((n + 1 : Nat) : Int) = (n : Int) + 1 by omega, zfor_S _ (by omega)]
      exact KH.tr a3 (ih (by omega)) (hh n _ a1)
  have := key i.toNat (by omega)
  rwa [show ((i.toNat : Nat) : Int) = i by omega] at this
/-- idle minutes so far; the minute that runs counts for doors below i -/
def gI (m : zOb) (i t : Int) : Int := if m.2 1 (17 + 6 * t + 0) = 0 then (if m.2 27 t = -1 then 0 else (if m.2 28 t = -1 then m.1 35 + (if m.2 30 t < i then 1 else 0) else m.2 28 t + 1) - m.2 27 t) - m.2 29 t else 0
def HI (i : Int) (m : zOb) : Prop := m.1 39 = zsum (gI m i) (m.2 1 1)
theorem stand_at {m : zOb} (hS : SI m) (hD : DI (-1) m) {t : Int} (h0 : 0 ≤ t) (h1 : t < m.2 1 1) (hd : m.2 27 t ≠ -1) (hl : m.2 28 t = -1) : (0 ≤ m.2 30 t ∧ m.2 30 t < m.2 1 0) ∧ m.2 33 (m.2 30 t) = 1 ∧ s_tr m (m.2 30 t) = t := by
  obtain ⟨d1, d2, d3, d4, d5, d6, d7, d8⟩ := hD
  rcases hS.2.2.2.2.2.2 t h0 h1 with z | z
  · exact absurd ((d6 t h0 h1).2.2.2 z.1).2.1 hd
  · have hdd := d1 (m.2 30 t) z.1.1 z.1.2
    refine ⟨z.1, ?_⟩
    by_cases hp : m.2 31 t < m.2 32 (m.2 30 t)
    · have := d4 (m.2 30 t) (m.2 31 t) z.1.1 z.1.2 z.2.1.1 hp
      rw [z.2.2] at this
      omega
    · by_cases hf : m.2 32 (m.2 30 t) + m.2 33 (m.2 30 t) ≤ m.2 31 t
      · have := d3 (m.2 30 t) (m.2 31 t) z.1.1 z.1.2 hf z.2.1.2
        rw [z.2.2] at this
        omega
      · have e : m.2 32 (m.2 30 t) = m.2 31 t := by omega
        refine ⟨by omega, ?_⟩
        show m.2 1 (71 + 8 * m.2 30 t + m.2 32 (m.2 30 t)) = t
        rw [e]; exact z.2.2
/-- the truck of a door has this door -/
theorem tr_door {m : zOb} (hS : SI m) {d k : Int} (h0 : 0 ≤ d) (h1 : d < m.2 1 0) (k0 : 0 ≤ k) (k1 : k < m.2 1 (65 + d)) : m.2 30 (m.2 1 (71 + 8 * d + k)) = d ∧ m.2 31 (m.2 1 (71 + 8 * d + k)) = k := by
  have hr := hS.2.1.2.1 d k h0 h1 k0 k1
  rcases hS.2.2.2.2.2.2 _ hr.1 hr.2.1 with z | z
  · exact absurd rfl (z.2.2 d k h0 h1 k0 k1)
  · have := hS.2.1.2.2 _ _ d k z.1.1 z.1.2 z.2.1.1 z.2.1.2 h0 h1 k0 k1 z.2.2
    exact this
theorem HI_out {m m' : zOb} {i t0 : Int} (hs : SM m m') (h39 : m'.1 39 = m.1 39) (hk : m.2 1 (17 + 6 * t0 + 0) = 1) (hc : ∀ t, t ≠ t0 → m'.2 27 t = m.2 27 t ∧ m'.2 28 t = m.2 28 t ∧ m'.2 29 t = m.2 29 t) (h : HI i m) : HI i m' := by
  unfold HI at h ⊢
  rw [h39, h, hs.1]
  refine zsum_congr (fun t _ _ => ?_)
  unfold gI
  by_cases e : t = t0
  · rw [hs.1, e, if_neg (by omega), if_neg (by omega)]
  · obtain ⟨a, b, c⟩ := hc t e
    rw [hs.1, a, b, c, hs.2.2.2.2.1, hs.2.2.2.2.2.2]
theorem HI_dk {m : zOb} (hS : SI m) (hD : DI (-1) m) {d : Int} (h0 : 0 ≤ d) (h1 : d < m.2 1 0) (h : HI 0 m) : HI 0 (s_dk d m) := by
  unfold s_dk
  split
  · rename_i q
    have hrow := hD.2.2.1 d (m.2 32 d) h0 h1 (by omega) q.2.1
    have hdd := hD.1 d h0 h1
    have htd := tr_door hS h0 h1 hdd.1.1 q.2.1
    unfold HI at h ⊢
    show m.1 39 = zsum _ (m.2 1 1)
    rw [h]
    refine zsum_congr (fun t _ _ => ?_)
    show gI m 0 t = if m.2 1 (17 + 6 * t + 0) = 0 then (if zup (m.2 27) (s_tr m d) (m.1 35) t = -1 then 0 else (if m.2 28 t = -1 then m.1 35 + (if m.2 30 t < 0 then 1 else 0) else m.2 28 t + 1) - zup (m.2 27) (s_tr m d) (m.1 35) t) - m.2 29 t else 0
    unfold gI
    by_cases e : t = s_tr m d
    · have e2 : m.2 27 t = -1 := by rw [e]; exact hrow.2.1
      have e3 : m.2 28 t = -1 := by rw [e]; exact hrow.2.2
      have e4 : m.2 29 t = 0 := by rw [e]; exact hrow.1
      have e5 : m.2 30 t = d := by rw [e]; exact htd.1
      have e6 : zup (m.2 27) (s_tr m d) (m.1 35) t = m.1 35 := by rw [e, zup_s]
      have h35 := hD.2.2.2.2.2.2.2.2
      rw [e6, e2, e3, e4, e5, if_neg (show ¬ d < 0 by omega)]
      split
      · rw [if_pos rfl, if_neg (by omega), if_pos rfl]; omega
      · rfl
    · rw [zup_n _ _ e]
  · exact h
theorem HI_f2 {m : zOb} (hS : SI m) (hD : DI (-1) m) {d i : Int} (h0 : 0 ≤ d) (h1 : d < m.2 1 0) (h : HI i m) : HI i (s_f2 d m) := by
  unfold s_f2
  split
  · rename_i q
    have ht := tr_ok hS hD h0 h1 q.2
    have hko : m.2 1 (17 + 6 * s_tr m d + 0) = 1 := by have := hS.2.1.2.1 d (m.2 32 d) h0 h1 ht.1.1 ht.1.2.1; rw [← q.1]; exact this.2.2
    have hp := s_po_39 d m
    refine HI_out (t0 := s_tr m d) hp.1 hp.2 hko (fun t e => ?_) h
    unfold s_po
    split
    · exact ⟨rfl, rfl, rfl⟩
    · split
      · refine ⟨rfl, ?_, ?_⟩
        · show zup (m.2 28) (s_tr m d) (m.1 35) t = _
          rw [zup_n _ _ e]
        · show zup (m.2 29) (s_tr m d) (m.2 29 (s_tr m d) + 1) t = _
          rw [zup_n _ _ e]
      · refine ⟨rfl, rfl, ?_⟩
        show zup (m.2 29) (s_tr m d) (m.2 29 (s_tr m d) + 1) t = _
        rw [zup_n _ _ e]
  · exact h
theorem HI_f4 {m : zOb} (hS : SI m) (hD : DI (-1) m) {d i : Int} (h0 : 0 ≤ d) (h1 : d < m.2 1 0) (h : HI i m) : HI i (s_f4 d m) := by
  unfold s_f4
  split
  · rename_i q
    have ht := tr_ok hS hD h0 h1 q.2.1
    have hko : m.2 1 (17 + 6 * s_tr m d + 0) = 1 := by have := hS.2.1.2.1 d (m.2 32 d) h0 h1 ht.1.1 ht.1.2.1; rw [← q.1]; exact this.2.2
    refine HI_out (m := m) (t0 := s_tr m d) ⟨rfl, rfl, rfl, rfl, rfl, rfl, rfl⟩ rfl hko (fun t e => ⟨rfl, ?_, rfl⟩) h
    show zup (m.2 28) (s_tr m d) (m.1 35) t = _
    rw [zup_n _ _ e]
  · exact h
theorem HI_f3 {m : zOb} (hS : SI m) (hD : DI (-1) m) {d : Int} (h0 : 0 ≤ d) (h1 : d < m.2 1 0) (h : HI d m) : HI (d + 1) (s_f3 d m) := by
  have hco : ∀ t, 0 ≤ t → t < m.2 1 1 → (m.2 33 d = 1 → m.2 1 (5 + 2 * d) ≠ 1 → t ≠ s_tr m d) → gI m d t = gI m (d + 1) t := by
    intro t t0 t1 hne
    unfold gI
    split
    · rename_i hk
      by_cases e1 : m.2 27 t = -1
      · rw [if_pos e1, if_pos e1]
      · by_cases e2 : m.2 28 t = -1
        · obtain ⟨y1, y2, y3⟩ := stand_at hS hD t0 t1 e1 e2
          have hnd : m.2 30 t ≠ d := by
            intro e
            rw [e] at y2 y3
            have ht := tr_ok hS hD h0 h1 y2
            have hko := (hS.2.1.2.1 d (m.2 32 d) h0 h1 ht.1.1 ht.1.2.1).2.2
            have hk2 : m.2 1 (5 + 2 * d) = 0 := by
              rw [← hko]
              show m.2 1 (17 + 6 * s_tr m d + 0) = 0
              rw [y3]; exact hk
            exact hne y2 (by omega) y3.symm
          have e3 : (if m.2 30 t < d + 1 then (1 : Int) else 0) = (if m.2 30 t < d then 1 else 0) := by
            by_cases q : m.2 30 t < d
            · rw [if_pos q, if_pos (by omega)]
            · rw [if_neg q, if_neg (by omega)]
          rw [e3]
        · rw [if_neg e2, if_neg e2]
    · rfl
  unfold s_f3
  split
  · rename_i q
    have ht := tr_ok hS hD h0 h1 q.2
    have hdd := hD.1 d h0 h1
    have hst := hdd.2.2.1 q.2
    have htd := tr_door hS h0 h1 hdd.1.1 hst.1
    have hko := (hS.2.1.2.1 d (m.2 32 d) h0 h1 ht.1.1 ht.1.2.1).2.2
    have hkd := (hS.1.2.2.2.2.2.1 d h0 h1).1
    have hki : m.2 1 (17 + 6 * s_tr m d + 0) = 0 := by
      have := q.1
      show m.2 1 (17 + 6 * m.2 1 (71 + 8 * d + m.2 32 d) + 0) = 0
      omega
    have hg0 : gI m d (s_tr m d) = m.1 35 - m.2 27 (s_tr m d) - m.2 29 (s_tr m d) := by
      unfold gI
      rw [if_pos hki, if_neg (by have := hst.2.1; omega), if_pos hst.2.2, if_neg (show ¬ m.2 30 (s_tr m d) < d by have := htd.1; show ¬ m.2 30 (m.2 1 (71 + 8 * d + m.2 32 d)) < d; omega)]
      omega
    have hn0 := hst.2.1
    unfold HI at h ⊢
    unfold s_to
    split
    · show m.1 39 + 1 = zsum (gI (oss m 39 (m.1 39 + 1)) (d + 1)) (m.2 1 1)
      rw [zsum_one (f := gI m d) (g := gI (oss m 39 (m.1 39 + 1)) (d + 1)) (k := s_tr m d) (v := 1) ht.2.1 ht.2.2.1 ?_ ?_, h]
      · rw [hg0]
        show gI m (d + 1) (s_tr m d) = _
        unfold gI
        rw [if_pos hki, if_neg (by omega), if_pos hst.2.2, if_pos (show m.2 30 (s_tr m d) < d + 1 by have := htd.1; show m.2 30 (m.2 1 (71 + 8 * d + m.2 32 d)) < d + 1; omega)]
        omega
      · intro t t0 t1 e
        exact (hco t t0 t1 (fun _ _ => e)).symm
    · split
      · show m.1 39 = zsum (gI (s_lv d (s_to1 (s_tr m d) (s_nx m (s_tr m d)) m)) (d + 1)) (m.2 1 1)
        rw [h]
        refine zsum_congr (fun t t0 t1 => ?_)
        show _ = if m.2 1 (17 + 6 * t + 0) = 0 then (if m.2 27 t = -1 then 0 else (if zup (m.2 28) (s_tr m d) (m.1 35) t = -1 then m.1 35 + (if m.2 30 t < d + 1 then 1 else 0) else zup (m.2 28) (s_tr m d) (m.1 35) t + 1) - m.2 27 t) - zup (m.2 29) (s_tr m d) (m.2 29 (s_tr m d) + 1) t else 0
        by_cases e : t = s_tr m d
        · rw [e, hg0, if_pos hki, if_neg (by omega), zup_s, zup_s, if_neg (by have := hD.2.2.2.2.2.2.2.2; omega)]
          omega
        · rw [zup_n _ _ e, zup_n _ _ e, hco t t0 t1 (fun _ _ => e)]
          rfl
      · show m.1 39 = zsum (gI (s_to1 (s_tr m d) (s_nx m (s_tr m d)) m) (d + 1)) (m.2 1 1)
        rw [h]
        refine zsum_congr (fun t t0 t1 => ?_)
        show _ = if m.2 1 (17 + 6 * t + 0) = 0 then (if m.2 27 t = -1 then 0 else (if m.2 28 t = -1 then m.1 35 + (if m.2 30 t < d + 1 then 1 else 0) else m.2 28 t + 1) - m.2 27 t) - zup (m.2 29) (s_tr m d) (m.2 29 (s_tr m d) + 1) t else 0
        by_cases e : t = s_tr m d
        · rw [e, hg0, if_pos hki, if_neg (by omega), zup_s, if_pos hst.2.2, if_pos (show m.2 30 (s_tr m d) < d + 1 by have := htd.1; show m.2 30 (m.2 1 (71 + 8 * d + m.2 32 d)) < d + 1; omega)]
          omega
        · rw [zup_n _ _ e, hco t t0 t1 (fun _ _ => e)]
          rfl
  · rename_i q
    unfold HI at h ⊢
    rw [h]
    exact zsum_congr (fun t t0 t1 => hco t t0 t1 (fun a b => absurd ⟨b, a⟩ q))
theorem HI_for {f : Int → zOb → zOb} (hf : KP f) {P : Int → zOb → Prop} (hh : ∀ (d : Int) (m : zOb), SI m → DI (-1) m → 0 ≤ d → d < m.2 1 0 → P d m → P (d + 1) (f d m)) {m : zOb} (hS : SI m) (hD : DI (-1) m) (h : P 0 m) : P (m.2 1 0) (zfor f (m.2 1 0) m) := by
  have h6 := hS.1.1
  have key : ∀ n : Nat, (n : Int) ≤ m.2 1 0 → P n (zfor f n m) := by
    intro n
    induction n with
    | zero => intro _; exact h
    | succ n ih =>
      intro hn
      obtain ⟨a1, a2, a3, -⟩ := KP_for hf hS hD (i := n) (by omega) (by omega)
      rw [show ((n + 1 : Nat) : Int) = (n : Int) + 1 by omega, zfor_S _ (by omega)]
      exact hh n _ a1 a2 (by omega) (by rw [a3.1]; omega) (ih (by omega))
  have := key (m.2 1 0).toNat (by omega)
  rwa [show (((m.2 1 0).toNat : Nat) : Int) = m.2 1 0 by omega] at this
/-- what holds as a minute begins -/
def HIS (m : zOb) : Prop := (∀ c, 0 ≤ c → c < m.1 20 → m.2 23 c < m.1 35 ∧ m.2 24 c < m.1 35) ∧ (m.1 37, m.1 38) = s_fo (fun mu => s_stA m mu (-1)) (m.1 35) ∧ HI 0 m
theorem go_p5 (m : zOb) : SM m (s_p5 m) ∧ (s_p5 m).1 39 = m.1 39 ∧ (s_p5 m).1 36 = m.1 36 ∧ (∀ j, (s_p5 m).2 j = m.2 j) := by
  unfold s_p5
  split
  · exact ⟨⟨rfl, rfl, rfl, rfl, rfl, rfl, rfl⟩, rfl, rfl, fun j => rfl⟩
  · exact ⟨SM.rf m, rfl, rfl, fun j => rfl⟩
theorem HIS_go {m : zOb} (hS : SI m) (hD : DI (-1) m) (h : HIS m) : HIS (oss (s_go m) 35 (m.1 35 + 1)) := by
  have h6 := hS.1.1
  have h35 := hD.2.2.2.2.2.2.2.2
  obtain ⟨a1, a2, a3, -⟩ := KP_for KP_dk hS hD (i := m.2 1 0) (by omega) (by omega)
  have b1 := KH_for KP_dk (fun d m _ => KH_dk d m) hS hD (i := m.2 1 0) (by omega) (by omega)
  have c1 : HI 0 (s_p1 m) := HI_for (P := fun _ m => HI 0 m) KP_dk (fun d m x1 x2 x3 x4 x5 => HI_dk x1 x2 x3 x4 x5) hS hD h.2.2
  rw [← s_p1_eq] at a1 a2 a3 b1
  unfold s_go
  generalize s_p1 m = m1 at a1 a2 a3 b1 c1 ⊢
  have e1 : m1.2 1 0 = m.2 1 0 := by rw [a3.1]
  obtain ⟨p1, p2, p3, -⟩ := KP_for KP_f2 a1 a2 (i := m1.2 1 0) (by omega) (by omega)
  have q1 := KH_for KP_f2 (fun d m x => KH_f2 d x) a1 a2 (i := m1.2 1 0) (by omega) (by omega)
  have c2 : HI 0 (s_p2 m1) := HI_for (P := fun _ m => HI 0 m) KP_f2 (fun d m x1 x2 x3 x4 x5 => HI_f2 x1 x2 x3 x4 x5) a1 a2 c1
  rw [← s_p2_eq] at p1 p2 p3 q1
  generalize s_p2 m1 = m2 at p1 p2 p3 q1 c2 ⊢
  have e2 : m2.2 1 0 = m.2 1 0 := by rw [p3.1, e1]
  obtain ⟨r1, r2, r3, -⟩ := KP_for KP_f3 p1 p2 (i := m2.2 1 0) (by omega) (by omega)
  have t1 := KH_for KP_f3 (fun d m _ => KH_f3 d m) p1 p2 (i := m2.2 1 0) (by omega) (by omega)
  have c3 : HI (m2.2 1 0) (s_p3 m2) := HI_for (P := fun d m => HI d m) KP_f3 (fun d m x1 x2 x3 x4 x5 => HI_f3 x1 x2 x3 x4 x5) p1 p2 c2
  rw [← s_p3_eq] at r1 r2 r3 t1
  generalize s_p3 m2 = m3 at r1 r2 r3 t1 c3 ⊢
  have e3 : m3.2 1 0 = m.2 1 0 := by rw [r3.1, e2]
  rw [e2] at c3
  obtain ⟨u1, u2, u3, -⟩ := KP_for KP_f4 r1 r2 (i := m3.2 1 0) (by omega) (by omega)
  have v1 := KH_for KP_f4 (fun d m _ => KH_f4 d m) r1 r2 (i := m3.2 1 0) (by omega) (by omega)
  have c4 : HI (m.2 1 0) (s_p4 m3) := HI_for (P := fun _ y => HI (m.2 1 0) y) KP_f4 (fun d y x1 x2 x3 x4 x5 => HI_f4 x1 x2 x3 x4 x5) r1 r2 c3
  rw [← s_p4_eq] at u1 u2 u3 v1
  generalize s_p4 m3 = m4 at u1 u2 u3 v1 c4 ⊢
  have hSM : SM m m4 := ((a3.tr p3).tr r3).tr u3
  have hKH : KH m m4 := KH.tr ((a3.tr p3).tr r3) (KH.tr (a3.tr p3) (KH.tr a3 b1 q1) t1) v1
  clear a1 a2 a3 b1 c1 e1 p1 p2 p3 q1 c2 e2 r1 r2 r3 t1 c3 e3 u3 v1 m1 m2 m3
  have e35 : m4.1 35 = m.1 35 := hSM.2.2.2.2.2.2
  have e20 : m4.1 20 = m.1 20 := hSM.2.1
  have hc := u2.2.2.2.2.2.2.1
  have hn := u2.2.2.2.2.2.2.2
  have hst : ∀ mu, mu < m.1 35 → s_stA m4 mu (-1) = s_stA m mu (-1) := by
    intro mu hmu
    unfold s_stA
    rw [e20]
    refine zcnt_congr (fun c x0 x1 => ?_)
    have k := hKH.1 c x0 x1
    have o := h.1 c x0 x1
    refine decide_eq_decide.mpr ?_
    omega
  have hlast : s_stA m4 (m.1 35) (-1) = m4.1 36 := by
    rw [hn.1]
    unfold s_stA s_stg
    refine zcnt_congr (fun c x0 x1 => ?_)
    have k := hc c x0 x1
    refine decide_eq_decide.mpr ?_
    omega
  have hp5 := go_p5 m4
  have h5 : ((s_p5 m4).1 37, (s_p5 m4).1 38) = s_fo (fun mu => s_stA m4 mu (-1)) (m.1 35 + 1) := by
    rw [s_fo_S _ h35, s_fo_congr (g := fun mu => s_stA m4 mu (-1)) (g' := fun mu => s_stA m mu (-1)) (fun i x0 x1 => hst i x1), ← h.2.1]
    show _ = if m.1 37 < s_stA m4 (m.1 35) (-1) then (s_stA m4 (m.1 35) (-1), m.1 35) else _
    rw [hlast]
    unfold s_p5
    rw [hKH.2.1]
    split
    · show (m4.1 36, m4.1 35) = _
      rw [e35]
    · rw [hKH.2.1, hKH.2.2]
  refine ⟨fun c x0 x1 => ?_, ?_, ?_⟩
  · have x1' : c < m4.1 20 := by rw [← hp5.1.2.1]; exact x1
    have k := hc c x0 x1'
    show (s_p5 m4).2 23 c < m.1 35 + 1 ∧ (s_p5 m4).2 24 c < m.1 35 + 1
    rw [hp5.2.2.2, hp5.2.2.2]
    omega
  · show ((s_p5 m4).1 37, (s_p5 m4).1 38) = _
    rw [h5]
    refine s_fo_congr (fun i x0 x1 => ?_)
    unfold s_stA
    show _ = zcnt (fun c => decide ((-1 = -1 ∨ (s_p5 m4).2 22 c = -1) ∧ (s_p5 m4).2 23 c ≠ -1 ∧ (s_p5 m4).2 23 c ≤ i ∧ ((s_p5 m4).2 24 c = -1 ∨ i < (s_p5 m4).2 24 c))) ((s_p5 m4).1 20)
    rw [hp5.2.2.2, hp5.2.2.2, hp5.2.2.2, hp5.1.2.1]
  · unfold HI at c4 ⊢
    show (s_p5 m4).1 39 = zsum _ ((s_p5 m4).2 1 1)
    rw [hp5.2.1, c4, hp5.2.2.2]
    refine zsum_congr (fun t x0 x1 => ?_)
    unfold gI
    show _ = if (s_p5 m4).2 1 (17 + 6 * t + 0) = 0 then (if (s_p5 m4).2 27 t = -1 then 0 else (if (s_p5 m4).2 28 t = -1 then m.1 35 + 1 + (if (s_p5 m4).2 30 t < 0 then 1 else 0) else (s_p5 m4).2 28 t + 1) - (s_p5 m4).2 27 t) - (s_p5 m4).2 29 t else 0
    rw [hp5.2.2.2, hp5.2.2.2, hp5.2.2.2, hp5.2.2.2, hp5.2.2.2, e35]
    split
    · by_cases z1 : m4.2 27 t = -1
      · rw [if_pos z1, if_pos z1]
      · rw [if_neg z1, if_neg z1]
        by_cases z2 : m4.2 28 t = -1
        · have st := stand_at u1 u2 x0 x1 z1 z2
          rw [if_pos z2, if_pos z2, if_pos (by rw [← hSM.1]; exact st.1.2), if_neg (by omega)]
          omega
        · rw [if_neg z2, if_neg z2]
    · rfl
theorem HIS_ini {m : zOb} (hwa : WFa (m.2 1)) (hwr : WFr (m.2 1)) : HIS (s_ini m) := by
  have hf := ini_facts hwa hwr
  obtain ⟨k1, k2, k3⟩ := ini_ok hwa hwr
  refine ⟨fun c x0 x1 => ?_, rfl, ?_⟩
  · have := hf.2.1 c x0 x1
    show (s_ini m).2 23 c < 0 ∧ (s_ini m).2 24 c < 0
    omega
  · unfold HI
    show 0 = _
    rw [k3]
    refine Eq.symm ((zsum_z (by have := hwa.2.1; omega) (fun t x0 x1 => ?_)).mpr (fun t x0 x1 => ?_))
    all_goals
      have := hf.1 t x0 x1
      unfold gI
      rw [if_pos this.1, this.2.2]
      split <;> omega
/-- what a run's numbers are -/
theorem run_his {m : zOb} (hwa : WFa (m.2 1)) (hwr : WFr (m.2 1)) : ((s_run m).1 37, (s_run m).1 38) = s_fo (fun mu => s_stA (s_run m) mu (-1)) 200 ∧ (s_run m).1 39 = zsum (fun t => if (s_run m).2 1 (17 + 6 * t + 0) = 0 then q_mn (s_run m) t - (s_run m).2 29 t else 0) ((s_run m).2 1 1) := by
  have key : ∀ (n : Nat) (m' : zOb), SI m' → DI (-1) m' → HIS m' → m'.1 35 ≤ 200 → 200 - m'.1 35 < n → SI (s_loop n m') ∧ DI (-1) (s_loop n m') ∧ HIS (s_loop n m') ∧ (s_loop n m').1 35 ≤ 200 ∧ ((s_loop n m').1 35 = 200 ∨ s_over (s_loop n m') = true) := by
    intro n
    induction n with
    | zero => intro m' h1 h2 h3 h4 h5; omega
    | succ n ih =>
      intro m' h1 h2 h3 h4 h5
      unfold s_loop
      split
      · rename_i q
        obtain ⟨g1, g2, g3, g4, g5⟩ := go_ok h1 h2
        have e35 : oss (s_go m') 35 ((s_go m').1 35 + 1) = oss (s_go m') 35 (m'.1 35 + 1) := by rw [g3.2.2.2.2.2.2]
        have hh := HIS_go h1 h2 h3
        rw [← e35] at hh ⊢
        have e : (s_go m').1 35 = m'.1 35 := g3.2.2.2.2.2.2
        refine ih _ g1 (DI_min g2) hh ?_ ?_
        · show (s_go m').1 35 + 1 ≤ 200
          omega
        · show 200 - ((s_go m').1 35 + 1) < (n : Int)
          omega
      · rename_i q
        refine ⟨h1, h2, h3, h4, ?_⟩
        by_cases z : m'.1 35 = 200
        · exact Or.inl z
        · right
          cases ho : s_over m' with
          | true => rfl
          | false => exact absurd ⟨by omega, ho⟩ q
  obtain ⟨k1, k2, k3⟩ := ini_ok hwa hwr
  have K := key 201 (s_ini m) k1 k2 (HIS_ini hwa hwr) (by show (0 : Int) ≤ 200; omega) (by show (200 : Int) - 0 < _; omega)
  change SI (s_run m) ∧ DI (-1) (s_run m) ∧ HIS (s_run m) ∧ (s_run m).1 35 ≤ 200 ∧ ((s_run m).1 35 = 200 ∨ s_over (s_run m) = true) at K
  clear k1 k2 k3 key
  generalize s_run m = y at K ⊢
  obtain ⟨hS, hD, hH, h200, hend⟩ := K
  have h35 := hD.2.2.2.2.2.2.2.2
  refine ⟨?_, ?_⟩
  · rw [hH.2.1]
    refine (s_fo_ext _ h35 h200 (fun i x0 x1 => ?_)).symm
    have hge := s_fo_ge (fun mu => s_stA y mu (-1)) h35
    have hsame : s_stA y i (-1) = s_stA y (y.1 35 - 1) (-1) := by
      unfold s_stA
      refine zcnt_congr (fun c z0 z1 => ?_)
      have k := hH.1 c z0 z1
      have k2 := hD.2.2.2.2.2.2.1 c z0 z1
      refine decide_eq_decide.mpr ?_
      omega
    rw [hsame]
    by_cases z : y.1 35 = 0
    · have : s_stA y (y.1 35 - 1) (-1) = 0 := by
        unfold s_stA
        refine zcnt_none (fun c z0 z1 => ?_)
        have k := hH.1 c z0 z1
        have k2 := hD.2.2.2.2.2.2.1 c z0 z1
        refine decide_eq_false ?_
        omega
      rw [this]; exact hge.1
    · exact hge.2 (y.1 35 - 1) (by omega) (by omega)
  · have := hH.2.2
    unfold HI at this
    rw [this]
    refine zsum_congr (fun t x0 x1 => ?_)
    unfold gI
    split
    · unfold q_mn q_lm
      by_cases z1 : y.2 27 t = -1
      · rw [if_pos z1, if_pos z1]
      · rw [if_neg z1, if_neg z1]
        by_cases z2 : y.2 28 t = -1
        · have st := stand_at hS hD x0 x1 z1 z2
          have hdd := hD.1 _ st.1.1 st.1.2
          have h2 := hdd.2.2.1 st.2.1
          rcases hend with e | e
          · rw [if_pos z2, if_pos z2, if_neg (by omega)]
            omega
          · exfalso
            have e' := of_decide_eq_true e
            rcases zfst_cases (fun d => decide (y.2 32 d < y.2 1 (65 + d))) (y.2 1 0) with w | w
            · have := of_decide_eq_false (w.2 _ st.1.1 st.1.2)
              exact this h2.1
            · omega
        · rw [if_neg z2, if_neg z2]
          omega
    · rfl
