/-! The invariants are kept. -/
theorem SI_lv (d : Int) (m : zOb) : SI (s_lv d m) = SI m := rfl
theorem SI_po1 (d b : Int) (m : zOb) : SI (s_po1 d b m) = SI m := rfl
theorem SI_to1 (t c : Int) (m : zOb) : SI (s_to1 t c m) = SI m := rfl
/-- two places of rows hold two trucks -/
theorem ro_ne {a : Int → Int} (h : WFr a) {d k d' k' : Int} (h1 : 0 ≤ d) (h2 : d < a 0) (h3 : 0 ≤ k) (h4 : k < a (65 + d)) (g1 : 0 ≤ d') (g2 : d' < a 0) (g3 : 0 ≤ k') (g4 : k' < a (65 + d')) (hne : d ≠ d' ∨ k ≠ k') : a (71 + 8 * d + k) ≠ a (71 + 8 * d' + k') := by
  intro e
  have := h.2.2 d k d' k' h1 h2 h3 h4 g1 g2 g3 g4 e
  omega
theorem DI_lv {m : zOb} {d x : Int} (hS : SI m) (h : DI x m) (hd0 : 0 ≤ d) (hd1 : d < m.2 1 0) (hst : m.2 33 d = 1) (hx : x = d ∨ x = -1) : DI (-1) (s_lv d m) := by
  obtain ⟨hwa, hwr, hly⟩ := hS
  obtain ⟨i1, i2, i3, i4, i5, i6, i7, i8⟩ := h
  have e1 : (s_lv d m).2 1 = m.2 1 := rfl
  have e28 : (s_lv d m).2 28 = zup (m.2 28) (s_tr m d) (m.1 35) := rfl
  have e33 : (s_lv d m).2 33 = zup (m.2 33) d 0 := rfl
  have e32 : (s_lv d m).2 32 = zup (m.2 32) d (m.2 32 d + 1) := rfl
  have e34 : (s_lv d m).2 34 = zup (m.2 34) d (m.1 35 + m.2 1 3 + 1) := rfl
  have e27 : (s_lv d m).2 27 = m.2 27 := rfl
  have e29 : (s_lv d m).2 29 = m.2 29 := rfl
  have e35 : (s_lv d m).1 35 = m.1 35 := rfl
  have hm := i8.2
  obtain ⟨⟨t0, t1⟩, -, hs1, f0, f1⟩ := i1 d hd0 hd1
  obtain ⟨g1, g2, g3⟩ := hs1 hst
  have hro : 0 ≤ s_tr m d ∧ s_tr m d < m.2 1 1 ∧ m.2 1 (17 + 6 * s_tr m d + 0) = m.2 1 (5 + 2 * d) := hwr.2.1 d (m.2 32 d) hd0 hd1 t0 g1
  have hc3 := hwa.2.2.2.1
  have hdt := i6 (s_tr m d) hro.1 hro.2.1
  have trne : ∀ e, e ≠ d → s_tr (s_lv d m) e = s_tr m e := by
    intro e he
    show m.2 1 (71 + 8 * e + zup (m.2 32) d _ e) = _
    rw [zup_n _ _ he]
  refine ⟨?_, ?_, ?_, ?_, ?_, ?_, ?_, ?_⟩
  · intro e he0 he1
    rw [e1] at he1 ⊢
    by_cases hed : e = d
    · subst hed
      rw [e32, e33, e34, e35, zup_s, zup_s, zup_s]
      exact ⟨by omega, by omega, fun z => by omega, by omega, by omega⟩
    · rw [trne e hed, e32, e33, e34, e35, e27, e28, zup_n _ _ hed, zup_n _ _ hed, zup_n _ _ hed]
      obtain ⟨a1, a2, a3, a4⟩ := i1 e he0 he1
      refine ⟨a1, a2, fun z => ?_, a4⟩
      obtain ⟨b1, b2, b3⟩ := a3 z
      refine ⟨b1, b2, ?_⟩
      rw [zup_n _ _ (ro_ne hwr he0 he1 a1.1 b1 hd0 hd1 t0 g1 (Or.inl hed))]
      exact b3
  · intro e hx1 he0 he1 hse
    rw [e1] at he1 ⊢
    rw [e33] at hse
    by_cases hed : e = d
    · subst hed; rw [zup_s] at hse; omega
    · rw [zup_n _ _ hed] at hse
      rw [trne e hed, e29]
      exact i2 e (by omega) he0 he1 hse
  · intro e k he0 he1 hk0 hk1
    rw [e1] at he1 hk1 ⊢
    rw [e32, e33] at hk0
    rw [e27, e28, e29]
    by_cases hed : e = d
    · subst hed
      rw [zup_s, zup_s] at hk0
      have := i3 e k he0 he1 (by omega) hk1
      rw [zup_n _ _ (ro_ne hwr he0 he1 (by omega) hk1 hd0 hd1 t0 g1 (Or.inr (by omega)))]
      exact this
    · rw [zup_n _ _ hed, zup_n _ _ hed] at hk0
      obtain ⟨a1, a2, -⟩ := i1 e he0 he1
      have := i3 e k he0 he1 hk0 hk1
      rw [zup_n _ _ (ro_ne hwr he0 he1 (by omega) hk1 hd0 hd1 t0 g1 (Or.inl hed))]
      exact this
  · intro e k he0 he1 hk0 hk1
    rw [e1] at he1 ⊢
    rw [e32] at hk1
    rw [e27, e28, e34]
    by_cases hed : e = d
    · subst hed
      rw [zup_s] at hk1 ⊢
      by_cases hk : k = m.2 32 e
      · subst hk
        show 0 ≤ m.2 27 (s_tr m e) ∧ m.2 27 (s_tr m e) ≤ zup (m.2 28) (s_tr m e) (m.1 35) (s_tr m e) ∧ zup (m.2 28) (s_tr m e) (m.1 35) (s_tr m e) < _
        rw [zup_s]
        omega
      · have := i4 e k he0 he1 hk0 (by omega)
        have hrk := hwr.2.1 e k he0 he1 hk0 (by omega)
        have hrt := i6 _ hrk.1 hrk.2.1
        rw [zup_n _ _ (ro_ne hwr he0 he1 hk0 (by omega) hd0 hd1 t0 g1 (Or.inr hk))]
        omega
    · rw [zup_n _ _ hed] at hk1 ⊢
      obtain ⟨a1, a2, -⟩ := i1 e he0 he1
      rw [zup_n _ _ (ro_ne hwr he0 he1 hk0 (by omega) hd0 hd1 t0 g1 (Or.inl hed))]
      exact i4 e k he0 he1 hk0 hk1
  · intro e k k' he0 he1 hk0 hkk hk1 hdk
    rw [e1] at he1 hk1 ⊢
    rw [e1, e27] at hdk
    rw [e27, e28]
    have := i5 e k k' he0 he1 hk0 hkk hk1 hdk
    by_cases hsame : m.2 1 (71 + 8 * e + k) = s_tr m d
    · exfalso
      obtain ⟨rfl, rfl⟩ := hwr.2.2 e k d (m.2 32 d) he0 he1 hk0 (by omega) hd0 hd1 t0 g1 hsame
      exact hdk (i3 e k' he0 he1 (by omega) hk1).2.1
    · rw [zup_n _ _ hsame]
      exact this
  · intro t ht0 ht1
    rw [e1] at ht1 ⊢
    rw [e27, e28, e29, e35]
    show _ ∧ _ ∧ _ ∧ (m.2 30 t = -1 → _)
    obtain ⟨a1, a2, a3, a4⟩ := i6 t ht0 ht1
    by_cases ht : t = s_tr m d
    · subst ht
      rw [zup_s]
      refine ⟨a1, a2, by omega, fun z => ?_⟩
      have := a4 z
      omega
    · rw [zup_n _ _ ht]
      exact ⟨a1, a2, a3, a4⟩
  · intro c hc0 hc1
    exact i7 c hc0 hc1
  · exact i8
theorem DI_dk {m : zOb} {d : Int} (hS : SI m) (h : DI (-1) m) (hd0 : 0 ≤ d) (hd1 : d < m.2 1 0) : DI (-1) (s_dk d m) ∧ SI (s_dk d m) := by
  unfold s_dk
  split
  case isFalse => exact ⟨h, hS⟩
  rename_i hc
  obtain ⟨c1, c2, c3, c4⟩ := hc
  refine ⟨?_, hS⟩
  obtain ⟨hwa, hwr, hly⟩ := hS
  obtain ⟨i1, i2, i3, i4, i5, i6, i7, i8⟩ := h
  generalize hm' : osa (osa m 33 d 1) 27 (s_tr m d) (m.1 35) = m'
  have e1 : m'.2 1 = m.2 1 := by subst hm'; rfl
  have e27 : m'.2 27 = zup (m.2 27) (s_tr m d) (m.1 35) := by subst hm'; rfl
  have e33 : m'.2 33 = zup (m.2 33) d 1 := by subst hm'; rfl
  have e28 : m'.2 28 = m.2 28 := by subst hm'; rfl
  have e29 : m'.2 29 = m.2 29 := by subst hm'; rfl
  have e32 : m'.2 32 = m.2 32 := by subst hm'; rfl
  have e34 : m'.2 34 = m.2 34 := by subst hm'; rfl
  have e30 : m'.2 30 = m.2 30 := by subst hm'; rfl
  have e35 : m'.1 35 = m.1 35 := by subst hm'; rfl
  have etr : ∀ e, s_tr m' e = s_tr m e := by intro e; unfold s_tr; rw [e1, e32]
  have hm := i8.2
  obtain ⟨⟨t0, t1⟩, -, hs1, f0, f1⟩ := i1 d hd0 hd1
  have hro : 0 ≤ s_tr m d ∧ s_tr m d < m.2 1 1 ∧ m.2 1 (17 + 6 * s_tr m d + 0) = m.2 1 (5 + 2 * d) := hwr.2.1 d (m.2 32 d) hd0 hd1 t0 c2
  have hdt := i6 (s_tr m d) hro.1 hro.2.1
  obtain ⟨u1, u2, u3⟩ := i3 d (m.2 32 d) hd0 hd1 (by omega) c2
  have hcap : 1 ≤ a_cap (m.2 1) (s_tr m d) := by
    unfold a_cap
    split
    · rename_i z
      have := ((hwa.2.2.2.2.2.2.1 _ hro.1 hro.2.1).2.2.1 z).2.2.1
      omega
    · rename_i z
      have hk : m.2 1 (17 + 6 * s_tr m d + 0) = 0 := by
        rcases (hwa.2.2.2.2.2.2.1 _ hro.1 hro.2.1).1 with q | q
        · exact q
        · exact absurd q z
      exact (a_load_b hwa hro.1 hro.2.1 hk).1
  refine ⟨?_, ?_, ?_, ?_, ?_, ?_, ?_, ?_⟩
  · intro e he0 he1
    rw [e1] at he1 ⊢
    rw [etr, e27, e28, e32, e33, e34, e35]
    obtain ⟨a1, a2, a3, a4⟩ := i1 e he0 he1
    by_cases hed : e = d
    · subst hed
      rw [zup_s, zup_s]
      exact ⟨a1, by omega, fun _ => ⟨c2, hm, u3⟩, a4⟩
    · rw [zup_n _ _ hed]
      refine ⟨a1, a2, fun z => ?_, a4⟩
      obtain ⟨b1, b2, b3⟩ := a3 z
      rw [zup_n _ _ (ro_ne hwr he0 he1 a1.1 b1 hd0 hd1 t0 c2 (Or.inl hed))]
      exact ⟨b1, b2, b3⟩
  · intro e hx1 he0 he1 hse
    rw [e1] at he1 ⊢
    rw [e33] at hse
    rw [etr, e29]
    by_cases hed : e = d
    · subst hed
      have u1' : m.2 29 (s_tr m e) = 0 := u1
      omega
    · rw [zup_n _ _ hed] at hse
      exact i2 e hx1 he0 he1 hse
  · intro e k he0 he1 hk0 hk1
    rw [e1] at he1 hk1 ⊢
    rw [e32, e33] at hk0
    rw [e27, e28, e29]
    by_cases hed : e = d
    · subst hed
      rw [zup_s] at hk0
      rw [zup_n _ _ (ro_ne hwr he0 he1 (by omega) hk1 hd0 hd1 t0 c2 (Or.inr (by omega)))]
      exact i3 e k he0 he1 (by omega) hk1
    · rw [zup_n _ _ hed] at hk0
      obtain ⟨a1, a2, -⟩ := i1 e he0 he1
      rw [zup_n _ _ (ro_ne hwr he0 he1 (by omega) hk1 hd0 hd1 t0 c2 (Or.inl hed))]
      exact i3 e k he0 he1 hk0 hk1
  · intro e k he0 he1 hk0 hk1
    rw [e1] at he1 ⊢
    rw [e32] at hk1
    rw [e27, e28, e34]
    obtain ⟨a1, a2, -⟩ := i1 e he0 he1
    rw [zup_n _ _ (ro_ne hwr he0 he1 hk0 (by omega) hd0 hd1 t0 c2 (by rcases Classical.em (e = d) with hed | hed; exact Or.inr (by subst hed; omega); exact Or.inl hed))]
    exact i4 e k he0 he1 hk0 hk1
  · intro e k k' he0 he1 hk0 hkk hk1 hdk
    rw [e1] at he1 hk1 ⊢
    rw [e1, e27] at hdk
    rw [e27, e28]
    by_cases hk' : m.2 1 (71 + 8 * e + k') = s_tr m d
    · have hq := hwr.2.2 e k' d (m.2 32 d) he0 he1 (by omega) hk1 hd0 hd1 t0 c2 hk'
      obtain ⟨rfl, rfl⟩ := hq
      have := i4 e k he0 he1 hk0 (by omega)
      rw [zup_n _ _ (ro_ne hwr he0 he1 hk0 (by omega) he0 he1 t0 c2 (Or.inr (by omega)))]
      show _ ∧ _ ∧ _ < zup (m.2 27) (s_tr m e) (m.1 35) (s_tr m e)
      rw [zup_s]
      omega
    · rw [zup_n _ _ hk'] at hdk ⊢
      have := i5 e k k' he0 he1 hk0 hkk hk1 hdk
      by_cases hk2 : m.2 1 (71 + 8 * e + k) = s_tr m d
      · exfalso
        rw [hk2] at this
        have u2' : m.2 27 (s_tr m d) = -1 := u2
        omega
      · rw [zup_n _ _ hk2]
        exact this
  · intro t ht0 ht1
    rw [e1] at ht1 ⊢
    rw [e27, e28, e29, e30, e35]
    obtain ⟨a1, a2, a3, a4⟩ := i6 t ht0 ht1
    by_cases ht : t = s_tr m d
    · subst ht
      rw [zup_s]
      refine ⟨a1, by omega, a3, fun z => ?_⟩
      exfalso
      rcases hly.2.2.2.2 _ ht0 ht1 with ⟨-, -, q⟩ | ⟨q, -⟩
      · exact q d (m.2 32 d) hd0 hd1 t0 c2 rfl
      · omega
    · rw [zup_n _ _ ht]
      exact ⟨a1, a2, a3, a4⟩
  · subst hm'
    intro c hc0 hc1
    exact i7 c hc0 hc1
  · subst hm'
    exact i8
