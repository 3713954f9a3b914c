/-! The class: a statement for a truck that brings. -/
def Bz (V P : Int → Int) (b : Int × Int) (k : Int) : Int × Int := zfor (fun j b => chk b (V (1 + j)) 0 15 (P (1 + j))) k b
def Lz (V : Int → Int) (k : Int) : Int := zsum (fun j => wj V (1 + j)) k
def Ez (V : Int → Int) (k : Int) : Bool := zfor (fun j e => e && decide (V (1 + j) = 0)) k true
theorem Bz_4 (V P : Int → Int) (m : Int) (b : Int × Int) (s : Int) : Bz V P (chk (bTr m b s) (V 0) 0 99 (P 0)) 4 = bIn5 m b s V P := rfl
theorem Lz_4 (V : Int → Int) : Lz V 4 = ldV V := by
  show 0 + wj V 1 + wj V 2 + wj V 3 + wj V 4 = wj V 1 + wj V 2 + wj V 3 + wj V 4
  omega
theorem Ez_4 (V : Int → Int) : Ez V 4 = decide (V 1 = 0 ∧ V 2 = 0 ∧ V 3 = 0 ∧ V 4 = 0) := by
  show ((((true && decide (V 1 = 0)) && decide (V 2 = 0)) && decide (V 3 = 0)) && decide (V 4 = 0)) = _
  by_cases h1 : V 1 = 0 <;> by_cases h2 : V 2 = 0 <;> by_cases h3 : V 3 = 0 <;> by_cases h4 : V 4 = 0 <;> simp [h1, h2, h3, h4]
theorem wj_b {V : Int → Int} {j : Int} (h : 0 ≤ V j) : 0 ≤ wj V j ∧ wj V j ≤ 15 := by
  unfold wj
  split <;> omega
theorem bIn5_PB {m : Int} {b : Int × Int} {s t : Int} {V P : Int → Int} (hb : PB t b) (h : s < t) (hP : ∀ j, 0 ≤ j → j < 5 → P j < t) : PB t (bIn5 m b s V P) := chk_PB (chk_PB (chk_PB (chk_PB (chk_PB (bTr_PB hb h) (hP 0 (by omega) (by omega))) (hP 1 (by omega) (by omega))) (hP 2 (by omega) (by omega))) (hP 3 (by omega) (by omega))) (hP 4 (by omega) (by omega))
theorem bIn5_0 {m : Int} {b : Int × Int} {s : Int} {V P : Int → Int} (h : (bIn5 m b s V P).1 = 0) : b.1 = 0 ∧ m < 8 ∧ (0 ≤ V 0 ∧ V 0 ≤ 99) ∧ (0 ≤ V 1 ∧ V 1 ≤ 15) ∧ (0 ≤ V 2 ∧ V 2 ≤ 15) ∧ (0 ≤ V 3 ∧ V 3 ≤ 15) ∧ (0 ≤ V 4 ∧ V 4 ≤ 15) := by
  have z4 := chk_0 h
  have z3 := chk_0 z4.1
  have z2 := chk_0 z3.1
  have z1 := chk_0 z2.1
  have z0 := chk_0 z1.1
  have zt := bTr_0 z0.1
  exact ⟨zt.1, zt.2, z0.2, z1.2, z2.2, z3.2, z4.2⟩
theorem DP_CZ {dk dk' : zOb} {w : Int → Int} {v n z k : Int} (h : dk.1 1 = n) (hc : CZ (bO dk v) dk' w z k) : DP dk dk' n := by
  subst h
  obtain ⟨h1, h2, h3, h4, h5, h6⟩ := hc
  refine ⟨h1 0 (by decide), h1 3 (by decide), h1 4 (by decide), h1 1 (by decide), h3 5 (by decide) (by decide) (by decide), h3 6 (by decide) (by decide) (by decide), fun t t0 t1 => ⟨?_, ?_, ?_, ?_, ?_, ?_, ?_⟩⟩
  · rw [h3 7 (by decide) (by decide) (by decide)]; exact zup_n _ _ (by omega)
  · rw [h3 8 (by decide) (by decide) (by decide)]; exact zup_n _ _ (by omega)
  · rw [h3 9 (by decide) (by decide) (by decide)]; exact zup_n _ _ (by omega)
  · rw [h3 10 (by decide) (by decide) (by decide)]; exact zup_n _ _ (by omega)
  · rw [h4]
    show zup (zup (dk.2 11) (dk.1 1) 0) (dk.1 1 + 1 - 1) _ t = _
    rw [zup_n _ _ (by omega), zup_n _ _ (by omega)]
  · rw [h3 12 (by decide) (by decide) (by decide)]; exact zup_n _ _ (by omega)
  · rw [h3 13 (by decide) (by decide) (by decide)]; exact zup_n _ _ (by omega)
theorem zsum_ext' {f g : Int → Int} {n : Int} (h : ∀ i, 0 ≤ i → i < n → f i = g i) : zsum f n = zsum g n := zsum_congr h
theorem TOLD_in {a V : Int → Int} {dk dk' : zOb} (h : TOLD a dk) (h8 : a 1 < 8) (h0 : 0 ≤ V 0 ∧ V 0 ≤ 99) (h1 : 0 ≤ V 1 ∧ V 1 ≤ 15) (h2 : 0 ≤ V 2 ∧ V 2 ≤ 15) (h3 : 0 ≤ V 3 ∧ V 3 ≤ 15) (h4 : 0 ≤ V 4 ∧ V 4 ≤ 15) (hne : ¬ (V 1 = 0 ∧ V 2 = 0 ∧ V 3 = 0 ∧ V 4 = 0)) (h40 : a_fs a (a 1) + ldV V ≤ 40) (hc : CZ (bO dk (V 0)) dk' (fun z => wj V (1 + z)) 4 0) : TOLD (aT a (pIn V)) dk' ∧ a_fs (aT a (pIn V)) (aT a (pIn V) 1) = a_fs a (a 1) + ldV V := by
  have hn : dk.1 1 = a 1 := h.2.1.2.1
  have hcc : dk.1 2 = a_fs a (a 1) := h.2.1.2.2.1
  have g1 := h.1.2.1
  have hA := aT_AP (a := a) (P := pIn V) g1.1
  have hD := DP_CZ hn hc
  have e2 : pIn V 2 = V 1 := by show wj V 1 = _; exact if_pos (by omega)
  have e3 : pIn V 3 = V 2 := by show wj V 2 = _; exact if_pos (by omega)
  have e4 : pIn V 4 = V 3 := by show wj V 3 = _; exact if_pos (by omega)
  have e5 : pIn V 5 = V 4 := by show wj V 4 = _; exact if_pos (by omega)
  have el : pIn V 2 + pIn V 3 + pIn V 4 + pIn V 5 = ldV V := rfl
  have hld : 1 ≤ ldV V := by rw [← el]; omega
  have hs4 : zsum (fun z => wj V (1 + z)) 4 = ldV V := Lz_4 V
  have hps : ∀ z, z ≤ 4 → zsum (fun e => pIn V (2 + e)) z = zsum (fun z => wj V (1 + z)) z := fun z hz => zsum_congr (fun i i0 i1 => by
    show pIn V (2 + i) = wj V (1 + i)
    unfold pIn
    rw [if_neg (by omega), if_neg (by omega), show 2 + i - 1 = 1 + i by omega])
  obtain ⟨c1, c2, c3, c4, c5, c6⟩ := hc
  have c1n : (bO dk (V 0)).1 1 = dk.1 1 + 1 := rfl
  have c2n : (bO dk (V 0)).1 2 = dk.1 2 := rfl
  refine ⟨TOLD_truck h h8 hA hD (Or.inl rfl) h0 (fun _ => ⟨⟨by omega, by omega, by omega, by omega, by omega, by omega⟩, ?_, ?_, ?_, ?_, ?_, ?_, fun c x y => ?_, fun c x y => ?_⟩) (fun z => absurd z (by show ¬ (0 : Int) = 1; decide)) ?_ ?_, ?_⟩
  · rw [c3 9 (by decide) (by decide) (by decide)]; show zup (dk.2 9) (dk.1 1) (-1) (a 1) = _; rw [hn, zup_s]
  · rw [c3 10 (by decide) (by decide) (by decide)]; show zup (dk.2 10) (dk.1 1) (-1) (a 1) = _; rw [hn, zup_s]
  · rw [c4, el]
    show zup (zup (dk.2 11) (dk.1 1) 0) (dk.1 1 + 1 - 1) (zup (dk.2 11) (dk.1 1) 0 (dk.1 1 + 1 - 1) + zsum (fun z => wj V (1 + z)) 4 + 0) (a 1) = _
    rw [hn, show a 1 + 1 - 1 = a 1 by omega, zup_s, zup_s, hs4]; omega
  · rw [c3 12 (by decide) (by decide) (by decide)]; show zup (dk.2 12) (dk.1 1) (-1) (a 1) = _; rw [hn, zup_s]
  · rw [c3 13 (by decide) (by decide) (by decide)]; show zup (dk.2 13) (dk.1 1) (dk.1 2) (a 1) = _; rw [hn, zup_s, hcc]
  · rw [c2, c2n, hs4, hcc, el]; omega
  · exact c5 c x (by rw [c2n, hcc]; exact y)
  · have := c6 c (by rw [c2n, hcc]; exact x) (by rw [c2, c2n, hs4, hcc]; rw [el] at y; omega)
    have hl : dk'.2 15 c ≠ 4 := by
      intro e
      have q := this.2.2.2
      rw [if_pos e] at q
      have := this.2.2.1
      omega
    have q := this.2.2.2
    rw [if_neg hl] at q
    rw [hps _ (by omega)]
    refine ⟨by rw [this.1, c1n]; omega, by omega, by rw [← hcc]; exact this.2.2.1, ?_⟩
    rw [← hcc]
    show c < _ + _ + pIn V (2 + dk'.2 15 c)
    unfold pIn
    rw [if_neg (by omega), if_neg (by omega), show 2 + dk'.2 15 c - 1 = 1 + dk'.2 15 c by omega]
    exact q
  · rw [c3 7 (by decide) (by decide) (by decide)]; show zup (dk.2 7) (dk.1 1) 0 (a 1) = _; rw [hn, zup_s]; rfl
  · rw [c3 8 (by decide) (by decide) (by decide)]; show zup (dk.2 8) (dk.1 1) (V 0) (a 1) = _; rw [hn, zup_s]; rfl
  · rw [hA.ef1 h8 g1.1, if_neg (show ¬ pIn V 0 = 1 by show ¬ (0 : Int) = 1; decide), el]
