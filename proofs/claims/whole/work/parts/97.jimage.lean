/-! Law cases: images. -/
theorem IMk_p {io tx dk pl m m' : zOb} {k : Int} (h : IMk io tx dk pl m k) (m3 : m'.2 3 k = m.2 3 k) (m2 : ∀ j, 400 * (k + 1) ≤ j → j < 400 * (k + 1) + 400 → m'.2 2 j = m.2 2 j) (ma : ∀ i, 122 * (k + 1) ≤ i → i < 122 * (k + 1) + 122 → m'.2 1 i = m.2 1 i) : IMk io tx dk pl m' k := by
  obtain ⟨h1, h2, h3⟩ := h
  refine ⟨by rw [m3]; exact h1, by rw [m3]; exact h2, fun z => ?_⟩
  rw [m3] at z
  obtain ⟨a, b, c, d, e, U, u1, u2, u3, u4, u5⟩ := h3 z
  rw [ma _ (by omega) (by omega), ma _ (by omega) (by omega), ma _ (by omega) (by omega)]
  refine ⟨a, b, c, d, fun j j0 j1 => by rw [m2 _ (by omega) (by omega)]; exact e j j0 j1, U, u1, u2, u3, u4, fun i i0 i1 => ?_⟩
  show m'.2 1 (122 * (k + 1) + i) = _
  rw [ma _ (by omega) (by omega)]
  exact u5 i i0 i1
theorem IMk_n {σ : zS} {T : T3} {x0 x1 x2 x3 m' : zOb} {k : Int} (h : REL σ) (hT : OKT T) (e1 : (σ 31).2 1 = T.2.2) (hC : CS T σ) (hk : 0 ≤ k ∧ k ≤ 2) (g1 : m'.2 1 = cpi ((σ 31).2 1) (122 * (k + 1)) 0 122) (g2 : m'.2 2 = cpi ((σ 31).2 2) (400 * (k + 1)) 0 400) (g3 : m'.2 3 k = 1) : IMk (oss (oss (oss x0 3 1) 4 ((σ 0).1 10)) 5 ((σ 0).1 11)) (t_cp x1 (σ 1)) (d_cp x2 (σ 4)) (p_cp x3 (σ 5)) m' k := by
  have r1 : ∀ i, 0 ≤ i → i < 122 → m'.2 1 (122 * (k + 1) + i) = (σ 31).2 1 i := fun i i0 i1 => by
    rw [g1]
    unfold cpi
    rw [if_pos (by omega), show 122 * (k + 1) + i - 122 * (k + 1) + 0 = i by omega]
  have r2 : ∀ j, 0 ≤ j → j < 400 → m'.2 2 (400 * (k + 1) + j) = (σ 31).2 2 j := fun j j0 j1 => by
    rw [g2]
    unfold cpi
    rw [if_pos (by omega), show 400 * (k + 1) + j - 400 * (k + 1) + 0 = j by omega]
  refine ⟨by rw [g3]; rfl, Or.inr g3, fun _ => ⟨?_, ?_, h.1.1, ?_, fun j j0 j1 => ?_, T, hT, hC.1, hC.2.1, hC.2.2.1, fun i i0 i1 => ?_⟩⟩
  · rw [r1 120 (by omega) (by omega)]; exact h.2.1.1
  · rw [r1 121 (by omega) (by omega)]; exact h.2.1.2
  · rw [r1 119 (by omega) (by omega)]; exact h.1.2.1
  · rw [r2 j j0 j1]; exact h.1.2.2 j j0 j1
  · show m'.2 1 (122 * (k + 1) + i) = _
    rw [r1 i i0 (by omega), e1]
theorem J_image_n {σ : zS} {k : Int} (h : REL σ) (hz : zin k) (hk : ¬ (0 ≤ k ∧ k ≤ 2)) : J3 M_X7_image 2 [zR 0, zI k] M_X8_image 2 [zR 31, zI k] σ := by
  obtain ⟨T, hT, e1, hC⟩ := h.2.2.1
  refine zC_mono (c_image_n hz hk) (fun r τ q => ?_)
  obtain ⟨rfl, rfl⟩ := q
  refine ⟨0, rfl, ?_⟩
  have hm := m8_image (σ := τ) (m := τ 31) hz
  rw [zo_self, decide_eq_false hk, if_neg hk] at hm
  refine zC_mono hm (fun r2 τ2 q' => ?_)
  obtain ⟨rfl, rfl⟩ := q'
  exact ⟨rfl, R_same h hT hC e1 (CX.rf _) ⟨rfl, rfl, rfl⟩ e1 rfl rfl⟩
theorem J_again_n {σ : zS} {k : Int} (h : REL σ) (hz : zin k) (hk : ¬ (0 ≤ k ∧ k ≤ 2)) : J3 M_X7_again 5 [zR 0, zI k] M_X8_again 2 [zR 31, zI k] σ := by
  obtain ⟨T, hT, e1, hC⟩ := h.2.2.1
  refine zC_mono (c_again_n hz hk) (fun r τ q => ?_)
  obtain ⟨rfl, rfl⟩ := q
  refine ⟨0, rfl, ?_⟩
  have hm := m8_again (σ := τ) (m := τ 31) hz
  rw [zo_self, decide_eq_false (fun u => hk u.1), if_neg (fun u => hk u.1)] at hm
  refine zC_mono hm (fun r2 τ2 q' => ?_)
  obtain ⟨rfl, rfl⟩ := q'
  exact ⟨rfl, R_same h hT hC e1 (CX.rf _) ⟨rfl, rfl, rfl⟩ e1 rfl rfl⟩
theorem J_image0 {σ : zS} (h : REL σ) : J3 M_X7_image 2 [zR 0, zI 0] M_X8_image 2 [zR 31, zI 0] σ := by
  obtain ⟨T, hT, e1, hC⟩ := h.2.2.1
  refine zC_mono (c_image0 h.2.2.2.2.1.1) (fun r τ q => ?_)
  obtain ⟨rfl, t0, t1, t2, t3, to⟩ := q
  refine ⟨1, rfl, ?_⟩
  have t31 : τ 31 = σ 31 := to 31 (by decide) (by decide) (by decide) (by decide)
  have hm := m8_image (σ := τ) (m := τ 31) (k := 0) (by omega)
  rw [zo_self, decide_eq_true (by omega), if_pos (by omega), t31] at hm
  refine zC_mono hm (fun r2 τ2 q' => ?_)
  obtain ⟨rfl, q3⟩ := q'
  refine ⟨rfl, ?_⟩
  have f31 : τ2 31 = osa (imO (oss (σ 31) 0 0) 0 (0 + 1)) 3 0 1 := by rw [q3, zo_s]
  have fb : τ2 19 = oss (oss (oss (σ 19) 3 1) 4 ((σ 0).1 10)) 5 ((σ 0).1 11) := by rw [q3, zo_n (by decide)]; exact t0
  have ft : τ2 20 = t_cp (σ 20) (σ 1) := by rw [q3, zo_n (by decide)]; exact t1
  have fd : τ2 21 = d_cp (σ 21) (σ 4) := by rw [q3, zo_n (by decide)]; exact t2
  have fp : τ2 22 = p_cp (σ 22) (σ 5) := by rw [q3, zo_n (by decide)]; exact t3
  have fo : ∀ o, o ≠ 19 → o ≠ 20 → o ≠ 21 → o ≠ 22 → o ≠ 31 → τ2 o = σ o := fun o a1 a2 a3 a4 a5 => by rw [q3, zo_n a5]; exact to o a1 a2 a3 a4
  have g1 : (τ2 31).2 1 = cpi ((σ 31).2 1) (122 * (0 + 1)) 0 122 := by rw [f31]; rfl
  have g2 : (τ2 31).2 2 = cpi ((σ 31).2 2) (400 * (0 + 1)) 0 400 := by rw [f31]; rfl
  have g3a : (τ2 31).2 3 = zup ((σ 31).2 3) 0 1 := by rw [f31]; rfl
  have g3 : (τ2 31).2 3 0 = 1 := by rw [g3a, zup_s]
  have g4 : (τ2 31).2 4 = (σ 31).2 4 := by rw [f31]; rfl
  have g5 : (τ2 31).1 5 = (σ 31).1 5 := by rw [f31]; rfl
  have ga : ∀ i, i < 122 → (τ2 31).2 1 i = (σ 31).2 1 i := fun i hi => by rw [g1]; unfold cpi; rw [if_neg (by omega)]
  have gt : ∀ j, j < 400 → (τ2 31).2 2 j = (σ 31).2 2 j := fun j hj => by rw [g2]; unfold cpi; rw [if_neg (by omega)]
  have hAA : A119 T.2.2 ((τ2 31).2 1) := fun i i0 i1 => by rw [ga i (by omega), e1]
  have fz := fun o (a : o ≤ 18) => fo o (by omega) (by omega) (by omega) (by omega) (by omega)
  refine ⟨⟨by rw [fz 1 (by decide)]; exact h.1.1, by rw [fz 1 (by decide), ga 119 (by omega)]; exact h.1.2.1, fun j j0 j1 => by rw [fz 1 (by decide), gt j j1]; exact h.1.2.2 j j0 j1⟩, by rw [fz 0 (by decide), ga 120 (by omega), ga 121 (by omega)]; exact h.2.1, ⟨(T.1, T.2.1, (τ2 31).2 1), OKT_9 (P0 := T.1) (P1 := T.2.1) hT hAA, rfl, CS_o (CS_9 (P0 := T.1) (P1 := T.2.1) hT hAA hC) (fz 4 (by decide)) (fz 5 (by decide)) (fz 6 (by decide))⟩, RA_o h.2.2.2.1 (fz 4 (by decide)) (fun o a b => fz o b) g5 g4, ?_⟩
  · refine ⟨by rw [fz 0 (by decide)]; exact h.2.2.2.2.1, ?_, ?_, ?_⟩
    · rw [fb, ft, fd, fp]; exact IMk_n h hT e1 hC (by omega) g1 g2 g3
    · rw [fo 23 (by decide) (by decide) (by decide) (by decide) (by decide), fo 24 (by decide) (by decide) (by decide) (by decide) (by decide), fo 25 (by decide) (by decide) (by decide) (by decide) (by decide), fo 26 (by decide) (by decide) (by decide) (by decide) (by decide)]
      exact IMk_p h.2.2.2.2.2.2.1 (by rw [g3a]; exact zup_n _ _ (by decide)) (fun j a b => by rw [g2]; unfold cpi; rw [if_neg (by omega)]) (fun i a b => by rw [g1]; unfold cpi; rw [if_neg (by omega)])
    · rw [fo 27 (by decide) (by decide) (by decide) (by decide) (by decide), fo 28 (by decide) (by decide) (by decide) (by decide) (by decide), fo 29 (by decide) (by decide) (by decide) (by decide) (by decide), fo 30 (by decide) (by decide) (by decide) (by decide) (by decide)]
      exact IMk_p h.2.2.2.2.2.2.2 (by rw [g3a]; exact zup_n _ _ (by decide)) (fun j a b => by rw [g2]; unfold cpi; rw [if_neg (by omega)]) (fun i a b => by rw [g1]; unfold cpi; rw [if_neg (by omega)])
theorem J_again0 {σ : zS} (h : REL σ) : J3 M_X7_again 5 [zR 0, zI 0] M_X8_again 2 [zR 31, zI 0] σ := by
  obtain ⟨T, hT, e1, hC⟩ := h.2.2.1
  obtain ⟨i1, i2, i3⟩ := h.2.2.2.2.2.1
  by_cases z : (σ 31).2 3 0 = 0
  · refine zC_mono (c_again0_n h.2.2.2.2.1.1 (i1.trans z)) (fun r τ q => ?_)
    obtain ⟨rfl, rfl⟩ := q
    refine ⟨0, rfl, ?_⟩
    have hm := m8_again (σ := τ) (m := τ 31) (k := 0) (by omega)
    rw [zo_self, decide_eq_false (fun u => u.2 z), if_neg (fun u => u.2 z)] at hm
    refine zC_mono hm (fun r2 τ2 q' => ?_)
    obtain ⟨rfl, rfl⟩ := q'
    exact ⟨rfl, R_same h hT hC e1 (CX.rf _) ⟨rfl, rfl, rfl⟩ e1 rfl rfl⟩
  · have z1 : (σ 31).2 3 0 = 1 := by omega
    obtain ⟨a, b, c, d, e, U, u1, u2, u3, u4, u5⟩ := i3 z1
    refine zC_mono (c_again0 h.2.2.2.2.1.1 (i1.trans z1) u1 u2 u3 u4) (fun r τ q => ?_)
    obtain ⟨rfl, t0, t1, tC, t10, to⟩ := q
    refine ⟨1, rfl, ?_⟩
    have t31 : τ 31 = σ 31 := to 31 (by decide) (by decide) (by decide) (by decide) (by decide) (by decide)
    have hm := m8_again (σ := τ) (m := τ 31) (k := 0) (by omega)
    rw [zo_self, t31, decide_eq_true ⟨by omega, z⟩, if_pos ⟨by omega, z⟩] at hm
    refine zC_mono hm (fun r2 τ2 q' => ?_)
    obtain ⟨rfl, q3⟩ := q'
    refine ⟨rfl, ?_⟩
    have f31 : τ2 31 = oss (imO (oss (σ 31) 0 0) (0 + 1) 0) 5 0 := by rw [q3, zo_s]
    have fo : ∀ o, o ≠ 31 → τ2 o = τ o := fun o a => by rw [q3, zo_n a]
    have g1 : (τ2 31).2 1 = cpi ((σ 31).2 1) (122 * 0) (122 * (0 + 1)) 122 := by rw [f31]; rfl
    have g2 : (τ2 31).2 2 = cpi ((σ 31).2 2) (400 * 0) (400 * (0 + 1)) 400 := by rw [f31]; rfl
    have g3 : (τ2 31).2 3 = (σ 31).2 3 := by rw [f31]; rfl
    have g5 : (τ2 31).1 5 = 0 := by rw [f31]; rfl
    have r1 : ∀ i, 0 ≤ i → i < 122 → (τ2 31).2 1 i = (σ 31).2 1 (122 * (0 + 1) + i) := fun i i0 i1 => by
      rw [g1]
      unfold cpi
      rw [if_pos (by omega), show i - 122 * 0 + 122 * (0 + 1) = 122 * (0 + 1) + i by omega]
    have r2 : ∀ j, 0 ≤ j → j < 400 → (τ2 31).2 2 j = (σ 31).2 2 (400 * (0 + 1) + j) := fun j j0 j1 => by
      rw [g2]
      unfold cpi
      rw [if_pos (by omega), show j - 400 * 0 + 400 * (0 + 1) = 400 * (0 + 1) + j by omega]
    have hAA : A119 U.2.2 ((τ2 31).2 1) := fun i i0 i1 => by rw [r1 i i0 (by omega)]; exact u5 i i0 i1
    have w1 : τ2 1 = t_cp (σ 1) (σ 20) := (fo 1 (by decide)).trans t1
    have w11 : (τ2 1).1 1 = (σ 20).1 1 := by rw [w1]; rfl
    have w12 : (τ2 1).2 0 = (σ 20).2 0 := by rw [w1]; rfl
    have w10 : τ2 10 = oss (σ 10) 1 0 := (fo 10 (by decide)).trans t10
    have hB : (τ2 10).2 0 = (σ 10).2 0 := by rw [w10]; rfl
    have hM1 : (τ2 10).1 1 = 0 := by rw [w10]; rfl
    refine ⟨⟨by rw [w11]; exact c, by rw [w11, r1 119 (by omega) (by omega)]; exact d, fun j j0 j1 => by rw [w12, r2 j j0 j1]; exact e j j0 j1⟩, ?_, ⟨(U.1, U.2.1, (τ2 31).2 1), OKT_9 (P0 := U.1) (P1 := U.2.1) u1 hAA, rfl, CS_o (CS_9 (P0 := U.1) (P1 := U.2.1) u1 hAA tC) (fo 4 (by decide)) (fo 5 (by decide)) (fo 6 (by decide))⟩, ⟨⟨by rw [hB]; exact h.2.2.2.1.1.1, by rw [hM1]; omega⟩, by rw [g5, hM1], fun i i0 i1 => by rw [hM1] at i1; omega⟩, RI_f h.2.2.2.2 (by rw [fo 0 (by decide), t0]; rfl) (fun o x y => by rw [fo o (by omega)]; exact to o (by omega) (by omega) (by omega) (by omega) (by omega) (by omega)) g3 (fun j hj => by rw [g2]; unfold cpi; rw [if_neg (by omega)]) (fun i hi => by rw [g1]; unfold cpi; rw [if_neg (by omega)])⟩
    rw [fo 0 (by decide), t0, r1 120 (by omega) (by omega), r1 121 (by omega) (by omega)]
    exact ⟨a, b⟩
theorem J_image1 {σ : zS} (h : REL σ) : J3 M_X7_image 2 [zR 0, zI 1] M_X8_image 2 [zR 31, zI 1] σ := by
  obtain ⟨T, hT, e1, hC⟩ := h.2.2.1
  refine zC_mono (c_image1 h.2.2.2.2.1.2.1) (fun r τ q => ?_)
  obtain ⟨rfl, t0, t1, t2, t3, to⟩ := q
  refine ⟨1, rfl, ?_⟩
  have t31 : τ 31 = σ 31 := to 31 (by decide) (by decide) (by decide) (by decide)
  have hm := m8_image (σ := τ) (m := τ 31) (k := 1) (by omega)
  rw [zo_self, decide_eq_true (by omega), if_pos (by omega), t31] at hm
  refine zC_mono hm (fun r2 τ2 q' => ?_)
  obtain ⟨rfl, q3⟩ := q'
  refine ⟨rfl, ?_⟩
  have f31 : τ2 31 = osa (imO (oss (σ 31) 0 0) 0 (1 + 1)) 3 1 1 := by rw [q3, zo_s]
  have fb : τ2 23 = oss (oss (oss (σ 23) 3 1) 4 ((σ 0).1 10)) 5 ((σ 0).1 11) := by rw [q3, zo_n (by decide)]; exact t0
  have ft : τ2 24 = t_cp (σ 24) (σ 1) := by rw [q3, zo_n (by decide)]; exact t1
  have fd : τ2 25 = d_cp (σ 25) (σ 4) := by rw [q3, zo_n (by decide)]; exact t2
  have fp : τ2 26 = p_cp (σ 26) (σ 5) := by rw [q3, zo_n (by decide)]; exact t3
  have fo : ∀ o, o ≠ 23 → o ≠ 24 → o ≠ 25 → o ≠ 26 → o ≠ 31 → τ2 o = σ o := fun o a1 a2 a3 a4 a5 => by rw [q3, zo_n a5]; exact to o a1 a2 a3 a4
  have g1 : (τ2 31).2 1 = cpi ((σ 31).2 1) (122 * (1 + 1)) 0 122 := by rw [f31]; rfl
  have g2 : (τ2 31).2 2 = cpi ((σ 31).2 2) (400 * (1 + 1)) 0 400 := by rw [f31]; rfl
  have g3a : (τ2 31).2 3 = zup ((σ 31).2 3) 1 1 := by rw [f31]; rfl
  have g3 : (τ2 31).2 3 1 = 1 := by rw [g3a, zup_s]
  have g4 : (τ2 31).2 4 = (σ 31).2 4 := by rw [f31]; rfl
  have g5 : (τ2 31).1 5 = (σ 31).1 5 := by rw [f31]; rfl
  have ga : ∀ i, i < 122 → (τ2 31).2 1 i = (σ 31).2 1 i := fun i hi => by rw [g1]; unfold cpi; rw [if_neg (by omega)]
  have gt : ∀ j, j < 400 → (τ2 31).2 2 j = (σ 31).2 2 j := fun j hj => by rw [g2]; unfold cpi; rw [if_neg (by omega)]
  have hAA : A119 T.2.2 ((τ2 31).2 1) := fun i i0 i1 => by rw [ga i (by omega), e1]
  have fz := fun o (a : o ≤ 18) => fo o (by omega) (by omega) (by omega) (by omega) (by omega)
  refine ⟨⟨by rw [fz 1 (by decide)]; exact h.1.1, by rw [fz 1 (by decide), ga 119 (by omega)]; exact h.1.2.1, fun j j0 j1 => by rw [fz 1 (by decide), gt j j1]; exact h.1.2.2 j j0 j1⟩, by rw [fz 0 (by decide), ga 120 (by omega), ga 121 (by omega)]; exact h.2.1, ⟨(T.1, T.2.1, (τ2 31).2 1), OKT_9 (P0 := T.1) (P1 := T.2.1) hT hAA, rfl, CS_o (CS_9 (P0 := T.1) (P1 := T.2.1) hT hAA hC) (fz 4 (by decide)) (fz 5 (by decide)) (fz 6 (by decide))⟩, RA_o h.2.2.2.1 (fz 4 (by decide)) (fun o a b => fz o b) g5 g4, ?_⟩
  · refine ⟨by rw [fz 0 (by decide)]; exact h.2.2.2.2.1, ?_, ?_, ?_⟩
    · rw [fo 19 (by decide) (by decide) (by decide) (by decide) (by decide), fo 20 (by decide) (by decide) (by decide) (by decide) (by decide), fo 21 (by decide) (by decide) (by decide) (by decide) (by decide), fo 22 (by decide) (by decide) (by decide) (by decide) (by decide)]
      exact IMk_p h.2.2.2.2.2.1 (by rw [g3a]; exact zup_n _ _ (by decide)) (fun j a b => by rw [g2]; unfold cpi; rw [if_neg (by omega)]) (fun i a b => by rw [g1]; unfold cpi; rw [if_neg (by omega)])
    · rw [fb, ft, fd, fp]; exact IMk_n h hT e1 hC (by omega) g1 g2 g3
    · rw [fo 27 (by decide) (by decide) (by decide) (by decide) (by decide), fo 28 (by decide) (by decide) (by decide) (by decide) (by decide), fo 29 (by decide) (by decide) (by decide) (by decide) (by decide), fo 30 (by decide) (by decide) (by decide) (by decide) (by decide)]
      exact IMk_p h.2.2.2.2.2.2.2 (by rw [g3a]; exact zup_n _ _ (by decide)) (fun j a b => by rw [g2]; unfold cpi; rw [if_neg (by omega)]) (fun i a b => by rw [g1]; unfold cpi; rw [if_neg (by omega)])
theorem J_again1 {σ : zS} (h : REL σ) : J3 M_X7_again 5 [zR 0, zI 1] M_X8_again 2 [zR 31, zI 1] σ := by
  obtain ⟨T, hT, e1, hC⟩ := h.2.2.1
  obtain ⟨i1, i2, i3⟩ := h.2.2.2.2.2.2.1
  by_cases z : (σ 31).2 3 1 = 0
  · refine zC_mono (c_again1_n h.2.2.2.2.1.2.1 (i1.trans z)) (fun r τ q => ?_)
    obtain ⟨rfl, rfl⟩ := q
    refine ⟨0, rfl, ?_⟩
    have hm := m8_again (σ := τ) (m := τ 31) (k := 1) (by omega)
    rw [zo_self, decide_eq_false (fun u => u.2 z), if_neg (fun u => u.2 z)] at hm
    refine zC_mono hm (fun r2 τ2 q' => ?_)
    obtain ⟨rfl, rfl⟩ := q'
    exact ⟨rfl, R_same h hT hC e1 (CX.rf _) ⟨rfl, rfl, rfl⟩ e1 rfl rfl⟩
  · have z1 : (σ 31).2 3 1 = 1 := by omega
    obtain ⟨a, b, c, d, e, U, u1, u2, u3, u4, u5⟩ := i3 z1
    refine zC_mono (c_again1 h.2.2.2.2.1.2.1 (i1.trans z1) u1 u2 u3 u4) (fun r τ q => ?_)
    obtain ⟨rfl, t0, t1, tC, t10, to⟩ := q
    refine ⟨1, rfl, ?_⟩
    have t31 : τ 31 = σ 31 := to 31 (by decide) (by decide) (by decide) (by decide) (by decide) (by decide)
    have hm := m8_again (σ := τ) (m := τ 31) (k := 1) (by omega)
    rw [zo_self, t31, decide_eq_true ⟨by omega, z⟩, if_pos ⟨by omega, z⟩] at hm
    refine zC_mono hm (fun r2 τ2 q' => ?_)
    obtain ⟨rfl, q3⟩ := q'
    refine ⟨rfl, ?_⟩
    have f31 : τ2 31 = oss (imO (oss (σ 31) 0 0) (1 + 1) 0) 5 0 := by rw [q3, zo_s]
    have fo : ∀ o, o ≠ 31 → τ2 o = τ o := fun o a => by rw [q3, zo_n a]
    have g1 : (τ2 31).2 1 = cpi ((σ 31).2 1) (122 * 0) (122 * (1 + 1)) 122 := by rw [f31]; rfl
    have g2 : (τ2 31).2 2 = cpi ((σ 31).2 2) (400 * 0) (400 * (1 + 1)) 400 := by rw [f31]; rfl
    have g3 : (τ2 31).2 3 = (σ 31).2 3 := by rw [f31]; rfl
    have g5 : (τ2 31).1 5 = 0 := by rw [f31]; rfl
    have r1 : ∀ i, 0 ≤ i → i < 122 → (τ2 31).2 1 i = (σ 31).2 1 (122 * (1 + 1) + i) := fun i i0 i1 => by
      rw [g1]
      unfold cpi
      rw [if_pos (by omega), show i - 122 * 0 + 122 * (1 + 1) = 122 * (1 + 1) + i by omega]
    have r2 : ∀ j, 0 ≤ j → j < 400 → (τ2 31).2 2 j = (σ 31).2 2 (400 * (1 + 1) + j) := fun j j0 j1 => by
      rw [g2]
      unfold cpi
      rw [if_pos (by omega), show j - 400 * 0 + 400 * (1 + 1) = 400 * (1 + 1) + j by omega]
    have hAA : A119 U.2.2 ((τ2 31).2 1) := fun i i0 i1 => by rw [r1 i i0 (by omega)]; exact u5 i i0 i1
    have w1 : τ2 1 = t_cp (σ 1) (σ 24) := (fo 1 (by decide)).trans t1
    have w11 : (τ2 1).1 1 = (σ 24).1 1 := by rw [w1]; rfl
    have w12 : (τ2 1).2 0 = (σ 24).2 0 := by rw [w1]; rfl
    have w10 : τ2 10 = oss (σ 10) 1 0 := (fo 10 (by decide)).trans t10
    have hB : (τ2 10).2 0 = (σ 10).2 0 := by rw [w10]; rfl
    have hM1 : (τ2 10).1 1 = 0 := by rw [w10]; rfl
    refine ⟨⟨by rw [w11]; exact c, by rw [w11, r1 119 (by omega) (by omega)]; exact d, fun j j0 j1 => by rw [w12, r2 j j0 j1]; exact e j j0 j1⟩, ?_, ⟨(U.1, U.2.1, (τ2 31).2 1), OKT_9 (P0 := U.1) (P1 := U.2.1) u1 hAA, rfl, CS_o (CS_9 (P0 := U.1) (P1 := U.2.1) u1 hAA tC) (fo 4 (by decide)) (fo 5 (by decide)) (fo 6 (by decide))⟩, ⟨⟨by rw [hB]; exact h.2.2.2.1.1.1, by rw [hM1]; omega⟩, by rw [g5, hM1], fun i i0 i1 => by rw [hM1] at i1; omega⟩, RI_f h.2.2.2.2 (by rw [fo 0 (by decide), t0]; rfl) (fun o x y => by rw [fo o (by omega)]; exact to o (by omega) (by omega) (by omega) (by omega) (by omega) (by omega)) g3 (fun j hj => by rw [g2]; unfold cpi; rw [if_neg (by omega)]) (fun i hi => by rw [g1]; unfold cpi; rw [if_neg (by omega)])⟩
    rw [fo 0 (by decide), t0, r1 120 (by omega) (by omega), r1 121 (by omega) (by omega)]
    exact ⟨a, b⟩
theorem J_image2 {σ : zS} (h : REL σ) : J3 M_X7_image 2 [zR 0, zI 2] M_X8_image 2 [zR 31, zI 2] σ := by
  obtain ⟨T, hT, e1, hC⟩ := h.2.2.1
  refine zC_mono (c_image2 h.2.2.2.2.1.2.2) (fun r τ q => ?_)
  obtain ⟨rfl, t0, t1, t2, t3, to⟩ := q
  refine ⟨1, rfl, ?_⟩
  have t31 : τ 31 = σ 31 := to 31 (by decide) (by decide) (by decide) (by decide)
  have hm := m8_image (σ := τ) (m := τ 31) (k := 2) (by omega)
  rw [zo_self, decide_eq_true (by omega), if_pos (by omega), t31] at hm
  refine zC_mono hm (fun r2 τ2 q' => ?_)
  obtain ⟨rfl, q3⟩ := q'
  refine ⟨rfl, ?_⟩
  have f31 : τ2 31 = osa (imO (oss (σ 31) 0 0) 0 (2 + 1)) 3 2 1 := by rw [q3, zo_s]
  have fb : τ2 27 = oss (oss (oss (σ 27) 3 1) 4 ((σ 0).1 10)) 5 ((σ 0).1 11) := by rw [q3, zo_n (by decide)]; exact t0
  have ft : τ2 28 = t_cp (σ 28) (σ 1) := by rw [q3, zo_n (by decide)]; exact t1
  have fd : τ2 29 = d_cp (σ 29) (σ 4) := by rw [q3, zo_n (by decide)]; exact t2
  have fp : τ2 30 = p_cp (σ 30) (σ 5) := by rw [q3, zo_n (by decide)]; exact t3
  have fo : ∀ o, o ≠ 27 → o ≠ 28 → o ≠ 29 → o ≠ 30 → o ≠ 31 → τ2 o = σ o := fun o a1 a2 a3 a4 a5 => by rw [q3, zo_n a5]; exact to o a1 a2 a3 a4
  have g1 : (τ2 31).2 1 = cpi ((σ 31).2 1) (122 * (2 + 1)) 0 122 := by rw [f31]; rfl
  have g2 : (τ2 31).2 2 = cpi ((σ 31).2 2) (400 * (2 + 1)) 0 400 := by rw [f31]; rfl
  have g3a : (τ2 31).2 3 = zup ((σ 31).2 3) 2 1 := by rw [f31]; rfl
  have g3 : (τ2 31).2 3 2 = 1 := by rw [g3a, zup_s]
  have g4 : (τ2 31).2 4 = (σ 31).2 4 := by rw [f31]; rfl
  have g5 : (τ2 31).1 5 = (σ 31).1 5 := by rw [f31]; rfl
  have ga : ∀ i, i < 122 → (τ2 31).2 1 i = (σ 31).2 1 i := fun i hi => by rw [g1]; unfold cpi; rw [if_neg (by omega)]
  have gt : ∀ j, j < 400 → (τ2 31).2 2 j = (σ 31).2 2 j := fun j hj => by rw [g2]; unfold cpi; rw [if_neg (by omega)]
  have hAA : A119 T.2.2 ((τ2 31).2 1) := fun i i0 i1 => by rw [ga i (by omega), e1]
  have fz := fun o (a : o ≤ 18) => fo o (by omega) (by omega) (by omega) (by omega) (by omega)
  refine ⟨⟨by rw [fz 1 (by decide)]; exact h.1.1, by rw [fz 1 (by decide), ga 119 (by omega)]; exact h.1.2.1, fun j j0 j1 => by rw [fz 1 (by decide), gt j j1]; exact h.1.2.2 j j0 j1⟩, by rw [fz 0 (by decide), ga 120 (by omega), ga 121 (by omega)]; exact h.2.1, ⟨(T.1, T.2.1, (τ2 31).2 1), OKT_9 (P0 := T.1) (P1 := T.2.1) hT hAA, rfl, CS_o (CS_9 (P0 := T.1) (P1 := T.2.1) hT hAA hC) (fz 4 (by decide)) (fz 5 (by decide)) (fz 6 (by decide))⟩, RA_o h.2.2.2.1 (fz 4 (by decide)) (fun o a b => fz o b) g5 g4, ?_⟩
  · refine ⟨by rw [fz 0 (by decide)]; exact h.2.2.2.2.1, ?_, ?_, ?_⟩
    · rw [fo 19 (by decide) (by decide) (by decide) (by decide) (by decide), fo 20 (by decide) (by decide) (by decide) (by decide) (by decide), fo 21 (by decide) (by decide) (by decide) (by decide) (by decide), fo 22 (by decide) (by decide) (by decide) (by decide) (by decide)]
      exact IMk_p h.2.2.2.2.2.1 (by rw [g3a]; exact zup_n _ _ (by decide)) (fun j a b => by rw [g2]; unfold cpi; rw [if_neg (by omega)]) (fun i a b => by rw [g1]; unfold cpi; rw [if_neg (by omega)])
    · rw [fo 23 (by decide) (by decide) (by decide) (by decide) (by decide), fo 24 (by decide) (by decide) (by decide) (by decide) (by decide), fo 25 (by decide) (by decide) (by decide) (by decide) (by decide), fo 26 (by decide) (by decide) (by decide) (by decide) (by decide)]
      exact IMk_p h.2.2.2.2.2.2.1 (by rw [g3a]; exact zup_n _ _ (by decide)) (fun j a b => by rw [g2]; unfold cpi; rw [if_neg (by omega)]) (fun i a b => by rw [g1]; unfold cpi; rw [if_neg (by omega)])
    · rw [fb, ft, fd, fp]; exact IMk_n h hT e1 hC (by omega) g1 g2 g3
theorem J_again2 {σ : zS} (h : REL σ) : J3 M_X7_again 5 [zR 0, zI 2] M_X8_again 2 [zR 31, zI 2] σ := by
  obtain ⟨T, hT, e1, hC⟩ := h.2.2.1
  obtain ⟨i1, i2, i3⟩ := h.2.2.2.2.2.2.2
  by_cases z : (σ 31).2 3 2 = 0
  · refine zC_mono (c_again2_n h.2.2.2.2.1.2.2 (i1.trans z)) (fun r τ q => ?_)
    obtain ⟨rfl, rfl⟩ := q
    refine ⟨0, rfl, ?_⟩
    have hm := m8_again (σ := τ) (m := τ 31) (k := 2) (by omega)
    rw [zo_self, decide_eq_false (fun u => u.2 z), if_neg (fun u => u.2 z)] at hm
    refine zC_mono hm (fun r2 τ2 q' => ?_)
    obtain ⟨rfl, rfl⟩ := q'
    exact ⟨rfl, R_same h hT hC e1 (CX.rf _) ⟨rfl, rfl, rfl⟩ e1 rfl rfl⟩
  · have z1 : (σ 31).2 3 2 = 1 := by omega
    obtain ⟨a, b, c, d, e, U, u1, u2, u3, u4, u5⟩ := i3 z1
    refine zC_mono (c_again2 h.2.2.2.2.1.2.2 (i1.trans z1) u1 u2 u3 u4) (fun r τ q => ?_)
    obtain ⟨rfl, t0, t1, tC, t10, to⟩ := q
    refine ⟨1, rfl, ?_⟩
    have t31 : τ 31 = σ 31 := to 31 (by decide) (by decide) (by decide) (by decide) (by decide) (by decide)
    have hm := m8_again (σ := τ) (m := τ 31) (k := 2) (by omega)
    rw [zo_self, t31, decide_eq_true ⟨by omega, z⟩, if_pos ⟨by omega, z⟩] at hm
    refine zC_mono hm (fun r2 τ2 q' => ?_)
    obtain ⟨rfl, q3⟩ := q'
    refine ⟨rfl, ?_⟩
    have f31 : τ2 31 = oss (imO (oss (σ 31) 0 0) (2 + 1) 0) 5 0 := by rw [q3, zo_s]
    have fo : ∀ o, o ≠ 31 → τ2 o = τ o := fun o a => by rw [q3, zo_n a]
    have g1 : (τ2 31).2 1 = cpi ((σ 31).2 1) (122 * 0) (122 * (2 + 1)) 122 := by rw [f31]; rfl
    have g2 : (τ2 31).2 2 = cpi ((σ 31).2 2) (400 * 0) (400 * (2 + 1)) 400 := by rw [f31]; rfl
    have g3 : (τ2 31).2 3 = (σ 31).2 3 := by rw [f31]; rfl
    have g5 : (τ2 31).1 5 = 0 := by rw [f31]; rfl
    have r1 : ∀ i, 0 ≤ i → i < 122 → (τ2 31).2 1 i = (σ 31).2 1 (122 * (2 + 1) + i) := fun i i0 i1 => by
      rw [g1]
      unfold cpi
      rw [if_pos (by omega), show i - 122 * 0 + 122 * (2 + 1) = 122 * (2 + 1) + i by omega]
    have r2 : ∀ j, 0 ≤ j → j < 400 → (τ2 31).2 2 j = (σ 31).2 2 (400 * (2 + 1) + j) := fun j j0 j1 => by
      rw [g2]
      unfold cpi
      rw [if_pos (by omega), show j - 400 * 0 + 400 * (2 + 1) = 400 * (2 + 1) + j by omega]
    have hAA : A119 U.2.2 ((τ2 31).2 1) := fun i i0 i1 => by rw [r1 i i0 (by omega)]; exact u5 i i0 i1
    have w1 : τ2 1 = t_cp (σ 1) (σ 28) := (fo 1 (by decide)).trans t1
    have w11 : (τ2 1).1 1 = (σ 28).1 1 := by rw [w1]; rfl
    have w12 : (τ2 1).2 0 = (σ 28).2 0 := by rw [w1]; rfl
    have w10 : τ2 10 = oss (σ 10) 1 0 := (fo 10 (by decide)).trans t10
    have hB : (τ2 10).2 0 = (σ 10).2 0 := by rw [w10]; rfl
    have hM1 : (τ2 10).1 1 = 0 := by rw [w10]; rfl
    refine ⟨⟨by rw [w11]; exact c, by rw [w11, r1 119 (by omega) (by omega)]; exact d, fun j j0 j1 => by rw [w12, r2 j j0 j1]; exact e j j0 j1⟩, ?_, ⟨(U.1, U.2.1, (τ2 31).2 1), OKT_9 (P0 := U.1) (P1 := U.2.1) u1 hAA, rfl, CS_o (CS_9 (P0 := U.1) (P1 := U.2.1) u1 hAA tC) (fo 4 (by decide)) (fo 5 (by decide)) (fo 6 (by decide))⟩, ⟨⟨by rw [hB]; exact h.2.2.2.1.1.1, by rw [hM1]; omega⟩, by rw [g5, hM1], fun i i0 i1 => by rw [hM1] at i1; omega⟩, RI_f h.2.2.2.2 (by rw [fo 0 (by decide), t0]; rfl) (fun o x y => by rw [fo o (by omega)]; exact to o (by omega) (by omega) (by omega) (by omega) (by omega) (by omega)) g3 (fun j hj => by rw [g2]; unfold cpi; rw [if_neg (by omega)]) (fun i hi => by rw [g1]; unfold cpi; rw [if_neg (by omega)])⟩
    rw [fo 0 (by decide), t0, r1 120 (by omega) (by omega), r1 121 (by omega) (by omega)]
    exact ⟨a, b⟩
theorem J_image {σ : zS} {k : Int} (h : REL σ) (hz : zin k) : J3 M_X7_image 2 [zR 0, zI k] M_X8_image 2 [zR 31, zI k] σ := by
  by_cases hk : 0 ≤ k ∧ k ≤ 2
  · have h3 : k = 0 ∨ k = 1 ∨ k = 2 := by omega
    rcases h3 with rfl | rfl | rfl
    · exact J_image0 h
    · exact J_image1 h
    · exact J_image2 h
  · exact J_image_n h hz hk
theorem J_again {σ : zS} {k : Int} (h : REL σ) (hz : zin k) : J3 M_X7_again 5 [zR 0, zI k] M_X8_again 2 [zR 31, zI k] σ := by
  by_cases hk : 0 ≤ k ∧ k ≤ 2
  · have h3 : k = 0 ∨ k = 1 ∨ k = 2 := by omega
    rcases h3 with rfl | rfl | rfl
    · exact J_again0 h
    · exact J_again1 h
    · exact J_again2 h
  · exact J_again_n h hz hk
