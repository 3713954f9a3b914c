/-! Law cases: questions. -/
theorem R_q {σ τ : zS} {m' : zOb} {T : T3} (h : REL σ) (hT : OKT T) (hC : CS T σ) (e1 : (σ 31).2 1 = T.2.2) (hX : CX σ τ) (hM : MQ8 (σ 31) m') : REL (zo τ 31 m') := R_same h hT hC e1 hX hM.1 (by rw [hM.2.1]; exact e1) hM.2.2.1 hM.2.2.2
theorem J_row {σ : zS} {d k : Int} (h : REL σ) (hd : zin d) (hk : zin k) : J3 M_X7_row 3 [zR 0, zI d, zI k] M_X8_row 3 [zR 31, zI d, zI k] σ := by
  obtain ⟨T, hT, e1, hC⟩ := h.2.2.1
  refine zC_mono (c_row hT hC hd hk) (fun r τ q => ?_)
  obtain ⟨rfl, rfl⟩ := q
  refine ⟨_, rfl, ?_⟩
  have hm := m8_row (σ := τ) (m := τ 31) hT e1 hd hk
  rw [zo_self] at hm
  refine zC_mono hm (fun r2 τ2 q' => ?_)
  obtain ⟨rfl, m', rfl, hMQ⟩ := q'
  exact ⟨rfl, R_q h hT hC e1 (CX.rf _) hMQ⟩
theorem J_staged {σ : zS} {w z : Int} (h : REL σ) (hw : zin w) (hz : zin z) : J3 M_X7_staged 3 [zR 0, zI w, zI z] M_X8_staged 6 [zR 31, zI w, zI z] σ := by
  obtain ⟨T, hT, e1, hC⟩ := h.2.2.1
  refine zC_mono (c_staged hT hC hw hz) (fun r τ q => ?_)
  obtain ⟨rfl, rfl⟩ := q
  refine ⟨_, rfl, ?_⟩
  have hm := m8_staged (σ := τ) (m := τ 31) hT e1 hw hz
  rw [zo_self] at hm
  refine zC_mono hm (fun r2 τ2 q' => ?_)
  obtain ⟨rfl, m', rfl, hMQ⟩ := q'
  exact ⟨rfl, R_q h hT hC e1 (CX.rf _) hMQ⟩
theorem J_at {σ : zS} {d w : Int} (h : REL σ) (hd : zin d) (hw : zin w) : J3 M_X7_at 3 [zR 0, zI d, zI w] M_X8_at 6 [zR 31, zI d, zI w] σ := by
  obtain ⟨T, hT, e1, hC⟩ := h.2.2.1
  refine zC_mono (c_at hT hC hd hw) (fun r τ q => ?_)
  obtain ⟨rfl, rfl⟩ := q
  refine ⟨_, rfl, ?_⟩
  have hm := m8_at (σ := τ) (m := τ 31) hT e1 hd hw
  rw [zo_self] at hm
  refine zC_mono hm (fun r2 τ2 q' => ?_)
  obtain ⟨rfl, m', rfl, hMQ⟩ := q'
  exact ⟨rfl, R_q h hT hC e1 (CX.rf _) hMQ⟩
theorem J_travel {σ : zS} {d e : Int} (h : REL σ) (hd : zin d) (he : zin e) : J3 M_X7_travel 3 [zR 0, zI d, zI e] M_X8_travel 3 [zR 31, zI d, zI e] σ := by
  obtain ⟨T, hT, e1, hC⟩ := h.2.2.1
  refine zC_mono (c_travel hT hC hd he) (fun r τ q => ?_)
  obtain ⟨rfl, rfl⟩ := q
  refine ⟨_, rfl, ?_⟩
  have hm := m8_travel (σ := τ) (m := τ 31) hT e1 hd he
  rw [zo_self] at hm
  refine zC_mono hm (fun r2 τ2 q' => ?_)
  obtain ⟨rfl, m', rfl, hMQ⟩ := q'
  exact ⟨rfl, R_q h hT hC e1 (CX.rf _) hMQ⟩
theorem J_moves {σ : zS} {z : Bool} (h : REL σ) : J3 M_X7_moves 5 [zR 0, zB z] M_X8_moves 7 [zR 31, zB z] σ := by
  obtain ⟨T, hT, e1, hC⟩ := h.2.2.1
  refine zC_mono (c_moves hT hC) (fun r τ q => ?_)
  obtain ⟨rfl, rfl⟩ := q
  refine ⟨_, rfl, ?_⟩
  have hm := m8_moves (σ := τ) (m := τ 31) (z := z) hT e1
  rw [zo_self] at hm
  refine zC_mono hm (fun r2 τ2 q' => ?_)
  obtain ⟨rfl, m', rfl, hMQ⟩ := q'
  exact ⟨rfl, R_q h hT hC e1 (CX.rf _) hMQ⟩
theorem J_count {σ : zS} {w : Int} (h : REL σ) (hw : zin w) : J3 M_X7_count 4 [zR 0, zI w] M_X8_count 6 [zR 31, zI w] σ := by
  obtain ⟨T, hT, e1, hC⟩ := h.2.2.1
  have hc := c_count hT hC hw
  have a1 := h.2.2.2.1.2.1
  have a2 := h.1.2.1
  rw [e1] at a2
  rw [← a1, a2] at hc
  refine zC_mono hc (fun r τ q => ?_)
  obtain ⟨rfl, rfl⟩ := q
  refine ⟨_, rfl, ?_⟩
  have hm := m8_count (σ := τ) (m := τ 31) hT e1 hw
  rw [zo_self] at hm
  refine zC_mono hm (fun r2 τ2 q' => ?_)
  obtain ⟨rfl, m', rfl, hMQ⟩ := q'
  exact ⟨rfl, R_q h hT hC e1 (CX.rf _) hMQ⟩
theorem J_fault {σ : zS} {b : Bool} (h : REL σ) : J3 M_X7_fault 1 [zR 0, zB b] M_X8_fault 1 [zR 31, zB b] σ := by
  obtain ⟨T, hT, e1, hC⟩ := h.2.2.1
  have hc := c_fault (σ := σ) (b := b)
  rw [h.2.1.1, h.2.1.2] at hc
  refine zC_mono hc (fun r τ q => ?_)
  obtain ⟨rfl, rfl⟩ := q
  refine ⟨_, rfl, ?_⟩
  have hm := m8_fault (σ := τ) (m := τ 31) (b := b)
  rw [zo_self] at hm
  refine zC_mono hm (fun r2 τ2 q' => ?_)
  obtain ⟨rfl, m', rfl, hMQ⟩ := q'
  exact ⟨rfl, R_q h hT hC e1 (CX.rf _) hMQ⟩
theorem J_would {σ : zS} {t d k : Int} (h : REL σ) (ht : zin t) (hd : zin d) (hk : zin k) : J3 M_X7_would 5 [zR 0, zI t, zI d, zI k] M_X8_would 7 [zR 31, zI t, zI d, zI k] σ := by
  obtain ⟨T, hT, e1, hC⟩ := h.2.2.1
  refine zC_mono (c_would hT hC ht hd hk) (fun r τ q => ?_)
  obtain ⟨rfl, hX⟩ := q
  refine ⟨_, rfl, ?_⟩
  have t31 : τ 31 = σ 31 := hX 31 (by decide) (by decide) (by decide)
  have hm := m8_would (σ := τ) (m := τ 31) hT (by rw [t31]; exact e1) ht hd hk
  rw [zo_self, t31] at hm
  refine zC_mono hm (fun r2 τ2 q' => ?_)
  obtain ⟨rfl, m', rfl, hMQ⟩ := q'
  exact ⟨rfl, R_q h hT hC e1 hX hMQ⟩
theorem J_delayed {σ : zS} {t b : Int} (h : REL σ) (ht : zin t) (hb : zin b) : J3 M_X7_delayed 5 [zR 0, zI t, zI b] M_X8_delayed 6 [zR 31, zI t, zI b] σ := by
  obtain ⟨T, hT, e1, hC⟩ := h.2.2.1
  refine zC_mono (c_delayed hT hC ht hb) (fun r τ q => ?_)
  obtain ⟨rfl, hX⟩ := q
  refine ⟨_, rfl, ?_⟩
  have t31 : τ 31 = σ 31 := hX 31 (by decide) (by decide) (by decide)
  have hm := m8_delayed (σ := τ) (m := τ 31) hT (by rw [t31]; exact e1) ht hb
  rw [zo_self, t31] at hm
  refine zC_mono hm (fun r2 τ2 q' => ?_)
  obtain ⟨rfl, m', rfl, hMQ⟩ := q'
  exact ⟨rfl, R_q h hT hC e1 hX hMQ⟩
theorem J_roomy {σ : zS} {s : Int} (h : REL σ) (hs : zin s) : J3 M_X7_roomy 5 [zR 0, zI s] M_X8_roomy 7 [zR 31, zI s] σ := by
  obtain ⟨T, hT, e1, hC⟩ := h.2.2.1
  refine zC_mono (c_roomy hT hC hs) (fun r τ q => ?_)
  obtain ⟨rfl, hX⟩ := q
  refine ⟨_, rfl, ?_⟩
  have t31 : τ 31 = σ 31 := hX 31 (by decide) (by decide) (by decide)
  have hm := m8_roomy (σ := τ) (m := τ 31) hT (by rw [t31]; exact e1) hs
  rw [zo_self, t31] at hm
  refine zC_mono hm (fun r2 τ2 q' => ?_)
  obtain ⟨rfl, m', rfl, hMQ⟩ := q'
  exact ⟨rfl, R_q h hT hC e1 hX hMQ⟩
theorem J_least {σ : zS} (h : REL σ) : J3 M_X7_least 5 [zR 0] M_X8_least 7 [zR 31] σ := by
  obtain ⟨T, hT, e1, hC⟩ := h.2.2.1
  refine zC_mono (c_least hT hC) (fun r τ q => ?_)
  obtain ⟨rfl, hX⟩ := q
  refine ⟨_, rfl, ?_⟩
  have t31 : τ 31 = σ 31 := hX 31 (by decide) (by decide) (by decide)
  have hm := m8_least (σ := τ) (m := τ 31) hT (by rw [t31]; exact e1)
  rw [zo_self, t31] at hm
  refine zC_mono hm (fun r2 τ2 q' => ?_)
  obtain ⟨rfl, m', rfl, hMQ⟩ := q'
  exact ⟨rfl, R_q h hT hC e1 hX hMQ⟩
theorem J_undo {σ : zS} (h : REL σ) : J3 M_X7_undo 5 [zR 0] M_X8_undo 1 [zR 31] σ := by
  obtain ⟨T, hT, e1, hC⟩ := h.2.2.1
  have hA := h.2.2.2.1.1
  have h5 := h.2.2.2.1.2.1
  by_cases z : (σ 10).1 1 = 0
  · refine zC_mono (c_undo_n z) (fun r τ q => ?_)
    obtain ⟨rfl, rfl⟩ := q
    refine ⟨_, rfl, ?_⟩
    have hm := m8_undo (σ := τ) (m := τ 31) h.u
    rw [zo_self] at hm
    refine zC_mono hm (fun r2 τ2 q' => ?_)
    obtain ⟨rfl, m', rfl, hMP, q4, q3⟩ := q'
    rw [if_pos (by omega)] at q3
    exact ⟨by rw [h5, z]; rfl, R_same h hT hC e1 (CX.rf _) hMP (by rw [q3.1]; exact e1) q3.2 q4⟩
  · have hm8 := hA.2
    obtain ⟨U, u1, u2, u3, u4, u5⟩ := h.2.2.2.1.2.2 ((σ 10).1 1 - 1) (by omega) (by omega)
    refine zC_mono (c_undo hA (by omega) u1 u2 u3 u4) (fun r τ q => ?_)
    obtain ⟨rfl, hC', t10, to⟩ := q
    refine ⟨_, rfl, ?_⟩
    have t31 : τ 31 = σ 31 := to 31 (by decide) (by decide) (by decide)
    have hm := m8_undo (σ := τ) (m := τ 31) (by rw [t31]; exact h.u)
    rw [zo_self, t31] at hm
    refine zC_mono hm (fun r2 τ2 q' => ?_)
    obtain ⟨rfl, m', rfl, hMP, q4, q3⟩ := q'
    rw [if_neg (by omega), h5] at q3
    refine ⟨by rw [h5], ?_⟩
    have e31 : zo τ 31 m' 31 = m' := zo_s _ _ _
    have hAB : A119 U.2.2 (m'.2 1) := fun i i0 i1 => by
      rw [q3.1]
      show (if 0 ≤ i ∧ i < 0 + 119 then _ else _) = _
      rw [if_pos (by omega)]
      exact u5 i i0 i1
    have hU' : OKT (U.1, U.2.1, m'.2 1) := OKT_9 (P0 := U.1) (P1 := U.2.1) u1 hAB
    have hCU : CS (U.1, U.2.1, m'.2 1) τ := CS_9 (P0 := U.1) (P1 := U.2.1) u1 hAB hC'
    refine REL_act (T' := (U.1, U.2.1, m'.2 1)) h (fun o ho => ?_) (by rw [e31]; exact hMP) (Or.inr (fun i hi => ?_)) hU' (by rw [e31]) (CS_31 hCU) ?_
    · rw [zo_n (by omega)]; exact to o (by omega) (by omega) (by omega)
    · show m'.2 1 i = _
      rw [q3.1]
      show (if 0 ≤ i ∧ i < 0 + 119 then _ else _) = _
      rw [if_neg (by omega)]
    · have e10 : zo τ 31 m' 10 = oss (σ 10) 1 ((σ 10).1 1 - 1) := by rw [zo_n (by decide)]; exact t10
      have hB : (zo τ 31 m' 10).2 0 = (σ 10).2 0 := by rw [e10]; rfl
      have hM1 : (zo τ 31 m' 10).1 1 = (σ 10).1 1 - 1 := by rw [e10]; rfl
      refine ⟨⟨by rw [hB]; exact hA.1, by rw [hM1]; omega⟩, by rw [e31, hM1]; exact q3.2, fun i i0 i1 => ?_⟩
      rw [hM1] at i1
      have hb := hA.1.1 i i0 (by omega)
      have hpa : pa (zo τ 31 m') i = pa σ i := by
        unfold pa
        rw [hB, zo_n (by omega)]
        exact to _ (by omega) (by omega) (by omega)
      rw [hpa, zo_n (show (4 : Nat) ≠ 31 by decide), to 4 (by decide) (by decide) (by decide), e31, q4]
      exact h.2.2.2.1.2.2 i i0 (by omega)
