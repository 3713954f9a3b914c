/-! Law cases: door, truck, carton. -/
theorem zCo_mono {y : MethodName} {cc : ByteArray} {a b : Int} {σ : zS} {K K' : Int → Int64 → Prop} (h : zCo y cc a b σ K) (hk : ∀ r w, K r w → K' r w) : zCo y cc a b σ K' := by
  intro l D ad cs cL v0 hs hi hn
  have h' := h l D ad cs cL v0 hs hi hn
  intro p e h1 h2 h3 s m args below h4 h5 h6 h7
  obtain ⟨n, o, a, b, c, ⟨r, w, e1, e2, e3⟩, q⟩ := h' p e h1 h2 h3 s m args below h4 h5 h6 h7
  exact ⟨n, o, a, b, c, ⟨r, w, e1, hk r w e2, e3⟩, q⟩
def J4 (y : MethodName) (cc : ByteArray) (Mm : MethodName × ByteArray × Nat × Option FieldType) (a b : Int) (σ : zS) : Prop :=
  ∃ v th : Int, (th = 0 ∨ th = 1) ∧ zCo y cc a b σ (fun r w => r = th ∧ (th = 0 → w = (Int32.ofInt v).toInt64)) ∧ zC Mm 6 [zR 31, zI a, zI b] σ (fun r τ => r = some (zI v) ∧ REL τ ∧ zCp M_X8_thrown 1 [zR 31] τ (zI th))
theorem R_q1 {σ : zS} {m' : zOb} {T : T3} {v : Int} (h : REL σ) (hT : OKT T) (hC : CS T σ) (e1 : (σ 31).2 1 = T.2.2) (hM : MQ1 v (σ 31) m') : REL (zo σ 31 m') := by
  have k : REL (zo σ 31 (oss m' 0 0)) := R_q h hT hC e1 (CX.rf σ) ⟨⟨rfl, hM.2.2.1, hM.2.2.2.1⟩, hM.2.1, hM.2.2.2.2.2, hM.2.2.2.2.1⟩
  have e : ∀ o, o ≠ 31 → zo σ 31 (oss m' 0 0) o = zo σ 31 m' o := fun o ho => by rw [zo_n ho, zo_n ho]
  have e31 : zo σ 31 (oss m' 0 0) 31 = oss m' 0 0 := zo_s _ _ _
  have f31 : zo σ 31 m' 31 = m' := zo_s _ _ _
  have q1 : (oss m' 0 0).1 5 = m'.1 5 := rfl
  have q2 : (oss m' 0 0).2 = m'.2 := rfl
  obtain ⟨k1, k2, ⟨T', a1, a2, a3⟩, k4, k5⟩ := k
  rw [e31] at k2 a2
  rw [e 0 (by decide)] at k2
  refine ⟨RT_f k1 (e 1 (by decide)).symm (by rw [e31, f31, q2]) (by rw [e31, f31, q2]), by rw [f31]; exact k2, ⟨T', a1, by rw [f31]; exact a2, ?_⟩, RA_same k4 (e 4 (by decide)).symm (e 10 (by decide)).symm (fun o x y => (e o (by omega)).symm) (by rw [e31, f31, q1]) (by rw [e31, f31, q2]), RI_f k5 (by rw [e 0 (by decide)]) (fun o x y => (e o (by omega)).symm) (by rw [e31, f31, q2]) (fun j _ => by rw [e31, f31, q2]) (fun j _ => by rw [e31, f31, q2])⟩
  unfold CS at a3 ⊢
  rw [e 4 (by decide), e 5 (by decide), e 6 (by decide)] at a3
  exact a3
theorem J_door {σ : zS} {d w : Int} (h : REL σ) (hd : zin d) (hw : zin w) : J4 yL_door cL_door M_X8_door d w σ := by
  obtain ⟨T, hT, e1, hC⟩ := h.2.2.1
  have hm := m8_door (σ := σ) (m := σ 31) hT e1 hd hw
  rw [zo_self] at hm
  have e0 : zsc σ 4 0 = T.2.2 0 := hC.1.1
  by_cases hc : (0 ≤ d ∧ d < T.2.2 0) ∧ 0 ≤ w ∧ w ≤ 4
  · rw [if_pos hc] at hm
    refine ⟨drQ T d w, 0, Or.inl rfl, zCo_mono (L_ans (by decide +kernel) rfl zLd_door mv_X7_door ml_L_7 (c_door hT hC hc.1 hc.2) (by decide)) (fun r v q => ⟨q.1, fun _ => q.2⟩), zC_mono hm (fun r τ q => ?_)⟩
    obtain ⟨q1, m', rfl, q2⟩ := q
    rw [if_pos hc] at q2
    have hx := m8_thrown (σ := σ) (m := m')
    rw [q2.1] at hx
    exact ⟨q1, R_q1 h hT hC e1 q2, hx⟩
  · rw [if_neg hc] at hm
    refine ⟨0, 1, Or.inr rfl, zCo_mono (L_thr (by decide +kernel) rfl zLd_door mv_X7_door (by decide) ml_L_7 (t_door hd hw (by rw [e0]; exact hc))) (fun r v q => ⟨q, fun z => absurd z (by decide)⟩), zC_mono hm (fun r τ q => ?_)⟩
    obtain ⟨q1, m', rfl, q2⟩ := q
    rw [if_neg hc] at q2
    have hx := m8_thrown (σ := σ) (m := m')
    rw [q2.1] at hx
    exact ⟨q1, R_q1 h hT hC e1 q2, hx⟩
theorem J_truck {σ : zS} {d w : Int} (h : REL σ) (hd : zin d) (hw : zin w) : J4 yL_truck cL_truck M_X8_truck d w σ := by
  obtain ⟨T, hT, e1, hC⟩ := h.2.2.1
  have hm := m8_truck (σ := σ) (m := σ 31) hT e1 hd hw
  rw [zo_self] at hm
  have e0 : zsc σ 4 1 = T.2.2 1 := hC.1.2.1
  by_cases hc : (0 ≤ d ∧ d < T.2.2 1) ∧ (0 ≤ w ∧ w ≤ 12 ∨ 20 ≤ w ∧ w ≤ 23)
  · rw [if_pos hc] at hm
    refine ⟨tkQ T d w, 0, Or.inl rfl, zCo_mono (L_ans (by decide +kernel) rfl zLd_truck mv_X7_truck ml_L_15 (c_truck hT hC hc.1 hc.2) (by decide)) (fun r v q => ⟨q.1, fun _ => q.2⟩), zC_mono hm (fun r τ q => ?_)⟩
    obtain ⟨q1, m', rfl, q2⟩ := q
    rw [if_pos hc] at q2
    have hx := m8_thrown (σ := σ) (m := m')
    rw [q2.1] at hx
    exact ⟨q1, R_q1 h hT hC e1 q2, hx⟩
  · rw [if_neg hc] at hm
    refine ⟨0, 1, Or.inr rfl, zCo_mono (L_thr (by decide +kernel) rfl zLd_truck mv_X7_truck (by decide) ml_L_15 (t_truck hd hw (by rw [e0]; exact hc))) (fun r v q => ⟨q, fun z => absurd z (by decide)⟩), zC_mono hm (fun r τ q => ?_)⟩
    obtain ⟨q1, m', rfl, q2⟩ := q
    rw [if_neg hc] at q2
    have hx := m8_thrown (σ := σ) (m := m')
    rw [q2.1] at hx
    exact ⟨q1, R_q1 h hT hC e1 q2, hx⟩
theorem J_carton {σ : zS} {d w : Int} (h : REL σ) (hd : zin d) (hw : zin w) : J4 yL_carton cL_carton M_X8_carton d w σ := by
  obtain ⟨T, hT, e1, hC⟩ := h.2.2.1
  have hm := m8_carton (σ := σ) (m := σ 31) hT e1 hd hw
  rw [zo_self] at hm
  have e0 : zsc σ 4 2 = (ra T.2.2).1 20 := by
    obtain ⟨k1, k2, k3, k4⟩ := hT.run
    rw [k1.2.2.1, k3]; exact hC.1.2.2.1
  by_cases hc : (0 ≤ d ∧ d < (ra T.2.2).1 20) ∧ 0 ≤ w ∧ w ≤ 5
  · rw [if_pos hc] at hm
    refine ⟨caQ T d w, 0, Or.inl rfl, zCo_mono (L_ans (by decide +kernel) rfl zLd_carton mv_X7_carton ml_L_18 (c_carton hT hC hc.1 hc.2) (by decide)) (fun r v q => ⟨q.1, fun _ => q.2⟩), zC_mono hm (fun r τ q => ?_)⟩
    obtain ⟨q1, m', rfl, q2⟩ := q
    rw [if_pos hc] at q2
    have hx := m8_thrown (σ := σ) (m := m')
    rw [q2.1] at hx
    exact ⟨q1, R_q1 h hT hC e1 q2, hx⟩
  · rw [if_neg hc] at hm
    refine ⟨0, 1, Or.inr rfl, zCo_mono (L_thr (by decide +kernel) rfl zLd_carton mv_X7_carton (by decide) ml_L_18 (t_carton hd hw (by rw [e0]; exact hc))) (fun r v q => ⟨q, fun z => absurd z (by decide)⟩), zC_mono hm (fun r τ q => ?_)⟩
    obtain ⟨q1, m', rfl, q2⟩ := q
    rw [if_neg hc] at q2
    have hx := m8_thrown (σ := σ) (m := m')
    rw [q2.1] at hx
    exact ⟨q1, R_q1 h hT hC e1 q2, hx⟩
