/-! The model: door, truck, carton. -/
def MQ1 (v : Int) (m m' : zOb) : Prop := m'.1 0 = v ∧ m'.2 1 = m.2 1 ∧ m'.2 2 = m.2 2 ∧ m'.2 3 = m.2 3 ∧ m'.2 4 = m.2 4 ∧ m'.1 5 = m.1 5
theorem YR.m1 {T : T3} {m y : zOb} {v : Int} (h : YR T (oss m 0 v) y) (e1 : m.2 1 = T.2.2) : MQ1 v m y := ⟨h.2.2.2.2.2.1, by rw [h.2.2.1, e1], h.2.2.2.2.2.2.1, h.2.2.2.2.2.2.2.1, h.2.2.2.2.2.2.2.2.1, h.2.2.2.2.2.2.2.2.2⟩
theorem MQ1_0 (m : zOb) (v : Int) : MQ1 v m (oss m 0 v) := ⟨rfl, rfl, rfl, rfl, rfl, rfl⟩
theorem m8_standsIn {σ : zS} {m y : zOb} {T : T3} {d : Int} (hT : OKT T) (hY : YR T m y) (hd : 0 ≤ d ∧ d < T.2.2 0) : zCp M_X8_standsIn 2 [zR 31, zI d] (zo σ 31 y) (zI (q_mt T.1 (ra T.2.2) d)) := by
  have hrs := row_sum hT (fun t => q_mn (ra T.2.2) t) hd.1 hd.2
  obtain ⟨hS, hD, k3, k4, hE, -⟩ := hY
  have e1 := hE.1
  rw [k3] at e1
  have h6 := hT.1.1
  have h8 := hT.1.2.1
  have h65 := hT.2.1.wfr.1 d hd.1 hd.2
  have e65 : y.2 1 (65 + d) = T.2.2 (65 + d) := by rw [k3]
  have hq : q_mt T.1 (ra T.2.2) d = zsum (fun k => q_mn (ra T.2.2) (T.2.2 (71 + 8 * d + k))) (T.2.2 (65 + d)) := by
    rw [← hrs]
    unfold q_mt
    rw [← e1]
    rfl
  rw [hq]
  refine zC_of (M := M_X8_standsIn) (ls := [some (zR 31), some (zI d), none, none, none]) (n := 3) (by decide) (fun ad => Nat.le_of_ble_eq_true rfl) rfl (fun x h => ?_)
  have L : ∀ (n : Nat) (i acc : Int) (l4 : Option Value), 0 ≤ i → i ≤ T.2.2 (65 + d) → T.2.2 (65 + d) - i < n → -300 * i ≤ acc → acc ≤ 300 * i → acc = zsum (fun k => q_mn (ra T.2.2) (T.2.2 (71 + 8 * d + k))) i → zW x (fun rr τ' => rr = some (zI (zsum (fun k => q_mn (ra T.2.2) (T.2.2 (71 + 8 * d + k))) (T.2.2 (65 + d)))) ∧ τ' = zo σ 31 y) 4 [some (zR 31), some (zI d), some (zI acc), some (zI i), l4] [] (zo σ 31 y) := by
    intro n
    induction n with
    | zero => intro i acc l4 h1 h2 h3; omega
    | succ n ih =>
      intro i acc l4 h1 h2 h3 a0 a1 ha
      have hS1 : zsum (fun k => q_mn (ra T.2.2) (T.2.2 (71 + 8 * d + k))) (i + 1) = acc + q_mn (ra T.2.2) (T.2.2 (71 + 8 * d + i)) := by rw [zsum_S _ h1, ← ha]
      have eat : y.2 1 (71 + 8 * d + i) = T.2.2 (71 + 8 * d + i) := by rw [k3]
      refine z_iload_n (pc := 4) h dX8_standsIn_4 rfl ?_
      refine z_aloadR_n (pc := 5) h dX8_standsIn_5 rfl ?_
      refine z_iload_n (pc := 6) h dX8_standsIn_6 rfl ?_
      refine z_pV (pc := 7) (c := 8) h (m8_rowMany (by omega)) (by decide) (by first | assumption | rfl) rfl mv_X8_rowMany ml_X8_191 rfl dX8_standsIn_7 rfl (Nat.le_of_ble_eq_true rfl) ?_
      refine z_icmp_ge (pc := 10) (tgt := 79) h (by omega) (by omega) dX8_standsIn_10 (by decide) (fun c10 => ?_) (fun c10 => ?_)
      · refine z_iload_n (pc := 79) h dX8_standsIn_79 rfl ?_
        refine z_iret (pc := 80) h rfl dX8_standsIn_80 ?_
        refine ⟨congrArg (fun z => some (zI z)) ?_, rfl⟩
        rw [ha, show i = T.2.2 (65 + d) by omega]
      · have hr := hT.2.1.wfr.2.1 d i hd.1 hd.2 h1 (by omega)
        have hee := hE.2.2.2.2.2.2.2.2.1 _ hr.1 (by rw [← e1]; exact hr.2.1)
        have hlb := hD.2.2.2.2.2.1 _ hr.1 (by rw [k3]; exact hr.2.1)
        have hmn : q_mn (ra T.2.2) (T.2.2 (71 + 8 * d + i)) = if y.2 27 (T.2.2 (71 + 8 * d + i)) = -1 then 0 else (if y.2 28 (T.2.2 (71 + 8 * d + i)) = -1 then 199 else y.2 28 (T.2.2 (71 + 8 * d + i))) - y.2 27 (T.2.2 (71 + 8 * d + i)) + 1 := by unfold q_mn q_lm; rw [← hee.1, ← hee.2.1]
        rw [hmn] at hS1
        refine z_aloadR_n (pc := 13) h dX8_standsIn_13 rfl ?_
        refine z_iload_n (pc := 14) h dX8_standsIn_14 rfl ?_
        refine z_iload_n (pc := 15) h dX8_standsIn_15 rfl ?_
        refine z_pV (pc := 16) (c := 8) h (m8_rowAt (by omega) (by omega)) (by decide) (by first | assumption | rfl) rfl mv_X8_rowAt ml_X8_205 rfl dX8_standsIn_16 rfl (Nat.le_of_ble_eq_true rfl) ?_
        refine z_ist_4 (pc := 19) h dX8_standsIn_19 (by decide) rfl ?_
        rw [eat]
        refine z_iload_n (pc := 21) h dX8_standsIn_21 rfl ?_
        refine z_aloadR_n (pc := 22) h dX8_standsIn_22 rfl ?_
        refine z_getA4 (pc := 23) (c := 8) (j := 27) h (by first | assumption | rfl) rfl rfl fl_X8_48 dX8_standsIn_23 ?_
        refine z_iload (pc := 26) h dX8_standsIn_26 rfl ?_
        refine z_ialdq (pc := 28) (c := 8) (j := 27) (L := 8) h (zo_s _ _ _) (by first | assumption | rfl) (by decide) rfl (by decide) (by omega) (by omega) dX8_standsIn_28 (fun g28 => ?_)
        refine z_iconst (pc := 29) h dX8_standsIn_29 ?_
        refine z_icmp_ne (pc := 30) (tgt := 37) h (by omega) (by omega) dX8_standsIn_30 (by decide) (fun c30 => ?_) (fun c30 => ?_)
        · refine z_aloadR_n (pc := 37) h dX8_standsIn_37 rfl ?_
          refine z_getA4 (pc := 38) (c := 8) (j := 28) h (by first | assumption | rfl) rfl rfl fl_X8_51 dX8_standsIn_38 ?_
          refine z_iload (pc := 41) h dX8_standsIn_41 rfl ?_
          refine z_ialdq (pc := 43) (c := 8) (j := 28) (L := 8) h (zo_s _ _ _) (by first | assumption | rfl) (by decide) rfl (by decide) (by omega) (by omega) dX8_standsIn_43 (fun g43 => ?_)
          refine z_iconst (pc := 44) h dX8_standsIn_44 ?_
          refine z_icmp_ne (pc := 45) (tgt := 54) h (by omega) (by omega) dX8_standsIn_45 (by decide) (fun c45 => ?_) (fun c45 => ?_)
          · refine z_aloadR_n (pc := 54) h dX8_standsIn_54 rfl ?_
            refine z_getA4 (pc := 55) (c := 8) (j := 28) h (by first | assumption | rfl) rfl rfl fl_X8_51 dX8_standsIn_55 ?_
            refine z_iload (pc := 58) h dX8_standsIn_58 rfl ?_
            refine z_ialdq (pc := 60) (c := 8) (j := 28) (L := 8) h (zo_s _ _ _) (by first | assumption | rfl) (by decide) rfl (by decide) (by omega) (by omega) dX8_standsIn_60 (fun g60 => ?_)
            refine z_iconst (pc := 61) h dX8_standsIn_61 ?_
            refine z_iadd (pc := 62) h dX8_standsIn_62 ?_
            refine z_aloadR_n (pc := 63) h dX8_standsIn_63 rfl ?_
            refine z_getA4 (pc := 64) (c := 8) (j := 27) h (by first | assumption | rfl) rfl rfl fl_X8_48 dX8_standsIn_64 ?_
            refine z_iload (pc := 67) h dX8_standsIn_67 rfl ?_
            refine z_ialdq (pc := 69) (c := 8) (j := 27) (L := 8) h (zo_s _ _ _) (by first | assumption | rfl) (by decide) rfl (by decide) (by omega) (by omega) dX8_standsIn_69 (fun g69 => ?_)
            refine z_isub (pc := 70) h dX8_standsIn_70 ?_
            refine z_iadd (pc := 71) h dX8_standsIn_71 ?_
            refine z_ist_2 (pc := 72) h dX8_standsIn_72 (by decide) rfl ?_
            refine z_inc_3 (pc := 73) h dX8_standsIn_73 (by decide) rfl ?_
            refine z_goto (pc := 76) (tgt := 4) h dX8_standsIn_76 (by decide) ?_
            refine ih (i + 1) _ _ (by omega) (by omega) (by omega) (by omega) (by omega) ?_
            rw [hS1]
            split <;> (try split) <;> omega
          · refine z_sipush (pc := 48) h dX8_standsIn_48 (by decide) ?_
            refine z_goto (pc := 51) (tgt := 63) h dX8_standsIn_51 (by decide) ?_
            refine z_aloadR_n (pc := 63) h dX8_standsIn_63 rfl ?_
            refine z_getA4 (pc := 64) (c := 8) (j := 27) h (by first | assumption | rfl) rfl rfl fl_X8_48 dX8_standsIn_64 ?_
            refine z_iload (pc := 67) h dX8_standsIn_67 rfl ?_
            refine z_ialdq (pc := 69) (c := 8) (j := 27) (L := 8) h (zo_s _ _ _) (by first | assumption | rfl) (by decide) rfl (by decide) (by omega) (by omega) dX8_standsIn_69 (fun g69 => ?_)
            refine z_isub (pc := 70) h dX8_standsIn_70 ?_
            refine z_iadd (pc := 71) h dX8_standsIn_71 ?_
            refine z_ist_2 (pc := 72) h dX8_standsIn_72 (by decide) rfl ?_
            refine z_inc_3 (pc := 73) h dX8_standsIn_73 (by decide) rfl ?_
            refine z_goto (pc := 76) (tgt := 4) h dX8_standsIn_76 (by decide) ?_
            refine ih (i + 1) _ _ (by omega) (by omega) (by omega) (by omega) (by omega) ?_
            rw [hS1]
            split <;> (try split) <;> omega
        · refine z_iconst (pc := 33) h dX8_standsIn_33 ?_
          refine z_goto (pc := 34) (tgt := 71) h dX8_standsIn_34 (by decide) ?_
          refine z_iadd (pc := 71) h dX8_standsIn_71 ?_
          refine z_ist_2 (pc := 72) h dX8_standsIn_72 (by decide) rfl ?_
          refine z_inc_3 (pc := 73) h dX8_standsIn_73 (by decide) rfl ?_
          refine z_goto (pc := 76) (tgt := 4) h dX8_standsIn_76 (by decide) ?_
          refine ih (i + 1) _ _ (by omega) (by omega) (by omega) (by omega) (by omega) ?_
          rw [hS1]
          split <;> (try split) <;> omega
  refine z_iconst (pc := 0) h dX8_standsIn_0 ?_
  refine z_ist_2 (pc := 1) h dX8_standsIn_1 (by decide) rfl ?_
  refine z_iconst (pc := 2) h dX8_standsIn_2 ?_
  refine z_ist_3 (pc := 3) h dX8_standsIn_3 (by decide) rfl ?_
  exact L (T.2.2 (65 + d) + 1).toNat 0 0 _ (by omega) (by omega) (by omega) (by omega) (by omega) rfl
theorem m8_handledAt {σ : zS} {m y : zOb} {T : T3} {d : Int} (hT : OKT T) (hY : YR T m y) (hd : 0 ≤ d ∧ d < T.2.2 0) : zCp M_X8_handledAt 2 [zR 31, zI d] (zo σ 31 y) (zI (q_ha T.1 (ra T.2.2) d)) := by
  have hrs := row_sum hT (fun t => (ra T.2.2).2 29 t) hd.1 hd.2
  obtain ⟨hS, hD, k3, k4, hE, -⟩ := hY
  have e1 := hE.1
  rw [k3] at e1
  have h6 := hT.1.1
  have h8 := hT.1.2.1
  have h65 := hT.2.1.wfr.1 d hd.1 hd.2
  have e65 : y.2 1 (65 + d) = T.2.2 (65 + d) := by rw [k3]
  have hq : q_ha T.1 (ra T.2.2) d = zsum (fun k => (ra T.2.2).2 29 (T.2.2 (71 + 8 * d + k))) (T.2.2 (65 + d)) := by
    rw [← hrs]
    unfold q_ha
    rw [← e1]
    rfl
  rw [hq]
  refine zC_of (M := M_X8_handledAt) (ls := [some (zR 31), some (zI d), none, none]) (n := 2) (by decide) (fun ad => Nat.le_of_ble_eq_true rfl) rfl (fun x h => ?_)
  have L : ∀ (n : Nat) (i acc : Int), 0 ≤ i → i ≤ T.2.2 (65 + d) → T.2.2 (65 + d) - i < n → 0 ≤ acc → acc ≤ 60 * i → acc = zsum (fun k => (ra T.2.2).2 29 (T.2.2 (71 + 8 * d + k))) i → zW x (fun rr τ' => rr = some (zI (zsum (fun k => (ra T.2.2).2 29 (T.2.2 (71 + 8 * d + k))) (T.2.2 (65 + d)))) ∧ τ' = zo σ 31 y) 4 [some (zR 31), some (zI d), some (zI acc), some (zI i)] [] (zo σ 31 y) := by
    intro n
    induction n with
    | zero => intro i acc h1 h2 h3; omega
    | succ n ih =>
      intro i acc h1 h2 h3 a0 a1 ha
      have hS1 : zsum (fun k => (ra T.2.2).2 29 (T.2.2 (71 + 8 * d + k))) (i + 1) = acc + (ra T.2.2).2 29 (T.2.2 (71 + 8 * d + i)) := by rw [zsum_S _ h1, ← ha]
      have eat : y.2 1 (71 + 8 * d + i) = T.2.2 (71 + 8 * d + i) := by rw [k3]
      refine z_iload_n (pc := 4) h dX8_handledAt_4 rfl ?_
      refine z_aloadR_n (pc := 5) h dX8_handledAt_5 rfl ?_
      refine z_iload_n (pc := 6) h dX8_handledAt_6 rfl ?_
      refine z_pV (pc := 7) (c := 8) h (m8_rowMany (by omega)) (by decide) (by first | assumption | rfl) rfl mv_X8_rowMany ml_X8_191 rfl dX8_handledAt_7 rfl (Nat.le_of_ble_eq_true rfl) ?_
      refine z_icmp_ge (pc := 10) (tgt := 33) h (by omega) (by omega) dX8_handledAt_10 (by decide) (fun c10 => ?_) (fun c10 => ?_)
      · refine z_iload_n (pc := 33) h dX8_handledAt_33 rfl ?_
        refine z_iret (pc := 34) h rfl dX8_handledAt_34 ?_
        refine ⟨congrArg (fun z => some (zI z)) ?_, rfl⟩
        rw [ha, show i = T.2.2 (65 + d) by omega]
      · have hr := hT.2.1.wfr.2.1 d i hd.1 hd.2 h1 (by omega)
        have hee := hE.2.2.2.2.2.2.2.2.1 _ hr.1 (by rw [← e1]; exact hr.2.1)
        have hlb := (hD.2.2.2.2.2.1 _ hr.1 (by rw [k3]; exact hr.2.1)).1
        have hcap : a_cap (y.2 1) (T.2.2 (71 + 8 * d + i)) ≤ 60 := by
          have hk := hS.1.2.2.2.2.2.2.1 _ hr.1 (by rw [k3]; exact hr.2.1)
          unfold a_cap
          split
          · rename_i y; have := (hk.2.2.1 y).2.2.1; omega
          · rename_i y; exact (a_load_b hS.1 hr.1 (by rw [k3]; exact hr.2.1) (by have := hk.1; omega)).2
        rw [← hee.2.2.1] at hS1
        refine z_iload_n (pc := 13) h dX8_handledAt_13 rfl ?_
        refine z_aloadR_n (pc := 14) h dX8_handledAt_14 rfl ?_
        refine z_getA4 (pc := 15) (c := 8) (j := 29) h (by first | assumption | rfl) rfl rfl fl_X8_54 dX8_handledAt_15 ?_
        refine z_aloadR_n (pc := 18) h dX8_handledAt_18 rfl ?_
        refine z_iload_n (pc := 19) h dX8_handledAt_19 rfl ?_
        refine z_iload_n (pc := 20) h dX8_handledAt_20 rfl ?_
        refine z_pV (pc := 21) (c := 8) h (m8_rowAt (by omega) (by omega)) (by decide) (by first | assumption | rfl) rfl mv_X8_rowAt ml_X8_205 rfl dX8_handledAt_21 rfl (Nat.le_of_ble_eq_true rfl) ?_
        rw [eat]
        refine z_ialdq (pc := 24) (c := 8) (j := 29) (L := 8) h (zo_s _ _ _) (by first | assumption | rfl) (by decide) rfl (by decide) (by omega) (by omega) dX8_handledAt_24 (fun g24 => ?_)
        refine z_iadd (pc := 25) h dX8_handledAt_25 ?_
        refine z_ist_2 (pc := 26) h dX8_handledAt_26 (by decide) rfl ?_
        refine z_inc_3 (pc := 27) h dX8_handledAt_27 (by decide) rfl ?_
        refine z_goto (pc := 30) (tgt := 4) h dX8_handledAt_30 (by decide) ?_
        exact ih (i + 1) _ (by omega) (by omega) (by omega) (by omega) (by omega) (by rw [hS1])
  refine z_iconst (pc := 0) h dX8_handledAt_0 ?_
  refine z_ist_2 (pc := 1) h dX8_handledAt_1 (by decide) rfl ?_
  refine z_iconst (pc := 2) h dX8_handledAt_2 ?_
  refine z_ist_3 (pc := 3) h dX8_handledAt_3 (by decide) rfl ?_
  exact L (T.2.2 (65 + d) + 1).toNat 0 0 (by omega) (by omega) (by omega) (by omega) (by omega) rfl
theorem m8_door {σ : zS} {m : zOb} {T : T3} {d w : Int} (hT : OKT T) (e1 : m.2 1 = T.2.2) (hd : zin d) (hw : zin w) : zC M_X8_door 6 [zR 31, zI d, zI w] (zo σ 31 m) (fun r τ' => r = some (zI (if (0 ≤ d ∧ d < T.2.2 0) ∧ 0 ≤ w ∧ w ≤ 4 then drQ T d w else 0)) ∧ ∃ m', τ' = zo σ 31 m' ∧ MQ1 (if (0 ≤ d ∧ d < T.2.2 0) ∧ 0 ≤ w ∧ w ≤ 4 then 0 else 1) m m') := by
  have h6 := hT.1.1
  have hrb := rc_b hT
  have e10 : m.2 1 0 = T.2.2 0 := by rw [e1]
  have hY := run_YR (m := oss m 0 0) hT e1
  have hwa : WFa ((oss m 0 0).2 1) := by show WFa (m.2 1); rw [e1]; exact hT.1
  have hwr : WFr ((oss m 0 0).2 1) := by show WFr (m.2 1); rw [e1]; exact hT.2.1.wfr
  refine zC_of (M := M_X8_door) (ls := [some (zR 31), some (zI d), some (zI w), none]) (n := 1) (by decide) (fun ad => Nat.le_of_ble_eq_true rfl) rfl (fun x h => ?_)
  have B : (0 ≤ d ∧ d < T.2.2 0) ∧ 0 ≤ w ∧ w ≤ 4 → zW x (fun r τ' => r = some (zI (if (0 ≤ d ∧ d < T.2.2 0) ∧ 0 ≤ w ∧ w ≤ 4 then drQ T d w else 0)) ∧ ∃ m', τ' = zo σ 31 m' ∧ MQ1 (if (0 ≤ d ∧ d < T.2.2 0) ∧ 0 ≤ w ∧ w ≤ 4 then 0 else 1) m m') 26 [some (zR 31), some (zI d), some (zI w), none] [] (zo σ 31 (oss m 0 0)) := by
    intro hv
    simp only [if_pos hv]
    have hd' := hv.1
    have hw' := hv.2
    refine z_aloadR_n (pc := 26) h dX8_door_26 rfl ?_
    refine z_getIq (pc := 27) (c := 8) (j := 0) h (zo_s _ _ _) (by first | assumption | rfl) rfl rfl fl_X8_84 dX8_door_27 (fun g27 => ?_)
    refine z_if_le (pc := 30) (tgt := 35) h (by omega) dX8_door_30 (by decide) (fun c30 => ?_) (fun c30 => ?_)
    · refine z_aloadR_n (pc := 35) h dX8_door_35 rfl ?_
      refine z_rV (pc := 36) (c := 8) h (m8_runs hwa hwr) (by decide) (by first | assumption | rfl) rfl mv_X8_runs ml_X8_272 rfl dX8_door_36 rfl (Nat.le_of_ble_eq_true rfl) ?_
      rw [hY.2]
      have hYY := hY.1
      clear hY hwa hwr hv
      generalize s_run (oss m 0 0) = y at hYY ⊢
      have hM := hYY.m1 e1
      have k3 := hYY.2.2.1
      refine z_ist_3 (pc := 39) h dX8_door_39 (by decide) rfl ?_
      refine z_iload_n (pc := 40) h dX8_door_40 rfl ?_
      have hsw : (w < 0 ∨ 3 < w) ∨ w = 0 ∨ w = 1 ∨ w = 2 ∨ w = 3 := by omega
      rcases hsw with hsw | rfl | rfl | rfl | rfl
      · refine z_tswOut (pc := 41) (tgt := 97) h dX8_door_41 (by omega) hsw (by decide) ?_
        refine z_iload_n (pc := 97) h dX8_door_97 rfl ?_
        refine z_if_ge (pc := 98) (tgt := 105) h (by omega) dX8_door_98 (by decide) (fun c98 => ?_) (fun c98 => ?_)
        · skip
          refine z_aloadR_n (pc := 105) h dX8_door_105 rfl ?_
          refine z_iload_n (pc := 106) h dX8_door_106 rfl ?_
          refine z_pV (pc := 107) (c := 8) h (m8_handledAt hT hYY hd') (by decide) (by first | assumption | rfl) rfl mv_X8_handledAt ml_X8_355 rfl dX8_door_107 rfl (Nat.le_of_ble_eq_true rfl) ?_
          refine z_iret (pc := 110) h rfl dX8_door_110 ?_
          first
          | (exfalso; omega)
          | exact ⟨congrArg (fun z => some (zI z)) (show q_ha T.1 (ra T.2.2) d = drQ T d w by unfold drQ; rw [if_neg (by omega), if_neg (by omega), if_neg (by omega), if_neg (by omega)]), _, rfl, hM⟩
        · refine z_iconst (pc := 101) h dX8_door_101 ?_
          refine z_goto (pc := 102) (tgt := 110) h dX8_door_102 (by decide) ?_
          refine z_iret (pc := 110) h rfl dX8_door_110 ?_
          first
          | (exfalso; omega)
          | exact ⟨congrArg (fun z => some (zI z)) (show q_ha T.1 (ra T.2.2) d = drQ T d w by unfold drQ; rw [if_neg (by omega), if_neg (by omega), if_neg (by omega), if_neg (by omega)]), _, rfl, hM⟩
      · refine z_tswIn (pc := 41) (tgt := 72) h dX8_door_41 (by omega) (by decide) (by decide) rfl (by decide) ?_
        refine z_aloadR_n (pc := 72) h dX8_door_72 rfl ?_
        refine z_getA4 (pc := 73) (c := 8) (j := 1) h (by first | assumption | rfl) rfl rfl fl_X8_7 dX8_door_73 ?_
        refine z_iconst (pc := 76) h dX8_door_76 ?_
        refine z_iconst (pc := 77) h dX8_door_77 ?_
        refine z_iload_n (pc := 78) h dX8_door_78 rfl ?_
        refine z_imul (pc := 79) h dX8_door_79 ?_
        refine z_iadd (pc := 80) h dX8_door_80 ?_
        refine z_iload_n (pc := 81) h dX8_door_81 rfl ?_
        refine z_iadd (pc := 82) h dX8_door_82 ?_
        refine z_ialdq (pc := 83) (c := 8) (j := 1) (L := 610) h (zo_s _ _ _) (by first | assumption | rfl) (by decide) rfl (by decide) (by omega) (by omega) dX8_door_83 (fun g83 => ?_)
        refine z_iret (pc := 84) h rfl dX8_door_84 ?_
        first
        | exact ⟨congrArg (fun z => some (zI z)) (show y.2 1 (5 + 2 * d + 0) = T.2.2 (5 + 2 * d) by rw [k3, Int.add_zero]), _, rfl, hM⟩
        | exact ⟨congrArg (fun z => some (zI z)) (show y.2 1 (5 + 2 * d + 1) = T.2.2 (5 + 2 * d + 1) by rw [k3]), _, rfl, hM⟩
      · refine z_tswIn (pc := 41) (tgt := 72) h dX8_door_41 (by omega) (by decide) (by decide) rfl (by decide) ?_
        refine z_aloadR_n (pc := 72) h dX8_door_72 rfl ?_
        refine z_getA4 (pc := 73) (c := 8) (j := 1) h (by first | assumption | rfl) rfl rfl fl_X8_7 dX8_door_73 ?_
        refine z_iconst (pc := 76) h dX8_door_76 ?_
        refine z_iconst (pc := 77) h dX8_door_77 ?_
        refine z_iload_n (pc := 78) h dX8_door_78 rfl ?_
        refine z_imul (pc := 79) h dX8_door_79 ?_
        refine z_iadd (pc := 80) h dX8_door_80 ?_
        refine z_iload_n (pc := 81) h dX8_door_81 rfl ?_
        refine z_iadd (pc := 82) h dX8_door_82 ?_
        refine z_ialdq (pc := 83) (c := 8) (j := 1) (L := 610) h (zo_s _ _ _) (by first | assumption | rfl) (by decide) rfl (by decide) (by omega) (by omega) dX8_door_83 (fun g83 => ?_)
        refine z_iret (pc := 84) h rfl dX8_door_84 ?_
        first
        | exact ⟨congrArg (fun z => some (zI z)) (show y.2 1 (5 + 2 * d + 0) = T.2.2 (5 + 2 * d) by rw [k3, Int.add_zero]), _, rfl, hM⟩
        | exact ⟨congrArg (fun z => some (zI z)) (show y.2 1 (5 + 2 * d + 1) = T.2.2 (5 + 2 * d + 1) by rw [k3]), _, rfl, hM⟩
      · refine z_tswIn (pc := 41) (tgt := 85) h dX8_door_41 (by omega) (by decide) (by decide) rfl (by decide) ?_
        refine z_aloadR_n (pc := 85) h dX8_door_85 rfl ?_
        refine z_iload_n (pc := 86) h dX8_door_86 rfl ?_
        refine z_pV (pc := 87) (c := 8) h (m8_rowMany (by omega)) (by decide) (by first | assumption | rfl) rfl mv_X8_rowMany ml_X8_191 rfl dX8_door_87 rfl (Nat.le_of_ble_eq_true rfl) ?_
        refine z_iret (pc := 90) h rfl dX8_door_90 ?_
        exact ⟨congrArg (fun z => some (zI z)) (show y.2 1 (65 + d) = T.2.2 (65 + d) by rw [k3]), _, rfl, hM⟩
      · refine z_tswIn (pc := 41) (tgt := 91) h dX8_door_41 (by omega) (by decide) (by decide) rfl (by decide) ?_
        refine z_aloadR_n (pc := 91) h dX8_door_91 rfl ?_
        refine z_iload_n (pc := 92) h dX8_door_92 rfl ?_
        refine z_pV (pc := 93) (c := 8) h (m8_standsIn hT hYY hd') (by decide) (by first | assumption | rfl) rfl mv_X8_standsIn ml_X8_352 rfl dX8_door_93 rfl (Nat.le_of_ble_eq_true rfl) ?_
        refine z_iret (pc := 96) h rfl dX8_door_96 ?_
        exact ⟨rfl, _, rfl, hM⟩
    · exact absurd c30 (by show ¬ 0 < (0 : Int); omega)
  have N : ¬ ((0 ≤ d ∧ d < T.2.2 0) ∧ 0 ≤ w ∧ w ≤ 4) → zW x (fun r τ' => r = some (zI (if (0 ≤ d ∧ d < T.2.2 0) ∧ 0 ≤ w ∧ w ≤ 4 then drQ T d w else 0)) ∧ ∃ m', τ' = zo σ 31 m' ∧ MQ1 (if (0 ≤ d ∧ d < T.2.2 0) ∧ 0 ≤ w ∧ w ≤ 4 then 0 else 1) m m') 26 [some (zR 31), some (zI d), some (zI w), none] [] (zo σ 31 (oss m 0 1)) := by
    intro hv
    simp only [if_neg hv]
    refine z_aloadR_n (pc := 26) h dX8_door_26 rfl ?_
    refine z_getIq (pc := 27) (c := 8) (j := 0) h (zo_s _ _ _) (by first | assumption | rfl) rfl rfl fl_X8_84 dX8_door_27 (fun g27 => ?_)
    refine z_if_le (pc := 30) (tgt := 35) h (by omega) dX8_door_30 (by decide) (fun c30 => ?_) (fun c30 => ?_)
    · exact absurd c30 (by show ¬ (1 : Int) ≤ 0; omega)
    · refine z_iconst (pc := 33) h dX8_door_33 ?_
      refine z_iret (pc := 34) h rfl dX8_door_34 ?_
      exact ⟨rfl, _, rfl, MQ1_0 m 1⟩
  refine z_aloadR_n (pc := 0) h dX8_door_0 rfl ?_
  refine z_aloadR_n (pc := 1) h dX8_door_1 rfl ?_
  refine z_iload_n (pc := 2) h dX8_door_2 rfl ?_
  refine z_pV (pc := 3) (c := 8) h (m8_isDoor (by omega) (by omega)) (by decide) (by first | assumption | rfl) rfl mv_X8_isDoor ml_X8_293 rfl dX8_door_3 rfl (Nat.le_of_ble_eq_true rfl) ?_
  refine z_ifeqB (pc := 6) (tgt := 22) h dX8_door_6 (by decide) (fun c6 => ?_) (fun c6 => ?_)
  · refine z_iconst (pc := 22) h dX8_door_22 ?_
    refine z_putIo (pc := 23) (c := 8) (j := 0) h (by first | assumption | rfl) rfl rfl fl_X8_84 rfl (tyX8_ok 0 (by decide)) dX8_door_23 (by omega) ?_
    first
    | (have y1 := of_decide_eq_false c6; exact N (fun q => y1 (by omega)))
    | (have y1 := of_decide_eq_false c15; exact N (fun q => y1 (by omega)))
    | (have y1 := of_decide_eq_true c6; have y2 := of_decide_eq_true c15; exact B (by omega))
  · refine z_iload_n (pc := 9) h dX8_door_9 rfl ?_
    refine z_iconst (pc := 10) h dX8_door_10 ?_
    refine z_iconst (pc := 11) h dX8_door_11 ?_
    refine z_pS (pc := 12) h (m8_in (by omega) (by omega) (by omega)) (by decide) ms_X8_in ml_X8_88 rfl dX8_door_12 rfl (Nat.le_of_ble_eq_true rfl) ?_
    refine z_ifeqB (pc := 15) (tgt := 22) h dX8_door_15 (by decide) (fun c15 => ?_) (fun c15 => ?_)
    · refine z_iconst (pc := 22) h dX8_door_22 ?_
      refine z_putIo (pc := 23) (c := 8) (j := 0) h (by first | assumption | rfl) rfl rfl fl_X8_84 rfl (tyX8_ok 0 (by decide)) dX8_door_23 (by omega) ?_
      first
      | (have y1 := of_decide_eq_false c6; exact N (fun q => y1 (by omega)))
      | (have y1 := of_decide_eq_false c15; exact N (fun q => y1 (by omega)))
      | (have y1 := of_decide_eq_true c6; have y2 := of_decide_eq_true c15; exact B (by omega))
    · refine z_iconst (pc := 18) h dX8_door_18 ?_
      refine z_goto (pc := 19) (tgt := 23) h dX8_door_19 (by decide) ?_
      refine z_putIo (pc := 23) (c := 8) (j := 0) h (by first | assumption | rfl) rfl rfl fl_X8_84 rfl (tyX8_ok 0 (by decide)) dX8_door_23 (by omega) ?_
      first
      | (have y1 := of_decide_eq_false c6; exact N (fun q => y1 (by omega)))
      | (have y1 := of_decide_eq_false c15; exact N (fun q => y1 (by omega)))
      | (have y1 := of_decide_eq_true c6; have y2 := of_decide_eq_true c15; exact B (by omega))
theorem m8_itsNumber {σ : zS} {m : zOb} {t w : Int} (ht : 0 ≤ t ∧ t ≤ 7) (hw : 2 ≤ w ∧ w ≤ 5) : zCp M_X8_itsNumber 3 [zR 31, zI t, zI w] (zo σ 31 m) (zI (if m.2 1 (17 + 6 * t + 0) = 1 then m.2 1 (17 + 6 * t + w) else if w = 4 then a_load (m.2 1) t else -1)) := by
  refine zC_of (M := M_X8_itsNumber) (ls := [some (zR 31), some (zI t), some (zI w)]) (n := 0) (by decide) (fun ad => Nat.le_of_ble_eq_true rfl) rfl (fun x h => ?_)
  refine z_aloadR_n (pc := 0) h dX8_itsNumber_0 rfl ?_
  refine z_iload_n (pc := 1) h dX8_itsNumber_1 rfl ?_
  refine z_pV (pc := 2) (c := 8) h (m8_isOut (by omega)) (by decide) (by first | assumption | rfl) rfl mv_X8_isOut ml_X8_195 rfl dX8_itsNumber_2 rfl (Nat.le_of_ble_eq_true rfl) ?_
  refine z_ifneB (pc := 5) (tgt := 23) h dX8_itsNumber_5 (by decide) (fun c5 => ?_) (fun c5 => ?_)
  · refine z_aloadR_n (pc := 23) h dX8_itsNumber_23 rfl ?_
    refine z_iload_n (pc := 24) h dX8_itsNumber_24 rfl ?_
    refine z_iload_n (pc := 25) h dX8_itsNumber_25 rfl ?_
    refine z_pV (pc := 26) (c := 8) h (m8_of (by omega) (by omega)) (by decide) (by first | assumption | rfl) rfl mv_X8_of ml_X8_92 rfl dX8_itsNumber_26 rfl (Nat.le_of_ble_eq_true rfl) ?_
    refine z_iret (pc := 29) h rfl dX8_itsNumber_29 ?_
    have y := of_decide_eq_true c5
    rw [if_pos (by omega)]
    exact ⟨rfl, rfl⟩
  · refine z_iload_n (pc := 8) h dX8_itsNumber_8 rfl ?_
    refine z_iconst (pc := 9) h dX8_itsNumber_9 ?_
    refine z_icmp_ne (pc := 10) (tgt := 21) h (by omega) (by omega) dX8_itsNumber_10 (by decide) (fun c10 => ?_) (fun c10 => ?_)
    · refine z_iconst (pc := 21) h dX8_itsNumber_21 ?_
      refine z_iret (pc := 22) h rfl dX8_itsNumber_22 ?_
      have y := of_decide_eq_false c5
      first
      | (rw [if_neg (by omega), if_pos (by omega)]; exact ⟨rfl, rfl⟩)
      | (rw [if_neg (by omega), if_neg (by omega)]; exact ⟨rfl, rfl⟩)
    · refine z_aloadR_n (pc := 13) h dX8_itsNumber_13 rfl ?_
      refine z_iload_n (pc := 14) h dX8_itsNumber_14 rfl ?_
      refine z_pV (pc := 15) (c := 8) h (m8_loadOf (by omega)) (by decide) (by first | assumption | rfl) rfl mv_X8_loadOf ml_X8_227 rfl dX8_itsNumber_15 rfl (Nat.le_of_ble_eq_true rfl) ?_
      refine z_goto (pc := 18) (tgt := 22) h dX8_itsNumber_18 (by decide) ?_
      refine z_iret (pc := 22) h rfl dX8_itsNumber_22 ?_
      have y := of_decide_eq_false c5
      first
      | (rw [if_neg (by omega), if_pos (by omega)]; exact ⟨rfl, rfl⟩)
      | (rw [if_neg (by omega), if_neg (by omega)]; exact ⟨rfl, rfl⟩)
theorem YR.dp {T : T3} {m y : zOb} {t : Int} (hT : OKT T) (h : YR T m y) (ht : 0 ≤ t ∧ t < T.2.2 1) : y.2 30 t = T.1 t ∧ y.2 31 t = T.2.1 t := by
  have k3 := h.2.2.1
  have hp : PLX ((fun _ => T.2.2 4, fun j => if j = 0 then T.1 else if j = 1 then T.2.1 else fun t => T.2.2 (17 + 6 * t + 1)) : zOb) T := ⟨rfl, rfl, fun t _ _ => rfl, rfl⟩
  have := env_d (pl := ((fun _ => T.2.2 4, fun j => if j = 0 then T.1 else if j = 1 then T.2.1 else fun t => T.2.2 (17 + 6 * t + 1)) : zOb)) h.1 (by rw [k3]; exact hp.ple hT) ht.1 (by rw [k3]; exact ht.2)
  exact ⟨this.1.symm, this.2.symm⟩
theorem YR.tr {T : T3} {m y : zOb} {t : Int} (h : YR T m y) (ht : 0 ≤ t ∧ t < T.2.2 1) : y.2 27 t = (ra T.2.2).2 27 t ∧ y.2 28 t = (ra T.2.2).2 28 t ∧ y.2 29 t = (ra T.2.2).2 29 t ∧ (ra T.2.2).2 1 = T.2.2 := by
  have k3 := h.2.2.1
  have hE := h.2.2.2.2.1
  have e1 := hE.1
  rw [k3] at e1
  have := hE.2.2.2.2.2.2.2.2.1 t ht.1 (by rw [← e1]; exact ht.2)
  exact ⟨this.1, this.2.1, this.2.2.1, e1.symm⟩
theorem tkQ_2 {T : T3} {t w : Int} (h : 2 ≤ w ∧ w ≤ 5) : tkQ T t w = if T.2.2 (17 + 6 * t + 0) = 1 then T.2.2 (17 + 6 * t + w) else if w = 4 then a_load T.2.2 t else -1 := by
  unfold tkQ
  rw [if_neg (by omega), if_neg (by omega), if_pos h]
theorem m8_truck {σ : zS} {m : zOb} {T : T3} {t w : Int} (hT : OKT T) (e1 : m.2 1 = T.2.2) (hd : zin t) (hw : zin w) : zC M_X8_truck 6 [zR 31, zI t, zI w] (zo σ 31 m) (fun r τ' => r = some (zI (if (0 ≤ t ∧ t < T.2.2 1) ∧ (0 ≤ w ∧ w ≤ 12 ∨ 20 ≤ w ∧ w ≤ 23) then tkQ T t w else 0)) ∧ ∃ m', τ' = zo σ 31 m' ∧ MQ1 (if (0 ≤ t ∧ t < T.2.2 1) ∧ (0 ≤ w ∧ w ≤ 12 ∨ 20 ≤ w ∧ w ≤ 23) then 0 else 1) m m') := by
  have h8 := hT.1.2.1
  have hrb := rc_b hT
  have e10 : m.2 1 1 = T.2.2 1 := by rw [e1]
  have hY := run_YR (m := oss m 0 0) hT e1
  have hwa : WFa ((oss m 0 0).2 1) := by show WFa (m.2 1); rw [e1]; exact hT.1
  have hwr : WFr ((oss m 0 0).2 1) := by show WFr (m.2 1); rw [e1]; exact hT.2.1.wfr
  refine zC_of (M := M_X8_truck) (ls := [some (zR 31), some (zI t), some (zI w), none]) (n := 1) (by decide) (fun ad => Nat.le_of_ble_eq_true rfl) rfl (fun x h => ?_)
  have B : (0 ≤ t ∧ t < T.2.2 1) ∧ (0 ≤ w ∧ w ≤ 12 ∨ 20 ≤ w ∧ w ≤ 23) → zW x (fun r τ' => r = some (zI (if (0 ≤ t ∧ t < T.2.2 1) ∧ (0 ≤ w ∧ w ≤ 12 ∨ 20 ≤ w ∧ w ≤ 23) then tkQ T t w else 0)) ∧ ∃ m', τ' = zo σ 31 m' ∧ MQ1 (if (0 ≤ t ∧ t < T.2.2 1) ∧ (0 ≤ w ∧ w ≤ 12 ∨ 20 ≤ w ∧ w ≤ 23) then 0 else 1) m m') 38 [some (zR 31), some (zI t), some (zI w), none] [] (zo σ 31 (oss m 0 0)) := by
    intro hv
    simp only [if_pos hv]
    have hd' := hv.1
    have hw' := hv.2
    have htt := hT.1.2.2.2.2.2.2.1 t hd'.1 hd'.2
    refine z_aloadR_n (pc := 38) h dX8_truck_38 rfl ?_
    refine z_getIq (pc := 39) (c := 8) (j := 0) h (zo_s _ _ _) (by first | assumption | rfl) rfl rfl fl_X8_84 dX8_truck_39 (fun g39 => ?_)
    refine z_if_le (pc := 42) (tgt := 47) h (by omega) dX8_truck_42 (by decide) (fun c42 => ?_) (fun c42 => ?_)
    · refine z_aloadR_n (pc := 47) h dX8_truck_47 rfl ?_
      refine z_rV (pc := 48) (c := 8) h (m8_runs hwa hwr) (by decide) (by first | assumption | rfl) rfl mv_X8_runs ml_X8_272 rfl dX8_truck_48 rfl (Nat.le_of_ble_eq_true rfl) ?_
      rw [hY.2]
      have hYY := hY.1
      clear hY hwa hwr hv
      generalize s_run (oss m 0 0) = y at hYY ⊢
      have hM := hYY.m1 e1
      have k3 := hYY.2.2.1
      have ydp := hYY.dp hT hd'
      have ytr := hYY.tr hd'
      have hlv : y.2 1 (17 + 6 * t + 0) = 1 → -1 ≤ y.2 28 t ∧ y.2 28 t ≤ 200 := fun _ => by have := (hYY.2.1.2.2.2.2.2.1 t hd'.1 (by rw [k3]; exact hd'.2)).2.2.1; have := hYY.2.2.2.1; omega
      have hdu : y.2 1 (17 + 6 * t + 0) = 1 → 0 ≤ y.2 1 (17 + 6 * t + 3) ∧ y.2 1 (17 + 6 * t + 3) ≤ 199 := fun q => by rw [k3] at q ⊢; exact (htt.2.2.1 q).2.1
      refine z_ist_3 (pc := 51) h dX8_truck_51 (by decide) rfl ?_
      refine z_iload_n (pc := 52) h dX8_truck_52 rfl ?_
      have hsw : (w < 0 ∨ 12 < w) ∨ w = 0 ∨ w = 1 ∨ w = 2 ∨ w = 3 ∨ w = 4 ∨ w = 5 ∨ w = 6 ∨ w = 7 ∨ w = 8 ∨ w = 9 ∨ w = 10 ∨ w = 11 ∨ w = 12 := by omega
      rcases hsw with hsw | rfl | rfl | rfl | rfl | rfl | rfl | rfl | rfl | rfl | rfl | rfl | rfl | rfl
      · refine z_tswOut (pc := 53) (tgt := 189) h dX8_truck_53 (by omega) hsw (by decide) ?_
        refine z_aloadR_n (pc := 189) h dX8_truck_189 rfl ?_
        refine z_iload_n (pc := 190) h dX8_truck_190 rfl ?_
        refine z_pV (pc := 191) (c := 8) h (m8_isOut (by omega)) (by decide) (by first | assumption | rfl) rfl mv_X8_isOut ml_X8_195 rfl dX8_truck_191 rfl (Nat.le_of_ble_eq_true rfl) ?_
        refine z_ifneB (pc := 194) (tgt := 201) h dX8_truck_194 (by decide) (fun c194 => ?_) (fun c194 => ?_)
        · refine z_iconst (pc := 201) h dX8_truck_201 ?_
          refine z_goto (pc := 202) (tgt := 214) h dX8_truck_202 (by decide) ?_
          refine z_iret (pc := 214) h rfl dX8_truck_214 ?_
          rw [tkQ_ld (by omega)]
          unfold ldQ
          rw [← k3]
          first
          | (have q := of_decide_eq_true c194; rw [if_pos q]; exact ⟨rfl, _, rfl, hM⟩)
          | (exfalso; omega)
          | (have q := of_decide_eq_false c194; rw [if_neg q]; exact ⟨congrArg (fun z => some (zI z)) (congrArg (y.2 1) (by omega)), _, rfl, hM⟩)
        · refine z_iload_n (pc := 197) h dX8_truck_197 rfl ?_
          refine z_if_ge (pc := 198) (tgt := 205) h (by omega) dX8_truck_198 (by decide) (fun c198 => ?_) (fun c198 => ?_)
          · refine z_aloadR_n (pc := 205) h dX8_truck_205 rfl ?_
            refine z_iload_n (pc := 206) h dX8_truck_206 rfl ?_
            refine z_iload_n (pc := 207) h dX8_truck_207 rfl ?_
            refine z_bipush (pc := 208) h dX8_truck_208 (by decide) ?_
            refine z_isub (pc := 210) h dX8_truck_210 ?_
            refine z_pV (pc := 211) (c := 8) h (m8_of (by omega) (by omega)) (by decide) (by first | assumption | rfl) rfl mv_X8_of ml_X8_92 rfl dX8_truck_211 rfl (Nat.le_of_ble_eq_true rfl) ?_
            refine z_iret (pc := 214) h rfl dX8_truck_214 ?_
            rw [tkQ_ld (by omega)]
            unfold ldQ
            rw [← k3]
            first
            | (have q := of_decide_eq_true c194; rw [if_pos q]; exact ⟨rfl, _, rfl, hM⟩)
            | (exfalso; omega)
            | (have q := of_decide_eq_false c194; rw [if_neg q]; exact ⟨congrArg (fun z => some (zI z)) (congrArg (y.2 1) (by omega)), _, rfl, hM⟩)
          · refine z_iconst (pc := 201) h dX8_truck_201 ?_
            refine z_goto (pc := 202) (tgt := 214) h dX8_truck_202 (by decide) ?_
            refine z_iret (pc := 214) h rfl dX8_truck_214 ?_
            rw [tkQ_ld (by omega)]
            unfold ldQ
            rw [← k3]
            first
            | (have q := of_decide_eq_true c194; rw [if_pos q]; exact ⟨rfl, _, rfl, hM⟩)
            | (exfalso; omega)
            | (have q := of_decide_eq_false c194; rw [if_neg q]; exact ⟨congrArg (fun z => some (zI z)) (congrArg (y.2 1) (by omega)), _, rfl, hM⟩)
      · refine z_tswIn (pc := 53) (tgt := 120) h dX8_truck_53 (by omega) (by decide) (by decide) rfl (by decide) ?_
        refine z_aloadR_n (pc := 120) h dX8_truck_120 rfl ?_
        refine z_iload_n (pc := 121) h dX8_truck_121 rfl ?_
        refine z_iload_n (pc := 122) h dX8_truck_122 rfl ?_
        refine z_pV (pc := 123) (c := 8) h (m8_of (by omega) (by omega)) (by decide) (by first | assumption | rfl) rfl mv_X8_of ml_X8_92 rfl dX8_truck_123 rfl (Nat.le_of_ble_eq_true rfl) ?_
        refine z_iret (pc := 126) h rfl dX8_truck_126 ?_
        first
        | exact ⟨congrArg (fun z => some (zI z)) (show y.2 1 (17 + 6 * t + 0) = T.2.2 (17 + 6 * t + 0) by rw [k3]), _, rfl, hM⟩
        | exact ⟨congrArg (fun z => some (zI z)) (show y.2 1 (17 + 6 * t + 1) = T.2.2 (17 + 6 * t + 1) by rw [k3]), _, rfl, hM⟩
      · refine z_tswIn (pc := 53) (tgt := 120) h dX8_truck_53 (by omega) (by decide) (by decide) rfl (by decide) ?_
        refine z_aloadR_n (pc := 120) h dX8_truck_120 rfl ?_
        refine z_iload_n (pc := 121) h dX8_truck_121 rfl ?_
        refine z_iload_n (pc := 122) h dX8_truck_122 rfl ?_
        refine z_pV (pc := 123) (c := 8) h (m8_of (by omega) (by omega)) (by decide) (by first | assumption | rfl) rfl mv_X8_of ml_X8_92 rfl dX8_truck_123 rfl (Nat.le_of_ble_eq_true rfl) ?_
        refine z_iret (pc := 126) h rfl dX8_truck_126 ?_
        first
        | exact ⟨congrArg (fun z => some (zI z)) (show y.2 1 (17 + 6 * t + 0) = T.2.2 (17 + 6 * t + 0) by rw [k3]), _, rfl, hM⟩
        | exact ⟨congrArg (fun z => some (zI z)) (show y.2 1 (17 + 6 * t + 1) = T.2.2 (17 + 6 * t + 1) by rw [k3]), _, rfl, hM⟩
      · refine z_tswIn (pc := 53) (tgt := 127) h dX8_truck_53 (by omega) (by decide) (by decide) rfl (by decide) ?_
        refine z_aloadR_n (pc := 127) h dX8_truck_127 rfl ?_
        refine z_iload_n (pc := 128) h dX8_truck_128 rfl ?_
        refine z_iload_n (pc := 129) h dX8_truck_129 rfl ?_
        refine z_pV (pc := 130) (c := 8) h (m8_itsNumber (by omega) (by omega)) (by decide) (by first | assumption | rfl) rfl mv_X8_itsNumber ml_X8_358 rfl dX8_truck_130 rfl (Nat.le_of_ble_eq_true rfl) ?_
        refine z_iret (pc := 133) h rfl dX8_truck_133 ?_
        rw [tkQ_2 (by omega), k3]
        exact ⟨rfl, _, rfl, hM⟩
      · refine z_tswIn (pc := 53) (tgt := 127) h dX8_truck_53 (by omega) (by decide) (by decide) rfl (by decide) ?_
        refine z_aloadR_n (pc := 127) h dX8_truck_127 rfl ?_
        refine z_iload_n (pc := 128) h dX8_truck_128 rfl ?_
        refine z_iload_n (pc := 129) h dX8_truck_129 rfl ?_
        refine z_pV (pc := 130) (c := 8) h (m8_itsNumber (by omega) (by omega)) (by decide) (by first | assumption | rfl) rfl mv_X8_itsNumber ml_X8_358 rfl dX8_truck_130 rfl (Nat.le_of_ble_eq_true rfl) ?_
        refine z_iret (pc := 133) h rfl dX8_truck_133 ?_
        rw [tkQ_2 (by omega), k3]
        exact ⟨rfl, _, rfl, hM⟩
      · refine z_tswIn (pc := 53) (tgt := 127) h dX8_truck_53 (by omega) (by decide) (by decide) rfl (by decide) ?_
        refine z_aloadR_n (pc := 127) h dX8_truck_127 rfl ?_
        refine z_iload_n (pc := 128) h dX8_truck_128 rfl ?_
        refine z_iload_n (pc := 129) h dX8_truck_129 rfl ?_
        refine z_pV (pc := 130) (c := 8) h (m8_itsNumber (by omega) (by omega)) (by decide) (by first | assumption | rfl) rfl mv_X8_itsNumber ml_X8_358 rfl dX8_truck_130 rfl (Nat.le_of_ble_eq_true rfl) ?_
        refine z_iret (pc := 133) h rfl dX8_truck_133 ?_
        rw [tkQ_2 (by omega), k3]
        exact ⟨rfl, _, rfl, hM⟩
      · refine z_tswIn (pc := 53) (tgt := 127) h dX8_truck_53 (by omega) (by decide) (by decide) rfl (by decide) ?_
        refine z_aloadR_n (pc := 127) h dX8_truck_127 rfl ?_
        refine z_iload_n (pc := 128) h dX8_truck_128 rfl ?_
        refine z_iload_n (pc := 129) h dX8_truck_129 rfl ?_
        refine z_pV (pc := 130) (c := 8) h (m8_itsNumber (by omega) (by omega)) (by decide) (by first | assumption | rfl) rfl mv_X8_itsNumber ml_X8_358 rfl dX8_truck_130 rfl (Nat.le_of_ble_eq_true rfl) ?_
        refine z_iret (pc := 133) h rfl dX8_truck_133 ?_
        rw [tkQ_2 (by omega), k3]
        exact ⟨rfl, _, rfl, hM⟩
      · refine z_tswIn (pc := 53) (tgt := 134) h dX8_truck_53 (by omega) (by decide) (by decide) rfl (by decide) ?_
        refine z_aloadR_n (pc := 134) h dX8_truck_134 rfl ?_
        refine z_getA4 (pc := 135) (c := 8) (j := 30) h (by first | assumption | rfl) rfl rfl fl_X8_57 dX8_truck_135 ?_
        refine z_iload_n (pc := 138) h dX8_truck_138 rfl ?_
        refine z_ialdq (pc := 139) (c := 8) (j := 30) (L := 8) h (zo_s _ _ _) (by first | assumption | rfl) (by decide) rfl (by decide) (by omega) (by omega) dX8_truck_139 (fun g139 => ?_)
        refine z_iret (pc := 140) h rfl dX8_truck_140 ?_
        exact ⟨congrArg (fun z => some (zI z)) (show y.2 30 t = T.1 t from ydp.1), _, rfl, hM⟩
      · refine z_tswIn (pc := 53) (tgt := 141) h dX8_truck_53 (by omega) (by decide) (by decide) rfl (by decide) ?_
        refine z_aloadR_n (pc := 141) h dX8_truck_141 rfl ?_
        refine z_getA4 (pc := 142) (c := 8) (j := 31) h (by first | assumption | rfl) rfl rfl fl_X8_60 dX8_truck_142 ?_
        refine z_iload_n (pc := 145) h dX8_truck_145 rfl ?_
        refine z_ialdq (pc := 146) (c := 8) (j := 31) (L := 8) h (zo_s _ _ _) (by first | assumption | rfl) (by decide) rfl (by decide) (by omega) (by omega) dX8_truck_146 (fun g146 => ?_)
        refine z_iret (pc := 147) h rfl dX8_truck_147 ?_
        exact ⟨congrArg (fun z => some (zI z)) (show y.2 31 t = T.2.1 t from ydp.2), _, rfl, hM⟩
      · refine z_tswIn (pc := 53) (tgt := 148) h dX8_truck_53 (by omega) (by decide) (by decide) rfl (by decide) ?_
        refine z_aloadR_n (pc := 148) h dX8_truck_148 rfl ?_
        refine z_getA4 (pc := 149) (c := 8) (j := 27) h (by first | assumption | rfl) rfl rfl fl_X8_48 dX8_truck_149 ?_
        refine z_iload_n (pc := 152) h dX8_truck_152 rfl ?_
        refine z_ialdq (pc := 153) (c := 8) (j := 27) (L := 8) h (zo_s _ _ _) (by first | assumption | rfl) (by decide) rfl (by decide) (by omega) (by omega) dX8_truck_153 (fun g153 => ?_)
        refine z_iret (pc := 154) h rfl dX8_truck_154 ?_
        exact ⟨congrArg (fun z => some (zI z)) (show y.2 27 t = (ra T.2.2).2 27 t from ytr.1), _, rfl, hM⟩
      · refine z_tswIn (pc := 53) (tgt := 155) h dX8_truck_53 (by omega) (by decide) (by decide) rfl (by decide) ?_
        refine z_aloadR_n (pc := 155) h dX8_truck_155 rfl ?_
        refine z_getA4 (pc := 156) (c := 8) (j := 28) h (by first | assumption | rfl) rfl rfl fl_X8_51 dX8_truck_156 ?_
        refine z_iload_n (pc := 159) h dX8_truck_159 rfl ?_
        refine z_ialdq (pc := 160) (c := 8) (j := 28) (L := 8) h (zo_s _ _ _) (by first | assumption | rfl) (by decide) rfl (by decide) (by omega) (by omega) dX8_truck_160 (fun g160 => ?_)
        refine z_iret (pc := 161) h rfl dX8_truck_161 ?_
        exact ⟨congrArg (fun z => some (zI z)) (show y.2 28 t = (ra T.2.2).2 28 t from ytr.2.1), _, rfl, hM⟩
      · refine z_tswIn (pc := 53) (tgt := 162) h dX8_truck_53 (by omega) (by decide) (by decide) rfl (by decide) ?_
        refine z_aloadR_n (pc := 162) h dX8_truck_162 rfl ?_
        refine z_getA4 (pc := 163) (c := 8) (j := 29) h (by first | assumption | rfl) rfl rfl fl_X8_54 dX8_truck_163 ?_
        refine z_iload_n (pc := 166) h dX8_truck_166 rfl ?_
        refine z_ialdq (pc := 167) (c := 8) (j := 29) (L := 8) h (zo_s _ _ _) (by first | assumption | rfl) (by decide) rfl (by decide) (by omega) (by omega) dX8_truck_167 (fun g167 => ?_)
        refine z_iret (pc := 168) h rfl dX8_truck_168 ?_
        exact ⟨congrArg (fun z => some (zI z)) (show y.2 29 t = (ra T.2.2).2 29 t from ytr.2.2.1), _, rfl, hM⟩
      · refine z_tswIn (pc := 53) (tgt := 169) h dX8_truck_53 (by omega) (by decide) (by decide) rfl (by decide) ?_
        refine z_aloadR_n (pc := 169) h dX8_truck_169 rfl ?_
        refine z_iload_n (pc := 170) h dX8_truck_170 rfl ?_
        refine z_pV (pc := 171) (c := 8) h (m8_lateOf (by omega) hlv hdu) (by decide) (by first | assumption | rfl) rfl mv_X8_lateOf ml_X8_248 rfl dX8_truck_171 rfl (Nat.le_of_ble_eq_true rfl) ?_
        refine z_iret (pc := 174) h rfl dX8_truck_174 ?_
        exact ⟨congrArg (fun z => some (zI z)) (show s_late y t = s_late (ra T.2.2) t by unfold s_late; rw [k3, ytr.2.1, ytr.2.2.2]), _, rfl, hM⟩
      · refine z_tswIn (pc := 53) (tgt := 175) h dX8_truck_53 (by omega) (by decide) (by decide) rfl (by decide) ?_
        refine z_aloadR_n (pc := 175) h dX8_truck_175 rfl ?_
        refine z_iload_n (pc := 176) h dX8_truck_176 rfl ?_
        refine z_pV (pc := 177) (c := 8) h (m8_isFixed (by omega)) (by decide) (by first | assumption | rfl) rfl mv_X8_isFixed ml_X8_278 rfl dX8_truck_177 rfl (Nat.le_of_ble_eq_true rfl) ?_
        have hfx : fxd (y.2 27) (y.2 1) t = fxd ((ra T.2.2).2 27) T.2.2 t := by unfold fxd; rw [ytr.1, k3]
        refine z_ifeqB (pc := 180) (tgt := 187) h dX8_truck_180 (by decide) (fun c180 => ?_) (fun c180 => ?_)
        · refine z_iconst (pc := 187) h dX8_truck_187 ?_
          refine z_iret (pc := 188) h rfl dX8_truck_188 ?_
          refine ⟨congrArg (fun z => some (zI z)) (show _ = if fxd ((ra T.2.2).2 27) T.2.2 t = true then (1 : Int) else 0 from ?_), _, rfl, hM⟩
          rw [← hfx, c180]
          rfl
        · refine z_iconst (pc := 183) h dX8_truck_183 ?_
          refine z_goto (pc := 184) (tgt := 188) h dX8_truck_184 (by decide) ?_
          refine z_iret (pc := 188) h rfl dX8_truck_188 ?_
          refine ⟨congrArg (fun z => some (zI z)) (show _ = if fxd ((ra T.2.2).2 27) T.2.2 t = true then (1 : Int) else 0 from ?_), _, rfl, hM⟩
          rw [← hfx, c180]
          rfl
    · exact absurd c42 (by show ¬ 0 < (0 : Int); omega)
  have N : ¬ ((0 ≤ t ∧ t < T.2.2 1) ∧ (0 ≤ w ∧ w ≤ 12 ∨ 20 ≤ w ∧ w ≤ 23)) → zW x (fun r τ' => r = some (zI (if (0 ≤ t ∧ t < T.2.2 1) ∧ (0 ≤ w ∧ w ≤ 12 ∨ 20 ≤ w ∧ w ≤ 23) then tkQ T t w else 0)) ∧ ∃ m', τ' = zo σ 31 m' ∧ MQ1 (if (0 ≤ t ∧ t < T.2.2 1) ∧ (0 ≤ w ∧ w ≤ 12 ∨ 20 ≤ w ∧ w ≤ 23) then 0 else 1) m m') 38 [some (zR 31), some (zI t), some (zI w), none] [] (zo σ 31 (oss m 0 1)) := by
    intro hv
    simp only [if_neg hv]
    refine z_aloadR_n (pc := 38) h dX8_truck_38 rfl ?_
    refine z_getIq (pc := 39) (c := 8) (j := 0) h (zo_s _ _ _) (by first | assumption | rfl) rfl rfl fl_X8_84 dX8_truck_39 (fun g39 => ?_)
    refine z_if_le (pc := 42) (tgt := 47) h (by omega) dX8_truck_42 (by decide) (fun c42 => ?_) (fun c42 => ?_)
    · exact absurd c42 (by show ¬ (1 : Int) ≤ 0; omega)
    · refine z_iconst (pc := 45) h dX8_truck_45 ?_
      refine z_iret (pc := 46) h rfl dX8_truck_46 ?_
      exact ⟨rfl, _, rfl, MQ1_0 m 1⟩
  refine z_aloadR_n (pc := 0) h dX8_truck_0 rfl ?_
  refine z_aloadR_n (pc := 1) h dX8_truck_1 rfl ?_
  refine z_iload_n (pc := 2) h dX8_truck_2 rfl ?_
  refine z_pV (pc := 3) (c := 8) h (m8_isTruck (by omega) (by omega)) (by decide) (by first | assumption | rfl) rfl mv_X8_isTruck ml_X8_290 rfl dX8_truck_3 rfl (Nat.le_of_ble_eq_true rfl) ?_
  refine z_ifeqB (pc := 6) (tgt := 34) h dX8_truck_6 (by decide) (fun c6 => ?_) (fun c6 => ?_)
  · refine z_iconst (pc := 34) h dX8_truck_34 ?_
    refine z_putIo (pc := 35) (c := 8) (j := 0) h (by first | assumption | rfl) rfl rfl fl_X8_84 rfl (tyX8_ok 0 (by decide)) dX8_truck_35 (by omega) ?_
    first
    | (have y1 := of_decide_eq_false c6; exact N (fun q => y1 (by omega)))
    | (have y1 := of_decide_eq_false c27; have y2 := of_decide_eq_false c16; exact N (fun q => by omega))
    | (have y1 := of_decide_eq_true c6; have y2 := of_decide_eq_true c16; exact B (by omega))
    | (have y1 := of_decide_eq_true c6; have y2 := of_decide_eq_true c27; exact B (by omega))
  · refine z_iload_n (pc := 9) h dX8_truck_9 rfl ?_
    refine z_iconst (pc := 10) h dX8_truck_10 ?_
    refine z_bipush (pc := 11) h dX8_truck_11 (by decide) ?_
    refine z_pS (pc := 13) h (m8_in (by omega) (by omega) (by omega)) (by decide) ms_X8_in ml_X8_88 rfl dX8_truck_13 rfl (Nat.le_of_ble_eq_true rfl) ?_
    refine z_ifneB (pc := 16) (tgt := 30) h dX8_truck_16 (by decide) (fun c16 => ?_) (fun c16 => ?_)
    · refine z_iconst (pc := 30) h dX8_truck_30 ?_
      refine z_goto (pc := 31) (tgt := 35) h dX8_truck_31 (by decide) ?_
      refine z_putIo (pc := 35) (c := 8) (j := 0) h (by first | assumption | rfl) rfl rfl fl_X8_84 rfl (tyX8_ok 0 (by decide)) dX8_truck_35 (by omega) ?_
      first
      | (have y1 := of_decide_eq_false c6; exact N (fun q => y1 (by omega)))
      | (have y1 := of_decide_eq_false c27; have y2 := of_decide_eq_false c16; exact N (fun q => by omega))
      | (have y1 := of_decide_eq_true c6; have y2 := of_decide_eq_true c16; exact B (by omega))
      | (have y1 := of_decide_eq_true c6; have y2 := of_decide_eq_true c27; exact B (by omega))
    · refine z_iload_n (pc := 19) h dX8_truck_19 rfl ?_
      refine z_bipush (pc := 20) h dX8_truck_20 (by decide) ?_
      refine z_bipush (pc := 22) h dX8_truck_22 (by decide) ?_
      refine z_pS (pc := 24) h (m8_in (by omega) (by omega) (by omega)) (by decide) ms_X8_in ml_X8_88 rfl dX8_truck_24 rfl (Nat.le_of_ble_eq_true rfl) ?_
      refine z_ifeqB (pc := 27) (tgt := 34) h dX8_truck_27 (by decide) (fun c27 => ?_) (fun c27 => ?_)
      · refine z_iconst (pc := 34) h dX8_truck_34 ?_
        refine z_putIo (pc := 35) (c := 8) (j := 0) h (by first | assumption | rfl) rfl rfl fl_X8_84 rfl (tyX8_ok 0 (by decide)) dX8_truck_35 (by omega) ?_
        first
        | (have y1 := of_decide_eq_false c6; exact N (fun q => y1 (by omega)))
        | (have y1 := of_decide_eq_false c27; have y2 := of_decide_eq_false c16; exact N (fun q => by omega))
        | (have y1 := of_decide_eq_true c6; have y2 := of_decide_eq_true c16; exact B (by omega))
        | (have y1 := of_decide_eq_true c6; have y2 := of_decide_eq_true c27; exact B (by omega))
      · refine z_iconst (pc := 30) h dX8_truck_30 ?_
        refine z_goto (pc := 31) (tgt := 35) h dX8_truck_31 (by decide) ?_
        refine z_putIo (pc := 35) (c := 8) (j := 0) h (by first | assumption | rfl) rfl rfl fl_X8_84 rfl (tyX8_ok 0 (by decide)) dX8_truck_35 (by omega) ?_
        first
        | (have y1 := of_decide_eq_false c6; exact N (fun q => y1 (by omega)))
        | (have y1 := of_decide_eq_false c27; have y2 := of_decide_eq_false c16; exact N (fun q => by omega))
        | (have y1 := of_decide_eq_true c6; have y2 := of_decide_eq_true c16; exact B (by omega))
        | (have y1 := of_decide_eq_true c6; have y2 := of_decide_eq_true c27; exact B (by omega))
theorem m8_carton {σ : zS} {m : zOb} {T : T3} {c w : Int} (hT : OKT T) (e1 : m.2 1 = T.2.2) (hd : zin c) (hw : zin w) : zC M_X8_carton 6 [zR 31, zI c, zI w] (zo σ 31 m) (fun r τ' => r = some (zI (if (0 ≤ c ∧ c < (ra T.2.2).1 20) ∧ 0 ≤ w ∧ w ≤ 5 then caQ T c w else 0)) ∧ ∃ m', τ' = zo σ 31 m' ∧ MQ1 (if (0 ≤ c ∧ c < (ra T.2.2).1 20) ∧ 0 ≤ w ∧ w ≤ 5 then 0 else 1) m m') := by
  have hrb := rc_b hT
  have hY := run_YR (m := m) hT e1
  have hwa : WFa (m.2 1) := by rw [e1]; exact hT.1
  have hwr : WFr (m.2 1) := by rw [e1]; exact hT.2.1.wfr
  have hYY := hY.1
  have hE := hYY.2.2.2.2.1
  have hn := hYY.1.2.2.2.1
  have e20 : (s_run m).1 20 = (ra T.2.2).1 20 := hE.2.1
  have hM : ∀ v, MQ1 v m (oss (s_run m) 0 v) := fun v => ⟨rfl, by show (s_run m).2 1 = _; rw [hYY.2.2.1, e1], hYY.2.2.2.2.2.2.1, hYY.2.2.2.2.2.2.2.1, hYY.2.2.2.2.2.2.2.2.1, hYY.2.2.2.2.2.2.2.2.2⟩
  refine zC_of (M := M_X8_carton) (ls := [some (zR 31), some (zI c), some (zI w), none]) (n := 1) (by decide) (fun ad => Nat.le_of_ble_eq_true rfl) rfl (fun x h => ?_)
  have B : (0 ≤ c ∧ c < (ra T.2.2).1 20) ∧ 0 ≤ w ∧ w ≤ 5 → zW x (fun r τ' => r = some (zI (if (0 ≤ c ∧ c < (ra T.2.2).1 20) ∧ 0 ≤ w ∧ w ≤ 5 then caQ T c w else 0)) ∧ ∃ m', τ' = zo σ 31 m' ∧ MQ1 (if (0 ≤ c ∧ c < (ra T.2.2).1 20) ∧ 0 ≤ w ∧ w ≤ 5 then 0 else 1) m m') 37 [some (zR 31), some (zI c), some (zI w), some (zI (rc T.2.2))] [] (zo σ 31 (oss (s_run m) 0 0)) := by
    intro hv
    simp only [if_pos hv]
    have hd' := hv.1
    have hw' := hv.2
    have ee := hE.2.2.2.2.2.2.2.1 c hd'.1 hd'.2
    have hM0 := hM 0
    clear hY hYY hM
    generalize s_run m = y at *
    refine z_aloadR_n (pc := 37) h dX8_carton_37 rfl ?_
    refine z_getIq (pc := 38) (c := 8) (j := 0) h (zo_s _ _ _) (by first | assumption | rfl) rfl rfl fl_X8_84 dX8_carton_38 (fun g38 => ?_)
    refine z_if_le (pc := 41) (tgt := 46) h (by omega) dX8_carton_41 (by decide) (fun c41 => ?_) (fun c41 => ?_)
    · refine z_iload_n (pc := 46) h dX8_carton_46 rfl ?_
      have hsw : (w < 0 ∨ 4 < w) ∨ w = 0 ∨ w = 1 ∨ w = 2 ∨ w = 3 ∨ w = 4 := by omega
      rcases hsw with hsw | rfl | rfl | rfl | rfl | rfl
      · refine z_tswOut (pc := 47) (tgt := 115) h dX8_carton_47 (by omega) hsw (by decide) ?_
        refine z_iload_n (pc := 115) h dX8_carton_115 rfl ?_
        refine z_if_ge (pc := 116) (tgt := 123) h (by omega) dX8_carton_116 (by decide) (fun c116 => ?_) (fun c116 => ?_)
        · refine z_aloadR_n (pc := 123) h dX8_carton_123 rfl ?_
          refine z_getA4 (pc := 124) (c := 8) (j := 26) h (by first | assumption | rfl) rfl rfl fl_X8_45 dX8_carton_124 ?_
          refine z_iload_n (pc := 127) h dX8_carton_127 rfl ?_
          refine z_ialdq (pc := 128) (c := 8) (j := 26) (L := 40) h (zo_s _ _ _) (by first | assumption | rfl) (by decide) rfl (by decide) (by omega) (by omega) dX8_carton_128 (fun g128 => ?_)
          refine z_iret (pc := 129) h rfl dX8_carton_129 ?_
          first
          | (exfalso; omega)
          | exact ⟨congrArg (fun z => some (zI z)) (show y.2 26 c = caQ T c w by unfold caQ; rw [if_neg (by omega), if_neg (by omega), if_neg (by omega), if_neg (by omega), if_neg (by omega)]; exact ee.2.2.2.2.2), _, rfl, hM0⟩
        · refine z_iconst (pc := 119) h dX8_carton_119 ?_
          refine z_goto (pc := 120) (tgt := 129) h dX8_carton_120 (by decide) ?_
          refine z_iret (pc := 129) h rfl dX8_carton_129 ?_
          first
          | (exfalso; omega)
          | exact ⟨congrArg (fun z => some (zI z)) (show y.2 26 c = caQ T c w by unfold caQ; rw [if_neg (by omega), if_neg (by omega), if_neg (by omega), if_neg (by omega), if_neg (by omega)]; exact ee.2.2.2.2.2), _, rfl, hM0⟩
      · refine z_tswIn (pc := 47) (tgt := 80) h dX8_carton_47 (by omega) (by decide) (by decide) rfl (by decide) ?_
        refine z_aloadR_n (pc := 80) h dX8_carton_80 rfl ?_
        refine z_getA4 (pc := 81) (c := 8) (j := 21) h (by first | assumption | rfl) rfl rfl fl_X8_30 dX8_carton_81 ?_
        refine z_iload_n (pc := 84) h dX8_carton_84 rfl ?_
        refine z_ialdq (pc := 85) (c := 8) (j := 21) (L := 40) h (zo_s _ _ _) (by first | assumption | rfl) (by decide) rfl (by decide) (by omega) (by omega) dX8_carton_85 (fun g85 => ?_)
        refine z_iret (pc := 86) h rfl dX8_carton_86 ?_
        exact ⟨congrArg (fun z => some (zI z)) (show y.2 21 c = (ra T.2.2).2 21 c from ee.1), _, rfl, hM0⟩
      · refine z_tswIn (pc := 47) (tgt := 87) h dX8_carton_47 (by omega) (by decide) (by decide) rfl (by decide) ?_
        refine z_aloadR_n (pc := 87) h dX8_carton_87 rfl ?_
        refine z_getA4 (pc := 88) (c := 8) (j := 22) h (by first | assumption | rfl) rfl rfl fl_X8_33 dX8_carton_88 ?_
        refine z_iload_n (pc := 91) h dX8_carton_91 rfl ?_
        refine z_ialdq (pc := 92) (c := 8) (j := 22) (L := 40) h (zo_s _ _ _) (by first | assumption | rfl) (by decide) rfl (by decide) (by omega) (by omega) dX8_carton_92 (fun g92 => ?_)
        refine z_iret (pc := 93) h rfl dX8_carton_93 ?_
        exact ⟨congrArg (fun z => some (zI z)) (show y.2 22 c = (ra T.2.2).2 22 c from ee.2.1), _, rfl, hM0⟩
      · refine z_tswIn (pc := 47) (tgt := 94) h dX8_carton_47 (by omega) (by decide) (by decide) rfl (by decide) ?_
        refine z_aloadR_n (pc := 94) h dX8_carton_94 rfl ?_
        refine z_getA4 (pc := 95) (c := 8) (j := 23) h (by first | assumption | rfl) rfl rfl fl_X8_36 dX8_carton_95 ?_
        refine z_iload_n (pc := 98) h dX8_carton_98 rfl ?_
        refine z_ialdq (pc := 99) (c := 8) (j := 23) (L := 40) h (zo_s _ _ _) (by first | assumption | rfl) (by decide) rfl (by decide) (by omega) (by omega) dX8_carton_99 (fun g99 => ?_)
        refine z_iret (pc := 100) h rfl dX8_carton_100 ?_
        exact ⟨congrArg (fun z => some (zI z)) (show y.2 23 c = (ra T.2.2).2 23 c from ee.2.2.1), _, rfl, hM0⟩
      · refine z_tswIn (pc := 47) (tgt := 101) h dX8_carton_47 (by omega) (by decide) (by decide) rfl (by decide) ?_
        refine z_aloadR_n (pc := 101) h dX8_carton_101 rfl ?_
        refine z_getA4 (pc := 102) (c := 8) (j := 24) h (by first | assumption | rfl) rfl rfl fl_X8_39 dX8_carton_102 ?_
        refine z_iload_n (pc := 105) h dX8_carton_105 rfl ?_
        refine z_ialdq (pc := 106) (c := 8) (j := 24) (L := 40) h (zo_s _ _ _) (by first | assumption | rfl) (by decide) rfl (by decide) (by omega) (by omega) dX8_carton_106 (fun g106 => ?_)
        refine z_iret (pc := 107) h rfl dX8_carton_107 ?_
        exact ⟨congrArg (fun z => some (zI z)) (show y.2 24 c = (ra T.2.2).2 24 c from ee.2.2.2.1), _, rfl, hM0⟩
      · refine z_tswIn (pc := 47) (tgt := 108) h dX8_carton_47 (by omega) (by decide) (by decide) rfl (by decide) ?_
        refine z_aloadR_n (pc := 108) h dX8_carton_108 rfl ?_
        refine z_getA4 (pc := 109) (c := 8) (j := 25) h (by first | assumption | rfl) rfl rfl fl_X8_42 dX8_carton_109 ?_
        refine z_iload_n (pc := 112) h dX8_carton_112 rfl ?_
        refine z_ialdq (pc := 113) (c := 8) (j := 25) (L := 40) h (zo_s _ _ _) (by first | assumption | rfl) (by decide) rfl (by decide) (by omega) (by omega) dX8_carton_113 (fun g113 => ?_)
        refine z_iret (pc := 114) h rfl dX8_carton_114 ?_
        exact ⟨congrArg (fun z => some (zI z)) (show y.2 25 c = (ra T.2.2).2 25 c from ee.2.2.2.2.1), _, rfl, hM0⟩
    · exact absurd c41 (by show ¬ 0 < (0 : Int); omega)
  have N : ¬ ((0 ≤ c ∧ c < (ra T.2.2).1 20) ∧ 0 ≤ w ∧ w ≤ 5) → zW x (fun r τ' => r = some (zI (if (0 ≤ c ∧ c < (ra T.2.2).1 20) ∧ 0 ≤ w ∧ w ≤ 5 then caQ T c w else 0)) ∧ ∃ m', τ' = zo σ 31 m' ∧ MQ1 (if (0 ≤ c ∧ c < (ra T.2.2).1 20) ∧ 0 ≤ w ∧ w ≤ 5 then 0 else 1) m m') 37 [some (zR 31), some (zI c), some (zI w), some (zI (rc T.2.2))] [] (zo σ 31 (oss (s_run m) 0 1)) := by
    intro hv
    simp only [if_neg hv]
    refine z_aloadR_n (pc := 37) h dX8_carton_37 rfl ?_
    refine z_getIq (pc := 38) (c := 8) (j := 0) h (zo_s _ _ _) (by first | assumption | rfl) rfl rfl fl_X8_84 dX8_carton_38 (fun g38 => ?_)
    refine z_if_le (pc := 41) (tgt := 46) h (by omega) dX8_carton_41 (by decide) (fun c41 => ?_) (fun c41 => ?_)
    · exact absurd c41 (by show ¬ (1 : Int) ≤ 0; omega)
    · refine z_iconst (pc := 44) h dX8_carton_44 ?_
      refine z_iret (pc := 45) h rfl dX8_carton_45 ?_
      exact ⟨rfl, _, rfl, hM 1⟩
  refine z_aloadR_n (pc := 0) h dX8_carton_0 rfl ?_
  refine z_rV (pc := 1) (c := 8) h (m8_runs hwa hwr) (by decide) (by first | assumption | rfl) rfl mv_X8_runs ml_X8_272 rfl dX8_carton_1 rfl (Nat.le_of_ble_eq_true rfl) ?_
  rw [hY.2]
  clear hY hYY hE hM
  generalize s_run m = y at hn e20 B N ⊢
  have hn2 : -2147483648 ≤ y.1 20 - 1 ∧ y.1 20 - 1 ≤ 2147483647 := by omega
  refine z_ist_3 (pc := 4) h dX8_carton_4 (by decide) rfl ?_
  refine z_aloadR_n (pc := 5) h dX8_carton_5 rfl ?_
  refine z_iload_n (pc := 6) h dX8_carton_6 rfl ?_
  refine z_iconst (pc := 7) h dX8_carton_7 ?_
  refine z_aloadR_n (pc := 8) h dX8_carton_8 rfl ?_
  refine z_getIq (pc := 9) (c := 8) (j := 20) h (zo_s _ _ _) (by first | assumption | rfl) rfl rfl fl_X8_202 dX8_carton_9 (fun g9 => ?_)
  refine z_iconst (pc := 12) h dX8_carton_12 ?_
  refine z_isub (pc := 13) h dX8_carton_13 ?_
  refine z_pS (pc := 14) h (m8_in (by omega) (by omega) (by omega)) (by decide) ms_X8_in ml_X8_88 rfl dX8_carton_14 rfl (Nat.le_of_ble_eq_true rfl) ?_
  refine z_ifeqB (pc := 17) (tgt := 33) h dX8_carton_17 (by decide) (fun c17 => ?_) (fun c17 => ?_)
  · refine z_iconst (pc := 33) h dX8_carton_33 ?_
    refine z_putIo (pc := 34) (c := 8) (j := 0) h (by first | assumption | rfl) rfl rfl fl_X8_84 rfl (tyX8_ok 0 (by decide)) dX8_carton_34 (by omega) ?_
    first
    | (have y1 := of_decide_eq_false c17; exact N (fun q => y1 (by omega)))
    | (have y1 := of_decide_eq_false c26; exact N (fun q => y1 (by omega)))
    | (have y1 := of_decide_eq_true c17; have y2 := of_decide_eq_true c26; exact B (by omega))
  · refine z_iload_n (pc := 20) h dX8_carton_20 rfl ?_
    refine z_iconst (pc := 21) h dX8_carton_21 ?_
    refine z_iconst (pc := 22) h dX8_carton_22 ?_
    refine z_pS (pc := 23) h (m8_in (by omega) (by omega) (by omega)) (by decide) ms_X8_in ml_X8_88 rfl dX8_carton_23 rfl (Nat.le_of_ble_eq_true rfl) ?_
    refine z_ifeqB (pc := 26) (tgt := 33) h dX8_carton_26 (by decide) (fun c26 => ?_) (fun c26 => ?_)
    · refine z_iconst (pc := 33) h dX8_carton_33 ?_
      refine z_putIo (pc := 34) (c := 8) (j := 0) h (by first | assumption | rfl) rfl rfl fl_X8_84 rfl (tyX8_ok 0 (by decide)) dX8_carton_34 (by omega) ?_
      first
      | (have y1 := of_decide_eq_false c17; exact N (fun q => y1 (by omega)))
      | (have y1 := of_decide_eq_false c26; exact N (fun q => y1 (by omega)))
      | (have y1 := of_decide_eq_true c17; have y2 := of_decide_eq_true c26; exact B (by omega))
    · refine z_iconst (pc := 29) h dX8_carton_29 ?_
      refine z_goto (pc := 30) (tgt := 34) h dX8_carton_30 (by decide) ?_
      refine z_putIo (pc := 34) (c := 8) (j := 0) h (by first | assumption | rfl) rfl rfl fl_X8_84 rfl (tyX8_ok 0 (by decide)) dX8_carton_34 (by omega) ?_
      first
      | (have y1 := of_decide_eq_false c17; exact N (fun q => y1 (by omega)))
      | (have y1 := of_decide_eq_false c26; exact N (fun q => y1 (by omega)))
      | (have y1 := of_decide_eq_true c17; have y2 := of_decide_eq_true c26; exact B (by omega))
theorem m8_thrown {σ : zS} {m : zOb} : zCp M_X8_thrown 1 [zR 31] (zo σ 31 m) (zI (m.1 0)) := by
  refine zC_of (M := M_X8_thrown) (ls := [some (zR 31)]) (n := 0) (by decide) (fun ad => Nat.le_of_ble_eq_true rfl) rfl (fun x h => ?_)
  refine z_aloadR_n (pc := 0) h dX8_thrown_0 rfl ?_
  refine z_getIq (pc := 1) (c := 8) (j := 0) h (zo_s _ _ _) (by first | assumption | rfl) rfl rfl fl_X8_84 dX8_thrown_1 (fun g1 => ?_)
  refine z_iret (pc := 4) h rfl dX8_thrown_4 ?_
  exact ⟨rfl, rfl⟩
