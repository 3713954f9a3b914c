/-! Leaves: methods that only look. -/
theorem zB_t {b : Bool} (h : b = true) : zI 1 = zB b := by subst h; rfl
theorem zB_f {b : Bool} (h : b = false) : zI 0 = zB b := by subst h; rfl
/-- the way between two spots -/
def zway (a b : Int) : Int := ((if a < b then b - a else a - b) + 9) / 10
theorem zway_t {a b : Int} (h : a < b) : (b - a + 9).tdiv 10 = zway a b := by
  unfold zway
  rw [if_pos h, Int.tdiv_eq_ediv_of_nonneg (by omega)]
theorem zway_f {a b : Int} (h : b ≤ a) : (a - b + 9).tdiv 10 = zway a b := by
  unfold zway
  rw [if_neg (by omega), Int.tdiv_eq_ediv_of_nonneg (by omega)]
theorem zway_comm (a b : Int) : zway a b = zway b a := by
  unfold zway
  by_cases h : a < b
  · rw [if_pos h, if_neg (by omega)]
  · by_cases h2 : b < a
    · rw [if_neg h, if_pos h2]
    · have : a = b := by omega
      subst this; rfl
theorem zway_nn (a b : Int) : 0 ≤ zway a b := by
  unfold zway
  split <;> omega
theorem zway_le {a b : Int} (ha : 0 ≤ a ∧ a ≤ 99) (hb : 0 ≤ b ∧ b ≤ 99) : zway a b ≤ 10 := by
  unfold zway
  split <;> omega
theorem m_X8_in {σ : zS} {v l u : Int} (hv : zin v) (hl : zin l) (hu : zin u) : zCp M_X8_in 1 [zI v, zI l, zI u] σ (zB (decide (l ≤ v ∧ v ≤ u))) := by
  refine zC_of (M := M_X8_in) (ls := [some (zI v), some (zI l), some (zI u)]) (n := 0) (by decide) (fun ad => Nat.le_of_ble_eq_true rfl) rfl (fun x h => ?_)
  refine z_iload_n (pc := 0) h dX8_in_0 rfl ?_
  refine z_iload_n (pc := 1) h dX8_in_1 rfl ?_
  refine z_icmp_lt (pc := 2) (tgt := 14) h (by omega) (by omega) dX8_in_2 (by decide) (fun c2 => ?_) (fun c2 => ?_)
  · refine z_iconst (pc := 14) h dX8_in_14 ?_
    refine z_zret (pc := 15) h rfl (by omega) dX8_in_15 ?_
    first | exact ⟨congrArg some (zB_t (decide_eq_true (by omega))), rfl⟩ | exact ⟨congrArg some (zB_f (decide_eq_false (by omega))), rfl⟩
  · refine z_iload_n (pc := 5) h dX8_in_5 rfl ?_
    refine z_iload_n (pc := 6) h dX8_in_6 rfl ?_
    refine z_icmp_gt (pc := 7) (tgt := 14) h (by omega) (by omega) dX8_in_7 (by decide) (fun c7 => ?_) (fun c7 => ?_)
    · refine z_iconst (pc := 14) h dX8_in_14 ?_
      refine z_zret (pc := 15) h rfl (by omega) dX8_in_15 ?_
      first | exact ⟨congrArg some (zB_t (decide_eq_true (by omega))), rfl⟩ | exact ⟨congrArg some (zB_f (decide_eq_false (by omega))), rfl⟩
    · refine z_iconst (pc := 10) h dX8_in_10 ?_
      refine z_goto (pc := 11) (tgt := 15) h dX8_in_11 (by decide) ?_
      refine z_zret (pc := 15) h rfl (by omega) dX8_in_15 ?_
      first | exact ⟨congrArg some (zB_t (decide_eq_true (by omega))), rfl⟩ | exact ⟨congrArg some (zB_f (decide_eq_false (by omega))), rfl⟩
theorem m_X8_isDoor {σ : zS} {v : Int} (hv : zin v) (hn : 0 ≤ zar σ 31 1 0) : zCp M_X8_isDoor 2 [zR 31, zI v] σ (zB (decide (0 ≤ v ∧ v ≤ zar σ 31 1 0 - 1))) := by
  refine zC_of (M := M_X8_isDoor) (ls := [some (zR 31), some (zI v)]) (n := 0) (by decide) (fun ad => Nat.le_of_ble_eq_true rfl) rfl (fun x h => ?_)
  refine z_iload_n (pc := 0) h dX8_isDoor_0 rfl ?_
  refine z_iconst (pc := 1) h dX8_isDoor_1 ?_
  refine z_aloadR_n (pc := 2) h dX8_isDoor_2 rfl ?_
  refine z_getA4 (pc := 3) (c := 8) (j := 1) h (by first | assumption | rfl) rfl rfl fl_X8_7 dX8_isDoor_3 ?_
  refine z_iconst (pc := 6) h dX8_isDoor_6 ?_
  refine z_iald (pc := 7) (c := 8) (j := 1) (L := 610) h (by first | assumption | rfl) (by decide) rfl (by decide) (by omega) (by omega) dX8_isDoor_7 (fun g7 => ?_)
  refine z_iconst (pc := 8) h dX8_isDoor_8 ?_
  refine z_isub (pc := 9) h dX8_isDoor_9 ?_
  refine z_pS (pc := 10) h (m_X8_in (by omega) (by omega) (by omega)) (by decide) ms_X8_in ml_X8_88 rfl dX8_isDoor_10 rfl (Nat.le_of_ble_eq_true rfl) ?_
  refine z_bret (pc := 13) h rfl dX8_isDoor_13 ?_
  exact ⟨rfl, rfl⟩
theorem m_X8_isTruck {σ : zS} {v : Int} (hv : zin v) (hn : 0 ≤ zar σ 31 1 1) : zCp M_X8_isTruck 2 [zR 31, zI v] σ (zB (decide (0 ≤ v ∧ v ≤ zar σ 31 1 1 - 1))) := by
  refine zC_of (M := M_X8_isTruck) (ls := [some (zR 31), some (zI v)]) (n := 0) (by decide) (fun ad => Nat.le_of_ble_eq_true rfl) rfl (fun x h => ?_)
  refine z_iload_n (pc := 0) h dX8_isTruck_0 rfl ?_
  refine z_iconst (pc := 1) h dX8_isTruck_1 ?_
  refine z_aloadR_n (pc := 2) h dX8_isTruck_2 rfl ?_
  refine z_getA4 (pc := 3) (c := 8) (j := 1) h (by first | assumption | rfl) rfl rfl fl_X8_7 dX8_isTruck_3 ?_
  refine z_iconst (pc := 6) h dX8_isTruck_6 ?_
  refine z_iald (pc := 7) (c := 8) (j := 1) (L := 610) h (by first | assumption | rfl) (by decide) rfl (by decide) (by omega) (by omega) dX8_isTruck_7 (fun g7 => ?_)
  refine z_iconst (pc := 8) h dX8_isTruck_8 ?_
  refine z_isub (pc := 9) h dX8_isTruck_9 ?_
  refine z_pS (pc := 10) h (m_X8_in (by omega) (by omega) (by omega)) (by decide) ms_X8_in ml_X8_88 rfl dX8_isTruck_10 rfl (Nat.le_of_ble_eq_true rfl) ?_
  refine z_bret (pc := 13) h rfl dX8_isTruck_13 ?_
  exact ⟨rfl, rfl⟩
theorem m_X8_isOutDoor {σ : zS} {v : Int} (hv : 0 ≤ v ∧ v ≤ 5) : zCp M_X8_isOutDoor 1 [zR 31, zI v] σ (zB (decide (zar σ 31 1 (5 + 2 * v) = 1))) := by
  refine zC_of (M := M_X8_isOutDoor) (ls := [some (zR 31), some (zI v)]) (n := 0) (by decide) (fun ad => Nat.le_of_ble_eq_true rfl) rfl (fun x h => ?_)
  refine z_aloadR_n (pc := 0) h dX8_isOutDoor_0 rfl ?_
  refine z_getA4 (pc := 1) (c := 8) (j := 1) h (by first | assumption | rfl) rfl rfl fl_X8_7 dX8_isOutDoor_1 ?_
  refine z_iconst (pc := 4) h dX8_isOutDoor_4 ?_
  refine z_iconst (pc := 5) h dX8_isOutDoor_5 ?_
  refine z_iload_n (pc := 6) h dX8_isOutDoor_6 rfl ?_
  refine z_imul (pc := 7) h dX8_isOutDoor_7 ?_
  refine z_iadd (pc := 8) h dX8_isOutDoor_8 ?_
  refine z_iald (pc := 9) (c := 8) (j := 1) (L := 610) h (by first | assumption | rfl) (by decide) rfl (by decide) (by omega) (by omega) dX8_isOutDoor_9 (fun g9 => ?_)
  refine z_iconst (pc := 10) h dX8_isOutDoor_10 ?_
  refine z_icmp_ne (pc := 11) (tgt := 18) h (by omega) (by omega) dX8_isOutDoor_11 (by decide) (fun c11 => ?_) (fun c11 => ?_)
  · refine z_iconst (pc := 18) h dX8_isOutDoor_18 ?_
    refine z_zret (pc := 19) h rfl (by omega) dX8_isOutDoor_19 ?_
    first | exact ⟨congrArg some (zB_t (decide_eq_true (by omega))), rfl⟩ | exact ⟨congrArg some (zB_f (decide_eq_false (by omega))), rfl⟩
  · refine z_iconst (pc := 14) h dX8_isOutDoor_14 ?_
    refine z_goto (pc := 15) (tgt := 19) h dX8_isOutDoor_15 (by decide) ?_
    refine z_zret (pc := 19) h rfl (by omega) dX8_isOutDoor_19 ?_
    first | exact ⟨congrArg some (zB_t (decide_eq_true (by omega))), rfl⟩ | exact ⟨congrArg some (zB_f (decide_eq_false (by omega))), rfl⟩
theorem m_X8_of {σ : zS} {t w : Int} (ht : 0 ≤ t ∧ t ≤ 7) (hw : 0 ≤ w ∧ w ≤ 5) : zCp M_X8_of 1 [zR 31, zI t, zI w] σ (zI (zar σ 31 1 (17 + 6 * t + w))) := by
  refine zC_of (M := M_X8_of) (ls := [some (zR 31), some (zI t), some (zI w)]) (n := 0) (by decide) (fun ad => Nat.le_of_ble_eq_true rfl) rfl (fun x h => ?_)
  refine z_aloadR_n (pc := 0) h dX8_of_0 rfl ?_
  refine z_getA4 (pc := 1) (c := 8) (j := 1) h (by first | assumption | rfl) rfl rfl fl_X8_7 dX8_of_1 ?_
  refine z_bipush (pc := 4) h dX8_of_4 (by decide) ?_
  refine z_bipush (pc := 6) h dX8_of_6 (by decide) ?_
  refine z_iload_n (pc := 8) h dX8_of_8 rfl ?_
  refine z_imul (pc := 9) h dX8_of_9 ?_
  refine z_iadd (pc := 10) h dX8_of_10 ?_
  refine z_iload_n (pc := 11) h dX8_of_11 rfl ?_
  refine z_iadd (pc := 12) h dX8_of_12 ?_
  refine z_iald (pc := 13) (c := 8) (j := 1) (L := 610) h (by first | assumption | rfl) (by decide) rfl (by decide) (by omega) (by omega) dX8_of_13 (fun g13 => ?_)
  refine z_iret (pc := 14) h rfl dX8_of_14 ?_
  exact ⟨rfl, rfl⟩
theorem m_X8_isOut {σ : zS} {t : Int} (ht : 0 ≤ t ∧ t ≤ 7) : zCp M_X8_isOut 2 [zR 31, zI t] σ (zB (decide (zar σ 31 1 (17 + 6 * t + 0) = 1))) := by
  refine zC_of (M := M_X8_isOut) (ls := [some (zR 31), some (zI t)]) (n := 0) (by decide) (fun ad => Nat.le_of_ble_eq_true rfl) rfl (fun x h => ?_)
  refine z_rg (fun hrg => ?_)
  have hz : zin (zar σ 31 1 (17 + 6 * t + 0)) := hrg.2 31 1 _
  refine z_aloadR_n (pc := 0) h dX8_isOut_0 rfl ?_
  refine z_iload_n (pc := 1) h dX8_isOut_1 rfl ?_
  refine z_iconst (pc := 2) h dX8_isOut_2 ?_
  refine z_pV (pc := 3) (c := 8) h (m_X8_of (by omega) (by omega)) (by decide) (by first | assumption | rfl) rfl mv_X8_of ml_X8_92 rfl dX8_isOut_3 rfl (Nat.le_of_ble_eq_true rfl) ?_
  refine z_iconst (pc := 6) h dX8_isOut_6 ?_
  refine z_icmp_ne (pc := 7) (tgt := 14) h (by omega) (by omega) dX8_isOut_7 (by decide) (fun c7 => ?_) (fun c7 => ?_)
  · refine z_iconst (pc := 14) h dX8_isOut_14 ?_
    refine z_zret (pc := 15) h rfl (by omega) dX8_isOut_15 ?_
    first | exact ⟨congrArg some (zB_t (decide_eq_true (by omega))), rfl⟩ | exact ⟨congrArg some (zB_f (decide_eq_false (by omega))), rfl⟩
  · refine z_iconst (pc := 10) h dX8_isOut_10 ?_
    refine z_goto (pc := 11) (tgt := 15) h dX8_isOut_11 (by decide) ?_
    refine z_zret (pc := 15) h rfl (by omega) dX8_isOut_15 ?_
    first | exact ⟨congrArg some (zB_t (decide_eq_true (by omega))), rfl⟩ | exact ⟨congrArg some (zB_f (decide_eq_false (by omega))), rfl⟩
theorem m_X8_rowMany {σ : zS} {v : Int} (hv : 0 ≤ v ∧ v ≤ 5) : zCp M_X8_rowMany 1 [zR 31, zI v] σ (zI (zar σ 31 1 (65 + v))) := by
  refine zC_of (M := M_X8_rowMany) (ls := [some (zR 31), some (zI v)]) (n := 0) (by decide) (fun ad => Nat.le_of_ble_eq_true rfl) rfl (fun x h => ?_)
  refine z_aloadR_n (pc := 0) h dX8_rowMany_0 rfl ?_
  refine z_getA4 (pc := 1) (c := 8) (j := 1) h (by first | assumption | rfl) rfl rfl fl_X8_7 dX8_rowMany_1 ?_
  refine z_bipush (pc := 4) h dX8_rowMany_4 (by decide) ?_
  refine z_iload_n (pc := 6) h dX8_rowMany_6 rfl ?_
  refine z_iadd (pc := 7) h dX8_rowMany_7 ?_
  refine z_iald (pc := 8) (c := 8) (j := 1) (L := 610) h (by first | assumption | rfl) (by decide) rfl (by decide) (by omega) (by omega) dX8_rowMany_8 (fun g8 => ?_)
  refine z_iret (pc := 9) h rfl dX8_rowMany_9 ?_
  exact ⟨rfl, rfl⟩
theorem m_X8_rowAt {σ : zS} {v k : Int} (hv : 0 ≤ v ∧ v ≤ 5) (hk : 0 ≤ k ∧ k ≤ 7) : zCp M_X8_rowAt 1 [zR 31, zI v, zI k] σ (zI (zar σ 31 1 (71 + 8 * v + k))) := by
  refine zC_of (M := M_X8_rowAt) (ls := [some (zR 31), some (zI v), some (zI k)]) (n := 0) (by decide) (fun ad => Nat.le_of_ble_eq_true rfl) rfl (fun x h => ?_)
  refine z_aloadR_n (pc := 0) h dX8_rowAt_0 rfl ?_
  refine z_getA4 (pc := 1) (c := 8) (j := 1) h (by first | assumption | rfl) rfl rfl fl_X8_7 dX8_rowAt_1 ?_
  refine z_bipush (pc := 4) h dX8_rowAt_4 (by decide) ?_
  refine z_bipush (pc := 6) h dX8_rowAt_6 (by decide) ?_
  refine z_iload_n (pc := 8) h dX8_rowAt_8 rfl ?_
  refine z_imul (pc := 9) h dX8_rowAt_9 ?_
  refine z_iadd (pc := 10) h dX8_rowAt_10 ?_
  refine z_iload_n (pc := 11) h dX8_rowAt_11 rfl ?_
  refine z_iadd (pc := 12) h dX8_rowAt_12 ?_
  refine z_iald (pc := 13) (c := 8) (j := 1) (L := 610) h (by first | assumption | rfl) (by decide) rfl (by decide) (by omega) (by omega) dX8_rowAt_13 (fun g13 => ?_)
  refine z_iret (pc := 14) h rfl dX8_rowAt_14 ?_
  exact ⟨rfl, rfl⟩
theorem m_X8_travelOf {σ : zS} {v w : Int} (hv : 0 ≤ v ∧ v ≤ 5) (hw : 0 ≤ w ∧ w ≤ 5) (h1 : 0 ≤ zar σ 31 1 (5 + 2 * v + 1) ∧ zar σ 31 1 (5 + 2 * v + 1) ≤ 99) (h2 : 0 ≤ zar σ 31 1 (5 + 2 * w + 1) ∧ zar σ 31 1 (5 + 2 * w + 1) ≤ 99) : zCp M_X8_travelOf 1 [zR 31, zI v, zI w] σ (zI (zway (zar σ 31 1 (5 + 2 * v + 1)) (zar σ 31 1 (5 + 2 * w + 1)))) := by
  refine zC_of (M := M_X8_travelOf) (ls := [some (zR 31), some (zI v), some (zI w), none]) (n := 1) (by decide) (fun ad => Nat.le_of_ble_eq_true rfl) rfl (fun x h => ?_)
  refine z_aloadR_n (pc := 0) h dX8_travelOf_0 rfl ?_
  refine z_getA4 (pc := 1) (c := 8) (j := 1) h (by first | assumption | rfl) rfl rfl fl_X8_7 dX8_travelOf_1 ?_
  refine z_iconst (pc := 4) h dX8_travelOf_4 ?_
  refine z_iconst (pc := 5) h dX8_travelOf_5 ?_
  refine z_iload_n (pc := 6) h dX8_travelOf_6 rfl ?_
  refine z_imul (pc := 7) h dX8_travelOf_7 ?_
  refine z_iadd (pc := 8) h dX8_travelOf_8 ?_
  refine z_iconst (pc := 9) h dX8_travelOf_9 ?_
  refine z_iadd (pc := 10) h dX8_travelOf_10 ?_
  refine z_iald (pc := 11) (c := 8) (j := 1) (L := 610) h (by first | assumption | rfl) (by decide) rfl (by decide) (by omega) (by omega) dX8_travelOf_11 (fun g11 => ?_)
  refine z_aloadR_n (pc := 12) h dX8_travelOf_12 rfl ?_
  refine z_getA4 (pc := 13) (c := 8) (j := 1) h (by first | assumption | rfl) rfl rfl fl_X8_7 dX8_travelOf_13 ?_
  refine z_iconst (pc := 16) h dX8_travelOf_16 ?_
  refine z_iconst (pc := 17) h dX8_travelOf_17 ?_
  refine z_iload_n (pc := 18) h dX8_travelOf_18 rfl ?_
  refine z_imul (pc := 19) h dX8_travelOf_19 ?_
  refine z_iadd (pc := 20) h dX8_travelOf_20 ?_
  refine z_iconst (pc := 21) h dX8_travelOf_21 ?_
  refine z_iadd (pc := 22) h dX8_travelOf_22 ?_
  refine z_iald (pc := 23) (c := 8) (j := 1) (L := 610) h (by first | assumption | rfl) (by decide) rfl (by decide) (by omega) (by omega) dX8_travelOf_23 (fun g23 => ?_)
  refine z_isub (pc := 24) h dX8_travelOf_24 ?_
  refine z_ist_3 (pc := 25) h dX8_travelOf_25 (by decide) rfl ?_
  refine z_iload_n (pc := 26) h dX8_travelOf_26 rfl ?_
  refine z_if_ge (pc := 27) (tgt := 35) h (by omega) dX8_travelOf_27 (by decide) (fun c27 => ?_) (fun c27 => ?_)
  · refine z_iload_n (pc := 35) h dX8_travelOf_35 rfl ?_
    refine z_bipush (pc := 36) h dX8_travelOf_36 (by decide) ?_
    refine z_iadd (pc := 38) h dX8_travelOf_38 ?_
    refine z_bipush (pc := 39) h dX8_travelOf_39 (by decide) ?_
    refine z_idiv (pc := 41) h (by omega) (by omega) dX8_travelOf_41 ?_
    refine z_iret (pc := 42) h rfl dX8_travelOf_42 ?_
    first | exact ⟨congrArg (fun z => some (zI z)) (by rw [← zway_t (by omega)]; congr 1; omega), rfl⟩ | exact ⟨congrArg (fun z => some (zI z)) (zway_f (by omega)), rfl⟩
  · refine z_iload_n (pc := 30) h dX8_travelOf_30 rfl ?_
    refine z_ineg (pc := 31) h dX8_travelOf_31 ?_
    refine z_goto (pc := 32) (tgt := 36) h dX8_travelOf_32 (by decide) ?_
    refine z_bipush (pc := 36) h dX8_travelOf_36 (by decide) ?_
    refine z_iadd (pc := 38) h dX8_travelOf_38 ?_
    refine z_bipush (pc := 39) h dX8_travelOf_39 (by decide) ?_
    refine z_idiv (pc := 41) h (by omega) (by omega) dX8_travelOf_41 ?_
    refine z_iret (pc := 42) h rfl dX8_travelOf_42 ?_
    first | exact ⟨congrArg (fun z => some (zI z)) (by rw [← zway_t (by omega)]; congr 1; omega), rfl⟩ | exact ⟨congrArg (fun z => some (zI z)) (zway_f (by omega)), rfl⟩
theorem m_X1_wayBetween {σ : zS} {v w : Int} (h1 : 0 ≤ v ∧ v ≤ 99) (h2 : 0 ≤ w ∧ w ≤ 99) : zCp M_X1_wayBetween 1 [zI v, zI w] σ (zI (zway v w)) := by
  refine zC_of (M := M_X1_wayBetween) (ls := [some (zI v), some (zI w), none]) (n := 1) (by decide) (fun ad => Nat.le_of_ble_eq_true rfl) rfl (fun x h => ?_)
  refine z_iload_n (pc := 0) h dX1_wayBetween_0 rfl ?_
  refine z_iload_n (pc := 1) h dX1_wayBetween_1 rfl ?_
  refine z_icmp_ge (pc := 2) (tgt := 11) h (by omega) (by omega) dX1_wayBetween_2 (by decide) (fun c2 => ?_) (fun c2 => ?_)
  · refine z_iload_n (pc := 11) h dX1_wayBetween_11 rfl ?_
    refine z_iload_n (pc := 12) h dX1_wayBetween_12 rfl ?_
    refine z_isub (pc := 13) h dX1_wayBetween_13 ?_
    refine z_ist_2 (pc := 14) h dX1_wayBetween_14 (by decide) rfl ?_
    refine z_iload_n (pc := 15) h dX1_wayBetween_15 rfl ?_
    refine z_bipush (pc := 16) h dX1_wayBetween_16 (by decide) ?_
    refine z_iadd (pc := 18) h dX1_wayBetween_18 ?_
    refine z_bipush (pc := 19) h dX1_wayBetween_19 (by decide) ?_
    refine z_idiv (pc := 21) h (by omega) (by omega) dX1_wayBetween_21 ?_
    refine z_iret (pc := 22) h rfl dX1_wayBetween_22 ?_
    first | exact ⟨congrArg (fun z => some (zI z)) (zway_t (by omega)), rfl⟩ | exact ⟨congrArg (fun z => some (zI z)) (zway_f (by omega)), rfl⟩
  · refine z_iload_n (pc := 5) h dX1_wayBetween_5 rfl ?_
    refine z_iload_n (pc := 6) h dX1_wayBetween_6 rfl ?_
    refine z_isub (pc := 7) h dX1_wayBetween_7 ?_
    refine z_goto (pc := 8) (tgt := 14) h dX1_wayBetween_8 (by decide) ?_
    refine z_ist_2 (pc := 14) h dX1_wayBetween_14 (by decide) rfl ?_
    refine z_iload_n (pc := 15) h dX1_wayBetween_15 rfl ?_
    refine z_bipush (pc := 16) h dX1_wayBetween_16 (by decide) ?_
    refine z_iadd (pc := 18) h dX1_wayBetween_18 ?_
    refine z_bipush (pc := 19) h dX1_wayBetween_19 (by decide) ?_
    refine z_idiv (pc := 21) h (by omega) (by omega) dX1_wayBetween_21 ?_
    refine z_iret (pc := 22) h rfl dX1_wayBetween_22 ?_
    first | exact ⟨congrArg (fun z => some (zI z)) (zway_t (by omega)), rfl⟩ | exact ⟨congrArg (fun z => some (zI z)) (zway_f (by omega)), rfl⟩
theorem m_X1_hasDoor {σ : zS} {o : Nat} {v : Int} (ho : zoc o = 1) (hv : zin v) : zCp M_X1_hasDoor 1 [zR o, zI v] σ (zB (decide (0 ≤ v ∧ v < zsc σ o 0))) := by
  refine zC_of (M := M_X1_hasDoor) (ls := [some (zR o), some (zI v)]) (n := 0) (by decide) (fun ad => Nat.le_of_ble_eq_true rfl) rfl (fun x h => ?_)
  refine z_iload_n (pc := 0) h dX1_hasDoor_0 rfl ?_
  refine z_if_lt (pc := 1) (tgt := 16) h (by omega) dX1_hasDoor_1 (by decide) (fun c1 => ?_) (fun c1 => ?_)
  · refine z_iconst (pc := 16) h dX1_hasDoor_16 ?_
    refine z_zret (pc := 17) h rfl (by omega) dX1_hasDoor_17 ?_
    first | exact ⟨congrArg some (zB_t (decide_eq_true (by omega))), rfl⟩ | exact ⟨congrArg some (zB_f (decide_eq_false (by omega))), rfl⟩
  · refine z_iload_n (pc := 4) h dX1_hasDoor_4 rfl ?_
    refine z_aloadR_n (pc := 5) h dX1_hasDoor_5 rfl ?_
    refine z_getI (pc := 6) (c := 1) (j := 0) h (by first | assumption | rfl) rfl rfl fl_X1_52 dX1_hasDoor_6 (fun g6 => ?_)
    refine z_icmp_ge (pc := 9) (tgt := 16) h (by omega) (by omega) dX1_hasDoor_9 (by decide) (fun c9 => ?_) (fun c9 => ?_)
    · refine z_iconst (pc := 16) h dX1_hasDoor_16 ?_
      refine z_zret (pc := 17) h rfl (by omega) dX1_hasDoor_17 ?_
      first | exact ⟨congrArg some (zB_t (decide_eq_true (by omega))), rfl⟩ | exact ⟨congrArg some (zB_f (decide_eq_false (by omega))), rfl⟩
    · refine z_iconst (pc := 12) h dX1_hasDoor_12 ?_
      refine z_goto (pc := 13) (tgt := 17) h dX1_hasDoor_13 (by decide) ?_
      refine z_zret (pc := 17) h rfl (by omega) dX1_hasDoor_17 ?_
      first | exact ⟨congrArg some (zB_t (decide_eq_true (by omega))), rfl⟩ | exact ⟨congrArg some (zB_f (decide_eq_false (by omega))), rfl⟩
theorem m_X1_hasTruck {σ : zS} {o : Nat} {v : Int} (ho : zoc o = 1) (hv : zin v) : zCp M_X1_hasTruck 1 [zR o, zI v] σ (zB (decide (0 ≤ v ∧ v < zsc σ o 1))) := by
  refine zC_of (M := M_X1_hasTruck) (ls := [some (zR o), some (zI v)]) (n := 0) (by decide) (fun ad => Nat.le_of_ble_eq_true rfl) rfl (fun x h => ?_)
  refine z_iload_n (pc := 0) h dX1_hasTruck_0 rfl ?_
  refine z_if_lt (pc := 1) (tgt := 16) h (by omega) dX1_hasTruck_1 (by decide) (fun c1 => ?_) (fun c1 => ?_)
  · refine z_iconst (pc := 16) h dX1_hasTruck_16 ?_
    refine z_zret (pc := 17) h rfl (by omega) dX1_hasTruck_17 ?_
    first | exact ⟨congrArg some (zB_t (decide_eq_true (by omega))), rfl⟩ | exact ⟨congrArg some (zB_f (decide_eq_false (by omega))), rfl⟩
  · refine z_iload_n (pc := 4) h dX1_hasTruck_4 rfl ?_
    refine z_aloadR_n (pc := 5) h dX1_hasTruck_5 rfl ?_
    refine z_getI (pc := 6) (c := 1) (j := 1) h (by first | assumption | rfl) rfl rfl fl_X1_55 dX1_hasTruck_6 (fun g6 => ?_)
    refine z_icmp_ge (pc := 9) (tgt := 16) h (by omega) (by omega) dX1_hasTruck_9 (by decide) (fun c9 => ?_) (fun c9 => ?_)
    · refine z_iconst (pc := 16) h dX1_hasTruck_16 ?_
      refine z_zret (pc := 17) h rfl (by omega) dX1_hasTruck_17 ?_
      first | exact ⟨congrArg some (zB_t (decide_eq_true (by omega))), rfl⟩ | exact ⟨congrArg some (zB_f (decide_eq_false (by omega))), rfl⟩
    · refine z_iconst (pc := 12) h dX1_hasTruck_12 ?_
      refine z_goto (pc := 13) (tgt := 17) h dX1_hasTruck_13 (by decide) ?_
      refine z_zret (pc := 17) h rfl (by omega) dX1_hasTruck_17 ?_
      first | exact ⟨congrArg some (zB_t (decide_eq_true (by omega))), rfl⟩ | exact ⟨congrArg some (zB_f (decide_eq_false (by omega))), rfl⟩
theorem m_X1_hasCarton {σ : zS} {o : Nat} {v : Int} (ho : zoc o = 1) (hv : zin v) : zCp M_X1_hasCarton 1 [zR o, zI v] σ (zB (decide (0 ≤ v ∧ v < zsc σ o 2))) := by
  refine zC_of (M := M_X1_hasCarton) (ls := [some (zR o), some (zI v)]) (n := 0) (by decide) (fun ad => Nat.le_of_ble_eq_true rfl) rfl (fun x h => ?_)
  refine z_iload_n (pc := 0) h dX1_hasCarton_0 rfl ?_
  refine z_if_lt (pc := 1) (tgt := 16) h (by omega) dX1_hasCarton_1 (by decide) (fun c1 => ?_) (fun c1 => ?_)
  · refine z_iconst (pc := 16) h dX1_hasCarton_16 ?_
    refine z_zret (pc := 17) h rfl (by omega) dX1_hasCarton_17 ?_
    first | exact ⟨congrArg some (zB_t (decide_eq_true (by omega))), rfl⟩ | exact ⟨congrArg some (zB_f (decide_eq_false (by omega))), rfl⟩
  · refine z_iload_n (pc := 4) h dX1_hasCarton_4 rfl ?_
    refine z_aloadR_n (pc := 5) h dX1_hasCarton_5 rfl ?_
    refine z_getI (pc := 6) (c := 1) (j := 2) h (by first | assumption | rfl) rfl rfl fl_X1_58 dX1_hasCarton_6 (fun g6 => ?_)
    refine z_icmp_ge (pc := 9) (tgt := 16) h (by omega) (by omega) dX1_hasCarton_9 (by decide) (fun c9 => ?_) (fun c9 => ?_)
    · refine z_iconst (pc := 16) h dX1_hasCarton_16 ?_
      refine z_zret (pc := 17) h rfl (by omega) dX1_hasCarton_17 ?_
      first | exact ⟨congrArg some (zB_t (decide_eq_true (by omega))), rfl⟩ | exact ⟨congrArg some (zB_f (decide_eq_false (by omega))), rfl⟩
    · refine z_iconst (pc := 12) h dX1_hasCarton_12 ?_
      refine z_goto (pc := 13) (tgt := 17) h dX1_hasCarton_13 (by decide) ?_
      refine z_zret (pc := 17) h rfl (by omega) dX1_hasCarton_17 ?_
      first | exact ⟨congrArg some (zB_t (decide_eq_true (by omega))), rfl⟩ | exact ⟨congrArg some (zB_f (decide_eq_false (by omega))), rfl⟩
theorem m_X3_isInRow {σ : zS} {o : Nat} {v : Int} (ho : zoc o = 3) (hv : zin v) : zCp M_X3_isInRow 1 [zR o, zI v] σ (zB (decide (0 ≤ v ∧ v < 8 ∧ zar σ o 0 v ≠ -1))) := by
  refine zC_of (M := M_X3_isInRow) (ls := [some (zR o), some (zI v)]) (n := 0) (by decide) (fun ad => Nat.le_of_ble_eq_true rfl) rfl (fun x h => ?_)
  refine z_iload_n (pc := 0) h dX3_isInRow_0 rfl ?_
  refine z_if_lt (pc := 1) (tgt := 24) h (by omega) dX3_isInRow_1 (by decide) (fun c1 => ?_) (fun c1 => ?_)
  · refine z_iconst (pc := 24) h dX3_isInRow_24 ?_
    refine z_zret (pc := 25) h rfl (by omega) dX3_isInRow_25 ?_
    first | exact ⟨congrArg some (zB_t (decide_eq_true (by omega))), rfl⟩ | exact ⟨congrArg some (zB_f (decide_eq_false (by omega))), rfl⟩
  · refine z_iload_n (pc := 4) h dX3_isInRow_4 rfl ?_
    refine z_bipush (pc := 5) h dX3_isInRow_5 (by decide) ?_
    refine z_icmp_ge (pc := 7) (tgt := 24) h (by omega) (by omega) dX3_isInRow_7 (by decide) (fun c7 => ?_) (fun c7 => ?_)
    · refine z_iconst (pc := 24) h dX3_isInRow_24 ?_
      refine z_zret (pc := 25) h rfl (by omega) dX3_isInRow_25 ?_
      first | exact ⟨congrArg some (zB_t (decide_eq_true (by omega))), rfl⟩ | exact ⟨congrArg some (zB_f (decide_eq_false (by omega))), rfl⟩
    · refine z_aloadR_n (pc := 10) h dX3_isInRow_10 rfl ?_
      refine z_getA4 (pc := 11) (c := 3) (j := 0) h (by first | assumption | rfl) rfl rfl fl_X3_9 dX3_isInRow_11 ?_
      refine z_iload_n (pc := 14) h dX3_isInRow_14 rfl ?_
      refine z_iald (pc := 15) (c := 3) (j := 0) (L := 8) h (by first | assumption | rfl) (by decide) rfl (by decide) (by omega) (by omega) dX3_isInRow_15 (fun g15 => ?_)
      refine z_iconst (pc := 16) h dX3_isInRow_16 ?_
      refine z_icmp_eq (pc := 17) (tgt := 24) h (by omega) (by omega) dX3_isInRow_17 (by decide) (fun c17 => ?_) (fun c17 => ?_)
      · refine z_iconst (pc := 24) h dX3_isInRow_24 ?_
        refine z_zret (pc := 25) h rfl (by omega) dX3_isInRow_25 ?_
        first | exact ⟨congrArg some (zB_t (decide_eq_true (by omega))), rfl⟩ | exact ⟨congrArg some (zB_f (decide_eq_false (by omega))), rfl⟩
      · refine z_iconst (pc := 20) h dX3_isInRow_20 ?_
        refine z_goto (pc := 21) (tgt := 25) h dX3_isInRow_21 (by decide) ?_
        refine z_zret (pc := 25) h rfl (by omega) dX3_isInRow_25 ?_
        first | exact ⟨congrArg some (zB_t (decide_eq_true (by omega))), rfl⟩ | exact ⟨congrArg some (zB_f (decide_eq_false (by omega))), rfl⟩
theorem m_X3_isAt {σ : zS} {o : Nat} {t d k : Int} (ho : zoc o = 3) (ht : 0 ≤ t ∧ t ≤ 7) (hd : zin d) (hk : zin k) : zCp M_X3_isAt 1 [zR o, zI t, zI d, zI k] σ (zB (decide (zar σ o 0 t = d ∧ zar σ o 1 t = k))) := by
  refine zC_of (M := M_X3_isAt) (ls := [some (zR o), some (zI t), some (zI d), some (zI k)]) (n := 0) (by decide) (fun ad => Nat.le_of_ble_eq_true rfl) rfl (fun x h => ?_)
  refine z_aloadR_n (pc := 0) h dX3_isAt_0 rfl ?_
  refine z_getA4 (pc := 1) (c := 3) (j := 0) h (by first | assumption | rfl) rfl rfl fl_X3_9 dX3_isAt_1 ?_
  refine z_iload_n (pc := 4) h dX3_isAt_4 rfl ?_
  refine z_iald (pc := 5) (c := 3) (j := 0) (L := 8) h (by first | assumption | rfl) (by decide) rfl (by decide) (by omega) (by omega) dX3_isAt_5 (fun g5 => ?_)
  refine z_iload_n (pc := 6) h dX3_isAt_6 rfl ?_
  refine z_icmp_ne (pc := 7) (tgt := 24) h (by omega) (by omega) dX3_isAt_7 (by decide) (fun c7 => ?_) (fun c7 => ?_)
  · refine z_iconst (pc := 24) h dX3_isAt_24 ?_
    refine z_zret (pc := 25) h rfl (by omega) dX3_isAt_25 ?_
    first | exact ⟨congrArg some (zB_t (decide_eq_true (by omega))), rfl⟩ | exact ⟨congrArg some (zB_f (decide_eq_false (by omega))), rfl⟩
  · refine z_aloadR_n (pc := 10) h dX3_isAt_10 rfl ?_
    refine z_getA4 (pc := 11) (c := 3) (j := 1) h (by first | assumption | rfl) rfl rfl fl_X3_15 dX3_isAt_11 ?_
    refine z_iload_n (pc := 14) h dX3_isAt_14 rfl ?_
    refine z_iald (pc := 15) (c := 3) (j := 1) (L := 8) h (by first | assumption | rfl) (by decide) rfl (by decide) (by omega) (by omega) dX3_isAt_15 (fun g15 => ?_)
    refine z_iload_n (pc := 16) h dX3_isAt_16 rfl ?_
    refine z_icmp_ne (pc := 17) (tgt := 24) h (by omega) (by omega) dX3_isAt_17 (by decide) (fun c17 => ?_) (fun c17 => ?_)
    · refine z_iconst (pc := 24) h dX3_isAt_24 ?_
      refine z_zret (pc := 25) h rfl (by omega) dX3_isAt_25 ?_
      first | exact ⟨congrArg some (zB_t (decide_eq_true (by omega))), rfl⟩ | exact ⟨congrArg some (zB_f (decide_eq_false (by omega))), rfl⟩
    · refine z_iconst (pc := 20) h dX3_isAt_20 ?_
      refine z_goto (pc := 21) (tgt := 25) h dX3_isAt_21 (by decide) ?_
      refine z_zret (pc := 25) h rfl (by omega) dX3_isAt_25 ?_
      first | exact ⟨congrArg some (zB_t (decide_eq_true (by omega))), rfl⟩ | exact ⟨congrArg some (zB_f (decide_eq_false (by omega))), rfl⟩
