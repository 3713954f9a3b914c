/-! The model: row, staged, at, travel, fault. -/
theorem m8_row {σ : zS} {m : zOb} {T : T3} {d k : Int} (hT : OKT T) (e1 : m.2 1 = T.2.2) (hd : zin d) (hk : zin k) : zC M_X8_row 3 [zR 31, zI d, zI k] (zo σ 31 m) (fun r τ' => r = some (zI (rwQ T d k)) ∧ ∃ m', τ' = zo σ 31 m' ∧ MQ8 m m') := by
  have h6 := hT.1.1
  have hM : MQ8 m (oss m 0 0) := ⟨⟨rfl, rfl, rfl⟩, rfl, rfl, rfl⟩
  have hx1 : (oss m 0 0).2 1 = T.2.2 := e1
  unfold rwQ
  refine zC_of (M := M_X8_row) (ls := [some (zR 31), some (zI d), some (zI k)]) (n := 0) (by decide) (fun ad => Nat.le_of_ble_eq_true rfl) rfl (fun x h => ?_)
  refine z_aloadR_n (pc := 0) h dX8_row_0 rfl ?_
  refine z_iconst (pc := 1) h dX8_row_1 ?_
  refine z_putIo (pc := 2) (c := 8) (j := 0) h (by first | assumption | rfl) rfl rfl fl_X8_84 rfl (tyX8_ok 0 (by decide)) dX8_row_2 (by omega) ?_
  generalize oss m 0 0 = y at hM hx1 ⊢
  have e10 : y.2 1 0 = T.2.2 0 := by rw [hx1]
  have e65 : y.2 1 (65 + d) = T.2.2 (65 + d) := by rw [hx1]
  refine z_aloadR_n (pc := 5) h dX8_row_5 rfl ?_
  refine z_iload_n (pc := 6) h dX8_row_6 rfl ?_
  refine z_pV (pc := 7) (c := 8) h (m8_isDoor (by omega) (by omega)) (by decide) (by first | assumption | rfl) rfl mv_X8_isDoor ml_X8_293 rfl dX8_row_7 rfl (Nat.le_of_ble_eq_true rfl) ?_
  refine z_ifeqB (pc := 10) (tgt := 37) h dX8_row_10 (by decide) (fun c10 => ?_) (fun c10 => ?_)
  · refine z_iconst (pc := 37) h dX8_row_37 ?_
    refine z_iret (pc := 38) h rfl dX8_row_38 ?_
    first
    | (have z := of_decide_eq_false c10; rw [if_neg (fun q => z (by omega))]; exact ⟨rfl, _, rfl, hM⟩)
    | (have z := of_decide_eq_false c25; rw [if_neg (fun q => z (by omega))]; exact ⟨rfl, _, rfl, hM⟩)
    | (rw [if_pos (by omega), ← hx1]; exact ⟨rfl, _, rfl, hM⟩)
  · have z1 := of_decide_eq_true c10
    have h65 := hT.2.1.wfr.1 d (by omega) (by omega)
    refine z_iload_n (pc := 13) h dX8_row_13 rfl ?_
    refine z_iconst (pc := 14) h dX8_row_14 ?_
    refine z_aloadR_n (pc := 15) h dX8_row_15 rfl ?_
    refine z_iload_n (pc := 16) h dX8_row_16 rfl ?_
    refine z_pV (pc := 17) (c := 8) h (m8_rowMany (by omega)) (by decide) (by first | assumption | rfl) rfl mv_X8_rowMany ml_X8_191 rfl dX8_row_17 rfl (Nat.le_of_ble_eq_true rfl) ?_
    refine z_iconst (pc := 20) h dX8_row_20 ?_
    refine z_isub (pc := 21) h dX8_row_21 ?_
    refine z_pS (pc := 22) h (m8_in (by omega) (by omega) (by omega)) (by decide) ms_X8_in ml_X8_88 rfl dX8_row_22 rfl (Nat.le_of_ble_eq_true rfl) ?_
    refine z_ifeqB (pc := 25) (tgt := 37) h dX8_row_25 (by decide) (fun c25 => ?_) (fun c25 => ?_)
    · refine z_iconst (pc := 37) h dX8_row_37 ?_
      refine z_iret (pc := 38) h rfl dX8_row_38 ?_
      first
      | (have z := of_decide_eq_false c10; rw [if_neg (fun q => z (by omega))]; exact ⟨rfl, _, rfl, hM⟩)
      | (have z := of_decide_eq_false c25; rw [if_neg (fun q => z (by omega))]; exact ⟨rfl, _, rfl, hM⟩)
      | (rw [if_pos (by omega), ← hx1]; exact ⟨rfl, _, rfl, hM⟩)
    · have z2 := of_decide_eq_true c25
      refine z_aloadR_n (pc := 28) h dX8_row_28 rfl ?_
      refine z_iload_n (pc := 29) h dX8_row_29 rfl ?_
      refine z_iload_n (pc := 30) h dX8_row_30 rfl ?_
      refine z_pV (pc := 31) (c := 8) h (m8_rowAt (by omega) (by omega)) (by decide) (by first | assumption | rfl) rfl mv_X8_rowAt ml_X8_205 rfl dX8_row_31 rfl (Nat.le_of_ble_eq_true rfl) ?_
      refine z_goto (pc := 34) (tgt := 38) h dX8_row_34 (by decide) ?_
      refine z_iret (pc := 38) h rfl dX8_row_38 ?_
      first
      | (have z := of_decide_eq_false c10; rw [if_neg (fun q => z (by omega))]; exact ⟨rfl, _, rfl, hM⟩)
      | (have z := of_decide_eq_false c25; rw [if_neg (fun q => z (by omega))]; exact ⟨rfl, _, rfl, hM⟩)
      | (rw [if_pos (by omega), ← hx1]; exact ⟨rfl, _, rfl, hM⟩)
theorem m8_travel {σ : zS} {m : zOb} {T : T3} {d e : Int} (hT : OKT T) (e1 : m.2 1 = T.2.2) (hd : zin d) (he : zin e) : zC M_X8_travel 3 [zR 31, zI d, zI e] (zo σ 31 m) (fun r τ' => r = some (zI (tvQ T d e)) ∧ ∃ m', τ' = zo σ 31 m' ∧ MQ8 m m') := by
  have h6 := hT.1.1
  have hM : MQ8 m (oss m 0 0) := ⟨⟨rfl, rfl, rfl⟩, rfl, rfl, rfl⟩
  have hx1 : (oss m 0 0).2 1 = T.2.2 := e1
  unfold tvQ
  refine zC_of (M := M_X8_travel) (ls := [some (zR 31), some (zI d), some (zI e)]) (n := 0) (by decide) (fun ad => Nat.le_of_ble_eq_true rfl) rfl (fun x h => ?_)
  refine z_aloadR_n (pc := 0) h dX8_travel_0 rfl ?_
  refine z_iconst (pc := 1) h dX8_travel_1 ?_
  refine z_putIo (pc := 2) (c := 8) (j := 0) h (by first | assumption | rfl) rfl rfl fl_X8_84 rfl (tyX8_ok 0 (by decide)) dX8_travel_2 (by omega) ?_
  generalize oss m 0 0 = y at hM hx1 ⊢
  have e10 : y.2 1 0 = T.2.2 0 := by rw [hx1]
  have hdn := hT.1.2.2.2.2.2.1
  rw [← hx1] at hdn
  refine z_aloadR_n (pc := 5) h dX8_travel_5 rfl ?_
  refine z_iload_n (pc := 6) h dX8_travel_6 rfl ?_
  refine z_pV (pc := 7) (c := 8) h (m8_isDoor (by omega) (by omega)) (by decide) (by first | assumption | rfl) rfl mv_X8_isDoor ml_X8_293 rfl dX8_travel_7 rfl (Nat.le_of_ble_eq_true rfl) ?_
  refine z_ifeqB (pc := 10) (tgt := 30) h dX8_travel_10 (by decide) (fun c10 => ?_) (fun c10 => ?_)
  · refine z_iconst (pc := 30) h dX8_travel_30 ?_
    refine z_iret (pc := 31) h rfl dX8_travel_31 ?_
    first
    | (have z := of_decide_eq_false c10; rw [if_neg (fun q => z (by omega))]; exact ⟨rfl, _, rfl, hM⟩)
    | (have z := of_decide_eq_false c18; rw [if_neg (fun q => z (by omega))]; exact ⟨rfl, _, rfl, hM⟩)
    | (rw [if_pos (by omega), ← hx1]; exact ⟨rfl, _, rfl, hM⟩)
  · refine z_aloadR_n (pc := 13) h dX8_travel_13 rfl ?_
    refine z_iload_n (pc := 14) h dX8_travel_14 rfl ?_
    refine z_pV (pc := 15) (c := 8) h (m8_isDoor (by omega) (by omega)) (by decide) (by first | assumption | rfl) rfl mv_X8_isDoor ml_X8_293 rfl dX8_travel_15 rfl (Nat.le_of_ble_eq_true rfl) ?_
    refine z_ifeqB (pc := 18) (tgt := 30) h dX8_travel_18 (by decide) (fun c18 => ?_) (fun c18 => ?_)
    · refine z_iconst (pc := 30) h dX8_travel_30 ?_
      refine z_iret (pc := 31) h rfl dX8_travel_31 ?_
      first
      | (have z := of_decide_eq_false c10; rw [if_neg (fun q => z (by omega))]; exact ⟨rfl, _, rfl, hM⟩)
      | (have z := of_decide_eq_false c18; rw [if_neg (fun q => z (by omega))]; exact ⟨rfl, _, rfl, hM⟩)
      | (rw [if_pos (by omega), ← hx1]; exact ⟨rfl, _, rfl, hM⟩)
    · have z1 := of_decide_eq_true c10
      have z2 := of_decide_eq_true c18
      have w1 := (hdn d (by omega) (by omega)).2
      have w2 := (hdn e (by omega) (by omega)).2
      refine z_aloadR_n (pc := 21) h dX8_travel_21 rfl ?_
      refine z_iload_n (pc := 22) h dX8_travel_22 rfl ?_
      refine z_iload_n (pc := 23) h dX8_travel_23 rfl ?_
      refine z_pV (pc := 24) (c := 8) h (m8_travelOf (by omega) (by omega) (by omega) (by omega)) (by decide) (by first | assumption | rfl) rfl mv_X8_travelOf ml_X8_211 rfl dX8_travel_24 rfl (Nat.le_of_ble_eq_true rfl) ?_
      refine z_goto (pc := 27) (tgt := 31) h dX8_travel_27 (by decide) ?_
      refine z_iret (pc := 31) h rfl dX8_travel_31 ?_
      first
      | (have z := of_decide_eq_false c10; rw [if_neg (fun q => z (by omega))]; exact ⟨rfl, _, rfl, hM⟩)
      | (have z := of_decide_eq_false c18; rw [if_neg (fun q => z (by omega))]; exact ⟨rfl, _, rfl, hM⟩)
      | (rw [if_pos (by omega), ← hx1]; exact ⟨rfl, _, rfl, hM⟩)
theorem m8_fault {σ : zS} {m : zOb} {b : Bool} : zC M_X8_fault 1 [zR 31, zB b] (zo σ 31 m) (fun r τ' => r = some (zI (if b = true then m.2 1 121 else m.2 1 120)) ∧ ∃ m', τ' = zo σ 31 m' ∧ MQ8 m m') := by
  have hM : MQ8 m (oss m 0 0) := ⟨⟨rfl, rfl, rfl⟩, rfl, rfl, rfl⟩
  refine zC_of (M := M_X8_fault) (ls := [some (zR 31), some (zB b)]) (n := 0) (by decide) (fun ad => Nat.le_of_ble_eq_true rfl) rfl (fun x h => ?_)
  refine z_aloadR_n (pc := 0) h dX8_fault_0 rfl ?_
  refine z_iconst (pc := 1) h dX8_fault_1 ?_
  refine z_putIo (pc := 2) (c := 8) (j := 0) h (by first | assumption | rfl) rfl rfl fl_X8_84 rfl (tyX8_ok 0 (by decide)) dX8_fault_2 (by omega) ?_
  refine z_iload_n (pc := 5) h dX8_fault_5 rfl ?_
  refine z_ifeqB (pc := 6) (tgt := 19) h dX8_fault_6 (by decide) (fun c6 => ?_) (fun c6 => ?_)
  · refine z_aloadR_n (pc := 19) h dX8_fault_19 rfl ?_
    refine z_getA4 (pc := 20) (c := 8) (j := 1) h (by first | assumption | rfl) rfl rfl fl_X8_7 dX8_fault_20 ?_
    refine z_bipush (pc := 23) h dX8_fault_23 (by decide) ?_
    refine z_ialdq (pc := 25) (c := 8) (j := 1) (L := 610) h (zo_s _ _ _) (by first | assumption | rfl) (by decide) rfl (by decide) (by omega) (by omega) dX8_fault_25 (fun g25 => ?_)
    try simp only [osa_1, osa_2, oss_1, oss_2, osA_1, osA_2, zup_s, reduceIte, Nat.reduceEqDiff] at g25 ⊢
    refine z_iret (pc := 26) h rfl dX8_fault_26 ?_
    rw [c6]
    exact ⟨rfl, _, rfl, hM⟩
  · refine z_aloadR_n (pc := 9) h dX8_fault_9 rfl ?_
    refine z_getA4 (pc := 10) (c := 8) (j := 1) h (by first | assumption | rfl) rfl rfl fl_X8_7 dX8_fault_10 ?_
    refine z_bipush (pc := 13) h dX8_fault_13 (by decide) ?_
    refine z_ialdq (pc := 15) (c := 8) (j := 1) (L := 610) h (zo_s _ _ _) (by first | assumption | rfl) (by decide) rfl (by decide) (by omega) (by omega) dX8_fault_15 (fun g15 => ?_)
    try simp only [osa_1, osa_2, oss_1, oss_2, osA_1, osA_2, zup_s, reduceIte, Nat.reduceEqDiff] at g15 ⊢
    refine z_goto (pc := 16) (tgt := 26) h dX8_fault_16 (by decide) ?_
    refine z_iret (pc := 26) h rfl dX8_fault_26 ?_
    rw [c6]
    exact ⟨rfl, _, rfl, hM⟩
theorem m8_staged {σ : zS} {m : zOb} {T : T3} {w z : Int} (hT : OKT T) (e1 : m.2 1 = T.2.2) (hw : zin w) (hz : zin z) : zC M_X8_staged 6 [zR 31, zI w, zI z] (zo σ 31 m) (fun r τ' => r = some (zI (sgQ T w z)) ∧ ∃ m', τ' = zo σ 31 m' ∧ MQ8 m m') := by
  have hY := run_YR (m := oss m 0 0) hT e1
  have hrb := rc_b hT
  have hwa : WFa ((oss m 0 0).2 1) := by show WFa (m.2 1); rw [e1]; exact hT.1
  have hwr : WFr ((oss m 0 0).2 1) := by show WFr (m.2 1); rw [e1]; exact hT.2.1.wfr
  have hM0 : MQ8 m (oss m 0 0) := ⟨⟨rfl, rfl, rfl⟩, rfl, rfl, rfl⟩
  unfold sgQ
  refine zC_of (M := M_X8_staged) (ls := [some (zR 31), some (zI w), some (zI z), none, none, none, none]) (n := 4) (by decide) (fun ad => Nat.le_of_ble_eq_true rfl) rfl (fun x h => ?_)
  have L : ∀ y : zOb, YR T (oss m 0 0) y → 0 ≤ w ∧ w ≤ 199 → -1 ≤ z ∧ z ≤ 3 → ∀ (n : Nat) (i acc : Int) (l6 : Option Value), 0 ≤ i → i ≤ y.1 20 → y.1 20 - i < n → 0 ≤ acc → acc ≤ i → acc = zcnt (fun c => decide ((z = -1 ∨ y.2 22 c = z) ∧ y.2 23 c ≠ -1 ∧ y.2 23 c ≤ w ∧ (y.2 24 c = -1 ∨ w < y.2 24 c))) i → zW x (fun r τ' => r = some (zI (s_stA (ra T.2.2) w z)) ∧ ∃ m', τ' = zo σ 31 m' ∧ MQ8 m m') 38 [some (zR 31), some (zI w), some (zI z), some (zI acc), some (zI (rc T.2.2)), some (zI i), l6] [] (zo σ 31 y) := by
    intro y hYY hw1 hz1 n
    have hM := hYY.mq e1
    have hst := hYY.st w z
    obtain ⟨hS, hD, k3, k4, hE, -⟩ := hYY
    have hn := hS.2.2.2.1
    induction n with
    | zero => intro i acc l6 h1 h2 h3; omega
    | succ n ih =>
      intro i acc l6 h1 h2 h3 a0 a1 ha
      have hS1 := zcnt_S (fun c => decide ((z = -1 ∨ y.2 22 c = z) ∧ y.2 23 c ≠ -1 ∧ y.2 23 c ≤ w ∧ (y.2 24 c = -1 ∨ w < y.2 24 c))) h1
      rw [← ha] at hS1
      refine z_iload (pc := 38) h dX8_staged_38 rfl ?_
      refine z_aloadR_n (pc := 40) h dX8_staged_40 rfl ?_
      refine z_getIq (pc := 41) (c := 8) (j := 20) h (zo_s _ _ _) (by first | assumption | rfl) rfl rfl fl_X8_202 dX8_staged_41 (fun g41 => ?_)
      refine z_icmp_ge (pc := 44) (tgt := 138) h (by omega) (by omega) dX8_staged_44 (by decide) (fun c44 => ?_) (fun c44 => ?_)
      · refine z_iload_n (pc := 138) h dX8_staged_138 rfl ?_
        refine z_iret (pc := 139) h rfl dX8_staged_139 ?_
        refine ⟨congrArg (fun z => some (zI z)) ?_, _, rfl, hM⟩
        rw [← hst, ha, show i = y.1 20 by omega]
        rfl
      · refine z_iload (pc := 47) h dX8_staged_47 rfl ?_
        refine z_if_lt (pc := 49) (tgt := 138) h (by omega) dX8_staged_49 (by decide) (fun c49 => ?_) (fun c49 => ?_)
        · refine z_iload_n (pc := 138) h dX8_staged_138 rfl ?_
          refine z_iret (pc := 139) h rfl dX8_staged_139 ?_
          refine ⟨congrArg (fun z => some (zI z)) ?_, _, rfl, hM⟩
          rw [← hst, ha, show i = y.1 20 by omega]
          rfl
        · have qb := hD.2.2.2.2.2.2.1 i h1 (by omega)
          have qz := (hS.2.2.2.2.1 i h1 (by omega)).2.2.1
          refine z_aloadR_n (pc := 52) h dX8_staged_52 rfl ?_
          refine z_getA4 (pc := 53) (c := 8) (j := 23) h (by first | assumption | rfl) rfl rfl fl_X8_36 dX8_staged_53 ?_
          refine z_iload (pc := 56) h dX8_staged_56 rfl ?_
          refine z_ialdq (pc := 58) (c := 8) (j := 23) (L := 40) h (zo_s _ _ _) (by first | assumption | rfl) (by decide) rfl (by decide) (by omega) (by omega) dX8_staged_58 (fun g58 => ?_)
          refine z_iconst (pc := 59) h dX8_staged_59 ?_
          refine z_icmp_eq (pc := 60) (tgt := 100) h (by omega) (by omega) dX8_staged_60 (by decide) (fun c60 => ?_) (fun c60 => ?_)
          · refine z_iconst (pc := 100) h dX8_staged_100 ?_
            refine z_ist_6 (pc := 101) h dX8_staged_101 (by decide) rfl ?_
            refine z_iload_n (pc := 103) h dX8_staged_103 rfl ?_
            refine z_iload (pc := 104) h dX8_staged_104 rfl ?_
            refine z_if_eq (pc := 106) (tgt := 129) h (by omega) dX8_staged_106 (by decide) (fun c106 => ?_) (fun c106 => ?_)
            · refine z_iconst (pc := 129) h dX8_staged_129 ?_
              refine z_iadd (pc := 130) h dX8_staged_130 ?_
              refine z_ist_3 (pc := 131) h dX8_staged_131 (by decide) rfl ?_
              refine z_inc_5 (pc := 132) h dX8_staged_132 (by decide) rfl ?_
              refine z_goto (pc := 135) (tgt := 38) h dX8_staged_135 (by decide) ?_
              first
              | (rw [if_pos (decide_eq_true (by omega))] at hS1; exact ih (i + 1) _ _ (by omega) (by omega) (by omega) (by omega) (by omega) (by rw [hS1]))
              | (rw [if_neg (by intro w; have := of_decide_eq_true w; omega)] at hS1; exact ih (i + 1) _ _ (by omega) (by omega) (by omega) (by omega) (by omega) (by rw [hS1]; omega))
            · exact absurd c106 (by decide)
          · refine z_aloadR_n (pc := 63) h dX8_staged_63 rfl ?_
            refine z_getA4 (pc := 64) (c := 8) (j := 23) h (by first | assumption | rfl) rfl rfl fl_X8_36 dX8_staged_64 ?_
            refine z_iload (pc := 67) h dX8_staged_67 rfl ?_
            refine z_ialdq (pc := 69) (c := 8) (j := 23) (L := 40) h (zo_s _ _ _) (by first | assumption | rfl) (by decide) rfl (by decide) (by omega) (by omega) dX8_staged_69 (fun g69 => ?_)
            refine z_iload_n (pc := 70) h dX8_staged_70 rfl ?_
            refine z_icmp_gt (pc := 71) (tgt := 100) h (by omega) (by omega) dX8_staged_71 (by decide) (fun c71 => ?_) (fun c71 => ?_)
            · refine z_iconst (pc := 100) h dX8_staged_100 ?_
              refine z_ist_6 (pc := 101) h dX8_staged_101 (by decide) rfl ?_
              refine z_iload_n (pc := 103) h dX8_staged_103 rfl ?_
              refine z_iload (pc := 104) h dX8_staged_104 rfl ?_
              refine z_if_eq (pc := 106) (tgt := 129) h (by omega) dX8_staged_106 (by decide) (fun c106 => ?_) (fun c106 => ?_)
              · refine z_iconst (pc := 129) h dX8_staged_129 ?_
                refine z_iadd (pc := 130) h dX8_staged_130 ?_
                refine z_ist_3 (pc := 131) h dX8_staged_131 (by decide) rfl ?_
                refine z_inc_5 (pc := 132) h dX8_staged_132 (by decide) rfl ?_
                refine z_goto (pc := 135) (tgt := 38) h dX8_staged_135 (by decide) ?_
                first
                | (rw [if_pos (decide_eq_true (by omega))] at hS1; exact ih (i + 1) _ _ (by omega) (by omega) (by omega) (by omega) (by omega) (by rw [hS1]))
                | (rw [if_neg (by intro w; have := of_decide_eq_true w; omega)] at hS1; exact ih (i + 1) _ _ (by omega) (by omega) (by omega) (by omega) (by omega) (by rw [hS1]; omega))
              · exact absurd c106 (by decide)
            · refine z_aloadR_n (pc := 74) h dX8_staged_74 rfl ?_
              refine z_getA4 (pc := 75) (c := 8) (j := 24) h (by first | assumption | rfl) rfl rfl fl_X8_39 dX8_staged_75 ?_
              refine z_iload (pc := 78) h dX8_staged_78 rfl ?_
              refine z_ialdq (pc := 80) (c := 8) (j := 24) (L := 40) h (zo_s _ _ _) (by first | assumption | rfl) (by decide) rfl (by decide) (by omega) (by omega) dX8_staged_80 (fun g80 => ?_)
              refine z_iconst (pc := 81) h dX8_staged_81 ?_
              refine z_icmp_eq (pc := 82) (tgt := 96) h (by omega) (by omega) dX8_staged_82 (by decide) (fun c82 => ?_) (fun c82 => ?_)
              · refine z_iconst (pc := 96) h dX8_staged_96 ?_
                refine z_goto (pc := 97) (tgt := 101) h dX8_staged_97 (by decide) ?_
                refine z_ist_6 (pc := 101) h dX8_staged_101 (by decide) rfl ?_
                refine z_iload_n (pc := 103) h dX8_staged_103 rfl ?_
                refine z_iload (pc := 104) h dX8_staged_104 rfl ?_
                refine z_if_eq (pc := 106) (tgt := 129) h (by omega) dX8_staged_106 (by decide) (fun c106 => ?_) (fun c106 => ?_)
                · exact absurd c106 (by decide)
                · refine z_iload_n (pc := 109) h dX8_staged_109 rfl ?_
                  refine z_iconst (pc := 110) h dX8_staged_110 ?_
                  refine z_icmp_eq (pc := 111) (tgt := 125) h (by omega) (by omega) dX8_staged_111 (by decide) (fun c111 => ?_) (fun c111 => ?_)
                  · refine z_iconst (pc := 125) h dX8_staged_125 ?_
                    refine z_goto (pc := 126) (tgt := 130) h dX8_staged_126 (by decide) ?_
                    refine z_iadd (pc := 130) h dX8_staged_130 ?_
                    refine z_ist_3 (pc := 131) h dX8_staged_131 (by decide) rfl ?_
                    refine z_inc_5 (pc := 132) h dX8_staged_132 (by decide) rfl ?_
                    refine z_goto (pc := 135) (tgt := 38) h dX8_staged_135 (by decide) ?_
                    first
                    | (rw [if_pos (decide_eq_true (by omega))] at hS1; exact ih (i + 1) _ _ (by omega) (by omega) (by omega) (by omega) (by omega) (by rw [hS1]))
                    | (rw [if_neg (by intro w; have := of_decide_eq_true w; omega)] at hS1; exact ih (i + 1) _ _ (by omega) (by omega) (by omega) (by omega) (by omega) (by rw [hS1]; omega))
                  · refine z_aloadR_n (pc := 114) h dX8_staged_114 rfl ?_
                    refine z_getA4 (pc := 115) (c := 8) (j := 22) h (by first | assumption | rfl) rfl rfl fl_X8_33 dX8_staged_115 ?_
                    refine z_iload (pc := 118) h dX8_staged_118 rfl ?_
                    refine z_ialdq (pc := 120) (c := 8) (j := 22) (L := 40) h (zo_s _ _ _) (by first | assumption | rfl) (by decide) rfl (by decide) (by omega) (by omega) dX8_staged_120 (fun g120 => ?_)
                    refine z_iload_n (pc := 121) h dX8_staged_121 rfl ?_
                    refine z_icmp_ne (pc := 122) (tgt := 129) h (by omega) (by omega) dX8_staged_122 (by decide) (fun c122 => ?_) (fun c122 => ?_)
                    · refine z_iconst (pc := 129) h dX8_staged_129 ?_
                      refine z_iadd (pc := 130) h dX8_staged_130 ?_
                      refine z_ist_3 (pc := 131) h dX8_staged_131 (by decide) rfl ?_
                      refine z_inc_5 (pc := 132) h dX8_staged_132 (by decide) rfl ?_
                      refine z_goto (pc := 135) (tgt := 38) h dX8_staged_135 (by decide) ?_
                      first
                      | (rw [if_pos (decide_eq_true (by omega))] at hS1; exact ih (i + 1) _ _ (by omega) (by omega) (by omega) (by omega) (by omega) (by rw [hS1]))
                      | (rw [if_neg (by intro w; have := of_decide_eq_true w; omega)] at hS1; exact ih (i + 1) _ _ (by omega) (by omega) (by omega) (by omega) (by omega) (by rw [hS1]; omega))
                    · refine z_iconst (pc := 125) h dX8_staged_125 ?_
                      refine z_goto (pc := 126) (tgt := 130) h dX8_staged_126 (by decide) ?_
                      refine z_iadd (pc := 130) h dX8_staged_130 ?_
                      refine z_ist_3 (pc := 131) h dX8_staged_131 (by decide) rfl ?_
                      refine z_inc_5 (pc := 132) h dX8_staged_132 (by decide) rfl ?_
                      refine z_goto (pc := 135) (tgt := 38) h dX8_staged_135 (by decide) ?_
                      first
                      | (rw [if_pos (decide_eq_true (by omega))] at hS1; exact ih (i + 1) _ _ (by omega) (by omega) (by omega) (by omega) (by omega) (by rw [hS1]))
                      | (rw [if_neg (by intro w; have := of_decide_eq_true w; omega)] at hS1; exact ih (i + 1) _ _ (by omega) (by omega) (by omega) (by omega) (by omega) (by rw [hS1]; omega))
              · refine z_aloadR_n (pc := 85) h dX8_staged_85 rfl ?_
                refine z_getA4 (pc := 86) (c := 8) (j := 24) h (by first | assumption | rfl) rfl rfl fl_X8_39 dX8_staged_86 ?_
                refine z_iload (pc := 89) h dX8_staged_89 rfl ?_
                refine z_ialdq (pc := 91) (c := 8) (j := 24) (L := 40) h (zo_s _ _ _) (by first | assumption | rfl) (by decide) rfl (by decide) (by omega) (by omega) dX8_staged_91 (fun g91 => ?_)
                refine z_iload_n (pc := 92) h dX8_staged_92 rfl ?_
                refine z_icmp_le (pc := 93) (tgt := 100) h (by omega) (by omega) dX8_staged_93 (by decide) (fun c93 => ?_) (fun c93 => ?_)
                · refine z_iconst (pc := 100) h dX8_staged_100 ?_
                  refine z_ist_6 (pc := 101) h dX8_staged_101 (by decide) rfl ?_
                  refine z_iload_n (pc := 103) h dX8_staged_103 rfl ?_
                  refine z_iload (pc := 104) h dX8_staged_104 rfl ?_
                  refine z_if_eq (pc := 106) (tgt := 129) h (by omega) dX8_staged_106 (by decide) (fun c106 => ?_) (fun c106 => ?_)
                  · refine z_iconst (pc := 129) h dX8_staged_129 ?_
                    refine z_iadd (pc := 130) h dX8_staged_130 ?_
                    refine z_ist_3 (pc := 131) h dX8_staged_131 (by decide) rfl ?_
                    refine z_inc_5 (pc := 132) h dX8_staged_132 (by decide) rfl ?_
                    refine z_goto (pc := 135) (tgt := 38) h dX8_staged_135 (by decide) ?_
                    first
                    | (rw [if_pos (decide_eq_true (by omega))] at hS1; exact ih (i + 1) _ _ (by omega) (by omega) (by omega) (by omega) (by omega) (by rw [hS1]))
                    | (rw [if_neg (by intro w; have := of_decide_eq_true w; omega)] at hS1; exact ih (i + 1) _ _ (by omega) (by omega) (by omega) (by omega) (by omega) (by rw [hS1]; omega))
                  · exact absurd c106 (by decide)
                · refine z_iconst (pc := 96) h dX8_staged_96 ?_
                  refine z_goto (pc := 97) (tgt := 101) h dX8_staged_97 (by decide) ?_
                  refine z_ist_6 (pc := 101) h dX8_staged_101 (by decide) rfl ?_
                  refine z_iload_n (pc := 103) h dX8_staged_103 rfl ?_
                  refine z_iload (pc := 104) h dX8_staged_104 rfl ?_
                  refine z_if_eq (pc := 106) (tgt := 129) h (by omega) dX8_staged_106 (by decide) (fun c106 => ?_) (fun c106 => ?_)
                  · exact absurd c106 (by decide)
                  · refine z_iload_n (pc := 109) h dX8_staged_109 rfl ?_
                    refine z_iconst (pc := 110) h dX8_staged_110 ?_
                    refine z_icmp_eq (pc := 111) (tgt := 125) h (by omega) (by omega) dX8_staged_111 (by decide) (fun c111 => ?_) (fun c111 => ?_)
                    · refine z_iconst (pc := 125) h dX8_staged_125 ?_
                      refine z_goto (pc := 126) (tgt := 130) h dX8_staged_126 (by decide) ?_
                      refine z_iadd (pc := 130) h dX8_staged_130 ?_
                      refine z_ist_3 (pc := 131) h dX8_staged_131 (by decide) rfl ?_
                      refine z_inc_5 (pc := 132) h dX8_staged_132 (by decide) rfl ?_
                      refine z_goto (pc := 135) (tgt := 38) h dX8_staged_135 (by decide) ?_
                      first
                      | (rw [if_pos (decide_eq_true (by omega))] at hS1; exact ih (i + 1) _ _ (by omega) (by omega) (by omega) (by omega) (by omega) (by rw [hS1]))
                      | (rw [if_neg (by intro w; have := of_decide_eq_true w; omega)] at hS1; exact ih (i + 1) _ _ (by omega) (by omega) (by omega) (by omega) (by omega) (by rw [hS1]; omega))
                    · refine z_aloadR_n (pc := 114) h dX8_staged_114 rfl ?_
                      refine z_getA4 (pc := 115) (c := 8) (j := 22) h (by first | assumption | rfl) rfl rfl fl_X8_33 dX8_staged_115 ?_
                      refine z_iload (pc := 118) h dX8_staged_118 rfl ?_
                      refine z_ialdq (pc := 120) (c := 8) (j := 22) (L := 40) h (zo_s _ _ _) (by first | assumption | rfl) (by decide) rfl (by decide) (by omega) (by omega) dX8_staged_120 (fun g120 => ?_)
                      refine z_iload_n (pc := 121) h dX8_staged_121 rfl ?_
                      refine z_icmp_ne (pc := 122) (tgt := 129) h (by omega) (by omega) dX8_staged_122 (by decide) (fun c122 => ?_) (fun c122 => ?_)
                      · refine z_iconst (pc := 129) h dX8_staged_129 ?_
                        refine z_iadd (pc := 130) h dX8_staged_130 ?_
                        refine z_ist_3 (pc := 131) h dX8_staged_131 (by decide) rfl ?_
                        refine z_inc_5 (pc := 132) h dX8_staged_132 (by decide) rfl ?_
                        refine z_goto (pc := 135) (tgt := 38) h dX8_staged_135 (by decide) ?_
                        first
                        | (rw [if_pos (decide_eq_true (by omega))] at hS1; exact ih (i + 1) _ _ (by omega) (by omega) (by omega) (by omega) (by omega) (by rw [hS1]))
                        | (rw [if_neg (by intro w; have := of_decide_eq_true w; omega)] at hS1; exact ih (i + 1) _ _ (by omega) (by omega) (by omega) (by omega) (by omega) (by rw [hS1]; omega))
                      · refine z_iconst (pc := 125) h dX8_staged_125 ?_
                        refine z_goto (pc := 126) (tgt := 130) h dX8_staged_126 (by decide) ?_
                        refine z_iadd (pc := 130) h dX8_staged_130 ?_
                        refine z_ist_3 (pc := 131) h dX8_staged_131 (by decide) rfl ?_
                        refine z_inc_5 (pc := 132) h dX8_staged_132 (by decide) rfl ?_
                        refine z_goto (pc := 135) (tgt := 38) h dX8_staged_135 (by decide) ?_
                        first
                        | (rw [if_pos (decide_eq_true (by omega))] at hS1; exact ih (i + 1) _ _ (by omega) (by omega) (by omega) (by omega) (by omega) (by rw [hS1]))
                        | (rw [if_neg (by intro w; have := of_decide_eq_true w; omega)] at hS1; exact ih (i + 1) _ _ (by omega) (by omega) (by omega) (by omega) (by omega) (by rw [hS1]; omega))
  refine z_aloadR_n (pc := 0) h dX8_staged_0 rfl ?_
  refine z_iconst (pc := 1) h dX8_staged_1 ?_
  refine z_putIo (pc := 2) (c := 8) (j := 0) h (by first | assumption | rfl) rfl rfl fl_X8_84 rfl (tyX8_ok 0 (by decide)) dX8_staged_2 (by omega) ?_
  refine z_iload_n (pc := 5) h dX8_staged_5 rfl ?_
  refine z_iconst (pc := 6) h dX8_staged_6 ?_
  refine z_sipush (pc := 7) h dX8_staged_7 (by decide) ?_
  refine z_pS (pc := 10) h (m8_in (by omega) (by omega) (by omega)) (by decide) ms_X8_in ml_X8_88 rfl dX8_staged_10 rfl (Nat.le_of_ble_eq_true rfl) ?_
  refine z_ifeqB (pc := 13) (tgt := 25) h dX8_staged_13 (by decide) (fun c13 => ?_) (fun c13 => ?_)
  · refine z_iconst (pc := 25) h dX8_staged_25 ?_
    refine z_iret (pc := 26) h rfl dX8_staged_26 ?_
    first
    | (have y := of_decide_eq_false c13; rw [if_neg (fun q => y q.1)]; exact ⟨rfl, _, rfl, hM0⟩)
    | (have y := of_decide_eq_false c22; rw [if_neg (fun q => y q.2)]; exact ⟨rfl, _, rfl, hM0⟩)
  · have z1 := of_decide_eq_true c13
    refine z_iload_n (pc := 16) h dX8_staged_16 rfl ?_
    refine z_iconst (pc := 17) h dX8_staged_17 ?_
    refine z_iconst (pc := 18) h dX8_staged_18 ?_
    refine z_pS (pc := 19) h (m8_in (by omega) (by omega) (by omega)) (by decide) ms_X8_in ml_X8_88 rfl dX8_staged_19 rfl (Nat.le_of_ble_eq_true rfl) ?_
    refine z_ifneB (pc := 22) (tgt := 27) h dX8_staged_22 (by decide) (fun c22 => ?_) (fun c22 => ?_)
    · have z2 := of_decide_eq_true c22
      rw [if_pos ⟨z1, z2⟩]
      refine z_iconst (pc := 27) h dX8_staged_27 ?_
      refine z_ist_3 (pc := 28) h dX8_staged_28 (by decide) rfl ?_
      refine z_aloadR_n (pc := 29) h dX8_staged_29 rfl ?_
      refine z_rV (pc := 30) (c := 8) h (m8_runs hwa hwr) (by decide) (by first | assumption | rfl) rfl mv_X8_runs ml_X8_272 rfl dX8_staged_30 rfl (Nat.le_of_ble_eq_true rfl) ?_
      rw [hY.2]
      have hYY := hY.1
      clear hY hwa hwr
      generalize s_run (oss m 0 0) = y at hYY ⊢
      refine z_ist_4 (pc := 33) h dX8_staged_33 (by decide) rfl ?_
      refine z_iconst (pc := 35) h dX8_staged_35 ?_
      refine z_ist_5 (pc := 36) h dX8_staged_36 (by decide) rfl ?_
      have hn := hYY.1.2.2.2.1
      exact L y hYY z1 z2 (y.1 20 + 1).toNat 0 0 _ (by omega) (by omega) (by omega) (by omega) (by omega) rfl
    · refine z_iconst (pc := 25) h dX8_staged_25 ?_
      refine z_iret (pc := 26) h rfl dX8_staged_26 ?_
      first
      | (have y := of_decide_eq_false c13; rw [if_neg (fun q => y q.1)]; exact ⟨rfl, _, rfl, hM0⟩)
      | (have y := of_decide_eq_false c22; rw [if_neg (fun q => y q.2)]; exact ⟨rfl, _, rfl, hM0⟩)
theorem at_some {T : T3} {m y : zOb} {d k mu : Int} (hT : OKT T) (h : YR T m y) (d0 : 0 ≤ d) (d1 : d < T.2.2 0) (k0 : 0 ≤ k) (k1 : k < T.2.2 (65 + d)) (hmu : mu ≤ 199) (hs : y.2 27 (T.2.2 (71 + 8 * d + k)) ≠ -1 ∧ y.2 27 (T.2.2 (71 + 8 * d + k)) ≤ mu ∧ (y.2 28 (T.2.2 (71 + 8 * d + k)) = -1 ∨ mu ≤ y.2 28 (T.2.2 (71 + 8 * d + k)))) : q_st T.1 (ra T.2.2) d mu = T.2.2 (71 + 8 * d + k) := by
  obtain ⟨hS, hD, k3, k4, hE, -⟩ := h
  have hr := hT.2.1.wfr.2.1 d k d0 d1 k0 k1
  have e1 := hE.1
  rw [k3] at e1
  have he : ∀ t, 0 ≤ t → t < T.2.2 1 → (ra T.2.2).2 27 t = y.2 27 t ∧ (ra T.2.2).2 28 t = y.2 28 t := fun t t0 t1 => by
    have := hE.2.2.2.2.2.2.2.2.1 t t0 (by rw [← e1]; exact t1)
    exact ⟨this.1.symm, this.2.1.symm⟩
  have h8 := hT.1.2.1
  have hpt : T.1 (T.2.2 (71 + 8 * d + k)) = d := by
    by_cases z : T.1 (T.2.2 (71 + 8 * d + k)) = d
    · exact z
    · exact absurd rfl (hT.2.1.ne (t := T.2.2 (71 + 8 * d + k)) d0 d1 k0 k1 (Or.inl (fun q => z q.symm)))
  refine zfst_some (p := fun t => decide (T.1 t = d ∧ (ra T.2.2).2 27 t ≠ -1 ∧ (ra T.2.2).2 27 t ≤ mu ∧ mu ≤ q_lm (ra T.2.2) t)) hr.1 (by rw [← e1]; exact hr.2.1) (decide_eq_true ?_) (fun j j0 j1 => decide_eq_false ?_)
  · have := he _ hr.1 hr.2.1
    unfold q_lm
    rw [this.1, this.2]
    refine ⟨hpt, hs.1, hs.2.1, ?_⟩
    split <;> omega
  · intro q
    have ej := he j j0 (by omega)
    have ql := q.2.2.2
    unfold q_lm at ql
    rw [ej.1] at q
    rw [ej.2] at ql
    have hp := hT.2.1.at hT.1 j0 (by omega) (by rw [q.1]; omega)
    rw [q.1] at hp
    have hne : T.2.1 j ≠ k := by
      intro z
      have := hp.2.2.1
      rw [z] at this
      omega
    have hDo := hD.2.2.2.2.1
    unfold DIo at hDo
    rw [k3] at hDo
    rcases Int.lt_or_gt_of_ne hne with z | z
    · have := hDo d (T.2.1 j) k d0 d1 hp.2.1.1 z k1 hs.1
      rw [hp.2.2.1] at this
      split at ql <;> omega
    · have := hDo d k (T.2.1 j) d0 d1 k0 z hp.2.1.2 (by rw [hp.2.2.1]; exact q.2.1)
      rw [hp.2.2.1] at this
      omega
theorem at_none {T : T3} {m y : zOb} {d mu : Int} (hT : OKT T) (h : YR T m y) (d0 : 0 ≤ d) (d1 : d < T.2.2 0) (hmu : mu ≤ 199) (hs : ∀ k, 0 ≤ k → k < T.2.2 (65 + d) → ¬ (y.2 27 (T.2.2 (71 + 8 * d + k)) ≠ -1 ∧ y.2 27 (T.2.2 (71 + 8 * d + k)) ≤ mu ∧ (y.2 28 (T.2.2 (71 + 8 * d + k)) = -1 ∨ mu ≤ y.2 28 (T.2.2 (71 + 8 * d + k))))) : q_st T.1 (ra T.2.2) d mu = -1 := by
  obtain ⟨hS, hD, k3, k4, hE, -⟩ := h
  have e1 := hE.1
  rw [k3] at e1
  refine zfst_none (fun j j0 j1 => decide_eq_false ?_)
  intro q
  have ej := hE.2.2.2.2.2.2.2.2.1 j j0 j1
  have ql := q.2.2.2
  unfold q_lm at ql
  rw [← ej.1] at q
  rw [← ej.2.1] at ql
  have hp := hT.2.1.at hT.1 j0 (by rw [e1]; exact j1) (by rw [q.1]; omega)
  rw [q.1] at hp
  have := hs _ hp.2.1.1 hp.2.1.2
  rw [hp.2.2.1] at this
  refine this ⟨q.2.1, q.2.2.1, ?_⟩
  split at ql
  · left; assumption
  · right; exact ql
theorem m8_at {σ : zS} {m : zOb} {T : T3} {d mu : Int} (hT : OKT T) (e1 : m.2 1 = T.2.2) (hd : zin d) (hw : zin mu) : zC M_X8_at 6 [zR 31, zI d, zI mu] (zo σ 31 m) (fun r τ' => r = some (zI (atQ T d mu)) ∧ ∃ m', τ' = zo σ 31 m' ∧ MQ8 m m') := by
  have hY := run_YR (m := oss m 0 0) hT e1
  have hrb := rc_b hT
  have h6 := hT.1.1
  have hx1 : (oss m 0 0).2 1 = T.2.2 := e1
  have hwa : WFa ((oss m 0 0).2 1) := by show WFa (m.2 1); rw [e1]; exact hT.1
  have hwr : WFr ((oss m 0 0).2 1) := by show WFr (m.2 1); rw [e1]; exact hT.2.1.wfr
  have hM0 : MQ8 m (oss m 0 0) := ⟨⟨rfl, rfl, rfl⟩, rfl, rfl, rfl⟩
  unfold atQ
  refine zC_of (M := M_X8_at) (ls := [some (zR 31), some (zI d), some (zI mu), none, none, none]) (n := 3) (by decide) (fun ad => Nat.le_of_ble_eq_true rfl) rfl (fun x h => ?_)
  have L : ∀ y : zOb, YR T (oss m 0 0) y → 0 ≤ mu ∧ mu ≤ 199 → 0 ≤ d ∧ d < T.2.2 0 → ∀ (n : Nat) (i : Int) (l5 : Option Value), 0 ≤ i → i ≤ T.2.2 (65 + d) → T.2.2 (65 + d) - i < n → (∀ k, 0 ≤ k → k < i → ¬ (y.2 27 (T.2.2 (71 + 8 * d + k)) ≠ -1 ∧ y.2 27 (T.2.2 (71 + 8 * d + k)) ≤ mu ∧ (y.2 28 (T.2.2 (71 + 8 * d + k)) = -1 ∨ mu ≤ y.2 28 (T.2.2 (71 + 8 * d + k))))) → zW x (fun r τ' => r = some (zI (q_st T.1 (ra T.2.2) d mu)) ∧ ∃ m', τ' = zo σ 31 m' ∧ MQ8 m m') 34 [some (zR 31), some (zI d), some (zI mu), some (zI (rc T.2.2)), some (zI i), l5] [] (zo σ 31 y) := by
    intro y hYY hw1 hz1 n
    have hM := hYY.mq e1
    have k3 := hYY.2.2.1
    have h65 := hT.2.1.wfr.1 d hz1.1 hz1.2
    have h8 := hT.1.2.1
    induction n with
    | zero => intro i l5 h1 h2 h3; omega
    | succ n ih =>
      intro i l5 h1 h2 h3 ha
      have hnx : ¬ (y.2 27 (T.2.2 (71 + 8 * d + i)) ≠ -1 ∧ y.2 27 (T.2.2 (71 + 8 * d + i)) ≤ mu ∧ (y.2 28 (T.2.2 (71 + 8 * d + i)) = -1 ∨ mu ≤ y.2 28 (T.2.2 (71 + 8 * d + i)))) → ∀ k, 0 ≤ k → k < i + 1 → ¬ (y.2 27 (T.2.2 (71 + 8 * d + k)) ≠ -1 ∧ y.2 27 (T.2.2 (71 + 8 * d + k)) ≤ mu ∧ (y.2 28 (T.2.2 (71 + 8 * d + k)) = -1 ∨ mu ≤ y.2 28 (T.2.2 (71 + 8 * d + k)))) := by
        intro hh k q0 q1
        by_cases e : k = i
        · rw [e]; exact hh
        · exact ha k q0 (by omega)
      have e65 : y.2 1 (65 + d) = T.2.2 (65 + d) := by rw [k3]
      have eat : y.2 1 (71 + 8 * d + i) = T.2.2 (71 + 8 * d + i) := by rw [k3]
      refine z_iload (pc := 34) h dX8_at_34 rfl ?_
      refine z_aloadR_n (pc := 36) h dX8_at_36 rfl ?_
      refine z_iload_n (pc := 37) h dX8_at_37 rfl ?_
      refine z_pV (pc := 38) (c := 8) h (m8_rowMany (by omega)) (by decide) (by first | assumption | rfl) rfl mv_X8_rowMany ml_X8_191 rfl dX8_at_38 rfl (Nat.le_of_ble_eq_true rfl) ?_
      refine z_icmp_ge (pc := 41) (tgt := 110) h (by omega) (by omega) dX8_at_41 (by decide) (fun c41 => ?_) (fun c41 => ?_)
      · refine z_iconst (pc := 110) h dX8_at_110 ?_
        refine z_iret (pc := 111) h rfl dX8_at_111 ?_
        rw [at_none hT hYY hz1.1 hz1.2 hw1.2 (fun k q0 q1 => ha k q0 (by omega))]
        exact ⟨rfl, _, rfl, hM⟩
      · refine z_iload_n (pc := 44) h dX8_at_44 rfl ?_
        refine z_if_lt (pc := 45) (tgt := 110) h (by omega) dX8_at_45 (by decide) (fun c45 => ?_) (fun c45 => ?_)
        · refine z_iconst (pc := 110) h dX8_at_110 ?_
          refine z_iret (pc := 111) h rfl dX8_at_111 ?_
          rw [at_none hT hYY hz1.1 hz1.2 hw1.2 (fun k q0 q1 => ha k q0 (by omega))]
          exact ⟨rfl, _, rfl, hM⟩
        · have hr := hT.2.1.wfr.2.1 d i hz1.1 hz1.2 h1 (by omega)
          have hso := at_some (mu := mu) hT hYY hz1.1 hz1.2 h1 (show i < T.2.2 (65 + d) by omega) hw1.2
          refine z_aloadR_n (pc := 48) h dX8_at_48 rfl ?_
          refine z_iload_n (pc := 49) h dX8_at_49 rfl ?_
          refine z_iload (pc := 50) h dX8_at_50 rfl ?_
          refine z_pV (pc := 52) (c := 8) h (m8_rowAt (by omega) (by omega)) (by decide) (by first | assumption | rfl) rfl mv_X8_rowAt ml_X8_205 rfl dX8_at_52 rfl (Nat.le_of_ble_eq_true rfl) ?_
          refine z_ist_5 (pc := 55) h dX8_at_55 (by decide) rfl ?_
          rw [eat]
          refine z_aloadR_n (pc := 57) h dX8_at_57 rfl ?_
          refine z_getA4 (pc := 58) (c := 8) (j := 27) h (by first | assumption | rfl) rfl rfl fl_X8_48 dX8_at_58 ?_
          refine z_iload (pc := 61) h dX8_at_61 rfl ?_
          refine z_ialdq (pc := 63) (c := 8) (j := 27) (L := 8) h (zo_s _ _ _) (by first | assumption | rfl) (by decide) rfl (by decide) (by omega) (by omega) dX8_at_63 (fun g63 => ?_)
          refine z_iconst (pc := 64) h dX8_at_64 ?_
          refine z_icmp_eq (pc := 65) (tgt := 104) h (by omega) (by omega) dX8_at_65 (by decide) (fun c65 => ?_) (fun c65 => ?_)
          · refine z_inc_4 (pc := 104) h dX8_at_104 (by decide) rfl ?_
            refine z_goto (pc := 107) (tgt := 34) h dX8_at_107 (by decide) ?_
            exact ih (i + 1) _ (by omega) (by omega) (by omega) (hnx (by omega))
          · refine z_aloadR_n (pc := 68) h dX8_at_68 rfl ?_
            refine z_getA4 (pc := 69) (c := 8) (j := 27) h (by first | assumption | rfl) rfl rfl fl_X8_48 dX8_at_69 ?_
            refine z_iload (pc := 72) h dX8_at_72 rfl ?_
            refine z_ialdq (pc := 74) (c := 8) (j := 27) (L := 8) h (zo_s _ _ _) (by first | assumption | rfl) (by decide) rfl (by decide) (by omega) (by omega) dX8_at_74 (fun g74 => ?_)
            refine z_iload_n (pc := 75) h dX8_at_75 rfl ?_
            refine z_icmp_gt (pc := 76) (tgt := 104) h (by omega) (by omega) dX8_at_76 (by decide) (fun c76 => ?_) (fun c76 => ?_)
            · refine z_inc_4 (pc := 104) h dX8_at_104 (by decide) rfl ?_
              refine z_goto (pc := 107) (tgt := 34) h dX8_at_107 (by decide) ?_
              exact ih (i + 1) _ (by omega) (by omega) (by omega) (hnx (by omega))
            · refine z_aloadR_n (pc := 79) h dX8_at_79 rfl ?_
              refine z_getA4 (pc := 80) (c := 8) (j := 28) h (by first | assumption | rfl) rfl rfl fl_X8_51 dX8_at_80 ?_
              refine z_iload (pc := 83) h dX8_at_83 rfl ?_
              refine z_ialdq (pc := 85) (c := 8) (j := 28) (L := 8) h (zo_s _ _ _) (by first | assumption | rfl) (by decide) rfl (by decide) (by omega) (by omega) dX8_at_85 (fun g85 => ?_)
              refine z_iconst (pc := 86) h dX8_at_86 ?_
              refine z_icmp_eq (pc := 87) (tgt := 101) h (by omega) (by omega) dX8_at_87 (by decide) (fun c87 => ?_) (fun c87 => ?_)
              · refine z_iload (pc := 101) h dX8_at_101 rfl ?_
                refine z_iret (pc := 103) h rfl dX8_at_103 ?_
                rw [hso (by omega)]
                exact ⟨rfl, _, rfl, hM⟩
              · refine z_aloadR_n (pc := 90) h dX8_at_90 rfl ?_
                refine z_getA4 (pc := 91) (c := 8) (j := 28) h (by first | assumption | rfl) rfl rfl fl_X8_51 dX8_at_91 ?_
                refine z_iload (pc := 94) h dX8_at_94 rfl ?_
                refine z_ialdq (pc := 96) (c := 8) (j := 28) (L := 8) h (zo_s _ _ _) (by first | assumption | rfl) (by decide) rfl (by decide) (by omega) (by omega) dX8_at_96 (fun g96 => ?_)
                refine z_iload_n (pc := 97) h dX8_at_97 rfl ?_
                refine z_icmp_lt (pc := 98) (tgt := 104) h (by omega) (by omega) dX8_at_98 (by decide) (fun c98 => ?_) (fun c98 => ?_)
                · refine z_inc_4 (pc := 104) h dX8_at_104 (by decide) rfl ?_
                  refine z_goto (pc := 107) (tgt := 34) h dX8_at_107 (by decide) ?_
                  exact ih (i + 1) _ (by omega) (by omega) (by omega) (hnx (by omega))
                · refine z_iload (pc := 101) h dX8_at_101 rfl ?_
                  refine z_iret (pc := 103) h rfl dX8_at_103 ?_
                  rw [hso (by omega)]
                  exact ⟨rfl, _, rfl, hM⟩
  refine z_aloadR_n (pc := 0) h dX8_at_0 rfl ?_
  refine z_iconst (pc := 1) h dX8_at_1 ?_
  refine z_putIo (pc := 2) (c := 8) (j := 0) h (by first | assumption | rfl) rfl rfl fl_X8_84 rfl (tyX8_ok 0 (by decide)) dX8_at_2 (by omega) ?_
  generalize oss m 0 0 = mz at hY hx1 hwa hwr hM0 L ⊢
  have e10 : mz.2 1 0 = T.2.2 0 := by rw [hx1]
  refine z_aloadR_n (pc := 5) h dX8_at_5 rfl ?_
  refine z_iload_n (pc := 6) h dX8_at_6 rfl ?_
  refine z_pV (pc := 7) (c := 8) h (m8_isDoor (by omega) (by omega)) (by decide) (by first | assumption | rfl) rfl mv_X8_isDoor ml_X8_293 rfl dX8_at_7 rfl (Nat.le_of_ble_eq_true rfl) ?_
  refine z_ifeqB (pc := 10) (tgt := 24) h dX8_at_10 (by decide) (fun c10 => ?_) (fun c10 => ?_)
  · refine z_iconst (pc := 24) h dX8_at_24 ?_
    refine z_iret (pc := 25) h rfl dX8_at_25 ?_
    first
    | (have y := of_decide_eq_false c10; rw [if_neg (fun q => y (by omega))]; exact ⟨rfl, _, rfl, hM0⟩)
    | (have y := of_decide_eq_false c21; rw [if_neg (fun q => y q.2)]; exact ⟨rfl, _, rfl, hM0⟩)
  · have z1 := of_decide_eq_true c10
    refine z_iload_n (pc := 13) h dX8_at_13 rfl ?_
    refine z_iconst (pc := 14) h dX8_at_14 ?_
    refine z_sipush (pc := 15) h dX8_at_15 (by decide) ?_
    refine z_pS (pc := 18) h (m8_in (by omega) (by omega) (by omega)) (by decide) ms_X8_in ml_X8_88 rfl dX8_at_18 rfl (Nat.le_of_ble_eq_true rfl) ?_
    refine z_ifneB (pc := 21) (tgt := 26) h dX8_at_21 (by decide) (fun c21 => ?_) (fun c21 => ?_)
    · have z2 := of_decide_eq_true c21
      have z3 : 0 ≤ d ∧ d < T.2.2 0 := by omega
      rw [if_pos ⟨z3, z2⟩]
      refine z_aloadR_n (pc := 26) h dX8_at_26 rfl ?_
      refine z_rV (pc := 27) (c := 8) h (m8_runs hwa hwr) (by decide) (by first | assumption | rfl) rfl mv_X8_runs ml_X8_272 rfl dX8_at_27 rfl (Nat.le_of_ble_eq_true rfl) ?_
      rw [hY.2]
      have hYY := hY.1
      clear hY hwa hwr
      generalize s_run mz = y at hYY ⊢
      refine z_ist_3 (pc := 30) h dX8_at_30 (by decide) rfl ?_
      refine z_iconst (pc := 31) h dX8_at_31 ?_
      refine z_ist_4 (pc := 32) h dX8_at_32 (by decide) rfl ?_
      have h65 := hT.2.1.wfr.1 d z3.1 z3.2
      exact L y hYY z2 z3 (T.2.2 (65 + d) + 1).toNat 0 _ (by omega) (by omega) (by omega) (fun k q0 q1 => by omega)
    · refine z_iconst (pc := 24) h dX8_at_24 ?_
      refine z_iret (pc := 25) h rfl dX8_at_25 ?_
      first
      | (have y := of_decide_eq_false c10; rw [if_neg (fun q => y (by omega))]; exact ⟨rfl, _, rfl, hM0⟩)
      | (have y := of_decide_eq_false c21; rw [if_neg (fun q => y q.2)]; exact ⟨rfl, _, rfl, hM0⟩)
