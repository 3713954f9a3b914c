/-! Sums, and the run. -/
def s_late (m : zOb) (t : Int) : Int := if m.2 1 (17 + 6 * t + 0) = 1 then (if (if m.2 28 t = -1 then 200 else m.2 28 t) - m.2 1 (17 + 6 * t + 3) < 0 then 0 else (if m.2 28 t = -1 then 200 else m.2 28 t) - m.2 1 (17 + 6 * t + 3)) else 0
def s_lc (m : zOb) : Int := zfor (fun t s => s + (if m.2 1 (17 + 6 * t + 0) = 1 then m.2 1 (17 + 6 * t + 5) * s_late m t else 0)) (m.2 1 1) 0
def s_on (m : zOb) : Int := zfor (fun c s => s + (if m.2 24 c = -1 then 0 else 1)) (m.1 20) 0
def s_far (m : zOb) : Int := zfor (fun c s => s + (if m.2 24 c = -1 then 0 else m.2 26 c)) (m.1 20) 0
def s_ss (m : zOb) : Int := zfor (fun c s => s + (if m.2 24 c = -1 then 0 else m.2 24 c - m.2 23 c)) (m.1 20) 0
def s_cost (m : zOb) : Int := s_lc m + s_far m + s_ss m + 100 * (m.1 20 - s_on m)
theorem m8_lateOf {σ : zS} {m : zOb} {t : Int} (ht : 0 ≤ t ∧ t ≤ 7) (hl : m.2 1 (17 + 6 * t + 0) = 1 → -1 ≤ m.2 28 t ∧ m.2 28 t ≤ 200) (hu : m.2 1 (17 + 6 * t + 0) = 1 → 0 ≤ m.2 1 (17 + 6 * t + 3) ∧ m.2 1 (17 + 6 * t + 3) ≤ 199) : zCp M_X8_lateOf 3 [zR 31, zI t] (zo σ 31 m) (zI (s_late m t)) := by
  refine zC_of (M := M_X8_lateOf) (ls := [some (zR 31), some (zI t), none]) (n := 1) (by decide) (fun ad => Nat.le_of_ble_eq_true rfl) rfl (fun x h => ?_)
  refine z_aloadR_n (pc := 0) h dX8_lateOf_0 rfl ?_
  refine z_iload_n (pc := 1) h dX8_lateOf_1 rfl ?_
  refine z_pV (pc := 2) (c := 8) h (m8_isOut (by omega)) (by decide) (by first | assumption | rfl) rfl mv_X8_isOut ml_X8_195 rfl dX8_lateOf_2 rfl (Nat.le_of_ble_eq_true rfl) ?_
  refine z_ifneB (pc := 5) (tgt := 10) h dX8_lateOf_5 (by decide) (fun c5 => ?_) (fun c5 => ?_)
  · have hk := of_decide_eq_true c5
    have hl := hl hk
    have hu := hu hk
    refine z_aloadR_n (pc := 10) h dX8_lateOf_10 rfl ?_
    refine z_getA4 (pc := 11) (c := 8) (j := 28) h (by first | assumption | rfl) rfl rfl fl_X8_51 dX8_lateOf_11 ?_
    refine z_iload_n (pc := 14) h dX8_lateOf_14 rfl ?_
    refine z_ialdq (pc := 15) (c := 8) (j := 28) (L := 8) h (zo_s _ _ _) (by first | assumption | rfl) (by decide) rfl (by decide) (by omega) (by omega) dX8_lateOf_15 (fun g15 => ?_)
    refine z_iconst (pc := 16) h dX8_lateOf_16 ?_
    refine z_icmp_ne (pc := 17) (tgt := 26) h (by omega) (by omega) dX8_lateOf_17 (by decide) (fun c17 => ?_) (fun c17 => ?_)
    · refine z_aloadR_n (pc := 26) h dX8_lateOf_26 rfl ?_
      refine z_getA4 (pc := 27) (c := 8) (j := 28) h (by first | assumption | rfl) rfl rfl fl_X8_51 dX8_lateOf_27 ?_
      refine z_iload_n (pc := 30) h dX8_lateOf_30 rfl ?_
      refine z_ialdq (pc := 31) (c := 8) (j := 28) (L := 8) h (zo_s _ _ _) (by first | assumption | rfl) (by decide) rfl (by decide) (by omega) (by omega) dX8_lateOf_31 (fun g31 => ?_)
      refine z_aloadR_n (pc := 32) h dX8_lateOf_32 rfl ?_
      refine z_iload_n (pc := 33) h dX8_lateOf_33 rfl ?_
      refine z_iconst (pc := 34) h dX8_lateOf_34 ?_
      refine z_pV (pc := 35) (c := 8) h (m8_of (by omega) (by omega)) (by decide) (by first | assumption | rfl) rfl mv_X8_of ml_X8_92 rfl dX8_lateOf_35 rfl (Nat.le_of_ble_eq_true rfl) ?_
      refine z_isub (pc := 38) h dX8_lateOf_38 ?_
      refine z_ist_2 (pc := 39) h dX8_lateOf_39 (by decide) rfl ?_
      refine z_iload_n (pc := 40) h dX8_lateOf_40 rfl ?_
      refine z_if_ge (pc := 41) (tgt := 48) h (by omega) dX8_lateOf_41 (by decide) (fun c41 => ?_) (fun c41 => ?_)
      · refine z_iload_n (pc := 48) h dX8_lateOf_48 rfl ?_
        refine z_iret (pc := 49) h rfl dX8_lateOf_49 ?_
        refine ⟨congrArg (fun z => some (zI z)) ?_, rfl⟩
        unfold s_late
        rw [if_pos hk]
        first
        | (rw [if_pos c17, if_neg (by omega)]; done)
        | (rw [if_pos c17, if_pos (by omega)]; done)
        | (rw [if_neg c17, if_neg (by omega)]; done)
        | (rw [if_neg c17, if_pos (by omega)]; done)
      · refine z_iconst (pc := 44) h dX8_lateOf_44 ?_
        refine z_goto (pc := 45) (tgt := 49) h dX8_lateOf_45 (by decide) ?_
        refine z_iret (pc := 49) h rfl dX8_lateOf_49 ?_
        refine ⟨congrArg (fun z => some (zI z)) ?_, rfl⟩
        unfold s_late
        rw [if_pos hk]
        first
        | (rw [if_pos c17, if_neg (by omega)]; done)
        | (rw [if_pos c17, if_pos (by omega)]; done)
        | (rw [if_neg c17, if_neg (by omega)]; done)
        | (rw [if_neg c17, if_pos (by omega)]; done)
    · refine z_sipush (pc := 20) h dX8_lateOf_20 (by decide) ?_
      refine z_goto (pc := 23) (tgt := 32) h dX8_lateOf_23 (by decide) ?_
      refine z_aloadR_n (pc := 32) h dX8_lateOf_32 rfl ?_
      refine z_iload_n (pc := 33) h dX8_lateOf_33 rfl ?_
      refine z_iconst (pc := 34) h dX8_lateOf_34 ?_
      refine z_pV (pc := 35) (c := 8) h (m8_of (by omega) (by omega)) (by decide) (by first | assumption | rfl) rfl mv_X8_of ml_X8_92 rfl dX8_lateOf_35 rfl (Nat.le_of_ble_eq_true rfl) ?_
      refine z_isub (pc := 38) h dX8_lateOf_38 ?_
      refine z_ist_2 (pc := 39) h dX8_lateOf_39 (by decide) rfl ?_
      refine z_iload_n (pc := 40) h dX8_lateOf_40 rfl ?_
      refine z_if_ge (pc := 41) (tgt := 48) h (by omega) dX8_lateOf_41 (by decide) (fun c41 => ?_) (fun c41 => ?_)
      · refine z_iload_n (pc := 48) h dX8_lateOf_48 rfl ?_
        refine z_iret (pc := 49) h rfl dX8_lateOf_49 ?_
        refine ⟨congrArg (fun z => some (zI z)) ?_, rfl⟩
        unfold s_late
        rw [if_pos hk]
        first
        | (rw [if_pos c17, if_neg (by omega)]; done)
        | (rw [if_pos c17, if_pos (by omega)]; done)
        | (rw [if_neg c17, if_neg (by omega)]; done)
        | (rw [if_neg c17, if_pos (by omega)]; done)
      · refine z_iconst (pc := 44) h dX8_lateOf_44 ?_
        refine z_goto (pc := 45) (tgt := 49) h dX8_lateOf_45 (by decide) ?_
        refine z_iret (pc := 49) h rfl dX8_lateOf_49 ?_
        refine ⟨congrArg (fun z => some (zI z)) ?_, rfl⟩
        unfold s_late
        rw [if_pos hk]
        first
        | (rw [if_pos c17, if_neg (by omega)]; done)
        | (rw [if_pos c17, if_pos (by omega)]; done)
        | (rw [if_neg c17, if_neg (by omega)]; done)
        | (rw [if_neg c17, if_pos (by omega)]; done)
  · refine z_iconst (pc := 8) h dX8_lateOf_8 ?_
    refine z_iret (pc := 9) h rfl dX8_lateOf_9 ?_
    refine ⟨congrArg (fun z => some (zI z)) ?_, rfl⟩
    unfold s_late
    rw [if_neg (of_decide_eq_false c5)]
theorem m8_lateCost {σ : zS} {m : zOb} (hn : 0 ≤ m.2 1 1 ∧ m.2 1 1 ≤ 8) (hl : ∀ t, 0 ≤ t → t < m.2 1 1 → -1 ≤ m.2 28 t ∧ m.2 28 t ≤ 200) (hu : ∀ t, 0 ≤ t → t < m.2 1 1 → m.2 1 (17 + 6 * t + 0) = 1 → 0 ≤ m.2 1 (17 + 6 * t + 3) ∧ m.2 1 (17 + 6 * t + 3) ≤ 199) : zCp M_X8_lateCost 4 [zR 31] (zo σ 31 m) (zI (s_lc m)) := by
  refine zC_of (M := M_X8_lateCost) (ls := [some (zR 31), none, none]) (n := 2) (by decide) (fun ad => Nat.le_of_ble_eq_true rfl) rfl (fun x h => ?_)
  have L : ∀ (n : Nat) (i : Int), 0 ≤ i → i ≤ m.2 1 1 → m.2 1 1 - i < n → zW x (fun r τ' => r = some (zI (s_lc m)) ∧ τ' = zo σ 31 m) 4 [some (zR 31), some (zI (zfor (fun t s => s + (if m.2 1 (17 + 6 * t + 0) = 1 then m.2 1 (17 + 6 * t + 5) * s_late m t else 0)) i 0)), some (zI i)] [] (zo σ 31 m) := by
    intro n
    induction n with
    | zero => intro i h1 h2 h3; omega
    | succ n ih =>
      intro i h1 h2 h3
      have hih := ih (i + 1) (by omega)
      rw [zfor_S _ h1] at hih
      have hgo : i = m.2 1 1 → zfor (fun t s => s + (if m.2 1 (17 + 6 * t + 0) = 1 then m.2 1 (17 + 6 * t + 5) * s_late m t else 0)) i 0 = s_lc m := fun e => by rw [e]; rfl
      generalize zfor (fun t s => s + (if m.2 1 (17 + 6 * t + 0) = 1 then m.2 1 (17 + 6 * t + 5) * s_late m t else 0)) i 0 = acc at hih hgo ⊢
      refine z_iload_n (pc := 4) h dX8_lateCost_4 rfl ?_
      refine z_aloadR_n (pc := 5) h dX8_lateCost_5 rfl ?_
      refine z_getA4 (pc := 6) (c := 8) (j := 1) h (by first | assumption | rfl) rfl rfl fl_X8_7 dX8_lateCost_6 ?_
      refine z_iconst (pc := 9) h dX8_lateCost_9 ?_
      refine z_ialdq (pc := 10) (c := 8) (j := 1) (L := 610) h (zo_s _ _ _) (by first | assumption | rfl) (by decide) rfl (by decide) (by omega) (by omega) dX8_lateCost_10 (fun g10 => ?_)
      refine z_icmp_ge (pc := 11) (tgt := 47) h (by omega) (by omega) dX8_lateCost_11 (by decide) (fun c11 => ?_) (fun c11 => ?_)
      · refine z_iload_n (pc := 47) h dX8_lateCost_47 rfl ?_
        refine z_iret (pc := 48) h rfl dX8_lateCost_48 ?_
        exact ⟨by rw [hgo (by omega)], rfl⟩
      · have hlv := fun (_ : m.2 1 (17 + 6 * i + 0) = 1) => hl i h1 (by omega)
        have hdu := hu i h1 (by omega)
        refine z_iload_n (pc := 14) h dX8_lateCost_14 rfl ?_
        refine z_aloadR_n (pc := 15) h dX8_lateCost_15 rfl ?_
        refine z_iload_n (pc := 16) h dX8_lateCost_16 rfl ?_
        refine z_pV (pc := 17) (c := 8) h (m8_isOut (by omega)) (by decide) (by first | assumption | rfl) rfl mv_X8_isOut ml_X8_195 rfl dX8_lateCost_17 rfl (Nat.le_of_ble_eq_true rfl) ?_
        refine z_ifeqB (pc := 20) (tgt := 38) h dX8_lateCost_20 (by decide) (fun c20 => ?_) (fun c20 => ?_)
        · refine z_iconst (pc := 38) h dX8_lateCost_38 ?_
          refine z_iadd (pc := 39) h dX8_lateCost_39 ?_
          refine z_ist_1 (pc := 40) h dX8_lateCost_40 (by decide) rfl ?_
          refine z_inc_2 (pc := 41) h dX8_lateCost_41 (by decide) rfl ?_
          refine z_goto (pc := 44) (tgt := 4) h dX8_lateCost_44 (by decide) ?_
          first
          | (rw [if_pos (of_decide_eq_true c20)] at hih; exact hih (by omega) (by omega))
          | (rw [if_neg (of_decide_eq_false c20)] at hih; exact hih (by omega) (by omega))
        · refine z_aloadR_n (pc := 23) h dX8_lateCost_23 rfl ?_
          refine z_iload_n (pc := 24) h dX8_lateCost_24 rfl ?_
          refine z_iconst (pc := 25) h dX8_lateCost_25 ?_
          refine z_pV (pc := 26) (c := 8) h (m8_of (by omega) (by omega)) (by decide) (by first | assumption | rfl) rfl mv_X8_of ml_X8_92 rfl dX8_lateCost_26 rfl (Nat.le_of_ble_eq_true rfl) ?_
          refine z_aloadR_n (pc := 29) h dX8_lateCost_29 rfl ?_
          refine z_iload_n (pc := 30) h dX8_lateCost_30 rfl ?_
          refine z_pV (pc := 31) (c := 8) h (m8_lateOf (by omega) hlv hdu) (by decide) (by first | assumption | rfl) rfl mv_X8_lateOf ml_X8_248 rfl dX8_lateCost_31 rfl (Nat.le_of_ble_eq_true rfl) ?_
          refine z_imul (pc := 34) h dX8_lateCost_34 ?_
          refine z_goto (pc := 35) (tgt := 39) h dX8_lateCost_35 (by decide) ?_
          refine z_iadd (pc := 39) h dX8_lateCost_39 ?_
          refine z_ist_1 (pc := 40) h dX8_lateCost_40 (by decide) rfl ?_
          refine z_inc_2 (pc := 41) h dX8_lateCost_41 (by decide) rfl ?_
          refine z_goto (pc := 44) (tgt := 4) h dX8_lateCost_44 (by decide) ?_
          first
          | (rw [if_pos (of_decide_eq_true c20)] at hih; exact hih (by omega) (by omega))
          | (rw [if_neg (of_decide_eq_false c20)] at hih; exact hih (by omega) (by omega))
  refine z_iconst (pc := 0) h dX8_lateCost_0 ?_
  refine z_ist_1 (pc := 1) h dX8_lateCost_1 (by decide) rfl ?_
  refine z_iconst (pc := 2) h dX8_lateCost_2 ?_
  refine z_ist_2 (pc := 3) h dX8_lateCost_3 (by decide) rfl ?_
  exact L (m.2 1 1 + 1).toNat 0 (by omega) (by omega) (by omega)
theorem m8_onMany {σ : zS} {m : zOb} (hn : 0 ≤ m.1 20 ∧ m.1 20 ≤ 40) : zCp M_X8_onMany 1 [zR 31] (zo σ 31 m) (zI (s_on m)) := by
  refine zC_of (M := M_X8_onMany) (ls := [some (zR 31), none, none]) (n := 2) (by decide) (fun ad => Nat.le_of_ble_eq_true rfl) rfl (fun x h => ?_)
  have L : ∀ (n : Nat) (i : Int), 0 ≤ i → i ≤ m.1 20 → m.1 20 - i < n → zW x (fun r τ' => r = some (zI (s_on m)) ∧ τ' = zo σ 31 m) 4 [some (zR 31), some (zI (zfor (fun c s => s + (if m.2 24 c = -1 then 0 else 1)) i 0)), some (zI i)] [] (zo σ 31 m) := by
    intro n
    induction n with
    | zero => intro i h1 h2 h3; omega
    | succ n ih =>
      intro i h1 h2 h3
      have hih := ih (i + 1) (by omega)
      rw [zfor_S _ h1] at hih
      have hgo : i = m.1 20 → zfor (fun c s => s + (if m.2 24 c = -1 then 0 else 1)) i 0 = s_on m := fun e => by rw [e]; rfl
      generalize zfor (fun c s => s + (if m.2 24 c = -1 then 0 else 1)) i 0 = acc at hih hgo ⊢
      refine z_iload_n (pc := 4) h dX8_onMany_4 rfl ?_
      refine z_aloadR_n (pc := 5) h dX8_onMany_5 rfl ?_
      refine z_getIq (pc := 6) (c := 8) (j := 20) h (zo_s _ _ _) (by first | assumption | rfl) rfl rfl fl_X8_202 dX8_onMany_6 (fun g6 => ?_)
      refine z_icmp_ge (pc := 9) (tgt := 36) h (by omega) (by omega) dX8_onMany_9 (by decide) (fun c9 => ?_) (fun c9 => ?_)
      · refine z_iload_n (pc := 36) h dX8_onMany_36 rfl ?_
        refine z_iret (pc := 37) h rfl dX8_onMany_37 ?_
        exact ⟨by rw [hgo (by omega)], rfl⟩
      · refine z_iload_n (pc := 12) h dX8_onMany_12 rfl ?_
        refine z_aloadR_n (pc := 13) h dX8_onMany_13 rfl ?_
        refine z_getA4 (pc := 14) (c := 8) (j := 24) h (by first | assumption | rfl) rfl rfl fl_X8_39 dX8_onMany_14 ?_
        refine z_iload_n (pc := 17) h dX8_onMany_17 rfl ?_
        refine z_ialdq (pc := 18) (c := 8) (j := 24) (L := 40) h (zo_s _ _ _) (by first | assumption | rfl) (by decide) rfl (by decide) (by omega) (by omega) dX8_onMany_18 (fun g18 => ?_)
        refine z_iconst (pc := 19) h dX8_onMany_19 ?_
        refine z_icmp_eq (pc := 20) (tgt := 27) h (by omega) (by omega) dX8_onMany_20 (by decide) (fun c20 => ?_) (fun c20 => ?_)
        · refine z_iconst (pc := 27) h dX8_onMany_27 ?_
          refine z_iadd (pc := 28) h dX8_onMany_28 ?_
          refine z_ist_1 (pc := 29) h dX8_onMany_29 (by decide) rfl ?_
          refine z_inc_2 (pc := 30) h dX8_onMany_30 (by decide) rfl ?_
          refine z_goto (pc := 33) (tgt := 4) h dX8_onMany_33 (by decide) ?_
          first
          | (rw [if_pos c20] at hih; exact hih (by omega) (by omega))
          | (rw [if_neg c20] at hih; exact hih (by omega) (by omega))
        · refine z_iconst (pc := 23) h dX8_onMany_23 ?_
          refine z_goto (pc := 24) (tgt := 28) h dX8_onMany_24 (by decide) ?_
          refine z_iadd (pc := 28) h dX8_onMany_28 ?_
          refine z_ist_1 (pc := 29) h dX8_onMany_29 (by decide) rfl ?_
          refine z_inc_2 (pc := 30) h dX8_onMany_30 (by decide) rfl ?_
          refine z_goto (pc := 33) (tgt := 4) h dX8_onMany_33 (by decide) ?_
          first
          | (rw [if_pos c20] at hih; exact hih (by omega) (by omega))
          | (rw [if_neg c20] at hih; exact hih (by omega) (by omega))
  refine z_iconst (pc := 0) h dX8_onMany_0 ?_
  refine z_ist_1 (pc := 1) h dX8_onMany_1 (by decide) rfl ?_
  refine z_iconst (pc := 2) h dX8_onMany_2 ?_
  refine z_ist_2 (pc := 3) h dX8_onMany_3 (by decide) rfl ?_
  exact L (m.1 20 + 1).toNat 0 (by omega) (by omega) (by omega)
theorem m8_farSum {σ : zS} {m : zOb} (hn : 0 ≤ m.1 20 ∧ m.1 20 ≤ 40) : zCp M_X8_farSum 1 [zR 31] (zo σ 31 m) (zI (s_far m)) := by
  refine zC_of (M := M_X8_farSum) (ls := [some (zR 31), none, none]) (n := 2) (by decide) (fun ad => Nat.le_of_ble_eq_true rfl) rfl (fun x h => ?_)
  have L : ∀ (n : Nat) (i : Int), 0 ≤ i → i ≤ m.1 20 → m.1 20 - i < n → zW x (fun r τ' => r = some (zI (s_far m)) ∧ τ' = zo σ 31 m) 4 [some (zR 31), some (zI (zfor (fun c s => s + (if m.2 24 c = -1 then 0 else m.2 26 c)) i 0)), some (zI i)] [] (zo σ 31 m) := by
    intro n
    induction n with
    | zero => intro i h1 h2 h3; omega
    | succ n ih =>
      intro i h1 h2 h3
      have hih := ih (i + 1) (by omega)
      rw [zfor_S _ h1] at hih
      have hgo : i = m.1 20 → zfor (fun c s => s + (if m.2 24 c = -1 then 0 else m.2 26 c)) i 0 = s_far m := fun e => by rw [e]; rfl
      generalize zfor (fun c s => s + (if m.2 24 c = -1 then 0 else m.2 26 c)) i 0 = acc at hih hgo ⊢
      refine z_iload_n (pc := 4) h dX8_farSum_4 rfl ?_
      refine z_aloadR_n (pc := 5) h dX8_farSum_5 rfl ?_
      refine z_getIq (pc := 6) (c := 8) (j := 20) h (zo_s _ _ _) (by first | assumption | rfl) rfl rfl fl_X8_202 dX8_farSum_6 (fun g6 => ?_)
      refine z_icmp_ge (pc := 9) (tgt := 41) h (by omega) (by omega) dX8_farSum_9 (by decide) (fun c9 => ?_) (fun c9 => ?_)
      · refine z_iload_n (pc := 41) h dX8_farSum_41 rfl ?_
        refine z_iret (pc := 42) h rfl dX8_farSum_42 ?_
        exact ⟨by rw [hgo (by omega)], rfl⟩
      · refine z_iload_n (pc := 12) h dX8_farSum_12 rfl ?_
        refine z_aloadR_n (pc := 13) h dX8_farSum_13 rfl ?_
        refine z_getA4 (pc := 14) (c := 8) (j := 24) h (by first | assumption | rfl) rfl rfl fl_X8_39 dX8_farSum_14 ?_
        refine z_iload_n (pc := 17) h dX8_farSum_17 rfl ?_
        refine z_ialdq (pc := 18) (c := 8) (j := 24) (L := 40) h (zo_s _ _ _) (by first | assumption | rfl) (by decide) rfl (by decide) (by omega) (by omega) dX8_farSum_18 (fun g18 => ?_)
        refine z_iconst (pc := 19) h dX8_farSum_19 ?_
        refine z_icmp_eq (pc := 20) (tgt := 32) h (by omega) (by omega) dX8_farSum_20 (by decide) (fun c20 => ?_) (fun c20 => ?_)
        · refine z_iconst (pc := 32) h dX8_farSum_32 ?_
          refine z_iadd (pc := 33) h dX8_farSum_33 ?_
          refine z_ist_1 (pc := 34) h dX8_farSum_34 (by decide) rfl ?_
          refine z_inc_2 (pc := 35) h dX8_farSum_35 (by decide) rfl ?_
          refine z_goto (pc := 38) (tgt := 4) h dX8_farSum_38 (by decide) ?_
          first
          | (rw [if_pos c20] at hih; exact hih (by omega) (by omega))
          | (rw [if_neg c20] at hih; exact hih (by omega) (by omega))
        · refine z_aloadR_n (pc := 23) h dX8_farSum_23 rfl ?_
          refine z_getA4 (pc := 24) (c := 8) (j := 26) h (by first | assumption | rfl) rfl rfl fl_X8_45 dX8_farSum_24 ?_
          refine z_iload_n (pc := 27) h dX8_farSum_27 rfl ?_
          refine z_ialdq (pc := 28) (c := 8) (j := 26) (L := 40) h (zo_s _ _ _) (by first | assumption | rfl) (by decide) rfl (by decide) (by omega) (by omega) dX8_farSum_28 (fun g28 => ?_)
          refine z_goto (pc := 29) (tgt := 33) h dX8_farSum_29 (by decide) ?_
          refine z_iadd (pc := 33) h dX8_farSum_33 ?_
          refine z_ist_1 (pc := 34) h dX8_farSum_34 (by decide) rfl ?_
          refine z_inc_2 (pc := 35) h dX8_farSum_35 (by decide) rfl ?_
          refine z_goto (pc := 38) (tgt := 4) h dX8_farSum_38 (by decide) ?_
          first
          | (rw [if_pos c20] at hih; exact hih (by omega) (by omega))
          | (rw [if_neg c20] at hih; exact hih (by omega) (by omega))
  refine z_iconst (pc := 0) h dX8_farSum_0 ?_
  refine z_ist_1 (pc := 1) h dX8_farSum_1 (by decide) rfl ?_
  refine z_iconst (pc := 2) h dX8_farSum_2 ?_
  refine z_ist_2 (pc := 3) h dX8_farSum_3 (by decide) rfl ?_
  exact L (m.1 20 + 1).toNat 0 (by omega) (by omega) (by omega)
theorem m8_stagedSum {σ : zS} {m : zOb} (hn : 0 ≤ m.1 20 ∧ m.1 20 ≤ 40) : zCp M_X8_stagedSum 1 [zR 31] (zo σ 31 m) (zI (s_ss m)) := by
  refine zC_of (M := M_X8_stagedSum) (ls := [some (zR 31), none, none]) (n := 2) (by decide) (fun ad => Nat.le_of_ble_eq_true rfl) rfl (fun x h => ?_)
  have L : ∀ (n : Nat) (i : Int), 0 ≤ i → i ≤ m.1 20 → m.1 20 - i < n → zW x (fun r τ' => r = some (zI (s_ss m)) ∧ τ' = zo σ 31 m) 4 [some (zR 31), some (zI (zfor (fun c s => s + (if m.2 24 c = -1 then 0 else m.2 24 c - m.2 23 c)) i 0)), some (zI i)] [] (zo σ 31 m) := by
    intro n
    induction n with
    | zero => intro i h1 h2 h3; omega
    | succ n ih =>
      intro i h1 h2 h3
      have hih := ih (i + 1) (by omega)
      rw [zfor_S _ h1] at hih
      have hgo : i = m.1 20 → zfor (fun c s => s + (if m.2 24 c = -1 then 0 else m.2 24 c - m.2 23 c)) i 0 = s_ss m := fun e => by rw [e]; rfl
      generalize zfor (fun c s => s + (if m.2 24 c = -1 then 0 else m.2 24 c - m.2 23 c)) i 0 = acc at hih hgo ⊢
      refine z_iload_n (pc := 4) h dX8_stagedSum_4 rfl ?_
      refine z_aloadR_n (pc := 5) h dX8_stagedSum_5 rfl ?_
      refine z_getIq (pc := 6) (c := 8) (j := 20) h (zo_s _ _ _) (by first | assumption | rfl) rfl rfl fl_X8_202 dX8_stagedSum_6 (fun g6 => ?_)
      refine z_icmp_ge (pc := 9) (tgt := 48) h (by omega) (by omega) dX8_stagedSum_9 (by decide) (fun c9 => ?_) (fun c9 => ?_)
      · refine z_iload_n (pc := 48) h dX8_stagedSum_48 rfl ?_
        refine z_iret (pc := 49) h rfl dX8_stagedSum_49 ?_
        exact ⟨by rw [hgo (by omega)], rfl⟩
      · refine z_iload_n (pc := 12) h dX8_stagedSum_12 rfl ?_
        refine z_aloadR_n (pc := 13) h dX8_stagedSum_13 rfl ?_
        refine z_getA4 (pc := 14) (c := 8) (j := 24) h (by first | assumption | rfl) rfl rfl fl_X8_39 dX8_stagedSum_14 ?_
        refine z_iload_n (pc := 17) h dX8_stagedSum_17 rfl ?_
        refine z_ialdq (pc := 18) (c := 8) (j := 24) (L := 40) h (zo_s _ _ _) (by first | assumption | rfl) (by decide) rfl (by decide) (by omega) (by omega) dX8_stagedSum_18 (fun g18 => ?_)
        refine z_iconst (pc := 19) h dX8_stagedSum_19 ?_
        refine z_icmp_eq (pc := 20) (tgt := 39) h (by omega) (by omega) dX8_stagedSum_20 (by decide) (fun c20 => ?_) (fun c20 => ?_)
        · refine z_iconst (pc := 39) h dX8_stagedSum_39 ?_
          refine z_iadd (pc := 40) h dX8_stagedSum_40 ?_
          refine z_ist_1 (pc := 41) h dX8_stagedSum_41 (by decide) rfl ?_
          refine z_inc_2 (pc := 42) h dX8_stagedSum_42 (by decide) rfl ?_
          refine z_goto (pc := 45) (tgt := 4) h dX8_stagedSum_45 (by decide) ?_
          first
          | (rw [if_pos c20] at hih; exact hih (by omega) (by omega))
          | (rw [if_neg c20] at hih; exact hih (by omega) (by omega))
        · refine z_aloadR_n (pc := 23) h dX8_stagedSum_23 rfl ?_
          refine z_getA4 (pc := 24) (c := 8) (j := 24) h (by first | assumption | rfl) rfl rfl fl_X8_39 dX8_stagedSum_24 ?_
          refine z_iload_n (pc := 27) h dX8_stagedSum_27 rfl ?_
          refine z_ialdq (pc := 28) (c := 8) (j := 24) (L := 40) h (zo_s _ _ _) (by first | assumption | rfl) (by decide) rfl (by decide) (by omega) (by omega) dX8_stagedSum_28 (fun g28 => ?_)
          refine z_aloadR_n (pc := 29) h dX8_stagedSum_29 rfl ?_
          refine z_getA4 (pc := 30) (c := 8) (j := 23) h (by first | assumption | rfl) rfl rfl fl_X8_36 dX8_stagedSum_30 ?_
          refine z_iload_n (pc := 33) h dX8_stagedSum_33 rfl ?_
          refine z_ialdq (pc := 34) (c := 8) (j := 23) (L := 40) h (zo_s _ _ _) (by first | assumption | rfl) (by decide) rfl (by decide) (by omega) (by omega) dX8_stagedSum_34 (fun g34 => ?_)
          refine z_isub (pc := 35) h dX8_stagedSum_35 ?_
          refine z_goto (pc := 36) (tgt := 40) h dX8_stagedSum_36 (by decide) ?_
          refine z_iadd (pc := 40) h dX8_stagedSum_40 ?_
          refine z_ist_1 (pc := 41) h dX8_stagedSum_41 (by decide) rfl ?_
          refine z_inc_2 (pc := 42) h dX8_stagedSum_42 (by decide) rfl ?_
          refine z_goto (pc := 45) (tgt := 4) h dX8_stagedSum_45 (by decide) ?_
          first
          | (rw [if_pos c20] at hih; exact hih (by omega) (by omega))
          | (rw [if_neg c20] at hih; exact hih (by omega) (by omega))
  refine z_iconst (pc := 0) h dX8_stagedSum_0 ?_
  refine z_ist_1 (pc := 1) h dX8_stagedSum_1 (by decide) rfl ?_
  refine z_iconst (pc := 2) h dX8_stagedSum_2 ?_
  refine z_ist_2 (pc := 3) h dX8_stagedSum_3 (by decide) rfl ?_
  exact L (m.1 20 + 1).toNat 0 (by omega) (by omega) (by omega)
theorem DI_min {m : zOb} (h : DI (-1) m) : DI (-1) (oss m 35 (m.1 35 + 1)) := by
  obtain ⟨i1, i2, i3, i4, i5, i6, i7, i8⟩ := h
  refine ⟨?_, i2, i3, i4, i5, ?_, ?_, i8.1, ?_⟩
  · intro d h0 h1
    obtain ⟨a1, a2, a3, a4, a5⟩ := i1 d h0 h1
    exact ⟨a1, a2, a3, a4, by show m.2 34 d ≤ m.1 35 + 1 + 10; omega⟩
  · intro t h0 h1
    obtain ⟨a1, a2, a3, a4⟩ := i6 t h0 h1
    exact ⟨a1, by show -1 ≤ m.2 27 t ∧ m.2 27 t ≤ m.1 35 + 1; omega, by show -1 ≤ m.2 28 t ∧ m.2 28 t ≤ m.1 35 + 1; omega, a4⟩
  · intro c h0 h1
    obtain ⟨a1, a2, a3, a4⟩ := i7 c h0 h1
    refine ⟨by show -1 ≤ m.2 23 c ∧ m.2 23 c ≤ m.1 35 + 1; omega, a2, a3, ?_⟩
    rcases a4 with z | ⟨z1, z2, z3, z4⟩
    · exact Or.inl z
    · exact Or.inr ⟨z1, z2, by show m.2 24 c ≤ m.1 35 + 1; omega, z4⟩
  · have := i8.2
    show 0 ≤ m.1 35 + 1
    omega
theorem go_ok {m : zOb} (hS : SI m) (hD : DI (-1) m) : SI (s_go m) ∧ DI (-1) (s_go m) ∧ SM m (s_go m) ∧ m.1 39 ≤ (s_go m).1 39 ∧ (s_go m).1 39 ≤ m.1 39 + 24 := by
  have h6 := hS.1.1
  obtain ⟨a1, a2, a3, a4, a5⟩ := KP_for KP_dk hS hD h6.1 (Int.le_refl _)
  rw [← s_p1_eq] at a1 a2 a3 a4 a5
  have e1 : (s_p1 m).2 1 0 = m.2 1 0 := by rw [a3.1]
  obtain ⟨b1, b2, b3, b4, b5⟩ := KP_for KP_f2 a1 a2 (i := (s_p1 m).2 1 0) (by omega) (Int.le_refl _)
  rw [← s_p2_eq] at b1 b2 b3 b4 b5
  have e2 : (s_p2 (s_p1 m)).2 1 0 = m.2 1 0 := by rw [b3.1, a3.1]
  obtain ⟨c1, c2, c3, c4, c5⟩ := KP_for KP_f3 b1 b2 (i := (s_p2 (s_p1 m)).2 1 0) (by omega) (Int.le_refl _)
  rw [← s_p3_eq] at c1 c2 c3 c4 c5
  have e3 : (s_p3 (s_p2 (s_p1 m))).2 1 0 = m.2 1 0 := by rw [c3.1, b3.1, a3.1]
  obtain ⟨d1, d2, d3, d4, d5⟩ := KP_for KP_f4 c1 c2 (i := (s_p3 (s_p2 (s_p1 m))).2 1 0) (by omega) (Int.le_refl _)
  rw [← s_p4_eq] at d1 d2 d3 d4 d5
  have e4 := ((a3.tr b3).tr c3).tr d3
  unfold s_go
  generalize s_p4 (s_p3 (s_p2 (s_p1 m))) = m4 at d1 d2 d3 d4 d5 e4 ⊢
  unfold s_p5
  split
  · exact ⟨d1, d2, e4, by show m.1 39 ≤ m4.1 39; omega, by show m4.1 39 ≤ m.1 39 + 24; omega⟩
  · exact ⟨d1, d2, e4, by omega, by omega⟩
def s_loop : Nat → zOb → zOb
  | 0, m => m
  | n + 1, m => if m.1 35 < 200 ∧ s_over m = false then s_loop n (oss (s_go m) 35 (m.1 35 + 1)) else m
def s_run (m : zOb) : zOb := s_loop 201 (s_ini m)
theorem m8_runs {σ : zS} {m : zOb} (hwa : WFa (m.2 1)) (hwr : WFr (m.2 1)) : zCr M_X8_runs 5 [zR 31] (zo σ 31 m) (zI (s_cost (s_run m))) (zo σ 31 (s_run m)) := by
  refine zC_of (M := M_X8_runs) (ls := [some (zR 31)]) (n := 0) (by decide) (fun ad => Nat.le_of_ble_eq_true rfl) rfl (fun x h => ?_)
  have L : ∀ (n : Nat) (m' : zOb), SI m' → DI (-1) m' → m'.1 35 ≤ 200 → (0 ≤ m'.1 39 ∧ m'.1 39 ≤ 24 * m'.1 35) → 200 - m'.1 35 < n → s_loop n m' = s_run m → zW x (fun r τ' => r = some (zI (s_cost (s_run m))) ∧ τ' = zo σ 31 (s_run m)) 29 [some (zR 31)] [] (zo σ 31 m') := by
    intro n
    induction n with
    | zero => intro m' h1 h2 h3 h4 h5; omega
    | succ n ih =>
      intro m' h1 h2 h3 h4 h5 h6
      have hn8 := h1.1.2.1
      have hn6 := h1.1.1
      have hn40 := h1.2.2.2.1
      have hm0 := h2.2.2.2.2.2.2.2.2
      have hlv : ∀ t, 0 ≤ t → t < m'.2 1 1 → -1 ≤ m'.2 28 t ∧ m'.2 28 t ≤ 200 := fun t q1 q2 => by have := (h2.2.2.2.2.2.1 t q1 q2).2.2.1; omega
      have hdu : ∀ t, 0 ≤ t → t < m'.2 1 1 → m'.2 1 (17 + 6 * t + 0) = 1 → 0 ≤ m'.2 1 (17 + 6 * t + 3) ∧ m'.2 1 (17 + 6 * t + 3) ≤ 199 := fun t q1 q2 q3 => ((h1.1.2.2.2.2.2.2.1 t q1 q2).2.2.1 q3).2.1
      have hend : ¬ (m'.1 35 < 200 ∧ s_over m' = false) → m' = s_run m := fun z => by rw [← h6]; show m' = if _ then _ else _; rw [if_neg z]
      have hnx : (m'.1 35 < 200 ∧ s_over m' = false) → s_loop n (oss (s_go m') 35 (m'.1 35 + 1)) = s_run m := fun z => by rw [← h6]; show _ = if _ then _ else _; rw [if_pos z]
      refine z_aloadR_n (pc := 29) h dX8_runs_29 rfl ?_
      refine z_getIq (pc := 30) (c := 8) (j := 35) h (zo_s _ _ _) (by first | assumption | rfl) rfl rfl fl_X8_208 dX8_runs_30 (fun g30 => ?_)
      refine z_sipush (pc := 33) h dX8_runs_33 (by decide) ?_
      refine z_icmp_ge (pc := 36) (tgt := 63) h (by omega) (by omega) dX8_runs_36 (by decide) (fun c36 => ?_) (fun c36 => ?_)
      · have hme : m' = s_run m := hend (fun z => by have z1 := z.1; have z2 := z.2; first | omega | (rw [c43] at z2; cases z2))
        refine z_aloadR_n (pc := 63) h dX8_runs_63 rfl ?_
        refine z_pV (pc := 64) (c := 8) h (m8_lateCost hn8 hlv hdu) (by decide) (by first | assumption | rfl) rfl mv_X8_lateCost ml_X8_260 rfl dX8_runs_64 rfl (Nat.le_of_ble_eq_true rfl) ?_
        refine z_aloadR_n (pc := 67) h dX8_runs_67 rfl ?_
        refine z_pV (pc := 68) (c := 8) h (m8_farSum hn40) (by decide) (by first | assumption | rfl) rfl mv_X8_farSum ml_X8_263 rfl dX8_runs_68 rfl (Nat.le_of_ble_eq_true rfl) ?_
        refine z_iadd (pc := 71) h dX8_runs_71 ?_
        refine z_aloadR_n (pc := 72) h dX8_runs_72 rfl ?_
        refine z_pV (pc := 73) (c := 8) h (m8_stagedSum hn40) (by decide) (by first | assumption | rfl) rfl mv_X8_stagedSum ml_X8_266 rfl dX8_runs_73 rfl (Nat.le_of_ble_eq_true rfl) ?_
        refine z_iadd (pc := 76) h dX8_runs_76 ?_
        refine z_bipush (pc := 77) h dX8_runs_77 (by decide) ?_
        refine z_aloadR_n (pc := 79) h dX8_runs_79 rfl ?_
        refine z_getIq (pc := 80) (c := 8) (j := 20) h (zo_s _ _ _) (by first | assumption | rfl) rfl rfl fl_X8_202 dX8_runs_80 (fun g80 => ?_)
        refine z_aloadR_n (pc := 83) h dX8_runs_83 rfl ?_
        refine z_pV (pc := 84) (c := 8) h (m8_onMany hn40) (by decide) (by first | assumption | rfl) rfl mv_X8_onMany ml_X8_269 rfl dX8_runs_84 rfl (Nat.le_of_ble_eq_true rfl) ?_
        refine z_isub (pc := 87) h dX8_runs_87 ?_
        refine z_imul (pc := 88) h dX8_runs_88 ?_
        refine z_iadd (pc := 89) h dX8_runs_89 ?_
        refine z_iret (pc := 90) h rfl dX8_runs_90 ?_
        rw [← hme]
        exact ⟨rfl, rfl⟩
      · refine z_aloadR_n (pc := 39) h dX8_runs_39 rfl ?_
        refine z_pV (pc := 40) (c := 8) h (m8_isOver (by omega)) (by decide) (by first | assumption | rfl) rfl mv_X8_isOver ml_X8_254 rfl dX8_runs_40 rfl (Nat.le_of_ble_eq_true rfl) ?_
        refine z_ifneB (pc := 43) (tgt := 63) h dX8_runs_43 (by decide) (fun c43 => ?_) (fun c43 => ?_)
        · have hme : m' = s_run m := hend (fun z => by have z1 := z.1; have z2 := z.2; first | omega | (rw [c43] at z2; cases z2))
          refine z_aloadR_n (pc := 63) h dX8_runs_63 rfl ?_
          refine z_pV (pc := 64) (c := 8) h (m8_lateCost hn8 hlv hdu) (by decide) (by first | assumption | rfl) rfl mv_X8_lateCost ml_X8_260 rfl dX8_runs_64 rfl (Nat.le_of_ble_eq_true rfl) ?_
          refine z_aloadR_n (pc := 67) h dX8_runs_67 rfl ?_
          refine z_pV (pc := 68) (c := 8) h (m8_farSum hn40) (by decide) (by first | assumption | rfl) rfl mv_X8_farSum ml_X8_263 rfl dX8_runs_68 rfl (Nat.le_of_ble_eq_true rfl) ?_
          refine z_iadd (pc := 71) h dX8_runs_71 ?_
          refine z_aloadR_n (pc := 72) h dX8_runs_72 rfl ?_
          refine z_pV (pc := 73) (c := 8) h (m8_stagedSum hn40) (by decide) (by first | assumption | rfl) rfl mv_X8_stagedSum ml_X8_266 rfl dX8_runs_73 rfl (Nat.le_of_ble_eq_true rfl) ?_
          refine z_iadd (pc := 76) h dX8_runs_76 ?_
          refine z_bipush (pc := 77) h dX8_runs_77 (by decide) ?_
          refine z_aloadR_n (pc := 79) h dX8_runs_79 rfl ?_
          refine z_getIq (pc := 80) (c := 8) (j := 20) h (zo_s _ _ _) (by first | assumption | rfl) rfl rfl fl_X8_202 dX8_runs_80 (fun g80 => ?_)
          refine z_aloadR_n (pc := 83) h dX8_runs_83 rfl ?_
          refine z_pV (pc := 84) (c := 8) h (m8_onMany hn40) (by decide) (by first | assumption | rfl) rfl mv_X8_onMany ml_X8_269 rfl dX8_runs_84 rfl (Nat.le_of_ble_eq_true rfl) ?_
          refine z_isub (pc := 87) h dX8_runs_87 ?_
          refine z_imul (pc := 88) h dX8_runs_88 ?_
          refine z_iadd (pc := 89) h dX8_runs_89 ?_
          refine z_iret (pc := 90) h rfl dX8_runs_90 ?_
          rw [← hme]
          exact ⟨rfl, rfl⟩
        · refine z_aloadR_n (pc := 46) h dX8_runs_46 rfl ?_
          refine z_vV (pc := 47) (c := 8) h (m8_goes h1 h2 (by omega) (by omega)) (by decide) (by first | assumption | rfl) rfl mv_X8_goes ml_X8_257 rfl dX8_runs_47 rfl (Nat.le_of_ble_eq_true rfl) ?_
          obtain ⟨g1, g2, g3, g4, g5⟩ := go_ok h1 h2
          have g35 : (s_go m').1 35 = m'.1 35 := g3.2.2.2.2.2.2
          refine z_aloadR_n (pc := 50) h dX8_runs_50 rfl ?_
          refine z_dupR (pc := 51) h dX8_runs_51 ?_
          refine z_getIq (pc := 52) (c := 8) (j := 35) h (zo_s _ _ _) (by first | assumption | rfl) rfl rfl fl_X8_208 dX8_runs_52 (fun g52 => ?_)
          refine z_iconst (pc := 55) h dX8_runs_55 ?_
          refine z_iadd (pc := 56) h dX8_runs_56 ?_
          refine z_putIo (pc := 57) (c := 8) (j := 35) h (by first | assumption | rfl) rfl rfl fl_X8_208 rfl (tyX8_ok 35 (by decide)) dX8_runs_57 (by omega) ?_
          refine z_goto (pc := 60) (tgt := 29) h dX8_runs_60 (by decide) ?_
          have e35 : oss (s_go m') 35 ((s_go m').1 35 + 1) = oss (s_go m') 35 (m'.1 35 + 1) := by rw [g35]
          refine ih _ g1 (DI_min g2) ?_ ?_ ?_ (by rw [e35]; exact hnx ⟨by omega, c43⟩)
          · show (s_go m').1 35 + 1 ≤ 200; omega
          · show 0 ≤ (s_go m').1 39 ∧ (s_go m').1 39 ≤ 24 * ((s_go m').1 35 + 1); omega
          · show 200 - ((s_go m').1 35 + 1) < (n : Int); omega
  obtain ⟨k1, k2, k3⟩ := ini_ok hwa hwr
  refine z_aloadR_n (pc := 0) h dX8_runs_0 rfl ?_
  refine z_vV (pc := 1) (c := 8) h (m8_laysCartons hwa hwr) (by decide) (by first | assumption | rfl) rfl mv_X8_laysCartons ml_X8_251 rfl dX8_runs_1 rfl (Nat.le_of_ble_eq_true rfl) ?_
  refine z_aloadR_n (pc := 4) h dX8_runs_4 rfl ?_
  refine z_iconst (pc := 5) h dX8_runs_5 ?_
  refine z_putIo (pc := 6) (c := 8) (j := 36) h (by first | assumption | rfl) rfl rfl fl_X8_217 rfl (tyX8_ok 36 (by decide)) dX8_runs_6 (by omega) ?_
  refine z_aloadR_n (pc := 9) h dX8_runs_9 rfl ?_
  refine z_iconst (pc := 10) h dX8_runs_10 ?_
  refine z_putIo (pc := 11) (c := 8) (j := 37) h (by first | assumption | rfl) rfl rfl fl_X8_242 rfl (tyX8_ok 37 (by decide)) dX8_runs_11 (by omega) ?_
  refine z_aloadR_n (pc := 14) h dX8_runs_14 rfl ?_
  refine z_iconst (pc := 15) h dX8_runs_15 ?_
  refine z_putIo (pc := 16) (c := 8) (j := 38) h (by first | assumption | rfl) rfl rfl fl_X8_245 rfl (tyX8_ok 38 (by decide)) dX8_runs_16 (by omega) ?_
  refine z_aloadR_n (pc := 19) h dX8_runs_19 rfl ?_
  refine z_iconst (pc := 20) h dX8_runs_20 ?_
  refine z_putIo (pc := 21) (c := 8) (j := 39) h (by first | assumption | rfl) rfl rfl fl_X8_224 rfl (tyX8_ok 39 (by decide)) dX8_runs_21 (by omega) ?_
  refine z_aloadR_n (pc := 24) h dX8_runs_24 rfl ?_
  refine z_iconst (pc := 25) h dX8_runs_25 ?_
  refine z_putIo (pc := 26) (c := 8) (j := 35) h (by first | assumption | rfl) rfl rfl fl_X8_208 rfl (tyX8_ok 35 (by decide)) dX8_runs_26 (by omega) ?_
  exact L 201 (s_ini m) k1 k2 (by show (0 : Int) ≤ 200; omega) (by show (0 : Int) ≤ 0 ∧ (0 : Int) ≤ 24 * 0; omega) (by show (200 : Int) - 0 < ((201 : Nat) : Int); omega) rfl
/-- what a run leaves behind -/
theorem run_ok {m : zOb} (hwa : WFa (m.2 1)) (hwr : WFr (m.2 1)) : SI (s_run m) ∧ DI (-1) (s_run m) ∧ (s_run m).2 1 = m.2 1 ∧ (s_run m).1 35 ≤ 200 := by
  have key : ∀ (n : Nat) (m' : zOb), SI m' → DI (-1) m' → m'.2 1 = m.2 1 → m'.1 35 ≤ 200 → SI (s_loop n m') ∧ DI (-1) (s_loop n m') ∧ (s_loop n m').2 1 = m.2 1 ∧ (s_loop n m').1 35 ≤ 200 := by
    intro n
    induction n with
    | zero => intro m' h1 h2 h3 h4; exact ⟨h1, h2, h3, h4⟩
    | succ n ih =>
      intro m' h1 h2 h3 h4
      unfold s_loop
      split
      · rename_i q
        obtain ⟨g1, g2, g3, g4, g5⟩ := go_ok h1 h2
        have e35 : oss (s_go m') 35 ((s_go m').1 35 + 1) = oss (s_go m') 35 (m'.1 35 + 1) := by rw [g3.2.2.2.2.2.2]
        rw [← e35]
        refine ih _ g1 (DI_min g2) (g3.1.trans h3) ?_
        show (s_go m').1 35 + 1 ≤ 200
        rw [g3.2.2.2.2.2.2]
        omega
      · exact ⟨h1, h2, h3, h4⟩
  obtain ⟨k1, k2, k3⟩ := ini_ok hwa hwr
  exact key 201 (s_ini m) k1 k2 k3 (by show (0 : Int) ≤ 200; omega)
