/-! The class: what is told goes into a dock. -/
theorem c_clearD {σ : zS} {dk : zOb} : zCv M_X1_clear 1 [zR 3] (zo σ 3 dk) (zo σ 3 (oss (oss (oss (oss (oss dk 0 0) 1 0) 2 0) 3 10) 4 2)) := by
  refine zC_of (M := M_X1_clear) (ls := [some (zR 3)]) (n := 0) (by decide) (fun ad => Nat.le_of_ble_eq_true rfl) rfl (fun x h => ?_)
  refine z_aloadR_n (pc := 0) h dX1_clear_0 rfl ?_
  refine z_iconst (pc := 1) h dX1_clear_1 ?_
  refine z_putIo (pc := 2) (c := 1) (j := 0) h (by first | assumption | rfl) rfl rfl fl_X1_52 rfl (tyX1_ok 0 (by decide)) dX1_clear_2 (by omega) ?_
  refine z_aloadR_n (pc := 5) h dX1_clear_5 rfl ?_
  refine z_iconst (pc := 6) h dX1_clear_6 ?_
  refine z_putIo (pc := 7) (c := 1) (j := 1) h (by first | assumption | rfl) rfl rfl fl_X1_55 rfl (tyX1_ok 1 (by decide)) dX1_clear_7 (by omega) ?_
  refine z_aloadR_n (pc := 10) h dX1_clear_10 rfl ?_
  refine z_iconst (pc := 11) h dX1_clear_11 ?_
  refine z_putIo (pc := 12) (c := 1) (j := 2) h (by first | assumption | rfl) rfl rfl fl_X1_58 rfl (tyX1_ok 2 (by decide)) dX1_clear_12 (by omega) ?_
  refine z_aloadR_n (pc := 15) h dX1_clear_15 rfl ?_
  refine z_bipush (pc := 16) h dX1_clear_16 (by decide) ?_
  refine z_putIo (pc := 18) (c := 1) (j := 3) h (by first | assumption | rfl) rfl rfl fl_X1_9 rfl (tyX1_ok 3 (by decide)) dX1_clear_18 (by omega) ?_
  refine z_aloadR_n (pc := 21) h dX1_clear_21 rfl ?_
  refine z_iconst (pc := 22) h dX1_clear_22 ?_
  refine z_putIo (pc := 23) (c := 1) (j := 4) h (by first | assumption | rfl) rfl rfl fl_X1_15 rfl (tyX1_ok 4 (by decide)) dX1_clear_23 (by omega) ?_
  refine z_ret (pc := 26) h rfl dX1_clear_26 ?_
  exact ⟨rfl, rfl⟩
theorem c_addDoor {σ : zS} {dk : zOb} {k v : Int} (h : 0 ≤ dk.1 0 ∧ dk.1 0 ≤ 6) (hk : k = 0 ∨ k = 1) (hv : 0 ≤ v ∧ v ≤ 999) : zCv M_X1_addDoor 1 [zR 3, zI k, zI v] (zo σ 3 dk) (zo σ 3 (if dk.1 0 < 6 then dO dk k v else dk)) := by
  refine zC_of (M := M_X1_addDoor) (ls := [some (zR 3), some (zI k), some (zI v)]) (n := 0) (by decide) (fun ad => Nat.le_of_ble_eq_true rfl) rfl (fun x h => ?_)
  refine z_aloadR_n (pc := 0) h dX1_addDoor_0 rfl ?_
  refine z_getIq (pc := 1) (c := 1) (j := 0) h (zo_s _ _ _) (by first | assumption | rfl) rfl rfl fl_X1_52 dX1_addDoor_1 (fun g1 => ?_)
  refine z_bipush (pc := 4) h dX1_addDoor_4 (by decide) ?_
  refine z_icmp_lt (pc := 6) (tgt := 10) h (by omega) (by omega) dX1_addDoor_6 (by decide) (fun c6 => ?_) (fun c6 => ?_)
  · refine z_aloadR_n (pc := 10) h dX1_addDoor_10 rfl ?_
    refine z_getA4 (pc := 11) (c := 1) (j := 5) h (by first | assumption | rfl) rfl rfl fl_X1_18 dX1_addDoor_11 ?_
    refine z_aloadR_n (pc := 14) h dX1_addDoor_14 rfl ?_
    refine z_getIq (pc := 15) (c := 1) (j := 0) h (zo_s _ _ _) (by first | assumption | rfl) rfl rfl fl_X1_52 dX1_addDoor_15 (fun g15 => ?_)
    refine z_iload_n (pc := 18) h dX1_addDoor_18 rfl ?_
    refine z_iasto (pc := 19) (c := 1) (j := 5) (L := 6) h (by first | assumption | rfl) (by decide) rfl (by decide) (by omega) (by omega) (by omega) dX1_addDoor_19 ?_
    refine z_aloadR_n (pc := 20) h dX1_addDoor_20 rfl ?_
    refine z_getA4 (pc := 21) (c := 1) (j := 6) h (by first | assumption | rfl) rfl rfl fl_X1_22 dX1_addDoor_21 ?_
    refine z_aloadR_n (pc := 24) h dX1_addDoor_24 rfl ?_
    refine z_getIq (pc := 25) (c := 1) (j := 0) h (zo_s _ _ _) (by first | assumption | rfl) rfl rfl fl_X1_52 dX1_addDoor_25 (fun g25 => ?_)
    try simp only [osa_1, osa_2, oss_1, oss_2, osA_1, osA_2, zup_s, reduceIte, Nat.reduceEqDiff] at g25 ⊢
    refine z_iload_n (pc := 28) h dX1_addDoor_28 rfl ?_
    refine z_iasto (pc := 29) (c := 1) (j := 6) (L := 6) h (by first | assumption | rfl) (by decide) rfl (by decide) (by omega) (by omega) (by omega) dX1_addDoor_29 ?_
    refine z_aloadR_n (pc := 30) h dX1_addDoor_30 rfl ?_
    refine z_dupR (pc := 31) h dX1_addDoor_31 ?_
    refine z_getIq (pc := 32) (c := 1) (j := 0) h (zo_s _ _ _) (by first | assumption | rfl) rfl rfl fl_X1_52 dX1_addDoor_32 (fun g32 => ?_)
    try simp only [osa_1, osa_2, oss_1, oss_2, osA_1, osA_2, zup_s, reduceIte, Nat.reduceEqDiff] at g32 ⊢
    refine z_iconst (pc := 35) h dX1_addDoor_35 ?_
    refine z_iadd (pc := 36) h dX1_addDoor_36 ?_
    refine z_putIo (pc := 37) (c := 1) (j := 0) h (by first | assumption | rfl) rfl rfl fl_X1_52 rfl (tyX1_ok 0 (by decide)) dX1_addDoor_37 (by omega) ?_
    refine z_ret (pc := 40) h rfl dX1_addDoor_40 ?_
    rw [if_pos (by omega)]
    exact ⟨rfl, rfl⟩
  · refine z_ret (pc := 9) h rfl dX1_addDoor_9 ?_
    rw [if_neg (by omega)]
    exact ⟨rfl, rfl⟩
def bO (dk : zOb) (v : Int) : zOb := oss (osa (osa (osa (osa (osa (osa (osa dk 7 (dk.1 1) 0) 8 (dk.1 1) v) 9 (dk.1 1) (-1)) 10 (dk.1 1) (-1)) 11 (dk.1 1) 0) 12 (dk.1 1) (-1)) 13 (dk.1 1) (dk.1 2)) 1 (dk.1 1 + 1)
theorem c_addBringer {σ : zS} {dk : zOb} {v : Int} (h : 0 ≤ dk.1 1 ∧ dk.1 1 ≤ 8) (hv : 0 ≤ v ∧ v ≤ 999) (hc : 0 ≤ dk.1 2 ∧ dk.1 2 ≤ 40) : zCv M_X1_addBringer 1 [zR 3, zI v] (zo σ 3 dk) (zo σ 3 (if dk.1 1 < 8 then bO dk v else dk)) := by
  refine zC_of (M := M_X1_addBringer) (ls := [some (zR 3), some (zI v)]) (n := 0) (by decide) (fun ad => Nat.le_of_ble_eq_true rfl) rfl (fun x h => ?_)
  refine z_aloadR_n (pc := 0) h dX1_addBringer_0 rfl ?_
  refine z_getIq (pc := 1) (c := 1) (j := 1) h (zo_s _ _ _) (by first | assumption | rfl) rfl rfl fl_X1_55 dX1_addBringer_1 (fun g1 => ?_)
  refine z_bipush (pc := 4) h dX1_addBringer_4 (by decide) ?_
  refine z_icmp_lt (pc := 6) (tgt := 10) h (by omega) (by omega) dX1_addBringer_6 (by decide) (fun c6 => ?_) (fun c6 => ?_)
  · refine z_aloadR_n (pc := 10) h dX1_addBringer_10 rfl ?_
    refine z_getA4 (pc := 11) (c := 1) (j := 7) h (by first | assumption | rfl) rfl rfl fl_X1_25 dX1_addBringer_11 ?_
    refine z_aloadR_n (pc := 14) h dX1_addBringer_14 rfl ?_
    refine z_getIq (pc := 15) (c := 1) (j := 1) h (zo_s _ _ _) (by first | assumption | rfl) rfl rfl fl_X1_55 dX1_addBringer_15 (fun g15 => ?_)
    refine z_iconst (pc := 18) h dX1_addBringer_18 ?_
    refine z_iasto (pc := 19) (c := 1) (j := 7) (L := 8) h (by first | assumption | rfl) (by decide) rfl (by decide) (by omega) (by omega) (by omega) dX1_addBringer_19 ?_
    refine z_aloadR_n (pc := 20) h dX1_addBringer_20 rfl ?_
    refine z_getA4 (pc := 21) (c := 1) (j := 8) h (by first | assumption | rfl) rfl rfl fl_X1_28 dX1_addBringer_21 ?_
    refine z_aloadR_n (pc := 24) h dX1_addBringer_24 rfl ?_
    refine z_getIq (pc := 25) (c := 1) (j := 1) h (zo_s _ _ _) (by first | assumption | rfl) rfl rfl fl_X1_55 dX1_addBringer_25 (fun g25 => ?_)
    try simp only [osa_1, osa_2, oss_1, oss_2, osA_1, osA_2, zup_s, reduceIte, Nat.reduceEqDiff] at g25 ⊢
    refine z_iload_n (pc := 28) h dX1_addBringer_28 rfl ?_
    refine z_iasto (pc := 29) (c := 1) (j := 8) (L := 8) h (by first | assumption | rfl) (by decide) rfl (by decide) (by omega) (by omega) (by omega) dX1_addBringer_29 ?_
    refine z_aloadR_n (pc := 30) h dX1_addBringer_30 rfl ?_
    refine z_getA4 (pc := 31) (c := 1) (j := 9) h (by first | assumption | rfl) rfl rfl fl_X1_31 dX1_addBringer_31 ?_
    refine z_aloadR_n (pc := 34) h dX1_addBringer_34 rfl ?_
    refine z_getIq (pc := 35) (c := 1) (j := 1) h (zo_s _ _ _) (by first | assumption | rfl) rfl rfl fl_X1_55 dX1_addBringer_35 (fun g35 => ?_)
    try simp only [osa_1, osa_2, oss_1, oss_2, osA_1, osA_2, zup_s, reduceIte, Nat.reduceEqDiff] at g35 ⊢
    refine z_iconst (pc := 38) h dX1_addBringer_38 ?_
    refine z_iasto (pc := 39) (c := 1) (j := 9) (L := 8) h (by first | assumption | rfl) (by decide) rfl (by decide) (by omega) (by omega) (by omega) dX1_addBringer_39 ?_
    refine z_aloadR_n (pc := 40) h dX1_addBringer_40 rfl ?_
    refine z_getA4 (pc := 41) (c := 1) (j := 10) h (by first | assumption | rfl) rfl rfl fl_X1_34 dX1_addBringer_41 ?_
    refine z_aloadR_n (pc := 44) h dX1_addBringer_44 rfl ?_
    refine z_getIq (pc := 45) (c := 1) (j := 1) h (zo_s _ _ _) (by first | assumption | rfl) rfl rfl fl_X1_55 dX1_addBringer_45 (fun g45 => ?_)
    try simp only [osa_1, osa_2, oss_1, oss_2, osA_1, osA_2, zup_s, reduceIte, Nat.reduceEqDiff] at g45 ⊢
    refine z_iconst (pc := 48) h dX1_addBringer_48 ?_
    refine z_iasto (pc := 49) (c := 1) (j := 10) (L := 8) h (by first | assumption | rfl) (by decide) rfl (by decide) (by omega) (by omega) (by omega) dX1_addBringer_49 ?_
    refine z_aloadR_n (pc := 50) h dX1_addBringer_50 rfl ?_
    refine z_getA4 (pc := 51) (c := 1) (j := 11) h (by first | assumption | rfl) rfl rfl fl_X1_37 dX1_addBringer_51 ?_
    refine z_aloadR_n (pc := 54) h dX1_addBringer_54 rfl ?_
    refine z_getIq (pc := 55) (c := 1) (j := 1) h (zo_s _ _ _) (by first | assumption | rfl) rfl rfl fl_X1_55 dX1_addBringer_55 (fun g55 => ?_)
    try simp only [osa_1, osa_2, oss_1, oss_2, osA_1, osA_2, zup_s, reduceIte, Nat.reduceEqDiff] at g55 ⊢
    refine z_iconst (pc := 58) h dX1_addBringer_58 ?_
    refine z_iasto (pc := 59) (c := 1) (j := 11) (L := 8) h (by first | assumption | rfl) (by decide) rfl (by decide) (by omega) (by omega) (by omega) dX1_addBringer_59 ?_
    refine z_aloadR_n (pc := 60) h dX1_addBringer_60 rfl ?_
    refine z_getA4 (pc := 61) (c := 1) (j := 12) h (by first | assumption | rfl) rfl rfl fl_X1_40 dX1_addBringer_61 ?_
    refine z_aloadR_n (pc := 64) h dX1_addBringer_64 rfl ?_
    refine z_getIq (pc := 65) (c := 1) (j := 1) h (zo_s _ _ _) (by first | assumption | rfl) rfl rfl fl_X1_55 dX1_addBringer_65 (fun g65 => ?_)
    try simp only [osa_1, osa_2, oss_1, oss_2, osA_1, osA_2, zup_s, reduceIte, Nat.reduceEqDiff] at g65 ⊢
    refine z_iconst (pc := 68) h dX1_addBringer_68 ?_
    refine z_iasto (pc := 69) (c := 1) (j := 12) (L := 8) h (by first | assumption | rfl) (by decide) rfl (by decide) (by omega) (by omega) (by omega) dX1_addBringer_69 ?_
    refine z_aloadR_n (pc := 70) h dX1_addBringer_70 rfl ?_
    refine z_getA4 (pc := 71) (c := 1) (j := 13) h (by first | assumption | rfl) rfl rfl fl_X1_43 dX1_addBringer_71 ?_
    refine z_aloadR_n (pc := 74) h dX1_addBringer_74 rfl ?_
    refine z_getIq (pc := 75) (c := 1) (j := 1) h (zo_s _ _ _) (by first | assumption | rfl) rfl rfl fl_X1_55 dX1_addBringer_75 (fun g75 => ?_)
    try simp only [osa_1, osa_2, oss_1, oss_2, osA_1, osA_2, zup_s, reduceIte, Nat.reduceEqDiff] at g75 ⊢
    refine z_aloadR_n (pc := 78) h dX1_addBringer_78 rfl ?_
    refine z_getIq (pc := 79) (c := 1) (j := 2) h (zo_s _ _ _) (by first | assumption | rfl) rfl rfl fl_X1_58 dX1_addBringer_79 (fun g79 => ?_)
    try simp only [osa_1, osa_2, oss_1, oss_2, osA_1, osA_2, zup_s, reduceIte, Nat.reduceEqDiff] at g79 ⊢
    refine z_iasto (pc := 82) (c := 1) (j := 13) (L := 8) h (by first | assumption | rfl) (by decide) rfl (by decide) (by omega) (by omega) (by omega) dX1_addBringer_82 ?_
    refine z_aloadR_n (pc := 83) h dX1_addBringer_83 rfl ?_
    refine z_dupR (pc := 84) h dX1_addBringer_84 ?_
    refine z_getIq (pc := 85) (c := 1) (j := 1) h (zo_s _ _ _) (by first | assumption | rfl) rfl rfl fl_X1_55 dX1_addBringer_85 (fun g85 => ?_)
    try simp only [osa_1, osa_2, oss_1, oss_2, osA_1, osA_2, zup_s, reduceIte, Nat.reduceEqDiff] at g85 ⊢
    refine z_iconst (pc := 88) h dX1_addBringer_88 ?_
    refine z_iadd (pc := 89) h dX1_addBringer_89 ?_
    refine z_putIo (pc := 90) (c := 1) (j := 1) h (by first | assumption | rfl) rfl rfl fl_X1_55 rfl (tyX1_ok 1 (by decide)) dX1_addBringer_90 (by omega) ?_
    refine z_ret (pc := 93) h rfl dX1_addBringer_93 ?_
    rw [if_pos (by omega)]
    exact ⟨rfl, rfl⟩
  · refine z_ret (pc := 9) h rfl dX1_addBringer_9 ?_
    rw [if_neg (by omega)]
    exact ⟨rfl, rfl⟩
def tO (dk : zOb) (v0 v1 v2 v3 v4 : Int) : zOb := oss (osa (osa (osa (osa (osa (osa dk 7 (dk.1 1) 1) 8 (dk.1 1) v0) 9 (dk.1 1) v1) 10 (dk.1 1) v2) 11 (dk.1 1) v3) 12 (dk.1 1) v4) 1 (dk.1 1 + 1)
theorem c_addTaker {σ : zS} {dk : zOb} {v0 v1 v2 v3 v4 : Int} (h : 0 ≤ dk.1 1 ∧ dk.1 1 ≤ 8) (h0 : 0 ≤ v0 ∧ v0 ≤ 999) (h1 : 0 ≤ v1 ∧ v1 ≤ 999) (h2 : 0 ≤ v2 ∧ v2 ≤ 999) (h3 : 0 ≤ v3 ∧ v3 ≤ 999) (h4 : 0 ≤ v4 ∧ v4 ≤ 999) : zCv M_X1_addTaker 1 [zR 3, zI v0, zI v1, zI v2, zI v3, zI v4] (zo σ 3 dk) (zo σ 3 (if dk.1 1 < 8 then tO dk v0 v1 v2 v3 v4 else dk)) := by
  refine zC_of (M := M_X1_addTaker) (ls := [some (zR 3), some (zI v0), some (zI v1), some (zI v2), some (zI v3), some (zI v4)]) (n := 0) (by decide) (fun ad => Nat.le_of_ble_eq_true rfl) rfl (fun x h => ?_)
  refine z_aloadR_n (pc := 0) h dX1_addTaker_0 rfl ?_
  refine z_getIq (pc := 1) (c := 1) (j := 1) h (zo_s _ _ _) (by first | assumption | rfl) rfl rfl fl_X1_55 dX1_addTaker_1 (fun g1 => ?_)
  refine z_bipush (pc := 4) h dX1_addTaker_4 (by decide) ?_
  refine z_icmp_lt (pc := 6) (tgt := 10) h (by omega) (by omega) dX1_addTaker_6 (by decide) (fun c6 => ?_) (fun c6 => ?_)
  · refine z_aloadR_n (pc := 10) h dX1_addTaker_10 rfl ?_
    refine z_getA4 (pc := 11) (c := 1) (j := 7) h (by first | assumption | rfl) rfl rfl fl_X1_25 dX1_addTaker_11 ?_
    refine z_aloadR_n (pc := 14) h dX1_addTaker_14 rfl ?_
    refine z_getIq (pc := 15) (c := 1) (j := 1) h (zo_s _ _ _) (by first | assumption | rfl) rfl rfl fl_X1_55 dX1_addTaker_15 (fun g15 => ?_)
    refine z_iconst (pc := 18) h dX1_addTaker_18 ?_
    refine z_iasto (pc := 19) (c := 1) (j := 7) (L := 8) h (by first | assumption | rfl) (by decide) rfl (by decide) (by omega) (by omega) (by omega) dX1_addTaker_19 ?_
    refine z_aloadR_n (pc := 20) h dX1_addTaker_20 rfl ?_
    refine z_getA4 (pc := 21) (c := 1) (j := 8) h (by first | assumption | rfl) rfl rfl fl_X1_28 dX1_addTaker_21 ?_
    refine z_aloadR_n (pc := 24) h dX1_addTaker_24 rfl ?_
    refine z_getIq (pc := 25) (c := 1) (j := 1) h (zo_s _ _ _) (by first | assumption | rfl) rfl rfl fl_X1_55 dX1_addTaker_25 (fun g25 => ?_)
    try simp only [osa_1, osa_2, oss_1, oss_2, osA_1, osA_2, zup_s, reduceIte, Nat.reduceEqDiff] at g25 ⊢
    refine z_iload_n (pc := 28) h dX1_addTaker_28 rfl ?_
    refine z_iasto (pc := 29) (c := 1) (j := 8) (L := 8) h (by first | assumption | rfl) (by decide) rfl (by decide) (by omega) (by omega) (by omega) dX1_addTaker_29 ?_
    refine z_aloadR_n (pc := 30) h dX1_addTaker_30 rfl ?_
    refine z_getA4 (pc := 31) (c := 1) (j := 9) h (by first | assumption | rfl) rfl rfl fl_X1_31 dX1_addTaker_31 ?_
    refine z_aloadR_n (pc := 34) h dX1_addTaker_34 rfl ?_
    refine z_getIq (pc := 35) (c := 1) (j := 1) h (zo_s _ _ _) (by first | assumption | rfl) rfl rfl fl_X1_55 dX1_addTaker_35 (fun g35 => ?_)
    try simp only [osa_1, osa_2, oss_1, oss_2, osA_1, osA_2, zup_s, reduceIte, Nat.reduceEqDiff] at g35 ⊢
    refine z_iload_n (pc := 38) h dX1_addTaker_38 rfl ?_
    refine z_iasto (pc := 39) (c := 1) (j := 9) (L := 8) h (by first | assumption | rfl) (by decide) rfl (by decide) (by omega) (by omega) (by omega) dX1_addTaker_39 ?_
    refine z_aloadR_n (pc := 40) h dX1_addTaker_40 rfl ?_
    refine z_getA4 (pc := 41) (c := 1) (j := 10) h (by first | assumption | rfl) rfl rfl fl_X1_34 dX1_addTaker_41 ?_
    refine z_aloadR_n (pc := 44) h dX1_addTaker_44 rfl ?_
    refine z_getIq (pc := 45) (c := 1) (j := 1) h (zo_s _ _ _) (by first | assumption | rfl) rfl rfl fl_X1_55 dX1_addTaker_45 (fun g45 => ?_)
    try simp only [osa_1, osa_2, oss_1, oss_2, osA_1, osA_2, zup_s, reduceIte, Nat.reduceEqDiff] at g45 ⊢
    refine z_iload_n (pc := 48) h dX1_addTaker_48 rfl ?_
    refine z_iasto (pc := 49) (c := 1) (j := 10) (L := 8) h (by first | assumption | rfl) (by decide) rfl (by decide) (by omega) (by omega) (by omega) dX1_addTaker_49 ?_
    refine z_aloadR_n (pc := 50) h dX1_addTaker_50 rfl ?_
    refine z_getA4 (pc := 51) (c := 1) (j := 11) h (by first | assumption | rfl) rfl rfl fl_X1_37 dX1_addTaker_51 ?_
    refine z_aloadR_n (pc := 54) h dX1_addTaker_54 rfl ?_
    refine z_getIq (pc := 55) (c := 1) (j := 1) h (zo_s _ _ _) (by first | assumption | rfl) rfl rfl fl_X1_55 dX1_addTaker_55 (fun g55 => ?_)
    try simp only [osa_1, osa_2, oss_1, oss_2, osA_1, osA_2, zup_s, reduceIte, Nat.reduceEqDiff] at g55 ⊢
    refine z_iload (pc := 58) h dX1_addTaker_58 rfl ?_
    refine z_iasto (pc := 60) (c := 1) (j := 11) (L := 8) h (by first | assumption | rfl) (by decide) rfl (by decide) (by omega) (by omega) (by omega) dX1_addTaker_60 ?_
    refine z_aloadR_n (pc := 61) h dX1_addTaker_61 rfl ?_
    refine z_getA4 (pc := 62) (c := 1) (j := 12) h (by first | assumption | rfl) rfl rfl fl_X1_40 dX1_addTaker_62 ?_
    refine z_aloadR_n (pc := 65) h dX1_addTaker_65 rfl ?_
    refine z_getIq (pc := 66) (c := 1) (j := 1) h (zo_s _ _ _) (by first | assumption | rfl) rfl rfl fl_X1_55 dX1_addTaker_66 (fun g66 => ?_)
    try simp only [osa_1, osa_2, oss_1, oss_2, osA_1, osA_2, zup_s, reduceIte, Nat.reduceEqDiff] at g66 ⊢
    refine z_iload (pc := 69) h dX1_addTaker_69 rfl ?_
    refine z_iasto (pc := 71) (c := 1) (j := 12) (L := 8) h (by first | assumption | rfl) (by decide) rfl (by decide) (by omega) (by omega) (by omega) dX1_addTaker_71 ?_
    refine z_aloadR_n (pc := 72) h dX1_addTaker_72 rfl ?_
    refine z_dupR (pc := 73) h dX1_addTaker_73 ?_
    refine z_getIq (pc := 74) (c := 1) (j := 1) h (zo_s _ _ _) (by first | assumption | rfl) rfl rfl fl_X1_55 dX1_addTaker_74 (fun g74 => ?_)
    try simp only [osa_1, osa_2, oss_1, oss_2, osA_1, osA_2, zup_s, reduceIte, Nat.reduceEqDiff] at g74 ⊢
    refine z_iconst (pc := 77) h dX1_addTaker_77 ?_
    refine z_iadd (pc := 78) h dX1_addTaker_78 ?_
    refine z_putIo (pc := 79) (c := 1) (j := 1) h (by first | assumption | rfl) rfl rfl fl_X1_55 rfl (tyX1_ok 1 (by decide)) dX1_addTaker_79 (by omega) ?_
    refine z_ret (pc := 82) h rfl dX1_addTaker_82 ?_
    rw [if_pos (by omega)]
    exact ⟨rfl, rfl⟩
  · refine z_ret (pc := 9) h rfl dX1_addTaker_9 ?_
    rw [if_neg (by omega)]
    exact ⟨rfl, rfl⟩
def kdO (dk : zOb) (z : Int) : zOb := oss (osa (osa (osa dk 14 (dk.1 2) (dk.1 1 - 1)) 15 (dk.1 2) z) 11 (dk.1 1 - 1) (dk.2 11 (dk.1 1 - 1) + 1)) 2 (dk.1 2 + 1)
theorem c_addCarton {σ : zS} {dk : zOb} {z : Int} (h : 1 ≤ dk.1 1 ∧ dk.1 1 ≤ 8) (hc : 0 ≤ dk.1 2 ∧ dk.1 2 < 40) (hz : 0 ≤ z ∧ z ≤ 3) (hr : -10 ≤ dk.2 11 (dk.1 1 - 1) ∧ dk.2 11 (dk.1 1 - 1) ≤ 5000) : zCv M_X1_addCartonToLatest 1 [zR 3, zI z] (zo σ 3 dk) (zo σ 3 (kdO dk z)) := by
  refine zC_of (M := M_X1_addCartonToLatest) (ls := [some (zR 3), some (zI z)]) (n := 0) (by decide) (fun ad => Nat.le_of_ble_eq_true rfl) rfl (fun x h => ?_)
  refine z_aloadR_n (pc := 0) h dX1_addCartonToLatest_0 rfl ?_
  refine z_getIq (pc := 1) (c := 1) (j := 1) h (zo_s _ _ _) (by first | assumption | rfl) rfl rfl fl_X1_55 dX1_addCartonToLatest_1 (fun g1 => ?_)
  refine z_iconst (pc := 4) h dX1_addCartonToLatest_4 ?_
  refine z_icmp_lt (pc := 5) (tgt := 17) h (by omega) (by omega) dX1_addCartonToLatest_5 (by decide) (fun c5 => ?_) (fun c5 => ?_)
  · refine z_ret (pc := 17) h rfl dX1_addCartonToLatest_17 ?_
    exfalso
    omega
  · refine z_aloadR_n (pc := 8) h dX1_addCartonToLatest_8 rfl ?_
    refine z_getIq (pc := 9) (c := 1) (j := 2) h (zo_s _ _ _) (by first | assumption | rfl) rfl rfl fl_X1_58 dX1_addCartonToLatest_9 (fun g9 => ?_)
    refine z_bipush (pc := 12) h dX1_addCartonToLatest_12 (by decide) ?_
    refine z_icmp_lt (pc := 14) (tgt := 18) h (by omega) (by omega) dX1_addCartonToLatest_14 (by decide) (fun c14 => ?_) (fun c14 => ?_)
    · refine z_aloadR_n (pc := 18) h dX1_addCartonToLatest_18 rfl ?_
      refine z_getA4 (pc := 19) (c := 1) (j := 14) h (by first | assumption | rfl) rfl rfl fl_X1_46 dX1_addCartonToLatest_19 ?_
      refine z_aloadR_n (pc := 22) h dX1_addCartonToLatest_22 rfl ?_
      refine z_getIq (pc := 23) (c := 1) (j := 2) h (zo_s _ _ _) (by first | assumption | rfl) rfl rfl fl_X1_58 dX1_addCartonToLatest_23 (fun g23 => ?_)
      refine z_aloadR_n (pc := 26) h dX1_addCartonToLatest_26 rfl ?_
      refine z_getIq (pc := 27) (c := 1) (j := 1) h (zo_s _ _ _) (by first | assumption | rfl) rfl rfl fl_X1_55 dX1_addCartonToLatest_27 (fun g27 => ?_)
      refine z_iconst (pc := 30) h dX1_addCartonToLatest_30 ?_
      refine z_isub (pc := 31) h dX1_addCartonToLatest_31 ?_
      refine z_iasto (pc := 32) (c := 1) (j := 14) (L := 40) h (by first | assumption | rfl) (by decide) rfl (by decide) (by omega) (by omega) (by omega) dX1_addCartonToLatest_32 ?_
      refine z_aloadR_n (pc := 33) h dX1_addCartonToLatest_33 rfl ?_
      refine z_getA4 (pc := 34) (c := 1) (j := 15) h (by first | assumption | rfl) rfl rfl fl_X1_49 dX1_addCartonToLatest_34 ?_
      refine z_aloadR_n (pc := 37) h dX1_addCartonToLatest_37 rfl ?_
      refine z_getIq (pc := 38) (c := 1) (j := 2) h (zo_s _ _ _) (by first | assumption | rfl) rfl rfl fl_X1_58 dX1_addCartonToLatest_38 (fun g38 => ?_)
      try simp only [osa_1, osa_2, oss_1, oss_2, osA_1, osA_2, zup_s, reduceIte, Nat.reduceEqDiff] at g38 ⊢
      refine z_iload_n (pc := 41) h dX1_addCartonToLatest_41 rfl ?_
      refine z_iasto (pc := 42) (c := 1) (j := 15) (L := 40) h (by first | assumption | rfl) (by decide) rfl (by decide) (by omega) (by omega) (by omega) dX1_addCartonToLatest_42 ?_
      refine z_aloadR_n (pc := 43) h dX1_addCartonToLatest_43 rfl ?_
      refine z_getA4 (pc := 44) (c := 1) (j := 11) h (by first | assumption | rfl) rfl rfl fl_X1_37 dX1_addCartonToLatest_44 ?_
      refine z_aloadR_n (pc := 47) h dX1_addCartonToLatest_47 rfl ?_
      refine z_getIq (pc := 48) (c := 1) (j := 1) h (zo_s _ _ _) (by first | assumption | rfl) rfl rfl fl_X1_55 dX1_addCartonToLatest_48 (fun g48 => ?_)
      try simp only [osa_1, osa_2, oss_1, oss_2, osA_1, osA_2, zup_s, reduceIte, Nat.reduceEqDiff] at g48 ⊢
      refine z_iconst (pc := 51) h dX1_addCartonToLatest_51 ?_
      refine z_isub (pc := 52) h dX1_addCartonToLatest_52 ?_
      refine z_dup2AI (pc := 53) h dX1_addCartonToLatest_53 ?_
      refine z_ialdq (pc := 54) (c := 1) (j := 11) (L := 8) h (zo_s _ _ _) (by first | assumption | rfl) (by decide) rfl (by decide) (by omega) (by omega) dX1_addCartonToLatest_54 (fun g54 => ?_)
      try simp only [osa_1, osa_2, oss_1, oss_2, osA_1, osA_2, zup_s, reduceIte, Nat.reduceEqDiff] at g54 ⊢
      refine z_iconst (pc := 55) h dX1_addCartonToLatest_55 ?_
      refine z_iadd (pc := 56) h dX1_addCartonToLatest_56 ?_
      refine z_iasto (pc := 57) (c := 1) (j := 11) (L := 8) h (by first | assumption | rfl) (by decide) rfl (by decide) (by omega) (by omega) (by omega) dX1_addCartonToLatest_57 ?_
      refine z_aloadR_n (pc := 58) h dX1_addCartonToLatest_58 rfl ?_
      refine z_dupR (pc := 59) h dX1_addCartonToLatest_59 ?_
      refine z_getIq (pc := 60) (c := 1) (j := 2) h (zo_s _ _ _) (by first | assumption | rfl) rfl rfl fl_X1_58 dX1_addCartonToLatest_60 (fun g60 => ?_)
      try simp only [osa_1, osa_2, oss_1, oss_2, osA_1, osA_2, zup_s, reduceIte, Nat.reduceEqDiff] at g60 ⊢
      refine z_iconst (pc := 63) h dX1_addCartonToLatest_63 ?_
      refine z_iadd (pc := 64) h dX1_addCartonToLatest_64 ?_
      refine z_putIo (pc := 65) (c := 1) (j := 2) h (by first | assumption | rfl) rfl rfl fl_X1_58 rfl (tyX1_ok 2 (by decide)) dX1_addCartonToLatest_65 (by omega) ?_
      refine z_ret (pc := 68) h rfl dX1_addCartonToLatest_68 ?_
      exact ⟨rfl, rfl⟩
    · refine z_ret (pc := 17) h rfl dX1_addCartonToLatest_17 ?_
      exfalso
      omega
/-- bounds that always hold -/
def BD (dk : zOb) : Prop := (0 ≤ dk.1 0 ∧ dk.1 0 ≤ 6) ∧ (0 ≤ dk.1 1 ∧ dk.1 1 ≤ 8) ∧ (0 ≤ dk.1 2 ∧ dk.1 2 ≤ 40) ∧ ∀ t, 0 ≤ t → t < dk.1 1 → 0 ≤ dk.2 11 t ∧ dk.2 11 t ≤ 999 + dk.1 2
theorem BD_dO {dk : zOb} {k v : Int} (h : BD dk) : BD (if dk.1 0 < 6 then dO dk k v else dk) := by
  split
  · rename_i q
    have := h.1
    refine ⟨?_, h.2.1, h.2.2.1, h.2.2.2⟩
    show 0 ≤ dk.1 0 + 1 ∧ dk.1 0 + 1 ≤ 6
    omega
  · exact h
theorem BD_bO {dk : zOb} {v : Int} (h : BD dk) : BD (if dk.1 1 < 8 then bO dk v else dk) := by
  split
  · rename_i q
    have h1 := h.2.1
    have h2 := h.2.2.1
    refine ⟨h.1, ?_, h.2.2.1, fun t t0 t1 => ?_⟩
    · show 0 ≤ dk.1 1 + 1 ∧ dk.1 1 + 1 ≤ 8
      omega
    · have t1' : t < dk.1 1 + 1 := t1
      show 0 ≤ zup (dk.2 11) (dk.1 1) 0 t ∧ zup (dk.2 11) (dk.1 1) 0 t ≤ 999 + dk.1 2
      by_cases e : t = dk.1 1
      · rw [e, zup_s]; omega
      · rw [zup_n _ _ e]; exact h.2.2.2 t t0 (by omega)
  · exact h
theorem BD_tO {dk : zOb} {v0 v1 v2 v3 v4 : Int} (h : BD dk) (h3 : 0 ≤ v3 ∧ v3 ≤ 999) : BD (if dk.1 1 < 8 then tO dk v0 v1 v2 v3 v4 else dk) := by
  split
  · rename_i q
    have h1 := h.2.1
    have h2 := h.2.2.1
    refine ⟨h.1, ?_, h.2.2.1, fun t t0 t1 => ?_⟩
    · show 0 ≤ dk.1 1 + 1 ∧ dk.1 1 + 1 ≤ 8
      omega
    · have t1' : t < dk.1 1 + 1 := t1
      show 0 ≤ zup (dk.2 11) (dk.1 1) v3 t ∧ zup (dk.2 11) (dk.1 1) v3 t ≤ 999 + dk.1 2
      by_cases e : t = dk.1 1
      · rw [e, zup_s]; omega
      · rw [zup_n _ _ e]; exact h.2.2.2 t t0 (by omega)
  · exact h
theorem BD_kdO {dk : zOb} {z : Int} (h : BD dk) (h1 : 1 ≤ dk.1 1) (h2 : dk.1 2 < 40) : BD (kdO dk z) := by
  have h3 := h.2.2.1
  refine ⟨h.1, h.2.1, ?_, fun t t0 t1 => ?_⟩
  · show 0 ≤ dk.1 2 + 1 ∧ dk.1 2 + 1 ≤ 40
    omega
  · show 0 ≤ zup (dk.2 11) (dk.1 1 - 1) (dk.2 11 (dk.1 1 - 1) + 1) t ∧ zup (dk.2 11) (dk.1 1 - 1) (dk.2 11 (dk.1 1 - 1) + 1) t ≤ 999 + (dk.1 2 + 1)
    by_cases e : t = dk.1 1 - 1
    · have := h.2.2.2 (dk.1 1 - 1) (by omega) (by omega)
      rw [e, zup_s]; omega
    · have := h.2.2.2 t t0 t1
      rw [zup_n _ _ e]; omega
/-- cartons on the last truck: those before destination z, and k for z -/
def CZ (dk dk' : zOb) (w : Int → Int) (z k : Int) : Prop := (∀ j, j ≠ 2 → dk'.1 j = dk.1 j) ∧ dk'.1 2 = dk.1 2 + zsum w z + k ∧ (∀ j, j ≠ 11 → j ≠ 14 → j ≠ 15 → dk'.2 j = dk.2 j) ∧ dk'.2 11 = zup (dk.2 11) (dk.1 1 - 1) (dk.2 11 (dk.1 1 - 1) + zsum w z + k) ∧ (∀ c, 0 ≤ c → c < dk.1 2 → dk'.2 14 c = dk.2 14 c ∧ dk'.2 15 c = dk.2 15 c) ∧ (∀ c, dk.1 2 ≤ c → c < dk'.1 2 → dk'.2 14 c = dk.1 1 - 1 ∧ (0 ≤ dk'.2 15 c ∧ dk'.2 15 c ≤ z) ∧ dk.1 2 + zsum w (dk'.2 15 c) ≤ c ∧ c < dk.1 2 + zsum w (dk'.2 15 c) + (if dk'.2 15 c = z then k else w (dk'.2 15 c)))
theorem CZ_0 {dk : zOb} {w : Int → Int} : CZ dk dk w 0 0 := by
  refine ⟨fun _ _ => rfl, by show dk.1 2 = dk.1 2 + 0 + 0; omega, fun _ _ _ _ => rfl, ?_, fun _ _ _ => ⟨rfl, rfl⟩, fun c x y => by omega⟩
  show dk.2 11 = zup (dk.2 11) (dk.1 1 - 1) (dk.2 11 (dk.1 1 - 1) + 0 + 0)
  rw [Int.add_zero, Int.add_zero, zup_same]
theorem CZ_k {dk dk' : zOb} {w : Int → Int} {z k : Int} (h : CZ dk dk' w z k) (hz : 0 ≤ z) (hn : 0 ≤ dk.1 2) (hk : 0 ≤ k) (hw : ∀ e, 0 ≤ e → e < z → 0 ≤ w e) : CZ dk (kdO dk' z) w z (k + 1) := by
  obtain ⟨h1, h2, h3, h4, h5, h6⟩ := h
  have e1 : dk'.1 1 = dk.1 1 := h1 1 (by decide)
  have hs := zsum_nn hz hw
  refine ⟨fun j hj => ?_, ?_, fun j ja jb jc => ?_, ?_, fun c x y => ?_, fun c x y => ?_⟩
  · show (if j = 2 then _ else dk'.1 j) = _
    rw [if_neg hj]; exact h1 j hj
  · show dk'.1 2 + 1 = _; omega
  · show (if j = 11 then _ else if j = 15 then _ else if j = 14 then _ else dk'.2 j) = _
    rw [if_neg ja, if_neg jc, if_neg jb]; exact h3 j ja jb jc
  · show zup (dk'.2 11) (dk'.1 1 - 1) (dk'.2 11 (dk'.1 1 - 1) + 1) = _
    rw [e1, h4, zup_s, zup_zup]
    congr 1
    omega
  · show zup (dk'.2 14) (dk'.1 2) (dk'.1 1 - 1) c = _ ∧ zup (dk'.2 15) (dk'.1 2) z c = _
    rw [zup_n _ _ (by omega), zup_n _ _ (by omega)]
    exact h5 c x y
  · have y' : c < dk'.1 2 + 1 := y
    show zup (dk'.2 14) (dk'.1 2) (dk'.1 1 - 1) c = _ ∧ (0 ≤ zup (dk'.2 15) (dk'.1 2) z c ∧ zup (dk'.2 15) (dk'.1 2) z c ≤ z) ∧ dk.1 2 + zsum w (zup (dk'.2 15) (dk'.1 2) z c) ≤ c ∧ c < dk.1 2 + zsum w (zup (dk'.2 15) (dk'.1 2) z c) + (if zup (dk'.2 15) (dk'.1 2) z c = z then k + 1 else w (zup (dk'.2 15) (dk'.1 2) z c))
    by_cases e : c = dk'.1 2
    · rw [e, zup_s, zup_s, e1, if_pos rfl]
      omega
    · rw [zup_n _ _ e, zup_n _ _ e]
      have := h6 c x (by omega)
      refine ⟨this.1, this.2.1, this.2.2.1, ?_⟩
      have q := this.2.2.2
      split at q
      · rename_i v; rw [if_pos v]; omega
      · rename_i v; rw [if_neg v]; exact q
theorem CZ_z {dk dk' : zOb} {w : Int → Int} {z : Int} (h : CZ dk dk' w z (w z)) (hz : 0 ≤ z) : CZ dk dk' w (z + 1) 0 := by
  obtain ⟨h1, h2, h3, h4, h5, h6⟩ := h
  have hs : zsum w (z + 1) = zsum w z + w z := zsum_S w hz
  refine ⟨h1, by omega, h3, ?_, h5, fun c x y => ?_⟩
  · rw [h4, hs]; congr 1; omega
  · have := h6 c x y
    refine ⟨this.1, by omega, this.2.2.1, ?_⟩
    rw [if_neg (by omega)]
    have q := this.2.2.2
    split at q
    · rename_i v; rw [v] at q ⊢; exact q
    · exact q
