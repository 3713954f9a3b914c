/-! The model: images. -/
def cpi (g : Int → Int) (lo fr i : Int) : Int → Int := fun j => if lo ≤ j ∧ j < lo + i then g (j - lo + fr) else g j
theorem cpi_0 (g : Int → Int) (lo fr : Int) : cpi g lo fr 0 = g := by
  funext j
  unfold cpi
  rw [if_neg (by omega)]
theorem cpi_S (g : Int → Int) {lo fr i w : Int} (h : 0 ≤ i) (hi : i < w) (hd : lo + w ≤ fr ∨ fr + w ≤ lo) : zup (cpi g lo fr i) (lo + i) (cpi g lo fr i (fr + i)) = cpi g lo fr (i + 1) := by
  have e : cpi g lo fr i (fr + i) = g (fr + i) := by unfold cpi; rw [if_neg (by omega)]
  rw [e]
  funext j
  unfold zup cpi
  by_cases q : j = lo + i
  · rw [if_pos q, if_pos (by omega), q, show lo + i - lo + fr = fr + i by omega]
  · rw [if_neg q]
    by_cases u : lo ≤ j ∧ j < lo + i
    · rw [if_pos u, if_pos (by omega)]
    · rw [if_neg u, if_neg (by omega)]
def imO (m : zOb) (fr to : Int) : zOb := osA (osA m 1 (cpi (m.2 1) (122 * to) (122 * fr) 122)) 2 (cpi (m.2 2) (400 * to) (400 * fr) 400)
theorem m8_copiesText {σ : zS} {m : zOb} {fr to : Int} (hf : 0 ≤ fr ∧ fr ≤ 3) (ht : 0 ≤ to ∧ to ≤ 3) (hne : fr ≠ to) : zCv M_X8_copiesText 1 [zR 31, zI fr, zI to] (zo σ 31 m) (zo σ 31 (imO m fr to)) := by
  refine zC_of (M := M_X8_copiesText) (ls := [some (zR 31), some (zI fr), some (zI to), none]) (n := 1) (by decide) (fun ad => Nat.le_of_ble_eq_true rfl) rfl (fun x h => ?_)
  have L2 : ∀ (n : Nat) (i : Int), 0 ≤ i → i ≤ 400 → 400 - i < n → zW x (fun r τ' => r = none ∧ τ' = zo σ 31 (imO m fr to)) 38 [some (zR 31), some (zI fr), some (zI to), some (zI i)] [] (zo σ 31 (osA (osA m 1 (cpi (m.2 1) (122 * to) (122 * fr) 122)) 2 (cpi (m.2 2) (400 * to) (400 * fr) i))) := by
    intro n
    induction n with
    | zero => intro i h1 h2 h3; omega
    | succ n ih =>
      intro i h1 h2 h3
      have hih := ih (i + 1) (by omega)
      have hs : i < 400 → zup (cpi (m.2 2) (400 * to) (400 * fr) i) (400 * to + i) (cpi (m.2 2) (400 * to) (400 * fr) i (400 * fr + i)) = cpi (m.2 2) (400 * to) (400 * fr) (i + 1) := fun z => cpi_S (m.2 2) (w := 400) h1 z (by omega)
      have hgo : i = 400 → osA (osA m 1 (cpi (m.2 1) (122 * to) (122 * fr) 122)) 2 (cpi (m.2 2) (400 * to) (400 * fr) i) = imO m fr to := fun e => by rw [e]; rfl
      have hsA : ∀ F, osA (osA (osA m 1 (cpi (m.2 1) (122 * to) (122 * fr) 122)) 2 (cpi (m.2 2) (400 * to) (400 * fr) i)) 2 F = osA (osA m 1 (cpi (m.2 1) (122 * to) (122 * fr) 122)) 2 F := fun F => osA_osA _ _ _ _
      have e2 : (osA (osA m 1 (cpi (m.2 1) (122 * to) (122 * fr) 122)) 2 (cpi (m.2 2) (400 * to) (400 * fr) i)).2 2 = cpi (m.2 2) (400 * to) (400 * fr) i := osA_at _ _ _
      generalize osA (osA m 1 (cpi (m.2 1) (122 * to) (122 * fr) 122)) 2 (cpi (m.2 2) (400 * to) (400 * fr) i) = y at hgo hsA e2 ⊢
      refine z_rgo (fun hrg => ?_)
      have hb : -128 ≤ y.2 2 (400 * fr + i) ∧ y.2 2 (400 * fr + i) ≤ 127 := hrg.2 2 _
      refine z_iload_n (pc := 38) h dX8_copiesText_38 rfl ?_
      refine z_sipush (pc := 39) h dX8_copiesText_39 (by decide) ?_
      refine z_icmp_ge (pc := 42) (tgt := 75) h (by omega) (by omega) dX8_copiesText_42 (by decide) (fun c42 => ?_) (fun c42 => ?_)
      · refine z_ret (pc := 75) h rfl dX8_copiesText_75 ?_
        exact ⟨rfl, by rw [hgo (by omega)]⟩
      · refine z_aloadR_n (pc := 45) h dX8_copiesText_45 rfl ?_
        refine z_getA5 (pc := 46) (c := 8) (j := 2) h (by first | assumption | rfl) rfl rfl fl_X8_13 dX8_copiesText_46 ?_
        refine z_sipush (pc := 49) h dX8_copiesText_49 (by decide) ?_
        refine z_iload_n (pc := 52) h dX8_copiesText_52 rfl ?_
        refine z_imul (pc := 53) h dX8_copiesText_53 ?_
        refine z_iload_n (pc := 54) h dX8_copiesText_54 rfl ?_
        refine z_iadd (pc := 55) h dX8_copiesText_55 ?_
        refine z_aloadR_n (pc := 56) h dX8_copiesText_56 rfl ?_
        refine z_getA5 (pc := 57) (c := 8) (j := 2) h (by first | assumption | rfl) rfl rfl fl_X8_13 dX8_copiesText_57 ?_
        refine z_sipush (pc := 60) h dX8_copiesText_60 (by decide) ?_
        refine z_iload_n (pc := 63) h dX8_copiesText_63 rfl ?_
        refine z_imul (pc := 64) h dX8_copiesText_64 ?_
        refine z_iload_n (pc := 65) h dX8_copiesText_65 rfl ?_
        refine z_iadd (pc := 66) h dX8_copiesText_66 ?_
        refine z_baldq (pc := 67) (c := 8) (j := 2) (L := 1600) h (zo_s _ _ _) (by first | assumption | rfl) (by decide) rfl (by decide) (by omega) (by omega) dX8_copiesText_67 (fun g67 => ?_)
        refine z_basto (pc := 68) (c := 8) (j := 2) (L := 1600) h (by first | assumption | rfl) (by decide) rfl (by decide) (by omega) (by omega) (by omega) dX8_copiesText_68 ?_
        refine z_inc_3 (pc := 69) h dX8_copiesText_69 (by decide) rfl ?_
        refine z_goto (pc := 72) (tgt := 38) h dX8_copiesText_72 (by decide) ?_
        have ee : osa y 2 (400 * to + i) (y.2 2 (400 * fr + i)) = osA y 2 (cpi (m.2 2) (400 * to) (400 * fr) (i + 1)) := by
          unfold osa
          rw [e2, hs (by omega)]
        rw [ee, hsA]
        exact hih (by omega) (by omega)
  have L1 : ∀ (n : Nat) (i : Int), 0 ≤ i → i ≤ 122 → 122 - i < n → zW x (fun r τ' => r = none ∧ τ' = zo σ 31 (imO m fr to)) 2 [some (zR 31), some (zI fr), some (zI to), some (zI i)] [] (zo σ 31 (osA m 1 (cpi (m.2 1) (122 * to) (122 * fr) i))) := by
    intro n
    induction n with
    | zero => intro i h1 h2 h3; omega
    | succ n ih =>
      intro i h1 h2 h3
      have hih := ih (i + 1) (by omega)
      have hs : i < 122 → zup (cpi (m.2 1) (122 * to) (122 * fr) i) (122 * to + i) (cpi (m.2 1) (122 * to) (122 * fr) i (122 * fr + i)) = cpi (m.2 1) (122 * to) (122 * fr) (i + 1) := fun z => cpi_S (m.2 1) (w := 122) h1 z (by omega)
      have hgo : i = 122 → osA m 1 (cpi (m.2 1) (122 * to) (122 * fr) i) = osA (osA m 1 (cpi (m.2 1) (122 * to) (122 * fr) 122)) 2 (cpi (m.2 2) (400 * to) (400 * fr) 0) := fun e => by
        rw [e, cpi_0]
        exact (osA_same (osA m 1 (cpi (m.2 1) (122 * to) (122 * fr) 122)) 2).symm
      have hsA : ∀ F, osA (osA m 1 (cpi (m.2 1) (122 * to) (122 * fr) i)) 1 F = osA m 1 F := fun F => osA_osA _ _ _ _
      have e2 : (osA m 1 (cpi (m.2 1) (122 * to) (122 * fr) i)).2 1 = cpi (m.2 1) (122 * to) (122 * fr) i := osA_at _ _ _
      generalize osA m 1 (cpi (m.2 1) (122 * to) (122 * fr) i) = y at hgo hsA e2 ⊢
      refine z_iload_n (pc := 2) h dX8_copiesText_2 rfl ?_
      refine z_bipush (pc := 3) h dX8_copiesText_3 (by decide) ?_
      refine z_icmp_ge (pc := 5) (tgt := 36) h (by omega) (by omega) dX8_copiesText_5 (by decide) (fun c5 => ?_) (fun c5 => ?_)
      · refine z_iconst (pc := 36) h dX8_copiesText_36 ?_
        refine z_ist_3 (pc := 37) h dX8_copiesText_37 (by decide) rfl ?_
        rw [hgo (by omega)]
        exact L2 401 0 (by omega) (by omega) (by omega)
      · refine z_aloadR_n (pc := 8) h dX8_copiesText_8 rfl ?_
        refine z_getA4 (pc := 9) (c := 8) (j := 1) h (by first | assumption | rfl) rfl rfl fl_X8_7 dX8_copiesText_9 ?_
        refine z_bipush (pc := 12) h dX8_copiesText_12 (by decide) ?_
        refine z_iload_n (pc := 14) h dX8_copiesText_14 rfl ?_
        refine z_imul (pc := 15) h dX8_copiesText_15 ?_
        refine z_iload_n (pc := 16) h dX8_copiesText_16 rfl ?_
        refine z_iadd (pc := 17) h dX8_copiesText_17 ?_
        refine z_aloadR_n (pc := 18) h dX8_copiesText_18 rfl ?_
        refine z_getA4 (pc := 19) (c := 8) (j := 1) h (by first | assumption | rfl) rfl rfl fl_X8_7 dX8_copiesText_19 ?_
        refine z_bipush (pc := 22) h dX8_copiesText_22 (by decide) ?_
        refine z_iload_n (pc := 24) h dX8_copiesText_24 rfl ?_
        refine z_imul (pc := 25) h dX8_copiesText_25 ?_
        refine z_iload_n (pc := 26) h dX8_copiesText_26 rfl ?_
        refine z_iadd (pc := 27) h dX8_copiesText_27 ?_
        refine z_ialdq (pc := 28) (c := 8) (j := 1) (L := 610) h (zo_s _ _ _) (by first | assumption | rfl) (by decide) rfl (by decide) (by omega) (by omega) dX8_copiesText_28 (fun g28 => ?_)
        refine z_iasto (pc := 29) (c := 8) (j := 1) (L := 610) h (by first | assumption | rfl) (by decide) rfl (by decide) (by omega) (by omega) (by omega) dX8_copiesText_29 ?_
        refine z_inc_3 (pc := 30) h dX8_copiesText_30 (by decide) rfl ?_
        refine z_goto (pc := 33) (tgt := 2) h dX8_copiesText_33 (by decide) ?_
        have ee : osa y 1 (122 * to + i) (y.2 1 (122 * fr + i)) = osA y 1 (cpi (m.2 1) (122 * to) (122 * fr) (i + 1)) := by
          unfold osa
          rw [e2, hs (by omega)]
        rw [ee, hsA]
        exact hih (by omega) (by omega)
  refine z_iconst (pc := 0) h dX8_copiesText_0 ?_
  refine z_ist_3 (pc := 1) h dX8_copiesText_1 (by decide) rfl ?_
  have := L1 123 0 (by omega) (by omega) (by omega)
  rw [cpi_0, osA_same] at this
  exact this
theorem m8_image {σ : zS} {m : zOb} {k : Int} (hz : zin k) : zCr M_X8_image 2 [zR 31, zI k] (zo σ 31 m) (zB (decide (0 ≤ k ∧ k ≤ 2))) (zo σ 31 (if 0 ≤ k ∧ k ≤ 2 then osa (imO (oss m 0 0) 0 (k + 1)) 3 k 1 else oss m 0 0)) := by
  refine zC_of (M := M_X8_image) (ls := [some (zR 31), some (zI k)]) (n := 0) (by decide) (fun ad => Nat.le_of_ble_eq_true rfl) rfl (fun x h => ?_)
  refine z_aloadR_n (pc := 0) h dX8_image_0 rfl ?_
  refine z_iconst (pc := 1) h dX8_image_1 ?_
  refine z_putIo (pc := 2) (c := 8) (j := 0) h (by first | assumption | rfl) rfl rfl fl_X8_84 rfl (tyX8_ok 0 (by decide)) dX8_image_2 (by omega) ?_
  refine z_iload_n (pc := 5) h dX8_image_5 rfl ?_
  refine z_iconst (pc := 6) h dX8_image_6 ?_
  refine z_iconst (pc := 7) h dX8_image_7 ?_
  refine z_pS (pc := 8) h (m8_in (by omega) (by omega) (by omega)) (by decide) ms_X8_in ml_X8_88 rfl dX8_image_8 rfl (Nat.le_of_ble_eq_true rfl) ?_
  refine z_ifneB (pc := 11) (tgt := 16) h dX8_image_11 (by decide) (fun c11 => ?_) (fun c11 => ?_)
  · have z := of_decide_eq_true c11
    refine z_aloadR_n (pc := 16) h dX8_image_16 rfl ?_
    refine z_iconst (pc := 17) h dX8_image_17 ?_
    refine z_iload_n (pc := 18) h dX8_image_18 rfl ?_
    refine z_iconst (pc := 19) h dX8_image_19 ?_
    refine z_iadd (pc := 20) h dX8_image_20 ?_
    refine z_vV (pc := 21) (c := 8) h (m8_copiesText (by omega) (by omega) (by omega)) (by decide) (by first | assumption | rfl) rfl mv_X8_copiesText ml_X8_364 rfl dX8_image_21 rfl (Nat.le_of_ble_eq_true rfl) ?_
    generalize imO (oss m 0 0) 0 (k + 1) = y
    refine z_aloadR_n (pc := 24) h dX8_image_24 rfl ?_
    refine z_getA6 (pc := 25) (c := 8) (j := 3) h (by first | assumption | rfl) rfl rfl fl_X8_17 dX8_image_25 ?_
    refine z_iload_n (pc := 28) h dX8_image_28 rfl ?_
    refine z_iconst (pc := 29) h dX8_image_29 ?_
    refine z_zasto (pc := 30) (c := 8) (j := 3) (L := 3) h (by first | assumption | rfl) (by decide) rfl (by decide) (by omega) (by omega) (by omega) dX8_image_30 ?_
    refine z_iconst (pc := 31) h dX8_image_31 ?_
    refine z_zret (pc := 32) h rfl (by omega) dX8_image_32 ?_
    rw [if_pos z, c11]
    exact ⟨rfl, rfl⟩
  · refine z_iconst (pc := 14) h dX8_image_14 ?_
    refine z_zret (pc := 15) h rfl (by omega) dX8_image_15 ?_
    have z := of_decide_eq_false c11
    rw [if_neg z, c11]
    exact ⟨rfl, rfl⟩
theorem m8_again {σ : zS} {m : zOb} {k : Int} (hz : zin k) : zCr M_X8_again 2 [zR 31, zI k] (zo σ 31 m) (zB (decide ((0 ≤ k ∧ k ≤ 2) ∧ m.2 3 k ≠ 0))) (zo σ 31 (if (0 ≤ k ∧ k ≤ 2) ∧ m.2 3 k ≠ 0 then oss (imO (oss m 0 0) (k + 1) 0) 5 0 else oss m 0 0)) := by
  refine zC_of (M := M_X8_again) (ls := [some (zR 31), some (zI k)]) (n := 0) (by decide) (fun ad => Nat.le_of_ble_eq_true rfl) rfl (fun x h => ?_)
  refine z_aloadR_n (pc := 0) h dX8_again_0 rfl ?_
  refine z_iconst (pc := 1) h dX8_again_1 ?_
  refine z_putIo (pc := 2) (c := 8) (j := 0) h (by first | assumption | rfl) rfl rfl fl_X8_84 rfl (tyX8_ok 0 (by decide)) dX8_again_2 (by omega) ?_
  refine z_iload_n (pc := 5) h dX8_again_5 rfl ?_
  refine z_iconst (pc := 6) h dX8_again_6 ?_
  refine z_iconst (pc := 7) h dX8_again_7 ?_
  refine z_pS (pc := 8) h (m8_in (by omega) (by omega) (by omega)) (by decide) ms_X8_in ml_X8_88 rfl dX8_again_8 rfl (Nat.le_of_ble_eq_true rfl) ?_
  refine z_ifeqB (pc := 11) (tgt := 23) h dX8_again_11 (by decide) (fun c11 => ?_) (fun c11 => ?_)
  · refine z_iconst (pc := 23) h dX8_again_23 ?_
    refine z_zret (pc := 24) h rfl (by omega) dX8_again_24 ?_
    first
    | (have z := of_decide_eq_false c11; rw [if_neg (fun u => z u.1), decide_eq_false (fun u => z u.1)]; exact ⟨rfl, rfl⟩)
    | (have c20' : m.2 3 k = 0 := by first | exact c20 | exact Decidable.not_not.mp c20
       rw [if_neg (fun u => u.2 c20'), decide_eq_false (fun u => u.2 c20')]; exact ⟨rfl, rfl⟩)
  · have z := of_decide_eq_true c11
    refine z_aloadR_n (pc := 14) h dX8_again_14 rfl ?_
    refine z_getA6 (pc := 15) (c := 8) (j := 3) h (by first | assumption | rfl) rfl rfl fl_X8_17 dX8_again_15 ?_
    refine z_iload_n (pc := 18) h dX8_again_18 rfl ?_
    refine z_zaldq (pc := 19) (c := 8) (j := 3) (L := 3) h (zo_s _ _ _) (by first | assumption | rfl) (by decide) rfl (by decide) (by omega) (by omega) dX8_again_19 (fun g19 => ?_)
    try simp only [osa_1, osa_2, oss_1, oss_2, osA_1, osA_2, zup_s, reduceIte, Nat.reduceEqDiff] at g19 ⊢
    refine z_if_ne (pc := 20) (tgt := 25) h (by omega) dX8_again_20 (by decide) (fun c20 => ?_) (fun c20 => ?_)
    · refine z_aloadR_n (pc := 25) h dX8_again_25 rfl ?_
      refine z_iload_n (pc := 26) h dX8_again_26 rfl ?_
      refine z_iconst (pc := 27) h dX8_again_27 ?_
      refine z_iadd (pc := 28) h dX8_again_28 ?_
      refine z_iconst (pc := 29) h dX8_again_29 ?_
      refine z_vV (pc := 30) (c := 8) h (m8_copiesText (by omega) (by omega) (by omega)) (by decide) (by first | assumption | rfl) rfl mv_X8_copiesText ml_X8_364 rfl dX8_again_30 rfl (Nat.le_of_ble_eq_true rfl) ?_
      refine z_aloadR_n (pc := 33) h dX8_again_33 rfl ?_
      refine z_iconst (pc := 34) h dX8_again_34 ?_
      refine z_putIo (pc := 35) (c := 8) (j := 5) h (by first | assumption | rfl) rfl rfl fl_X8_181 rfl (tyX8_ok 5 (by decide)) dX8_again_35 (by omega) ?_
      refine z_iconst (pc := 38) h dX8_again_38 ?_
      refine z_zret (pc := 39) h rfl (by omega) dX8_again_39 ?_
      have c20' : m.2 3 k ≠ 0 := c20
      rw [if_pos ⟨z, c20'⟩, decide_eq_true ⟨z, c20'⟩]
      exact ⟨rfl, rfl⟩
    · refine z_iconst (pc := 23) h dX8_again_23 ?_
      refine z_zret (pc := 24) h rfl (by omega) dX8_again_24 ?_
      first
      | (have z := of_decide_eq_false c11; rw [if_neg (fun u => z u.1), decide_eq_false (fun u => z u.1)]; exact ⟨rfl, rfl⟩)
      | (have c20' : m.2 3 k = 0 := by first | exact c20 | exact Decidable.not_not.mp c20
         rw [if_neg (fun u => u.2 c20'), decide_eq_false (fun u => u.2 c20')]; exact ⟨rfl, rfl⟩)
