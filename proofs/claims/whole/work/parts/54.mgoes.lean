/-! The model: trucks move, swaps, what can be. -/
def sh_out (a : Int → Int) (lo i : Int) : Int → Int := fun x => if lo ≤ x ∧ x < i then a (x + 1) else a x
theorem sh_out_S (a : Int → Int) {lo i : Int} (h : lo ≤ i) : zup (sh_out a lo i) i (a (i + 1)) = sh_out a lo (i + 1) := by
  funext x
  unfold zup sh_out
  by_cases y : x = i
  · rw [if_pos y, if_pos (by omega), y]
  · rw [if_neg y]
    by_cases y2 : lo ≤ x ∧ x < i
    · rw [if_pos y2, if_pos (by omega)]
    · rw [if_neg y2, if_neg (by omega)]
theorem m8_takesOut {σ : zS} {m : zOb} {P0 P1 : Int → Int} {t : Int} (hwa : WFa (m.2 1)) (hP : POS P0 P1 (m.2 1)) (t0 : 0 ≤ t) (t1 : t < m.2 1 1) (hp : P0 t ≠ -1) : zCv M_X8_takesOut 3 [zR 31, zI t] (zo σ 31 m) (zo σ 31 (osA m 1 (a_out (m.2 1) (P0 t) (P1 t)))) := by
  have h6 := hwa.1
  have h8 := hwa.2.1
  obtain ⟨p1, p2, p3, p4⟩ := hP.at hwa t0 t1 hp
  have hr := hP.1 _ p1.1 p1.2
  refine zC_of (M := M_X8_takesOut) (ls := [some (zR 31), some (zI t), none, none]) (n := 2) (by decide) (fun ad => Nat.le_of_ble_eq_true rfl) rfl (fun x h => ?_)
  have L : ∀ (n : Nat) (i : Int), P1 t ≤ i → i ≤ m.2 1 (65 + P0 t) - 1 → m.2 1 (65 + P0 t) - 1 - i < n → zW x (fun r τ' => r = none ∧ τ' = zo σ 31 (osA m 1 (a_out (m.2 1) (P0 t) (P1 t)))) 19 [some (zR 31), some (zI t), some (zI (P0 t)), some (zI i)] [] (zo σ 31 (osA m 1 (sh_out (m.2 1) (71 + 8 * P0 t + P1 t) (71 + 8 * P0 t + i)))) := by
    intro n
    induction n with
    | zero => intro i h1 h2 h3; omega
    | succ n ih =>
      intro i h1 h2 h3
      have hih := ih (i + 1) (by omega)
      rw [show 71 + 8 * P0 t + (i + 1) = 71 + 8 * P0 t + i + 1 by omega, ← sh_out_S (m.2 1) (show 71 + 8 * P0 t + P1 t ≤ 71 + 8 * P0 t + i by omega), ← osa_osA] at hih
      have e0 : sh_out (m.2 1) (71 + 8 * P0 t + P1 t) (71 + 8 * P0 t + i) (65 + P0 t) = m.2 1 (65 + P0 t) := by unfold sh_out; rw [if_neg (by omega)]
      have e2 : sh_out (m.2 1) (71 + 8 * P0 t + P1 t) (71 + 8 * P0 t + i) (71 + 8 * P0 t + i + 1) = m.2 1 (71 + 8 * P0 t + i + 1) := by unfold sh_out; rw [if_neg (by omega)]
      have hgo : i = m.2 1 (65 + P0 t) - 1 → osA (osA m 1 (sh_out (m.2 1) (71 + 8 * P0 t + P1 t) (71 + 8 * P0 t + i))) 1 (zup (sh_out (m.2 1) (71 + 8 * P0 t + P1 t) (71 + 8 * P0 t + i)) (65 + P0 t) (m.2 1 (65 + P0 t) - 1)) = osA m 1 (a_out (m.2 1) (P0 t) (P1 t)) := by
        intro e
        rw [osA_osA]
        congr 1
        funext y
        unfold zup sh_out a_out
        by_cases y1 : y = 65 + P0 t
        · rw [if_pos y1, if_pos y1, y1]
        · rw [if_neg y1, if_neg y1, e]
      rw [← e2] at hih
      rw [← e0] at hgo
      have e1 : (osA m 1 (sh_out (m.2 1) (71 + 8 * P0 t + P1 t) (71 + 8 * P0 t + i))).2 1 = sh_out (m.2 1) (71 + 8 * P0 t + P1 t) (71 + 8 * P0 t + i) := rfl
      generalize sh_out (m.2 1) (71 + 8 * P0 t + P1 t) (71 + 8 * P0 t + i) = g at hih hgo e0 e1 e2 ⊢
      generalize osA m 1 g = mm at hih hgo e1 ⊢
      subst e1
      refine z_rgo (fun hrg => ?_)
      have hz : zin (mm.2 1 (71 + 8 * P0 t + (i + 1))) := hrg.2 1 _
      refine z_iload_n (pc := 19) h dX8_takesOut_19 rfl ?_
      refine z_aloadR_n (pc := 20) h dX8_takesOut_20 rfl ?_
      refine z_iload_n (pc := 21) h dX8_takesOut_21 rfl ?_
      refine z_pV (pc := 22) (c := 8) h (m8_rowMany (by omega)) (by decide) (by first | assumption | rfl) rfl mv_X8_rowMany ml_X8_191 rfl dX8_takesOut_22 rfl (Nat.le_of_ble_eq_true rfl) ?_
      refine z_iconst (pc := 25) h dX8_takesOut_25 ?_
      refine z_isub (pc := 26) h dX8_takesOut_26 ?_
      refine z_icmp_ge (pc := 27) (tgt := 58) h (by omega) (by omega) dX8_takesOut_27 (by decide) (fun c27 => ?_) (fun c27 => ?_)
      · refine z_aloadR_n (pc := 58) h dX8_takesOut_58 rfl ?_
        refine z_getA4 (pc := 59) (c := 8) (j := 1) h (by first | assumption | rfl) rfl rfl fl_X8_7 dX8_takesOut_59 ?_
        refine z_bipush (pc := 62) h dX8_takesOut_62 (by decide) ?_
        refine z_iload_n (pc := 64) h dX8_takesOut_64 rfl ?_
        refine z_iadd (pc := 65) h dX8_takesOut_65 ?_
        refine z_dup2AI (pc := 66) h dX8_takesOut_66 ?_
        refine z_ialdq (pc := 67) (c := 8) (j := 1) (L := 610) h (zo_s _ _ _) (by first | assumption | rfl) (by decide) rfl (by decide) (by omega) (by omega) dX8_takesOut_67 (fun g67 => ?_)
        refine z_iconst (pc := 68) h dX8_takesOut_68 ?_
        refine z_isub (pc := 69) h dX8_takesOut_69 ?_
        refine z_iasto (pc := 70) (c := 8) (j := 1) (L := 610) h (by first | assumption | rfl) (by decide) rfl (by decide) (by omega) (by omega) (by omega) dX8_takesOut_70 ?_
        refine z_ret (pc := 71) h rfl dX8_takesOut_71 ?_
        exact ⟨rfl, by rw [← hgo (by omega)]; rfl⟩
      · refine z_aloadR_n (pc := 30) h dX8_takesOut_30 rfl ?_
        refine z_getA4 (pc := 31) (c := 8) (j := 1) h (by first | assumption | rfl) rfl rfl fl_X8_7 dX8_takesOut_31 ?_
        refine z_bipush (pc := 34) h dX8_takesOut_34 (by decide) ?_
        refine z_bipush (pc := 36) h dX8_takesOut_36 (by decide) ?_
        refine z_iload_n (pc := 38) h dX8_takesOut_38 rfl ?_
        refine z_imul (pc := 39) h dX8_takesOut_39 ?_
        refine z_iadd (pc := 40) h dX8_takesOut_40 ?_
        refine z_iload_n (pc := 41) h dX8_takesOut_41 rfl ?_
        refine z_iadd (pc := 42) h dX8_takesOut_42 ?_
        refine z_aloadR_n (pc := 43) h dX8_takesOut_43 rfl ?_
        refine z_iload_n (pc := 44) h dX8_takesOut_44 rfl ?_
        refine z_iload_n (pc := 45) h dX8_takesOut_45 rfl ?_
        refine z_iconst (pc := 46) h dX8_takesOut_46 ?_
        refine z_iadd (pc := 47) h dX8_takesOut_47 ?_
        refine z_pV (pc := 48) (c := 8) h (m8_rowAt (by omega) (by omega)) (by decide) (by first | assumption | rfl) rfl mv_X8_rowAt ml_X8_205 rfl dX8_takesOut_48 rfl (Nat.le_of_ble_eq_true rfl) ?_
        refine z_iasto (pc := 51) (c := 8) (j := 1) (L := 610) h (by first | assumption | rfl) (by decide) rfl (by decide) (by omega) (by omega) (by omega) dX8_takesOut_51 ?_
        refine z_inc_3 (pc := 52) h dX8_takesOut_52 (by decide) rfl ?_
        refine z_goto (pc := 55) (tgt := 19) h dX8_takesOut_55 (by decide) ?_
        rw [show 71 + 8 * P0 t + i + 1 = 71 + 8 * P0 t + (i + 1) by omega] at hih
        exact hih (by omega) (by omega)
  have e0 : sh_out (m.2 1) (71 + 8 * P0 t + P1 t) (71 + 8 * P0 t + P1 t) = m.2 1 := by
    funext y
    unfold sh_out
    rw [if_neg (by omega)]
  refine z_aloadR_n (pc := 0) h dX8_takesOut_0 rfl ?_
  refine z_iload_n (pc := 1) h dX8_takesOut_1 rfl ?_
  refine z_pV (pc := 2) (c := 8) h (m8_doorNow hwa hP (by omega) (by omega)) (by decide) (by first | assumption | rfl) rfl mv_X8_doorNow ml_X8_284 rfl dX8_takesOut_2 rfl (Nat.le_of_ble_eq_true rfl) ?_
  refine z_ist_2 (pc := 5) h dX8_takesOut_5 (by decide) rfl ?_
  refine z_iload_n (pc := 6) h dX8_takesOut_6 rfl ?_
  refine z_iconst (pc := 7) h dX8_takesOut_7 ?_
  refine z_icmp_ne (pc := 8) (tgt := 12) h (by omega) (by omega) dX8_takesOut_8 (by decide) (fun c8 => ?_) (fun c8 => ?_)
  · refine z_aloadR_n (pc := 12) h dX8_takesOut_12 rfl ?_
    refine z_iload_n (pc := 13) h dX8_takesOut_13 rfl ?_
    refine z_iload_n (pc := 14) h dX8_takesOut_14 rfl ?_
    refine z_pV (pc := 15) (c := 8) h (m8_placeNow hwa hP (by omega) (by omega) hp) (by decide) (by first | assumption | rfl) rfl mv_X8_placeNow ml_X8_287 rfl dX8_takesOut_15 rfl (Nat.le_of_ble_eq_true rfl) ?_
    refine z_ist_3 (pc := 18) h dX8_takesOut_18 (by decide) rfl ?_
    have := L 8 (P1 t) (by omega) (by omega) (by omega)
    rw [e0, osA_same] at this
    exact this
  · exact absurd c8 hp
def sh_in (a : Int → Int) (hi i : Int) : Int → Int := fun x => if i < x ∧ x ≤ hi then a (x - 1) else a x
theorem sh_in_S (a : Int → Int) {hi i : Int} (h : i ≤ hi) : zup (sh_in a hi i) i (a (i - 1)) = sh_in a hi (i - 1) := by
  funext x
  unfold zup sh_in
  by_cases y : x = i
  · rw [if_pos y, if_pos (by omega), y]
  · rw [if_neg y]
    by_cases y2 : i < x ∧ x ≤ hi
    · rw [if_pos y2, if_pos (by omega)]
    · rw [if_neg y2, if_neg (by omega)]
theorem m8_putsIn {σ : zS} {m : zOb} {t d k : Int} (ht : zin t) (d0 : 0 ≤ d) (d1 : d < 6) (hr0 : 0 ≤ m.2 1 (65 + d)) (hr : m.2 1 (65 + d) ≤ 7) (k0 : 0 ≤ k) (k1 : k ≤ m.2 1 (65 + d)) : zCv M_X8_putsIn 2 [zR 31, zI t, zI d, zI k] (zo σ 31 m) (zo σ 31 (osA m 1 (a_put (m.2 1) t d k))) := by
  refine zC_of (M := M_X8_putsIn) (ls := [some (zR 31), some (zI t), some (zI d), some (zI k), none]) (n := 1) (by decide) (fun ad => Nat.le_of_ble_eq_true rfl) rfl (fun x h => ?_)
  have L : ∀ (n : Nat) (i : Int), k ≤ i → i ≤ m.2 1 (65 + d) → i - k < n → zW x (fun r τ' => r = none ∧ τ' = zo σ 31 (osA m 1 (a_put (m.2 1) t d k))) 7 [some (zR 31), some (zI t), some (zI d), some (zI k), some (zI i)] [] (zo σ 31 (osA m 1 (sh_in (m.2 1) (71 + 8 * d + m.2 1 (65 + d)) (71 + 8 * d + i)))) := by
    intro n
    induction n with
    | zero => intro i h1 h2 h3; omega
    | succ n ih =>
      intro i h1 h2 h3
      have hih := ih (i - 1)
      rw [show 71 + 8 * d + (i - 1) = 71 + 8 * d + i - 1 by omega, ← sh_in_S (m.2 1) (show 71 + 8 * d + i ≤ 71 + 8 * d + m.2 1 (65 + d) by omega), ← osa_osA] at hih
      have e0 : sh_in (m.2 1) (71 + 8 * d + m.2 1 (65 + d)) (71 + 8 * d + i) (65 + d) = m.2 1 (65 + d) := by unfold sh_in; rw [if_neg (by omega)]
      have e2 : sh_in (m.2 1) (71 + 8 * d + m.2 1 (65 + d)) (71 + 8 * d + i) (71 + 8 * d + i - 1) = m.2 1 (71 + 8 * d + i - 1) := by unfold sh_in; rw [if_neg (by omega)]
      have hgo : i = k → osA (osA m 1 (sh_in (m.2 1) (71 + 8 * d + m.2 1 (65 + d)) (71 + 8 * d + i))) 1 (zup (zup (sh_in (m.2 1) (71 + 8 * d + m.2 1 (65 + d)) (71 + 8 * d + i)) (71 + 8 * d + k) t) (65 + d) (m.2 1 (65 + d) + 1)) = osA m 1 (a_put (m.2 1) t d k) := by
        intro e
        rw [osA_osA]
        congr 1
        funext y
        unfold zup sh_in a_put
        by_cases y1 : y = 65 + d
        · rw [if_pos y1, if_pos y1, y1]
        · rw [if_neg y1, if_neg y1, e]
      rw [← e2] at hih
      have e1 : (osA m 1 (sh_in (m.2 1) (71 + 8 * d + m.2 1 (65 + d)) (71 + 8 * d + i))).2 1 = sh_in (m.2 1) (71 + 8 * d + m.2 1 (65 + d)) (71 + 8 * d + i) := rfl
      generalize sh_in (m.2 1) (71 + 8 * d + m.2 1 (65 + d)) (71 + 8 * d + i) = g at hih hgo e0 e1 e2 ⊢
      generalize osA m 1 g = mm at hih hgo e1 ⊢
      subst e1
      refine z_rgo (fun hrg => ?_)
      have hz : zin (mm.2 1 (71 + 8 * d + (i - 1))) := hrg.2 1 _
      refine z_iload (pc := 7) h dX8_putsIn_7 rfl ?_
      refine z_iload_n (pc := 9) h dX8_putsIn_9 rfl ?_
      refine z_icmp_le (pc := 10) (tgt := 43) h (by omega) (by omega) dX8_putsIn_10 (by decide) (fun c10 => ?_) (fun c10 => ?_)
      · refine z_aloadR_n (pc := 43) h dX8_putsIn_43 rfl ?_
        refine z_getA4 (pc := 44) (c := 8) (j := 1) h (by first | assumption | rfl) rfl rfl fl_X8_7 dX8_putsIn_44 ?_
        refine z_bipush (pc := 47) h dX8_putsIn_47 (by decide) ?_
        refine z_bipush (pc := 49) h dX8_putsIn_49 (by decide) ?_
        refine z_iload_n (pc := 51) h dX8_putsIn_51 rfl ?_
        refine z_imul (pc := 52) h dX8_putsIn_52 ?_
        refine z_iadd (pc := 53) h dX8_putsIn_53 ?_
        refine z_iload_n (pc := 54) h dX8_putsIn_54 rfl ?_
        refine z_iadd (pc := 55) h dX8_putsIn_55 ?_
        refine z_iload_n (pc := 56) h dX8_putsIn_56 rfl ?_
        refine z_iasto (pc := 57) (c := 8) (j := 1) (L := 610) h (by first | assumption | rfl) (by decide) rfl (by decide) (by omega) (by omega) (by omega) dX8_putsIn_57 ?_
        refine z_aloadR_n (pc := 58) h dX8_putsIn_58 rfl ?_
        refine z_getA4 (pc := 59) (c := 8) (j := 1) h (by first | assumption | rfl) rfl rfl fl_X8_7 dX8_putsIn_59 ?_
        refine z_bipush (pc := 62) h dX8_putsIn_62 (by decide) ?_
        refine z_iload_n (pc := 64) h dX8_putsIn_64 rfl ?_
        refine z_iadd (pc := 65) h dX8_putsIn_65 ?_
        refine z_dup2AI (pc := 66) h dX8_putsIn_66 ?_
        refine z_ialdq (pc := 67) (c := 8) (j := 1) (L := 610) h (zo_s _ _ _) (by first | assumption | rfl) (by decide) rfl (by decide) (by omega) (by omega) dX8_putsIn_67 (fun g67 => ?_)
        try simp only [osa_1, osa_2, oss_1, oss_2, osA_1, osA_2, zup_s, reduceIte, Nat.reduceEqDiff] at g67 ⊢
        refine z_iconst (pc := 68) h dX8_putsIn_68 ?_
        refine z_iadd (pc := 69) h dX8_putsIn_69 ?_
        have e8 : zup (mm.2 1) (71 + 8 * d + k) t (65 + d) = mm.2 1 (65 + d) := zup_n _ _ (by omega)
        refine z_iasto (pc := 70) (c := 8) (j := 1) (L := 610) h (by first | assumption | rfl) (by decide) rfl (by decide) (by omega) (by omega) (by omega) dX8_putsIn_70 ?_
        refine z_ret (pc := 71) h rfl dX8_putsIn_71 ?_
        refine ⟨rfl, ?_⟩
        rw [← hgo (by omega)]
        have e9 : zup (mm.2 1) (71 + 8 * d + k) t (65 + d) = m.2 1 (65 + d) := by rw [zup_n _ _ (by omega), e0]
        rw [← e9]
        unfold osa
        rw [osA_at, osA_osA]
      · refine z_aloadR_n (pc := 13) h dX8_putsIn_13 rfl ?_
        refine z_getA4 (pc := 14) (c := 8) (j := 1) h (by first | assumption | rfl) rfl rfl fl_X8_7 dX8_putsIn_14 ?_
        refine z_bipush (pc := 17) h dX8_putsIn_17 (by decide) ?_
        refine z_bipush (pc := 19) h dX8_putsIn_19 (by decide) ?_
        refine z_iload_n (pc := 21) h dX8_putsIn_21 rfl ?_
        refine z_imul (pc := 22) h dX8_putsIn_22 ?_
        refine z_iadd (pc := 23) h dX8_putsIn_23 ?_
        refine z_iload (pc := 24) h dX8_putsIn_24 rfl ?_
        refine z_iadd (pc := 26) h dX8_putsIn_26 ?_
        refine z_aloadR_n (pc := 27) h dX8_putsIn_27 rfl ?_
        refine z_iload_n (pc := 28) h dX8_putsIn_28 rfl ?_
        refine z_iload (pc := 29) h dX8_putsIn_29 rfl ?_
        refine z_iconst (pc := 31) h dX8_putsIn_31 ?_
        refine z_isub (pc := 32) h dX8_putsIn_32 ?_
        refine z_pV (pc := 33) (c := 8) h (m8_rowAt (by omega) (by omega)) (by decide) (by first | assumption | rfl) rfl mv_X8_rowAt ml_X8_205 rfl dX8_putsIn_33 rfl (Nat.le_of_ble_eq_true rfl) ?_
        refine z_iasto (pc := 36) (c := 8) (j := 1) (L := 610) h (by first | assumption | rfl) (by decide) rfl (by decide) (by omega) (by omega) (by omega) dX8_putsIn_36 ?_
        refine z_inc_4 (pc := 37) h dX8_putsIn_37 (by decide) rfl ?_
        refine z_goto (pc := 40) (tgt := 7) h dX8_putsIn_40 (by decide) ?_
        rw [show 71 + 8 * d + i - 1 = 71 + 8 * d + (i - 1) by omega] at hih
        exact hih (by omega) (by omega) (by omega)
  have e0 : sh_in (m.2 1) (71 + 8 * d + m.2 1 (65 + d)) (71 + 8 * d + m.2 1 (65 + d)) = m.2 1 := by
    funext y
    unfold sh_in
    rw [if_neg (by omega)]
  refine z_aloadR_n (pc := 0) h dX8_putsIn_0 rfl ?_
  refine z_iload_n (pc := 1) h dX8_putsIn_1 rfl ?_
  refine z_pV (pc := 2) (c := 8) h (m8_rowMany (by omega)) (by decide) (by first | assumption | rfl) rfl mv_X8_rowMany ml_X8_191 rfl dX8_putsIn_2 rfl (Nat.le_of_ble_eq_true rfl) ?_
  refine z_ist_4 (pc := 5) h dX8_putsIn_5 (by decide) rfl ?_
  have := L 9 (m.2 1 (65 + d)) (by omega) (by omega) (by omega)
  rw [e0, osA_same] at this
  exact this
