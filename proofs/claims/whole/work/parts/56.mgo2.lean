/-! The model: goesTo, changes, begins. -/
def WFi (P0 a : Int → Int) : Prop := ∀ t d, 0 ≤ t → t < a 1 → 0 ≤ d → d < a 0 → a (17 + 6 * t + 0) = a (5 + 2 * d) → P0 t ≠ -1
def MC (P0 a : Int → Int) (t d k : Int) : Prop := (0 ≤ t ∧ t < a 1) ∧ (0 ≤ d ∧ d < a 0) ∧ a (17 + 6 * t + 0) = a (5 + 2 * d) ∧ 0 ≤ k ∧ k ≤ a (65 + d) - (if P0 t = d then 1 else 0)
def dMC (P0 a : Int → Int) (t d k : Int) : Decidable (MC P0 a t d k) := by unfold MC; exact inferInstance
def dSW (P0 a : Int → Int) (t u : Int) : Decidable (SWH P0 a t u) := by unfold SWH; exact inferInstance
def mvC (P0 P1 a F : Int → Int) (t d k : Int) : Int := @ite Int (MC P0 a t d k) (dMC P0 a t d k) (if P0 t = d ∧ P1 t = k then -1 else if F (P0 t) ≤ P1 t ∧ F d ≤ k then 0 else -2) (-1)
def swC (P0 P1 a F : Int → Int) (t u : Int) : Int := @ite Int (SWH P0 a t u) (dSW P0 a t u) (if F (P0 t) ≤ P1 t ∧ F (P0 u) ≤ P1 u then 0 else -2) (-1)
theorem MC.mvh {P0 a : Int → Int} {t d k : Int} (P1 : Int → Int) (h : MC P0 a t d k) (hi : WFi P0 a) : MVH P0 P1 a t d k := ⟨h.1, hi t d h.1.1 h.1.2 h.2.1.1 h.2.1.2 h.2.2.1, h.2.1, h.2.2.1, h.2.2.2⟩
theorem back_eq {a b κ : Int → Int} (hK : KPT a κ) (hb : ∀ i, (i < 65 ∨ 119 ≤ i) → b i = a i) : cpf b (fun j => κ (j - 65)) 65 54 = a := by
  funext i
  unfold cpf
  by_cases y : 65 ≤ i ∧ i < 65 + 54
  · rw [if_pos y]
    show κ (i - 65) = a i
    rw [hK _ (by omega) (by omega), show 65 + (i - 65) = i by omega]
  · rw [if_neg y, hb i (by omega)]
theorem a_mv_o {P0 P1 a : Int → Int} (hwa : WFa a) (h : POS P0 P1 a) {t d k : Int} (hm : MVH P0 P1 a t d k) {i : Int} (hi : i < 65 ∨ 119 ≤ i) : a_mv P0 P1 a t d k i = a i := by
  obtain ⟨f1, f2, f3⟩ := hm.facts hwa h
  obtain ⟨⟨t0, t1⟩, hp, ⟨d0, d1⟩, hk, k0, k1⟩ := hm
  obtain ⟨p1, p2, p3, p4⟩ := h.at hwa t0 t1 hp
  have h6 := hwa.1
  have hr := h.1 _ p1.1 p1.2
  unfold a_mv a_put
  rw [if_neg (by omega), if_neg (by omega), if_neg (by omega)]
  unfold a_out
  rw [if_neg (by omega), if_neg (by omega)]
theorem a_sw_o {P0 P1 a : Int → Int} (hwa : WFa a) (h : POS P0 P1 a) {t u : Int} (hm : SWH P0 a t u) {i : Int} (hi : i < 65 ∨ 119 ≤ i) : a_sw P0 P1 a t u i = a i := by
  obtain ⟨⟨t0, t1⟩, ⟨u0, u1⟩, hne, hk, ht, hu⟩ := hm
  obtain ⟨p1, p2, p3, p4⟩ := h.at hwa t0 t1 ht
  obtain ⟨q1, q2, q3, q4⟩ := h.at hwa u0 u1 hu
  have h6 := hwa.1
  have hr := h.1 _ p1.1 p1.2
  have hs := h.1 _ q1.1 q1.2
  unfold a_sw
  rw [zup_n _ _ (by omega), zup_n _ _ (by omega)]
theorem m8_goesTo {σ : zS} {m : zOb} {P0 P1 : Int → Int} {t d k : Int} (hwa : WFa (m.2 1)) (hP : POS P0 P1 (m.2 1)) (hi : WFi P0 (m.2 1)) (hK : KPT (m.2 1) (m.2 41)) (hF : ∀ e, 0 ≤ e → e < m.2 1 0 → 0 ≤ m.2 40 e ∧ m.2 40 e ≤ m.2 1 (65 + e)) (ht : zin t) (hd : zin d) (hk : zin k) : zCr M_X8_goesTo 4 [zR 31, zI t, zI d, zI k] (zo σ 31 m) (zI (mvC P0 P1 (m.2 1) (m.2 40) t d k)) (zo σ 31 (osA m 1 (if mvC P0 P1 (m.2 1) (m.2 40) t d k = 0 then a_mv P0 P1 (m.2 1) t d k else m.2 1))) := by
  have h6 := hwa.1
  have h8 := hwa.2.1
  refine zC_of (M := M_X8_goesTo) (ls := [some (zR 31), some (zI t), some (zI d), some (zI k)]) (n := 0) (by decide) (fun ad => Nat.le_of_ble_eq_true rfl) rfl (fun x h => ?_)
  have N : ¬ MC P0 (m.2 1) t d k → zW x (fun r τ' => r = some (zI (mvC P0 P1 (m.2 1) (m.2 40) t d k)) ∧ τ' = zo σ 31 (osA m 1 (if mvC P0 P1 (m.2 1) (m.2 40) t d k = 0 then a_mv P0 P1 (m.2 1) t d k else m.2 1))) 43 [some (zR 31), some (zI t), some (zI d), some (zI k)] [] (zo σ 31 m) := by
    intro hc
    have hcode : mvC P0 P1 (m.2 1) (m.2 40) t d k = -1 := by unfold mvC; rw [if_neg hc]
    rw [hcode, if_neg (by omega), osA_same]
    refine z_iconst (pc := 43) h dX8_goesTo_43 ?_
    refine z_iret (pc := 44) h rfl dX8_goesTo_44 ?_
    exact ⟨rfl, rfl⟩
  have W : MC P0 (m.2 1) t d k → zW x (fun r τ' => r = some (zI (mvC P0 P1 (m.2 1) (m.2 40) t d k)) ∧ τ' = zo σ 31 (osA m 1 (if mvC P0 P1 (m.2 1) (m.2 40) t d k = 0 then a_mv P0 P1 (m.2 1) t d k else m.2 1))) 45 [some (zR 31), some (zI t), some (zI d), some (zI k)] [] (zo σ 31 m) := by
    intro hc
    have hm := hc.mvh P1 hi
    obtain ⟨f1, f2, f3⟩ := hm.facts hwa hP
    have hp := hm.2.1
    obtain ⟨⟨t0, t1⟩, ⟨d0, d1⟩, hkd, k0, k1⟩ := id hc
    obtain ⟨p1, p2, p3, p4⟩ := hP.at hwa t0 t1 hp
    have hPm := POS_mv hwa hP hm
    have hput := m8_putsIn (σ := σ) (m := osA m 1 (a_out (m.2 1) (P0 t) (P1 t))) (t := t) (d := d) (k := k) ht d0 (by omega) (by
      rw [osA_at, a_out_65 p1.1 (by omega) p2.1 d0 (by omega)]
      have := hP.1 d d0 d1
      split
      · rename_i y; rw [y] at this ⊢; omega
      · omega) (by rw [osA_at]; exact f1) k0 (by rw [osA_at]; exact f2)
    rw [osA_at, osA_osA, show a_put (a_out (m.2 1) (P0 t) (P1 t)) t d k = a_mv P0 P1 (m.2 1) t d k from rfl] at hput
    have hne := mv_ne hwa hP hK hm
    have hcb := mv_cb hwa hP hK hF hm
    have e0 : a_mv P0 P1 (m.2 1) t d k 0 = m.2 1 0 := a_mv_s hwa hP hm (by omega)
    have hback := back_eq (b := a_mv P0 P1 (m.2 1) t d k) (κ := m.2 41) hK (fun i hi => a_mv_o hwa hP hm hi)
    have hio := m8_isOther (σ := σ) (m := osA m 1 (a_mv P0 P1 (m.2 1) t d k)) (v := decide (¬ (P0 t = d ∧ P1 t = k))) (by rw [osA_at, e0]; exact h6) (by rw [osA_at]; exact hPm.1) (by rw [osA_at]; exact Iff.trans decide_eq_true_iff hne.symm)
    have hcan : ¬ (P0 t = d ∧ P1 t = k) → zCp M_X8_canBe 2 [zR 31] (zo σ 31 (osA m 1 (a_mv P0 P1 (m.2 1) t d k))) (zB (decide (m.2 40 (P0 t) ≤ P1 t ∧ m.2 40 d ≤ k))) := fun hn => m8_canBe (by rw [osA_at, e0]; exact h6) (by rw [osA_at]; exact hPm.1) (by rw [osA_at, e0]; exact fun e y0 y1 => (hF e y0 y1).1) (by rw [osA_at]; exact Iff.trans decide_eq_true_iff (hcb hn).symm)
    have hrb := m8_rowsBack (σ := σ) (m := osA m 1 (a_mv P0 P1 (m.2 1) t d k))
    rw [osA_at, osA_osA, show (osA m 1 (a_mv P0 P1 (m.2 1) t d k)).2 41 = m.2 41 from rfl, hback, osA_same] at hrb
    refine z_aloadR_n (pc := 45) h dX8_goesTo_45 rfl ?_
    refine z_iload_n (pc := 46) h dX8_goesTo_46 rfl ?_
    refine z_vV (pc := 47) (c := 8) h (m8_takesOut hwa hP (by omega) (by omega) hp) (by decide) (by first | assumption | rfl) rfl mv_X8_takesOut ml_X8_299 rfl dX8_goesTo_47 rfl (Nat.le_of_ble_eq_true rfl) ?_
    refine z_aloadR_n (pc := 50) h dX8_goesTo_50 rfl ?_
    refine z_iload_n (pc := 51) h dX8_goesTo_51 rfl ?_
    refine z_iload_n (pc := 52) h dX8_goesTo_52 rfl ?_
    refine z_iload_n (pc := 53) h dX8_goesTo_53 rfl ?_
    refine z_vV (pc := 54) (c := 8) h (hput) (by decide) (by first | assumption | rfl) rfl mv_X8_putsIn ml_X8_302 rfl dX8_goesTo_54 rfl (Nat.le_of_ble_eq_true rfl) ?_
    refine z_aloadR_n (pc := 57) h dX8_goesTo_57 rfl ?_
    refine z_pV (pc := 58) (c := 8) h (hio) (by decide) (by first | assumption | rfl) rfl mv_X8_isOther ml_X8_306 rfl dX8_goesTo_58 rfl (Nat.le_of_ble_eq_true rfl) ?_
    refine z_ifneB (pc := 61) (tgt := 66) h dX8_goesTo_61 (by decide) (fun c61 => ?_) (fun c61 => ?_)
    · have hn := of_decide_eq_true c61
      refine z_aloadR_n (pc := 66) h dX8_goesTo_66 rfl ?_
      refine z_pV (pc := 67) (c := 8) h (hcan hn) (by decide) (by first | assumption | rfl) rfl mv_X8_canBe ml_X8_309 rfl dX8_goesTo_67 rfl (Nat.le_of_ble_eq_true rfl) ?_
      refine z_ifneB (pc := 70) (tgt := 80) h dX8_goesTo_70 (by decide) (fun c70 => ?_) (fun c70 => ?_)
      · refine z_iconst (pc := 80) h dX8_goesTo_80 ?_
        refine z_iret (pc := 81) h rfl dX8_goesTo_81 ?_
        have hcode : mvC P0 P1 (m.2 1) (m.2 40) t d k = 0 := by unfold mvC; rw [if_pos hc, if_neg hn, if_pos (of_decide_eq_true c70)]
        rw [hcode, if_pos rfl]
        exact ⟨rfl, rfl⟩
      · refine z_aloadR_n (pc := 73) h dX8_goesTo_73 rfl ?_
        refine z_vV (pc := 74) (c := 8) h (hrb) (by decide) (by first | assumption | rfl) rfl mv_X8_rowsBack ml_X8_312 rfl dX8_goesTo_74 rfl (Nat.le_of_ble_eq_true rfl) ?_
        refine z_bipush (pc := 77) h dX8_goesTo_77 (by decide) ?_
        refine z_iret (pc := 79) h rfl dX8_goesTo_79 ?_
        have hcode : mvC P0 P1 (m.2 1) (m.2 40) t d k = -2 := by unfold mvC; rw [if_pos hc, if_neg hn, if_neg (of_decide_eq_false c70)]
        rw [hcode, if_neg (by omega), osA_same]
        exact ⟨rfl, rfl⟩
    · refine z_iconst (pc := 64) h dX8_goesTo_64 ?_
      refine z_iret (pc := 65) h rfl dX8_goesTo_65 ?_
      have y := Decidable.not_not.mp (of_decide_eq_false c61)
      have hcode : mvC P0 P1 (m.2 1) (m.2 40) t d k = -1 := by unfold mvC; rw [if_pos hc, if_pos y]
      rw [hcode, if_neg (by omega), osA_same, a_mv_same hwa hP hm y, osA_same]
      exact ⟨rfl, rfl⟩
  refine z_aloadR_n (pc := 0) h dX8_goesTo_0 rfl ?_
  refine z_iload_n (pc := 1) h dX8_goesTo_1 rfl ?_
  refine z_pV (pc := 2) (c := 8) h (m8_isTruck (by omega) (by omega)) (by decide) (by first | assumption | rfl) rfl mv_X8_isTruck ml_X8_290 rfl dX8_goesTo_2 rfl (Nat.le_of_ble_eq_true rfl) ?_
  refine z_ifeqB (pc := 5) (tgt := 43) h dX8_goesTo_5 (by decide) (fun c5 => ?_) (fun c5 => ?_)
  · exact N (fun z => of_decide_eq_false c5 (by have := z.1; omega))
  · have z5 := of_decide_eq_true c5
    refine z_aloadR_n (pc := 8) h dX8_goesTo_8 rfl ?_
    refine z_iload_n (pc := 9) h dX8_goesTo_9 rfl ?_
    refine z_pV (pc := 10) (c := 8) h (m8_isDoor (by omega) (by omega)) (by decide) (by first | assumption | rfl) rfl mv_X8_isDoor ml_X8_293 rfl dX8_goesTo_10 rfl (Nat.le_of_ble_eq_true rfl) ?_
    refine z_ifeqB (pc := 13) (tgt := 43) h dX8_goesTo_13 (by decide) (fun c13 => ?_) (fun c13 => ?_)
    · exact N (fun z => of_decide_eq_false c13 (by have := z.2.1; omega))
    · have z13 := of_decide_eq_true c13
      have k1 := (hwa.2.2.2.2.2.2.1 t (by omega) (by omega)).1
      have k2 := (hwa.2.2.2.2.2.1 d (by omega) (by omega)).1
      have hr := hP.1 d (by omega) (by omega)
      have hpt := hP.rng hwa (t := t) (by omega) (by omega)
      refine z_aloadR_n (pc := 16) h dX8_goesTo_16 rfl ?_
      refine z_iload_n (pc := 17) h dX8_goesTo_17 rfl ?_
      refine z_pV (pc := 18) (c := 8) h (m8_isOutV (by omega) k1) (by decide) (by first | assumption | rfl) rfl mv_X8_isOut ml_X8_195 rfl dX8_goesTo_18 rfl (Nat.le_of_ble_eq_true rfl) ?_
      refine z_aloadR_n (pc := 21) h dX8_goesTo_21 rfl ?_
      refine z_iload_n (pc := 22) h dX8_goesTo_22 rfl ?_
      refine z_pV (pc := 23) (c := 8) h (m8_isOutDoorV (by omega) k2) (by decide) (by first | assumption | rfl) rfl mv_X8_isOutDoor ml_X8_187 rfl dX8_goesTo_23 rfl (Nat.le_of_ble_eq_true rfl) ?_
      refine z_icmp_ne (pc := 26) (tgt := 43) h (by omega) (by omega) dX8_goesTo_26 (by decide) (fun c26 => ?_) (fun c26 => ?_)
      · exact N (fun z => c26 z.2.2.1)
      · refine z_iload_n (pc := 29) h dX8_goesTo_29 rfl ?_
        refine z_iconst (pc := 30) h dX8_goesTo_30 ?_
        refine z_aloadR_n (pc := 31) h dX8_goesTo_31 rfl ?_
        refine z_iload_n (pc := 32) h dX8_goesTo_32 rfl ?_
        refine z_iload_n (pc := 33) h dX8_goesTo_33 rfl ?_
        refine z_pV (pc := 34) (c := 8) h (m8_othersIn hwa hP (by omega) (by omega) (by omega) (by omega)) (by decide) (by first | assumption | rfl) rfl mv_X8_othersIn ml_X8_296 rfl dX8_goesTo_34 rfl (Nat.le_of_ble_eq_true rfl) ?_
        have hif : 0 ≤ (if P0 t = d then (1 : Int) else 0) ∧ (if P0 t = d then (1 : Int) else 0) ≤ 1 := by split <;> omega
        refine z_pS (pc := 37) h (m8_in (by omega) (by omega) (by omega)) (by decide) ms_X8_in ml_X8_88 rfl dX8_goesTo_37 rfl (Nat.le_of_ble_eq_true rfl) ?_
        refine z_ifneB (pc := 40) (tgt := 45) h dX8_goesTo_40 (by decide) (fun c40 => ?_) (fun c40 => ?_)
        · exact W ⟨by omega, by omega, c26, of_decide_eq_true c40⟩
        · exact N (fun z => of_decide_eq_false c40 z.2.2.2)
theorem m8_changes {σ : zS} {m : zOb} {P0 P1 : Int → Int} {t u : Int} (hwa : WFa (m.2 1)) (hP : POS P0 P1 (m.2 1)) (hK : KPT (m.2 1) (m.2 41)) (hF : ∀ e, 0 ≤ e → e < m.2 1 0 → 0 ≤ m.2 40 e ∧ m.2 40 e ≤ m.2 1 (65 + e)) (ht : zin t) (hu : zin u) : zCr M_X8_changes 3 [zR 31, zI t, zI u] (zo σ 31 m) (zI (swC P0 P1 (m.2 1) (m.2 40) t u)) (zo σ 31 (osA m 1 (if swC P0 P1 (m.2 1) (m.2 40) t u = 0 then a_sw P0 P1 (m.2 1) t u else m.2 1))) := by
  have h6 := hwa.1
  have h8 := hwa.2.1
  refine zC_of (M := M_X8_changes) (ls := [some (zR 31), some (zI t), some (zI u), none, none, none, none]) (n := 4) (by decide) (fun ad => Nat.le_of_ble_eq_true rfl) rfl (fun x h => ?_)
  have N : ¬ SWH P0 (m.2 1) t u → ∀ a b c d : Option Value, zW x (fun r τ' => r = some (zI (swC P0 P1 (m.2 1) (m.2 40) t u)) ∧ τ' = zo σ 31 (osA m 1 (if swC P0 P1 (m.2 1) (m.2 40) t u = 0 then a_sw P0 P1 (m.2 1) t u else m.2 1))) 52 [some (zR 31), some (zI t), some (zI u), a, b, c, d] [] (zo σ 31 m) := by
    intro hc a b c d
    have hcode : swC P0 P1 (m.2 1) (m.2 40) t u = -1 := by unfold swC; rw [if_neg hc]
    rw [hcode, if_neg (by omega), osA_same]
    refine z_iconst (pc := 52) h dX8_changes_52 ?_
    refine z_iret (pc := 53) h rfl dX8_changes_53 ?_
    exact ⟨rfl, rfl⟩
  have W : SWH P0 (m.2 1) t u → ∀ a b c d : Option Value, zW x (fun r τ' => r = some (zI (swC P0 P1 (m.2 1) (m.2 40) t u)) ∧ τ' = zo σ 31 (osA m 1 (if swC P0 P1 (m.2 1) (m.2 40) t u = 0 then a_sw P0 P1 (m.2 1) t u else m.2 1))) 54 [some (zR 31), some (zI t), some (zI u), a, b, c, d] [] (zo σ 31 m) := by
    intro hc a b c d
    obtain ⟨⟨t0, t1⟩, ⟨u0, u1⟩, hne, hk, hpt, hpu⟩ := id hc
    obtain ⟨p1, p2, p3, p4⟩ := hP.at hwa t0 t1 hpt
    obtain ⟨q1, q2, q3, q4⟩ := hP.at hwa u0 u1 hpu
    have r1 := hP.1 _ p1.1 p1.2
    have r2 := hP.1 _ q1.1 q1.2
    have hPm := POS_sw hwa hP hc
    have hcb := sw_cb hwa hP hK hF hc
    have e0 : a_sw P0 P1 (m.2 1) t u 0 = m.2 1 0 := a_sw_s hwa hP hc (by omega)
    have hback := back_eq (b := a_sw P0 P1 (m.2 1) t u) (κ := m.2 41) hK (fun i hi => a_sw_o hwa hP hc hi)
    have hst : osa (osa m 1 (71 + 8 * P0 t + P1 t) u) 1 (71 + 8 * P0 u + P1 u) t = osA m 1 (a_sw P0 P1 (m.2 1) t u) := by
      unfold osa a_sw
      rw [osA_at, osA_osA]
    have hcan := m8_canBe (σ := σ) (m := osA m 1 (a_sw P0 P1 (m.2 1) t u)) (v := decide (m.2 40 (P0 t) ≤ P1 t ∧ m.2 40 (P0 u) ≤ P1 u)) (by rw [osA_at, e0]; exact h6) (by rw [osA_at]; exact hPm.1) (by rw [osA_at, e0]; exact fun e y0 y1 => (hF e y0 y1).1) (by rw [osA_at]; exact Iff.trans decide_eq_true_iff hcb.symm)
    have hrb := m8_rowsBack (σ := σ) (m := osA m 1 (a_sw P0 P1 (m.2 1) t u))
    rw [osA_at, osA_osA, show (osA m 1 (a_sw P0 P1 (m.2 1) t u)).2 41 = m.2 41 from rfl, hback, osA_same] at hrb
    refine z_aloadR_n (pc := 54) h dX8_changes_54 rfl ?_
    refine z_iload_n (pc := 55) h dX8_changes_55 rfl ?_
    refine z_pV (pc := 56) (c := 8) h (m8_doorNow hwa hP (by omega) (by omega)) (by decide) (by first | assumption | rfl) rfl mv_X8_doorNow ml_X8_284 rfl dX8_changes_56 rfl (Nat.le_of_ble_eq_true rfl) ?_
    refine z_ist_3 (pc := 59) h dX8_changes_59 (by decide) rfl ?_
    refine z_aloadR_n (pc := 60) h dX8_changes_60 rfl ?_
    refine z_iload_n (pc := 61) h dX8_changes_61 rfl ?_
    refine z_pV (pc := 62) (c := 8) h (m8_doorNow hwa hP (by omega) (by omega)) (by decide) (by first | assumption | rfl) rfl mv_X8_doorNow ml_X8_284 rfl dX8_changes_62 rfl (Nat.le_of_ble_eq_true rfl) ?_
    refine z_ist_4 (pc := 65) h dX8_changes_65 (by decide) rfl ?_
    refine z_aloadR_n (pc := 67) h dX8_changes_67 rfl ?_
    refine z_iload_n (pc := 68) h dX8_changes_68 rfl ?_
    refine z_iload_n (pc := 69) h dX8_changes_69 rfl ?_
    refine z_pV (pc := 70) (c := 8) h (m8_placeNow hwa hP (by omega) (by omega) hpt) (by decide) (by first | assumption | rfl) rfl mv_X8_placeNow ml_X8_287 rfl dX8_changes_70 rfl (Nat.le_of_ble_eq_true rfl) ?_
    refine z_ist_5 (pc := 73) h dX8_changes_73 (by decide) rfl ?_
    refine z_aloadR_n (pc := 75) h dX8_changes_75 rfl ?_
    refine z_iload_n (pc := 76) h dX8_changes_76 rfl ?_
    refine z_iload (pc := 77) h dX8_changes_77 rfl ?_
    refine z_pV (pc := 79) (c := 8) h (m8_placeNow hwa hP (by omega) (by omega) hpu) (by decide) (by first | assumption | rfl) rfl mv_X8_placeNow ml_X8_287 rfl dX8_changes_79 rfl (Nat.le_of_ble_eq_true rfl) ?_
    refine z_ist_6 (pc := 82) h dX8_changes_82 (by decide) rfl ?_
    refine z_aloadR_n (pc := 84) h dX8_changes_84 rfl ?_
    refine z_getA4 (pc := 85) (c := 8) (j := 1) h (by first | assumption | rfl) rfl rfl fl_X8_7 dX8_changes_85 ?_
    refine z_bipush (pc := 88) h dX8_changes_88 (by decide) ?_
    refine z_bipush (pc := 90) h dX8_changes_90 (by decide) ?_
    refine z_iload_n (pc := 92) h dX8_changes_92 rfl ?_
    refine z_imul (pc := 93) h dX8_changes_93 ?_
    refine z_iadd (pc := 94) h dX8_changes_94 ?_
    refine z_iload (pc := 95) h dX8_changes_95 rfl ?_
    refine z_iadd (pc := 97) h dX8_changes_97 ?_
    refine z_iload_n (pc := 98) h dX8_changes_98 rfl ?_
    refine z_iasto (pc := 99) (c := 8) (j := 1) (L := 610) h (by first | assumption | rfl) (by decide) rfl (by decide) (by omega) (by omega) (by omega) dX8_changes_99 ?_
    refine z_aloadR_n (pc := 100) h dX8_changes_100 rfl ?_
    refine z_getA4 (pc := 101) (c := 8) (j := 1) h (by first | assumption | rfl) rfl rfl fl_X8_7 dX8_changes_101 ?_
    refine z_bipush (pc := 104) h dX8_changes_104 (by decide) ?_
    refine z_bipush (pc := 106) h dX8_changes_106 (by decide) ?_
    refine z_iload (pc := 108) h dX8_changes_108 rfl ?_
    refine z_imul (pc := 110) h dX8_changes_110 ?_
    refine z_iadd (pc := 111) h dX8_changes_111 ?_
    refine z_iload (pc := 112) h dX8_changes_112 rfl ?_
    refine z_iadd (pc := 114) h dX8_changes_114 ?_
    refine z_iload_n (pc := 115) h dX8_changes_115 rfl ?_
    refine z_iasto (pc := 116) (c := 8) (j := 1) (L := 610) h (by first | assumption | rfl) (by decide) rfl (by decide) (by omega) (by omega) (by omega) dX8_changes_116 ?_
    rw [hst]
    refine z_aloadR_n (pc := 117) h dX8_changes_117 rfl ?_
    refine z_pV (pc := 118) (c := 8) h (hcan) (by decide) (by first | assumption | rfl) rfl mv_X8_canBe ml_X8_309 rfl dX8_changes_118 rfl (Nat.le_of_ble_eq_true rfl) ?_
    refine z_ifneB (pc := 121) (tgt := 131) h dX8_changes_121 (by decide) (fun c121 => ?_) (fun c121 => ?_)
    · refine z_iconst (pc := 131) h dX8_changes_131 ?_
      refine z_iret (pc := 132) h rfl dX8_changes_132 ?_
      have hcode : swC P0 P1 (m.2 1) (m.2 40) t u = 0 := by unfold swC; rw [if_pos hc, if_pos (of_decide_eq_true c121)]
      rw [hcode, if_pos rfl]
      exact ⟨rfl, rfl⟩
    · refine z_aloadR_n (pc := 124) h dX8_changes_124 rfl ?_
      refine z_vV (pc := 125) (c := 8) h (hrb) (by decide) (by first | assumption | rfl) rfl mv_X8_rowsBack ml_X8_312 rfl dX8_changes_125 rfl (Nat.le_of_ble_eq_true rfl) ?_
      refine z_bipush (pc := 128) h dX8_changes_128 (by decide) ?_
      refine z_iret (pc := 130) h rfl dX8_changes_130 ?_
      have hcode : swC P0 P1 (m.2 1) (m.2 40) t u = -2 := by unfold swC; rw [if_pos hc, if_neg (of_decide_eq_false c121)]
      rw [hcode, if_neg (by omega), osA_same]
      exact ⟨rfl, rfl⟩
  refine z_aloadR_n (pc := 0) h dX8_changes_0 rfl ?_
  refine z_iload_n (pc := 1) h dX8_changes_1 rfl ?_
  refine z_pV (pc := 2) (c := 8) h (m8_isTruck (by omega) (by omega)) (by decide) (by first | assumption | rfl) rfl mv_X8_isTruck ml_X8_290 rfl dX8_changes_2 rfl (Nat.le_of_ble_eq_true rfl) ?_
  refine z_ifeqB (pc := 5) (tgt := 52) h dX8_changes_5 (by decide) (fun c5 => ?_) (fun c5 => ?_)
  · exact N (fun z => of_decide_eq_false c5 (by have := z.1; omega)) _ _ _ _
  · have z5 := of_decide_eq_true c5
    refine z_aloadR_n (pc := 8) h dX8_changes_8 rfl ?_
    refine z_iload_n (pc := 9) h dX8_changes_9 rfl ?_
    refine z_pV (pc := 10) (c := 8) h (m8_isTruck (by omega) (by omega)) (by decide) (by first | assumption | rfl) rfl mv_X8_isTruck ml_X8_290 rfl dX8_changes_10 rfl (Nat.le_of_ble_eq_true rfl) ?_
    refine z_ifeqB (pc := 13) (tgt := 52) h dX8_changes_13 (by decide) (fun c13 => ?_) (fun c13 => ?_)
    · exact N (fun z => of_decide_eq_false c13 (by have := z.2.1; omega)) _ _ _ _
    · have z13 := of_decide_eq_true c13
      have k1 := (hwa.2.2.2.2.2.2.1 t (by omega) (by omega)).1
      have k2 := (hwa.2.2.2.2.2.2.1 u (by omega) (by omega)).1
      have hpt := hP.rng hwa (t := t) (by omega) (by omega)
      have hpu := hP.rng hwa (t := u) (by omega) (by omega)
      refine z_iload_n (pc := 16) h dX8_changes_16 rfl ?_
      refine z_iload_n (pc := 17) h dX8_changes_17 rfl ?_
      refine z_icmp_eq (pc := 18) (tgt := 52) h (by omega) (by omega) dX8_changes_18 (by decide) (fun c18 => ?_) (fun c18 => ?_)
      · exact N (fun z => z.2.2.1 c18) _ _ _ _
      · refine z_aloadR_n (pc := 21) h dX8_changes_21 rfl ?_
        refine z_iload_n (pc := 22) h dX8_changes_22 rfl ?_
        refine z_pV (pc := 23) (c := 8) h (m8_isOutV (by omega) k1) (by decide) (by first | assumption | rfl) rfl mv_X8_isOut ml_X8_195 rfl dX8_changes_23 rfl (Nat.le_of_ble_eq_true rfl) ?_
        refine z_aloadR_n (pc := 26) h dX8_changes_26 rfl ?_
        refine z_iload_n (pc := 27) h dX8_changes_27 rfl ?_
        refine z_pV (pc := 28) (c := 8) h (m8_isOutV (by omega) k2) (by decide) (by first | assumption | rfl) rfl mv_X8_isOut ml_X8_195 rfl dX8_changes_28 rfl (Nat.le_of_ble_eq_true rfl) ?_
        refine z_icmp_ne (pc := 31) (tgt := 52) h (by omega) (by omega) dX8_changes_31 (by decide) (fun c31 => ?_) (fun c31 => ?_)
        · exact N (fun z => c31 z.2.2.2.1) _ _ _ _
        · refine z_aloadR_n (pc := 34) h dX8_changes_34 rfl ?_
          refine z_iload_n (pc := 35) h dX8_changes_35 rfl ?_
          refine z_pV (pc := 36) (c := 8) h (m8_doorNow hwa hP (by omega) (by omega)) (by decide) (by first | assumption | rfl) rfl mv_X8_doorNow ml_X8_284 rfl dX8_changes_36 rfl (Nat.le_of_ble_eq_true rfl) ?_
          refine z_iconst (pc := 39) h dX8_changes_39 ?_
          refine z_icmp_eq (pc := 40) (tgt := 52) h (by omega) (by omega) dX8_changes_40 (by decide) (fun c40 => ?_) (fun c40 => ?_)
          · exact N (fun z => z.2.2.2.2.1 c40) _ _ _ _
          · refine z_aloadR_n (pc := 43) h dX8_changes_43 rfl ?_
            refine z_iload_n (pc := 44) h dX8_changes_44 rfl ?_
            refine z_pV (pc := 45) (c := 8) h (m8_doorNow hwa hP (by omega) (by omega)) (by decide) (by first | assumption | rfl) rfl mv_X8_doorNow ml_X8_284 rfl dX8_changes_45 rfl (Nat.le_of_ble_eq_true rfl) ?_
            refine z_iconst (pc := 48) h dX8_changes_48 ?_
            refine z_icmp_ne (pc := 49) (tgt := 54) h (by omega) (by omega) dX8_changes_49 (by decide) (fun c49 => ?_) (fun c49 => ?_)
            · exact W ⟨by omega, by omega, c18, c31, c40, c49⟩ _ _ _ _
            · exact N (fun z => z.2.2.2.2.2 c49) _ _ _ _
