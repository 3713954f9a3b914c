/-! The model: public questions. -/
def YR (T : T3) (m y : zOb) : Prop := SI y ∧ DI (-1) y ∧ y.2 1 = T.2.2 ∧ y.1 35 ≤ 200 ∧ EQM (ra T.2.2) y ∧ (y.1 0 = m.1 0 ∧ y.2 2 = m.2 2 ∧ y.2 3 = m.2 3 ∧ y.2 4 = m.2 4 ∧ y.1 5 = m.1 5)
theorem run_YR {m : zOb} {T : T3} (hT : OKT T) (e1 : m.2 1 = T.2.2) : YR T m (s_run m) ∧ s_cost (s_run m) = rc T.2.2 := by
  have hwa : WFa (m.2 1) := by rw [e1]; exact hT.1
  have hwr : WFr (m.2 1) := by rw [e1]; exact hT.2.1.wfr
  have hrc := rc_eq hwa hwr
  have hra := ra_eq hwa hwr
  obtain ⟨k1, k2, k3, k4⟩ := run_ok hwa hwr
  have hfr := FR_run m
  rw [e1] at hrc hra k3
  exact ⟨⟨k1, k2, k3, k4, hra, (hfr 0 (by omega)).1, (hfr 2 (by omega)).2, (hfr 3 (by omega)).2, (hfr 4 (by omega)).2, (hfr 5 (by omega)).1⟩, hrc⟩
theorem YR.mq {T : T3} {m y : zOb} (h : YR T (oss m 0 0) y) (e1 : m.2 1 = T.2.2) : MQ8 m y := ⟨⟨h.2.2.2.2.2.1, h.2.2.2.2.2.2.1, h.2.2.2.2.2.2.2.1⟩, by rw [h.2.2.1, e1], h.2.2.2.2.2.2.2.2.2, h.2.2.2.2.2.2.2.2.1⟩
theorem YR.ll {T : T3} {m y : zOb} (h : YR T m y) : q_ll y (y.2 1 1) = q_ll (ra T.2.2) (T.2.2 1) := by
  obtain ⟨-, -, h1, -, e, -⟩ := h
  have e1 := e.1
  rw [h1] at e1
  rw [h1]
  exact zfor_congr (fun t b t0 t1 => by rw [(e.2.2.2.2.2.2.2.2.1 t t0 (by rw [← e1]; exact t1)).2.1])
theorem YR.nl {T : T3} {m y : zOb} (h : YR T m y) : q_nl y = q_nl (ra T.2.2) := by
  obtain ⟨-, -, h1, -, e, -⟩ := h
  unfold q_nl
  rw [← e.1]
  exact zfor_congr (fun t b t0 t1 => by rw [(e.2.2.2.2.2.2.2.2.1 t t0 (by rw [← e.1]; exact t1)).2.1])
theorem YR.fx {T : T3} {m y : zOb} (h : YR T m y) : zcnt (fun t => fxd (y.2 27) (y.2 1) t) (y.2 1 1) = zcnt (fun t => fxd ((ra T.2.2).2 27) T.2.2 t) (T.2.2 1) := by
  obtain ⟨-, -, h1, -, e, -⟩ := h
  have e1 := e.1
  rw [h1] at e1
  rw [h1]
  exact zcnt_congr (fun t t0 t1 => by unfold fxd; rw [(e.2.2.2.2.2.2.2.2.1 t t0 (by rw [← e1]; exact t1)).1])
theorem YR.st {T : T3} {m y : zOb} (h : YR T m y) (mu z : Int) : s_stA y mu z = s_stA (ra T.2.2) mu z := by
  obtain ⟨-, -, h1, -, e, -⟩ := h
  unfold s_stA
  rw [e.2.1]
  refine zcnt_congr (fun c c0 c1 => ?_)
  have := e.2.2.2.2.2.2.2.1 c c0 c1
  rw [this.2.1, this.2.2.1, this.2.2.2.1]
theorem m8_lastLeaves {σ : zS} {m : zOb} (hn : 0 ≤ m.2 1 1 ∧ m.2 1 1 ≤ 8) : zCp M_X8_lastLeaves 1 [zR 31] (zo σ 31 m) (zI (q_ll m (m.2 1 1))) := by
  refine zC_of (M := M_X8_lastLeaves) (ls := [some (zR 31), none, none]) (n := 2) (by decide) (fun ad => Nat.le_of_ble_eq_true rfl) rfl (fun x h => ?_)
  refine z_rgo (fun hrg => ?_)
  have L : ∀ (n : Nat) (i acc : Int), 0 ≤ i → i ≤ m.2 1 1 → m.2 1 1 - i < n → zin acc → acc = q_ll m i → zW x (fun rr τ' => rr = some (zI (q_ll m (m.2 1 1))) ∧ τ' = zo σ 31 m) 4 [some (zR 31), some (zI acc), some (zI i)] [] (zo σ 31 m) := by
    intro n
    induction n with
    | zero => intro i acc h1 h2 h3; omega
    | succ n ih =>
      intro i acc h1 h2 h3 a0 ha
      have hz : zin (m.2 28 i) := hrg.2 28 _
      have hS1 : q_ll m (i + 1) = if acc < m.2 28 i then m.2 28 i else acc := by unfold q_ll at ha ⊢; rw [zfor_S _ h1, ← ha]
      refine z_iload_n (pc := 4) h dX8_lastLeaves_4 rfl ?_
      refine z_aloadR_n (pc := 5) h dX8_lastLeaves_5 rfl ?_
      refine z_getA4 (pc := 6) (c := 8) (j := 1) h (by first | assumption | rfl) rfl rfl fl_X8_7 dX8_lastLeaves_6 ?_
      refine z_iconst (pc := 9) h dX8_lastLeaves_9 ?_
      refine z_ialdq (pc := 10) (c := 8) (j := 1) (L := 610) h (zo_s _ _ _) (by first | assumption | rfl) (by decide) rfl (by decide) (by omega) (by omega) dX8_lastLeaves_10 (fun g10 => ?_)
      refine z_icmp_ge (pc := 11) (tgt := 41) h (by omega) (by omega) dX8_lastLeaves_11 (by decide) (fun c11 => ?_) (fun c11 => ?_)
      · refine z_iload_n (pc := 41) h dX8_lastLeaves_41 rfl ?_
        refine z_iret (pc := 42) h rfl dX8_lastLeaves_42 ?_
        refine ⟨congrArg (fun z => some (zI z)) ?_, rfl⟩
        rw [ha, show i = m.2 1 1 by omega]
      · refine z_aloadR_n (pc := 14) h dX8_lastLeaves_14 rfl ?_
        refine z_getA4 (pc := 15) (c := 8) (j := 28) h (by first | assumption | rfl) rfl rfl fl_X8_51 dX8_lastLeaves_15 ?_
        refine z_iload_n (pc := 18) h dX8_lastLeaves_18 rfl ?_
        refine z_ialdq (pc := 19) (c := 8) (j := 28) (L := 8) h (zo_s _ _ _) (by first | assumption | rfl) (by decide) rfl (by decide) (by omega) (by omega) dX8_lastLeaves_19 (fun g19 => ?_)
        refine z_iload_n (pc := 20) h dX8_lastLeaves_20 rfl ?_
        refine z_icmp_le (pc := 21) (tgt := 33) h (by omega) (by omega) dX8_lastLeaves_21 (by decide) (fun c21 => ?_) (fun c21 => ?_)
        · refine z_iload_n (pc := 33) h dX8_lastLeaves_33 rfl ?_
          refine z_ist_1 (pc := 34) h dX8_lastLeaves_34 (by decide) rfl ?_
          refine z_inc_2 (pc := 35) h dX8_lastLeaves_35 (by decide) rfl ?_
          refine z_goto (pc := 38) (tgt := 4) h dX8_lastLeaves_38 (by decide) ?_
          first
          | (rw [if_pos (by omega)] at hS1; exact ih (i + 1) _ (by omega) (by omega) (by omega) hz hS1.symm)
          | (rw [if_neg (by omega)] at hS1; exact ih (i + 1) _ (by omega) (by omega) (by omega) a0 hS1.symm)
        · refine z_aloadR_n (pc := 24) h dX8_lastLeaves_24 rfl ?_
          refine z_getA4 (pc := 25) (c := 8) (j := 28) h (by first | assumption | rfl) rfl rfl fl_X8_51 dX8_lastLeaves_25 ?_
          refine z_iload_n (pc := 28) h dX8_lastLeaves_28 rfl ?_
          refine z_ialdq (pc := 29) (c := 8) (j := 28) (L := 8) h (zo_s _ _ _) (by first | assumption | rfl) (by decide) rfl (by decide) (by omega) (by omega) dX8_lastLeaves_29 (fun g29 => ?_)
          refine z_goto (pc := 30) (tgt := 34) h dX8_lastLeaves_30 (by decide) ?_
          refine z_ist_1 (pc := 34) h dX8_lastLeaves_34 (by decide) rfl ?_
          refine z_inc_2 (pc := 35) h dX8_lastLeaves_35 (by decide) rfl ?_
          refine z_goto (pc := 38) (tgt := 4) h dX8_lastLeaves_38 (by decide) ?_
          first
          | (rw [if_pos (by omega)] at hS1; exact ih (i + 1) _ (by omega) (by omega) (by omega) hz hS1.symm)
          | (rw [if_neg (by omega)] at hS1; exact ih (i + 1) _ (by omega) (by omega) (by omega) a0 hS1.symm)
  refine z_iconst (pc := 0) h dX8_lastLeaves_0 ?_
  refine z_ist_1 (pc := 1) h dX8_lastLeaves_1 (by decide) rfl ?_
  refine z_iconst (pc := 2) h dX8_lastLeaves_2 ?_
  refine z_ist_2 (pc := 3) h dX8_lastLeaves_3 (by decide) rfl ?_
  exact L (m.2 1 1 + 1).toNat 0 (-1) (by omega) (by omega) (by omega) (by omega) rfl
def q_nN (m : zOb) (n : Int) : Int := zfor (fun t s => s + (if m.2 28 t = -1 then 1 else 0)) n 0
theorem m8_truckMany {σ : zS} {m : zOb} {b : Bool} (hn : 0 ≤ m.2 1 1 ∧ m.2 1 1 ≤ 8) : zCp M_X8_truckMany 2 [zR 31, zB b] (zo σ 31 m) (zI (if b = true then zcnt (fun t => fxd (m.2 27) (m.2 1) t) (m.2 1 1) else q_nl m)) := by
  refine zC_of (M := M_X8_truckMany) (ls := [some (zR 31), some (zB b), none, none]) (n := 2) (by decide) (fun ad => Nat.le_of_ble_eq_true rfl) rfl (fun x h => ?_)
  refine z_rgo (fun hrg => ?_)
  have L : ∀ (n : Nat) (i acc : Int), 0 ≤ i → i ≤ m.2 1 1 → m.2 1 1 - i < n → 0 ≤ acc → acc ≤ i → acc = (if b = true then zcnt (fun t => fxd (m.2 27) (m.2 1) t) i else q_nN m i) → zW x (fun rr τ' => rr = some (zI (if b = true then zcnt (fun t => fxd (m.2 27) (m.2 1) t) (m.2 1 1) else q_nl m)) ∧ τ' = zo σ 31 m) 4 [some (zR 31), some (zB b), some (zI acc), some (zI i)] [] (zo σ 31 m) := by
    intro n
    induction n with
    | zero => intro i acc h1 h2 h3; omega
    | succ n ih =>
      intro i acc h1 h2 h3 a0 a1 ha
      have hz : zin (m.2 28 i) := hrg.2 28 _
      have hS1 := zcnt_S (fun t => fxd (m.2 27) (m.2 1) t) h1
      have hS2 : q_nN m (i + 1) = q_nN m i + (if m.2 28 i = -1 then 1 else 0) := zfor_S _ h1 0
      refine z_iload_n (pc := 4) h dX8_truckMany_4 rfl ?_
      refine z_aloadR_n (pc := 5) h dX8_truckMany_5 rfl ?_
      refine z_getA4 (pc := 6) (c := 8) (j := 1) h (by first | assumption | rfl) rfl rfl fl_X8_7 dX8_truckMany_6 ?_
      refine z_iconst (pc := 9) h dX8_truckMany_9 ?_
      refine z_ialdq (pc := 10) (c := 8) (j := 1) (L := 610) h (zo_s _ _ _) (by first | assumption | rfl) (by decide) rfl (by decide) (by omega) (by omega) dX8_truckMany_10 (fun g10 => ?_)
      refine z_icmp_ge (pc := 11) (tgt := 58) h (by omega) (by omega) dX8_truckMany_11 (by decide) (fun c11 => ?_) (fun c11 => ?_)
      · refine z_iload_n (pc := 58) h dX8_truckMany_58 rfl ?_
        refine z_iret (pc := 59) h rfl dX8_truckMany_59 ?_
        refine ⟨congrArg (fun z => some (zI z)) ?_, rfl⟩
        rw [ha, show i = m.2 1 1 by omega]
        rfl
      · refine z_iload_n (pc := 14) h dX8_truckMany_14 rfl ?_
        refine z_iload_n (pc := 15) h dX8_truckMany_15 rfl ?_
        refine z_ifeqB (pc := 16) (tgt := 35) h dX8_truckMany_16 (by decide) (fun c16 => ?_) (fun c16 => ?_)
        · subst c16
          rw [if_neg (by decide)] at ha
          refine z_aloadR_n (pc := 35) h dX8_truckMany_35 rfl ?_
          refine z_getA4 (pc := 36) (c := 8) (j := 28) h (by first | assumption | rfl) rfl rfl fl_X8_51 dX8_truckMany_36 ?_
          refine z_iload_n (pc := 39) h dX8_truckMany_39 rfl ?_
          refine z_ialdq (pc := 40) (c := 8) (j := 28) (L := 8) h (zo_s _ _ _) (by first | assumption | rfl) (by decide) rfl (by decide) (by omega) (by omega) dX8_truckMany_40 (fun g40 => ?_)
          refine z_iconst (pc := 41) h dX8_truckMany_41 ?_
          refine z_icmp_ne (pc := 42) (tgt := 49) h (by omega) (by omega) dX8_truckMany_42 (by decide) (fun c42 => ?_) (fun c42 => ?_)
          · refine z_iconst (pc := 49) h dX8_truckMany_49 ?_
            refine z_iadd (pc := 50) h dX8_truckMany_50 ?_
            refine z_ist_2 (pc := 51) h dX8_truckMany_51 (by decide) rfl ?_
            refine z_inc_3 (pc := 52) h dX8_truckMany_52 (by decide) rfl ?_
            refine z_goto (pc := 55) (tgt := 4) h dX8_truckMany_55 (by decide) ?_
            first
            | (rw [if_pos c24, ← ha] at hS1; exact ih (i + 1) _ (by omega) (by omega) (by omega) (by omega) (by omega) (by rw [if_pos rfl]; exact hS1.symm))
            | (rw [c24, if_neg (by decide), ← ha] at hS1; exact ih (i + 1) _ (by omega) (by omega) (by omega) (by omega) (by omega) (by rw [if_pos rfl]; rw [hS1]; omega))
            | (rw [if_pos c42, ← ha] at hS2; exact ih (i + 1) _ (by omega) (by omega) (by omega) (by omega) (by omega) (by rw [if_neg (by decide)]; exact hS2.symm))
            | (rw [if_neg c42, ← ha] at hS2; exact ih (i + 1) _ (by omega) (by omega) (by omega) (by omega) (by omega) (by rw [if_neg (by decide)]; exact hS2.symm))
          · refine z_iconst (pc := 45) h dX8_truckMany_45 ?_
            refine z_goto (pc := 46) (tgt := 50) h dX8_truckMany_46 (by decide) ?_
            refine z_iadd (pc := 50) h dX8_truckMany_50 ?_
            refine z_ist_2 (pc := 51) h dX8_truckMany_51 (by decide) rfl ?_
            refine z_inc_3 (pc := 52) h dX8_truckMany_52 (by decide) rfl ?_
            refine z_goto (pc := 55) (tgt := 4) h dX8_truckMany_55 (by decide) ?_
            first
            | (rw [if_pos c24, ← ha] at hS1; exact ih (i + 1) _ (by omega) (by omega) (by omega) (by omega) (by omega) (by rw [if_pos rfl]; exact hS1.symm))
            | (rw [c24, if_neg (by decide), ← ha] at hS1; exact ih (i + 1) _ (by omega) (by omega) (by omega) (by omega) (by omega) (by rw [if_pos rfl]; rw [hS1]; omega))
            | (rw [if_pos c42, ← ha] at hS2; exact ih (i + 1) _ (by omega) (by omega) (by omega) (by omega) (by omega) (by rw [if_neg (by decide)]; exact hS2.symm))
            | (rw [if_neg c42, ← ha] at hS2; exact ih (i + 1) _ (by omega) (by omega) (by omega) (by omega) (by omega) (by rw [if_neg (by decide)]; exact hS2.symm))
        · subst c16
          rw [if_pos rfl] at ha
          refine z_aloadR_n (pc := 19) h dX8_truckMany_19 rfl ?_
          refine z_iload_n (pc := 20) h dX8_truckMany_20 rfl ?_
          refine z_pV (pc := 21) (c := 8) h (m8_isFixed (by omega)) (by decide) (by first | assumption | rfl) rfl mv_X8_isFixed ml_X8_278 rfl dX8_truckMany_21 rfl (Nat.le_of_ble_eq_true rfl) ?_
          refine z_ifeqB (pc := 24) (tgt := 31) h dX8_truckMany_24 (by decide) (fun c24 => ?_) (fun c24 => ?_)
          · refine z_iconst (pc := 31) h dX8_truckMany_31 ?_
            refine z_goto (pc := 32) (tgt := 50) h dX8_truckMany_32 (by decide) ?_
            refine z_iadd (pc := 50) h dX8_truckMany_50 ?_
            refine z_ist_2 (pc := 51) h dX8_truckMany_51 (by decide) rfl ?_
            refine z_inc_3 (pc := 52) h dX8_truckMany_52 (by decide) rfl ?_
            refine z_goto (pc := 55) (tgt := 4) h dX8_truckMany_55 (by decide) ?_
            first
            | (rw [if_pos c24, ← ha] at hS1; exact ih (i + 1) _ (by omega) (by omega) (by omega) (by omega) (by omega) (by rw [if_pos rfl]; exact hS1.symm))
            | (rw [c24, if_neg (by decide), ← ha] at hS1; exact ih (i + 1) _ (by omega) (by omega) (by omega) (by omega) (by omega) (by rw [if_pos rfl]; rw [hS1]; omega))
            | (rw [if_pos c42, ← ha] at hS2; exact ih (i + 1) _ (by omega) (by omega) (by omega) (by omega) (by omega) (by rw [if_neg (by decide)]; exact hS2.symm))
            | (rw [if_neg c42, ← ha] at hS2; exact ih (i + 1) _ (by omega) (by omega) (by omega) (by omega) (by omega) (by rw [if_neg (by decide)]; exact hS2.symm))
          · refine z_iconst (pc := 27) h dX8_truckMany_27 ?_
            refine z_goto (pc := 28) (tgt := 50) h dX8_truckMany_28 (by decide) ?_
            refine z_iadd (pc := 50) h dX8_truckMany_50 ?_
            refine z_ist_2 (pc := 51) h dX8_truckMany_51 (by decide) rfl ?_
            refine z_inc_3 (pc := 52) h dX8_truckMany_52 (by decide) rfl ?_
            refine z_goto (pc := 55) (tgt := 4) h dX8_truckMany_55 (by decide) ?_
            first
            | (rw [if_pos c24, ← ha] at hS1; exact ih (i + 1) _ (by omega) (by omega) (by omega) (by omega) (by omega) (by rw [if_pos rfl]; exact hS1.symm))
            | (rw [c24, if_neg (by decide), ← ha] at hS1; exact ih (i + 1) _ (by omega) (by omega) (by omega) (by omega) (by omega) (by rw [if_pos rfl]; rw [hS1]; omega))
            | (rw [if_pos c42, ← ha] at hS2; exact ih (i + 1) _ (by omega) (by omega) (by omega) (by omega) (by omega) (by rw [if_neg (by decide)]; exact hS2.symm))
            | (rw [if_neg c42, ← ha] at hS2; exact ih (i + 1) _ (by omega) (by omega) (by omega) (by omega) (by omega) (by rw [if_neg (by decide)]; exact hS2.symm))
  refine z_iconst (pc := 0) h dX8_truckMany_0 ?_
  refine z_ist_2 (pc := 1) h dX8_truckMany_1 (by decide) rfl ?_
  refine z_iconst (pc := 2) h dX8_truckMany_2 ?_
  refine z_ist_3 (pc := 3) h dX8_truckMany_3 (by decide) rfl ?_
  exact L (m.2 1 1 + 1).toNat 0 0 (by omega) (by omega) (by omega) (by omega) (by omega) (by split <;> rfl)
theorem m8_truckManyI {σ : zS} {m : zOb} {v : Int} (hv : v = 0 ∨ v = 1) (hn : 0 ≤ m.2 1 1 ∧ m.2 1 1 ≤ 8) : zCp M_X8_truckMany 2 [zR 31, zI v] (zo σ 31 m) (zI (if v = 1 then zcnt (fun t => fxd (m.2 27) (m.2 1) t) (m.2 1 1) else q_nl m)) := by
  rcases hv with rfl | rfl
  · exact m8_truckMany (b := false) hn
  · exact m8_truckMany (b := true) hn
theorem m8_count {σ : zS} {m : zOb} {T : T3} {w : Int} (hT : OKT T) (e1 : m.2 1 = T.2.2) (hw : zin w) : zC M_X8_count 6 [zR 31, zI w] (zo σ 31 m) (fun r τ' => r = some (zI (cnQ T (m.1 5) (T.2.2 119) w)) ∧ ∃ m', τ' = zo σ 31 m' ∧ MQ8 m m') := by
  have hY := run_YR (m := oss m 0 0) hT e1
  have hwa : WFa ((oss m 0 0).2 1) := by show WFa (m.2 1); rw [e1]; exact hT.1
  have hwr : WFr ((oss m 0 0).2 1) := by show WFr (m.2 1); rw [e1]; exact hT.2.1.wfr
  have h5 : ∀ y, YR T (oss m 0 0) y → y.1 5 = m.1 5 := fun y h => h.2.2.2.2.2.2.2.2.2
  refine zC_of (M := M_X8_count) (ls := [some (zR 31), some (zI w), none]) (n := 1) (by decide) (fun ad => Nat.le_of_ble_eq_true rfl) rfl (fun x h => ?_)
  refine z_aloadR_n (pc := 0) h dX8_count_0 rfl ?_
  refine z_iconst (pc := 1) h dX8_count_1 ?_
  refine z_putIo (pc := 2) (c := 8) (j := 0) h (by first | assumption | rfl) rfl rfl fl_X8_84 rfl (tyX8_ok 0 (by decide)) dX8_count_2 (by omega) ?_
  refine z_aloadR_n (pc := 5) h dX8_count_5 rfl ?_
  refine z_rV (pc := 6) (c := 8) h (m8_runs hwa hwr) (by decide) (by first | assumption | rfl) rfl mv_X8_runs ml_X8_272 rfl dX8_count_6 rfl (Nat.le_of_ble_eq_true rfl) ?_
  rw [hY.2]
  have hYY := hY.1
  clear hY hwa hwr
  generalize s_run (oss m 0 0) = y at hYY ⊢
  have hM := hYY.mq e1
  have hll := hYY.ll
  have hnl := hYY.nl
  have hfx := hYY.fx
  have hy5 := h5 y hYY
  obtain ⟨hS, hD, k3, k4, hE, -⟩ := hYY
  have hcst := EQM_cost hE
  have hn8 : 0 ≤ y.2 1 1 ∧ y.2 1 1 ≤ 8 := hS.1.2.1
  have hn40 : 0 ≤ y.1 20 ∧ y.1 20 ≤ 40 := hS.2.2.2.1
  have hlv : ∀ t, 0 ≤ t → t < y.2 1 1 → -1 ≤ y.2 28 t ∧ y.2 28 t ≤ 200 := fun t t0 t1 => by have := (hD.2.2.2.2.2.1 t t0 t1).2.2.1; omega
  have hdu : ∀ t, 0 ≤ t → t < y.2 1 1 → y.2 1 (17 + 6 * t + 0) = 1 → 0 ≤ y.2 1 (17 + 6 * t + 3) ∧ y.2 1 (17 + 6 * t + 3) ≤ 199 := fun t t0 t1 hk => ((hS.1.2.2.2.2.2.2.1 t t0 t1).2.2.1 hk).2.1
  refine z_ist_2 (pc := 9) h dX8_count_9 (by decide) rfl ?_
  refine z_iload_n (pc := 10) h dX8_count_10 rfl ?_
  have hsw : (w < 0 ∨ 18 < w) ∨ w = 0 ∨ w = 1 ∨ w = 2 ∨ w = 3 ∨ w = 4 ∨ w = 5 ∨ w = 6 ∨ w = 7 ∨ w = 8 ∨ w = 9 ∨ w = 10 ∨ w = 11 ∨ w = 12 ∨ w = 13 ∨ w = 14 ∨ w = 15 ∨ w = 16 ∨ w = 17 ∨ w = 18 := by omega
  rcases hsw with hsw | rfl | rfl | rfl | rfl | rfl | rfl | rfl | rfl | rfl | rfl | rfl | rfl | rfl | rfl | rfl | rfl | rfl | rfl | rfl
  · refine z_tswOut (pc := 11) (tgt := 211) h dX8_count_11 (by omega) hsw (by decide) ?_
    refine z_iconst (pc := 211) h dX8_count_211 ?_
    refine z_iret (pc := 212) h rfl dX8_count_212 ?_
    rw [cnQ_o hsw]
    exact ⟨rfl, _, rfl, hM⟩
  · refine z_tswIn (pc := 11) (tgt := 100) h dX8_count_11 (by omega) (by decide) (by decide) rfl (by decide) ?_
    refine z_aloadR_n (pc := 100) h dX8_count_100 rfl ?_
    refine z_getA4 (pc := 101) (c := 8) (j := 1) h (by first | assumption | rfl) rfl rfl fl_X8_7 dX8_count_101 ?_
    refine z_iconst (pc := 104) h dX8_count_104 ?_
    refine z_ialdq (pc := 105) (c := 8) (j := 1) (L := 610) h (zo_s _ _ _) (by first | assumption | rfl) (by decide) rfl (by decide) (by omega) (by omega) dX8_count_105 (fun g105 => ?_)
    try simp only [osa_1, osa_2, oss_1, oss_2, osA_1, osA_2, zup_s, reduceIte, Nat.reduceEqDiff] at g105 ⊢
    refine z_iret (pc := 106) h rfl dX8_count_106 ?_
    exact ⟨congrArg (fun z => some (zI z)) (show y.2 1 0 = T.2.2 0 by rw [k3]), _, rfl, hM⟩
  · refine z_tswIn (pc := 11) (tgt := 107) h dX8_count_11 (by omega) (by decide) (by decide) rfl (by decide) ?_
    refine z_aloadR_n (pc := 107) h dX8_count_107 rfl ?_
    refine z_getA4 (pc := 108) (c := 8) (j := 1) h (by first | assumption | rfl) rfl rfl fl_X8_7 dX8_count_108 ?_
    refine z_iconst (pc := 111) h dX8_count_111 ?_
    refine z_ialdq (pc := 112) (c := 8) (j := 1) (L := 610) h (zo_s _ _ _) (by first | assumption | rfl) (by decide) rfl (by decide) (by omega) (by omega) dX8_count_112 (fun g112 => ?_)
    try simp only [osa_1, osa_2, oss_1, oss_2, osA_1, osA_2, zup_s, reduceIte, Nat.reduceEqDiff] at g112 ⊢
    refine z_iret (pc := 113) h rfl dX8_count_113 ?_
    exact ⟨congrArg (fun z => some (zI z)) (show y.2 1 1 = T.2.2 1 by rw [k3]), _, rfl, hM⟩
  · refine z_tswIn (pc := 11) (tgt := 114) h dX8_count_11 (by omega) (by decide) (by decide) rfl (by decide) ?_
    refine z_aloadR_n (pc := 114) h dX8_count_114 rfl ?_
    refine z_getIq (pc := 115) (c := 8) (j := 20) h (zo_s _ _ _) (by first | assumption | rfl) rfl rfl fl_X8_202 dX8_count_115 (fun g115 => ?_)
    try simp only [osa_1, osa_2, oss_1, oss_2, osA_1, osA_2, zup_s, reduceIte, Nat.reduceEqDiff] at g115 ⊢
    refine z_iret (pc := 118) h rfl dX8_count_118 ?_
    exact ⟨congrArg (fun z => some (zI z)) (show y.1 20 = (ra T.2.2).1 20 from hE.2.1), _, rfl, hM⟩
  · refine z_tswIn (pc := 11) (tgt := 119) h dX8_count_11 (by omega) (by decide) (by decide) rfl (by decide) ?_
    refine z_aloadR_n (pc := 119) h dX8_count_119 rfl ?_
    refine z_getA4 (pc := 120) (c := 8) (j := 1) h (by first | assumption | rfl) rfl rfl fl_X8_7 dX8_count_120 ?_
    refine z_iconst (pc := 123) h dX8_count_123 ?_
    refine z_ialdq (pc := 124) (c := 8) (j := 1) (L := 610) h (zo_s _ _ _) (by first | assumption | rfl) (by decide) rfl (by decide) (by omega) (by omega) dX8_count_124 (fun g124 => ?_)
    try simp only [osa_1, osa_2, oss_1, oss_2, osA_1, osA_2, zup_s, reduceIte, Nat.reduceEqDiff] at g124 ⊢
    refine z_iret (pc := 125) h rfl dX8_count_125 ?_
    exact ⟨congrArg (fun z => some (zI z)) (show y.2 1 2 = T.2.2 2 by rw [k3]), _, rfl, hM⟩
  · refine z_tswIn (pc := 11) (tgt := 126) h dX8_count_11 (by omega) (by decide) (by decide) rfl (by decide) ?_
    refine z_aloadR_n (pc := 126) h dX8_count_126 rfl ?_
    refine z_getA4 (pc := 127) (c := 8) (j := 1) h (by first | assumption | rfl) rfl rfl fl_X8_7 dX8_count_127 ?_
    refine z_iconst (pc := 130) h dX8_count_130 ?_
    refine z_ialdq (pc := 131) (c := 8) (j := 1) (L := 610) h (zo_s _ _ _) (by first | assumption | rfl) (by decide) rfl (by decide) (by omega) (by omega) dX8_count_131 (fun g131 => ?_)
    try simp only [osa_1, osa_2, oss_1, oss_2, osA_1, osA_2, zup_s, reduceIte, Nat.reduceEqDiff] at g131 ⊢
    refine z_iret (pc := 132) h rfl dX8_count_132 ?_
    exact ⟨congrArg (fun z => some (zI z)) (show y.2 1 3 = T.2.2 3 by rw [k3]), _, rfl, hM⟩
  · refine z_tswIn (pc := 11) (tgt := 133) h dX8_count_11 (by omega) (by decide) (by decide) rfl (by decide) ?_
    refine z_aloadR_n (pc := 133) h dX8_count_133 rfl ?_
    refine z_getA4 (pc := 134) (c := 8) (j := 1) h (by first | assumption | rfl) rfl rfl fl_X8_7 dX8_count_134 ?_
    refine z_iconst (pc := 137) h dX8_count_137 ?_
    refine z_ialdq (pc := 138) (c := 8) (j := 1) (L := 610) h (zo_s _ _ _) (by first | assumption | rfl) (by decide) rfl (by decide) (by omega) (by omega) dX8_count_138 (fun g138 => ?_)
    try simp only [osa_1, osa_2, oss_1, oss_2, osA_1, osA_2, zup_s, reduceIte, Nat.reduceEqDiff] at g138 ⊢
    refine z_iret (pc := 139) h rfl dX8_count_139 ?_
    exact ⟨congrArg (fun z => some (zI z)) (show y.2 1 4 = T.2.2 4 by rw [k3]), _, rfl, hM⟩
  · refine z_tswIn (pc := 11) (tgt := 140) h dX8_count_11 (by omega) (by decide) (by decide) rfl (by decide) ?_
    refine z_iload_n (pc := 140) h dX8_count_140 rfl ?_
    refine z_iret (pc := 141) h rfl dX8_count_141 ?_
    exact ⟨rfl, _, rfl, hM⟩
  · refine z_tswIn (pc := 11) (tgt := 142) h dX8_count_11 (by omega) (by decide) (by decide) rfl (by decide) ?_
    refine z_aloadR_n (pc := 142) h dX8_count_142 rfl ?_
    refine z_pV (pc := 143) (c := 8) h (m8_onMany hn40) (by decide) (by first | assumption | rfl) rfl mv_X8_onMany ml_X8_269 rfl dX8_count_143 rfl (Nat.le_of_ble_eq_true rfl) ?_
    refine z_iret (pc := 146) h rfl dX8_count_146 ?_
    exact ⟨congrArg (fun z => some (zI z)) (show s_on y = s_on (ra T.2.2) from hcst.2.2.2.2), _, rfl, hM⟩
  · refine z_tswIn (pc := 11) (tgt := 147) h dX8_count_11 (by omega) (by decide) (by decide) rfl (by decide) ?_
    refine z_aloadR_n (pc := 147) h dX8_count_147 rfl ?_
    refine z_pV (pc := 148) (c := 8) h (m8_lateCost hn8 hlv hdu) (by decide) (by first | assumption | rfl) rfl mv_X8_lateCost ml_X8_260 rfl dX8_count_148 rfl (Nat.le_of_ble_eq_true rfl) ?_
    refine z_iret (pc := 151) h rfl dX8_count_151 ?_
    exact ⟨congrArg (fun z => some (zI z)) (show s_lc y = s_lc (ra T.2.2) from hcst.2.1), _, rfl, hM⟩
  · refine z_tswIn (pc := 11) (tgt := 152) h dX8_count_11 (by omega) (by decide) (by decide) rfl (by decide) ?_
    refine z_aloadR_n (pc := 152) h dX8_count_152 rfl ?_
    refine z_pV (pc := 153) (c := 8) h (m8_farSum hn40) (by decide) (by first | assumption | rfl) rfl mv_X8_farSum ml_X8_263 rfl dX8_count_153 rfl (Nat.le_of_ble_eq_true rfl) ?_
    refine z_iret (pc := 156) h rfl dX8_count_156 ?_
    exact ⟨congrArg (fun z => some (zI z)) (show s_far y = s_far (ra T.2.2) from hcst.2.2.1), _, rfl, hM⟩
  · refine z_tswIn (pc := 11) (tgt := 157) h dX8_count_11 (by omega) (by decide) (by decide) rfl (by decide) ?_
    refine z_aloadR_n (pc := 157) h dX8_count_157 rfl ?_
    refine z_pV (pc := 158) (c := 8) h (m8_stagedSum hn40) (by decide) (by first | assumption | rfl) rfl mv_X8_stagedSum ml_X8_266 rfl dX8_count_158 rfl (Nat.le_of_ble_eq_true rfl) ?_
    refine z_iret (pc := 161) h rfl dX8_count_161 ?_
    exact ⟨congrArg (fun z => some (zI z)) (show s_ss y = s_ss (ra T.2.2) from hcst.2.2.2.1), _, rfl, hM⟩
  · refine z_tswIn (pc := 11) (tgt := 162) h dX8_count_11 (by omega) (by decide) (by decide) rfl (by decide) ?_
    refine z_aloadR_n (pc := 162) h dX8_count_162 rfl ?_
    refine z_getIq (pc := 163) (c := 8) (j := 37) h (zo_s _ _ _) (by first | assumption | rfl) rfl rfl fl_X8_242 dX8_count_163 (fun g163 => ?_)
    try simp only [osa_1, osa_2, oss_1, oss_2, osA_1, osA_2, zup_s, reduceIte, Nat.reduceEqDiff] at g163 ⊢
    refine z_iret (pc := 166) h rfl dX8_count_166 ?_
    exact ⟨congrArg (fun z => some (zI z)) (show y.1 37 = (ra T.2.2).1 37 from hE.2.2.2.2.1), _, rfl, hM⟩
  · refine z_tswIn (pc := 11) (tgt := 167) h dX8_count_11 (by omega) (by decide) (by decide) rfl (by decide) ?_
    refine z_aloadR_n (pc := 167) h dX8_count_167 rfl ?_
    refine z_getIq (pc := 168) (c := 8) (j := 38) h (zo_s _ _ _) (by first | assumption | rfl) rfl rfl fl_X8_245 dX8_count_168 (fun g168 => ?_)
    try simp only [osa_1, osa_2, oss_1, oss_2, osA_1, osA_2, zup_s, reduceIte, Nat.reduceEqDiff] at g168 ⊢
    refine z_iret (pc := 171) h rfl dX8_count_171 ?_
    exact ⟨congrArg (fun z => some (zI z)) (show y.1 38 = (ra T.2.2).1 38 from hE.2.2.2.2.2.1), _, rfl, hM⟩
  · refine z_tswIn (pc := 11) (tgt := 172) h dX8_count_11 (by omega) (by decide) (by decide) rfl (by decide) ?_
    refine z_aloadR_n (pc := 172) h dX8_count_172 rfl ?_
    refine z_pV (pc := 173) (c := 8) h (m8_lastLeaves hn8) (by decide) (by first | assumption | rfl) rfl mv_X8_lastLeaves ml_X8_346 rfl dX8_count_173 rfl (Nat.le_of_ble_eq_true rfl) ?_
    refine z_iret (pc := 176) h rfl dX8_count_176 ?_
    exact ⟨congrArg (fun z => some (zI z)) (show q_ll y (y.2 1 1) = q_ll (ra T.2.2) (T.2.2 1) from hll), _, rfl, hM⟩
  · refine z_tswIn (pc := 11) (tgt := 177) h dX8_count_11 (by omega) (by decide) (by decide) rfl (by decide) ?_
    refine z_aloadR_n (pc := 177) h dX8_count_177 rfl ?_
    refine z_iload_n (pc := 178) h dX8_count_178 rfl ?_
    refine z_bipush (pc := 179) h dX8_count_179 (by decide) ?_
    refine z_icmp_ne (pc := 181) (tgt := 188) h (by omega) (by omega) dX8_count_181 (by decide) (fun c181 => ?_) (fun c181 => ?_)
    · refine z_iconst (pc := 188) h dX8_count_188 ?_
      refine z_pV (pc := 189) (c := 8) h (m8_truckManyI (by omega) hn8) (by decide) (by first | assumption | rfl) rfl mv_X8_truckMany ml_X8_349 rfl dX8_count_189 rfl (Nat.le_of_ble_eq_true rfl) ?_
      refine z_iret (pc := 192) h rfl dX8_count_192 ?_
      first
      | omega
      | exact ⟨congrArg (fun z => some (zI z)) (show q_nl y = q_nl (ra T.2.2) from hnl), _, rfl, hM⟩
      | exact ⟨congrArg (fun z => some (zI z)) (show zcnt (fun t => fxd (y.2 27) (y.2 1) t) (y.2 1 1) = zcnt (fun t => fxd ((ra T.2.2).2 27) T.2.2 t) (T.2.2 1) from hfx), _, rfl, hM⟩
    · refine z_iconst (pc := 184) h dX8_count_184 ?_
      refine z_goto (pc := 185) (tgt := 189) h dX8_count_185 (by decide) ?_
      refine z_pV (pc := 189) (c := 8) h (m8_truckManyI (by omega) hn8) (by decide) (by first | assumption | rfl) rfl mv_X8_truckMany ml_X8_349 rfl dX8_count_189 rfl (Nat.le_of_ble_eq_true rfl) ?_
      refine z_iret (pc := 192) h rfl dX8_count_192 ?_
      first
      | omega
      | exact ⟨congrArg (fun z => some (zI z)) (show q_nl y = q_nl (ra T.2.2) from hnl), _, rfl, hM⟩
      | exact ⟨congrArg (fun z => some (zI z)) (show zcnt (fun t => fxd (y.2 27) (y.2 1) t) (y.2 1 1) = zcnt (fun t => fxd ((ra T.2.2).2 27) T.2.2 t) (T.2.2 1) from hfx), _, rfl, hM⟩
  · refine z_tswIn (pc := 11) (tgt := 177) h dX8_count_11 (by omega) (by decide) (by decide) rfl (by decide) ?_
    refine z_aloadR_n (pc := 177) h dX8_count_177 rfl ?_
    refine z_iload_n (pc := 178) h dX8_count_178 rfl ?_
    refine z_bipush (pc := 179) h dX8_count_179 (by decide) ?_
    refine z_icmp_ne (pc := 181) (tgt := 188) h (by omega) (by omega) dX8_count_181 (by decide) (fun c181 => ?_) (fun c181 => ?_)
    · refine z_iconst (pc := 188) h dX8_count_188 ?_
      refine z_pV (pc := 189) (c := 8) h (m8_truckManyI (by omega) hn8) (by decide) (by first | assumption | rfl) rfl mv_X8_truckMany ml_X8_349 rfl dX8_count_189 rfl (Nat.le_of_ble_eq_true rfl) ?_
      refine z_iret (pc := 192) h rfl dX8_count_192 ?_
      first
      | omega
      | exact ⟨congrArg (fun z => some (zI z)) (show q_nl y = q_nl (ra T.2.2) from hnl), _, rfl, hM⟩
      | exact ⟨congrArg (fun z => some (zI z)) (show zcnt (fun t => fxd (y.2 27) (y.2 1) t) (y.2 1 1) = zcnt (fun t => fxd ((ra T.2.2).2 27) T.2.2 t) (T.2.2 1) from hfx), _, rfl, hM⟩
    · refine z_iconst (pc := 184) h dX8_count_184 ?_
      refine z_goto (pc := 185) (tgt := 189) h dX8_count_185 (by decide) ?_
      refine z_pV (pc := 189) (c := 8) h (m8_truckManyI (by omega) hn8) (by decide) (by first | assumption | rfl) rfl mv_X8_truckMany ml_X8_349 rfl dX8_count_189 rfl (Nat.le_of_ble_eq_true rfl) ?_
      refine z_iret (pc := 192) h rfl dX8_count_192 ?_
      first
      | omega
      | exact ⟨congrArg (fun z => some (zI z)) (show q_nl y = q_nl (ra T.2.2) from hnl), _, rfl, hM⟩
      | exact ⟨congrArg (fun z => some (zI z)) (show zcnt (fun t => fxd (y.2 27) (y.2 1) t) (y.2 1 1) = zcnt (fun t => fxd ((ra T.2.2).2 27) T.2.2 t) (T.2.2 1) from hfx), _, rfl, hM⟩
  · refine z_tswIn (pc := 11) (tgt := 193) h dX8_count_11 (by omega) (by decide) (by decide) rfl (by decide) ?_
    refine z_aloadR_n (pc := 193) h dX8_count_193 rfl ?_
    refine z_getIq (pc := 194) (c := 8) (j := 5) h (zo_s _ _ _) (by first | assumption | rfl) rfl rfl fl_X8_181 dX8_count_194 (fun g194 => ?_)
    try simp only [osa_1, osa_2, oss_1, oss_2, osA_1, osA_2, zup_s, reduceIte, Nat.reduceEqDiff] at g194 ⊢
    refine z_iret (pc := 197) h rfl dX8_count_197 ?_
    exact ⟨congrArg (fun z => some (zI z)) (show y.1 5 = m.1 5 from hy5), _, rfl, hM⟩
  · refine z_tswIn (pc := 11) (tgt := 198) h dX8_count_11 (by omega) (by decide) (by decide) rfl (by decide) ?_
    refine z_aloadR_n (pc := 198) h dX8_count_198 rfl ?_
    refine z_getA4 (pc := 199) (c := 8) (j := 1) h (by first | assumption | rfl) rfl rfl fl_X8_7 dX8_count_199 ?_
    refine z_bipush (pc := 202) h dX8_count_202 (by decide) ?_
    refine z_ialdq (pc := 204) (c := 8) (j := 1) (L := 610) h (zo_s _ _ _) (by first | assumption | rfl) (by decide) rfl (by decide) (by omega) (by omega) dX8_count_204 (fun g204 => ?_)
    try simp only [osa_1, osa_2, oss_1, oss_2, osA_1, osA_2, zup_s, reduceIte, Nat.reduceEqDiff] at g204 ⊢
    refine z_iret (pc := 205) h rfl dX8_count_205 ?_
    exact ⟨congrArg (fun z => some (zI z)) (show y.2 1 119 = T.2.2 119 by rw [k3]), _, rfl, hM⟩
  · refine z_tswIn (pc := 11) (tgt := 206) h dX8_count_11 (by omega) (by decide) (by decide) rfl (by decide) ?_
    refine z_aloadR_n (pc := 206) h dX8_count_206 rfl ?_
    refine z_getIq (pc := 207) (c := 8) (j := 39) h (zo_s _ _ _) (by first | assumption | rfl) rfl rfl fl_X8_224 dX8_count_207 (fun g207 => ?_)
    try simp only [osa_1, osa_2, oss_1, oss_2, osA_1, osA_2, zup_s, reduceIte, Nat.reduceEqDiff] at g207 ⊢
    refine z_iret (pc := 210) h rfl dX8_count_210 ?_
    exact ⟨congrArg (fun z => some (zI z)) (show y.1 39 = (ra T.2.2).1 39 from hE.2.2.2.2.2.2.1), _, rfl, hM⟩
