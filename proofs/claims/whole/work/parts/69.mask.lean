/-! The model: undo, would, delayed, roomy, least, moves. -/
theorem m8_undo {σ : zS} {m : zOb} (hu : 0 ≤ m.1 5 ∧ m.1 5 ≤ 8) : zC M_X8_undo 1 [zR 31] (zo σ 31 m) (fun r τ' => r = some (zI (m.1 5 - 1)) ∧ ∃ m', τ' = zo σ 31 m' ∧ MP m m' ∧ m'.2 4 = m.2 4 ∧ (if m.1 5 = 0 then m'.2 1 = m.2 1 ∧ m'.1 5 = m.1 5 else m'.2 1 = cpf (m.2 1) (fun k => m.2 4 (119 * (m.1 5 - 1) + k)) 0 119 ∧ m'.1 5 = m.1 5 - 1)) := by
  refine zC_of (M := M_X8_undo) (ls := [some (zR 31), none]) (n := 1) (by decide) (fun ad => Nat.le_of_ble_eq_true rfl) rfl (fun x h => ?_)
  generalize hK : (fun (r : Option Value) (τ' : zS) => r = some (zI (m.1 5 - 1)) ∧ ∃ m', τ' = zo σ 31 m' ∧ MP m m' ∧ m'.2 4 = m.2 4 ∧ (if m.1 5 = 0 then m'.2 1 = m.2 1 ∧ m'.1 5 = m.1 5 else m'.2 1 = cpf (m.2 1) (fun k => m.2 4 (119 * (m.1 5 - 1) + k)) 0 119 ∧ m'.1 5 = m.1 5 - 1)) = K
  have L : m.1 5 ≠ 0 → ∀ (n : Nat) (i : Int) (mm : zOb), 0 ≤ i → i ≤ 119 → 119 - i < n → mm.1 0 = 0 → mm.2 2 = m.2 2 → mm.2 3 = m.2 3 → mm.2 4 = m.2 4 → mm.1 5 = m.1 5 - 1 → mm.2 1 = cpf (m.2 1) (fun k => m.2 4 (119 * (m.1 5 - 1) + k)) 0 i → zW x K 26 [some (zR 31), some (zI i)] [] (zo σ 31 mm) := by
    intro h5 n
    induction n with
    | zero => intro i mm h1 h2 h3; omega
    | succ n ih =>
      intro i mm h1 h2 h3 r0 r2 r3 r4 r5 r1
      refine z_rgo (fun hrg => ?_)
      have hz : zin (mm.2 4 (119 * mm.1 5 + i)) := hrg.2 4 _
      refine z_iload_n (pc := 26) h dX8_undo_26 rfl ?_
      refine z_bipush (pc := 27) h dX8_undo_27 (by decide) ?_
      refine z_icmp_ge (pc := 29) (tgt := 58) h (by omega) (by omega) dX8_undo_29 (by decide) (fun c29 => ?_) (fun c29 => ?_)
      · refine z_aloadR_n (pc := 58) h dX8_undo_58 rfl ?_
        refine z_getIq (pc := 59) (c := 8) (j := 5) h (zo_s _ _ _) (by first | assumption | rfl) rfl rfl fl_X8_181 dX8_undo_59 (fun g59 => ?_)
        refine z_iret (pc := 62) h rfl dX8_undo_62 ?_
        rw [← hK]
        refine ⟨by rw [r5], mm, rfl, ⟨r0, r2, r3⟩, r4, ?_⟩
        rw [if_neg h5]
        refine ⟨?_, r5⟩
        rw [r1, show i = 119 by omega]
      · refine z_aloadR_n (pc := 32) h dX8_undo_32 rfl ?_
        refine z_getA4 (pc := 33) (c := 8) (j := 1) h (by first | assumption | rfl) rfl rfl fl_X8_7 dX8_undo_33 ?_
        refine z_iload_n (pc := 36) h dX8_undo_36 rfl ?_
        refine z_aloadR_n (pc := 37) h dX8_undo_37 rfl ?_
        refine z_getA4 (pc := 38) (c := 8) (j := 4) h (by first | assumption | rfl) rfl rfl fl_X8_21 dX8_undo_38 ?_
        refine z_bipush (pc := 41) h dX8_undo_41 (by decide) ?_
        refine z_aloadR_n (pc := 43) h dX8_undo_43 rfl ?_
        refine z_getIq (pc := 44) (c := 8) (j := 5) h (zo_s _ _ _) (by first | assumption | rfl) rfl rfl fl_X8_181 dX8_undo_44 (fun g44 => ?_)
        refine z_imul (pc := 47) h dX8_undo_47 ?_
        refine z_iload_n (pc := 48) h dX8_undo_48 rfl ?_
        refine z_iadd (pc := 49) h dX8_undo_49 ?_
        refine z_ialdq (pc := 50) (c := 8) (j := 4) (L := 952) h (zo_s _ _ _) (by first | assumption | rfl) (by decide) rfl (by decide) (by omega) (by omega) dX8_undo_50 (fun g50 => ?_)
        refine z_iasto (pc := 51) (c := 8) (j := 1) (L := 610) h (by first | assumption | rfl) (by decide) rfl (by decide) (by omega) (by omega) (by omega) dX8_undo_51 ?_
        refine z_inc_1 (pc := 52) h dX8_undo_52 (by decide) rfl ?_
        refine z_goto (pc := 55) (tgt := 26) h dX8_undo_55 (by decide) ?_
        refine ih (i + 1) _ (by omega) (by omega) (by omega) r0 r2 r3 r4 r5 ?_
        show zup (mm.2 1) i (mm.2 4 (119 * mm.1 5 + i)) = _
        have hs := cpf_S (m.2 1) (fun k => m.2 4 (119 * (m.1 5 - 1) + k)) 0 h1
        simp only [Int.zero_add] at hs
        rw [← hs, r1, r4, r5]
  refine z_aloadR_n (pc := 0) h dX8_undo_0 rfl ?_
  refine z_iconst (pc := 1) h dX8_undo_1 ?_
  refine z_putIo (pc := 2) (c := 8) (j := 0) h (by first | assumption | rfl) rfl rfl fl_X8_84 rfl (tyX8_ok 0 (by decide)) dX8_undo_2 (by omega) ?_
  refine z_aloadR_n (pc := 5) h dX8_undo_5 rfl ?_
  refine z_getIq (pc := 6) (c := 8) (j := 5) h (zo_s _ _ _) (by first | assumption | rfl) rfl rfl fl_X8_181 dX8_undo_6 (fun g6 => ?_)
  try simp only [osa_1, osa_2, oss_1, oss_2, osA_1, osA_2, zup_s, reduceIte, Nat.reduceEqDiff] at g6 ⊢
  refine z_if_ne (pc := 9) (tgt := 14) h (by omega) dX8_undo_9 (by decide) (fun c9 => ?_) (fun c9 => ?_)
  · refine z_aloadR_n (pc := 14) h dX8_undo_14 rfl ?_
    refine z_dupR (pc := 15) h dX8_undo_15 ?_
    refine z_getIq (pc := 16) (c := 8) (j := 5) h (zo_s _ _ _) (by first | assumption | rfl) rfl rfl fl_X8_181 dX8_undo_16 (fun g16 => ?_)
    try simp only [osa_1, osa_2, oss_1, oss_2, osA_1, osA_2, zup_s, reduceIte, Nat.reduceEqDiff] at g16 ⊢
    refine z_iconst (pc := 19) h dX8_undo_19 ?_
    refine z_isub (pc := 20) h dX8_undo_20 ?_
    refine z_putIo (pc := 21) (c := 8) (j := 5) h (by first | assumption | rfl) rfl rfl fl_X8_181 rfl (tyX8_ok 5 (by decide)) dX8_undo_21 (by omega) ?_
    refine z_iconst (pc := 24) h dX8_undo_24 ?_
    refine z_ist_1 (pc := 25) h dX8_undo_25 (by decide) rfl ?_
    refine L (by omega) 120 0 _ (by omega) (by omega) (by omega) rfl rfl rfl rfl rfl ?_
    rw [cpf_0]
    rfl
  · refine z_iconst (pc := 12) h dX8_undo_12 ?_
    refine z_iret (pc := 13) h rfl dX8_undo_13 ?_
    rw [← hK]
    refine ⟨by rw [show m.1 5 = 0 by omega]; rfl, _, rfl, ⟨rfl, rfl, rfl⟩, rfl, ?_⟩
    rw [if_pos (by omega)]
    exact ⟨rfl, rfl⟩
/-- what a question leaves alone in the model -/
def MQ8 (m m' : zOb) : Prop := MP m m' ∧ m'.2 1 = m.2 1 ∧ m'.1 5 = m.1 5 ∧ m'.2 4 = m.2 4
theorem m8_would {σ : zS} {m : zOb} {T : T3} {t d k : Int} (hT : OKT T) (e1 : m.2 1 = T.2.2) (ht : zin t) (hd : zin d) (hk : zin k) : zC M_X8_would 7 [zR 31, zI t, zI d, zI k] (zo σ 31 m) (fun r τ' => r = some (zI (if mvT T t d k = 0 then rc (t_mv T t d k).2.2 else mvT T t d k)) ∧ ∃ m', τ' = zo σ 31 m' ∧ MQ8 m m') := by
  refine zC_of (M := M_X8_would) (ls := [some (zR 31), some (zI t), some (zI d), some (zI k), none, none]) (n := 2) (by decide) (fun ad => Nat.le_of_ble_eq_true rfl) rfl (fun x h => ?_)
  have hmb := mvT_b T t d k
  have hx1 : (oss m 0 0).2 1 = T.2.2 := e1
  have hx0 : (oss m 0 0).1 0 = 0 := rfl
  have hx2 : (oss m 0 0).2 2 = m.2 2 := rfl
  have hx3 : (oss m 0 0).2 3 = m.2 3 := rfl
  have hx4 : (oss m 0 0).2 4 = m.2 4 := rfl
  have hx5 : (oss m 0 0).1 5 = m.1 5 := rfl
  refine z_aloadR_n (pc := 0) h dX8_would_0 rfl ?_
  refine z_iconst (pc := 1) h dX8_would_1 ?_
  refine z_putIo (pc := 2) (c := 8) (j := 0) h (by first | assumption | rfl) rfl rfl fl_X8_84 rfl (tyX8_ok 0 (by decide)) dX8_would_2 (by omega) ?_
  generalize oss m 0 0 = mz at hx0 hx1 hx2 hx3 hx4 hx5 ⊢
  refine z_aloadR_n (pc := 5) h dX8_would_5 rfl ?_
  refine z_callV (pc := 6) (c := 8) h (m8_begins (by rw [hx1]; exact hT.1) (by rw [hx1]; exact hT.2.1.wfr)) (by decide) (by first | assumption | rfl) rfl mv_X8_begins ml_X8_318 rfl dX8_would_6 rfl (Nat.le_of_ble_eq_true rfl) (fun r6 τ6 q6 => ?_)
  obtain ⟨rfl, mb, rfl, b1, b42, b41, b40, b27, bK⟩ := q6
  rw [hx1] at b1 b42 b41 b40
  have hM : MS T mz mb := ⟨b1, b41, b40, b42, bK⟩
  obtain ⟨y0, y2, y3, y4, y5, y47⟩ := bK
  have hwa : WFa (mb.2 1) := by rw [b1]; exact hT.1
  have hP : POS T.1 T.2.1 (mb.2 1) := by rw [b1]; exact hT.2.1
  have hi : WFi T.1 (mb.2 1) := by rw [b1]; exact hT.2.2
  have hKp : KPT (mb.2 1) (mb.2 41) := by rw [b1]; exact b41
  have hgo := m8_goesTo (σ := σ) (t := t) (d := d) (k := k) hwa hP hi hKp (hM.F hT) ht hd hk
  have ec : mvC T.1 T.2.1 (mb.2 1) (mb.2 40) t d k = mvT T t d k := by rw [b1]; exact mvC_congr hT.1 hT.2.1 hT.2.2 b40 t d k
  rw [ec, b1] at hgo
  refine z_aloadR_n (pc := 9) h dX8_would_9 rfl ?_
  refine z_iload_n (pc := 10) h dX8_would_10 rfl ?_
  refine z_iload_n (pc := 11) h dX8_would_11 rfl ?_
  refine z_iload_n (pc := 12) h dX8_would_12 rfl ?_
  refine z_rV (pc := 13) (c := 8) h (hgo) (by decide) (by first | assumption | rfl) rfl mv_X8_goesTo ml_X8_321 rfl dX8_would_13 rfl (Nat.le_of_ble_eq_true rfl) ?_
  refine z_ist_4 (pc := 16) h dX8_would_16 (by decide) rfl ?_
  refine z_iload (pc := 18) h dX8_would_18 rfl ?_
  refine z_if_eq (pc := 20) (tgt := 26) h (by omega) dX8_would_20 (by decide) (fun c20 => ?_) (fun c20 => ?_)
  · rw [if_pos c20, if_pos c20]
    have hc := mvC_0 c20
    have hU := OKT_mv hT hc
    have hback := back_eq (a := T.2.2) (b := a_mv T.1 T.2.1 T.2.2 t d k) (κ := mb.2 41) b41 (fun i hi => a_mv_o hT.1 hT.2.1 (hc.mvh _ hT.2.2) hi)
    generalize hmm : osA mb 1 (a_mv T.1 T.2.1 T.2.2 t d k) = mm
    have m1 : mm.2 1 = (t_mv T t d k).2.2 := by rw [← hmm]; rfl
    have m41 : mm.2 41 = mb.2 41 := by rw [← hmm]; rfl
    have m0' : mm.1 0 = 0 := by rw [← hmm]; exact y0.trans hx0
    have m2 : mm.2 2 = m.2 2 := by rw [← hmm]; exact y2.trans hx2
    have m3 : mm.2 3 = m.2 3 := by rw [← hmm]; exact y3.trans hx3
    have m4 : mm.2 4 = m.2 4 := by rw [← hmm]; exact y4.trans hx4
    have m5 : mm.1 5 = m.1 5 := by rw [← hmm]; exact y5.trans hx5
    clear hmm
    have hwa : WFa (mm.2 1) := by rw [m1]; exact hU.1
    have hwr : WFr (mm.2 1) := by rw [m1]; exact hU.2.1.wfr
    have hrc := rc_eq hwa hwr
    rw [m1] at hrc
    obtain ⟨k1, k2, k3, k4⟩ := run_ok hwa hwr
    have hfr := FR_run mm
    refine z_aloadR_n (pc := 26) h dX8_would_26 rfl ?_
    refine z_rV (pc := 27) (c := 8) h (m8_runs hwa hwr) (by decide) (by first | assumption | rfl) rfl mv_X8_runs ml_X8_272 rfl dX8_would_27 rfl (Nat.le_of_ble_eq_true rfl) ?_
    rw [hrc]
    have f0 := (hfr 0 (by omega)).1.trans m0'
    have f2 := (hfr 2 (by omega)).2.trans m2
    have f3 := (hfr 3 (by omega)).2.trans m3
    have f4 := (hfr 4 (by omega)).2.trans m4
    have f5 := (hfr 5 (by omega)).1.trans m5
    have f41 := (hfr 41 (by omega)).2.trans m41
    have f1 := k3.trans m1
    clear hrc k1 k2 k3 k4 hfr
    generalize s_run mm = mx at f0 f1 f2 f3 f4 f5 f41 ⊢
    refine z_ist_5 (pc := 30) h dX8_would_30 (by decide) rfl ?_
    refine z_aloadR_n (pc := 32) h dX8_would_32 rfl ?_
    refine z_vV (pc := 33) (c := 8) h (m8_rowsBack) (by decide) (by first | assumption | rfl) rfl mv_X8_rowsBack ml_X8_312 rfl dX8_would_33 rfl (Nat.le_of_ble_eq_true rfl) ?_
    refine z_iload (pc := 36) h dX8_would_36 rfl ?_
    refine z_iret (pc := 38) h rfl dX8_would_38 ?_
    refine ⟨rfl, _, rfl, ⟨f0, f2, f3⟩, ?_, f5, f4⟩
    show cpf (mx.2 1) (fun j => mx.2 41 (j - 65)) 65 54 = m.2 1
    rw [f1, f41, e1]
    exact hback
  · rw [if_neg c20, if_neg c20]
    refine z_iload (pc := 23) h dX8_would_23 rfl ?_
    refine z_iret (pc := 25) h rfl dX8_would_25 ?_
    exact ⟨rfl, _, rfl, ⟨y0.trans hx0, y2.trans hx2, y3.trans hx3⟩, e1.symm, y5.trans hx5, y4.trans hx4⟩
theorem zup_same (f : Int → Int) (n : Int) : zup f n (f n) = f := by
  funext i
  unfold zup
  split
  · rename_i e; rw [e]
  · rfl
theorem m8_delayed {σ : zS} {m : zOb} {T : T3} {t b : Int} (hT : OKT T) (e1 : m.2 1 = T.2.2) (ht : zin t) (hb : zin b) : zC M_X8_delayed 6 [zR 31, zI t, zI b] (zo σ 31 m) (fun r τ' => r = some (zI (@ite Int (LC T.2.2 t b) (dLC T.2.2 t b) (rc (t_lt T t b).2.2) (-1))) ∧ ∃ m', τ' = zo σ 31 m' ∧ MQ8 m m') := by
  have h8 := hT.1.2.1
  refine zC_of (M := M_X8_delayed) (ls := [some (zR 31), some (zI t), some (zI b), none]) (n := 1) (by decide) (fun ad => Nat.le_of_ble_eq_true rfl) rfl (fun x h => ?_)
  have hx1 : (oss m 0 0).2 1 = T.2.2 := e1
  have hx0 : (oss m 0 0).1 0 = 0 := rfl
  have hx2 : (oss m 0 0).2 2 = m.2 2 := rfl
  have hx3 : (oss m 0 0).2 3 = m.2 3 := rfl
  have hx4 : (oss m 0 0).2 4 = m.2 4 := rfl
  have hx5 : (oss m 0 0).1 5 = m.1 5 := rfl
  have N : ¬ LC T.2.2 t b → ∀ l : Option Value, zW x (fun r τ' => r = some (zI (@ite Int (LC T.2.2 t b) (dLC T.2.2 t b) (rc (t_lt T t b).2.2) (-1))) ∧ ∃ m', τ' = zo σ 31 m' ∧ MQ8 m m') 36 [some (zR 31), some (zI t), some (zI b), l] [] (zo σ 31 (oss m 0 0)) := by
    intro hc l
    rw [if_neg hc]
    refine z_iconst (pc := 36) h dX8_delayed_36 ?_
    refine z_iret (pc := 37) h rfl dX8_delayed_37 ?_
    exact ⟨rfl, _, rfl, ⟨rfl, rfl, rfl⟩, rfl, rfl, rfl⟩
  refine z_aloadR_n (pc := 0) h dX8_delayed_0 rfl ?_
  refine z_iconst (pc := 1) h dX8_delayed_1 ?_
  refine z_putIo (pc := 2) (c := 8) (j := 0) h (by first | assumption | rfl) rfl rfl fl_X8_84 rfl (tyX8_ok 0 (by decide)) dX8_delayed_2 (by omega) ?_
  generalize oss m 0 0 = mz at hx0 hx1 hx2 hx3 hx4 hx5 N ⊢
  have e11 : mz.2 1 1 = T.2.2 1 := by rw [hx1]
  have eat : mz.2 1 (17 + 6 * t + 1) = T.2.2 (17 + 6 * t + 1) := by rw [hx1]
  refine z_aloadR_n (pc := 5) h dX8_delayed_5 rfl ?_
  refine z_iload_n (pc := 6) h dX8_delayed_6 rfl ?_
  refine z_pV (pc := 7) (c := 8) h (m8_isTruck (by omega) (by omega)) (by decide) (by first | assumption | rfl) rfl mv_X8_isTruck ml_X8_290 rfl dX8_delayed_7 rfl (Nat.le_of_ble_eq_true rfl) ?_
  refine z_ifeqB (pc := 10) (tgt := 36) h dX8_delayed_10 (by decide) (fun c10 => ?_) (fun c10 => ?_)
  · exact N (fun z => of_decide_eq_false c10 (by have := z.1; omega)) _
  · have z5 := of_decide_eq_true c10
    have hat := (hT.1.2.2.2.2.2.2.1 t (by omega) (by omega)).2.1
    refine z_iload_n (pc := 13) h dX8_delayed_13 rfl ?_
    refine z_iconst (pc := 14) h dX8_delayed_14 ?_
    refine z_bipush (pc := 15) h dX8_delayed_15 (by decide) ?_
    refine z_pS (pc := 17) h (m8_in (by omega) (by omega) (by omega)) (by decide) ms_X8_in ml_X8_88 rfl dX8_delayed_17 rfl (Nat.le_of_ble_eq_true rfl) ?_
    refine z_ifeqB (pc := 20) (tgt := 36) h dX8_delayed_20 (by decide) (fun c20 => ?_) (fun c20 => ?_)
    · exact N (fun z => of_decide_eq_false c20 z.2.1) _
    · have z20 := of_decide_eq_true c20
      refine z_aloadR_n (pc := 23) h dX8_delayed_23 rfl ?_
      refine z_iload_n (pc := 24) h dX8_delayed_24 rfl ?_
      refine z_iconst (pc := 25) h dX8_delayed_25 ?_
      refine z_pV (pc := 26) (c := 8) h (m8_of (by omega) (by omega)) (by decide) (by first | assumption | rfl) rfl mv_X8_of ml_X8_92 rfl dX8_delayed_26 rfl (Nat.le_of_ble_eq_true rfl) ?_
      refine z_iload_n (pc := 29) h dX8_delayed_29 rfl ?_
      refine z_iadd (pc := 30) h dX8_delayed_30 ?_
      refine z_bipush (pc := 31) h dX8_delayed_31 (by decide) ?_
      refine z_icmp_le (pc := 33) (tgt := 38) h (by omega) (by omega) dX8_delayed_33 (by decide) (fun c33 => ?_) (fun c33 => ?_)
      · have hc : LC T.2.2 t b := ⟨by omega, z20, by omega⟩
        have hU := OKT_lt hT hc
        rw [if_pos hc]
        refine z_aloadR_n (pc := 38) h dX8_delayed_38 rfl ?_
        refine z_getA4 (pc := 39) (c := 8) (j := 1) h (by first | assumption | rfl) rfl rfl fl_X8_7 dX8_delayed_39 ?_
        refine z_bipush (pc := 42) h dX8_delayed_42 (by decide) ?_
        refine z_bipush (pc := 44) h dX8_delayed_44 (by decide) ?_
        refine z_iload_n (pc := 46) h dX8_delayed_46 rfl ?_
        refine z_imul (pc := 47) h dX8_delayed_47 ?_
        refine z_iadd (pc := 48) h dX8_delayed_48 ?_
        refine z_iconst (pc := 49) h dX8_delayed_49 ?_
        refine z_iadd (pc := 50) h dX8_delayed_50 ?_
        refine z_dup2AI (pc := 51) h dX8_delayed_51 ?_
        refine z_ialdq (pc := 52) (c := 8) (j := 1) (L := 610) h (zo_s _ _ _) (by first | assumption | rfl) (by decide) rfl (by decide) (by omega) (by omega) dX8_delayed_52 (fun g52 => ?_)
        try simp only [osa_1, osa_2, oss_1, oss_2, osA_1, osA_2, zup_s, reduceIte, Nat.reduceEqDiff] at g52 ⊢
        refine z_iload_n (pc := 53) h dX8_delayed_53 rfl ?_
        refine z_iadd (pc := 54) h dX8_delayed_54 ?_
        refine z_iasto (pc := 55) (c := 8) (j := 1) (L := 610) h (by first | assumption | rfl) (by decide) rfl (by decide) (by omega) (by omega) (by omega) dX8_delayed_55 ?_
        have eto : osa mz 1 (17 + 6 * t + 1) (mz.2 1 (17 + 6 * t + 1) + b) = osA mz 1 (t_lt T t b).2.2 := by unfold osa; rw [hx1]; rfl
        rw [eto]
        generalize hmm : osA mz 1 (t_lt T t b).2.2 = mm
        have m1 : mm.2 1 = (t_lt T t b).2.2 := by rw [← hmm]; rfl
        have m0' : mm.1 0 = 0 := by rw [← hmm]; exact hx0
        have m2 : mm.2 2 = m.2 2 := by rw [← hmm]; exact hx2
        have m3 : mm.2 3 = m.2 3 := by rw [← hmm]; exact hx3
        have m4 : mm.2 4 = m.2 4 := by rw [← hmm]; exact hx4
        have m5 : mm.1 5 = m.1 5 := by rw [← hmm]; exact hx5
        clear hmm
        have hwa : WFa (mm.2 1) := by rw [m1]; exact hU.1
        have hwr : WFr (mm.2 1) := by rw [m1]; exact hU.2.1.wfr
        have hrc := rc_eq hwa hwr
        rw [m1] at hrc
        obtain ⟨k1, k2, k3, k4⟩ := run_ok hwa hwr
        have hfr := FR_run mm
        refine z_aloadR_n (pc := 56) h dX8_delayed_56 rfl ?_
        refine z_rV (pc := 57) (c := 8) h (m8_runs hwa hwr) (by decide) (by first | assumption | rfl) rfl mv_X8_runs ml_X8_272 rfl dX8_delayed_57 rfl (Nat.le_of_ble_eq_true rfl) ?_
        rw [hrc]
        have f0 := (hfr 0 (by omega)).1.trans m0'
        have f2 := (hfr 2 (by omega)).2.trans m2
        have f3 := (hfr 3 (by omega)).2.trans m3
        have f4 := (hfr 4 (by omega)).2.trans m4
        have f5 := (hfr 5 (by omega)).1.trans m5
        have f1 := k3.trans m1
        clear hrc k1 k2 k3 k4 hfr
        generalize s_run mm = mx at f0 f1 f2 f3 f4 f5 ⊢
        have fat : mx.2 1 (17 + 6 * t + 1) = T.2.2 (17 + 6 * t + 1) + b := by rw [f1]; exact zup_s _ _ _
        refine z_ist_3 (pc := 60) h dX8_delayed_60 (by decide) rfl ?_
        refine z_aloadR_n (pc := 61) h dX8_delayed_61 rfl ?_
        refine z_getA4 (pc := 62) (c := 8) (j := 1) h (by first | assumption | rfl) rfl rfl fl_X8_7 dX8_delayed_62 ?_
        refine z_bipush (pc := 65) h dX8_delayed_65 (by decide) ?_
        refine z_bipush (pc := 67) h dX8_delayed_67 (by decide) ?_
        refine z_iload_n (pc := 69) h dX8_delayed_69 rfl ?_
        refine z_imul (pc := 70) h dX8_delayed_70 ?_
        refine z_iadd (pc := 71) h dX8_delayed_71 ?_
        refine z_iconst (pc := 72) h dX8_delayed_72 ?_
        refine z_iadd (pc := 73) h dX8_delayed_73 ?_
        refine z_dup2AI (pc := 74) h dX8_delayed_74 ?_
        refine z_ialdq (pc := 75) (c := 8) (j := 1) (L := 610) h (zo_s _ _ _) (by first | assumption | rfl) (by decide) rfl (by decide) (by omega) (by omega) dX8_delayed_75 (fun g75 => ?_)
        try simp only [osa_1, osa_2, oss_1, oss_2, osA_1, osA_2, zup_s, reduceIte, Nat.reduceEqDiff] at g75 ⊢
        refine z_iload_n (pc := 76) h dX8_delayed_76 rfl ?_
        refine z_isub (pc := 77) h dX8_delayed_77 ?_
        refine z_iasto (pc := 78) (c := 8) (j := 1) (L := 610) h (by first | assumption | rfl) (by decide) rfl (by decide) (by omega) (by omega) (by omega) dX8_delayed_78 ?_
        refine z_iload_n (pc := 79) h dX8_delayed_79 rfl ?_
        refine z_iret (pc := 80) h rfl dX8_delayed_80 ?_
        refine ⟨rfl, _, rfl, ⟨f0, f2, f3⟩, ?_, f5, f4⟩
        show zup (mx.2 1) (17 + 6 * t + 1) (mx.2 1 (17 + 6 * t + 1) - b) = m.2 1
        rw [fat, f1, e1]
        show zup (zup T.2.2 (17 + 6 * t + 1) (T.2.2 (17 + 6 * t + 1) + b)) (17 + 6 * t + 1) (T.2.2 (17 + 6 * t + 1) + b - b) = T.2.2
        rw [zup_zup, Int.add_sub_cancel]
        exact zup_same _ _
      · exact N (fun z => by have := z.2.2; omega) _
