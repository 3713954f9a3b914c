/-! The model: roomy, least, moves. -/
def t_st (T : T3) (s : Int) : T3 := (T.1, T.2.1, zup T.2.2 2 s)
theorem OKT_st {T : T3} {s : Int} (h : OKT T) (h0 : 0 ≤ s) (h1 : s ≤ 40) : OKT (t_st T s) := OKT_up h (Or.inl rfl) ⟨h0, fun _ => h1, fun z => by omega⟩
def MQ0 (m m' : zOb) : Prop := m'.1 0 = m.1 0 ∧ m'.2 1 = m.2 1 ∧ m'.2 2 = m.2 2 ∧ m'.2 3 = m.2 3 ∧ m'.2 4 = m.2 4 ∧ m'.1 5 = m.1 5
theorem MQ0.tr {m m' m'' : zOb} (h : MQ0 m m') (g : MQ0 m' m'') : MQ0 m m'' := ⟨g.1.trans h.1, g.2.1.trans h.2.1, g.2.2.1.trans h.2.2.1, g.2.2.2.1.trans h.2.2.2.1, g.2.2.2.2.1.trans h.2.2.2.2.1, g.2.2.2.2.2.trans h.2.2.2.2.2⟩
theorem m8_withStaging {σ : zS} {m : zOb} {T : T3} {s : Int} (hT : OKT T) (e1 : m.2 1 = T.2.2) (h0 : 0 ≤ s) (h1 : s ≤ 40) : zC M_X8_withStaging 6 [zR 31, zI s] (zo σ 31 m) (fun r τ' => r = some (zI (rc (t_st T s).2.2)) ∧ ∃ m', τ' = zo σ 31 m' ∧ MQ0 m m') := by
  have hU := OKT_st hT h0 h1
  have h40 := hT.1.2.2.1
  refine zC_of (M := M_X8_withStaging) (ls := [some (zR 31), some (zI s), none, none]) (n := 2) (by decide) (fun ad => Nat.le_of_ble_eq_true rfl) rfl (fun x h => ?_)
  have e12 : m.2 1 2 = T.2.2 2 := by rw [e1]
  refine z_aloadR_n (pc := 0) h dX8_withStaging_0 rfl ?_
  refine z_getA4 (pc := 1) (c := 8) (j := 1) h (by first | assumption | rfl) rfl rfl fl_X8_7 dX8_withStaging_1 ?_
  refine z_iconst (pc := 4) h dX8_withStaging_4 ?_
  refine z_ialdq (pc := 5) (c := 8) (j := 1) (L := 610) h (zo_s _ _ _) (by first | assumption | rfl) (by decide) rfl (by decide) (by omega) (by omega) dX8_withStaging_5 (fun g5 => ?_)
  refine z_ist_2 (pc := 6) h dX8_withStaging_6 (by decide) rfl ?_
  refine z_aloadR_n (pc := 7) h dX8_withStaging_7 rfl ?_
  refine z_getA4 (pc := 8) (c := 8) (j := 1) h (by first | assumption | rfl) rfl rfl fl_X8_7 dX8_withStaging_8 ?_
  refine z_iconst (pc := 11) h dX8_withStaging_11 ?_
  refine z_iload_n (pc := 12) h dX8_withStaging_12 rfl ?_
  refine z_iasto (pc := 13) (c := 8) (j := 1) (L := 610) h (by first | assumption | rfl) (by decide) rfl (by decide) (by omega) (by omega) (by omega) dX8_withStaging_13 ?_
  have eto : osa m 1 2 s = osA m 1 (t_st T s).2.2 := by unfold osa; rw [e1]; rfl
  rw [eto]
  generalize hmm : osA m 1 (t_st T s).2.2 = mm
  have m1 : mm.2 1 = (t_st T s).2.2 := by rw [← hmm]; rfl
  have m0' : mm.1 0 = m.1 0 := by rw [← hmm]; rfl
  have m2 : mm.2 2 = m.2 2 := by rw [← hmm]; rfl
  have m3 : mm.2 3 = m.2 3 := by rw [← hmm]; rfl
  have m4 : mm.2 4 = m.2 4 := by rw [← hmm]; rfl
  have m5 : mm.1 5 = m.1 5 := by rw [← hmm]; rfl
  clear hmm
  have hwa : WFa (mm.2 1) := by rw [m1]; exact hU.1
  have hwr : WFr (mm.2 1) := by rw [m1]; exact hU.2.1.wfr
  have hrc := rc_eq hwa hwr
  rw [m1] at hrc
  obtain ⟨k1, k2, k3, k4⟩ := run_ok hwa hwr
  have hfr := FR_run mm
  refine z_aloadR_n (pc := 14) h dX8_withStaging_14 rfl ?_
  refine z_rV (pc := 15) (c := 8) h (m8_runs hwa hwr) (by decide) (by first | assumption | rfl) rfl mv_X8_runs ml_X8_272 rfl dX8_withStaging_15 rfl (Nat.le_of_ble_eq_true rfl) ?_
  rw [hrc]
  have f0 := (hfr 0 (by omega)).1.trans m0'
  have f2 := (hfr 2 (by omega)).2.trans m2
  have f3 := (hfr 3 (by omega)).2.trans m3
  have f4 := (hfr 4 (by omega)).2.trans m4
  have f5 := (hfr 5 (by omega)).1.trans m5
  have f1 := k3.trans m1
  clear hrc k1 k2 k3 k4 hfr
  generalize s_run mm = mx at f0 f1 f2 f3 f4 f5 ⊢
  refine z_ist_3 (pc := 18) h dX8_withStaging_18 (by decide) rfl ?_
  refine z_aloadR_n (pc := 19) h dX8_withStaging_19 rfl ?_
  refine z_getA4 (pc := 20) (c := 8) (j := 1) h (by first | assumption | rfl) rfl rfl fl_X8_7 dX8_withStaging_20 ?_
  refine z_iconst (pc := 23) h dX8_withStaging_23 ?_
  refine z_iload_n (pc := 24) h dX8_withStaging_24 rfl ?_
  refine z_iasto (pc := 25) (c := 8) (j := 1) (L := 610) h (by first | assumption | rfl) (by decide) rfl (by decide) (by omega) (by omega) (by omega) dX8_withStaging_25 ?_
  refine z_iload_n (pc := 26) h dX8_withStaging_26 rfl ?_
  refine z_iret (pc := 27) h rfl dX8_withStaging_27 ?_
  refine ⟨rfl, _, rfl, f0, ?_, f2, f3, f4, f5⟩
  show zup (mx.2 1) 2 (m.2 1 2) = m.2 1
  rw [f1, e1]
  show zup (zup T.2.2 2 s) 2 (T.2.2 2) = T.2.2
  rw [zup_zup]
  exact zup_same _ _
theorem m8_roomy {σ : zS} {m : zOb} {T : T3} {s : Int} (hT : OKT T) (e1 : m.2 1 = T.2.2) (hs : zin s) : zC M_X8_roomy 7 [zR 31, zI s] (zo σ 31 m) (fun r τ' => r = some (zI (if 0 ≤ s ∧ s ≤ 40 then rc (t_st T s).2.2 else -1)) ∧ ∃ m', τ' = zo σ 31 m' ∧ MQ8 m m') := by
  refine zC_of (M := M_X8_roomy) (ls := [some (zR 31), some (zI s)]) (n := 0) (by decide) (fun ad => Nat.le_of_ble_eq_true rfl) rfl (fun x h => ?_)
  refine z_aloadR_n (pc := 0) h dX8_roomy_0 rfl ?_
  refine z_iconst (pc := 1) h dX8_roomy_1 ?_
  refine z_putIo (pc := 2) (c := 8) (j := 0) h (by first | assumption | rfl) rfl rfl fl_X8_84 rfl (tyX8_ok 0 (by decide)) dX8_roomy_2 (by omega) ?_
  refine z_iload_n (pc := 5) h dX8_roomy_5 rfl ?_
  refine z_iconst (pc := 6) h dX8_roomy_6 ?_
  refine z_bipush (pc := 7) h dX8_roomy_7 (by decide) ?_
  refine z_pS (pc := 9) h (m8_in (by omega) (by omega) (by omega)) (by decide) ms_X8_in ml_X8_88 rfl dX8_roomy_9 rfl (Nat.le_of_ble_eq_true rfl) ?_
  refine z_ifeqB (pc := 12) (tgt := 23) h dX8_roomy_12 (by decide) (fun c12 => ?_) (fun c12 => ?_)
  · rw [if_neg (of_decide_eq_false c12)]
    refine z_iconst (pc := 23) h dX8_roomy_23 ?_
    refine z_iret (pc := 24) h rfl dX8_roomy_24 ?_
    first
    | exact ⟨rfl, mm, rfl, ⟨h0, h2, h3⟩, h1, h5, h4⟩
    | exact ⟨rfl, _, rfl, ⟨rfl, rfl, rfl⟩, rfl, rfl, rfl⟩
  · have z := of_decide_eq_true c12
    rw [if_pos z]
    have hw := m8_withStaging (σ := σ) (m := oss m 0 0) (T := T) (s := s) hT e1 z.1 z.2
    refine z_aloadR_n (pc := 15) h dX8_roomy_15 rfl ?_
    refine z_iload_n (pc := 16) h dX8_roomy_16 rfl ?_
    refine z_callV (pc := 17) (c := 8) h (hw) (by decide) (by first | assumption | rfl) rfl mv_X8_withStaging ml_X8_361 rfl dX8_roomy_17 rfl (Nat.le_of_ble_eq_true rfl) (fun r17 τ17 q17 => ?_)
    obtain ⟨rfl, mm, rfl, h0, h1, h2, h3, h4, h5⟩ := q17
    refine z_goto (pc := 20) (tgt := 24) h dX8_roomy_20 (by decide) ?_
    refine z_iret (pc := 24) h rfl dX8_roomy_24 ?_
    first
    | exact ⟨rfl, mm, rfl, ⟨h0, h2, h3⟩, h1, h5, h4⟩
    | exact ⟨rfl, _, rfl, ⟨rfl, rfl, rfl⟩, rfl, rfl, rfl⟩
def lst (T : T3) : Int := zfst (fun s => decide (rc (t_st T s).2.2 ≤ rc T.2.2)) (T.2.2 2 + 1)
theorem t_st_same (T : T3) : (t_st T (T.2.2 2)).2.2 = T.2.2 := zup_same _ _
theorem m8_least {σ : zS} {m : zOb} {T : T3} (hT : OKT T) (e1 : m.2 1 = T.2.2) : zC M_X8_least 7 [zR 31] (zo σ 31 m) (fun r τ' => r = some (zI (lst T)) ∧ ∃ m', τ' = zo σ 31 m' ∧ MQ8 m m') := by
  have h40 := hT.1.2.2.1
  have hcb := rc_b hT
  have hwa : WFa ((oss m 0 0).2 1) := by show WFa (m.2 1); rw [e1]; exact hT.1
  have hwr : WFr ((oss m 0 0).2 1) := by show WFr (m.2 1); rw [e1]; exact hT.2.1.wfr
  have hrc := rc_eq hwa hwr
  have hrc : s_cost (s_run (oss m 0 0)) = rc T.2.2 := by rw [hrc]; show rc (m.2 1) = _; rw [e1]
  obtain ⟨k1, k2, k3, k4⟩ := run_ok hwa hwr
  have hfr := FR_run (oss m 0 0)
  refine zC_of (M := M_X8_least) (ls := [some (zR 31), none, none]) (n := 2) (by decide) (fun ad => Nat.le_of_ble_eq_true rfl) rfl (fun x h => ?_)
  have L : ∀ (n : Nat) (s : Int) (mm : zOb), 0 ≤ s → s ≤ T.2.2 2 → T.2.2 2 - s < n → MQ0 (oss m 0 0) mm → (∀ j, 0 ≤ j → j < s → ¬ rc (t_st T j).2.2 ≤ rc T.2.2) → zW x (fun r τ' => r = some (zI (lst T)) ∧ ∃ m', τ' = zo σ 31 m' ∧ MQ8 m m') 12 [some (zR 31), some (zI (rc T.2.2)), some (zI s)] [] (zo σ 31 mm) := by
    intro n
    induction n with
    | zero => intro s mm h1 h2 h3; omega
    | succ n ih =>
      intro s mm h1 h2 h3 hM hj
      have hsb := rc_b (OKT_st hT h1 (show s ≤ 40 by omega))
      have hsame := t_st_same T
      refine z_aloadR_n (pc := 12) h dX8_least_12 rfl ?_
      refine z_iload_n (pc := 13) h dX8_least_13 rfl ?_
      refine z_callV (pc := 14) (c := 8) h (m8_withStaging hT (hM.2.1.trans e1) h1 (by omega)) (by decide) (by first | assumption | rfl) rfl mv_X8_withStaging ml_X8_361 rfl dX8_least_14 rfl (Nat.le_of_ble_eq_true rfl) (fun r14 τ14 q14 => ?_)
      obtain ⟨rfl, m2, rfl, hM2⟩ := q14
      refine z_iload_n (pc := 17) h dX8_least_17 rfl ?_
      refine z_icmp_le (pc := 18) (tgt := 27) h (by omega) (by omega) dX8_least_18 (by decide) (fun c18 => ?_) (fun c18 => ?_)
      · refine z_iload_n (pc := 27) h dX8_least_27 rfl ?_
        refine z_iret (pc := 28) h rfl dX8_least_28 ?_
        obtain ⟨q0, q1, q2, q3, q4, q5⟩ := hM.tr hM2
        refine ⟨congrArg (fun z => some (zI z)) ?_, m2, rfl, ⟨q0, q2, q3⟩, q1, q5, q4⟩
        exact (zfst_some h1 (by omega) (decide_eq_true (by omega)) (fun j j0 j1 => decide_eq_false (hj j j0 j1))).symm
      · refine z_inc_2 (pc := 21) h dX8_least_21 (by decide) rfl ?_
        refine z_goto (pc := 24) (tgt := 12) h dX8_least_24 (by decide) ?_
        refine ih (s + 1) m2 (by omega) ?_ ?_ (hM.tr hM2) (fun j j0 j1 => ?_)
        · by_cases e : s = T.2.2 2
          · rw [e, hsame] at c18; omega
          · omega
        · by_cases e : s = T.2.2 2
          · rw [e, hsame] at c18; omega
          · omega
        · by_cases e : j = s
          · rw [e]; omega
          · exact hj j j0 (by omega)
  refine z_aloadR_n (pc := 0) h dX8_least_0 rfl ?_
  refine z_iconst (pc := 1) h dX8_least_1 ?_
  refine z_putIo (pc := 2) (c := 8) (j := 0) h (by first | assumption | rfl) rfl rfl fl_X8_84 rfl (tyX8_ok 0 (by decide)) dX8_least_2 (by omega) ?_
  refine z_aloadR_n (pc := 5) h dX8_least_5 rfl ?_
  refine z_rV (pc := 6) (c := 8) h (m8_runs hwa hwr) (by decide) (by first | assumption | rfl) rfl mv_X8_runs ml_X8_272 rfl dX8_least_6 rfl (Nat.le_of_ble_eq_true rfl) ?_
  rw [hrc]
  refine z_ist_1 (pc := 9) h dX8_least_9 (by decide) rfl ?_
  refine z_iconst (pc := 10) h dX8_least_10 ?_
  refine z_ist_2 (pc := 11) h dX8_least_11 (by decide) rfl ?_
  exact L (T.2.2 2 + 1).toNat 0 _ (by omega) (by omega) (by omega) ⟨(hfr 0 (by omega)).1, k3, (hfr 2 (by omega)).2, (hfr 3 (by omega)).2, (hfr 4 (by omega)).2, (hfr 5 (by omega)).1⟩ (fun j j0 j1 => by omega)
