/-! The class: repair, undo, would, delayed, roomy, least, moves. -/
theorem c_would {σ : zS} {T : T3} {t d k : Int} (hT : OKT T) (hC : CS T σ) (ht : zin t) (hd : zin d) (hk : zin k) : zC M_X7_would 5 [zR 0, zI t, zI d, zI k] σ (fun r τ => r = some (zI (if mvT T t d k = 0 then rc (t_mv T t d k).2.2 else mvT T t d k)) ∧ CX σ τ) := by
  have hmb := mvT_b T t d k
  have h40 := hT.1.2.2.1
  have h8 := hT.1.2.1
  refine zC_of (M := M_X7_would) (ls := [some (zR 0), some (zI t), some (zI d), some (zI k), none]) (n := 1) (by decide) (fun ad => Nat.le_of_ble_eq_true rfl) rfl (fun x h => ?_)
  refine z_aloadR_n (pc := 0) h dX7_would_0 rfl ?_
  refine z_iload_n (pc := 1) h dX7_would_1 rfl ?_
  refine z_iload_n (pc := 2) h dX7_would_2 rfl ?_
  refine z_iload_n (pc := 3) h dX7_would_3 rfl ?_
  refine z_pV (pc := 4) (c := 7) h (c_moveRefusal hT hC ht hd hk) (by decide) (by first | assumption | rfl) rfl mv_X7_moveRefusal ml_X7_121 rfl dX7_would_4 rfl (Nat.le_of_ble_eq_true rfl) ?_
  refine z_ist_4 (pc := 7) h dX7_would_7 (by decide) rfl ?_
  refine z_iload (pc := 9) h dX7_would_9 rfl ?_
  refine z_if_eq (pc := 11) (tgt := 17) h (by omega) dX7_would_11 (by decide) (fun c11 => ?_) (fun c11 => ?_)
  · rw [if_pos c11]
    have hc := mvC_0 c11
    have hU := OKT_mv hT hc
    have hr : RWS T.2.2 (t_mv T t d k).2.2 := fun i hi => a_mv_o hT.1 hT.2.1 (hc.mvh _ hT.2.2) hi
    have hp5 : PLX (p_cp (σ 7) (σ 5)) T := PLX_cp hC.plx
    have hpm := PLX_mv hp5 hT hc
    have hE : DKE (σ 4) (t_mv T t d k).2.2 := DKE_x hr.lo hT.1.1.2 hT.1.2.1.2 hC.1
    have hstg : (σ 4).1 3 = (t_mv T t d k).2.2 2 := by rw [hC.2.1]; exact (hr 2 (by omega)).symm
    have hs40 : 0 ≤ (σ 4).1 3 ∧ (σ 4).1 3 ≤ 40 := by rw [hC.2.1]; exact h40
    refine z_aloadR_n (pc := 17) h dX7_would_17 rfl ?_
    refine z_getR (pc := 18) (c := 7) (j := 5) (o2 := 7) h rfl (by first | assumption | rfl) rfl rfl fl_X7_48 dX7_would_18 ?_
    refine z_aloadR_n (pc := 21) h dX7_would_21 rfl ?_
    refine z_getR (pc := 22) (c := 7) (j := 3) (o2 := 5) h rfl (by first | assumption | rfl) rfl rfl fl_X7_35 dX7_would_22 ?_
    refine z_apart 7 ?_
    refine z_vV (pc := 25) (c := 3) h (c_copyFrom rfl rfl (by decide)) (by decide) (by first | assumption | rfl) rfl mv_X3_copyFrom ml_X7_320 rfl dX7_would_25 rfl (Nat.le_of_ble_eq_true rfl) ?_
    refine z_aloadR_n (pc := 28) h dX7_would_28 rfl ?_
    refine z_getR (pc := 29) (c := 7) (j := 5) (o2 := 7) h rfl (by first | assumption | rfl) rfl rfl fl_X7_48 dX7_would_29 ?_
    refine z_iload_n (pc := 32) h dX7_would_32 rfl ?_
    refine z_iload_n (pc := 33) h dX7_would_33 rfl ?_
    refine z_iload_n (pc := 34) h dX7_would_34 rfl ?_
    refine z_vV (pc := 35) (c := 3) h (c_relocate rfl (by have := hc.1; omega) hd hk (fun n n0 n1 => by rw [hp5.2.1]; exact hT.2.1.p8 n0 n1)) (by decide) (by first | assumption | rfl) rfl mv_X3_relocate ml_X7_129 rfl dX7_would_35 rfl (Nat.le_of_ble_eq_true rfl) ?_
    generalize x_mv (p_cp (σ 7) (σ 5)) t d k = pq at hpm ⊢
    refine z_aloadR_n (pc := 38) h dX7_would_38 rfl ?_
    refine z_getR (pc := 39) (c := 7) (j := 6) (o2 := 8) h rfl (by first | assumption | rfl) rfl rfl fl_X7_51 dX7_would_39 ?_
    refine z_aloadR_n (pc := 42) h dX7_would_42 rfl ?_
    refine z_getR (pc := 43) (c := 7) (j := 2) (o2 := 4) h rfl (by first | assumption | rfl) rfl rfl fl_X7_28 dX7_would_43 ?_
    refine z_getIq (pc := 46) (c := 1) (j := 3) h (zo_n (show (4 : Nat) ≠ 7 by decide)) (by first | assumption | rfl) rfl rfl fl_X7_111 dX7_would_46 (fun g46 => ?_)
    refine z_apart 8 ?_
    refine z_callV (pc := 49) (c := 5) h (c_play (σ := zo σ 7 pq) (m := ob (t_mv T t d k).2.2) runh8 hU.1 hU.2.1.wfr (by rw [zo_n (by decide)]; exact hE) (by rw [zo_s]; exact hpm.ple hU) hstg) (by decide) (by first | assumption | rfl) rfl mv_X5_play ml_X7_114 rfl dX7_would_49 rfl (Nat.le_of_ble_eq_true rfl) (fun r49 τ49 q49 => ?_)
    obtain ⟨rfl, Y, rfl, hRES⟩ := q49
    refine z_iret (pc := 52) h rfl dX7_would_52 ?_
    exact ⟨rfl, fun o o7 o8 _ => by rw [zo_n o8, zo_n o7]⟩
  · rw [if_neg c11]
    refine z_iload (pc := 14) h dX7_would_14 rfl ?_
    refine z_iret (pc := 16) h rfl dX7_would_16 ?_
    exact ⟨rfl, fun _ _ _ _ => rfl⟩
theorem c_delayed {σ : zS} {T : T3} {t b : Int} (hT : OKT T) (hC : CS T σ) (ht : zin t) (hb : zin b) : zC M_X7_delayed 5 [zR 0, zI t, zI b] σ (fun r τ => r = some (zI (@ite Int (LC T.2.2 t b) (dLC T.2.2 t b) (rc (t_lt T t b).2.2) (-1))) ∧ CX σ τ) := by
  have h40 := hT.1.2.2.1
  have h8 := hT.1.2.1
  refine zC_of (M := M_X7_delayed) (ls := [some (zR 0), some (zI t), some (zI b)]) (n := 0) (by decide) (fun ad => Nat.le_of_ble_eq_true rfl) rfl (fun x h => ?_)
  refine z_aloadR_n (pc := 0) h dX7_delayed_0 rfl ?_
  refine z_iload_n (pc := 1) h dX7_delayed_1 rfl ?_
  refine z_iload_n (pc := 2) h dX7_delayed_2 rfl ?_
  refine z_pV (pc := 3) (c := 7) h (c_canBeDelayed hT hC ht hb) (by decide) (by first | assumption | rfl) rfl mv_X7_canBeDelayed ml_X7_141 rfl dX7_delayed_3 rfl (Nat.le_of_ble_eq_true rfl) ?_
  refine z_ifneB (pc := 6) (tgt := 11) h dX7_delayed_6 (by decide) (fun c6 => ?_) (fun c6 => ?_)
  · have hc : LC T.2.2 t b := @of_decide_eq_true _ (dLC T.2.2 t b) c6
    rw [if_pos hc]
    obtain ⟨⟨t0, t1⟩, hb1, hb2⟩ := id hc
    have hat := (hT.1.2.2.2.2.2.2.1 t t0 t1).2.1
    have hU := OKT_lt hT hc
    have hp5 : PLX (p_cp (σ 7) (σ 5)) T := PLX_cp hC.plx
    have hpm := PLX_lt (b := b) hp5 t0 t1
    have ea := hp5.2.2.1 t t0 t1
    have hE : DKE (σ 4) (t_lt T t b).2.2 := DKE_n hT.1 (ANE_lt T t0 b) hC.1
    have hstg : (σ 4).1 3 = (t_lt T t b).2.2 2 := by rw [hC.2.1]; exact (zup_n T.2.2 (T.2.2 (17 + 6 * t + 1) + b) (show (2 : Int) ≠ 17 + 6 * t + 1 by omega)).symm
    have hs40 : 0 ≤ (σ 4).1 3 ∧ (σ 4).1 3 ≤ 40 := by rw [hC.2.1]; exact h40
    refine z_aloadR_n (pc := 11) h dX7_delayed_11 rfl ?_
    refine z_getR (pc := 12) (c := 7) (j := 5) (o2 := 7) h rfl (by first | assumption | rfl) rfl rfl fl_X7_48 dX7_delayed_12 ?_
    refine z_aloadR_n (pc := 15) h dX7_delayed_15 rfl ?_
    refine z_getR (pc := 16) (c := 7) (j := 3) (o2 := 5) h rfl (by first | assumption | rfl) rfl rfl fl_X7_35 dX7_delayed_16 ?_
    refine z_apart 7 ?_
    refine z_vV (pc := 19) (c := 3) h (c_copyFrom rfl rfl (by decide)) (by decide) (by first | assumption | rfl) rfl mv_X3_copyFrom ml_X7_320 rfl dX7_delayed_19 rfl (Nat.le_of_ble_eq_true rfl) ?_
    generalize p_cp (σ 7) (σ 5) = pc at hp5 hpm ea ⊢
    refine z_aloadR_n (pc := 22) h dX7_delayed_22 rfl ?_
    refine z_getR (pc := 23) (c := 7) (j := 5) (o2 := 7) h rfl (by first | assumption | rfl) rfl rfl fl_X7_48 dX7_delayed_23 ?_
    refine z_getA4 (pc := 26) (c := 3) (j := 2) h (by first | assumption | rfl) rfl rfl fl_X7_149 dX7_delayed_26 ?_
    refine z_iload_n (pc := 29) h dX7_delayed_29 rfl ?_
    refine z_dup2AI (pc := 30) h dX7_delayed_30 ?_
    refine z_ialdq (pc := 31) (c := 3) (j := 2) (L := 8) h (zo_s _ _ _) (by first | assumption | rfl) (by decide) rfl (by decide) (by omega) (by omega) dX7_delayed_31 (fun g31 => ?_)
    refine z_iload_n (pc := 32) h dX7_delayed_32 rfl ?_
    refine z_iadd (pc := 33) h dX7_delayed_33 ?_
    refine z_iasto (pc := 34) (c := 3) (j := 2) (L := 8) h (by first | assumption | rfl) (by decide) rfl (by decide) (by omega) (by omega) (by omega) dX7_delayed_34 ?_
    generalize osa pc 2 t (pc.2 2 t + b) = pq at hpm ⊢
    refine z_aloadR_n (pc := 35) h dX7_delayed_35 rfl ?_
    refine z_getR (pc := 36) (c := 7) (j := 6) (o2 := 8) h rfl (by first | assumption | rfl) rfl rfl fl_X7_51 dX7_delayed_36 ?_
    refine z_aloadR_n (pc := 39) h dX7_delayed_39 rfl ?_
    refine z_getR (pc := 40) (c := 7) (j := 2) (o2 := 4) h rfl (by first | assumption | rfl) rfl rfl fl_X7_28 dX7_delayed_40 ?_
    refine z_getIq (pc := 43) (c := 1) (j := 3) h (zo_n (show (4 : Nat) ≠ 7 by decide)) (by first | assumption | rfl) rfl rfl fl_X7_111 dX7_delayed_43 (fun g43 => ?_)
    refine z_apart 8 ?_
    refine z_callV (pc := 46) (c := 5) h (c_play (σ := zo σ 7 pq) (m := ob (t_lt T t b).2.2) runh8 hU.1 hU.2.1.wfr (by rw [zo_n (by decide)]; exact hE) (by rw [zo_s]; exact hpm.ple hU) hstg) (by decide) (by first | assumption | rfl) rfl mv_X5_play ml_X7_114 rfl dX7_delayed_46 rfl (Nat.le_of_ble_eq_true rfl) (fun r46 τ46 q46 => ?_)
    obtain ⟨rfl, Y, rfl, hRES⟩ := q46
    refine z_iret (pc := 49) h rfl dX7_delayed_49 ?_
    exact ⟨rfl, fun o o7 o8 _ => by rw [zo_n o8, zo_n o7]⟩
  · have hn : ¬ LC T.2.2 t b := @of_decide_eq_false _ (dLC T.2.2 t b) c6
    rw [if_neg hn]
    refine z_iconst (pc := 9) h dX7_delayed_9 ?_
    refine z_iret (pc := 10) h rfl dX7_delayed_10 ?_
    exact ⟨rfl, fun _ _ _ _ => rfl⟩
theorem PLX_st {pl : zOb} {T : T3} (s : Int) (h : PLX pl T) : PLX pl (t_st T s) := by
  refine ⟨h.1, h.2.1, fun u u0 u1 => ?_, ?_⟩
  · have u1 : u < zup T.2.2 2 s 1 := u1
    rw [zup_n _ _ (by omega)] at u1
    show pl.2 2 u = zup T.2.2 2 s (17 + 6 * u + 1)
    rw [zup_n _ _ (by omega)]
    exact h.2.2.1 u u0 u1
  · show pl.1 3 = zup T.2.2 2 s 4
    rw [zup_n _ _ (by omega)]
    exact h.2.2.2
theorem c_roomy {σ : zS} {T : T3} {s : Int} (hT : OKT T) (hC : CS T σ) (hs : zin s) : zC M_X7_roomy 5 [zR 0, zI s] σ (fun r τ => r = some (zI (if 0 ≤ s ∧ s ≤ 40 then rc (t_st T s).2.2 else -1)) ∧ CX σ τ) := by
  refine zC_of (M := M_X7_roomy) (ls := [some (zR 0), some (zI s)]) (n := 0) (by decide) (fun ad => Nat.le_of_ble_eq_true rfl) rfl (fun x h => ?_)
  refine z_iload_n (pc := 0) h dX7_roomy_0 rfl ?_
  refine z_if_lt (pc := 1) (tgt := 10) h (by omega) dX7_roomy_1 (by decide) (fun c1 => ?_) (fun c1 => ?_)
  · rw [if_neg (show ¬ (0 ≤ s ∧ s ≤ 40) by omega)]
    refine z_iconst (pc := 10) h dX7_roomy_10 ?_
    refine z_iret (pc := 11) h rfl dX7_roomy_11 ?_
    exact ⟨rfl, fun _ _ _ _ => rfl⟩
  · refine z_iload_n (pc := 4) h dX7_roomy_4 rfl ?_
    refine z_bipush (pc := 5) h dX7_roomy_5 (by decide) ?_
    refine z_icmp_le (pc := 7) (tgt := 12) h (by omega) (by omega) dX7_roomy_7 (by decide) (fun c7 => ?_) (fun c7 => ?_)
    · rw [if_pos (show 0 ≤ s ∧ s ≤ 40 by omega)]
      have hU := OKT_st (s := s) hT (by omega) (by omega)
      have hpm : PLX (p_cp (σ 7) (σ 5)) (t_st T s) := PLX_st s (PLX_cp hC.plx)
      have hE : DKE (σ 4) (t_st T s).2.2 := DKE_n hT.1 (ANE_st T s) hC.1
      refine z_aloadR_n (pc := 12) h dX7_roomy_12 rfl ?_
      refine z_getR (pc := 13) (c := 7) (j := 5) (o2 := 7) h rfl (by first | assumption | rfl) rfl rfl fl_X7_48 dX7_roomy_13 ?_
      refine z_aloadR_n (pc := 16) h dX7_roomy_16 rfl ?_
      refine z_getR (pc := 17) (c := 7) (j := 3) (o2 := 5) h rfl (by first | assumption | rfl) rfl rfl fl_X7_35 dX7_roomy_17 ?_
      refine z_apart 7 ?_
      refine z_vV (pc := 20) (c := 3) h (c_copyFrom rfl rfl (by decide)) (by decide) (by first | assumption | rfl) rfl mv_X3_copyFrom ml_X7_320 rfl dX7_roomy_20 rfl (Nat.le_of_ble_eq_true rfl) ?_
      generalize p_cp (σ 7) (σ 5) = pq at hpm ⊢
      refine z_aloadR_n (pc := 23) h dX7_roomy_23 rfl ?_
      refine z_getR (pc := 24) (c := 7) (j := 6) (o2 := 8) h rfl (by first | assumption | rfl) rfl rfl fl_X7_51 dX7_roomy_24 ?_
      refine z_iload_n (pc := 27) h dX7_roomy_27 rfl ?_
      refine z_apart 8 ?_
      refine z_callV (pc := 28) (c := 5) h (c_play (σ := zo σ 7 pq) (m := ob (t_st T s).2.2) runh8 hU.1 hU.2.1.wfr (by rw [zo_n (by decide)]; exact hE) (by rw [zo_s]; exact hpm.ple hU) (zup_s T.2.2 2 s).symm) (by decide) (by first | assumption | rfl) rfl mv_X5_play ml_X7_114 rfl dX7_roomy_28 rfl (Nat.le_of_ble_eq_true rfl) (fun r28 τ28 q28 => ?_)
      obtain ⟨rfl, Y, rfl, hRES⟩ := q28
      refine z_iret (pc := 31) h rfl dX7_roomy_31 ?_
      exact ⟨rfl, fun o o7 o8 _ => by rw [zo_n o8, zo_n o7]⟩
    · rw [if_neg (show ¬ (0 ≤ s ∧ s ≤ 40) by omega)]
      refine z_iconst (pc := 10) h dX7_roomy_10 ?_
      refine z_iret (pc := 11) h rfl dX7_roomy_11 ?_
      exact ⟨rfl, fun _ _ _ _ => rfl⟩
theorem c_least {σ : zS} {T : T3} (hT : OKT T) (hC : CS T σ) : zC M_X7_least 5 [zR 0] σ (fun r τ => r = some (zI (lst T)) ∧ CX σ τ) := by
  have h40 := hT.1.2.2.1
  have e3 := hC.2.1
  have hcb := rc_b hT
  have hcost : (σ 6).1 18 = rc T.2.2 := hC.2.2.2.2.2
  have hsame := t_st_same T
  have hp : PLX (p_cp (σ 7) (σ 5)) T := PLX_cp hC.plx
  refine zC_of (M := M_X7_least) (ls := [some (zR 0), none]) (n := 1) (by decide) (fun ad => Nat.le_of_ble_eq_true rfl) rfl (fun x h => ?_)
  have L : ∀ (pq : zOb), PLX pq T → ∀ (n : Nat) (s : Int) (Y : zOb), 0 ≤ s → s ≤ T.2.2 2 → T.2.2 2 - s < n → (∀ j, 0 ≤ j → j < s → ¬ rc (t_st T j).2.2 ≤ rc T.2.2) → zW x (fun r τ => r = some (zI (lst T)) ∧ CX σ τ) 13 [some (zR 0), some (zI s)] [] (zo (zo σ 7 pq) 8 Y) := by
    intro pq hp n
    induction n with
    | zero => intro s Y h1 h2 h3; omega
    | succ n ih =>
      intro s Y h1 h2 h3 hj
      have hU := OKT_st (s := s) hT h1 (by omega)
      have hsb := rc_b hU
      have hpm : PLX pq (t_st T s) := PLX_st s hp
      have hE : DKE (σ 4) (t_st T s).2.2 := DKE_n hT.1 (ANE_st T s) hC.1
      have e4 : (zo (zo σ 7 pq) 8 Y) 4 = σ 4 := by rw [zo_n (by decide), zo_n (by decide)]
      have e6 : ∀ Y, (zo (zo σ 7 pq) 8 Y) 6 = σ 6 := fun Y => by rw [zo_n (by decide), zo_n (by decide)]
      refine z_iload_n (pc := 13) h dX7_least_13 rfl ?_
      refine z_aloadR_n (pc := 14) h dX7_least_14 rfl ?_
      refine z_getR (pc := 15) (c := 7) (j := 2) (o2 := 4) h rfl (by first | assumption | rfl) rfl rfl fl_X7_28 dX7_least_15 ?_
      refine z_getIq (pc := 18) (c := 1) (j := 3) h e4 (by first | assumption | rfl) rfl rfl fl_X7_111 dX7_least_18 (fun g18 => ?_)
      refine z_icmp_ge (pc := 21) (tgt := 50) h (by omega) (by omega) dX7_least_21 (by decide) (fun c21 => ?_) (fun c21 => ?_)
      · refine z_aloadR_n (pc := 50) h dX7_least_50 rfl ?_
        refine z_getR (pc := 51) (c := 7) (j := 2) (o2 := 4) h rfl (by first | assumption | rfl) rfl rfl fl_X7_28 dX7_least_51 ?_
        refine z_getIq (pc := 54) (c := 1) (j := 3) h e4 (by first | assumption | rfl) rfl rfl fl_X7_111 dX7_least_54 (fun g54 => ?_)
        refine z_iret (pc := 57) h rfl dX7_least_57 ?_
        refine ⟨congrArg (fun z => some (zI z)) ?_, fun o o7 o8 _ => by rw [zo_n o8, zo_n o7]⟩
        have es : s = T.2.2 2 := by omega
        rw [e3]
        refine (zfst_some h40.1 (by omega) (decide_eq_true (by rw [hsame]; exact Int.le_refl _)) (fun j j0 j1 => decide_eq_false (hj j j0 (by omega)))).symm
      · refine z_aloadR_n (pc := 24) h dX7_least_24 rfl ?_
        refine z_getR (pc := 25) (c := 7) (j := 6) (o2 := 8) h rfl (by first | assumption | rfl) rfl rfl fl_X7_51 dX7_least_25 ?_
        refine z_iload_n (pc := 28) h dX7_least_28 rfl ?_
        refine z_callV (pc := 29) (c := 5) h (c_play (σ := zo σ 7 pq) (m := ob (t_st T s).2.2) runh8 hU.1 hU.2.1.wfr (by rw [zo_n (by decide)]; exact hE) (by rw [zo_s]; exact hpm.ple hU) (zup_s T.2.2 2 s).symm) (by decide) (by first | assumption | rfl) rfl mv_X5_play ml_X7_114 rfl dX7_least_29 rfl (Nat.le_of_ble_eq_true rfl) (fun r29 τ29 q29 => ?_)
        obtain ⟨rfl, Y2, rfl, hRES⟩ := q29
        have hc : s_cost (s_run (ob (t_st T s).2.2)) = rc (t_st T s).2.2 := rfl
        rw [hc]
        refine z_aloadR_n (pc := 32) h dX7_least_32 rfl ?_
        refine z_getR (pc := 33) (c := 7) (j := 4) (o2 := 6) h rfl (by first | assumption | rfl) rfl rfl fl_X7_44 dX7_least_33 ?_
        refine z_getIq (pc := 36) (c := 5) (j := 18) h (e6 _) (by first | assumption | rfl) rfl rfl fl_X7_177 dX7_least_36 (fun g36 => ?_)
        refine z_icmp_gt (pc := 39) (tgt := 44) h (by omega) (by omega) dX7_least_39 (by decide) (fun c39 => ?_) (fun c39 => ?_)
        · refine z_inc_1 (pc := 44) h dX7_least_44 (by decide) rfl ?_
          refine z_goto (pc := 47) (tgt := 13) h dX7_least_47 (by decide) ?_
          refine ih (s + 1) Y2 (by omega) (by omega) (by omega) (fun j j0 j1 => ?_)
          by_cases e : j = s
          · rw [e]; omega
          · exact hj j j0 (by omega)
        · refine z_iload_n (pc := 42) h dX7_least_42 rfl ?_
          refine z_iret (pc := 43) h rfl dX7_least_43 ?_
          refine ⟨congrArg (fun z => some (zI z)) ?_, fun o o7 o8 _ => by rw [zo_n o8, zo_n o7]⟩
          exact (zfst_some h1 (by omega) (decide_eq_true (by omega)) (fun j j0 j1 => decide_eq_false (hj j j0 j1))).symm
  refine z_apart 7 ?_
  refine z_aloadR_n (pc := 0) h dX7_least_0 rfl ?_
  refine z_getR (pc := 1) (c := 7) (j := 5) (o2 := 7) h rfl (by first | assumption | rfl) rfl rfl fl_X7_48 dX7_least_1 ?_
  refine z_aloadR_n (pc := 4) h dX7_least_4 rfl ?_
  refine z_getR (pc := 5) (c := 7) (j := 3) (o2 := 5) h rfl (by first | assumption | rfl) rfl rfl fl_X7_35 dX7_least_5 ?_
  refine z_vV (pc := 8) (c := 3) h (c_copyFrom rfl rfl (by decide)) (by decide) (by first | assumption | rfl) rfl mv_X3_copyFrom ml_X7_320 rfl dX7_least_8 rfl (Nat.le_of_ble_eq_true rfl) ?_
  refine z_iconst (pc := 11) h dX7_least_11 ?_
  refine z_ist_1 (pc := 12) h dX7_least_12 (by decide) rfl ?_
  refine z_apart 8 ?_
  exact L _ hp (T.2.2 2 + 1).toNat 0 _ (by omega) (by omega) (by omega) (fun j j0 j1 => by omega)
