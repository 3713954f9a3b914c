/-! The class: late, now, step, repair, undo. -/
theorem PLX_lt {pl : zOb} {T : T3} {t b : Int} (h : PLX pl T) (t0 : 0 ≤ t) (t1 : t < T.2.2 1) : PLX (osa pl 2 t (pl.2 2 t + b)) (t_lt T t b) := by
  refine ⟨h.1, h.2.1, fun u u0 u1 => ?_, ?_⟩
  · have u1 : u < zup T.2.2 (17 + 6 * t + 1) (T.2.2 (17 + 6 * t + 1) + b) 1 := u1
    rw [zup_n _ _ (by omega)] at u1
    show zup (pl.2 2) t (pl.2 2 t + b) u = zup T.2.2 (17 + 6 * t + 1) (T.2.2 (17 + 6 * t + 1) + b) (17 + 6 * u + 1)
    by_cases y : u = t
    · rw [y, zup_s, zup_s, h.2.2.1 t t0 t1]
    · rw [zup_n _ _ y, zup_n _ _ (by omega)]
      exact h.2.2.1 u u0 u1
  · show pl.1 3 = zup T.2.2 (17 + 6 * t + 1) (T.2.2 (17 + 6 * t + 1) + b) 4
    rw [zup_n _ _ (by omega)]
    exact h.2.2.2
theorem c_late {σ : zS} {T : T3} {t b : Int} (hT : OKT T) (hC : CS T σ) (hA : ACI σ) (ht : zin t) (hb : zin b) : zC M_X7_late 6 [zR 0, zI t, zI b] σ (fun r τ => r = some (zI (if ltK T t b = 0 then T.2.2 (17 + 6 * t + 1) + b else ltK T t b)) ∧ (if ltK T t b = 0 then CS (t_lt T t b) τ ∧ AK σ τ ∧ FRc σ τ else τ = σ)) := by
  have h40 := hT.1.2.2.1
  have h8 := hT.1.2.1
  refine zC_of (M := M_X7_late) (ls := [some (zR 0), some (zI t), some (zI b)]) (n := 0) (by decide) (fun ad => Nat.le_of_ble_eq_true rfl) rfl (fun x h => ?_)
  refine z_aloadR_n (pc := 0) h dX7_late_0 rfl ?_
  refine z_iload_n (pc := 1) h dX7_late_1 rfl ?_
  refine z_iload_n (pc := 2) h dX7_late_2 rfl ?_
  refine z_pV (pc := 3) (c := 7) h (c_canBeDelayed hT hC ht hb) (by decide) (by first | assumption | rfl) rfl mv_X7_canBeDelayed ml_X7_141 rfl dX7_late_3 rfl (Nat.le_of_ble_eq_true rfl) ?_
  refine z_ifneB (pc := 6) (tgt := 11) h dX7_late_6 (by decide) (fun c6 => ?_) (fun c6 => ?_)
  · have hc : LC T.2.2 t b := @of_decide_eq_true _ (dLC T.2.2 t b) c6
    obtain ⟨⟨t0, t1⟩, hb1, hb2⟩ := id hc
    have hat := (hT.1.2.2.2.2.2.2.1 t t0 t1).2.1
    refine z_aloadR_n (pc := 11) h dX7_late_11 rfl ?_
    refine z_iload_n (pc := 12) h dX7_late_12 rfl ?_
    refine z_pV (pc := 13) (c := 7) h (c_isFixed hT hC t0 t1) (by decide) (by first | assumption | rfl) rfl mv_X7_isFixed ml_X7_145 rfl dX7_late_13 rfl (Nat.le_of_ble_eq_true rfl) ?_
    refine z_ifeqB (pc := 16) (tgt := 22) h dX7_late_16 (by decide) (fun c16 => ?_) (fun c16 => ?_)
    · have hk : ltK T t b = 0 := by unfold ltK; rw [if_pos hc, if_neg (by rw [c16]; simp)]
      rw [hk]
      simp only [if_true]
      have hU := OKT_lt hT hc
      refine z_aloadR_n (pc := 22) h dX7_late_22 rfl ?_
      refine z_getR (pc := 23) (c := 7) (j := 8) (o2 := 10) h rfl (by first | assumption | rfl) rfl rfl fl_X7_60 dX7_late_23 ?_
      refine z_aloadR_n (pc := 26) h dX7_late_26 rfl ?_
      refine z_getR (pc := 27) (c := 7) (j := 3) (o2 := 5) h rfl (by first | assumption | rfl) rfl rfl fl_X7_35 dX7_late_27 ?_
      refine z_callV (pc := 30) (c := 0) h (c_keep hA) (by decide) (by first | assumption | rfl) rfl mv_X0_keep ml_X7_125 rfl dX7_late_30 rfl (Nat.le_of_ble_eq_true rfl) (fun r30 τ30 q30 => ?_)
      obtain ⟨rfl, a1, a2, a3, a4, a5⟩ := q30
      have hAK : AK σ τ30 := ⟨a1, a2, a4, a5⟩
      have e4 : τ30 4 = σ 4 := a3 4 (by omega)
      have hp5 : PLX (τ30 5) T := by rw [a3 5 (by omega)]; exact hC.plx
      have hpm := PLX_lt (b := b) hp5 t0 t1
      have ea := hp5.2.2.1 t t0 t1
      have hE : DKE (τ30 4) (t_lt T t b).2.2 := by rw [e4]; exact DKE_n hT.1 (ANE_lt T t0 b) hC.1
      have hstg : (τ30 4).1 3 = (t_lt T t b).2.2 2 := by rw [e4, hC.2.1]; exact (zup_n _ _ (by omega)).symm
      have hs40 : 0 ≤ (τ30 4).1 3 ∧ (τ30 4).1 3 ≤ 40 := by rw [e4, hC.2.1]; exact h40
      refine z_apart 5 ?_
      refine z_aloadR_n (pc := 33) h dX7_late_33 rfl ?_
      refine z_getR (pc := 34) (c := 7) (j := 3) (o2 := 5) h rfl (by first | assumption | rfl) rfl rfl fl_X7_35 dX7_late_34 ?_
      refine z_getA4 (pc := 37) (c := 3) (j := 2) h (by first | assumption | rfl) rfl rfl fl_X7_149 dX7_late_37 ?_
      refine z_iload_n (pc := 40) h dX7_late_40 rfl ?_
      refine z_dup2AI (pc := 41) h dX7_late_41 ?_
      refine z_ialdq (pc := 42) (c := 3) (j := 2) (L := 8) h (zo_s _ _ _) (by first | assumption | rfl) (by decide) rfl (by decide) (by omega) (by omega) dX7_late_42 (fun g42 => ?_)
      refine z_iload_n (pc := 43) h dX7_late_43 rfl ?_
      refine z_iadd (pc := 44) h dX7_late_44 ?_
      refine z_iasto (pc := 45) (c := 3) (j := 2) (L := 8) h (by first | assumption | rfl) (by decide) rfl (by decide) (by omega) (by omega) (by omega) dX7_late_45 ?_
      have ep : (osa (τ30 5) 2 t ((τ30 5).2 2 t + b)).2 2 t = T.2.2 (17 + 6 * t + 1) + b := by show zup ((τ30 5).2 2) t ((τ30 5).2 2 t + b) t = _; rw [zup_s, ea]
      generalize osa (τ30 5) 2 t ((τ30 5).2 2 t + b) = pq at hpm ep ⊢
      refine z_aloadR_n (pc := 46) h dX7_late_46 rfl ?_
      refine z_getR (pc := 47) (c := 7) (j := 4) (o2 := 6) h rfl (by first | assumption | rfl) rfl rfl fl_X7_44 dX7_late_47 ?_
      refine z_aloadR_n (pc := 50) h dX7_late_50 rfl ?_
      refine z_getR (pc := 51) (c := 7) (j := 2) (o2 := 4) h rfl (by first | assumption | rfl) rfl rfl fl_X7_28 dX7_late_51 ?_
      refine z_getIq (pc := 54) (c := 1) (j := 3) h (zo_n (show (4 : Nat) ≠ 5 by decide)) (by first | assumption | rfl) rfl rfl fl_X7_111 dX7_late_54 (fun g54 => ?_)
      refine z_apart 6 ?_
      refine z_callV (pc := 57) (c := 5) h (c_play (σ := zo τ30 5 pq) (m := ob (t_lt T t b).2.2) runh6 hU.1 hU.2.1.wfr (by rw [zo_n (by decide)]; exact hE) (by rw [zo_s]; exact hpm.ple hU) hstg) (by decide) (by first | assumption | rfl) rfl mv_X5_play ml_X7_114 rfl dX7_late_57 rfl (Nat.le_of_ble_eq_true rfl) (fun r57 τ57 q57 => ?_)
      obtain ⟨rfl, Y, rfl, hRES⟩ := q57
      rw [zo_comm (show (5 : Nat) ≠ 6 by decide)]
      refine z_popI (pc := 60) h dX7_late_60 ?_
      refine z_aloadR_n (pc := 61) h dX7_late_61 rfl ?_
      refine z_getR (pc := 62) (c := 7) (j := 3) (o2 := 5) h rfl (by first | assumption | rfl) rfl rfl fl_X7_35 dX7_late_62 ?_
      refine z_getA4 (pc := 65) (c := 3) (j := 2) h (by first | assumption | rfl) rfl rfl fl_X7_149 dX7_late_65 ?_
      refine z_iload_n (pc := 68) h dX7_late_68 rfl ?_
      refine z_ialdq (pc := 69) (c := 3) (j := 2) (L := 8) h (zo_s _ _ _) (by first | assumption | rfl) (by decide) rfl (by decide) (by omega) (by omega) dX7_late_69 (fun g69 => ?_)
      try simp only [osa_1, osa_2, oss_1, oss_2, osA_1, osA_2, zup_s, reduceIte, Nat.reduceEqDiff] at g69 ⊢
      refine z_iret (pc := 70) h rfl dX7_late_70 ?_
      refine ⟨by rw [ep], ⟨?_, ?_, ?_, ?_⟩, ?_, fun o ho => ?_⟩
      · rw [zo_n (by decide), zo_n (by decide)]; exact hE
      · rw [zo_n (by decide), zo_n (by decide)]; exact hstg
      · rw [zo_s]; exact hpm
      · rw [zo_n (by decide), zo_s]; exact hRES
      · exact AK_zo (AK_zo hAK (by decide) hA.2) (by decide) hA.2
      · rw [zo_n (by omega), zo_n (by omega)]; exact a3 o (by omega)
    · have hk : ltK T t b = -2 := by unfold ltK; rw [if_pos hc, if_pos c16]
      rw [hk]
      simp only [if_neg (show ¬ (-2 : Int) = 0 by decide)]
      refine z_bipush (pc := 19) h dX7_late_19 (by decide) ?_
      refine z_iret (pc := 21) h rfl dX7_late_21 ?_
      exact ⟨rfl, rfl⟩
  · have hn : ¬ LC T.2.2 t b := @of_decide_eq_false _ (dLC T.2.2 t b) c6
    have hk : ltK T t b = -1 := by unfold ltK; rw [if_neg hn]
    rw [hk]
    simp only [if_neg (show ¬ (-1 : Int) = 0 by decide)]
    refine z_iconst (pc := 9) h dX7_late_9 ?_
    refine z_iret (pc := 10) h rfl dX7_late_10 ?_
    exact ⟨rfl, rfl⟩
/-- a run does not look at the minute that it is -/
theorem c_now {σ : zS} {T : T3} {v : Int} (hT : OKT T) (hC : CS T σ) (hA : ACI σ) (hv : zin v) : zC M_X7_now 3 [zR 0, zI v] σ (fun r τ => r = some (zB (nwK T v)) ∧ (if nwK T v = true then CS (t_nw T v) τ ∧ AK σ τ ∧ FRc σ τ else τ = σ)) := by
  have h4 := hT.1.2.2.2.2.1
  have e3 := hC.2.2.1.2.2.2
  refine zC_of (M := M_X7_now) (ls := [some (zR 0), some (zI v)]) (n := 0) (by decide) (fun ad => Nat.le_of_ble_eq_true rfl) rfl (fun x h => ?_)
  refine z_iload_n (pc := 0) h dX7_now_0 rfl ?_
  refine z_aloadR_n (pc := 1) h dX7_now_1 rfl ?_
  refine z_getR (pc := 2) (c := 7) (j := 3) (o2 := 5) h rfl (by first | assumption | rfl) rfl rfl fl_X7_35 dX7_now_2 ?_
  refine z_getIq (pc := 5) (c := 3) (j := 3) h rfl (by first | assumption | rfl) rfl rfl fl_X7_153 dX7_now_5 (fun g5 => ?_)
  refine z_icmp_le (pc := 8) (tgt := 18) h (by omega) (by omega) dX7_now_8 (by decide) (fun c8 => ?_) (fun c8 => ?_)
  · have hk : nwK T v = false := decide_eq_false (by omega)
    rw [hk]
    simp only [Bool.false_eq_true, if_false]
    refine z_iconst (pc := 18) h dX7_now_18 ?_
    refine z_zret (pc := 19) h rfl (by omega) dX7_now_19 ?_
    exact ⟨rfl, rfl⟩
  · refine z_iload_n (pc := 11) h dX7_now_11 rfl ?_
    refine z_sipush (pc := 12) h dX7_now_12 (by decide) ?_
    refine z_icmp_lt (pc := 15) (tgt := 20) h (by omega) (by omega) dX7_now_15 (by decide) (fun c15 => ?_) (fun c15 => ?_)
    · have hk : nwK T v = true := decide_eq_true (by omega)
      rw [hk]
      simp only [if_true]
      refine z_aloadR_n (pc := 20) h dX7_now_20 rfl ?_
      refine z_getR (pc := 21) (c := 7) (j := 8) (o2 := 10) h rfl (by first | assumption | rfl) rfl rfl fl_X7_60 dX7_now_21 ?_
      refine z_aloadR_n (pc := 24) h dX7_now_24 rfl ?_
      refine z_getR (pc := 25) (c := 7) (j := 3) (o2 := 5) h rfl (by first | assumption | rfl) rfl rfl fl_X7_35 dX7_now_25 ?_
      refine z_callV (pc := 28) (c := 0) h (c_keep hA) (by decide) (by first | assumption | rfl) rfl mv_X0_keep ml_X7_125 rfl dX7_now_28 rfl (Nat.le_of_ble_eq_true rfl) (fun r28 τ28 q28 => ?_)
      obtain ⟨rfl, a1, a2, a3, a4, a5⟩ := q28
      have hAK : AK σ τ28 := ⟨a1, a2, a4, a5⟩
      have e4 : τ28 4 = σ 4 := a3 4 (by omega)
      have hp5 : PLX (τ28 5) T := by rw [a3 5 (by omega)]; exact hC.plx
      refine z_apart 5 ?_
      refine z_aloadR_n (pc := 31) h dX7_now_31 rfl ?_
      refine z_getR (pc := 32) (c := 7) (j := 3) (o2 := 5) h rfl (by first | assumption | rfl) rfl rfl fl_X7_35 dX7_now_32 ?_
      refine z_iload_n (pc := 35) h dX7_now_35 rfl ?_
      refine z_putI (pc := 36) (c := 3) (j := 3) h (by first | assumption | rfl) rfl rfl fl_X7_153 rfl (tyX3_ok 3 (by decide)) dX7_now_36 (by omega) ?_
      first | rw [zss_zo] | skip
      refine z_iconst (pc := 39) h dX7_now_39 ?_
      refine z_zret (pc := 40) h rfl (by omega) dX7_now_40 ?_
      refine ⟨rfl, ⟨?_, ?_, ?_, ?_⟩, ?_, fun o ho => ?_⟩
      · rw [zo_n (by decide), e4]; exact DKE_n hT.1 (ANE_nw T v) hC.1
      · rw [zo_n (by decide), e4, hC.2.1]; exact (zup_n T.2.2 v (show (2 : Int) ≠ 4 by decide)).symm
      · rw [zo_s]
        refine ⟨hp5.1, hp5.2.1, fun u u0 u1 => ?_, ?_⟩
        · have u1 : u < zup T.2.2 4 v 1 := u1
          rw [zup_n _ _ (by omega)] at u1
          show (τ28 5).2 2 u = zup T.2.2 4 v (17 + 6 * u + 1)
          rw [zup_n _ _ (by omega)]
          exact hp5.2.2.1 u u0 u1
        · show v = zup T.2.2 4 v 4
          rw [zup_s]
      · rw [zo_n (by decide), a3 6 (by omega)]
        exact RES_4 hT.1 hT.2.1.wfr (fun i _ _ h4 => zup_n T.2.2 v h4) hC.2.2.2
      · exact AK_zo hAK (by decide) hA.2
      · rw [zo_n (by omega)]; exact a3 o (by omega)
    · have hk : nwK T v = false := decide_eq_false (by omega)
      rw [hk]
      simp only [Bool.false_eq_true, if_false]
      refine z_iconst (pc := 18) h dX7_now_18 ?_
      refine z_zret (pc := 19) h rfl (by omega) dX7_now_19 ?_
      exact ⟨rfl, rfl⟩
theorem ACI_cx {σ τ : zS} (h : CX σ τ) (hA : ACI σ) : ACI τ ∧ (τ 10).1 1 = (σ 10).1 1 ∧ ∀ i, 0 ≤ i → i < 8 → pa τ i = pa σ i := by
  have e : τ 10 = σ 10 := h 10 (by decide) (by decide) (by decide)
  refine ⟨by unfold ACI; rw [e]; exact hA, by rw [e], fun i i0 i1 => ?_⟩
  have := hA.1.1 i i0 i1
  unfold pa
  rw [e]
  exact h _ (by omega) (by omega) (by omega)
/-- acts kept after a search, told by the state before it -/
theorem AK_cx {σ τ υ : zS} (h : CX σ τ) (hA : ACI σ) (hk : AK τ υ) : AK σ υ := by
  obtain ⟨e1, e2, e3⟩ := ACI_cx h hA
  obtain ⟨h1, h2, h3, Z, h4⟩ := hk
  have hm := hA.2
  rw [e2] at h2 h3 h4
  refine ⟨h1, h2, fun i i0 i1 => ?_, Z, ?_⟩
  · rw [h3 i i0 i1]
    refine e3 _ ?_ ?_
    · split <;> omega
    · split at i1 <;> split <;> omega
  · rw [h4, h 5 (by decide) (by decide) (by decide)]
theorem AK_o {σ τ υ : zS} (h : AK σ τ) (hm : 0 ≤ (σ 10).1 1 ∧ (σ 10).1 1 ≤ 8) (ho : ∀ o, 10 ≤ o → υ o = τ o) : AK σ υ := by
  obtain ⟨h1, h2, h3, Z, h4⟩ := h
  have e : υ 10 = τ 10 := ho 10 (by decide)
  have hN : 0 ≤ (if (σ 10).1 1 < 8 then (σ 10).1 1 else 7) ∧ (if (σ 10).1 1 < 8 then (σ 10).1 1 else 7) < 8 := by split <;> omega
  have hpa : ∀ i, 0 ≤ i → i < 8 → pa υ i = pa τ i := fun i i0 i1 => by
    have := h1.1.1 i i0 i1
    unfold pa
    rw [e]
    exact ho _ (by omega)
  refine ⟨by unfold ACI; rw [e]; exact h1, by rw [e]; exact h2, fun i i0 i1 => ?_, Z, ?_⟩
  · rw [hpa i i0 (by omega)]; exact h3 i i0 i1
  · rw [hpa _ hN.1 hN.2]; exact h4
theorem c_step {σ : zS} {T : T3} (hT : OKT T) (hC : CS T σ) (hA : ACI σ) : zC M_X7_step 8 [zR 0] σ (fun r τ => r = some (zI (if (srch T).1 < rc T.2.2 then (srch T).1 else -1)) ∧ (if (srch T).1 < rc T.2.2 then CS (srch T).2 τ ∧ AK σ τ ∧ FRc σ τ else CX σ τ)) := by
  refine zC_of (M := M_X7_step) (ls := [some (zR 0)]) (n := 0) (by decide) (fun ad => Nat.le_of_ble_eq_true rfl) rfl (fun x h => ?_)
  refine z_aloadR_n (pc := 0) h dX7_step_0 rfl ?_
  refine z_callV (pc := 1) (c := 7) h (c_findStep hT hC) (by decide) (by first | assumption | rfl) rfl mv_X7_findStep ml_X7_156 rfl dX7_step_1 rfl (Nat.le_of_ble_eq_true rfl) (fun r1 τ1 q1 => ?_)
  obtain ⟨rfl, hX, hB⟩ := q1
  refine z_ifneB (pc := 4) (tgt := 9) h dX7_step_4 (by decide) (fun c4 => ?_) (fun c4 => ?_)
  · have hlt := of_decide_eq_true c4
    rw [if_pos hlt]
    simp only [if_pos hlt]
    have hG := (GS_s hT).2 hlt
    have hp := hB hlt
    have hCt := hX.cs hC
    refine z_aloadR_n (pc := 9) h dX7_step_9 rfl ?_
    refine z_getR (pc := 10) (c := 7) (j := 8) (o2 := 10) h rfl (by first | assumption | rfl) rfl rfl fl_X7_60 dX7_step_10 ?_
    refine z_aloadR_n (pc := 13) h dX7_step_13 rfl ?_
    refine z_getR (pc := 14) (c := 7) (j := 3) (o2 := 5) h rfl (by first | assumption | rfl) rfl rfl fl_X7_35 dX7_step_14 ?_
    refine z_callV (pc := 17) (c := 0) h (c_keep (ACI_cx hX hA).1) (by decide) (by first | assumption | rfl) rfl mv_X0_keep ml_X7_125 rfl dX7_step_17 rfl (Nat.le_of_ble_eq_true rfl) (fun r17 τ17 q17 => ?_)
    obtain ⟨rfl, a1, a2, a3, a4, a5⟩ := q17
    have hAK : AK σ τ17 := AK_cx hX hA ⟨a1, a2, a4, a5⟩
    have hE : DKE (τ17 4) (srch T).2.2.2 := by rw [a3 4 (by omega)]; exact DKE_x hG.2.1.lo hT.1.1.2 hT.1.2.1.2 hCt.1
    have hstg : (τ17 4).1 3 = (srch T).2.2.2 2 := by rw [a3 4 (by omega), hCt.2.1]; exact (hG.2.1 2 (by omega)).symm
    refine z_aloadR_n (pc := 20) h dX7_step_20 rfl ?_
    refine z_callV (pc := 21) (c := 7) h (c_takeStep hG.1 hE hstg (by rw [a3 9 (by omega)]; exact hp)) (by decide) (by first | assumption | rfl) rfl mv_X7_takeStep ml_X7_160 rfl dX7_step_21 rfl (Nat.le_of_ble_eq_true rfl) (fun r21 τ21 q21 => ?_)
    obtain ⟨rfl, hCn, hO⟩ := q21
    refine z_iret (pc := 24) h rfl dX7_step_24 ?_
    refine ⟨by rw [hG.2.2], hCn, AK_o hAK hA.2 (fun o ho => hO o (by omega) (by omega)), fun o ho => ?_⟩
    rw [hO o (by omega) (by omega), a3 o (by omega)]
    exact hX o (by omega) (by omega) (by omega)
  · have hlt := of_decide_eq_false c4
    rw [if_neg hlt]
    simp only [if_neg hlt]
    refine z_iconst (pc := 7) h dX7_step_7 ?_
    refine z_iret (pc := 8) h rfl dX7_step_8 ?_
    exact ⟨rfl, hX⟩
