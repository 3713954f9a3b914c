/-! The class: swaps tried, a step found and taken; counts of moves. -/
theorem swT_b (T : T3) (t u : Int) : zin (swT T t u) := by
  unfold swT swC
  split
  · split <;> omega
  · omega
theorem mvT_b (T : T3) (t d k : Int) : zin (mvT T t d k) := by
  unfold mvT mvC
  split
  · split
    · omega
    · split <;> omega
  · omega
theorem c_trySwaps {σ : zS} {T : T3} {s0 : Int × T3} (hT : OKT T) (hC : CS T σ) (hG0 : GS T s0) (hB0 : BSC T σ s0) : zC M_X7_trySwaps 6 [zR 0, zI s0.1] σ (fun r τ => r = some (zI (sr_s T s0).1) ∧ CX σ τ ∧ BSC T τ (sr_s T s0)) := by
  have h8 := hT.1.2.1
  have hcb := hG0.b hT
  refine zC_of (M := M_X7_trySwaps) (ls := [some (zR 0), some (zI s0.1), none, none, none]) (n := 3) (by decide) (fun ad => Nat.le_of_ble_eq_true rfl) rfl (fun x h => ?_)
  have L : ∀ (n : Nat) (t : Int) (τ : zS) (s : Int × T3) (l4 : Option Value), 0 ≤ t → t ≤ T.2.2 1 → T.2.2 1 - t < n → CX σ τ → s = zfor (sr_x T) t s0 → GS T s → BSC T τ s → zW x (fun r τ => r = some (zI (sr_s T s0).1) ∧ CX σ τ ∧ BSC T τ (sr_s T s0)) 4 [some (zR 0), some (zI s0.1), some (zI s.1), some (zI t), l4] [] τ := by
    intro n
    induction n with
    | zero => intro t τ s l4 h1 h2 h3; omega
    | succ n ih =>
      intro t τ s l4 h1 h2 h3 hX hs hG hB
      have e1 := (hX.cs hC).1.2.1
      have L2 : ∀ (n2 : Nat) (u : Int) (τ : zS) (s2 : Int × T3), t < T.2.2 1 → t + 1 ≤ u → u ≤ T.2.2 1 → T.2.2 1 - u < n2 → CX σ τ → s2 = zfor (sr_u T t) u s → GS T s2 → BSC T τ s2 → zW x (fun r τ => r = some (zI (sr_s T s0).1) ∧ CX σ τ ∧ BSC T τ (sr_s T s0)) 20 [some (zR 0), some (zI s0.1), some (zI s2.1), some (zI t), some (zI u)] [] τ := by
        intro n2
        induction n2 with
        | zero => intro u τ s2 g0 g1 g2 g3; omega
        | succ n2 ih2 =>
          intro u τ s2 g0 g1 g2 g3 hX hs2 hG hB
          have hCt := hX.cs hC
          have e1 := hCt.1.2.1
          have hsb := hG.b hT
          have hswb := swT_b T t u
          have hstep : sr_u T t u s2 = zfor (sr_u T t) (u + 1) s := by rw [zfor_S _ (by omega), hs2]
          have hG' := GS_u hT hG t u
          refine z_iload (pc := 20) h dX7_trySwaps_20 rfl ?_
          refine z_aloadR_n (pc := 22) h dX7_trySwaps_22 rfl ?_
          refine z_getR (pc := 23) (c := 7) (j := 2) (o2 := 4) h rfl (by first | assumption | rfl) rfl rfl fl_X7_28 dX7_trySwaps_23 ?_
          refine z_getIq (pc := 26) (c := 1) (j := 1) h rfl (by first | assumption | rfl) rfl rfl fl_X7_118 dX7_trySwaps_26 (fun g26 => ?_)
          refine z_icmp_ge (pc := 29) (tgt := 75) h (by omega) (by omega) dX7_trySwaps_29 (by decide) (fun c29 => ?_) (fun c29 => ?_)
          · refine z_inc_3 (pc := 75) h dX7_trySwaps_75 (by decide) rfl ?_
            refine z_goto (pc := 78) (tgt := 4) h dX7_trySwaps_78 (by decide) ?_
            refine ih (t + 1) τ s2 _ (by omega) (by omega) (by omega) hX ?_ hG hB
            rw [zfor_S _ h1, ← hs, hs2, show u = T.2.2 1 by omega]
            rfl
          · refine z_aloadR_n (pc := 32) h dX7_trySwaps_32 rfl ?_
            refine z_iload_n (pc := 33) h dX7_trySwaps_33 rfl ?_
            refine z_iload (pc := 34) h dX7_trySwaps_34 rfl ?_
            refine z_pV (pc := 36) (c := 7) h (c_swapRefusal hT hCt (by omega) (by omega)) (by decide) (by first | assumption | rfl) rfl mv_X7_swapRefusal ml_X7_133 rfl dX7_trySwaps_36 rfl (Nat.le_of_ble_eq_true rfl) ?_
            refine z_if_ne (pc := 39) (tgt := 69) h (by omega) dX7_trySwaps_39 (by decide) (fun c39 => ?_) (fun c39 => ?_)
            · have hskip : sr_u T t u s2 = s2 := by unfold sr_u; rw [if_pos (by omega), if_neg c39]
              refine z_inc_4 (pc := 69) h dX7_trySwaps_69 (by decide) rfl ?_
              refine z_goto (pc := 72) (tgt := 20) h dX7_trySwaps_72 (by decide) ?_
              first
              | exact ih2 (u + 1) τ65 _ g0 (by omega) (by omega) (by omega) hX3 hstep hG' hB3
              | (rw [← hskip]; exact ih2 (u + 1) τ _ g0 (by omega) (by omega) (by omega) hX hstep hG' (by rw [hskip]; exact hB))
            · have hc := swC_0 c39
              have hskip : sr_u T t u s2 = tr1 (t_sw T t u) s2 := by unfold sr_u; rw [if_pos (by omega), if_pos c39]
              have hpc : PLX (p_cp (τ 7) (τ 5)) T := PLX_cp hCt.2.2.1
              have hpm := PLX_sw hpc hT hc
              refine z_aloadR_n (pc := 42) h dX7_trySwaps_42 rfl ?_
              refine z_getR (pc := 43) (c := 7) (j := 5) (o2 := 7) h rfl (by first | assumption | rfl) rfl rfl fl_X7_48 dX7_trySwaps_43 ?_
              refine z_aloadR_n (pc := 46) h dX7_trySwaps_46 rfl ?_
              refine z_getR (pc := 47) (c := 7) (j := 3) (o2 := 5) h rfl (by first | assumption | rfl) rfl rfl fl_X7_35 dX7_trySwaps_47 ?_
              refine z_apart 7 ?_
              refine z_vV (pc := 50) (c := 3) h (c_copyFrom rfl rfl (by decide)) (by decide) (by first | assumption | rfl) rfl mv_X3_copyFrom ml_X7_320 rfl dX7_trySwaps_50 rfl (Nat.le_of_ble_eq_true rfl) ?_
              refine z_aloadR_n (pc := 53) h dX7_trySwaps_53 rfl ?_
              refine z_getR (pc := 54) (c := 7) (j := 5) (o2 := 7) h rfl (by first | assumption | rfl) rfl rfl fl_X7_48 dX7_trySwaps_54 ?_
              refine z_iload_n (pc := 57) h dX7_trySwaps_57 rfl ?_
              refine z_iload (pc := 58) h dX7_trySwaps_58 rfl ?_
              refine z_vV (pc := 60) (c := 3) h (c_exchange rfl (by omega) (by omega)) (by decide) (by first | assumption | rfl) rfl mv_X3_exchange ml_X7_137 rfl dX7_trySwaps_60 rfl (Nat.le_of_ble_eq_true rfl) ?_
              generalize hpq : x_ex (p_cp (τ 7) (τ 5)) t u = pq at hpm ⊢
              have hX2 : CX σ (zo τ 7 pq) := fun o o7 o8 o9 => by rw [zo_n o7]; exact hX o o7 o8 o9
              refine z_aloadR_n (pc := 63) h dX7_trySwaps_63 rfl ?_
              refine z_iload_n (pc := 64) h dX7_trySwaps_64 rfl ?_
              refine z_callV (pc := 65) (c := 7) h (c_keepIfLess (T := T) (U := t_sw T t u) hT (OKT_sw hT hc) (fun i hi => a_sw_o hT.1 hT.2.1 hc hi) (hX2.cs hC) (by rw [zo_s]; exact hpm) hsb) (by decide) (by first | assumption | rfl) rfl mv_X7_keepIfLess ml_X7_358 rfl dX7_trySwaps_65 rfl (Nat.le_of_ble_eq_true rfl) (fun r65 τ65 q65 => ?_)
              obtain ⟨rfl, k2, k3⟩ := q65
              rw [← tr1_1, ← hskip]
              rw [zo_n (show (9 : Nat) ≠ 7 by decide)] at k3
              have hX3 : CX σ τ65 := fun o o7 o8 o9 => by rw [k2 o o8 o9]; exact hX2 o o7 o8 o9
              have hB3 : BSC T τ65 (sr_u T t u s2) := by rw [hskip]; exact BSC_tr1 hB k3
              refine z_ist_2 (pc := 68) h dX7_trySwaps_68 (by decide) rfl ?_
              refine z_inc_4 (pc := 69) h dX7_trySwaps_69 (by decide) rfl ?_
              refine z_goto (pc := 72) (tgt := 20) h dX7_trySwaps_72 (by decide) ?_
              first
              | exact ih2 (u + 1) τ65 _ g0 (by omega) (by omega) (by omega) hX3 hstep hG' hB3
              | (rw [← hskip]; exact ih2 (u + 1) τ _ g0 (by omega) (by omega) (by omega) hX hstep hG' (by rw [hskip]; exact hB))
      refine z_iload_n (pc := 4) h dX7_trySwaps_4 rfl ?_
      refine z_aloadR_n (pc := 5) h dX7_trySwaps_5 rfl ?_
      refine z_getR (pc := 6) (c := 7) (j := 2) (o2 := 4) h rfl (by first | assumption | rfl) rfl rfl fl_X7_28 dX7_trySwaps_6 ?_
      refine z_getIq (pc := 9) (c := 1) (j := 1) h rfl (by first | assumption | rfl) rfl rfl fl_X7_118 dX7_trySwaps_9 (fun g9 => ?_)
      refine z_icmp_ge (pc := 12) (tgt := 81) h (by omega) (by omega) dX7_trySwaps_12 (by decide) (fun c12 => ?_) (fun c12 => ?_)
      · refine z_iload_n (pc := 81) h dX7_trySwaps_81 rfl ?_
        refine z_iret (pc := 82) h rfl dX7_trySwaps_82 ?_
        have e : s = sr_s T s0 := by rw [hs, show t = T.2.2 1 by omega]; rfl
        rw [← e]
        exact ⟨rfl, hX, hB⟩
      · refine z_iload_n (pc := 15) h dX7_trySwaps_15 rfl ?_
        refine z_iconst (pc := 16) h dX7_trySwaps_16 ?_
        refine z_iadd (pc := 17) h dX7_trySwaps_17 ?_
        refine z_ist_4 (pc := 18) h dX7_trySwaps_18 (by decide) rfl ?_
        exact L2 (T.2.2 1 + 1).toNat (t + 1) τ s (by omega) (by omega) (by omega) (by omega) hX (sr_x_0 T h1 s).symm hG hB
  refine z_iload_n (pc := 0) h dX7_trySwaps_0 rfl ?_
  refine z_ist_2 (pc := 1) h dX7_trySwaps_1 (by decide) rfl ?_
  refine z_iconst (pc := 2) h dX7_trySwaps_2 ?_
  refine z_ist_3 (pc := 3) h dX7_trySwaps_3 (by decide) rfl ?_
  exact L (T.2.2 1 + 1).toNat 0 σ s0 _ (by omega) (by omega) (by omega) (fun o _ _ _ => rfl) rfl hG0 hB0
theorem CX.tr {σ τ υ : zS} (h : CX σ τ) (g : CX τ υ) : CX σ υ := fun o o7 o8 o9 => (g o o7 o8 o9).trans (h o o7 o8 o9)
theorem c_findStep {σ : zS} {T : T3} (hT : OKT T) (hC : CS T σ) : zC M_X7_findStep 7 [zR 0] σ (fun r τ => r = some (zB (decide ((srch T).1 < rc T.2.2))) ∧ CX σ τ ∧ BSC T τ (srch T)) := by
  have hcost : (σ 6).1 18 = rc T.2.2 := hC.2.2.2.2.2
  have hcb := rc_b hT
  have hsb := (GS_s hT).b hT
  have hm1 := c_tryMoves hT hC
  rw [← hcost] at hm1
  refine zC_of (M := M_X7_findStep) (ls := [some (zR 0)]) (n := 0) (by decide) (fun ad => Nat.le_of_ble_eq_true rfl) rfl (fun x h => ?_)
  refine z_aloadR_n (pc := 0) h dX7_findStep_0 rfl ?_
  refine z_aloadR_n (pc := 1) h dX7_findStep_1 rfl ?_
  refine z_aloadR_n (pc := 2) h dX7_findStep_2 rfl ?_
  refine z_getR (pc := 3) (c := 7) (j := 4) (o2 := 6) h rfl (by first | assumption | rfl) rfl rfl fl_X7_44 dX7_findStep_3 ?_
  refine z_getIq (pc := 6) (c := 5) (j := 18) h rfl (by first | assumption | rfl) rfl rfl fl_X7_177 dX7_findStep_6 (fun g6 => ?_)
  refine z_callV (pc := 9) (c := 7) h (hm1) (by decide) (by first | assumption | rfl) rfl mv_X7_tryMoves ml_X7_352 rfl dX7_findStep_9 rfl (Nat.le_of_ble_eq_true rfl) (fun r9 τ9 q9 => ?_)
  obtain ⟨rfl, hX1, hB1⟩ := q9
  refine z_callV (pc := 12) (c := 7) h (c_trySwaps hT (hX1.cs hC) (GS_m hT) hB1) (by decide) (by first | assumption | rfl) rfl mv_X7_trySwaps ml_X7_355 rfl dX7_findStep_12 rfl (Nat.le_of_ble_eq_true rfl) (fun r12 τ12 q12 => ?_)
  obtain ⟨rfl, hX2, hB2⟩ := q12
  have hX := hX1.tr hX2
  have hc2 : (τ12 6).1 18 = rc T.2.2 := by rw [hX 6 (by decide) (by decide) (by decide)]; exact hcost
  have hsb : zin (sr_s T (sr_m T)).1 := hsb
  refine z_aloadR_n (pc := 15) h dX7_findStep_15 rfl ?_
  refine z_getR (pc := 16) (c := 7) (j := 4) (o2 := 6) h rfl (by first | assumption | rfl) rfl rfl fl_X7_44 dX7_findStep_16 ?_
  refine z_getIq (pc := 19) (c := 5) (j := 18) h rfl (by first | assumption | rfl) rfl rfl fl_X7_177 dX7_findStep_19 (fun g19 => ?_)
  refine z_icmp_ge (pc := 22) (tgt := 29) h (by omega) (by omega) dX7_findStep_22 (by decide) (fun c22 => ?_) (fun c22 => ?_)
  · refine z_iconst (pc := 29) h dX7_findStep_29 ?_
    refine z_zret (pc := 30) h rfl (by omega) dX7_findStep_30 ?_
    refine ⟨congrArg some ?_, hX, hB2⟩
    first
    | exact zB_t (decide_eq_true (show (sr_s T (sr_m T)).1 < rc T.2.2 by omega))
    | exact zB_f (decide_eq_false (show ¬ (sr_s T (sr_m T)).1 < rc T.2.2 by omega))
  · refine z_iconst (pc := 25) h dX7_findStep_25 ?_
    refine z_goto (pc := 26) (tgt := 30) h dX7_findStep_26 (by decide) ?_
    refine z_zret (pc := 30) h rfl (by omega) dX7_findStep_30 ?_
    refine ⟨congrArg some ?_, hX, hB2⟩
    first
    | exact zB_t (decide_eq_true (show (sr_s T (sr_m T)).1 < rc T.2.2 by omega))
    | exact zB_f (decide_eq_false (show ¬ (sr_s T (sr_m T)).1 < rc T.2.2 by omega))
/-- a plan is taken and run -/
theorem c_takeStep {σ : zS} {U : T3} (hU : OKT U) (hE : DKE (σ 4) U.2.2) (h3 : (σ 4).1 3 = U.2.2 2) (hp : PLX (σ 9) U) : zC M_X7_takeStep 5 [zR 0] σ (fun r τ => r = some (zI (rc U.2.2)) ∧ CS U τ ∧ ∀ o, o ≠ 5 → o ≠ 6 → τ o = σ o) := by
  have h40 := hU.1.2.2.1
  have hpc : PLX (p_cp (σ 5) (σ 9)) U := PLX_cp hp
  have hpl := fun Y => c_play (σ := zo σ 5 (p_cp (σ 5) (σ 9))) (Y := Y) (m := ob U.2.2) (stg := (σ 4).1 3) runh6 hU.1 hU.2.1.wfr (by rw [zo_n (by decide)]; exact hE) (by rw [zo_s]; exact hpc.ple hU) h3
  refine zC_of (M := M_X7_takeStep) (ls := [some (zR 0)]) (n := 0) (by decide) (fun ad => Nat.le_of_ble_eq_true rfl) rfl (fun x h => ?_)
  refine z_aloadR_n (pc := 0) h dX7_takeStep_0 rfl ?_
  refine z_getR (pc := 1) (c := 7) (j := 3) (o2 := 5) h rfl (by first | assumption | rfl) rfl rfl fl_X7_35 dX7_takeStep_1 ?_
  refine z_aloadR_n (pc := 4) h dX7_takeStep_4 rfl ?_
  refine z_getR (pc := 5) (c := 7) (j := 7) (o2 := 9) h rfl (by first | assumption | rfl) rfl rfl fl_X7_54 dX7_takeStep_5 ?_
  refine z_apart 5 ?_
  refine z_vV (pc := 8) (c := 3) h (c_copyFrom rfl rfl (by decide)) (by decide) (by first | assumption | rfl) rfl mv_X3_copyFrom ml_X7_320 rfl dX7_takeStep_8 rfl (Nat.le_of_ble_eq_true rfl) ?_
  refine z_aloadR_n (pc := 11) h dX7_takeStep_11 rfl ?_
  refine z_getR (pc := 12) (c := 7) (j := 4) (o2 := 6) h rfl (by first | assumption | rfl) rfl rfl fl_X7_44 dX7_takeStep_12 ?_
  refine z_aloadR_n (pc := 15) h dX7_takeStep_15 rfl ?_
  refine z_getR (pc := 16) (c := 7) (j := 2) (o2 := 4) h rfl (by first | assumption | rfl) rfl rfl fl_X7_28 dX7_takeStep_16 ?_
  refine z_getIq (pc := 19) (c := 1) (j := 3) h (zo_n (by decide)) (by first | assumption | rfl) rfl rfl fl_X7_111 dX7_takeStep_19 (fun g19 => ?_)
  refine z_apart 6 ?_
  refine z_callV (pc := 22) (c := 5) h (hpl _) (by decide) (by first | assumption | rfl) rfl mv_X5_play ml_X7_114 rfl dX7_takeStep_22 rfl (Nat.le_of_ble_eq_true rfl) (fun r22 τ22 q22 => ?_)
  obtain ⟨rfl, Y, rfl, hRES⟩ := q22
  refine z_iret (pc := 25) h rfl dX7_takeStep_25 ?_
  refine ⟨rfl, ⟨?_, ?_, ?_, ?_⟩, fun o o5 o6 => by rw [zo_n o6, zo_n o5]⟩
  · rw [zo_n (by decide), zo_n (by decide)]; exact hE
  · rw [zo_n (by decide), zo_n (by decide)]; exact h3
  · rw [zo_n (by decide), zo_s]; exact hpc
  · rw [zo_s]; exact hRES
