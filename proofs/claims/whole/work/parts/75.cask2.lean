/-! The class: repair, undo, moves. -/
theorem c_repair {σ : zS} {T : T3} (hT : OKT T) (hC : CS T σ) (hA : ACI σ) : zC M_X7_repair 8 [zR 0] σ (fun r τ => r = some (zI (if (rep T).1 = 0 then -1 else (rep T).1)) ∧ (if (rep T).1 = 0 then CX σ τ else CS (rep T).2 τ ∧ AK σ τ ∧ FRc σ τ)) := by
  refine zC_of (M := M_X7_repair) (ls := [some (zR 0), none]) (n := 1) (by decide) (fun ad => Nat.le_of_ble_eq_true rfl) rfl (fun x h => ?_)
  generalize hK : (fun (r : Option Value) (τ : zS) => r = some (zI (if (rep T).1 = 0 then -1 else (rep T).1)) ∧ (if (rep T).1 = 0 then CX σ τ else CS (rep T).2 τ ∧ AK σ τ ∧ FRc σ τ)) = K
  have L : ∀ (f : Nat) (n : Int) (U : T3) (τ : zS), OKT U → 0 ≤ n → n ≤ 5 → 5 - n < f → rpL f n U = rep T → CS U τ → (n = 0 → U = T ∧ CX σ τ) → (n ≠ 0 → AK σ τ ∧ FRc σ τ) → zW x K 2 [some (zR 0), some (zI n)] [] τ := by
    intro f
    induction f with
    | zero => intro n U τ hU h0 h1 h2; omega
    | succ f ih =>
      intro n U τ hU h0 h1 h2 hr hCU hz hnz
      have hfin : ¬ (n < 5 ∧ (srch U).1 < rc U.2.2) → rep T = (n, U) := fun z => by rw [← hr]; unfold rpL; rw [if_neg z]
      have hnx : (n < 5 ∧ (srch U).1 < rc U.2.2) → rpL f (n + 1) (srch U).2 = rep T := fun z => by rw [← hr]; exact (if_pos z).symm
      have E : ∀ (τ : zS), rep T = (n, U) → CS U τ → (n = 0 → U = T ∧ CX σ τ) → (n ≠ 0 → AK σ τ ∧ FRc σ τ) → zW x K 40 [some (zR 0), some (zI n)] [] τ := by
        intro τ hE hCU hz hnz
        refine z_iload_n (pc := 40) h dX7_repair_40 rfl ?_
        refine z_if_ne (pc := 41) (tgt := 48) h (by omega) dX7_repair_41 (by decide) (fun c41 => ?_) (fun c41 => ?_)
        · refine z_iload_n (pc := 48) h dX7_repair_48 rfl ?_
          refine z_iret (pc := 49) h rfl dX7_repair_49 ?_
          rw [← hK, hE]
          first
          | (have z : n = 0 := (by omega); refine ⟨by rw [if_pos z], ?_⟩; rw [if_pos z]; exact (hz z).2)
          | (have z : n ≠ 0 := (by omega); refine ⟨by rw [if_neg z], ?_⟩; rw [if_neg z]; exact ⟨hCU, hnz z⟩)
        · refine z_iconst (pc := 44) h dX7_repair_44 ?_
          refine z_goto (pc := 45) (tgt := 49) h dX7_repair_45 (by decide) ?_
          refine z_iret (pc := 49) h rfl dX7_repair_49 ?_
          rw [← hK, hE]
          first
          | (have z : n = 0 := (by omega); refine ⟨by rw [if_pos z], ?_⟩; rw [if_pos z]; exact (hz z).2)
          | (have z : n ≠ 0 := (by omega); refine ⟨by rw [if_neg z], ?_⟩; rw [if_neg z]; exact ⟨hCU, hnz z⟩)
      have hG := GS_s hU
      refine z_iload_n (pc := 2) h dX7_repair_2 rfl ?_
      refine z_iconst (pc := 3) h dX7_repair_3 ?_
      refine z_icmp_ge (pc := 4) (tgt := 40) h (by omega) (by omega) dX7_repair_4 (by decide) (fun c4 => ?_) (fun c4 => ?_)
      · exact E τ (hfin (fun z => by omega)) hCU hz hnz
      · refine z_aloadR_n (pc := 7) h dX7_repair_7 rfl ?_
        refine z_callV (pc := 8) (c := 7) h (c_findStep hU hCU) (by decide) (by first | assumption | rfl) rfl mv_X7_findStep ml_X7_156 rfl dX7_repair_8 rfl (Nat.le_of_ble_eq_true rfl) (fun r8 τ8 q8 => ?_)
        obtain ⟨rfl, hX, hB⟩ := q8
        have hCt := hX.cs hCU
        have hz8 : n = 0 → U = T ∧ CX σ τ8 := fun z => ⟨(hz z).1, (hz z).2.tr hX⟩
        have hnz8 : n ≠ 0 → AK σ τ8 ∧ FRc σ τ8 := fun z => ⟨AK_o (hnz z).1 hA.2 (fun o ho => hX o (by omega) (by omega) (by omega)), fun o ho => (hX o (by omega) (by omega) (by omega)).trans ((hnz z).2 o ho)⟩
        refine z_ifeqB (pc := 11) (tgt := 40) h dX7_repair_11 (by decide) (fun c11 => ?_) (fun c11 => ?_)
        · exact E τ8 (hfin (fun z => of_decide_eq_false c11 z.2)) hCt hz8 hnz8
        · have hlt := of_decide_eq_true c11
          have hGS := hG.2 hlt
          have hp := hB hlt
          have hE : DKE (τ8 4) (srch U).2.2.2 := DKE_x hGS.2.1.lo hU.1.1.2 hU.1.2.1.2 hCt.1
          have hstg : (τ8 4).1 3 = (srch U).2.2.2 2 := by rw [hCt.2.1]; exact (hGS.2.1 2 (by omega)).symm
          have W : ∀ (υ : zS), (∀ o, o ≤ 9 → υ o = τ8 o) → AK σ υ → FRc σ υ → zW x K 29 [some (zR 0), some (zI n)] [] υ := by
            intro υ h9 hAK hFR
            refine z_aloadR_n (pc := 29) h dX7_repair_29 rfl ?_
            refine z_callV (pc := 30) (c := 7) h (c_takeStep hGS.1 (by rw [h9 4 (by omega)]; exact hE) (by rw [h9 4 (by omega)]; exact hstg) (by rw [h9 9 (by omega)]; exact hp)) (by decide) (by first | assumption | rfl) rfl mv_X7_takeStep ml_X7_160 rfl dX7_repair_30 rfl (Nat.le_of_ble_eq_true rfl) (fun r30 τ30 q30 => ?_)
            obtain ⟨rfl, hCn, hO⟩ := q30
            refine z_popI (pc := 33) h dX7_repair_33 ?_
            refine z_inc_1 (pc := 34) h dX7_repair_34 (by decide) rfl ?_
            refine z_goto (pc := 37) (tgt := 2) h dX7_repair_37 (by decide) ?_
            exact ih (n + 1) (srch U).2 τ30 hGS.1 (by omega) (by omega) (by omega) (hnx ⟨by omega, hlt⟩) hCn (fun z => by omega) (fun _ => ⟨AK_o hAK hA.2 (fun o ho => hO o (by omega) (by omega)), fun o ho => (hO o (by omega) (by omega)).trans (hFR o ho)⟩)
          refine z_iload_n (pc := 14) h dX7_repair_14 rfl ?_
          refine z_if_ne (pc := 15) (tgt := 29) h (by omega) dX7_repair_15 (by decide) (fun c15 => ?_) (fun c15 => ?_)
          · exact W τ8 (fun _ _ => rfl) (hnz8 (by omega)).1 (hnz8 (by omega)).2
          · have z0 : n = 0 := by omega
            obtain ⟨eU, hX0⟩ := hz8 z0
            refine z_aloadR_n (pc := 18) h dX7_repair_18 rfl ?_
            refine z_getR (pc := 19) (c := 7) (j := 8) (o2 := 10) h rfl (by first | assumption | rfl) rfl rfl fl_X7_60 dX7_repair_19 ?_
            refine z_aloadR_n (pc := 22) h dX7_repair_22 rfl ?_
            refine z_getR (pc := 23) (c := 7) (j := 3) (o2 := 5) h rfl (by first | assumption | rfl) rfl rfl fl_X7_35 dX7_repair_23 ?_
            refine z_callV (pc := 26) (c := 0) h (c_keep (ACI_cx hX0 hA).1) (by decide) (by first | assumption | rfl) rfl mv_X0_keep ml_X7_125 rfl dX7_repair_26 rfl (Nat.le_of_ble_eq_true rfl) (fun r26 τ26 q26 => ?_)
            obtain ⟨rfl, a1, a2, a3, a4, a5⟩ := q26
            have hAK : AK σ τ26 := AK_cx hX0 hA ⟨a1, a2, a4, a5⟩
            exact W τ26 (fun o ho => a3 o (by omega)) hAK (fun o ho => (a3 o (by omega)).trans (hX0 o (by omega) (by omega) (by omega)))
  refine z_iconst (pc := 0) h dX7_repair_0 ?_
  refine z_ist_1 (pc := 1) h dX7_repair_1 (by decide) rfl ?_
  exact L 6 0 T σ hT (by omega) (by omega) (by omega) rfl hC (fun _ => ⟨rfl, fun _ _ _ _ => rfl⟩) (fun z => absurd rfl z)
theorem c_undo_n {σ : zS} (hm0 : (σ 10).1 1 = 0) : zCr M_X7_undo 5 [zR 0] σ (zI (-1)) σ := by
  refine zC_of (M := M_X7_undo) (ls := [some (zR 0)]) (n := 0) (by decide) (fun ad => Nat.le_of_ble_eq_true rfl) rfl (fun x h => ?_)
  refine z_aloadR_n (pc := 0) h dX7_undo_0 rfl ?_
  refine z_getR (pc := 1) (c := 7) (j := 8) (o2 := 10) h rfl (by first | assumption | rfl) rfl rfl fl_X7_60 dX7_undo_1 ?_
  refine z_aloadR_n (pc := 4) h dX7_undo_4 rfl ?_
  refine z_getR (pc := 5) (c := 7) (j := 3) (o2 := 5) h rfl (by first | assumption | rfl) rfl rfl fl_X7_35 dX7_undo_5 ?_
  refine z_rV (pc := 8) (c := 0) h (c_giveBack_n hm0) (by decide) (by first | assumption | rfl) rfl mv_X0_giveBack ml_X7_164 rfl dX7_undo_8 rfl (Nat.le_of_ble_eq_true rfl) ?_
  show zW _ _ _ _ [zB false] _
  refine z_ifneB (pc := 11) (tgt := 16) h dX7_undo_11 (by decide) (fun c11 => ?_) (fun c11 => ?_)
  · cases c11
  · refine z_iconst (pc := 14) h dX7_undo_14 ?_
    refine z_iret (pc := 15) h rfl dX7_undo_15 ?_
    exact ⟨rfl, rfl⟩
theorem c_undo {σ : zS} {U : T3} (hA : ACI σ) (hm0 : 0 < (σ 10).1 1) (hU : OKT U) (hE : DKE (σ 4) U.2.2) (hstg : (σ 4).1 3 = U.2.2 2) (hp : PLX (pa σ ((σ 10).1 1 - 1)) U) : zC M_X7_undo 5 [zR 0] σ (fun r τ => r = some (zI ((σ 10).1 1 - 1)) ∧ CS U τ ∧ τ 10 = oss (σ 10) 1 ((σ 10).1 1 - 1) ∧ ∀ o, o ≠ 5 → o ≠ 6 → o ≠ 10 → τ o = σ o) := by
  have h40 := hU.1.2.2.1
  have hm := hA.2
  refine zC_of (M := M_X7_undo) (ls := [some (zR 0)]) (n := 0) (by decide) (fun ad => Nat.le_of_ble_eq_true rfl) rfl (fun x h => ?_)
  refine z_aloadR_n (pc := 0) h dX7_undo_0 rfl ?_
  refine z_getR (pc := 1) (c := 7) (j := 8) (o2 := 10) h rfl (by first | assumption | rfl) rfl rfl fl_X7_60 dX7_undo_1 ?_
  refine z_aloadR_n (pc := 4) h dX7_undo_4 rfl ?_
  refine z_getR (pc := 5) (c := 7) (j := 3) (o2 := 5) h rfl (by first | assumption | rfl) rfl rfl fl_X7_35 dX7_undo_5 ?_
  refine z_callV (pc := 8) (c := 0) h (c_giveBack hA hm0) (by decide) (by first | assumption | rfl) rfl mv_X0_giveBack ml_X7_164 rfl dX7_undo_8 rfl (Nat.le_of_ble_eq_true rfl) (fun r8 τ8 q8 => ?_)
  obtain ⟨rfl, g10, g5, go⟩ := q8
  have e4 : τ8 4 = σ 4 := go 4 (by decide) (by decide)
  have hp5 : PLX (τ8 5) U := by rw [g5]; exact PLX_cp hp
  have hE8 : DKE (τ8 4) U.2.2 := by rw [e4]; exact hE
  have hs8 : (τ8 4).1 3 = U.2.2 2 := by rw [e4]; exact hstg
  show zW _ _ _ _ [zB true] _
  refine z_ifneB (pc := 11) (tgt := 16) h dX7_undo_11 (by decide) (fun c11 => ?_) (fun c11 => ?_)
  · refine z_aloadR_n (pc := 16) h dX7_undo_16 rfl ?_
    refine z_getR (pc := 17) (c := 7) (j := 4) (o2 := 6) h rfl (by first | assumption | rfl) rfl rfl fl_X7_44 dX7_undo_17 ?_
    refine z_aloadR_n (pc := 20) h dX7_undo_20 rfl ?_
    refine z_getR (pc := 21) (c := 7) (j := 2) (o2 := 4) h rfl (by first | assumption | rfl) rfl rfl fl_X7_28 dX7_undo_21 ?_
    refine z_getIq (pc := 24) (c := 1) (j := 3) h rfl (by first | assumption | rfl) rfl rfl fl_X7_111 dX7_undo_24 (fun g24 => ?_)
    refine z_apart 6 ?_
    refine z_callV (pc := 27) (c := 5) h (c_play (σ := τ8) (m := ob U.2.2) runh6 hU.1 hU.2.1.wfr hE8 (hp5.ple hU) hs8) (by decide) (by first | assumption | rfl) rfl mv_X5_play ml_X7_114 rfl dX7_undo_27 rfl (Nat.le_of_ble_eq_true rfl) (fun r27 τ27 q27 => ?_)
    obtain ⟨rfl, Y, rfl, hRES⟩ := q27
    refine z_popI (pc := 30) h dX7_undo_30 ?_
    refine z_aloadR_n (pc := 31) h dX7_undo_31 rfl ?_
    refine z_getR (pc := 32) (c := 7) (j := 8) (o2 := 10) h rfl (by first | assumption | rfl) rfl rfl fl_X7_60 dX7_undo_32 ?_
    refine z_getIq (pc := 35) (c := 0) (j := 1) h (zo_n (show (10 : Nat) ≠ 6 by decide)) (by first | assumption | rfl) rfl rfl fl_X7_108 dX7_undo_35 (fun g35 => ?_)
    refine z_iret (pc := 38) h rfl dX7_undo_38 ?_
    refine ⟨by rw [g10]; rfl, ⟨?_, ?_, ?_, ?_⟩, ?_, fun o o5 o6 o10 => ?_⟩
    · rw [zo_n (by decide)]; exact hE8
    · rw [zo_n (by decide)]; exact hs8
    · rw [zo_n (by decide)]; exact hp5
    · rw [zo_s]; exact hRES
    · rw [zo_n (by decide)]; exact g10
    · rw [zo_n o6]; exact go o o5 o10
  · cases c11
theorem c_movesThatCanBe {σ : zS} {T : T3} (hT : OKT T) (hC : CS T σ) : zCp M_X7_movesThatCanBe 4 [zR 0] σ (zI (mvN T)) := by
  have h8 := hT.1.2.1
  have h6 := hT.1.1
  have e1 := hC.1.2.1
  have e0 := hC.1.1
  refine zC_of (M := M_X7_movesThatCanBe) (ls := [some (zR 0), none, none, none, none]) (n := 4) (by decide) (fun ad => Nat.le_of_ble_eq_true rfl) rfl (fun x h => ?_)
  have L : ∀ (n : Nat) (t c : Int) (l3 l4 : Option Value), 0 ≤ t → t ≤ T.2.2 1 → T.2.2 1 - t < n → 0 ≤ c → c ≤ 48 * t → c = zfor (mn_t T) t 0 → zW x (fun r τ' => r = some (zI (mvN T)) ∧ τ' = σ) 4 [some (zR 0), some (zI c), some (zI t), l3, l4] [] σ := by
    intro n
    induction n with
    | zero => intro t c l3 l4 h1 h2 h3; omega
    | succ n ih =>
      intro t c l3 l4 h1 h2 h3 c0 c1 hc
      have L2 : ∀ (n2 : Nat) (d c2 : Int) (l4 : Option Value), t < T.2.2 1 → 0 ≤ d → d ≤ T.2.2 0 → T.2.2 0 - d < n2 → 0 ≤ c2 → c2 ≤ 48 * t + 8 * d → c2 = zfor (mn_d T t) d c → zW x (fun r τ' => r = some (zI (mvN T)) ∧ τ' = σ) 17 [some (zR 0), some (zI c2), some (zI t), some (zI d), l4] [] σ := by
        intro n2
        induction n2 with
        | zero => intro d c2 l4 g0 g1 g2 g3; omega
        | succ n2 ih2 =>
          intro d c2 l4 g0 g1 g2 g3 gc0 gc1 gc
          have L3 : ∀ (n3 : Nat) (k c3 : Int), d < T.2.2 0 → 0 ≤ k → k ≤ 8 → 8 - k < n3 → 0 ≤ c3 → c3 ≤ 48 * t + 8 * d + k → c3 = zfor (mn_k T t d) k c2 → zW x (fun r τ' => r = some (zI (mvN T)) ∧ τ' = σ) 31 [some (zR 0), some (zI c3), some (zI t), some (zI d), some (zI k)] [] σ := by
            intro n3
            induction n3 with
            | zero => intro k c3 y0 y1 y2 y3; omega
            | succ n3 ih3 =>
              intro k c3 y0 y1 y2 y3 yc0 yc1 yc
              have hmvb := mvT_b T t d k
              have hstep : mn_k T t d k c3 = zfor (mn_k T t d) (k + 1) c2 := by rw [zfor_S _ y1, yc]
              have hsub := mn_k_b T t d k c3
              refine z_iload (pc := 31) h dX7_movesThatCanBe_31 rfl ?_
              refine z_bipush (pc := 33) h dX7_movesThatCanBe_33 (by decide) ?_
              refine z_icmp_ge (pc := 35) (tgt := 58) h (by omega) (by omega) dX7_movesThatCanBe_35 (by decide) (fun c35 => ?_) (fun c35 => ?_)
              · refine z_inc_3 (pc := 58) h dX7_movesThatCanBe_58 (by decide) rfl ?_
                refine z_goto (pc := 61) (tgt := 17) h dX7_movesThatCanBe_61 (by decide) ?_
                refine ih2 (d + 1) c3 _ g0 (by omega) (by omega) (by omega) yc0 (by omega) ?_
                rw [zfor_S _ g1, ← gc, yc, show k = 8 by omega]
                rfl
              · refine z_aloadR_n (pc := 38) h dX7_movesThatCanBe_38 rfl ?_
                refine z_iload_n (pc := 39) h dX7_movesThatCanBe_39 rfl ?_
                refine z_iload_n (pc := 40) h dX7_movesThatCanBe_40 rfl ?_
                refine z_iload (pc := 41) h dX7_movesThatCanBe_41 rfl ?_
                refine z_pV (pc := 43) (c := 7) h (c_moveRefusal hT hC (by omega) (by omega) (by omega)) (by decide) (by first | assumption | rfl) rfl mv_X7_moveRefusal ml_X7_121 rfl dX7_movesThatCanBe_43 rfl (Nat.le_of_ble_eq_true rfl) ?_
                refine z_if_ne (pc := 46) (tgt := 52) h (by omega) dX7_movesThatCanBe_46 (by decide) (fun c46 => ?_) (fun c46 => ?_)
                · have hs : mn_k T t d k c3 = c3 := by unfold mn_k; rw [if_neg c46]
                  refine z_inc_4 (pc := 52) h dX7_movesThatCanBe_52 (by decide) rfl ?_
                  refine z_goto (pc := 55) (tgt := 31) h dX7_movesThatCanBe_55 (by decide) ?_
                  rw [← hs]
                  exact ih3 (k + 1) _ y0 (by omega) (by omega) (by omega) (by omega) (by omega) hstep
                · have hs : mn_k T t d k c3 = c3 + 1 := by unfold mn_k; rw [if_pos c46]
                  refine z_inc_1 (pc := 49) h dX7_movesThatCanBe_49 (by decide) rfl ?_
                  refine z_inc_4 (pc := 52) h dX7_movesThatCanBe_52 (by decide) rfl ?_
                  refine z_goto (pc := 55) (tgt := 31) h dX7_movesThatCanBe_55 (by decide) ?_
                  rw [← hs]
                  exact ih3 (k + 1) _ y0 (by omega) (by omega) (by omega) (by omega) (by omega) hstep
          refine z_iload_n (pc := 17) h dX7_movesThatCanBe_17 rfl ?_
          refine z_aloadR_n (pc := 18) h dX7_movesThatCanBe_18 rfl ?_
          refine z_getR (pc := 19) (c := 7) (j := 2) (o2 := 4) h rfl (by first | assumption | rfl) rfl rfl fl_X7_28 dX7_movesThatCanBe_19 ?_
          refine z_getIq (pc := 22) (c := 1) (j := 0) h rfl (by first | assumption | rfl) rfl rfl fl_X7_168 dX7_movesThatCanBe_22 (fun g22 => ?_)
          refine z_icmp_ge (pc := 25) (tgt := 64) h (by omega) (by omega) dX7_movesThatCanBe_25 (by decide) (fun c25 => ?_) (fun c25 => ?_)
          · refine z_inc_2 (pc := 64) h dX7_movesThatCanBe_64 (by decide) rfl ?_
            refine z_goto (pc := 67) (tgt := 4) h dX7_movesThatCanBe_67 (by decide) ?_
            refine ih (t + 1) c2 _ _ (by omega) (by omega) (by omega) gc0 (by omega) ?_
            rw [zfor_S _ h1, ← hc, gc, show d = T.2.2 0 by omega]
            rfl
          · refine z_iconst (pc := 28) h dX7_movesThatCanBe_28 ?_
            refine z_ist_4 (pc := 29) h dX7_movesThatCanBe_29 (by decide) rfl ?_
            exact L3 9 0 c2 (by omega) (by omega) (by omega) (by omega) gc0 (by omega) rfl
      refine z_iload_n (pc := 4) h dX7_movesThatCanBe_4 rfl ?_
      refine z_aloadR_n (pc := 5) h dX7_movesThatCanBe_5 rfl ?_
      refine z_getR (pc := 6) (c := 7) (j := 2) (o2 := 4) h rfl (by first | assumption | rfl) rfl rfl fl_X7_28 dX7_movesThatCanBe_6 ?_
      refine z_getIq (pc := 9) (c := 1) (j := 1) h rfl (by first | assumption | rfl) rfl rfl fl_X7_118 dX7_movesThatCanBe_9 (fun g9 => ?_)
      refine z_icmp_ge (pc := 12) (tgt := 70) h (by omega) (by omega) dX7_movesThatCanBe_12 (by decide) (fun c12 => ?_) (fun c12 => ?_)
      · refine z_iload_n (pc := 70) h dX7_movesThatCanBe_70 rfl ?_
        refine z_iret (pc := 71) h rfl dX7_movesThatCanBe_71 ?_
        refine ⟨congrArg (fun z => some (zI z)) ?_, rfl⟩
        rw [hc, show t = T.2.2 1 by omega]
        rfl
      · refine z_iconst (pc := 15) h dX7_movesThatCanBe_15 ?_
        refine z_ist_3 (pc := 16) h dX7_movesThatCanBe_16 (by decide) rfl ?_
        exact L2 (T.2.2 0 + 1).toNat 0 c _ (by omega) (by omega) (by omega) (by omega) c0 (by omega) rfl
  refine z_iconst (pc := 0) h dX7_movesThatCanBe_0 ?_
  refine z_ist_1 (pc := 1) h dX7_movesThatCanBe_1 (by decide) rfl ?_
  refine z_iconst (pc := 2) h dX7_movesThatCanBe_2 ?_
  refine z_ist_2 (pc := 3) h dX7_movesThatCanBe_3 (by decide) rfl ?_
  exact L (T.2.2 1 + 1).toNat 0 0 _ _ (by omega) (by omega) (by omega) (by omega) (by omega) rfl
theorem c_swapsThatCanBe {σ : zS} {T : T3} (hT : OKT T) (hC : CS T σ) : zCp M_X7_swapsThatCanBe 4 [zR 0] σ (zI (swN T)) := by
  have h8 := hT.1.2.1
  have e1 := hC.1.2.1
  refine zC_of (M := M_X7_swapsThatCanBe) (ls := [some (zR 0), none, none, none]) (n := 3) (by decide) (fun ad => Nat.le_of_ble_eq_true rfl) rfl (fun x h => ?_)
  have L : ∀ (n : Nat) (t c : Int) (l3 : Option Value), 0 ≤ t → t ≤ T.2.2 1 → T.2.2 1 - t < n → 0 ≤ c → c ≤ 8 * t → c = zfor (sn_t T) t 0 → zW x (fun r τ' => r = some (zI (swN T)) ∧ τ' = σ) 4 [some (zR 0), some (zI c), some (zI t), l3] [] σ := by
    intro n
    induction n with
    | zero => intro t c l3 h1 h2 h3; omega
    | succ n ih =>
      intro t c l3 h1 h2 h3 c0 c1 hc
      have L2 : ∀ (n2 : Nat) (u c2 : Int), t < T.2.2 1 → t + 1 ≤ u → u ≤ T.2.2 1 → T.2.2 1 - u < n2 → 0 ≤ c2 → c2 ≤ 8 * t + u → c2 = zfor (sn_u T t) u c → zW x (fun r τ' => r = some (zI (swN T)) ∧ τ' = σ) 19 [some (zR 0), some (zI c2), some (zI t), some (zI u)] [] σ := by
        intro n2
        induction n2 with
        | zero => intro u c2 g0 g1 g2 g3; omega
        | succ n2 ih2 =>
          intro u c2 g0 g1 g2 g3 gc0 gc1 gc
          have hswb := swT_b T t u
          have hstep : sn_u T t u c2 = zfor (sn_u T t) (u + 1) c := by rw [zfor_S _ (by omega), gc]
          have hsub := sn_u_b T t u c2
          refine z_iload_n (pc := 19) h dX7_swapsThatCanBe_19 rfl ?_
          refine z_aloadR_n (pc := 20) h dX7_swapsThatCanBe_20 rfl ?_
          refine z_getR (pc := 21) (c := 7) (j := 2) (o2 := 4) h rfl (by first | assumption | rfl) rfl rfl fl_X7_28 dX7_swapsThatCanBe_21 ?_
          refine z_getIq (pc := 24) (c := 1) (j := 1) h rfl (by first | assumption | rfl) rfl rfl fl_X7_118 dX7_swapsThatCanBe_24 (fun g24 => ?_)
          refine z_icmp_ge (pc := 27) (tgt := 48) h (by omega) (by omega) dX7_swapsThatCanBe_27 (by decide) (fun c27 => ?_) (fun c27 => ?_)
          · refine z_inc_2 (pc := 48) h dX7_swapsThatCanBe_48 (by decide) rfl ?_
            refine z_goto (pc := 51) (tgt := 4) h dX7_swapsThatCanBe_51 (by decide) ?_
            refine ih (t + 1) c2 _ (by omega) (by omega) (by omega) gc0 (by omega) ?_
            rw [zfor_S _ h1, ← hc, gc, show u = T.2.2 1 by omega]
            rfl
          · refine z_aloadR_n (pc := 30) h dX7_swapsThatCanBe_30 rfl ?_
            refine z_iload_n (pc := 31) h dX7_swapsThatCanBe_31 rfl ?_
            refine z_iload_n (pc := 32) h dX7_swapsThatCanBe_32 rfl ?_
            refine z_pV (pc := 33) (c := 7) h (c_swapRefusal hT hC (by omega) (by omega)) (by decide) (by first | assumption | rfl) rfl mv_X7_swapRefusal ml_X7_133 rfl dX7_swapsThatCanBe_33 rfl (Nat.le_of_ble_eq_true rfl) ?_
            refine z_if_ne (pc := 36) (tgt := 42) h (by omega) dX7_swapsThatCanBe_36 (by decide) (fun c36 => ?_) (fun c36 => ?_)
            · have hs : sn_u T t u c2 = c2 := by unfold sn_u; rw [if_pos (by omega), if_neg c36]
              refine z_inc_3 (pc := 42) h dX7_swapsThatCanBe_42 (by decide) rfl ?_
              refine z_goto (pc := 45) (tgt := 19) h dX7_swapsThatCanBe_45 (by decide) ?_
              rw [← hs]
              exact ih2 (u + 1) _ g0 (by omega) (by omega) (by omega) (by omega) (by omega) hstep
            · have hs : sn_u T t u c2 = c2 + 1 := by unfold sn_u; rw [if_pos (by omega), if_pos c36]
              refine z_inc_1 (pc := 39) h dX7_swapsThatCanBe_39 (by decide) rfl ?_
              refine z_inc_3 (pc := 42) h dX7_swapsThatCanBe_42 (by decide) rfl ?_
              refine z_goto (pc := 45) (tgt := 19) h dX7_swapsThatCanBe_45 (by decide) ?_
              rw [← hs]
              exact ih2 (u + 1) _ g0 (by omega) (by omega) (by omega) (by omega) (by omega) hstep
      refine z_iload_n (pc := 4) h dX7_swapsThatCanBe_4 rfl ?_
      refine z_aloadR_n (pc := 5) h dX7_swapsThatCanBe_5 rfl ?_
      refine z_getR (pc := 6) (c := 7) (j := 2) (o2 := 4) h rfl (by first | assumption | rfl) rfl rfl fl_X7_28 dX7_swapsThatCanBe_6 ?_
      refine z_getIq (pc := 9) (c := 1) (j := 1) h rfl (by first | assumption | rfl) rfl rfl fl_X7_118 dX7_swapsThatCanBe_9 (fun g9 => ?_)
      refine z_icmp_ge (pc := 12) (tgt := 54) h (by omega) (by omega) dX7_swapsThatCanBe_12 (by decide) (fun c12 => ?_) (fun c12 => ?_)
      · refine z_iload_n (pc := 54) h dX7_swapsThatCanBe_54 rfl ?_
        refine z_iret (pc := 55) h rfl dX7_swapsThatCanBe_55 ?_
        refine ⟨congrArg (fun z => some (zI z)) ?_, rfl⟩
        rw [hc, show t = T.2.2 1 by omega]
        rfl
      · refine z_iload_n (pc := 15) h dX7_swapsThatCanBe_15 rfl ?_
        refine z_iconst (pc := 16) h dX7_swapsThatCanBe_16 ?_
        refine z_iadd (pc := 17) h dX7_swapsThatCanBe_17 ?_
        refine z_ist_3 (pc := 18) h dX7_swapsThatCanBe_18 (by decide) rfl ?_
        exact L2 (T.2.2 1 + 1).toNat (t + 1) c (by omega) (by omega) (by omega) (by omega) c0 (by omega) (sn_t_0 T h1 c).symm
  refine z_iconst (pc := 0) h dX7_swapsThatCanBe_0 ?_
  refine z_ist_1 (pc := 1) h dX7_swapsThatCanBe_1 (by decide) rfl ?_
  refine z_iconst (pc := 2) h dX7_swapsThatCanBe_2 ?_
  refine z_ist_2 (pc := 3) h dX7_swapsThatCanBe_3 (by decide) rfl ?_
  exact L (T.2.2 1 + 1).toNat 0 0 _ (by omega) (by omega) (by omega) (by omega) (by omega) rfl
theorem c_moves {σ : zS} {T : T3} {z : Bool} (hT : OKT T) (hC : CS T σ) : zCp M_X7_moves 5 [zR 0, zB z] σ (zI (if z = false then mvN T else swN T)) := by
  refine zC_of (M := M_X7_moves) (ls := [some (zR 0), some (zB z)]) (n := 0) (by decide) (fun ad => Nat.le_of_ble_eq_true rfl) rfl (fun x h => ?_)
  refine z_iload_n (pc := 0) h dX7_moves_0 rfl ?_
  refine z_ifeqB (pc := 1) (tgt := 11) h dX7_moves_1 (by decide) (fun c1 => ?_) (fun c1 => ?_)
  · rw [if_pos c1]
    refine z_aloadR_n (pc := 11) h dX7_moves_11 rfl ?_
    refine z_pV (pc := 12) (c := 7) h (c_movesThatCanBe hT hC) (by decide) (by first | assumption | rfl) rfl mv_X7_movesThatCanBe ml_X7_325 rfl dX7_moves_12 rfl (Nat.le_of_ble_eq_true rfl) ?_
    refine z_iret (pc := 15) h rfl dX7_moves_15 ?_
    exact ⟨rfl, rfl⟩
  · rw [if_neg (by rw [c1]; decide)]
    refine z_aloadR_n (pc := 4) h dX7_moves_4 rfl ?_
    refine z_pV (pc := 5) (c := 7) h (c_swapsThatCanBe hT hC) (by decide) (by first | assumption | rfl) rfl mv_X7_swapsThatCanBe ml_X7_322 rfl dX7_moves_5 rfl (Nat.le_of_ble_eq_true rfl) ?_
    refine z_goto (pc := 8) (tgt := 15) h dX7_moves_8 (by decide) ?_
    refine z_iret (pc := 15) h rfl dX7_moves_15 ?_
    exact ⟨rfl, rfl⟩
