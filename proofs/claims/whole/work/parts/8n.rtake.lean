/-! The class: a statement for a truck that takes. -/
theorem c_chk {σ : zS} {y : zOb} {B : Int × Int} {i lo hi v p : Int} (hi0 : 0 ≤ i ∧ i ≤ 4) (ev : y.2 2 i = v) (ep : y.2 3 i = p) (hv : 0 ≤ v ∧ v ≤ 999) (hp : 0 ≤ p ∧ p ≤ 400) (hl : 0 ≤ lo ∧ lo ≤ 999) (hh : 0 ≤ hi ∧ hi ≤ 999) : zCv M_X4_checkNumber 2 [zR 2, zI i, zI lo, zI hi] (zo σ 2 (ntO y B)) (zo σ 2 (ntO y (chk B v lo hi p))) := by
  have := c_checkNumber (σ := σ) (r := ntO y B) (i := i) (lo := lo) (hi := hi) hi0 (by show 0 ≤ y.2 2 i ∧ y.2 2 i ≤ 999; rw [ev]; exact hv) (by show 0 ≤ y.2 3 i ∧ y.2 3 i ≤ 400; rw [ep]; exact hp) hl hh
  rw [ntO_45, ntO_ntO] at this
  subst ev ep
  exact this
theorem c_checkTruckCount {σ : zS} {y dk : zOb} {s : Int} (hs : 0 ≤ s ∧ s ≤ 400) : zCv M_X4_checkTruckCount 2 [zR 2, zI s] (zo (zo σ 3 dk) 2 y) (zo (zo σ 3 dk) 2 (ntO y (bTr (dk.1 1) (y.1 4, y.1 5) s))) := by
  refine zC_of (M := M_X4_checkTruckCount) (ls := [some (zR 2), some (zI s)]) (n := 0) (by decide) (fun ad => Nat.le_of_ble_eq_true rfl) rfl (fun x h => ?_)
  refine z_aloadR_n (pc := 0) h dX4_checkTruckCount_0 rfl ?_
  refine z_getR (pc := 1) (c := 4) (j := 1) (o2 := 3) h rfl (by first | assumption | rfl) rfl rfl fl_X4_12 dX4_checkTruckCount_1 ?_
  refine z_getIq (pc := 4) (c := 1) (j := 1) h ((zo_n (show (3 : Nat) ≠ 2 by decide)).trans (zo_s _ _ _)) (by first | assumption | rfl) rfl rfl fl_X4_152 dX4_checkTruckCount_4 (fun g4 => ?_)
  refine z_bipush (pc := 7) h dX4_checkTruckCount_7 (by decide) ?_
  refine z_icmp_lt (pc := 9) (tgt := 18) h (by omega) (by omega) dX4_checkTruckCount_9 (by decide) (fun c9 => ?_) (fun c9 => ?_)
  · refine z_ret (pc := 18) h rfl dX4_checkTruckCount_18 ?_
    unfold bTr
    first
    | (rw [if_pos (by omega), ntO_self]; exact ⟨rfl, rfl⟩)
    | (rw [if_neg (by omega)]; exact ⟨rfl, rfl⟩)
  · refine z_aloadR_n (pc := 12) h dX4_checkTruckCount_12 rfl ?_
    refine z_iconst (pc := 13) h dX4_checkTruckCount_13 ?_
    refine z_iload_n (pc := 14) h dX4_checkTruckCount_14 rfl ?_
    refine z_vV (pc := 15) (c := 4) h (c_note (by omega) (by omega)) (by decide) (by first | assumption | rfl) rfl mv_X4_note ml_X4_90 rfl dX4_checkTruckCount_15 rfl (Nat.le_of_ble_eq_true rfl) ?_
    refine z_ret (pc := 18) h rfl dX4_checkTruckCount_18 ?_
    unfold bTr
    first
    | (rw [if_pos (by omega), ntO_self]; exact ⟨rfl, rfl⟩)
    | (rw [if_neg (by omega)]; exact ⟨rfl, rfl⟩)
theorem DP_tO {dk : zOb} {v0 v1 v2 v3 v4 n : Int} (h : dk.1 1 = n) : DP dk (tO dk v0 v1 v2 v3 v4) n := by
  subst h
  refine ⟨rfl, rfl, rfl, rfl, rfl, rfl, fun t t0 t1 => ⟨?_, ?_, ?_, ?_, ?_, ?_, rfl⟩⟩
  · exact zup_n _ _ (by omega)
  · exact zup_n _ _ (by omega)
  · exact zup_n _ _ (by omega)
  · exact zup_n _ _ (by omega)
  · exact zup_n _ _ (by omega)
  · exact zup_n _ _ (by omega)
theorem TOLD_out {a V : Int → Int} {dk : zOb} (h : TOLD a dk) (h8 : a 1 < 8) (h0 : 0 ≤ V 0 ∧ V 0 ≤ 99) (h1 : 0 ≤ V 1 ∧ V 1 ≤ 3) (h2 : 0 ≤ V 2 ∧ V 2 ≤ 199) (h3 : 1 ≤ V 3 ∧ V 3 ≤ 40) (h4 : 1 ≤ V 4 ∧ V 4 ≤ 9) : TOLD (aT a (pOut V)) (tO dk (V 0) (V 1) (V 2) (V 3) (V 4)) ∧ a_fs (aT a (pOut V)) (aT a (pOut V) 1) = a_fs a (a 1) := by
  have hn : dk.1 1 = a 1 := h.2.1.2.1
  have hc : dk.1 2 = a_fs a (a 1) := h.2.1.2.2.1
  have g1 := h.1.2.1
  have hA := aT_AP (a := a) (P := pOut V) g1.1
  refine ⟨TOLD_truck h h8 hA (DP_tO hn) (Or.inr rfl) h0 (fun z => absurd z (by show ¬ (1 : Int) = 0; decide)) (fun _ => ⟨⟨h1, h2, h3, h4⟩, ?_, ?_, ?_, ?_, ?_, fun c x y => ⟨rfl, rfl⟩, fun c x y => by omega⟩) ?_ ?_, ?_⟩
  · show zup (dk.2 9) (dk.1 1) (V 1) (a 1) = _; rw [hn, zup_s]; rfl
  · show zup (dk.2 10) (dk.1 1) (V 2) (a 1) = _; rw [hn, zup_s]; rfl
  · show zup (dk.2 11) (dk.1 1) (V 3) (a 1) = _; rw [hn, zup_s]; rfl
  · show zup (dk.2 12) (dk.1 1) (V 4) (a 1) = _; rw [hn, zup_s]; rfl
  · show dk.1 2 = _; omega
  · show zup (dk.2 7) (dk.1 1) 1 (a 1) = _; rw [hn, zup_s]; rfl
  · show zup (dk.2 8) (dk.1 1) (V 0) (a 1) = _; rw [hn, zup_s]; rfl
  · rw [hA.ef1 h8 g1.1, if_pos (show pOut V 0 = 1 from rfl), Int.add_zero]
theorem bOut_PB {m : Int} {b : Int × Int} {s t : Int} {V P : Int → Int} (hb : PB t b) (h : s < t) (hP : ∀ j, 0 ≤ j → j < 5 → P j < t) : PB t (bOut m b s V P) := chk_PB (chk_PB (chk_PB (chk_PB (chk_PB (bTr_PB hb h) (hP 0 (by omega) (by omega))) (hP 1 (by omega) (by omega))) (hP 2 (by omega) (by omega))) (hP 3 (by omega) (by omega))) (hP 4 (by omega) (by omega))
theorem c_readTaker {σ : zS} {r dk : zOb} {f a : Int → Int} {n q1 s ct : Int} {b : Int × Int} (hf : (σ 1).2 0 = f) (hn : (σ 1).1 1 = n) (h4 : n ≤ 400) (hT : TL f n q1 r) (hs : 0 ≤ s ∧ s < q1) (hJ : CJ s a ct b r dk) : zC M_X4_readTaker 6 [zR 2, zI s] (zo (zo σ 3 dk) 2 r) (fun rr τ' => rr = none ∧ ∃ r' dk', τ' = zo (zo σ 3 dk') 2 r' ∧ CO f n (sOut f n q1 s a ct b) r' dk') := by
  have hq1 := hT.1
  refine zC_of (M := M_X4_readTaker) (ls := [some (zR 2), some (zI s)]) (n := 0) (by decide) (fun ad => Nat.le_of_ble_eq_true rfl) rfl (fun x h => ?_)
  unfold sOut
  refine z_aloadR_n (pc := 0) h dX4_readTaker_0 rfl ?_
  refine z_iconst (pc := 1) h dX4_readTaker_1 ?_
  refine z_callV (pc := 2) (c := 4) h (w_takesNumbers hf hn h4 (by omega) hT) (by decide) (by first | assumption | rfl) rfl mv_X4_takesNumbers ml_X4_123 rfl dX4_readTaker_2 rfl (Nat.le_of_ble_eq_true rfl) (fun r2 τ2 q2 => ?_)
  obtain ⟨rfl, y1, rfl, hNR⟩ := q2
  refine z_ifneB (pc := 5) (tgt := 9) h dX4_readTaker_5 (by decide) (fun c5 => ?_) (fun c5 => ?_)
  · have hF := of_decide_eq_true c5
    obtain ⟨h45, hTy1, hvp⟩ := hNR.ok hF
    have hJ1 := hJ.n45 h45.1 h45.2
    have hb45 := hJ1.1
    have hbd := hJ1.2.2.2
    have hvb : ∀ j, 0 ≤ j → j < 5 → 0 ≤ vN f n q1 j ∧ vN f n q1 j ≤ 999 := fun j a b => vN_b hF a b
    have hpb : ∀ j, 0 ≤ j → 0 ≤ pN f n q1 j ∧ pN f n q1 j ≤ 400 := fun j a => by have := pN_b (f := f) (j := j) hT.1.1 hT.1.2 a; omega
    have hpe : ∀ j, 0 ≤ j → j < 5 → pN f n q1 j < tS f n (nQ f n q1 6) := fun j a b => (pN_end (j := j) hT.1.1 hT.1.2 hF a b).1
    have hqe : q1 < tS f n (nQ f n q1 6) := (pN_end (j := 0) hT.1.1 hT.1.2 hF (by omega) (by omega)).2
    have v0 := hvp 0 (by omega) (by omega)
    have v1 := hvp 1 (by omega) (by omega)
    have v2 := hvp 2 (by omega) (by omega)
    have v3 := hvp 3 (by omega) (by omega)
    have v4 := hvp 4 (by omega) (by omega)
    have w0 := hvb 0 (by omega) (by omega)
    have w1 := hvb 1 (by omega) (by omega)
    have w2 := hvb 2 (by omega) (by omega)
    have w3 := hvb 3 (by omega) (by omega)
    have w4 := hvb 4 (by omega) (by omega)
    refine z_aloadR_n (pc := 9) h dX4_readTaker_9 rfl ?_
    refine z_iload_n (pc := 10) h dX4_readTaker_10 rfl ?_
    refine z_vV (pc := 11) (c := 4) h (c_checkTruckCount (by omega)) (by decide) (by first | assumption | rfl) rfl mv_X4_checkTruckCount ml_X4_136 rfl dX4_readTaker_11 rfl (Nat.le_of_ble_eq_true rfl) ?_
    rw [hb45, bTr_d (m' := a 1) (fun z => (hJ1.2.1 z).1.2.1.2.1) hJ1.2.2.1]
    refine z_aloadR_n (pc := 14) h dX4_readTaker_14 rfl ?_
    refine z_iconst (pc := 15) h dX4_readTaker_15 ?_
    refine z_iconst (pc := 16) h dX4_readTaker_16 ?_
    refine z_bipush (pc := 17) h dX4_readTaker_17 (by decide) ?_
    refine z_vV (pc := 19) (c := 4) h (c_chk (by omega) v0.1 v0.2 w0 (hpb 0 (by omega)) (by omega) (by omega)) (by decide) (by first | assumption | rfl) rfl mv_X4_checkNumber ml_X4_129 rfl dX4_readTaker_19 rfl (Nat.le_of_ble_eq_true rfl) ?_
    refine z_aloadR_n (pc := 22) h dX4_readTaker_22 rfl ?_
    refine z_iconst (pc := 23) h dX4_readTaker_23 ?_
    refine z_iconst (pc := 24) h dX4_readTaker_24 ?_
    refine z_iconst (pc := 25) h dX4_readTaker_25 ?_
    refine z_vV (pc := 26) (c := 4) h (c_chk (by omega) v1.1 v1.2 w1 (hpb 1 (by omega)) (by omega) (by omega)) (by decide) (by first | assumption | rfl) rfl mv_X4_checkNumber ml_X4_129 rfl dX4_readTaker_26 rfl (Nat.le_of_ble_eq_true rfl) ?_
    refine z_aloadR_n (pc := 29) h dX4_readTaker_29 rfl ?_
    refine z_iconst (pc := 30) h dX4_readTaker_30 ?_
    refine z_iconst (pc := 31) h dX4_readTaker_31 ?_
    refine z_sipush (pc := 32) h dX4_readTaker_32 (by decide) ?_
    refine z_vV (pc := 35) (c := 4) h (c_chk (by omega) v2.1 v2.2 w2 (hpb 2 (by omega)) (by omega) (by omega)) (by decide) (by first | assumption | rfl) rfl mv_X4_checkNumber ml_X4_129 rfl dX4_readTaker_35 rfl (Nat.le_of_ble_eq_true rfl) ?_
    refine z_aloadR_n (pc := 38) h dX4_readTaker_38 rfl ?_
    refine z_iconst (pc := 39) h dX4_readTaker_39 ?_
    refine z_iconst (pc := 40) h dX4_readTaker_40 ?_
    refine z_bipush (pc := 41) h dX4_readTaker_41 (by decide) ?_
    refine z_vV (pc := 43) (c := 4) h (c_chk (by omega) v3.1 v3.2 w3 (hpb 3 (by omega)) (by omega) (by omega)) (by decide) (by first | assumption | rfl) rfl mv_X4_checkNumber ml_X4_129 rfl dX4_readTaker_43 rfl (Nat.le_of_ble_eq_true rfl) ?_
    refine z_aloadR_n (pc := 46) h dX4_readTaker_46 rfl ?_
    refine z_iconst (pc := 47) h dX4_readTaker_47 ?_
    refine z_iconst (pc := 48) h dX4_readTaker_48 ?_
    refine z_bipush (pc := 49) h dX4_readTaker_49 (by decide) ?_
    refine z_vV (pc := 51) (c := 4) h (c_chk (by omega) v4.1 v4.2 w4 (hpb 4 (by omega)) (by omega) (by omega)) (by decide) (by first | assumption | rfl) rfl mv_X4_checkNumber ml_X4_129 rfl dX4_readTaker_51 rfl (Nat.le_of_ble_eq_true rfl) ?_
    change zW x _ 54 _ _ (zo (zo σ 3 dk) 2 (ntO y1 (bOut (a 1) b s (vN f n q1) (pN f n q1))))
    have u0 : (ntO y1 (bOut (a 1) b s (vN f n q1) (pN f n q1))).2 2 0 = vN f n q1 0 := v0.1
    have u1 : (ntO y1 (bOut (a 1) b s (vN f n q1) (pN f n q1))).2 2 1 = vN f n q1 1 := v1.1
    have u2 : (ntO y1 (bOut (a 1) b s (vN f n q1) (pN f n q1))).2 2 2 = vN f n q1 2 := v2.1
    have u3 : (ntO y1 (bOut (a 1) b s (vN f n q1) (pN f n q1))).2 2 3 = vN f n q1 3 := v3.1
    have u4 : (ntO y1 (bOut (a 1) b s (vN f n q1) (pN f n q1))).2 2 4 = vN f n q1 4 := v4.1
    have hTf : TL f n (nQ f n q1 6) (ntO y1 (bOut (a 1) b s (vN f n q1) (pN f n q1))) := hTy1
    have h45f := ntO_45 y1 (bOut (a 1) b s (vN f n q1) (pN f n q1))
    generalize ntO y1 (bOut (a 1) b s (vN f n q1) (pN f n q1)) = yf at u0 u1 u2 u3 u4 hTf h45f ⊢
    refine z_aloadR_n (pc := 54) h dX4_readTaker_54 rfl ?_
    refine z_getR (pc := 55) (c := 4) (j := 1) (o2 := 3) h rfl (by first | assumption | rfl) rfl rfl fl_X4_12 dX4_readTaker_55 ?_
    refine z_aloadR_n (pc := 58) h dX4_readTaker_58 rfl ?_
    refine z_getA4 (pc := 59) (c := 4) (j := 2) h (by first | assumption | rfl) rfl rfl fl_X4_18 dX4_readTaker_59 ?_
    refine z_iconst (pc := 62) h dX4_readTaker_62 ?_
    refine z_ialdq (pc := 63) (c := 4) (j := 2) (L := 5) h (zo_s _ _ _) (by first | assumption | rfl) (by decide) rfl (by decide) (by omega) (by omega) dX4_readTaker_63 (fun g63 => ?_)
    refine z_aloadR_n (pc := 64) h dX4_readTaker_64 rfl ?_
    refine z_getA4 (pc := 65) (c := 4) (j := 2) h (by first | assumption | rfl) rfl rfl fl_X4_18 dX4_readTaker_65 ?_
    refine z_iconst (pc := 68) h dX4_readTaker_68 ?_
    refine z_ialdq (pc := 69) (c := 4) (j := 2) (L := 5) h (zo_s _ _ _) (by first | assumption | rfl) (by decide) rfl (by decide) (by omega) (by omega) dX4_readTaker_69 (fun g69 => ?_)
    refine z_aloadR_n (pc := 70) h dX4_readTaker_70 rfl ?_
    refine z_getA4 (pc := 71) (c := 4) (j := 2) h (by first | assumption | rfl) rfl rfl fl_X4_18 dX4_readTaker_71 ?_
    refine z_iconst (pc := 74) h dX4_readTaker_74 ?_
    refine z_ialdq (pc := 75) (c := 4) (j := 2) (L := 5) h (zo_s _ _ _) (by first | assumption | rfl) (by decide) rfl (by decide) (by omega) (by omega) dX4_readTaker_75 (fun g75 => ?_)
    refine z_aloadR_n (pc := 76) h dX4_readTaker_76 rfl ?_
    refine z_getA4 (pc := 77) (c := 4) (j := 2) h (by first | assumption | rfl) rfl rfl fl_X4_18 dX4_readTaker_77 ?_
    refine z_iconst (pc := 80) h dX4_readTaker_80 ?_
    refine z_ialdq (pc := 81) (c := 4) (j := 2) (L := 5) h (zo_s _ _ _) (by first | assumption | rfl) (by decide) rfl (by decide) (by omega) (by omega) dX4_readTaker_81 (fun g81 => ?_)
    refine z_aloadR_n (pc := 82) h dX4_readTaker_82 rfl ?_
    refine z_getA4 (pc := 83) (c := 4) (j := 2) h (by first | assumption | rfl) rfl rfl fl_X4_18 dX4_readTaker_83 ?_
    refine z_iconst (pc := 86) h dX4_readTaker_86 ?_
    refine z_ialdq (pc := 87) (c := 4) (j := 2) (L := 5) h (zo_s _ _ _) (by first | assumption | rfl) (by decide) rfl (by decide) (by omega) (by omega) dX4_readTaker_87 (fun g87 => ?_)
    rw [u0, u1, u2, u3, u4, zo_comm (show (3 : Nat) ≠ 2 by decide)]
    refine z_vV (pc := 88) (c := 1) h (c_addTaker hbd.2.1 w0 w1 w2 w3 w4) (by decide) (by first | assumption | rfl) rfl mv_X1_addTaker ml_X4_148 rfl dX4_readTaker_88 rfl (Nat.le_of_ble_eq_true rfl) ?_
    refine z_ret (pc := 91) h rfl dX4_readTaker_91 ?_
    rw [zo_comm (show (2 : Nat) ≠ 3 by decide)]
    refine ⟨rfl, _, _, rfl, ?_⟩
    unfold num
    rw [if_pos hF]
    refine ⟨hTf, h45f, fun z => ?_, ?_, BD_tO hbd w3⟩
    · have z4 := chk_0 z
      have z3 := chk_0 z4.1
      have z2 := chk_0 z3.1
      have z1 := chk_0 z2.1
      have z0 := chk_0 z1.1
      have zt := bTr_0 z0.1
      have zz := hJ1.2.1 zt.1
      have zn : dk.1 1 = a 1 := zz.1.2.1.2.1
      have zf := TOLD_out zz.1 zt.2 z0.2 z1.2 z2.2 z3.2 z4.2
      show TOLD (if a 1 < 8 then aT a (pOut (vN f n q1)) else a) _ ∧ ct = a_fs (if a 1 < 8 then aT a (pOut (vN f n q1)) else a) ((if a 1 < 8 then aT a (pOut (vN f n q1)) else a) 1)
      rw [if_pos zt.2, zn, if_pos zt.2]
      exact ⟨zf.1, by rw [zz.2, zf.2]⟩
    · exact bOut_PB (hJ1.2.2.1.up (by show s ≤ tS f n (nQ f n q1 6); omega)) (by show s < tS f n (nQ f n q1 6); omega) hpe
  · refine z_ret (pc := 8) h rfl dX4_readTaker_8 ?_
    exact ⟨rfl, y1, dk, rfl, num_w hNR (of_decide_eq_false c5)⟩
