/-! The class: a statement for a door, for staging, for the change. -/
theorem CJ.kr {s : Int} {a : Int → Int} {ct : Int} {b : Int × Int} {r r' dk : zOb} (h : CJ s a ct b r dk) (hk : KR r r') : CJ s a ct b r' dk := ⟨by rw [hk.1 4 (by omega), hk.1 5 (by omega)]; exact h.1, h.2⟩
theorem CJ.n45 {s : Int} {a : Int → Int} {ct : Int} {b : Int × Int} {r r' dk : zOb} (h : CJ s a ct b r dk) (h4 : r'.1 4 = r.1 4) (h5 : r'.1 5 = r.1 5) : CJ s a ct b r' dk := ⟨by rw [h4, h5]; exact h.1, h.2⟩
theorem num_w {f : Int → Int} {n q c : Int} {S : ST} {r r' dk : zOb} (h : NR f n q c r r') (hF : nF f n q c ≠ -1) : CO f n (num f n q c S) r' dk := by
  unfold num
  unfold NR at h
  rw [if_neg hF] at h ⊢
  exact h
theorem NR.ok {f : Int → Int} {n q c : Int} {r r' : zOb} (h : NR f n q c r r') (hF : nF f n q c = -1) : (r'.1 4 = r.1 4 ∧ r'.1 5 = r.1 5) ∧ TL f n (nQ f n q (c + 1)) r' ∧ (∀ j, 0 ≤ j → j < c → r'.2 2 j = vN f n q j ∧ r'.2 3 j = pN f n q j) := by
  unfold NR at h
  rw [if_pos hF] at h
  exact h
theorem c_readDoor {σ : zS} {r dk : zOb} {f a : Int → Int} {n q1 s ct : Int} {b : Int × Int} (hf : (σ 1).2 0 = f) (hn : (σ 1).1 1 = n) (h4 : n ≤ 400) (hT : TL f n q1 r) (hs : 0 ≤ s ∧ s < q1) (hJ : CJ s a ct b r dk) : zC M_X4_readDoor 6 [zR 2, zI s] (zo (zo σ 3 dk) 2 r) (fun rr τ' => rr = none ∧ ∃ r' dk', τ' = zo (zo σ 3 dk') 2 r' ∧ CO f n (sDoor f n q1 s a ct b) r' dk') := by
  have hq1 := hT.1
  have hE1 := tE_b (f := f) hq1.2
  have hS1 := tS_b (f := f) hq1.2
  refine zC_of (M := M_X4_readDoor) (ls := [some (zR 2), some (zI s), none]) (n := 1) (by decide) (fun ad => Nat.le_of_ble_eq_true rfl) rfl (fun x h => ?_)
  have B : ∀ y : zOb, tW f n q1 1 = true ∨ tW f n q1 2 = true → TL f n (tE f n q1) y → CJ s a ct b y dk → zW x (fun rr τ' => rr = none ∧ ∃ r' dk', τ' = zo (zo σ 3 dk') 2 r' ∧ CO f n (sDoor f n q1 s a ct b) r' dk') 30 [some (zR 2), some (zI s), some (zB (tW f n q1 1))] [] (zo (zo σ 3 dk) 2 y) := by
    intro y hor hTy hJy
    unfold sDoor
    rw [if_pos hor]
    have hk01 : ∀ z : Bool, tW f n q1 1 = z → (if tW f n q1 1 = true then (0 : Int) else 1) = (if z = true then 0 else 1) := fun z e => by rw [e]
    generalize tE f n q1 = qn at hE1 hTy ⊢
    refine z_aloadR_n (pc := 30) h dX4_readDoor_30 rfl ?_
    refine z_iconst (pc := 31) h dX4_readDoor_31 ?_
    refine z_callV (pc := 32) (c := 4) h (w_takesNumbers hf hn h4 (by omega) hTy) (by decide) (by first | assumption | rfl) rfl mv_X4_takesNumbers ml_X4_123 rfl dX4_readDoor_32 rfl (Nat.le_of_ble_eq_true rfl) (fun r32 τ32 q32 => ?_)
    obtain ⟨rfl, y1, rfl, hNR⟩ := q32
    refine z_ifneB (pc := 35) (tgt := 39) h dX4_readDoor_35 (by decide) (fun c35 => ?_) (fun c35 => ?_)
    · have hF := of_decide_eq_true c35
      obtain ⟨h45, hTy1, hvp⟩ := hNR.ok hF
      have hJ1 := hJy.n45 h45.1 h45.2
      have hv0 := hvp 0 (by omega) (by omega)
      have hvb := vN_b (j := 0) hF (by omega) (by omega)
      have hpb := pN_b (f := f) (j := 0) hTy.1.1 hTy.1.2 (Int.le_refl 0)
      have hpe := pN_end (j := 0) hTy.1.1 hTy.1.2 hF (by omega) (by omega)
      rw [show (1 : Int) + 1 = 2 from rfl] at hpe
      have hbd := hJ1.2.2.2
      have hb45 := hJ1.1
      refine z_aloadR_n (pc := 39) h dX4_readDoor_39 rfl ?_
      refine z_getR (pc := 40) (c := 4) (j := 1) (o2 := 3) h rfl (by first | assumption | rfl) rfl rfl fl_X4_12 dX4_readDoor_40 ?_
      refine z_getIq (pc := 43) (c := 1) (j := 0) h ((zo_n (show (3 : Nat) ≠ 2 by decide)).trans (zo_s _ _ _)) (by first | assumption | rfl) rfl rfl fl_X4_126 dX4_readDoor_43 (fun g43 => ?_)
      refine z_bipush (pc := 46) h dX4_readDoor_46 (by decide) ?_
      refine z_icmp_lt (pc := 48) (tgt := 57) h (by omega) (by omega) dX4_readDoor_48 (by decide) (fun c48 => ?_) (fun c48 => ?_)
      · generalize hy2 : (if dk.1 0 < 6 then y1 else ntO y1 (nt (y1.1 4, y1.1 5) 3 s)) = y2
        have e2 : (y2.1 4, y2.1 5) = (if dk.1 0 < 6 then b else nt b 3 s) := by
          rw [← hy2]
          by_cases e : dk.1 0 < 6
          · rw [if_pos e, if_pos e]; exact hb45
          · rw [if_neg e, if_neg e, ntO_45, hb45]
        have f2 : y2.2 2 = y1.2 2 ∧ y2.2 3 = y1.2 3 := by rw [← hy2]; split <;> exact ⟨rfl, rfl⟩
        have t2 : TL f n (nQ f n qn 2) y2 := by rw [← hy2]; split <;> exact hTy1
        first
        | rw [if_pos (by omega)] at hy2
        | rw [if_neg (by omega)] at hy2
        rw [hy2]
        have v2 : y2.2 2 0 = vN f n qn 0 := by rw [f2.1]; exact hv0.1
        have p2 : y2.2 3 0 = pN f n qn 0 := by rw [f2.2]; exact hv0.2
        clear hy2 f2
        refine z_aloadR_n (pc := 57) h dX4_readDoor_57 rfl ?_
        refine z_iconst (pc := 58) h dX4_readDoor_58 ?_
        refine z_iconst (pc := 59) h dX4_readDoor_59 ?_
        refine z_bipush (pc := 60) h dX4_readDoor_60 (by decide) ?_
        refine z_vV (pc := 62) (c := 4) h (c_checkNumber (by omega) (by omega) (by omega) (by omega) (by omega)) (by decide) (by first | assumption | rfl) rfl mv_X4_checkNumber ml_X4_129 rfl dX4_readDoor_62 rfl (Nat.le_of_ble_eq_true rfl) ?_
        rw [e2, v2, p2]
        have e3 : chk (if dk.1 0 < 6 then b else nt b 3 s) (vN f n qn 0) 0 99 (pN f n qn 0) = bDoor (a 0) b s (vN f n qn) (pN f n qn) := bDoor_d (fun z => (hJ1.2.1 z).1.2.1.1) hJ1.2.2.1 (by omega)
        rw [e3]
        have v3 : (ntO y2 (bDoor (a 0) b s (vN f n qn) (pN f n qn))).2 2 0 = vN f n qn 0 := v2
        refine z_aloadR_n (pc := 65) h dX4_readDoor_65 rfl ?_
        refine z_getR (pc := 66) (c := 4) (j := 1) (o2 := 3) h rfl (by first | assumption | rfl) rfl rfl fl_X4_12 dX4_readDoor_66 ?_
        refine z_iload_n (pc := 69) h dX4_readDoor_69 rfl ?_
        refine z_ifeqB (pc := 70) (tgt := 77) h dX4_readDoor_70 (by decide) (fun c70 => ?_) (fun c70 => ?_)
        · refine z_iconst (pc := 77) h dX4_readDoor_77 ?_
          refine z_aloadR_n (pc := 78) h dX4_readDoor_78 rfl ?_
          refine z_getA4 (pc := 79) (c := 4) (j := 2) h (by first | assumption | rfl) rfl rfl fl_X4_18 dX4_readDoor_79 ?_
          refine z_iconst (pc := 82) h dX4_readDoor_82 ?_
          refine z_ialdq (pc := 83) (c := 4) (j := 2) (L := 5) h (zo_s _ _ _) (by first | assumption | rfl) (by decide) rfl (by decide) (by omega) (by omega) dX4_readDoor_83 (fun g83 => ?_)
          rw [v3, zo_comm (show (3 : Nat) ≠ 2 by decide)]
          refine z_vV (pc := 84) (c := 1) h (c_addDoor hbd.1 (by omega) (by omega)) (by decide) (by first | assumption | rfl) rfl mv_X1_addDoor ml_X4_133 rfl dX4_readDoor_84 rfl (Nat.le_of_ble_eq_true rfl) ?_
          rw [zo_comm (show (2 : Nat) ≠ 3 by decide)]
          have hfin : ∀ kk : Int, (if tW f n q1 1 = true then (0 : Int) else 1) = kk → CO f n (num f n qn 1 (nQ f n qn 2, if a 0 < 6 then aD a (if tW f n q1 1 = true then 0 else 1) (vN f n qn 0) else a, ct, bDoor (a 0) b s (vN f n qn) (pN f n qn))) (ntO y2 (bDoor (a 0) b s (vN f n qn) (pN f n qn))) (if dk.1 0 < 6 then dO dk kk (vN f n qn 0) else dk) := by
            intro kk ek
            unfold num
            rw [if_pos hF, ek]
            refine ⟨t2, rfl, fun z => ?_, ?_, BD_dO hbd⟩
            · have z1 := chk_0 z
              have z2 : b.1 = 0 ∧ a 0 < 6 := by
                have := z1.1
                split at this
                · exact ⟨this, by assumption⟩
                · exact absurd this (nt_ne (by decide))
              have z3 := hJ1.2.1 z2.1
              have z4 : dk.1 0 = a 0 := z3.1.2.1.1
              show TOLD (if a 0 < 6 then aD a kk (vN f n qn 0) else a) _ ∧ ct = _
              rw [if_pos z2.2, z4, if_pos z2.2]
              have z5 := TOLD_door (k := kk) (v := vN f n qn 0) z3.1 z2.2 (by rw [← ek]; split <;> omega) z1.2
              refine ⟨z5, ?_⟩
              rw [z3.2, ← z5.2.1.2.2.1]
              exact z3.1.2.1.2.2.1.symm
            · show PB (tS f n (nQ f n qn 2)) _
              refine chk_PB ?_ hpe.1
              split
              · exact hJ1.2.2.1.up (by omega)
              · exact nt_PB (hJ1.2.2.1.up (by omega)) (by omega) (by decide)
          refine z_ret (pc := 87) h rfl dX4_readDoor_87 ?_
          first
          | exact ⟨rfl, _, _, rfl, hfin 0 (by rw [c70]; rfl)⟩
          | exact ⟨rfl, _, _, rfl, hfin 1 (by rw [c70]; rfl)⟩
        · refine z_iconst (pc := 73) h dX4_readDoor_73 ?_
          refine z_goto (pc := 74) (tgt := 78) h dX4_readDoor_74 (by decide) ?_
          refine z_aloadR_n (pc := 78) h dX4_readDoor_78 rfl ?_
          refine z_getA4 (pc := 79) (c := 4) (j := 2) h (by first | assumption | rfl) rfl rfl fl_X4_18 dX4_readDoor_79 ?_
          refine z_iconst (pc := 82) h dX4_readDoor_82 ?_
          refine z_ialdq (pc := 83) (c := 4) (j := 2) (L := 5) h (zo_s _ _ _) (by first | assumption | rfl) (by decide) rfl (by decide) (by omega) (by omega) dX4_readDoor_83 (fun g83 => ?_)
          rw [v3, zo_comm (show (3 : Nat) ≠ 2 by decide)]
          refine z_vV (pc := 84) (c := 1) h (c_addDoor hbd.1 (by omega) (by omega)) (by decide) (by first | assumption | rfl) rfl mv_X1_addDoor ml_X4_133 rfl dX4_readDoor_84 rfl (Nat.le_of_ble_eq_true rfl) ?_
          rw [zo_comm (show (2 : Nat) ≠ 3 by decide)]
          have hfin : ∀ kk : Int, (if tW f n q1 1 = true then (0 : Int) else 1) = kk → CO f n (num f n qn 1 (nQ f n qn 2, if a 0 < 6 then aD a (if tW f n q1 1 = true then 0 else 1) (vN f n qn 0) else a, ct, bDoor (a 0) b s (vN f n qn) (pN f n qn))) (ntO y2 (bDoor (a 0) b s (vN f n qn) (pN f n qn))) (if dk.1 0 < 6 then dO dk kk (vN f n qn 0) else dk) := by
            intro kk ek
            unfold num
            rw [if_pos hF, ek]
            refine ⟨t2, rfl, fun z => ?_, ?_, BD_dO hbd⟩
            · have z1 := chk_0 z
              have z2 : b.1 = 0 ∧ a 0 < 6 := by
                have := z1.1
                split at this
                · exact ⟨this, by assumption⟩
                · exact absurd this (nt_ne (by decide))
              have z3 := hJ1.2.1 z2.1
              have z4 : dk.1 0 = a 0 := z3.1.2.1.1
              show TOLD (if a 0 < 6 then aD a kk (vN f n qn 0) else a) _ ∧ ct = _
              rw [if_pos z2.2, z4, if_pos z2.2]
              have z5 := TOLD_door (k := kk) (v := vN f n qn 0) z3.1 z2.2 (by rw [← ek]; split <;> omega) z1.2
              refine ⟨z5, ?_⟩
              rw [z3.2, ← z5.2.1.2.2.1]
              exact z3.1.2.1.2.2.1.symm
            · show PB (tS f n (nQ f n qn 2)) _
              refine chk_PB ?_ hpe.1
              split
              · exact hJ1.2.2.1.up (by omega)
              · exact nt_PB (hJ1.2.2.1.up (by omega)) (by omega) (by decide)
          refine z_ret (pc := 87) h rfl dX4_readDoor_87 ?_
          first
          | exact ⟨rfl, _, _, rfl, hfin 0 (by rw [c70]; rfl)⟩
          | exact ⟨rfl, _, _, rfl, hfin 1 (by rw [c70]; rfl)⟩
      · refine z_aloadR_n (pc := 51) h dX4_readDoor_51 rfl ?_
        refine z_iconst (pc := 52) h dX4_readDoor_52 ?_
        refine z_iload_n (pc := 53) h dX4_readDoor_53 rfl ?_
        refine z_vV (pc := 54) (c := 4) h (c_note (by omega) (by omega)) (by decide) (by first | assumption | rfl) rfl mv_X4_note ml_X4_90 rfl dX4_readDoor_54 rfl (Nat.le_of_ble_eq_true rfl) ?_
        generalize hy2 : (if dk.1 0 < 6 then y1 else ntO y1 (nt (y1.1 4, y1.1 5) 3 s)) = y2
        have e2 : (y2.1 4, y2.1 5) = (if dk.1 0 < 6 then b else nt b 3 s) := by
          rw [← hy2]
          by_cases e : dk.1 0 < 6
          · rw [if_pos e, if_pos e]; exact hb45
          · rw [if_neg e, if_neg e, ntO_45, hb45]
        have f2 : y2.2 2 = y1.2 2 ∧ y2.2 3 = y1.2 3 := by rw [← hy2]; split <;> exact ⟨rfl, rfl⟩
        have t2 : TL f n (nQ f n qn 2) y2 := by rw [← hy2]; split <;> exact hTy1
        first
        | rw [if_pos (by omega)] at hy2
        | rw [if_neg (by omega)] at hy2
        rw [hy2]
        have v2 : y2.2 2 0 = vN f n qn 0 := by rw [f2.1]; exact hv0.1
        have p2 : y2.2 3 0 = pN f n qn 0 := by rw [f2.2]; exact hv0.2
        clear hy2 f2
        refine z_aloadR_n (pc := 57) h dX4_readDoor_57 rfl ?_
        refine z_iconst (pc := 58) h dX4_readDoor_58 ?_
        refine z_iconst (pc := 59) h dX4_readDoor_59 ?_
        refine z_bipush (pc := 60) h dX4_readDoor_60 (by decide) ?_
        refine z_vV (pc := 62) (c := 4) h (c_checkNumber (by omega) (by omega) (by omega) (by omega) (by omega)) (by decide) (by first | assumption | rfl) rfl mv_X4_checkNumber ml_X4_129 rfl dX4_readDoor_62 rfl (Nat.le_of_ble_eq_true rfl) ?_
        rw [e2, v2, p2]
        have e3 : chk (if dk.1 0 < 6 then b else nt b 3 s) (vN f n qn 0) 0 99 (pN f n qn 0) = bDoor (a 0) b s (vN f n qn) (pN f n qn) := bDoor_d (fun z => (hJ1.2.1 z).1.2.1.1) hJ1.2.2.1 (by omega)
        rw [e3]
        have v3 : (ntO y2 (bDoor (a 0) b s (vN f n qn) (pN f n qn))).2 2 0 = vN f n qn 0 := v2
        refine z_aloadR_n (pc := 65) h dX4_readDoor_65 rfl ?_
        refine z_getR (pc := 66) (c := 4) (j := 1) (o2 := 3) h rfl (by first | assumption | rfl) rfl rfl fl_X4_12 dX4_readDoor_66 ?_
        refine z_iload_n (pc := 69) h dX4_readDoor_69 rfl ?_
        refine z_ifeqB (pc := 70) (tgt := 77) h dX4_readDoor_70 (by decide) (fun c70 => ?_) (fun c70 => ?_)
        · refine z_iconst (pc := 77) h dX4_readDoor_77 ?_
          refine z_aloadR_n (pc := 78) h dX4_readDoor_78 rfl ?_
          refine z_getA4 (pc := 79) (c := 4) (j := 2) h (by first | assumption | rfl) rfl rfl fl_X4_18 dX4_readDoor_79 ?_
          refine z_iconst (pc := 82) h dX4_readDoor_82 ?_
          refine z_ialdq (pc := 83) (c := 4) (j := 2) (L := 5) h (zo_s _ _ _) (by first | assumption | rfl) (by decide) rfl (by decide) (by omega) (by omega) dX4_readDoor_83 (fun g83 => ?_)
          rw [v3, zo_comm (show (3 : Nat) ≠ 2 by decide)]
          refine z_vV (pc := 84) (c := 1) h (c_addDoor hbd.1 (by omega) (by omega)) (by decide) (by first | assumption | rfl) rfl mv_X1_addDoor ml_X4_133 rfl dX4_readDoor_84 rfl (Nat.le_of_ble_eq_true rfl) ?_
          rw [zo_comm (show (2 : Nat) ≠ 3 by decide)]
          have hfin : ∀ kk : Int, (if tW f n q1 1 = true then (0 : Int) else 1) = kk → CO f n (num f n qn 1 (nQ f n qn 2, if a 0 < 6 then aD a (if tW f n q1 1 = true then 0 else 1) (vN f n qn 0) else a, ct, bDoor (a 0) b s (vN f n qn) (pN f n qn))) (ntO y2 (bDoor (a 0) b s (vN f n qn) (pN f n qn))) (if dk.1 0 < 6 then dO dk kk (vN f n qn 0) else dk) := by
            intro kk ek
            unfold num
            rw [if_pos hF, ek]
            refine ⟨t2, rfl, fun z => ?_, ?_, BD_dO hbd⟩
            · have z1 := chk_0 z
              have z2 : b.1 = 0 ∧ a 0 < 6 := by
                have := z1.1
                split at this
                · exact ⟨this, by assumption⟩
                · exact absurd this (nt_ne (by decide))
              have z3 := hJ1.2.1 z2.1
              have z4 : dk.1 0 = a 0 := z3.1.2.1.1
              show TOLD (if a 0 < 6 then aD a kk (vN f n qn 0) else a) _ ∧ ct = _
              rw [if_pos z2.2, z4, if_pos z2.2]
              have z5 := TOLD_door (k := kk) (v := vN f n qn 0) z3.1 z2.2 (by rw [← ek]; split <;> omega) z1.2
              refine ⟨z5, ?_⟩
              rw [z3.2, ← z5.2.1.2.2.1]
              exact z3.1.2.1.2.2.1.symm
            · show PB (tS f n (nQ f n qn 2)) _
              refine chk_PB ?_ hpe.1
              split
              · exact hJ1.2.2.1.up (by omega)
              · exact nt_PB (hJ1.2.2.1.up (by omega)) (by omega) (by decide)
          refine z_ret (pc := 87) h rfl dX4_readDoor_87 ?_
          first
          | exact ⟨rfl, _, _, rfl, hfin 0 (by rw [c70]; rfl)⟩
          | exact ⟨rfl, _, _, rfl, hfin 1 (by rw [c70]; rfl)⟩
        · refine z_iconst (pc := 73) h dX4_readDoor_73 ?_
          refine z_goto (pc := 74) (tgt := 78) h dX4_readDoor_74 (by decide) ?_
          refine z_aloadR_n (pc := 78) h dX4_readDoor_78 rfl ?_
          refine z_getA4 (pc := 79) (c := 4) (j := 2) h (by first | assumption | rfl) rfl rfl fl_X4_18 dX4_readDoor_79 ?_
          refine z_iconst (pc := 82) h dX4_readDoor_82 ?_
          refine z_ialdq (pc := 83) (c := 4) (j := 2) (L := 5) h (zo_s _ _ _) (by first | assumption | rfl) (by decide) rfl (by decide) (by omega) (by omega) dX4_readDoor_83 (fun g83 => ?_)
          rw [v3, zo_comm (show (3 : Nat) ≠ 2 by decide)]
          refine z_vV (pc := 84) (c := 1) h (c_addDoor hbd.1 (by omega) (by omega)) (by decide) (by first | assumption | rfl) rfl mv_X1_addDoor ml_X4_133 rfl dX4_readDoor_84 rfl (Nat.le_of_ble_eq_true rfl) ?_
          rw [zo_comm (show (2 : Nat) ≠ 3 by decide)]
          have hfin : ∀ kk : Int, (if tW f n q1 1 = true then (0 : Int) else 1) = kk → CO f n (num f n qn 1 (nQ f n qn 2, if a 0 < 6 then aD a (if tW f n q1 1 = true then 0 else 1) (vN f n qn 0) else a, ct, bDoor (a 0) b s (vN f n qn) (pN f n qn))) (ntO y2 (bDoor (a 0) b s (vN f n qn) (pN f n qn))) (if dk.1 0 < 6 then dO dk kk (vN f n qn 0) else dk) := by
            intro kk ek
            unfold num
            rw [if_pos hF, ek]
            refine ⟨t2, rfl, fun z => ?_, ?_, BD_dO hbd⟩
            · have z1 := chk_0 z
              have z2 : b.1 = 0 ∧ a 0 < 6 := by
                have := z1.1
                split at this
                · exact ⟨this, by assumption⟩
                · exact absurd this (nt_ne (by decide))
              have z3 := hJ1.2.1 z2.1
              have z4 : dk.1 0 = a 0 := z3.1.2.1.1
              show TOLD (if a 0 < 6 then aD a kk (vN f n qn 0) else a) _ ∧ ct = _
              rw [if_pos z2.2, z4, if_pos z2.2]
              have z5 := TOLD_door (k := kk) (v := vN f n qn 0) z3.1 z2.2 (by rw [← ek]; split <;> omega) z1.2
              refine ⟨z5, ?_⟩
              rw [z3.2, ← z5.2.1.2.2.1]
              exact z3.1.2.1.2.2.1.symm
            · show PB (tS f n (nQ f n qn 2)) _
              refine chk_PB ?_ hpe.1
              split
              · exact hJ1.2.2.1.up (by omega)
              · exact nt_PB (hJ1.2.2.1.up (by omega)) (by omega) (by decide)
          refine z_ret (pc := 87) h rfl dX4_readDoor_87 ?_
          first
          | exact ⟨rfl, _, _, rfl, hfin 0 (by rw [c70]; rfl)⟩
          | exact ⟨rfl, _, _, rfl, hfin 1 (by rw [c70]; rfl)⟩
    · refine z_ret (pc := 38) h rfl dX4_readDoor_38 ?_
      exact ⟨rfl, y1, dk, rfl, num_w hNR (of_decide_eq_false c35)⟩
  refine z_aloadR_n (pc := 0) h dX4_readDoor_0 rfl ?_
  refine z_ldcT (pc := 1) h (i := 1) (by decide) dX4_readDoor_1 ?_
  refine z_callV (pc := 3) (c := 4) h (w_takesWord hf hn h4 (by decide) hT) (by decide) (by first | assumption | rfl) rfl mv_X4_takesWord ml_X4_95 rfl dX4_readDoor_3 rfl (Nat.le_of_ble_eq_true rfl) (fun r3 τ3 q3 => ?_)
  obtain ⟨rfl, r1, rfl, hK1, hT1⟩ := q3
  refine z_ist_2 (pc := 6) h dX4_readDoor_6 (by decide) rfl ?_
  refine z_iload_n (pc := 7) h dX4_readDoor_7 rfl ?_
  refine z_ifneB (pc := 8) (tgt := 30) h dX4_readDoor_8 (by decide) (fun c8 => ?_) (fun c8 => ?_)
  · rw [if_pos c8] at hT1
    first
    | exact B r2 (Or.inr c17) hT2 (hJ.kr hK2)
    | exact B r1 (Or.inl c8) hT1 (hJ.kr hK1)
  · rw [c8, if_neg (by decide)] at hT1
    subst hT1
    refine z_aloadR_n (pc := 11) h dX4_readDoor_11 rfl ?_
    refine z_ldcT (pc := 12) h (i := 2) (by decide) dX4_readDoor_12 ?_
    refine z_callV (pc := 14) (c := 4) h (w_takesWord hf hn h4 (by decide) hT) (by decide) (by first | assumption | rfl) rfl mv_X4_takesWord ml_X4_95 rfl dX4_readDoor_14 rfl (Nat.le_of_ble_eq_true rfl) (fun r14 τ14 q14 => ?_)
    obtain ⟨rfl, r2, rfl, hK2, hT2⟩ := q14
    refine z_ifneB (pc := 17) (tgt := 30) h dX4_readDoor_17 (by decide) (fun c17 => ?_) (fun c17 => ?_)
    · rw [if_pos c17] at hT2
      first
      | exact B r2 (Or.inr c17) hT2 (hJ.kr hK2)
      | exact B r1 (Or.inl c8) hT1 (hJ.kr hK1)
    · rw [c17, if_neg (by decide)] at hT2
      subst hT2
      refine z_aloadR_n (pc := 20) h dX4_readDoor_20 rfl ?_
      refine z_iconst (pc := 21) h dX4_readDoor_21 ?_
      refine z_aloadR_n (pc := 22) h dX4_readDoor_22 rfl ?_
      refine z_getIq (pc := 23) (c := 4) (j := 7) h (zo_s _ _ _) (by first | assumption | rfl) rfl rfl fl_X4_68 dX4_readDoor_23 (fun g23 => ?_)
      have e7 := hT.2.2.1
      rw [e7]
      refine z_vV (pc := 26) (c := 4) h (c_note1 (by omega)) (by decide) (by first | assumption | rfl) rfl mv_X4_note ml_X4_90 rfl dX4_readDoor_26 rfl (Nat.le_of_ble_eq_true rfl) ?_
      refine z_ret (pc := 29) h rfl dX4_readDoor_29 ?_
      refine ⟨rfl, _, dk, rfl, ?_⟩
      unfold sDoor
      rw [if_neg (by rw [c8, c17]; decide)]
      exact ⟨rfl, rfl⟩
theorem c_readStaging {σ : zS} {r dk : zOb} {f a : Int → Int} {n q1 s ct : Int} {b : Int × Int} (hf : (σ 1).2 0 = f) (hn : (σ 1).1 1 = n) (h4 : n ≤ 400) (hT : TL f n q1 r) (hs : 0 ≤ s ∧ s < q1) (hJ : CJ s a ct b r dk) : zC M_X4_readStaging 6 [zR 2] (zo (zo σ 3 dk) 2 r) (fun rr τ' => rr = none ∧ ∃ r' dk', τ' = zo (zo σ 3 dk') 2 r' ∧ CO f n (sStg f n q1 a ct b) r' dk') := by
  refine zC_of (M := M_X4_readStaging) (ls := [some (zR 2)]) (n := 0) (by decide) (fun ad => Nat.le_of_ble_eq_true rfl) rfl (fun x h => ?_)
  unfold sStg
  refine z_aloadR_n (pc := 0) h dX4_readStaging_0 rfl ?_
  refine z_iconst (pc := 1) h dX4_readStaging_1 ?_
  refine z_callV (pc := 2) (c := 4) h (w_takesNumbers hf hn h4 (by omega) hT) (by decide) (by first | assumption | rfl) rfl mv_X4_takesNumbers ml_X4_123 rfl dX4_readStaging_2 rfl (Nat.le_of_ble_eq_true rfl) (fun r2 τ2 q2 => ?_)
  obtain ⟨rfl, y1, rfl, hNR⟩ := q2
  refine z_ifeqB (pc := 5) (tgt := 29) h dX4_readStaging_5 (by decide) (fun c5 => ?_) (fun c5 => ?_)
  · have hF := of_decide_eq_false c5
    refine z_ret (pc := 29) h rfl dX4_readStaging_29 ?_
    first
    | exact ⟨rfl, y1, dk, rfl, num_w hNR hF⟩
    | (rw [zss_zo, zo_comm (show (2 : Nat) ≠ 3 by decide)]; refine ⟨rfl, _, _, rfl, ?_⟩; unfold num; rw [if_pos hF]; refine ⟨hTy1, rfl, fun z => ?_, chk_PB (s := tS f n (nQ f n q1 2)) (hJ1.2.2.1.up (by omega)) hpe.1, hJ1.2.2.2⟩; have z1 := chk_0 z; have z3 := hJ1.2.1 z1.1; have z5 := TOLD_stg (v := vN f n q1 0) z3.1 z1.2; refine ⟨z5, ?_⟩; rw [z3.2, ← z5.2.1.2.2.1]; exact z3.1.2.1.2.2.1.symm)
  · have hF := of_decide_eq_true c5
    obtain ⟨h45, hTy1, hvp⟩ := hNR.ok hF
    have hJ1 := hJ.n45 h45.1 h45.2
    have hv0 := hvp 0 (by omega) (by omega)
    have hvb := vN_b (j := 0) hF (by omega) (by omega)
    have hpb := pN_b (f := f) (j := 0) hT.1.1 hT.1.2 (Int.le_refl 0)
    have hpe := pN_end (j := 0) hT.1.1 hT.1.2 hF (by omega) (by omega)
    rw [show (1 : Int) + 1 = 2 from rfl] at hpe
    refine z_aloadR_n (pc := 8) h dX4_readStaging_8 rfl ?_
    refine z_iconst (pc := 9) h dX4_readStaging_9 ?_
    refine z_iconst (pc := 10) h dX4_readStaging_10 ?_
    refine z_bipush (pc := 11) h dX4_readStaging_11 (by decide) ?_
    refine z_vV (pc := 13) (c := 4) h (c_checkNumber (by omega) (by omega) (by omega) (by omega) (by omega)) (by decide) (by first | assumption | rfl) rfl mv_X4_checkNumber ml_X4_129 rfl dX4_readStaging_13 rfl (Nat.le_of_ble_eq_true rfl) ?_
    rw [hJ1.1, hv0.1, hv0.2]
    have v3 : (ntO y1 (chk b (vN f n q1 0) 0 40 (pN f n q1 0))).2 2 0 = vN f n q1 0 := hv0.1
    refine z_aloadR_n (pc := 16) h dX4_readStaging_16 rfl ?_
    refine z_getR (pc := 17) (c := 4) (j := 1) (o2 := 3) h rfl (by first | assumption | rfl) rfl rfl fl_X4_12 dX4_readStaging_17 ?_
    refine z_aloadR_n (pc := 20) h dX4_readStaging_20 rfl ?_
    refine z_getA4 (pc := 21) (c := 4) (j := 2) h (by first | assumption | rfl) rfl rfl fl_X4_18 dX4_readStaging_21 ?_
    refine z_iconst (pc := 24) h dX4_readStaging_24 ?_
    refine z_ialdq (pc := 25) (c := 4) (j := 2) (L := 5) h (zo_s _ _ _) (by first | assumption | rfl) (by decide) rfl (by decide) (by omega) (by omega) dX4_readStaging_25 (fun g25 => ?_)
    rw [v3, zo_comm (show (3 : Nat) ≠ 2 by decide)]
    refine z_putI (pc := 26) (c := 1) (j := 3) h (by first | assumption | rfl) rfl rfl fl_X4_155 rfl (tyX1_ok 3 (by decide)) dX4_readStaging_26 (by omega) ?_
    refine z_ret (pc := 29) h rfl dX4_readStaging_29 ?_
    first
    | exact ⟨rfl, y1, dk, rfl, num_w hNR hF⟩
    | (rw [zss_zo, zo_comm (show (2 : Nat) ≠ 3 by decide)]; refine ⟨rfl, _, _, rfl, ?_⟩; unfold num; rw [if_pos hF]; refine ⟨hTy1, rfl, fun z => ?_, chk_PB (s := tS f n (nQ f n q1 2)) (hJ1.2.2.1.up (by omega)) hpe.1, hJ1.2.2.2⟩; have z1 := chk_0 z; have z3 := hJ1.2.1 z1.1; have z5 := TOLD_stg (v := vN f n q1 0) z3.1 z1.2; refine ⟨z5, ?_⟩; rw [z3.2, ← z5.2.1.2.2.1]; exact z3.1.2.1.2.2.1.symm)
theorem c_readChange {σ : zS} {r dk : zOb} {f a : Int → Int} {n q1 s ct : Int} {b : Int × Int} (hf : (σ 1).2 0 = f) (hn : (σ 1).1 1 = n) (h4 : n ≤ 400) (hT : TL f n q1 r) (hs : 0 ≤ s ∧ s < q1) (hJ : CJ s a ct b r dk) : zC M_X4_readChange 6 [zR 2] (zo (zo σ 3 dk) 2 r) (fun rr τ' => rr = none ∧ ∃ r' dk', τ' = zo (zo σ 3 dk') 2 r' ∧ CO f n (sChg f n q1 a ct b) r' dk') := by
  refine zC_of (M := M_X4_readChange) (ls := [some (zR 2)]) (n := 0) (by decide) (fun ad => Nat.le_of_ble_eq_true rfl) rfl (fun x h => ?_)
  unfold sChg
  refine z_aloadR_n (pc := 0) h dX4_readChange_0 rfl ?_
  refine z_iconst (pc := 1) h dX4_readChange_1 ?_
  refine z_callV (pc := 2) (c := 4) h (w_takesNumbers hf hn h4 (by omega) hT) (by decide) (by first | assumption | rfl) rfl mv_X4_takesNumbers ml_X4_123 rfl dX4_readChange_2 rfl (Nat.le_of_ble_eq_true rfl) (fun r2 τ2 q2 => ?_)
  obtain ⟨rfl, y1, rfl, hNR⟩ := q2
  refine z_ifeqB (pc := 5) (tgt := 29) h dX4_readChange_5 (by decide) (fun c5 => ?_) (fun c5 => ?_)
  · have hF := of_decide_eq_false c5
    refine z_ret (pc := 29) h rfl dX4_readChange_29 ?_
    first
    | exact ⟨rfl, y1, dk, rfl, num_w hNR hF⟩
    | (rw [zss_zo, zo_comm (show (2 : Nat) ≠ 3 by decide)]; refine ⟨rfl, _, _, rfl, ?_⟩; unfold num; rw [if_pos hF]; refine ⟨hTy1, rfl, fun z => ?_, chk_PB (s := tS f n (nQ f n q1 2)) (hJ1.2.2.1.up (by omega)) hpe.1, hJ1.2.2.2⟩; have z1 := chk_0 z; have z3 := hJ1.2.1 z1.1; have z5 := TOLD_chg (v := vN f n q1 0) z3.1 z1.2; refine ⟨z5, ?_⟩; rw [z3.2, ← z5.2.1.2.2.1]; exact z3.1.2.1.2.2.1.symm)
  · have hF := of_decide_eq_true c5
    obtain ⟨h45, hTy1, hvp⟩ := hNR.ok hF
    have hJ1 := hJ.n45 h45.1 h45.2
    have hv0 := hvp 0 (by omega) (by omega)
    have hvb := vN_b (j := 0) hF (by omega) (by omega)
    have hpb := pN_b (f := f) (j := 0) hT.1.1 hT.1.2 (Int.le_refl 0)
    have hpe := pN_end (j := 0) hT.1.1 hT.1.2 hF (by omega) (by omega)
    rw [show (1 : Int) + 1 = 2 from rfl] at hpe
    refine z_aloadR_n (pc := 8) h dX4_readChange_8 rfl ?_
    refine z_iconst (pc := 9) h dX4_readChange_9 ?_
    refine z_iconst (pc := 10) h dX4_readChange_10 ?_
    refine z_bipush (pc := 11) h dX4_readChange_11 (by decide) ?_
    refine z_vV (pc := 13) (c := 4) h (c_checkNumber (by omega) (by omega) (by omega) (by omega) (by omega)) (by decide) (by first | assumption | rfl) rfl mv_X4_checkNumber ml_X4_129 rfl dX4_readChange_13 rfl (Nat.le_of_ble_eq_true rfl) ?_
    rw [hJ1.1, hv0.1, hv0.2]
    have v3 : (ntO y1 (chk b (vN f n q1 0) 0 9 (pN f n q1 0))).2 2 0 = vN f n q1 0 := hv0.1
    refine z_aloadR_n (pc := 16) h dX4_readChange_16 rfl ?_
    refine z_getR (pc := 17) (c := 4) (j := 1) (o2 := 3) h rfl (by first | assumption | rfl) rfl rfl fl_X4_12 dX4_readChange_17 ?_
    refine z_aloadR_n (pc := 20) h dX4_readChange_20 rfl ?_
    refine z_getA4 (pc := 21) (c := 4) (j := 2) h (by first | assumption | rfl) rfl rfl fl_X4_18 dX4_readChange_21 ?_
    refine z_iconst (pc := 24) h dX4_readChange_24 ?_
    refine z_ialdq (pc := 25) (c := 4) (j := 2) (L := 5) h (zo_s _ _ _) (by first | assumption | rfl) (by decide) rfl (by decide) (by omega) (by omega) dX4_readChange_25 (fun g25 => ?_)
    rw [v3, zo_comm (show (3 : Nat) ≠ 2 by decide)]
    refine z_putI (pc := 26) (c := 1) (j := 4) h (by first | assumption | rfl) rfl rfl fl_X4_157 rfl (tyX1_ok 4 (by decide)) dX4_readChange_26 (by omega) ?_
    refine z_ret (pc := 29) h rfl dX4_readChange_29 ?_
    first
    | exact ⟨rfl, y1, dk, rfl, num_w hNR hF⟩
    | (rw [zss_zo, zo_comm (show (2 : Nat) ≠ 3 by decide)]; refine ⟨rfl, _, _, rfl, ?_⟩; unfold num; rw [if_pos hF]; refine ⟨hTy1, rfl, fun z => ?_, chk_PB (s := tS f n (nQ f n q1 2)) (hJ1.2.2.1.up (by omega)) hpe.1, hJ1.2.2.2⟩; have z1 := chk_0 z; have z3 := hJ1.2.1 z1.1; have z5 := TOLD_chg (v := vN f n q1 0) z3.1 z1.2; refine ⟨z5, ?_⟩; rw [z3.2, ← z5.2.1.2.2.1]; exact z3.1.2.1.2.2.1.symm)
