/-! The class: images. -/
theorem c_image0 {σ : zS} (him : (σ 0).2 9 0 = 19) : zC M_X7_image 2 [zR 0, zI 0] σ (fun rr τ => rr = some (zB true) ∧ τ 19 = oss (oss (oss (σ 19) 3 1) 4 ((σ 0).1 10)) 5 ((σ 0).1 11) ∧ τ 20 = t_cp (σ 20) (σ 1) ∧ τ 21 = d_cp (σ 21) (σ 4) ∧ τ 22 = p_cp (σ 22) (σ 5) ∧ ∀ o, o ≠ 19 → o ≠ 20 → o ≠ 21 → o ≠ 22 → τ o = σ o) := by
  have e : (zar σ 0 9 0).toNat = 19 := by
    show ((σ 0).2 9 0).toNat = 19
    rw [him]; rfl
  refine zC_of (M := M_X7_image) (ls := [some (zR 0), some (zI 0), none]) (n := 1) (by decide) (fun ad => Nat.le_of_ble_eq_true rfl) rfl (fun x h => ?_)
  refine z_iload_n (pc := 0) h dX7_image_0 rfl ?_
  refine z_if_lt (pc := 1) (tgt := 13) h (by omega) dX7_image_1 (by decide) (fun c1 => ?_) (fun c1 => ?_)
  · exact absurd c1 (by decide)
  · refine z_iload_n (pc := 4) h dX7_image_4 rfl ?_
    refine z_aloadR_n (pc := 5) h dX7_image_5 rfl ?_
    refine z_getA8 (pc := 6) (c := 7) (j := 9) h rfl rfl rfl fl_X7_66 dX7_image_6 ?_
    refine z_alen8 (pc := 9) (c := 7) (j := 9) (L := 3) h rfl (by decide) rfl dX7_image_9 ?_
    refine z_icmp_lt (pc := 10) (tgt := 15) h (by omega) (by omega) dX7_image_10 (by decide) (fun c10 => ?_) (fun c10 => ?_)
    · refine z_aloadR_n (pc := 15) h dX7_image_15 rfl ?_
      refine z_getA8 (pc := 16) (c := 7) (j := 9) h rfl rfl rfl fl_X7_66 dX7_image_16 ?_
      refine z_iload_n (pc := 19) h dX7_image_19 rfl ?_
      refine z_aald (pc := 20) (c := 7) (j := 9) (L := 3) (kd := 8) h rfl (by decide) (by decide) rfl (by decide) (by omega) (by omega) dX7_image_20 (fun g20 => ?_)
      rw [e]
      refine z_apart 19 ?_
      refine z_ast_2 (pc := 21) h dX7_image_21 (by decide) rfl ?_
      refine z_aloadR_n (pc := 22) h dX7_image_22 rfl ?_
      refine z_iconst (pc := 23) h dX7_image_23 ?_
      refine z_putZo (pc := 24) (c := 2) (j := 3) h rfl rfl rfl fl_X7_328 rfl (tyX2_ok 3 (by decide)) dX7_image_24 (by omega) ?_
      refine z_aloadR_n (pc := 27) h dX7_image_27 rfl ?_
      refine z_aloadR_n (pc := 28) h dX7_image_28 rfl ?_
      refine z_getIq (pc := 29) (c := 7) (j := 10) h (zo_n (show (0 : Nat) ≠ 19 by decide)) rfl rfl rfl fl_X7_71 dX7_image_29 (fun g29 => ?_)
      refine z_putIo (pc := 32) (c := 2) (j := 4) h rfl rfl rfl fl_X7_332 rfl (tyX2_ok 4 (by decide)) dX7_image_32 (by omega) ?_
      refine z_aloadR_n (pc := 35) h dX7_image_35 rfl ?_
      refine z_aloadR_n (pc := 36) h dX7_image_36 rfl ?_
      refine z_getIq (pc := 37) (c := 7) (j := 11) h (zo_n (show (0 : Nat) ≠ 19 by decide)) rfl rfl rfl fl_X7_75 dX7_image_37 (fun g37 => ?_)
      refine z_putIo (pc := 40) (c := 2) (j := 5) h rfl rfl rfl fl_X7_333 rfl (tyX2_ok 5 (by decide)) dX7_image_40 (by omega) ?_
      generalize hτ1 : zo σ 19 (oss (oss (oss (σ 19) 3 1) 4 ((σ 0).1 10)) 5 ((σ 0).1 11)) = τ1
      have a0 : τ1 19 = oss (oss (oss (σ 19) 3 1) 4 ((σ 0).1 10)) 5 ((σ 0).1 11) := by rw [← hτ1, zo_s]
      have ao : ∀ o, o ≠ 19 → τ1 o = σ o := fun o h => by rw [← hτ1, zo_n h]
      clear hτ1
      refine z_aloadR_n (pc := 43) h dX7_image_43 rfl ?_
      refine z_getR (pc := 44) (c := 2) (j := 0) h (show zrf 19 0 = 20 from rfl) rfl rfl rfl fl_X7_334 dX7_image_44 ?_
      refine z_aloadR_n (pc := 47) h dX7_image_47 rfl ?_
      refine z_getR (pc := 48) (c := 7) (j := 0) (o2 := 1) h rfl rfl rfl rfl fl_X7_10 dX7_image_48 ?_
      refine z_apart 20 ?_
      refine z_vV (pc := 51) (c := 6) h (c_copyText (o := 20) (p := 1) rfl rfl (by decide)) (by decide) rfl rfl mv_X6_copyFrom ml_X7_335 rfl dX7_image_51 rfl (Nat.le_of_ble_eq_true rfl) ?_
      refine z_aloadR_n (pc := 54) h dX7_image_54 rfl ?_
      refine z_getR (pc := 55) (c := 2) (j := 1) h (show zrf 19 1 = 21 from rfl) rfl rfl rfl fl_X7_337 dX7_image_55 ?_
      refine z_aloadR_n (pc := 58) h dX7_image_58 rfl ?_
      refine z_getR (pc := 59) (c := 7) (j := 2) (o2 := 4) h rfl rfl rfl rfl fl_X7_28 dX7_image_59 ?_
      refine z_apart 21 ?_
      refine z_vV (pc := 62) (c := 1) h (c_copyDock (o := 21) (p := 4) rfl rfl (by decide)) (by decide) rfl rfl mv_X1_copyFrom ml_X7_101 rfl dX7_image_62 rfl (Nat.le_of_ble_eq_true rfl) ?_
      refine z_aloadR_n (pc := 65) h dX7_image_65 rfl ?_
      refine z_getR (pc := 66) (c := 2) (j := 2) h (show zrf 19 2 = 22 from rfl) rfl rfl rfl fl_X7_338 dX7_image_66 ?_
      refine z_aloadR_n (pc := 69) h dX7_image_69 rfl ?_
      refine z_getR (pc := 70) (c := 7) (j := 3) (o2 := 5) h rfl rfl rfl rfl fl_X7_35 dX7_image_70 ?_
      refine z_apart 22 ?_
      refine z_vV (pc := 73) (c := 3) h (c_copyFrom (o := 22) (p := 5) rfl rfl (by decide)) (by decide) rfl rfl mv_X3_copyFrom ml_X7_320 rfl dX7_image_73 rfl (Nat.le_of_ble_eq_true rfl) ?_
      refine z_iconst (pc := 76) h dX7_image_76 ?_
      refine z_zret (pc := 77) h rfl (by omega) dX7_image_77 ?_
      refine ⟨rfl, ?_, ?_, ?_, ?_, fun o o1 o2 o3 o4 => ?_⟩
      · rw [zo_n (by decide), zo_n (by decide), zo_n (by decide)]; exact a0
      · rw [zo_n (by decide), zo_n (by decide), zo_s, ao 20 (by decide), ao 1 (by decide)]
      · rw [zo_n (by decide), zo_s, zo_n (by decide), zo_n (by decide), ao 21 (by decide), ao 4 (by decide)]
      · rw [zo_s, zo_n (by decide), zo_n (by decide), zo_n (by decide), zo_n (by decide), ao 22 (by decide), ao 5 (by decide)]
      · rw [zo_n o4, zo_n o3, zo_n o2, ao o o1]
    · exact absurd c10 (by decide)
theorem c_again0 {σ : zS} {T : T3} (him : (σ 0).2 9 0 = 19) (hk : (σ 19).1 3 = 1) (hT : OKT T) (hE : DKE (σ 21) T.2.2) (hst : (σ 21).1 3 = T.2.2 2) (hP : PLX (σ 22) T) : zC M_X7_again 5 [zR 0, zI 0] σ (fun rr τ => rr = some (zB true) ∧ τ 0 = oss (oss (σ 0) 10 ((σ 19).1 4)) 11 ((σ 19).1 5) ∧ τ 1 = t_cp (σ 1) (σ 20) ∧ CS T τ ∧ τ 10 = oss (σ 10) 1 0 ∧ ∀ o, o ≠ 0 → o ≠ 1 → o ≠ 4 → o ≠ 5 → o ≠ 6 → o ≠ 10 → τ o = σ o) := by
  have e : (zar σ 0 9 0).toNat = 19 := by
    show ((σ 0).2 9 0).toNat = 19
    rw [him]; rfl
  have h40 := hT.1.2.2.1
  refine zC_of (M := M_X7_again) (ls := [some (zR 0), some (zI 0), none]) (n := 1) (by decide) (fun ad => Nat.le_of_ble_eq_true rfl) rfl (fun x h => ?_)
  refine z_iload_n (pc := 0) h dX7_again_0 rfl ?_
  refine z_if_lt (pc := 1) (tgt := 25) h (by omega) dX7_again_1 (by decide) (fun c1 => ?_) (fun c1 => ?_)
  · exact absurd c1 (by decide)
  · refine z_iload_n (pc := 4) h dX7_again_4 rfl ?_
    refine z_aloadR_n (pc := 5) h dX7_again_5 rfl ?_
    refine z_getA8 (pc := 6) (c := 7) (j := 9) h rfl rfl rfl fl_X7_66 dX7_again_6 ?_
    refine z_alen8 (pc := 9) (c := 7) (j := 9) (L := 3) h rfl (by decide) rfl dX7_again_9 ?_
    refine z_icmp_ge (pc := 10) (tgt := 25) h (by omega) (by omega) dX7_again_10 (by decide) (fun c10 => ?_) (fun c10 => ?_)
    · exact absurd c10 (by decide)
    · refine z_aloadR_n (pc := 13) h dX7_again_13 rfl ?_
      refine z_getA8 (pc := 14) (c := 7) (j := 9) h rfl rfl rfl fl_X7_66 dX7_again_14 ?_
      refine z_iload_n (pc := 17) h dX7_again_17 rfl ?_
      refine z_aald (pc := 18) (c := 7) (j := 9) (L := 3) (kd := 8) h rfl (by decide) (by decide) rfl (by decide) (by omega) (by omega) dX7_again_18 (fun g18 => ?_)
      rw [e]
      refine z_getZq (pc := 19) (c := 2) (j := 3) h (by first | exact zo_n (show (19 : Nat) ≠ 0 by decide) | rfl) rfl rfl rfl fl_X7_328 dX7_again_19 (fun g19 => ?_)
      refine z_if_ne (pc := 22) (tgt := 27) h (by omega) dX7_again_22 (by decide) (fun c22 => ?_) (fun c22 => ?_)
      · refine z_aloadR_n (pc := 27) h dX7_again_27 rfl ?_
        refine z_getA8 (pc := 28) (c := 7) (j := 9) h rfl rfl rfl fl_X7_66 dX7_again_28 ?_
        refine z_iload_n (pc := 31) h dX7_again_31 rfl ?_
        refine z_aald (pc := 32) (c := 7) (j := 9) (L := 3) (kd := 8) h rfl (by decide) (by decide) rfl (by decide) (by omega) (by omega) dX7_again_32 (fun g32 => ?_)
        rw [e]
        refine z_apart 0 ?_
        refine z_ast_2 (pc := 33) h dX7_again_33 (by decide) rfl ?_
        refine z_aloadR_n (pc := 34) h dX7_again_34 rfl ?_
        refine z_aloadR_n (pc := 35) h dX7_again_35 rfl ?_
        refine z_getIq (pc := 36) (c := 2) (j := 4) h (by first | exact zo_n (show (19 : Nat) ≠ 0 by decide) | rfl) rfl rfl rfl fl_X7_332 dX7_again_36 (fun g36 => ?_)
        refine z_putIo (pc := 39) (c := 7) (j := 10) h rfl rfl rfl fl_X7_71 rfl (tyX7_ok 10 (by decide)) dX7_again_39 (by omega) ?_
        refine z_aloadR_n (pc := 42) h dX7_again_42 rfl ?_
        refine z_aloadR_n (pc := 43) h dX7_again_43 rfl ?_
        refine z_getIq (pc := 44) (c := 2) (j := 5) h (by first | exact zo_n (show (19 : Nat) ≠ 0 by decide) | rfl) rfl rfl rfl fl_X7_333 dX7_again_44 (fun g44 => ?_)
        refine z_putIo (pc := 47) (c := 7) (j := 11) h rfl rfl rfl fl_X7_75 rfl (tyX7_ok 11 (by decide)) dX7_again_47 (by omega) ?_
        generalize hτ1 : zo σ 0 (oss (oss (σ 0) 10 ((σ 19).1 4)) 11 ((σ 19).1 5)) = τ1
        have a0 : τ1 0 = oss (oss (σ 0) 10 ((σ 19).1 4)) 11 ((σ 19).1 5) := by rw [← hτ1, zo_s]
        have ao : ∀ o, o ≠ 0 → τ1 o = σ o := fun o h => by rw [← hτ1, zo_n h]
        clear hτ1
        refine z_aloadR_n (pc := 50) h dX7_again_50 rfl ?_
        refine z_getR (pc := 51) (c := 7) (j := 0) (o2 := 1) h rfl rfl rfl rfl fl_X7_10 dX7_again_51 ?_
        refine z_aloadR_n (pc := 54) h dX7_again_54 rfl ?_
        refine z_getR (pc := 55) (c := 2) (j := 0) h (show zrf 19 0 = 20 from rfl) rfl rfl rfl fl_X7_334 dX7_again_55 ?_
        refine z_apart 1 ?_
        refine z_vV (pc := 58) (c := 6) h (c_copyText (o := 1) (p := 20) rfl rfl (by decide)) (by decide) rfl rfl mv_X6_copyFrom ml_X7_335 rfl dX7_again_58 rfl (Nat.le_of_ble_eq_true rfl) ?_
        refine z_aloadR_n (pc := 61) h dX7_again_61 rfl ?_
        refine z_getR (pc := 62) (c := 7) (j := 2) (o2 := 4) h rfl rfl rfl rfl fl_X7_28 dX7_again_62 ?_
        refine z_aloadR_n (pc := 65) h dX7_again_65 rfl ?_
        refine z_getR (pc := 66) (c := 2) (j := 1) h (show zrf 19 1 = 21 from rfl) rfl rfl rfl fl_X7_337 dX7_again_66 ?_
        refine z_apart 4 ?_
        refine z_vV (pc := 69) (c := 1) h (c_copyDock (o := 4) (p := 21) rfl rfl (by decide)) (by decide) rfl rfl mv_X1_copyFrom ml_X7_101 rfl dX7_again_69 rfl (Nat.le_of_ble_eq_true rfl) ?_
        refine z_aloadR_n (pc := 72) h dX7_again_72 rfl ?_
        refine z_getR (pc := 73) (c := 7) (j := 3) (o2 := 5) h rfl rfl rfl rfl fl_X7_35 dX7_again_73 ?_
        refine z_aloadR_n (pc := 76) h dX7_again_76 rfl ?_
        refine z_getR (pc := 77) (c := 2) (j := 2) h (show zrf 19 2 = 22 from rfl) rfl rfl rfl fl_X7_338 dX7_again_77 ?_
        refine z_apart 5 ?_
        refine z_vV (pc := 80) (c := 3) h (c_copyFrom (o := 5) (p := 22) rfl rfl (by decide)) (by decide) rfl rfl mv_X3_copyFrom ml_X7_320 rfl dX7_again_80 rfl (Nat.le_of_ble_eq_true rfl) ?_
        generalize hτ4 : zo (zo (zo τ1 1 _) 4 _) 5 _ = τ4
        have b1 : τ4 1 = t_cp (σ 1) (σ 20) := by rw [← hτ4, zo_n (by decide), zo_n (by decide), zo_s, ao 1 (by decide), ao 20 (by decide)]
        have b4 : τ4 4 = d_cp (σ 4) (σ 21) := by rw [← hτ4, zo_n (by decide), zo_s, zo_n (by decide), zo_n (by decide), ao 4 (by decide), ao 21 (by decide)]
        have b5 : τ4 5 = p_cp (σ 5) (σ 22) := by rw [← hτ4, zo_s, zo_n (by decide), zo_n (by decide), zo_n (by decide), zo_n (by decide), ao 5 (by decide), ao 22 (by decide)]
        have b0 : τ4 0 = oss (oss (σ 0) 10 ((σ 19).1 4)) 11 ((σ 19).1 5) := by rw [← hτ4, zo_n (by decide), zo_n (by decide), zo_n (by decide)]; exact a0
        have bo : ∀ o, o ≠ 0 → o ≠ 1 → o ≠ 4 → o ≠ 5 → τ4 o = σ o := fun o h0 h1 h4 h5 => by rw [← hτ4, zo_n h5, zo_n h4, zo_n h1]; exact ao o h0
        clear hτ4
        refine z_aloadR_n (pc := 83) h dX7_again_83 rfl ?_
        refine z_getR (pc := 84) (c := 7) (j := 8) (o2 := 10) h rfl rfl rfl rfl fl_X7_60 dX7_again_84 ?_
        refine z_iconst (pc := 87) h dX7_again_87 ?_
        refine z_apart 10 ?_
        refine z_putIo (pc := 88) (c := 0) (j := 1) h rfl rfl rfl fl_X7_108 rfl (tyX0_ok 1 (by decide)) dX7_again_88 (by omega) ?_
        generalize hτ5 : zo τ4 10 _ = τ5
        have s10 : τ5 10 = oss (σ 10) 1 0 := by rw [← hτ5, zo_s, bo 10 (by decide) (by decide) (by decide) (by decide)]
        have so : ∀ o, o ≠ 10 → τ5 o = τ4 o := fun o h => by rw [← hτ5, zo_n h]
        clear hτ5
        have s4 : τ5 4 = d_cp (σ 4) (σ 21) := (so 4 (by decide)).trans b4
        have s5 : τ5 5 = p_cp (σ 5) (σ 22) := (so 5 (by decide)).trans b5
        have hDf : DKE (d_cp (σ 4) (σ 21)) T.2.2 := hE
        have hstd : (d_cp (σ 4) (σ 21)).1 3 = T.2.2 2 := hst
        have hPLf : PLX (p_cp (σ 5) (σ 22)) T := hP
        generalize d_cp (σ 4) (σ 21) = dd at s4 hDf hstd
        generalize p_cp (σ 5) (σ 22) = pp at s5 hPLf
        refine z_aloadR_n (pc := 91) h dX7_again_91 rfl ?_
        refine z_getR (pc := 92) (c := 7) (j := 4) (o2 := 6) h rfl rfl rfl rfl fl_X7_44 dX7_again_92 ?_
        refine z_aloadR_n (pc := 95) h dX7_again_95 rfl ?_
        refine z_getR (pc := 96) (c := 7) (j := 2) (o2 := 4) h rfl rfl rfl rfl fl_X7_28 dX7_again_96 ?_
        refine z_getIq (pc := 99) (c := 1) (j := 3) h s4 rfl rfl rfl fl_X7_111 dX7_again_99 (fun g99 => ?_)
        refine z_apart 6 ?_
        refine z_callV (pc := 102) (c := 5) h (c_play (σ := τ5) (m := ob T.2.2) runh6 hT.1 hT.2.1.wfr (by rw [s4]; exact hDf) (by rw [s5]; exact hPLf.ple hT) hstd) (by decide) rfl rfl mv_X5_play ml_X7_114 rfl dX7_again_102 rfl (Nat.le_of_ble_eq_true rfl) (fun r102 τ102 q102 => ?_)
        obtain ⟨rfl, Y, rfl, hRES⟩ := q102
        refine z_popI (pc := 105) h dX7_again_105 ?_
        refine z_iconst (pc := 106) h dX7_again_106 ?_
        refine z_zret (pc := 107) h rfl (by omega) dX7_again_107 ?_
        refine ⟨rfl, ?_, ?_, ⟨?_, ?_, ?_, ?_⟩, ?_, fun o o1 o2 o3 o4 o5 o6 => ?_⟩
        · rw [zo_n (by decide), so 0 (by decide)]; exact b0
        · rw [zo_n (by decide), so 1 (by decide)]; exact b1
        · rw [zo_n (by decide), s4]; exact hDf
        · rw [zo_n (by decide), s4]; exact hstd
        · rw [zo_n (by decide), s5]; exact hPLf
        · rw [zo_s]; exact hRES
        · rw [zo_n (by decide)]; exact s10
        · rw [zo_n o5, so o o6]; exact bo o o1 o2 o3 o4
      · omega
theorem c_again0_n {σ : zS} (him : (σ 0).2 9 0 = 19) (hk : (σ 19).1 3 = 0) : zCr M_X7_again 5 [zR 0, zI 0] σ (zB false) σ := by
  have e : (zar σ 0 9 0).toNat = 19 := by
    show ((σ 0).2 9 0).toNat = 19
    rw [him]; rfl
  refine zC_of (M := M_X7_again) (ls := [some (zR 0), some (zI 0), none]) (n := 1) (by decide) (fun ad => Nat.le_of_ble_eq_true rfl) rfl (fun x h => ?_)
  refine z_iload_n (pc := 0) h dX7_again_0 rfl ?_
  refine z_if_lt (pc := 1) (tgt := 25) h (by omega) dX7_again_1 (by decide) (fun c1 => ?_) (fun c1 => ?_)
  · exact absurd c1 (by decide)
  · refine z_iload_n (pc := 4) h dX7_again_4 rfl ?_
    refine z_aloadR_n (pc := 5) h dX7_again_5 rfl ?_
    refine z_getA8 (pc := 6) (c := 7) (j := 9) h rfl rfl rfl fl_X7_66 dX7_again_6 ?_
    refine z_alen8 (pc := 9) (c := 7) (j := 9) (L := 3) h rfl (by decide) rfl dX7_again_9 ?_
    refine z_icmp_ge (pc := 10) (tgt := 25) h (by omega) (by omega) dX7_again_10 (by decide) (fun c10 => ?_) (fun c10 => ?_)
    · exact absurd c10 (by decide)
    · refine z_aloadR_n (pc := 13) h dX7_again_13 rfl ?_
      refine z_getA8 (pc := 14) (c := 7) (j := 9) h rfl rfl rfl fl_X7_66 dX7_again_14 ?_
      refine z_iload_n (pc := 17) h dX7_again_17 rfl ?_
      refine z_aald (pc := 18) (c := 7) (j := 9) (L := 3) (kd := 8) h rfl (by decide) (by decide) rfl (by decide) (by omega) (by omega) dX7_again_18 (fun g18 => ?_)
      rw [e]
      refine z_getZq (pc := 19) (c := 2) (j := 3) h rfl rfl rfl rfl fl_X7_328 dX7_again_19 (fun g19 => ?_)
      refine z_if_ne (pc := 22) (tgt := 27) h (by omega) dX7_again_22 (by decide) (fun c22 => ?_) (fun c22 => ?_)
      · omega
      · refine z_iconst (pc := 25) h dX7_again_25 ?_
        refine z_zret (pc := 26) h rfl (by omega) dX7_again_26 ?_
        exact ⟨rfl, rfl⟩

theorem c_image1 {σ : zS} (him : (σ 0).2 9 1 = 23) : zC M_X7_image 2 [zR 0, zI 1] σ (fun rr τ => rr = some (zB true) ∧ τ 23 = oss (oss (oss (σ 23) 3 1) 4 ((σ 0).1 10)) 5 ((σ 0).1 11) ∧ τ 24 = t_cp (σ 24) (σ 1) ∧ τ 25 = d_cp (σ 25) (σ 4) ∧ τ 26 = p_cp (σ 26) (σ 5) ∧ ∀ o, o ≠ 23 → o ≠ 24 → o ≠ 25 → o ≠ 26 → τ o = σ o) := by
  have e : (zar σ 0 9 1).toNat = 23 := by
    show ((σ 0).2 9 1).toNat = 23
    rw [him]; rfl
  refine zC_of (M := M_X7_image) (ls := [some (zR 0), some (zI 1), none]) (n := 1) (by decide) (fun ad => Nat.le_of_ble_eq_true rfl) rfl (fun x h => ?_)
  refine z_iload_n (pc := 0) h dX7_image_0 rfl ?_
  refine z_if_lt (pc := 1) (tgt := 13) h (by omega) dX7_image_1 (by decide) (fun c1 => ?_) (fun c1 => ?_)
  · exact absurd c1 (by decide)
  · refine z_iload_n (pc := 4) h dX7_image_4 rfl ?_
    refine z_aloadR_n (pc := 5) h dX7_image_5 rfl ?_
    refine z_getA8 (pc := 6) (c := 7) (j := 9) h rfl rfl rfl fl_X7_66 dX7_image_6 ?_
    refine z_alen8 (pc := 9) (c := 7) (j := 9) (L := 3) h rfl (by decide) rfl dX7_image_9 ?_
    refine z_icmp_lt (pc := 10) (tgt := 15) h (by omega) (by omega) dX7_image_10 (by decide) (fun c10 => ?_) (fun c10 => ?_)
    · refine z_aloadR_n (pc := 15) h dX7_image_15 rfl ?_
      refine z_getA8 (pc := 16) (c := 7) (j := 9) h rfl rfl rfl fl_X7_66 dX7_image_16 ?_
      refine z_iload_n (pc := 19) h dX7_image_19 rfl ?_
      refine z_aald (pc := 20) (c := 7) (j := 9) (L := 3) (kd := 8) h rfl (by decide) (by decide) rfl (by decide) (by omega) (by omega) dX7_image_20 (fun g20 => ?_)
      rw [e]
      refine z_apart 23 ?_
      refine z_ast_2 (pc := 21) h dX7_image_21 (by decide) rfl ?_
      refine z_aloadR_n (pc := 22) h dX7_image_22 rfl ?_
      refine z_iconst (pc := 23) h dX7_image_23 ?_
      refine z_putZo (pc := 24) (c := 2) (j := 3) h rfl rfl rfl fl_X7_328 rfl (tyX2_ok 3 (by decide)) dX7_image_24 (by omega) ?_
      refine z_aloadR_n (pc := 27) h dX7_image_27 rfl ?_
      refine z_aloadR_n (pc := 28) h dX7_image_28 rfl ?_
      refine z_getIq (pc := 29) (c := 7) (j := 10) h (zo_n (show (0 : Nat) ≠ 23 by decide)) rfl rfl rfl fl_X7_71 dX7_image_29 (fun g29 => ?_)
      refine z_putIo (pc := 32) (c := 2) (j := 4) h rfl rfl rfl fl_X7_332 rfl (tyX2_ok 4 (by decide)) dX7_image_32 (by omega) ?_
      refine z_aloadR_n (pc := 35) h dX7_image_35 rfl ?_
      refine z_aloadR_n (pc := 36) h dX7_image_36 rfl ?_
      refine z_getIq (pc := 37) (c := 7) (j := 11) h (zo_n (show (0 : Nat) ≠ 23 by decide)) rfl rfl rfl fl_X7_75 dX7_image_37 (fun g37 => ?_)
      refine z_putIo (pc := 40) (c := 2) (j := 5) h rfl rfl rfl fl_X7_333 rfl (tyX2_ok 5 (by decide)) dX7_image_40 (by omega) ?_
      generalize hτ1 : zo σ 23 (oss (oss (oss (σ 23) 3 1) 4 ((σ 0).1 10)) 5 ((σ 0).1 11)) = τ1
      have a0 : τ1 23 = oss (oss (oss (σ 23) 3 1) 4 ((σ 0).1 10)) 5 ((σ 0).1 11) := by rw [← hτ1, zo_s]
      have ao : ∀ o, o ≠ 23 → τ1 o = σ o := fun o h => by rw [← hτ1, zo_n h]
      clear hτ1
      refine z_aloadR_n (pc := 43) h dX7_image_43 rfl ?_
      refine z_getR (pc := 44) (c := 2) (j := 0) h (show zrf 23 0 = 24 from rfl) rfl rfl rfl fl_X7_334 dX7_image_44 ?_
      refine z_aloadR_n (pc := 47) h dX7_image_47 rfl ?_
      refine z_getR (pc := 48) (c := 7) (j := 0) (o2 := 1) h rfl rfl rfl rfl fl_X7_10 dX7_image_48 ?_
      refine z_apart 24 ?_
      refine z_vV (pc := 51) (c := 6) h (c_copyText (o := 24) (p := 1) rfl rfl (by decide)) (by decide) rfl rfl mv_X6_copyFrom ml_X7_335 rfl dX7_image_51 rfl (Nat.le_of_ble_eq_true rfl) ?_
      refine z_aloadR_n (pc := 54) h dX7_image_54 rfl ?_
      refine z_getR (pc := 55) (c := 2) (j := 1) h (show zrf 23 1 = 25 from rfl) rfl rfl rfl fl_X7_337 dX7_image_55 ?_
      refine z_aloadR_n (pc := 58) h dX7_image_58 rfl ?_
      refine z_getR (pc := 59) (c := 7) (j := 2) (o2 := 4) h rfl rfl rfl rfl fl_X7_28 dX7_image_59 ?_
      refine z_apart 25 ?_
      refine z_vV (pc := 62) (c := 1) h (c_copyDock (o := 25) (p := 4) rfl rfl (by decide)) (by decide) rfl rfl mv_X1_copyFrom ml_X7_101 rfl dX7_image_62 rfl (Nat.le_of_ble_eq_true rfl) ?_
      refine z_aloadR_n (pc := 65) h dX7_image_65 rfl ?_
      refine z_getR (pc := 66) (c := 2) (j := 2) h (show zrf 23 2 = 26 from rfl) rfl rfl rfl fl_X7_338 dX7_image_66 ?_
      refine z_aloadR_n (pc := 69) h dX7_image_69 rfl ?_
      refine z_getR (pc := 70) (c := 7) (j := 3) (o2 := 5) h rfl rfl rfl rfl fl_X7_35 dX7_image_70 ?_
      refine z_apart 26 ?_
      refine z_vV (pc := 73) (c := 3) h (c_copyFrom (o := 26) (p := 5) rfl rfl (by decide)) (by decide) rfl rfl mv_X3_copyFrom ml_X7_320 rfl dX7_image_73 rfl (Nat.le_of_ble_eq_true rfl) ?_
      refine z_iconst (pc := 76) h dX7_image_76 ?_
      refine z_zret (pc := 77) h rfl (by omega) dX7_image_77 ?_
      refine ⟨rfl, ?_, ?_, ?_, ?_, fun o o1 o2 o3 o4 => ?_⟩
      · rw [zo_n (by decide), zo_n (by decide), zo_n (by decide)]; exact a0
      · rw [zo_n (by decide), zo_n (by decide), zo_s, ao 24 (by decide), ao 1 (by decide)]
      · rw [zo_n (by decide), zo_s, zo_n (by decide), zo_n (by decide), ao 25 (by decide), ao 4 (by decide)]
      · rw [zo_s, zo_n (by decide), zo_n (by decide), zo_n (by decide), zo_n (by decide), ao 26 (by decide), ao 5 (by decide)]
      · rw [zo_n o4, zo_n o3, zo_n o2, ao o o1]
    · exact absurd c10 (by decide)
theorem c_again1 {σ : zS} {T : T3} (him : (σ 0).2 9 1 = 23) (hk : (σ 23).1 3 = 1) (hT : OKT T) (hE : DKE (σ 25) T.2.2) (hst : (σ 25).1 3 = T.2.2 2) (hP : PLX (σ 26) T) : zC M_X7_again 5 [zR 0, zI 1] σ (fun rr τ => rr = some (zB true) ∧ τ 0 = oss (oss (σ 0) 10 ((σ 23).1 4)) 11 ((σ 23).1 5) ∧ τ 1 = t_cp (σ 1) (σ 24) ∧ CS T τ ∧ τ 10 = oss (σ 10) 1 0 ∧ ∀ o, o ≠ 0 → o ≠ 1 → o ≠ 4 → o ≠ 5 → o ≠ 6 → o ≠ 10 → τ o = σ o) := by
  have e : (zar σ 0 9 1).toNat = 23 := by
    show ((σ 0).2 9 1).toNat = 23
    rw [him]; rfl
  have h40 := hT.1.2.2.1
  refine zC_of (M := M_X7_again) (ls := [some (zR 0), some (zI 1), none]) (n := 1) (by decide) (fun ad => Nat.le_of_ble_eq_true rfl) rfl (fun x h => ?_)
  refine z_iload_n (pc := 0) h dX7_again_0 rfl ?_
  refine z_if_lt (pc := 1) (tgt := 25) h (by omega) dX7_again_1 (by decide) (fun c1 => ?_) (fun c1 => ?_)
  · exact absurd c1 (by decide)
  · refine z_iload_n (pc := 4) h dX7_again_4 rfl ?_
    refine z_aloadR_n (pc := 5) h dX7_again_5 rfl ?_
    refine z_getA8 (pc := 6) (c := 7) (j := 9) h rfl rfl rfl fl_X7_66 dX7_again_6 ?_
    refine z_alen8 (pc := 9) (c := 7) (j := 9) (L := 3) h rfl (by decide) rfl dX7_again_9 ?_
    refine z_icmp_ge (pc := 10) (tgt := 25) h (by omega) (by omega) dX7_again_10 (by decide) (fun c10 => ?_) (fun c10 => ?_)
    · exact absurd c10 (by decide)
    · refine z_aloadR_n (pc := 13) h dX7_again_13 rfl ?_
      refine z_getA8 (pc := 14) (c := 7) (j := 9) h rfl rfl rfl fl_X7_66 dX7_again_14 ?_
      refine z_iload_n (pc := 17) h dX7_again_17 rfl ?_
      refine z_aald (pc := 18) (c := 7) (j := 9) (L := 3) (kd := 8) h rfl (by decide) (by decide) rfl (by decide) (by omega) (by omega) dX7_again_18 (fun g18 => ?_)
      rw [e]
      refine z_getZq (pc := 19) (c := 2) (j := 3) h (by first | exact zo_n (show (23 : Nat) ≠ 0 by decide) | rfl) rfl rfl rfl fl_X7_328 dX7_again_19 (fun g19 => ?_)
      refine z_if_ne (pc := 22) (tgt := 27) h (by omega) dX7_again_22 (by decide) (fun c22 => ?_) (fun c22 => ?_)
      · refine z_aloadR_n (pc := 27) h dX7_again_27 rfl ?_
        refine z_getA8 (pc := 28) (c := 7) (j := 9) h rfl rfl rfl fl_X7_66 dX7_again_28 ?_
        refine z_iload_n (pc := 31) h dX7_again_31 rfl ?_
        refine z_aald (pc := 32) (c := 7) (j := 9) (L := 3) (kd := 8) h rfl (by decide) (by decide) rfl (by decide) (by omega) (by omega) dX7_again_32 (fun g32 => ?_)
        rw [e]
        refine z_apart 0 ?_
        refine z_ast_2 (pc := 33) h dX7_again_33 (by decide) rfl ?_
        refine z_aloadR_n (pc := 34) h dX7_again_34 rfl ?_
        refine z_aloadR_n (pc := 35) h dX7_again_35 rfl ?_
        refine z_getIq (pc := 36) (c := 2) (j := 4) h (by first | exact zo_n (show (23 : Nat) ≠ 0 by decide) | rfl) rfl rfl rfl fl_X7_332 dX7_again_36 (fun g36 => ?_)
        refine z_putIo (pc := 39) (c := 7) (j := 10) h rfl rfl rfl fl_X7_71 rfl (tyX7_ok 10 (by decide)) dX7_again_39 (by omega) ?_
        refine z_aloadR_n (pc := 42) h dX7_again_42 rfl ?_
        refine z_aloadR_n (pc := 43) h dX7_again_43 rfl ?_
        refine z_getIq (pc := 44) (c := 2) (j := 5) h (by first | exact zo_n (show (23 : Nat) ≠ 0 by decide) | rfl) rfl rfl rfl fl_X7_333 dX7_again_44 (fun g44 => ?_)
        refine z_putIo (pc := 47) (c := 7) (j := 11) h rfl rfl rfl fl_X7_75 rfl (tyX7_ok 11 (by decide)) dX7_again_47 (by omega) ?_
        generalize hτ1 : zo σ 0 (oss (oss (σ 0) 10 ((σ 23).1 4)) 11 ((σ 23).1 5)) = τ1
        have a0 : τ1 0 = oss (oss (σ 0) 10 ((σ 23).1 4)) 11 ((σ 23).1 5) := by rw [← hτ1, zo_s]
        have ao : ∀ o, o ≠ 0 → τ1 o = σ o := fun o h => by rw [← hτ1, zo_n h]
        clear hτ1
        refine z_aloadR_n (pc := 50) h dX7_again_50 rfl ?_
        refine z_getR (pc := 51) (c := 7) (j := 0) (o2 := 1) h rfl rfl rfl rfl fl_X7_10 dX7_again_51 ?_
        refine z_aloadR_n (pc := 54) h dX7_again_54 rfl ?_
        refine z_getR (pc := 55) (c := 2) (j := 0) h (show zrf 23 0 = 24 from rfl) rfl rfl rfl fl_X7_334 dX7_again_55 ?_
        refine z_apart 1 ?_
        refine z_vV (pc := 58) (c := 6) h (c_copyText (o := 1) (p := 24) rfl rfl (by decide)) (by decide) rfl rfl mv_X6_copyFrom ml_X7_335 rfl dX7_again_58 rfl (Nat.le_of_ble_eq_true rfl) ?_
        refine z_aloadR_n (pc := 61) h dX7_again_61 rfl ?_
        refine z_getR (pc := 62) (c := 7) (j := 2) (o2 := 4) h rfl rfl rfl rfl fl_X7_28 dX7_again_62 ?_
        refine z_aloadR_n (pc := 65) h dX7_again_65 rfl ?_
        refine z_getR (pc := 66) (c := 2) (j := 1) h (show zrf 23 1 = 25 from rfl) rfl rfl rfl fl_X7_337 dX7_again_66 ?_
        refine z_apart 4 ?_
        refine z_vV (pc := 69) (c := 1) h (c_copyDock (o := 4) (p := 25) rfl rfl (by decide)) (by decide) rfl rfl mv_X1_copyFrom ml_X7_101 rfl dX7_again_69 rfl (Nat.le_of_ble_eq_true rfl) ?_
        refine z_aloadR_n (pc := 72) h dX7_again_72 rfl ?_
        refine z_getR (pc := 73) (c := 7) (j := 3) (o2 := 5) h rfl rfl rfl rfl fl_X7_35 dX7_again_73 ?_
        refine z_aloadR_n (pc := 76) h dX7_again_76 rfl ?_
        refine z_getR (pc := 77) (c := 2) (j := 2) h (show zrf 23 2 = 26 from rfl) rfl rfl rfl fl_X7_338 dX7_again_77 ?_
        refine z_apart 5 ?_
        refine z_vV (pc := 80) (c := 3) h (c_copyFrom (o := 5) (p := 26) rfl rfl (by decide)) (by decide) rfl rfl mv_X3_copyFrom ml_X7_320 rfl dX7_again_80 rfl (Nat.le_of_ble_eq_true rfl) ?_
        generalize hτ4 : zo (zo (zo τ1 1 _) 4 _) 5 _ = τ4
        have b1 : τ4 1 = t_cp (σ 1) (σ 24) := by rw [← hτ4, zo_n (by decide), zo_n (by decide), zo_s, ao 1 (by decide), ao 24 (by decide)]
        have b4 : τ4 4 = d_cp (σ 4) (σ 25) := by rw [← hτ4, zo_n (by decide), zo_s, zo_n (by decide), zo_n (by decide), ao 4 (by decide), ao 25 (by decide)]
        have b5 : τ4 5 = p_cp (σ 5) (σ 26) := by rw [← hτ4, zo_s, zo_n (by decide), zo_n (by decide), zo_n (by decide), zo_n (by decide), ao 5 (by decide), ao 26 (by decide)]
        have b0 : τ4 0 = oss (oss (σ 0) 10 ((σ 23).1 4)) 11 ((σ 23).1 5) := by rw [← hτ4, zo_n (by decide), zo_n (by decide), zo_n (by decide)]; exact a0
        have bo : ∀ o, o ≠ 0 → o ≠ 1 → o ≠ 4 → o ≠ 5 → τ4 o = σ o := fun o h0 h1 h4 h5 => by rw [← hτ4, zo_n h5, zo_n h4, zo_n h1]; exact ao o h0
        clear hτ4
        refine z_aloadR_n (pc := 83) h dX7_again_83 rfl ?_
        refine z_getR (pc := 84) (c := 7) (j := 8) (o2 := 10) h rfl rfl rfl rfl fl_X7_60 dX7_again_84 ?_
        refine z_iconst (pc := 87) h dX7_again_87 ?_
        refine z_apart 10 ?_
        refine z_putIo (pc := 88) (c := 0) (j := 1) h rfl rfl rfl fl_X7_108 rfl (tyX0_ok 1 (by decide)) dX7_again_88 (by omega) ?_
        generalize hτ5 : zo τ4 10 _ = τ5
        have s10 : τ5 10 = oss (σ 10) 1 0 := by rw [← hτ5, zo_s, bo 10 (by decide) (by decide) (by decide) (by decide)]
        have so : ∀ o, o ≠ 10 → τ5 o = τ4 o := fun o h => by rw [← hτ5, zo_n h]
        clear hτ5
        have s4 : τ5 4 = d_cp (σ 4) (σ 25) := (so 4 (by decide)).trans b4
        have s5 : τ5 5 = p_cp (σ 5) (σ 26) := (so 5 (by decide)).trans b5
        have hDf : DKE (d_cp (σ 4) (σ 25)) T.2.2 := hE
        have hstd : (d_cp (σ 4) (σ 25)).1 3 = T.2.2 2 := hst
        have hPLf : PLX (p_cp (σ 5) (σ 26)) T := hP
        generalize d_cp (σ 4) (σ 25) = dd at s4 hDf hstd
        generalize p_cp (σ 5) (σ 26) = pp at s5 hPLf
        refine z_aloadR_n (pc := 91) h dX7_again_91 rfl ?_
        refine z_getR (pc := 92) (c := 7) (j := 4) (o2 := 6) h rfl rfl rfl rfl fl_X7_44 dX7_again_92 ?_
        refine z_aloadR_n (pc := 95) h dX7_again_95 rfl ?_
        refine z_getR (pc := 96) (c := 7) (j := 2) (o2 := 4) h rfl rfl rfl rfl fl_X7_28 dX7_again_96 ?_
        refine z_getIq (pc := 99) (c := 1) (j := 3) h s4 rfl rfl rfl fl_X7_111 dX7_again_99 (fun g99 => ?_)
        refine z_apart 6 ?_
        refine z_callV (pc := 102) (c := 5) h (c_play (σ := τ5) (m := ob T.2.2) runh6 hT.1 hT.2.1.wfr (by rw [s4]; exact hDf) (by rw [s5]; exact hPLf.ple hT) hstd) (by decide) rfl rfl mv_X5_play ml_X7_114 rfl dX7_again_102 rfl (Nat.le_of_ble_eq_true rfl) (fun r102 τ102 q102 => ?_)
        obtain ⟨rfl, Y, rfl, hRES⟩ := q102
        refine z_popI (pc := 105) h dX7_again_105 ?_
        refine z_iconst (pc := 106) h dX7_again_106 ?_
        refine z_zret (pc := 107) h rfl (by omega) dX7_again_107 ?_
        refine ⟨rfl, ?_, ?_, ⟨?_, ?_, ?_, ?_⟩, ?_, fun o o1 o2 o3 o4 o5 o6 => ?_⟩
        · rw [zo_n (by decide), so 0 (by decide)]; exact b0
        · rw [zo_n (by decide), so 1 (by decide)]; exact b1
        · rw [zo_n (by decide), s4]; exact hDf
        · rw [zo_n (by decide), s4]; exact hstd
        · rw [zo_n (by decide), s5]; exact hPLf
        · rw [zo_s]; exact hRES
        · rw [zo_n (by decide)]; exact s10
        · rw [zo_n o5, so o o6]; exact bo o o1 o2 o3 o4
      · omega
theorem c_again1_n {σ : zS} (him : (σ 0).2 9 1 = 23) (hk : (σ 23).1 3 = 0) : zCr M_X7_again 5 [zR 0, zI 1] σ (zB false) σ := by
  have e : (zar σ 0 9 1).toNat = 23 := by
    show ((σ 0).2 9 1).toNat = 23
    rw [him]; rfl
  refine zC_of (M := M_X7_again) (ls := [some (zR 0), some (zI 1), none]) (n := 1) (by decide) (fun ad => Nat.le_of_ble_eq_true rfl) rfl (fun x h => ?_)
  refine z_iload_n (pc := 0) h dX7_again_0 rfl ?_
  refine z_if_lt (pc := 1) (tgt := 25) h (by omega) dX7_again_1 (by decide) (fun c1 => ?_) (fun c1 => ?_)
  · exact absurd c1 (by decide)
  · refine z_iload_n (pc := 4) h dX7_again_4 rfl ?_
    refine z_aloadR_n (pc := 5) h dX7_again_5 rfl ?_
    refine z_getA8 (pc := 6) (c := 7) (j := 9) h rfl rfl rfl fl_X7_66 dX7_again_6 ?_
    refine z_alen8 (pc := 9) (c := 7) (j := 9) (L := 3) h rfl (by decide) rfl dX7_again_9 ?_
    refine z_icmp_ge (pc := 10) (tgt := 25) h (by omega) (by omega) dX7_again_10 (by decide) (fun c10 => ?_) (fun c10 => ?_)
    · exact absurd c10 (by decide)
    · refine z_aloadR_n (pc := 13) h dX7_again_13 rfl ?_
      refine z_getA8 (pc := 14) (c := 7) (j := 9) h rfl rfl rfl fl_X7_66 dX7_again_14 ?_
      refine z_iload_n (pc := 17) h dX7_again_17 rfl ?_
      refine z_aald (pc := 18) (c := 7) (j := 9) (L := 3) (kd := 8) h rfl (by decide) (by decide) rfl (by decide) (by omega) (by omega) dX7_again_18 (fun g18 => ?_)
      rw [e]
      refine z_getZq (pc := 19) (c := 2) (j := 3) h rfl rfl rfl rfl fl_X7_328 dX7_again_19 (fun g19 => ?_)
      refine z_if_ne (pc := 22) (tgt := 27) h (by omega) dX7_again_22 (by decide) (fun c22 => ?_) (fun c22 => ?_)
      · omega
      · refine z_iconst (pc := 25) h dX7_again_25 ?_
        refine z_zret (pc := 26) h rfl (by omega) dX7_again_26 ?_
        exact ⟨rfl, rfl⟩

theorem c_image2 {σ : zS} (him : (σ 0).2 9 2 = 27) : zC M_X7_image 2 [zR 0, zI 2] σ (fun rr τ => rr = some (zB true) ∧ τ 27 = oss (oss (oss (σ 27) 3 1) 4 ((σ 0).1 10)) 5 ((σ 0).1 11) ∧ τ 28 = t_cp (σ 28) (σ 1) ∧ τ 29 = d_cp (σ 29) (σ 4) ∧ τ 30 = p_cp (σ 30) (σ 5) ∧ ∀ o, o ≠ 27 → o ≠ 28 → o ≠ 29 → o ≠ 30 → τ o = σ o) := by
  have e : (zar σ 0 9 2).toNat = 27 := by
    show ((σ 0).2 9 2).toNat = 27
    rw [him]; rfl
  refine zC_of (M := M_X7_image) (ls := [some (zR 0), some (zI 2), none]) (n := 1) (by decide) (fun ad => Nat.le_of_ble_eq_true rfl) rfl (fun x h => ?_)
  refine z_iload_n (pc := 0) h dX7_image_0 rfl ?_
  refine z_if_lt (pc := 1) (tgt := 13) h (by omega) dX7_image_1 (by decide) (fun c1 => ?_) (fun c1 => ?_)
  · exact absurd c1 (by decide)
  · refine z_iload_n (pc := 4) h dX7_image_4 rfl ?_
    refine z_aloadR_n (pc := 5) h dX7_image_5 rfl ?_
    refine z_getA8 (pc := 6) (c := 7) (j := 9) h rfl rfl rfl fl_X7_66 dX7_image_6 ?_
    refine z_alen8 (pc := 9) (c := 7) (j := 9) (L := 3) h rfl (by decide) rfl dX7_image_9 ?_
    refine z_icmp_lt (pc := 10) (tgt := 15) h (by omega) (by omega) dX7_image_10 (by decide) (fun c10 => ?_) (fun c10 => ?_)
    · refine z_aloadR_n (pc := 15) h dX7_image_15 rfl ?_
      refine z_getA8 (pc := 16) (c := 7) (j := 9) h rfl rfl rfl fl_X7_66 dX7_image_16 ?_
      refine z_iload_n (pc := 19) h dX7_image_19 rfl ?_
      refine z_aald (pc := 20) (c := 7) (j := 9) (L := 3) (kd := 8) h rfl (by decide) (by decide) rfl (by decide) (by omega) (by omega) dX7_image_20 (fun g20 => ?_)
      rw [e]
      refine z_apart 27 ?_
      refine z_ast_2 (pc := 21) h dX7_image_21 (by decide) rfl ?_
      refine z_aloadR_n (pc := 22) h dX7_image_22 rfl ?_
      refine z_iconst (pc := 23) h dX7_image_23 ?_
      refine z_putZo (pc := 24) (c := 2) (j := 3) h rfl rfl rfl fl_X7_328 rfl (tyX2_ok 3 (by decide)) dX7_image_24 (by omega) ?_
      refine z_aloadR_n (pc := 27) h dX7_image_27 rfl ?_
      refine z_aloadR_n (pc := 28) h dX7_image_28 rfl ?_
      refine z_getIq (pc := 29) (c := 7) (j := 10) h (zo_n (show (0 : Nat) ≠ 27 by decide)) rfl rfl rfl fl_X7_71 dX7_image_29 (fun g29 => ?_)
      refine z_putIo (pc := 32) (c := 2) (j := 4) h rfl rfl rfl fl_X7_332 rfl (tyX2_ok 4 (by decide)) dX7_image_32 (by omega) ?_
      refine z_aloadR_n (pc := 35) h dX7_image_35 rfl ?_
      refine z_aloadR_n (pc := 36) h dX7_image_36 rfl ?_
      refine z_getIq (pc := 37) (c := 7) (j := 11) h (zo_n (show (0 : Nat) ≠ 27 by decide)) rfl rfl rfl fl_X7_75 dX7_image_37 (fun g37 => ?_)
      refine z_putIo (pc := 40) (c := 2) (j := 5) h rfl rfl rfl fl_X7_333 rfl (tyX2_ok 5 (by decide)) dX7_image_40 (by omega) ?_
      generalize hτ1 : zo σ 27 (oss (oss (oss (σ 27) 3 1) 4 ((σ 0).1 10)) 5 ((σ 0).1 11)) = τ1
      have a0 : τ1 27 = oss (oss (oss (σ 27) 3 1) 4 ((σ 0).1 10)) 5 ((σ 0).1 11) := by rw [← hτ1, zo_s]
      have ao : ∀ o, o ≠ 27 → τ1 o = σ o := fun o h => by rw [← hτ1, zo_n h]
      clear hτ1
      refine z_aloadR_n (pc := 43) h dX7_image_43 rfl ?_
      refine z_getR (pc := 44) (c := 2) (j := 0) h (show zrf 27 0 = 28 from rfl) rfl rfl rfl fl_X7_334 dX7_image_44 ?_
      refine z_aloadR_n (pc := 47) h dX7_image_47 rfl ?_
      refine z_getR (pc := 48) (c := 7) (j := 0) (o2 := 1) h rfl rfl rfl rfl fl_X7_10 dX7_image_48 ?_
      refine z_apart 28 ?_
      refine z_vV (pc := 51) (c := 6) h (c_copyText (o := 28) (p := 1) rfl rfl (by decide)) (by decide) rfl rfl mv_X6_copyFrom ml_X7_335 rfl dX7_image_51 rfl (Nat.le_of_ble_eq_true rfl) ?_
      refine z_aloadR_n (pc := 54) h dX7_image_54 rfl ?_
      refine z_getR (pc := 55) (c := 2) (j := 1) h (show zrf 27 1 = 29 from rfl) rfl rfl rfl fl_X7_337 dX7_image_55 ?_
      refine z_aloadR_n (pc := 58) h dX7_image_58 rfl ?_
      refine z_getR (pc := 59) (c := 7) (j := 2) (o2 := 4) h rfl rfl rfl rfl fl_X7_28 dX7_image_59 ?_
      refine z_apart 29 ?_
      refine z_vV (pc := 62) (c := 1) h (c_copyDock (o := 29) (p := 4) rfl rfl (by decide)) (by decide) rfl rfl mv_X1_copyFrom ml_X7_101 rfl dX7_image_62 rfl (Nat.le_of_ble_eq_true rfl) ?_
      refine z_aloadR_n (pc := 65) h dX7_image_65 rfl ?_
      refine z_getR (pc := 66) (c := 2) (j := 2) h (show zrf 27 2 = 30 from rfl) rfl rfl rfl fl_X7_338 dX7_image_66 ?_
      refine z_aloadR_n (pc := 69) h dX7_image_69 rfl ?_
      refine z_getR (pc := 70) (c := 7) (j := 3) (o2 := 5) h rfl rfl rfl rfl fl_X7_35 dX7_image_70 ?_
      refine z_apart 30 ?_
      refine z_vV (pc := 73) (c := 3) h (c_copyFrom (o := 30) (p := 5) rfl rfl (by decide)) (by decide) rfl rfl mv_X3_copyFrom ml_X7_320 rfl dX7_image_73 rfl (Nat.le_of_ble_eq_true rfl) ?_
      refine z_iconst (pc := 76) h dX7_image_76 ?_
      refine z_zret (pc := 77) h rfl (by omega) dX7_image_77 ?_
      refine ⟨rfl, ?_, ?_, ?_, ?_, fun o o1 o2 o3 o4 => ?_⟩
      · rw [zo_n (by decide), zo_n (by decide), zo_n (by decide)]; exact a0
      · rw [zo_n (by decide), zo_n (by decide), zo_s, ao 28 (by decide), ao 1 (by decide)]
      · rw [zo_n (by decide), zo_s, zo_n (by decide), zo_n (by decide), ao 29 (by decide), ao 4 (by decide)]
      · rw [zo_s, zo_n (by decide), zo_n (by decide), zo_n (by decide), zo_n (by decide), ao 30 (by decide), ao 5 (by decide)]
      · rw [zo_n o4, zo_n o3, zo_n o2, ao o o1]
    · exact absurd c10 (by decide)
theorem c_again2 {σ : zS} {T : T3} (him : (σ 0).2 9 2 = 27) (hk : (σ 27).1 3 = 1) (hT : OKT T) (hE : DKE (σ 29) T.2.2) (hst : (σ 29).1 3 = T.2.2 2) (hP : PLX (σ 30) T) : zC M_X7_again 5 [zR 0, zI 2] σ (fun rr τ => rr = some (zB true) ∧ τ 0 = oss (oss (σ 0) 10 ((σ 27).1 4)) 11 ((σ 27).1 5) ∧ τ 1 = t_cp (σ 1) (σ 28) ∧ CS T τ ∧ τ 10 = oss (σ 10) 1 0 ∧ ∀ o, o ≠ 0 → o ≠ 1 → o ≠ 4 → o ≠ 5 → o ≠ 6 → o ≠ 10 → τ o = σ o) := by
  have e : (zar σ 0 9 2).toNat = 27 := by
    show ((σ 0).2 9 2).toNat = 27
    rw [him]; rfl
  have h40 := hT.1.2.2.1
  refine zC_of (M := M_X7_again) (ls := [some (zR 0), some (zI 2), none]) (n := 1) (by decide) (fun ad => Nat.le_of_ble_eq_true rfl) rfl (fun x h => ?_)
  refine z_iload_n (pc := 0) h dX7_again_0 rfl ?_
  refine z_if_lt (pc := 1) (tgt := 25) h (by omega) dX7_again_1 (by decide) (fun c1 => ?_) (fun c1 => ?_)
  · exact absurd c1 (by decide)
  · refine z_iload_n (pc := 4) h dX7_again_4 rfl ?_
    refine z_aloadR_n (pc := 5) h dX7_again_5 rfl ?_
    refine z_getA8 (pc := 6) (c := 7) (j := 9) h rfl rfl rfl fl_X7_66 dX7_again_6 ?_
    refine z_alen8 (pc := 9) (c := 7) (j := 9) (L := 3) h rfl (by decide) rfl dX7_again_9 ?_
    refine z_icmp_ge (pc := 10) (tgt := 25) h (by omega) (by omega) dX7_again_10 (by decide) (fun c10 => ?_) (fun c10 => ?_)
    · exact absurd c10 (by decide)
    · refine z_aloadR_n (pc := 13) h dX7_again_13 rfl ?_
      refine z_getA8 (pc := 14) (c := 7) (j := 9) h rfl rfl rfl fl_X7_66 dX7_again_14 ?_
      refine z_iload_n (pc := 17) h dX7_again_17 rfl ?_
      refine z_aald (pc := 18) (c := 7) (j := 9) (L := 3) (kd := 8) h rfl (by decide) (by decide) rfl (by decide) (by omega) (by omega) dX7_again_18 (fun g18 => ?_)
      rw [e]
      refine z_getZq (pc := 19) (c := 2) (j := 3) h (by first | exact zo_n (show (27 : Nat) ≠ 0 by decide) | rfl) rfl rfl rfl fl_X7_328 dX7_again_19 (fun g19 => ?_)
      refine z_if_ne (pc := 22) (tgt := 27) h (by omega) dX7_again_22 (by decide) (fun c22 => ?_) (fun c22 => ?_)
      · refine z_aloadR_n (pc := 27) h dX7_again_27 rfl ?_
        refine z_getA8 (pc := 28) (c := 7) (j := 9) h rfl rfl rfl fl_X7_66 dX7_again_28 ?_
        refine z_iload_n (pc := 31) h dX7_again_31 rfl ?_
        refine z_aald (pc := 32) (c := 7) (j := 9) (L := 3) (kd := 8) h rfl (by decide) (by decide) rfl (by decide) (by omega) (by omega) dX7_again_32 (fun g32 => ?_)
        rw [e]
        refine z_apart 0 ?_
        refine z_ast_2 (pc := 33) h dX7_again_33 (by decide) rfl ?_
        refine z_aloadR_n (pc := 34) h dX7_again_34 rfl ?_
        refine z_aloadR_n (pc := 35) h dX7_again_35 rfl ?_
        refine z_getIq (pc := 36) (c := 2) (j := 4) h (by first | exact zo_n (show (27 : Nat) ≠ 0 by decide) | rfl) rfl rfl rfl fl_X7_332 dX7_again_36 (fun g36 => ?_)
        refine z_putIo (pc := 39) (c := 7) (j := 10) h rfl rfl rfl fl_X7_71 rfl (tyX7_ok 10 (by decide)) dX7_again_39 (by omega) ?_
        refine z_aloadR_n (pc := 42) h dX7_again_42 rfl ?_
        refine z_aloadR_n (pc := 43) h dX7_again_43 rfl ?_
        refine z_getIq (pc := 44) (c := 2) (j := 5) h (by first | exact zo_n (show (27 : Nat) ≠ 0 by decide) | rfl) rfl rfl rfl fl_X7_333 dX7_again_44 (fun g44 => ?_)
        refine z_putIo (pc := 47) (c := 7) (j := 11) h rfl rfl rfl fl_X7_75 rfl (tyX7_ok 11 (by decide)) dX7_again_47 (by omega) ?_
        generalize hτ1 : zo σ 0 (oss (oss (σ 0) 10 ((σ 27).1 4)) 11 ((σ 27).1 5)) = τ1
        have a0 : τ1 0 = oss (oss (σ 0) 10 ((σ 27).1 4)) 11 ((σ 27).1 5) := by rw [← hτ1, zo_s]
        have ao : ∀ o, o ≠ 0 → τ1 o = σ o := fun o h => by rw [← hτ1, zo_n h]
        clear hτ1
        refine z_aloadR_n (pc := 50) h dX7_again_50 rfl ?_
        refine z_getR (pc := 51) (c := 7) (j := 0) (o2 := 1) h rfl rfl rfl rfl fl_X7_10 dX7_again_51 ?_
        refine z_aloadR_n (pc := 54) h dX7_again_54 rfl ?_
        refine z_getR (pc := 55) (c := 2) (j := 0) h (show zrf 27 0 = 28 from rfl) rfl rfl rfl fl_X7_334 dX7_again_55 ?_
        refine z_apart 1 ?_
        refine z_vV (pc := 58) (c := 6) h (c_copyText (o := 1) (p := 28) rfl rfl (by decide)) (by decide) rfl rfl mv_X6_copyFrom ml_X7_335 rfl dX7_again_58 rfl (Nat.le_of_ble_eq_true rfl) ?_
        refine z_aloadR_n (pc := 61) h dX7_again_61 rfl ?_
        refine z_getR (pc := 62) (c := 7) (j := 2) (o2 := 4) h rfl rfl rfl rfl fl_X7_28 dX7_again_62 ?_
        refine z_aloadR_n (pc := 65) h dX7_again_65 rfl ?_
        refine z_getR (pc := 66) (c := 2) (j := 1) h (show zrf 27 1 = 29 from rfl) rfl rfl rfl fl_X7_337 dX7_again_66 ?_
        refine z_apart 4 ?_
        refine z_vV (pc := 69) (c := 1) h (c_copyDock (o := 4) (p := 29) rfl rfl (by decide)) (by decide) rfl rfl mv_X1_copyFrom ml_X7_101 rfl dX7_again_69 rfl (Nat.le_of_ble_eq_true rfl) ?_
        refine z_aloadR_n (pc := 72) h dX7_again_72 rfl ?_
        refine z_getR (pc := 73) (c := 7) (j := 3) (o2 := 5) h rfl rfl rfl rfl fl_X7_35 dX7_again_73 ?_
        refine z_aloadR_n (pc := 76) h dX7_again_76 rfl ?_
        refine z_getR (pc := 77) (c := 2) (j := 2) h (show zrf 27 2 = 30 from rfl) rfl rfl rfl fl_X7_338 dX7_again_77 ?_
        refine z_apart 5 ?_
        refine z_vV (pc := 80) (c := 3) h (c_copyFrom (o := 5) (p := 30) rfl rfl (by decide)) (by decide) rfl rfl mv_X3_copyFrom ml_X7_320 rfl dX7_again_80 rfl (Nat.le_of_ble_eq_true rfl) ?_
        generalize hτ4 : zo (zo (zo τ1 1 _) 4 _) 5 _ = τ4
        have b1 : τ4 1 = t_cp (σ 1) (σ 28) := by rw [← hτ4, zo_n (by decide), zo_n (by decide), zo_s, ao 1 (by decide), ao 28 (by decide)]
        have b4 : τ4 4 = d_cp (σ 4) (σ 29) := by rw [← hτ4, zo_n (by decide), zo_s, zo_n (by decide), zo_n (by decide), ao 4 (by decide), ao 29 (by decide)]
        have b5 : τ4 5 = p_cp (σ 5) (σ 30) := by rw [← hτ4, zo_s, zo_n (by decide), zo_n (by decide), zo_n (by decide), zo_n (by decide), ao 5 (by decide), ao 30 (by decide)]
        have b0 : τ4 0 = oss (oss (σ 0) 10 ((σ 27).1 4)) 11 ((σ 27).1 5) := by rw [← hτ4, zo_n (by decide), zo_n (by decide), zo_n (by decide)]; exact a0
        have bo : ∀ o, o ≠ 0 → o ≠ 1 → o ≠ 4 → o ≠ 5 → τ4 o = σ o := fun o h0 h1 h4 h5 => by rw [← hτ4, zo_n h5, zo_n h4, zo_n h1]; exact ao o h0
        clear hτ4
        refine z_aloadR_n (pc := 83) h dX7_again_83 rfl ?_
        refine z_getR (pc := 84) (c := 7) (j := 8) (o2 := 10) h rfl rfl rfl rfl fl_X7_60 dX7_again_84 ?_
        refine z_iconst (pc := 87) h dX7_again_87 ?_
        refine z_apart 10 ?_
        refine z_putIo (pc := 88) (c := 0) (j := 1) h rfl rfl rfl fl_X7_108 rfl (tyX0_ok 1 (by decide)) dX7_again_88 (by omega) ?_
        generalize hτ5 : zo τ4 10 _ = τ5
        have s10 : τ5 10 = oss (σ 10) 1 0 := by rw [← hτ5, zo_s, bo 10 (by decide) (by decide) (by decide) (by decide)]
        have so : ∀ o, o ≠ 10 → τ5 o = τ4 o := fun o h => by rw [← hτ5, zo_n h]
        clear hτ5
        have s4 : τ5 4 = d_cp (σ 4) (σ 29) := (so 4 (by decide)).trans b4
        have s5 : τ5 5 = p_cp (σ 5) (σ 30) := (so 5 (by decide)).trans b5
        have hDf : DKE (d_cp (σ 4) (σ 29)) T.2.2 := hE
        have hstd : (d_cp (σ 4) (σ 29)).1 3 = T.2.2 2 := hst
        have hPLf : PLX (p_cp (σ 5) (σ 30)) T := hP
        generalize d_cp (σ 4) (σ 29) = dd at s4 hDf hstd
        generalize p_cp (σ 5) (σ 30) = pp at s5 hPLf
        refine z_aloadR_n (pc := 91) h dX7_again_91 rfl ?_
        refine z_getR (pc := 92) (c := 7) (j := 4) (o2 := 6) h rfl rfl rfl rfl fl_X7_44 dX7_again_92 ?_
        refine z_aloadR_n (pc := 95) h dX7_again_95 rfl ?_
        refine z_getR (pc := 96) (c := 7) (j := 2) (o2 := 4) h rfl rfl rfl rfl fl_X7_28 dX7_again_96 ?_
        refine z_getIq (pc := 99) (c := 1) (j := 3) h s4 rfl rfl rfl fl_X7_111 dX7_again_99 (fun g99 => ?_)
        refine z_apart 6 ?_
        refine z_callV (pc := 102) (c := 5) h (c_play (σ := τ5) (m := ob T.2.2) runh6 hT.1 hT.2.1.wfr (by rw [s4]; exact hDf) (by rw [s5]; exact hPLf.ple hT) hstd) (by decide) rfl rfl mv_X5_play ml_X7_114 rfl dX7_again_102 rfl (Nat.le_of_ble_eq_true rfl) (fun r102 τ102 q102 => ?_)
        obtain ⟨rfl, Y, rfl, hRES⟩ := q102
        refine z_popI (pc := 105) h dX7_again_105 ?_
        refine z_iconst (pc := 106) h dX7_again_106 ?_
        refine z_zret (pc := 107) h rfl (by omega) dX7_again_107 ?_
        refine ⟨rfl, ?_, ?_, ⟨?_, ?_, ?_, ?_⟩, ?_, fun o o1 o2 o3 o4 o5 o6 => ?_⟩
        · rw [zo_n (by decide), so 0 (by decide)]; exact b0
        · rw [zo_n (by decide), so 1 (by decide)]; exact b1
        · rw [zo_n (by decide), s4]; exact hDf
        · rw [zo_n (by decide), s4]; exact hstd
        · rw [zo_n (by decide), s5]; exact hPLf
        · rw [zo_s]; exact hRES
        · rw [zo_n (by decide)]; exact s10
        · rw [zo_n o5, so o o6]; exact bo o o1 o2 o3 o4
      · omega
theorem c_again2_n {σ : zS} (him : (σ 0).2 9 2 = 27) (hk : (σ 27).1 3 = 0) : zCr M_X7_again 5 [zR 0, zI 2] σ (zB false) σ := by
  have e : (zar σ 0 9 2).toNat = 27 := by
    show ((σ 0).2 9 2).toNat = 27
    rw [him]; rfl
  refine zC_of (M := M_X7_again) (ls := [some (zR 0), some (zI 2), none]) (n := 1) (by decide) (fun ad => Nat.le_of_ble_eq_true rfl) rfl (fun x h => ?_)
  refine z_iload_n (pc := 0) h dX7_again_0 rfl ?_
  refine z_if_lt (pc := 1) (tgt := 25) h (by omega) dX7_again_1 (by decide) (fun c1 => ?_) (fun c1 => ?_)
  · exact absurd c1 (by decide)
  · refine z_iload_n (pc := 4) h dX7_again_4 rfl ?_
    refine z_aloadR_n (pc := 5) h dX7_again_5 rfl ?_
    refine z_getA8 (pc := 6) (c := 7) (j := 9) h rfl rfl rfl fl_X7_66 dX7_again_6 ?_
    refine z_alen8 (pc := 9) (c := 7) (j := 9) (L := 3) h rfl (by decide) rfl dX7_again_9 ?_
    refine z_icmp_ge (pc := 10) (tgt := 25) h (by omega) (by omega) dX7_again_10 (by decide) (fun c10 => ?_) (fun c10 => ?_)
    · exact absurd c10 (by decide)
    · refine z_aloadR_n (pc := 13) h dX7_again_13 rfl ?_
      refine z_getA8 (pc := 14) (c := 7) (j := 9) h rfl rfl rfl fl_X7_66 dX7_again_14 ?_
      refine z_iload_n (pc := 17) h dX7_again_17 rfl ?_
      refine z_aald (pc := 18) (c := 7) (j := 9) (L := 3) (kd := 8) h rfl (by decide) (by decide) rfl (by decide) (by omega) (by omega) dX7_again_18 (fun g18 => ?_)
      rw [e]
      refine z_getZq (pc := 19) (c := 2) (j := 3) h rfl rfl rfl rfl fl_X7_328 dX7_again_19 (fun g19 => ?_)
      refine z_if_ne (pc := 22) (tgt := 27) h (by omega) dX7_again_22 (by decide) (fun c22 => ?_) (fun c22 => ?_)
      · omega
      · refine z_iconst (pc := 25) h dX7_again_25 ?_
        refine z_zret (pc := 26) h rfl (by omega) dX7_again_26 ?_
        exact ⟨rfl, rfl⟩

theorem c_image_n {σ : zS} {k : Int} (hz : zin k) (hk : ¬ (0 ≤ k ∧ k ≤ 2)) : zCr M_X7_image 2 [zR 0, zI k] σ (zB false) σ := by
  refine zC_of (M := M_X7_image) (ls := [some (zR 0), some (zI k), none]) (n := 1) (by decide) (fun ad => Nat.le_of_ble_eq_true rfl) rfl (fun x h => ?_)
  refine z_iload_n (pc := 0) h dX7_image_0 rfl ?_
  refine z_if_lt (pc := 1) (tgt := 13) h (by omega) dX7_image_1 (by decide) (fun c1 => ?_) (fun c1 => ?_)
  · refine z_iconst (pc := 13) h dX7_image_13 ?_
    refine z_zret (pc := 14) h rfl (by omega) dX7_image_14 ?_
    exact ⟨rfl, rfl⟩
  · refine z_iload_n (pc := 4) h dX7_image_4 rfl ?_
    refine z_aloadR_n (pc := 5) h dX7_image_5 rfl ?_
    refine z_getA8 (pc := 6) (c := 7) (j := 9) h rfl rfl rfl fl_X7_66 dX7_image_6 ?_
    refine z_alen8 (pc := 9) (c := 7) (j := 9) (L := 3) h rfl (by decide) rfl dX7_image_9 ?_
    refine z_icmp_lt (pc := 10) (tgt := 15) h (by omega) (by omega) dX7_image_10 (by decide) (fun c10 => ?_) (fun c10 => ?_)
    · omega
    · refine z_iconst (pc := 13) h dX7_image_13 ?_
      refine z_zret (pc := 14) h rfl (by omega) dX7_image_14 ?_
      exact ⟨rfl, rfl⟩
theorem c_again_n {σ : zS} {k : Int} (hz : zin k) (hk : ¬ (0 ≤ k ∧ k ≤ 2)) : zCr M_X7_again 5 [zR 0, zI k] σ (zB false) σ := by
  refine zC_of (M := M_X7_again) (ls := [some (zR 0), some (zI k), none]) (n := 1) (by decide) (fun ad => Nat.le_of_ble_eq_true rfl) rfl (fun x h => ?_)
  refine z_iload_n (pc := 0) h dX7_again_0 rfl ?_
  refine z_if_lt (pc := 1) (tgt := 25) h (by omega) dX7_again_1 (by decide) (fun c1 => ?_) (fun c1 => ?_)
  · refine z_iconst (pc := 25) h dX7_again_25 ?_
    refine z_zret (pc := 26) h rfl (by omega) dX7_again_26 ?_
    exact ⟨rfl, rfl⟩
  · refine z_iload_n (pc := 4) h dX7_again_4 rfl ?_
    refine z_aloadR_n (pc := 5) h dX7_again_5 rfl ?_
    refine z_getA8 (pc := 6) (c := 7) (j := 9) h rfl rfl rfl fl_X7_66 dX7_again_6 ?_
    refine z_alen8 (pc := 9) (c := 7) (j := 9) (L := 3) h rfl (by decide) rfl dX7_again_9 ?_
    refine z_icmp_ge (pc := 10) (tgt := 25) h (by omega) (by omega) dX7_again_10 (by decide) (fun c10 => ?_) (fun c10 => ?_)
    · refine z_iconst (pc := 25) h dX7_again_25 ?_
      refine z_zret (pc := 26) h rfl (by omega) dX7_again_26 ?_
      exact ⟨rfl, rfl⟩
    · omega

