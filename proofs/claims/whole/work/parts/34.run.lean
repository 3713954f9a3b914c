/-! The model's run: contracts. -/
theorem m8_leavesNow {σ : zS} {m : zOb} {d : Int} (h0 : 0 ≤ d ∧ d ≤ 5) (h1 : 0 ≤ m.2 32 d ∧ m.2 32 d ≤ 7) (h2 : 0 ≤ m.2 1 (71 + 8 * d + m.2 32 d) ∧ m.2 1 (71 + 8 * d + m.2 32 d) ≤ 7) (h3 : 0 ≤ m.1 35 ∧ m.1 35 ≤ 199) (h4 : 0 ≤ m.2 1 3 ∧ m.2 1 3 ≤ 9) : zCv M_X8_leavesNow 2 [zR 31, zI d] (zo σ 31 m) (zo σ 31 (s_lv d m)) := by
  refine zC_of (M := M_X8_leavesNow) (ls := [some (zR 31), some (zI d)]) (n := 0) (by decide) (fun ad => Nat.le_of_ble_eq_true rfl) rfl (fun x h => ?_)
  refine z_aloadR_n (pc := 0) h dX8_leavesNow_0 rfl ?_
  refine z_getA4 (pc := 1) (c := 8) (j := 28) h (by first | assumption | rfl) rfl rfl fl_X8_51 dX8_leavesNow_1 ?_
  refine z_aloadR_n (pc := 4) h dX8_leavesNow_4 rfl ?_
  refine z_iload_n (pc := 5) h dX8_leavesNow_5 rfl ?_
  refine z_aloadR_n (pc := 6) h dX8_leavesNow_6 rfl ?_
  refine z_getA4 (pc := 7) (c := 8) (j := 32) h (by first | assumption | rfl) rfl rfl fl_X8_63 dX8_leavesNow_7 ?_
  refine z_iload_n (pc := 10) h dX8_leavesNow_10 rfl ?_
  refine z_ialdq (pc := 11) (c := 8) (j := 32) (L := 6) h (zo_s _ _ _) (by first | assumption | rfl) (by decide) rfl (by decide) (by omega) (by omega) dX8_leavesNow_11 (fun g11 => ?_)
  refine z_pV (pc := 12) (c := 8) h (m8_rowAt (by omega) (by omega)) (by decide) (by first | assumption | rfl) rfl mv_X8_rowAt ml_X8_205 rfl dX8_leavesNow_12 rfl (Nat.le_of_ble_eq_true rfl) ?_
  refine z_aloadR_n (pc := 15) h dX8_leavesNow_15 rfl ?_
  refine z_getIq (pc := 16) (c := 8) (j := 35) h (zo_s _ _ _) (by first | assumption | rfl) rfl rfl fl_X8_208 dX8_leavesNow_16 (fun g16 => ?_)
  refine z_iasto (pc := 19) (c := 8) (j := 28) (L := 8) h (by first | assumption | rfl) (by decide) rfl (by decide) (by omega) (by omega) (by omega) dX8_leavesNow_19 ?_
  refine z_aloadR_n (pc := 20) h dX8_leavesNow_20 rfl ?_
  refine z_getA6 (pc := 21) (c := 8) (j := 33) h (by first | assumption | rfl) rfl rfl fl_X8_66 dX8_leavesNow_21 ?_
  refine z_iload_n (pc := 24) h dX8_leavesNow_24 rfl ?_
  refine z_iconst (pc := 25) h dX8_leavesNow_25 ?_
  refine z_zasto (pc := 26) (c := 8) (j := 33) (L := 6) h (by first | assumption | rfl) (by decide) rfl (by decide) (by omega) (by omega) (by omega) dX8_leavesNow_26 ?_
  refine z_aloadR_n (pc := 27) h dX8_leavesNow_27 rfl ?_
  refine z_getA4 (pc := 28) (c := 8) (j := 32) h (by first | assumption | rfl) rfl rfl fl_X8_63 dX8_leavesNow_28 ?_
  refine z_iload_n (pc := 31) h dX8_leavesNow_31 rfl ?_
  refine z_dup2AI (pc := 32) h dX8_leavesNow_32 ?_
  refine z_ialdq (pc := 33) (c := 8) (j := 32) (L := 6) h (zo_s _ _ _) (by first | assumption | rfl) (by decide) rfl (by decide) (by omega) (by omega) dX8_leavesNow_33 (fun g33 => ?_)
  try simp only [osa_1, osa_2, oss_1, oss_2, osA_1, osA_2, zup_s, reduceIte, Nat.reduceEqDiff] at g33 ⊢
  refine z_iconst (pc := 34) h dX8_leavesNow_34 ?_
  refine z_iadd (pc := 35) h dX8_leavesNow_35 ?_
  refine z_iasto (pc := 36) (c := 8) (j := 32) (L := 6) h (by first | assumption | rfl) (by decide) rfl (by decide) (by omega) (by omega) (by omega) dX8_leavesNow_36 ?_
  refine z_aloadR_n (pc := 37) h dX8_leavesNow_37 rfl ?_
  refine z_getA4 (pc := 38) (c := 8) (j := 34) h (by first | assumption | rfl) rfl rfl fl_X8_69 dX8_leavesNow_38 ?_
  refine z_iload_n (pc := 41) h dX8_leavesNow_41 rfl ?_
  refine z_aloadR_n (pc := 42) h dX8_leavesNow_42 rfl ?_
  refine z_getIq (pc := 43) (c := 8) (j := 35) h (zo_s _ _ _) (by first | assumption | rfl) rfl rfl fl_X8_208 dX8_leavesNow_43 (fun g43 => ?_)
  try simp only [osa_1, osa_2, oss_1, oss_2, osA_1, osA_2, zup_s, reduceIte, Nat.reduceEqDiff] at g43 ⊢
  refine z_aloadR_n (pc := 46) h dX8_leavesNow_46 rfl ?_
  refine z_getA4 (pc := 47) (c := 8) (j := 1) h (by first | assumption | rfl) rfl rfl fl_X8_7 dX8_leavesNow_47 ?_
  refine z_iconst (pc := 50) h dX8_leavesNow_50 ?_
  refine z_ialdq (pc := 51) (c := 8) (j := 1) (L := 610) h (zo_s _ _ _) (by first | assumption | rfl) (by decide) rfl (by decide) (by omega) (by omega) dX8_leavesNow_51 (fun g51 => ?_)
  try simp only [osa_1, osa_2, oss_1, oss_2, osA_1, osA_2, zup_s, reduceIte, Nat.reduceEqDiff] at g51 ⊢
  refine z_iadd (pc := 52) h dX8_leavesNow_52 ?_
  refine z_iconst (pc := 53) h dX8_leavesNow_53 ?_
  refine z_iadd (pc := 54) h dX8_leavesNow_54 ?_
  refine z_iasto (pc := 55) (c := 8) (j := 34) (L := 6) h (by first | assumption | rfl) (by decide) rfl (by decide) (by omega) (by omega) (by omega) dX8_leavesNow_55 ?_
  refine z_ret (pc := 56) h rfl dX8_leavesNow_56 ?_
  exact ⟨rfl, rfl⟩
theorem m8_docksNow {σ : zS} {m : zOb} {d : Int} (h0 : 0 ≤ d ∧ d ≤ 5) (h1 : 0 ≤ m.2 32 d ∧ m.2 32 d ≤ m.2 1 (65 + d) ∧ m.2 1 (65 + d) ≤ 8) (h2 : m.2 32 d < m.2 1 (65 + d) → 0 ≤ m.2 1 (71 + 8 * d + m.2 32 d) ∧ m.2 1 (71 + 8 * d + m.2 32 d) ≤ 7) (h3 : 0 ≤ m.1 35 ∧ m.1 35 ≤ 199) : zCv M_X8_docksNow 2 [zR 31, zI d] (zo σ 31 m) (zo σ 31 (s_dk d m)) := by
  refine zC_of (M := M_X8_docksNow) (ls := [some (zR 31), some (zI d)]) (n := 0) (by decide) (fun ad => Nat.le_of_ble_eq_true rfl) rfl (fun x h => ?_)
  refine z_rgo (fun hrg => ?_)
  have hrr : ∀ j n, zrK (zkd 31 j).1 (m.2 j n) := hrg.2
  have ha : ∀ n, zin (m.2 1 n) := fun n => hrr 1 n
  refine z_aloadR_n (pc := 0) h dX8_docksNow_0 rfl ?_
  refine z_getA6 (pc := 1) (c := 8) (j := 33) h (by first | assumption | rfl) rfl rfl fl_X8_66 dX8_docksNow_1 ?_
  refine z_iload_n (pc := 4) h dX8_docksNow_4 rfl ?_
  refine z_zaldq (pc := 5) (c := 8) (j := 33) (L := 6) h (zo_s _ _ _) (by first | assumption | rfl) (by decide) rfl (by decide) (by first | omega | (have hh2 := h2 (by omega); omega) | exact ha _) (by first | omega | (have hh2 := h2 (by omega); omega) | exact ha _) dX8_docksNow_5 (fun g5 => ?_)
  refine z_if_ne (pc := 6) (tgt := 86) h (by first | omega | (have hh2 := h2 (by omega); omega) | exact ha _) dX8_docksNow_6 (by decide) (fun c6 => ?_) (fun c6 => ?_)
  · refine z_ret (pc := 86) h rfl dX8_docksNow_86 ?_
    first | (refine ⟨rfl, ?_⟩; unfold s_dk s_tr; rw [if_neg (by omega)]; done) | (refine ⟨rfl, ?_⟩; unfold s_dk s_tr; rw [if_pos (by omega)]; done)
  · refine z_aloadR_n (pc := 9) h dX8_docksNow_9 rfl ?_
    refine z_getA4 (pc := 10) (c := 8) (j := 32) h (by first | assumption | rfl) rfl rfl fl_X8_63 dX8_docksNow_10 ?_
    refine z_iload_n (pc := 13) h dX8_docksNow_13 rfl ?_
    refine z_ialdq (pc := 14) (c := 8) (j := 32) (L := 6) h (zo_s _ _ _) (by first | assumption | rfl) (by decide) rfl (by decide) (by first | omega | (have hh2 := h2 (by omega); omega) | exact ha _) (by first | omega | (have hh2 := h2 (by omega); omega) | exact ha _) dX8_docksNow_14 (fun g14 => ?_)
    refine z_aloadR_n (pc := 15) h dX8_docksNow_15 rfl ?_
    refine z_iload_n (pc := 16) h dX8_docksNow_16 rfl ?_
    refine z_pV (pc := 17) (c := 8) h (m8_rowMany (by omega)) (by decide) (by first | assumption | rfl) rfl mv_X8_rowMany ml_X8_191 rfl dX8_docksNow_17 rfl (Nat.le_of_ble_eq_true rfl) ?_
    refine z_icmp_ge (pc := 20) (tgt := 86) h (by first | omega | (have hh2 := h2 (by omega); omega) | exact ha _) (by first | omega | (have hh2 := h2 (by omega); omega) | exact ha _) dX8_docksNow_20 (by decide) (fun c20 => ?_) (fun c20 => ?_)
    · refine z_ret (pc := 86) h rfl dX8_docksNow_86 ?_
      first | (refine ⟨rfl, ?_⟩; unfold s_dk s_tr; rw [if_neg (by omega)]; done) | (refine ⟨rfl, ?_⟩; unfold s_dk s_tr; rw [if_pos (by omega)]; done)
    · refine z_aloadR_n (pc := 23) h dX8_docksNow_23 rfl ?_
      refine z_getIq (pc := 24) (c := 8) (j := 35) h (zo_s _ _ _) (by first | assumption | rfl) rfl rfl fl_X8_208 dX8_docksNow_24 (fun g24 => ?_)
      refine z_aloadR_n (pc := 27) h dX8_docksNow_27 rfl ?_
      refine z_getA4 (pc := 28) (c := 8) (j := 34) h (by first | assumption | rfl) rfl rfl fl_X8_69 dX8_docksNow_28 ?_
      refine z_iload_n (pc := 31) h dX8_docksNow_31 rfl ?_
      refine z_ialdq (pc := 32) (c := 8) (j := 34) (L := 6) h (zo_s _ _ _) (by first | assumption | rfl) (by decide) rfl (by decide) (by first | omega | (have hh2 := h2 (by omega); omega) | exact ha _) (by first | omega | (have hh2 := h2 (by omega); omega) | exact ha _) dX8_docksNow_32 (fun g32 => ?_)
      refine z_icmp_lt (pc := 33) (tgt := 86) h (by first | omega | (have hh2 := h2 (by omega); omega) | exact ha _) (by first | omega | (have hh2 := h2 (by omega); omega) | exact ha _) dX8_docksNow_33 (by decide) (fun c33 => ?_) (fun c33 => ?_)
      · refine z_ret (pc := 86) h rfl dX8_docksNow_86 ?_
        first | (refine ⟨rfl, ?_⟩; unfold s_dk s_tr; rw [if_neg (by omega)]; done) | (refine ⟨rfl, ?_⟩; unfold s_dk s_tr; rw [if_pos (by omega)]; done)
      · refine z_aloadR_n (pc := 36) h dX8_docksNow_36 rfl ?_
        refine z_aloadR_n (pc := 37) h dX8_docksNow_37 rfl ?_
        refine z_iload_n (pc := 38) h dX8_docksNow_38 rfl ?_
        refine z_aloadR_n (pc := 39) h dX8_docksNow_39 rfl ?_
        refine z_getA4 (pc := 40) (c := 8) (j := 32) h (by first | assumption | rfl) rfl rfl fl_X8_63 dX8_docksNow_40 ?_
        refine z_iload_n (pc := 43) h dX8_docksNow_43 rfl ?_
        refine z_ialdq (pc := 44) (c := 8) (j := 32) (L := 6) h (zo_s _ _ _) (by first | assumption | rfl) (by decide) rfl (by decide) (by first | omega | (have hh2 := h2 (by omega); omega) | exact ha _) (by first | omega | (have hh2 := h2 (by omega); omega) | exact ha _) dX8_docksNow_44 (fun g44 => ?_)
        refine z_pV (pc := 45) (c := 8) h (m8_rowAt (by omega) (by omega)) (by decide) (by first | assumption | rfl) rfl mv_X8_rowAt ml_X8_205 rfl dX8_docksNow_45 rfl (Nat.le_of_ble_eq_true rfl) ?_
        refine z_iconst (pc := 48) h dX8_docksNow_48 ?_
        refine z_pV (pc := 49) (c := 8) h (m8_of (by omega) (by omega)) (by decide) (by first | assumption | rfl) rfl mv_X8_of ml_X8_92 rfl dX8_docksNow_49 rfl (Nat.le_of_ble_eq_true rfl) ?_
        refine z_aloadR_n (pc := 52) h dX8_docksNow_52 rfl ?_
        refine z_getIq (pc := 53) (c := 8) (j := 35) h (zo_s _ _ _) (by first | assumption | rfl) rfl rfl fl_X8_208 dX8_docksNow_53 (fun g53 => ?_)
        refine z_icmp_gt (pc := 56) (tgt := 86) h (by first | omega | (have hh2 := h2 (by omega); omega) | exact ha _) (by first | omega | (have hh2 := h2 (by omega); omega) | exact ha _) dX8_docksNow_56 (by decide) (fun c56 => ?_) (fun c56 => ?_)
        · refine z_ret (pc := 86) h rfl dX8_docksNow_86 ?_
          first | (refine ⟨rfl, ?_⟩; unfold s_dk s_tr; rw [if_neg (by omega)]; done) | (refine ⟨rfl, ?_⟩; unfold s_dk s_tr; rw [if_pos (by omega)]; done)
        · refine z_aloadR_n (pc := 59) h dX8_docksNow_59 rfl ?_
          refine z_getA6 (pc := 60) (c := 8) (j := 33) h (by first | assumption | rfl) rfl rfl fl_X8_66 dX8_docksNow_60 ?_
          refine z_iload_n (pc := 63) h dX8_docksNow_63 rfl ?_
          refine z_iconst (pc := 64) h dX8_docksNow_64 ?_
          refine z_zasto (pc := 65) (c := 8) (j := 33) (L := 6) h (by first | assumption | rfl) (by decide) rfl (by decide) (by first | omega | (have hh2 := h2 (by omega); omega) | exact ha _) (by first | omega | (have hh2 := h2 (by omega); omega) | exact ha _) (by first | omega | (have hh2 := h2 (by omega); omega) | exact ha _) dX8_docksNow_65 ?_
          refine z_aloadR_n (pc := 66) h dX8_docksNow_66 rfl ?_
          refine z_getA4 (pc := 67) (c := 8) (j := 27) h (by first | assumption | rfl) rfl rfl fl_X8_48 dX8_docksNow_67 ?_
          refine z_aloadR_n (pc := 70) h dX8_docksNow_70 rfl ?_
          refine z_iload_n (pc := 71) h dX8_docksNow_71 rfl ?_
          refine z_aloadR_n (pc := 72) h dX8_docksNow_72 rfl ?_
          refine z_getA4 (pc := 73) (c := 8) (j := 32) h (by first | assumption | rfl) rfl rfl fl_X8_63 dX8_docksNow_73 ?_
          refine z_iload_n (pc := 76) h dX8_docksNow_76 rfl ?_
          refine z_ialdq (pc := 77) (c := 8) (j := 32) (L := 6) h (zo_s _ _ _) (by first | assumption | rfl) (by decide) rfl (by decide) (by first | omega | (have hh2 := h2 (by omega); omega) | exact ha _) (by first | omega | (have hh2 := h2 (by omega); omega) | exact ha _) dX8_docksNow_77 (fun g77 => ?_)
          try simp only [osa_1, osa_2, oss_1, oss_2, osA_1, osA_2, zup_s, reduceIte, Nat.reduceEqDiff] at g77 ⊢
          refine z_pV (pc := 78) (c := 8) h (m8_rowAt (by omega) (by omega)) (by decide) (by first | assumption | rfl) rfl mv_X8_rowAt ml_X8_205 rfl dX8_docksNow_78 rfl (Nat.le_of_ble_eq_true rfl) ?_
          refine z_aloadR_n (pc := 81) h dX8_docksNow_81 rfl ?_
          refine z_getIq (pc := 82) (c := 8) (j := 35) h (zo_s _ _ _) (by first | assumption | rfl) rfl rfl fl_X8_208 dX8_docksNow_82 (fun g82 => ?_)
          try simp only [osa_1, osa_2, oss_1, oss_2, osA_1, osA_2, zup_s, reduceIte, Nat.reduceEqDiff] at g82 ⊢
          refine z_iasto (pc := 85) (c := 8) (j := 27) (L := 8) h (by first | assumption | rfl) (by decide) rfl (by decide) (by first | omega | (have hh2 := h2 (by omega); omega) | exact ha _) (by first | omega | (have hh2 := h2 (by omega); omega) | exact ha _) (by first | omega | (have hh2 := h2 (by omega); omega) | exact ha _) dX8_docksNow_85 ?_
          refine z_ret (pc := 86) h rfl dX8_docksNow_86 ?_
          first | (refine ⟨rfl, ?_⟩; unfold s_dk s_tr; rw [if_neg (by omega)]; done) | (refine ⟨rfl, ?_⟩; unfold s_dk s_tr; rw [if_pos (by omega)]; done)
