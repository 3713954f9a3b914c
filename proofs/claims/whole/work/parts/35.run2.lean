/-! The model's run: contracts of its phases. -/
theorem run_facts {m : zOb} {d x : Int} (hS : SI m) (h : DI x m) (hd0 : 0 ≤ d) (hd1 : d < m.2 1 0) (hst : m.2 33 d = 1) : (0 ≤ d ∧ d ≤ 5) ∧ (0 ≤ m.2 32 d ∧ m.2 32 d ≤ 7) ∧ (0 ≤ m.2 1 (71 + 8 * d + m.2 32 d) ∧ m.2 1 (71 + 8 * d + m.2 32 d) ≤ 7) ∧ (0 ≤ m.2 1 3 ∧ m.2 1 3 ≤ 9) ∧ 0 ≤ m.1 35 ∧ (0 ≤ m.1 20 ∧ m.1 20 ≤ 40) ∧ (0 ≤ m.1 36 ∧ m.1 36 ≤ 40) := by
  have h1 := tr_ok hS h hd0 hd1 hst
  dsimp only [s_tr] at h1
  have h2 := hS.1.2.2.2.1
  have h3 := h.2.2.2.2.2.2.2
  have h4 := hS.2.2.2.1
  have h5 := zcnt_b (fun c => decide (m.2 23 c ≠ -1 ∧ m.2 24 c = -1)) (n := m.1 20) (by omega)
  unfold DIn s_stg at h3
  omega
theorem door_facts {m : zOb} {d c : Int} (hS : SI m) (h : DI (-1) m) (hd0 : 0 ≤ d) (hd1 : d < m.2 1 0) (hc0 : 0 ≤ c) (hc1 : c < m.1 20) (hoff : m.2 23 c ≠ -1) : (0 ≤ m.2 21 c ∧ m.2 21 c ≤ 7) ∧ (0 ≤ m.2 30 (m.2 21 c) ∧ m.2 30 (m.2 21 c) ≤ 5) ∧ (0 ≤ m.2 1 (5 + 2 * m.2 30 (m.2 21 c) + 1) ∧ m.2 1 (5 + 2 * m.2 30 (m.2 21 c) + 1) ≤ 99) ∧ (0 ≤ m.2 1 (5 + 2 * d + 1) ∧ m.2 1 (5 + 2 * d + 1) ≤ 99) := by
  have hdo := (h.2.2.2.2.2.2.1 c hc0 hc1).2.2.1 hoff
  obtain ⟨hwa, hwr, hly⟩ := hS
  have hc := hly.2.2.1 c hc0 hc1
  have h0 := hwa.1
  have h1 := hwa.2.1
  rcases hly.2.2.2.2 _ hc.1.1 hc.1.2 with q | q
  · exact absurd q.1 hdo
  · exact ⟨by omega, by omega, (hwa.2.2.2.2.2.1 _ q.1.1 q.1.2).2, (hwa.2.2.2.2.2.1 d hd0 hd1).2⟩
theorem m8_canCome {σ : zS} {m : zOb} {d c : Int} (hS : SI m) (h : DI (-1) m) (hd0 : 0 ≤ d) (hd1 : d < m.2 1 0) (hst : m.2 33 d = 1) (hc0 : 0 ≤ c) (hc1 : c < m.1 20) (hmn : m.1 35 ≤ 199) : zCp M_X8_canCome 2 [zR 31, zI c, zI d] (zo σ 31 m) (zB (s_can m d c)) := by
  have hf := run_facts hS h hd0 hd1 hst
  have hdf := door_facts hS h hd0 hd1 hc0 hc1
  have hcc := h.2.2.2.2.2.2.1 c hc0 hc1
  have hwb := s_way_b hS hd0 hd1 hc0 hc1
  refine zC_of (M := M_X8_canCome) (ls := [some (zR 31), some (zI c), some (zI d), none]) (n := 1) (by decide) (fun ad => Nat.le_of_ble_eq_true rfl) rfl (fun x h => ?_)
  refine z_rgo (fun hrg => ?_)
  have ha : ∀ n, zin (m.2 1 n) := fun n => hrg.2 1 n
  refine z_aloadR_n (pc := 0) h dX8_canCome_0 rfl ?_
  refine z_getA4 (pc := 1) (c := 8) (j := 23) h (by first | assumption | rfl) rfl rfl fl_X8_36 dX8_canCome_1 ?_
  refine z_iload_n (pc := 4) h dX8_canCome_4 rfl ?_
  refine z_ialdq (pc := 5) (c := 8) (j := 23) (L := 40) h (zo_s _ _ _) (by first | assumption | rfl) (by decide) rfl (by decide) (by omega) (by omega) dX8_canCome_5 (fun g5 => ?_)
  refine z_iconst (pc := 6) h dX8_canCome_6 ?_
  refine z_icmp_eq (pc := 7) (tgt := 45) h (by omega) (by omega) dX8_canCome_7 (by decide) (fun c7 => ?_) (fun c7 => ?_)
  · refine z_iconst (pc := 45) h dX8_canCome_45 ?_
    refine z_zret (pc := 46) h rfl (by omega) dX8_canCome_46 ?_
    exact ⟨congrArg some (zB_f (decide_eq_false (fun z => by have z1 := z.1; have z2 := z.2.1; have z3 := z.2.2.1; dsimp only [s_tr] at z3; omega))), rfl⟩
  · refine z_aloadR_n (pc := 10) h dX8_canCome_10 rfl ?_
    refine z_getA4 (pc := 11) (c := 8) (j := 24) h (by first | assumption | rfl) rfl rfl fl_X8_39 dX8_canCome_11 ?_
    refine z_iload_n (pc := 14) h dX8_canCome_14 rfl ?_
    refine z_ialdq (pc := 15) (c := 8) (j := 24) (L := 40) h (zo_s _ _ _) (by first | assumption | rfl) (by decide) rfl (by decide) (by omega) (by omega) dX8_canCome_15 (fun g15 => ?_)
    refine z_iconst (pc := 16) h dX8_canCome_16 ?_
    refine z_icmp_ne (pc := 17) (tgt := 45) h (by omega) (by omega) dX8_canCome_17 (by decide) (fun c17 => ?_) (fun c17 => ?_)
    · refine z_iconst (pc := 45) h dX8_canCome_45 ?_
      refine z_zret (pc := 46) h rfl (by omega) dX8_canCome_46 ?_
      exact ⟨congrArg some (zB_f (decide_eq_false (fun z => by have z1 := z.1; have z2 := z.2.1; have z3 := z.2.2.1; dsimp only [s_tr] at z3; omega))), rfl⟩
    · refine z_aloadR_n (pc := 20) h dX8_canCome_20 rfl ?_
      refine z_getA4 (pc := 21) (c := 8) (j := 22) h (by first | assumption | rfl) rfl rfl fl_X8_33 dX8_canCome_21 ?_
      refine z_iload_n (pc := 24) h dX8_canCome_24 rfl ?_
      refine z_ialdq (pc := 25) (c := 8) (j := 22) (L := 40) h (zo_s _ _ _) (by first | assumption | rfl) (by decide) rfl (by decide) (by omega) (by omega) dX8_canCome_25 (fun g25 => ?_)
      refine z_aloadR_n (pc := 26) h dX8_canCome_26 rfl ?_
      refine z_aloadR_n (pc := 27) h dX8_canCome_27 rfl ?_
      refine z_iload_n (pc := 28) h dX8_canCome_28 rfl ?_
      refine z_aloadR_n (pc := 29) h dX8_canCome_29 rfl ?_
      refine z_getA4 (pc := 30) (c := 8) (j := 32) h (by first | assumption | rfl) rfl rfl fl_X8_63 dX8_canCome_30 ?_
      refine z_iload_n (pc := 33) h dX8_canCome_33 rfl ?_
      refine z_ialdq (pc := 34) (c := 8) (j := 32) (L := 6) h (zo_s _ _ _) (by first | assumption | rfl) (by decide) rfl (by decide) (by omega) (by omega) dX8_canCome_34 (fun g34 => ?_)
      refine z_pV (pc := 35) (c := 8) h (m8_rowAt (by omega) (by omega)) (by decide) (by first | assumption | rfl) rfl mv_X8_rowAt ml_X8_205 rfl dX8_canCome_35 rfl (Nat.le_of_ble_eq_true rfl) ?_
      refine z_iconst (pc := 38) h dX8_canCome_38 ?_
      refine z_pV (pc := 39) (c := 8) h (m8_of (by omega) (by omega)) (by decide) (by first | assumption | rfl) rfl mv_X8_of ml_X8_92 rfl dX8_canCome_39 rfl (Nat.le_of_ble_eq_true rfl) ?_
      refine z_icmp_eq (pc := 42) (tgt := 47) h (by first | omega | exact ha _) (by first | omega | exact ha _) dX8_canCome_42 (by decide) (fun c42 => ?_) (fun c42 => ?_)
      · have hd5 := hdf (by omega)
        have hw1 := hwb (hcc.2.2.1 (by omega))
        refine z_aloadR_n (pc := 47) h dX8_canCome_47 rfl ?_
        refine z_aloadR_n (pc := 48) h dX8_canCome_48 rfl ?_
        refine z_getA4 (pc := 49) (c := 8) (j := 30) h (by first | assumption | rfl) rfl rfl fl_X8_57 dX8_canCome_49 ?_
        refine z_aloadR_n (pc := 52) h dX8_canCome_52 rfl ?_
        refine z_getA4 (pc := 53) (c := 8) (j := 21) h (by first | assumption | rfl) rfl rfl fl_X8_30 dX8_canCome_53 ?_
        refine z_iload_n (pc := 56) h dX8_canCome_56 rfl ?_
        refine z_ialdq (pc := 57) (c := 8) (j := 21) (L := 40) h (zo_s _ _ _) (by first | assumption | rfl) (by decide) rfl (by decide) (by omega) (by omega) dX8_canCome_57 (fun g57 => ?_)
        refine z_ialdq (pc := 58) (c := 8) (j := 30) (L := 8) h (zo_s _ _ _) (by first | assumption | rfl) (by decide) rfl (by decide) (by omega) (by omega) dX8_canCome_58 (fun g58 => ?_)
        refine z_iload_n (pc := 59) h dX8_canCome_59 rfl ?_
        refine z_pV (pc := 60) (c := 8) h (show zCp M_X8_travelOf 1 [zR 31, zI (m.2 30 (m.2 21 c)), zI d] (zo σ 31 m) (zI (s_way m c d)) from m8_travelOf (by omega) (by omega) (by omega) (by omega)) (by decide) (by first | assumption | rfl) rfl mv_X8_travelOf ml_X8_211 rfl dX8_canCome_60 rfl (Nat.le_of_ble_eq_true rfl) ?_
        refine z_ist_3 (pc := 63) h dX8_canCome_63 (by decide) rfl ?_
        refine z_aloadR_n (pc := 64) h dX8_canCome_64 rfl ?_
        refine z_getIq (pc := 65) (c := 8) (j := 35) h (zo_s _ _ _) (by first | assumption | rfl) rfl rfl fl_X8_208 dX8_canCome_65 (fun g65 => ?_)
        refine z_aloadR_n (pc := 68) h dX8_canCome_68 rfl ?_
        refine z_getA4 (pc := 69) (c := 8) (j := 23) h (by first | assumption | rfl) rfl rfl fl_X8_36 dX8_canCome_69 ?_
        refine z_iload_n (pc := 72) h dX8_canCome_72 rfl ?_
        refine z_ialdq (pc := 73) (c := 8) (j := 23) (L := 40) h (zo_s _ _ _) (by first | assumption | rfl) (by decide) rfl (by decide) (by omega) (by omega) dX8_canCome_73 (fun g73 => ?_)
        refine z_isub (pc := 74) h dX8_canCome_74 ?_
        refine z_iload_n (pc := 75) h dX8_canCome_75 rfl ?_
        refine z_iconst (pc := 76) h dX8_canCome_76 ?_
        refine z_icmp_ge (pc := 77) (tgt := 84) h (by omega) (by omega) dX8_canCome_77 (by decide) (fun c77 => ?_) (fun c77 => ?_)
        · refine z_iload_n (pc := 84) h dX8_canCome_84 rfl ?_
          refine z_icmp_lt (pc := 85) (tgt := 92) h (by omega) (by omega) dX8_canCome_85 (by decide) (fun c85 => ?_) (fun c85 => ?_)
          · refine z_iconst (pc := 92) h dX8_canCome_92 ?_
            refine z_zret (pc := 93) h rfl (by omega) dX8_canCome_93 ?_
            first
            | exact ⟨congrArg some (zB_t (decide_eq_true ⟨by omega, by omega, by dsimp only [s_tr]; omega, by rw [if_pos (by omega)]; omega⟩)), rfl⟩
            | exact ⟨congrArg some (zB_t (decide_eq_true ⟨by omega, by omega, by dsimp only [s_tr]; omega, by rw [if_neg (by omega)]; omega⟩)), rfl⟩
            | exact ⟨congrArg some (zB_f (decide_eq_false (fun z => by have z4 := z.2.2.2; rw [if_pos (by omega)] at z4; omega))), rfl⟩
            | exact ⟨congrArg some (zB_f (decide_eq_false (fun z => by have z4 := z.2.2.2; rw [if_neg (by omega)] at z4; omega))), rfl⟩
          · refine z_iconst (pc := 88) h dX8_canCome_88 ?_
            refine z_goto (pc := 89) (tgt := 93) h dX8_canCome_89 (by decide) ?_
            refine z_zret (pc := 93) h rfl (by omega) dX8_canCome_93 ?_
            first
            | exact ⟨congrArg some (zB_t (decide_eq_true ⟨by omega, by omega, by dsimp only [s_tr]; omega, by rw [if_pos (by omega)]; omega⟩)), rfl⟩
            | exact ⟨congrArg some (zB_t (decide_eq_true ⟨by omega, by omega, by dsimp only [s_tr]; omega, by rw [if_neg (by omega)]; omega⟩)), rfl⟩
            | exact ⟨congrArg some (zB_f (decide_eq_false (fun z => by have z4 := z.2.2.2; rw [if_pos (by omega)] at z4; omega))), rfl⟩
            | exact ⟨congrArg some (zB_f (decide_eq_false (fun z => by have z4 := z.2.2.2; rw [if_neg (by omega)] at z4; omega))), rfl⟩
        · refine z_iconst (pc := 80) h dX8_canCome_80 ?_
          refine z_goto (pc := 81) (tgt := 85) h dX8_canCome_81 (by decide) ?_
          refine z_icmp_lt (pc := 85) (tgt := 92) h (by omega) (by omega) dX8_canCome_85 (by decide) (fun c85 => ?_) (fun c85 => ?_)
          · refine z_iconst (pc := 92) h dX8_canCome_92 ?_
            refine z_zret (pc := 93) h rfl (by omega) dX8_canCome_93 ?_
            first
            | exact ⟨congrArg some (zB_t (decide_eq_true ⟨by omega, by omega, by dsimp only [s_tr]; omega, by rw [if_pos (by omega)]; omega⟩)), rfl⟩
            | exact ⟨congrArg some (zB_t (decide_eq_true ⟨by omega, by omega, by dsimp only [s_tr]; omega, by rw [if_neg (by omega)]; omega⟩)), rfl⟩
            | exact ⟨congrArg some (zB_f (decide_eq_false (fun z => by have z4 := z.2.2.2; rw [if_pos (by omega)] at z4; omega))), rfl⟩
            | exact ⟨congrArg some (zB_f (decide_eq_false (fun z => by have z4 := z.2.2.2; rw [if_neg (by omega)] at z4; omega))), rfl⟩
          · refine z_iconst (pc := 88) h dX8_canCome_88 ?_
            refine z_goto (pc := 89) (tgt := 93) h dX8_canCome_89 (by decide) ?_
            refine z_zret (pc := 93) h rfl (by omega) dX8_canCome_93 ?_
            first
            | exact ⟨congrArg some (zB_t (decide_eq_true ⟨by omega, by omega, by dsimp only [s_tr]; omega, by rw [if_pos (by omega)]; omega⟩)), rfl⟩
            | exact ⟨congrArg some (zB_t (decide_eq_true ⟨by omega, by omega, by dsimp only [s_tr]; omega, by rw [if_neg (by omega)]; omega⟩)), rfl⟩
            | exact ⟨congrArg some (zB_f (decide_eq_false (fun z => by have z4 := z.2.2.2; rw [if_pos (by omega)] at z4; omega))), rfl⟩
            | exact ⟨congrArg some (zB_f (decide_eq_false (fun z => by have z4 := z.2.2.2; rw [if_neg (by omega)] at z4; omega))), rfl⟩
      · refine z_iconst (pc := 45) h dX8_canCome_45 ?_
        refine z_zret (pc := 46) h rfl (by omega) dX8_canCome_46 ?_
        exact ⟨congrArg some (zB_f (decide_eq_false (fun z => by have z1 := z.1; have z2 := z.2.1; have z3 := z.2.2.1; dsimp only [s_tr] at z3; omega))), rfl⟩
theorem s_best_S (m : zOb) (d : Int) {i : Int} (h : 0 ≤ i) : s_best m d (i + 1) = if s_can m d i = true ∧ (s_best m d i = -1 ∨ m.2 23 i < m.2 23 (s_best m d i)) then i else s_best m d i := by
  unfold s_best
  rw [zfor_S _ h]
theorem m8_putsOn {σ : zS} {m : zOb} {d : Int} (hS : SI m) (hD : DI (-1) m) (hd0 : 0 ≤ d) (hd1 : d < m.2 1 0) (hk : m.2 1 (5 + 2 * d) = 1) (hst : m.2 33 d = 1) (hmn : m.1 35 ≤ 199) : zCv M_X8_putsOn 3 [zR 31, zI d] (zo σ 31 m) (zo σ 31 (s_po d m)) := by
  have hf := run_facts hS hD hd0 hd1 hst
  have htr := tr_ok hS hD hd0 hd1 hst
  refine zC_of (M := M_X8_putsOn) (ls := [some (zR 31), some (zI d), none, none]) (n := 2) (by decide) (fun ad => Nat.le_of_ble_eq_true rfl) rfl (fun x h => ?_)
  refine z_rgo (fun hrg => ?_)
  have ha : ∀ n, zin (m.2 1 n) := fun n => hrg.2 1 n
  have L : ∀ (n : Nat) (i : Int), 0 ≤ i → i ≤ m.1 20 → m.1 20 - i < n → zW x (fun r τ' => r = none ∧ τ' = zo σ 31 (s_po d m)) 4 [some (zR 31), some (zI d), some (zI (s_best m d i)), some (zI i)] [] (zo σ 31 m) := by
    intro n
    induction n with
    | zero => intro i h1 h2 h3; omega
    | succ n ih =>
      intro i h1 h2 h3
      have hbs := s_best_spec m d (n := i) h1
      refine z_iload_n (pc := 4) h dX8_putsOn_4 rfl ?_
      refine z_aloadR_n (pc := 5) h dX8_putsOn_5 rfl ?_
      refine z_getIq (pc := 6) (c := 8) (j := 20) h (zo_s _ _ _) (by first | assumption | rfl) rfl rfl fl_X8_202 dX8_putsOn_6 (fun g6 => ?_)
      refine z_icmp_ge (pc := 9) (tgt := 49) h (by omega) (by omega) dX8_putsOn_9 (by decide) (fun c9 => ?_) (fun c9 => ?_)
      · have hi : i = m.1 20 := by omega
        subst hi
        refine z_iload_n (pc := 49) h dX8_putsOn_49 rfl ?_
        refine z_iconst (pc := 50) h dX8_putsOn_50 ?_
        refine z_icmp_ne (pc := 51) (tgt := 55) h (by omega) (by omega) dX8_putsOn_51 (by decide) (fun c51 => ?_) (fun c51 => ?_)
        · have hb : 0 ≤ s_best m d (m.1 20) ∧ s_best m d (m.1 20) < m.1 20 ∧ s_can m d (s_best m d (m.1 20)) = true := by rcases hbs with z | z; exact absurd z (by omega); exact z
          have hbc : m.2 23 (s_best m d (m.1 20)) ≠ -1 := by have z := hb.2.2; unfold s_can at z; exact (of_decide_eq_true z).1
          have hd5 := door_facts hS hD hd0 hd1 hb.1 hb.2.1 hbc
          have hw1 := s_way_b hS hd0 hd1 hb.1 hb.2.1 ((hD.2.2.2.2.2.2.1 _ hb.1 hb.2.1).2.2.1 hbc)
          have hh := (hD.2.2.2.2.2.1 _ htr.2.1 htr.2.2.1).1
          have hcap : a_cap (m.2 1) (s_tr m d) ≤ 40 := by unfold a_cap; rw [if_pos (by omega)]; have := ((hS.1.2.2.2.2.2.2.1 _ htr.2.1 htr.2.2.1).2.2.1 (by omega)).2.2.1; omega
          dsimp only [s_tr] at hh
          dsimp only [s_tr] at hcap
          refine z_aloadR_n (pc := 55) h dX8_putsOn_55 rfl ?_
          refine z_iload_n (pc := 56) h dX8_putsOn_56 rfl ?_
          refine z_aloadR_n (pc := 57) h dX8_putsOn_57 rfl ?_
          refine z_getA4 (pc := 58) (c := 8) (j := 32) h (by first | assumption | rfl) rfl rfl fl_X8_63 dX8_putsOn_58 ?_
          refine z_iload_n (pc := 61) h dX8_putsOn_61 rfl ?_
          refine z_ialdq (pc := 62) (c := 8) (j := 32) (L := 6) h (zo_s _ _ _) (by first | assumption | rfl) (by decide) rfl (by decide) (by omega) (by omega) dX8_putsOn_62 (fun g62 => ?_)
          refine z_pV (pc := 63) (c := 8) h (m8_rowAt (by omega) (by omega)) (by decide) (by first | assumption | rfl) rfl mv_X8_rowAt ml_X8_205 rfl dX8_putsOn_63 rfl (Nat.le_of_ble_eq_true rfl) ?_
          refine z_ist_3 (pc := 66) h dX8_putsOn_66 (by decide) rfl ?_
          refine z_aloadR_n (pc := 67) h dX8_putsOn_67 rfl ?_
          refine z_getA4 (pc := 68) (c := 8) (j := 24) h (by first | assumption | rfl) rfl rfl fl_X8_39 dX8_putsOn_68 ?_
          refine z_iload_n (pc := 71) h dX8_putsOn_71 rfl ?_
          refine z_aloadR_n (pc := 72) h dX8_putsOn_72 rfl ?_
          refine z_getIq (pc := 73) (c := 8) (j := 35) h (zo_s _ _ _) (by first | assumption | rfl) rfl rfl fl_X8_208 dX8_putsOn_73 (fun g73 => ?_)
          refine z_iasto (pc := 76) (c := 8) (j := 24) (L := 40) h (by first | assumption | rfl) (by decide) rfl (by decide) (by omega) (by omega) (by omega) dX8_putsOn_76 ?_
          refine z_aloadR_n (pc := 77) h dX8_putsOn_77 rfl ?_
          refine z_getA4 (pc := 78) (c := 8) (j := 25) h (by first | assumption | rfl) rfl rfl fl_X8_42 dX8_putsOn_78 ?_
          refine z_iload_n (pc := 81) h dX8_putsOn_81 rfl ?_
          refine z_iload_n (pc := 82) h dX8_putsOn_82 rfl ?_
          refine z_iasto (pc := 83) (c := 8) (j := 25) (L := 40) h (by first | assumption | rfl) (by decide) rfl (by decide) (by omega) (by omega) (by omega) dX8_putsOn_83 ?_
          refine z_aloadR_n (pc := 84) h dX8_putsOn_84 rfl ?_
          refine z_getA4 (pc := 85) (c := 8) (j := 26) h (by first | assumption | rfl) rfl rfl fl_X8_45 dX8_putsOn_85 ?_
          refine z_iload_n (pc := 88) h dX8_putsOn_88 rfl ?_
          refine z_aloadR_n (pc := 89) h dX8_putsOn_89 rfl ?_
          refine z_aloadR_n (pc := 90) h dX8_putsOn_90 rfl ?_
          refine z_getA4 (pc := 91) (c := 8) (j := 30) h (by first | assumption | rfl) rfl rfl fl_X8_57 dX8_putsOn_91 ?_
          refine z_aloadR_n (pc := 94) h dX8_putsOn_94 rfl ?_
          refine z_getA4 (pc := 95) (c := 8) (j := 21) h (by first | assumption | rfl) rfl rfl fl_X8_30 dX8_putsOn_95 ?_
          refine z_iload_n (pc := 98) h dX8_putsOn_98 rfl ?_
          refine z_ialdq (pc := 99) (c := 8) (j := 21) (L := 40) h (zo_s _ _ _) (by first | assumption | rfl) (by decide) rfl (by decide) (by omega) (by omega) dX8_putsOn_99 (fun g99 => ?_)
          try simp only [osa_1, osa_2, oss_1, oss_2, osA_1, osA_2, zup_s, reduceIte, Nat.reduceEqDiff] at g99 ⊢
          refine z_ialdq (pc := 100) (c := 8) (j := 30) (L := 8) h (zo_s _ _ _) (by first | assumption | rfl) (by decide) rfl (by decide) (by omega) (by omega) dX8_putsOn_100 (fun g100 => ?_)
          try simp only [osa_1, osa_2, oss_1, oss_2, osA_1, osA_2, zup_s, reduceIte, Nat.reduceEqDiff] at g100 ⊢
          refine z_iload_n (pc := 101) h dX8_putsOn_101 rfl ?_
          refine z_pV (pc := 102) (c := 8) h (show zCp M_X8_travelOf 1 [zR 31, zI (m.2 30 (m.2 21 (s_best m d (m.1 20)))), zI d] (zo σ 31 (osa (osa m 24 (s_best m d (m.1 20)) (m.1 35)) 25 (s_best m d (m.1 20)) (s_tr m d))) (zI (s_way m (s_best m d (m.1 20)) d)) from m8_travelOf (m := osa (osa m 24 (s_best m d (m.1 20)) (m.1 35)) 25 (s_best m d (m.1 20)) (s_tr m d)) (by omega) (by omega) hd5.2.2.1 hd5.2.2.2) (by decide) (by first | assumption | rfl) rfl mv_X8_travelOf ml_X8_211 rfl dX8_putsOn_102 rfl (Nat.le_of_ble_eq_true rfl) ?_
          refine z_iasto (pc := 105) (c := 8) (j := 26) (L := 40) h (by first | assumption | rfl) (by decide) rfl (by decide) (by omega) (by omega) (by omega) dX8_putsOn_105 ?_
          refine z_aloadR_n (pc := 106) h dX8_putsOn_106 rfl ?_
          refine z_dupR (pc := 107) h dX8_putsOn_107 ?_
          refine z_getIq (pc := 108) (c := 8) (j := 36) h (zo_s _ _ _) (by first | assumption | rfl) rfl rfl fl_X8_217 dX8_putsOn_108 (fun g108 => ?_)
          try simp only [osa_1, osa_2, oss_1, oss_2, osA_1, osA_2, zup_s, reduceIte, Nat.reduceEqDiff] at g108 ⊢
          refine z_iconst (pc := 111) h dX8_putsOn_111 ?_
          refine z_isub (pc := 112) h dX8_putsOn_112 ?_
          refine z_putIo (pc := 113) (c := 8) (j := 36) h (by first | assumption | rfl) rfl rfl fl_X8_217 rfl (tyX8_ok 36 (by decide)) dX8_putsOn_113 (by omega) ?_
          refine z_aloadR_n (pc := 116) h dX8_putsOn_116 rfl ?_
          refine z_getA4 (pc := 117) (c := 8) (j := 29) h (by first | assumption | rfl) rfl rfl fl_X8_54 dX8_putsOn_117 ?_
          refine z_iload_n (pc := 120) h dX8_putsOn_120 rfl ?_
          refine z_dup2AI (pc := 121) h dX8_putsOn_121 ?_
          refine z_ialdq (pc := 122) (c := 8) (j := 29) (L := 8) h (zo_s _ _ _) (by first | assumption | rfl) (by decide) rfl (by decide) (by omega) (by omega) dX8_putsOn_122 (fun g122 => ?_)
          try simp only [osa_1, osa_2, oss_1, oss_2, osA_1, osA_2, zup_s, reduceIte, Nat.reduceEqDiff] at g122 ⊢
          refine z_iconst (pc := 123) h dX8_putsOn_123 ?_
          refine z_iadd (pc := 124) h dX8_putsOn_124 ?_
          refine z_iasto (pc := 125) (c := 8) (j := 29) (L := 8) h (by first | assumption | rfl) (by decide) rfl (by decide) (by omega) (by omega) (by omega) dX8_putsOn_125 ?_
          refine z_aloadR_n (pc := 126) h dX8_putsOn_126 rfl ?_
          refine z_getA4 (pc := 127) (c := 8) (j := 29) h (by first | assumption | rfl) rfl rfl fl_X8_54 dX8_putsOn_127 ?_
          refine z_iload_n (pc := 130) h dX8_putsOn_130 rfl ?_
          refine z_ialdq (pc := 131) (c := 8) (j := 29) (L := 8) h (zo_s _ _ _) (by first | assumption | rfl) (by decide) rfl (by decide) (by omega) (by omega) dX8_putsOn_131 (fun g131 => ?_)
          try simp only [osa_1, osa_2, oss_1, oss_2, osA_1, osA_2, zup_s, reduceIte, Nat.reduceEqDiff] at g131 ⊢
          refine z_aloadR_n (pc := 132) h dX8_putsOn_132 rfl ?_
          refine z_iload_n (pc := 133) h dX8_putsOn_133 rfl ?_
          refine z_iconst (pc := 134) h dX8_putsOn_134 ?_
          refine z_pV (pc := 135) (c := 8) h (show zCp M_X8_of 1 [zR 31, zI (s_tr m d), zI 4] (zo σ 31 (s_po1 d (s_best m d (m.1 20)) m)) (zI (m.2 1 (17 + 6 * s_tr m d + 4))) from m8_of (m := s_po1 d (s_best m d (m.1 20)) m) hf.2.2.1 (by omega)) (by decide) (by first | assumption | rfl) rfl mv_X8_of ml_X8_92 rfl dX8_putsOn_135 rfl (Nat.le_of_ble_eq_true rfl) ?_
          refine z_icmp_ne (pc := 138) (tgt := 146) h (by first | omega | exact ha _) (by first | omega | exact ha _) dX8_putsOn_138 (by decide) (fun c138 => ?_) (fun c138 => ?_)
          · refine z_ret (pc := 146) h rfl dX8_putsOn_146 ?_
            refine ⟨rfl, ?_⟩
            unfold s_po
            rw [if_neg c51]
            first | (rw [if_pos c138]; done) | (rw [if_neg c138]; rfl)
          · refine z_aloadR_n (pc := 141) h dX8_putsOn_141 rfl ?_
            refine z_iload_n (pc := 142) h dX8_putsOn_142 rfl ?_
            refine z_vV (pc := 143) (c := 8) h (show zCv M_X8_leavesNow 2 [zR 31, zI d] (zo σ 31 (s_po1 d (s_best m d (m.1 20)) m)) (zo σ 31 (s_lv d (s_po1 d (s_best m d (m.1 20)) m))) from m8_leavesNow (m := s_po1 d (s_best m d (m.1 20)) m) hf.1 hf.2.1 hf.2.2.1 ⟨hf.2.2.2.2.1, hmn⟩ hf.2.2.2.1) (by decide) (by first | assumption | rfl) rfl mv_X8_leavesNow ml_X8_220 rfl dX8_putsOn_143 rfl (Nat.le_of_ble_eq_true rfl) ?_
            refine z_ret (pc := 146) h rfl dX8_putsOn_146 ?_
            refine ⟨rfl, ?_⟩
            unfold s_po
            rw [if_neg c51]
            first | (rw [if_pos c138]; done) | (rw [if_neg c138]; rfl)
        · refine z_ret (pc := 54) h rfl dX8_putsOn_54 ?_
          refine ⟨rfl, ?_⟩
          unfold s_po
          rw [if_pos c51]
      · refine z_aloadR_n (pc := 12) h dX8_putsOn_12 rfl ?_
        refine z_iload_n (pc := 13) h dX8_putsOn_13 rfl ?_
        refine z_iload_n (pc := 14) h dX8_putsOn_14 rfl ?_
        refine z_pV (pc := 15) (c := 8) h (m8_canCome hS hD hd0 hd1 hst (by omega) (by omega) hmn) (by decide) (by first | assumption | rfl) rfl mv_X8_canCome ml_X8_214 rfl dX8_putsOn_15 rfl (Nat.le_of_ble_eq_true rfl) ?_
        refine z_ifeqB (pc := 18) (tgt := 43) h dX8_putsOn_18 (by decide) (fun c18 => ?_) (fun c18 => ?_)
        · refine z_inc_3 (pc := 43) h dX8_putsOn_43 (by decide) rfl ?_
          refine z_goto (pc := 46) (tgt := 4) h dX8_putsOn_46 (by decide) ?_
          have hih := ih (i + 1) (by omega) (by omega) (by omega)
          rw [s_best_S _ _ h1] at hih
          first
          | (rw [if_pos ⟨c18, by omega⟩] at hih; exact hih)
          | (rw [if_neg (fun z => by have z2 := z.2; omega)] at hih; exact hih)
          | (rw [if_neg (fun z => by rw [c18] at z; cases z.1)] at hih; exact hih)
        · refine z_iload_n (pc := 21) h dX8_putsOn_21 rfl ?_
          refine z_iconst (pc := 22) h dX8_putsOn_22 ?_
          refine z_icmp_eq (pc := 23) (tgt := 41) h (by omega) (by omega) dX8_putsOn_23 (by decide) (fun c23 => ?_) (fun c23 => ?_)
          · refine z_iload_n (pc := 41) h dX8_putsOn_41 rfl ?_
            refine z_ist_2 (pc := 42) h dX8_putsOn_42 (by decide) rfl ?_
            refine z_inc_3 (pc := 43) h dX8_putsOn_43 (by decide) rfl ?_
            refine z_goto (pc := 46) (tgt := 4) h dX8_putsOn_46 (by decide) ?_
            have hih := ih (i + 1) (by omega) (by omega) (by omega)
            rw [s_best_S _ _ h1] at hih
            first
            | (rw [if_pos ⟨c18, by omega⟩] at hih; exact hih)
            | (rw [if_neg (fun z => by have z2 := z.2; omega)] at hih; exact hih)
            | (rw [if_neg (fun z => by rw [c18] at z; cases z.1)] at hih; exact hih)
          · refine z_aloadR_n (pc := 26) h dX8_putsOn_26 rfl ?_
            refine z_getA4 (pc := 27) (c := 8) (j := 23) h (by first | assumption | rfl) rfl rfl fl_X8_36 dX8_putsOn_27 ?_
            refine z_iload_n (pc := 30) h dX8_putsOn_30 rfl ?_
            refine z_ialdq (pc := 31) (c := 8) (j := 23) (L := 40) h (zo_s _ _ _) (by first | assumption | rfl) (by decide) rfl (by decide) (by omega) (by omega) dX8_putsOn_31 (fun g31 => ?_)
            refine z_aloadR_n (pc := 32) h dX8_putsOn_32 rfl ?_
            refine z_getA4 (pc := 33) (c := 8) (j := 23) h (by first | assumption | rfl) rfl rfl fl_X8_36 dX8_putsOn_33 ?_
            refine z_iload_n (pc := 36) h dX8_putsOn_36 rfl ?_
            refine z_ialdq (pc := 37) (c := 8) (j := 23) (L := 40) h (zo_s _ _ _) (by first | assumption | rfl) (by decide) rfl (by decide) (by omega) (by omega) dX8_putsOn_37 (fun g37 => ?_)
            refine z_icmp_ge (pc := 38) (tgt := 43) h (by omega) (by omega) dX8_putsOn_38 (by decide) (fun c38 => ?_) (fun c38 => ?_)
            · refine z_inc_3 (pc := 43) h dX8_putsOn_43 (by decide) rfl ?_
              refine z_goto (pc := 46) (tgt := 4) h dX8_putsOn_46 (by decide) ?_
              have hih := ih (i + 1) (by omega) (by omega) (by omega)
              rw [s_best_S _ _ h1] at hih
              first
              | (rw [if_pos ⟨c18, by omega⟩] at hih; exact hih)
              | (rw [if_neg (fun z => by have z2 := z.2; omega)] at hih; exact hih)
              | (rw [if_neg (fun z => by rw [c18] at z; cases z.1)] at hih; exact hih)
            · refine z_iload_n (pc := 41) h dX8_putsOn_41 rfl ?_
              refine z_ist_2 (pc := 42) h dX8_putsOn_42 (by decide) rfl ?_
              refine z_inc_3 (pc := 43) h dX8_putsOn_43 (by decide) rfl ?_
              refine z_goto (pc := 46) (tgt := 4) h dX8_putsOn_46 (by decide) ?_
              have hih := ih (i + 1) (by omega) (by omega) (by omega)
              rw [s_best_S _ _ h1] at hih
              first
              | (rw [if_pos ⟨c18, by omega⟩] at hih; exact hih)
              | (rw [if_neg (fun z => by have z2 := z.2; omega)] at hih; exact hih)
              | (rw [if_neg (fun z => by rw [c18] at z; cases z.1)] at hih; exact hih)
  refine z_iconst (pc := 0) h dX8_putsOn_0 ?_
  refine z_ist_2 (pc := 1) h dX8_putsOn_1 (by decide) rfl ?_
  refine z_iconst (pc := 2) h dX8_putsOn_2 ?_
  refine z_ist_3 (pc := 3) h dX8_putsOn_3 (by decide) rfl ?_
  exact L (m.1 20 + 1).toNat 0 (by omega) (by omega) (by omega)
theorem m8_loadOf {σ : zS} {m : zOb} {t : Int} (ht : 0 ≤ t ∧ t ≤ 7) : zCp M_X8_loadOf 2 [zR 31, zI t] (zo σ 31 m) (zI (s_load m t)) := by
  refine zC_of (M := M_X8_loadOf) (ls := [some (zR 31), some (zI t)]) (n := 0) (by decide) (fun ad => Nat.le_of_ble_eq_true rfl) rfl (fun x h => ?_)
  refine z_aloadR_n (pc := 0) h dX8_loadOf_0 rfl ?_
  refine z_iload_n (pc := 1) h dX8_loadOf_1 rfl ?_
  refine z_iconst (pc := 2) h dX8_loadOf_2 ?_
  refine z_pV (pc := 3) (c := 8) h (m8_of (by omega) (by omega)) (by decide) (by first | assumption | rfl) rfl mv_X8_of ml_X8_92 rfl dX8_loadOf_3 rfl (Nat.le_of_ble_eq_true rfl) ?_
  refine z_aloadR_n (pc := 6) h dX8_loadOf_6 rfl ?_
  refine z_iload_n (pc := 7) h dX8_loadOf_7 rfl ?_
  refine z_iconst (pc := 8) h dX8_loadOf_8 ?_
  refine z_pV (pc := 9) (c := 8) h (m8_of (by omega) (by omega)) (by decide) (by first | assumption | rfl) rfl mv_X8_of ml_X8_92 rfl dX8_loadOf_9 rfl (Nat.le_of_ble_eq_true rfl) ?_
  refine z_iadd (pc := 12) h dX8_loadOf_12 ?_
  refine z_aloadR_n (pc := 13) h dX8_loadOf_13 rfl ?_
  refine z_iload_n (pc := 14) h dX8_loadOf_14 rfl ?_
  refine z_iconst (pc := 15) h dX8_loadOf_15 ?_
  refine z_pV (pc := 16) (c := 8) h (m8_of (by omega) (by omega)) (by decide) (by first | assumption | rfl) rfl mv_X8_of ml_X8_92 rfl dX8_loadOf_16 rfl (Nat.le_of_ble_eq_true rfl) ?_
  refine z_iadd (pc := 19) h dX8_loadOf_19 ?_
  refine z_aloadR_n (pc := 20) h dX8_loadOf_20 rfl ?_
  refine z_iload_n (pc := 21) h dX8_loadOf_21 rfl ?_
  refine z_iconst (pc := 22) h dX8_loadOf_22 ?_
  refine z_pV (pc := 23) (c := 8) h (m8_of (by omega) (by omega)) (by decide) (by first | assumption | rfl) rfl mv_X8_of ml_X8_92 rfl dX8_loadOf_23 rfl (Nat.le_of_ble_eq_true rfl) ?_
  refine z_iadd (pc := 26) h dX8_loadOf_26 ?_
  refine z_iret (pc := 27) h rfl dX8_loadOf_27 ?_
  exact ⟨rfl, rfl⟩
theorem m8_takesOff {σ : zS} {m : zOb} {d : Int} (hS : SI m) (hD : DI (-1) m) (hd0 : 0 ≤ d) (hd1 : d < m.2 1 0) (hk : m.2 1 (5 + 2 * d) ≠ 1) (hst : m.2 33 d = 1) (hmn : m.1 35 ≤ 199) (hid : 0 ≤ m.1 39 ∧ m.1 39 ≤ 5000) : zCv M_X8_takesOff 3 [zR 31, zI d] (zo σ 31 m) (zo σ 31 (s_to d m)) := by
  have hf := run_facts hS hD hd0 hd1 hst
  have htr := tr_ok hS hD hd0 hd1 hst
  obtain ⟨n1, n2, n3, n4, n5⟩ := s_nx_eq hS hD hd0 hd1 hk hst
  have hmin : ∀ j, 0 ≤ j → j < s_nx m (s_tr m d) → ¬ (m.2 21 j = s_tr m d ∧ m.2 23 j = -1) := by
    rcases zfst_cases (fun c => decide (m.2 21 c = s_tr m d ∧ m.2 23 c = -1)) 40 with z | z
    · have z1 : s_nx m (s_tr m d) = -1 := z.1
      omega
    · intro j h1 h2
      exact of_decide_eq_false (z.2.2.2 j h1 h2)
  have hh := (hD.2.2.2.2.2.1 _ htr.2.1 htr.2.2.1).1
  have hcap : a_cap (m.2 1) (s_tr m d) ≤ 60 := by unfold a_cap; rw [if_neg (by omega)]; exact (a_load_b hS.1 htr.2.1 htr.2.2.1 n5).2
  have hld : s_load m (s_tr m d) ≤ 60 ∧ 1 ≤ s_load m (s_tr m d) := by rw [s_load_eq]; have := a_load_b hS.1 htr.2.1 htr.2.2.1 n5; omega
  have hstg := hS.1.2.2.1
  dsimp only [s_tr] at n1 n2 n3 n4 n5 hmin hh hcap hld htr
  refine zC_of (M := M_X8_takesOff) (ls := [some (zR 31), some (zI d), none, none]) (n := 2) (by decide) (fun ad => Nat.le_of_ble_eq_true rfl) rfl (fun x h => ?_)
  have L : ∀ (n : Nat) (i : Int), 0 ≤ i → i ≤ s_nx m (m.2 1 (71 + 8 * d + m.2 32 d)) → s_nx m (m.2 1 (71 + 8 * d + m.2 32 d)) - i < n → m.1 36 < m.2 1 2 → zW x (fun r τ' => r = none ∧ τ' = zo σ 31 (s_to d m)) 38 [some (zR 31), some (zI d), some (zI (m.2 1 (71 + 8 * d + m.2 32 d))), some (zI i)] [] (zo σ 31 m) := by
    intro n
    induction n with
    | zero => intro i h1 h2 h3; omega
    | succ n ih =>
      intro i h1 h2 h3 h4
      have hmi := hmin i h1
      refine z_aloadR_n (pc := 38) h dX8_takesOff_38 rfl ?_
      refine z_getA4 (pc := 39) (c := 8) (j := 21) h (by first | assumption | rfl) rfl rfl fl_X8_30 dX8_takesOff_39 ?_
      refine z_iload_n (pc := 42) h dX8_takesOff_42 rfl ?_
      refine z_ialdq (pc := 43) (c := 8) (j := 21) (L := 40) h (zo_s _ _ _) (by first | assumption | rfl) (by decide) rfl (by decide) (by omega) (by omega) dX8_takesOff_43 (fun g43 => ?_)
      refine z_iload_n (pc := 44) h dX8_takesOff_44 rfl ?_
      refine z_icmp_ne (pc := 45) (tgt := 58) h (by omega) (by omega) dX8_takesOff_45 (by decide) (fun c45 => ?_) (fun c45 => ?_)
      · refine z_inc_3 (pc := 58) h dX8_takesOff_58 (by decide) rfl ?_
        refine z_goto (pc := 61) (tgt := 38) h dX8_takesOff_61 (by decide) ?_
        have z : i ≠ s_nx m (m.2 1 (71 + 8 * d + m.2 32 d)) := by
          intro z
          rw [z] at c45
          first | exact c45 n3 | (rw [z] at c55; exact c55 n4)
        exact ih (i + 1) (by omega) (by omega) (by omega) h4
      · refine z_aloadR_n (pc := 48) h dX8_takesOff_48 rfl ?_
        refine z_getA4 (pc := 49) (c := 8) (j := 23) h (by first | assumption | rfl) rfl rfl fl_X8_36 dX8_takesOff_49 ?_
        refine z_iload_n (pc := 52) h dX8_takesOff_52 rfl ?_
        refine z_ialdq (pc := 53) (c := 8) (j := 23) (L := 40) h (zo_s _ _ _) (by first | assumption | rfl) (by decide) rfl (by decide) (by omega) (by omega) dX8_takesOff_53 (fun g53 => ?_)
        refine z_iconst (pc := 54) h dX8_takesOff_54 ?_
        refine z_icmp_eq (pc := 55) (tgt := 64) h (by omega) (by omega) dX8_takesOff_55 (by decide) (fun c55 => ?_) (fun c55 => ?_)
        · have hi : i = s_nx m (m.2 1 (71 + 8 * d + m.2 32 d)) := by
            rcases Int.lt_or_le i (s_nx m (m.2 1 (71 + 8 * d + m.2 32 d))) with z | z
            · exact absurd ⟨c45, c55⟩ (hmi z)
            · omega
          subst hi
          refine z_aloadR_n (pc := 64) h dX8_takesOff_64 rfl ?_
          refine z_getA4 (pc := 65) (c := 8) (j := 23) h (by first | assumption | rfl) rfl rfl fl_X8_36 dX8_takesOff_65 ?_
          refine z_iload_n (pc := 68) h dX8_takesOff_68 rfl ?_
          refine z_aloadR_n (pc := 69) h dX8_takesOff_69 rfl ?_
          refine z_getIq (pc := 70) (c := 8) (j := 35) h (zo_s _ _ _) (by first | assumption | rfl) rfl rfl fl_X8_208 dX8_takesOff_70 (fun g70 => ?_)
          refine z_iasto (pc := 73) (c := 8) (j := 23) (L := 40) h (by first | assumption | rfl) (by decide) rfl (by decide) (by omega) (by omega) (by omega) dX8_takesOff_73 ?_
          refine z_aloadR_n (pc := 74) h dX8_takesOff_74 rfl ?_
          refine z_dupR (pc := 75) h dX8_takesOff_75 ?_
          refine z_getIq (pc := 76) (c := 8) (j := 36) h (zo_s _ _ _) (by first | assumption | rfl) rfl rfl fl_X8_217 dX8_takesOff_76 (fun g76 => ?_)
          try simp only [osa_1, osa_2, oss_1, oss_2, osA_1, osA_2, zup_s, reduceIte, Nat.reduceEqDiff] at g76 ⊢
          refine z_iconst (pc := 79) h dX8_takesOff_79 ?_
          refine z_iadd (pc := 80) h dX8_takesOff_80 ?_
          refine z_putIo (pc := 81) (c := 8) (j := 36) h (by first | assumption | rfl) rfl rfl fl_X8_217 rfl (tyX8_ok 36 (by decide)) dX8_takesOff_81 (by omega) ?_
          refine z_aloadR_n (pc := 84) h dX8_takesOff_84 rfl ?_
          refine z_getA4 (pc := 85) (c := 8) (j := 29) h (by first | assumption | rfl) rfl rfl fl_X8_54 dX8_takesOff_85 ?_
          refine z_iload_n (pc := 88) h dX8_takesOff_88 rfl ?_
          refine z_dup2AI (pc := 89) h dX8_takesOff_89 ?_
          refine z_ialdq (pc := 90) (c := 8) (j := 29) (L := 8) h (zo_s _ _ _) (by first | assumption | rfl) (by decide) rfl (by decide) (by omega) (by omega) dX8_takesOff_90 (fun g90 => ?_)
          try simp only [osa_1, osa_2, oss_1, oss_2, osA_1, osA_2, zup_s, reduceIte, Nat.reduceEqDiff] at g90 ⊢
          refine z_iconst (pc := 91) h dX8_takesOff_91 ?_
          refine z_iadd (pc := 92) h dX8_takesOff_92 ?_
          refine z_iasto (pc := 93) (c := 8) (j := 29) (L := 8) h (by first | assumption | rfl) (by decide) rfl (by decide) (by omega) (by omega) (by omega) dX8_takesOff_93 ?_
          refine z_aloadR_n (pc := 94) h dX8_takesOff_94 rfl ?_
          refine z_getA4 (pc := 95) (c := 8) (j := 29) h (by first | assumption | rfl) rfl rfl fl_X8_54 dX8_takesOff_95 ?_
          refine z_iload_n (pc := 98) h dX8_takesOff_98 rfl ?_
          refine z_ialdq (pc := 99) (c := 8) (j := 29) (L := 8) h (zo_s _ _ _) (by first | assumption | rfl) (by decide) rfl (by decide) (by omega) (by omega) dX8_takesOff_99 (fun g99 => ?_)
          try simp only [osa_1, osa_2, oss_1, oss_2, osA_1, osA_2, zup_s, reduceIte, Nat.reduceEqDiff] at g99 ⊢
          refine z_aloadR_n (pc := 100) h dX8_takesOff_100 rfl ?_
          refine z_iload_n (pc := 101) h dX8_takesOff_101 rfl ?_
          refine z_pV (pc := 102) (c := 8) h (show zCp M_X8_loadOf 2 [zR 31, zI (s_tr m d)] (zo σ 31 (s_to1 (s_tr m d) (s_nx m (s_tr m d)) m)) (zI (s_load m (s_tr m d))) from m8_loadOf (m := s_to1 (s_tr m d) (s_nx m (s_tr m d)) m) hf.2.2.1) (by decide) (by first | assumption | rfl) rfl mv_X8_loadOf ml_X8_227 rfl dX8_takesOff_102 rfl (Nat.le_of_ble_eq_true rfl) ?_
          refine z_icmp_ne (pc := 105) (tgt := 113) h (by first | omega | (dsimp only [s_tr]; omega)) (by first | omega | (dsimp only [s_tr]; omega)) dX8_takesOff_105 (by decide) (fun c105 => ?_) (fun c105 => ?_)
          · refine z_ret (pc := 113) h rfl dX8_takesOff_113 ?_
            refine ⟨rfl, ?_⟩
            unfold s_to
            rw [if_neg (by omega)]
            first | (rw [if_pos c105]; done) | (rw [if_neg c105]; rfl)
          · refine z_aloadR_n (pc := 108) h dX8_takesOff_108 rfl ?_
            refine z_iload_n (pc := 109) h dX8_takesOff_109 rfl ?_
            refine z_vV (pc := 110) (c := 8) h (show zCv M_X8_leavesNow 2 [zR 31, zI d] (zo σ 31 (s_to1 (s_tr m d) (s_nx m (s_tr m d)) m)) (zo σ 31 (s_lv d (s_to1 (s_tr m d) (s_nx m (s_tr m d)) m))) from m8_leavesNow (m := s_to1 (s_tr m d) (s_nx m (s_tr m d)) m) hf.1 hf.2.1 hf.2.2.1 ⟨hf.2.2.2.2.1, hmn⟩ hf.2.2.2.1) (by decide) (by first | assumption | rfl) rfl mv_X8_leavesNow ml_X8_220 rfl dX8_takesOff_110 rfl (Nat.le_of_ble_eq_true rfl) ?_
            refine z_ret (pc := 113) h rfl dX8_takesOff_113 ?_
            refine ⟨rfl, ?_⟩
            unfold s_to
            rw [if_neg (by omega)]
            first | (rw [if_pos c105]; done) | (rw [if_neg c105]; rfl)
        · refine z_inc_3 (pc := 58) h dX8_takesOff_58 (by decide) rfl ?_
          refine z_goto (pc := 61) (tgt := 38) h dX8_takesOff_61 (by decide) ?_
          have z : i ≠ s_nx m (m.2 1 (71 + 8 * d + m.2 32 d)) := by
            intro z
            rw [z] at c45
            first | exact c45 n3 | (rw [z] at c55; exact c55 n4)
          exact ih (i + 1) (by omega) (by omega) (by omega) h4
  refine z_aloadR_n (pc := 0) h dX8_takesOff_0 rfl ?_
  refine z_iload_n (pc := 1) h dX8_takesOff_1 rfl ?_
  refine z_aloadR_n (pc := 2) h dX8_takesOff_2 rfl ?_
  refine z_getA4 (pc := 3) (c := 8) (j := 32) h (by first | assumption | rfl) rfl rfl fl_X8_63 dX8_takesOff_3 ?_
  refine z_iload_n (pc := 6) h dX8_takesOff_6 rfl ?_
  refine z_ialdq (pc := 7) (c := 8) (j := 32) (L := 6) h (zo_s _ _ _) (by first | assumption | rfl) (by decide) rfl (by decide) (by omega) (by omega) dX8_takesOff_7 (fun g7 => ?_)
  refine z_pV (pc := 8) (c := 8) h (m8_rowAt (by omega) (by omega)) (by decide) (by first | assumption | rfl) rfl mv_X8_rowAt ml_X8_205 rfl dX8_takesOff_8 rfl (Nat.le_of_ble_eq_true rfl) ?_
  refine z_ist_2 (pc := 11) h dX8_takesOff_11 (by decide) rfl ?_
  refine z_aloadR_n (pc := 12) h dX8_takesOff_12 rfl ?_
  refine z_getIq (pc := 13) (c := 8) (j := 36) h (zo_s _ _ _) (by first | assumption | rfl) rfl rfl fl_X8_217 dX8_takesOff_13 (fun g13 => ?_)
  refine z_aloadR_n (pc := 16) h dX8_takesOff_16 rfl ?_
  refine z_getA4 (pc := 17) (c := 8) (j := 1) h (by first | assumption | rfl) rfl rfl fl_X8_7 dX8_takesOff_17 ?_
  refine z_iconst (pc := 20) h dX8_takesOff_20 ?_
  refine z_ialdq (pc := 21) (c := 8) (j := 1) (L := 610) h (zo_s _ _ _) (by first | assumption | rfl) (by decide) rfl (by decide) (by omega) (by omega) dX8_takesOff_21 (fun g21 => ?_)
  refine z_icmp_lt (pc := 22) (tgt := 36) h (by omega) (by omega) dX8_takesOff_22 (by decide) (fun c22 => ?_) (fun c22 => ?_)
  · refine z_iconst (pc := 36) h dX8_takesOff_36 ?_
    refine z_ist_3 (pc := 37) h dX8_takesOff_37 (by decide) rfl ?_
    exact L (s_nx m (m.2 1 (71 + 8 * d + m.2 32 d)) + 1).toNat 0 (by omega) (by omega) (by omega) (by omega)
  · refine z_aloadR_n (pc := 25) h dX8_takesOff_25 rfl ?_
    refine z_dupR (pc := 26) h dX8_takesOff_26 ?_
    refine z_getIq (pc := 27) (c := 8) (j := 39) h (zo_s _ _ _) (by first | assumption | rfl) rfl rfl fl_X8_224 dX8_takesOff_27 (fun g27 => ?_)
    refine z_iconst (pc := 30) h dX8_takesOff_30 ?_
    refine z_iadd (pc := 31) h dX8_takesOff_31 ?_
    refine z_putIo (pc := 32) (c := 8) (j := 39) h (by first | assumption | rfl) rfl rfl fl_X8_224 rfl (tyX8_ok 39 (by decide)) dX8_takesOff_32 (by omega) ?_
    refine z_ret (pc := 35) h rfl dX8_takesOff_35 ?_
    refine ⟨rfl, ?_⟩
    unfold s_to
    rw [if_pos (by omega)]
theorem m8_isLeft {σ : zS} {m : zOb} {z : Int} (hn : 0 ≤ m.1 20 ∧ m.1 20 ≤ 40) (hz : zin z) (hct : ∀ c, 0 ≤ c → c < m.1 20 → 0 ≤ m.2 21 c ∧ m.2 21 c ≤ 7) : zCp M_X8_isLeft 2 [zR 31, zI z] (zo σ 31 m) (zB (s_left m z)) := by
  refine zC_of (M := M_X8_isLeft) (ls := [some (zR 31), some (zI z), none]) (n := 1) (by decide) (fun ad => Nat.le_of_ble_eq_true rfl) rfl (fun x h => ?_)
  have L : ∀ (n : Nat) (i : Int), 0 ≤ i → i ≤ m.1 20 → m.1 20 - i < n → (∀ j, 0 ≤ j → j < i → ¬ (m.2 22 j = z ∧ m.2 24 j = -1 ∧ m.2 30 (m.2 21 j) ≠ -1)) → zW x (fun r τ' => r = some (zB (s_left m z)) ∧ τ' = zo σ 31 m) 2 [some (zR 31), some (zI z), some (zI i)] [] (zo σ 31 m) := by
    intro n
    induction n with
    | zero => intro i h1 h2 h3; omega
    | succ n ih =>
      intro i h1 h2 h3 h4
      refine z_iload_n (pc := 2) h dX8_isLeft_2 rfl ?_
      refine z_aloadR_n (pc := 3) h dX8_isLeft_3 rfl ?_
      refine z_getIq (pc := 4) (c := 8) (j := 20) h (zo_s _ _ _) (by first | assumption | rfl) rfl rfl fl_X8_202 dX8_isLeft_4 (fun g4 => ?_)
      refine z_icmp_ge (pc := 7) (tgt := 53) h (by omega) (by omega) dX8_isLeft_7 (by decide) (fun c7 => ?_) (fun c7 => ?_)
      · refine z_iconst (pc := 53) h dX8_isLeft_53 ?_
        refine z_zret (pc := 54) h rfl (by omega) dX8_isLeft_54 ?_
        refine ⟨congrArg some (zB_f (decide_eq_false ?_)), rfl⟩
        rw [zfst_none (fun j q1 q2 => decide_eq_false (h4 j q1 (by omega)))]
        omega
      · have hci := hct i h1 (by omega)
        refine z_aloadR_n (pc := 10) h dX8_isLeft_10 rfl ?_
        refine z_getA4 (pc := 11) (c := 8) (j := 22) h (by first | assumption | rfl) rfl rfl fl_X8_33 dX8_isLeft_11 ?_
        refine z_iload_n (pc := 14) h dX8_isLeft_14 rfl ?_
        refine z_ialdq (pc := 15) (c := 8) (j := 22) (L := 40) h (zo_s _ _ _) (by first | assumption | rfl) (by decide) rfl (by decide) (by omega) (by omega) dX8_isLeft_15 (fun g15 => ?_)
        refine z_iload_n (pc := 16) h dX8_isLeft_16 rfl ?_
        refine z_icmp_ne (pc := 17) (tgt := 47) h (by omega) (by omega) dX8_isLeft_17 (by decide) (fun c17 => ?_) (fun c17 => ?_)
        · refine z_inc_2 (pc := 47) h dX8_isLeft_47 (by decide) rfl ?_
          refine z_goto (pc := 50) (tgt := 2) h dX8_isLeft_50 (by decide) ?_
          refine ih (i + 1) (by omega) (by omega) (by omega) (fun j q1 q2 => ?_)
          by_cases hj : j = i
          · subst hj; omega
          · exact h4 j q1 (by omega)
        · refine z_aloadR_n (pc := 20) h dX8_isLeft_20 rfl ?_
          refine z_getA4 (pc := 21) (c := 8) (j := 24) h (by first | assumption | rfl) rfl rfl fl_X8_39 dX8_isLeft_21 ?_
          refine z_iload_n (pc := 24) h dX8_isLeft_24 rfl ?_
          refine z_ialdq (pc := 25) (c := 8) (j := 24) (L := 40) h (zo_s _ _ _) (by first | assumption | rfl) (by decide) rfl (by decide) (by omega) (by omega) dX8_isLeft_25 (fun g25 => ?_)
          refine z_iconst (pc := 26) h dX8_isLeft_26 ?_
          refine z_icmp_ne (pc := 27) (tgt := 47) h (by omega) (by omega) dX8_isLeft_27 (by decide) (fun c27 => ?_) (fun c27 => ?_)
          · refine z_inc_2 (pc := 47) h dX8_isLeft_47 (by decide) rfl ?_
            refine z_goto (pc := 50) (tgt := 2) h dX8_isLeft_50 (by decide) ?_
            refine ih (i + 1) (by omega) (by omega) (by omega) (fun j q1 q2 => ?_)
            by_cases hj : j = i
            · subst hj; omega
            · exact h4 j q1 (by omega)
          · refine z_aloadR_n (pc := 30) h dX8_isLeft_30 rfl ?_
            refine z_getA4 (pc := 31) (c := 8) (j := 30) h (by first | assumption | rfl) rfl rfl fl_X8_57 dX8_isLeft_31 ?_
            refine z_aloadR_n (pc := 34) h dX8_isLeft_34 rfl ?_
            refine z_getA4 (pc := 35) (c := 8) (j := 21) h (by first | assumption | rfl) rfl rfl fl_X8_30 dX8_isLeft_35 ?_
            refine z_iload_n (pc := 38) h dX8_isLeft_38 rfl ?_
            refine z_ialdq (pc := 39) (c := 8) (j := 21) (L := 40) h (zo_s _ _ _) (by first | assumption | rfl) (by decide) rfl (by decide) (by omega) (by omega) dX8_isLeft_39 (fun g39 => ?_)
            refine z_ialdq (pc := 40) (c := 8) (j := 30) (L := 8) h (zo_s _ _ _) (by first | assumption | rfl) (by decide) rfl (by decide) (by omega) (by omega) dX8_isLeft_40 (fun g40 => ?_)
            refine z_iconst (pc := 41) h dX8_isLeft_41 ?_
            refine z_icmp_eq (pc := 42) (tgt := 47) h (by omega) (by omega) dX8_isLeft_42 (by decide) (fun c42 => ?_) (fun c42 => ?_)
            · refine z_inc_2 (pc := 47) h dX8_isLeft_47 (by decide) rfl ?_
              refine z_goto (pc := 50) (tgt := 2) h dX8_isLeft_50 (by decide) ?_
              refine ih (i + 1) (by omega) (by omega) (by omega) (fun j q1 q2 => ?_)
              by_cases hj : j = i
              · subst hj; omega
              · exact h4 j q1 (by omega)
            · refine z_iconst (pc := 45) h dX8_isLeft_45 ?_
              refine z_zret (pc := 46) h rfl (by omega) dX8_isLeft_46 ?_
              refine ⟨congrArg some (zB_t (decide_eq_true ?_)), rfl⟩
              rw [zfst_some h1 (by omega) (decide_eq_true ⟨by omega, by omega, by omega⟩) (fun j q1 q2 => decide_eq_false (h4 j q1 q2))]
              omega
  refine z_iconst (pc := 0) h dX8_isLeft_0 ?_
  refine z_ist_2 (pc := 1) h dX8_isLeft_1 (by decide) rfl ?_
  exact L (m.1 20 + 1).toNat 0 (by omega) (by omega) (by omega) (fun j q1 q2 => by omega)
theorem m8_isOver {σ : zS} {m : zOb} (hn : 0 ≤ m.2 1 0 ∧ m.2 1 0 ≤ 6) : zCp M_X8_isOver 2 [zR 31] (zo σ 31 m) (zB (s_over m)) := by
  refine zC_of (M := M_X8_isOver) (ls := [some (zR 31), none]) (n := 1) (by decide) (fun ad => Nat.le_of_ble_eq_true rfl) rfl (fun x h => ?_)
  refine z_rgo (fun hrg => ?_)
  have ha : ∀ n, zin (m.2 1 n) := fun n => hrg.2 1 n
  have L : ∀ (n : Nat) (i : Int), 0 ≤ i → i ≤ m.2 1 0 → m.2 1 0 - i < n → (∀ j, 0 ≤ j → j < i → ¬ (m.2 32 j < m.2 1 (65 + j))) → zW x (fun r τ' => r = some (zB (s_over m)) ∧ τ' = zo σ 31 m) 2 [some (zR 31), some (zI i)] [] (zo σ 31 m) := by
    intro n
    induction n with
    | zero => intro i h1 h2 h3; omega
    | succ n ih =>
      intro i h1 h2 h3 h4
      refine z_iload_n (pc := 2) h dX8_isOver_2 rfl ?_
      refine z_aloadR_n (pc := 3) h dX8_isOver_3 rfl ?_
      refine z_getA4 (pc := 4) (c := 8) (j := 1) h (by first | assumption | rfl) rfl rfl fl_X8_7 dX8_isOver_4 ?_
      refine z_iconst (pc := 7) h dX8_isOver_7 ?_
      refine z_ialdq (pc := 8) (c := 8) (j := 1) (L := 610) h (zo_s _ _ _) (by first | assumption | rfl) (by decide) rfl (by decide) (by omega) (by omega) dX8_isOver_8 (fun g8 => ?_)
      refine z_icmp_ge (pc := 9) (tgt := 34) h (by omega) (by omega) dX8_isOver_9 (by decide) (fun c9 => ?_) (fun c9 => ?_)
      · refine z_iconst (pc := 34) h dX8_isOver_34 ?_
        refine z_zret (pc := 35) h rfl (by omega) dX8_isOver_35 ?_
        refine ⟨congrArg some (zB_t (decide_eq_true ?_)), rfl⟩
        exact zfst_none (fun j q1 q2 => decide_eq_false (h4 j q1 (by omega)))
      · refine z_aloadR_n (pc := 12) h dX8_isOver_12 rfl ?_
        refine z_getA4 (pc := 13) (c := 8) (j := 32) h (by first | assumption | rfl) rfl rfl fl_X8_63 dX8_isOver_13 ?_
        refine z_iload_n (pc := 16) h dX8_isOver_16 rfl ?_
        refine z_ialdq (pc := 17) (c := 8) (j := 32) (L := 6) h (zo_s _ _ _) (by first | assumption | rfl) (by decide) rfl (by decide) (by omega) (by omega) dX8_isOver_17 (fun g17 => ?_)
        refine z_aloadR_n (pc := 18) h dX8_isOver_18 rfl ?_
        refine z_iload_n (pc := 19) h dX8_isOver_19 rfl ?_
        refine z_pV (pc := 20) (c := 8) h (m8_rowMany (by omega)) (by decide) (by first | assumption | rfl) rfl mv_X8_rowMany ml_X8_191 rfl dX8_isOver_20 rfl (Nat.le_of_ble_eq_true rfl) ?_
        refine z_icmp_ge (pc := 23) (tgt := 28) h (by first | omega | exact ha _) (by first | omega | exact ha _) dX8_isOver_23 (by decide) (fun c23 => ?_) (fun c23 => ?_)
        · refine z_inc_1 (pc := 28) h dX8_isOver_28 (by decide) rfl ?_
          refine z_goto (pc := 31) (tgt := 2) h dX8_isOver_31 (by decide) ?_
          refine ih (i + 1) (by omega) (by omega) (by omega) (fun j q1 q2 => ?_)
          by_cases hj : j = i
          · subst hj; omega
          · exact h4 j q1 (by omega)
        · refine z_iconst (pc := 26) h dX8_isOver_26 ?_
          refine z_zret (pc := 27) h rfl (by omega) dX8_isOver_27 ?_
          refine ⟨congrArg some (zB_f (decide_eq_false ?_)), rfl⟩
          rw [zfst_some h1 (by omega) (decide_eq_true (by omega)) (fun j q1 q2 => decide_eq_false (h4 j q1 q2))]
          omega
  refine z_iconst (pc := 0) h dX8_isOver_0 ?_
  refine z_ist_1 (pc := 1) h dX8_isOver_1 (by decide) rfl ?_
  exact L (m.2 1 0 + 1).toNat 0 (by omega) (by omega) (by omega) (fun j q1 q2 => by omega)
