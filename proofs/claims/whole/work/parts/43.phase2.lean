/-! The class's run: what is put on and taken off. -/
theorem c_firstReady {σ : zS} {r p : Nat} {Y m : zOb} {d z : Int} (hu : RUNH r p) (hS : SI m) (hD : DI (-1) m) (hE : DKE (σ 4) (m.2 1)) (hR : RR Y m) (hd0 : 0 ≤ d) (hd1 : d < m.2 1 0) (hst : m.2 33 d = 1) (hk : m.2 1 (5 + 2 * d) = 1) (hz : z = m.2 1 (17 + 6 * m.2 1 (71 + 8 * d + m.2 32 d) + 2)) (hmn : m.1 35 ≤ 199) : zCp M_X5_firstReady 2 [zR r, zI d, zI z, zI (m.1 35)] (zo σ r Y) (zI (s_best m d (m.1 20))) := by
  obtain ⟨hr, hr0, hr1, hp, h4, hpr⟩ := hu
  have hf := run_facts hS hD hd0 hd1 hst
  have htr := tr_ok hS hD hd0 hd1 hst
  dsimp only [s_tr] at htr
  have hz3 : 0 ≤ z ∧ z ≤ 3 := by
    have := ((hS.1.2.2.2.2.2.2.1 _ htr.2.1 htr.2.2.1).2.2.1 (by omega)).1
    omega
  have hcn : (σ 4).1 2 = m.1 20 := by rw [hE.2.2.1, hS.2.2.1]
  have hsp := (hE.2.2.2.2.1 d hd0 hd1).2
  have hspb := (hS.1.2.2.2.2.2.1 d hd0 hd1).2
  refine zC_of (M := M_X5_firstReady) (ls := [some (zR r), some (zI d), some (zI z), some (zI (m.1 35)), none, none, none, none]) (n := 4) (by decide) (fun ad => Nat.le_of_ble_eq_true rfl) rfl (fun x h => ?_)
  have hno : Y.2 13 z = 0 → s_best m d (m.1 20) = -1 := by
    intro e
    have hw := (hR.2.2.2.1 z hz3.1 hz3.2).1
    rw [e] at hw
    rcases s_best_spec m d (n := m.1 20) (by omega) with y | ⟨y1, y2, y3⟩
    · exact y
    · have := zcnt_zero hw.symm _ y1 y2
      unfold s_can at y3
      have y3 := of_decide_eq_true y3
      dsimp only [s_tr] at y3
      exact absurd ⟨y3.1, y3.2.1, by omega⟩ (of_decide_eq_false this)
  have L : ∀ (n : Nat) (i : Int) (a b : Option Value), 0 ≤ i → i ≤ m.1 20 → m.1 20 - i < n → zc1 a = true → zW x (fun rr τ' => rr = some (zI (s_best m d (m.1 20))) ∧ τ' = zo σ r Y) 19 [some (zR r), some (zI d), some (zI z), some (zI (m.1 35)), some (zI (s_best m d i)), some (zI i), a, b] [] (zo σ r Y) := by
    intro n
    induction n with
    | zero => intro i a b h1 h2 h3; omega
    | succ n ih =>
      intro i a b h1 h2 h3 hca
      have hbs := s_best_spec m d (n := i) h1
      have hb5 : s_best m d i ≠ -1 → Y.2 5 (s_best m d i) = m.2 23 (s_best m d i) := fun q => by
        rcases hbs with y | y
        · exact absurd y q
        · exact (hR.2.1 _ y.1 (by omega)).1
      have hih := fun a b => ih (i + 1) a b (by omega)
      simp only [s_best_S _ _ h1] at hih
      refine z_iload (pc := 19) h dX5_firstReady_19 rfl ?_
      refine z_aloadR_n (pc := 21) h dX5_firstReady_21 rfl ?_
      refine z_getR (pc := 22) (c := 5) (j := 0) h (by first | assumption | rfl) (by first | assumption | rfl) rfl rfl fl_X5_51 dX5_firstReady_22 ?_
      refine z_getIq (pc := 25) (c := 1) (j := 2) h (zo_n h4) (by first | assumption | rfl) rfl rfl fl_X5_101 dX5_firstReady_25 (fun g25 => ?_)
      refine z_icmp_ge (pc := 28) (tgt := 151) h (by omega) (by omega) dX5_firstReady_28 (by decide) (fun c28 => ?_) (fun c28 => ?_)
      · refine z_iload (pc := 151) h dX5_firstReady_151 rfl ?_
        refine z_iret (pc := 153) h rfl dX5_firstReady_153 ?_
        have e : i = m.1 20 := by omega
        subst e
        exact ⟨rfl, rfl⟩
      · obtain ⟨q5, q6, q7, q8, q9⟩ := hR.2.1 i h1 (by omega)
        have henv := env_c hS hE h1 (by omega : i < m.1 20)
        have hdc := (hD.2.2.2.2.2.2.1 i h1 (by omega)).1
        refine z_aloadR_n (pc := 31) h dX5_firstReady_31 rfl ?_
        refine z_getR (pc := 32) (c := 5) (j := 0) h (by first | assumption | rfl) (by first | assumption | rfl) rfl rfl fl_X5_51 dX5_firstReady_32 ?_
        refine z_getA4 (pc := 35) (c := 1) (j := 15) h (by first | assumption | rfl) rfl rfl fl_X5_134 dX5_firstReady_35 ?_
        refine z_iload (pc := 38) h dX5_firstReady_38 rfl ?_
        refine z_ialdq (pc := 40) (c := 1) (j := 15) (L := 40) h (zo_n h4) (by first | assumption | rfl) (by decide) rfl (by decide) (by omega) (by omega) dX5_firstReady_40 (fun g40 => ?_)
        refine z_iload_n (pc := 41) h dX5_firstReady_41 rfl ?_
        refine z_icmp_ne (pc := 42) (tgt := 71) h (by omega) (by omega) dX5_firstReady_42 (by decide) (fun c42 => ?_) (fun c42 => ?_)
        · refine z_iconst (pc := 71) h dX5_firstReady_71 ?_
          refine z_ist_6 (pc := 72) h dX5_firstReady_72 (by decide) rfl ?_
          refine z_iload (pc := 74) h dX5_firstReady_74 rfl ?_
          refine z_if_eq (pc := 76) (tgt := 145) h (by omega) dX5_firstReady_76 (by decide) (fun c76 => ?_) (fun c76 => ?_)
          · refine z_inc_5 (pc := 145) h dX5_firstReady_145 (by decide) rfl ?_
            refine z_goto (pc := 148) (tgt := 19) h dX5_firstReady_148 (by decide) ?_
            have hcn1 : s_can m d i = decide (m.2 23 i ≠ -1 ∧ m.2 24 i = -1 ∧ m.2 22 i = m.2 1 (17 + 6 * m.2 1 (71 + 8 * d + m.2 32 d) + 2) ∧ (if s_way m i d < 1 then 1 else s_way m i d) ≤ m.1 35 - m.2 23 i) := rfl
            rw [hcn1] at hih
            first
            | (simp only [if_pos (show decide (m.2 23 i ≠ -1 ∧ m.2 24 i = -1 ∧ m.2 22 i = m.2 1 (17 + 6 * m.2 1 (71 + 8 * d + m.2 32 d) + 2) ∧ (if s_way m i d < 1 then 1 else s_way m i d) ≤ m.1 35 - m.2 23 i) = true ∧ (s_best m d i = -1 ∨ m.2 23 i < m.2 23 (s_best m d i)) from ⟨decide_eq_true ⟨by omega, by omega, by omega, by rw [q5] at c138; exact c138⟩, by omega⟩)] at hih
               exact hih _ _ (by omega) (by omega) rfl)
            | (simp only [if_neg (show ¬ (decide (m.2 23 i ≠ -1 ∧ m.2 24 i = -1 ∧ m.2 22 i = m.2 1 (17 + 6 * m.2 1 (71 + 8 * d + m.2 32 d) + 2) ∧ (if s_way m i d < 1 then 1 else s_way m i d) ≤ m.1 35 - m.2 23 i) = true ∧ (s_best m d i = -1 ∨ m.2 23 i < m.2 23 (s_best m d i))) from fun y => by have y2 := y.2; omega)] at hih
               exact hih _ _ (by omega) (by omega) rfl)
            | (simp only [if_neg (show ¬ (decide (m.2 23 i ≠ -1 ∧ m.2 24 i = -1 ∧ m.2 22 i = m.2 1 (17 + 6 * m.2 1 (71 + 8 * d + m.2 32 d) + 2) ∧ (if s_way m i d < 1 then 1 else s_way m i d) ≤ m.1 35 - m.2 23 i) = true ∧ (s_best m d i = -1 ∨ m.2 23 i < m.2 23 (s_best m d i))) from fun y => by have y3 := of_decide_eq_true y.1; have z1 := y3.1; have z2 := y3.2.1; have z3 := y3.2.2.1; omega)] at hih
               exact hih _ _ (by omega) (by omega) rfl)
            | (simp only [if_neg (show ¬ (decide (m.2 23 i ≠ -1 ∧ m.2 24 i = -1 ∧ m.2 22 i = m.2 1 (17 + 6 * m.2 1 (71 + 8 * d + m.2 32 d) + 2) ∧ (if s_way m i d < 1 then 1 else s_way m i d) ≤ m.1 35 - m.2 23 i) = true ∧ (s_best m d i = -1 ∨ m.2 23 i < m.2 23 (s_best m d i))) from fun y => by have y3 := (of_decide_eq_true y.1).2.2.2; rw [q5] at c138; exact absurd y3 (Int.not_le.mpr c138))] at hih
               exact hih _ _ (by omega) (by omega) rfl)
          · exact absurd c76 (by decide)
        · refine z_aloadR_n (pc := 45) h dX5_firstReady_45 rfl ?_
          refine z_getA4 (pc := 46) (c := 5) (j := 5) h (by first | assumption | rfl) rfl rfl fl_X5_21 dX5_firstReady_46 ?_
          refine z_iload (pc := 49) h dX5_firstReady_49 rfl ?_
          refine z_ialdq (pc := 51) (c := 5) (j := 5) (L := 40) h (zo_s _ _ _) (by first | assumption | rfl) (by decide) rfl (by decide) (by omega) (by omega) dX5_firstReady_51 (fun g51 => ?_)
          refine z_iconst (pc := 52) h dX5_firstReady_52 ?_
          refine z_icmp_eq (pc := 53) (tgt := 71) h (by omega) (by omega) dX5_firstReady_53 (by decide) (fun c53 => ?_) (fun c53 => ?_)
          · refine z_iconst (pc := 71) h dX5_firstReady_71 ?_
            refine z_ist_6 (pc := 72) h dX5_firstReady_72 (by decide) rfl ?_
            refine z_iload (pc := 74) h dX5_firstReady_74 rfl ?_
            refine z_if_eq (pc := 76) (tgt := 145) h (by omega) dX5_firstReady_76 (by decide) (fun c76 => ?_) (fun c76 => ?_)
            · refine z_inc_5 (pc := 145) h dX5_firstReady_145 (by decide) rfl ?_
              refine z_goto (pc := 148) (tgt := 19) h dX5_firstReady_148 (by decide) ?_
              have hcn1 : s_can m d i = decide (m.2 23 i ≠ -1 ∧ m.2 24 i = -1 ∧ m.2 22 i = m.2 1 (17 + 6 * m.2 1 (71 + 8 * d + m.2 32 d) + 2) ∧ (if s_way m i d < 1 then 1 else s_way m i d) ≤ m.1 35 - m.2 23 i) := rfl
              rw [hcn1] at hih
              first
              | (simp only [if_pos (show decide (m.2 23 i ≠ -1 ∧ m.2 24 i = -1 ∧ m.2 22 i = m.2 1 (17 + 6 * m.2 1 (71 + 8 * d + m.2 32 d) + 2) ∧ (if s_way m i d < 1 then 1 else s_way m i d) ≤ m.1 35 - m.2 23 i) = true ∧ (s_best m d i = -1 ∨ m.2 23 i < m.2 23 (s_best m d i)) from ⟨decide_eq_true ⟨by omega, by omega, by omega, by rw [q5] at c138; exact c138⟩, by omega⟩)] at hih
                 exact hih _ _ (by omega) (by omega) rfl)
              | (simp only [if_neg (show ¬ (decide (m.2 23 i ≠ -1 ∧ m.2 24 i = -1 ∧ m.2 22 i = m.2 1 (17 + 6 * m.2 1 (71 + 8 * d + m.2 32 d) + 2) ∧ (if s_way m i d < 1 then 1 else s_way m i d) ≤ m.1 35 - m.2 23 i) = true ∧ (s_best m d i = -1 ∨ m.2 23 i < m.2 23 (s_best m d i))) from fun y => by have y2 := y.2; omega)] at hih
                 exact hih _ _ (by omega) (by omega) rfl)
              | (simp only [if_neg (show ¬ (decide (m.2 23 i ≠ -1 ∧ m.2 24 i = -1 ∧ m.2 22 i = m.2 1 (17 + 6 * m.2 1 (71 + 8 * d + m.2 32 d) + 2) ∧ (if s_way m i d < 1 then 1 else s_way m i d) ≤ m.1 35 - m.2 23 i) = true ∧ (s_best m d i = -1 ∨ m.2 23 i < m.2 23 (s_best m d i))) from fun y => by have y3 := of_decide_eq_true y.1; have z1 := y3.1; have z2 := y3.2.1; have z3 := y3.2.2.1; omega)] at hih
                 exact hih _ _ (by omega) (by omega) rfl)
              | (simp only [if_neg (show ¬ (decide (m.2 23 i ≠ -1 ∧ m.2 24 i = -1 ∧ m.2 22 i = m.2 1 (17 + 6 * m.2 1 (71 + 8 * d + m.2 32 d) + 2) ∧ (if s_way m i d < 1 then 1 else s_way m i d) ≤ m.1 35 - m.2 23 i) = true ∧ (s_best m d i = -1 ∨ m.2 23 i < m.2 23 (s_best m d i))) from fun y => by have y3 := (of_decide_eq_true y.1).2.2.2; rw [q5] at c138; exact absurd y3 (Int.not_le.mpr c138))] at hih
                 exact hih _ _ (by omega) (by omega) rfl)
            · exact absurd c76 (by decide)
          · refine z_aloadR_n (pc := 56) h dX5_firstReady_56 rfl ?_
            refine z_getA4 (pc := 57) (c := 5) (j := 6) h (by first | assumption | rfl) rfl rfl fl_X5_24 dX5_firstReady_57 ?_
            refine z_iload (pc := 60) h dX5_firstReady_60 rfl ?_
            refine z_ialdq (pc := 62) (c := 5) (j := 6) (L := 40) h (zo_s _ _ _) (by first | assumption | rfl) (by decide) rfl (by decide) (by omega) (by omega) dX5_firstReady_62 (fun g62 => ?_)
            refine z_iconst (pc := 63) h dX5_firstReady_63 ?_
            refine z_icmp_ne (pc := 64) (tgt := 71) h (by omega) (by omega) dX5_firstReady_64 (by decide) (fun c64 => ?_) (fun c64 => ?_)
            · refine z_iconst (pc := 71) h dX5_firstReady_71 ?_
              refine z_ist_6 (pc := 72) h dX5_firstReady_72 (by decide) rfl ?_
              refine z_iload (pc := 74) h dX5_firstReady_74 rfl ?_
              refine z_if_eq (pc := 76) (tgt := 145) h (by omega) dX5_firstReady_76 (by decide) (fun c76 => ?_) (fun c76 => ?_)
              · refine z_inc_5 (pc := 145) h dX5_firstReady_145 (by decide) rfl ?_
                refine z_goto (pc := 148) (tgt := 19) h dX5_firstReady_148 (by decide) ?_
                have hcn1 : s_can m d i = decide (m.2 23 i ≠ -1 ∧ m.2 24 i = -1 ∧ m.2 22 i = m.2 1 (17 + 6 * m.2 1 (71 + 8 * d + m.2 32 d) + 2) ∧ (if s_way m i d < 1 then 1 else s_way m i d) ≤ m.1 35 - m.2 23 i) := rfl
                rw [hcn1] at hih
                first
                | (simp only [if_pos (show decide (m.2 23 i ≠ -1 ∧ m.2 24 i = -1 ∧ m.2 22 i = m.2 1 (17 + 6 * m.2 1 (71 + 8 * d + m.2 32 d) + 2) ∧ (if s_way m i d < 1 then 1 else s_way m i d) ≤ m.1 35 - m.2 23 i) = true ∧ (s_best m d i = -1 ∨ m.2 23 i < m.2 23 (s_best m d i)) from ⟨decide_eq_true ⟨by omega, by omega, by omega, by rw [q5] at c138; exact c138⟩, by omega⟩)] at hih
                   exact hih _ _ (by omega) (by omega) rfl)
                | (simp only [if_neg (show ¬ (decide (m.2 23 i ≠ -1 ∧ m.2 24 i = -1 ∧ m.2 22 i = m.2 1 (17 + 6 * m.2 1 (71 + 8 * d + m.2 32 d) + 2) ∧ (if s_way m i d < 1 then 1 else s_way m i d) ≤ m.1 35 - m.2 23 i) = true ∧ (s_best m d i = -1 ∨ m.2 23 i < m.2 23 (s_best m d i))) from fun y => by have y2 := y.2; omega)] at hih
                   exact hih _ _ (by omega) (by omega) rfl)
                | (simp only [if_neg (show ¬ (decide (m.2 23 i ≠ -1 ∧ m.2 24 i = -1 ∧ m.2 22 i = m.2 1 (17 + 6 * m.2 1 (71 + 8 * d + m.2 32 d) + 2) ∧ (if s_way m i d < 1 then 1 else s_way m i d) ≤ m.1 35 - m.2 23 i) = true ∧ (s_best m d i = -1 ∨ m.2 23 i < m.2 23 (s_best m d i))) from fun y => by have y3 := of_decide_eq_true y.1; have z1 := y3.1; have z2 := y3.2.1; have z3 := y3.2.2.1; omega)] at hih
                   exact hih _ _ (by omega) (by omega) rfl)
                | (simp only [if_neg (show ¬ (decide (m.2 23 i ≠ -1 ∧ m.2 24 i = -1 ∧ m.2 22 i = m.2 1 (17 + 6 * m.2 1 (71 + 8 * d + m.2 32 d) + 2) ∧ (if s_way m i d < 1 then 1 else s_way m i d) ≤ m.1 35 - m.2 23 i) = true ∧ (s_best m d i = -1 ∨ m.2 23 i < m.2 23 (s_best m d i))) from fun y => by have y3 := (of_decide_eq_true y.1).2.2.2; rw [q5] at c138; exact absurd y3 (Int.not_le.mpr c138))] at hih
                   exact hih _ _ (by omega) (by omega) rfl)
              · exact absurd c76 (by decide)
            · refine z_iconst (pc := 67) h dX5_firstReady_67 ?_
              refine z_goto (pc := 68) (tgt := 72) h dX5_firstReady_68 (by decide) ?_
              refine z_ist_6 (pc := 72) h dX5_firstReady_72 (by decide) rfl ?_
              refine z_iload (pc := 74) h dX5_firstReady_74 rfl ?_
              refine z_if_eq (pc := 76) (tgt := 145) h (by omega) dX5_firstReady_76 (by decide) (fun c76 => ?_) (fun c76 => ?_)
              · exact absurd c76 (by decide)
              · refine z_iload (pc := 79) h dX5_firstReady_79 rfl ?_
                refine z_iconst (pc := 81) h dX5_firstReady_81 ?_
                refine z_icmp_eq (pc := 82) (tgt := 102) h (by omega) (by omega) dX5_firstReady_82 (by decide) (fun c82 => ?_) (fun c82 => ?_)
                · have hq9 := q9 (by omega)
                  have hdf := door_facts hS hD hd0 hd1 h1 (by omega : i < m.1 20) (by omega)
                  have hsw := s_way_b hS hd0 hd1 h1 (by omega : i < m.1 20) ((hD.2.2.2.2.2.2.1 i h1 (by omega)).2.2.1 (by omega))
                  have hw : zway (Y.2 9 i) ((σ 4).2 6 d) = s_way m i d := by rw [hq9, hsp]; rfl
                  refine z_aloadR_n (pc := 102) h dX5_firstReady_102 rfl ?_
                  refine z_getA4 (pc := 103) (c := 5) (j := 9) h (by first | assumption | rfl) rfl rfl fl_X5_33 dX5_firstReady_103 ?_
                  refine z_iload (pc := 106) h dX5_firstReady_106 rfl ?_
                  refine z_ialdq (pc := 108) (c := 5) (j := 9) (L := 40) h (zo_s _ _ _) (by first | assumption | rfl) (by decide) rfl (by decide) (by omega) (by omega) dX5_firstReady_108 (fun g108 => ?_)
                  refine z_aloadR_n (pc := 109) h dX5_firstReady_109 rfl ?_
                  refine z_getR (pc := 110) (c := 5) (j := 0) h (by first | assumption | rfl) (by first | assumption | rfl) rfl rfl fl_X5_51 dX5_firstReady_110 ?_
                  refine z_getA4 (pc := 113) (c := 1) (j := 6) h (by first | assumption | rfl) rfl rfl fl_X5_171 dX5_firstReady_113 ?_
                  refine z_iload_n (pc := 116) h dX5_firstReady_116 rfl ?_
                  refine z_ialdq (pc := 117) (c := 1) (j := 6) (L := 6) h (zo_n h4) (by first | assumption | rfl) (by decide) rfl (by decide) (by omega) (by omega) dX5_firstReady_117 (fun g117 => ?_)
                  refine z_pS (pc := 118) h (show zCp M_X1_wayBetween 1 [zI (Y.2 9 i), zI ((σ 4).2 6 d)] (zo σ r Y) (zI (s_way m i d)) from by rw [← hw]; exact m_X1_wayBetween (by omega) (by omega)) (by decide) ms_X1_wayBetween ml_X5_174 rfl dX5_firstReady_118 rfl (Nat.le_of_ble_eq_true rfl) ?_
                  refine z_ist_7 (pc := 121) h dX5_firstReady_121 (by decide) rfl ?_
                  refine z_iload_n (pc := 123) h dX5_firstReady_123 rfl ?_
                  refine z_aloadR_n (pc := 124) h dX5_firstReady_124 rfl ?_
                  refine z_getA4 (pc := 125) (c := 5) (j := 5) h (by first | assumption | rfl) rfl rfl fl_X5_21 dX5_firstReady_125 ?_
                  refine z_iload (pc := 128) h dX5_firstReady_128 rfl ?_
                  refine z_ialdq (pc := 130) (c := 5) (j := 5) (L := 40) h (zo_s _ _ _) (by first | assumption | rfl) (by decide) rfl (by decide) (by omega) (by omega) dX5_firstReady_130 (fun g130 => ?_)
                  refine z_isub (pc := 131) h dX5_firstReady_131 ?_
                  refine z_iload (pc := 132) h dX5_firstReady_132 rfl ?_
                  refine z_iconst (pc := 134) h dX5_firstReady_134 ?_
                  refine z_max (pc := 135) h (by omega) (by omega) (by decide) ml_X5_177 dX5_firstReady_135 (Nat.le_of_ble_eq_true rfl) ?_
                  refine z_icmp_lt (pc := 138) (tgt := 145) h (by first | omega | (split <;> omega)) (by first | omega | (split <;> omega)) dX5_firstReady_138 (by decide) (fun c138 => ?_) (fun c138 => ?_)
                  · refine z_inc_5 (pc := 145) h dX5_firstReady_145 (by decide) rfl ?_
                    refine z_goto (pc := 148) (tgt := 19) h dX5_firstReady_148 (by decide) ?_
                    have hcn1 : s_can m d i = decide (m.2 23 i ≠ -1 ∧ m.2 24 i = -1 ∧ m.2 22 i = m.2 1 (17 + 6 * m.2 1 (71 + 8 * d + m.2 32 d) + 2) ∧ (if s_way m i d < 1 then 1 else s_way m i d) ≤ m.1 35 - m.2 23 i) := rfl
                    rw [hcn1] at hih
                    first
                    | (simp only [if_pos (show decide (m.2 23 i ≠ -1 ∧ m.2 24 i = -1 ∧ m.2 22 i = m.2 1 (17 + 6 * m.2 1 (71 + 8 * d + m.2 32 d) + 2) ∧ (if s_way m i d < 1 then 1 else s_way m i d) ≤ m.1 35 - m.2 23 i) = true ∧ (s_best m d i = -1 ∨ m.2 23 i < m.2 23 (s_best m d i)) from ⟨decide_eq_true ⟨by omega, by omega, by omega, by rw [q5] at c138; exact c138⟩, by omega⟩)] at hih
                       exact hih _ _ (by omega) (by omega) rfl)
                    | (simp only [if_neg (show ¬ (decide (m.2 23 i ≠ -1 ∧ m.2 24 i = -1 ∧ m.2 22 i = m.2 1 (17 + 6 * m.2 1 (71 + 8 * d + m.2 32 d) + 2) ∧ (if s_way m i d < 1 then 1 else s_way m i d) ≤ m.1 35 - m.2 23 i) = true ∧ (s_best m d i = -1 ∨ m.2 23 i < m.2 23 (s_best m d i))) from fun y => by have y2 := y.2; omega)] at hih
                       exact hih _ _ (by omega) (by omega) rfl)
                    | (simp only [if_neg (show ¬ (decide (m.2 23 i ≠ -1 ∧ m.2 24 i = -1 ∧ m.2 22 i = m.2 1 (17 + 6 * m.2 1 (71 + 8 * d + m.2 32 d) + 2) ∧ (if s_way m i d < 1 then 1 else s_way m i d) ≤ m.1 35 - m.2 23 i) = true ∧ (s_best m d i = -1 ∨ m.2 23 i < m.2 23 (s_best m d i))) from fun y => by have y3 := of_decide_eq_true y.1; have z1 := y3.1; have z2 := y3.2.1; have z3 := y3.2.2.1; omega)] at hih
                       exact hih _ _ (by omega) (by omega) rfl)
                    | (simp only [if_neg (show ¬ (decide (m.2 23 i ≠ -1 ∧ m.2 24 i = -1 ∧ m.2 22 i = m.2 1 (17 + 6 * m.2 1 (71 + 8 * d + m.2 32 d) + 2) ∧ (if s_way m i d < 1 then 1 else s_way m i d) ≤ m.1 35 - m.2 23 i) = true ∧ (s_best m d i = -1 ∨ m.2 23 i < m.2 23 (s_best m d i))) from fun y => by have y3 := (of_decide_eq_true y.1).2.2.2; rw [q5] at c138; exact absurd y3 (Int.not_le.mpr c138))] at hih
                       exact hih _ _ (by omega) (by omega) rfl)
                  · refine z_iload (pc := 141) h dX5_firstReady_141 rfl ?_
                    refine z_ist_4 (pc := 143) h dX5_firstReady_143 (by decide) rfl ?_
                    refine z_inc_5 (pc := 145) h dX5_firstReady_145 (by decide) rfl ?_
                    refine z_goto (pc := 148) (tgt := 19) h dX5_firstReady_148 (by decide) ?_
                    have hcn1 : s_can m d i = decide (m.2 23 i ≠ -1 ∧ m.2 24 i = -1 ∧ m.2 22 i = m.2 1 (17 + 6 * m.2 1 (71 + 8 * d + m.2 32 d) + 2) ∧ (if s_way m i d < 1 then 1 else s_way m i d) ≤ m.1 35 - m.2 23 i) := rfl
                    rw [hcn1] at hih
                    first
                    | (simp only [if_pos (show decide (m.2 23 i ≠ -1 ∧ m.2 24 i = -1 ∧ m.2 22 i = m.2 1 (17 + 6 * m.2 1 (71 + 8 * d + m.2 32 d) + 2) ∧ (if s_way m i d < 1 then 1 else s_way m i d) ≤ m.1 35 - m.2 23 i) = true ∧ (s_best m d i = -1 ∨ m.2 23 i < m.2 23 (s_best m d i)) from ⟨decide_eq_true ⟨by omega, by omega, by omega, by rw [q5] at c138; exact c138⟩, by omega⟩)] at hih
                       exact hih _ _ (by omega) (by omega) rfl)
                    | (simp only [if_neg (show ¬ (decide (m.2 23 i ≠ -1 ∧ m.2 24 i = -1 ∧ m.2 22 i = m.2 1 (17 + 6 * m.2 1 (71 + 8 * d + m.2 32 d) + 2) ∧ (if s_way m i d < 1 then 1 else s_way m i d) ≤ m.1 35 - m.2 23 i) = true ∧ (s_best m d i = -1 ∨ m.2 23 i < m.2 23 (s_best m d i))) from fun y => by have y2 := y.2; omega)] at hih
                       exact hih _ _ (by omega) (by omega) rfl)
                    | (simp only [if_neg (show ¬ (decide (m.2 23 i ≠ -1 ∧ m.2 24 i = -1 ∧ m.2 22 i = m.2 1 (17 + 6 * m.2 1 (71 + 8 * d + m.2 32 d) + 2) ∧ (if s_way m i d < 1 then 1 else s_way m i d) ≤ m.1 35 - m.2 23 i) = true ∧ (s_best m d i = -1 ∨ m.2 23 i < m.2 23 (s_best m d i))) from fun y => by have y3 := of_decide_eq_true y.1; have z1 := y3.1; have z2 := y3.2.1; have z3 := y3.2.2.1; omega)] at hih
                       exact hih _ _ (by omega) (by omega) rfl)
                    | (simp only [if_neg (show ¬ (decide (m.2 23 i ≠ -1 ∧ m.2 24 i = -1 ∧ m.2 22 i = m.2 1 (17 + 6 * m.2 1 (71 + 8 * d + m.2 32 d) + 2) ∧ (if s_way m i d < 1 then 1 else s_way m i d) ≤ m.1 35 - m.2 23 i) = true ∧ (s_best m d i = -1 ∨ m.2 23 i < m.2 23 (s_best m d i))) from fun y => by have y3 := (of_decide_eq_true y.1).2.2.2; rw [q5] at c138; exact absurd y3 (Int.not_le.mpr c138))] at hih
                       exact hih _ _ (by omega) (by omega) rfl)
                · have hb5 := hb5 c82
                  refine z_aloadR_n (pc := 85) h dX5_firstReady_85 rfl ?_
                  refine z_getA4 (pc := 86) (c := 5) (j := 5) h (by first | assumption | rfl) rfl rfl fl_X5_21 dX5_firstReady_86 ?_
                  refine z_iload (pc := 89) h dX5_firstReady_89 rfl ?_
                  refine z_ialdq (pc := 91) (c := 5) (j := 5) (L := 40) h (zo_s _ _ _) (by first | assumption | rfl) (by decide) rfl (by decide) (by omega) (by omega) dX5_firstReady_91 (fun g91 => ?_)
                  refine z_aloadR_n (pc := 92) h dX5_firstReady_92 rfl ?_
                  refine z_getA4 (pc := 93) (c := 5) (j := 5) h (by first | assumption | rfl) rfl rfl fl_X5_21 dX5_firstReady_93 ?_
                  refine z_iload (pc := 96) h dX5_firstReady_96 rfl ?_
                  refine z_ialdq (pc := 98) (c := 5) (j := 5) (L := 40) h (zo_s _ _ _) (by first | assumption | rfl) (by decide) rfl (by decide) (by omega) (by omega) dX5_firstReady_98 (fun g98 => ?_)
                  refine z_icmp_ge (pc := 99) (tgt := 145) h (by omega) (by omega) dX5_firstReady_99 (by decide) (fun c99 => ?_) (fun c99 => ?_)
                  · refine z_inc_5 (pc := 145) h dX5_firstReady_145 (by decide) rfl ?_
                    refine z_goto (pc := 148) (tgt := 19) h dX5_firstReady_148 (by decide) ?_
                    have hcn1 : s_can m d i = decide (m.2 23 i ≠ -1 ∧ m.2 24 i = -1 ∧ m.2 22 i = m.2 1 (17 + 6 * m.2 1 (71 + 8 * d + m.2 32 d) + 2) ∧ (if s_way m i d < 1 then 1 else s_way m i d) ≤ m.1 35 - m.2 23 i) := rfl
                    rw [hcn1] at hih
                    first
                    | (simp only [if_pos (show decide (m.2 23 i ≠ -1 ∧ m.2 24 i = -1 ∧ m.2 22 i = m.2 1 (17 + 6 * m.2 1 (71 + 8 * d + m.2 32 d) + 2) ∧ (if s_way m i d < 1 then 1 else s_way m i d) ≤ m.1 35 - m.2 23 i) = true ∧ (s_best m d i = -1 ∨ m.2 23 i < m.2 23 (s_best m d i)) from ⟨decide_eq_true ⟨by omega, by omega, by omega, by rw [q5] at c138; exact c138⟩, by omega⟩)] at hih
                       exact hih _ _ (by omega) (by omega) rfl)
                    | (simp only [if_neg (show ¬ (decide (m.2 23 i ≠ -1 ∧ m.2 24 i = -1 ∧ m.2 22 i = m.2 1 (17 + 6 * m.2 1 (71 + 8 * d + m.2 32 d) + 2) ∧ (if s_way m i d < 1 then 1 else s_way m i d) ≤ m.1 35 - m.2 23 i) = true ∧ (s_best m d i = -1 ∨ m.2 23 i < m.2 23 (s_best m d i))) from fun y => by have y2 := y.2; omega)] at hih
                       exact hih _ _ (by omega) (by omega) rfl)
                    | (simp only [if_neg (show ¬ (decide (m.2 23 i ≠ -1 ∧ m.2 24 i = -1 ∧ m.2 22 i = m.2 1 (17 + 6 * m.2 1 (71 + 8 * d + m.2 32 d) + 2) ∧ (if s_way m i d < 1 then 1 else s_way m i d) ≤ m.1 35 - m.2 23 i) = true ∧ (s_best m d i = -1 ∨ m.2 23 i < m.2 23 (s_best m d i))) from fun y => by have y3 := of_decide_eq_true y.1; have z1 := y3.1; have z2 := y3.2.1; have z3 := y3.2.2.1; omega)] at hih
                       exact hih _ _ (by omega) (by omega) rfl)
                    | (simp only [if_neg (show ¬ (decide (m.2 23 i ≠ -1 ∧ m.2 24 i = -1 ∧ m.2 22 i = m.2 1 (17 + 6 * m.2 1 (71 + 8 * d + m.2 32 d) + 2) ∧ (if s_way m i d < 1 then 1 else s_way m i d) ≤ m.1 35 - m.2 23 i) = true ∧ (s_best m d i = -1 ∨ m.2 23 i < m.2 23 (s_best m d i))) from fun y => by have y3 := (of_decide_eq_true y.1).2.2.2; rw [q5] at c138; exact absurd y3 (Int.not_le.mpr c138))] at hih
                       exact hih _ _ (by omega) (by omega) rfl)
                  · have hq9 := q9 (by omega)
                    have hdf := door_facts hS hD hd0 hd1 h1 (by omega : i < m.1 20) (by omega)
                    have hsw := s_way_b hS hd0 hd1 h1 (by omega : i < m.1 20) ((hD.2.2.2.2.2.2.1 i h1 (by omega)).2.2.1 (by omega))
                    have hw : zway (Y.2 9 i) ((σ 4).2 6 d) = s_way m i d := by rw [hq9, hsp]; rfl
                    refine z_aloadR_n (pc := 102) h dX5_firstReady_102 rfl ?_
                    refine z_getA4 (pc := 103) (c := 5) (j := 9) h (by first | assumption | rfl) rfl rfl fl_X5_33 dX5_firstReady_103 ?_
                    refine z_iload (pc := 106) h dX5_firstReady_106 rfl ?_
                    refine z_ialdq (pc := 108) (c := 5) (j := 9) (L := 40) h (zo_s _ _ _) (by first | assumption | rfl) (by decide) rfl (by decide) (by omega) (by omega) dX5_firstReady_108 (fun g108 => ?_)
                    refine z_aloadR_n (pc := 109) h dX5_firstReady_109 rfl ?_
                    refine z_getR (pc := 110) (c := 5) (j := 0) h (by first | assumption | rfl) (by first | assumption | rfl) rfl rfl fl_X5_51 dX5_firstReady_110 ?_
                    refine z_getA4 (pc := 113) (c := 1) (j := 6) h (by first | assumption | rfl) rfl rfl fl_X5_171 dX5_firstReady_113 ?_
                    refine z_iload_n (pc := 116) h dX5_firstReady_116 rfl ?_
                    refine z_ialdq (pc := 117) (c := 1) (j := 6) (L := 6) h (zo_n h4) (by first | assumption | rfl) (by decide) rfl (by decide) (by omega) (by omega) dX5_firstReady_117 (fun g117 => ?_)
                    refine z_pS (pc := 118) h (show zCp M_X1_wayBetween 1 [zI (Y.2 9 i), zI ((σ 4).2 6 d)] (zo σ r Y) (zI (s_way m i d)) from by rw [← hw]; exact m_X1_wayBetween (by omega) (by omega)) (by decide) ms_X1_wayBetween ml_X5_174 rfl dX5_firstReady_118 rfl (Nat.le_of_ble_eq_true rfl) ?_
                    refine z_ist_7 (pc := 121) h dX5_firstReady_121 (by decide) rfl ?_
                    refine z_iload_n (pc := 123) h dX5_firstReady_123 rfl ?_
                    refine z_aloadR_n (pc := 124) h dX5_firstReady_124 rfl ?_
                    refine z_getA4 (pc := 125) (c := 5) (j := 5) h (by first | assumption | rfl) rfl rfl fl_X5_21 dX5_firstReady_125 ?_
                    refine z_iload (pc := 128) h dX5_firstReady_128 rfl ?_
                    refine z_ialdq (pc := 130) (c := 5) (j := 5) (L := 40) h (zo_s _ _ _) (by first | assumption | rfl) (by decide) rfl (by decide) (by omega) (by omega) dX5_firstReady_130 (fun g130 => ?_)
                    refine z_isub (pc := 131) h dX5_firstReady_131 ?_
                    refine z_iload (pc := 132) h dX5_firstReady_132 rfl ?_
                    refine z_iconst (pc := 134) h dX5_firstReady_134 ?_
                    refine z_max (pc := 135) h (by omega) (by omega) (by decide) ml_X5_177 dX5_firstReady_135 (Nat.le_of_ble_eq_true rfl) ?_
                    refine z_icmp_lt (pc := 138) (tgt := 145) h (by first | omega | (split <;> omega)) (by first | omega | (split <;> omega)) dX5_firstReady_138 (by decide) (fun c138 => ?_) (fun c138 => ?_)
                    · refine z_inc_5 (pc := 145) h dX5_firstReady_145 (by decide) rfl ?_
                      refine z_goto (pc := 148) (tgt := 19) h dX5_firstReady_148 (by decide) ?_
                      have hcn1 : s_can m d i = decide (m.2 23 i ≠ -1 ∧ m.2 24 i = -1 ∧ m.2 22 i = m.2 1 (17 + 6 * m.2 1 (71 + 8 * d + m.2 32 d) + 2) ∧ (if s_way m i d < 1 then 1 else s_way m i d) ≤ m.1 35 - m.2 23 i) := rfl
                      rw [hcn1] at hih
                      first
                      | (simp only [if_pos (show decide (m.2 23 i ≠ -1 ∧ m.2 24 i = -1 ∧ m.2 22 i = m.2 1 (17 + 6 * m.2 1 (71 + 8 * d + m.2 32 d) + 2) ∧ (if s_way m i d < 1 then 1 else s_way m i d) ≤ m.1 35 - m.2 23 i) = true ∧ (s_best m d i = -1 ∨ m.2 23 i < m.2 23 (s_best m d i)) from ⟨decide_eq_true ⟨by omega, by omega, by omega, by rw [q5] at c138; exact c138⟩, by omega⟩)] at hih
                         exact hih _ _ (by omega) (by omega) rfl)
                      | (simp only [if_neg (show ¬ (decide (m.2 23 i ≠ -1 ∧ m.2 24 i = -1 ∧ m.2 22 i = m.2 1 (17 + 6 * m.2 1 (71 + 8 * d + m.2 32 d) + 2) ∧ (if s_way m i d < 1 then 1 else s_way m i d) ≤ m.1 35 - m.2 23 i) = true ∧ (s_best m d i = -1 ∨ m.2 23 i < m.2 23 (s_best m d i))) from fun y => by have y2 := y.2; omega)] at hih
                         exact hih _ _ (by omega) (by omega) rfl)
                      | (simp only [if_neg (show ¬ (decide (m.2 23 i ≠ -1 ∧ m.2 24 i = -1 ∧ m.2 22 i = m.2 1 (17 + 6 * m.2 1 (71 + 8 * d + m.2 32 d) + 2) ∧ (if s_way m i d < 1 then 1 else s_way m i d) ≤ m.1 35 - m.2 23 i) = true ∧ (s_best m d i = -1 ∨ m.2 23 i < m.2 23 (s_best m d i))) from fun y => by have y3 := of_decide_eq_true y.1; have z1 := y3.1; have z2 := y3.2.1; have z3 := y3.2.2.1; omega)] at hih
                         exact hih _ _ (by omega) (by omega) rfl)
                      | (simp only [if_neg (show ¬ (decide (m.2 23 i ≠ -1 ∧ m.2 24 i = -1 ∧ m.2 22 i = m.2 1 (17 + 6 * m.2 1 (71 + 8 * d + m.2 32 d) + 2) ∧ (if s_way m i d < 1 then 1 else s_way m i d) ≤ m.1 35 - m.2 23 i) = true ∧ (s_best m d i = -1 ∨ m.2 23 i < m.2 23 (s_best m d i))) from fun y => by have y3 := (of_decide_eq_true y.1).2.2.2; rw [q5] at c138; exact absurd y3 (Int.not_le.mpr c138))] at hih
                         exact hih _ _ (by omega) (by omega) rfl)
                    · refine z_iload (pc := 141) h dX5_firstReady_141 rfl ?_
                      refine z_ist_4 (pc := 143) h dX5_firstReady_143 (by decide) rfl ?_
                      refine z_inc_5 (pc := 145) h dX5_firstReady_145 (by decide) rfl ?_
                      refine z_goto (pc := 148) (tgt := 19) h dX5_firstReady_148 (by decide) ?_
                      have hcn1 : s_can m d i = decide (m.2 23 i ≠ -1 ∧ m.2 24 i = -1 ∧ m.2 22 i = m.2 1 (17 + 6 * m.2 1 (71 + 8 * d + m.2 32 d) + 2) ∧ (if s_way m i d < 1 then 1 else s_way m i d) ≤ m.1 35 - m.2 23 i) := rfl
                      rw [hcn1] at hih
                      first
                      | (simp only [if_pos (show decide (m.2 23 i ≠ -1 ∧ m.2 24 i = -1 ∧ m.2 22 i = m.2 1 (17 + 6 * m.2 1 (71 + 8 * d + m.2 32 d) + 2) ∧ (if s_way m i d < 1 then 1 else s_way m i d) ≤ m.1 35 - m.2 23 i) = true ∧ (s_best m d i = -1 ∨ m.2 23 i < m.2 23 (s_best m d i)) from ⟨decide_eq_true ⟨by omega, by omega, by omega, by rw [q5] at c138; exact c138⟩, by omega⟩)] at hih
                         exact hih _ _ (by omega) (by omega) rfl)
                      | (simp only [if_neg (show ¬ (decide (m.2 23 i ≠ -1 ∧ m.2 24 i = -1 ∧ m.2 22 i = m.2 1 (17 + 6 * m.2 1 (71 + 8 * d + m.2 32 d) + 2) ∧ (if s_way m i d < 1 then 1 else s_way m i d) ≤ m.1 35 - m.2 23 i) = true ∧ (s_best m d i = -1 ∨ m.2 23 i < m.2 23 (s_best m d i))) from fun y => by have y2 := y.2; omega)] at hih
                         exact hih _ _ (by omega) (by omega) rfl)
                      | (simp only [if_neg (show ¬ (decide (m.2 23 i ≠ -1 ∧ m.2 24 i = -1 ∧ m.2 22 i = m.2 1 (17 + 6 * m.2 1 (71 + 8 * d + m.2 32 d) + 2) ∧ (if s_way m i d < 1 then 1 else s_way m i d) ≤ m.1 35 - m.2 23 i) = true ∧ (s_best m d i = -1 ∨ m.2 23 i < m.2 23 (s_best m d i))) from fun y => by have y3 := of_decide_eq_true y.1; have z1 := y3.1; have z2 := y3.2.1; have z3 := y3.2.2.1; omega)] at hih
                         exact hih _ _ (by omega) (by omega) rfl)
                      | (simp only [if_neg (show ¬ (decide (m.2 23 i ≠ -1 ∧ m.2 24 i = -1 ∧ m.2 22 i = m.2 1 (17 + 6 * m.2 1 (71 + 8 * d + m.2 32 d) + 2) ∧ (if s_way m i d < 1 then 1 else s_way m i d) ≤ m.1 35 - m.2 23 i) = true ∧ (s_best m d i = -1 ∨ m.2 23 i < m.2 23 (s_best m d i))) from fun y => by have y3 := (of_decide_eq_true y.1).2.2.2; rw [q5] at c138; exact absurd y3 (Int.not_le.mpr c138))] at hih
                         exact hih _ _ (by omega) (by omega) rfl)
  refine z_iconst (pc := 0) h dX5_firstReady_0 ?_
  refine z_ist_4 (pc := 1) h dX5_firstReady_1 (by decide) rfl ?_
  refine z_aloadR_n (pc := 3) h dX5_firstReady_3 rfl ?_
  refine z_getA4 (pc := 4) (c := 5) (j := 13) h (by first | assumption | rfl) rfl rfl fl_X5_45 dX5_firstReady_4 ?_
  refine z_iload_n (pc := 7) h dX5_firstReady_7 rfl ?_
  refine z_pS (pc := 8) h (c_manyOf hr (Or.inl rfl) hz3) (by decide) ms_X5_manyOf ml_X5_167 rfl dX5_firstReady_8 rfl (Nat.le_of_ble_eq_true rfl) ?_
  have hwz := (hR.2.2.2.1 z hz3.1 hz3.2).1
  have hwb := zcnt_b (fun c => decide (m.2 23 c ≠ -1 ∧ m.2 24 c = -1 ∧ m.2 22 c = z)) (n := m.1 20) (by omega)
  unfold s_w at hwz
  refine z_if_ne (pc := 11) (tgt := 16) h (by omega) dX5_firstReady_11 (by decide) (fun c11 => ?_) (fun c11 => ?_)
  · refine z_iconst (pc := 16) h dX5_firstReady_16 ?_
    refine z_ist_5 (pc := 17) h dX5_firstReady_17 (by decide) rfl ?_
    exact L (m.1 20 + 1).toNat 0 _ _ (by omega) (by omega) (by omega) rfl
  · refine z_iconst (pc := 14) h dX5_firstReady_14 ?_
    refine z_iret (pc := 15) h rfl dX5_firstReady_15 ?_
    rw [hno (by omega)]
    exact ⟨rfl, rfl⟩
theorem c_putOneOn {σ : zS} {r p : Nat} {Y : zOb} {c t d mi : Int} (hu : RUNH r p) (hc : 0 ≤ c ∧ c ≤ 39) (ht : 0 ≤ t ∧ t ≤ 7) (hd : 0 ≤ d ∧ d ≤ 5) (hm : 0 ≤ mi ∧ mi ≤ 199) (hs1 : 0 ≤ Y.2 9 c ∧ Y.2 9 c ≤ 99) (hs2 : 0 ≤ (σ 4).2 6 d ∧ (σ 4).2 6 d ≤ 99) (ha : 0 ≤ (σ 4).2 15 c ∧ (σ 4).2 15 c ≤ 3) (hw : 0 ≤ Y.2 13 ((σ 4).2 15 c)) (hx : 0 ≤ Y.2 14 ((σ 4).2 15 c)) (hst : 0 ≤ Y.1 16) (hh : 0 ≤ Y.2 4 t ∧ Y.2 4 t ≤ 100) (hch : 0 ≤ (σ 4).1 4 ∧ (σ 4).1 4 ≤ 9) (hun : 0 ≤ Y.1 17) : zCv M_X5_putOneOn 2 [zR r, zI c, zI t, zI d, zI mi] (zo σ r Y) (zo σ r (if (σ 4).2 11 t ≤ Y.2 4 t + 1 then r_lv (σ 4) t d mi (r_po1 (σ 4) c t d mi Y) else r_po1 (σ 4) c t d mi Y)) := by
  obtain ⟨hr, hr0, hr1, hp, h4, hpr⟩ := hu
  have hwy := zway_nn (Y.2 9 c) ((σ 4).2 6 d)
  have hwy2 := zway_le hs1 hs2
  refine zC_of (M := M_X5_putOneOn) (ls := [some (zR r), some (zI c), some (zI t), some (zI d), some (zI mi)]) (n := 0) (by decide) (fun ad => Nat.le_of_ble_eq_true rfl) rfl (fun x h => ?_)
  refine z_rgo (fun hrg => ?_)
  have hr13 : Y.2 13 ((σ 4).2 15 c) ≤ 2147483647 := by
    have z := hrg.2 13 ((σ 4).2 15 c)
    unfold zkd at z
    rw [hr] at z
    exact z.2
  have hr14 : Y.2 14 ((σ 4).2 15 c) ≤ 2147483647 := by
    have z := hrg.2 14 ((σ 4).2 15 c)
    unfold zkd at z
    rw [hr] at z
    exact z.2
  refine z_aloadR_n (pc := 0) h dX5_putOneOn_0 rfl ?_
  refine z_getA4 (pc := 1) (c := 5) (j := 6) h (by first | assumption | rfl) rfl rfl fl_X5_24 dX5_putOneOn_1 ?_
  refine z_iload_n (pc := 4) h dX5_putOneOn_4 rfl ?_
  refine z_iload (pc := 5) h dX5_putOneOn_5 rfl ?_
  refine z_iasto (pc := 7) (c := 5) (j := 6) (L := 40) h (by first | assumption | rfl) (by decide) rfl (by decide) (by omega) (by omega) (by omega) dX5_putOneOn_7 ?_
  refine z_aloadR_n (pc := 8) h dX5_putOneOn_8 rfl ?_
  refine z_getA4 (pc := 9) (c := 5) (j := 7) h (by first | assumption | rfl) rfl rfl fl_X5_27 dX5_putOneOn_9 ?_
  refine z_iload_n (pc := 12) h dX5_putOneOn_12 rfl ?_
  refine z_iload_n (pc := 13) h dX5_putOneOn_13 rfl ?_
  refine z_iasto (pc := 14) (c := 5) (j := 7) (L := 40) h (by first | assumption | rfl) (by decide) rfl (by decide) (by omega) (by omega) (by omega) dX5_putOneOn_14 ?_
  refine z_aloadR_n (pc := 15) h dX5_putOneOn_15 rfl ?_
  refine z_getA4 (pc := 16) (c := 5) (j := 8) h (by first | assumption | rfl) rfl rfl fl_X5_30 dX5_putOneOn_16 ?_
  refine z_iload_n (pc := 19) h dX5_putOneOn_19 rfl ?_
  refine z_aloadR_n (pc := 20) h dX5_putOneOn_20 rfl ?_
  refine z_getA4 (pc := 21) (c := 5) (j := 9) h (by first | assumption | rfl) rfl rfl fl_X5_33 dX5_putOneOn_21 ?_
  refine z_iload_n (pc := 24) h dX5_putOneOn_24 rfl ?_
  refine z_ialdq (pc := 25) (c := 5) (j := 9) (L := 40) h (zo_s _ _ _) (by first | assumption | rfl) (by decide) rfl (by decide) (by omega) (by omega) dX5_putOneOn_25 (fun g25 => ?_)
  try simp only [osa_1, osa_2, oss_1, oss_2, osA_1, osA_2, zup_s, reduceIte, Nat.reduceEqDiff] at g25 ⊢
  refine z_aloadR_n (pc := 26) h dX5_putOneOn_26 rfl ?_
  refine z_getR (pc := 27) (c := 5) (j := 0) h (by first | assumption | rfl) (by first | assumption | rfl) rfl rfl fl_X5_51 dX5_putOneOn_27 ?_
  refine z_getA4 (pc := 30) (c := 1) (j := 6) h (by first | assumption | rfl) rfl rfl fl_X5_171 dX5_putOneOn_30 ?_
  refine z_iload_n (pc := 33) h dX5_putOneOn_33 rfl ?_
  refine z_ialdq (pc := 34) (c := 1) (j := 6) (L := 6) h (zo_n h4) (by first | assumption | rfl) (by decide) rfl (by decide) (by omega) (by omega) dX5_putOneOn_34 (fun g34 => ?_)
  refine z_pS (pc := 35) h (m_X1_wayBetween (by omega) (by omega)) (by decide) ms_X1_wayBetween ml_X5_174 rfl dX5_putOneOn_35 rfl (Nat.le_of_ble_eq_true rfl) ?_
  refine z_iasto (pc := 38) (c := 5) (j := 8) (L := 40) h (by first | assumption | rfl) (by decide) rfl (by decide) (by omega) (by omega) (by omega) dX5_putOneOn_38 ?_
  refine z_aloadR_n (pc := 39) h dX5_putOneOn_39 rfl ?_
  refine z_getA4 (pc := 40) (c := 5) (j := 13) h (by first | assumption | rfl) rfl rfl fl_X5_45 dX5_putOneOn_40 ?_
  refine z_aloadR_n (pc := 43) h dX5_putOneOn_43 rfl ?_
  refine z_getR (pc := 44) (c := 5) (j := 0) h (by first | assumption | rfl) (by first | assumption | rfl) rfl rfl fl_X5_51 dX5_putOneOn_44 ?_
  refine z_getA4 (pc := 47) (c := 1) (j := 15) h (by first | assumption | rfl) rfl rfl fl_X5_134 dX5_putOneOn_47 ?_
  refine z_iload_n (pc := 50) h dX5_putOneOn_50 rfl ?_
  refine z_ialdq (pc := 51) (c := 1) (j := 15) (L := 40) h (zo_n h4) (by first | assumption | rfl) (by decide) rfl (by decide) (by omega) (by omega) dX5_putOneOn_51 (fun g51 => ?_)
  refine z_iconst (pc := 52) h dX5_putOneOn_52 ?_
  refine z_vS (pc := 53) h (c_add hr (Or.inl rfl) ha (show -2147483648 ≤ Y.2 13 ((σ 4).2 15 c) + -1 ∧ Y.2 13 ((σ 4).2 15 c) + -1 ≤ 2147483647 by omega)) (by decide) ms_X5_add ml_X5_137 rfl dX5_putOneOn_53 rfl (Nat.le_of_ble_eq_true rfl) ?_
  refine z_aloadR_n (pc := 56) h dX5_putOneOn_56 rfl ?_
  refine z_getA4 (pc := 57) (c := 5) (j := 14) h (by first | assumption | rfl) rfl rfl fl_X5_48 dX5_putOneOn_57 ?_
  refine z_aloadR_n (pc := 60) h dX5_putOneOn_60 rfl ?_
  refine z_getR (pc := 61) (c := 5) (j := 0) h (by first | assumption | rfl) (by first | assumption | rfl) rfl rfl fl_X5_51 dX5_putOneOn_61 ?_
  refine z_getA4 (pc := 64) (c := 1) (j := 15) h (by first | assumption | rfl) rfl rfl fl_X5_134 dX5_putOneOn_64 ?_
  refine z_iload_n (pc := 67) h dX5_putOneOn_67 rfl ?_
  refine z_ialdq (pc := 68) (c := 1) (j := 15) (L := 40) h (zo_n h4) (by first | assumption | rfl) (by decide) rfl (by decide) (by omega) (by omega) dX5_putOneOn_68 (fun g68 => ?_)
  refine z_iconst (pc := 69) h dX5_putOneOn_69 ?_
  refine z_vS (pc := 70) h (c_add hr (Or.inr rfl) ha (show -2147483648 ≤ Y.2 14 ((σ 4).2 15 c) + -1 ∧ Y.2 14 ((σ 4).2 15 c) + -1 ≤ 2147483647 by omega)) (by decide) ms_X5_add ml_X5_137 rfl dX5_putOneOn_70 rfl (Nat.le_of_ble_eq_true rfl) ?_
  refine z_aloadR_n (pc := 73) h dX5_putOneOn_73 rfl ?_
  refine z_dupR (pc := 74) h dX5_putOneOn_74 ?_
  refine z_getIq (pc := 75) (c := 5) (j := 16) h (zo_s _ _ _) (by first | assumption | rfl) rfl rfl fl_X5_112 dX5_putOneOn_75 (fun g75 => ?_)
  try simp only [osa_1, osa_2, oss_1, oss_2, osA_1, osA_2, zup_s, reduceIte, Nat.reduceEqDiff] at g75 ⊢
  refine z_iconst (pc := 78) h dX5_putOneOn_78 ?_
  refine z_isub (pc := 79) h dX5_putOneOn_79 ?_
  refine z_putIo (pc := 80) (c := 5) (j := 16) h (by first | assumption | rfl) rfl rfl fl_X5_112 rfl (tyX5_ok 16 (by decide)) dX5_putOneOn_80 (by omega) ?_
  refine z_aloadR_n (pc := 83) h dX5_putOneOn_83 rfl ?_
  refine z_getA4 (pc := 84) (c := 5) (j := 4) h (by first | assumption | rfl) rfl rfl fl_X5_18 dX5_putOneOn_84 ?_
  refine z_iload_n (pc := 87) h dX5_putOneOn_87 rfl ?_
  refine z_dup2AI (pc := 88) h dX5_putOneOn_88 ?_
  refine z_ialdq (pc := 89) (c := 5) (j := 4) (L := 8) h (zo_s _ _ _) (by first | assumption | rfl) (by decide) rfl (by decide) (by omega) (by omega) dX5_putOneOn_89 (fun g89 => ?_)
  try simp only [osa_1, osa_2, oss_1, oss_2, osA_1, osA_2, zup_s, reduceIte, Nat.reduceEqDiff] at g89 ⊢
  refine z_iconst (pc := 90) h dX5_putOneOn_90 ?_
  refine z_iadd (pc := 91) h dX5_putOneOn_91 ?_
  refine z_iasto (pc := 92) (c := 5) (j := 4) (L := 8) h (by first | assumption | rfl) (by decide) rfl (by decide) (by omega) (by omega) (by omega) dX5_putOneOn_92 ?_
  refine z_aloadR_n (pc := 93) h dX5_putOneOn_93 rfl ?_
  refine z_getA4 (pc := 94) (c := 5) (j := 4) h (by first | assumption | rfl) rfl rfl fl_X5_18 dX5_putOneOn_94 ?_
  refine z_iload_n (pc := 97) h dX5_putOneOn_97 rfl ?_
  refine z_ialdq (pc := 98) (c := 5) (j := 4) (L := 8) h (zo_s _ _ _) (by first | assumption | rfl) (by decide) rfl (by decide) (by omega) (by omega) dX5_putOneOn_98 (fun g98 => ?_)
  try simp only [osa_1, osa_2, oss_1, oss_2, osA_1, osA_2, zup_s, reduceIte, Nat.reduceEqDiff] at g98 ⊢
  refine z_aloadR_n (pc := 99) h dX5_putOneOn_99 rfl ?_
  refine z_getR (pc := 100) (c := 5) (j := 0) h (by first | assumption | rfl) (by first | assumption | rfl) rfl rfl fl_X5_51 dX5_putOneOn_100 ?_
  refine z_getA4 (pc := 103) (c := 1) (j := 11) h (by first | assumption | rfl) rfl rfl fl_X5_182 dX5_putOneOn_103 ?_
  refine z_iload_n (pc := 106) h dX5_putOneOn_106 rfl ?_
  refine z_ialdq (pc := 107) (c := 1) (j := 11) (L := 8) h (zo_n h4) (by first | assumption | rfl) (by decide) rfl (by decide) (by omega) (by omega) dX5_putOneOn_107 (fun g107 => ?_)
  refine z_icmp_lt (pc := 108) (tgt := 119) h (by omega) (by omega) dX5_putOneOn_108 (by decide) (fun c108 => ?_) (fun c108 => ?_)
  · refine z_ret (pc := 119) h rfl dX5_putOneOn_119 ?_
    refine ⟨rfl, ?_⟩
    first | (rw [if_pos (by omega)]; done) | (rw [if_neg (by omega)]; rfl)
  · refine z_aloadR_n (pc := 111) h dX5_putOneOn_111 rfl ?_
    refine z_iload_n (pc := 112) h dX5_putOneOn_112 rfl ?_
    refine z_iload_n (pc := 113) h dX5_putOneOn_113 rfl ?_
    refine z_iload (pc := 114) h dX5_putOneOn_114 rfl ?_
    refine z_vV (pc := 116) (c := 5) h (show zCv M_X5_leave 1 [zR r, zI t, zI d, zI mi] (zo σ r (r_po1 (σ 4) c t d mi Y)) (zo σ r (r_lv (σ 4) t d mi (r_po1 (σ 4) c t d mi Y))) from c_leave hr hr0 h4 ht hd hm hch hun) (by decide) (by first | assumption | rfl) rfl mv_X5_leave ml_X5_185 rfl dX5_putOneOn_116 rfl (Nat.le_of_ble_eq_true rfl) ?_
    refine z_ret (pc := 119) h rfl dX5_putOneOn_119 ?_
    refine ⟨rfl, ?_⟩
    first | (rw [if_pos (by omega)]; done) | (rw [if_neg (by omega)]; rfl)
theorem c_takeOneOff {σ : zS} {r p : Nat} {Y : zOb} {c t d mi : Int} (hu : RUNH r p) (hc : 0 ≤ c ∧ c ≤ 39) (ht : 0 ≤ t ∧ t ≤ 7) (hd : 0 ≤ d ∧ d ≤ 5) (hm : 0 ≤ mi ∧ mi ≤ 199) (ha : 0 ≤ (σ 4).2 15 c ∧ (σ 4).2 15 c ≤ 3) (hw : 0 ≤ Y.2 13 ((σ 4).2 15 c) ∧ Y.2 13 ((σ 4).2 15 c) ≤ 100) (hst : 0 ≤ Y.1 16 ∧ Y.1 16 ≤ 100) (hh : 0 ≤ Y.2 4 t ∧ Y.2 4 t ≤ 100) (hch : 0 ≤ (σ 4).1 4 ∧ (σ 4).1 4 ≤ 9) (hun : 0 ≤ Y.1 17) : zCv M_X5_takeOneOff 2 [zR r, zI c, zI t, zI d, zI mi] (zo σ r Y) (zo σ r (if (σ 4).2 11 t ≤ Y.2 4 t + 1 then r_lv (σ 4) t d mi (r_to1 (σ 4) c t d mi Y) else r_to1 (σ 4) c t d mi Y)) := by
  obtain ⟨hr, hr0, hr1, hp, h4, hpr⟩ := hu
  refine zC_of (M := M_X5_takeOneOff) (ls := [some (zR r), some (zI c), some (zI t), some (zI d), some (zI mi)]) (n := 0) (by decide) (fun ad => Nat.le_of_ble_eq_true rfl) rfl (fun x h => ?_)
  refine z_aloadR_n (pc := 0) h dX5_takeOneOff_0 rfl ?_
  refine z_getA4 (pc := 1) (c := 5) (j := 5) h (by first | assumption | rfl) rfl rfl fl_X5_21 dX5_takeOneOff_1 ?_
  refine z_iload_n (pc := 4) h dX5_takeOneOff_4 rfl ?_
  refine z_iload (pc := 5) h dX5_takeOneOff_5 rfl ?_
  refine z_iasto (pc := 7) (c := 5) (j := 5) (L := 40) h (by first | assumption | rfl) (by decide) rfl (by decide) (by omega) (by omega) (by omega) dX5_takeOneOff_7 ?_
  refine z_aloadR_n (pc := 8) h dX5_takeOneOff_8 rfl ?_
  refine z_getA4 (pc := 9) (c := 5) (j := 9) h (by first | assumption | rfl) rfl rfl fl_X5_33 dX5_takeOneOff_9 ?_
  refine z_iload_n (pc := 12) h dX5_takeOneOff_12 rfl ?_
  refine z_aloadR_n (pc := 13) h dX5_takeOneOff_13 rfl ?_
  refine z_getR (pc := 14) (c := 5) (j := 0) h (by first | assumption | rfl) (by first | assumption | rfl) rfl rfl fl_X5_51 dX5_takeOneOff_14 ?_
  refine z_getA4 (pc := 17) (c := 1) (j := 6) h (by first | assumption | rfl) rfl rfl fl_X5_171 dX5_takeOneOff_17 ?_
  refine z_iload_n (pc := 20) h dX5_takeOneOff_20 rfl ?_
  refine z_ialdq (pc := 21) (c := 1) (j := 6) (L := 6) h (zo_n h4) (by first | assumption | rfl) (by decide) rfl (by decide) (by omega) (by omega) dX5_takeOneOff_21 (fun g21 => ?_)
  refine z_iasto (pc := 22) (c := 5) (j := 9) (L := 40) h (by first | assumption | rfl) (by decide) rfl (by decide) (by omega) (by omega) (by omega) dX5_takeOneOff_22 ?_
  refine z_aloadR_n (pc := 23) h dX5_takeOneOff_23 rfl ?_
  refine z_getA4 (pc := 24) (c := 5) (j := 13) h (by first | assumption | rfl) rfl rfl fl_X5_45 dX5_takeOneOff_24 ?_
  refine z_aloadR_n (pc := 27) h dX5_takeOneOff_27 rfl ?_
  refine z_getR (pc := 28) (c := 5) (j := 0) h (by first | assumption | rfl) (by first | assumption | rfl) rfl rfl fl_X5_51 dX5_takeOneOff_28 ?_
  refine z_getA4 (pc := 31) (c := 1) (j := 15) h (by first | assumption | rfl) rfl rfl fl_X5_134 dX5_takeOneOff_31 ?_
  refine z_iload_n (pc := 34) h dX5_takeOneOff_34 rfl ?_
  refine z_ialdq (pc := 35) (c := 1) (j := 15) (L := 40) h (zo_n h4) (by first | assumption | rfl) (by decide) rfl (by decide) (by omega) (by omega) dX5_takeOneOff_35 (fun g35 => ?_)
  refine z_iconst (pc := 36) h dX5_takeOneOff_36 ?_
  refine z_vS (pc := 37) h (c_add hr (Or.inl rfl) ha (show -2147483648 ≤ Y.2 13 ((σ 4).2 15 c) + 1 ∧ Y.2 13 ((σ 4).2 15 c) + 1 ≤ 2147483647 by omega)) (by decide) ms_X5_add ml_X5_137 rfl dX5_takeOneOff_37 rfl (Nat.le_of_ble_eq_true rfl) ?_
  refine z_aloadR_n (pc := 40) h dX5_takeOneOff_40 rfl ?_
  refine z_dupR (pc := 41) h dX5_takeOneOff_41 ?_
  refine z_getIq (pc := 42) (c := 5) (j := 16) h (zo_s _ _ _) (by first | assumption | rfl) rfl rfl fl_X5_112 dX5_takeOneOff_42 (fun g42 => ?_)
  try simp only [osa_1, osa_2, oss_1, oss_2, osA_1, osA_2, zup_s, reduceIte, Nat.reduceEqDiff] at g42 ⊢
  refine z_iconst (pc := 45) h dX5_takeOneOff_45 ?_
  refine z_iadd (pc := 46) h dX5_takeOneOff_46 ?_
  refine z_putIo (pc := 47) (c := 5) (j := 16) h (by first | assumption | rfl) rfl rfl fl_X5_112 rfl (tyX5_ok 16 (by decide)) dX5_takeOneOff_47 (by omega) ?_
  refine z_aloadR_n (pc := 50) h dX5_takeOneOff_50 rfl ?_
  refine z_getA4 (pc := 51) (c := 5) (j := 4) h (by first | assumption | rfl) rfl rfl fl_X5_18 dX5_takeOneOff_51 ?_
  refine z_iload_n (pc := 54) h dX5_takeOneOff_54 rfl ?_
  refine z_dup2AI (pc := 55) h dX5_takeOneOff_55 ?_
  refine z_ialdq (pc := 56) (c := 5) (j := 4) (L := 8) h (zo_s _ _ _) (by first | assumption | rfl) (by decide) rfl (by decide) (by omega) (by omega) dX5_takeOneOff_56 (fun g56 => ?_)
  try simp only [osa_1, osa_2, oss_1, oss_2, osA_1, osA_2, zup_s, reduceIte, Nat.reduceEqDiff] at g56 ⊢
  refine z_iconst (pc := 57) h dX5_takeOneOff_57 ?_
  refine z_iadd (pc := 58) h dX5_takeOneOff_58 ?_
  refine z_iasto (pc := 59) (c := 5) (j := 4) (L := 8) h (by first | assumption | rfl) (by decide) rfl (by decide) (by omega) (by omega) (by omega) dX5_takeOneOff_59 ?_
  refine z_aloadR_n (pc := 60) h dX5_takeOneOff_60 rfl ?_
  refine z_getA4 (pc := 61) (c := 5) (j := 4) h (by first | assumption | rfl) rfl rfl fl_X5_18 dX5_takeOneOff_61 ?_
  refine z_iload_n (pc := 64) h dX5_takeOneOff_64 rfl ?_
  refine z_ialdq (pc := 65) (c := 5) (j := 4) (L := 8) h (zo_s _ _ _) (by first | assumption | rfl) (by decide) rfl (by decide) (by omega) (by omega) dX5_takeOneOff_65 (fun g65 => ?_)
  try simp only [osa_1, osa_2, oss_1, oss_2, osA_1, osA_2, zup_s, reduceIte, Nat.reduceEqDiff] at g65 ⊢
  refine z_aloadR_n (pc := 66) h dX5_takeOneOff_66 rfl ?_
  refine z_getR (pc := 67) (c := 5) (j := 0) h (by first | assumption | rfl) (by first | assumption | rfl) rfl rfl fl_X5_51 dX5_takeOneOff_67 ?_
  refine z_getA4 (pc := 70) (c := 1) (j := 11) h (by first | assumption | rfl) rfl rfl fl_X5_182 dX5_takeOneOff_70 ?_
  refine z_iload_n (pc := 73) h dX5_takeOneOff_73 rfl ?_
  refine z_ialdq (pc := 74) (c := 1) (j := 11) (L := 8) h (zo_n h4) (by first | assumption | rfl) (by decide) rfl (by decide) (by omega) (by omega) dX5_takeOneOff_74 (fun g74 => ?_)
  refine z_icmp_lt (pc := 75) (tgt := 86) h (by omega) (by omega) dX5_takeOneOff_75 (by decide) (fun c75 => ?_) (fun c75 => ?_)
  · refine z_ret (pc := 86) h rfl dX5_takeOneOff_86 ?_
    refine ⟨rfl, ?_⟩
    first | (rw [if_pos (by omega)]; done) | (rw [if_neg (by omega)]; rfl)
  · refine z_aloadR_n (pc := 78) h dX5_takeOneOff_78 rfl ?_
    refine z_iload_n (pc := 79) h dX5_takeOneOff_79 rfl ?_
    refine z_iload_n (pc := 80) h dX5_takeOneOff_80 rfl ?_
    refine z_iload (pc := 81) h dX5_takeOneOff_81 rfl ?_
    refine z_vV (pc := 83) (c := 5) h (show zCv M_X5_leave 1 [zR r, zI t, zI d, zI mi] (zo σ r (r_to1 (σ 4) c t d mi Y)) (zo σ r (r_lv (σ 4) t d mi (r_to1 (σ 4) c t d mi Y))) from c_leave hr hr0 h4 ht hd hm hch hun) (by decide) (by first | assumption | rfl) rfl mv_X5_leave ml_X5_185 rfl dX5_takeOneOff_83 rfl (Nat.le_of_ble_eq_true rfl) ?_
    refine z_ret (pc := 86) h rfl dX5_takeOneOff_86 ?_
    refine ⟨rfl, ?_⟩
    first | (rw [if_pos (by omega)]; done) | (rw [if_neg (by omega)]; rfl)
