/-! The class's run: its phases. -/
def RUNH (r p : Nat) : Prop := zoc r = 5 ∧ zrf r 0 = 4 ∧ zrf r 1 = p ∧ zoc p = 3 ∧ 4 ≠ r ∧ p ≠ r
theorem dk_step {dk pl Y m : zOb} {d : Int} (hS : SI m) (hD : DI (-1) m) (hE : DKE dk (m.2 1)) (hP : PLE pl (m.2 1)) (hR : RR Y m) (h0 : 0 ≤ d) (h1 : d < m.2 1 0) : RR (if Y.2 10 d = -1 ∧ Y.2 12 d ≤ m.1 35 ∧ (0 ≤ Y.2 11 d ∧ Y.2 11 d < dk.1 1) ∧ pl.2 2 (Y.2 11 d) ≤ m.1 35 then r_dk1 pl (Y.2 11 d) d (m.1 35) Y else Y) (s_dk d m) := by
  obtain ⟨a1, a2, a3⟩ := hR.2.2.1 d h0 h1
  obtain ⟨⟨t0, t1⟩, tt, hs1, f0, f1⟩ := hD.1 d h0 h1
  have hn := hE.2.1
  by_cases hst : m.2 33 d = 1
  · have htr := tr_ok hS hD h0 h1 hst
    dsimp only [s_tr] at htr
    rw [if_pos hst] at a1
    have e : s_dk d m = m := by unfold s_dk; rw [if_neg (fun z => by omega)]
    rw [e, if_neg (fun z => by omega)]
    exact hR
  · have hs0 : m.2 33 d = 0 := by omega
    rw [if_neg hst] at a1
    rw [hs0, Int.add_zero] at a2
    by_cases hlt : m.2 32 d < m.2 1 (65 + d)
    · rw [if_pos hlt] at a2
      obtain ⟨r1, r2, -⟩ := hS.2.1.2.1 d (m.2 32 d) h0 h1 t0 hlt
      have hpl := hP.1 _ r1 r2
      rw [← a2] at hpl
      by_cases hc : m.2 34 d ≤ m.1 35 ∧ m.2 1 (17 + 6 * s_tr m d + 1) ≤ m.1 35
      · have e : s_dk d m = osa (osa m 33 d 1) 27 (s_tr m d) (m.1 35) := by unfold s_dk; rw [if_pos ⟨hs0, hlt, hc.1, hc.2⟩]
        have hc2 := hc.2
        dsimp only [s_tr] at hc2
        rw [a2] at hpl
        rw [e, if_pos ⟨a1, by omega, by rw [a2]; omega, by rw [a2, hpl]; exact hc2⟩, a2]
        exact RR_dk hS hD hP hR h0 h1 hs0 hlt
      · have e : s_dk d m = m := by unfold s_dk; rw [if_neg (fun z => hc ⟨z.2.2.1, z.2.2.2⟩)]
        rw [e, if_neg]
        · exact hR
        · rintro ⟨z1, z2, z3, z4⟩
          rw [hpl, a2] at z4
          exact hc ⟨by omega, z4⟩
    · rw [if_neg hlt] at a2
      have e : s_dk d m = m := by unfold s_dk; rw [if_neg (fun z => hlt z.2.1)]
      rw [e, if_neg (fun z => by omega)]
      exact hR
theorem c_letDock {σ : zS} {r p : Nat} {Y m : zOb} (hu : RUNH r p) (hS : SI m) (hD : DI (-1) m) (hE : DKE (σ 4) (m.2 1)) (hP : PLE (σ p) (m.2 1)) (hR : RR Y m) (hmn : m.1 35 ≤ 199) : zC M_X5_letDock 3 [zR r, zI (m.1 35)] (zo σ r Y) (fun rr τ' => rr = none ∧ ∃ Y', τ' = zo σ r Y' ∧ RR Y' (s_p1 m)) := by
  obtain ⟨hr, hr0, hr1, hp, h4, hpr⟩ := hu
  have h6 := hS.1.1
  have h8 := hS.1.2.1
  have hm0 := hD.2.2.2.2.2.2.2.2
  have hdn := hE.1
  have htn := hE.2.1
  have hpb : ∀ t, 0 ≤ t → t < m.2 1 1 → -1 ≤ (σ p).2 1 t ∧ (σ p).2 1 t ≤ 8 := fun t q0 q1 => by
    rcases hP.2 t q0 (by omega) with z | ⟨z0, z1, z2, z3⟩
    · omega
    · have := hS.2.1.1 _ z1.1 z1.2
      omega
  refine zC_of (M := M_X5_letDock) (ls := [some (zR r), some (zI (m.1 35)), none, none, none]) (n := 3) (by decide) (fun ad => Nat.le_of_ble_eq_true rfl) rfl (fun x h => ?_)
  have L : ∀ (n : Nat) (i : Int) (Y : zOb) (a b : Option Value), 0 ≤ i → i ≤ m.2 1 0 → m.2 1 0 - i < n → RR Y (zfor s_dk i m) → zc1 a = true → zW x (fun rr τ' => rr = none ∧ ∃ Y', τ' = zo σ r Y' ∧ RR Y' (s_p1 m)) 2 [some (zR r), some (zI (m.1 35)), some (zI i), a, b] [] (zo σ r Y) := by
    intro n
    induction n with
    | zero => intro i Y a b h1 h2 h3; omega
    | succ n ih =>
      intro i Y a b h1 h2 h3 hR hca
      obtain ⟨k1, k2, k3, -⟩ := KP_for KP_dk hS hD h1 h2
      have hih := fun Y a b => ih (i + 1) Y a b (by omega)
      simp only [zfor_S _ h1] at hih
      have hgo : i = m.2 1 0 → zfor s_dk i m = s_p1 m := fun e => by rw [e]; rfl
      generalize zfor s_dk i m = mm at hih k1 k2 k3 hgo hR
      have e1 : mm.2 1 = m.2 1 := k3.1
      have e35 : mm.1 35 = m.1 35 := k3.2.2.2.2.2.2
      have hstep : i < m.2 1 0 → _ := fun q => dk_step k1 k2 (by rw [e1]; exact hE) (by rw [e1]; exact hP) hR (d := i) h1 (by rw [e1]; exact q)
      rw [e35] at hstep
      refine z_iload_n (pc := 2) h dX5_letDock_2 rfl ?_
      refine z_aloadR_n (pc := 3) h dX5_letDock_3 rfl ?_
      refine z_getR (pc := 4) (c := 5) (j := 0) h (by first | assumption | rfl) (by first | assumption | rfl) rfl rfl fl_X5_51 dX5_letDock_4 ?_
      refine z_getIq (pc := 7) (c := 1) (j := 0) h (zo_n h4) (by first | assumption | rfl) rfl rfl fl_X5_115 dX5_letDock_7 (fun g7 => ?_)
      refine z_icmp_ge (pc := 10) (tgt := 121) h (by omega) (by omega) dX5_letDock_10 (by decide) (fun c10 => ?_) (fun c10 => ?_)
      · refine z_ret (pc := 121) h rfl dX5_letDock_121 ?_
        rw [← hgo (by omega)]
        exact ⟨rfl, Y, rfl, hR⟩
      · have hst := hstep (by omega)
        refine z_aloadR_n (pc := 13) h dX5_letDock_13 rfl ?_
        refine z_getA4 (pc := 14) (c := 5) (j := 11) h (by first | assumption | rfl) rfl rfl fl_X5_39 dX5_letDock_14 ?_
        refine z_iload_n (pc := 17) h dX5_letDock_17 rfl ?_
        refine z_ialdq (pc := 18) (c := 5) (j := 11) (L := 6) h (zo_s _ _ _) (by first | assumption | rfl) (by decide) rfl (by decide) (by omega) (by omega) dX5_letDock_18 (fun g18 => ?_)
        refine z_ist_3 (pc := 19) h dX5_letDock_19 (by decide) rfl ?_
        refine z_aloadR_n (pc := 20) h dX5_letDock_20 rfl ?_
        refine z_getA4 (pc := 21) (c := 5) (j := 10) h (by first | assumption | rfl) rfl rfl fl_X5_36 dX5_letDock_21 ?_
        refine z_iload_n (pc := 24) h dX5_letDock_24 rfl ?_
        refine z_ialdq (pc := 25) (c := 5) (j := 10) (L := 6) h (zo_s _ _ _) (by first | assumption | rfl) (by decide) rfl (by decide) (by omega) (by omega) dX5_letDock_25 (fun g25 => ?_)
        refine z_iconst (pc := 26) h dX5_letDock_26 ?_
        refine z_icmp_ne (pc := 27) (tgt := 44) h (by omega) (by omega) dX5_letDock_27 (by decide) (fun c27 => ?_) (fun c27 => ?_)
        · refine z_iconst (pc := 44) h dX5_letDock_44 ?_
          refine z_ist_4 (pc := 45) h dX5_letDock_45 (by decide) rfl ?_
          refine z_iload (pc := 47) h dX5_letDock_47 rfl ?_
          refine z_if_eq (pc := 49) (tgt := 115) h (by omega) dX5_letDock_49 (by decide) (fun c49 => ?_) (fun c49 => ?_)
          · refine z_inc_2 (pc := 115) h dX5_letDock_115 (by decide) rfl ?_
            refine z_goto (pc := 118) (tgt := 2) h dX5_letDock_118 (by decide) ?_
            first
            | (rw [if_pos ⟨c27, c37, of_decide_eq_true c60, c73⟩] at hst; exact hih _ _ _ (by omega) (by omega) hst rfl)
            | (rw [if_neg (fun z => by have z1 := z.1; have z2 := z.2.1; omega)] at hst; exact hih _ _ _ (by omega) (by omega) hst rfl)
            | (rw [if_neg (fun z => by have z1 := z.2.2.2; omega)] at hst; exact hih _ _ _ (by omega) (by omega) hst rfl)
            | (rw [if_neg (fun z => of_decide_eq_false c60 z.2.2.1)] at hst; exact hih _ _ _ (by omega) (by omega) hst rfl)
          · exact absurd c49 (by decide)
        · refine z_aloadR_n (pc := 30) h dX5_letDock_30 rfl ?_
          refine z_getA4 (pc := 31) (c := 5) (j := 12) h (by first | assumption | rfl) rfl rfl fl_X5_42 dX5_letDock_31 ?_
          refine z_iload_n (pc := 34) h dX5_letDock_34 rfl ?_
          refine z_ialdq (pc := 35) (c := 5) (j := 12) (L := 6) h (zo_s _ _ _) (by first | assumption | rfl) (by decide) rfl (by decide) (by omega) (by omega) dX5_letDock_35 (fun g35 => ?_)
          refine z_iload_n (pc := 36) h dX5_letDock_36 rfl ?_
          refine z_icmp_gt (pc := 37) (tgt := 44) h (by omega) (by omega) dX5_letDock_37 (by decide) (fun c37 => ?_) (fun c37 => ?_)
          · refine z_iconst (pc := 44) h dX5_letDock_44 ?_
            refine z_ist_4 (pc := 45) h dX5_letDock_45 (by decide) rfl ?_
            refine z_iload (pc := 47) h dX5_letDock_47 rfl ?_
            refine z_if_eq (pc := 49) (tgt := 115) h (by omega) dX5_letDock_49 (by decide) (fun c49 => ?_) (fun c49 => ?_)
            · refine z_inc_2 (pc := 115) h dX5_letDock_115 (by decide) rfl ?_
              refine z_goto (pc := 118) (tgt := 2) h dX5_letDock_118 (by decide) ?_
              first
              | (rw [if_pos ⟨c27, c37, of_decide_eq_true c60, c73⟩] at hst; exact hih _ _ _ (by omega) (by omega) hst rfl)
              | (rw [if_neg (fun z => by have z1 := z.1; have z2 := z.2.1; omega)] at hst; exact hih _ _ _ (by omega) (by omega) hst rfl)
              | (rw [if_neg (fun z => by have z1 := z.2.2.2; omega)] at hst; exact hih _ _ _ (by omega) (by omega) hst rfl)
              | (rw [if_neg (fun z => of_decide_eq_false c60 z.2.2.1)] at hst; exact hih _ _ _ (by omega) (by omega) hst rfl)
            · exact absurd c49 (by decide)
          · refine z_iconst (pc := 40) h dX5_letDock_40 ?_
            refine z_goto (pc := 41) (tgt := 45) h dX5_letDock_41 (by decide) ?_
            refine z_ist_4 (pc := 45) h dX5_letDock_45 (by decide) rfl ?_
            refine z_iload (pc := 47) h dX5_letDock_47 rfl ?_
            refine z_if_eq (pc := 49) (tgt := 115) h (by omega) dX5_letDock_49 (by decide) (fun c49 => ?_) (fun c49 => ?_)
            · exact absurd c49 (by decide)
            · refine z_aloadR_n (pc := 52) h dX5_letDock_52 rfl ?_
              refine z_getR (pc := 53) (c := 5) (j := 0) h (by first | assumption | rfl) (by first | assumption | rfl) rfl rfl fl_X5_51 dX5_letDock_53 ?_
              refine z_iload_n (pc := 56) h dX5_letDock_56 rfl ?_
              refine z_pV (pc := 57) (c := 1) h (c_hasTruck h4 (by omega)) (by decide) (by first | assumption | rfl) rfl mv_X1_hasTruck ml_X5_141 rfl dX5_letDock_57 rfl (Nat.le_of_ble_eq_true rfl) ?_
              refine z_ifeqB (pc := 60) (tgt := 115) h dX5_letDock_60 (by decide) (fun c60 => ?_) (fun c60 => ?_)
              · refine z_inc_2 (pc := 115) h dX5_letDock_115 (by decide) rfl ?_
                refine z_goto (pc := 118) (tgt := 2) h dX5_letDock_118 (by decide) ?_
                first
                | (rw [if_pos ⟨c27, c37, of_decide_eq_true c60, c73⟩] at hst; exact hih _ _ _ (by omega) (by omega) hst rfl)
                | (rw [if_neg (fun z => by have z1 := z.1; have z2 := z.2.1; omega)] at hst; exact hih _ _ _ (by omega) (by omega) hst rfl)
                | (rw [if_neg (fun z => by have z1 := z.2.2.2; omega)] at hst; exact hih _ _ _ (by omega) (by omega) hst rfl)
                | (rw [if_neg (fun z => of_decide_eq_false c60 z.2.2.1)] at hst; exact hih _ _ _ (by omega) (by omega) hst rfl)
              · refine z_aloadR_n (pc := 63) h dX5_letDock_63 rfl ?_
                refine z_getR (pc := 64) (c := 5) (j := 1) h (by first | assumption | rfl) (by first | assumption | rfl) rfl rfl fl_X5_55 dX5_letDock_64 ?_
                refine z_getA4 (pc := 67) (c := 3) (j := 2) h (by first | assumption | rfl) rfl rfl fl_X5_144 dX5_letDock_67 ?_
                refine z_iload_n (pc := 70) h dX5_letDock_70 rfl ?_
                refine z_ialdq (pc := 71) (c := 3) (j := 2) (L := 8) h (zo_n hpr) (by first | assumption | rfl) (by decide) rfl (by decide) (by have c60' := of_decide_eq_true c60; omega) (by have c60' := of_decide_eq_true c60; omega) dX5_letDock_71 (fun g71 => ?_)
                refine z_iload_n (pc := 72) h dX5_letDock_72 rfl ?_
                refine z_icmp_gt (pc := 73) (tgt := 115) h (by omega) (by omega) dX5_letDock_73 (by decide) (fun c73 => ?_) (fun c73 => ?_)
                · refine z_inc_2 (pc := 115) h dX5_letDock_115 (by decide) rfl ?_
                  refine z_goto (pc := 118) (tgt := 2) h dX5_letDock_118 (by decide) ?_
                  first
                  | (rw [if_pos ⟨c27, c37, of_decide_eq_true c60, c73⟩] at hst; exact hih _ _ _ (by omega) (by omega) hst rfl)
                  | (rw [if_neg (fun z => by have z1 := z.1; have z2 := z.2.1; omega)] at hst; exact hih _ _ _ (by omega) (by omega) hst rfl)
                  | (rw [if_neg (fun z => by have z1 := z.2.2.2; omega)] at hst; exact hih _ _ _ (by omega) (by omega) hst rfl)
                  | (rw [if_neg (fun z => of_decide_eq_false c60 z.2.2.1)] at hst; exact hih _ _ _ (by omega) (by omega) hst rfl)
                · have c60' := of_decide_eq_true c60
                  have hpp := hpb _ c60'.1 (by omega)
                  refine z_aloadR_n (pc := 76) h dX5_letDock_76 rfl ?_
                  refine z_getA4 (pc := 77) (c := 5) (j := 10) h (by first | assumption | rfl) rfl rfl fl_X5_36 dX5_letDock_77 ?_
                  refine z_iload_n (pc := 80) h dX5_letDock_80 rfl ?_
                  refine z_iload_n (pc := 81) h dX5_letDock_81 rfl ?_
                  refine z_iasto (pc := 82) (c := 5) (j := 10) (L := 6) h (by first | assumption | rfl) (by decide) rfl (by decide) (by omega) (by omega) (by omega) dX5_letDock_82 ?_
                  refine z_aloadR_n (pc := 83) h dX5_letDock_83 rfl ?_
                  refine z_getA4 (pc := 84) (c := 5) (j := 2) h (by first | assumption | rfl) rfl rfl fl_X5_9 dX5_letDock_84 ?_
                  refine z_iload_n (pc := 87) h dX5_letDock_87 rfl ?_
                  refine z_iload_n (pc := 88) h dX5_letDock_88 rfl ?_
                  refine z_iasto (pc := 89) (c := 5) (j := 2) (L := 8) h (by first | assumption | rfl) (by decide) rfl (by decide) (by omega) (by omega) (by omega) dX5_letDock_89 ?_
                  refine z_aloadR_n (pc := 90) h dX5_letDock_90 rfl ?_
                  refine z_getA4 (pc := 91) (c := 5) (j := 11) h (by first | assumption | rfl) rfl rfl fl_X5_39 dX5_letDock_91 ?_
                  refine z_iload_n (pc := 94) h dX5_letDock_94 rfl ?_
                  refine z_aloadR_n (pc := 95) h dX5_letDock_95 rfl ?_
                  refine z_getR (pc := 96) (c := 5) (j := 1) h (by first | assumption | rfl) (by first | assumption | rfl) rfl rfl fl_X5_55 dX5_letDock_96 ?_
                  refine z_iload_n (pc := 99) h dX5_letDock_99 rfl ?_
                  refine z_aloadR_n (pc := 100) h dX5_letDock_100 rfl ?_
                  refine z_getR (pc := 101) (c := 5) (j := 1) h (by first | assumption | rfl) (by first | assumption | rfl) rfl rfl fl_X5_55 dX5_letDock_101 ?_
                  refine z_getA4 (pc := 104) (c := 3) (j := 1) h (by first | assumption | rfl) rfl rfl fl_X5_147 dX5_letDock_104 ?_
                  refine z_iload_n (pc := 107) h dX5_letDock_107 rfl ?_
                  refine z_ialdq (pc := 108) (c := 3) (j := 1) (L := 8) h (zo_n hpr) (by first | assumption | rfl) (by decide) rfl (by decide) (by omega) (by omega) dX5_letDock_108 (fun g108 => ?_)
                  refine z_iconst (pc := 109) h dX5_letDock_109 ?_
                  refine z_iadd (pc := 110) h dX5_letDock_110 ?_
                  refine z_pV (pc := 111) (c := 3) h (c_truckAt hpr hp (by omega) (by omega)) (by decide) (by first | assumption | rfl) rfl mv_X3_truckAt ml_X5_118 rfl dX5_letDock_111 rfl (Nat.le_of_ble_eq_true rfl) ?_
                  refine z_iasto (pc := 114) (c := 5) (j := 11) (L := 6) h (by first | assumption | rfl) (by decide) rfl (by decide) (by first | omega | (unfold p_at; rcases zfst_cases (fun t => decide ((σ p).2 0 t = i ∧ (σ p).2 1 t = (σ p).2 1 (Y.2 11 i) + 1)) 8 with z | z <;> omega)) (by first | omega | (unfold p_at; rcases zfst_cases (fun t => decide ((σ p).2 0 t = i ∧ (σ p).2 1 t = (σ p).2 1 (Y.2 11 i) + 1)) 8 with z | z <;> omega)) (by first | omega | (unfold p_at; rcases zfst_cases (fun t => decide ((σ p).2 0 t = i ∧ (σ p).2 1 t = (σ p).2 1 (Y.2 11 i) + 1)) 8 with z | z <;> omega)) dX5_letDock_114 ?_
                  refine z_inc_2 (pc := 115) h dX5_letDock_115 (by decide) rfl ?_
                  refine z_goto (pc := 118) (tgt := 2) h dX5_letDock_118 (by decide) ?_
                  first
                  | (rw [if_pos ⟨c27, c37, of_decide_eq_true c60, c73⟩] at hst; exact hih _ _ _ (by omega) (by omega) hst rfl)
                  | (rw [if_neg (fun z => by have z1 := z.1; have z2 := z.2.1; omega)] at hst; exact hih _ _ _ (by omega) (by omega) hst rfl)
                  | (rw [if_neg (fun z => by have z1 := z.2.2.2; omega)] at hst; exact hih _ _ _ (by omega) (by omega) hst rfl)
                  | (rw [if_neg (fun z => of_decide_eq_false c60 z.2.2.1)] at hst; exact hih _ _ _ (by omega) (by omega) hst rfl)
  refine z_iconst (pc := 0) h dX5_letDock_0 ?_
  refine z_ist_2 (pc := 1) h dX5_letDock_1 (by decide) rfl ?_
  exact L (m.2 1 0 + 1).toNat 0 Y _ _ (by omega) (by omega) (by omega) hR rfl
