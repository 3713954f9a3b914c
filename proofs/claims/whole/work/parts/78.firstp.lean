/-! The first plan: the model, on. -/
theorem m8_firstPlan {σ : zS} {m : zOb} {T : T3} {a0 : Int → Int} (e1 : m.2 1 = T.2.2) (hI : FPI a0 0 0 T) : zCv M_X8_firstPlan 3 [zR 31] (zo σ 31 m) (zo σ 31 (osA m 1 (fpl T).2.2)) := by
  refine zC_of (M := M_X8_firstPlan) (ls := [some (zR 31), none, none, none]) (n := 3) (by decide) (fun ad => Nat.le_of_ble_eq_true rfl) rfl (fun x h => ?_)
  generalize hK : (fun (r : Option Value) (τ' : zS) => r = none ∧ τ' = zo σ 31 (osA m 1 (fpl T).2.2)) = K
  have L : ∀ (n : Nat) (mi : Int) (U : T3) (l2 l3 : Option Value), 0 ≤ mi → mi ≤ 100 → 100 - mi < n → U = zfor fp2 mi T → FPI a0 mi 0 U → zW x K 2 [some (zR 31), some (zI mi), l2, l3] [] (zo σ 31 (osA m 1 U.2.2)) := by
    intro n
    induction n with
    | zero => intro mi U l2 l3 h1 h2 h3; omega
    | succ n ih =>
      intro mi U l2 l3 h1 h2 h3 hU hF
      have L2 : ∀ (n2 : Nat) (t : Int) (V : T3) (l3 : Option Value), mi < 100 → 0 ≤ t → t ≤ U.2.2 1 → U.2.2 1 - t < n2 → V = zfor (fp1 mi) t U → V.2.2 1 = U.2.2 1 → FPI a0 mi t V → zW x K 10 [some (zR 31), some (zI mi), some (zI t), l3] [] (zo σ 31 (osA m 1 V.2.2)) := by
        intro n2
        induction n2 with
        | zero => intro t V l3 g0 g1 g2 g3; omega
        | succ n2 ih2 =>
          intro t V l3 g0 g1 g2 g3 hV hV1 hFV
          have hwa := hFV.1
          have h6 := hwa.1
          have h8 := hwa.2.1
          have hs : fp1 mi t V = zfor (fp1 mi) (t + 1) U := by rw [zfor_S _ g1, hV]
          have hnx := fun z => FPI_1 hFV g1 z
          have hsp := fw_spec h6.1 (V.2.2 (17 + 6 * t + 0))
          generalize hmm : osA m 1 V.2.2 = mm
          have m1 : mm.2 1 = V.2.2 := by rw [← hmm]; rfl
          have e11 : mm.2 1 1 = V.2.2 1 := by rw [m1]
          have ea : mm.2 1 (17 + 6 * t + 1) = V.2.2 (17 + 6 * t + 1) := by rw [m1]
          have ek : mm.2 1 (17 + 6 * t + 0) = V.2.2 (17 + 6 * t + 0) := by rw [m1]
          have hwam : WFa (mm.2 1) := by rw [m1]; exact hwa
          have hfe := m8_fewest (σ := σ) (m := mm) (kd := V.2.2 (17 + 6 * t + 0)) hwam (by rw [m1]; exact hFV.2.1.1)
          rw [m1] at hfe
          have skip : fp1 mi t V = V → t < V.2.2 1 → ∀ l : Option Value, zW x K 10 [some (zR 31), some (zI mi), some (zI (t + 1)), l] [] (zo σ 31 mm) := fun z z1 l => by
            rw [← hmm]
            have w := hnx z1
            rw [z] at w
            exact ih2 (t + 1) V l g0 (by omega) (by omega) (by omega) (z.symm.trans hs) hV1 w.1
          have put : V.2.2 (17 + 6 * t + 1) = mi ∧ fw V.2.2 (V.2.2 (17 + 6 * t + 0)) ≠ -1 → t < V.2.2 1 → ∀ l : Option Value, zW x K 10 [some (zR 31), some (zI mi), some (zI (t + 1)), l] [] (zo σ 31 (osA mm 1 (a_ap V.2.2 t (fw V.2.2 (V.2.2 (17 + 6 * t + 0)))))) := fun z z1 l => by
            have w := hnx z1
            have ef : fp1 mi t V = t_ap V t (fw V.2.2 (V.2.2 (17 + 6 * t + 0))) := by unfold fp1; rw [if_pos z]
            have := ih2 (t + 1) (fp1 mi t V) l g0 (by omega) (by omega) (by omega) hs (w.2.trans hV1) w.1
            rw [ef] at this
            rw [← hmm, osA_osA]
            exact this
          have G : ∀ (F : Int), t < V.2.2 1 → F = (if V.2.2 (17 + 6 * t + 1) = mi then fw V.2.2 (V.2.2 (17 + 6 * t + 0)) else -1) → zW x K 44 [some (zR 31), some (zI mi), some (zI t), some (zI F)] [] (zo σ 31 mm) := by
            intro F z1 hFd
            have hFb : F = -1 ∨ (V.2.2 (17 + 6 * t + 1) = mi ∧ F = fw V.2.2 (V.2.2 (17 + 6 * t + 0)) ∧ 0 ≤ F ∧ F < V.2.2 0 ∧ V.2.2 (5 + 2 * F) = V.2.2 (17 + 6 * t + 0)) := by
              by_cases y : V.2.2 (17 + 6 * t + 1) = mi
              · rw [if_pos y] at hFd
                rcases hsp with w | w
                · left; rw [hFd]; exact w.1
                · right; rw [← hFd] at w; exact ⟨y, hFd, w⟩
              · rw [if_neg y] at hFd; left; exact hFd
            have hFr : -1 ≤ F ∧ F ≤ 5 := by omega
            refine z_iload_n (pc := 44) h dX8_firstPlan_44 rfl ?_
            refine z_iconst (pc := 45) h dX8_firstPlan_45 ?_
            refine z_icmp_eq (pc := 46) (tgt := 81) h (by omega) (by omega) dX8_firstPlan_46 (by decide) (fun c46 => ?_) (fun c46 => ?_)
            · have hsk : fp1 mi t V = V := by
                unfold fp1
                by_cases y : V.2.2 (17 + 6 * t + 1) = mi
                · rw [if_pos y] at hFd; rw [if_neg (fun z => z.2 (by omega))]
                · rw [if_neg (fun z => y z.1)]
              refine z_inc_2 (pc := 81) h dX8_firstPlan_81 (by decide) rfl ?_
              refine z_goto (pc := 84) (tgt := 10) h dX8_firstPlan_84 (by decide) ?_
              first
              | exact pF
              | exact skip hsk z1 _
            · obtain ⟨y1, y2, y3, y4, y5⟩ : V.2.2 (17 + 6 * t + 1) = mi ∧ F = fw V.2.2 (V.2.2 (17 + 6 * t + 0)) ∧ 0 ≤ F ∧ F < V.2.2 0 ∧ V.2.2 (5 + 2 * F) = V.2.2 (17 + 6 * t + 0) := by rcases hFb with w | w; exact absurd w c46; exact w
              have hrF := hFV.2.1.1 F y3 y4
              have hroom := hFV.2.1.room hwa g1 z1 y3 y4 (by have := hFV.2.2.2.2 t g1 z1 (by omega); omega)
              have e65 : mm.2 1 (65 + F) = V.2.2 (65 + F) := by rw [m1]
              have eu : zup (mm.2 1) (71 + 8 * F + mm.2 1 (65 + F)) t (65 + F) = mm.2 1 (65 + F) := zup_n _ _ (by omega)
              have pF : zW x K 10 [some (zR 31), some (zI mi), some (zI (t + 1)), some (zI F)] [] (zo σ 31 (osa (osa mm 1 (71 + 8 * F + mm.2 1 (65 + F)) t) 1 (65 + F) (zup (mm.2 1) (71 + 8 * F + mm.2 1 (65 + F)) t (65 + F) + 1))) := by
                have := put ⟨y1, by omega⟩ z1 (some (zI F))
                rw [← y2] at this
                refine Eq.mp (congrArg (fun q => zW x K 10 [some (zR 31), some (zI mi), some (zI (t + 1)), some (zI F)] [] (zo σ 31 q)) ?_) this
                unfold osa a_ap
                rw [osA_at, osA_osA, eu, m1]
              refine z_aloadR_n (pc := 49) h dX8_firstPlan_49 rfl ?_
              refine z_getA4 (pc := 50) (c := 8) (j := 1) h (by first | assumption | rfl) rfl rfl fl_X8_7 dX8_firstPlan_50 ?_
              refine z_bipush (pc := 53) h dX8_firstPlan_53 (by decide) ?_
              refine z_bipush (pc := 55) h dX8_firstPlan_55 (by decide) ?_
              refine z_iload_n (pc := 57) h dX8_firstPlan_57 rfl ?_
              refine z_imul (pc := 58) h dX8_firstPlan_58 ?_
              refine z_iadd (pc := 59) h dX8_firstPlan_59 ?_
              refine z_aloadR_n (pc := 60) h dX8_firstPlan_60 rfl ?_
              refine z_iload_n (pc := 61) h dX8_firstPlan_61 rfl ?_
              refine z_pV (pc := 62) (c := 8) h (m8_rowMany (by omega)) (by decide) (by first | assumption | rfl) rfl mv_X8_rowMany ml_X8_191 rfl dX8_firstPlan_62 rfl (Nat.le_of_ble_eq_true rfl) ?_
              refine z_iadd (pc := 65) h dX8_firstPlan_65 ?_
              refine z_iload_n (pc := 66) h dX8_firstPlan_66 rfl ?_
              refine z_iasto (pc := 67) (c := 8) (j := 1) (L := 610) h (by first | assumption | rfl) (by decide) rfl (by decide) (by omega) (by omega) (by omega) dX8_firstPlan_67 ?_
              refine z_aloadR_n (pc := 68) h dX8_firstPlan_68 rfl ?_
              refine z_getA4 (pc := 69) (c := 8) (j := 1) h (by first | assumption | rfl) rfl rfl fl_X8_7 dX8_firstPlan_69 ?_
              refine z_bipush (pc := 72) h dX8_firstPlan_72 (by decide) ?_
              refine z_iload_n (pc := 74) h dX8_firstPlan_74 rfl ?_
              refine z_iadd (pc := 75) h dX8_firstPlan_75 ?_
              refine z_dup2AI (pc := 76) h dX8_firstPlan_76 ?_
              refine z_ialdq (pc := 77) (c := 8) (j := 1) (L := 610) h (zo_s _ _ _) (by first | assumption | rfl) (by decide) rfl (by decide) (by omega) (by omega) dX8_firstPlan_77 (fun g77 => ?_)
              try simp only [osa_1, osa_2, oss_1, oss_2, osA_1, osA_2, zup_s, reduceIte, Nat.reduceEqDiff] at g77 ⊢
              refine z_iconst (pc := 78) h dX8_firstPlan_78 ?_
              refine z_iadd (pc := 79) h dX8_firstPlan_79 ?_
              refine z_iasto (pc := 80) (c := 8) (j := 1) (L := 610) h (by first | assumption | rfl) (by decide) rfl (by decide) (by omega) (by omega) (by omega) dX8_firstPlan_80 ?_
              refine z_inc_2 (pc := 81) h dX8_firstPlan_81 (by decide) rfl ?_
              refine z_goto (pc := 84) (tgt := 10) h dX8_firstPlan_84 (by decide) ?_
              first
              | exact pF
              | exact skip hsk z1 _
          refine z_iload_n (pc := 10) h dX8_firstPlan_10 rfl ?_
          refine z_aloadR_n (pc := 11) h dX8_firstPlan_11 rfl ?_
          refine z_getA4 (pc := 12) (c := 8) (j := 1) h (by first | assumption | rfl) rfl rfl fl_X8_7 dX8_firstPlan_12 ?_
          refine z_iconst (pc := 15) h dX8_firstPlan_15 ?_
          refine z_ialdq (pc := 16) (c := 8) (j := 1) (L := 610) h (zo_s _ _ _) (by first | assumption | rfl) (by decide) rfl (by decide) (by omega) (by omega) dX8_firstPlan_16 (fun g16 => ?_)
          refine z_icmp_ge (pc := 17) (tgt := 87) h (by omega) (by omega) dX8_firstPlan_17 (by decide) (fun c17 => ?_) (fun c17 => ?_)
          · refine z_inc_1 (pc := 87) h dX8_firstPlan_87 (by decide) rfl ?_
            refine z_goto (pc := 90) (tgt := 2) h dX8_firstPlan_90 (by decide) ?_
            rw [← hmm]
            refine ih (mi + 1) V _ _ (by omega) (by omega) (by omega) ?_ ?_
            · rw [zfor_S _ h1, ← hU, hV, show t = U.2.2 1 by omega]; rfl
            · have w := FPI_2 hF
              have : fp2 mi U = V := by rw [hV, show t = U.2.2 1 by omega]; rfl
              rw [this] at w; exact w
          · have htk := hwa.2.2.2.2.2.2.1 t g1 (by omega)
            refine z_aloadR_n (pc := 20) h dX8_firstPlan_20 rfl ?_
            refine z_iload_n (pc := 21) h dX8_firstPlan_21 rfl ?_
            refine z_iconst (pc := 22) h dX8_firstPlan_22 ?_
            refine z_pV (pc := 23) (c := 8) h (m8_of (by omega) (by omega)) (by decide) (by first | assumption | rfl) rfl mv_X8_of ml_X8_92 rfl dX8_firstPlan_23 rfl (Nat.le_of_ble_eq_true rfl) ?_
            refine z_iload_n (pc := 26) h dX8_firstPlan_26 rfl ?_
            refine z_icmp_ne (pc := 27) (tgt := 42) h (by omega) (by omega) dX8_firstPlan_27 (by decide) (fun c27 => ?_) (fun c27 => ?_)
            · refine z_iconst (pc := 42) h dX8_firstPlan_42 ?_
              refine z_ist_3 (pc := 43) h dX8_firstPlan_43 (by decide) rfl ?_
              first
              | exact G _ (by omega) (by rw [if_pos (by omega)])
              | exact G _ (by omega) (by rw [if_neg (by omega)])
            · refine z_aloadR_n (pc := 30) h dX8_firstPlan_30 rfl ?_
              refine z_aloadR_n (pc := 31) h dX8_firstPlan_31 rfl ?_
              refine z_iload_n (pc := 32) h dX8_firstPlan_32 rfl ?_
              refine z_pV (pc := 33) (c := 8) h (m8_isOutV (by omega) (by rw [ek]; exact htk.1)) (by decide) (by first | assumption | rfl) rfl mv_X8_isOut ml_X8_195 rfl dX8_firstPlan_33 rfl (Nat.le_of_ble_eq_true rfl) ?_
              rw [ek]
              refine z_pV (pc := 36) (c := 8) h (hfe htk.1) (by decide) (by first | assumption | rfl) rfl mv_X8_fewest ml_X8_198 rfl dX8_firstPlan_36 rfl (Nat.le_of_ble_eq_true rfl) ?_
              refine z_goto (pc := 39) (tgt := 43) h dX8_firstPlan_39 (by decide) ?_
              refine z_ist_3 (pc := 43) h dX8_firstPlan_43 (by decide) rfl ?_
              first
              | exact G _ (by omega) (by rw [if_pos (by omega)])
              | exact G _ (by omega) (by rw [if_neg (by omega)])
      refine z_iload_n (pc := 2) h dX8_firstPlan_2 rfl ?_
      refine z_bipush (pc := 3) h dX8_firstPlan_3 (by decide) ?_
      refine z_icmp_gt (pc := 5) (tgt := 93) h (by omega) (by omega) dX8_firstPlan_5 (by decide) (fun c5 => ?_) (fun c5 => ?_)
      · refine z_ret (pc := 93) h rfl dX8_firstPlan_93 ?_
        rw [← hK]
        refine ⟨rfl, ?_⟩
        rw [hU, show mi = 100 by omega, fpl]
      · refine z_iconst (pc := 8) h dX8_firstPlan_8 ?_
        refine z_ist_2 (pc := 9) h dX8_firstPlan_9 (by decide) rfl ?_
        exact L2 (U.2.2 1 + 1).toNat 0 U _ (by omega) (by omega) (by have := hF.1.2.1; omega) (by have := hF.1.2.1; omega) rfl rfl hF
  refine z_iconst (pc := 0) h dX8_firstPlan_0 ?_
  refine z_ist_1 (pc := 1) h dX8_firstPlan_1 (by decide) rfl ?_
  have := L 101 0 T none none (by omega) (by omega) (by omega) rfl hI
  rw [← e1, osA_same] at this
  exact this
