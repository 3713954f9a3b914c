/-! The class: staged at the end of a minute; the fullest. -/
theorem c_stagedAtEnd {σ : zS} {r p : Nat} {Y m : zOb} {mu z : Int} (hu : RUNH r p) (hF : FIN (σ 4) Y m) (hmu : 0 ≤ mu ∧ mu ≤ 199) (hz : -1 ≤ z ∧ z ≤ 3) : zCp M_X5_stagedAtEnd 1 [zR r, zI mu, zI z] (zo σ r Y) (zI (s_stA m mu z)) := by
  obtain ⟨hr, hr0, hr1, hp, h4, hpr⟩ := hu
  obtain ⟨hS, hD, hE, hR1, hR2, h200⟩ := hF
  have hn := hS.2.2.2.1
  have hcn : (σ 4).1 2 = m.1 20 := by rw [hE.2.2.1, hS.2.2.1]
  refine zC_of (M := M_X5_stagedAtEnd) (ls := [some (zR r), some (zI mu), some (zI z), none, none, none, none, none]) (n := 5) (by decide) (fun ad => Nat.le_of_ble_eq_true rfl) rfl (fun x h => ?_)
  have L : ∀ (n : Nat) (i acc : Int) (l5 l6 l7 : Option Value), 0 ≤ i → i ≤ m.1 20 → m.1 20 - i < n → 0 ≤ acc → acc ≤ i → acc = zcnt (fun c => decide ((z = -1 ∨ m.2 22 c = z) ∧ m.2 23 c ≠ -1 ∧ m.2 23 c ≤ mu ∧ (m.2 24 c = -1 ∨ mu < m.2 24 c))) i → zW x (fun rr τ' => rr = some (zI (s_stA m mu z)) ∧ τ' = zo σ r Y) 5 [some (zR r), some (zI mu), some (zI z), some (zI acc), some (zI i), l5, l6, l7] [] (zo σ r Y) := by
    intro n
    induction n with
    | zero => intro i acc l5 l6 l7 h1 h2 h3; omega
    | succ n ih =>
      intro i acc l5 l6 l7 h1 h2 h3 a0 a1 ha
      have hS1 := zcnt_S (fun c => decide ((z = -1 ∨ m.2 22 c = z) ∧ m.2 23 c ≠ -1 ∧ m.2 23 c ≤ mu ∧ (m.2 24 c = -1 ∨ mu < m.2 24 c))) h1
      rw [← ha] at hS1
      refine z_iload (pc := 5) h dX5_stagedAtEnd_5 rfl ?_
      refine z_aloadR_n (pc := 7) h dX5_stagedAtEnd_7 rfl ?_
      refine z_getR (pc := 8) (c := 5) (j := 0) h (by first | assumption | rfl) (by first | assumption | rfl) rfl rfl fl_X5_51 dX5_stagedAtEnd_8 ?_
      refine z_getIq (pc := 11) (c := 1) (j := 2) h (zo_n h4) (by first | assumption | rfl) rfl rfl fl_X5_101 dX5_stagedAtEnd_11 (fun g11 => ?_)
      refine z_icmp_ge (pc := 14) (tgt := 125) h (by omega) (by omega) dX5_stagedAtEnd_14 (by decide) (fun c14 => ?_) (fun c14 => ?_)
      · refine z_iload_n (pc := 125) h dX5_stagedAtEnd_125 rfl ?_
        refine z_iret (pc := 126) h rfl dX5_stagedAtEnd_126 ?_
        refine ⟨congrArg (fun z => some (zI z)) ?_, rfl⟩
        rw [ha, show i = m.1 20 by omega]
        rfl
      · obtain ⟨q5, q6, q7, q8, -⟩ := hR2 i h1 (by omega)
        have q9 := (env_c hS hE h1 (show i < m.1 20 by omega)).2
        have qb := hD.2.2.2.2.2.2.1 i h1 (by omega)
        have qz := (hS.2.2.2.2.1 i h1 (by omega)).2.2.1
        refine z_iload_n (pc := 17) h dX5_stagedAtEnd_17 rfl ?_
        refine z_iconst (pc := 18) h dX5_stagedAtEnd_18 ?_
        refine z_icmp_eq (pc := 19) (tgt := 36) h (by omega) (by omega) dX5_stagedAtEnd_19 (by decide) (fun c19 => ?_) (fun c19 => ?_)
        · refine z_iconst (pc := 36) h dX5_stagedAtEnd_36 ?_
          refine z_goto (pc := 37) (tgt := 41) h dX5_stagedAtEnd_37 (by decide) ?_
          refine z_ist_5 (pc := 41) h dX5_stagedAtEnd_41 (by decide) rfl ?_
          refine z_aloadR_n (pc := 43) h dX5_stagedAtEnd_43 rfl ?_
          refine z_getA4 (pc := 44) (c := 5) (j := 5) h (by first | assumption | rfl) rfl rfl fl_X5_21 dX5_stagedAtEnd_44 ?_
          refine z_iload (pc := 47) h dX5_stagedAtEnd_47 rfl ?_
          refine z_ialdq (pc := 49) (c := 5) (j := 5) (L := 40) h (zo_s _ _ _) (by first | assumption | rfl) (by decide) rfl (by decide) (by omega) (by omega) dX5_stagedAtEnd_49 (fun g49 => ?_)
          refine z_iconst (pc := 50) h dX5_stagedAtEnd_50 ?_
          refine z_icmp_eq (pc := 51) (tgt := 69) h (by omega) (by omega) dX5_stagedAtEnd_51 (by decide) (fun c51 => ?_) (fun c51 => ?_)
          · refine z_iconst (pc := 69) h dX5_stagedAtEnd_69 ?_
            refine z_ist_6 (pc := 70) h dX5_stagedAtEnd_70 (by decide) rfl ?_
            refine z_aloadR_n (pc := 72) h dX5_stagedAtEnd_72 rfl ?_
            refine z_getA4 (pc := 73) (c := 5) (j := 6) h (by first | assumption | rfl) rfl rfl fl_X5_24 dX5_stagedAtEnd_73 ?_
            refine z_iload (pc := 76) h dX5_stagedAtEnd_76 rfl ?_
            refine z_ialdq (pc := 78) (c := 5) (j := 6) (L := 40) h (zo_s _ _ _) (by first | assumption | rfl) (by decide) rfl (by decide) (by omega) (by omega) dX5_stagedAtEnd_78 (fun g78 => ?_)
            refine z_iconst (pc := 79) h dX5_stagedAtEnd_79 ?_
            refine z_icmp_eq (pc := 80) (tgt := 98) h (by omega) (by omega) dX5_stagedAtEnd_80 (by decide) (fun c80 => ?_) (fun c80 => ?_)
            · refine z_iconst (pc := 98) h dX5_stagedAtEnd_98 ?_
              refine z_ist_7 (pc := 99) h dX5_stagedAtEnd_99 (by decide) rfl ?_
              refine z_iload (pc := 101) h dX5_stagedAtEnd_101 rfl ?_
              refine z_if_eq (pc := 103) (tgt := 119) h (by omega) dX5_stagedAtEnd_103 (by decide) (fun c103 => ?_) (fun c103 => ?_)
              · exact absurd c103 (by decide)
              · refine z_iload (pc := 106) h dX5_stagedAtEnd_106 rfl ?_
                refine z_if_eq (pc := 108) (tgt := 119) h (by omega) dX5_stagedAtEnd_108 (by decide) (fun c108 => ?_) (fun c108 => ?_)
                · refine z_inc_4 (pc := 119) h dX5_stagedAtEnd_119 (by decide) rfl ?_
                  refine z_goto (pc := 122) (tgt := 5) h dX5_stagedAtEnd_122 (by decide) ?_
                  first
                  | (rw [if_pos (decide_eq_true (by omega))] at hS1; exact ih (i + 1) _ _ _ _ (by omega) (by omega) (by omega) (by omega) (by omega) hS1.symm)
                  | (rw [if_neg (by intro w; have := of_decide_eq_true w; omega)] at hS1; exact ih (i + 1) _ _ _ _ (by omega) (by omega) (by omega) (by omega) (by omega) hS1.symm)
                · exact absurd c108 (by decide)
            · refine z_aloadR_n (pc := 83) h dX5_stagedAtEnd_83 rfl ?_
              refine z_getA4 (pc := 84) (c := 5) (j := 6) h (by first | assumption | rfl) rfl rfl fl_X5_24 dX5_stagedAtEnd_84 ?_
              refine z_iload (pc := 87) h dX5_stagedAtEnd_87 rfl ?_
              refine z_ialdq (pc := 89) (c := 5) (j := 6) (L := 40) h (zo_s _ _ _) (by first | assumption | rfl) (by decide) rfl (by decide) (by omega) (by omega) dX5_stagedAtEnd_89 (fun g89 => ?_)
              refine z_iload_n (pc := 90) h dX5_stagedAtEnd_90 rfl ?_
              refine z_icmp_gt (pc := 91) (tgt := 98) h (by omega) (by omega) dX5_stagedAtEnd_91 (by decide) (fun c91 => ?_) (fun c91 => ?_)
              · refine z_iconst (pc := 98) h dX5_stagedAtEnd_98 ?_
                refine z_ist_7 (pc := 99) h dX5_stagedAtEnd_99 (by decide) rfl ?_
                refine z_iload (pc := 101) h dX5_stagedAtEnd_101 rfl ?_
                refine z_if_eq (pc := 103) (tgt := 119) h (by omega) dX5_stagedAtEnd_103 (by decide) (fun c103 => ?_) (fun c103 => ?_)
                · exact absurd c103 (by decide)
                · refine z_iload (pc := 106) h dX5_stagedAtEnd_106 rfl ?_
                  refine z_if_eq (pc := 108) (tgt := 119) h (by omega) dX5_stagedAtEnd_108 (by decide) (fun c108 => ?_) (fun c108 => ?_)
                  · refine z_inc_4 (pc := 119) h dX5_stagedAtEnd_119 (by decide) rfl ?_
                    refine z_goto (pc := 122) (tgt := 5) h dX5_stagedAtEnd_122 (by decide) ?_
                    first
                    | (rw [if_pos (decide_eq_true (by omega))] at hS1; exact ih (i + 1) _ _ _ _ (by omega) (by omega) (by omega) (by omega) (by omega) hS1.symm)
                    | (rw [if_neg (by intro w; have := of_decide_eq_true w; omega)] at hS1; exact ih (i + 1) _ _ _ _ (by omega) (by omega) (by omega) (by omega) (by omega) hS1.symm)
                  · exact absurd c108 (by decide)
              · refine z_iconst (pc := 94) h dX5_stagedAtEnd_94 ?_
                refine z_goto (pc := 95) (tgt := 99) h dX5_stagedAtEnd_95 (by decide) ?_
                refine z_ist_7 (pc := 99) h dX5_stagedAtEnd_99 (by decide) rfl ?_
                refine z_iload (pc := 101) h dX5_stagedAtEnd_101 rfl ?_
                refine z_if_eq (pc := 103) (tgt := 119) h (by omega) dX5_stagedAtEnd_103 (by decide) (fun c103 => ?_) (fun c103 => ?_)
                · exact absurd c103 (by decide)
                · refine z_iload (pc := 106) h dX5_stagedAtEnd_106 rfl ?_
                  refine z_if_eq (pc := 108) (tgt := 119) h (by omega) dX5_stagedAtEnd_108 (by decide) (fun c108 => ?_) (fun c108 => ?_)
                  · refine z_inc_4 (pc := 119) h dX5_stagedAtEnd_119 (by decide) rfl ?_
                    refine z_goto (pc := 122) (tgt := 5) h dX5_stagedAtEnd_122 (by decide) ?_
                    first
                    | (rw [if_pos (decide_eq_true (by omega))] at hS1; exact ih (i + 1) _ _ _ _ (by omega) (by omega) (by omega) (by omega) (by omega) hS1.symm)
                    | (rw [if_neg (by intro w; have := of_decide_eq_true w; omega)] at hS1; exact ih (i + 1) _ _ _ _ (by omega) (by omega) (by omega) (by omega) (by omega) hS1.symm)
                  · exact absurd c108 (by decide)
          · refine z_aloadR_n (pc := 54) h dX5_stagedAtEnd_54 rfl ?_
            refine z_getA4 (pc := 55) (c := 5) (j := 5) h (by first | assumption | rfl) rfl rfl fl_X5_21 dX5_stagedAtEnd_55 ?_
            refine z_iload (pc := 58) h dX5_stagedAtEnd_58 rfl ?_
            refine z_ialdq (pc := 60) (c := 5) (j := 5) (L := 40) h (zo_s _ _ _) (by first | assumption | rfl) (by decide) rfl (by decide) (by omega) (by omega) dX5_stagedAtEnd_60 (fun g60 => ?_)
            refine z_iload_n (pc := 61) h dX5_stagedAtEnd_61 rfl ?_
            refine z_icmp_gt (pc := 62) (tgt := 69) h (by omega) (by omega) dX5_stagedAtEnd_62 (by decide) (fun c62 => ?_) (fun c62 => ?_)
            · refine z_iconst (pc := 69) h dX5_stagedAtEnd_69 ?_
              refine z_ist_6 (pc := 70) h dX5_stagedAtEnd_70 (by decide) rfl ?_
              refine z_aloadR_n (pc := 72) h dX5_stagedAtEnd_72 rfl ?_
              refine z_getA4 (pc := 73) (c := 5) (j := 6) h (by first | assumption | rfl) rfl rfl fl_X5_24 dX5_stagedAtEnd_73 ?_
              refine z_iload (pc := 76) h dX5_stagedAtEnd_76 rfl ?_
              refine z_ialdq (pc := 78) (c := 5) (j := 6) (L := 40) h (zo_s _ _ _) (by first | assumption | rfl) (by decide) rfl (by decide) (by omega) (by omega) dX5_stagedAtEnd_78 (fun g78 => ?_)
              refine z_iconst (pc := 79) h dX5_stagedAtEnd_79 ?_
              refine z_icmp_eq (pc := 80) (tgt := 98) h (by omega) (by omega) dX5_stagedAtEnd_80 (by decide) (fun c80 => ?_) (fun c80 => ?_)
              · refine z_iconst (pc := 98) h dX5_stagedAtEnd_98 ?_
                refine z_ist_7 (pc := 99) h dX5_stagedAtEnd_99 (by decide) rfl ?_
                refine z_iload (pc := 101) h dX5_stagedAtEnd_101 rfl ?_
                refine z_if_eq (pc := 103) (tgt := 119) h (by omega) dX5_stagedAtEnd_103 (by decide) (fun c103 => ?_) (fun c103 => ?_)
                · exact absurd c103 (by decide)
                · refine z_iload (pc := 106) h dX5_stagedAtEnd_106 rfl ?_
                  refine z_if_eq (pc := 108) (tgt := 119) h (by omega) dX5_stagedAtEnd_108 (by decide) (fun c108 => ?_) (fun c108 => ?_)
                  · refine z_inc_4 (pc := 119) h dX5_stagedAtEnd_119 (by decide) rfl ?_
                    refine z_goto (pc := 122) (tgt := 5) h dX5_stagedAtEnd_122 (by decide) ?_
                    first
                    | (rw [if_pos (decide_eq_true (by omega))] at hS1; exact ih (i + 1) _ _ _ _ (by omega) (by omega) (by omega) (by omega) (by omega) hS1.symm)
                    | (rw [if_neg (by intro w; have := of_decide_eq_true w; omega)] at hS1; exact ih (i + 1) _ _ _ _ (by omega) (by omega) (by omega) (by omega) (by omega) hS1.symm)
                  · exact absurd c108 (by decide)
              · refine z_aloadR_n (pc := 83) h dX5_stagedAtEnd_83 rfl ?_
                refine z_getA4 (pc := 84) (c := 5) (j := 6) h (by first | assumption | rfl) rfl rfl fl_X5_24 dX5_stagedAtEnd_84 ?_
                refine z_iload (pc := 87) h dX5_stagedAtEnd_87 rfl ?_
                refine z_ialdq (pc := 89) (c := 5) (j := 6) (L := 40) h (zo_s _ _ _) (by first | assumption | rfl) (by decide) rfl (by decide) (by omega) (by omega) dX5_stagedAtEnd_89 (fun g89 => ?_)
                refine z_iload_n (pc := 90) h dX5_stagedAtEnd_90 rfl ?_
                refine z_icmp_gt (pc := 91) (tgt := 98) h (by omega) (by omega) dX5_stagedAtEnd_91 (by decide) (fun c91 => ?_) (fun c91 => ?_)
                · refine z_iconst (pc := 98) h dX5_stagedAtEnd_98 ?_
                  refine z_ist_7 (pc := 99) h dX5_stagedAtEnd_99 (by decide) rfl ?_
                  refine z_iload (pc := 101) h dX5_stagedAtEnd_101 rfl ?_
                  refine z_if_eq (pc := 103) (tgt := 119) h (by omega) dX5_stagedAtEnd_103 (by decide) (fun c103 => ?_) (fun c103 => ?_)
                  · exact absurd c103 (by decide)
                  · refine z_iload (pc := 106) h dX5_stagedAtEnd_106 rfl ?_
                    refine z_if_eq (pc := 108) (tgt := 119) h (by omega) dX5_stagedAtEnd_108 (by decide) (fun c108 => ?_) (fun c108 => ?_)
                    · refine z_inc_4 (pc := 119) h dX5_stagedAtEnd_119 (by decide) rfl ?_
                      refine z_goto (pc := 122) (tgt := 5) h dX5_stagedAtEnd_122 (by decide) ?_
                      first
                      | (rw [if_pos (decide_eq_true (by omega))] at hS1; exact ih (i + 1) _ _ _ _ (by omega) (by omega) (by omega) (by omega) (by omega) hS1.symm)
                      | (rw [if_neg (by intro w; have := of_decide_eq_true w; omega)] at hS1; exact ih (i + 1) _ _ _ _ (by omega) (by omega) (by omega) (by omega) (by omega) hS1.symm)
                    · exact absurd c108 (by decide)
                · refine z_iconst (pc := 94) h dX5_stagedAtEnd_94 ?_
                  refine z_goto (pc := 95) (tgt := 99) h dX5_stagedAtEnd_95 (by decide) ?_
                  refine z_ist_7 (pc := 99) h dX5_stagedAtEnd_99 (by decide) rfl ?_
                  refine z_iload (pc := 101) h dX5_stagedAtEnd_101 rfl ?_
                  refine z_if_eq (pc := 103) (tgt := 119) h (by omega) dX5_stagedAtEnd_103 (by decide) (fun c103 => ?_) (fun c103 => ?_)
                  · exact absurd c103 (by decide)
                  · refine z_iload (pc := 106) h dX5_stagedAtEnd_106 rfl ?_
                    refine z_if_eq (pc := 108) (tgt := 119) h (by omega) dX5_stagedAtEnd_108 (by decide) (fun c108 => ?_) (fun c108 => ?_)
                    · refine z_inc_4 (pc := 119) h dX5_stagedAtEnd_119 (by decide) rfl ?_
                      refine z_goto (pc := 122) (tgt := 5) h dX5_stagedAtEnd_122 (by decide) ?_
                      first
                      | (rw [if_pos (decide_eq_true (by omega))] at hS1; exact ih (i + 1) _ _ _ _ (by omega) (by omega) (by omega) (by omega) (by omega) hS1.symm)
                      | (rw [if_neg (by intro w; have := of_decide_eq_true w; omega)] at hS1; exact ih (i + 1) _ _ _ _ (by omega) (by omega) (by omega) (by omega) (by omega) hS1.symm)
                    · exact absurd c108 (by decide)
            · refine z_iconst (pc := 65) h dX5_stagedAtEnd_65 ?_
              refine z_goto (pc := 66) (tgt := 70) h dX5_stagedAtEnd_66 (by decide) ?_
              refine z_ist_6 (pc := 70) h dX5_stagedAtEnd_70 (by decide) rfl ?_
              refine z_aloadR_n (pc := 72) h dX5_stagedAtEnd_72 rfl ?_
              refine z_getA4 (pc := 73) (c := 5) (j := 6) h (by first | assumption | rfl) rfl rfl fl_X5_24 dX5_stagedAtEnd_73 ?_
              refine z_iload (pc := 76) h dX5_stagedAtEnd_76 rfl ?_
              refine z_ialdq (pc := 78) (c := 5) (j := 6) (L := 40) h (zo_s _ _ _) (by first | assumption | rfl) (by decide) rfl (by decide) (by omega) (by omega) dX5_stagedAtEnd_78 (fun g78 => ?_)
              refine z_iconst (pc := 79) h dX5_stagedAtEnd_79 ?_
              refine z_icmp_eq (pc := 80) (tgt := 98) h (by omega) (by omega) dX5_stagedAtEnd_80 (by decide) (fun c80 => ?_) (fun c80 => ?_)
              · refine z_iconst (pc := 98) h dX5_stagedAtEnd_98 ?_
                refine z_ist_7 (pc := 99) h dX5_stagedAtEnd_99 (by decide) rfl ?_
                refine z_iload (pc := 101) h dX5_stagedAtEnd_101 rfl ?_
                refine z_if_eq (pc := 103) (tgt := 119) h (by omega) dX5_stagedAtEnd_103 (by decide) (fun c103 => ?_) (fun c103 => ?_)
                · exact absurd c103 (by decide)
                · refine z_iload (pc := 106) h dX5_stagedAtEnd_106 rfl ?_
                  refine z_if_eq (pc := 108) (tgt := 119) h (by omega) dX5_stagedAtEnd_108 (by decide) (fun c108 => ?_) (fun c108 => ?_)
                  · exact absurd c108 (by decide)
                  · refine z_iload (pc := 111) h dX5_stagedAtEnd_111 rfl ?_
                    refine z_if_ne (pc := 113) (tgt := 119) h (by omega) dX5_stagedAtEnd_113 (by decide) (fun c113 => ?_) (fun c113 => ?_)
                    · exact absurd c113 (by decide)
                    · refine z_inc_3 (pc := 116) h dX5_stagedAtEnd_116 (by decide) rfl ?_
                      refine z_inc_4 (pc := 119) h dX5_stagedAtEnd_119 (by decide) rfl ?_
                      refine z_goto (pc := 122) (tgt := 5) h dX5_stagedAtEnd_122 (by decide) ?_
                      first
                      | (rw [if_pos (decide_eq_true (by omega))] at hS1; exact ih (i + 1) _ _ _ _ (by omega) (by omega) (by omega) (by omega) (by omega) hS1.symm)
                      | (rw [if_neg (by intro w; have := of_decide_eq_true w; omega)] at hS1; exact ih (i + 1) _ _ _ _ (by omega) (by omega) (by omega) (by omega) (by omega) hS1.symm)
              · refine z_aloadR_n (pc := 83) h dX5_stagedAtEnd_83 rfl ?_
                refine z_getA4 (pc := 84) (c := 5) (j := 6) h (by first | assumption | rfl) rfl rfl fl_X5_24 dX5_stagedAtEnd_84 ?_
                refine z_iload (pc := 87) h dX5_stagedAtEnd_87 rfl ?_
                refine z_ialdq (pc := 89) (c := 5) (j := 6) (L := 40) h (zo_s _ _ _) (by first | assumption | rfl) (by decide) rfl (by decide) (by omega) (by omega) dX5_stagedAtEnd_89 (fun g89 => ?_)
                refine z_iload_n (pc := 90) h dX5_stagedAtEnd_90 rfl ?_
                refine z_icmp_gt (pc := 91) (tgt := 98) h (by omega) (by omega) dX5_stagedAtEnd_91 (by decide) (fun c91 => ?_) (fun c91 => ?_)
                · refine z_iconst (pc := 98) h dX5_stagedAtEnd_98 ?_
                  refine z_ist_7 (pc := 99) h dX5_stagedAtEnd_99 (by decide) rfl ?_
                  refine z_iload (pc := 101) h dX5_stagedAtEnd_101 rfl ?_
                  refine z_if_eq (pc := 103) (tgt := 119) h (by omega) dX5_stagedAtEnd_103 (by decide) (fun c103 => ?_) (fun c103 => ?_)
                  · exact absurd c103 (by decide)
                  · refine z_iload (pc := 106) h dX5_stagedAtEnd_106 rfl ?_
                    refine z_if_eq (pc := 108) (tgt := 119) h (by omega) dX5_stagedAtEnd_108 (by decide) (fun c108 => ?_) (fun c108 => ?_)
                    · exact absurd c108 (by decide)
                    · refine z_iload (pc := 111) h dX5_stagedAtEnd_111 rfl ?_
                      refine z_if_ne (pc := 113) (tgt := 119) h (by omega) dX5_stagedAtEnd_113 (by decide) (fun c113 => ?_) (fun c113 => ?_)
                      · exact absurd c113 (by decide)
                      · refine z_inc_3 (pc := 116) h dX5_stagedAtEnd_116 (by decide) rfl ?_
                        refine z_inc_4 (pc := 119) h dX5_stagedAtEnd_119 (by decide) rfl ?_
                        refine z_goto (pc := 122) (tgt := 5) h dX5_stagedAtEnd_122 (by decide) ?_
                        first
                        | (rw [if_pos (decide_eq_true (by omega))] at hS1; exact ih (i + 1) _ _ _ _ (by omega) (by omega) (by omega) (by omega) (by omega) hS1.symm)
                        | (rw [if_neg (by intro w; have := of_decide_eq_true w; omega)] at hS1; exact ih (i + 1) _ _ _ _ (by omega) (by omega) (by omega) (by omega) (by omega) hS1.symm)
                · refine z_iconst (pc := 94) h dX5_stagedAtEnd_94 ?_
                  refine z_goto (pc := 95) (tgt := 99) h dX5_stagedAtEnd_95 (by decide) ?_
                  refine z_ist_7 (pc := 99) h dX5_stagedAtEnd_99 (by decide) rfl ?_
                  refine z_iload (pc := 101) h dX5_stagedAtEnd_101 rfl ?_
                  refine z_if_eq (pc := 103) (tgt := 119) h (by omega) dX5_stagedAtEnd_103 (by decide) (fun c103 => ?_) (fun c103 => ?_)
                  · exact absurd c103 (by decide)
                  · refine z_iload (pc := 106) h dX5_stagedAtEnd_106 rfl ?_
                    refine z_if_eq (pc := 108) (tgt := 119) h (by omega) dX5_stagedAtEnd_108 (by decide) (fun c108 => ?_) (fun c108 => ?_)
                    · exact absurd c108 (by decide)
                    · refine z_iload (pc := 111) h dX5_stagedAtEnd_111 rfl ?_
                      refine z_if_ne (pc := 113) (tgt := 119) h (by omega) dX5_stagedAtEnd_113 (by decide) (fun c113 => ?_) (fun c113 => ?_)
                      · refine z_inc_4 (pc := 119) h dX5_stagedAtEnd_119 (by decide) rfl ?_
                        refine z_goto (pc := 122) (tgt := 5) h dX5_stagedAtEnd_122 (by decide) ?_
                        first
                        | (rw [if_pos (decide_eq_true (by omega))] at hS1; exact ih (i + 1) _ _ _ _ (by omega) (by omega) (by omega) (by omega) (by omega) hS1.symm)
                        | (rw [if_neg (by intro w; have := of_decide_eq_true w; omega)] at hS1; exact ih (i + 1) _ _ _ _ (by omega) (by omega) (by omega) (by omega) (by omega) hS1.symm)
                      · exact absurd c113 (by decide)
        · refine z_aloadR_n (pc := 22) h dX5_stagedAtEnd_22 rfl ?_
          refine z_getR (pc := 23) (c := 5) (j := 0) h (by first | assumption | rfl) (by first | assumption | rfl) rfl rfl fl_X5_51 dX5_stagedAtEnd_23 ?_
          refine z_getA4 (pc := 26) (c := 1) (j := 15) h (by first | assumption | rfl) rfl rfl fl_X5_134 dX5_stagedAtEnd_26 ?_
          refine z_iload (pc := 29) h dX5_stagedAtEnd_29 rfl ?_
          refine z_ialdq (pc := 31) (c := 1) (j := 15) (L := 40) h (zo_n h4) (by first | assumption | rfl) (by decide) rfl (by decide) (by omega) (by omega) dX5_stagedAtEnd_31 (fun g31 => ?_)
          refine z_iload_n (pc := 32) h dX5_stagedAtEnd_32 rfl ?_
          refine z_icmp_ne (pc := 33) (tgt := 40) h (by omega) (by omega) dX5_stagedAtEnd_33 (by decide) (fun c33 => ?_) (fun c33 => ?_)
          · refine z_iconst (pc := 40) h dX5_stagedAtEnd_40 ?_
            refine z_ist_5 (pc := 41) h dX5_stagedAtEnd_41 (by decide) rfl ?_
            refine z_aloadR_n (pc := 43) h dX5_stagedAtEnd_43 rfl ?_
            refine z_getA4 (pc := 44) (c := 5) (j := 5) h (by first | assumption | rfl) rfl rfl fl_X5_21 dX5_stagedAtEnd_44 ?_
            refine z_iload (pc := 47) h dX5_stagedAtEnd_47 rfl ?_
            refine z_ialdq (pc := 49) (c := 5) (j := 5) (L := 40) h (zo_s _ _ _) (by first | assumption | rfl) (by decide) rfl (by decide) (by omega) (by omega) dX5_stagedAtEnd_49 (fun g49 => ?_)
            refine z_iconst (pc := 50) h dX5_stagedAtEnd_50 ?_
            refine z_icmp_eq (pc := 51) (tgt := 69) h (by omega) (by omega) dX5_stagedAtEnd_51 (by decide) (fun c51 => ?_) (fun c51 => ?_)
            · refine z_iconst (pc := 69) h dX5_stagedAtEnd_69 ?_
              refine z_ist_6 (pc := 70) h dX5_stagedAtEnd_70 (by decide) rfl ?_
              refine z_aloadR_n (pc := 72) h dX5_stagedAtEnd_72 rfl ?_
              refine z_getA4 (pc := 73) (c := 5) (j := 6) h (by first | assumption | rfl) rfl rfl fl_X5_24 dX5_stagedAtEnd_73 ?_
              refine z_iload (pc := 76) h dX5_stagedAtEnd_76 rfl ?_
              refine z_ialdq (pc := 78) (c := 5) (j := 6) (L := 40) h (zo_s _ _ _) (by first | assumption | rfl) (by decide) rfl (by decide) (by omega) (by omega) dX5_stagedAtEnd_78 (fun g78 => ?_)
              refine z_iconst (pc := 79) h dX5_stagedAtEnd_79 ?_
              refine z_icmp_eq (pc := 80) (tgt := 98) h (by omega) (by omega) dX5_stagedAtEnd_80 (by decide) (fun c80 => ?_) (fun c80 => ?_)
              · refine z_iconst (pc := 98) h dX5_stagedAtEnd_98 ?_
                refine z_ist_7 (pc := 99) h dX5_stagedAtEnd_99 (by decide) rfl ?_
                refine z_iload (pc := 101) h dX5_stagedAtEnd_101 rfl ?_
                refine z_if_eq (pc := 103) (tgt := 119) h (by omega) dX5_stagedAtEnd_103 (by decide) (fun c103 => ?_) (fun c103 => ?_)
                · refine z_inc_4 (pc := 119) h dX5_stagedAtEnd_119 (by decide) rfl ?_
                  refine z_goto (pc := 122) (tgt := 5) h dX5_stagedAtEnd_122 (by decide) ?_
                  first
                  | (rw [if_pos (decide_eq_true (by omega))] at hS1; exact ih (i + 1) _ _ _ _ (by omega) (by omega) (by omega) (by omega) (by omega) hS1.symm)
                  | (rw [if_neg (by intro w; have := of_decide_eq_true w; omega)] at hS1; exact ih (i + 1) _ _ _ _ (by omega) (by omega) (by omega) (by omega) (by omega) hS1.symm)
                · exact absurd c103 (by decide)
              · refine z_aloadR_n (pc := 83) h dX5_stagedAtEnd_83 rfl ?_
                refine z_getA4 (pc := 84) (c := 5) (j := 6) h (by first | assumption | rfl) rfl rfl fl_X5_24 dX5_stagedAtEnd_84 ?_
                refine z_iload (pc := 87) h dX5_stagedAtEnd_87 rfl ?_
                refine z_ialdq (pc := 89) (c := 5) (j := 6) (L := 40) h (zo_s _ _ _) (by first | assumption | rfl) (by decide) rfl (by decide) (by omega) (by omega) dX5_stagedAtEnd_89 (fun g89 => ?_)
                refine z_iload_n (pc := 90) h dX5_stagedAtEnd_90 rfl ?_
                refine z_icmp_gt (pc := 91) (tgt := 98) h (by omega) (by omega) dX5_stagedAtEnd_91 (by decide) (fun c91 => ?_) (fun c91 => ?_)
                · refine z_iconst (pc := 98) h dX5_stagedAtEnd_98 ?_
                  refine z_ist_7 (pc := 99) h dX5_stagedAtEnd_99 (by decide) rfl ?_
                  refine z_iload (pc := 101) h dX5_stagedAtEnd_101 rfl ?_
                  refine z_if_eq (pc := 103) (tgt := 119) h (by omega) dX5_stagedAtEnd_103 (by decide) (fun c103 => ?_) (fun c103 => ?_)
                  · refine z_inc_4 (pc := 119) h dX5_stagedAtEnd_119 (by decide) rfl ?_
                    refine z_goto (pc := 122) (tgt := 5) h dX5_stagedAtEnd_122 (by decide) ?_
                    first
                    | (rw [if_pos (decide_eq_true (by omega))] at hS1; exact ih (i + 1) _ _ _ _ (by omega) (by omega) (by omega) (by omega) (by omega) hS1.symm)
                    | (rw [if_neg (by intro w; have := of_decide_eq_true w; omega)] at hS1; exact ih (i + 1) _ _ _ _ (by omega) (by omega) (by omega) (by omega) (by omega) hS1.symm)
                  · exact absurd c103 (by decide)
                · refine z_iconst (pc := 94) h dX5_stagedAtEnd_94 ?_
                  refine z_goto (pc := 95) (tgt := 99) h dX5_stagedAtEnd_95 (by decide) ?_
                  refine z_ist_7 (pc := 99) h dX5_stagedAtEnd_99 (by decide) rfl ?_
                  refine z_iload (pc := 101) h dX5_stagedAtEnd_101 rfl ?_
                  refine z_if_eq (pc := 103) (tgt := 119) h (by omega) dX5_stagedAtEnd_103 (by decide) (fun c103 => ?_) (fun c103 => ?_)
                  · refine z_inc_4 (pc := 119) h dX5_stagedAtEnd_119 (by decide) rfl ?_
                    refine z_goto (pc := 122) (tgt := 5) h dX5_stagedAtEnd_122 (by decide) ?_
                    first
                    | (rw [if_pos (decide_eq_true (by omega))] at hS1; exact ih (i + 1) _ _ _ _ (by omega) (by omega) (by omega) (by omega) (by omega) hS1.symm)
                    | (rw [if_neg (by intro w; have := of_decide_eq_true w; omega)] at hS1; exact ih (i + 1) _ _ _ _ (by omega) (by omega) (by omega) (by omega) (by omega) hS1.symm)
                  · exact absurd c103 (by decide)
            · refine z_aloadR_n (pc := 54) h dX5_stagedAtEnd_54 rfl ?_
              refine z_getA4 (pc := 55) (c := 5) (j := 5) h (by first | assumption | rfl) rfl rfl fl_X5_21 dX5_stagedAtEnd_55 ?_
              refine z_iload (pc := 58) h dX5_stagedAtEnd_58 rfl ?_
              refine z_ialdq (pc := 60) (c := 5) (j := 5) (L := 40) h (zo_s _ _ _) (by first | assumption | rfl) (by decide) rfl (by decide) (by omega) (by omega) dX5_stagedAtEnd_60 (fun g60 => ?_)
              refine z_iload_n (pc := 61) h dX5_stagedAtEnd_61 rfl ?_
              refine z_icmp_gt (pc := 62) (tgt := 69) h (by omega) (by omega) dX5_stagedAtEnd_62 (by decide) (fun c62 => ?_) (fun c62 => ?_)
              · refine z_iconst (pc := 69) h dX5_stagedAtEnd_69 ?_
                refine z_ist_6 (pc := 70) h dX5_stagedAtEnd_70 (by decide) rfl ?_
                refine z_aloadR_n (pc := 72) h dX5_stagedAtEnd_72 rfl ?_
                refine z_getA4 (pc := 73) (c := 5) (j := 6) h (by first | assumption | rfl) rfl rfl fl_X5_24 dX5_stagedAtEnd_73 ?_
                refine z_iload (pc := 76) h dX5_stagedAtEnd_76 rfl ?_
                refine z_ialdq (pc := 78) (c := 5) (j := 6) (L := 40) h (zo_s _ _ _) (by first | assumption | rfl) (by decide) rfl (by decide) (by omega) (by omega) dX5_stagedAtEnd_78 (fun g78 => ?_)
                refine z_iconst (pc := 79) h dX5_stagedAtEnd_79 ?_
                refine z_icmp_eq (pc := 80) (tgt := 98) h (by omega) (by omega) dX5_stagedAtEnd_80 (by decide) (fun c80 => ?_) (fun c80 => ?_)
                · refine z_iconst (pc := 98) h dX5_stagedAtEnd_98 ?_
                  refine z_ist_7 (pc := 99) h dX5_stagedAtEnd_99 (by decide) rfl ?_
                  refine z_iload (pc := 101) h dX5_stagedAtEnd_101 rfl ?_
                  refine z_if_eq (pc := 103) (tgt := 119) h (by omega) dX5_stagedAtEnd_103 (by decide) (fun c103 => ?_) (fun c103 => ?_)
                  · refine z_inc_4 (pc := 119) h dX5_stagedAtEnd_119 (by decide) rfl ?_
                    refine z_goto (pc := 122) (tgt := 5) h dX5_stagedAtEnd_122 (by decide) ?_
                    first
                    | (rw [if_pos (decide_eq_true (by omega))] at hS1; exact ih (i + 1) _ _ _ _ (by omega) (by omega) (by omega) (by omega) (by omega) hS1.symm)
                    | (rw [if_neg (by intro w; have := of_decide_eq_true w; omega)] at hS1; exact ih (i + 1) _ _ _ _ (by omega) (by omega) (by omega) (by omega) (by omega) hS1.symm)
                  · exact absurd c103 (by decide)
                · refine z_aloadR_n (pc := 83) h dX5_stagedAtEnd_83 rfl ?_
                  refine z_getA4 (pc := 84) (c := 5) (j := 6) h (by first | assumption | rfl) rfl rfl fl_X5_24 dX5_stagedAtEnd_84 ?_
                  refine z_iload (pc := 87) h dX5_stagedAtEnd_87 rfl ?_
                  refine z_ialdq (pc := 89) (c := 5) (j := 6) (L := 40) h (zo_s _ _ _) (by first | assumption | rfl) (by decide) rfl (by decide) (by omega) (by omega) dX5_stagedAtEnd_89 (fun g89 => ?_)
                  refine z_iload_n (pc := 90) h dX5_stagedAtEnd_90 rfl ?_
                  refine z_icmp_gt (pc := 91) (tgt := 98) h (by omega) (by omega) dX5_stagedAtEnd_91 (by decide) (fun c91 => ?_) (fun c91 => ?_)
                  · refine z_iconst (pc := 98) h dX5_stagedAtEnd_98 ?_
                    refine z_ist_7 (pc := 99) h dX5_stagedAtEnd_99 (by decide) rfl ?_
                    refine z_iload (pc := 101) h dX5_stagedAtEnd_101 rfl ?_
                    refine z_if_eq (pc := 103) (tgt := 119) h (by omega) dX5_stagedAtEnd_103 (by decide) (fun c103 => ?_) (fun c103 => ?_)
                    · refine z_inc_4 (pc := 119) h dX5_stagedAtEnd_119 (by decide) rfl ?_
                      refine z_goto (pc := 122) (tgt := 5) h dX5_stagedAtEnd_122 (by decide) ?_
                      first
                      | (rw [if_pos (decide_eq_true (by omega))] at hS1; exact ih (i + 1) _ _ _ _ (by omega) (by omega) (by omega) (by omega) (by omega) hS1.symm)
                      | (rw [if_neg (by intro w; have := of_decide_eq_true w; omega)] at hS1; exact ih (i + 1) _ _ _ _ (by omega) (by omega) (by omega) (by omega) (by omega) hS1.symm)
                    · exact absurd c103 (by decide)
                  · refine z_iconst (pc := 94) h dX5_stagedAtEnd_94 ?_
                    refine z_goto (pc := 95) (tgt := 99) h dX5_stagedAtEnd_95 (by decide) ?_
                    refine z_ist_7 (pc := 99) h dX5_stagedAtEnd_99 (by decide) rfl ?_
                    refine z_iload (pc := 101) h dX5_stagedAtEnd_101 rfl ?_
                    refine z_if_eq (pc := 103) (tgt := 119) h (by omega) dX5_stagedAtEnd_103 (by decide) (fun c103 => ?_) (fun c103 => ?_)
                    · refine z_inc_4 (pc := 119) h dX5_stagedAtEnd_119 (by decide) rfl ?_
                      refine z_goto (pc := 122) (tgt := 5) h dX5_stagedAtEnd_122 (by decide) ?_
                      first
                      | (rw [if_pos (decide_eq_true (by omega))] at hS1; exact ih (i + 1) _ _ _ _ (by omega) (by omega) (by omega) (by omega) (by omega) hS1.symm)
                      | (rw [if_neg (by intro w; have := of_decide_eq_true w; omega)] at hS1; exact ih (i + 1) _ _ _ _ (by omega) (by omega) (by omega) (by omega) (by omega) hS1.symm)
                    · exact absurd c103 (by decide)
              · refine z_iconst (pc := 65) h dX5_stagedAtEnd_65 ?_
                refine z_goto (pc := 66) (tgt := 70) h dX5_stagedAtEnd_66 (by decide) ?_
                refine z_ist_6 (pc := 70) h dX5_stagedAtEnd_70 (by decide) rfl ?_
                refine z_aloadR_n (pc := 72) h dX5_stagedAtEnd_72 rfl ?_
                refine z_getA4 (pc := 73) (c := 5) (j := 6) h (by first | assumption | rfl) rfl rfl fl_X5_24 dX5_stagedAtEnd_73 ?_
                refine z_iload (pc := 76) h dX5_stagedAtEnd_76 rfl ?_
                refine z_ialdq (pc := 78) (c := 5) (j := 6) (L := 40) h (zo_s _ _ _) (by first | assumption | rfl) (by decide) rfl (by decide) (by omega) (by omega) dX5_stagedAtEnd_78 (fun g78 => ?_)
                refine z_iconst (pc := 79) h dX5_stagedAtEnd_79 ?_
                refine z_icmp_eq (pc := 80) (tgt := 98) h (by omega) (by omega) dX5_stagedAtEnd_80 (by decide) (fun c80 => ?_) (fun c80 => ?_)
                · refine z_iconst (pc := 98) h dX5_stagedAtEnd_98 ?_
                  refine z_ist_7 (pc := 99) h dX5_stagedAtEnd_99 (by decide) rfl ?_
                  refine z_iload (pc := 101) h dX5_stagedAtEnd_101 rfl ?_
                  refine z_if_eq (pc := 103) (tgt := 119) h (by omega) dX5_stagedAtEnd_103 (by decide) (fun c103 => ?_) (fun c103 => ?_)
                  · refine z_inc_4 (pc := 119) h dX5_stagedAtEnd_119 (by decide) rfl ?_
                    refine z_goto (pc := 122) (tgt := 5) h dX5_stagedAtEnd_122 (by decide) ?_
                    first
                    | (rw [if_pos (decide_eq_true (by omega))] at hS1; exact ih (i + 1) _ _ _ _ (by omega) (by omega) (by omega) (by omega) (by omega) hS1.symm)
                    | (rw [if_neg (by intro w; have := of_decide_eq_true w; omega)] at hS1; exact ih (i + 1) _ _ _ _ (by omega) (by omega) (by omega) (by omega) (by omega) hS1.symm)
                  · exact absurd c103 (by decide)
                · refine z_aloadR_n (pc := 83) h dX5_stagedAtEnd_83 rfl ?_
                  refine z_getA4 (pc := 84) (c := 5) (j := 6) h (by first | assumption | rfl) rfl rfl fl_X5_24 dX5_stagedAtEnd_84 ?_
                  refine z_iload (pc := 87) h dX5_stagedAtEnd_87 rfl ?_
                  refine z_ialdq (pc := 89) (c := 5) (j := 6) (L := 40) h (zo_s _ _ _) (by first | assumption | rfl) (by decide) rfl (by decide) (by omega) (by omega) dX5_stagedAtEnd_89 (fun g89 => ?_)
                  refine z_iload_n (pc := 90) h dX5_stagedAtEnd_90 rfl ?_
                  refine z_icmp_gt (pc := 91) (tgt := 98) h (by omega) (by omega) dX5_stagedAtEnd_91 (by decide) (fun c91 => ?_) (fun c91 => ?_)
                  · refine z_iconst (pc := 98) h dX5_stagedAtEnd_98 ?_
                    refine z_ist_7 (pc := 99) h dX5_stagedAtEnd_99 (by decide) rfl ?_
                    refine z_iload (pc := 101) h dX5_stagedAtEnd_101 rfl ?_
                    refine z_if_eq (pc := 103) (tgt := 119) h (by omega) dX5_stagedAtEnd_103 (by decide) (fun c103 => ?_) (fun c103 => ?_)
                    · refine z_inc_4 (pc := 119) h dX5_stagedAtEnd_119 (by decide) rfl ?_
                      refine z_goto (pc := 122) (tgt := 5) h dX5_stagedAtEnd_122 (by decide) ?_
                      first
                      | (rw [if_pos (decide_eq_true (by omega))] at hS1; exact ih (i + 1) _ _ _ _ (by omega) (by omega) (by omega) (by omega) (by omega) hS1.symm)
                      | (rw [if_neg (by intro w; have := of_decide_eq_true w; omega)] at hS1; exact ih (i + 1) _ _ _ _ (by omega) (by omega) (by omega) (by omega) (by omega) hS1.symm)
                    · exact absurd c103 (by decide)
                  · refine z_iconst (pc := 94) h dX5_stagedAtEnd_94 ?_
                    refine z_goto (pc := 95) (tgt := 99) h dX5_stagedAtEnd_95 (by decide) ?_
                    refine z_ist_7 (pc := 99) h dX5_stagedAtEnd_99 (by decide) rfl ?_
                    refine z_iload (pc := 101) h dX5_stagedAtEnd_101 rfl ?_
                    refine z_if_eq (pc := 103) (tgt := 119) h (by omega) dX5_stagedAtEnd_103 (by decide) (fun c103 => ?_) (fun c103 => ?_)
                    · refine z_inc_4 (pc := 119) h dX5_stagedAtEnd_119 (by decide) rfl ?_
                      refine z_goto (pc := 122) (tgt := 5) h dX5_stagedAtEnd_122 (by decide) ?_
                      first
                      | (rw [if_pos (decide_eq_true (by omega))] at hS1; exact ih (i + 1) _ _ _ _ (by omega) (by omega) (by omega) (by omega) (by omega) hS1.symm)
                      | (rw [if_neg (by intro w; have := of_decide_eq_true w; omega)] at hS1; exact ih (i + 1) _ _ _ _ (by omega) (by omega) (by omega) (by omega) (by omega) hS1.symm)
                    · exact absurd c103 (by decide)
          · refine z_iconst (pc := 36) h dX5_stagedAtEnd_36 ?_
            refine z_goto (pc := 37) (tgt := 41) h dX5_stagedAtEnd_37 (by decide) ?_
            refine z_ist_5 (pc := 41) h dX5_stagedAtEnd_41 (by decide) rfl ?_
            refine z_aloadR_n (pc := 43) h dX5_stagedAtEnd_43 rfl ?_
            refine z_getA4 (pc := 44) (c := 5) (j := 5) h (by first | assumption | rfl) rfl rfl fl_X5_21 dX5_stagedAtEnd_44 ?_
            refine z_iload (pc := 47) h dX5_stagedAtEnd_47 rfl ?_
            refine z_ialdq (pc := 49) (c := 5) (j := 5) (L := 40) h (zo_s _ _ _) (by first | assumption | rfl) (by decide) rfl (by decide) (by omega) (by omega) dX5_stagedAtEnd_49 (fun g49 => ?_)
            refine z_iconst (pc := 50) h dX5_stagedAtEnd_50 ?_
            refine z_icmp_eq (pc := 51) (tgt := 69) h (by omega) (by omega) dX5_stagedAtEnd_51 (by decide) (fun c51 => ?_) (fun c51 => ?_)
            · refine z_iconst (pc := 69) h dX5_stagedAtEnd_69 ?_
              refine z_ist_6 (pc := 70) h dX5_stagedAtEnd_70 (by decide) rfl ?_
              refine z_aloadR_n (pc := 72) h dX5_stagedAtEnd_72 rfl ?_
              refine z_getA4 (pc := 73) (c := 5) (j := 6) h (by first | assumption | rfl) rfl rfl fl_X5_24 dX5_stagedAtEnd_73 ?_
              refine z_iload (pc := 76) h dX5_stagedAtEnd_76 rfl ?_
              refine z_ialdq (pc := 78) (c := 5) (j := 6) (L := 40) h (zo_s _ _ _) (by first | assumption | rfl) (by decide) rfl (by decide) (by omega) (by omega) dX5_stagedAtEnd_78 (fun g78 => ?_)
              refine z_iconst (pc := 79) h dX5_stagedAtEnd_79 ?_
              refine z_icmp_eq (pc := 80) (tgt := 98) h (by omega) (by omega) dX5_stagedAtEnd_80 (by decide) (fun c80 => ?_) (fun c80 => ?_)
              · refine z_iconst (pc := 98) h dX5_stagedAtEnd_98 ?_
                refine z_ist_7 (pc := 99) h dX5_stagedAtEnd_99 (by decide) rfl ?_
                refine z_iload (pc := 101) h dX5_stagedAtEnd_101 rfl ?_
                refine z_if_eq (pc := 103) (tgt := 119) h (by omega) dX5_stagedAtEnd_103 (by decide) (fun c103 => ?_) (fun c103 => ?_)
                · exact absurd c103 (by decide)
                · refine z_iload (pc := 106) h dX5_stagedAtEnd_106 rfl ?_
                  refine z_if_eq (pc := 108) (tgt := 119) h (by omega) dX5_stagedAtEnd_108 (by decide) (fun c108 => ?_) (fun c108 => ?_)
                  · refine z_inc_4 (pc := 119) h dX5_stagedAtEnd_119 (by decide) rfl ?_
                    refine z_goto (pc := 122) (tgt := 5) h dX5_stagedAtEnd_122 (by decide) ?_
                    first
                    | (rw [if_pos (decide_eq_true (by omega))] at hS1; exact ih (i + 1) _ _ _ _ (by omega) (by omega) (by omega) (by omega) (by omega) hS1.symm)
                    | (rw [if_neg (by intro w; have := of_decide_eq_true w; omega)] at hS1; exact ih (i + 1) _ _ _ _ (by omega) (by omega) (by omega) (by omega) (by omega) hS1.symm)
                  · exact absurd c108 (by decide)
              · refine z_aloadR_n (pc := 83) h dX5_stagedAtEnd_83 rfl ?_
                refine z_getA4 (pc := 84) (c := 5) (j := 6) h (by first | assumption | rfl) rfl rfl fl_X5_24 dX5_stagedAtEnd_84 ?_
                refine z_iload (pc := 87) h dX5_stagedAtEnd_87 rfl ?_
                refine z_ialdq (pc := 89) (c := 5) (j := 6) (L := 40) h (zo_s _ _ _) (by first | assumption | rfl) (by decide) rfl (by decide) (by omega) (by omega) dX5_stagedAtEnd_89 (fun g89 => ?_)
                refine z_iload_n (pc := 90) h dX5_stagedAtEnd_90 rfl ?_
                refine z_icmp_gt (pc := 91) (tgt := 98) h (by omega) (by omega) dX5_stagedAtEnd_91 (by decide) (fun c91 => ?_) (fun c91 => ?_)
                · refine z_iconst (pc := 98) h dX5_stagedAtEnd_98 ?_
                  refine z_ist_7 (pc := 99) h dX5_stagedAtEnd_99 (by decide) rfl ?_
                  refine z_iload (pc := 101) h dX5_stagedAtEnd_101 rfl ?_
                  refine z_if_eq (pc := 103) (tgt := 119) h (by omega) dX5_stagedAtEnd_103 (by decide) (fun c103 => ?_) (fun c103 => ?_)
                  · exact absurd c103 (by decide)
                  · refine z_iload (pc := 106) h dX5_stagedAtEnd_106 rfl ?_
                    refine z_if_eq (pc := 108) (tgt := 119) h (by omega) dX5_stagedAtEnd_108 (by decide) (fun c108 => ?_) (fun c108 => ?_)
                    · refine z_inc_4 (pc := 119) h dX5_stagedAtEnd_119 (by decide) rfl ?_
                      refine z_goto (pc := 122) (tgt := 5) h dX5_stagedAtEnd_122 (by decide) ?_
                      first
                      | (rw [if_pos (decide_eq_true (by omega))] at hS1; exact ih (i + 1) _ _ _ _ (by omega) (by omega) (by omega) (by omega) (by omega) hS1.symm)
                      | (rw [if_neg (by intro w; have := of_decide_eq_true w; omega)] at hS1; exact ih (i + 1) _ _ _ _ (by omega) (by omega) (by omega) (by omega) (by omega) hS1.symm)
                    · exact absurd c108 (by decide)
                · refine z_iconst (pc := 94) h dX5_stagedAtEnd_94 ?_
                  refine z_goto (pc := 95) (tgt := 99) h dX5_stagedAtEnd_95 (by decide) ?_
                  refine z_ist_7 (pc := 99) h dX5_stagedAtEnd_99 (by decide) rfl ?_
                  refine z_iload (pc := 101) h dX5_stagedAtEnd_101 rfl ?_
                  refine z_if_eq (pc := 103) (tgt := 119) h (by omega) dX5_stagedAtEnd_103 (by decide) (fun c103 => ?_) (fun c103 => ?_)
                  · exact absurd c103 (by decide)
                  · refine z_iload (pc := 106) h dX5_stagedAtEnd_106 rfl ?_
                    refine z_if_eq (pc := 108) (tgt := 119) h (by omega) dX5_stagedAtEnd_108 (by decide) (fun c108 => ?_) (fun c108 => ?_)
                    · refine z_inc_4 (pc := 119) h dX5_stagedAtEnd_119 (by decide) rfl ?_
                      refine z_goto (pc := 122) (tgt := 5) h dX5_stagedAtEnd_122 (by decide) ?_
                      first
                      | (rw [if_pos (decide_eq_true (by omega))] at hS1; exact ih (i + 1) _ _ _ _ (by omega) (by omega) (by omega) (by omega) (by omega) hS1.symm)
                      | (rw [if_neg (by intro w; have := of_decide_eq_true w; omega)] at hS1; exact ih (i + 1) _ _ _ _ (by omega) (by omega) (by omega) (by omega) (by omega) hS1.symm)
                    · exact absurd c108 (by decide)
            · refine z_aloadR_n (pc := 54) h dX5_stagedAtEnd_54 rfl ?_
              refine z_getA4 (pc := 55) (c := 5) (j := 5) h (by first | assumption | rfl) rfl rfl fl_X5_21 dX5_stagedAtEnd_55 ?_
              refine z_iload (pc := 58) h dX5_stagedAtEnd_58 rfl ?_
              refine z_ialdq (pc := 60) (c := 5) (j := 5) (L := 40) h (zo_s _ _ _) (by first | assumption | rfl) (by decide) rfl (by decide) (by omega) (by omega) dX5_stagedAtEnd_60 (fun g60 => ?_)
              refine z_iload_n (pc := 61) h dX5_stagedAtEnd_61 rfl ?_
              refine z_icmp_gt (pc := 62) (tgt := 69) h (by omega) (by omega) dX5_stagedAtEnd_62 (by decide) (fun c62 => ?_) (fun c62 => ?_)
              · refine z_iconst (pc := 69) h dX5_stagedAtEnd_69 ?_
                refine z_ist_6 (pc := 70) h dX5_stagedAtEnd_70 (by decide) rfl ?_
                refine z_aloadR_n (pc := 72) h dX5_stagedAtEnd_72 rfl ?_
                refine z_getA4 (pc := 73) (c := 5) (j := 6) h (by first | assumption | rfl) rfl rfl fl_X5_24 dX5_stagedAtEnd_73 ?_
                refine z_iload (pc := 76) h dX5_stagedAtEnd_76 rfl ?_
                refine z_ialdq (pc := 78) (c := 5) (j := 6) (L := 40) h (zo_s _ _ _) (by first | assumption | rfl) (by decide) rfl (by decide) (by omega) (by omega) dX5_stagedAtEnd_78 (fun g78 => ?_)
                refine z_iconst (pc := 79) h dX5_stagedAtEnd_79 ?_
                refine z_icmp_eq (pc := 80) (tgt := 98) h (by omega) (by omega) dX5_stagedAtEnd_80 (by decide) (fun c80 => ?_) (fun c80 => ?_)
                · refine z_iconst (pc := 98) h dX5_stagedAtEnd_98 ?_
                  refine z_ist_7 (pc := 99) h dX5_stagedAtEnd_99 (by decide) rfl ?_
                  refine z_iload (pc := 101) h dX5_stagedAtEnd_101 rfl ?_
                  refine z_if_eq (pc := 103) (tgt := 119) h (by omega) dX5_stagedAtEnd_103 (by decide) (fun c103 => ?_) (fun c103 => ?_)
                  · exact absurd c103 (by decide)
                  · refine z_iload (pc := 106) h dX5_stagedAtEnd_106 rfl ?_
                    refine z_if_eq (pc := 108) (tgt := 119) h (by omega) dX5_stagedAtEnd_108 (by decide) (fun c108 => ?_) (fun c108 => ?_)
                    · refine z_inc_4 (pc := 119) h dX5_stagedAtEnd_119 (by decide) rfl ?_
                      refine z_goto (pc := 122) (tgt := 5) h dX5_stagedAtEnd_122 (by decide) ?_
                      first
                      | (rw [if_pos (decide_eq_true (by omega))] at hS1; exact ih (i + 1) _ _ _ _ (by omega) (by omega) (by omega) (by omega) (by omega) hS1.symm)
                      | (rw [if_neg (by intro w; have := of_decide_eq_true w; omega)] at hS1; exact ih (i + 1) _ _ _ _ (by omega) (by omega) (by omega) (by omega) (by omega) hS1.symm)
                    · exact absurd c108 (by decide)
                · refine z_aloadR_n (pc := 83) h dX5_stagedAtEnd_83 rfl ?_
                  refine z_getA4 (pc := 84) (c := 5) (j := 6) h (by first | assumption | rfl) rfl rfl fl_X5_24 dX5_stagedAtEnd_84 ?_
                  refine z_iload (pc := 87) h dX5_stagedAtEnd_87 rfl ?_
                  refine z_ialdq (pc := 89) (c := 5) (j := 6) (L := 40) h (zo_s _ _ _) (by first | assumption | rfl) (by decide) rfl (by decide) (by omega) (by omega) dX5_stagedAtEnd_89 (fun g89 => ?_)
                  refine z_iload_n (pc := 90) h dX5_stagedAtEnd_90 rfl ?_
                  refine z_icmp_gt (pc := 91) (tgt := 98) h (by omega) (by omega) dX5_stagedAtEnd_91 (by decide) (fun c91 => ?_) (fun c91 => ?_)
                  · refine z_iconst (pc := 98) h dX5_stagedAtEnd_98 ?_
                    refine z_ist_7 (pc := 99) h dX5_stagedAtEnd_99 (by decide) rfl ?_
                    refine z_iload (pc := 101) h dX5_stagedAtEnd_101 rfl ?_
                    refine z_if_eq (pc := 103) (tgt := 119) h (by omega) dX5_stagedAtEnd_103 (by decide) (fun c103 => ?_) (fun c103 => ?_)
                    · exact absurd c103 (by decide)
                    · refine z_iload (pc := 106) h dX5_stagedAtEnd_106 rfl ?_
                      refine z_if_eq (pc := 108) (tgt := 119) h (by omega) dX5_stagedAtEnd_108 (by decide) (fun c108 => ?_) (fun c108 => ?_)
                      · refine z_inc_4 (pc := 119) h dX5_stagedAtEnd_119 (by decide) rfl ?_
                        refine z_goto (pc := 122) (tgt := 5) h dX5_stagedAtEnd_122 (by decide) ?_
                        first
                        | (rw [if_pos (decide_eq_true (by omega))] at hS1; exact ih (i + 1) _ _ _ _ (by omega) (by omega) (by omega) (by omega) (by omega) hS1.symm)
                        | (rw [if_neg (by intro w; have := of_decide_eq_true w; omega)] at hS1; exact ih (i + 1) _ _ _ _ (by omega) (by omega) (by omega) (by omega) (by omega) hS1.symm)
                      · exact absurd c108 (by decide)
                  · refine z_iconst (pc := 94) h dX5_stagedAtEnd_94 ?_
                    refine z_goto (pc := 95) (tgt := 99) h dX5_stagedAtEnd_95 (by decide) ?_
                    refine z_ist_7 (pc := 99) h dX5_stagedAtEnd_99 (by decide) rfl ?_
                    refine z_iload (pc := 101) h dX5_stagedAtEnd_101 rfl ?_
                    refine z_if_eq (pc := 103) (tgt := 119) h (by omega) dX5_stagedAtEnd_103 (by decide) (fun c103 => ?_) (fun c103 => ?_)
                    · exact absurd c103 (by decide)
                    · refine z_iload (pc := 106) h dX5_stagedAtEnd_106 rfl ?_
                      refine z_if_eq (pc := 108) (tgt := 119) h (by omega) dX5_stagedAtEnd_108 (by decide) (fun c108 => ?_) (fun c108 => ?_)
                      · refine z_inc_4 (pc := 119) h dX5_stagedAtEnd_119 (by decide) rfl ?_
                        refine z_goto (pc := 122) (tgt := 5) h dX5_stagedAtEnd_122 (by decide) ?_
                        first
                        | (rw [if_pos (decide_eq_true (by omega))] at hS1; exact ih (i + 1) _ _ _ _ (by omega) (by omega) (by omega) (by omega) (by omega) hS1.symm)
                        | (rw [if_neg (by intro w; have := of_decide_eq_true w; omega)] at hS1; exact ih (i + 1) _ _ _ _ (by omega) (by omega) (by omega) (by omega) (by omega) hS1.symm)
                      · exact absurd c108 (by decide)
              · refine z_iconst (pc := 65) h dX5_stagedAtEnd_65 ?_
                refine z_goto (pc := 66) (tgt := 70) h dX5_stagedAtEnd_66 (by decide) ?_
                refine z_ist_6 (pc := 70) h dX5_stagedAtEnd_70 (by decide) rfl ?_
                refine z_aloadR_n (pc := 72) h dX5_stagedAtEnd_72 rfl ?_
                refine z_getA4 (pc := 73) (c := 5) (j := 6) h (by first | assumption | rfl) rfl rfl fl_X5_24 dX5_stagedAtEnd_73 ?_
                refine z_iload (pc := 76) h dX5_stagedAtEnd_76 rfl ?_
                refine z_ialdq (pc := 78) (c := 5) (j := 6) (L := 40) h (zo_s _ _ _) (by first | assumption | rfl) (by decide) rfl (by decide) (by omega) (by omega) dX5_stagedAtEnd_78 (fun g78 => ?_)
                refine z_iconst (pc := 79) h dX5_stagedAtEnd_79 ?_
                refine z_icmp_eq (pc := 80) (tgt := 98) h (by omega) (by omega) dX5_stagedAtEnd_80 (by decide) (fun c80 => ?_) (fun c80 => ?_)
                · refine z_iconst (pc := 98) h dX5_stagedAtEnd_98 ?_
                  refine z_ist_7 (pc := 99) h dX5_stagedAtEnd_99 (by decide) rfl ?_
                  refine z_iload (pc := 101) h dX5_stagedAtEnd_101 rfl ?_
                  refine z_if_eq (pc := 103) (tgt := 119) h (by omega) dX5_stagedAtEnd_103 (by decide) (fun c103 => ?_) (fun c103 => ?_)
                  · exact absurd c103 (by decide)
                  · refine z_iload (pc := 106) h dX5_stagedAtEnd_106 rfl ?_
                    refine z_if_eq (pc := 108) (tgt := 119) h (by omega) dX5_stagedAtEnd_108 (by decide) (fun c108 => ?_) (fun c108 => ?_)
                    · exact absurd c108 (by decide)
                    · refine z_iload (pc := 111) h dX5_stagedAtEnd_111 rfl ?_
                      refine z_if_ne (pc := 113) (tgt := 119) h (by omega) dX5_stagedAtEnd_113 (by decide) (fun c113 => ?_) (fun c113 => ?_)
                      · exact absurd c113 (by decide)
                      · refine z_inc_3 (pc := 116) h dX5_stagedAtEnd_116 (by decide) rfl ?_
                        refine z_inc_4 (pc := 119) h dX5_stagedAtEnd_119 (by decide) rfl ?_
                        refine z_goto (pc := 122) (tgt := 5) h dX5_stagedAtEnd_122 (by decide) ?_
                        first
                        | (rw [if_pos (decide_eq_true (by omega))] at hS1; exact ih (i + 1) _ _ _ _ (by omega) (by omega) (by omega) (by omega) (by omega) hS1.symm)
                        | (rw [if_neg (by intro w; have := of_decide_eq_true w; omega)] at hS1; exact ih (i + 1) _ _ _ _ (by omega) (by omega) (by omega) (by omega) (by omega) hS1.symm)
                · refine z_aloadR_n (pc := 83) h dX5_stagedAtEnd_83 rfl ?_
                  refine z_getA4 (pc := 84) (c := 5) (j := 6) h (by first | assumption | rfl) rfl rfl fl_X5_24 dX5_stagedAtEnd_84 ?_
                  refine z_iload (pc := 87) h dX5_stagedAtEnd_87 rfl ?_
                  refine z_ialdq (pc := 89) (c := 5) (j := 6) (L := 40) h (zo_s _ _ _) (by first | assumption | rfl) (by decide) rfl (by decide) (by omega) (by omega) dX5_stagedAtEnd_89 (fun g89 => ?_)
                  refine z_iload_n (pc := 90) h dX5_stagedAtEnd_90 rfl ?_
                  refine z_icmp_gt (pc := 91) (tgt := 98) h (by omega) (by omega) dX5_stagedAtEnd_91 (by decide) (fun c91 => ?_) (fun c91 => ?_)
                  · refine z_iconst (pc := 98) h dX5_stagedAtEnd_98 ?_
                    refine z_ist_7 (pc := 99) h dX5_stagedAtEnd_99 (by decide) rfl ?_
                    refine z_iload (pc := 101) h dX5_stagedAtEnd_101 rfl ?_
                    refine z_if_eq (pc := 103) (tgt := 119) h (by omega) dX5_stagedAtEnd_103 (by decide) (fun c103 => ?_) (fun c103 => ?_)
                    · exact absurd c103 (by decide)
                    · refine z_iload (pc := 106) h dX5_stagedAtEnd_106 rfl ?_
                      refine z_if_eq (pc := 108) (tgt := 119) h (by omega) dX5_stagedAtEnd_108 (by decide) (fun c108 => ?_) (fun c108 => ?_)
                      · exact absurd c108 (by decide)
                      · refine z_iload (pc := 111) h dX5_stagedAtEnd_111 rfl ?_
                        refine z_if_ne (pc := 113) (tgt := 119) h (by omega) dX5_stagedAtEnd_113 (by decide) (fun c113 => ?_) (fun c113 => ?_)
                        · exact absurd c113 (by decide)
                        · refine z_inc_3 (pc := 116) h dX5_stagedAtEnd_116 (by decide) rfl ?_
                          refine z_inc_4 (pc := 119) h dX5_stagedAtEnd_119 (by decide) rfl ?_
                          refine z_goto (pc := 122) (tgt := 5) h dX5_stagedAtEnd_122 (by decide) ?_
                          first
                          | (rw [if_pos (decide_eq_true (by omega))] at hS1; exact ih (i + 1) _ _ _ _ (by omega) (by omega) (by omega) (by omega) (by omega) hS1.symm)
                          | (rw [if_neg (by intro w; have := of_decide_eq_true w; omega)] at hS1; exact ih (i + 1) _ _ _ _ (by omega) (by omega) (by omega) (by omega) (by omega) hS1.symm)
                  · refine z_iconst (pc := 94) h dX5_stagedAtEnd_94 ?_
                    refine z_goto (pc := 95) (tgt := 99) h dX5_stagedAtEnd_95 (by decide) ?_
                    refine z_ist_7 (pc := 99) h dX5_stagedAtEnd_99 (by decide) rfl ?_
                    refine z_iload (pc := 101) h dX5_stagedAtEnd_101 rfl ?_
                    refine z_if_eq (pc := 103) (tgt := 119) h (by omega) dX5_stagedAtEnd_103 (by decide) (fun c103 => ?_) (fun c103 => ?_)
                    · exact absurd c103 (by decide)
                    · refine z_iload (pc := 106) h dX5_stagedAtEnd_106 rfl ?_
                      refine z_if_eq (pc := 108) (tgt := 119) h (by omega) dX5_stagedAtEnd_108 (by decide) (fun c108 => ?_) (fun c108 => ?_)
                      · exact absurd c108 (by decide)
                      · refine z_iload (pc := 111) h dX5_stagedAtEnd_111 rfl ?_
                        refine z_if_ne (pc := 113) (tgt := 119) h (by omega) dX5_stagedAtEnd_113 (by decide) (fun c113 => ?_) (fun c113 => ?_)
                        · refine z_inc_4 (pc := 119) h dX5_stagedAtEnd_119 (by decide) rfl ?_
                          refine z_goto (pc := 122) (tgt := 5) h dX5_stagedAtEnd_122 (by decide) ?_
                          first
                          | (rw [if_pos (decide_eq_true (by omega))] at hS1; exact ih (i + 1) _ _ _ _ (by omega) (by omega) (by omega) (by omega) (by omega) hS1.symm)
                          | (rw [if_neg (by intro w; have := of_decide_eq_true w; omega)] at hS1; exact ih (i + 1) _ _ _ _ (by omega) (by omega) (by omega) (by omega) (by omega) hS1.symm)
                        · exact absurd c113 (by decide)
  refine z_iconst (pc := 0) h dX5_stagedAtEnd_0 ?_
  refine z_ist_3 (pc := 1) h dX5_stagedAtEnd_1 (by decide) rfl ?_
  refine z_iconst (pc := 2) h dX5_stagedAtEnd_2 ?_
  refine z_ist_4 (pc := 3) h dX5_stagedAtEnd_3 (by decide) rfl ?_
  exact L (m.1 20 + 1).toNat 0 0 _ _ _ (by omega) (by omega) (by omega) (by omega) (by omega) rfl
