/-! The model: isBetter. -/
theorem m8_isBetter {σ : zS} {m : zOb} {T : T3} (hT : OKT T) (e1 : m.2 1 = T.2.2) : zC M_X8_isBetter 7 [zR 31] (zo σ 31 m) (fun r τ' => r = some (zB (decide ((srch T).1 < rc T.2.2))) ∧ ∃ m', τ' = zo σ 31 m' ∧ MS T m m' ∧ BSR T m' (srch T)) := by
  have h6 := hT.1.1
  have h8 := hT.1.2.1
  have hbeg := m8_begins (σ := σ) (m := m) (by rw [e1]; exact hT.1) (by rw [e1]; exact hT.2.1.wfr)
  refine zC_of (M := M_X8_isBetter) (ls := [some (zR 31), none, none, none]) (n := 3) (by decide) (fun ad => Nat.le_of_ble_eq_true rfl) rfl (fun x h => ?_)
  generalize hK : (fun (r : Option Value) (τ' : zS) => r = some (zB (decide ((srch T).1 < rc T.2.2))) ∧ ∃ m', τ' = zo σ 31 m' ∧ MS T m m' ∧ BSR T m' (srch T)) = K
  have S : ∀ (n : Nat) (t : Int) (mm : zOb) (l2 l3 : Option Value), 0 ≤ t → t ≤ T.2.2 1 → T.2.2 1 - t < n → MS T m mm → BSR T mm (zfor (sr_x T) t (sr_m T)) → zW x K 87 [some (zR 31), some (zI t), l2, l3] [] (zo σ 31 mm) := by
    intro n
    induction n with
    | zero => intro t mm l2 l3 h1 h2 h3; omega
    | succ n ih =>
      intro t mm l2 l3 h1 h2 h3 hM hB
      have e11 : mm.2 1 1 = T.2.2 1 := by rw [hM.1]
      have S2 : ∀ (n2 : Nat) (u : Int) (mm : zOb), t < T.2.2 1 → t + 1 ≤ u → u ≤ T.2.2 1 → T.2.2 1 - u < n2 → MS T m mm → BSR T mm (zfor (sr_u T t) u (zfor (sr_x T) t (sr_m T))) → zW x K 101 [some (zR 31), some (zI t), some (zI u), l3] [] (zo σ 31 mm) := by
        intro n2
        induction n2 with
        | zero => intro u mm g0 g1 g2 g3; omega
        | succ n2 ih2 =>
          intro u mm g0 g1 g2 g3 hM hB
          have e11 : mm.2 1 1 = T.2.2 1 := by rw [hM.1]
          have hwa : WFa (mm.2 1) := by rw [hM.1]; exact hT.1
          have hP : POS T.1 T.2.1 (mm.2 1) := by rw [hM.1]; exact hT.2.1
          have hKp : KPT (mm.2 1) (mm.2 41) := by rw [hM.1]; exact hM.2.1
          have hF := hM.F hT
          refine z_iload_n (pc := 101) h dX8_isBetter_101 rfl ?_
          refine z_aloadR_n (pc := 102) h dX8_isBetter_102 rfl ?_
          refine z_getA4 (pc := 103) (c := 8) (j := 1) h (by first | assumption | rfl) rfl rfl fl_X8_7 dX8_isBetter_103 ?_
          refine z_iconst (pc := 106) h dX8_isBetter_106 ?_
          refine z_ialdq (pc := 107) (c := 8) (j := 1) (L := 610) h (zo_s _ _ _) (by first | assumption | rfl) (by decide) rfl (by decide) (by omega) (by omega) dX8_isBetter_107 (fun g107 => ?_)
          refine z_icmp_ge (pc := 108) (tgt := 127) h (by omega) (by omega) dX8_isBetter_108 (by decide) (fun c108 => ?_) (fun c108 => ?_)
          · refine z_inc_1 (pc := 127) h dX8_isBetter_127 (by decide) rfl ?_
            refine z_goto (pc := 130) (tgt := 87) h dX8_isBetter_130 (by decide) ?_
            refine ih (t + 1) mm _ _ (by omega) (by omega) (by omega) hM ?_
            rw [zfor_S _ h1]
            unfold sr_x
            rw [show u = T.2.2 1 by omega] at hB
            exact hB
          · refine z_aloadR_n (pc := 111) h dX8_isBetter_111 rfl ?_
            refine z_aloadR_n (pc := 112) h dX8_isBetter_112 rfl ?_
            refine z_iload_n (pc := 113) h dX8_isBetter_113 rfl ?_
            refine z_iload_n (pc := 114) h dX8_isBetter_114 rfl ?_
            refine z_rV (pc := 115) (c := 8) h (m8_changes hwa hP hKp hF (by omega) (by omega)) (by decide) (by first | assumption | rfl) rfl mv_X8_changes ml_X8_328 rfl dX8_isBetter_115 rfl (Nat.le_of_ble_eq_true rfl) ?_
            refine z_callV (pc := 118) (c := 8) h (tries_sw hT hM hB (by omega)) (by decide) (by first | assumption | rfl) rfl mv_X8_tries ml_X8_325 rfl dX8_isBetter_118 rfl (Nat.le_of_ble_eq_true rfl) (fun r118 τ118 q118 => ?_)
            obtain ⟨rfl, m2, rfl, hM2, hB2⟩ := q118
            refine z_inc_2 (pc := 121) h dX8_isBetter_121 (by decide) rfl ?_
            refine z_goto (pc := 124) (tgt := 101) h dX8_isBetter_124 (by decide) ?_
            refine ih2 (u + 1) m2 g0 (by omega) (by omega) (by omega) hM2 ?_
            rw [zfor_S _ (by omega)]
            exact hB2
      refine z_iload_n (pc := 87) h dX8_isBetter_87 rfl ?_
      refine z_aloadR_n (pc := 88) h dX8_isBetter_88 rfl ?_
      refine z_getA4 (pc := 89) (c := 8) (j := 1) h (by first | assumption | rfl) rfl rfl fl_X8_7 dX8_isBetter_89 ?_
      refine z_iconst (pc := 92) h dX8_isBetter_92 ?_
      refine z_ialdq (pc := 93) (c := 8) (j := 1) (L := 610) h (zo_s _ _ _) (by first | assumption | rfl) (by decide) rfl (by decide) (by omega) (by omega) dX8_isBetter_93 (fun g93 => ?_)
      refine z_icmp_ge (pc := 94) (tgt := 133) h (by omega) (by omega) dX8_isBetter_94 (by decide) (fun c94 => ?_) (fun c94 => ?_)
      · have et : t = T.2.2 1 := by omega
        rw [et] at hB
        have hB : BSR T mm (srch T) := hB
        have b1 := hB.1
        have b2 := hM.2.2.2.1
        refine z_aloadR_n (pc := 133) h dX8_isBetter_133 rfl ?_
        refine z_getIq (pc := 134) (c := 8) (j := 44) h (zo_s _ _ _) (by first | assumption | rfl) rfl rfl fl_X8_315 dX8_isBetter_134 (fun g134 => ?_)
        refine z_aloadR_n (pc := 137) h dX8_isBetter_137 rfl ?_
        refine z_getIq (pc := 138) (c := 8) (j := 42) h (zo_s _ _ _) (by first | assumption | rfl) rfl rfl fl_X8_275 dX8_isBetter_138 (fun g138 => ?_)
        refine z_icmp_ge (pc := 141) (tgt := 148) h (by omega) (by omega) dX8_isBetter_141 (by decide) (fun c141 => ?_) (fun c141 => ?_)
        · refine z_iconst (pc := 148) h dX8_isBetter_148 ?_
          refine z_zret (pc := 149) h rfl (by omega) dX8_isBetter_149 ?_
          rw [← hK]
          refine ⟨congrArg some ?_, mm, rfl, hM, hB⟩
          first
          | exact zB_t (decide_eq_true (by omega))
          | exact zB_f (decide_eq_false (by omega))
        · refine z_iconst (pc := 144) h dX8_isBetter_144 ?_
          refine z_goto (pc := 145) (tgt := 149) h dX8_isBetter_145 (by decide) ?_
          refine z_zret (pc := 149) h rfl (by omega) dX8_isBetter_149 ?_
          rw [← hK]
          refine ⟨congrArg some ?_, mm, rfl, hM, hB⟩
          first
          | exact zB_t (decide_eq_true (by omega))
          | exact zB_f (decide_eq_false (by omega))
      · refine z_iload_n (pc := 97) h dX8_isBetter_97 rfl ?_
        refine z_iconst (pc := 98) h dX8_isBetter_98 ?_
        refine z_iadd (pc := 99) h dX8_isBetter_99 ?_
        refine z_ist_2 (pc := 100) h dX8_isBetter_100 (by decide) rfl ?_
        refine S2 (T.2.2 1 + 1).toNat (t + 1) mm (by omega) (by omega) (by omega) (by omega) hM ?_
        rw [sr_x_0 T h1]
        exact hB
  have L : ∀ (n : Nat) (t : Int) (mm : zOb) (l2 l3 : Option Value), 0 ≤ t → t ≤ T.2.2 1 → T.2.2 1 - t < n → MS T m mm → BSR T mm (zfor (sr_t T) t (rc T.2.2, T)) → zW x K 14 [some (zR 31), some (zI t), l2, l3] [] (zo σ 31 mm) := by
    intro n
    induction n with
    | zero => intro t mm l2 l3 h1 h2 h3; omega
    | succ n ih =>
      intro t mm l2 l3 h1 h2 h3 hM hB
      have e11 : mm.2 1 1 = T.2.2 1 := by rw [hM.1]
      have L2 : ∀ (n2 : Nat) (d : Int) (mm : zOb) (l3 : Option Value), t < T.2.2 1 → 0 ≤ d → d ≤ T.2.2 0 → T.2.2 0 - d < n2 → MS T m mm → BSR T mm (zfor (sr_d T t) d (zfor (sr_t T) t (rc T.2.2, T))) → zW x K 26 [some (zR 31), some (zI t), some (zI d), l3] [] (zo σ 31 mm) := by
        intro n2
        induction n2 with
        | zero => intro d mm l3 g0 g1 g2 g3; omega
        | succ n2 ih2 =>
          intro d mm l3 g0 g1 g2 g3 hM hB
          have e11 : mm.2 1 1 = T.2.2 1 := by rw [hM.1]
          have e10 : mm.2 1 0 = T.2.2 0 := by rw [hM.1]
          have hwa : WFa (mm.2 1) := by rw [hM.1]; exact hT.1
          have hP : POS T.1 T.2.1 (mm.2 1) := by rw [hM.1]; exact hT.2.1
          have hpt := hT.2.1.rng hT.1 h1 g0
          have L3 : ∀ (n3 : Nat) (k : Int) (mm : zOb), d < T.2.2 0 → 0 ≤ k → k ≤ T.2.2 (65 + d) + 1 → T.2.2 (65 + d) + 1 - k < n3 → MS T m mm → BSR T mm (zfor (sr_k T t d) k (zfor (sr_d T t) d (zfor (sr_t T) t (rc T.2.2, T)))) → zW x K 47 [some (zR 31), some (zI t), some (zI d), some (zI k)] [] (zo σ 31 mm) := by
            intro n3
            induction n3 with
            | zero => intro k mm y0 y1 y2 y3; omega
            | succ n3 ih3 =>
              intro k mm y0 y1 y2 y3 hM hB
              have e65 : mm.2 1 (65 + d) = T.2.2 (65 + d) := by rw [hM.1]
              have hwa : WFa (mm.2 1) := by rw [hM.1]; exact hT.1
              have hP : POS T.1 T.2.1 (mm.2 1) := by rw [hM.1]; exact hT.2.1
              have hi : WFi T.1 (mm.2 1) := by rw [hM.1]; exact hT.2.2
              have hKp : KPT (mm.2 1) (mm.2 41) := by rw [hM.1]; exact hM.2.1
              have hF := hM.F hT
              have hr := hT.2.1.1 d g1 y0
              refine z_iload_n (pc := 47) h dX8_isBetter_47 rfl ?_
              refine z_aloadR_n (pc := 48) h dX8_isBetter_48 rfl ?_
              refine z_iload_n (pc := 49) h dX8_isBetter_49 rfl ?_
              refine z_pV (pc := 50) (c := 8) h (m8_rowMany (by omega)) (by decide) (by first | assumption | rfl) rfl mv_X8_rowMany ml_X8_191 rfl dX8_isBetter_50 rfl (Nat.le_of_ble_eq_true rfl) ?_
              refine z_icmp_gt (pc := 53) (tgt := 73) h (by omega) (by omega) dX8_isBetter_53 (by decide) (fun c53 => ?_) (fun c53 => ?_)
              · refine z_inc_2 (pc := 73) h dX8_isBetter_73 (by decide) rfl ?_
                refine z_goto (pc := 76) (tgt := 26) h dX8_isBetter_76 (by decide) ?_
                refine ih2 (d + 1) mm _ g0 (by omega) (by omega) (by omega) hM ?_
                rw [zfor_S _ g1, ← sr_d_eq hT g1 y0]
                rw [show k = T.2.2 (65 + d) + 1 by omega] at hB
                exact hB
              · refine z_aloadR_n (pc := 56) h dX8_isBetter_56 rfl ?_
                refine z_aloadR_n (pc := 57) h dX8_isBetter_57 rfl ?_
                refine z_iload_n (pc := 58) h dX8_isBetter_58 rfl ?_
                refine z_iload_n (pc := 59) h dX8_isBetter_59 rfl ?_
                refine z_iload_n (pc := 60) h dX8_isBetter_60 rfl ?_
                refine z_rV (pc := 61) (c := 8) h (m8_goesTo hwa hP hi hKp hF (by omega) (by omega) (by omega)) (by decide) (by first | assumption | rfl) rfl mv_X8_goesTo ml_X8_321 rfl dX8_isBetter_61 rfl (Nat.le_of_ble_eq_true rfl) ?_
                refine z_callV (pc := 64) (c := 8) h (tries_mv hT hM hB) (by decide) (by first | assumption | rfl) rfl mv_X8_tries ml_X8_325 rfl dX8_isBetter_64 rfl (Nat.le_of_ble_eq_true rfl) (fun r64 τ64 q64 => ?_)
                obtain ⟨rfl, m2, rfl, hM2, hB2⟩ := q64
                refine z_inc_3 (pc := 67) h dX8_isBetter_67 (by decide) rfl ?_
                refine z_goto (pc := 70) (tgt := 47) h dX8_isBetter_70 (by decide) ?_
                refine ih3 (k + 1) m2 y0 (by omega) (by omega) (by omega) hM2 ?_
                rw [zfor_S _ y1]
                exact hB2
          have fin : (d = T.2.2 0 ∨ T.1 t = -1) → zfor (sr_d T t) d (zfor (sr_t T) t (rc T.2.2, T)) = sr_t T t (zfor (sr_t T) t (rc T.2.2, T)) := by
            rintro (z | z)
            · rw [z]; rfl
            · unfold sr_t
              rw [sr_t_none hT z, sr_t_none hT z]
          refine z_iload_n (pc := 26) h dX8_isBetter_26 rfl ?_
          refine z_aloadR_n (pc := 27) h dX8_isBetter_27 rfl ?_
          refine z_getA4 (pc := 28) (c := 8) (j := 1) h (by first | assumption | rfl) rfl rfl fl_X8_7 dX8_isBetter_28 ?_
          refine z_iconst (pc := 31) h dX8_isBetter_31 ?_
          refine z_ialdq (pc := 32) (c := 8) (j := 1) (L := 610) h (zo_s _ _ _) (by first | assumption | rfl) (by decide) rfl (by decide) (by omega) (by omega) dX8_isBetter_32 (fun g32 => ?_)
          refine z_icmp_ge (pc := 33) (tgt := 79) h (by omega) (by omega) dX8_isBetter_33 (by decide) (fun c33 => ?_) (fun c33 => ?_)
          · refine z_inc_1 (pc := 79) h dX8_isBetter_79 (by decide) rfl ?_
            refine z_goto (pc := 82) (tgt := 14) h dX8_isBetter_82 (by decide) ?_
            refine ih (t + 1) mm _ _ (by omega) (by omega) (by omega) hM ?_
            rw [zfor_S _ h1, ← fin (by first | (left; omega) | (right; omega))]
            exact hB
          · refine z_aloadR_n (pc := 36) h dX8_isBetter_36 rfl ?_
            refine z_iload_n (pc := 37) h dX8_isBetter_37 rfl ?_
            refine z_pV (pc := 38) (c := 8) h (m8_doorNow hwa hP (by omega) (by omega)) (by decide) (by first | assumption | rfl) rfl mv_X8_doorNow ml_X8_284 rfl dX8_isBetter_38 rfl (Nat.le_of_ble_eq_true rfl) ?_
            refine z_iconst (pc := 41) h dX8_isBetter_41 ?_
            refine z_icmp_eq (pc := 42) (tgt := 79) h (by omega) (by omega) dX8_isBetter_42 (by decide) (fun c42 => ?_) (fun c42 => ?_)
            · refine z_inc_1 (pc := 79) h dX8_isBetter_79 (by decide) rfl ?_
              refine z_goto (pc := 82) (tgt := 14) h dX8_isBetter_82 (by decide) ?_
              refine ih (t + 1) mm _ _ (by omega) (by omega) (by omega) hM ?_
              rw [zfor_S _ h1, ← fin (by first | (left; omega) | (right; omega))]
              exact hB
            · refine z_iconst (pc := 45) h dX8_isBetter_45 ?_
              refine z_ist_3 (pc := 46) h dX8_isBetter_46 (by decide) rfl ?_
              have hr := hT.2.1.1 d g1 (by omega)
              exact L3 (T.2.2 (65 + d) + 2).toNat 0 mm (by omega) (by omega) (by omega) (by omega) hM hB
      refine z_iload_n (pc := 14) h dX8_isBetter_14 rfl ?_
      refine z_aloadR_n (pc := 15) h dX8_isBetter_15 rfl ?_
      refine z_getA4 (pc := 16) (c := 8) (j := 1) h (by first | assumption | rfl) rfl rfl fl_X8_7 dX8_isBetter_16 ?_
      refine z_iconst (pc := 19) h dX8_isBetter_19 ?_
      refine z_ialdq (pc := 20) (c := 8) (j := 1) (L := 610) h (zo_s _ _ _) (by first | assumption | rfl) (by decide) rfl (by decide) (by omega) (by omega) dX8_isBetter_20 (fun g20 => ?_)
      refine z_icmp_ge (pc := 21) (tgt := 85) h (by omega) (by omega) dX8_isBetter_21 (by decide) (fun c21 => ?_) (fun c21 => ?_)
      · refine z_iconst (pc := 85) h dX8_isBetter_85 ?_
        refine z_ist_1 (pc := 86) h dX8_isBetter_86 (by decide) rfl ?_
        have et : t = T.2.2 1 := by omega
        rw [et] at hB
        exact S (T.2.2 1 + 1).toNat 0 mm _ _ (by omega) (by omega) (by omega) hM hB
      · refine z_iconst (pc := 24) h dX8_isBetter_24 ?_
        refine z_ist_2 (pc := 25) h dX8_isBetter_25 (by decide) rfl ?_
        exact L2 (T.2.2 0 + 1).toNat 0 mm _ (by omega) (by omega) (by omega) (by omega) hM hB
  refine z_aloadR_n (pc := 0) h dX8_isBetter_0 rfl ?_
  refine z_callV (pc := 1) (c := 8) h (hbeg) (by decide) (by first | assumption | rfl) rfl mv_X8_begins ml_X8_318 rfl dX8_isBetter_1 rfl (Nat.le_of_ble_eq_true rfl) (fun r1 τ1 q1 => ?_)
  obtain ⟨rfl, mb, rfl, b1, b42, b41, b40, b27, bK⟩ := q1
  rw [e1] at b1 b42 b41 b40
  refine z_aloadR_n (pc := 4) h dX8_isBetter_4 rfl ?_
  refine z_aloadR_n (pc := 5) h dX8_isBetter_5 rfl ?_
  refine z_getIq (pc := 6) (c := 8) (j := 42) h (zo_s _ _ _) (by first | assumption | rfl) rfl rfl fl_X8_275 dX8_isBetter_6 (fun g6 => ?_)
  refine z_putIo (pc := 9) (c := 8) (j := 44) h (by first | assumption | rfl) rfl rfl fl_X8_315 rfl (tyX8_ok 44 (by decide)) dX8_isBetter_9 (by omega) ?_
  refine z_iconst (pc := 12) h dX8_isBetter_12 ?_
  refine z_ist_1 (pc := 13) h dX8_isBetter_13 (by decide) rfl ?_
  exact L (T.2.2 1 + 1).toNat 0 (oss mb 44 (mb.1 42)) _ _ (by omega) (by omega) (by omega) ⟨b1, b41, b40, b42, ⟨bK.1, bK.2.1, bK.2.2.1, bK.2.2.2.1, bK.2.2.2.2.1, bK.2.2.2.2.2⟩⟩ ⟨b42, fun z => absurd z (Int.lt_irrefl _)⟩
