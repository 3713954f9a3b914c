/-! Cartons are laid: the walk; sums; the run. -/
theorem m8_laysCartons {σ : zS} {m : zOb} (hwa : WFa (m.2 1)) (hwr : WFr (m.2 1)) : zCv M_X8_laysCartons 3 [zR 31] (zo σ 31 m) (zo σ 31 (s_lay m)) := by
  have h6 := hwa.1
  have h8 := hwa.2.1
  have hlt := fun t h0 h1 => LQ_lt hwa (m := m) rfl (t := t) h0 h1
  have hq := hlt (m.2 1 1) h8.1 (Int.le_refl _)
  have hld := fun e he0 he1 => LD_ld hwr (m0 := s_lt m) hq.1 (fun t g1 g2 => ⟨(hq.2.2.2.2 t g1 g2).2.2.2.1, (hq.2.2.2.2 t g1 g2).2.2.2.2⟩) (e := e) he0 he1
  refine zC_of (M := M_X8_laysCartons) (ls := [some (zR 31), none, none, none]) (n := 3) (by decide) (fun ad => Nat.le_of_ble_eq_true rfl) rfl (fun x h => ?_)
  have T : ∀ (a b c : Option Value), zW x (fun r τ' => r = none ∧ τ' = zo σ 31 (s_lay m)) 169 [some (zR 31), a, b, c] [] (zo σ 31 (s_lt m)) := by
    intro a b c
    have L : ∀ (n : Nat) (i : Int) (b : Option Value), 0 ≤ i → i ≤ m.2 1 0 → m.2 1 0 - i < n → zW x (fun r τ' => r = none ∧ τ' = zo σ 31 (s_lay m)) 171 [some (zR 31), some (zI i), b, c] [] (zo σ 31 (zfor s_ld i (s_lt m))) := by
      intro n
      induction n with
      | zero => intro i b h1 h2 h3; omega
      | succ n ih =>
        intro i b h1 h2 h3
        have hd := hld i h1 h2
        have hih := fun b => ih (i + 1) b (by omega)
        simp only [zfor_S _ h1] at hih
        have hgo : i = m.2 1 0 → zfor s_ld i (s_lt m) = s_lay m := fun e => by rw [e]; rfl
        generalize zfor s_ld i (s_lt m) = mm at hih hd hgo ⊢
        have e1 : mm.2 1 = m.2 1 := hd.1
        have e10 : mm.2 1 0 = m.2 1 0 := by rw [e1]
        refine z_iload_n (pc := 171) h dX8_laysCartons_171 rfl ?_
        refine z_aloadR_n (pc := 172) h dX8_laysCartons_172 rfl ?_
        refine z_getA4 (pc := 173) (c := 8) (j := 1) h (by first | assumption | rfl) rfl rfl fl_X8_7 dX8_laysCartons_173 ?_
        refine z_iconst (pc := 176) h dX8_laysCartons_176 ?_
        refine z_ialdq (pc := 177) (c := 8) (j := 1) (L := 610) h (zo_s _ _ _) (by first | assumption | rfl) (by decide) rfl (by decide) (by omega) (by omega) dX8_laysCartons_177 (fun g177 => ?_)
        refine z_icmp_ge (pc := 178) (tgt := 249) h (by omega) (by omega) dX8_laysCartons_178 (by decide) (fun c178 => ?_) (fun c178 => ?_)
        · refine z_ret (pc := 249) h rfl dX8_laysCartons_249 ?_
          exact ⟨rfl, by rw [hgo (by omega)]⟩
        · refine z_aloadR_n (pc := 181) h dX8_laysCartons_181 rfl ?_
          refine z_getA4 (pc := 182) (c := 8) (j := 32) h (by first | assumption | rfl) rfl rfl fl_X8_63 dX8_laysCartons_182 ?_
          refine z_iload_n (pc := 185) h dX8_laysCartons_185 rfl ?_
          refine z_iconst (pc := 186) h dX8_laysCartons_186 ?_
          refine z_iasto (pc := 187) (c := 8) (j := 32) (L := 6) h (by first | assumption | rfl) (by decide) rfl (by decide) (by omega) (by omega) (by omega) dX8_laysCartons_187 ?_
          refine z_aloadR_n (pc := 188) h dX8_laysCartons_188 rfl ?_
          refine z_getA6 (pc := 189) (c := 8) (j := 33) h (by first | assumption | rfl) rfl rfl fl_X8_66 dX8_laysCartons_189 ?_
          refine z_iload_n (pc := 192) h dX8_laysCartons_192 rfl ?_
          refine z_iconst (pc := 193) h dX8_laysCartons_193 ?_
          refine z_zasto (pc := 194) (c := 8) (j := 33) (L := 6) h (by first | assumption | rfl) (by decide) rfl (by decide) (by omega) (by omega) (by omega) dX8_laysCartons_194 ?_
          refine z_aloadR_n (pc := 195) h dX8_laysCartons_195 rfl ?_
          refine z_getA4 (pc := 196) (c := 8) (j := 34) h (by first | assumption | rfl) rfl rfl fl_X8_69 dX8_laysCartons_196 ?_
          refine z_iload_n (pc := 199) h dX8_laysCartons_199 rfl ?_
          refine z_iconst (pc := 200) h dX8_laysCartons_200 ?_
          refine z_iasto (pc := 201) (c := 8) (j := 34) (L := 6) h (by first | assumption | rfl) (by decide) rfl (by decide) (by omega) (by omega) (by omega) dX8_laysCartons_201 ?_
          refine z_iconst (pc := 202) h dX8_laysCartons_202 ?_
          refine z_ist_2 (pc := 203) h dX8_laysCartons_203 (by decide) rfl ?_
          have hr := hwr.1 i h1 (by omega)
          have hd0 := LD_0 (fun d g1 g2 => (hwr.1 d g1 (by omega)).1) h1 hd
          have L2 : ∀ (n2 : Nat) (k : Int), 0 ≤ k → k ≤ m.2 1 (65 + i) → m.2 1 (65 + i) - k < n2 → zW x (fun r τ' => r = none ∧ τ' = zo σ 31 (s_lay m)) 204 [some (zR 31), some (zI i), some (zI k), c] [] (zo σ 31 (zfor (s_lk i) k (s_ld0 i mm))) := by
            intro n2
            induction n2 with
            | zero => intro k g1 g2 g3; omega
            | succ n2 ih2 =>
              intro k g1 g2 g3
              have hk := LD_kk hwr h1 (by omega) hd0 (k := k) g1 g2
              have hih2 := ih2 (k + 1) (by omega)
              rw [zfor_S _ g1] at hih2
              have hgo2 : k = m.2 1 (65 + i) → zfor (s_lk i) k (s_ld0 i mm) = s_ld i mm := fun e => by rw [e]; unfold s_ld; rw [e1]
              generalize zfor (s_lk i) k (s_ld0 i mm) = mk at hih2 hk hgo2 ⊢
              have f1 : mk.2 1 = m.2 1 := hk.1
              have f2 : mk.2 1 (65 + i) = m.2 1 (65 + i) := by rw [f1]
              refine z_iload_n (pc := 204) h dX8_laysCartons_204 rfl ?_
              refine z_aloadR_n (pc := 205) h dX8_laysCartons_205 rfl ?_
              refine z_iload_n (pc := 206) h dX8_laysCartons_206 rfl ?_
              refine z_pV (pc := 207) (c := 8) h (m8_rowMany (by omega)) (by decide) (by first | assumption | rfl) rfl mv_X8_rowMany ml_X8_191 rfl dX8_laysCartons_207 rfl (Nat.le_of_ble_eq_true rfl) ?_
              refine z_icmp_ge (pc := 210) (tgt := 243) h (by omega) (by omega) dX8_laysCartons_210 (by decide) (fun c210 => ?_) (fun c210 => ?_)
              · refine z_inc_1 (pc := 243) h dX8_laysCartons_243 (by decide) rfl ?_
                refine z_goto (pc := 246) (tgt := 171) h dX8_laysCartons_246 (by decide) ?_
                rw [hgo2 (by omega)]
                exact hih _ (by omega) (by omega)
              · have hro : 0 ≤ mk.2 1 (71 + 8 * i + k) ∧ mk.2 1 (71 + 8 * i + k) ≤ 7 := by have z := hwr.2.1 i k h1 (by omega) g1 (by omega); rw [f1]; omega
                refine z_aloadR_n (pc := 213) h dX8_laysCartons_213 rfl ?_
                refine z_getA4 (pc := 214) (c := 8) (j := 30) h (by first | assumption | rfl) rfl rfl fl_X8_57 dX8_laysCartons_214 ?_
                refine z_aloadR_n (pc := 217) h dX8_laysCartons_217 rfl ?_
                refine z_iload_n (pc := 218) h dX8_laysCartons_218 rfl ?_
                refine z_iload_n (pc := 219) h dX8_laysCartons_219 rfl ?_
                refine z_pV (pc := 220) (c := 8) h (m8_rowAt (by omega) (by omega)) (by decide) (by first | assumption | rfl) rfl mv_X8_rowAt ml_X8_205 rfl dX8_laysCartons_220 rfl (Nat.le_of_ble_eq_true rfl) ?_
                refine z_iload_n (pc := 223) h dX8_laysCartons_223 rfl ?_
                refine z_iasto (pc := 224) (c := 8) (j := 30) (L := 8) h (by first | assumption | rfl) (by decide) rfl (by decide) (by omega) (by omega) (by omega) dX8_laysCartons_224 ?_
                refine z_aloadR_n (pc := 225) h dX8_laysCartons_225 rfl ?_
                refine z_getA4 (pc := 226) (c := 8) (j := 31) h (by first | assumption | rfl) rfl rfl fl_X8_60 dX8_laysCartons_226 ?_
                refine z_aloadR_n (pc := 229) h dX8_laysCartons_229 rfl ?_
                refine z_iload_n (pc := 230) h dX8_laysCartons_230 rfl ?_
                refine z_iload_n (pc := 231) h dX8_laysCartons_231 rfl ?_
                refine z_pV (pc := 232) (c := 8) h (show zCp M_X8_rowAt 1 [zR 31, zI i, zI k] (zo σ 31 (osa mk 30 (mk.2 1 (71 + 8 * i + k)) i)) (zI (mk.2 1 (71 + 8 * i + k))) from m8_rowAt (m := osa mk 30 (mk.2 1 (71 + 8 * i + k)) i) (by omega) (by omega)) (by decide) (by first | assumption | rfl) rfl mv_X8_rowAt ml_X8_205 rfl dX8_laysCartons_232 rfl (Nat.le_of_ble_eq_true rfl) ?_
                refine z_iload_n (pc := 235) h dX8_laysCartons_235 rfl ?_
                refine z_iasto (pc := 236) (c := 8) (j := 31) (L := 8) h (by first | assumption | rfl) (by decide) rfl (by decide) (by omega) (by omega) (by omega) dX8_laysCartons_236 ?_
                refine z_inc_2 (pc := 237) h dX8_laysCartons_237 (by decide) rfl ?_
                refine z_goto (pc := 240) (tgt := 204) h dX8_laysCartons_240 (by decide) ?_
                exact hih2 (by omega) (by omega)
          exact L2 (m.2 1 (65 + i) + 1).toNat 0 (by omega) (by omega) (by omega)
    refine z_iconst (pc := 169) h dX8_laysCartons_169 ?_
    refine z_ist_1 (pc := 170) h dX8_laysCartons_170 (by decide) rfl ?_
    exact L (m.2 1 0 + 1).toNat 0 _ (by omega) (by omega) (by omega)
  have L : ∀ (n : Nat) (i : Int) (b c : Option Value), 0 ≤ i → i ≤ m.2 1 1 → m.2 1 1 - i < n → zW x (fun r τ' => r = none ∧ τ' = zo σ 31 (s_lay m)) 7 [some (zR 31), some (zI i), b, c] [] (zo σ 31 (zfor s_l1 i (oss m 20 0))) := by
    intro n
    induction n with
    | zero => intro i b c h1 h2 h3; omega
    | succ n ih =>
      intro i b c h1 h2 h3
      have hd := hlt i h1 h2
      have hih := fun b c => ih (i + 1) b c (by omega)
      simp only [zfor_S _ h1] at hih
      have hgo : i = m.2 1 1 → zfor s_l1 i (oss m 20 0) = s_lt m := fun e => by rw [e]; rfl
      generalize zfor s_l1 i (oss m 20 0) = mm at hih hd hgo ⊢
      have e1 : mm.2 1 = m.2 1 := hd.1
      have e11 : mm.2 1 1 = m.2 1 1 := by rw [e1]
      refine z_iload_n (pc := 7) h dX8_laysCartons_7 rfl ?_
      refine z_aloadR_n (pc := 8) h dX8_laysCartons_8 rfl ?_
      refine z_getA4 (pc := 9) (c := 8) (j := 1) h (by first | assumption | rfl) rfl rfl fl_X8_7 dX8_laysCartons_9 ?_
      refine z_iconst (pc := 12) h dX8_laysCartons_12 ?_
      refine z_ialdq (pc := 13) (c := 8) (j := 1) (L := 610) h (zo_s _ _ _) (by first | assumption | rfl) (by decide) rfl (by decide) (by omega) (by omega) dX8_laysCartons_13 (fun g13 => ?_)
      refine z_icmp_ge (pc := 14) (tgt := 169) h (by omega) (by omega) dX8_laysCartons_14 (by decide) (fun c14 => ?_) (fun c14 => ?_)
      · rw [hgo (by omega)]
        exact T _ _ _
      · refine z_aloadR_n (pc := 17) h dX8_laysCartons_17 rfl ?_
        refine z_getA4 (pc := 18) (c := 8) (j := 27) h (by first | assumption | rfl) rfl rfl fl_X8_48 dX8_laysCartons_18 ?_
        refine z_iload_n (pc := 21) h dX8_laysCartons_21 rfl ?_
        refine z_iconst (pc := 22) h dX8_laysCartons_22 ?_
        refine z_iasto (pc := 23) (c := 8) (j := 27) (L := 8) h (by first | assumption | rfl) (by decide) rfl (by decide) (by omega) (by omega) (by omega) dX8_laysCartons_23 ?_
        refine z_aloadR_n (pc := 24) h dX8_laysCartons_24 rfl ?_
        refine z_getA4 (pc := 25) (c := 8) (j := 28) h (by first | assumption | rfl) rfl rfl fl_X8_51 dX8_laysCartons_25 ?_
        refine z_iload_n (pc := 28) h dX8_laysCartons_28 rfl ?_
        refine z_iconst (pc := 29) h dX8_laysCartons_29 ?_
        refine z_iasto (pc := 30) (c := 8) (j := 28) (L := 8) h (by first | assumption | rfl) (by decide) rfl (by decide) (by omega) (by omega) (by omega) dX8_laysCartons_30 ?_
        refine z_aloadR_n (pc := 31) h dX8_laysCartons_31 rfl ?_
        refine z_getA4 (pc := 32) (c := 8) (j := 29) h (by first | assumption | rfl) rfl rfl fl_X8_54 dX8_laysCartons_32 ?_
        refine z_iload_n (pc := 35) h dX8_laysCartons_35 rfl ?_
        refine z_iconst (pc := 36) h dX8_laysCartons_36 ?_
        refine z_iasto (pc := 37) (c := 8) (j := 29) (L := 8) h (by first | assumption | rfl) (by decide) rfl (by decide) (by omega) (by omega) (by omega) dX8_laysCartons_37 ?_
        refine z_aloadR_n (pc := 38) h dX8_laysCartons_38 rfl ?_
        refine z_getA4 (pc := 39) (c := 8) (j := 30) h (by first | assumption | rfl) rfl rfl fl_X8_57 dX8_laysCartons_39 ?_
        refine z_iload_n (pc := 42) h dX8_laysCartons_42 rfl ?_
        refine z_iconst (pc := 43) h dX8_laysCartons_43 ?_
        refine z_iasto (pc := 44) (c := 8) (j := 30) (L := 8) h (by first | assumption | rfl) (by decide) rfl (by decide) (by omega) (by omega) (by omega) dX8_laysCartons_44 ?_
        refine z_aloadR_n (pc := 45) h dX8_laysCartons_45 rfl ?_
        refine z_getA4 (pc := 46) (c := 8) (j := 31) h (by first | assumption | rfl) rfl rfl fl_X8_60 dX8_laysCartons_46 ?_
        refine z_iload_n (pc := 49) h dX8_laysCartons_49 rfl ?_
        refine z_iconst (pc := 50) h dX8_laysCartons_50 ?_
        refine z_iasto (pc := 51) (c := 8) (j := 31) (L := 8) h (by first | assumption | rfl) (by decide) rfl (by decide) (by omega) (by omega) (by omega) dX8_laysCartons_51 ?_
        refine z_iconst (pc := 52) h dX8_laysCartons_52 ?_
        refine z_ist_2 (pc := 53) h dX8_laysCartons_53 (by decide) rfl ?_
        have hd0 := LQ_l0 hd
        have L2 : ∀ (n2 : Nat) (d : Int) (c : Option Value), 0 ≤ d → d ≤ 4 → 4 - d < n2 → (m.2 1 (17 + 6 * i + 0) = 1 → d = 0) → zW x (fun r τ' => r = none ∧ τ' = zo σ 31 (s_lay m)) 54 [some (zR 31), some (zI i), some (zI d), c] [] (zo σ 31 (zfor (s_l3 i) d (s_l0 i mm))) := by
          intro n2
          induction n2 with
          | zero => intro d c g1 g2 g3; omega
          | succ n2 ih2 =>
            intro d c g1 g2 g3 g4
            have hih2 := fun c => ih2 (d + 1) c (by omega)
            simp only [zfor_S _ g1] at hih2
            have hfin : m.2 1 (17 + 6 * i + 0) = 1 ∨ d = 4 → zfor (s_l3 i) d (s_l0 i mm) = s_l1 i mm := by
              intro z
              have e9 : (s_l0 i mm).2 1 = m.2 1 := e1
              unfold s_l1 s_l2
              rw [e9]
              by_cases y : m.2 1 (17 + 6 * i + 0) = 1
              · rw [if_pos y, g4 y]; rfl
              · rw [if_neg y]
                rcases z with z | z
                · exact absurd z y
                · rw [z]
            have hk0 : m.2 1 (17 + 6 * i + 0) ≠ 1 → m.2 1 (17 + 6 * i + 0) = 0 := fun y => by rcases (hwa.2.2.2.2.2.2.1 i h1 (by omega)).1 with y2 | y2; exact y2; exact absurd y2 y
            have hkl : m.2 1 (17 + 6 * i + 0) ≠ 1 → LQ (m.2 1) (i + 1) (a_fs (m.2 1) i + a_pl (m.2 1) i d) (zfor (s_l3 i) d (s_l0 i mm)) := fun y => LQ_l2d hwa h1 (by omega) (hk0 y) hd0 g1 g2
            have f1 : (zfor (s_l3 i) d (s_l0 i mm)).2 1 = m.2 1 := by
              by_cases y : m.2 1 (17 + 6 * i + 0) = 1
              · rw [g4 y]; exact e1
              · exact (hkl y).1
            generalize zfor (s_l3 i) d (s_l0 i mm) = md at hih2 hfin hkl f1 ⊢
            have f2 : md.2 1 (17 + 6 * i + 0) = m.2 1 (17 + 6 * i + 0) := by rw [f1]
            have f3 : md.2 1 (17 + 6 * i + (2 + d)) = m.2 1 (17 + 6 * i + (2 + d)) := by rw [f1]
            refine z_iload_n (pc := 54) h dX8_laysCartons_54 rfl ?_
            refine z_iconst (pc := 55) h dX8_laysCartons_55 ?_
            refine z_icmp_ge (pc := 56) (tgt := 163) h (by omega) (by omega) dX8_laysCartons_56 (by decide) (fun c56 => ?_) (fun c56 => ?_)
            · refine z_inc_1 (pc := 163) h dX8_laysCartons_163 (by decide) rfl ?_
              refine z_goto (pc := 166) (tgt := 7) h dX8_laysCartons_166 (by decide) ?_
              rw [hfin (by first | (left; have z := of_decide_eq_true c64; omega) | (right; omega))]
              exact hih _ _ (by omega) (by omega)
            · refine z_aloadR_n (pc := 59) h dX8_laysCartons_59 rfl ?_
              refine z_iload_n (pc := 60) h dX8_laysCartons_60 rfl ?_
              refine z_pV (pc := 61) (c := 8) h (m8_isOut (by omega)) (by decide) (by first | assumption | rfl) rfl mv_X8_isOut ml_X8_195 rfl dX8_laysCartons_61 rfl (Nat.le_of_ble_eq_true rfl) ?_
              refine z_ifneB (pc := 64) (tgt := 163) h dX8_laysCartons_64 (by decide) (fun c64 => ?_) (fun c64 => ?_)
              · refine z_inc_1 (pc := 163) h dX8_laysCartons_163 (by decide) rfl ?_
                refine z_goto (pc := 166) (tgt := 7) h dX8_laysCartons_166 (by decide) ?_
                rw [hfin (by first | (left; have z := of_decide_eq_true c64; omega) | (right; omega))]
                exact hih _ _ (by omega) (by omega)
              · refine z_iconst (pc := 67) h dX8_laysCartons_67 ?_
                refine z_ist_3 (pc := 68) h dX8_laysCartons_68 (by decide) rfl ?_
                have hy : m.2 1 (17 + 6 * i + 0) ≠ 1 := by have z := of_decide_eq_false c64; omega
                have hq2 := hkl hy
                have hpb := a_pl_b hwa h1 (by omega) (hk0 hy) g1 (by omega)
                have hfend := a_fs_end hwa h1 (by omega : i < m.2 1 1) (Int.le_refl _) (hk0 hy)
                have hf0 := a_fs_nn hwa h1 (by omega)
                have h40 := hwa.2.2.2.2.2.2.2
                have L3 : ∀ (n3 : Nat) (k : Int), 0 ≤ k → k ≤ m.2 1 (17 + 6 * i + (2 + d)) → m.2 1 (17 + 6 * i + (2 + d)) - k < n3 → zW x (fun r τ' => r = none ∧ τ' = zo σ 31 (s_lay m)) 69 [some (zR 31), some (zI i), some (zI d), some (zI k)] [] (zo σ 31 (zfor (fun _ m => s_pc i d m) k md)) := by
                  intro n3
                  induction n3 with
                  | zero => intro k y1 y2 y3; omega
                  | succ n3 ih3 =>
                    intro k y1 y2 y3
                    have hq3 := LQ_l3k hwa h1 (by omega) (hk0 hy) g1 (by omega) hq2 rfl y1 y2
                    have hih3 := ih3 (k + 1) (by omega)
                    rw [zfor_S _ y1] at hih3
                    have hgo3 : k = m.2 1 (17 + 6 * i + (2 + d)) → zfor (fun _ m => s_pc i d m) k md = s_l3 i d md := fun e => by unfold s_l3; rw [e, f3]
                    generalize zfor (fun _ m => s_pc i d m) k md = mp at hih3 hq3 hgo3 ⊢
                    have w1 : mp.2 1 = m.2 1 := hq3.1
                    have w2 : mp.2 1 (17 + 6 * i + (2 + d)) = m.2 1 (17 + 6 * i + (2 + d)) := by rw [w1]
                    have w3 : mp.1 20 = a_fs (m.2 1) i + a_pl (m.2 1) i d + k := hq3.2.1
                    refine z_iload_n (pc := 69) h dX8_laysCartons_69 rfl ?_
                    refine z_aloadR_n (pc := 70) h dX8_laysCartons_70 rfl ?_
                    refine z_iload_n (pc := 71) h dX8_laysCartons_71 rfl ?_
                    refine z_iconst (pc := 72) h dX8_laysCartons_72 ?_
                    refine z_iload_n (pc := 73) h dX8_laysCartons_73 rfl ?_
                    refine z_iadd (pc := 74) h dX8_laysCartons_74 ?_
                    refine z_pV (pc := 75) (c := 8) h (m8_of (by omega) (by omega)) (by decide) (by first | assumption | rfl) rfl mv_X8_of ml_X8_92 rfl dX8_laysCartons_75 rfl (Nat.le_of_ble_eq_true rfl) ?_
                    refine z_icmp_ge (pc := 78) (tgt := 157) h (by omega) (by omega) dX8_laysCartons_78 (by decide) (fun c78 => ?_) (fun c78 => ?_)
                    · refine z_inc_2 (pc := 157) h dX8_laysCartons_157 (by decide) rfl ?_
                      refine z_goto (pc := 160) (tgt := 54) h dX8_laysCartons_160 (by decide) ?_
                      have := hih2 (some (zI k)) (by omega) (by omega) (fun y => absurd y hy)
                      rw [hgo3 (by omega)]
                      exact this
                    · refine z_aloadR_n (pc := 81) h dX8_laysCartons_81 rfl ?_
                      refine z_getA4 (pc := 82) (c := 8) (j := 21) h (by first | assumption | rfl) rfl rfl fl_X8_30 dX8_laysCartons_82 ?_
                      refine z_aloadR_n (pc := 85) h dX8_laysCartons_85 rfl ?_
                      refine z_getIq (pc := 86) (c := 8) (j := 20) h (zo_s _ _ _) (by first | assumption | rfl) rfl rfl fl_X8_202 dX8_laysCartons_86 (fun g86 => ?_)
                      refine z_iload_n (pc := 89) h dX8_laysCartons_89 rfl ?_
                      refine z_iasto (pc := 90) (c := 8) (j := 21) (L := 40) h (by first | assumption | rfl) (by decide) rfl (by decide) (by omega) (by omega) (by omega) dX8_laysCartons_90 ?_
                      refine z_aloadR_n (pc := 91) h dX8_laysCartons_91 rfl ?_
                      refine z_getA4 (pc := 92) (c := 8) (j := 22) h (by first | assumption | rfl) rfl rfl fl_X8_33 dX8_laysCartons_92 ?_
                      refine z_aloadR_n (pc := 95) h dX8_laysCartons_95 rfl ?_
                      refine z_getIq (pc := 96) (c := 8) (j := 20) h (zo_s _ _ _) (by first | assumption | rfl) rfl rfl fl_X8_202 dX8_laysCartons_96 (fun g96 => ?_)
                      try simp only [osa_1, osa_2, oss_1, oss_2, osA_1, osA_2, zup_s, reduceIte, Nat.reduceEqDiff] at g96 ⊢
                      refine z_iload_n (pc := 99) h dX8_laysCartons_99 rfl ?_
                      refine z_iasto (pc := 100) (c := 8) (j := 22) (L := 40) h (by first | assumption | rfl) (by decide) rfl (by decide) (by omega) (by omega) (by omega) dX8_laysCartons_100 ?_
                      refine z_aloadR_n (pc := 101) h dX8_laysCartons_101 rfl ?_
                      refine z_getA4 (pc := 102) (c := 8) (j := 23) h (by first | assumption | rfl) rfl rfl fl_X8_36 dX8_laysCartons_102 ?_
                      refine z_aloadR_n (pc := 105) h dX8_laysCartons_105 rfl ?_
                      refine z_getIq (pc := 106) (c := 8) (j := 20) h (zo_s _ _ _) (by first | assumption | rfl) rfl rfl fl_X8_202 dX8_laysCartons_106 (fun g106 => ?_)
                      try simp only [osa_1, osa_2, oss_1, oss_2, osA_1, osA_2, zup_s, reduceIte, Nat.reduceEqDiff] at g106 ⊢
                      refine z_iconst (pc := 109) h dX8_laysCartons_109 ?_
                      refine z_iasto (pc := 110) (c := 8) (j := 23) (L := 40) h (by first | assumption | rfl) (by decide) rfl (by decide) (by omega) (by omega) (by omega) dX8_laysCartons_110 ?_
                      refine z_aloadR_n (pc := 111) h dX8_laysCartons_111 rfl ?_
                      refine z_getA4 (pc := 112) (c := 8) (j := 24) h (by first | assumption | rfl) rfl rfl fl_X8_39 dX8_laysCartons_112 ?_
                      refine z_aloadR_n (pc := 115) h dX8_laysCartons_115 rfl ?_
                      refine z_getIq (pc := 116) (c := 8) (j := 20) h (zo_s _ _ _) (by first | assumption | rfl) rfl rfl fl_X8_202 dX8_laysCartons_116 (fun g116 => ?_)
                      try simp only [osa_1, osa_2, oss_1, oss_2, osA_1, osA_2, zup_s, reduceIte, Nat.reduceEqDiff] at g116 ⊢
                      refine z_iconst (pc := 119) h dX8_laysCartons_119 ?_
                      refine z_iasto (pc := 120) (c := 8) (j := 24) (L := 40) h (by first | assumption | rfl) (by decide) rfl (by decide) (by omega) (by omega) (by omega) dX8_laysCartons_120 ?_
                      refine z_aloadR_n (pc := 121) h dX8_laysCartons_121 rfl ?_
                      refine z_getA4 (pc := 122) (c := 8) (j := 25) h (by first | assumption | rfl) rfl rfl fl_X8_42 dX8_laysCartons_122 ?_
                      refine z_aloadR_n (pc := 125) h dX8_laysCartons_125 rfl ?_
                      refine z_getIq (pc := 126) (c := 8) (j := 20) h (zo_s _ _ _) (by first | assumption | rfl) rfl rfl fl_X8_202 dX8_laysCartons_126 (fun g126 => ?_)
                      try simp only [osa_1, osa_2, oss_1, oss_2, osA_1, osA_2, zup_s, reduceIte, Nat.reduceEqDiff] at g126 ⊢
                      refine z_iconst (pc := 129) h dX8_laysCartons_129 ?_
                      refine z_iasto (pc := 130) (c := 8) (j := 25) (L := 40) h (by first | assumption | rfl) (by decide) rfl (by decide) (by omega) (by omega) (by omega) dX8_laysCartons_130 ?_
                      refine z_aloadR_n (pc := 131) h dX8_laysCartons_131 rfl ?_
                      refine z_getA4 (pc := 132) (c := 8) (j := 26) h (by first | assumption | rfl) rfl rfl fl_X8_45 dX8_laysCartons_132 ?_
                      refine z_aloadR_n (pc := 135) h dX8_laysCartons_135 rfl ?_
                      refine z_getIq (pc := 136) (c := 8) (j := 20) h (zo_s _ _ _) (by first | assumption | rfl) rfl rfl fl_X8_202 dX8_laysCartons_136 (fun g136 => ?_)
                      try simp only [osa_1, osa_2, oss_1, oss_2, osA_1, osA_2, zup_s, reduceIte, Nat.reduceEqDiff] at g136 ⊢
                      refine z_iconst (pc := 139) h dX8_laysCartons_139 ?_
                      refine z_iasto (pc := 140) (c := 8) (j := 26) (L := 40) h (by first | assumption | rfl) (by decide) rfl (by decide) (by omega) (by omega) (by omega) dX8_laysCartons_140 ?_
                      refine z_aloadR_n (pc := 141) h dX8_laysCartons_141 rfl ?_
                      refine z_dupR (pc := 142) h dX8_laysCartons_142 ?_
                      refine z_getIq (pc := 143) (c := 8) (j := 20) h (zo_s _ _ _) (by first | assumption | rfl) rfl rfl fl_X8_202 dX8_laysCartons_143 (fun g143 => ?_)
                      try simp only [osa_1, osa_2, oss_1, oss_2, osA_1, osA_2, zup_s, reduceIte, Nat.reduceEqDiff] at g143 ⊢
                      refine z_iconst (pc := 146) h dX8_laysCartons_146 ?_
                      refine z_iadd (pc := 147) h dX8_laysCartons_147 ?_
                      refine z_putIo (pc := 148) (c := 8) (j := 20) h (by first | assumption | rfl) rfl rfl fl_X8_202 rfl (tyX8_ok 20 (by decide)) dX8_laysCartons_148 (by omega) ?_
                      refine z_inc_3 (pc := 151) h dX8_laysCartons_151 (by decide) rfl ?_
                      refine z_goto (pc := 154) (tgt := 69) h dX8_laysCartons_154 (by decide) ?_
                      exact hih3 (by omega) (by omega)
                exact L3 (m.2 1 (17 + 6 * i + (2 + d)) + 1).toNat 0 (by omega) (by omega) (by omega)
        exact L2 5 0 _ (by omega) (by omega) (by omega) (fun _ => rfl)
  refine z_aloadR_n (pc := 0) h dX8_laysCartons_0 rfl ?_
  refine z_iconst (pc := 1) h dX8_laysCartons_1 ?_
  refine z_putIo (pc := 2) (c := 8) (j := 20) h (by first | assumption | rfl) rfl rfl fl_X8_202 rfl (tyX8_ok 20 (by decide)) dX8_laysCartons_2 (by omega) ?_
  refine z_iconst (pc := 5) h dX8_laysCartons_5 ?_
  refine z_ist_1 (pc := 6) h dX8_laysCartons_6 (by decide) rfl ?_
  exact L (m.2 1 1 + 1).toNat 0 _ _ (by omega) (by omega) (by omega)
