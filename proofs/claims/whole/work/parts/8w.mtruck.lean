/-! The model: a line for a truck. -/
def aTi (a P : Int → Int) (i : Int) : Int → Int := fun j => if 17 + 6 * a 1 ≤ j ∧ j < 17 + 6 * a 1 + i then P (j - (17 + 6 * a 1)) else a j
theorem aTi_0 (a P : Int → Int) : aTi a P 0 = a := by
  funext j
  unfold aTi
  rw [if_neg (by omega)]
theorem aTi_S (a P : Int → Int) {i : Int} (h : 0 ≤ i) : zup (aTi a P i) (17 + 6 * a 1 + i) (P i) = aTi a P (i + 1) := by
  funext j
  unfold zup aTi
  by_cases q : j = 17 + 6 * a 1 + i
  · rw [if_pos q, if_pos (by omega), q, show 17 + 6 * a 1 + i - (17 + 6 * a 1) = i by omega]
  · rw [if_neg q]
    by_cases w : 17 + 6 * a 1 ≤ j ∧ j < 17 + 6 * a 1 + i
    · rw [if_pos w, if_pos (by omega)]
    · rw [if_neg w, if_neg (by omega)]
theorem aTi_6 (a P : Int → Int) : zup (aTi a P 6) 1 (a 1 + 1) = aT a P := by
  have : aTi a P 6 = fun i => if 17 + 6 * a 1 ≤ i ∧ i ≤ 17 + 6 * a 1 + 5 then P (i - (17 + 6 * a 1)) else a i := by
    funext j
    show (if 17 + 6 * a 1 ≤ j ∧ j < 17 + 6 * a 1 + 6 then P (j - (17 + 6 * a 1)) else a j) = if 17 + 6 * a 1 ≤ j ∧ j ≤ 17 + 6 * a 1 + 5 then P (j - (17 + 6 * a 1)) else a j
    by_cases w : 17 + 6 * a 1 ≤ j ∧ j < 17 + 6 * a 1 + 6
    · rw [if_pos w, if_pos (by omega)]
    · rw [if_neg w, if_neg (by omega)]
  rw [this]
  rfl
theorem wj_d (V : Int → Int) (j : Int) : (V j ≤ 15 ∧ wj V j = V j) ∨ (¬ V j ≤ 15 ∧ wj V j = 0) := by
  unfold wj
  by_cases h : V j ≤ 15
  · exact Or.inl ⟨h, if_pos h⟩
  · exact Or.inr ⟨h, if_neg h⟩
theorem b01_1 {P : Prop} [Decidable P] : b01 (decide P) = 1 ↔ P := by
  unfold b01
  by_cases h : P
  · rw [if_pos (decide_eq_true h)]; exact ⟨fun _ => h, fun _ => rfl⟩
  · rw [if_neg (fun z => h (of_decide_eq_true z))]; exact ⟨fun z => absurd z (by decide), fun z => absurd z h⟩
theorem m8_truckLine {σ : zS} {m : zOb} {f : Int → Int} {n q ct : Int} {b : Int × Int} {out : Bool} (h2 : m.2 2 = f) (h7 : m.1 7 = n) (h4 : n ≤ 400) (hT : TOK f n q m) (hb : (m.1 14, m.1 13) = b) (hct : m.1 16 = ct) (hcb : 0 ≤ ct ∧ ct ≤ 1000) (ha0 : 0 ≤ m.2 15 1 ∧ m.2 15 1 ≤ 8) : zC M_X8_truckLine 6 [zR 31, zB out] (zo σ 31 m) (fun rr τ' => ∃ m', τ' = zo σ 31 m' ∧ KW m m' ∧ ML f n (if out = true then sOut f n (tE f n q) (tS f n q) (m.2 15) ct b else sIn f n (tE f n q) (tS f n q) (m.2 15) ct b) rr m') := by
  have hq := hT.1
  have hs := tS_b (f := f) hq.2
  have he := tE_b (f := f) hq.2
  have e8 := hT.2.2.1
  have e6 := hT.2.1
  generalize ha : m.2 15 = a at ha0 ⊢
  have hm1 : m.2 15 1 = a 1 := by rw [ha]
  generalize hR : (if out = true then sOut f n (tE f n q) (tS f n q) a ct b else sIn f n (tE f n q) (tS f n q) a ct b) = R
  refine zC_of (M := M_X8_truckLine) (ls := [some (zR 31), some (zB out), none, none, none, none]) (n := 4) (by decide) (fun ad => Nat.le_of_ble_eq_true rfl) rfl (fun x h => ?_)
  -- the table is written
  have E : ∀ (y : zOb) (P : Int → Int) (ld : Int) (B : Int × Int) (mo : Bool) (l5 : Option Value), mo = decide (a 1 < 8) → KW m y → y.2 15 = a → y.1 16 = ct → (∀ k, 0 ≤ k → k ≤ 5 → y.2 18 k = P k) → (∀ k, 0 ≤ k → k ≤ 5 → 0 ≤ P k ∧ P k ≤ 999) → (0 ≤ ld ∧ ld ≤ 100) → (y.1 14, y.1 13) = B → TOK f n (nQ f n (tE f n q) 5) y → nG f n (tE f n q) 5 = -1 → R = num f n (tE f n q) 5 (nQ f n (tE f n q) 6, if a 1 < 8 then aT a P else a, if a 1 < 8 then ct + ld else ct, B) → zW x (fun rr τ' => ∃ m', τ' = zo σ 31 m' ∧ KW m m' ∧ ML f n R rr m') 145 [some (zR 31), some (zB out), some (zB mo), some (zI (tS f n q)), some (zI ld), l5] [] (zo σ 31 y) := by
    intro y P ld B mo l5 hmo hk y15 y16 yp hP hld yb yT hG hRe
    have fin : ∀ y' : zOb, KW m y' → TOK f n (nQ f n (tE f n q) 5) y' → y'.2 15 = (if a 1 < 8 then aT a P else a) → y'.1 16 = (if a 1 < 8 then ct + ld else ct) → (y'.1 14, y'.1 13) = B → ∃ m', zo σ 31 y' = zo σ 31 m' ∧ KW m m' ∧ ML f n R (some (zB true)) m' := fun y' k1 k2 k3 k4 k5 => ⟨y', rfl, k1, Or.inr ⟨tE f n q, 5, _, by omega, by omega, hRe, rfl, Or.inl ⟨hG, rfl, k2, k3, k4, k5⟩⟩⟩
    have W : ∀ (k : Nat) (i : Int) (w : zOb), 0 ≤ i → i ≤ 6 → 6 - i < k → a 1 < 8 → KW m w → TOK f n (nQ f n (tE f n q) 5) w → w.2 15 = aTi a P i → w.1 16 = ct + ld → (w.1 14, w.1 13) = B → (∀ k, 0 ≤ k → k ≤ 5 → w.2 18 k = P k) → zW x (fun rr τ' => ∃ m', τ' = zo σ 31 m' ∧ KW m m' ∧ ML f n R rr m') 163 [some (zR 31), some (zB out), some (zB mo), some (zI (tS f n q)), some (zI ld), some (zI i)] [] (zo σ 31 w) := by
      intro k
      induction k with
      | zero => intro i w g1 g2 g3; omega
      | succ k ih =>
        intro i w g1 g2 g3 g8 wk wT w15 w16 wb wp
        have w1 : w.2 15 1 = a 1 := by rw [w15]; unfold aTi; rw [if_neg (by omega)]
        refine z_iload (pc := 163) h dX8_truckLine_163 rfl ?_
        refine z_bipush (pc := 165) h dX8_truckLine_165 (by decide) ?_
        refine z_icmp_ge (pc := 167) (tgt := 203) h (by omega) (by omega) dX8_truckLine_167 (by decide) (fun c167 => ?_) (fun c167 => ?_)
        · refine z_aloadR_n (pc := 203) h dX8_truckLine_203 rfl ?_
          refine z_getA4 (pc := 204) (c := 8) (j := 15) h (by first | assumption | rfl) rfl rfl fl_X8_24 dX8_truckLine_204 ?_
          refine z_iconst (pc := 207) h dX8_truckLine_207 ?_
          refine z_dup2AI (pc := 208) h dX8_truckLine_208 ?_
          refine z_ialdq (pc := 209) (c := 8) (j := 15) (L := 119) h (zo_s _ _ _) (by first | assumption | rfl) (by decide) rfl (by decide) (by omega) (by omega) dX8_truckLine_209 (fun g209 => ?_)
          refine z_iconst (pc := 210) h dX8_truckLine_210 ?_
          refine z_iadd (pc := 211) h dX8_truckLine_211 ?_
          rw [w1]
          refine z_iasto (pc := 212) (c := 8) (j := 15) (L := 119) h (by first | assumption | rfl) (by decide) rfl (by decide) (by omega) (by omega) (by omega) dX8_truckLine_212 ?_
          refine z_iconst (pc := 213) h dX8_truckLine_213 ?_
          refine z_zret (pc := 214) h rfl (by omega) dX8_truckLine_214 ?_
          refine fin _ ⟨wk.1, fun j ja jb => ?_⟩ wT ?_ (by rw [if_pos g8]; exact w16) wb
          · show (if j = 15 then _ else w.2 j) = _
            rw [if_neg ja]; exact wk.2 j ja jb
          · show zup (w.2 15) 1 (a 1 + 1) = _
            rw [w15, show i = 6 by omega, aTi_6, if_pos g8]
        · refine z_aloadR_n (pc := 170) h dX8_truckLine_170 rfl ?_
          refine z_getA4 (pc := 171) (c := 8) (j := 15) h (by first | assumption | rfl) rfl rfl fl_X8_24 dX8_truckLine_171 ?_
          refine z_bipush (pc := 174) h dX8_truckLine_174 (by decide) ?_
          refine z_bipush (pc := 176) h dX8_truckLine_176 (by decide) ?_
          refine z_aloadR_n (pc := 178) h dX8_truckLine_178 rfl ?_
          refine z_getA4 (pc := 179) (c := 8) (j := 15) h (by first | assumption | rfl) rfl rfl fl_X8_24 dX8_truckLine_179 ?_
          refine z_iconst (pc := 182) h dX8_truckLine_182 ?_
          refine z_ialdq (pc := 183) (c := 8) (j := 15) (L := 119) h (zo_s _ _ _) (by first | assumption | rfl) (by decide) rfl (by decide) (by omega) (by omega) dX8_truckLine_183 (fun g183 => ?_)
          rw [w1]
          refine z_imul (pc := 184) h dX8_truckLine_184 ?_
          refine z_iadd (pc := 185) h dX8_truckLine_185 ?_
          refine z_iload (pc := 186) h dX8_truckLine_186 rfl ?_
          refine z_iadd (pc := 188) h dX8_truckLine_188 ?_
          refine z_aloadR_n (pc := 189) h dX8_truckLine_189 rfl ?_
          refine z_getA4 (pc := 190) (c := 8) (j := 18) h (by first | assumption | rfl) rfl rfl fl_X8_27 dX8_truckLine_190 ?_
          refine z_iload (pc := 193) h dX8_truckLine_193 rfl ?_
          refine z_ialdq (pc := 195) (c := 8) (j := 18) (L := 6) h (zo_s _ _ _) (by first | assumption | rfl) (by decide) rfl (by decide) (by omega) (by omega) dX8_truckLine_195 (fun g195 => ?_)
          rw [wp i (by omega) (by omega)]
          have hPi := hP i (by omega) (by omega)
          refine z_iasto (pc := 196) (c := 8) (j := 15) (L := 119) h (by first | assumption | rfl) (by decide) rfl (by decide) (by omega) (by omega) (by omega) dX8_truckLine_196 ?_
          refine z_inc_5 (pc := 197) h dX8_truckLine_197 (by decide) rfl ?_
          refine z_goto (pc := 200) (tgt := 163) h dX8_truckLine_200 (by decide) ?_
          refine ih (i + 1) _ (by omega) (by omega) (by omega) g8 ⟨wk.1, fun j ja jb => ?_⟩ wT ?_ w16 wb wp
          · show (if j = 15 then _ else w.2 j) = _
            rw [if_neg ja]; exact wk.2 j ja jb
          · show zup (w.2 15) (17 + 6 * a 1 + i) (P i) = _
            rw [w15, aTi_S a P g1]
    refine z_iload_n (pc := 145) h dX8_truckLine_145 rfl ?_
    refine z_if_eq (pc := 146) (tgt := 213) h (by omega) dX8_truckLine_146 (by decide) (fun c146 => ?_) (fun c146 => ?_)
    · have hmo2 : ¬ a 1 < 8 := by rw [hmo] at c146; exact of_decide_eq_false (zb0 c146)
      refine z_iconst (pc := 213) h dX8_truckLine_213 ?_
      refine z_zret (pc := 214) h rfl (by omega) dX8_truckLine_214 ?_
      exact fin y hk yT (by rw [if_neg hmo2]; exact y15) (by rw [if_neg hmo2]; exact y16) yb
    · have hmo2 : a 1 < 8 := by rw [hmo] at c146; exact of_decide_eq_true (zb1 c146)
      refine z_aloadR_n (pc := 149) h dX8_truckLine_149 rfl ?_
      refine z_dupR (pc := 150) h dX8_truckLine_150 ?_
      refine z_getIq (pc := 151) (c := 8) (j := 16) h (zo_s _ _ _) (by first | assumption | rfl) rfl rfl fl_X8_162 dX8_truckLine_151 (fun g151 => ?_)
      refine z_iload (pc := 154) h dX8_truckLine_154 rfl ?_
      refine z_iadd (pc := 156) h dX8_truckLine_156 ?_
      refine z_putIo (pc := 157) (c := 8) (j := 16) h (by first | assumption | rfl) rfl rfl fl_X8_162 rfl (tyX8_ok 16 (by decide)) dX8_truckLine_157 (by omega) ?_
      refine z_iconst (pc := 160) h dX8_truckLine_160 ?_
      refine z_ist_5 (pc := 161) h dX8_truckLine_161 (by decide) rfl ?_
      refine W 7 0 _ (by omega) (by omega) (by omega) hmo2 ⟨fun j hj => ?_, hk.2⟩ yT ?_ ?_ yb yp
      · show (if j = 16 then _ else y.1 j) = _
        rw [if_neg (by omega)]; exact hk.1 j hj
      · rw [aTi_0]; exact y15
      · show y.1 16 + ld = _; rw [y16]
  have NO : ∀ (mo : Bool) (y : zOb), out = true → mo = decide (a 1 < 8) → KU m y → y.2 15 = a → y.1 16 = ct → TOK f n (tE f n q) y → (y.1 14, y.1 13) = bTr (a 1) b (tS f n q) → y.2 18 0 = 1 → zW x (fun rr τ' => ∃ m', τ' = zo σ 31 m' ∧ KW m m' ∧ ML f n R rr m') 51 [some (zR 31), some (zB out), some (zB mo), some (zI (tS f n q)), none, none] [] (zo σ 31 y) := by
    intro mo y hout hmo hk y15 y16 yT yb yp0
    have y2 : y.2 2 = f := by rw [hk.2 2 (by decide)]; exact h2
    have y7 : y.1 7 = n := by rw [hk.1 7 (by omega)]; exact h7
    rw [if_pos hout] at hR
    subst hout
    refine z_iload_n (pc := 51) h dX8_truckLine_51 rfl ?_
    refine z_ifeqB (pc := 52) (tgt := 65) h dX8_truckLine_52 (by decide) (fun c52 => ?_) (fun c52 => ?_)
    · exact absurd c52 (by decide)
    · refine z_aloadR_n (pc := 55) h dX8_truckLine_55 rfl ?_
      refine z_callV (pc := 56) (c := 8) h (m8_outNumbers y2 y7 h4 yT yb) (by decide) (by first | assumption | rfl) rfl mv_X8_outNumbers ml_X8_156 rfl dX8_truckLine_56 rfl (Nat.le_of_ble_eq_true rfl) (fun r56 τ56 q56 => ?_)
      obtain ⟨rfl, w, rfl, wk, hw⟩ := q56
      have wkm := hk.tr wk
      refine z_ifeqB (pc := 59) (tgt := 72) h dX8_truckLine_59 (by decide) (fun c59 => ?_) (fun c59 => ?_)
      · have hG := of_decide_eq_false c59
        rw [if_neg hG] at hw
        refine z_iconst (pc := 72) h dX8_truckLine_72 ?_
        refine z_zret (pc := 73) h rfl (by omega) dX8_truckLine_73 ?_
        refine ⟨w, rfl, wkm.kw, Or.inr ⟨tE f n q, 5, _, yT.1, by omega, hR.symm, rfl, Or.inr ⟨hG, rfl, hw⟩⟩⟩
      · have hG := of_decide_eq_true c59
        rw [if_pos hG] at hw
        obtain ⟨wT, wb, wp, wp0⟩ := hw
        have w15 : w.2 15 = a := by rw [wk.2 15 (by decide)]; exact y15
        have w16 : w.1 16 = ct := by rw [wk.1 16 (by omega)]; exact y16
        have hvb : ∀ j, 0 ≤ j → j < 5 → 0 ≤ vN f n (tE f n q) j ∧ vN f n (tE f n q) j ≤ 999 := fun j a b => tV_b (nG_ok hG j a b)
        refine z_goto (pc := 62) (tgt := 74) h dX8_truckLine_62 (by decide) ?_
        refine z_iload_n (pc := 74) h dX8_truckLine_74 rfl ?_
        refine z_ifeqB (pc := 75) (tgt := 82) h dX8_truckLine_75 (by decide) (fun c75 => ?_) (fun c75 => ?_)
        · exact absurd c75 (by decide)
        · refine z_iconst (pc := 78) h dX8_truckLine_78 ?_
          refine z_goto (pc := 79) (tgt := 109) h dX8_truckLine_79 (by decide) ?_
          refine z_ist_4 (pc := 109) h dX8_truckLine_109 (by decide) rfl ?_
          refine z_iload_n (pc := 111) h dX8_truckLine_111 rfl ?_
          refine z_ifneB (pc := 112) (tgt := 145) h dX8_truckLine_112 (by decide) (fun c112 => ?_) (fun c112 => ?_)
          · refine E w (pOut (vN f n (tE f n q))) 0 (bOut (a 1) b (tS f n q) (vN f n (tE f n q)) (pN f n (tE f n q))) mo _ hmo wkm.kw w15 w16 (fun k k0 k5 => ?_) (fun k k0 k5 => ?_) (by omega) (by rw [wb]; rfl) wT hG (by rw [← hR, Int.add_zero, ite_self]; rfl)
            · by_cases e : k = 0
              · rw [e, wp0, yp0]; rfl
              · exact wp k (by omega) k5
            · unfold pOut
              by_cases e : k = 0
              · rw [if_pos e]; omega
              · rw [if_neg e]; exact hvb (k - 1) (by omega) (by omega)
          · exact absurd c112 (by decide)
  have NI : ∀ (mo : Bool) (y : zOb), out = false → mo = decide (a 1 < 8) → KU m y → y.2 15 = a → y.1 16 = ct → TOK f n (tE f n q) y → (y.1 14, y.1 13) = bTr (a 1) b (tS f n q) → y.2 18 0 = 0 → zW x (fun rr τ' => ∃ m', τ' = zo σ 31 m' ∧ KW m m' ∧ ML f n R rr m') 51 [some (zR 31), some (zB out), some (zB mo), some (zI (tS f n q)), none, none] [] (zo σ 31 y) := by
    intro mo y hout hmo hk y15 y16 yT yb yp0
    have y2 : y.2 2 = f := by rw [hk.2 2 (by decide)]; exact h2
    have y7 : y.1 7 = n := by rw [hk.1 7 (by omega)]; exact h7
    rw [if_neg (by rw [hout]; decide)] at hR
    subst hout
    refine z_iload_n (pc := 51) h dX8_truckLine_51 rfl ?_
    refine z_ifeqB (pc := 52) (tgt := 65) h dX8_truckLine_52 (by decide) (fun c52 => ?_) (fun c52 => ?_)
    · refine z_aloadR_n (pc := 65) h dX8_truckLine_65 rfl ?_
      refine z_callV (pc := 66) (c := 8) h (m8_inNumbers y2 y7 h4 yT yb) (by decide) (by first | assumption | rfl) rfl mv_X8_inNumbers ml_X8_159 rfl dX8_truckLine_66 rfl (Nat.le_of_ble_eq_true rfl) (fun r66 τ66 q66 => ?_)
      obtain ⟨rfl, w, rfl, wk, hw⟩ := q66
      have wkm := hk.tr wk
      refine z_ifneB (pc := 69) (tgt := 74) h dX8_truckLine_69 (by decide) (fun c69 => ?_) (fun c69 => ?_)
      · have hG := of_decide_eq_true c69
        rw [if_pos hG] at hw
        obtain ⟨wT, wb, wp, wp0, wac⟩ := hw
        have w15 : w.2 15 = a := by rw [wk.2 15 (by decide)]; exact y15
        have w16 : w.1 16 = ct := by rw [wk.1 16 (by omega)]; exact y16
        have hvb : ∀ j, 0 ≤ j → j < 5 → 0 ≤ vN f n (tE f n q) j ∧ vN f n (tE f n q) j ≤ 999 := fun j a b => tV_b (nG_ok hG j a b)
        have hwb := wb
        change _ = bIn5 (a 1) b (tS f n q) (vN f n (tE f n q)) (pN f n (tE f n q)) at hwb
        rw [AC_5] at wac
        have q2 := wp 2 (by omega) (by omega)
        have q3 := wp 3 (by omega) (by omega)
        have q4 := wp 4 (by omega) (by omega)
        have q5 := wp 5 (by omega) (by omega)
        have bw : ∀ j, 0 ≤ j → j < 5 → 0 ≤ wj (vN f n (tE f n q)) j ∧ wj (vN f n (tE f n q)) j ≤ 15 := fun j j0 j1 => wj_b (hvb j j0 j1).1
        have b1 := bw 1 (by omega) (by omega)
        have b2 := bw 2 (by omega) (by omega)
        have b3 := bw 3 (by omega) (by omega)
        have b4 := bw 4 (by omega) (by omega)
        have v1 := hvb 1 (by omega) (by omega)
        have v2 := hvb 2 (by omega) (by omega)
        have v3 := hvb 3 (by omega) (by omega)
        have v4 := hvb 4 (by omega) (by omega)
        change w.2 18 2 = wj (vN f n (tE f n q)) 1 at q2
        change w.2 18 3 = wj (vN f n (tE f n q)) 2 at q3
        change w.2 18 4 = wj (vN f n (tE f n q)) 3 at q4
        change w.2 18 5 = wj (vN f n (tE f n q)) 4 at q5
        have hlf : lfB ct (vN f n (tE f n q)) = true ↔ ((ldV (vN f n (tE f n q)) = 0 ∧ w.1 19 = 1) ∨ 40 < ct + ldV (vN f n (tE f n q))) := by
          unfold lfB
          rw [decide_eq_true_iff, wac, b01_1]
          have d1 := wj_d (vN f n (tE f n q)) 1
          have d2 := wj_d (vN f n (tE f n q)) 2
          have d3 := wj_d (vN f n (tE f n q)) 3
          have d4 := wj_d (vN f n (tE f n q)) 4
          unfold ldV
          omega
        refine z_iload_n (pc := 74) h dX8_truckLine_74 rfl ?_
        refine z_ifeqB (pc := 75) (tgt := 82) h dX8_truckLine_75 (by decide) (fun c75 => ?_) (fun c75 => ?_)
        · refine z_aloadR_n (pc := 82) h dX8_truckLine_82 rfl ?_
          refine z_getA4 (pc := 83) (c := 8) (j := 18) h (by first | assumption | rfl) rfl rfl fl_X8_27 dX8_truckLine_83 ?_
          refine z_iconst (pc := 86) h dX8_truckLine_86 ?_
          refine z_ialdq (pc := 87) (c := 8) (j := 18) (L := 6) h (zo_s _ _ _) (by first | assumption | rfl) (by decide) rfl (by decide) (by omega) (by omega) dX8_truckLine_87 (fun g87 => ?_)
          refine z_aloadR_n (pc := 88) h dX8_truckLine_88 rfl ?_
          refine z_getA4 (pc := 89) (c := 8) (j := 18) h (by first | assumption | rfl) rfl rfl fl_X8_27 dX8_truckLine_89 ?_
          refine z_iconst (pc := 92) h dX8_truckLine_92 ?_
          refine z_ialdq (pc := 93) (c := 8) (j := 18) (L := 6) h (zo_s _ _ _) (by first | assumption | rfl) (by decide) rfl (by decide) (by omega) (by omega) dX8_truckLine_93 (fun g93 => ?_)
          refine z_iadd (pc := 94) h dX8_truckLine_94 ?_
          refine z_aloadR_n (pc := 95) h dX8_truckLine_95 rfl ?_
          refine z_getA4 (pc := 96) (c := 8) (j := 18) h (by first | assumption | rfl) rfl rfl fl_X8_27 dX8_truckLine_96 ?_
          refine z_iconst (pc := 99) h dX8_truckLine_99 ?_
          refine z_ialdq (pc := 100) (c := 8) (j := 18) (L := 6) h (zo_s _ _ _) (by first | assumption | rfl) (by decide) rfl (by decide) (by omega) (by omega) dX8_truckLine_100 (fun g100 => ?_)
          refine z_iadd (pc := 101) h dX8_truckLine_101 ?_
          refine z_aloadR_n (pc := 102) h dX8_truckLine_102 rfl ?_
          refine z_getA4 (pc := 103) (c := 8) (j := 18) h (by first | assumption | rfl) rfl rfl fl_X8_27 dX8_truckLine_103 ?_
          refine z_iconst (pc := 106) h dX8_truckLine_106 ?_
          refine z_ialdq (pc := 107) (c := 8) (j := 18) (L := 6) h (zo_s _ _ _) (by first | assumption | rfl) (by decide) rfl (by decide) (by omega) (by omega) dX8_truckLine_107 (fun g107 => ?_)
          refine z_iadd (pc := 108) h dX8_truckLine_108 ?_
          rw [q2, q3, q4, q5]
          change zW x _ 109 _ (zI (ldV (vN f n (tE f n q))) :: _) _
          have hld : 0 ≤ ldV (vN f n (tE f n q)) ∧ ldV (vN f n (tE f n q)) ≤ 60 := by unfold ldV; omega
          refine z_ist_4 (pc := 109) h dX8_truckLine_109 (by decide) rfl ?_
          refine z_iload_n (pc := 111) h dX8_truckLine_111 rfl ?_
          refine z_ifneB (pc := 112) (tgt := 145) h dX8_truckLine_112 (by decide) (fun c112 => ?_) (fun c112 => ?_)
          · exact absurd c112 (by decide)
          · refine z_iload (pc := 115) h dX8_truckLine_115 rfl ?_
            refine z_if_ne (pc := 117) (tgt := 127) h (by omega) dX8_truckLine_117 (by decide) (fun c117 => ?_) (fun c117 => ?_)
            · refine z_aloadR_n (pc := 127) h dX8_truckLine_127 rfl ?_
              refine z_getIq (pc := 128) (c := 8) (j := 16) h (zo_s _ _ _) (by first | assumption | rfl) rfl rfl fl_X8_162 dX8_truckLine_128 (fun g128 => ?_)
              refine z_iload (pc := 131) h dX8_truckLine_131 rfl ?_
              refine z_iadd (pc := 133) h dX8_truckLine_133 ?_
              refine z_bipush (pc := 134) h dX8_truckLine_134 (by decide) ?_
              refine z_icmp_le (pc := 136) (tgt := 145) h (by omega) (by omega) dX8_truckLine_136 (by decide) (fun c136 => ?_) (fun c136 => ?_)
              · have hpk : ∀ k, 0 ≤ k → k ≤ 5 → w.2 18 k = pIn (vN f n (tE f n q)) k := fun k k0 k5 => by
                  by_cases e : k = 0
                  · rw [e, wp0, yp0]; rfl
                  · exact wp k (by omega) k5
                have hpb : ∀ k, 0 ≤ k → k ≤ 5 → 0 ≤ pIn (vN f n (tE f n q)) k ∧ pIn (vN f n (tE f n q)) k ≤ 999 := fun k k0 k5 => by
                  unfold pIn
                  by_cases e : k = 0
                  · rw [if_pos e]; omega
                  · rw [if_neg e]
                    by_cases e1 : k = 1
                    · rw [if_pos e1]; exact hvb 0 (by omega) (by omega)
                    · rw [if_neg e1]; have := bw (k - 1) (by omega) (by omega); omega
                first
                | (exfalso; omega)
                | (have hl := hlf.mpr (by omega)
                   rw [hwb]
                   exact E _ (pIn (vN f n (tE f n q))) (ldV (vN f n (tE f n q))) (bIn (a 1) ct b (tS f n q) (vN f n (tE f n q)) (pN f n (tE f n q))) mo _ hmo ⟨fun j hj => (by show (if j = 13 then _ else if j = 14 then _ else w.1 j) = _; rw [if_neg (by omega), if_neg (by omega)]; exact wkm.kw.1 j hj), wkm.kw.2⟩ w15 w16 hpk hpb (by omega) (by unfold bIn; rw [if_pos hl]; rfl) wT hG hR.symm)
                | (have hl : ¬ lfB ct (vN f n (tE f n q)) = true := fun z => (by have := hlf.mp z; omega)
                   exact E w (pIn (vN f n (tE f n q))) (ldV (vN f n (tE f n q))) (bIn (a 1) ct b (tS f n q) (vN f n (tE f n q)) (pN f n (tE f n q))) mo _ hmo wkm.kw w15 w16 hpk hpb (by omega) (by unfold bIn; rw [if_neg hl]; exact hwb) wT hG hR.symm)
              · refine z_aloadR_n (pc := 139) h dX8_truckLine_139 rfl ?_
                refine z_iconst (pc := 140) h dX8_truckLine_140 ?_
                refine z_iload_n (pc := 141) h dX8_truckLine_141 rfl ?_
                refine z_vV (pc := 142) (c := 8) h (m8_isBad (by omega) (by omega)) (by decide) (by first | assumption | rfl) rfl mv_X8_isBad ml_X8_137 rfl dX8_truckLine_142 rfl (Nat.le_of_ble_eq_true rfl) ?_
                have hpk : ∀ k, 0 ≤ k → k ≤ 5 → w.2 18 k = pIn (vN f n (tE f n q)) k := fun k k0 k5 => by
                  by_cases e : k = 0
                  · rw [e, wp0, yp0]; rfl
                  · exact wp k (by omega) k5
                have hpb : ∀ k, 0 ≤ k → k ≤ 5 → 0 ≤ pIn (vN f n (tE f n q)) k ∧ pIn (vN f n (tE f n q)) k ≤ 999 := fun k k0 k5 => by
                  unfold pIn
                  by_cases e : k = 0
                  · rw [if_pos e]; omega
                  · rw [if_neg e]
                    by_cases e1 : k = 1
                    · rw [if_pos e1]; exact hvb 0 (by omega) (by omega)
                    · rw [if_neg e1]; have := bw (k - 1) (by omega) (by omega); omega
                first
                | (exfalso; omega)
                | (have hl := hlf.mpr (by omega)
                   rw [hwb]
                   exact E _ (pIn (vN f n (tE f n q))) (ldV (vN f n (tE f n q))) (bIn (a 1) ct b (tS f n q) (vN f n (tE f n q)) (pN f n (tE f n q))) mo _ hmo ⟨fun j hj => (by show (if j = 13 then _ else if j = 14 then _ else w.1 j) = _; rw [if_neg (by omega), if_neg (by omega)]; exact wkm.kw.1 j hj), wkm.kw.2⟩ w15 w16 hpk hpb (by omega) (by unfold bIn; rw [if_pos hl]; rfl) wT hG hR.symm)
                | (have hl : ¬ lfB ct (vN f n (tE f n q)) = true := fun z => (by have := hlf.mp z; omega)
                   exact E w (pIn (vN f n (tE f n q))) (ldV (vN f n (tE f n q))) (bIn (a 1) ct b (tS f n q) (vN f n (tE f n q)) (pN f n (tE f n q))) mo _ hmo wkm.kw w15 w16 hpk hpb (by omega) (by unfold bIn; rw [if_neg hl]; exact hwb) wT hG hR.symm)
            · refine z_aloadR_n (pc := 120) h dX8_truckLine_120 rfl ?_
              refine z_getZq (pc := 121) (c := 8) (j := 19) h (zo_s _ _ _) (by first | assumption | rfl) rfl rfl fl_X8_152 dX8_truckLine_121 (fun g121 => ?_)
              refine z_if_ne (pc := 124) (tgt := 139) h (by omega) dX8_truckLine_124 (by decide) (fun c124 => ?_) (fun c124 => ?_)
              · refine z_aloadR_n (pc := 139) h dX8_truckLine_139 rfl ?_
                refine z_iconst (pc := 140) h dX8_truckLine_140 ?_
                refine z_iload_n (pc := 141) h dX8_truckLine_141 rfl ?_
                refine z_vV (pc := 142) (c := 8) h (m8_isBad (by omega) (by omega)) (by decide) (by first | assumption | rfl) rfl mv_X8_isBad ml_X8_137 rfl dX8_truckLine_142 rfl (Nat.le_of_ble_eq_true rfl) ?_
                have hpk : ∀ k, 0 ≤ k → k ≤ 5 → w.2 18 k = pIn (vN f n (tE f n q)) k := fun k k0 k5 => by
                  by_cases e : k = 0
                  · rw [e, wp0, yp0]; rfl
                  · exact wp k (by omega) k5
                have hpb : ∀ k, 0 ≤ k → k ≤ 5 → 0 ≤ pIn (vN f n (tE f n q)) k ∧ pIn (vN f n (tE f n q)) k ≤ 999 := fun k k0 k5 => by
                  unfold pIn
                  by_cases e : k = 0
                  · rw [if_pos e]; omega
                  · rw [if_neg e]
                    by_cases e1 : k = 1
                    · rw [if_pos e1]; exact hvb 0 (by omega) (by omega)
                    · rw [if_neg e1]; have := bw (k - 1) (by omega) (by omega); omega
                first
                | (exfalso; omega)
                | (have hl := hlf.mpr (by omega)
                   rw [hwb]
                   exact E _ (pIn (vN f n (tE f n q))) (ldV (vN f n (tE f n q))) (bIn (a 1) ct b (tS f n q) (vN f n (tE f n q)) (pN f n (tE f n q))) mo _ hmo ⟨fun j hj => (by show (if j = 13 then _ else if j = 14 then _ else w.1 j) = _; rw [if_neg (by omega), if_neg (by omega)]; exact wkm.kw.1 j hj), wkm.kw.2⟩ w15 w16 hpk hpb (by omega) (by unfold bIn; rw [if_pos hl]; rfl) wT hG hR.symm)
                | (have hl : ¬ lfB ct (vN f n (tE f n q)) = true := fun z => (by have := hlf.mp z; omega)
                   exact E w (pIn (vN f n (tE f n q))) (ldV (vN f n (tE f n q))) (bIn (a 1) ct b (tS f n q) (vN f n (tE f n q)) (pN f n (tE f n q))) mo _ hmo wkm.kw w15 w16 hpk hpb (by omega) (by unfold bIn; rw [if_neg hl]; exact hwb) wT hG hR.symm)
              · refine z_aloadR_n (pc := 127) h dX8_truckLine_127 rfl ?_
                refine z_getIq (pc := 128) (c := 8) (j := 16) h (zo_s _ _ _) (by first | assumption | rfl) rfl rfl fl_X8_162 dX8_truckLine_128 (fun g128 => ?_)
                refine z_iload (pc := 131) h dX8_truckLine_131 rfl ?_
                refine z_iadd (pc := 133) h dX8_truckLine_133 ?_
                refine z_bipush (pc := 134) h dX8_truckLine_134 (by decide) ?_
                refine z_icmp_le (pc := 136) (tgt := 145) h (by omega) (by omega) dX8_truckLine_136 (by decide) (fun c136 => ?_) (fun c136 => ?_)
                · have hpk : ∀ k, 0 ≤ k → k ≤ 5 → w.2 18 k = pIn (vN f n (tE f n q)) k := fun k k0 k5 => by
                    by_cases e : k = 0
                    · rw [e, wp0, yp0]; rfl
                    · exact wp k (by omega) k5
                  have hpb : ∀ k, 0 ≤ k → k ≤ 5 → 0 ≤ pIn (vN f n (tE f n q)) k ∧ pIn (vN f n (tE f n q)) k ≤ 999 := fun k k0 k5 => by
                    unfold pIn
                    by_cases e : k = 0
                    · rw [if_pos e]; omega
                    · rw [if_neg e]
                      by_cases e1 : k = 1
                      · rw [if_pos e1]; exact hvb 0 (by omega) (by omega)
                      · rw [if_neg e1]; have := bw (k - 1) (by omega) (by omega); omega
                  first
                  | (exfalso; omega)
                  | (have hl := hlf.mpr (by omega)
                     rw [hwb]
                     exact E _ (pIn (vN f n (tE f n q))) (ldV (vN f n (tE f n q))) (bIn (a 1) ct b (tS f n q) (vN f n (tE f n q)) (pN f n (tE f n q))) mo _ hmo ⟨fun j hj => (by show (if j = 13 then _ else if j = 14 then _ else w.1 j) = _; rw [if_neg (by omega), if_neg (by omega)]; exact wkm.kw.1 j hj), wkm.kw.2⟩ w15 w16 hpk hpb (by omega) (by unfold bIn; rw [if_pos hl]; rfl) wT hG hR.symm)
                  | (have hl : ¬ lfB ct (vN f n (tE f n q)) = true := fun z => (by have := hlf.mp z; omega)
                     exact E w (pIn (vN f n (tE f n q))) (ldV (vN f n (tE f n q))) (bIn (a 1) ct b (tS f n q) (vN f n (tE f n q)) (pN f n (tE f n q))) mo _ hmo wkm.kw w15 w16 hpk hpb (by omega) (by unfold bIn; rw [if_neg hl]; exact hwb) wT hG hR.symm)
                · refine z_aloadR_n (pc := 139) h dX8_truckLine_139 rfl ?_
                  refine z_iconst (pc := 140) h dX8_truckLine_140 ?_
                  refine z_iload_n (pc := 141) h dX8_truckLine_141 rfl ?_
                  refine z_vV (pc := 142) (c := 8) h (m8_isBad (by omega) (by omega)) (by decide) (by first | assumption | rfl) rfl mv_X8_isBad ml_X8_137 rfl dX8_truckLine_142 rfl (Nat.le_of_ble_eq_true rfl) ?_
                  have hpk : ∀ k, 0 ≤ k → k ≤ 5 → w.2 18 k = pIn (vN f n (tE f n q)) k := fun k k0 k5 => by
                    by_cases e : k = 0
                    · rw [e, wp0, yp0]; rfl
                    · exact wp k (by omega) k5
                  have hpb : ∀ k, 0 ≤ k → k ≤ 5 → 0 ≤ pIn (vN f n (tE f n q)) k ∧ pIn (vN f n (tE f n q)) k ≤ 999 := fun k k0 k5 => by
                    unfold pIn
                    by_cases e : k = 0
                    · rw [if_pos e]; omega
                    · rw [if_neg e]
                      by_cases e1 : k = 1
                      · rw [if_pos e1]; exact hvb 0 (by omega) (by omega)
                      · rw [if_neg e1]; have := bw (k - 1) (by omega) (by omega); omega
                  first
                  | (exfalso; omega)
                  | (have hl := hlf.mpr (by omega)
                     rw [hwb]
                     exact E _ (pIn (vN f n (tE f n q))) (ldV (vN f n (tE f n q))) (bIn (a 1) ct b (tS f n q) (vN f n (tE f n q)) (pN f n (tE f n q))) mo _ hmo ⟨fun j hj => (by show (if j = 13 then _ else if j = 14 then _ else w.1 j) = _; rw [if_neg (by omega), if_neg (by omega)]; exact wkm.kw.1 j hj), wkm.kw.2⟩ w15 w16 hpk hpb (by omega) (by unfold bIn; rw [if_pos hl]; rfl) wT hG hR.symm)
                  | (have hl : ¬ lfB ct (vN f n (tE f n q)) = true := fun z => (by have := hlf.mp z; omega)
                     exact E w (pIn (vN f n (tE f n q))) (ldV (vN f n (tE f n q))) (bIn (a 1) ct b (tS f n q) (vN f n (tE f n q)) (pN f n (tE f n q))) mo _ hmo wkm.kw w15 w16 hpk hpb (by omega) (by unfold bIn; rw [if_neg hl]; exact hwb) wT hG hR.symm)
        · exact absurd c75 (by decide)
      · have hG := of_decide_eq_false c69
        rw [if_neg hG] at hw
        refine z_iconst (pc := 72) h dX8_truckLine_72 ?_
        refine z_zret (pc := 73) h rfl (by omega) dX8_truckLine_73 ?_
        refine ⟨w, rfl, wkm.kw, Or.inr ⟨tE f n q, 5, _, yT.1, by omega, hR.symm, rfl, Or.inr ⟨hG, rfl, hw⟩⟩⟩
    · exact absurd c52 (by decide)
  -- behind the count of trucks
  have N : ∀ (mo : Bool) (y : zOb), mo = decide (a 1 < 8) → KS m y → y.1 6 = tE f n q → (y.1 14, y.1 13) = bTr (a 1) b (tS f n q) → zW x (fun rr τ' => ∃ m', τ' = zo σ 31 m' ∧ KW m m' ∧ ML f n R rr m') 32 [some (zR 31), some (zB out), some (zB mo), some (zI (tS f n q)), none, none] [] (zo σ 31 y) := by
    intro mo y hmo hk y6 yb
    have y2 : y.2 2 = f := by rw [hk.2]; exact h2
    have y7 : y.1 7 = n := by rw [hk.1 7 (by omega)]; exact h7
    refine z_aloadR_n (pc := 32) h dX8_truckLine_32 rfl ?_
    refine z_callV (pc := 33) (c := 8) h (m8_token y2 y7 y6 (by omega) (by omega) h4) (by decide) (by first | assumption | rfl) rfl mv_X8_token ml_X8_141 rfl dX8_truckLine_33 rfl (Nat.le_of_ble_eq_true rfl) (fun r33 τ33 q33 => ?_)
    obtain ⟨rfl, z, rfl, hzT, hzO⟩ := q33
    have zk := hk.tr hzT.ks
    have zb : (z.1 14, z.1 13) = bTr (a 1) b (tS f n q) := by rw [hzT.1 14 (by decide) (by decide) (by decide) (by decide) (by decide), hzT.1 13 (by decide) (by decide) (by decide) (by decide) (by decide)]; exact yb
    have z15 : z.2 15 = a := by rw [zk.2]; exact ha
    have z16 : z.1 16 = ct := by rw [zk.1 16 (by omega)]; exact hct
    have zu : ∀ v, KU m (osa z 18 0 v) := fun v => ⟨zk.ku.1, fun j hj => by rw [osa_2, if_neg hj]; exact zk.ku.2 j hj⟩
    refine z_aloadR_n (pc := 36) h dX8_truckLine_36 rfl ?_
    refine z_getA4 (pc := 37) (c := 8) (j := 18) h (by first | assumption | rfl) rfl rfl fl_X8_27 dX8_truckLine_37 ?_
    refine z_iconst (pc := 40) h dX8_truckLine_40 ?_
    refine z_iload_n (pc := 41) h dX8_truckLine_41 rfl ?_
    refine z_ifeqB (pc := 42) (tgt := 49) h dX8_truckLine_42 (by decide) (fun c42 => ?_) (fun c42 => ?_)
    · refine z_iconst (pc := 49) h dX8_truckLine_49 ?_
      refine z_iasto (pc := 50) (c := 8) (j := 18) (L := 6) h (by first | assumption | rfl) (by decide) rfl (by decide) (by omega) (by omega) (by omega) dX8_truckLine_50 ?_
      first
      | exact NO mo _ c42 hmo (zu 1) z15 z16 hzO zb (show zup (z.2 18) 0 1 0 = 1 from zup_s _ _ _)
      | exact NI mo _ c42 hmo (zu 0) z15 z16 hzO zb (show zup (z.2 18) 0 0 0 = 0 from zup_s _ _ _)
    · refine z_iconst (pc := 45) h dX8_truckLine_45 ?_
      refine z_goto (pc := 46) (tgt := 50) h dX8_truckLine_46 (by decide) ?_
      refine z_iasto (pc := 50) (c := 8) (j := 18) (L := 6) h (by first | assumption | rfl) (by decide) rfl (by decide) (by omega) (by omega) (by omega) dX8_truckLine_50 ?_
      first
      | exact NO mo _ c42 hmo (zu 1) z15 z16 hzO zb (show zup (z.2 18) 0 1 0 = 1 from zup_s _ _ _)
      | exact NI mo _ c42 hmo (zu 0) z15 z16 hzO zb (show zup (z.2 18) 0 0 0 = 0 from zup_s _ _ _)
  refine z_aloadR_n (pc := 0) h dX8_truckLine_0 rfl ?_
  refine z_getA4 (pc := 1) (c := 8) (j := 15) h (by first | assumption | rfl) rfl rfl fl_X8_24 dX8_truckLine_1 ?_
  refine z_iconst (pc := 4) h dX8_truckLine_4 ?_
  refine z_ialdq (pc := 5) (c := 8) (j := 15) (L := 119) h (zo_s _ _ _) (by first | assumption | rfl) (by decide) rfl (by decide) (by omega) (by omega) dX8_truckLine_5 (fun g5 => ?_)
  refine z_bipush (pc := 6) h dX8_truckLine_6 (by decide) ?_
  refine z_icmp_ge (pc := 8) (tgt := 15) h (by omega) (by omega) dX8_truckLine_8 (by decide) (fun c8 => ?_) (fun c8 => ?_)
  · refine z_iconst (pc := 15) h dX8_truckLine_15 ?_
    refine z_ist_2 (pc := 16) h dX8_truckLine_16 (by decide) rfl ?_
    refine z_aloadR_n (pc := 17) h dX8_truckLine_17 rfl ?_
    refine z_getIq (pc := 18) (c := 8) (j := 8) h (zo_s _ _ _) (by first | assumption | rfl) rfl rfl fl_X8_108 dX8_truckLine_18 (fun g18 => ?_)
    rw [e8]
    refine z_ist_3 (pc := 21) h dX8_truckLine_21 (by decide) rfl ?_
    refine z_iload_n (pc := 22) h dX8_truckLine_22 rfl ?_
    refine z_if_ne (pc := 23) (tgt := 32) h (by omega) dX8_truckLine_23 (by decide) (fun c23 => ?_) (fun c23 => ?_)
    · exact absurd c23 (by decide)
    · refine z_aloadR_n (pc := 26) h dX8_truckLine_26 rfl ?_
      refine z_iconst (pc := 27) h dX8_truckLine_27 ?_
      refine z_iload_n (pc := 28) h dX8_truckLine_28 rfl ?_
      refine z_vV (pc := 29) (c := 8) h (m8_isBad (by omega) (by omega)) (by decide) (by first | assumption | rfl) rfl mv_X8_isBad ml_X8_137 rfl dX8_truckLine_29 rfl (Nat.le_of_ble_eq_true rfl) ?_
      first
      | (have hlt : a 1 < 8 := by omega
         exact N true m (decide_eq_true hlt).symm (KS.rf m) e6 (by unfold bTr; rw [if_pos hlt]; exact hb))
      | (have hlt : ¬ a 1 < 8 := by omega
         rw [hb]; exact N false _ (decide_eq_false hlt).symm (KS_bd (KS.rf m)) e6 (by unfold bTr; rw [if_neg hlt]; rfl))
      | (exfalso; omega)
  · refine z_iconst (pc := 11) h dX8_truckLine_11 ?_
    refine z_goto (pc := 12) (tgt := 16) h dX8_truckLine_12 (by decide) ?_
    refine z_ist_2 (pc := 16) h dX8_truckLine_16 (by decide) rfl ?_
    refine z_aloadR_n (pc := 17) h dX8_truckLine_17 rfl ?_
    refine z_getIq (pc := 18) (c := 8) (j := 8) h (zo_s _ _ _) (by first | assumption | rfl) rfl rfl fl_X8_108 dX8_truckLine_18 (fun g18 => ?_)
    rw [e8]
    refine z_ist_3 (pc := 21) h dX8_truckLine_21 (by decide) rfl ?_
    refine z_iload_n (pc := 22) h dX8_truckLine_22 rfl ?_
    refine z_if_ne (pc := 23) (tgt := 32) h (by omega) dX8_truckLine_23 (by decide) (fun c23 => ?_) (fun c23 => ?_)
    · first
      | (have hlt : a 1 < 8 := by omega
         exact N true m (decide_eq_true hlt).symm (KS.rf m) e6 (by unfold bTr; rw [if_pos hlt]; exact hb))
      | (have hlt : ¬ a 1 < 8 := by omega
         rw [hb]; exact N false _ (decide_eq_false hlt).symm (KS_bd (KS.rf m)) e6 (by unfold bTr; rw [if_neg hlt]; rfl))
      | (exfalso; omega)
    · exact absurd c23 (by decide)
