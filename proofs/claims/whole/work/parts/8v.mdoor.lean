/-! The model: a line for a door. -/
theorem wd_z {f : Int → Int} {n q : Int} {i : Nat} {v : Int64} (hi : i < 5) (hq : q ≤ n) (hk : tK f n q = 1) (hv : v.toInt = Wc i) : zlc (Int64.ofInt (wd f n q)) v = 0 ↔ tW f n q i = true := by
  rw [zlc_0, ← wd_iff hi hq hk, ← hv]
  have : ∃ u : Int64, wd f n q = u.toInt := by
    unfold wd
    split
    · exact ⟨0, by decide⟩
    · exact ⟨_, rfl⟩
  obtain ⟨u, hu⟩ := this
  rw [hu, Int64.ofInt_toInt]
  exact ⟨fun h => by rw [h], fun h => Int64.toInt_inj.mp h⟩
theorem tW_ne {f : Int → Int} {n q : Int} {i j : Nat} (hi : i < 5) (hj : j < 5) (hij : i ≠ j) (hq : q ≤ n) (h : tW f n q i = true) : tW f n q j = false := by
  cases hz : tW f n q j with
  | false => rfl
  | true =>
    exfalso
    have hk := tW_k h
    have a := (wd_iff hi hq hk).mpr h
    have b := (wd_iff hj hq hk).mpr hz
    have key : ∀ i, i < 5 → ∀ j, j < 5 → i ≠ j → Wc i ≠ Wc j := by decide
    exact key i hi j hj hij (a.symm.trans b)
def KW (m y : zOb) : Prop := (∀ j, (j ≤ 5 ∨ j = 7 ∨ 20 ≤ j) → y.1 j = m.1 j) ∧ (∀ j, j ≠ 15 → j ≠ 18 → y.2 j = m.2 j)
theorem KW.rf (m : zOb) : KW m m := ⟨fun _ _ => rfl, fun _ _ _ => rfl⟩
theorem KW.tr {m y z : zOb} (h : KW m y) (g : KW y z) : KW m z := ⟨fun j hj => (g.1 j hj).trans (h.1 j hj), fun j ha hb => (g.2 j ha hb).trans (h.2 j ha hb)⟩
theorem KU.kw {m y : zOb} (h : KU m y) : KW m y := ⟨fun j hj => h.1 j (by omega), fun j _ hb => h.2 j hb⟩
theorem KS.kw {m y : zOb} (h : KS m y) : KW m y := h.ku.kw
def ML (f : Int → Int) (n : Int) (R : Sum Int ST) (rr : Option Value) (m' : zOb) : Prop := (∃ p, R = .inl p ∧ rr = some (zB false) ∧ m'.1 12 = p) ∨ (∃ (qn c : Int) (S' : ST), (0 ≤ qn ∧ qn ≤ n) ∧ (1 ≤ c ∧ c ≤ 5) ∧ R = num f n qn c S' ∧ S'.1 = nQ f n qn (c + 1) ∧ ((nG f n qn c = -1 ∧ rr = some (zB true) ∧ TOK f n (nQ f n qn c) m' ∧ m'.2 15 = S'.2.1 ∧ m'.1 16 = S'.2.2.1 ∧ (m'.1 14, m'.1 13) = S'.2.2.2) ∨ (nG f n qn c ≠ -1 ∧ rr = some (zB false) ∧ m'.1 12 = tS f n (nQ f n qn (nG f n qn c)))))
theorem nG_1 {f : Int → Int} {n q : Int} : (tK f n q = 2 → nG f n q 1 = -1) ∧ (tK f n q ≠ 2 → nG f n q 1 = 0) := by
  refine ⟨fun h => nG_n (fun i a b => ?_), fun h => nG_e (by omega) (by omega) (fun i a b => by omega) h⟩
  rw [show i = 0 by omega]
  exact h
theorem m8_doorLine {σ : zS} {m : zOb} {f : Int → Int} {n q ct : Int} {b : Int × Int} (h2 : m.2 2 = f) (h7 : m.1 7 = n) (h4 : n ≤ 400) (hT : TOK f n q m) (hb : (m.1 14, m.1 13) = b) (hct : m.1 16 = ct) (ha0 : 0 ≤ m.2 15 0 ∧ m.2 15 0 ≤ 6) : zC M_X8_doorLine 5 [zR 31] (zo σ 31 m) (fun rr τ' => ∃ m', τ' = zo σ 31 m' ∧ KW m m' ∧ ML f n (sDoor f n (tE f n q) (tS f n q) (m.2 15) ct b) rr m') := by
  have hq := hT.1
  have hs := tS_b (f := f) hq.2
  have he := tE_b (f := f) hq.2
  have e8 := hT.2.2.1
  have e6 := hT.2.1
  generalize ha : m.2 15 = a at ha0 ⊢
  refine zC_of (M := M_X8_doorLine) (ls := [some (zR 31), none, none]) (n := 2) (by decide) (fun ad => Nat.le_of_ble_eq_true rfl) rfl (fun x h => ?_)
  -- behind the words
  have G : ∀ (y : zOb) (mo ou : Bool), mo = decide (a 0 < 6) → ou = decide (tW f n (tE f n q) 1 = false) → (tW f n (tE f n q) 1 = true ∨ tW f n (tE f n q) 2 = true) → KS m y → y.1 6 = tE f n (tE f n q) → (y.1 14, y.1 13) = (if a 0 < 6 then b else nt b 3 (tS f n q)) → zW x (fun rr τ' => ∃ m', τ' = zo σ 31 m' ∧ KW m m' ∧ ML f n (sDoor f n (tE f n q) (tS f n q) a ct b) rr m') 86 [some (zR 31), some (zB mo), some (zB ou)] [] (zo σ 31 y) := by
    intro y mo ou hmo hou hor hk y6 yb
    unfold sDoor
    rw [if_pos hor]
    have he2 := tE_b (f := f) he.2.1
    have hs2 := tS_b (f := f) he.2.1
    have y2 : y.2 2 = f := by rw [hk.2]; exact h2
    have y7 : y.1 7 = n := by rw [hk.1 7 (by omega)]; exact h7
    generalize tE f n (tE f n q) = qn at he2 y6 ⊢
    refine z_aloadR_n (pc := 86) h dX8_doorLine_86 rfl ?_
    refine z_callV (pc := 87) (c := 8) h (m8_token y2 y7 y6 (by omega) (by omega) h4) (by decide) (by first | assumption | rfl) rfl mv_X8_token ml_X8_141 rfl dX8_doorLine_87 rfl (Nat.le_of_ble_eq_true rfl) (fun r87 τ87 q87 => ?_)
    obtain ⟨rfl, z, rfl, hzT, hzO⟩ := q87
    have zk := hk.tr hzT.ks
    have z2 : z.2 2 = f := by rw [zk.2]; exact h2
    have z7 : z.1 7 = n := by rw [zk.1 7 (by omega)]; exact h7
    have zb : (z.1 14, z.1 13) = (if a 0 < 6 then b else nt b 3 (tS f n q)) := by rw [hzT.1 14 (by decide) (by decide) (by decide) (by decide) (by decide), hzT.1 13 (by decide) (by decide) (by decide) (by decide) (by decide)]; exact yb
    refine z_aloadR_n (pc := 90) h dX8_doorLine_90 rfl ?_
    refine z_iconst (pc := 91) h dX8_doorLine_91 ?_
    refine z_bipush (pc := 92) h dX8_doorLine_92 (by decide) ?_
    refine z_callV (pc := 94) (c := 8) h (m8_takes z2 z7 h4 hzO zb (by omega) (by omega)) (by decide) (by first | assumption | rfl) rfl mv_X8_takes ml_X8_148 rfl dX8_doorLine_94 rfl (Nat.le_of_ble_eq_true rfl) (fun r94 τ94 q94 => ?_)
    obtain ⟨rfl, w, rfl, hwk, hw⟩ := q94
    have wk := zk.tr hwk
    refine z_ifneB (pc := 97) (tgt := 102) h dX8_doorLine_97 (by decide) (fun c97 => ?_) (fun c97 => ?_)
    · have hk2 := of_decide_eq_true c97
      rw [if_pos hk2] at hw
      have e := nG_1.1 hk2
      have hvb := tV_b hk2
      have w15 : w.2 15 = a := by rw [wk.2]; exact ha
      have w16 : w.1 16 = ct := by rw [wk.1 16 (by omega)]; exact hct
      have w17 : w.1 17 = vN f n qn 0 := hw.1
      have wv : 0 ≤ vN f n qn 0 ∧ vN f n qn 0 ≤ 999 := hvb
      have wb : (w.1 14, w.1 13) = bDoor (a 0) b (tS f n q) (vN f n qn) (pN f n qn) := hw.2.1
      have wT : TOK f n (nQ f n qn 1) w := hw.2.2
      have w150 : w.2 15 0 = a 0 := by rw [w15]
      have hou2 : (if ou = true then (1 : Int) else 0) = if tW f n (tE f n q) 1 = true then 0 else 1 := by
        rw [hou]
        cases tW f n (tE f n q) 1 <;> rfl
      refine z_iload_n (pc := 102) h dX8_doorLine_102 rfl ?_
      refine z_if_eq (pc := 103) (tgt := 153) h (by omega) dX8_doorLine_103 (by decide) (fun c103 => ?_) (fun c103 => ?_)
      · have hmo2 : ¬ a 0 < 6 := by rw [hmo] at c103; exact of_decide_eq_false (zb0 c103)
        refine z_iconst (pc := 153) h dX8_doorLine_153 ?_
        refine z_zret (pc := 154) h rfl (by omega) dX8_doorLine_154 ?_
        first
        | (refine ⟨w, rfl, wk.kw, Or.inr ⟨qn, 1, _, hzO.1, by omega, rfl, rfl, Or.inl ⟨e, rfl, wT, ?_, w16, wb⟩⟩⟩; rw [if_neg hmo2]; exact w15)
        | (refine ⟨_, rfl, ⟨wk.kw.1, fun j ja jb => ?_⟩, Or.inr ⟨qn, 1, _, hzO.1, by omega, rfl, rfl, Or.inl ⟨e, rfl, wT, ?_, w16, wb⟩⟩⟩; (show (if j = 15 then _ else if j = 15 then _ else if j = 15 then _ else w.2 j) = _; rw [if_neg ja, if_neg ja, if_neg ja]; exact wk.kw.2 j ja jb); rw [if_pos hmo2]; show zup (zup (zup (w.2 15) (5 + 2 * a 0) _) (5 + 2 * a 0 + 1) (w.1 17)) 0 (a 0 + 1) = _; rw [w15, w17, hou2]; rfl)
      · have hmo2 : a 0 < 6 := by rw [hmo] at c103; exact of_decide_eq_true (zb1 c103)
        have x0 : zup (w.2 15) (5 + 2 * a 0) (if ou = true then 1 else 0) 0 = a 0 := by rw [zup_n _ _ (by omega)]; exact w150
        have x1 : zup (zup (w.2 15) (5 + 2 * a 0) (if ou = true then 1 else 0)) (5 + 2 * a 0 + 1) (w.1 17) 0 = a 0 := by rw [zup_n _ _ (by omega)]; exact x0
        refine z_aloadR_n (pc := 106) h dX8_doorLine_106 rfl ?_
        refine z_getA4 (pc := 107) (c := 8) (j := 15) h (by first | assumption | rfl) rfl rfl fl_X8_24 dX8_doorLine_107 ?_
        refine z_iconst (pc := 110) h dX8_doorLine_110 ?_
        refine z_iconst (pc := 111) h dX8_doorLine_111 ?_
        refine z_aloadR_n (pc := 112) h dX8_doorLine_112 rfl ?_
        refine z_getA4 (pc := 113) (c := 8) (j := 15) h (by first | assumption | rfl) rfl rfl fl_X8_24 dX8_doorLine_113 ?_
        refine z_iconst (pc := 116) h dX8_doorLine_116 ?_
        refine z_ialdq (pc := 117) (c := 8) (j := 15) (L := 119) h (zo_s _ _ _) (by first | assumption | rfl) (by decide) rfl (by decide) (by omega) (by omega) dX8_doorLine_117 (fun g117 => ?_)
        rw [w150]
        refine z_imul (pc := 118) h dX8_doorLine_118 ?_
        refine z_iadd (pc := 119) h dX8_doorLine_119 ?_
        refine z_iload_n (pc := 120) h dX8_doorLine_120 rfl ?_
        refine z_iasto (pc := 121) (c := 8) (j := 15) (L := 119) h (by first | assumption | rfl) (by decide) rfl (by decide) (by first | omega | (split <;> omega)) (by first | omega | (split <;> omega)) (by first | omega | (split <;> omega)) dX8_doorLine_121 ?_
        refine z_aloadR_n (pc := 122) h dX8_doorLine_122 rfl ?_
        refine z_getA4 (pc := 123) (c := 8) (j := 15) h (by first | assumption | rfl) rfl rfl fl_X8_24 dX8_doorLine_123 ?_
        refine z_iconst (pc := 126) h dX8_doorLine_126 ?_
        refine z_iconst (pc := 127) h dX8_doorLine_127 ?_
        refine z_aloadR_n (pc := 128) h dX8_doorLine_128 rfl ?_
        refine z_getA4 (pc := 129) (c := 8) (j := 15) h (by first | assumption | rfl) rfl rfl fl_X8_24 dX8_doorLine_129 ?_
        refine z_iconst (pc := 132) h dX8_doorLine_132 ?_
        refine z_ialdq (pc := 133) (c := 8) (j := 15) (L := 119) h (zo_s _ _ _) (by first | assumption | rfl) (by decide) rfl (by decide) (by omega) (by omega) dX8_doorLine_133 (fun g133 => ?_)
        try simp only [osa_1, osa_2, oss_1, oss_2, osA_1, osA_2, zup_s, reduceIte, Nat.reduceEqDiff] at g133 ⊢
        rw [x0]
        refine z_imul (pc := 134) h dX8_doorLine_134 ?_
        refine z_iadd (pc := 135) h dX8_doorLine_135 ?_
        refine z_iconst (pc := 136) h dX8_doorLine_136 ?_
        refine z_iadd (pc := 137) h dX8_doorLine_137 ?_
        refine z_aloadR_n (pc := 138) h dX8_doorLine_138 rfl ?_
        refine z_getIq (pc := 139) (c := 8) (j := 17) h (zo_s _ _ _) (by first | assumption | rfl) rfl rfl fl_X8_134 dX8_doorLine_139 (fun g139 => ?_)
        try simp only [osa_1, osa_2, oss_1, oss_2, osA_1, osA_2, zup_s, reduceIte, Nat.reduceEqDiff] at g139 ⊢
        refine z_iasto (pc := 142) (c := 8) (j := 15) (L := 119) h (by first | assumption | rfl) (by decide) rfl (by decide) (by omega) (by omega) (by omega) dX8_doorLine_142 ?_
        refine z_aloadR_n (pc := 143) h dX8_doorLine_143 rfl ?_
        refine z_getA4 (pc := 144) (c := 8) (j := 15) h (by first | assumption | rfl) rfl rfl fl_X8_24 dX8_doorLine_144 ?_
        refine z_iconst (pc := 147) h dX8_doorLine_147 ?_
        refine z_dup2AI (pc := 148) h dX8_doorLine_148 ?_
        refine z_ialdq (pc := 149) (c := 8) (j := 15) (L := 119) h (zo_s _ _ _) (by first | assumption | rfl) (by decide) rfl (by decide) (by omega) (by omega) dX8_doorLine_149 (fun g149 => ?_)
        try simp only [osa_1, osa_2, oss_1, oss_2, osA_1, osA_2, zup_s, reduceIte, Nat.reduceEqDiff] at g149 ⊢
        rw [x1]
        refine z_iconst (pc := 150) h dX8_doorLine_150 ?_
        refine z_iadd (pc := 151) h dX8_doorLine_151 ?_
        refine z_iasto (pc := 152) (c := 8) (j := 15) (L := 119) h (by first | assumption | rfl) (by decide) rfl (by decide) (by omega) (by omega) (by omega) dX8_doorLine_152 ?_
        refine z_iconst (pc := 153) h dX8_doorLine_153 ?_
        refine z_zret (pc := 154) h rfl (by omega) dX8_doorLine_154 ?_
        first
        | (refine ⟨w, rfl, wk.kw, Or.inr ⟨qn, 1, _, hzO.1, by omega, rfl, rfl, Or.inl ⟨e, rfl, wT, ?_, w16, wb⟩⟩⟩; rw [if_neg hmo2]; exact w15)
        | (refine ⟨_, rfl, ⟨wk.kw.1, fun j ja jb => ?_⟩, Or.inr ⟨qn, 1, _, hzO.1, by omega, rfl, rfl, Or.inl ⟨e, rfl, wT, ?_, w16, wb⟩⟩⟩; (show (if j = 15 then _ else if j = 15 then _ else if j = 15 then _ else w.2 j) = _; rw [if_neg ja, if_neg ja, if_neg ja]; exact wk.kw.2 j ja jb); rw [if_pos hmo2]; show zup (zup (zup (w.2 15) (5 + 2 * a 0) _) (5 + 2 * a 0 + 1) (w.1 17)) 0 (a 0 + 1) = _; rw [w15, w17, hou2]; rfl)
    · have hk2 := of_decide_eq_false c97
      rw [if_neg hk2] at hw
      refine z_iconst (pc := 100) h dX8_doorLine_100 ?_
      refine z_zret (pc := 101) h rfl (by omega) dX8_doorLine_101 ?_
      have e := nG_1.2 hk2
      refine ⟨w, rfl, wk.kw, Or.inr ⟨qn, 1, _, hzO.1, by omega, rfl, rfl, Or.inr ⟨by omega, rfl, ?_⟩⟩⟩
      rw [e]
      exact hw
  have N : ∀ (mo : Bool) (y : zOb), mo = decide (a 0 < 6) → KS m y → y.1 6 = tE f n q → (y.1 14, y.1 13) = (if a 0 < 6 then b else nt b 3 (tS f n q)) → zW x (fun rr τ' => ∃ m', τ' = zo σ 31 m' ∧ KW m m' ∧ ML f n (sDoor f n (tE f n q) (tS f n q) a ct b) rr m') 30 [some (zR 31), some (zB mo), none] [] (zo σ 31 y) := by
    intro mo y hm hk y6 yb
    have y2 : y.2 2 = f := by rw [hk.2]; exact h2
    have y7 : y.1 7 = n := by rw [hk.1 7 (by omega)]; exact h7
    have hs2 := tS_b (f := f) he.2.1
    refine z_aloadR_n (pc := 30) h dX8_doorLine_30 rfl ?_
    refine z_callV (pc := 31) (c := 8) h (m8_token y2 y7 y6 (by omega) (by omega) h4) (by decide) (by first | assumption | rfl) rfl mv_X8_token ml_X8_141 rfl dX8_doorLine_31 rfl (Nat.le_of_ble_eq_true rfl) (fun r31 τ31 q31 => ?_)
    obtain ⟨rfl, z, rfl, hzT, hzO⟩ := q31
    have zk := hk.tr hzT.ks
    have zb : (z.1 14, z.1 13) = (if a 0 < 6 then b else nt b 3 (tS f n q)) := by rw [hzT.1 14 (by decide) (by decide) (by decide) (by decide) (by decide), hzT.1 13 (by decide) (by decide) (by decide) (by decide) (by decide)]; exact yb
    have z9 := hzO.2.2.2.1
    have z8 := hzO.2.2.1
    have z6 := hzO.2.1
    have zkb := tk8_b (tK f n (tE f n q))
    have hkk := tK_b f n (tE f n q)
    have hk21 : tk8 (tK f n (tE f n q)) = 2 ↔ tK f n (tE f n q) = 1 := by
      unfold tk8
      repeat' split
      all_goals omega
    have hfail : ¬ (tW f n (tE f n q) 1 = true ∨ tW f n (tE f n q) 2 = true) → ML f n (sDoor f n (tE f n q) (tS f n q) a ct b) (some (zB false)) (oss z 12 (tS f n (tE f n q))) := fun w => Or.inl ⟨tS f n (tE f n q), by unfold sDoor; rw [if_neg w], rfl, rfl⟩
    have kfail : KW m (oss z 12 (tS f n (tE f n q))) := ⟨fun j hj => by rw [oss_1, if_neg (by omega)]; exact zk.kw.1 j hj, zk.kw.2⟩
    refine z_aloadR_n (pc := 34) h dX8_doorLine_34 rfl ?_
    refine z_getIq (pc := 35) (c := 8) (j := 9) h (zo_s _ _ _) (by first | assumption | rfl) rfl rfl fl_X8_115 dX8_doorLine_35 (fun g35 => ?_)
    refine z_iconst (pc := 38) h dX8_doorLine_38 ?_
    refine z_icmp_ne (pc := 39) (tgt := 64) h (by omega) (by omega) dX8_doorLine_39 (by decide) (fun c39 => ?_) (fun c39 => ?_)
    · have hno : ¬ (tW f n (tE f n q) 1 = true ∨ tW f n (tE f n q) 2 = true) := fun w => by rcases w with w | w <;> (have := tW_k w; omega)
      refine z_aloadR_n (pc := 64) h dX8_doorLine_64 rfl ?_
      refine z_rV (pc := 65) (c := 8) h (m8_fails z8 (by omega)) (by decide) (by first | assumption | rfl) rfl mv_X8_fails ml_X8_130 rfl dX8_doorLine_65 rfl (Nat.le_of_ble_eq_true rfl) ?_
      refine z_bret (pc := 68) h rfl dX8_doorLine_68 ?_
      exact ⟨_, rfl, kfail, hfail hno⟩
    · have hk1 : tK f n (tE f n q) = 1 := by omega
      have z11 := hzO.2.2.2.2.2 hk1
      have w1 := wd_z (v := 26990) (i := 1) (by decide) he.2.1 hk1 (by decide)
      have w2 := wd_z (v := 7304564) (i := 2) (by decide) he.2.1 hk1 (by decide)
      rw [← z11] at w1 w2
      refine z_aloadR_n (pc := 42) h dX8_doorLine_42 rfl ?_
      refine z_getLq (pc := 43) (c := 8) (j := 11) h (zo_s _ _ _) (by first | assumption | rfl) rfl rfl fl_X8_111 dX8_doorLine_43 (fun g43 => ?_)
      refine z_ldc2 (pc := 46) h kl_X8_144 dX8_doorLine_46 ?_
      refine z_lcmp (pc := 49) h dX8_doorLine_49 ?_
      refine z_if_eq (pc := 50) (tgt := 69) h (by exact zlc_b _ _) dX8_doorLine_50 (by decide) (fun c50 => ?_) (fun c50 => ?_)
      · refine z_aloadR_n (pc := 69) h dX8_doorLine_69 rfl ?_
        refine z_getLq (pc := 70) (c := 8) (j := 11) h (zo_s _ _ _) (by first | assumption | rfl) rfl rfl fl_X8_111 dX8_doorLine_70 (fun g70 => ?_)
        refine z_ldc2 (pc := 73) h kl_X8_146 dX8_doorLine_73 ?_
        refine z_lcmp (pc := 76) h dX8_doorLine_76 ?_
        refine z_if_ne (pc := 77) (tgt := 84) h (by exact zlc_b _ _) dX8_doorLine_77 (by decide) (fun c77 => ?_) (fun c77 => ?_)
        · refine z_iconst (pc := 84) h dX8_doorLine_84 ?_
          refine z_ist_2 (pc := 85) h dX8_doorLine_85 (by decide) rfl ?_
          have hd : tW f n (tE f n q) 1 = true ∨ tW f n (tE f n q) 2 = true := by
            first
            | exact Or.inl (w1.mp c50)
            | exact Or.inr (w2.mp c61)
          have ho : ∀ o : Bool, (o = true ↔ tW f n (tE f n q) 2 = true) → o = decide (tW f n (tE f n q) 1 = false) := by
            intro o hh
            rcases hd with w | w
            · have := tW_ne (i := 1) (j := 2) (by decide) (by decide) (by decide) he.2.1 w
              rw [w]
              cases o with
              | false => rfl
              | true => rw [hh.mp rfl] at this; cases this
            · have := tW_ne (i := 2) (j := 1) (by decide) (by decide) (by decide) he.2.1 w
              rw [this]
              cases o with
              | true => rfl
              | false => exact absurd (hh.mpr w) (by decide)
          first
          | exact G z mo true hm (ho true ⟨fun _ => w2.mp c77, fun _ => rfl⟩) hd zk z6 zb
          | exact G z mo false hm (ho false ⟨fun u => absurd u (by decide), fun u => absurd (w2.mpr u) c77⟩) hd zk z6 zb
        · refine z_iconst (pc := 80) h dX8_doorLine_80 ?_
          refine z_goto (pc := 81) (tgt := 85) h dX8_doorLine_81 (by decide) ?_
          refine z_ist_2 (pc := 85) h dX8_doorLine_85 (by decide) rfl ?_
          have hd : tW f n (tE f n q) 1 = true ∨ tW f n (tE f n q) 2 = true := by
            first
            | exact Or.inl (w1.mp c50)
            | exact Or.inr (w2.mp c61)
          have ho : ∀ o : Bool, (o = true ↔ tW f n (tE f n q) 2 = true) → o = decide (tW f n (tE f n q) 1 = false) := by
            intro o hh
            rcases hd with w | w
            · have := tW_ne (i := 1) (j := 2) (by decide) (by decide) (by decide) he.2.1 w
              rw [w]
              cases o with
              | false => rfl
              | true => rw [hh.mp rfl] at this; cases this
            · have := tW_ne (i := 2) (j := 1) (by decide) (by decide) (by decide) he.2.1 w
              rw [this]
              cases o with
              | true => rfl
              | false => exact absurd (hh.mpr w) (by decide)
          first
          | exact G z mo true hm (ho true ⟨fun _ => w2.mp c77, fun _ => rfl⟩) hd zk z6 zb
          | exact G z mo false hm (ho false ⟨fun u => absurd u (by decide), fun u => absurd (w2.mpr u) c77⟩) hd zk z6 zb
      · refine z_aloadR_n (pc := 53) h dX8_doorLine_53 rfl ?_
        refine z_getLq (pc := 54) (c := 8) (j := 11) h (zo_s _ _ _) (by first | assumption | rfl) rfl rfl fl_X8_111 dX8_doorLine_54 (fun g54 => ?_)
        refine z_ldc2 (pc := 57) h kl_X8_146 dX8_doorLine_57 ?_
        refine z_lcmp (pc := 60) h dX8_doorLine_60 ?_
        refine z_if_eq (pc := 61) (tgt := 69) h (by exact zlc_b _ _) dX8_doorLine_61 (by decide) (fun c61 => ?_) (fun c61 => ?_)
        · refine z_aloadR_n (pc := 69) h dX8_doorLine_69 rfl ?_
          refine z_getLq (pc := 70) (c := 8) (j := 11) h (zo_s _ _ _) (by first | assumption | rfl) rfl rfl fl_X8_111 dX8_doorLine_70 (fun g70 => ?_)
          refine z_ldc2 (pc := 73) h kl_X8_146 dX8_doorLine_73 ?_
          refine z_lcmp (pc := 76) h dX8_doorLine_76 ?_
          refine z_if_ne (pc := 77) (tgt := 84) h (by exact zlc_b _ _) dX8_doorLine_77 (by decide) (fun c77 => ?_) (fun c77 => ?_)
          · refine z_iconst (pc := 84) h dX8_doorLine_84 ?_
            refine z_ist_2 (pc := 85) h dX8_doorLine_85 (by decide) rfl ?_
            have hd : tW f n (tE f n q) 1 = true ∨ tW f n (tE f n q) 2 = true := by
              first
              | exact Or.inl (w1.mp c50)
              | exact Or.inr (w2.mp c61)
            have ho : ∀ o : Bool, (o = true ↔ tW f n (tE f n q) 2 = true) → o = decide (tW f n (tE f n q) 1 = false) := by
              intro o hh
              rcases hd with w | w
              · have := tW_ne (i := 1) (j := 2) (by decide) (by decide) (by decide) he.2.1 w
                rw [w]
                cases o with
                | false => rfl
                | true => rw [hh.mp rfl] at this; cases this
              · have := tW_ne (i := 2) (j := 1) (by decide) (by decide) (by decide) he.2.1 w
                rw [this]
                cases o with
                | true => rfl
                | false => exact absurd (hh.mpr w) (by decide)
            first
            | exact G z mo true hm (ho true ⟨fun _ => w2.mp c77, fun _ => rfl⟩) hd zk z6 zb
            | exact G z mo false hm (ho false ⟨fun u => absurd u (by decide), fun u => absurd (w2.mpr u) c77⟩) hd zk z6 zb
          · refine z_iconst (pc := 80) h dX8_doorLine_80 ?_
            refine z_goto (pc := 81) (tgt := 85) h dX8_doorLine_81 (by decide) ?_
            refine z_ist_2 (pc := 85) h dX8_doorLine_85 (by decide) rfl ?_
            have hd : tW f n (tE f n q) 1 = true ∨ tW f n (tE f n q) 2 = true := by
              first
              | exact Or.inl (w1.mp c50)
              | exact Or.inr (w2.mp c61)
            have ho : ∀ o : Bool, (o = true ↔ tW f n (tE f n q) 2 = true) → o = decide (tW f n (tE f n q) 1 = false) := by
              intro o hh
              rcases hd with w | w
              · have := tW_ne (i := 1) (j := 2) (by decide) (by decide) (by decide) he.2.1 w
                rw [w]
                cases o with
                | false => rfl
                | true => rw [hh.mp rfl] at this; cases this
              · have := tW_ne (i := 2) (j := 1) (by decide) (by decide) (by decide) he.2.1 w
                rw [this]
                cases o with
                | true => rfl
                | false => exact absurd (hh.mpr w) (by decide)
            first
            | exact G z mo true hm (ho true ⟨fun _ => w2.mp c77, fun _ => rfl⟩) hd zk z6 zb
            | exact G z mo false hm (ho false ⟨fun u => absurd u (by decide), fun u => absurd (w2.mpr u) c77⟩) hd zk z6 zb
        · have hno : ¬ (tW f n (tE f n q) 1 = true ∨ tW f n (tE f n q) 2 = true) := fun w => by rcases w with w | w; exact c50 (w1.mpr w); exact c61 (w2.mpr w)
          refine z_aloadR_n (pc := 64) h dX8_doorLine_64 rfl ?_
          refine z_rV (pc := 65) (c := 8) h (m8_fails z8 (by omega)) (by decide) (by first | assumption | rfl) rfl mv_X8_fails ml_X8_130 rfl dX8_doorLine_65 rfl (Nat.le_of_ble_eq_true rfl) ?_
          refine z_bret (pc := 68) h rfl dX8_doorLine_68 ?_
          exact ⟨_, rfl, kfail, hfail hno⟩
  have hm0 : m.2 15 0 = a 0 := by rw [ha]
  refine z_aloadR_n (pc := 0) h dX8_doorLine_0 rfl ?_
  refine z_getA4 (pc := 1) (c := 8) (j := 15) h (by first | assumption | rfl) rfl rfl fl_X8_24 dX8_doorLine_1 ?_
  refine z_iconst (pc := 4) h dX8_doorLine_4 ?_
  refine z_ialdq (pc := 5) (c := 8) (j := 15) (L := 119) h (zo_s _ _ _) (by first | assumption | rfl) (by decide) rfl (by decide) (by omega) (by omega) dX8_doorLine_5 (fun g5 => ?_)
  refine z_bipush (pc := 6) h dX8_doorLine_6 (by decide) ?_
  refine z_icmp_ge (pc := 8) (tgt := 15) h (by omega) (by omega) dX8_doorLine_8 (by decide) (fun c8 => ?_) (fun c8 => ?_)
  · refine z_iconst (pc := 15) h dX8_doorLine_15 ?_
    refine z_ist_1 (pc := 16) h dX8_doorLine_16 (by decide) rfl ?_
    refine z_iload_n (pc := 17) h dX8_doorLine_17 rfl ?_
    refine z_if_ne (pc := 18) (tgt := 30) h (by omega) dX8_doorLine_18 (by decide) (fun c18 => ?_) (fun c18 => ?_)
    · exact absurd c18 (by decide)
    · refine z_aloadR_n (pc := 21) h dX8_doorLine_21 rfl ?_
      refine z_iconst (pc := 22) h dX8_doorLine_22 ?_
      refine z_aloadR_n (pc := 23) h dX8_doorLine_23 rfl ?_
      refine z_getIq (pc := 24) (c := 8) (j := 8) h (zo_s _ _ _) (by first | assumption | rfl) rfl rfl fl_X8_108 dX8_doorLine_24 (fun g24 => ?_)
      refine z_vV (pc := 27) (c := 8) h (m8_isBad (by omega) (by omega)) (by decide) (by first | assumption | rfl) rfl mv_X8_isBad ml_X8_137 rfl dX8_doorLine_27 rfl (Nat.le_of_ble_eq_true rfl) ?_
      first
      | (have hlt : a 0 < 6 := by omega
         exact N true m (decide_eq_true hlt).symm (KS.rf m) e6 (by rw [if_pos hlt]; exact hb))
      | (have hlt : ¬ a 0 < 6 := by omega
         rw [e8, hb]; exact N false _ (decide_eq_false hlt).symm (KS_bd (KS.rf m)) e6 (by rw [if_neg hlt]; rfl))
      | (exfalso; omega)
  · refine z_iconst (pc := 11) h dX8_doorLine_11 ?_
    refine z_goto (pc := 12) (tgt := 16) h dX8_doorLine_12 (by decide) ?_
    refine z_ist_1 (pc := 16) h dX8_doorLine_16 (by decide) rfl ?_
    refine z_iload_n (pc := 17) h dX8_doorLine_17 rfl ?_
    refine z_if_ne (pc := 18) (tgt := 30) h (by omega) dX8_doorLine_18 (by decide) (fun c18 => ?_) (fun c18 => ?_)
    · first
      | (have hlt : a 0 < 6 := by omega
         exact N true m (decide_eq_true hlt).symm (KS.rf m) e6 (by rw [if_pos hlt]; exact hb))
      | (have hlt : ¬ a 0 < 6 := by omega
         rw [e8, hb]; exact N false _ (decide_eq_false hlt).symm (KS_bd (KS.rf m)) e6 (by rw [if_neg hlt]; rfl))
      | (exfalso; omega)
    · exact absurd c18 (by decide)
