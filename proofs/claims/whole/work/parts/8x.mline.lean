/-! The model: a line. -/
theorem ML.v {f : Int → Int} {n : Int} {R : Sum Int ST} {rr : Option Value} {m' : zOb} (h : ML f n R rr m') : ∃ v : Bool, rr = some (zB v) := by
  rcases h with ⟨p, -, e, -⟩ | ⟨qn, c, S', -, -, -, -, ⟨-, e, -⟩ | ⟨-, e, -⟩⟩
  · exact ⟨false, e⟩
  · exact ⟨true, e⟩
  · exact ⟨false, e⟩
theorem tW_no {f : Int → Int} {n q : Int} {i : Nat} (h : tK f n q ≠ 1) : tW f n q i = false := by
  cases hz : tW f n q i with
  | false => rfl
  | true => exact absurd (tW_k hz) h
theorem m8_truckLineI {σ : zS} {m : zOb} {f : Int → Int} {n q ct : Int} {b : Int × Int} {v : Int} (hv : v = 0 ∨ v = 1) (h2 : m.2 2 = f) (h7 : m.1 7 = n) (h4 : n ≤ 400) (hT : TOK f n q m) (hb : (m.1 14, m.1 13) = b) (hct : m.1 16 = ct) (hcb : 0 ≤ ct ∧ ct ≤ 1000) (ha0 : 0 ≤ m.2 15 1 ∧ m.2 15 1 ≤ 8) : zC M_X8_truckLine 6 [zR 31, zI v] (zo σ 31 m) (fun rr τ' => ∃ m', τ' = zo σ 31 m' ∧ KW m m' ∧ ML f n (if v = 1 then sOut f n (tE f n q) (tS f n q) (m.2 15) ct b else sIn f n (tE f n q) (tS f n q) (m.2 15) ct b) rr m') := by
  rcases hv with rfl | rfl
  · exact m8_truckLine (out := false) h2 h7 h4 hT hb hct hcb ha0
  · exact m8_truckLine (out := true) h2 h7 h4 hT hb hct hcb ha0
theorem nw0 {b : Bool} (h : ¬ b = true) : b = false := by cases b with
  | false => rfl
  | true => exact absurd rfl h
theorem m8_line {σ : zS} {m : zOb} {f : Int → Int} {n q ct : Int} {b : Int × Int} (h2 : m.2 2 = f) (h7 : m.1 7 = n) (h4 : n ≤ 400) (hT : TOK f n q m) (hb : (m.1 14, m.1 13) = b) (hct : m.1 16 = ct) (hcb : 0 ≤ ct ∧ ct ≤ 1000) (ha0 : 0 ≤ m.2 15 0 ∧ m.2 15 0 ≤ 6) (ha1 : 0 ≤ m.2 15 1 ∧ m.2 15 1 ≤ 8) : zC M_X8_line 7 [zR 31] (zo σ 31 m) (fun rr τ' => ∃ m', τ' = zo σ 31 m' ∧ KW m m' ∧ ML f n (stm f n (q, m.2 15, ct, b)) rr m') := by
  have hq := hT.1
  have hs := tS_b (f := f) hq.2
  have he := tE_b (f := f) hq.2
  have e8 := hT.2.2.1
  have e6 := hT.2.1
  have e9 := hT.2.2.2.1
  have hkk := tK_b f n q
  have zkb := tk8_b (tK f n q)
  have hk21 : tk8 (tK f n q) = 2 ↔ tK f n q = 1 := by
    unfold tk8
    repeat' split
    all_goals omega
  have hst : stm f n (q, m.2 15, ct, b) = if tW f n q 0 = true then sDoor f n (tE f n q) (tS f n q) (m.2 15) ct b else if tW f n q 1 = true then sIn f n (tE f n q) (tS f n q) (m.2 15) ct b else if tW f n q 2 = true then sOut f n (tE f n q) (tS f n q) (m.2 15) ct b else if tW f n q 3 = true then sStg f n (tE f n q) (m.2 15) ct b else if tW f n q 4 = true then sChg f n (tE f n q) (m.2 15) ct b else .inl (tS f n q) := rfl
  rw [hst]
  refine zC_of (M := M_X8_line) (ls := [some (zR 31), none, none, none]) (n := 3) (by decide) (fun ad => Nat.le_of_ble_eq_true rfl) rfl (fun x h => ?_)
  have F : tW f n q 0 = false → tW f n q 1 = false → tW f n q 2 = false → tW f n q 3 = false → tW f n q 4 = false → ∃ m', zo σ 31 (oss m 12 (tS f n q)) = zo σ 31 m' ∧ KW m m' ∧ ML f n (if tW f n q 0 = true then sDoor f n (tE f n q) (tS f n q) (m.2 15) ct b else if tW f n q 1 = true then sIn f n (tE f n q) (tS f n q) (m.2 15) ct b else if tW f n q 2 = true then sOut f n (tE f n q) (tS f n q) (m.2 15) ct b else if tW f n q 3 = true then sStg f n (tE f n q) (m.2 15) ct b else if tW f n q 4 = true then sChg f n (tE f n q) (m.2 15) ct b else .inl (tS f n q)) (some (zB false)) m' := by
    intro a0 a1 a2 a3 a4
    rw [a0, a1, a2, a3, a4]
    exact ⟨_, rfl, ⟨fun j hj => by rw [oss_1, if_neg (by omega)], fun _ _ _ => rfl⟩, Or.inl ⟨_, rfl, rfl, rfl⟩⟩
  have D : ∀ w : Int64, tW f n q 0 = true → zW x (fun rr τ' => ∃ m', τ' = zo σ 31 m' ∧ KW m m' ∧ ML f n (if tW f n q 0 = true then sDoor f n (tE f n q) (tS f n q) (m.2 15) ct b else if tW f n q 1 = true then sIn f n (tE f n q) (tS f n q) (m.2 15) ct b else if tW f n q 2 = true then sOut f n (tE f n q) (tS f n q) (m.2 15) ct b else if tW f n q 3 = true then sStg f n (tE f n q) (m.2 15) ct b else if tW f n q 4 = true then sChg f n (tE f n q) (m.2 15) ct b else .inl (tS f n q)) rr m') 25 [some (zR 31), some (.long w), none, none] [] (zo σ 31 m) := by
    intro w a0
    rw [if_pos a0]
    refine z_aloadR_n (pc := 25) h dX8_line_25 rfl ?_
    refine z_callV (pc := 26) (c := 8) h (m8_doorLine h2 h7 h4 hT hb hct ha0) (by decide) (by first | assumption | rfl) rfl mv_X8_doorLine ml_X8_167 rfl dX8_line_26 rfl (Nat.le_of_ble_eq_true rfl) (fun r26 τ26 q26 => ?_)
    obtain ⟨m', rfl, hkw, hml⟩ := q26
    obtain ⟨v, rfl⟩ := hml.v
    refine z_bret (pc := 29) h rfl dX8_line_29 ?_
    exact ⟨m', rfl, hkw, hml⟩
  have TT : ∀ w : Int64, tW f n q 0 = false → (tW f n q 1 = true ∨ tW f n q 2 = true) → (zlc w 7304564 = 0 ↔ tW f n q 2 = true) → zW x (fun rr τ' => ∃ m', τ' = zo σ 31 m' ∧ KW m m' ∧ ML f n (if tW f n q 0 = true then sDoor f n (tE f n q) (tS f n q) (m.2 15) ct b else if tW f n q 1 = true then sIn f n (tE f n q) (tS f n q) (m.2 15) ct b else if tW f n q 2 = true then sOut f n (tE f n q) (tS f n q) (m.2 15) ct b else if tW f n q 3 = true then sStg f n (tE f n q) (m.2 15) ct b else if tW f n q 4 = true then sChg f n (tE f n q) (m.2 15) ct b else .inl (tS f n q)) rr m') 46 [some (zR 31), some (.long w), none, none] [] (zo σ 31 m) := by
    intro w a0 hor w2
    rw [a0, if_neg (by decide)]
    refine z_aloadR_n (pc := 46) h dX8_line_46 rfl ?_
    refine z_lload_n (pc := 47) h dX8_line_47 rfl ?_
    refine z_ldc2 (pc := 48) h kl_X8_146 dX8_line_48 ?_
    refine z_lcmp (pc := 51) h dX8_line_51 ?_
    refine z_if_ne (pc := 52) (tgt := 59) h (by exact zlc_b _ _) dX8_line_52 (by decide) (fun c52 => ?_) (fun c52 => ?_)
    · refine z_iconst (pc := 59) h dX8_line_59 ?_
      refine z_callV (pc := 60) (c := 8) h (m8_truckLineI (by omega) h2 h7 h4 hT hb hct hcb ha1) (by decide) (by first | assumption | rfl) rfl mv_X8_truckLine ml_X8_170 rfl dX8_line_60 rfl (Nat.le_of_ble_eq_true rfl) (fun r60 τ60 q60 => ?_)
      obtain ⟨m', rfl, hkw, hml⟩ := q60
      obtain ⟨v, rfl⟩ := hml.v
      refine z_bret (pc := 63) h rfl dX8_line_63 ?_
      first
      | (have a2 := w2.mp c52
         have a1 := tW_ne (i := 2) (j := 1) (by decide) (by decide) (by decide) hq.2 a2
         rw [a1, if_neg (by decide), if_pos a2]
         exact ⟨m', rfl, hkw, hml⟩)
      | (have a1 : tW f n q 1 = true := hor.resolve_right (fun z => c52 (w2.mpr z))
         rw [if_pos a1]
         exact ⟨m', rfl, hkw, hml⟩)
    · refine z_iconst (pc := 55) h dX8_line_55 ?_
      refine z_goto (pc := 56) (tgt := 60) h dX8_line_56 (by decide) ?_
      refine z_callV (pc := 60) (c := 8) h (m8_truckLineI (by omega) h2 h7 h4 hT hb hct hcb ha1) (by decide) (by first | assumption | rfl) rfl mv_X8_truckLine ml_X8_170 rfl dX8_line_60 rfl (Nat.le_of_ble_eq_true rfl) (fun r60 τ60 q60 => ?_)
      obtain ⟨m', rfl, hkw, hml⟩ := q60
      obtain ⟨v, rfl⟩ := hml.v
      refine z_bret (pc := 63) h rfl dX8_line_63 ?_
      first
      | (have a2 := w2.mp c52
         have a1 := tW_ne (i := 2) (j := 1) (by decide) (by decide) (by decide) hq.2 a2
         rw [a1, if_neg (by decide), if_pos a2]
         exact ⟨m', rfl, hkw, hml⟩)
      | (have a1 : tW f n q 1 = true := hor.resolve_right (fun z => c52 (w2.mpr z))
         rw [if_pos a1]
         exact ⟨m', rfl, hkw, hml⟩)
  have SS : ∀ w : Int64, tW f n q 0 = false → tW f n q 1 = false → tW f n q 2 = false → (tW f n q 3 = true ∨ tW f n q 4 = true) → (zlc w 32497584017337959 = 0 ↔ tW f n q 3 = true) → zW x (fun rr τ' => ∃ m', τ' = zo σ 31 m' ∧ KW m m' ∧ ML f n (if tW f n q 0 = true then sDoor f n (tE f n q) (tS f n q) (m.2 15) ct b else if tW f n q 1 = true then sIn f n (tE f n q) (tS f n q) (m.2 15) ct b else if tW f n q 2 = true then sOut f n (tE f n q) (tS f n q) (m.2 15) ct b else if tW f n q 3 = true then sStg f n (tE f n q) (m.2 15) ct b else if tW f n q 4 = true then sChg f n (tE f n q) (m.2 15) ct b else .inl (tS f n q)) rr m') 85 [some (zR 31), some (.long w), none, none] [] (zo σ 31 m) := by
    intro w a0 a1 a2 hor w3
    rw [a0, a1, a2, if_neg (by decide), if_neg (by decide), if_neg (by decide)]
    have h34 : ¬ tW f n q 3 = true → tW f n q 3 = false ∧ tW f n q 4 = true := fun z => ⟨by cases hz : tW f n q 3 with
      | false => rfl
      | true => exact absurd hz z, hor.resolve_left z⟩
    have fin : ∀ (lim ix : Int) (z : zOb) (R : Sum Int ST), R = num f n (tE f n q) 1 (nQ f n (tE f n q) 2, zup (m.2 15) ix (vN f n (tE f n q) 0), ct, chk b (vN f n (tE f n q) 0) 0 lim (pN f n (tE f n q) 0)) → KS m z → (if tK f n (tE f n q) = 2 then z.1 17 = tV f n (tE f n q) ∧ (z.1 14, z.1 13) = chk b (tV f n (tE f n q)) 0 lim (tS f n (tE f n q)) ∧ TOK f n (tE f n (tE f n q)) z else z.1 12 = tS f n (tE f n q)) → ∃ m', zo σ 31 (osa z 15 ix (z.1 17)) = zo σ 31 m' ∧ KW m m' ∧ ML f n R (some (zB (decide (tK f n (tE f n q) = 2)))) m' := by
      intro lim ix z R hR hzk hz
      refine ⟨_, rfl, ⟨fun j hj => hzk.1 j (by omega), fun j ja jb => by rw [osa_2, if_neg ja, hzk.2]⟩, Or.inr ⟨tE f n q, 1, _, by omega, by omega, hR, rfl, ?_⟩⟩
      by_cases hk2 : tK f n (tE f n q) = 2
      · rw [if_pos hk2] at hz
        refine Or.inl ⟨nG_1.1 hk2, by rw [decide_eq_true hk2], hz.2.2, ?_, ?_, hz.2.1⟩
        · show zup (z.2 15) ix (z.1 17) = _
          rw [hzk.2, hz.1]; rfl
        · show z.1 16 = _
          rw [hzk.1 16 (by omega)]; exact hct
      · rw [if_neg hk2] at hz
        refine Or.inr ⟨by rw [nG_1.2 hk2]; decide, by rw [decide_eq_false hk2], ?_⟩
        rw [nG_1.2 hk2]
        exact hz
    refine z_aloadR_n (pc := 85) h dX8_line_85 rfl ?_
    refine z_callV (pc := 86) (c := 8) h (m8_token h2 h7 e6 (by omega) (by omega) h4) (by decide) (by first | assumption | rfl) rfl mv_X8_token ml_X8_141 rfl dX8_line_86 rfl (Nat.le_of_ble_eq_true rfl) (fun r86 τ86 q86 => ?_)
    obtain ⟨rfl, y, rfl, hyT, hyO⟩ := q86
    have yk := hyT.ks
    have y2 : y.2 2 = f := by rw [yk.2]; exact h2
    have y7 : y.1 7 = n := by rw [yk.1 7 (by omega)]; exact h7
    have yb : (y.1 14, y.1 13) = b := by rw [hyT.1 14 (by decide) (by decide) (by decide) (by decide) (by decide), hyT.1 13 (by decide) (by decide) (by decide) (by decide) (by decide)]; exact hb
    refine z_aloadR_n (pc := 89) h dX8_line_89 rfl ?_
    refine z_iconst (pc := 90) h dX8_line_90 ?_
    refine z_lload_n (pc := 91) h dX8_line_91 rfl ?_
    refine z_ldc2 (pc := 92) h kl_X8_174 dX8_line_92 ?_
    refine z_lcmp (pc := 95) h dX8_line_95 ?_
    refine z_if_ne (pc := 96) (tgt := 104) h (by exact zlc_b _ _) dX8_line_96 (by decide) (fun c96 => ?_) (fun c96 => ?_)
    · refine z_bipush (pc := 104) h dX8_line_104 (by decide) ?_
      refine z_callV (pc := 106) (c := 8) h (m8_takes y2 y7 h4 hyO yb (by omega) (by omega)) (by decide) (by first | assumption | rfl) rfl mv_X8_takes ml_X8_148 rfl dX8_line_106 rfl (Nat.le_of_ble_eq_true rfl) (fun r106 τ106 q106 => ?_)
      obtain ⟨rfl, z, rfl, hzk, hz⟩ := q106
      refine z_ist_3 (pc := 109) h dX8_line_109 (by decide) rfl ?_
      refine z_aloadR_n (pc := 110) h dX8_line_110 rfl ?_
      refine z_getA4 (pc := 111) (c := 8) (j := 15) h (by first | assumption | rfl) rfl rfl fl_X8_24 dX8_line_111 ?_
      refine z_lload_n (pc := 114) h dX8_line_114 rfl ?_
      refine z_ldc2 (pc := 115) h kl_X8_174 dX8_line_115 ?_
      refine z_lcmp (pc := 118) h dX8_line_118 ?_
      refine z_if_ne (pc := 119) (tgt := 126) h (by exact zlc_b _ _) dX8_line_119 (by decide) (fun c119 => ?_) (fun c119 => ?_)
      · refine z_iconst (pc := 126) h dX8_line_126 ?_
        refine z_aloadR_n (pc := 127) h dX8_line_127 rfl ?_
        refine z_getIq (pc := 128) (c := 8) (j := 17) h (zo_s _ _ _) (by first | assumption | rfl) rfl rfl fl_X8_134 dX8_line_128 (fun g128 => ?_)
        refine z_iasto (pc := 131) (c := 8) (j := 15) (L := 119) h (by first | assumption | rfl) (by decide) rfl (by decide) (by omega) (by omega) (by omega) dX8_line_131 ?_
        refine z_iload_n (pc := 132) h dX8_line_132 rfl ?_
        refine z_bret (pc := 133) h rfl dX8_line_133 ?_
        first
        | exact absurd c119 c96
        | exact absurd c96 c119
        | (have a3 := w3.mp c96
           rw [if_pos a3]
           exact fin 40 2 z _ rfl (yk.tr hzk) hz)
        | (have a3 := h34 (fun u => c96 (w3.mpr u))
           rw [a3.1, if_neg (by decide), if_pos a3.2]
           exact fin 9 3 z _ rfl (yk.tr hzk) hz)
      · refine z_iconst (pc := 122) h dX8_line_122 ?_
        refine z_goto (pc := 123) (tgt := 127) h dX8_line_123 (by decide) ?_
        refine z_aloadR_n (pc := 127) h dX8_line_127 rfl ?_
        refine z_getIq (pc := 128) (c := 8) (j := 17) h (zo_s _ _ _) (by first | assumption | rfl) rfl rfl fl_X8_134 dX8_line_128 (fun g128 => ?_)
        refine z_iasto (pc := 131) (c := 8) (j := 15) (L := 119) h (by first | assumption | rfl) (by decide) rfl (by decide) (by omega) (by omega) (by omega) dX8_line_131 ?_
        refine z_iload_n (pc := 132) h dX8_line_132 rfl ?_
        refine z_bret (pc := 133) h rfl dX8_line_133 ?_
        first
        | exact absurd c119 c96
        | exact absurd c96 c119
        | (have a3 := w3.mp c96
           rw [if_pos a3]
           exact fin 40 2 z _ rfl (yk.tr hzk) hz)
        | (have a3 := h34 (fun u => c96 (w3.mpr u))
           rw [a3.1, if_neg (by decide), if_pos a3.2]
           exact fin 9 3 z _ rfl (yk.tr hzk) hz)
    · refine z_bipush (pc := 99) h dX8_line_99 (by decide) ?_
      refine z_goto (pc := 101) (tgt := 106) h dX8_line_101 (by decide) ?_
      refine z_callV (pc := 106) (c := 8) h (m8_takes y2 y7 h4 hyO yb (by omega) (by omega)) (by decide) (by first | assumption | rfl) rfl mv_X8_takes ml_X8_148 rfl dX8_line_106 rfl (Nat.le_of_ble_eq_true rfl) (fun r106 τ106 q106 => ?_)
      obtain ⟨rfl, z, rfl, hzk, hz⟩ := q106
      refine z_ist_3 (pc := 109) h dX8_line_109 (by decide) rfl ?_
      refine z_aloadR_n (pc := 110) h dX8_line_110 rfl ?_
      refine z_getA4 (pc := 111) (c := 8) (j := 15) h (by first | assumption | rfl) rfl rfl fl_X8_24 dX8_line_111 ?_
      refine z_lload_n (pc := 114) h dX8_line_114 rfl ?_
      refine z_ldc2 (pc := 115) h kl_X8_174 dX8_line_115 ?_
      refine z_lcmp (pc := 118) h dX8_line_118 ?_
      refine z_if_ne (pc := 119) (tgt := 126) h (by exact zlc_b _ _) dX8_line_119 (by decide) (fun c119 => ?_) (fun c119 => ?_)
      · refine z_iconst (pc := 126) h dX8_line_126 ?_
        refine z_aloadR_n (pc := 127) h dX8_line_127 rfl ?_
        refine z_getIq (pc := 128) (c := 8) (j := 17) h (zo_s _ _ _) (by first | assumption | rfl) rfl rfl fl_X8_134 dX8_line_128 (fun g128 => ?_)
        refine z_iasto (pc := 131) (c := 8) (j := 15) (L := 119) h (by first | assumption | rfl) (by decide) rfl (by decide) (by omega) (by omega) (by omega) dX8_line_131 ?_
        refine z_iload_n (pc := 132) h dX8_line_132 rfl ?_
        refine z_bret (pc := 133) h rfl dX8_line_133 ?_
        first
        | exact absurd c119 c96
        | exact absurd c96 c119
        | (have a3 := w3.mp c96
           rw [if_pos a3]
           exact fin 40 2 z _ rfl (yk.tr hzk) hz)
        | (have a3 := h34 (fun u => c96 (w3.mpr u))
           rw [a3.1, if_neg (by decide), if_pos a3.2]
           exact fin 9 3 z _ rfl (yk.tr hzk) hz)
      · refine z_iconst (pc := 122) h dX8_line_122 ?_
        refine z_goto (pc := 123) (tgt := 127) h dX8_line_123 (by decide) ?_
        refine z_aloadR_n (pc := 127) h dX8_line_127 rfl ?_
        refine z_getIq (pc := 128) (c := 8) (j := 17) h (zo_s _ _ _) (by first | assumption | rfl) rfl rfl fl_X8_134 dX8_line_128 (fun g128 => ?_)
        refine z_iasto (pc := 131) (c := 8) (j := 15) (L := 119) h (by first | assumption | rfl) (by decide) rfl (by decide) (by omega) (by omega) (by omega) dX8_line_131 ?_
        refine z_iload_n (pc := 132) h dX8_line_132 rfl ?_
        refine z_bret (pc := 133) h rfl dX8_line_133 ?_
        first
        | exact absurd c119 c96
        | exact absurd c96 c119
        | (have a3 := w3.mp c96
           rw [if_pos a3]
           exact fin 40 2 z _ rfl (yk.tr hzk) hz)
        | (have a3 := h34 (fun u => c96 (w3.mpr u))
           rw [a3.1, if_neg (by decide), if_pos a3.2]
           exact fin 9 3 z _ rfl (yk.tr hzk) hz)
  refine z_aloadR_n (pc := 0) h dX8_line_0 rfl ?_
  refine z_getIq (pc := 1) (c := 8) (j := 9) h (zo_s _ _ _) (by first | assumption | rfl) rfl rfl fl_X8_115 dX8_line_1 (fun g1 => ?_)
  refine z_iconst (pc := 4) h dX8_line_4 ?_
  refine z_icmp_ne (pc := 5) (tgt := 15) h (by omega) (by omega) dX8_line_5 (by decide) (fun c5 => ?_) (fun c5 => ?_)
  · have hk1 : tK f n q ≠ 1 := by omega
    refine z_lconst (pc := 15) h dX8_line_15 ?_
    refine z_lst_1 (pc := 16) h dX8_line_16 (by decide) rfl ?_
    refine z_lload_n (pc := 17) h dX8_line_17 rfl ?_
    refine z_ldc2 (pc := 18) h kl_X8_165 dX8_line_18 ?_
    refine z_lcmp (pc := 21) h dX8_line_21 ?_
    refine z_if_ne (pc := 22) (tgt := 30) h (by exact zlc_b _ _) dX8_line_22 (by decide) (fun c22 => ?_) (fun c22 => ?_)
    · refine z_lload_n (pc := 30) h dX8_line_30 rfl ?_
      refine z_ldc2 (pc := 31) h kl_X8_144 dX8_line_31 ?_
      refine z_lcmp (pc := 34) h dX8_line_34 ?_
      refine z_if_eq (pc := 35) (tgt := 46) h (by exact zlc_b _ _) dX8_line_35 (by decide) (fun c35 => ?_) (fun c35 => ?_)
      · first
        | exact absurd ((zlc_0 _ _).mp c35) (by decide)
        | exact absurd ((zlc_0 _ _).mp c43) (by decide)
        | exact TT _ (nw0 (fun u => c22 (w0.mpr u))) (Or.inl (w1.mp c35)) w2
        | exact TT _ (nw0 (fun u => c22 (w0.mpr u))) (Or.inr (w2.mp c43)) w2
      · refine z_lload_n (pc := 38) h dX8_line_38 rfl ?_
        refine z_ldc2 (pc := 39) h kl_X8_146 dX8_line_39 ?_
        refine z_lcmp (pc := 42) h dX8_line_42 ?_
        refine z_if_ne (pc := 43) (tgt := 64) h (by exact zlc_b _ _) dX8_line_43 (by decide) (fun c43 => ?_) (fun c43 => ?_)
        · refine z_lload_n (pc := 64) h dX8_line_64 rfl ?_
          refine z_ldc2 (pc := 65) h kl_X8_174 dX8_line_65 ?_
          refine z_lcmp (pc := 68) h dX8_line_68 ?_
          refine z_if_eq (pc := 69) (tgt := 85) h (by exact zlc_b _ _) dX8_line_69 (by decide) (fun c69 => ?_) (fun c69 => ?_)
          · first
            | exact absurd ((zlc_0 _ _).mp c69) (by decide)
            | exact absurd ((zlc_0 _ _).mp c77) (by decide)
            | exact SS _ (nw0 (fun u => c22 (w0.mpr u))) (nw0 (fun u => c35 (w1.mpr u))) (nw0 (fun u => c43 (w2.mpr u))) (Or.inl (w3.mp c69)) w3
            | exact SS _ (nw0 (fun u => c22 (w0.mpr u))) (nw0 (fun u => c35 (w1.mpr u))) (nw0 (fun u => c43 (w2.mpr u))) (Or.inr (w4.mp c77)) w3
          · refine z_lload_n (pc := 72) h dX8_line_72 rfl ?_
            refine z_ldc2 (pc := 73) h kl_X8_176 dX8_line_73 ?_
            refine z_lcmp (pc := 76) h dX8_line_76 ?_
            refine z_if_eq (pc := 77) (tgt := 85) h (by exact zlc_b _ _) dX8_line_77 (by decide) (fun c77 => ?_) (fun c77 => ?_)
            · first
              | exact absurd ((zlc_0 _ _).mp c69) (by decide)
              | exact absurd ((zlc_0 _ _).mp c77) (by decide)
              | exact SS _ (nw0 (fun u => c22 (w0.mpr u))) (nw0 (fun u => c35 (w1.mpr u))) (nw0 (fun u => c43 (w2.mpr u))) (Or.inl (w3.mp c69)) w3
              | exact SS _ (nw0 (fun u => c22 (w0.mpr u))) (nw0 (fun u => c35 (w1.mpr u))) (nw0 (fun u => c43 (w2.mpr u))) (Or.inr (w4.mp c77)) w3
            · refine z_aloadR_n (pc := 80) h dX8_line_80 rfl ?_
              refine z_rV (pc := 81) (c := 8) h (m8_fails e8 (by omega)) (by decide) (by first | assumption | rfl) rfl mv_X8_fails ml_X8_130 rfl dX8_line_81 rfl (Nat.le_of_ble_eq_true rfl) ?_
              refine z_bret (pc := 84) h rfl dX8_line_84 ?_
              first
              | exact F (tW_no hk1) (tW_no hk1) (tW_no hk1) (tW_no hk1) (tW_no hk1)
              | exact F (nw0 (fun u => c22 (w0.mpr u))) (nw0 (fun u => c35 (w1.mpr u))) (nw0 (fun u => c43 (w2.mpr u))) (nw0 (fun u => c69 (w3.mpr u))) (nw0 (fun u => c77 (w4.mpr u)))
        · first
          | exact absurd ((zlc_0 _ _).mp c35) (by decide)
          | exact absurd ((zlc_0 _ _).mp c43) (by decide)
          | exact TT _ (nw0 (fun u => c22 (w0.mpr u))) (Or.inl (w1.mp c35)) w2
          | exact TT _ (nw0 (fun u => c22 (w0.mpr u))) (Or.inr (w2.mp c43)) w2
    · first
      | exact absurd ((zlc_0 _ _).mp c22) (by decide)
      | exact D _ (w0.mp c22)
  · have hk1 : tK f n q = 1 := by omega
    have z11 := hT.2.2.2.2.2 hk1
    have w0 := wd_z (v := 1685024626) (i := 0) (by decide) hq.2 hk1 (by decide)
    have w1 := wd_z (v := 26990) (i := 1) (by decide) hq.2 hk1 (by decide)
    have w2 := wd_z (v := 7304564) (i := 2) (by decide) hq.2 hk1 (by decide)
    have w3 := wd_z (v := 32497584017337959) (i := 3) (by decide) hq.2 hk1 (by decide)
    have w4 := wd_z (v := 109299962373989) (i := 4) (by decide) hq.2 hk1 (by decide)
    rw [← z11] at w0 w1 w2 w3 w4
    refine z_aloadR_n (pc := 8) h dX8_line_8 rfl ?_
    refine z_getLq (pc := 9) (c := 8) (j := 11) h (zo_s _ _ _) (by first | assumption | rfl) rfl rfl fl_X8_111 dX8_line_9 (fun g9 => ?_)
    refine z_goto (pc := 12) (tgt := 16) h dX8_line_12 (by decide) ?_
    refine z_lst_1 (pc := 16) h dX8_line_16 (by decide) rfl ?_
    refine z_lload_n (pc := 17) h dX8_line_17 rfl ?_
    refine z_ldc2 (pc := 18) h kl_X8_165 dX8_line_18 ?_
    refine z_lcmp (pc := 21) h dX8_line_21 ?_
    refine z_if_ne (pc := 22) (tgt := 30) h (by exact zlc_b _ _) dX8_line_22 (by decide) (fun c22 => ?_) (fun c22 => ?_)
    · refine z_lload_n (pc := 30) h dX8_line_30 rfl ?_
      refine z_ldc2 (pc := 31) h kl_X8_144 dX8_line_31 ?_
      refine z_lcmp (pc := 34) h dX8_line_34 ?_
      refine z_if_eq (pc := 35) (tgt := 46) h (by exact zlc_b _ _) dX8_line_35 (by decide) (fun c35 => ?_) (fun c35 => ?_)
      · first
        | exact absurd ((zlc_0 _ _).mp c35) (by decide)
        | exact absurd ((zlc_0 _ _).mp c43) (by decide)
        | exact TT _ (nw0 (fun u => c22 (w0.mpr u))) (Or.inl (w1.mp c35)) w2
        | exact TT _ (nw0 (fun u => c22 (w0.mpr u))) (Or.inr (w2.mp c43)) w2
      · refine z_lload_n (pc := 38) h dX8_line_38 rfl ?_
        refine z_ldc2 (pc := 39) h kl_X8_146 dX8_line_39 ?_
        refine z_lcmp (pc := 42) h dX8_line_42 ?_
        refine z_if_ne (pc := 43) (tgt := 64) h (by exact zlc_b _ _) dX8_line_43 (by decide) (fun c43 => ?_) (fun c43 => ?_)
        · refine z_lload_n (pc := 64) h dX8_line_64 rfl ?_
          refine z_ldc2 (pc := 65) h kl_X8_174 dX8_line_65 ?_
          refine z_lcmp (pc := 68) h dX8_line_68 ?_
          refine z_if_eq (pc := 69) (tgt := 85) h (by exact zlc_b _ _) dX8_line_69 (by decide) (fun c69 => ?_) (fun c69 => ?_)
          · first
            | exact absurd ((zlc_0 _ _).mp c69) (by decide)
            | exact absurd ((zlc_0 _ _).mp c77) (by decide)
            | exact SS _ (nw0 (fun u => c22 (w0.mpr u))) (nw0 (fun u => c35 (w1.mpr u))) (nw0 (fun u => c43 (w2.mpr u))) (Or.inl (w3.mp c69)) w3
            | exact SS _ (nw0 (fun u => c22 (w0.mpr u))) (nw0 (fun u => c35 (w1.mpr u))) (nw0 (fun u => c43 (w2.mpr u))) (Or.inr (w4.mp c77)) w3
          · refine z_lload_n (pc := 72) h dX8_line_72 rfl ?_
            refine z_ldc2 (pc := 73) h kl_X8_176 dX8_line_73 ?_
            refine z_lcmp (pc := 76) h dX8_line_76 ?_
            refine z_if_eq (pc := 77) (tgt := 85) h (by exact zlc_b _ _) dX8_line_77 (by decide) (fun c77 => ?_) (fun c77 => ?_)
            · first
              | exact absurd ((zlc_0 _ _).mp c69) (by decide)
              | exact absurd ((zlc_0 _ _).mp c77) (by decide)
              | exact SS _ (nw0 (fun u => c22 (w0.mpr u))) (nw0 (fun u => c35 (w1.mpr u))) (nw0 (fun u => c43 (w2.mpr u))) (Or.inl (w3.mp c69)) w3
              | exact SS _ (nw0 (fun u => c22 (w0.mpr u))) (nw0 (fun u => c35 (w1.mpr u))) (nw0 (fun u => c43 (w2.mpr u))) (Or.inr (w4.mp c77)) w3
            · refine z_aloadR_n (pc := 80) h dX8_line_80 rfl ?_
              refine z_rV (pc := 81) (c := 8) h (m8_fails e8 (by omega)) (by decide) (by first | assumption | rfl) rfl mv_X8_fails ml_X8_130 rfl dX8_line_81 rfl (Nat.le_of_ble_eq_true rfl) ?_
              refine z_bret (pc := 84) h rfl dX8_line_84 ?_
              first
              | exact F (tW_no hk1) (tW_no hk1) (tW_no hk1) (tW_no hk1) (tW_no hk1)
              | exact F (nw0 (fun u => c22 (w0.mpr u))) (nw0 (fun u => c35 (w1.mpr u))) (nw0 (fun u => c43 (w2.mpr u))) (nw0 (fun u => c69 (w3.mpr u))) (nw0 (fun u => c77 (w4.mpr u)))
        · first
          | exact absurd ((zlc_0 _ _).mp c35) (by decide)
          | exact absurd ((zlc_0 _ _).mp c43) (by decide)
          | exact TT _ (nw0 (fun u => c22 (w0.mpr u))) (Or.inl (w1.mp c35)) w2
          | exact TT _ (nw0 (fun u => c22 (w0.mpr u))) (Or.inr (w2.mp c43)) w2
    · first
      | exact absurd ((zlc_0 _ _).mp c22) (by decide)
      | exact D _ (w0.mp c22)
