/-! The class: the next token. -/
def ADV (f : Int → Int) (n : Int) (r r' : zOb) : Prop := r'.1 6 = tE f n (r.1 6) ∧ r'.1 7 = tS f n (r.1 6) ∧ r'.1 8 = tK f n (r.1 6) ∧ (tK f n (r.1 6) = 2 → r'.1 9 = tV f n (r.1 6)) ∧ (∀ j, j ≤ 5 → r'.1 j = r.1 j) ∧ r'.2 = r.2
theorem tk0 {f : Int → Int} {n s : Int} (h : ¬ s < n) : tEs f n s = s ∧ tKs f n s = 0 := by
  unfold tEs tKs
  rw [if_neg h, if_neg h]
  exact ⟨rfl, rfl⟩
theorem tk1 {f : Int → Int} {n s : Int} (h : s < n) (h1 : tR f n 97 122 s = true) : tEs f n s = tP f n 97 122 s ∧ tKs f n s = 1 := by
  unfold tEs tKs
  rw [if_pos h, if_pos h, if_pos h1, if_pos h1]
  exact ⟨rfl, rfl⟩
theorem tk2 {f : Int → Int} {n s : Int} (h : s < n) (h1 : tR f n 97 122 s = false) (h2 : tR f n 48 57 s = true) : tEs f n s = tP f n 48 57 s ∧ tKs f n s = if tP f n 48 57 s - s ≤ 3 then 2 else 4 := by
  have e : ¬ tR f n 97 122 s = true := by rw [h1]; decide
  unfold tEs tKs
  rw [if_pos h, if_pos h, if_neg e, if_neg e, if_pos h2, if_pos h2]
  exact ⟨rfl, rfl⟩
theorem tk3 {f : Int → Int} {n s : Int} (h : s < n) (h1 : tR f n 97 122 s = false) (h2 : tR f n 48 57 s = false) : tEs f n s = s + 1 ∧ tKs f n s = if f s = 59 then 3 else 4 := by
  have e : ¬ tR f n 97 122 s = true := by rw [h1]; decide
  have e2 : ¬ tR f n 48 57 s = true := by rw [h2]; decide
  unfold tEs tKs
  rw [if_pos h, if_pos h, if_neg e, if_neg e, if_neg e2, if_neg e2]
  exact ⟨rfl, rfl⟩
theorem tVk_b {f : Int → Int} {s k : Int} (h0 : 0 ≤ k) (h1 : k ≤ 3) (hd : ∀ j, s ≤ j → j < s + k → 48 ≤ f j ∧ f j ≤ 57) : 0 ≤ tVk f s k ∧ tVk f s k ≤ 999 := by
  have k0 : tVk f s 0 = 0 := rfl
  have k1 := tVk_S f s (Int.le_refl 0)
  have k2 := tVk_S f s (show (0 : Int) ≤ 0 + 1 by omega)
  have k3 := tVk_S f s (show (0 : Int) ≤ 0 + 1 + 1 by omega)
  have hc : k = 0 ∨ k = 0 + 1 ∨ k = 0 + 1 + 1 ∨ k = 0 + 1 + 1 + 1 := by omega
  rcases hc with z | z | z | z
  · rw [z]; omega
  · have c0 := hd (s + 0) (by omega) (by omega)
    rw [z]; omega
  · have c0 := hd (s + 0) (by omega) (by omega)
    have c1 := hd (s + (0 + 1)) (by omega) (by omega)
    rw [z]; omega
  · have c0 := hd (s + 0) (by omega) (by omega)
    have c1 := hd (s + (0 + 1)) (by omega) (by omega)
    have c2 := hd (s + (0 + 1 + 1)) (by omega) (by omega)
    rw [z]; omega
theorem c_advance {σ : zS} {r : zOb} (hp : 0 ≤ r.1 6 ∧ r.1 6 ≤ (σ 1).1 1) (hn : (σ 1).1 1 ≤ 400) : zC M_X4_advance 3 [zR 2] (zo σ 2 r) (fun rr τ' => rr = none ∧ ∃ r', τ' = zo σ 2 r' ∧ ADV ((σ 1).2 0) ((σ 1).1 1) r r') := by
  refine zC_of (M := M_X4_advance) (ls := [some (zR 2)]) (n := 0) (by decide) (fun ad => Nat.le_of_ble_eq_true rfl) rfl (fun x h => ?_)
  have B : ∀ s, s = tS ((σ 1).2 0) ((σ 1).1 1) (r.1 6) → zW x (fun rr τ' => rr = none ∧ ∃ r', τ' = zo σ 2 r' ∧ ADV ((σ 1).2 0) ((σ 1).1 1) r r') 38 [some (zR 2)] [] (zo σ 2 (oss r 6 s)) := by
    intro s hs
    have hsb := tS_b (f := (σ 1).2 0) hp.2
    rw [← hs] at hsb
    have e6 : (oss r 6 s).1 6 = s := rfl
    have hE : tE ((σ 1).2 0) ((σ 1).1 1) (r.1 6) = tEs ((σ 1).2 0) ((σ 1).1 1) s := by unfold tE; rw [← hs]
    have hK : tK ((σ 1).2 0) ((σ 1).1 1) (r.1 6) = tKs ((σ 1).2 0) ((σ 1).1 1) s := by unfold tK; rw [← hs]
    have hV : tV ((σ 1).2 0) ((σ 1).1 1) (r.1 6) = tVk ((σ 1).2 0) s (tEs ((σ 1).2 0) ((σ 1).1 1) s - s) := by unfold tV; rw [hE, ← hs]
    have hoth : ∀ j, j ≤ 5 → (oss r 6 s).1 j = r.1 j := fun j hj => by rw [oss_1, if_neg (by omega)]
    have h2 : (oss r 6 s).2 = r.2 := rfl
    unfold ADV
    rw [← hs, hE, hK, hV]
    generalize oss r 6 s = y at e6 hoth h2 ⊢
    refine z_aloadR_n (pc := 38) h dX4_advance_38 rfl ?_
    refine z_aloadR_n (pc := 39) h dX4_advance_39 rfl ?_
    refine z_getIq (pc := 40) (c := 4) (j := 6) h (zo_s _ _ _) (by first | assumption | rfl) rfl rfl fl_X4_39 dX4_advance_40 (fun g40 => ?_)
    refine z_putIo (pc := 43) (c := 4) (j := 7) h (by first | assumption | rfl) rfl rfl fl_X4_68 rfl (tyX4_ok 7 (by decide)) dX4_advance_43 (by omega) ?_
    rw [e6]
    have f6 : (oss y 7 s).1 6 = s := e6
    have f7 : (oss y 7 s).1 7 = s := rfl
    have foth : ∀ j, j ≤ 5 → (oss y 7 s).1 j = r.1 j := fun j hj => by rw [oss_1, if_neg (by omega)]; exact hoth j hj
    have f2 : (oss y 7 s).2 = r.2 := h2
    generalize oss y 7 s = w at f6 f7 foth f2 ⊢
    refine z_aloadR_n (pc := 46) h dX4_advance_46 rfl ?_
    refine z_getIq (pc := 47) (c := 4) (j := 6) h (zo_s _ _ _) (by first | assumption | rfl) rfl rfl fl_X4_39 dX4_advance_47 (fun g47 => ?_)
    try simp only [osa_1, osa_2, oss_1, oss_2, osA_1, osA_2, zup_s, reduceIte, Nat.reduceEqDiff] at g47 ⊢
    refine z_aloadR_n (pc := 50) h dX4_advance_50 rfl ?_
    refine z_getR (pc := 51) (c := 4) (j := 0) (o2 := 1) h rfl (by first | assumption | rfl) rfl rfl fl_X4_29 dX4_advance_51 ?_
    refine z_getIq (pc := 54) (c := 6) (j := 1) h (zo_n (show (1 : Nat) ≠ 2 by decide)) (by first | assumption | rfl) rfl rfl fl_X4_51 dX4_advance_54 (fun g54 => ?_)
    refine z_icmp_lt (pc := 57) (tgt := 68) h (by omega) (by omega) dX4_advance_57 (by decide) (fun c57 => ?_) (fun c57 => ?_)
    · refine z_aloadR_n (pc := 68) h dX4_advance_68 rfl ?_
      refine z_aloadR_n (pc := 69) h dX4_advance_69 rfl ?_
      refine z_getIq (pc := 70) (c := 4) (j := 6) h (zo_s _ _ _) (by first | assumption | rfl) rfl rfl fl_X4_39 dX4_advance_70 (fun g70 => ?_)
      try simp only [osa_1, osa_2, oss_1, oss_2, osA_1, osA_2, zup_s, reduceIte, Nat.reduceEqDiff] at g70 ⊢
      refine z_bipush (pc := 73) h dX4_advance_73 (by decide) ?_
      refine z_bipush (pc := 75) h dX4_advance_75 (by decide) ?_
      rw [f6]
      refine z_pV (pc := 77) (c := 4) h (c_isBetween (by omega) (by omega) hn (by omega) (by omega)) (by decide) (by first | assumption | rfl) rfl mv_X4_isBetween ml_X4_60 rfl dX4_advance_77 rfl (Nat.le_of_ble_eq_true rfl) ?_
      refine z_ifeqB (pc := 80) (tgt := 99) h dX4_advance_80 (by decide) (fun c80 => ?_) (fun c80 => ?_)
      · refine z_aloadR_n (pc := 99) h dX4_advance_99 rfl ?_
        refine z_aloadR_n (pc := 100) h dX4_advance_100 rfl ?_
        refine z_getIq (pc := 101) (c := 4) (j := 6) h (zo_s _ _ _) (by first | assumption | rfl) rfl rfl fl_X4_39 dX4_advance_101 (fun g101 => ?_)
        try simp only [osa_1, osa_2, oss_1, oss_2, osA_1, osA_2, zup_s, reduceIte, Nat.reduceEqDiff] at g101 ⊢
        refine z_bipush (pc := 104) h dX4_advance_104 (by decide) ?_
        refine z_bipush (pc := 106) h dX4_advance_106 (by decide) ?_
        rw [f6]
        refine z_pV (pc := 108) (c := 4) h (c_isBetween (by omega) (by omega) hn (by omega) (by omega)) (by decide) (by first | assumption | rfl) rfl mv_X4_isBetween ml_X4_60 rfl dX4_advance_108 rfl (Nat.le_of_ble_eq_true rfl) ?_
        refine z_ifeqB (pc := 111) (tgt := 167) h dX4_advance_111 (by decide) (fun c111 => ?_) (fun c111 => ?_)
        · refine z_aloadR_n (pc := 167) h dX4_advance_167 rfl ?_
          refine z_aloadR_n (pc := 168) h dX4_advance_168 rfl ?_
          refine z_aloadR_n (pc := 169) h dX4_advance_169 rfl ?_
          refine z_getIq (pc := 170) (c := 4) (j := 6) h (zo_s _ _ _) (by first | assumption | rfl) rfl rfl fl_X4_39 dX4_advance_170 (fun g170 => ?_)
          try simp only [osa_1, osa_2, oss_1, oss_2, osA_1, osA_2, zup_s, reduceIte, Nat.reduceEqDiff] at g170 ⊢
          refine z_bipush (pc := 173) h dX4_advance_173 (by decide) ?_
          refine z_bipush (pc := 175) h dX4_advance_175 (by decide) ?_
          rw [f6]
          refine z_pV (pc := 177) (c := 4) h (c_isBetween (by omega) (by omega) hn (by omega) (by omega)) (by decide) (by first | assumption | rfl) rfl mv_X4_isBetween ml_X4_60 rfl dX4_advance_177 rfl (Nat.le_of_ble_eq_true rfl) ?_
          refine z_ifeqB (pc := 180) (tgt := 187) h dX4_advance_180 (by decide) (fun c180 => ?_) (fun c180 => ?_)
          · refine z_iconst (pc := 187) h dX4_advance_187 ?_
            refine z_putIo (pc := 188) (c := 4) (j := 8) h (by first | assumption | rfl) rfl rfl fl_X4_45 rfl (tyX4_ok 8 (by decide)) dX4_advance_188 (by omega) ?_
            refine z_aloadR_n (pc := 191) h dX4_advance_191 rfl ?_
            refine z_dupR (pc := 192) h dX4_advance_192 ?_
            refine z_getIq (pc := 193) (c := 4) (j := 6) h (zo_s _ _ _) (by first | assumption | rfl) rfl rfl fl_X4_39 dX4_advance_193 (fun g193 => ?_)
            try simp only [osa_1, osa_2, oss_1, oss_2, osA_1, osA_2, zup_s, reduceIte, Nat.reduceEqDiff] at g193 ⊢
            refine z_iconst (pc := 196) h dX4_advance_196 ?_
            refine z_iadd (pc := 197) h dX4_advance_197 ?_
            refine z_putIo (pc := 198) (c := 4) (j := 6) h (by first | assumption | rfl) rfl rfl fl_X4_39 rfl (tyX4_ok 6 (by decide)) dX4_advance_198 (by omega) ?_
            refine z_ret (pc := 201) h rfl dX4_advance_201 ?_
            first
            | (have z := tk0 (f := (σ 1).2 0) (show ¬ s < (σ 1).1 1 by omega); rw [z.1, z.2]; exact ⟨rfl, _, rfl, f6, f7, rfl, fun z => absurd z (by decide), fun j hj => by rw [oss_1, if_neg (by omega)]; exact foth j hj, f2⟩)
            | (have z := tk1 (show s < (σ 1).1 1 by omega) c80; rw [z.1, z.2]; exact ⟨rfl, _, rfl, rfl, f7, rfl, fun z => absurd z (by decide), fun j hj => by rw [oss_1, if_neg (by omega), oss_1, if_neg (by omega)]; exact foth j hj, f2⟩)
            | (have z := tk2 (show s < (σ 1).1 1 by omega) c80 c111; rw [hte, if_pos (by omega)] at z; rw [z.1, z.2]; exact ⟨rfl, _, rfl, k6, k7, rfl, fun _ => by show tVk _ (v.1 7) (v.1 6 - v.1 7) = _; rw [k6, k7], fun j hj => by rw [oss_1, if_neg (by omega), oss_1, if_neg (by omega)]; exact koth j hj, k2⟩)
            | (have z := tk2 (show s < (σ 1).1 1 by omega) c80 c111; rw [hte, if_neg (by omega)] at z; rw [z.1, z.2]; exact ⟨rfl, _, rfl, k6, k7, rfl, fun z => absurd z (by decide), fun j hj => by rw [oss_1, if_neg (by omega), oss_1, if_neg (by omega)]; exact koth j hj, k2⟩)
            | (have q := of_decide_eq_true c180; have z := tk3 (show s < (σ 1).1 1 by omega) c80 c111; rw [if_pos (by omega)] at z; rw [z.1, z.2]; exact ⟨rfl, _, rfl, by show w.1 6 + 1 = _; rw [f6], f7, rfl, fun z => absurd z (by decide), fun j hj => by rw [oss_1, if_neg (by omega), oss_1, if_neg (by omega)]; exact foth j hj, f2⟩)
            | (have q := of_decide_eq_false c180; have z := tk3 (show s < (σ 1).1 1 by omega) c80 c111; rw [if_neg (by omega)] at z; rw [z.1, z.2]; exact ⟨rfl, _, rfl, by show w.1 6 + 1 = _; rw [f6], f7, rfl, fun z => absurd z (by decide), fun j hj => by rw [oss_1, if_neg (by omega), oss_1, if_neg (by omega)]; exact foth j hj, f2⟩)
            | (exfalso; omega)
          · refine z_iconst (pc := 183) h dX4_advance_183 ?_
            refine z_goto (pc := 184) (tgt := 188) h dX4_advance_184 (by decide) ?_
            refine z_putIo (pc := 188) (c := 4) (j := 8) h (by first | assumption | rfl) rfl rfl fl_X4_45 rfl (tyX4_ok 8 (by decide)) dX4_advance_188 (by omega) ?_
            refine z_aloadR_n (pc := 191) h dX4_advance_191 rfl ?_
            refine z_dupR (pc := 192) h dX4_advance_192 ?_
            refine z_getIq (pc := 193) (c := 4) (j := 6) h (zo_s _ _ _) (by first | assumption | rfl) rfl rfl fl_X4_39 dX4_advance_193 (fun g193 => ?_)
            try simp only [osa_1, osa_2, oss_1, oss_2, osA_1, osA_2, zup_s, reduceIte, Nat.reduceEqDiff] at g193 ⊢
            refine z_iconst (pc := 196) h dX4_advance_196 ?_
            refine z_iadd (pc := 197) h dX4_advance_197 ?_
            refine z_putIo (pc := 198) (c := 4) (j := 6) h (by first | assumption | rfl) rfl rfl fl_X4_39 rfl (tyX4_ok 6 (by decide)) dX4_advance_198 (by omega) ?_
            refine z_ret (pc := 201) h rfl dX4_advance_201 ?_
            first
            | (have z := tk0 (f := (σ 1).2 0) (show ¬ s < (σ 1).1 1 by omega); rw [z.1, z.2]; exact ⟨rfl, _, rfl, f6, f7, rfl, fun z => absurd z (by decide), fun j hj => by rw [oss_1, if_neg (by omega)]; exact foth j hj, f2⟩)
            | (have z := tk1 (show s < (σ 1).1 1 by omega) c80; rw [z.1, z.2]; exact ⟨rfl, _, rfl, rfl, f7, rfl, fun z => absurd z (by decide), fun j hj => by rw [oss_1, if_neg (by omega), oss_1, if_neg (by omega)]; exact foth j hj, f2⟩)
            | (have z := tk2 (show s < (σ 1).1 1 by omega) c80 c111; rw [hte, if_pos (by omega)] at z; rw [z.1, z.2]; exact ⟨rfl, _, rfl, k6, k7, rfl, fun _ => by show tVk _ (v.1 7) (v.1 6 - v.1 7) = _; rw [k6, k7], fun j hj => by rw [oss_1, if_neg (by omega), oss_1, if_neg (by omega)]; exact koth j hj, k2⟩)
            | (have z := tk2 (show s < (σ 1).1 1 by omega) c80 c111; rw [hte, if_neg (by omega)] at z; rw [z.1, z.2]; exact ⟨rfl, _, rfl, k6, k7, rfl, fun z => absurd z (by decide), fun j hj => by rw [oss_1, if_neg (by omega), oss_1, if_neg (by omega)]; exact koth j hj, k2⟩)
            | (have q := of_decide_eq_true c180; have z := tk3 (show s < (σ 1).1 1 by omega) c80 c111; rw [if_pos (by omega)] at z; rw [z.1, z.2]; exact ⟨rfl, _, rfl, by show w.1 6 + 1 = _; rw [f6], f7, rfl, fun z => absurd z (by decide), fun j hj => by rw [oss_1, if_neg (by omega), oss_1, if_neg (by omega)]; exact foth j hj, f2⟩)
            | (have q := of_decide_eq_false c180; have z := tk3 (show s < (σ 1).1 1 by omega) c80 c111; rw [if_neg (by omega)] at z; rw [z.1, z.2]; exact ⟨rfl, _, rfl, by show w.1 6 + 1 = _; rw [f6], f7, rfl, fun z => absurd z (by decide), fun j hj => by rw [oss_1, if_neg (by omega), oss_1, if_neg (by omega)]; exact foth j hj, f2⟩)
            | (exfalso; omega)
        · refine z_aloadR_n (pc := 114) h dX4_advance_114 rfl ?_
          refine z_bipush (pc := 115) h dX4_advance_115 (by decide) ?_
          refine z_bipush (pc := 117) h dX4_advance_117 (by decide) ?_
          refine z_vV (pc := 119) (c := 4) h (c_passAll (by rw [f6]; omega) hn (by omega) (by omega)) (by decide) (by first | assumption | rfl) rfl mv_X4_passAll ml_X4_71 rfl dX4_advance_119 rfl (Nat.le_of_ble_eq_true rfl) ?_
          rw [f6]
          have htb := tP_b (f := (σ 1).2 0) (n := (σ 1).1 1) (lo := 48) (hi := 57) hsb.2
          have hdg : ∀ j, s ≤ j → j < tP ((σ 1).2 0) ((σ 1).1 1) 48 57 s → 48 ≤ (σ 1).2 0 j ∧ (σ 1).2 0 j ≤ 57 := fun j a b => tP_c a b
          generalize hte : tP ((σ 1).2 0) ((σ 1).1 1) 48 57 s = e at htb hdg ⊢
          have k6 : (oss w 6 e).1 6 = e := rfl
          have k7 : (oss w 6 e).1 7 = s := f7
          have koth : ∀ j, j ≤ 5 → (oss w 6 e).1 j = r.1 j := fun j hj => by rw [oss_1, if_neg (by omega)]; exact foth j hj
          have k2 : (oss w 6 e).2 = r.2 := f2
          generalize oss w 6 e = v at k6 k7 koth k2 ⊢
          refine z_aloadR_n (pc := 122) h dX4_advance_122 rfl ?_
          refine z_aloadR_n (pc := 123) h dX4_advance_123 rfl ?_
          refine z_getIq (pc := 124) (c := 4) (j := 6) h (zo_s _ _ _) (by first | assumption | rfl) rfl rfl fl_X4_39 dX4_advance_124 (fun g124 => ?_)
          try simp only [osa_1, osa_2, oss_1, oss_2, osA_1, osA_2, zup_s, reduceIte, Nat.reduceEqDiff] at g124 ⊢
          refine z_aloadR_n (pc := 127) h dX4_advance_127 rfl ?_
          refine z_getIq (pc := 128) (c := 4) (j := 7) h (zo_s _ _ _) (by first | assumption | rfl) rfl rfl fl_X4_68 dX4_advance_128 (fun g128 => ?_)
          try simp only [osa_1, osa_2, oss_1, oss_2, osA_1, osA_2, zup_s, reduceIte, Nat.reduceEqDiff] at g128 ⊢
          refine z_isub (pc := 131) h dX4_advance_131 ?_
          refine z_iconst (pc := 132) h dX4_advance_132 ?_
          refine z_icmp_gt (pc := 133) (tgt := 140) h (by omega) (by omega) dX4_advance_133 (by decide) (fun c133 => ?_) (fun c133 => ?_)
          · refine z_iconst (pc := 140) h dX4_advance_140 ?_
            refine z_putIo (pc := 141) (c := 4) (j := 8) h (by first | assumption | rfl) rfl rfl fl_X4_45 rfl (tyX4_ok 8 (by decide)) dX4_advance_141 (by omega) ?_
            refine z_aloadR_n (pc := 144) h dX4_advance_144 rfl ?_
            refine z_aloadR_n (pc := 145) h dX4_advance_145 rfl ?_
            refine z_getIq (pc := 146) (c := 4) (j := 8) h (zo_s _ _ _) (by first | assumption | rfl) rfl rfl fl_X4_45 dX4_advance_146 (fun g146 => ?_)
            try simp only [osa_1, osa_2, oss_1, oss_2, osA_1, osA_2, zup_s, reduceIte, Nat.reduceEqDiff] at g146 ⊢
            refine z_iconst (pc := 149) h dX4_advance_149 ?_
            refine z_icmp_ne (pc := 150) (tgt := 160) h (by omega) (by omega) dX4_advance_150 (by decide) (fun c150 => ?_) (fun c150 => ?_)
            · refine z_iconst (pc := 160) h dX4_advance_160 ?_
              refine z_putIo (pc := 161) (c := 4) (j := 9) h (by first | assumption | rfl) rfl rfl fl_X4_79 rfl (tyX4_ok 9 (by decide)) dX4_advance_161 (by omega) ?_
              refine z_goto (pc := 164) (tgt := 201) h dX4_advance_164 (by decide) ?_
              refine z_ret (pc := 201) h rfl dX4_advance_201 ?_
              first
              | (have z := tk0 (f := (σ 1).2 0) (show ¬ s < (σ 1).1 1 by omega); rw [z.1, z.2]; exact ⟨rfl, _, rfl, f6, f7, rfl, fun z => absurd z (by decide), fun j hj => by rw [oss_1, if_neg (by omega)]; exact foth j hj, f2⟩)
              | (have z := tk1 (show s < (σ 1).1 1 by omega) c80; rw [z.1, z.2]; exact ⟨rfl, _, rfl, rfl, f7, rfl, fun z => absurd z (by decide), fun j hj => by rw [oss_1, if_neg (by omega), oss_1, if_neg (by omega)]; exact foth j hj, f2⟩)
              | (have z := tk2 (show s < (σ 1).1 1 by omega) c80 c111; rw [hte, if_pos (by omega)] at z; rw [z.1, z.2]; exact ⟨rfl, _, rfl, k6, k7, rfl, fun _ => by show tVk _ (v.1 7) (v.1 6 - v.1 7) = _; rw [k6, k7], fun j hj => by rw [oss_1, if_neg (by omega), oss_1, if_neg (by omega)]; exact koth j hj, k2⟩)
              | (have z := tk2 (show s < (σ 1).1 1 by omega) c80 c111; rw [hte, if_neg (by omega)] at z; rw [z.1, z.2]; exact ⟨rfl, _, rfl, k6, k7, rfl, fun z => absurd z (by decide), fun j hj => by rw [oss_1, if_neg (by omega), oss_1, if_neg (by omega)]; exact koth j hj, k2⟩)
              | (have q := of_decide_eq_true c180; have z := tk3 (show s < (σ 1).1 1 by omega) c80 c111; rw [if_pos (by omega)] at z; rw [z.1, z.2]; exact ⟨rfl, _, rfl, by show w.1 6 + 1 = _; rw [f6], f7, rfl, fun z => absurd z (by decide), fun j hj => by rw [oss_1, if_neg (by omega), oss_1, if_neg (by omega)]; exact foth j hj, f2⟩)
              | (have q := of_decide_eq_false c180; have z := tk3 (show s < (σ 1).1 1 by omega) c80 c111; rw [if_neg (by omega)] at z; rw [z.1, z.2]; exact ⟨rfl, _, rfl, by show w.1 6 + 1 = _; rw [f6], f7, rfl, fun z => absurd z (by decide), fun j hj => by rw [oss_1, if_neg (by omega), oss_1, if_neg (by omega)]; exact foth j hj, f2⟩)
              | (exfalso; omega)
            · refine z_aloadR_n (pc := 153) h dX4_advance_153 rfl ?_
              refine z_pV (pc := 154) (c := 4) h (c_numberRead (by show 0 ≤ v.1 7 ∧ v.1 7 ≤ v.1 6; omega) (by show v.1 6 - v.1 7 ≤ 3; omega) (by show v.1 6 ≤ 400; omega) (by show ∀ j, v.1 7 ≤ j → j < v.1 6 → _; rw [k6, k7]; exact hdg)) (by decide) (by first | assumption | rfl) rfl mv_X4_numberRead ml_X4_75 rfl dX4_advance_154 rfl (Nat.le_of_ble_eq_true rfl) ?_
              try simp only [oss_1, reduceIte, Nat.reduceEqDiff]
              have hvb := tVk_b (f := (σ 1).2 0) (s := v.1 7) (k := v.1 6 - v.1 7) (by omega) (by omega) (by rw [k6, k7]; exact fun j a b => hdg j a (by omega))
              refine z_goto (pc := 157) (tgt := 161) h dX4_advance_157 (by decide) ?_
              refine z_putIo (pc := 161) (c := 4) (j := 9) h (by first | assumption | rfl) rfl rfl fl_X4_79 rfl (tyX4_ok 9 (by decide)) dX4_advance_161 (by omega) ?_
              refine z_goto (pc := 164) (tgt := 201) h dX4_advance_164 (by decide) ?_
              refine z_ret (pc := 201) h rfl dX4_advance_201 ?_
              first
              | (have z := tk0 (f := (σ 1).2 0) (show ¬ s < (σ 1).1 1 by omega); rw [z.1, z.2]; exact ⟨rfl, _, rfl, f6, f7, rfl, fun z => absurd z (by decide), fun j hj => by rw [oss_1, if_neg (by omega)]; exact foth j hj, f2⟩)
              | (have z := tk1 (show s < (σ 1).1 1 by omega) c80; rw [z.1, z.2]; exact ⟨rfl, _, rfl, rfl, f7, rfl, fun z => absurd z (by decide), fun j hj => by rw [oss_1, if_neg (by omega), oss_1, if_neg (by omega)]; exact foth j hj, f2⟩)
              | (have z := tk2 (show s < (σ 1).1 1 by omega) c80 c111; rw [hte, if_pos (by omega)] at z; rw [z.1, z.2]; exact ⟨rfl, _, rfl, k6, k7, rfl, fun _ => by show tVk _ (v.1 7) (v.1 6 - v.1 7) = _; rw [k6, k7], fun j hj => by rw [oss_1, if_neg (by omega), oss_1, if_neg (by omega)]; exact koth j hj, k2⟩)
              | (have z := tk2 (show s < (σ 1).1 1 by omega) c80 c111; rw [hte, if_neg (by omega)] at z; rw [z.1, z.2]; exact ⟨rfl, _, rfl, k6, k7, rfl, fun z => absurd z (by decide), fun j hj => by rw [oss_1, if_neg (by omega), oss_1, if_neg (by omega)]; exact koth j hj, k2⟩)
              | (have q := of_decide_eq_true c180; have z := tk3 (show s < (σ 1).1 1 by omega) c80 c111; rw [if_pos (by omega)] at z; rw [z.1, z.2]; exact ⟨rfl, _, rfl, by show w.1 6 + 1 = _; rw [f6], f7, rfl, fun z => absurd z (by decide), fun j hj => by rw [oss_1, if_neg (by omega), oss_1, if_neg (by omega)]; exact foth j hj, f2⟩)
              | (have q := of_decide_eq_false c180; have z := tk3 (show s < (σ 1).1 1 by omega) c80 c111; rw [if_neg (by omega)] at z; rw [z.1, z.2]; exact ⟨rfl, _, rfl, by show w.1 6 + 1 = _; rw [f6], f7, rfl, fun z => absurd z (by decide), fun j hj => by rw [oss_1, if_neg (by omega), oss_1, if_neg (by omega)]; exact foth j hj, f2⟩)
              | (exfalso; omega)
          · refine z_iconst (pc := 136) h dX4_advance_136 ?_
            refine z_goto (pc := 137) (tgt := 141) h dX4_advance_137 (by decide) ?_
            refine z_putIo (pc := 141) (c := 4) (j := 8) h (by first | assumption | rfl) rfl rfl fl_X4_45 rfl (tyX4_ok 8 (by decide)) dX4_advance_141 (by omega) ?_
            refine z_aloadR_n (pc := 144) h dX4_advance_144 rfl ?_
            refine z_aloadR_n (pc := 145) h dX4_advance_145 rfl ?_
            refine z_getIq (pc := 146) (c := 4) (j := 8) h (zo_s _ _ _) (by first | assumption | rfl) rfl rfl fl_X4_45 dX4_advance_146 (fun g146 => ?_)
            try simp only [osa_1, osa_2, oss_1, oss_2, osA_1, osA_2, zup_s, reduceIte, Nat.reduceEqDiff] at g146 ⊢
            refine z_iconst (pc := 149) h dX4_advance_149 ?_
            refine z_icmp_ne (pc := 150) (tgt := 160) h (by omega) (by omega) dX4_advance_150 (by decide) (fun c150 => ?_) (fun c150 => ?_)
            · refine z_iconst (pc := 160) h dX4_advance_160 ?_
              refine z_putIo (pc := 161) (c := 4) (j := 9) h (by first | assumption | rfl) rfl rfl fl_X4_79 rfl (tyX4_ok 9 (by decide)) dX4_advance_161 (by omega) ?_
              refine z_goto (pc := 164) (tgt := 201) h dX4_advance_164 (by decide) ?_
              refine z_ret (pc := 201) h rfl dX4_advance_201 ?_
              first
              | (have z := tk0 (f := (σ 1).2 0) (show ¬ s < (σ 1).1 1 by omega); rw [z.1, z.2]; exact ⟨rfl, _, rfl, f6, f7, rfl, fun z => absurd z (by decide), fun j hj => by rw [oss_1, if_neg (by omega)]; exact foth j hj, f2⟩)
              | (have z := tk1 (show s < (σ 1).1 1 by omega) c80; rw [z.1, z.2]; exact ⟨rfl, _, rfl, rfl, f7, rfl, fun z => absurd z (by decide), fun j hj => by rw [oss_1, if_neg (by omega), oss_1, if_neg (by omega)]; exact foth j hj, f2⟩)
              | (have z := tk2 (show s < (σ 1).1 1 by omega) c80 c111; rw [hte, if_pos (by omega)] at z; rw [z.1, z.2]; exact ⟨rfl, _, rfl, k6, k7, rfl, fun _ => by show tVk _ (v.1 7) (v.1 6 - v.1 7) = _; rw [k6, k7], fun j hj => by rw [oss_1, if_neg (by omega), oss_1, if_neg (by omega)]; exact koth j hj, k2⟩)
              | (have z := tk2 (show s < (σ 1).1 1 by omega) c80 c111; rw [hte, if_neg (by omega)] at z; rw [z.1, z.2]; exact ⟨rfl, _, rfl, k6, k7, rfl, fun z => absurd z (by decide), fun j hj => by rw [oss_1, if_neg (by omega), oss_1, if_neg (by omega)]; exact koth j hj, k2⟩)
              | (have q := of_decide_eq_true c180; have z := tk3 (show s < (σ 1).1 1 by omega) c80 c111; rw [if_pos (by omega)] at z; rw [z.1, z.2]; exact ⟨rfl, _, rfl, by show w.1 6 + 1 = _; rw [f6], f7, rfl, fun z => absurd z (by decide), fun j hj => by rw [oss_1, if_neg (by omega), oss_1, if_neg (by omega)]; exact foth j hj, f2⟩)
              | (have q := of_decide_eq_false c180; have z := tk3 (show s < (σ 1).1 1 by omega) c80 c111; rw [if_neg (by omega)] at z; rw [z.1, z.2]; exact ⟨rfl, _, rfl, by show w.1 6 + 1 = _; rw [f6], f7, rfl, fun z => absurd z (by decide), fun j hj => by rw [oss_1, if_neg (by omega), oss_1, if_neg (by omega)]; exact foth j hj, f2⟩)
              | (exfalso; omega)
            · refine z_aloadR_n (pc := 153) h dX4_advance_153 rfl ?_
              refine z_pV (pc := 154) (c := 4) h (c_numberRead (by show 0 ≤ v.1 7 ∧ v.1 7 ≤ v.1 6; omega) (by show v.1 6 - v.1 7 ≤ 3; omega) (by show v.1 6 ≤ 400; omega) (by show ∀ j, v.1 7 ≤ j → j < v.1 6 → _; rw [k6, k7]; exact hdg)) (by decide) (by first | assumption | rfl) rfl mv_X4_numberRead ml_X4_75 rfl dX4_advance_154 rfl (Nat.le_of_ble_eq_true rfl) ?_
              try simp only [oss_1, reduceIte, Nat.reduceEqDiff]
              have hvb := tVk_b (f := (σ 1).2 0) (s := v.1 7) (k := v.1 6 - v.1 7) (by omega) (by omega) (by rw [k6, k7]; exact fun j a b => hdg j a (by omega))
              refine z_goto (pc := 157) (tgt := 161) h dX4_advance_157 (by decide) ?_
              refine z_putIo (pc := 161) (c := 4) (j := 9) h (by first | assumption | rfl) rfl rfl fl_X4_79 rfl (tyX4_ok 9 (by decide)) dX4_advance_161 (by omega) ?_
              refine z_goto (pc := 164) (tgt := 201) h dX4_advance_164 (by decide) ?_
              refine z_ret (pc := 201) h rfl dX4_advance_201 ?_
              first
              | (have z := tk0 (f := (σ 1).2 0) (show ¬ s < (σ 1).1 1 by omega); rw [z.1, z.2]; exact ⟨rfl, _, rfl, f6, f7, rfl, fun z => absurd z (by decide), fun j hj => by rw [oss_1, if_neg (by omega)]; exact foth j hj, f2⟩)
              | (have z := tk1 (show s < (σ 1).1 1 by omega) c80; rw [z.1, z.2]; exact ⟨rfl, _, rfl, rfl, f7, rfl, fun z => absurd z (by decide), fun j hj => by rw [oss_1, if_neg (by omega), oss_1, if_neg (by omega)]; exact foth j hj, f2⟩)
              | (have z := tk2 (show s < (σ 1).1 1 by omega) c80 c111; rw [hte, if_pos (by omega)] at z; rw [z.1, z.2]; exact ⟨rfl, _, rfl, k6, k7, rfl, fun _ => by show tVk _ (v.1 7) (v.1 6 - v.1 7) = _; rw [k6, k7], fun j hj => by rw [oss_1, if_neg (by omega), oss_1, if_neg (by omega)]; exact koth j hj, k2⟩)
              | (have z := tk2 (show s < (σ 1).1 1 by omega) c80 c111; rw [hte, if_neg (by omega)] at z; rw [z.1, z.2]; exact ⟨rfl, _, rfl, k6, k7, rfl, fun z => absurd z (by decide), fun j hj => by rw [oss_1, if_neg (by omega), oss_1, if_neg (by omega)]; exact koth j hj, k2⟩)
              | (have q := of_decide_eq_true c180; have z := tk3 (show s < (σ 1).1 1 by omega) c80 c111; rw [if_pos (by omega)] at z; rw [z.1, z.2]; exact ⟨rfl, _, rfl, by show w.1 6 + 1 = _; rw [f6], f7, rfl, fun z => absurd z (by decide), fun j hj => by rw [oss_1, if_neg (by omega), oss_1, if_neg (by omega)]; exact foth j hj, f2⟩)
              | (have q := of_decide_eq_false c180; have z := tk3 (show s < (σ 1).1 1 by omega) c80 c111; rw [if_neg (by omega)] at z; rw [z.1, z.2]; exact ⟨rfl, _, rfl, by show w.1 6 + 1 = _; rw [f6], f7, rfl, fun z => absurd z (by decide), fun j hj => by rw [oss_1, if_neg (by omega), oss_1, if_neg (by omega)]; exact foth j hj, f2⟩)
              | (exfalso; omega)
      · refine z_aloadR_n (pc := 83) h dX4_advance_83 rfl ?_
        refine z_iconst (pc := 84) h dX4_advance_84 ?_
        refine z_putIo (pc := 85) (c := 4) (j := 8) h (by first | assumption | rfl) rfl rfl fl_X4_45 rfl (tyX4_ok 8 (by decide)) dX4_advance_85 (by omega) ?_
        have g6 : (oss w 8 1).1 6 = s := f6
        refine z_aloadR_n (pc := 88) h dX4_advance_88 rfl ?_
        refine z_bipush (pc := 89) h dX4_advance_89 (by decide) ?_
        refine z_bipush (pc := 91) h dX4_advance_91 (by decide) ?_
        refine z_vV (pc := 93) (c := 4) h (c_passAll (by rw [g6]; omega) hn (by omega) (by omega)) (by decide) (by first | assumption | rfl) rfl mv_X4_passAll ml_X4_71 rfl dX4_advance_93 rfl (Nat.le_of_ble_eq_true rfl) ?_
        rw [g6]
        refine z_goto (pc := 96) (tgt := 201) h dX4_advance_96 (by decide) ?_
        refine z_ret (pc := 201) h rfl dX4_advance_201 ?_
        first
        | (have z := tk0 (f := (σ 1).2 0) (show ¬ s < (σ 1).1 1 by omega); rw [z.1, z.2]; exact ⟨rfl, _, rfl, f6, f7, rfl, fun z => absurd z (by decide), fun j hj => by rw [oss_1, if_neg (by omega)]; exact foth j hj, f2⟩)
        | (have z := tk1 (show s < (σ 1).1 1 by omega) c80; rw [z.1, z.2]; exact ⟨rfl, _, rfl, rfl, f7, rfl, fun z => absurd z (by decide), fun j hj => by rw [oss_1, if_neg (by omega), oss_1, if_neg (by omega)]; exact foth j hj, f2⟩)
        | (have z := tk2 (show s < (σ 1).1 1 by omega) c80 c111; rw [hte, if_pos (by omega)] at z; rw [z.1, z.2]; exact ⟨rfl, _, rfl, k6, k7, rfl, fun _ => by show tVk _ (v.1 7) (v.1 6 - v.1 7) = _; rw [k6, k7], fun j hj => by rw [oss_1, if_neg (by omega), oss_1, if_neg (by omega)]; exact koth j hj, k2⟩)
        | (have z := tk2 (show s < (σ 1).1 1 by omega) c80 c111; rw [hte, if_neg (by omega)] at z; rw [z.1, z.2]; exact ⟨rfl, _, rfl, k6, k7, rfl, fun z => absurd z (by decide), fun j hj => by rw [oss_1, if_neg (by omega), oss_1, if_neg (by omega)]; exact koth j hj, k2⟩)
        | (have q := of_decide_eq_true c180; have z := tk3 (show s < (σ 1).1 1 by omega) c80 c111; rw [if_pos (by omega)] at z; rw [z.1, z.2]; exact ⟨rfl, _, rfl, by show w.1 6 + 1 = _; rw [f6], f7, rfl, fun z => absurd z (by decide), fun j hj => by rw [oss_1, if_neg (by omega), oss_1, if_neg (by omega)]; exact foth j hj, f2⟩)
        | (have q := of_decide_eq_false c180; have z := tk3 (show s < (σ 1).1 1 by omega) c80 c111; rw [if_neg (by omega)] at z; rw [z.1, z.2]; exact ⟨rfl, _, rfl, by show w.1 6 + 1 = _; rw [f6], f7, rfl, fun z => absurd z (by decide), fun j hj => by rw [oss_1, if_neg (by omega), oss_1, if_neg (by omega)]; exact foth j hj, f2⟩)
        | (exfalso; omega)
    · refine z_aloadR_n (pc := 60) h dX4_advance_60 rfl ?_
      refine z_iconst (pc := 61) h dX4_advance_61 ?_
      refine z_putIo (pc := 62) (c := 4) (j := 8) h (by first | assumption | rfl) rfl rfl fl_X4_45 rfl (tyX4_ok 8 (by decide)) dX4_advance_62 (by omega) ?_
      refine z_goto (pc := 65) (tgt := 201) h dX4_advance_65 (by decide) ?_
      refine z_ret (pc := 201) h rfl dX4_advance_201 ?_
      first
      | (have z := tk0 (f := (σ 1).2 0) (show ¬ s < (σ 1).1 1 by omega); rw [z.1, z.2]; exact ⟨rfl, _, rfl, f6, f7, rfl, fun z => absurd z (by decide), fun j hj => by rw [oss_1, if_neg (by omega)]; exact foth j hj, f2⟩)
      | (have z := tk1 (show s < (σ 1).1 1 by omega) c80; rw [z.1, z.2]; exact ⟨rfl, _, rfl, rfl, f7, rfl, fun z => absurd z (by decide), fun j hj => by rw [oss_1, if_neg (by omega), oss_1, if_neg (by omega)]; exact foth j hj, f2⟩)
      | (have z := tk2 (show s < (σ 1).1 1 by omega) c80 c111; rw [hte, if_pos (by omega)] at z; rw [z.1, z.2]; exact ⟨rfl, _, rfl, k6, k7, rfl, fun _ => by show tVk _ (v.1 7) (v.1 6 - v.1 7) = _; rw [k6, k7], fun j hj => by rw [oss_1, if_neg (by omega), oss_1, if_neg (by omega)]; exact koth j hj, k2⟩)
      | (have z := tk2 (show s < (σ 1).1 1 by omega) c80 c111; rw [hte, if_neg (by omega)] at z; rw [z.1, z.2]; exact ⟨rfl, _, rfl, k6, k7, rfl, fun z => absurd z (by decide), fun j hj => by rw [oss_1, if_neg (by omega), oss_1, if_neg (by omega)]; exact koth j hj, k2⟩)
      | (have q := of_decide_eq_true c180; have z := tk3 (show s < (σ 1).1 1 by omega) c80 c111; rw [if_pos (by omega)] at z; rw [z.1, z.2]; exact ⟨rfl, _, rfl, by show w.1 6 + 1 = _; rw [f6], f7, rfl, fun z => absurd z (by decide), fun j hj => by rw [oss_1, if_neg (by omega), oss_1, if_neg (by omega)]; exact foth j hj, f2⟩)
      | (have q := of_decide_eq_false c180; have z := tk3 (show s < (σ 1).1 1 by omega) c80 c111; rw [if_neg (by omega)] at z; rw [z.1, z.2]; exact ⟨rfl, _, rfl, by show w.1 6 + 1 = _; rw [f6], f7, rfl, fun z => absurd z (by decide), fun j hj => by rw [oss_1, if_neg (by omega), oss_1, if_neg (by omega)]; exact foth j hj, f2⟩)
      | (exfalso; omega)
  have L : ∀ (n : Nat) (q : Int), r.1 6 ≤ q → q ≤ (σ 1).1 1 → (σ 1).1 1 - q < n → (∀ j, r.1 6 ≤ j → j < q → tB ((σ 1).2 0) ((σ 1).1 1) j = true) → zW x (fun rr τ' => rr = none ∧ ∃ r', τ' = zo σ 2 r' ∧ ADV ((σ 1).2 0) ((σ 1).1 1) r r') 0 [some (zR 2)] [] (zo σ 2 (oss r 6 q)) := by
    intro n
    induction n with
    | zero => intro q h1 h2 h3; omega
    | succ n ih =>
      intro q h1 h2 h3 ha
      have e6 : (oss r 6 q).1 6 = q := rfl
      have hdone : tB ((σ 1).2 0) ((σ 1).1 1) q = false → q = tS ((σ 1).2 0) ((σ 1).1 1) (r.1 6) := fun z => (zru_eq 401 _ q h1 (by omega) ha z).symm
      have hz : ¬ q < (σ 1).1 1 → tB ((σ 1).2 0) ((σ 1).1 1) q = false := fun z => decide_eq_false (fun w => z w.1)
      refine z_aloadR_n (pc := 0) h dX4_advance_0 rfl ?_
      refine z_getIq (pc := 1) (c := 4) (j := 6) h (zo_s _ _ _) (by first | assumption | rfl) rfl rfl fl_X4_39 dX4_advance_1 (fun g1 => ?_)
      refine z_aloadR_n (pc := 4) h dX4_advance_4 rfl ?_
      refine z_getR (pc := 5) (c := 4) (j := 0) (o2 := 1) h rfl (by first | assumption | rfl) rfl rfl fl_X4_29 dX4_advance_5 ?_
      refine z_getIq (pc := 8) (c := 6) (j := 1) h (zo_n (show (1 : Nat) ≠ 2 by decide)) (by first | assumption | rfl) rfl rfl fl_X4_51 dX4_advance_8 (fun g8 => ?_)
      refine z_icmp_ge (pc := 11) (tgt := 38) h (by omega) (by omega) dX4_advance_11 (by decide) (fun c11 => ?_) (fun c11 => ?_)
      · first
        | exact B q (hdone c22)
        | exact B q (hdone (hz (by omega)))
      · refine z_aloadR_n (pc := 14) h dX4_advance_14 rfl ?_
        refine z_aloadR_n (pc := 15) h dX4_advance_15 rfl ?_
        refine z_getIq (pc := 16) (c := 4) (j := 6) h (zo_s _ _ _) (by first | assumption | rfl) rfl rfl fl_X4_39 dX4_advance_16 (fun g16 => ?_)
        rw [e6]
        refine z_pV (pc := 19) (c := 4) h (c_isBlank (by omega) (by omega) hn) (by decide) (by first | assumption | rfl) rfl mv_X4_isBlank ml_X4_64 rfl dX4_advance_19 rfl (Nat.le_of_ble_eq_true rfl) ?_
        refine z_ifeqB (pc := 22) (tgt := 38) h dX4_advance_22 (by decide) (fun c22 => ?_) (fun c22 => ?_)
        · first
          | exact B q (hdone c22)
          | exact B q (hdone (hz (by omega)))
        · refine z_aloadR_n (pc := 25) h dX4_advance_25 rfl ?_
          refine z_dupR (pc := 26) h dX4_advance_26 ?_
          refine z_getIq (pc := 27) (c := 4) (j := 6) h (zo_s _ _ _) (by first | assumption | rfl) rfl rfl fl_X4_39 dX4_advance_27 (fun g27 => ?_)
          refine z_iconst (pc := 30) h dX4_advance_30 ?_
          refine z_iadd (pc := 31) h dX4_advance_31 ?_
          refine z_putIo (pc := 32) (c := 4) (j := 6) h (by first | assumption | rfl) rfl rfl fl_X4_39 rfl (tyX4_ok 6 (by decide)) dX4_advance_32 (by omega) ?_
          refine z_goto (pc := 35) (tgt := 0) h dX4_advance_35 (by decide) ?_
          rw [e6, oss_oss]
          refine ih (q + 1) (by omega) (by omega) (by omega) (fun j a b => ?_)
          by_cases e : j = q
          · rw [e]; exact c22
          · exact ha j a (by omega)
  have := L ((σ 1).1 1 - r.1 6 + 1).toNat (r.1 6) (Int.le_refl _) hp.2 (by omega) (fun j a b => by omega)
  rw [oss_self] at this
  exact this
