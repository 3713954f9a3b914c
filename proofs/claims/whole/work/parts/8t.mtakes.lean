/-! The model: isBad, fails, takes. -/
def bdO (m : zOb) (b : Int × Int) : zOb := oss (oss m 14 b.1) 13 b.2
theorem bdO_self {m : zOb} : bdO m (m.1 14, m.1 13) = m := by
  unfold bdO
  show oss (oss m 14 (m.1 14)) 13 (m.1 13) = m
  rw [oss_self, oss_self]
theorem m8_isBad {σ : zS} {m : zOb} {w p : Int} (hw : 2 ≤ w ∧ w ≤ 4) (hp : 0 ≤ p ∧ p ≤ 400) : zCv M_X8_isBad 1 [zR 31, zI w, zI p] (zo σ 31 m) (zo σ 31 (bdO m (nt (m.1 14, m.1 13) w p))) := by
  refine zC_of (M := M_X8_isBad) (ls := [some (zR 31), some (zI w), some (zI p)]) (n := 0) (by decide) (fun ad => Nat.le_of_ble_eq_true rfl) rfl (fun x h => ?_)
  have e : nt (m.1 14, m.1 13) w p = (w, p) → zW x (fun rr τ' => rr = none ∧ τ' = zo σ 31 (bdO m (nt (m.1 14, m.1 13) w p))) 31 [some (zR 31), some (zI w), some (zI p)] [] (zo σ 31 m) := by
    intro hc
    rw [hc]
    refine z_aloadR_n (pc := 31) h dX8_isBad_31 rfl ?_
    refine z_iload_n (pc := 32) h dX8_isBad_32 rfl ?_
    refine z_putIo (pc := 33) (c := 8) (j := 14) h (by first | assumption | rfl) rfl rfl fl_X8_124 rfl (tyX8_ok 14 (by decide)) dX8_isBad_33 (by omega) ?_
    refine z_aloadR_n (pc := 36) h dX8_isBad_36 rfl ?_
    refine z_iload_n (pc := 37) h dX8_isBad_37 rfl ?_
    refine z_putIo (pc := 38) (c := 8) (j := 13) h (by first | assumption | rfl) rfl rfl fl_X8_127 rfl (tyX8_ok 13 (by decide)) dX8_isBad_38 (by omega) ?_
    refine z_ret (pc := 41) h rfl dX8_isBad_41 ?_
    exact ⟨rfl, rfl⟩
  refine z_aloadR_n (pc := 0) h dX8_isBad_0 rfl ?_
  refine z_getIq (pc := 1) (c := 8) (j := 14) h (zo_s _ _ _) (by first | assumption | rfl) rfl rfl fl_X8_124 dX8_isBad_1 (fun g1 => ?_)
  refine z_if_eq (pc := 4) (tgt := 31) h (by omega) dX8_isBad_4 (by decide) (fun c4 => ?_) (fun c4 => ?_)
  · exact e (if_pos (by show m.1 14 = 0 ∨ p < m.1 13 ∨ (p = m.1 13 ∧ w < m.1 14); omega))
  · refine z_iload_n (pc := 7) h dX8_isBad_7 rfl ?_
    refine z_aloadR_n (pc := 8) h dX8_isBad_8 rfl ?_
    refine z_getIq (pc := 9) (c := 8) (j := 13) h (zo_s _ _ _) (by first | assumption | rfl) rfl rfl fl_X8_127 dX8_isBad_9 (fun g9 => ?_)
    refine z_icmp_lt (pc := 12) (tgt := 31) h (by omega) (by omega) dX8_isBad_12 (by decide) (fun c12 => ?_) (fun c12 => ?_)
    · exact e (if_pos (by show m.1 14 = 0 ∨ p < m.1 13 ∨ (p = m.1 13 ∧ w < m.1 14); omega))
    · refine z_iload_n (pc := 15) h dX8_isBad_15 rfl ?_
      refine z_aloadR_n (pc := 16) h dX8_isBad_16 rfl ?_
      refine z_getIq (pc := 17) (c := 8) (j := 13) h (zo_s _ _ _) (by first | assumption | rfl) rfl rfl fl_X8_127 dX8_isBad_17 (fun g17 => ?_)
      refine z_icmp_ne (pc := 20) (tgt := 41) h (by omega) (by omega) dX8_isBad_20 (by decide) (fun c20 => ?_) (fun c20 => ?_)
      · refine z_ret (pc := 41) h rfl dX8_isBad_41 ?_
        rw [show nt (m.1 14, m.1 13) w p = (m.1 14, m.1 13) from if_neg (by show ¬ (m.1 14 = 0 ∨ p < m.1 13 ∨ (p = m.1 13 ∧ w < m.1 14)); omega), bdO_self]
        exact ⟨rfl, rfl⟩
      · refine z_iload_n (pc := 23) h dX8_isBad_23 rfl ?_
        refine z_aloadR_n (pc := 24) h dX8_isBad_24 rfl ?_
        refine z_getIq (pc := 25) (c := 8) (j := 14) h (zo_s _ _ _) (by first | assumption | rfl) rfl rfl fl_X8_124 dX8_isBad_25 (fun g25 => ?_)
        refine z_icmp_ge (pc := 28) (tgt := 41) h (by omega) (by omega) dX8_isBad_28 (by decide) (fun c28 => ?_) (fun c28 => ?_)
        · refine z_ret (pc := 41) h rfl dX8_isBad_41 ?_
          rw [show nt (m.1 14, m.1 13) w p = (m.1 14, m.1 13) from if_neg (by show ¬ (m.1 14 = 0 ∨ p < m.1 13 ∨ (p = m.1 13 ∧ w < m.1 14)); omega), bdO_self]
          exact ⟨rfl, rfl⟩
        · exact e (if_pos (by show m.1 14 = 0 ∨ p < m.1 13 ∨ (p = m.1 13 ∧ w < m.1 14); omega))
theorem m8_fails {σ : zS} {m : zOb} {p : Int} (h8 : m.1 8 = p) (hp : 0 ≤ p ∧ p ≤ 400) : zCr M_X8_fails 1 [zR 31] (zo σ 31 m) (zB false) (zo σ 31 (oss m 12 p)) := by
  subst h8
  refine zC_of (M := M_X8_fails) (ls := [some (zR 31)]) (n := 0) (by decide) (fun ad => Nat.le_of_ble_eq_true rfl) rfl (fun x h => ?_)
  refine z_aloadR_n (pc := 0) h dX8_fails_0 rfl ?_
  refine z_aloadR_n (pc := 1) h dX8_fails_1 rfl ?_
  refine z_getIq (pc := 2) (c := 8) (j := 8) h (zo_s _ _ _) (by first | assumption | rfl) rfl rfl fl_X8_108 dX8_fails_2 (fun g2 => ?_)
  refine z_putIo (pc := 5) (c := 8) (j := 12) h (by first | assumption | rfl) rfl rfl fl_X8_121 rfl (tyX8_ok 12 (by decide)) dX8_fails_5 (by omega) ?_
  refine z_iconst (pc := 8) h dX8_fails_8 ?_
  refine z_zret (pc := 9) h rfl (by omega) dX8_fails_9 ?_
  exact ⟨rfl, rfl⟩
/-- what takes leaves alone -/
def KS (m y : zOb) : Prop := (∀ j, (j ≤ 5 ∨ j = 7 ∨ j = 15 ∨ j = 16 ∨ 18 ≤ j) → y.1 j = m.1 j) ∧ y.2 = m.2
theorem KS.rf (m : zOb) : KS m m := ⟨fun _ _ => rfl, rfl⟩
theorem KS.tr {m y z : zOb} (h : KS m y) (g : KS y z) : KS m z := ⟨fun j hj => (g.1 j hj).trans (h.1 j hj), g.2.trans h.2⟩
theorem KT.ks {m y : zOb} (h : KT m y) : KS m y := ⟨fun j hj => h.1 j (by omega) (by omega) (by omega) (by omega) (by omega), h.2⟩
theorem TOK_bd {f : Int → Int} {n q : Int} {m : zOb} {b : Int × Int} (h : TOK f n q m) : TOK f n q (bdO m b) := h
theorem KS_bd {m y : zOb} {b : Int × Int} (h : KS m y) : KS m (bdO y b) := ⟨fun j hj => by
  show (if j = 13 then b.2 else if j = 14 then b.1 else y.1 j) = _
  rw [if_neg (by omega), if_neg (by omega)]
  exact h.1 j hj, h.2⟩
/-- one number is taken -/
def TK1 (f : Int → Int) (n q lo hi : Int) (b : Int × Int) (m m' : zOb) : Prop := KS m m' ∧ (if tK f n q = 2 then m'.1 17 = tV f n q ∧ (m'.1 14, m'.1 13) = chk b (tV f n q) lo hi (tS f n q) ∧ TOK f n (tE f n q) m' else m'.1 12 = tS f n q)
theorem tk8_3 {k : Int} (h : 0 ≤ k ∧ k ≤ 4) : tk8 k = 3 ↔ k = 2 := by
  unfold tk8
  repeat' split
  all_goals omega
theorem tk8_b (k : Int) : 0 ≤ tk8 k ∧ tk8 k ≤ 4 := by
  unfold tk8
  repeat' split
  all_goals omega
theorem m8_takes {σ : zS} {m : zOb} {f : Int → Int} {n q lo hi : Int} {b : Int × Int} (h2 : m.2 2 = f) (h7 : m.1 7 = n) (h4 : n ≤ 400) (hT : TOK f n q m) (hb : (m.1 14, m.1 13) = b) (hlo : 0 ≤ lo ∧ lo ≤ 999) (hhi : 0 ≤ hi ∧ hi ≤ 999) : zC M_X8_takes 4 [zR 31, zI lo, zI hi] (zo σ 31 m) (fun rr τ' => rr = some (zB (decide (tK f n q = 2))) ∧ ∃ m', τ' = zo σ 31 m' ∧ TK1 f n q lo hi b m m') := by
  have hq := hT.1
  have hs := tS_b (f := f) hq.2
  have he := tE_b (f := f) hq.2
  have hk := tK_b f n q
  have e9 := hT.2.2.2.1
  have e8 := hT.2.2.1
  have hk3 := tk8_3 hk
  have hkb := tk8_b (tK f n q)
  refine zC_of (M := M_X8_takes) (ls := [some (zR 31), some (zI lo), some (zI hi)]) (n := 0) (by decide) (fun ad => Nat.le_of_ble_eq_true rfl) rfl (fun x h => ?_)
  refine z_aloadR_n (pc := 0) h dX8_takes_0 rfl ?_
  refine z_getIq (pc := 1) (c := 8) (j := 9) h (zo_s _ _ _) (by first | assumption | rfl) rfl rfl fl_X8_115 dX8_takes_1 (fun g1 => ?_)
  refine z_iconst (pc := 4) h dX8_takes_4 ?_
  refine z_icmp_eq (pc := 5) (tgt := 13) h (by omega) (by omega) dX8_takes_5 (by decide) (fun c5 => ?_) (fun c5 => ?_)
  · have hk2 : tK f n q = 2 := by omega
    have e10 := hT.2.2.2.2.1 hk2
    have hvb := tV_b hk2
    refine z_aloadR_n (pc := 13) h dX8_takes_13 rfl ?_
    refine z_aloadR_n (pc := 14) h dX8_takes_14 rfl ?_
    refine z_getIq (pc := 15) (c := 8) (j := 10) h (zo_s _ _ _) (by first | assumption | rfl) rfl rfl fl_X8_118 dX8_takes_15 (fun g15 => ?_)
    refine z_putIo (pc := 18) (c := 8) (j := 17) h (by first | assumption | rfl) rfl rfl fl_X8_134 rfl (tyX8_ok 17 (by decide)) dX8_takes_18 (by omega) ?_
    rw [e10]
    have f10 : (oss m 17 (tV f n q)).1 10 = tV f n q := e10
    have f8 : (oss m 17 (tV f n q)).1 8 = tS f n q := e8
    have f6 : (oss m 17 (tV f n q)).1 6 = tE f n q := hT.2.1
    have f17 : (oss m 17 (tV f n q)).1 17 = tV f n q := rfl
    have fb : ((oss m 17 (tV f n q)).1 14, (oss m 17 (tV f n q)).1 13) = b := hb
    have fk : KS m (oss m 17 (tV f n q)) := ⟨fun j hj => by rw [oss_1, if_neg (by omega)], rfl⟩
    generalize oss m 17 (tV f n q) = y at f10 f8 f6 f17 fb fk ⊢
    refine z_aloadR_n (pc := 21) h dX8_takes_21 rfl ?_
    refine z_getIq (pc := 22) (c := 8) (j := 10) h (zo_s _ _ _) (by first | assumption | rfl) rfl rfl fl_X8_118 dX8_takes_22 (fun g22 => ?_)
    try simp only [osa_1, osa_2, oss_1, oss_2, osA_1, osA_2, zup_s, reduceIte, Nat.reduceEqDiff] at g22 ⊢
    refine z_iload_n (pc := 25) h dX8_takes_25 rfl ?_
    refine z_iload_n (pc := 26) h dX8_takes_26 rfl ?_
    rw [f10]
    refine z_pS (pc := 27) h (m8_in (by omega) (by omega) (by omega)) (by decide) ms_X8_in ml_X8_88 rfl dX8_takes_27 rfl (Nat.le_of_ble_eq_true rfl) ?_
    refine z_ifneB (pc := 30) (tgt := 42) h dX8_takes_30 (by decide) (fun c30 => ?_) (fun c30 => ?_)
    · generalize hy2 : bdO y (chk b (tV f n q) lo hi (tS f n q)) = y2
      have g17 : y2.1 17 = tV f n q := by rw [← hy2]; exact f17
      have g6 : y2.1 6 = tE f n q := by rw [← hy2]; exact f6
      have gb : (y2.1 14, y2.1 13) = chk b (tV f n q) lo hi (tS f n q) := by rw [← hy2]; rfl
      have gk : KS m y2 := by rw [← hy2]; exact KS_bd fk
      have hst : zo σ 31 y2 = zo σ 31 (bdO y (chk b (tV f n q) lo hi (tS f n q))) := by rw [hy2]
      unfold chk at hst
      first
      | (have z := of_decide_eq_true c30; rw [if_neg (by omega), ← fb, bdO_self] at hst; rw [← hst])
      | (have z := of_decide_eq_false c30; rw [if_pos (by omega), ← fb] at hst; rw [← hst])
      clear hy2 hst
      refine z_aloadR_n (pc := 42) h dX8_takes_42 rfl ?_
      refine z_callV (pc := 43) (c := 8) h (m8_token (f := f) (n := n) (by rw [gk.2]; exact h2) (by rw [gk.1 7 (by omega)]; exact h7) g6 (by omega) (by omega) h4) (by decide) (by first | assumption | rfl) rfl mv_X8_token ml_X8_141 rfl dX8_takes_43 rfl (Nat.le_of_ble_eq_true rfl) (fun r43 τ43 q43 => ?_)
      obtain ⟨rfl, m', rfl, hKT, hTO⟩ := q43
      refine z_iconst (pc := 46) h dX8_takes_46 ?_
      refine z_zret (pc := 47) h rfl (by omega) dX8_takes_47 ?_
      refine ⟨by rw [decide_eq_true hk2]; rfl, m', rfl, gk.tr hKT.ks, ?_⟩
      rw [if_pos hk2, hKT.1 17 (by decide) (by decide) (by decide) (by decide) (by decide), hKT.1 14 (by decide) (by decide) (by decide) (by decide) (by decide), hKT.1 13 (by decide) (by decide) (by decide) (by decide) (by decide)]
      exact ⟨g17, gb, hTO⟩
    · refine z_aloadR_n (pc := 33) h dX8_takes_33 rfl ?_
      refine z_iconst (pc := 34) h dX8_takes_34 ?_
      refine z_aloadR_n (pc := 35) h dX8_takes_35 rfl ?_
      refine z_getIq (pc := 36) (c := 8) (j := 8) h (zo_s _ _ _) (by first | assumption | rfl) rfl rfl fl_X8_108 dX8_takes_36 (fun g36 => ?_)
      try simp only [osa_1, osa_2, oss_1, oss_2, osA_1, osA_2, zup_s, reduceIte, Nat.reduceEqDiff] at g36 ⊢
      rw [f8]
      refine z_vV (pc := 39) (c := 8) h (m8_isBad (by omega) (by omega)) (by decide) (by first | assumption | rfl) rfl mv_X8_isBad ml_X8_137 rfl dX8_takes_39 rfl (Nat.le_of_ble_eq_true rfl) ?_
      generalize hy2 : bdO y (chk b (tV f n q) lo hi (tS f n q)) = y2
      have g17 : y2.1 17 = tV f n q := by rw [← hy2]; exact f17
      have g6 : y2.1 6 = tE f n q := by rw [← hy2]; exact f6
      have gb : (y2.1 14, y2.1 13) = chk b (tV f n q) lo hi (tS f n q) := by rw [← hy2]; rfl
      have gk : KS m y2 := by rw [← hy2]; exact KS_bd fk
      have hst : zo σ 31 y2 = zo σ 31 (bdO y (chk b (tV f n q) lo hi (tS f n q))) := by rw [hy2]
      unfold chk at hst
      first
      | (have z := of_decide_eq_true c30; rw [if_neg (by omega), ← fb, bdO_self] at hst; rw [← hst])
      | (have z := of_decide_eq_false c30; rw [if_pos (by omega), ← fb] at hst; rw [← hst])
      clear hy2 hst
      refine z_aloadR_n (pc := 42) h dX8_takes_42 rfl ?_
      refine z_callV (pc := 43) (c := 8) h (m8_token (f := f) (n := n) (by rw [gk.2]; exact h2) (by rw [gk.1 7 (by omega)]; exact h7) g6 (by omega) (by omega) h4) (by decide) (by first | assumption | rfl) rfl mv_X8_token ml_X8_141 rfl dX8_takes_43 rfl (Nat.le_of_ble_eq_true rfl) (fun r43 τ43 q43 => ?_)
      obtain ⟨rfl, m', rfl, hKT, hTO⟩ := q43
      refine z_iconst (pc := 46) h dX8_takes_46 ?_
      refine z_zret (pc := 47) h rfl (by omega) dX8_takes_47 ?_
      refine ⟨by rw [decide_eq_true hk2]; rfl, m', rfl, gk.tr hKT.ks, ?_⟩
      rw [if_pos hk2, hKT.1 17 (by decide) (by decide) (by decide) (by decide) (by decide), hKT.1 14 (by decide) (by decide) (by decide) (by decide) (by decide), hKT.1 13 (by decide) (by decide) (by decide) (by decide) (by decide)]
      exact ⟨g17, gb, hTO⟩
  · refine z_aloadR_n (pc := 8) h dX8_takes_8 rfl ?_
    refine z_rV (pc := 9) (c := 8) h (m8_fails e8 (by omega)) (by decide) (by first | assumption | rfl) rfl mv_X8_fails ml_X8_130 rfl dX8_takes_9 rfl (Nat.le_of_ble_eq_true rfl) ?_
    refine z_bret (pc := 12) h rfl dX8_takes_12 ?_
    have hk2 : tK f n q ≠ 2 := by omega
    refine ⟨by rw [decide_eq_false hk2], _, rfl, ⟨fun j hj => by rw [oss_1, if_neg (by omega)], rfl⟩, ?_⟩
    rw [if_neg hk2]
    rfl
