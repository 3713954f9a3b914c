/-! The class: words, numbers, notes. -/
def tWm (f : Int → Int) (s : Int) (i : Nat) : Bool := decide (zfst (fun k => decide (f (s + k) ≠ zch i k)) (zln i) = -1)
/-- the token at q is the word i -/
def tW (f : Int → Int) (n q : Int) (i : Nat) : Bool := decide (tK f n q = 1 ∧ tE f n q - tS f n q = zln i ∧ tWm f (tS f n q) i = true)
/-- the token from q is the one that stands -/
def TL (f : Int → Int) (n q : Int) (r : zOb) : Prop := (0 ≤ q ∧ q ≤ n) ∧ r.1 6 = tE f n q ∧ r.1 7 = tS f n q ∧ r.1 8 = tK f n q ∧ (tK f n q = 2 → r.1 9 = tV f n q)
theorem TL.b {f : Int → Int} {n q : Int} {r : zOb} (h : TL f n q r) : 0 ≤ r.1 7 ∧ r.1 7 ≤ r.1 6 ∧ r.1 6 ≤ n ∧ (0 ≤ r.1 8 ∧ r.1 8 ≤ 4) ∧ q ≤ r.1 7 := by
  have h1 := tS_b (f := f) h.1.2
  have h2 := tE_b (f := f) h.1.2
  have h3 := tK_b f n q
  rw [h.2.1, h.2.2.1, h.2.2.2.1]
  have := h.1
  omega
theorem ADV.tl {f : Int → Int} {n : Int} {r r' : zOb} (h : ADV f n r r') (h0 : 0 ≤ r.1 6) (h1 : r.1 6 ≤ n) : TL f n (r.1 6) r' := ⟨⟨h0, h1⟩, h.1, h.2.1, h.2.2.1, h.2.2.2.1⟩
def KR (r r' : zOb) : Prop := (∀ j, j ≤ 5 → r'.1 j = r.1 j) ∧ r'.2 = r.2
theorem ADV.kr {f : Int → Int} {n : Int} {r r' : zOb} (h : ADV f n r r') : KR r r' := ⟨h.2.2.2.2.1, h.2.2.2.2.2⟩
theorem c_takesWord {σ : zS} {r : zOb} {q : Int} {i : Nat} (hi : i < 5) (hn : (σ 1).1 1 ≤ 400) (hT : TL ((σ 1).2 0) ((σ 1).1 1) q r) : zC M_X4_takesWord 5 [zR 2, zT i] (zo σ 2 r) (fun rr τ' => rr = some (zB (tW ((σ 1).2 0) ((σ 1).1 1) q i)) ∧ ∃ r', τ' = zo σ 2 r' ∧ KR r r' ∧ (if tW ((σ 1).2 0) ((σ 1).1 1) q i = true then TL ((σ 1).2 0) ((σ 1).1 1) (tE ((σ 1).2 0) ((σ 1).1 1) q) r' else r' = r)) := by
  have hb := hT.b
  have hl := zln_b i hi
  obtain ⟨hq, e6, e7, e8, e9⟩ := hT
  have N : tW ((σ 1).2 0) ((σ 1).1 1) q i = false → (∃ r', zo σ 2 r = zo σ 2 r' ∧ KR r r' ∧ (if tW ((σ 1).2 0) ((σ 1).1 1) q i = true then TL ((σ 1).2 0) ((σ 1).1 1) (tE ((σ 1).2 0) ((σ 1).1 1) q) r' else r' = r)) := fun z => ⟨r, rfl, ⟨fun _ _ => rfl, rfl⟩, by rw [z]; rfl⟩
  refine zC_of (M := M_X4_takesWord) (ls := [some (zR 2), some (zT i), none]) (n := 1) (by decide) (fun ad => Nat.le_of_ble_eq_true rfl) rfl (fun x h => ?_)
  have L : ∀ (n : Nat) (k : Int), 0 ≤ k → k ≤ zln i → zln i - k < n → r.1 8 = 1 → r.1 6 - r.1 7 = zln i → (∀ j, 0 ≤ j → j < k → (σ 1).2 0 (r.1 7 + j) = zch i j) → zW x (fun rr τ' => rr = some (zB (tW ((σ 1).2 0) ((σ 1).1 1) q i)) ∧ ∃ r', τ' = zo σ 2 r' ∧ KR r r' ∧ (if tW ((σ 1).2 0) ((σ 1).1 1) q i = true then TL ((σ 1).2 0) ((σ 1).1 1) (tE ((σ 1).2 0) ((σ 1).1 1) q) r' else r' = r)) 28 [some (zR 2), some (zT i), some (zI k)] [] (zo σ 2 r) := by
    intro n
    induction n with
    | zero => intro k h1 h2 h3; omega
    | succ n ih =>
      intro k h1 h2 h3 h8 h67 ha
      have hcb := zch_b i k
      refine z_iload_n (pc := 28) h dX4_takesWord_28 rfl ?_
      refine z_aloadT_n (pc := 29) h dX4_takesWord_29 rfl ?_
      refine z_pT (pc := 30) h hi (s_length hi) (by decide) mv_J0_length_8abf5 ml_X4_82 rfl dX4_takesWord_30 rfl (Nat.le_of_ble_eq_true rfl) ?_
      refine z_icmp_ge (pc := 33) (tgt := 67) h (by omega) (by omega) dX4_takesWord_33 (by decide) (fun c33 => ?_) (fun c33 => ?_)
      · have w : tW ((σ 1).2 0) ((σ 1).1 1) q i = true := by
          refine decide_eq_true ⟨by omega, by omega, decide_eq_true (zfst_none (fun j a b => decide_eq_false (fun y => y ?_)))⟩
          rw [← e7]; exact ha j a (by omega)
        refine z_aloadR_n (pc := 67) h dX4_takesWord_67 rfl ?_
        refine z_callV (pc := 68) (c := 4) h (c_advance (by omega) hn) (by decide) (by first | assumption | rfl) rfl mv_X4_advance ml_X4_42 rfl dX4_takesWord_68 rfl (Nat.le_of_ble_eq_true rfl) (fun r68 τ68 q68 => ?_)
        obtain ⟨rfl, r', rfl, hA⟩ := q68
        refine z_iconst (pc := 71) h dX4_takesWord_71 ?_
        refine z_zret (pc := 72) h rfl (by omega) dX4_takesWord_72 ?_
        refine ⟨by rw [w]; rfl, r', rfl, hA.kr, ?_⟩
        rw [if_pos w, ← e6]
        exact hA.tl (by omega) (by omega)
      · refine z_aloadR_n (pc := 36) h dX4_takesWord_36 rfl ?_
        refine z_aloadR_n (pc := 37) h dX4_takesWord_37 rfl ?_
        refine z_getIq (pc := 38) (c := 4) (j := 7) h (zo_s _ _ _) (by first | assumption | rfl) rfl rfl fl_X4_68 dX4_takesWord_38 (fun g38 => ?_)
        refine z_iload_n (pc := 41) h dX4_takesWord_41 rfl ?_
        refine z_iadd (pc := 42) h dX4_takesWord_42 ?_
        refine z_aloadT_n (pc := 43) h dX4_takesWord_43 rfl ?_
        refine z_iload_n (pc := 44) h dX4_takesWord_44 rfl ?_
        refine z_pT (pc := 45) h hi (s_charAt hi (by omega) (by omega)) (by decide) mv_J0_charAt_5068e ml_X4_86 rfl dX4_takesWord_45 rfl (Nat.le_of_ble_eq_true rfl) ?_
        refine z_aloadT_n (pc := 48) h dX4_takesWord_48 rfl ?_
        refine z_iload_n (pc := 49) h dX4_takesWord_49 rfl ?_
        refine z_pT (pc := 50) h hi (s_charAt hi (by omega) (by omega)) (by decide) mv_J0_charAt_5068e ml_X4_86 rfl dX4_takesWord_50 rfl (Nat.le_of_ble_eq_true rfl) ?_
        refine z_pV (pc := 53) (c := 4) h (c_isBetween (by omega) (by omega) hn (by omega) (by omega)) (by decide) (by first | assumption | rfl) rfl mv_X4_isBetween ml_X4_60 rfl dX4_takesWord_53 rfl (Nat.le_of_ble_eq_true rfl) ?_
        refine z_ifneB (pc := 56) (tgt := 61) h dX4_takesWord_56 (by decide) (fun c56 => ?_) (fun c56 => ?_)
        · refine z_inc_2 (pc := 61) h dX4_takesWord_61 (by decide) rfl ?_
          refine z_goto (pc := 64) (tgt := 28) h dX4_takesWord_64 (by decide) ?_
          refine ih (k + 1) (by omega) (by omega) (by omega) h8 h67 (fun j a b => ?_)
          have z := of_decide_eq_true c56
          by_cases e : j = k
          · rw [e]; omega
          · exact ha j a (by omega)
        · have z := of_decide_eq_false c56
          have w : tW ((σ 1).2 0) ((σ 1).1 1) q i = false := by
            refine decide_eq_false (fun y => ?_)
            have y3 := of_decide_eq_true y.2.2
            rcases zfst_cases (fun k => decide ((σ 1).2 0 (tS ((σ 1).2 0) ((σ 1).1 1) q + k) ≠ zch i k)) (zln i) with v | v
            · have := of_decide_eq_false (v.2 k h1 (by omega))
              rw [← e7] at this
              omega
            · omega
          refine z_iconst (pc := 59) h dX4_takesWord_59 ?_
          refine z_zret (pc := 60) h rfl (by omega) dX4_takesWord_60 ?_
          refine ⟨by rw [w]; rfl, N w⟩
  refine z_aloadR_n (pc := 0) h dX4_takesWord_0 rfl ?_
  refine z_getIq (pc := 1) (c := 4) (j := 8) h (zo_s _ _ _) (by first | assumption | rfl) rfl rfl fl_X4_45 dX4_takesWord_1 (fun g1 => ?_)
  refine z_iconst (pc := 4) h dX4_takesWord_4 ?_
  refine z_icmp_ne (pc := 5) (tgt := 24) h (by omega) (by omega) dX4_takesWord_5 (by decide) (fun c5 => ?_) (fun c5 => ?_)
  · have w : tW ((σ 1).2 0) ((σ 1).1 1) q i = false := decide_eq_false (fun y => by have := y.1; have := y.2.1; omega)
    refine z_iconst (pc := 24) h dX4_takesWord_24 ?_
    refine z_zret (pc := 25) h rfl (by omega) dX4_takesWord_25 ?_
    exact ⟨by rw [w]; rfl, N w⟩
  · refine z_aloadR_n (pc := 8) h dX4_takesWord_8 rfl ?_
    refine z_getIq (pc := 9) (c := 4) (j := 6) h (zo_s _ _ _) (by first | assumption | rfl) rfl rfl fl_X4_39 dX4_takesWord_9 (fun g9 => ?_)
    refine z_aloadR_n (pc := 12) h dX4_takesWord_12 rfl ?_
    refine z_getIq (pc := 13) (c := 4) (j := 7) h (zo_s _ _ _) (by first | assumption | rfl) rfl rfl fl_X4_68 dX4_takesWord_13 (fun g13 => ?_)
    refine z_isub (pc := 16) h dX4_takesWord_16 ?_
    refine z_aloadT_n (pc := 17) h dX4_takesWord_17 rfl ?_
    refine z_pT (pc := 18) h hi (s_length hi) (by decide) mv_J0_length_8abf5 ml_X4_82 rfl dX4_takesWord_18 rfl (Nat.le_of_ble_eq_true rfl) ?_
    refine z_icmp_eq (pc := 21) (tgt := 26) h (by omega) (by omega) dX4_takesWord_21 (by decide) (fun c21 => ?_) (fun c21 => ?_)
    · refine z_iconst (pc := 26) h dX4_takesWord_26 ?_
      refine z_ist_2 (pc := 27) h dX4_takesWord_27 (by decide) rfl ?_
      exact L (zln i + 1).toNat 0 (by omega) (by omega) (by omega) (by omega) (by omega) (fun j a b => by omega)
    · have w : tW ((σ 1).2 0) ((σ 1).1 1) q i = false := decide_eq_false (fun y => by have := y.1; have := y.2.1; omega)
      refine z_iconst (pc := 24) h dX4_takesWord_24 ?_
      refine z_zret (pc := 25) h rfl (by omega) dX4_takesWord_25 ?_
      exact ⟨by rw [w]; rfl, N w⟩
/-- a fault is noted -/
def nt (b : Int × Int) (w p : Int) : Int × Int := if b.1 = 0 ∨ p < b.2 ∨ (p = b.2 ∧ w < b.1) then (w, p) else b
def ntO (r : zOb) (b : Int × Int) : zOb := oss (oss r 4 b.1) 5 b.2
theorem ntO_self {r : zOb} : ntO r (r.1 4, r.1 5) = r := by
  unfold ntO
  show oss (oss r 4 (r.1 4)) 5 (r.1 5) = r
  rw [oss_self, oss_self]
theorem c_note {σ : zS} {r : zOb} {w p : Int} (hw : 2 ≤ w ∧ w ≤ 4) (hp : 0 ≤ p ∧ p ≤ 400) : zCv M_X4_note 1 [zR 2, zI w, zI p] (zo σ 2 r) (zo σ 2 (ntO r (nt (r.1 4, r.1 5) w p))) := by
  refine zC_of (M := M_X4_note) (ls := [some (zR 2), some (zI w), some (zI p), none]) (n := 1) (by decide) (fun ad => Nat.le_of_ble_eq_true rfl) rfl (fun x h => ?_)
  have e : ∀ c, nt (r.1 4, r.1 5) w p = (w, p) → zW x (fun rr τ' => rr = none ∧ τ' = zo σ 2 (ntO r (nt (r.1 4, r.1 5) w p))) 46 [some (zR 2), some (zI w), some (zI p), c] [] (zo σ 2 r) := by
    intro c hc
    rw [hc]
    refine z_aloadR_n (pc := 46) h dX4_note_46 rfl ?_
    refine z_iload_n (pc := 47) h dX4_note_47 rfl ?_
    refine z_putIo (pc := 48) (c := 4) (j := 4) h (by first | assumption | rfl) rfl rfl fl_X4_36 rfl (tyX4_ok 4 (by decide)) dX4_note_48 (by omega) ?_
    refine z_aloadR_n (pc := 51) h dX4_note_51 rfl ?_
    refine z_iload_n (pc := 52) h dX4_note_52 rfl ?_
    refine z_putIo (pc := 53) (c := 4) (j := 5) h (by first | assumption | rfl) rfl rfl fl_X4_25 rfl (tyX4_ok 5 (by decide)) dX4_note_53 (by omega) ?_
    refine z_ret (pc := 56) h rfl dX4_note_56 ?_
    exact ⟨rfl, rfl⟩
  have e2 : ∀ c, nt (r.1 4, r.1 5) w p = (r.1 4, r.1 5) → zW x (fun rr τ' => rr = none ∧ τ' = zo σ 2 (ntO r (nt (r.1 4, r.1 5) w p))) 56 [some (zR 2), some (zI w), some (zI p), c] [] (zo σ 2 r) := by
    intro c hc
    rw [hc, ntO_self]
    refine z_ret (pc := 56) h rfl dX4_note_56 ?_
    exact ⟨rfl, rfl⟩
  refine z_aloadR_n (pc := 0) h dX4_note_0 rfl ?_
  refine z_getIq (pc := 1) (c := 4) (j := 4) h (zo_s _ _ _) (by first | assumption | rfl) rfl rfl fl_X4_36 dX4_note_1 (fun g1 => ?_)
  refine z_if_eq (pc := 4) (tgt := 31) h (by omega) dX4_note_4 (by decide) (fun c4 => ?_) (fun c4 => ?_)
  · refine z_iconst (pc := 31) h dX4_note_31 ?_
    refine z_goto (pc := 32) (tgt := 36) h dX4_note_32 (by decide) ?_
    refine z_ist_3 (pc := 36) h dX4_note_36 (by decide) rfl ?_
    refine z_iload_n (pc := 37) h dX4_note_37 rfl ?_
    refine z_iconst (pc := 38) h dX4_note_38 ?_
    refine z_icmp_eq (pc := 39) (tgt := 46) h (by omega) (by omega) dX4_note_39 (by decide) (fun c39 => ?_) (fun c39 => ?_)
    · first
      | (exfalso; omega)
      | exact e _ (if_pos (by show r.1 4 = 0 ∨ p < r.1 5 ∨ (p = r.1 5 ∧ w < r.1 4); omega))
    · refine z_iload_n (pc := 42) h dX4_note_42 rfl ?_
      refine z_if_eq (pc := 43) (tgt := 56) h (by omega) dX4_note_43 (by decide) (fun c43 => ?_) (fun c43 => ?_)
      · exact absurd c43 (by decide)
      · first
        | (exfalso; omega)
        | exact e _ (if_pos (by show r.1 4 = 0 ∨ p < r.1 5 ∨ (p = r.1 5 ∧ w < r.1 4); omega))
  · refine z_iload_n (pc := 7) h dX4_note_7 rfl ?_
    refine z_aloadR_n (pc := 8) h dX4_note_8 rfl ?_
    refine z_getIq (pc := 9) (c := 4) (j := 5) h (zo_s _ _ _) (by first | assumption | rfl) rfl rfl fl_X4_25 dX4_note_9 (fun g9 => ?_)
    refine z_icmp_lt (pc := 12) (tgt := 31) h (by omega) (by omega) dX4_note_12 (by decide) (fun c12 => ?_) (fun c12 => ?_)
    · refine z_iconst (pc := 31) h dX4_note_31 ?_
      refine z_goto (pc := 32) (tgt := 36) h dX4_note_32 (by decide) ?_
      refine z_ist_3 (pc := 36) h dX4_note_36 (by decide) rfl ?_
      refine z_iload_n (pc := 37) h dX4_note_37 rfl ?_
      refine z_iconst (pc := 38) h dX4_note_38 ?_
      refine z_icmp_eq (pc := 39) (tgt := 46) h (by omega) (by omega) dX4_note_39 (by decide) (fun c39 => ?_) (fun c39 => ?_)
      · first
        | (exfalso; omega)
        | exact e _ (if_pos (by show r.1 4 = 0 ∨ p < r.1 5 ∨ (p = r.1 5 ∧ w < r.1 4); omega))
      · refine z_iload_n (pc := 42) h dX4_note_42 rfl ?_
        refine z_if_eq (pc := 43) (tgt := 56) h (by omega) dX4_note_43 (by decide) (fun c43 => ?_) (fun c43 => ?_)
        · exact absurd c43 (by decide)
        · first
          | (exfalso; omega)
          | exact e _ (if_pos (by show r.1 4 = 0 ∨ p < r.1 5 ∨ (p = r.1 5 ∧ w < r.1 4); omega))
    · refine z_iload_n (pc := 15) h dX4_note_15 rfl ?_
      refine z_aloadR_n (pc := 16) h dX4_note_16 rfl ?_
      refine z_getIq (pc := 17) (c := 4) (j := 5) h (zo_s _ _ _) (by first | assumption | rfl) rfl rfl fl_X4_25 dX4_note_17 (fun g17 => ?_)
      refine z_icmp_ne (pc := 20) (tgt := 35) h (by omega) (by omega) dX4_note_20 (by decide) (fun c20 => ?_) (fun c20 => ?_)
      · refine z_iconst (pc := 35) h dX4_note_35 ?_
        refine z_ist_3 (pc := 36) h dX4_note_36 (by decide) rfl ?_
        refine z_iload_n (pc := 37) h dX4_note_37 rfl ?_
        refine z_iconst (pc := 38) h dX4_note_38 ?_
        refine z_icmp_eq (pc := 39) (tgt := 46) h (by omega) (by omega) dX4_note_39 (by decide) (fun c39 => ?_) (fun c39 => ?_)
        · first
          | (exfalso; omega)
          | exact e _ (if_pos (by show r.1 4 = 0 ∨ p < r.1 5 ∨ (p = r.1 5 ∧ w < r.1 4); omega))
        · refine z_iload_n (pc := 42) h dX4_note_42 rfl ?_
          refine z_if_eq (pc := 43) (tgt := 56) h (by omega) dX4_note_43 (by decide) (fun c43 => ?_) (fun c43 => ?_)
          · first
            | (exfalso; omega)
            | exact e2 _ (if_neg (by show ¬ (r.1 4 = 0 ∨ p < r.1 5 ∨ (p = r.1 5 ∧ w < r.1 4)); omega))
          · exact absurd c43 (by decide)
      · refine z_iload_n (pc := 23) h dX4_note_23 rfl ?_
        refine z_aloadR_n (pc := 24) h dX4_note_24 rfl ?_
        refine z_getIq (pc := 25) (c := 4) (j := 4) h (zo_s _ _ _) (by first | assumption | rfl) rfl rfl fl_X4_36 dX4_note_25 (fun g25 => ?_)
        refine z_icmp_ge (pc := 28) (tgt := 35) h (by omega) (by omega) dX4_note_28 (by decide) (fun c28 => ?_) (fun c28 => ?_)
        · refine z_iconst (pc := 35) h dX4_note_35 ?_
          refine z_ist_3 (pc := 36) h dX4_note_36 (by decide) rfl ?_
          refine z_iload_n (pc := 37) h dX4_note_37 rfl ?_
          refine z_iconst (pc := 38) h dX4_note_38 ?_
          refine z_icmp_eq (pc := 39) (tgt := 46) h (by omega) (by omega) dX4_note_39 (by decide) (fun c39 => ?_) (fun c39 => ?_)
          · first
            | (exfalso; omega)
            | exact e _ (if_pos (by show r.1 4 = 0 ∨ p < r.1 5 ∨ (p = r.1 5 ∧ w < r.1 4); omega))
          · refine z_iload_n (pc := 42) h dX4_note_42 rfl ?_
            refine z_if_eq (pc := 43) (tgt := 56) h (by omega) dX4_note_43 (by decide) (fun c43 => ?_) (fun c43 => ?_)
            · first
              | (exfalso; omega)
              | exact e2 _ (if_neg (by show ¬ (r.1 4 = 0 ∨ p < r.1 5 ∨ (p = r.1 5 ∧ w < r.1 4)); omega))
            · exact absurd c43 (by decide)
        · refine z_iconst (pc := 31) h dX4_note_31 ?_
          refine z_goto (pc := 32) (tgt := 36) h dX4_note_32 (by decide) ?_
          refine z_ist_3 (pc := 36) h dX4_note_36 (by decide) rfl ?_
          refine z_iload_n (pc := 37) h dX4_note_37 rfl ?_
          refine z_iconst (pc := 38) h dX4_note_38 ?_
          refine z_icmp_eq (pc := 39) (tgt := 46) h (by omega) (by omega) dX4_note_39 (by decide) (fun c39 => ?_) (fun c39 => ?_)
          · first
            | (exfalso; omega)
            | exact e _ (if_pos (by show r.1 4 = 0 ∨ p < r.1 5 ∨ (p = r.1 5 ∧ w < r.1 4); omega))
          · refine z_iload_n (pc := 42) h dX4_note_42 rfl ?_
            refine z_if_eq (pc := 43) (tgt := 56) h (by omega) dX4_note_43 (by decide) (fun c43 => ?_) (fun c43 => ?_)
            · exact absurd c43 (by decide)
            · first
              | (exfalso; omega)
              | exact e _ (if_pos (by show r.1 4 = 0 ∨ p < r.1 5 ∨ (p = r.1 5 ∧ w < r.1 4); omega))
theorem c_note1 {σ : zS} {r : zOb} {p : Int} (hp : 0 ≤ p ∧ p ≤ 400) : zCv M_X4_note 1 [zR 2, zI 1, zI p] (zo σ 2 r) (zo σ 2 (ntO r (1, p))) := by
  refine zC_of (M := M_X4_note) (ls := [some (zR 2), some (zI 1), some (zI p), none]) (n := 1) (by decide) (fun ad => Nat.le_of_ble_eq_true rfl) rfl (fun x h => ?_)
  refine z_aloadR_n (pc := 0) h dX4_note_0 rfl ?_
  refine z_getIq (pc := 1) (c := 4) (j := 4) h (zo_s _ _ _) (by first | assumption | rfl) rfl rfl fl_X4_36 dX4_note_1 (fun g1 => ?_)
  refine z_if_eq (pc := 4) (tgt := 31) h (by omega) dX4_note_4 (by decide) (fun c4 => ?_) (fun c4 => ?_)
  · refine z_iconst (pc := 31) h dX4_note_31 ?_
    refine z_goto (pc := 32) (tgt := 36) h dX4_note_32 (by decide) ?_
    refine z_ist_3 (pc := 36) h dX4_note_36 (by decide) rfl ?_
    refine z_iload_n (pc := 37) h dX4_note_37 rfl ?_
    refine z_iconst (pc := 38) h dX4_note_38 ?_
    refine z_icmp_eq (pc := 39) (tgt := 46) h (by omega) (by omega) dX4_note_39 (by decide) (fun c39 => ?_) (fun c39 => ?_)
    · refine z_aloadR_n (pc := 46) h dX4_note_46 rfl ?_
      refine z_iload_n (pc := 47) h dX4_note_47 rfl ?_
      refine z_putIo (pc := 48) (c := 4) (j := 4) h (by first | assumption | rfl) rfl rfl fl_X4_36 rfl (tyX4_ok 4 (by decide)) dX4_note_48 (by omega) ?_
      refine z_aloadR_n (pc := 51) h dX4_note_51 rfl ?_
      refine z_iload_n (pc := 52) h dX4_note_52 rfl ?_
      refine z_putIo (pc := 53) (c := 4) (j := 5) h (by first | assumption | rfl) rfl rfl fl_X4_25 rfl (tyX4_ok 5 (by decide)) dX4_note_53 (by omega) ?_
      refine z_ret (pc := 56) h rfl dX4_note_56 ?_
      first
      | exact ⟨rfl, rfl⟩
      | (exfalso; omega)
    · refine z_iload_n (pc := 42) h dX4_note_42 rfl ?_
      refine z_if_eq (pc := 43) (tgt := 56) h (by omega) dX4_note_43 (by decide) (fun c43 => ?_) (fun c43 => ?_)
      · exact absurd c43 (by decide)
      · refine z_aloadR_n (pc := 46) h dX4_note_46 rfl ?_
        refine z_iload_n (pc := 47) h dX4_note_47 rfl ?_
        refine z_putIo (pc := 48) (c := 4) (j := 4) h (by first | assumption | rfl) rfl rfl fl_X4_36 rfl (tyX4_ok 4 (by decide)) dX4_note_48 (by omega) ?_
        refine z_aloadR_n (pc := 51) h dX4_note_51 rfl ?_
        refine z_iload_n (pc := 52) h dX4_note_52 rfl ?_
        refine z_putIo (pc := 53) (c := 4) (j := 5) h (by first | assumption | rfl) rfl rfl fl_X4_25 rfl (tyX4_ok 5 (by decide)) dX4_note_53 (by omega) ?_
        refine z_ret (pc := 56) h rfl dX4_note_56 ?_
        first
        | exact ⟨rfl, rfl⟩
        | (exfalso; omega)
  · refine z_iload_n (pc := 7) h dX4_note_7 rfl ?_
    refine z_aloadR_n (pc := 8) h dX4_note_8 rfl ?_
    refine z_getIq (pc := 9) (c := 4) (j := 5) h (zo_s _ _ _) (by first | assumption | rfl) rfl rfl fl_X4_25 dX4_note_9 (fun g9 => ?_)
    refine z_icmp_lt (pc := 12) (tgt := 31) h (by omega) (by omega) dX4_note_12 (by decide) (fun c12 => ?_) (fun c12 => ?_)
    · refine z_iconst (pc := 31) h dX4_note_31 ?_
      refine z_goto (pc := 32) (tgt := 36) h dX4_note_32 (by decide) ?_
      refine z_ist_3 (pc := 36) h dX4_note_36 (by decide) rfl ?_
      refine z_iload_n (pc := 37) h dX4_note_37 rfl ?_
      refine z_iconst (pc := 38) h dX4_note_38 ?_
      refine z_icmp_eq (pc := 39) (tgt := 46) h (by omega) (by omega) dX4_note_39 (by decide) (fun c39 => ?_) (fun c39 => ?_)
      · refine z_aloadR_n (pc := 46) h dX4_note_46 rfl ?_
        refine z_iload_n (pc := 47) h dX4_note_47 rfl ?_
        refine z_putIo (pc := 48) (c := 4) (j := 4) h (by first | assumption | rfl) rfl rfl fl_X4_36 rfl (tyX4_ok 4 (by decide)) dX4_note_48 (by omega) ?_
        refine z_aloadR_n (pc := 51) h dX4_note_51 rfl ?_
        refine z_iload_n (pc := 52) h dX4_note_52 rfl ?_
        refine z_putIo (pc := 53) (c := 4) (j := 5) h (by first | assumption | rfl) rfl rfl fl_X4_25 rfl (tyX4_ok 5 (by decide)) dX4_note_53 (by omega) ?_
        refine z_ret (pc := 56) h rfl dX4_note_56 ?_
        first
        | exact ⟨rfl, rfl⟩
        | (exfalso; omega)
      · refine z_iload_n (pc := 42) h dX4_note_42 rfl ?_
        refine z_if_eq (pc := 43) (tgt := 56) h (by omega) dX4_note_43 (by decide) (fun c43 => ?_) (fun c43 => ?_)
        · exact absurd c43 (by decide)
        · refine z_aloadR_n (pc := 46) h dX4_note_46 rfl ?_
          refine z_iload_n (pc := 47) h dX4_note_47 rfl ?_
          refine z_putIo (pc := 48) (c := 4) (j := 4) h (by first | assumption | rfl) rfl rfl fl_X4_36 rfl (tyX4_ok 4 (by decide)) dX4_note_48 (by omega) ?_
          refine z_aloadR_n (pc := 51) h dX4_note_51 rfl ?_
          refine z_iload_n (pc := 52) h dX4_note_52 rfl ?_
          refine z_putIo (pc := 53) (c := 4) (j := 5) h (by first | assumption | rfl) rfl rfl fl_X4_25 rfl (tyX4_ok 5 (by decide)) dX4_note_53 (by omega) ?_
          refine z_ret (pc := 56) h rfl dX4_note_56 ?_
          first
          | exact ⟨rfl, rfl⟩
          | (exfalso; omega)
    · refine z_iload_n (pc := 15) h dX4_note_15 rfl ?_
      refine z_aloadR_n (pc := 16) h dX4_note_16 rfl ?_
      refine z_getIq (pc := 17) (c := 4) (j := 5) h (zo_s _ _ _) (by first | assumption | rfl) rfl rfl fl_X4_25 dX4_note_17 (fun g17 => ?_)
      refine z_icmp_ne (pc := 20) (tgt := 35) h (by omega) (by omega) dX4_note_20 (by decide) (fun c20 => ?_) (fun c20 => ?_)
      · refine z_iconst (pc := 35) h dX4_note_35 ?_
        refine z_ist_3 (pc := 36) h dX4_note_36 (by decide) rfl ?_
        refine z_iload_n (pc := 37) h dX4_note_37 rfl ?_
        refine z_iconst (pc := 38) h dX4_note_38 ?_
        refine z_icmp_eq (pc := 39) (tgt := 46) h (by omega) (by omega) dX4_note_39 (by decide) (fun c39 => ?_) (fun c39 => ?_)
        · refine z_aloadR_n (pc := 46) h dX4_note_46 rfl ?_
          refine z_iload_n (pc := 47) h dX4_note_47 rfl ?_
          refine z_putIo (pc := 48) (c := 4) (j := 4) h (by first | assumption | rfl) rfl rfl fl_X4_36 rfl (tyX4_ok 4 (by decide)) dX4_note_48 (by omega) ?_
          refine z_aloadR_n (pc := 51) h dX4_note_51 rfl ?_
          refine z_iload_n (pc := 52) h dX4_note_52 rfl ?_
          refine z_putIo (pc := 53) (c := 4) (j := 5) h (by first | assumption | rfl) rfl rfl fl_X4_25 rfl (tyX4_ok 5 (by decide)) dX4_note_53 (by omega) ?_
          refine z_ret (pc := 56) h rfl dX4_note_56 ?_
          first
          | exact ⟨rfl, rfl⟩
          | (exfalso; omega)
        · refine z_iload_n (pc := 42) h dX4_note_42 rfl ?_
          refine z_if_eq (pc := 43) (tgt := 56) h (by omega) dX4_note_43 (by decide) (fun c43 => ?_) (fun c43 => ?_)
          · refine z_ret (pc := 56) h rfl dX4_note_56 ?_
            first
            | exact ⟨rfl, rfl⟩
            | (exfalso; omega)
          · exact absurd c43 (by decide)
      · refine z_iload_n (pc := 23) h dX4_note_23 rfl ?_
        refine z_aloadR_n (pc := 24) h dX4_note_24 rfl ?_
        refine z_getIq (pc := 25) (c := 4) (j := 4) h (zo_s _ _ _) (by first | assumption | rfl) rfl rfl fl_X4_36 dX4_note_25 (fun g25 => ?_)
        refine z_icmp_ge (pc := 28) (tgt := 35) h (by omega) (by omega) dX4_note_28 (by decide) (fun c28 => ?_) (fun c28 => ?_)
        · refine z_iconst (pc := 35) h dX4_note_35 ?_
          refine z_ist_3 (pc := 36) h dX4_note_36 (by decide) rfl ?_
          refine z_iload_n (pc := 37) h dX4_note_37 rfl ?_
          refine z_iconst (pc := 38) h dX4_note_38 ?_
          refine z_icmp_eq (pc := 39) (tgt := 46) h (by omega) (by omega) dX4_note_39 (by decide) (fun c39 => ?_) (fun c39 => ?_)
          · refine z_aloadR_n (pc := 46) h dX4_note_46 rfl ?_
            refine z_iload_n (pc := 47) h dX4_note_47 rfl ?_
            refine z_putIo (pc := 48) (c := 4) (j := 4) h (by first | assumption | rfl) rfl rfl fl_X4_36 rfl (tyX4_ok 4 (by decide)) dX4_note_48 (by omega) ?_
            refine z_aloadR_n (pc := 51) h dX4_note_51 rfl ?_
            refine z_iload_n (pc := 52) h dX4_note_52 rfl ?_
            refine z_putIo (pc := 53) (c := 4) (j := 5) h (by first | assumption | rfl) rfl rfl fl_X4_25 rfl (tyX4_ok 5 (by decide)) dX4_note_53 (by omega) ?_
            refine z_ret (pc := 56) h rfl dX4_note_56 ?_
            first
            | exact ⟨rfl, rfl⟩
            | (exfalso; omega)
          · refine z_iload_n (pc := 42) h dX4_note_42 rfl ?_
            refine z_if_eq (pc := 43) (tgt := 56) h (by omega) dX4_note_43 (by decide) (fun c43 => ?_) (fun c43 => ?_)
            · refine z_ret (pc := 56) h rfl dX4_note_56 ?_
              first
              | exact ⟨rfl, rfl⟩
              | (exfalso; omega)
            · exact absurd c43 (by decide)
        · refine z_iconst (pc := 31) h dX4_note_31 ?_
          refine z_goto (pc := 32) (tgt := 36) h dX4_note_32 (by decide) ?_
          refine z_ist_3 (pc := 36) h dX4_note_36 (by decide) rfl ?_
          refine z_iload_n (pc := 37) h dX4_note_37 rfl ?_
          refine z_iconst (pc := 38) h dX4_note_38 ?_
          refine z_icmp_eq (pc := 39) (tgt := 46) h (by omega) (by omega) dX4_note_39 (by decide) (fun c39 => ?_) (fun c39 => ?_)
          · refine z_aloadR_n (pc := 46) h dX4_note_46 rfl ?_
            refine z_iload_n (pc := 47) h dX4_note_47 rfl ?_
            refine z_putIo (pc := 48) (c := 4) (j := 4) h (by first | assumption | rfl) rfl rfl fl_X4_36 rfl (tyX4_ok 4 (by decide)) dX4_note_48 (by omega) ?_
            refine z_aloadR_n (pc := 51) h dX4_note_51 rfl ?_
            refine z_iload_n (pc := 52) h dX4_note_52 rfl ?_
            refine z_putIo (pc := 53) (c := 4) (j := 5) h (by first | assumption | rfl) rfl rfl fl_X4_25 rfl (tyX4_ok 5 (by decide)) dX4_note_53 (by omega) ?_
            refine z_ret (pc := 56) h rfl dX4_note_56 ?_
            first
            | exact ⟨rfl, rfl⟩
            | (exfalso; omega)
          · refine z_iload_n (pc := 42) h dX4_note_42 rfl ?_
            refine z_if_eq (pc := 43) (tgt := 56) h (by omega) dX4_note_43 (by decide) (fun c43 => ?_) (fun c43 => ?_)
            · exact absurd c43 (by decide)
            · refine z_aloadR_n (pc := 46) h dX4_note_46 rfl ?_
              refine z_iload_n (pc := 47) h dX4_note_47 rfl ?_
              refine z_putIo (pc := 48) (c := 4) (j := 4) h (by first | assumption | rfl) rfl rfl fl_X4_36 rfl (tyX4_ok 4 (by decide)) dX4_note_48 (by omega) ?_
              refine z_aloadR_n (pc := 51) h dX4_note_51 rfl ?_
              refine z_iload_n (pc := 52) h dX4_note_52 rfl ?_
              refine z_putIo (pc := 53) (c := 4) (j := 5) h (by first | assumption | rfl) rfl rfl fl_X4_25 rfl (tyX4_ok 5 (by decide)) dX4_note_53 (by omega) ?_
              refine z_ret (pc := 56) h rfl dX4_note_56 ?_
              first
              | exact ⟨rfl, rfl⟩
              | (exfalso; omega)
