/-! The class: the numbers of a statement. -/
def nQ (f : Int → Int) (n q k : Int) : Int := zfor (fun _ p => tE f n p) k q
theorem nQ_0 (f : Int → Int) (n q : Int) : nQ f n q 0 = q := rfl
theorem nQ_S (f : Int → Int) (n q : Int) {k : Int} (h : 0 ≤ k) : nQ f n q (k + 1) = tE f n (nQ f n q k) := zfor_S _ h q
theorem nQ_b {f : Int → Int} {n q k : Int} (h0 : 0 ≤ q) (h1 : q ≤ n) (hk : 0 ≤ k) : q ≤ nQ f n q k ∧ nQ f n q k ≤ n := by
  refine zfor_ind (f := fun _ p => tE f n p) (a := q) (fun _ p => q ≤ p ∧ p ≤ n) ⟨Int.le_refl q, h1⟩ (fun i p a b c => ?_) k hk (Int.le_refl k)
  have := tE_b (f := f) c.2
  have := tS_b (f := f) c.2
  omega
def nF (f : Int → Int) (n q c : Int) : Int := zfst (fun j => decide (tK f n (nQ f n q j) ≠ (if j < c then 2 else 3))) (c + 1)
theorem nF_e {f : Int → Int} {n q c j : Int} (h0 : 0 ≤ j) (h1 : j ≤ c) (ha : ∀ i, 0 ≤ i → i < j → tK f n (nQ f n q i) = 2) (hj : tK f n (nQ f n q j) ≠ if j < c then 2 else 3) : nF f n q c = j :=
  zfst_some h0 (by omega) (decide_eq_true hj) (fun i a b => decide_eq_false (fun z => z (by rw [if_pos (by omega)]; exact ha i a b)))
theorem nF_n {f : Int → Int} {n q c : Int} (ha : ∀ i, 0 ≤ i → i < c → tK f n (nQ f n q i) = 2) (hc : tK f n (nQ f n q c) = 3) : nF f n q c = -1 :=
  zfst_none (fun i a b => decide_eq_false (fun z => z (by
    by_cases e : i < c
    · rw [if_pos e]; exact ha i a e
    · rw [if_neg e, show i = c by omega]; exact hc)))
theorem nF_ok {f : Int → Int} {n q c : Int} (hc : 0 ≤ c) (h : nF f n q c = -1) : (∀ i, 0 ≤ i → i < c → tK f n (nQ f n q i) = 2) ∧ tK f n (nQ f n q c) = 3 := by
  rcases zfst_cases (fun j => decide (tK f n (nQ f n q j) ≠ (if j < c then 2 else 3))) (c + 1) with z | z
  · refine ⟨fun i a b => ?_, ?_⟩
    · have := of_decide_eq_false (z.2 i a (by omega))
      rw [if_pos b] at this
      exact Decidable.not_not.mp this
    · have := of_decide_eq_false (z.2 c hc (by omega))
      rw [if_neg (by omega)] at this
      exact Decidable.not_not.mp this
  · have : nF f n q c = zfst (fun j => decide (tK f n (nQ f n q j) ≠ (if j < c then 2 else 3))) (c + 1) := rfl
    omega
theorem nF_b {f : Int → Int} {n q c : Int} (h : nF f n q c ≠ -1) : 0 ≤ nF f n q c ∧ nF f n q c ≤ c ∧ (∀ i, 0 ≤ i → i < nF f n q c → tK f n (nQ f n q i) = 2) ∧ tK f n (nQ f n q (nF f n q c)) ≠ if nF f n q c < c then 2 else 3 := by
  rcases zfst_cases (fun j => decide (tK f n (nQ f n q j) ≠ (if j < c then 2 else 3))) (c + 1) with z | z
  · exact absurd z.1 h
  · have e : nF f n q c = zfst (fun j => decide (tK f n (nQ f n q j) ≠ (if j < c then 2 else 3))) (c + 1) := rfl
    rw [← e] at z
    refine ⟨z.1, by omega, fun i a b => ?_, of_decide_eq_true z.2.2.1⟩
    have := of_decide_eq_false (z.2.2.2 i a b)
    rw [if_pos (by omega)] at this
    exact Decidable.not_not.mp this
/-- what takesNumbers leaves -/
def NR (f : Int → Int) (n q c : Int) (r r' : zOb) : Prop := if nF f n q c = -1 then (r'.1 4 = r.1 4 ∧ r'.1 5 = r.1 5) ∧ TL f n (nQ f n q (c + 1)) r' ∧ (∀ j, 0 ≤ j → j < c → r'.2 2 j = tV f n (nQ f n q j) ∧ r'.2 3 j = tS f n (nQ f n q j)) else r'.1 4 = 1 ∧ r'.1 5 = tS f n (nQ f n q (nF f n q c))
theorem c_takesNumbers {σ : zS} {r : zOb} {q c : Int} (hc : 1 ≤ c ∧ c ≤ 5) (hn : (σ 1).1 1 ≤ 400) (hT : TL ((σ 1).2 0) ((σ 1).1 1) q r) : zC M_X4_takesNumbers 4 [zR 2, zI c] (zo σ 2 r) (fun rr τ' => rr = some (zB (decide (nF ((σ 1).2 0) ((σ 1).1 1) q c = -1))) ∧ ∃ r', τ' = zo σ 2 r' ∧ NR ((σ 1).2 0) ((σ 1).1 1) q c r r') := by
  refine zC_of (M := M_X4_takesNumbers) (ls := [some (zR 2), some (zI c), none]) (n := 1) (by decide) (fun ad => Nat.le_of_ble_eq_true rfl) rfl (fun x h => ?_)
  have hq := hT.1
  have L : ∀ (m : Nat) (i : Int) (y : zOb), 0 ≤ i → i ≤ c → c - i < m → (y.1 4 = r.1 4 ∧ y.1 5 = r.1 5) → TL ((σ 1).2 0) ((σ 1).1 1) (nQ ((σ 1).2 0) ((σ 1).1 1) q i) y → (∀ j, 0 ≤ j → j < i → y.2 2 j = tV ((σ 1).2 0) ((σ 1).1 1) (nQ ((σ 1).2 0) ((σ 1).1 1) q j) ∧ y.2 3 j = tS ((σ 1).2 0) ((σ 1).1 1) (nQ ((σ 1).2 0) ((σ 1).1 1) q j)) → (∀ j, 0 ≤ j → j < i → tK ((σ 1).2 0) ((σ 1).1 1) (nQ ((σ 1).2 0) ((σ 1).1 1) q j) = 2) → zW x (fun rr τ' => rr = some (zB (decide (nF ((σ 1).2 0) ((σ 1).1 1) q c = -1))) ∧ ∃ r', τ' = zo σ 2 r' ∧ NR ((σ 1).2 0) ((σ 1).1 1) q c r r') 2 [some (zR 2), some (zI c), some (zI i)] [] (zo σ 2 y) := by
    intro m
    induction m with
    | zero => intro i y h1 h2 h3; omega
    | succ m ih =>
      intro i y h1 h2 h3 hy hTy hv hk
      have hb := hTy.b
      have e8 := hTy.2.2.2.1
      have e7 := hTy.2.2.1
      have e6 := hTy.2.1
      have e9 := hTy.2.2.2.2
      have wrong : tK ((σ 1).2 0) ((σ 1).1 1) (nQ ((σ 1).2 0) ((σ 1).1 1) q i) ≠ (if i < c then 2 else 3) → (some (zI 0) = some (zB (decide (nF ((σ 1).2 0) ((σ 1).1 1) q c = -1))) ∧ ∃ r', zo σ 2 (ntO y (1, y.1 7)) = zo σ 2 r' ∧ NR ((σ 1).2 0) ((σ 1).1 1) q c r r') := by
        intro z
        have e := nF_e h1 h2 hk z
        refine ⟨by rw [e, decide_eq_false (by omega)]; rfl, _, rfl, ?_⟩
        unfold NR
        rw [e, if_neg (by omega), ← e7]
        exact ⟨rfl, rfl⟩
      refine z_iload_n (pc := 2) h dX4_takesNumbers_2 rfl ?_
      refine z_iload_n (pc := 3) h dX4_takesNumbers_3 rfl ?_
      refine z_icmp_ge (pc := 4) (tgt := 61) h (by omega) (by omega) dX4_takesNumbers_4 (by decide) (fun c4 => ?_) (fun c4 => ?_)
      · refine z_aloadR_n (pc := 61) h dX4_takesNumbers_61 rfl ?_
        refine z_getIq (pc := 62) (c := 4) (j := 8) h (zo_s _ _ _) (by first | assumption | rfl) rfl rfl fl_X4_45 dX4_takesNumbers_62 (fun g62 => ?_)
        refine z_iconst (pc := 65) h dX4_takesNumbers_65 ?_
        refine z_icmp_eq (pc := 66) (tgt := 80) h (by omega) (by omega) dX4_takesNumbers_66 (by decide) (fun c66 => ?_) (fun c66 => ?_)
        · refine z_aloadR_n (pc := 80) h dX4_takesNumbers_80 rfl ?_
          refine z_callV (pc := 81) (c := 4) h (c_advance (by omega) hn) (by decide) (by first | assumption | rfl) rfl mv_X4_advance ml_X4_42 rfl dX4_takesNumbers_81 rfl (Nat.le_of_ble_eq_true rfl) (fun r81 τ81 q81 => ?_)
          obtain ⟨rfl, r', rfl, hA⟩ := q81
          refine z_iconst (pc := 84) h dX4_takesNumbers_84 ?_
          refine z_zret (pc := 85) h rfl (by omega) dX4_takesNumbers_85 ?_
          have hic : i = c := by omega
          rw [hic] at hTy hk e8 hv
          have e := nF_n hk (by omega)
          have hTr := hA.tl (by omega) (by omega)
          have hKr := hA.kr
          rw [e6, hic, ← nQ_S _ _ _ (by omega)] at hTr
          refine ⟨by rw [e]; rfl, r', rfl, ?_⟩
          unfold NR
          rw [if_pos e]
          refine ⟨?_, hTr, ?_⟩
          · rw [hKr.1 4 (by omega), hKr.1 5 (by omega)]; exact hy
          · rw [hKr.2]; exact hv
        · refine z_aloadR_n (pc := 69) h dX4_takesNumbers_69 rfl ?_
          refine z_iconst (pc := 70) h dX4_takesNumbers_70 ?_
          refine z_aloadR_n (pc := 71) h dX4_takesNumbers_71 rfl ?_
          refine z_getIq (pc := 72) (c := 4) (j := 7) h (zo_s _ _ _) (by first | assumption | rfl) rfl rfl fl_X4_68 dX4_takesNumbers_72 (fun g72 => ?_)
          refine z_vV (pc := 75) (c := 4) h (c_note1 (by omega)) (by decide) (by first | assumption | rfl) rfl mv_X4_note ml_X4_90 rfl dX4_takesNumbers_75 rfl (Nat.le_of_ble_eq_true rfl) ?_
          refine z_iconst (pc := 78) h dX4_takesNumbers_78 ?_
          refine z_zret (pc := 79) h rfl (by omega) dX4_takesNumbers_79 ?_
          exact wrong (by rw [if_neg (by omega)]; omega)
      · refine z_iload_n (pc := 7) h dX4_takesNumbers_7 rfl ?_
        refine z_iconst (pc := 8) h dX4_takesNumbers_8 ?_
        refine z_icmp_ge (pc := 9) (tgt := 61) h (by omega) (by omega) dX4_takesNumbers_9 (by decide) (fun c9 => ?_) (fun c9 => ?_)
        · refine z_aloadR_n (pc := 61) h dX4_takesNumbers_61 rfl ?_
          refine z_getIq (pc := 62) (c := 4) (j := 8) h (zo_s _ _ _) (by first | assumption | rfl) rfl rfl fl_X4_45 dX4_takesNumbers_62 (fun g62 => ?_)
          refine z_iconst (pc := 65) h dX4_takesNumbers_65 ?_
          refine z_icmp_eq (pc := 66) (tgt := 80) h (by omega) (by omega) dX4_takesNumbers_66 (by decide) (fun c66 => ?_) (fun c66 => ?_)
          · refine z_aloadR_n (pc := 80) h dX4_takesNumbers_80 rfl ?_
            refine z_callV (pc := 81) (c := 4) h (c_advance (by omega) hn) (by decide) (by first | assumption | rfl) rfl mv_X4_advance ml_X4_42 rfl dX4_takesNumbers_81 rfl (Nat.le_of_ble_eq_true rfl) (fun r81 τ81 q81 => ?_)
            obtain ⟨rfl, r', rfl, hA⟩ := q81
            refine z_iconst (pc := 84) h dX4_takesNumbers_84 ?_
            refine z_zret (pc := 85) h rfl (by omega) dX4_takesNumbers_85 ?_
            have hic : i = c := by omega
            rw [hic] at hTy hk e8 hv
            have e := nF_n hk (by omega)
            have hTr := hA.tl (by omega) (by omega)
            have hKr := hA.kr
            rw [e6, hic, ← nQ_S _ _ _ (by omega)] at hTr
            refine ⟨by rw [e]; rfl, r', rfl, ?_⟩
            unfold NR
            rw [if_pos e]
            refine ⟨?_, hTr, ?_⟩
            · rw [hKr.1 4 (by omega), hKr.1 5 (by omega)]; exact hy
            · rw [hKr.2]; exact hv
          · refine z_aloadR_n (pc := 69) h dX4_takesNumbers_69 rfl ?_
            refine z_iconst (pc := 70) h dX4_takesNumbers_70 ?_
            refine z_aloadR_n (pc := 71) h dX4_takesNumbers_71 rfl ?_
            refine z_getIq (pc := 72) (c := 4) (j := 7) h (zo_s _ _ _) (by first | assumption | rfl) rfl rfl fl_X4_68 dX4_takesNumbers_72 (fun g72 => ?_)
            refine z_vV (pc := 75) (c := 4) h (c_note1 (by omega)) (by decide) (by first | assumption | rfl) rfl mv_X4_note ml_X4_90 rfl dX4_takesNumbers_75 rfl (Nat.le_of_ble_eq_true rfl) ?_
            refine z_iconst (pc := 78) h dX4_takesNumbers_78 ?_
            refine z_zret (pc := 79) h rfl (by omega) dX4_takesNumbers_79 ?_
            exact wrong (by rw [if_neg (by omega)]; omega)
        · refine z_aloadR_n (pc := 12) h dX4_takesNumbers_12 rfl ?_
          refine z_getIq (pc := 13) (c := 4) (j := 8) h (zo_s _ _ _) (by first | assumption | rfl) rfl rfl fl_X4_45 dX4_takesNumbers_13 (fun g13 => ?_)
          refine z_iconst (pc := 16) h dX4_takesNumbers_16 ?_
          refine z_icmp_eq (pc := 17) (tgt := 31) h (by omega) (by omega) dX4_takesNumbers_17 (by decide) (fun c17 => ?_) (fun c17 => ?_)
          · have hk2 : tK ((σ 1).2 0) ((σ 1).1 1) (nQ ((σ 1).2 0) ((σ 1).1 1) q i) = 2 := by omega
            have hvb := tV_b hk2
            have e9' := e9 hk2
            refine z_aloadR_n (pc := 31) h dX4_takesNumbers_31 rfl ?_
            refine z_getA4 (pc := 32) (c := 4) (j := 2) h (by first | assumption | rfl) rfl rfl fl_X4_18 dX4_takesNumbers_32 ?_
            refine z_iload_n (pc := 35) h dX4_takesNumbers_35 rfl ?_
            refine z_aloadR_n (pc := 36) h dX4_takesNumbers_36 rfl ?_
            refine z_getIq (pc := 37) (c := 4) (j := 9) h (zo_s _ _ _) (by first | assumption | rfl) rfl rfl fl_X4_79 dX4_takesNumbers_37 (fun g37 => ?_)
            refine z_iasto (pc := 40) (c := 4) (j := 2) (L := 5) h (by first | assumption | rfl) (by decide) rfl (by decide) (by omega) (by omega) (by omega) dX4_takesNumbers_40 ?_
            refine z_aloadR_n (pc := 41) h dX4_takesNumbers_41 rfl ?_
            refine z_getA4 (pc := 42) (c := 4) (j := 3) h (by first | assumption | rfl) rfl rfl fl_X4_22 dX4_takesNumbers_42 ?_
            refine z_iload_n (pc := 45) h dX4_takesNumbers_45 rfl ?_
            refine z_aloadR_n (pc := 46) h dX4_takesNumbers_46 rfl ?_
            refine z_getIq (pc := 47) (c := 4) (j := 7) h (zo_s _ _ _) (by first | assumption | rfl) rfl rfl fl_X4_68 dX4_takesNumbers_47 (fun g47 => ?_)
            try simp only [osa_1, osa_2, oss_1, oss_2, osA_1, osA_2, zup_s, reduceIte, Nat.reduceEqDiff] at g47 ⊢
            refine z_iasto (pc := 50) (c := 4) (j := 3) (L := 5) h (by first | assumption | rfl) (by decide) rfl (by decide) (by omega) (by omega) (by omega) dX4_takesNumbers_50 ?_
            generalize hyy : osa (osa y 2 i (y.1 9)) 3 i (y.1 7) = yy
            have f6 : yy.1 6 = y.1 6 := by rw [← hyy]; rfl
            have f4 : yy.1 4 = y.1 4 ∧ yy.1 5 = y.1 5 := by rw [← hyy]; exact ⟨rfl, rfl⟩
            have fv : yy.2 2 = zup (y.2 2) i (y.1 9) ∧ yy.2 3 = zup (y.2 3) i (y.1 7) := by rw [← hyy]; exact ⟨rfl, rfl⟩
            clear hyy
            refine z_aloadR_n (pc := 51) h dX4_takesNumbers_51 rfl ?_
            refine z_callV (pc := 52) (c := 4) h (c_advance (by rw [f6]; omega) hn) (by decide) (by first | assumption | rfl) rfl mv_X4_advance ml_X4_42 rfl dX4_takesNumbers_52 rfl (Nat.le_of_ble_eq_true rfl) (fun r52 τ52 q52 => ?_)
            obtain ⟨rfl, r', rfl, hA⟩ := q52
            have hTr := hA.tl (by rw [f6]; omega) (by rw [f6]; omega)
            have hKr := hA.kr
            rw [f6, e6, ← nQ_S _ _ _ h1] at hTr
            refine z_inc_2 (pc := 55) h dX4_takesNumbers_55 (by decide) rfl ?_
            refine z_goto (pc := 58) (tgt := 2) h dX4_takesNumbers_58 (by decide) ?_
            refine ih (i + 1) r' (by omega) (by omega) (by omega) ?_ hTr (fun j a b => ?_) (fun j a b => ?_)
            · rw [hKr.1 4 (by omega), hKr.1 5 (by omega), f4.1, f4.2]; exact hy
            · rw [hKr.2, fv.1, fv.2]
              by_cases e : j = i
              · rw [e, zup_s, zup_s, e9', e7]; exact ⟨rfl, rfl⟩
              · rw [zup_n _ _ e, zup_n _ _ e]; exact hv j a (by omega)
            · by_cases e : j = i
              · rw [e]; exact hk2
              · exact hk j a (by omega)
          · refine z_aloadR_n (pc := 20) h dX4_takesNumbers_20 rfl ?_
            refine z_iconst (pc := 21) h dX4_takesNumbers_21 ?_
            refine z_aloadR_n (pc := 22) h dX4_takesNumbers_22 rfl ?_
            refine z_getIq (pc := 23) (c := 4) (j := 7) h (zo_s _ _ _) (by first | assumption | rfl) rfl rfl fl_X4_68 dX4_takesNumbers_23 (fun g23 => ?_)
            refine z_vV (pc := 26) (c := 4) h (c_note1 (by omega)) (by decide) (by first | assumption | rfl) rfl mv_X4_note ml_X4_90 rfl dX4_takesNumbers_26 rfl (Nat.le_of_ble_eq_true rfl) ?_
            refine z_iconst (pc := 29) h dX4_takesNumbers_29 ?_
            refine z_zret (pc := 30) h rfl (by omega) dX4_takesNumbers_30 ?_
            exact wrong (by rw [if_pos (by omega)]; omega)
  refine z_iconst (pc := 0) h dX4_takesNumbers_0 ?_
  refine z_ist_2 (pc := 1) h dX4_takesNumbers_1 (by decide) rfl ?_
  exact L (c + 1).toNat 0 r (by omega) (by omega) (by omega) ⟨rfl, rfl⟩ hT (fun j a b => by omega) (fun j a b => by omega)
def chk (b : Int × Int) (v lo hi p : Int) : Int × Int := if v < lo ∨ hi < v then nt b 2 p else b
theorem c_checkNumber {σ : zS} {r : zOb} {i lo hi : Int} (hi0 : 0 ≤ i ∧ i ≤ 4) (hv : 0 ≤ r.2 2 i ∧ r.2 2 i ≤ 999) (hp : 0 ≤ r.2 3 i ∧ r.2 3 i ≤ 400) (hl : 0 ≤ lo ∧ lo ≤ 999) (hh : 0 ≤ hi ∧ hi ≤ 999) : zCv M_X4_checkNumber 2 [zR 2, zI i, zI lo, zI hi] (zo σ 2 r) (zo σ 2 (ntO r (chk (r.1 4, r.1 5) (r.2 2 i) lo hi (r.2 3 i)))) := by
  refine zC_of (M := M_X4_checkNumber) (ls := [some (zR 2), some (zI i), some (zI lo), some (zI hi)]) (n := 0) (by decide) (fun ad => Nat.le_of_ble_eq_true rfl) rfl (fun x h => ?_)
  have e : (r.2 2 i < lo ∨ hi < r.2 2 i) → chk (r.1 4, r.1 5) (r.2 2 i) lo hi (r.2 3 i) = nt (r.1 4, r.1 5) 2 (r.2 3 i) := fun z => if_pos z
  have e2 : ¬ (r.2 2 i < lo ∨ hi < r.2 2 i) → chk (r.1 4, r.1 5) (r.2 2 i) lo hi (r.2 3 i) = (r.1 4, r.1 5) := fun z => if_neg z
  refine z_aloadR_n (pc := 0) h dX4_checkNumber_0 rfl ?_
  refine z_getA4 (pc := 1) (c := 4) (j := 2) h (by first | assumption | rfl) rfl rfl fl_X4_18 dX4_checkNumber_1 ?_
  refine z_iload_n (pc := 4) h dX4_checkNumber_4 rfl ?_
  refine z_ialdq (pc := 5) (c := 4) (j := 2) (L := 5) h (zo_s _ _ _) (by first | assumption | rfl) (by decide) rfl (by decide) (by omega) (by omega) dX4_checkNumber_5 (fun g5 => ?_)
  refine z_iload_n (pc := 6) h dX4_checkNumber_6 rfl ?_
  refine z_icmp_lt (pc := 7) (tgt := 20) h (by omega) (by omega) dX4_checkNumber_7 (by decide) (fun c7 => ?_) (fun c7 => ?_)
  · refine z_aloadR_n (pc := 20) h dX4_checkNumber_20 rfl ?_
    refine z_iconst (pc := 21) h dX4_checkNumber_21 ?_
    refine z_aloadR_n (pc := 22) h dX4_checkNumber_22 rfl ?_
    refine z_getA4 (pc := 23) (c := 4) (j := 3) h (by first | assumption | rfl) rfl rfl fl_X4_22 dX4_checkNumber_23 ?_
    refine z_iload_n (pc := 26) h dX4_checkNumber_26 rfl ?_
    refine z_ialdq (pc := 27) (c := 4) (j := 3) (L := 5) h (zo_s _ _ _) (by first | assumption | rfl) (by decide) rfl (by decide) (by omega) (by omega) dX4_checkNumber_27 (fun g27 => ?_)
    refine z_vV (pc := 28) (c := 4) h (c_note (by omega) (by omega)) (by decide) (by first | assumption | rfl) rfl mv_X4_note ml_X4_90 rfl dX4_checkNumber_28 rfl (Nat.le_of_ble_eq_true rfl) ?_
    refine z_ret (pc := 31) h rfl dX4_checkNumber_31 ?_
    first
    | (rw [e (by omega)]; exact ⟨rfl, rfl⟩)
    | (rw [e2 (by omega), ntO_self]; exact ⟨rfl, rfl⟩)
  · refine z_aloadR_n (pc := 10) h dX4_checkNumber_10 rfl ?_
    refine z_getA4 (pc := 11) (c := 4) (j := 2) h (by first | assumption | rfl) rfl rfl fl_X4_18 dX4_checkNumber_11 ?_
    refine z_iload_n (pc := 14) h dX4_checkNumber_14 rfl ?_
    refine z_ialdq (pc := 15) (c := 4) (j := 2) (L := 5) h (zo_s _ _ _) (by first | assumption | rfl) (by decide) rfl (by decide) (by omega) (by omega) dX4_checkNumber_15 (fun g15 => ?_)
    refine z_iload_n (pc := 16) h dX4_checkNumber_16 rfl ?_
    refine z_icmp_le (pc := 17) (tgt := 31) h (by omega) (by omega) dX4_checkNumber_17 (by decide) (fun c17 => ?_) (fun c17 => ?_)
    · refine z_ret (pc := 31) h rfl dX4_checkNumber_31 ?_
      first
      | (rw [e (by omega)]; exact ⟨rfl, rfl⟩)
      | (rw [e2 (by omega), ntO_self]; exact ⟨rfl, rfl⟩)
    · refine z_aloadR_n (pc := 20) h dX4_checkNumber_20 rfl ?_
      refine z_iconst (pc := 21) h dX4_checkNumber_21 ?_
      refine z_aloadR_n (pc := 22) h dX4_checkNumber_22 rfl ?_
      refine z_getA4 (pc := 23) (c := 4) (j := 3) h (by first | assumption | rfl) rfl rfl fl_X4_22 dX4_checkNumber_23 ?_
      refine z_iload_n (pc := 26) h dX4_checkNumber_26 rfl ?_
      refine z_ialdq (pc := 27) (c := 4) (j := 3) (L := 5) h (zo_s _ _ _) (by first | assumption | rfl) (by decide) rfl (by decide) (by omega) (by omega) dX4_checkNumber_27 (fun g27 => ?_)
      refine z_vV (pc := 28) (c := 4) h (c_note (by omega) (by omega)) (by decide) (by first | assumption | rfl) rfl mv_X4_note ml_X4_90 rfl dX4_checkNumber_28 rfl (Nat.le_of_ble_eq_true rfl) ?_
      refine z_ret (pc := 31) h rfl dX4_checkNumber_31 ?_
      first
      | (rw [e (by omega)]; exact ⟨rfl, rfl⟩)
      | (rw [e2 (by omega), ntO_self]; exact ⟨rfl, rfl⟩)
