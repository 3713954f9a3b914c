/-! The model: the numbers of a truck. -/
def nG (f : Int → Int) (n q c : Int) : Int := zfst (fun j => decide (tK f n (nQ f n q j) ≠ 2)) c
theorem nG_e {f : Int → Int} {n q c j : Int} (h0 : 0 ≤ j) (h1 : j < c) (ha : ∀ i, 0 ≤ i → i < j → tK f n (nQ f n q i) = 2) (hj : tK f n (nQ f n q j) ≠ 2) : nG f n q c = j :=
  zfst_some h0 h1 (decide_eq_true hj) (fun i a b => decide_eq_false (fun z => z (ha i a b)))
theorem nG_n {f : Int → Int} {n q c : Int} (ha : ∀ i, 0 ≤ i → i < c → tK f n (nQ f n q i) = 2) : nG f n q c = -1 :=
  zfst_none (fun i a b => decide_eq_false (fun z => z (ha i a b)))
theorem nG_ok {f : Int → Int} {n q c : Int} (h : nG f n q c = -1) : ∀ i, 0 ≤ i → i < c → tK f n (nQ f n q i) = 2 := by
  rcases zfst_cases (fun j => decide (tK f n (nQ f n q j) ≠ 2)) c with z | z
  · exact fun i a b => Decidable.not_not.mp (of_decide_eq_false (z.2 i a b))
  · have : nG f n q c = zfst (fun j => decide (tK f n (nQ f n q j) ≠ 2)) c := rfl
    omega
theorem nG_b {f : Int → Int} {n q c : Int} (h : nG f n q c ≠ -1) : 0 ≤ nG f n q c ∧ nG f n q c < c ∧ (∀ i, 0 ≤ i → i < nG f n q c → tK f n (nQ f n q i) = 2) ∧ tK f n (nQ f n q (nG f n q c)) ≠ 2 := by
  rcases zfst_cases (fun j => decide (tK f n (nQ f n q j) ≠ 2)) c with z | z
  · exact absurd z.1 h
  · exact ⟨z.1, z.2.1, fun i a b => Decidable.not_not.mp (of_decide_eq_false (z.2.2.2 i a b)), of_decide_eq_true z.2.2.1⟩
/-- numbers, then the sign -/
theorem nF_G {f : Int → Int} {n q c : Int} (hc : 0 ≤ c) : (nG f n q c ≠ -1 → nF f n q c = nG f n q c) ∧ (nG f n q c = -1 → tK f n (nQ f n q c) ≠ 3 → nF f n q c = c) ∧ (nG f n q c = -1 → tK f n (nQ f n q c) = 3 → nF f n q c = -1) := by
  refine ⟨fun h => ?_, fun h h3 => ?_, fun h h3 => nF_n (nG_ok h) h3⟩
  · have z := nG_b h
    exact nF_e z.1 (by omega) z.2.2.1 (by rw [if_pos z.2.1]; exact z.2.2.2)
  · exact nF_e hc (Int.le_refl c) (nG_ok h) (by rw [if_neg (by omega)]; exact h3)
def CB (V P lo hi : Int → Int) (b : Int × Int) (k : Int) : Int × Int := zfor (fun j b => chk b (V j) (lo j) (hi j) (P j)) k b
theorem CB_S (V P lo hi : Int → Int) (b : Int × Int) {k : Int} (h : 0 ≤ k) : CB V P lo hi b (k + 1) = chk (CB V P lo hi b k) (V k) (lo k) (hi k) (P k) := zfor_S _ h b
def loI (_ : Int) : Int := 0
def hiI (j : Int) : Int := if j = 0 then 99 else 15
def loO (j : Int) : Int := if 2 < j then 1 else 0
def hiO (j : Int) : Int := if j = 0 then 99 else if j = 1 then 3 else if j = 2 then 199 else if j = 3 then 40 else 9
def AC (V : Int → Int) (k : Int) : Bool := zfor (fun j e => e && (decide (j = 0) || decide (V j ≤ 15))) k true
theorem AC_S (V : Int → Int) {k : Int} (h : 0 ≤ k) : AC V (k + 1) = (AC V k && (decide (k = 0) || decide (V k ≤ 15))) := zfor_S _ h true
theorem AC_5 (V : Int → Int) : AC V 5 = decide (V 1 ≤ 15 ∧ V 2 ≤ 15 ∧ V 3 ≤ 15 ∧ V 4 ≤ 15) := by
  show (((((true && (true || decide (V 0 ≤ 15))) && (false || decide (V 1 ≤ 15))) && (false || decide (V 2 ≤ 15))) && (false || decide (V 3 ≤ 15))) && (false || decide (V 4 ≤ 15))) = _
  by_cases h1 : V 1 ≤ 15 <;> by_cases h2 : V 2 ≤ 15 <;> by_cases h3 : V 3 ≤ 15 <;> by_cases h4 : V 4 ≤ 15 <;> simp [h1, h2, h3, h4]
def KU (m y : zOb) : Prop := (∀ j, (j ≤ 5 ∨ j = 7 ∨ j = 15 ∨ j = 16 ∨ j = 18 ∨ 20 ≤ j) → y.1 j = m.1 j) ∧ (∀ j, j ≠ 18 → y.2 j = m.2 j)
theorem KU.rf (m : zOb) : KU m m := ⟨fun _ _ => rfl, fun _ _ => rfl⟩
theorem KU.tr {m y z : zOb} (h : KU m y) (g : KU y z) : KU m z := ⟨fun j hj => (g.1 j hj).trans (h.1 j hj), fun j hj => (g.2 j hj).trans (h.2 j hj)⟩
theorem KS.ku {m y : zOb} (h : KS m y) : KU m y := ⟨fun j hj => h.1 j (by omega), fun j _ => by rw [h.2]⟩
def b01 (b : Bool) : Int := if b = true then 1 else 0
theorem m8_inNumbers {σ : zS} {m : zOb} {f : Int → Int} {n q : Int} {b : Int × Int} (h2 : m.2 2 = f) (h7 : m.1 7 = n) (h4 : n ≤ 400) (hT : TOK f n q m) (hb : (m.1 14, m.1 13) = b) : zC M_X8_inNumbers 5 [zR 31] (zo σ 31 m) (fun rr τ' => rr = some (zB (decide (nG f n q 5 = -1))) ∧ ∃ m', τ' = zo σ 31 m' ∧ KU m m' ∧ (if nG f n q 5 = -1 then TOK f n (nQ f n q 5) m' ∧ (m'.1 14, m'.1 13) = CB (vN f n q) (pN f n q) loI hiI b 5 ∧ (∀ k, 1 ≤ k → k ≤ 5 → m'.2 18 k = pIn (vN f n q) k) ∧ m'.2 18 0 = m.2 18 0 ∧ m'.1 19 = b01 (AC (vN f n q) 5) else m'.1 12 = tS f n (nQ f n q (nG f n q 5)))) := by
  have hq := hT.1
  refine zC_of (M := M_X8_inNumbers) (ls := [some (zR 31), none]) (n := 1) (by decide) (fun ad => Nat.le_of_ble_eq_true rfl) rfl (fun x h => ?_)
  have L : ∀ (k : Nat) (i : Int) (y : zOb), 1 ≤ i → i ≤ 6 → 6 - i < k → KU m y → TOK f n (nQ f n q (i - 1)) y → (y.1 14, y.1 13) = CB (vN f n q) (pN f n q) loI hiI b (i - 1) → (∀ k, 1 ≤ k → k < i → y.2 18 k = pIn (vN f n q) k) → y.2 18 0 = m.2 18 0 → y.1 19 = b01 (AC (vN f n q) (i - 1)) → (∀ j, 0 ≤ j → j < i - 1 → tK f n (nQ f n q j) = 2) → zW x (fun rr τ' => rr = some (zB (decide (nG f n q 5 = -1))) ∧ ∃ m', τ' = zo σ 31 m' ∧ KU m m' ∧ (if nG f n q 5 = -1 then TOK f n (nQ f n q 5) m' ∧ (m'.1 14, m'.1 13) = CB (vN f n q) (pN f n q) loI hiI b 5 ∧ (∀ k, 1 ≤ k → k ≤ 5 → m'.2 18 k = pIn (vN f n q) k) ∧ m'.2 18 0 = m.2 18 0 ∧ m'.1 19 = b01 (AC (vN f n q) 5) else m'.1 12 = tS f n (nQ f n q (nG f n q 5)))) 7 [some (zR 31), some (zI i)] [] (zo σ 31 y) := by
    intro k
    induction k with
    | zero => intro i y g1 g2 g3; omega
    | succ k ih =>
      intro i y g1 g2 g3 hk hTy hby hpc hp0 hac hall
      have y2 : y.2 2 = f := by rw [hk.2 2 (by decide)]; exact h2
      have y7 : y.1 7 = n := by rw [hk.1 7 (by omega)]; exact h7
      have eC := CB_S (vN f n q) (pN f n q) loI hiI b (k := i - 1) (by omega)
      have eA := AC_S (vN f n q) (k := i - 1) (by omega)
      have eQ := nQ_S f n q (k := i - 1) (by omega)
      rw [show i - 1 + 1 = i by omega] at eC eA eQ
      have hhi : (0 : Int) ≤ hiI (i - 1) ∧ hiI (i - 1) ≤ 999 := by unfold hiI; split <;> omega
      refine z_iload_n (pc := 7) h dX8_inNumbers_7 rfl ?_
      refine z_bipush (pc := 8) h dX8_inNumbers_8 (by decide) ?_
      refine z_icmp_ge (pc := 10) (tgt := 99) h (by omega) (by omega) dX8_inNumbers_10 (by decide) (fun c10 => ?_) (fun c10 => ?_)
      · refine z_iconst (pc := 99) h dX8_inNumbers_99 ?_
        refine z_zret (pc := 100) h rfl (by omega) dX8_inNumbers_100 ?_
        have hi6 : i - 1 = 5 := by omega
        rw [hi6] at hTy hby hac hall
        have e := nG_n hall
        refine ⟨by rw [e]; rfl, y, rfl, hk, ?_⟩
        rw [if_pos e]
        exact ⟨hTy, hby, fun k a b => hpc k a (by omega), hp0, hac⟩
      · refine z_aloadR_n (pc := 13) h dX8_inNumbers_13 rfl ?_
        refine z_iconst (pc := 14) h dX8_inNumbers_14 ?_
        refine z_iload_n (pc := 15) h dX8_inNumbers_15 rfl ?_
        refine z_iconst (pc := 16) h dX8_inNumbers_16 ?_
        refine z_icmp_ne (pc := 17) (tgt := 25) h (by omega) (by omega) dX8_inNumbers_17 (by decide) (fun c17 => ?_) (fun c17 => ?_)
        · refine z_bipush (pc := 25) h dX8_inNumbers_25 (by decide) ?_
          have hhe : hiI (i - 1) = if i = 1 then 99 else 15 := by
            unfold hiI
            by_cases z : i = 1
            · rw [if_pos z, if_pos (by omega)]
            · rw [if_neg z, if_neg (by omega)]
          first
          | (rw [if_pos (by omega)] at hhe; rw [← hhe])
          | (rw [if_neg (by omega)] at hhe; rw [← hhe])
          refine z_callV (pc := 27) (c := 8) h (m8_takes y2 y7 h4 hTy hby (by omega) hhi) (by decide) (by first | assumption | rfl) rfl mv_X8_takes ml_X8_148 rfl dX8_inNumbers_27 rfl (Nat.le_of_ble_eq_true rfl) (fun r27 τ27 q27 => ?_)
          obtain ⟨rfl, z, rfl, hzk, hz⟩ := q27
          refine z_ifneB (pc := 30) (tgt := 35) h dX8_inNumbers_30 (by decide) (fun c30 => ?_) (fun c30 => ?_)
          · have hk2 := of_decide_eq_true c30
            rw [if_pos hk2] at hz
            have hvb := tV_b hk2
            have z17 : z.1 17 = vN f n q (i - 1) := hz.1
            have zv : 0 ≤ vN f n q (i - 1) ∧ vN f n q (i - 1) ≤ 999 := hvb
            have zb : (z.1 14, z.1 13) = CB (vN f n q) (pN f n q) loI hiI b i := by rw [eC]; exact hz.2.1
            have zT : TOK f n (nQ f n q i) z := by rw [eQ]; exact hz.2.2
            have z19 : z.1 19 = b01 (AC (vN f n q) (i - 1)) := by rw [hzk.1 19 (by omega)]; exact hac
            have z18 : z.2 18 = y.2 18 := by rw [hzk.2]
            have zku := hk.tr hzk.ku
            have hwj : pIn (vN f n q) i = if 1 < i ∧ 15 < vN f n q (i - 1) then 0 else vN f n q (i - 1) := by
              unfold pIn wj
              by_cases w : i = 1
              · rw [if_neg (by omega), if_pos w, if_neg (by omega), w]; rfl
              · rw [if_neg (by omega), if_neg w]
                by_cases u : vN f n q (i - 1) ≤ 15
                · rw [if_pos u, if_neg (by omega)]
                · rw [if_neg u, if_pos (by omega)]
            have hA1 : AC (vN f n q) i = true ↔ (z.1 19 = 1 ∧ (i = 1 ∨ vN f n q (i - 1) ≤ 15)) := by
              rw [eA, Bool.and_eq_true, Bool.or_eq_true, decide_eq_true_iff, decide_eq_true_iff, z19]
              unfold b01
              cases AC (vN f n q) (i - 1) with
              | true => simp; omega
              | false => simp
            have hA2 : ∀ v : Int, v = b01 (AC (vN f n q) i) ↔ (if z.1 19 = 1 ∧ (i = 1 ∨ vN f n q (i - 1) ≤ 15) then v = 1 else v = 0) := by
              intro v
              unfold b01
              by_cases w : z.1 19 = 1 ∧ (i = 1 ∨ vN f n q (i - 1) ≤ 15)
              · rw [if_pos w, if_pos (hA1.mpr w)]
              · rw [if_neg w, if_neg (fun u => w (hA1.mp u))]
            refine z_aloadR_n (pc := 35) h dX8_inNumbers_35 rfl ?_
            refine z_aloadR_n (pc := 36) h dX8_inNumbers_36 rfl ?_
            refine z_getZq (pc := 37) (c := 8) (j := 19) h (zo_s _ _ _) (by first | assumption | rfl) rfl rfl fl_X8_152 dX8_inNumbers_37 (fun g37 => ?_)
            refine z_if_eq (pc := 40) (tgt := 61) h (by omega) dX8_inNumbers_40 (by decide) (fun c40 => ?_) (fun c40 => ?_)
            · refine z_iconst (pc := 61) h dX8_inNumbers_61 ?_
              refine z_putZo (pc := 62) (c := 8) (j := 19) h (by first | assumption | rfl) rfl rfl fl_X8_152 rfl (tyX8_ok 19 (by decide)) dX8_inNumbers_62 (by omega) ?_
              refine z_aloadR_n (pc := 65) h dX8_inNumbers_65 rfl ?_
              refine z_getA4 (pc := 66) (c := 8) (j := 18) h (by first | assumption | rfl) rfl rfl fl_X8_27 dX8_inNumbers_66 ?_
              refine z_iload_n (pc := 69) h dX8_inNumbers_69 rfl ?_
              refine z_iload_n (pc := 70) h dX8_inNumbers_70 rfl ?_
              refine z_iconst (pc := 71) h dX8_inNumbers_71 ?_
              refine z_icmp_le (pc := 72) (tgt := 88) h (by omega) (by omega) dX8_inNumbers_72 (by decide) (fun c72 => ?_) (fun c72 => ?_)
              · refine z_aloadR_n (pc := 88) h dX8_inNumbers_88 rfl ?_
                refine z_getIq (pc := 89) (c := 8) (j := 17) h (zo_s _ _ _) (by first | assumption | rfl) rfl rfl fl_X8_134 dX8_inNumbers_89 (fun g89 => ?_)
                try simp only [osa_1, osa_2, oss_1, oss_2, osA_1, osA_2, zup_s, reduceIte, Nat.reduceEqDiff] at g89 ⊢
                refine z_iasto (pc := 92) (c := 8) (j := 18) (L := 6) h (by first | assumption | rfl) (by decide) rfl (by decide) (by omega) (by omega) (by omega) dX8_inNumbers_92 ?_
                refine z_inc_1 (pc := 93) h dX8_inNumbers_93 (by decide) rfl ?_
                refine z_goto (pc := 96) (tgt := 7) h dX8_inNumbers_96 (by decide) ?_
                have e11 : i + 1 - 1 = i := by omega
                refine ih (i + 1) _ (by omega) (by omega) (by omega) ⟨fun j hj => ?_, fun j hj => ?_⟩ (by rw [e11]; exact zT) (by rw [e11]; exact zb) (fun k a b => ?_) ?_ ?_ (fun j a b => ?_)
                · show (if j = 19 then _ else z.1 j) = _
                  rw [if_neg (by omega)]; exact zku.1 j hj
                · show (if j = 18 then _ else z.2 j) = _
                  rw [if_neg hj]; exact zku.2 j hj
                · show zup (z.2 18) i _ k = _
                  by_cases w : k = i
                  · rw [w, zup_s, hwj]
                    first
                    | (rw [if_pos (by omega)]; done)
                    | (rw [if_neg (by omega)]; exact z17)
                  · rw [zup_n _ _ w, z18]; exact hpc k a (by omega)
                · show zup (z.2 18) i _ 0 = _
                  rw [zup_n _ _ (by omega), z18]; exact hp0
                · rw [e11]
                  refine (hA2 _).mpr ?_
                  first
                  | (rw [if_pos (by omega)]; rfl)
                  | (rw [if_neg (by omega)]; rfl)
                · by_cases w : j = i - 1
                  · rw [w]; exact hk2
                  · exact hall j a (by omega)
              · refine z_aloadR_n (pc := 75) h dX8_inNumbers_75 rfl ?_
                refine z_getIq (pc := 76) (c := 8) (j := 17) h (zo_s _ _ _) (by first | assumption | rfl) rfl rfl fl_X8_134 dX8_inNumbers_76 (fun g76 => ?_)
                try simp only [osa_1, osa_2, oss_1, oss_2, osA_1, osA_2, zup_s, reduceIte, Nat.reduceEqDiff] at g76 ⊢
                refine z_bipush (pc := 79) h dX8_inNumbers_79 (by decide) ?_
                refine z_icmp_le (pc := 81) (tgt := 88) h (by omega) (by omega) dX8_inNumbers_81 (by decide) (fun c81 => ?_) (fun c81 => ?_)
                · refine z_aloadR_n (pc := 88) h dX8_inNumbers_88 rfl ?_
                  refine z_getIq (pc := 89) (c := 8) (j := 17) h (zo_s _ _ _) (by first | assumption | rfl) rfl rfl fl_X8_134 dX8_inNumbers_89 (fun g89 => ?_)
                  try simp only [osa_1, osa_2, oss_1, oss_2, osA_1, osA_2, zup_s, reduceIte, Nat.reduceEqDiff] at g89 ⊢
                  refine z_iasto (pc := 92) (c := 8) (j := 18) (L := 6) h (by first | assumption | rfl) (by decide) rfl (by decide) (by omega) (by omega) (by omega) dX8_inNumbers_92 ?_
                  refine z_inc_1 (pc := 93) h dX8_inNumbers_93 (by decide) rfl ?_
                  refine z_goto (pc := 96) (tgt := 7) h dX8_inNumbers_96 (by decide) ?_
                  have e11 : i + 1 - 1 = i := by omega
                  refine ih (i + 1) _ (by omega) (by omega) (by omega) ⟨fun j hj => ?_, fun j hj => ?_⟩ (by rw [e11]; exact zT) (by rw [e11]; exact zb) (fun k a b => ?_) ?_ ?_ (fun j a b => ?_)
                  · show (if j = 19 then _ else z.1 j) = _
                    rw [if_neg (by omega)]; exact zku.1 j hj
                  · show (if j = 18 then _ else z.2 j) = _
                    rw [if_neg hj]; exact zku.2 j hj
                  · show zup (z.2 18) i _ k = _
                    by_cases w : k = i
                    · rw [w, zup_s, hwj]
                      first
                      | (rw [if_pos (by omega)]; done)
                      | (rw [if_neg (by omega)]; exact z17)
                    · rw [zup_n _ _ w, z18]; exact hpc k a (by omega)
                  · show zup (z.2 18) i _ 0 = _
                    rw [zup_n _ _ (by omega), z18]; exact hp0
                  · rw [e11]
                    refine (hA2 _).mpr ?_
                    first
                    | (rw [if_pos (by omega)]; rfl)
                    | (rw [if_neg (by omega)]; rfl)
                  · by_cases w : j = i - 1
                    · rw [w]; exact hk2
                    · exact hall j a (by omega)
                · refine z_iconst (pc := 84) h dX8_inNumbers_84 ?_
                  refine z_goto (pc := 85) (tgt := 92) h dX8_inNumbers_85 (by decide) ?_
                  refine z_iasto (pc := 92) (c := 8) (j := 18) (L := 6) h (by first | assumption | rfl) (by decide) rfl (by decide) (by omega) (by omega) (by omega) dX8_inNumbers_92 ?_
                  refine z_inc_1 (pc := 93) h dX8_inNumbers_93 (by decide) rfl ?_
                  refine z_goto (pc := 96) (tgt := 7) h dX8_inNumbers_96 (by decide) ?_
                  have e11 : i + 1 - 1 = i := by omega
                  refine ih (i + 1) _ (by omega) (by omega) (by omega) ⟨fun j hj => ?_, fun j hj => ?_⟩ (by rw [e11]; exact zT) (by rw [e11]; exact zb) (fun k a b => ?_) ?_ ?_ (fun j a b => ?_)
                  · show (if j = 19 then _ else z.1 j) = _
                    rw [if_neg (by omega)]; exact zku.1 j hj
                  · show (if j = 18 then _ else z.2 j) = _
                    rw [if_neg hj]; exact zku.2 j hj
                  · show zup (z.2 18) i _ k = _
                    by_cases w : k = i
                    · rw [w, zup_s, hwj]
                      first
                      | (rw [if_pos (by omega)]; done)
                      | (rw [if_neg (by omega)]; exact z17)
                    · rw [zup_n _ _ w, z18]; exact hpc k a (by omega)
                  · show zup (z.2 18) i _ 0 = _
                    rw [zup_n _ _ (by omega), z18]; exact hp0
                  · rw [e11]
                    refine (hA2 _).mpr ?_
                    first
                    | (rw [if_pos (by omega)]; rfl)
                    | (rw [if_neg (by omega)]; rfl)
                  · by_cases w : j = i - 1
                    · rw [w]; exact hk2
                    · exact hall j a (by omega)
            · refine z_iload_n (pc := 43) h dX8_inNumbers_43 rfl ?_
              refine z_iconst (pc := 44) h dX8_inNumbers_44 ?_
              refine z_icmp_eq (pc := 45) (tgt := 57) h (by omega) (by omega) dX8_inNumbers_45 (by decide) (fun c45 => ?_) (fun c45 => ?_)
              · refine z_iconst (pc := 57) h dX8_inNumbers_57 ?_
                refine z_goto (pc := 58) (tgt := 62) h dX8_inNumbers_58 (by decide) ?_
                refine z_putZo (pc := 62) (c := 8) (j := 19) h (by first | assumption | rfl) rfl rfl fl_X8_152 rfl (tyX8_ok 19 (by decide)) dX8_inNumbers_62 (by omega) ?_
                refine z_aloadR_n (pc := 65) h dX8_inNumbers_65 rfl ?_
                refine z_getA4 (pc := 66) (c := 8) (j := 18) h (by first | assumption | rfl) rfl rfl fl_X8_27 dX8_inNumbers_66 ?_
                refine z_iload_n (pc := 69) h dX8_inNumbers_69 rfl ?_
                refine z_iload_n (pc := 70) h dX8_inNumbers_70 rfl ?_
                refine z_iconst (pc := 71) h dX8_inNumbers_71 ?_
                refine z_icmp_le (pc := 72) (tgt := 88) h (by omega) (by omega) dX8_inNumbers_72 (by decide) (fun c72 => ?_) (fun c72 => ?_)
                · refine z_aloadR_n (pc := 88) h dX8_inNumbers_88 rfl ?_
                  refine z_getIq (pc := 89) (c := 8) (j := 17) h (zo_s _ _ _) (by first | assumption | rfl) rfl rfl fl_X8_134 dX8_inNumbers_89 (fun g89 => ?_)
                  try simp only [osa_1, osa_2, oss_1, oss_2, osA_1, osA_2, zup_s, reduceIte, Nat.reduceEqDiff] at g89 ⊢
                  refine z_iasto (pc := 92) (c := 8) (j := 18) (L := 6) h (by first | assumption | rfl) (by decide) rfl (by decide) (by omega) (by omega) (by omega) dX8_inNumbers_92 ?_
                  refine z_inc_1 (pc := 93) h dX8_inNumbers_93 (by decide) rfl ?_
                  refine z_goto (pc := 96) (tgt := 7) h dX8_inNumbers_96 (by decide) ?_
                  have e11 : i + 1 - 1 = i := by omega
                  refine ih (i + 1) _ (by omega) (by omega) (by omega) ⟨fun j hj => ?_, fun j hj => ?_⟩ (by rw [e11]; exact zT) (by rw [e11]; exact zb) (fun k a b => ?_) ?_ ?_ (fun j a b => ?_)
                  · show (if j = 19 then _ else z.1 j) = _
                    rw [if_neg (by omega)]; exact zku.1 j hj
                  · show (if j = 18 then _ else z.2 j) = _
                    rw [if_neg hj]; exact zku.2 j hj
                  · show zup (z.2 18) i _ k = _
                    by_cases w : k = i
                    · rw [w, zup_s, hwj]
                      first
                      | (rw [if_pos (by omega)]; done)
                      | (rw [if_neg (by omega)]; exact z17)
                    · rw [zup_n _ _ w, z18]; exact hpc k a (by omega)
                  · show zup (z.2 18) i _ 0 = _
                    rw [zup_n _ _ (by omega), z18]; exact hp0
                  · rw [e11]
                    refine (hA2 _).mpr ?_
                    first
                    | (rw [if_pos (by omega)]; rfl)
                    | (rw [if_neg (by omega)]; rfl)
                  · by_cases w : j = i - 1
                    · rw [w]; exact hk2
                    · exact hall j a (by omega)
                · refine z_aloadR_n (pc := 75) h dX8_inNumbers_75 rfl ?_
                  refine z_getIq (pc := 76) (c := 8) (j := 17) h (zo_s _ _ _) (by first | assumption | rfl) rfl rfl fl_X8_134 dX8_inNumbers_76 (fun g76 => ?_)
                  try simp only [osa_1, osa_2, oss_1, oss_2, osA_1, osA_2, zup_s, reduceIte, Nat.reduceEqDiff] at g76 ⊢
                  refine z_bipush (pc := 79) h dX8_inNumbers_79 (by decide) ?_
                  refine z_icmp_le (pc := 81) (tgt := 88) h (by omega) (by omega) dX8_inNumbers_81 (by decide) (fun c81 => ?_) (fun c81 => ?_)
                  · refine z_aloadR_n (pc := 88) h dX8_inNumbers_88 rfl ?_
                    refine z_getIq (pc := 89) (c := 8) (j := 17) h (zo_s _ _ _) (by first | assumption | rfl) rfl rfl fl_X8_134 dX8_inNumbers_89 (fun g89 => ?_)
                    try simp only [osa_1, osa_2, oss_1, oss_2, osA_1, osA_2, zup_s, reduceIte, Nat.reduceEqDiff] at g89 ⊢
                    refine z_iasto (pc := 92) (c := 8) (j := 18) (L := 6) h (by first | assumption | rfl) (by decide) rfl (by decide) (by omega) (by omega) (by omega) dX8_inNumbers_92 ?_
                    refine z_inc_1 (pc := 93) h dX8_inNumbers_93 (by decide) rfl ?_
                    refine z_goto (pc := 96) (tgt := 7) h dX8_inNumbers_96 (by decide) ?_
                    have e11 : i + 1 - 1 = i := by omega
                    refine ih (i + 1) _ (by omega) (by omega) (by omega) ⟨fun j hj => ?_, fun j hj => ?_⟩ (by rw [e11]; exact zT) (by rw [e11]; exact zb) (fun k a b => ?_) ?_ ?_ (fun j a b => ?_)
                    · show (if j = 19 then _ else z.1 j) = _
                      rw [if_neg (by omega)]; exact zku.1 j hj
                    · show (if j = 18 then _ else z.2 j) = _
                      rw [if_neg hj]; exact zku.2 j hj
                    · show zup (z.2 18) i _ k = _
                      by_cases w : k = i
                      · rw [w, zup_s, hwj]
                        first
                        | (rw [if_pos (by omega)]; done)
                        | (rw [if_neg (by omega)]; exact z17)
                      · rw [zup_n _ _ w, z18]; exact hpc k a (by omega)
                    · show zup (z.2 18) i _ 0 = _
                      rw [zup_n _ _ (by omega), z18]; exact hp0
                    · rw [e11]
                      refine (hA2 _).mpr ?_
                      first
                      | (rw [if_pos (by omega)]; rfl)
                      | (rw [if_neg (by omega)]; rfl)
                    · by_cases w : j = i - 1
                      · rw [w]; exact hk2
                      · exact hall j a (by omega)
                  · refine z_iconst (pc := 84) h dX8_inNumbers_84 ?_
                    refine z_goto (pc := 85) (tgt := 92) h dX8_inNumbers_85 (by decide) ?_
                    refine z_iasto (pc := 92) (c := 8) (j := 18) (L := 6) h (by first | assumption | rfl) (by decide) rfl (by decide) (by omega) (by omega) (by omega) dX8_inNumbers_92 ?_
                    refine z_inc_1 (pc := 93) h dX8_inNumbers_93 (by decide) rfl ?_
                    refine z_goto (pc := 96) (tgt := 7) h dX8_inNumbers_96 (by decide) ?_
                    have e11 : i + 1 - 1 = i := by omega
                    refine ih (i + 1) _ (by omega) (by omega) (by omega) ⟨fun j hj => ?_, fun j hj => ?_⟩ (by rw [e11]; exact zT) (by rw [e11]; exact zb) (fun k a b => ?_) ?_ ?_ (fun j a b => ?_)
                    · show (if j = 19 then _ else z.1 j) = _
                      rw [if_neg (by omega)]; exact zku.1 j hj
                    · show (if j = 18 then _ else z.2 j) = _
                      rw [if_neg hj]; exact zku.2 j hj
                    · show zup (z.2 18) i _ k = _
                      by_cases w : k = i
                      · rw [w, zup_s, hwj]
                        first
                        | (rw [if_pos (by omega)]; done)
                        | (rw [if_neg (by omega)]; exact z17)
                      · rw [zup_n _ _ w, z18]; exact hpc k a (by omega)
                    · show zup (z.2 18) i _ 0 = _
                      rw [zup_n _ _ (by omega), z18]; exact hp0
                    · rw [e11]
                      refine (hA2 _).mpr ?_
                      first
                      | (rw [if_pos (by omega)]; rfl)
                      | (rw [if_neg (by omega)]; rfl)
                    · by_cases w : j = i - 1
                      · rw [w]; exact hk2
                      · exact hall j a (by omega)
              · refine z_aloadR_n (pc := 48) h dX8_inNumbers_48 rfl ?_
                refine z_getIq (pc := 49) (c := 8) (j := 17) h (zo_s _ _ _) (by first | assumption | rfl) rfl rfl fl_X8_134 dX8_inNumbers_49 (fun g49 => ?_)
                refine z_bipush (pc := 52) h dX8_inNumbers_52 (by decide) ?_
                refine z_icmp_gt (pc := 54) (tgt := 61) h (by omega) (by omega) dX8_inNumbers_54 (by decide) (fun c54 => ?_) (fun c54 => ?_)
                · refine z_iconst (pc := 61) h dX8_inNumbers_61 ?_
                  refine z_putZo (pc := 62) (c := 8) (j := 19) h (by first | assumption | rfl) rfl rfl fl_X8_152 rfl (tyX8_ok 19 (by decide)) dX8_inNumbers_62 (by omega) ?_
                  refine z_aloadR_n (pc := 65) h dX8_inNumbers_65 rfl ?_
                  refine z_getA4 (pc := 66) (c := 8) (j := 18) h (by first | assumption | rfl) rfl rfl fl_X8_27 dX8_inNumbers_66 ?_
                  refine z_iload_n (pc := 69) h dX8_inNumbers_69 rfl ?_
                  refine z_iload_n (pc := 70) h dX8_inNumbers_70 rfl ?_
                  refine z_iconst (pc := 71) h dX8_inNumbers_71 ?_
                  refine z_icmp_le (pc := 72) (tgt := 88) h (by omega) (by omega) dX8_inNumbers_72 (by decide) (fun c72 => ?_) (fun c72 => ?_)
                  · refine z_aloadR_n (pc := 88) h dX8_inNumbers_88 rfl ?_
                    refine z_getIq (pc := 89) (c := 8) (j := 17) h (zo_s _ _ _) (by first | assumption | rfl) rfl rfl fl_X8_134 dX8_inNumbers_89 (fun g89 => ?_)
                    try simp only [osa_1, osa_2, oss_1, oss_2, osA_1, osA_2, zup_s, reduceIte, Nat.reduceEqDiff] at g89 ⊢
                    refine z_iasto (pc := 92) (c := 8) (j := 18) (L := 6) h (by first | assumption | rfl) (by decide) rfl (by decide) (by omega) (by omega) (by omega) dX8_inNumbers_92 ?_
                    refine z_inc_1 (pc := 93) h dX8_inNumbers_93 (by decide) rfl ?_
                    refine z_goto (pc := 96) (tgt := 7) h dX8_inNumbers_96 (by decide) ?_
                    have e11 : i + 1 - 1 = i := by omega
                    refine ih (i + 1) _ (by omega) (by omega) (by omega) ⟨fun j hj => ?_, fun j hj => ?_⟩ (by rw [e11]; exact zT) (by rw [e11]; exact zb) (fun k a b => ?_) ?_ ?_ (fun j a b => ?_)
                    · show (if j = 19 then _ else z.1 j) = _
                      rw [if_neg (by omega)]; exact zku.1 j hj
                    · show (if j = 18 then _ else z.2 j) = _
                      rw [if_neg hj]; exact zku.2 j hj
                    · show zup (z.2 18) i _ k = _
                      by_cases w : k = i
                      · rw [w, zup_s, hwj]
                        first
                        | (rw [if_pos (by omega)]; done)
                        | (rw [if_neg (by omega)]; exact z17)
                      · rw [zup_n _ _ w, z18]; exact hpc k a (by omega)
                    · show zup (z.2 18) i _ 0 = _
                      rw [zup_n _ _ (by omega), z18]; exact hp0
                    · rw [e11]
                      refine (hA2 _).mpr ?_
                      first
                      | (rw [if_pos (by omega)]; rfl)
                      | (rw [if_neg (by omega)]; rfl)
                    · by_cases w : j = i - 1
                      · rw [w]; exact hk2
                      · exact hall j a (by omega)
                  · refine z_aloadR_n (pc := 75) h dX8_inNumbers_75 rfl ?_
                    refine z_getIq (pc := 76) (c := 8) (j := 17) h (zo_s _ _ _) (by first | assumption | rfl) rfl rfl fl_X8_134 dX8_inNumbers_76 (fun g76 => ?_)
                    try simp only [osa_1, osa_2, oss_1, oss_2, osA_1, osA_2, zup_s, reduceIte, Nat.reduceEqDiff] at g76 ⊢
                    refine z_bipush (pc := 79) h dX8_inNumbers_79 (by decide) ?_
                    refine z_icmp_le (pc := 81) (tgt := 88) h (by omega) (by omega) dX8_inNumbers_81 (by decide) (fun c81 => ?_) (fun c81 => ?_)
                    · refine z_aloadR_n (pc := 88) h dX8_inNumbers_88 rfl ?_
                      refine z_getIq (pc := 89) (c := 8) (j := 17) h (zo_s _ _ _) (by first | assumption | rfl) rfl rfl fl_X8_134 dX8_inNumbers_89 (fun g89 => ?_)
                      try simp only [osa_1, osa_2, oss_1, oss_2, osA_1, osA_2, zup_s, reduceIte, Nat.reduceEqDiff] at g89 ⊢
                      refine z_iasto (pc := 92) (c := 8) (j := 18) (L := 6) h (by first | assumption | rfl) (by decide) rfl (by decide) (by omega) (by omega) (by omega) dX8_inNumbers_92 ?_
                      refine z_inc_1 (pc := 93) h dX8_inNumbers_93 (by decide) rfl ?_
                      refine z_goto (pc := 96) (tgt := 7) h dX8_inNumbers_96 (by decide) ?_
                      have e11 : i + 1 - 1 = i := by omega
                      refine ih (i + 1) _ (by omega) (by omega) (by omega) ⟨fun j hj => ?_, fun j hj => ?_⟩ (by rw [e11]; exact zT) (by rw [e11]; exact zb) (fun k a b => ?_) ?_ ?_ (fun j a b => ?_)
                      · show (if j = 19 then _ else z.1 j) = _
                        rw [if_neg (by omega)]; exact zku.1 j hj
                      · show (if j = 18 then _ else z.2 j) = _
                        rw [if_neg hj]; exact zku.2 j hj
                      · show zup (z.2 18) i _ k = _
                        by_cases w : k = i
                        · rw [w, zup_s, hwj]
                          first
                          | (rw [if_pos (by omega)]; done)
                          | (rw [if_neg (by omega)]; exact z17)
                        · rw [zup_n _ _ w, z18]; exact hpc k a (by omega)
                      · show zup (z.2 18) i _ 0 = _
                        rw [zup_n _ _ (by omega), z18]; exact hp0
                      · rw [e11]
                        refine (hA2 _).mpr ?_
                        first
                        | (rw [if_pos (by omega)]; rfl)
                        | (rw [if_neg (by omega)]; rfl)
                      · by_cases w : j = i - 1
                        · rw [w]; exact hk2
                        · exact hall j a (by omega)
                    · refine z_iconst (pc := 84) h dX8_inNumbers_84 ?_
                      refine z_goto (pc := 85) (tgt := 92) h dX8_inNumbers_85 (by decide) ?_
                      refine z_iasto (pc := 92) (c := 8) (j := 18) (L := 6) h (by first | assumption | rfl) (by decide) rfl (by decide) (by omega) (by omega) (by omega) dX8_inNumbers_92 ?_
                      refine z_inc_1 (pc := 93) h dX8_inNumbers_93 (by decide) rfl ?_
                      refine z_goto (pc := 96) (tgt := 7) h dX8_inNumbers_96 (by decide) ?_
                      have e11 : i + 1 - 1 = i := by omega
                      refine ih (i + 1) _ (by omega) (by omega) (by omega) ⟨fun j hj => ?_, fun j hj => ?_⟩ (by rw [e11]; exact zT) (by rw [e11]; exact zb) (fun k a b => ?_) ?_ ?_ (fun j a b => ?_)
                      · show (if j = 19 then _ else z.1 j) = _
                        rw [if_neg (by omega)]; exact zku.1 j hj
                      · show (if j = 18 then _ else z.2 j) = _
                        rw [if_neg hj]; exact zku.2 j hj
                      · show zup (z.2 18) i _ k = _
                        by_cases w : k = i
                        · rw [w, zup_s, hwj]
                          first
                          | (rw [if_pos (by omega)]; done)
                          | (rw [if_neg (by omega)]; exact z17)
                        · rw [zup_n _ _ w, z18]; exact hpc k a (by omega)
                      · show zup (z.2 18) i _ 0 = _
                        rw [zup_n _ _ (by omega), z18]; exact hp0
                      · rw [e11]
                        refine (hA2 _).mpr ?_
                        first
                        | (rw [if_pos (by omega)]; rfl)
                        | (rw [if_neg (by omega)]; rfl)
                      · by_cases w : j = i - 1
                        · rw [w]; exact hk2
                        · exact hall j a (by omega)
                · refine z_iconst (pc := 57) h dX8_inNumbers_57 ?_
                  refine z_goto (pc := 58) (tgt := 62) h dX8_inNumbers_58 (by decide) ?_
                  refine z_putZo (pc := 62) (c := 8) (j := 19) h (by first | assumption | rfl) rfl rfl fl_X8_152 rfl (tyX8_ok 19 (by decide)) dX8_inNumbers_62 (by omega) ?_
                  refine z_aloadR_n (pc := 65) h dX8_inNumbers_65 rfl ?_
                  refine z_getA4 (pc := 66) (c := 8) (j := 18) h (by first | assumption | rfl) rfl rfl fl_X8_27 dX8_inNumbers_66 ?_
                  refine z_iload_n (pc := 69) h dX8_inNumbers_69 rfl ?_
                  refine z_iload_n (pc := 70) h dX8_inNumbers_70 rfl ?_
                  refine z_iconst (pc := 71) h dX8_inNumbers_71 ?_
                  refine z_icmp_le (pc := 72) (tgt := 88) h (by omega) (by omega) dX8_inNumbers_72 (by decide) (fun c72 => ?_) (fun c72 => ?_)
                  · refine z_aloadR_n (pc := 88) h dX8_inNumbers_88 rfl ?_
                    refine z_getIq (pc := 89) (c := 8) (j := 17) h (zo_s _ _ _) (by first | assumption | rfl) rfl rfl fl_X8_134 dX8_inNumbers_89 (fun g89 => ?_)
                    try simp only [osa_1, osa_2, oss_1, oss_2, osA_1, osA_2, zup_s, reduceIte, Nat.reduceEqDiff] at g89 ⊢
                    refine z_iasto (pc := 92) (c := 8) (j := 18) (L := 6) h (by first | assumption | rfl) (by decide) rfl (by decide) (by omega) (by omega) (by omega) dX8_inNumbers_92 ?_
                    refine z_inc_1 (pc := 93) h dX8_inNumbers_93 (by decide) rfl ?_
                    refine z_goto (pc := 96) (tgt := 7) h dX8_inNumbers_96 (by decide) ?_
                    have e11 : i + 1 - 1 = i := by omega
                    refine ih (i + 1) _ (by omega) (by omega) (by omega) ⟨fun j hj => ?_, fun j hj => ?_⟩ (by rw [e11]; exact zT) (by rw [e11]; exact zb) (fun k a b => ?_) ?_ ?_ (fun j a b => ?_)
                    · show (if j = 19 then _ else z.1 j) = _
                      rw [if_neg (by omega)]; exact zku.1 j hj
                    · show (if j = 18 then _ else z.2 j) = _
                      rw [if_neg hj]; exact zku.2 j hj
                    · show zup (z.2 18) i _ k = _
                      by_cases w : k = i
                      · rw [w, zup_s, hwj]
                        first
                        | (rw [if_pos (by omega)]; done)
                        | (rw [if_neg (by omega)]; exact z17)
                      · rw [zup_n _ _ w, z18]; exact hpc k a (by omega)
                    · show zup (z.2 18) i _ 0 = _
                      rw [zup_n _ _ (by omega), z18]; exact hp0
                    · rw [e11]
                      refine (hA2 _).mpr ?_
                      first
                      | (rw [if_pos (by omega)]; rfl)
                      | (rw [if_neg (by omega)]; rfl)
                    · by_cases w : j = i - 1
                      · rw [w]; exact hk2
                      · exact hall j a (by omega)
                  · refine z_aloadR_n (pc := 75) h dX8_inNumbers_75 rfl ?_
                    refine z_getIq (pc := 76) (c := 8) (j := 17) h (zo_s _ _ _) (by first | assumption | rfl) rfl rfl fl_X8_134 dX8_inNumbers_76 (fun g76 => ?_)
                    try simp only [osa_1, osa_2, oss_1, oss_2, osA_1, osA_2, zup_s, reduceIte, Nat.reduceEqDiff] at g76 ⊢
                    refine z_bipush (pc := 79) h dX8_inNumbers_79 (by decide) ?_
                    refine z_icmp_le (pc := 81) (tgt := 88) h (by omega) (by omega) dX8_inNumbers_81 (by decide) (fun c81 => ?_) (fun c81 => ?_)
                    · refine z_aloadR_n (pc := 88) h dX8_inNumbers_88 rfl ?_
                      refine z_getIq (pc := 89) (c := 8) (j := 17) h (zo_s _ _ _) (by first | assumption | rfl) rfl rfl fl_X8_134 dX8_inNumbers_89 (fun g89 => ?_)
                      try simp only [osa_1, osa_2, oss_1, oss_2, osA_1, osA_2, zup_s, reduceIte, Nat.reduceEqDiff] at g89 ⊢
                      refine z_iasto (pc := 92) (c := 8) (j := 18) (L := 6) h (by first | assumption | rfl) (by decide) rfl (by decide) (by omega) (by omega) (by omega) dX8_inNumbers_92 ?_
                      refine z_inc_1 (pc := 93) h dX8_inNumbers_93 (by decide) rfl ?_
                      refine z_goto (pc := 96) (tgt := 7) h dX8_inNumbers_96 (by decide) ?_
                      have e11 : i + 1 - 1 = i := by omega
                      refine ih (i + 1) _ (by omega) (by omega) (by omega) ⟨fun j hj => ?_, fun j hj => ?_⟩ (by rw [e11]; exact zT) (by rw [e11]; exact zb) (fun k a b => ?_) ?_ ?_ (fun j a b => ?_)
                      · show (if j = 19 then _ else z.1 j) = _
                        rw [if_neg (by omega)]; exact zku.1 j hj
                      · show (if j = 18 then _ else z.2 j) = _
                        rw [if_neg hj]; exact zku.2 j hj
                      · show zup (z.2 18) i _ k = _
                        by_cases w : k = i
                        · rw [w, zup_s, hwj]
                          first
                          | (rw [if_pos (by omega)]; done)
                          | (rw [if_neg (by omega)]; exact z17)
                        · rw [zup_n _ _ w, z18]; exact hpc k a (by omega)
                      · show zup (z.2 18) i _ 0 = _
                        rw [zup_n _ _ (by omega), z18]; exact hp0
                      · rw [e11]
                        refine (hA2 _).mpr ?_
                        first
                        | (rw [if_pos (by omega)]; rfl)
                        | (rw [if_neg (by omega)]; rfl)
                      · by_cases w : j = i - 1
                        · rw [w]; exact hk2
                        · exact hall j a (by omega)
                    · refine z_iconst (pc := 84) h dX8_inNumbers_84 ?_
                      refine z_goto (pc := 85) (tgt := 92) h dX8_inNumbers_85 (by decide) ?_
                      refine z_iasto (pc := 92) (c := 8) (j := 18) (L := 6) h (by first | assumption | rfl) (by decide) rfl (by decide) (by omega) (by omega) (by omega) dX8_inNumbers_92 ?_
                      refine z_inc_1 (pc := 93) h dX8_inNumbers_93 (by decide) rfl ?_
                      refine z_goto (pc := 96) (tgt := 7) h dX8_inNumbers_96 (by decide) ?_
                      have e11 : i + 1 - 1 = i := by omega
                      refine ih (i + 1) _ (by omega) (by omega) (by omega) ⟨fun j hj => ?_, fun j hj => ?_⟩ (by rw [e11]; exact zT) (by rw [e11]; exact zb) (fun k a b => ?_) ?_ ?_ (fun j a b => ?_)
                      · show (if j = 19 then _ else z.1 j) = _
                        rw [if_neg (by omega)]; exact zku.1 j hj
                      · show (if j = 18 then _ else z.2 j) = _
                        rw [if_neg hj]; exact zku.2 j hj
                      · show zup (z.2 18) i _ k = _
                        by_cases w : k = i
                        · rw [w, zup_s, hwj]
                          first
                          | (rw [if_pos (by omega)]; done)
                          | (rw [if_neg (by omega)]; exact z17)
                        · rw [zup_n _ _ w, z18]; exact hpc k a (by omega)
                      · show zup (z.2 18) i _ 0 = _
                        rw [zup_n _ _ (by omega), z18]; exact hp0
                      · rw [e11]
                        refine (hA2 _).mpr ?_
                        first
                        | (rw [if_pos (by omega)]; rfl)
                        | (rw [if_neg (by omega)]; rfl)
                      · by_cases w : j = i - 1
                        · rw [w]; exact hk2
                        · exact hall j a (by omega)
          · have hk2 := of_decide_eq_false c30
            rw [if_neg hk2] at hz
            refine z_iconst (pc := 33) h dX8_inNumbers_33 ?_
            refine z_zret (pc := 34) h rfl (by omega) dX8_inNumbers_34 ?_
            have e := nG_e (j := i - 1) (c := 5) (by omega) (by omega) hall hk2
            refine ⟨by rw [e, decide_eq_false (by omega)]; rfl, z, rfl, hk.tr hzk.ku, ?_⟩
            rw [e, if_neg (by omega)]
            exact hz
        · refine z_bipush (pc := 20) h dX8_inNumbers_20 (by decide) ?_
          refine z_goto (pc := 22) (tgt := 27) h dX8_inNumbers_22 (by decide) ?_
          have hhe : hiI (i - 1) = if i = 1 then 99 else 15 := by
            unfold hiI
            by_cases z : i = 1
            · rw [if_pos z, if_pos (by omega)]
            · rw [if_neg z, if_neg (by omega)]
          first
          | (rw [if_pos (by omega)] at hhe; rw [← hhe])
          | (rw [if_neg (by omega)] at hhe; rw [← hhe])
          refine z_callV (pc := 27) (c := 8) h (m8_takes y2 y7 h4 hTy hby (by omega) hhi) (by decide) (by first | assumption | rfl) rfl mv_X8_takes ml_X8_148 rfl dX8_inNumbers_27 rfl (Nat.le_of_ble_eq_true rfl) (fun r27 τ27 q27 => ?_)
          obtain ⟨rfl, z, rfl, hzk, hz⟩ := q27
          refine z_ifneB (pc := 30) (tgt := 35) h dX8_inNumbers_30 (by decide) (fun c30 => ?_) (fun c30 => ?_)
          · have hk2 := of_decide_eq_true c30
            rw [if_pos hk2] at hz
            have hvb := tV_b hk2
            have z17 : z.1 17 = vN f n q (i - 1) := hz.1
            have zv : 0 ≤ vN f n q (i - 1) ∧ vN f n q (i - 1) ≤ 999 := hvb
            have zb : (z.1 14, z.1 13) = CB (vN f n q) (pN f n q) loI hiI b i := by rw [eC]; exact hz.2.1
            have zT : TOK f n (nQ f n q i) z := by rw [eQ]; exact hz.2.2
            have z19 : z.1 19 = b01 (AC (vN f n q) (i - 1)) := by rw [hzk.1 19 (by omega)]; exact hac
            have z18 : z.2 18 = y.2 18 := by rw [hzk.2]
            have zku := hk.tr hzk.ku
            have hwj : pIn (vN f n q) i = if 1 < i ∧ 15 < vN f n q (i - 1) then 0 else vN f n q (i - 1) := by
              unfold pIn wj
              by_cases w : i = 1
              · rw [if_neg (by omega), if_pos w, if_neg (by omega), w]; rfl
              · rw [if_neg (by omega), if_neg w]
                by_cases u : vN f n q (i - 1) ≤ 15
                · rw [if_pos u, if_neg (by omega)]
                · rw [if_neg u, if_pos (by omega)]
            have hA1 : AC (vN f n q) i = true ↔ (z.1 19 = 1 ∧ (i = 1 ∨ vN f n q (i - 1) ≤ 15)) := by
              rw [eA, Bool.and_eq_true, Bool.or_eq_true, decide_eq_true_iff, decide_eq_true_iff, z19]
              unfold b01
              cases AC (vN f n q) (i - 1) with
              | true => simp; omega
              | false => simp
            have hA2 : ∀ v : Int, v = b01 (AC (vN f n q) i) ↔ (if z.1 19 = 1 ∧ (i = 1 ∨ vN f n q (i - 1) ≤ 15) then v = 1 else v = 0) := by
              intro v
              unfold b01
              by_cases w : z.1 19 = 1 ∧ (i = 1 ∨ vN f n q (i - 1) ≤ 15)
              · rw [if_pos w, if_pos (hA1.mpr w)]
              · rw [if_neg w, if_neg (fun u => w (hA1.mp u))]
            refine z_aloadR_n (pc := 35) h dX8_inNumbers_35 rfl ?_
            refine z_aloadR_n (pc := 36) h dX8_inNumbers_36 rfl ?_
            refine z_getZq (pc := 37) (c := 8) (j := 19) h (zo_s _ _ _) (by first | assumption | rfl) rfl rfl fl_X8_152 dX8_inNumbers_37 (fun g37 => ?_)
            refine z_if_eq (pc := 40) (tgt := 61) h (by omega) dX8_inNumbers_40 (by decide) (fun c40 => ?_) (fun c40 => ?_)
            · refine z_iconst (pc := 61) h dX8_inNumbers_61 ?_
              refine z_putZo (pc := 62) (c := 8) (j := 19) h (by first | assumption | rfl) rfl rfl fl_X8_152 rfl (tyX8_ok 19 (by decide)) dX8_inNumbers_62 (by omega) ?_
              refine z_aloadR_n (pc := 65) h dX8_inNumbers_65 rfl ?_
              refine z_getA4 (pc := 66) (c := 8) (j := 18) h (by first | assumption | rfl) rfl rfl fl_X8_27 dX8_inNumbers_66 ?_
              refine z_iload_n (pc := 69) h dX8_inNumbers_69 rfl ?_
              refine z_iload_n (pc := 70) h dX8_inNumbers_70 rfl ?_
              refine z_iconst (pc := 71) h dX8_inNumbers_71 ?_
              refine z_icmp_le (pc := 72) (tgt := 88) h (by omega) (by omega) dX8_inNumbers_72 (by decide) (fun c72 => ?_) (fun c72 => ?_)
              · refine z_aloadR_n (pc := 88) h dX8_inNumbers_88 rfl ?_
                refine z_getIq (pc := 89) (c := 8) (j := 17) h (zo_s _ _ _) (by first | assumption | rfl) rfl rfl fl_X8_134 dX8_inNumbers_89 (fun g89 => ?_)
                try simp only [osa_1, osa_2, oss_1, oss_2, osA_1, osA_2, zup_s, reduceIte, Nat.reduceEqDiff] at g89 ⊢
                refine z_iasto (pc := 92) (c := 8) (j := 18) (L := 6) h (by first | assumption | rfl) (by decide) rfl (by decide) (by omega) (by omega) (by omega) dX8_inNumbers_92 ?_
                refine z_inc_1 (pc := 93) h dX8_inNumbers_93 (by decide) rfl ?_
                refine z_goto (pc := 96) (tgt := 7) h dX8_inNumbers_96 (by decide) ?_
                have e11 : i + 1 - 1 = i := by omega
                refine ih (i + 1) _ (by omega) (by omega) (by omega) ⟨fun j hj => ?_, fun j hj => ?_⟩ (by rw [e11]; exact zT) (by rw [e11]; exact zb) (fun k a b => ?_) ?_ ?_ (fun j a b => ?_)
                · show (if j = 19 then _ else z.1 j) = _
                  rw [if_neg (by omega)]; exact zku.1 j hj
                · show (if j = 18 then _ else z.2 j) = _
                  rw [if_neg hj]; exact zku.2 j hj
                · show zup (z.2 18) i _ k = _
                  by_cases w : k = i
                  · rw [w, zup_s, hwj]
                    first
                    | (rw [if_pos (by omega)]; done)
                    | (rw [if_neg (by omega)]; exact z17)
                  · rw [zup_n _ _ w, z18]; exact hpc k a (by omega)
                · show zup (z.2 18) i _ 0 = _
                  rw [zup_n _ _ (by omega), z18]; exact hp0
                · rw [e11]
                  refine (hA2 _).mpr ?_
                  first
                  | (rw [if_pos (by omega)]; rfl)
                  | (rw [if_neg (by omega)]; rfl)
                · by_cases w : j = i - 1
                  · rw [w]; exact hk2
                  · exact hall j a (by omega)
              · refine z_aloadR_n (pc := 75) h dX8_inNumbers_75 rfl ?_
                refine z_getIq (pc := 76) (c := 8) (j := 17) h (zo_s _ _ _) (by first | assumption | rfl) rfl rfl fl_X8_134 dX8_inNumbers_76 (fun g76 => ?_)
                try simp only [osa_1, osa_2, oss_1, oss_2, osA_1, osA_2, zup_s, reduceIte, Nat.reduceEqDiff] at g76 ⊢
                refine z_bipush (pc := 79) h dX8_inNumbers_79 (by decide) ?_
                refine z_icmp_le (pc := 81) (tgt := 88) h (by omega) (by omega) dX8_inNumbers_81 (by decide) (fun c81 => ?_) (fun c81 => ?_)
                · refine z_aloadR_n (pc := 88) h dX8_inNumbers_88 rfl ?_
                  refine z_getIq (pc := 89) (c := 8) (j := 17) h (zo_s _ _ _) (by first | assumption | rfl) rfl rfl fl_X8_134 dX8_inNumbers_89 (fun g89 => ?_)
                  try simp only [osa_1, osa_2, oss_1, oss_2, osA_1, osA_2, zup_s, reduceIte, Nat.reduceEqDiff] at g89 ⊢
                  refine z_iasto (pc := 92) (c := 8) (j := 18) (L := 6) h (by first | assumption | rfl) (by decide) rfl (by decide) (by omega) (by omega) (by omega) dX8_inNumbers_92 ?_
                  refine z_inc_1 (pc := 93) h dX8_inNumbers_93 (by decide) rfl ?_
                  refine z_goto (pc := 96) (tgt := 7) h dX8_inNumbers_96 (by decide) ?_
                  have e11 : i + 1 - 1 = i := by omega
                  refine ih (i + 1) _ (by omega) (by omega) (by omega) ⟨fun j hj => ?_, fun j hj => ?_⟩ (by rw [e11]; exact zT) (by rw [e11]; exact zb) (fun k a b => ?_) ?_ ?_ (fun j a b => ?_)
                  · show (if j = 19 then _ else z.1 j) = _
                    rw [if_neg (by omega)]; exact zku.1 j hj
                  · show (if j = 18 then _ else z.2 j) = _
                    rw [if_neg hj]; exact zku.2 j hj
                  · show zup (z.2 18) i _ k = _
                    by_cases w : k = i
                    · rw [w, zup_s, hwj]
                      first
                      | (rw [if_pos (by omega)]; done)
                      | (rw [if_neg (by omega)]; exact z17)
                    · rw [zup_n _ _ w, z18]; exact hpc k a (by omega)
                  · show zup (z.2 18) i _ 0 = _
                    rw [zup_n _ _ (by omega), z18]; exact hp0
                  · rw [e11]
                    refine (hA2 _).mpr ?_
                    first
                    | (rw [if_pos (by omega)]; rfl)
                    | (rw [if_neg (by omega)]; rfl)
                  · by_cases w : j = i - 1
                    · rw [w]; exact hk2
                    · exact hall j a (by omega)
                · refine z_iconst (pc := 84) h dX8_inNumbers_84 ?_
                  refine z_goto (pc := 85) (tgt := 92) h dX8_inNumbers_85 (by decide) ?_
                  refine z_iasto (pc := 92) (c := 8) (j := 18) (L := 6) h (by first | assumption | rfl) (by decide) rfl (by decide) (by omega) (by omega) (by omega) dX8_inNumbers_92 ?_
                  refine z_inc_1 (pc := 93) h dX8_inNumbers_93 (by decide) rfl ?_
                  refine z_goto (pc := 96) (tgt := 7) h dX8_inNumbers_96 (by decide) ?_
                  have e11 : i + 1 - 1 = i := by omega
                  refine ih (i + 1) _ (by omega) (by omega) (by omega) ⟨fun j hj => ?_, fun j hj => ?_⟩ (by rw [e11]; exact zT) (by rw [e11]; exact zb) (fun k a b => ?_) ?_ ?_ (fun j a b => ?_)
                  · show (if j = 19 then _ else z.1 j) = _
                    rw [if_neg (by omega)]; exact zku.1 j hj
                  · show (if j = 18 then _ else z.2 j) = _
                    rw [if_neg hj]; exact zku.2 j hj
                  · show zup (z.2 18) i _ k = _
                    by_cases w : k = i
                    · rw [w, zup_s, hwj]
                      first
                      | (rw [if_pos (by omega)]; done)
                      | (rw [if_neg (by omega)]; exact z17)
                    · rw [zup_n _ _ w, z18]; exact hpc k a (by omega)
                  · show zup (z.2 18) i _ 0 = _
                    rw [zup_n _ _ (by omega), z18]; exact hp0
                  · rw [e11]
                    refine (hA2 _).mpr ?_
                    first
                    | (rw [if_pos (by omega)]; rfl)
                    | (rw [if_neg (by omega)]; rfl)
                  · by_cases w : j = i - 1
                    · rw [w]; exact hk2
                    · exact hall j a (by omega)
            · refine z_iload_n (pc := 43) h dX8_inNumbers_43 rfl ?_
              refine z_iconst (pc := 44) h dX8_inNumbers_44 ?_
              refine z_icmp_eq (pc := 45) (tgt := 57) h (by omega) (by omega) dX8_inNumbers_45 (by decide) (fun c45 => ?_) (fun c45 => ?_)
              · refine z_iconst (pc := 57) h dX8_inNumbers_57 ?_
                refine z_goto (pc := 58) (tgt := 62) h dX8_inNumbers_58 (by decide) ?_
                refine z_putZo (pc := 62) (c := 8) (j := 19) h (by first | assumption | rfl) rfl rfl fl_X8_152 rfl (tyX8_ok 19 (by decide)) dX8_inNumbers_62 (by omega) ?_
                refine z_aloadR_n (pc := 65) h dX8_inNumbers_65 rfl ?_
                refine z_getA4 (pc := 66) (c := 8) (j := 18) h (by first | assumption | rfl) rfl rfl fl_X8_27 dX8_inNumbers_66 ?_
                refine z_iload_n (pc := 69) h dX8_inNumbers_69 rfl ?_
                refine z_iload_n (pc := 70) h dX8_inNumbers_70 rfl ?_
                refine z_iconst (pc := 71) h dX8_inNumbers_71 ?_
                refine z_icmp_le (pc := 72) (tgt := 88) h (by omega) (by omega) dX8_inNumbers_72 (by decide) (fun c72 => ?_) (fun c72 => ?_)
                · refine z_aloadR_n (pc := 88) h dX8_inNumbers_88 rfl ?_
                  refine z_getIq (pc := 89) (c := 8) (j := 17) h (zo_s _ _ _) (by first | assumption | rfl) rfl rfl fl_X8_134 dX8_inNumbers_89 (fun g89 => ?_)
                  try simp only [osa_1, osa_2, oss_1, oss_2, osA_1, osA_2, zup_s, reduceIte, Nat.reduceEqDiff] at g89 ⊢
                  refine z_iasto (pc := 92) (c := 8) (j := 18) (L := 6) h (by first | assumption | rfl) (by decide) rfl (by decide) (by omega) (by omega) (by omega) dX8_inNumbers_92 ?_
                  refine z_inc_1 (pc := 93) h dX8_inNumbers_93 (by decide) rfl ?_
                  refine z_goto (pc := 96) (tgt := 7) h dX8_inNumbers_96 (by decide) ?_
                  have e11 : i + 1 - 1 = i := by omega
                  refine ih (i + 1) _ (by omega) (by omega) (by omega) ⟨fun j hj => ?_, fun j hj => ?_⟩ (by rw [e11]; exact zT) (by rw [e11]; exact zb) (fun k a b => ?_) ?_ ?_ (fun j a b => ?_)
                  · show (if j = 19 then _ else z.1 j) = _
                    rw [if_neg (by omega)]; exact zku.1 j hj
                  · show (if j = 18 then _ else z.2 j) = _
                    rw [if_neg hj]; exact zku.2 j hj
                  · show zup (z.2 18) i _ k = _
                    by_cases w : k = i
                    · rw [w, zup_s, hwj]
                      first
                      | (rw [if_pos (by omega)]; done)
                      | (rw [if_neg (by omega)]; exact z17)
                    · rw [zup_n _ _ w, z18]; exact hpc k a (by omega)
                  · show zup (z.2 18) i _ 0 = _
                    rw [zup_n _ _ (by omega), z18]; exact hp0
                  · rw [e11]
                    refine (hA2 _).mpr ?_
                    first
                    | (rw [if_pos (by omega)]; rfl)
                    | (rw [if_neg (by omega)]; rfl)
                  · by_cases w : j = i - 1
                    · rw [w]; exact hk2
                    · exact hall j a (by omega)
                · refine z_aloadR_n (pc := 75) h dX8_inNumbers_75 rfl ?_
                  refine z_getIq (pc := 76) (c := 8) (j := 17) h (zo_s _ _ _) (by first | assumption | rfl) rfl rfl fl_X8_134 dX8_inNumbers_76 (fun g76 => ?_)
                  try simp only [osa_1, osa_2, oss_1, oss_2, osA_1, osA_2, zup_s, reduceIte, Nat.reduceEqDiff] at g76 ⊢
                  refine z_bipush (pc := 79) h dX8_inNumbers_79 (by decide) ?_
                  refine z_icmp_le (pc := 81) (tgt := 88) h (by omega) (by omega) dX8_inNumbers_81 (by decide) (fun c81 => ?_) (fun c81 => ?_)
                  · refine z_aloadR_n (pc := 88) h dX8_inNumbers_88 rfl ?_
                    refine z_getIq (pc := 89) (c := 8) (j := 17) h (zo_s _ _ _) (by first | assumption | rfl) rfl rfl fl_X8_134 dX8_inNumbers_89 (fun g89 => ?_)
                    try simp only [osa_1, osa_2, oss_1, oss_2, osA_1, osA_2, zup_s, reduceIte, Nat.reduceEqDiff] at g89 ⊢
                    refine z_iasto (pc := 92) (c := 8) (j := 18) (L := 6) h (by first | assumption | rfl) (by decide) rfl (by decide) (by omega) (by omega) (by omega) dX8_inNumbers_92 ?_
                    refine z_inc_1 (pc := 93) h dX8_inNumbers_93 (by decide) rfl ?_
                    refine z_goto (pc := 96) (tgt := 7) h dX8_inNumbers_96 (by decide) ?_
                    have e11 : i + 1 - 1 = i := by omega
                    refine ih (i + 1) _ (by omega) (by omega) (by omega) ⟨fun j hj => ?_, fun j hj => ?_⟩ (by rw [e11]; exact zT) (by rw [e11]; exact zb) (fun k a b => ?_) ?_ ?_ (fun j a b => ?_)
                    · show (if j = 19 then _ else z.1 j) = _
                      rw [if_neg (by omega)]; exact zku.1 j hj
                    · show (if j = 18 then _ else z.2 j) = _
                      rw [if_neg hj]; exact zku.2 j hj
                    · show zup (z.2 18) i _ k = _
                      by_cases w : k = i
                      · rw [w, zup_s, hwj]
                        first
                        | (rw [if_pos (by omega)]; done)
                        | (rw [if_neg (by omega)]; exact z17)
                      · rw [zup_n _ _ w, z18]; exact hpc k a (by omega)
                    · show zup (z.2 18) i _ 0 = _
                      rw [zup_n _ _ (by omega), z18]; exact hp0
                    · rw [e11]
                      refine (hA2 _).mpr ?_
                      first
                      | (rw [if_pos (by omega)]; rfl)
                      | (rw [if_neg (by omega)]; rfl)
                    · by_cases w : j = i - 1
                      · rw [w]; exact hk2
                      · exact hall j a (by omega)
                  · refine z_iconst (pc := 84) h dX8_inNumbers_84 ?_
                    refine z_goto (pc := 85) (tgt := 92) h dX8_inNumbers_85 (by decide) ?_
                    refine z_iasto (pc := 92) (c := 8) (j := 18) (L := 6) h (by first | assumption | rfl) (by decide) rfl (by decide) (by omega) (by omega) (by omega) dX8_inNumbers_92 ?_
                    refine z_inc_1 (pc := 93) h dX8_inNumbers_93 (by decide) rfl ?_
                    refine z_goto (pc := 96) (tgt := 7) h dX8_inNumbers_96 (by decide) ?_
                    have e11 : i + 1 - 1 = i := by omega
                    refine ih (i + 1) _ (by omega) (by omega) (by omega) ⟨fun j hj => ?_, fun j hj => ?_⟩ (by rw [e11]; exact zT) (by rw [e11]; exact zb) (fun k a b => ?_) ?_ ?_ (fun j a b => ?_)
                    · show (if j = 19 then _ else z.1 j) = _
                      rw [if_neg (by omega)]; exact zku.1 j hj
                    · show (if j = 18 then _ else z.2 j) = _
                      rw [if_neg hj]; exact zku.2 j hj
                    · show zup (z.2 18) i _ k = _
                      by_cases w : k = i
                      · rw [w, zup_s, hwj]
                        first
                        | (rw [if_pos (by omega)]; done)
                        | (rw [if_neg (by omega)]; exact z17)
                      · rw [zup_n _ _ w, z18]; exact hpc k a (by omega)
                    · show zup (z.2 18) i _ 0 = _
                      rw [zup_n _ _ (by omega), z18]; exact hp0
                    · rw [e11]
                      refine (hA2 _).mpr ?_
                      first
                      | (rw [if_pos (by omega)]; rfl)
                      | (rw [if_neg (by omega)]; rfl)
                    · by_cases w : j = i - 1
                      · rw [w]; exact hk2
                      · exact hall j a (by omega)
              · refine z_aloadR_n (pc := 48) h dX8_inNumbers_48 rfl ?_
                refine z_getIq (pc := 49) (c := 8) (j := 17) h (zo_s _ _ _) (by first | assumption | rfl) rfl rfl fl_X8_134 dX8_inNumbers_49 (fun g49 => ?_)
                refine z_bipush (pc := 52) h dX8_inNumbers_52 (by decide) ?_
                refine z_icmp_gt (pc := 54) (tgt := 61) h (by omega) (by omega) dX8_inNumbers_54 (by decide) (fun c54 => ?_) (fun c54 => ?_)
                · refine z_iconst (pc := 61) h dX8_inNumbers_61 ?_
                  refine z_putZo (pc := 62) (c := 8) (j := 19) h (by first | assumption | rfl) rfl rfl fl_X8_152 rfl (tyX8_ok 19 (by decide)) dX8_inNumbers_62 (by omega) ?_
                  refine z_aloadR_n (pc := 65) h dX8_inNumbers_65 rfl ?_
                  refine z_getA4 (pc := 66) (c := 8) (j := 18) h (by first | assumption | rfl) rfl rfl fl_X8_27 dX8_inNumbers_66 ?_
                  refine z_iload_n (pc := 69) h dX8_inNumbers_69 rfl ?_
                  refine z_iload_n (pc := 70) h dX8_inNumbers_70 rfl ?_
                  refine z_iconst (pc := 71) h dX8_inNumbers_71 ?_
                  refine z_icmp_le (pc := 72) (tgt := 88) h (by omega) (by omega) dX8_inNumbers_72 (by decide) (fun c72 => ?_) (fun c72 => ?_)
                  · refine z_aloadR_n (pc := 88) h dX8_inNumbers_88 rfl ?_
                    refine z_getIq (pc := 89) (c := 8) (j := 17) h (zo_s _ _ _) (by first | assumption | rfl) rfl rfl fl_X8_134 dX8_inNumbers_89 (fun g89 => ?_)
                    try simp only [osa_1, osa_2, oss_1, oss_2, osA_1, osA_2, zup_s, reduceIte, Nat.reduceEqDiff] at g89 ⊢
                    refine z_iasto (pc := 92) (c := 8) (j := 18) (L := 6) h (by first | assumption | rfl) (by decide) rfl (by decide) (by omega) (by omega) (by omega) dX8_inNumbers_92 ?_
                    refine z_inc_1 (pc := 93) h dX8_inNumbers_93 (by decide) rfl ?_
                    refine z_goto (pc := 96) (tgt := 7) h dX8_inNumbers_96 (by decide) ?_
                    have e11 : i + 1 - 1 = i := by omega
                    refine ih (i + 1) _ (by omega) (by omega) (by omega) ⟨fun j hj => ?_, fun j hj => ?_⟩ (by rw [e11]; exact zT) (by rw [e11]; exact zb) (fun k a b => ?_) ?_ ?_ (fun j a b => ?_)
                    · show (if j = 19 then _ else z.1 j) = _
                      rw [if_neg (by omega)]; exact zku.1 j hj
                    · show (if j = 18 then _ else z.2 j) = _
                      rw [if_neg hj]; exact zku.2 j hj
                    · show zup (z.2 18) i _ k = _
                      by_cases w : k = i
                      · rw [w, zup_s, hwj]
                        first
                        | (rw [if_pos (by omega)]; done)
                        | (rw [if_neg (by omega)]; exact z17)
                      · rw [zup_n _ _ w, z18]; exact hpc k a (by omega)
                    · show zup (z.2 18) i _ 0 = _
                      rw [zup_n _ _ (by omega), z18]; exact hp0
                    · rw [e11]
                      refine (hA2 _).mpr ?_
                      first
                      | (rw [if_pos (by omega)]; rfl)
                      | (rw [if_neg (by omega)]; rfl)
                    · by_cases w : j = i - 1
                      · rw [w]; exact hk2
                      · exact hall j a (by omega)
                  · refine z_aloadR_n (pc := 75) h dX8_inNumbers_75 rfl ?_
                    refine z_getIq (pc := 76) (c := 8) (j := 17) h (zo_s _ _ _) (by first | assumption | rfl) rfl rfl fl_X8_134 dX8_inNumbers_76 (fun g76 => ?_)
                    try simp only [osa_1, osa_2, oss_1, oss_2, osA_1, osA_2, zup_s, reduceIte, Nat.reduceEqDiff] at g76 ⊢
                    refine z_bipush (pc := 79) h dX8_inNumbers_79 (by decide) ?_
                    refine z_icmp_le (pc := 81) (tgt := 88) h (by omega) (by omega) dX8_inNumbers_81 (by decide) (fun c81 => ?_) (fun c81 => ?_)
                    · refine z_aloadR_n (pc := 88) h dX8_inNumbers_88 rfl ?_
                      refine z_getIq (pc := 89) (c := 8) (j := 17) h (zo_s _ _ _) (by first | assumption | rfl) rfl rfl fl_X8_134 dX8_inNumbers_89 (fun g89 => ?_)
                      try simp only [osa_1, osa_2, oss_1, oss_2, osA_1, osA_2, zup_s, reduceIte, Nat.reduceEqDiff] at g89 ⊢
                      refine z_iasto (pc := 92) (c := 8) (j := 18) (L := 6) h (by first | assumption | rfl) (by decide) rfl (by decide) (by omega) (by omega) (by omega) dX8_inNumbers_92 ?_
                      refine z_inc_1 (pc := 93) h dX8_inNumbers_93 (by decide) rfl ?_
                      refine z_goto (pc := 96) (tgt := 7) h dX8_inNumbers_96 (by decide) ?_
                      have e11 : i + 1 - 1 = i := by omega
                      refine ih (i + 1) _ (by omega) (by omega) (by omega) ⟨fun j hj => ?_, fun j hj => ?_⟩ (by rw [e11]; exact zT) (by rw [e11]; exact zb) (fun k a b => ?_) ?_ ?_ (fun j a b => ?_)
                      · show (if j = 19 then _ else z.1 j) = _
                        rw [if_neg (by omega)]; exact zku.1 j hj
                      · show (if j = 18 then _ else z.2 j) = _
                        rw [if_neg hj]; exact zku.2 j hj
                      · show zup (z.2 18) i _ k = _
                        by_cases w : k = i
                        · rw [w, zup_s, hwj]
                          first
                          | (rw [if_pos (by omega)]; done)
                          | (rw [if_neg (by omega)]; exact z17)
                        · rw [zup_n _ _ w, z18]; exact hpc k a (by omega)
                      · show zup (z.2 18) i _ 0 = _
                        rw [zup_n _ _ (by omega), z18]; exact hp0
                      · rw [e11]
                        refine (hA2 _).mpr ?_
                        first
                        | (rw [if_pos (by omega)]; rfl)
                        | (rw [if_neg (by omega)]; rfl)
                      · by_cases w : j = i - 1
                        · rw [w]; exact hk2
                        · exact hall j a (by omega)
                    · refine z_iconst (pc := 84) h dX8_inNumbers_84 ?_
                      refine z_goto (pc := 85) (tgt := 92) h dX8_inNumbers_85 (by decide) ?_
                      refine z_iasto (pc := 92) (c := 8) (j := 18) (L := 6) h (by first | assumption | rfl) (by decide) rfl (by decide) (by omega) (by omega) (by omega) dX8_inNumbers_92 ?_
                      refine z_inc_1 (pc := 93) h dX8_inNumbers_93 (by decide) rfl ?_
                      refine z_goto (pc := 96) (tgt := 7) h dX8_inNumbers_96 (by decide) ?_
                      have e11 : i + 1 - 1 = i := by omega
                      refine ih (i + 1) _ (by omega) (by omega) (by omega) ⟨fun j hj => ?_, fun j hj => ?_⟩ (by rw [e11]; exact zT) (by rw [e11]; exact zb) (fun k a b => ?_) ?_ ?_ (fun j a b => ?_)
                      · show (if j = 19 then _ else z.1 j) = _
                        rw [if_neg (by omega)]; exact zku.1 j hj
                      · show (if j = 18 then _ else z.2 j) = _
                        rw [if_neg hj]; exact zku.2 j hj
                      · show zup (z.2 18) i _ k = _
                        by_cases w : k = i
                        · rw [w, zup_s, hwj]
                          first
                          | (rw [if_pos (by omega)]; done)
                          | (rw [if_neg (by omega)]; exact z17)
                        · rw [zup_n _ _ w, z18]; exact hpc k a (by omega)
                      · show zup (z.2 18) i _ 0 = _
                        rw [zup_n _ _ (by omega), z18]; exact hp0
                      · rw [e11]
                        refine (hA2 _).mpr ?_
                        first
                        | (rw [if_pos (by omega)]; rfl)
                        | (rw [if_neg (by omega)]; rfl)
                      · by_cases w : j = i - 1
                        · rw [w]; exact hk2
                        · exact hall j a (by omega)
                · refine z_iconst (pc := 57) h dX8_inNumbers_57 ?_
                  refine z_goto (pc := 58) (tgt := 62) h dX8_inNumbers_58 (by decide) ?_
                  refine z_putZo (pc := 62) (c := 8) (j := 19) h (by first | assumption | rfl) rfl rfl fl_X8_152 rfl (tyX8_ok 19 (by decide)) dX8_inNumbers_62 (by omega) ?_
                  refine z_aloadR_n (pc := 65) h dX8_inNumbers_65 rfl ?_
                  refine z_getA4 (pc := 66) (c := 8) (j := 18) h (by first | assumption | rfl) rfl rfl fl_X8_27 dX8_inNumbers_66 ?_
                  refine z_iload_n (pc := 69) h dX8_inNumbers_69 rfl ?_
                  refine z_iload_n (pc := 70) h dX8_inNumbers_70 rfl ?_
                  refine z_iconst (pc := 71) h dX8_inNumbers_71 ?_
                  refine z_icmp_le (pc := 72) (tgt := 88) h (by omega) (by omega) dX8_inNumbers_72 (by decide) (fun c72 => ?_) (fun c72 => ?_)
                  · refine z_aloadR_n (pc := 88) h dX8_inNumbers_88 rfl ?_
                    refine z_getIq (pc := 89) (c := 8) (j := 17) h (zo_s _ _ _) (by first | assumption | rfl) rfl rfl fl_X8_134 dX8_inNumbers_89 (fun g89 => ?_)
                    try simp only [osa_1, osa_2, oss_1, oss_2, osA_1, osA_2, zup_s, reduceIte, Nat.reduceEqDiff] at g89 ⊢
                    refine z_iasto (pc := 92) (c := 8) (j := 18) (L := 6) h (by first | assumption | rfl) (by decide) rfl (by decide) (by omega) (by omega) (by omega) dX8_inNumbers_92 ?_
                    refine z_inc_1 (pc := 93) h dX8_inNumbers_93 (by decide) rfl ?_
                    refine z_goto (pc := 96) (tgt := 7) h dX8_inNumbers_96 (by decide) ?_
                    have e11 : i + 1 - 1 = i := by omega
                    refine ih (i + 1) _ (by omega) (by omega) (by omega) ⟨fun j hj => ?_, fun j hj => ?_⟩ (by rw [e11]; exact zT) (by rw [e11]; exact zb) (fun k a b => ?_) ?_ ?_ (fun j a b => ?_)
                    · show (if j = 19 then _ else z.1 j) = _
                      rw [if_neg (by omega)]; exact zku.1 j hj
                    · show (if j = 18 then _ else z.2 j) = _
                      rw [if_neg hj]; exact zku.2 j hj
                    · show zup (z.2 18) i _ k = _
                      by_cases w : k = i
                      · rw [w, zup_s, hwj]
                        first
                        | (rw [if_pos (by omega)]; done)
                        | (rw [if_neg (by omega)]; exact z17)
                      · rw [zup_n _ _ w, z18]; exact hpc k a (by omega)
                    · show zup (z.2 18) i _ 0 = _
                      rw [zup_n _ _ (by omega), z18]; exact hp0
                    · rw [e11]
                      refine (hA2 _).mpr ?_
                      first
                      | (rw [if_pos (by omega)]; rfl)
                      | (rw [if_neg (by omega)]; rfl)
                    · by_cases w : j = i - 1
                      · rw [w]; exact hk2
                      · exact hall j a (by omega)
                  · refine z_aloadR_n (pc := 75) h dX8_inNumbers_75 rfl ?_
                    refine z_getIq (pc := 76) (c := 8) (j := 17) h (zo_s _ _ _) (by first | assumption | rfl) rfl rfl fl_X8_134 dX8_inNumbers_76 (fun g76 => ?_)
                    try simp only [osa_1, osa_2, oss_1, oss_2, osA_1, osA_2, zup_s, reduceIte, Nat.reduceEqDiff] at g76 ⊢
                    refine z_bipush (pc := 79) h dX8_inNumbers_79 (by decide) ?_
                    refine z_icmp_le (pc := 81) (tgt := 88) h (by omega) (by omega) dX8_inNumbers_81 (by decide) (fun c81 => ?_) (fun c81 => ?_)
                    · refine z_aloadR_n (pc := 88) h dX8_inNumbers_88 rfl ?_
                      refine z_getIq (pc := 89) (c := 8) (j := 17) h (zo_s _ _ _) (by first | assumption | rfl) rfl rfl fl_X8_134 dX8_inNumbers_89 (fun g89 => ?_)
                      try simp only [osa_1, osa_2, oss_1, oss_2, osA_1, osA_2, zup_s, reduceIte, Nat.reduceEqDiff] at g89 ⊢
                      refine z_iasto (pc := 92) (c := 8) (j := 18) (L := 6) h (by first | assumption | rfl) (by decide) rfl (by decide) (by omega) (by omega) (by omega) dX8_inNumbers_92 ?_
                      refine z_inc_1 (pc := 93) h dX8_inNumbers_93 (by decide) rfl ?_
                      refine z_goto (pc := 96) (tgt := 7) h dX8_inNumbers_96 (by decide) ?_
                      have e11 : i + 1 - 1 = i := by omega
                      refine ih (i + 1) _ (by omega) (by omega) (by omega) ⟨fun j hj => ?_, fun j hj => ?_⟩ (by rw [e11]; exact zT) (by rw [e11]; exact zb) (fun k a b => ?_) ?_ ?_ (fun j a b => ?_)
                      · show (if j = 19 then _ else z.1 j) = _
                        rw [if_neg (by omega)]; exact zku.1 j hj
                      · show (if j = 18 then _ else z.2 j) = _
                        rw [if_neg hj]; exact zku.2 j hj
                      · show zup (z.2 18) i _ k = _
                        by_cases w : k = i
                        · rw [w, zup_s, hwj]
                          first
                          | (rw [if_pos (by omega)]; done)
                          | (rw [if_neg (by omega)]; exact z17)
                        · rw [zup_n _ _ w, z18]; exact hpc k a (by omega)
                      · show zup (z.2 18) i _ 0 = _
                        rw [zup_n _ _ (by omega), z18]; exact hp0
                      · rw [e11]
                        refine (hA2 _).mpr ?_
                        first
                        | (rw [if_pos (by omega)]; rfl)
                        | (rw [if_neg (by omega)]; rfl)
                      · by_cases w : j = i - 1
                        · rw [w]; exact hk2
                        · exact hall j a (by omega)
                    · refine z_iconst (pc := 84) h dX8_inNumbers_84 ?_
                      refine z_goto (pc := 85) (tgt := 92) h dX8_inNumbers_85 (by decide) ?_
                      refine z_iasto (pc := 92) (c := 8) (j := 18) (L := 6) h (by first | assumption | rfl) (by decide) rfl (by decide) (by omega) (by omega) (by omega) dX8_inNumbers_92 ?_
                      refine z_inc_1 (pc := 93) h dX8_inNumbers_93 (by decide) rfl ?_
                      refine z_goto (pc := 96) (tgt := 7) h dX8_inNumbers_96 (by decide) ?_
                      have e11 : i + 1 - 1 = i := by omega
                      refine ih (i + 1) _ (by omega) (by omega) (by omega) ⟨fun j hj => ?_, fun j hj => ?_⟩ (by rw [e11]; exact zT) (by rw [e11]; exact zb) (fun k a b => ?_) ?_ ?_ (fun j a b => ?_)
                      · show (if j = 19 then _ else z.1 j) = _
                        rw [if_neg (by omega)]; exact zku.1 j hj
                      · show (if j = 18 then _ else z.2 j) = _
                        rw [if_neg hj]; exact zku.2 j hj
                      · show zup (z.2 18) i _ k = _
                        by_cases w : k = i
                        · rw [w, zup_s, hwj]
                          first
                          | (rw [if_pos (by omega)]; done)
                          | (rw [if_neg (by omega)]; exact z17)
                        · rw [zup_n _ _ w, z18]; exact hpc k a (by omega)
                      · show zup (z.2 18) i _ 0 = _
                        rw [zup_n _ _ (by omega), z18]; exact hp0
                      · rw [e11]
                        refine (hA2 _).mpr ?_
                        first
                        | (rw [if_pos (by omega)]; rfl)
                        | (rw [if_neg (by omega)]; rfl)
                      · by_cases w : j = i - 1
                        · rw [w]; exact hk2
                        · exact hall j a (by omega)
          · have hk2 := of_decide_eq_false c30
            rw [if_neg hk2] at hz
            refine z_iconst (pc := 33) h dX8_inNumbers_33 ?_
            refine z_zret (pc := 34) h rfl (by omega) dX8_inNumbers_34 ?_
            have e := nG_e (j := i - 1) (c := 5) (by omega) (by omega) hall hk2
            refine ⟨by rw [e, decide_eq_false (by omega)]; rfl, z, rfl, hk.tr hzk.ku, ?_⟩
            rw [e, if_neg (by omega)]
            exact hz
  refine z_aloadR_n (pc := 0) h dX8_inNumbers_0 rfl ?_
  refine z_iconst (pc := 1) h dX8_inNumbers_1 ?_
  refine z_putZo (pc := 2) (c := 8) (j := 19) h (by first | assumption | rfl) rfl rfl fl_X8_152 rfl (tyX8_ok 19 (by decide)) dX8_inNumbers_2 (by omega) ?_
  refine z_iconst (pc := 5) h dX8_inNumbers_5 ?_
  refine z_ist_1 (pc := 6) h dX8_inNumbers_6 (by decide) rfl ?_
  exact L 6 1 (oss m 19 1) (by omega) (by omega) (by omega) ⟨fun j hj => by rw [oss_1, if_neg (by omega)], fun _ _ => rfl⟩ hT hb (fun k a b => by omega) rfl rfl (fun j a b => by omega)
theorem m8_outNumbers {σ : zS} {m : zOb} {f : Int → Int} {n q : Int} {b : Int × Int} (h2 : m.2 2 = f) (h7 : m.1 7 = n) (h4 : n ≤ 400) (hT : TOK f n q m) (hb : (m.1 14, m.1 13) = b) : zC M_X8_outNumbers 5 [zR 31] (zo σ 31 m) (fun rr τ' => rr = some (zB (decide (nG f n q 5 = -1))) ∧ ∃ m', τ' = zo σ 31 m' ∧ KU m m' ∧ (if nG f n q 5 = -1 then TOK f n (nQ f n q 5) m' ∧ (m'.1 14, m'.1 13) = CB (vN f n q) (pN f n q) loO hiO b 5 ∧ (∀ k, 1 ≤ k → k ≤ 5 → m'.2 18 k = pOut (vN f n q) k) ∧ m'.2 18 0 = m.2 18 0 else m'.1 12 = tS f n (nQ f n q (nG f n q 5)))) := by
  have hq := hT.1
  refine zC_of (M := M_X8_outNumbers) (ls := [some (zR 31), none, none, none]) (n := 3) (by decide) (fun ad => Nat.le_of_ble_eq_true rfl) rfl (fun x h => ?_)
  have L : ∀ (k : Nat) (i : Int) (y : zOb) (l2 l3 : Option Value), 1 ≤ i → i ≤ 6 → 6 - i < k → KU m y → TOK f n (nQ f n q (i - 1)) y → (y.1 14, y.1 13) = CB (vN f n q) (pN f n q) loO hiO b (i - 1) → (∀ k, 1 ≤ k → k < i → y.2 18 k = pOut (vN f n q) k) → y.2 18 0 = m.2 18 0 → (∀ j, 0 ≤ j → j < i - 1 → tK f n (nQ f n q j) = 2) → zW x (fun rr τ' => rr = some (zB (decide (nG f n q 5 = -1))) ∧ ∃ m', τ' = zo σ 31 m' ∧ KU m m' ∧ (if nG f n q 5 = -1 then TOK f n (nQ f n q 5) m' ∧ (m'.1 14, m'.1 13) = CB (vN f n q) (pN f n q) loO hiO b 5 ∧ (∀ k, 1 ≤ k → k ≤ 5 → m'.2 18 k = pOut (vN f n q) k) ∧ m'.2 18 0 = m.2 18 0 else m'.1 12 = tS f n (nQ f n q (nG f n q 5)))) 2 [some (zR 31), some (zI i), l2, l3] [] (zo σ 31 y) := by
    intro k
    induction k with
    | zero => intro i y l2 l3 g1 g2 g3; omega
    | succ k ih =>
      intro i y l2 l3 g1 g2 g3 hk hTy hby hpc hp0 hall
      have y2 : y.2 2 = f := by rw [hk.2 2 (by decide)]; exact h2
      have y7 : y.1 7 = n := by rw [hk.1 7 (by omega)]; exact h7
      have eC := CB_S (vN f n q) (pN f n q) loO hiO b (k := i - 1) (by omega)
      have eQ := nQ_S f n q (k := i - 1) (by omega)
      rw [show i - 1 + 1 = i by omega] at eC eQ
      have hhi : (0 : Int) ≤ hiO (i - 1) ∧ hiO (i - 1) ≤ 999 := by
        unfold hiO
        repeat' split
        all_goals omega
      have hlo : (0 : Int) ≤ loO (i - 1) ∧ loO (i - 1) ≤ 999 := by unfold loO; split <;> omega
      have hlv : loO (i - 1) = if 3 < i then 1 else 0 := by
        unfold loO
        by_cases z : 3 < i
        · rw [if_pos z, if_pos (by omega)]
        · rw [if_neg z, if_neg (by omega)]
      have hhv : (i = 1 → hiO (i - 1) = 99) ∧ (i = 2 → hiO (i - 1) = 3) ∧ (i = 3 → hiO (i - 1) = 199) ∧ (i = 4 → hiO (i - 1) = 40) ∧ (i = 5 → hiO (i - 1) = 9) := ⟨fun z => by rw [z]; rfl, fun z => by rw [z]; rfl, fun z => by rw [z]; rfl, fun z => by rw [z]; rfl, fun z => by rw [z]; rfl⟩
      have G : ∀ (u v : Int), i < 6 → u = loO (i - 1) → v = hiO (i - 1) → zW x (fun rr τ' => rr = some (zB (decide (nG f n q 5 = -1))) ∧ ∃ m', τ' = zo σ 31 m' ∧ KU m m' ∧ (if nG f n q 5 = -1 then TOK f n (nQ f n q 5) m' ∧ (m'.1 14, m'.1 13) = CB (vN f n q) (pN f n q) loO hiO b 5 ∧ (∀ k, 1 ≤ k → k ≤ 5 → m'.2 18 k = pOut (vN f n q) k) ∧ m'.2 18 0 = m.2 18 0 else m'.1 12 = tS f n (nQ f n q (nG f n q 5)))) 62 [some (zR 31), some (zI i), some (zI u), some (zI v)] [] (zo σ 31 y) := by
        intro u v h6 hu hv
        rw [hu, hv]
        refine z_aloadR_n (pc := 62) h dX8_outNumbers_62 rfl ?_
        refine z_iload_n (pc := 63) h dX8_outNumbers_63 rfl ?_
        refine z_iload_n (pc := 64) h dX8_outNumbers_64 rfl ?_
        refine z_callV (pc := 65) (c := 8) h (m8_takes y2 y7 h4 hTy hby hlo hhi) (by decide) (by first | assumption | rfl) rfl mv_X8_takes ml_X8_148 rfl dX8_outNumbers_65 rfl (Nat.le_of_ble_eq_true rfl) (fun r65 τ65 q65 => ?_)
        obtain ⟨rfl, z, rfl, hzk, hz⟩ := q65
        refine z_ifneB (pc := 68) (tgt := 73) h dX8_outNumbers_68 (by decide) (fun c68 => ?_) (fun c68 => ?_)
        · have hk2 := of_decide_eq_true c68
          rw [if_pos hk2] at hz
          have hvb := tV_b hk2
          have z17 : z.1 17 = vN f n q (i - 1) := hz.1
          have zv : 0 ≤ vN f n q (i - 1) ∧ vN f n q (i - 1) ≤ 999 := hvb
          have zb : (z.1 14, z.1 13) = CB (vN f n q) (pN f n q) loO hiO b i := by rw [eC]; exact hz.2.1
          have zT : TOK f n (nQ f n q i) z := by rw [eQ]; exact hz.2.2
          have z18 : z.2 18 = y.2 18 := by rw [hzk.2]
          have zku := hk.tr hzk.ku
          have hwj : pOut (vN f n q) i = vN f n q (i - 1) := by unfold pOut; rw [if_neg (by omega)]
          refine z_aloadR_n (pc := 73) h dX8_outNumbers_73 rfl ?_
          refine z_getA4 (pc := 74) (c := 8) (j := 18) h (by first | assumption | rfl) rfl rfl fl_X8_27 dX8_outNumbers_74 ?_
          refine z_iload_n (pc := 77) h dX8_outNumbers_77 rfl ?_
          refine z_aloadR_n (pc := 78) h dX8_outNumbers_78 rfl ?_
          refine z_getIq (pc := 79) (c := 8) (j := 17) h (zo_s _ _ _) (by first | assumption | rfl) rfl rfl fl_X8_134 dX8_outNumbers_79 (fun g79 => ?_)
          refine z_iasto (pc := 82) (c := 8) (j := 18) (L := 6) h (by first | assumption | rfl) (by decide) rfl (by decide) (by omega) (by omega) (by omega) dX8_outNumbers_82 ?_
          refine z_inc_1 (pc := 83) h dX8_outNumbers_83 (by decide) rfl ?_
          refine z_goto (pc := 86) (tgt := 2) h dX8_outNumbers_86 (by decide) ?_
          have e11 : i + 1 - 1 = i := by omega
          refine ih (i + 1) _ _ _ (by omega) (by omega) (by omega) ⟨zku.1, fun j hj => ?_⟩ (by rw [e11]; exact zT) (by rw [e11]; exact zb) (fun k a b => ?_) ?_ (fun j a b => ?_)
          · show (if j = 18 then _ else z.2 j) = _
            rw [if_neg hj]; exact zku.2 j hj
          · show zup (z.2 18) i _ k = _
            by_cases w : k = i
            · rw [w, zup_s, hwj]; exact z17
            · rw [zup_n _ _ w, z18]; exact hpc k a (by omega)
          · show zup (z.2 18) i _ 0 = _
            rw [zup_n _ _ (by omega), z18]; exact hp0
          · by_cases w : j = i - 1
            · rw [w]; exact hk2
            · exact hall j a (by omega)
        · have hk2 := of_decide_eq_false c68
          rw [if_neg hk2] at hz
          refine z_iconst (pc := 71) h dX8_outNumbers_71 ?_
          refine z_zret (pc := 72) h rfl (by omega) dX8_outNumbers_72 ?_
          have e := nG_e (j := i - 1) (c := 5) (by omega) (by omega) hall hk2
          refine ⟨by rw [e, decide_eq_false (by omega)]; rfl, z, rfl, hk.tr hzk.ku, ?_⟩
          rw [e, if_neg (by omega)]
          exact hz
      refine z_iload_n (pc := 2) h dX8_outNumbers_2 rfl ?_
      refine z_bipush (pc := 3) h dX8_outNumbers_3 (by decide) ?_
      refine z_icmp_ge (pc := 5) (tgt := 89) h (by omega) (by omega) dX8_outNumbers_5 (by decide) (fun c5 => ?_) (fun c5 => ?_)
      · refine z_iconst (pc := 89) h dX8_outNumbers_89 ?_
        refine z_zret (pc := 90) h rfl (by omega) dX8_outNumbers_90 ?_
        have hi6 : i - 1 = 5 := by omega
        rw [hi6] at hTy hby hall
        have e := nG_n hall
        refine ⟨by rw [e]; rfl, y, rfl, hk, ?_⟩
        rw [if_pos e]
        exact ⟨hTy, hby, fun k a b => hpc k a (by omega), hp0⟩
      · refine z_iload_n (pc := 8) h dX8_outNumbers_8 rfl ?_
        refine z_iconst (pc := 9) h dX8_outNumbers_9 ?_
        refine z_icmp_le (pc := 10) (tgt := 17) h (by omega) (by omega) dX8_outNumbers_10 (by decide) (fun c10 => ?_) (fun c10 => ?_)
        · refine z_iconst (pc := 17) h dX8_outNumbers_17 ?_
          refine z_ist_2 (pc := 18) h dX8_outNumbers_18 (by decide) rfl ?_
          refine z_iload_n (pc := 19) h dX8_outNumbers_19 rfl ?_
          refine z_iconst (pc := 20) h dX8_outNumbers_20 ?_
          refine z_icmp_ne (pc := 21) (tgt := 29) h (by omega) (by omega) dX8_outNumbers_21 (by decide) (fun c21 => ?_) (fun c21 => ?_)
          · refine z_iload_n (pc := 29) h dX8_outNumbers_29 rfl ?_
            refine z_iconst (pc := 30) h dX8_outNumbers_30 ?_
            refine z_icmp_ne (pc := 31) (tgt := 38) h (by omega) (by omega) dX8_outNumbers_31 (by decide) (fun c31 => ?_) (fun c31 => ?_)
            · refine z_iload_n (pc := 38) h dX8_outNumbers_38 rfl ?_
              refine z_iconst (pc := 39) h dX8_outNumbers_39 ?_
              refine z_icmp_ne (pc := 40) (tgt := 49) h (by omega) (by omega) dX8_outNumbers_40 (by decide) (fun c40 => ?_) (fun c40 => ?_)
              · refine z_iload_n (pc := 49) h dX8_outNumbers_49 rfl ?_
                refine z_iconst (pc := 50) h dX8_outNumbers_50 ?_
                refine z_icmp_ne (pc := 51) (tgt := 59) h (by omega) (by omega) dX8_outNumbers_51 (by decide) (fun c51 => ?_) (fun c51 => ?_)
                · refine z_bipush (pc := 59) h dX8_outNumbers_59 (by decide) ?_
                  refine z_ist_3 (pc := 61) h dX8_outNumbers_61 (by decide) rfl ?_
                  first
                  | (rw [if_pos (by omega)] at hlv; exact G _ _ (by omega) hlv.symm (by omega))
                  | (rw [if_neg (by omega)] at hlv; exact G _ _ (by omega) hlv.symm (by omega))
                  | (exfalso; omega)
                · refine z_bipush (pc := 54) h dX8_outNumbers_54 (by decide) ?_
                  refine z_goto (pc := 56) (tgt := 61) h dX8_outNumbers_56 (by decide) ?_
                  refine z_ist_3 (pc := 61) h dX8_outNumbers_61 (by decide) rfl ?_
                  first
                  | (rw [if_pos (by omega)] at hlv; exact G _ _ (by omega) hlv.symm (by omega))
                  | (rw [if_neg (by omega)] at hlv; exact G _ _ (by omega) hlv.symm (by omega))
                  | (exfalso; omega)
              · refine z_sipush (pc := 43) h dX8_outNumbers_43 (by decide) ?_
                refine z_goto (pc := 46) (tgt := 61) h dX8_outNumbers_46 (by decide) ?_
                refine z_ist_3 (pc := 61) h dX8_outNumbers_61 (by decide) rfl ?_
                first
                | (rw [if_pos (by omega)] at hlv; exact G _ _ (by omega) hlv.symm (by omega))
                | (rw [if_neg (by omega)] at hlv; exact G _ _ (by omega) hlv.symm (by omega))
                | (exfalso; omega)
            · refine z_iconst (pc := 34) h dX8_outNumbers_34 ?_
              refine z_goto (pc := 35) (tgt := 61) h dX8_outNumbers_35 (by decide) ?_
              refine z_ist_3 (pc := 61) h dX8_outNumbers_61 (by decide) rfl ?_
              first
              | (rw [if_pos (by omega)] at hlv; exact G _ _ (by omega) hlv.symm (by omega))
              | (rw [if_neg (by omega)] at hlv; exact G _ _ (by omega) hlv.symm (by omega))
              | (exfalso; omega)
          · refine z_bipush (pc := 24) h dX8_outNumbers_24 (by decide) ?_
            refine z_goto (pc := 26) (tgt := 61) h dX8_outNumbers_26 (by decide) ?_
            refine z_ist_3 (pc := 61) h dX8_outNumbers_61 (by decide) rfl ?_
            first
            | (rw [if_pos (by omega)] at hlv; exact G _ _ (by omega) hlv.symm (by omega))
            | (rw [if_neg (by omega)] at hlv; exact G _ _ (by omega) hlv.symm (by omega))
            | (exfalso; omega)
        · refine z_iconst (pc := 13) h dX8_outNumbers_13 ?_
          refine z_goto (pc := 14) (tgt := 18) h dX8_outNumbers_14 (by decide) ?_
          refine z_ist_2 (pc := 18) h dX8_outNumbers_18 (by decide) rfl ?_
          refine z_iload_n (pc := 19) h dX8_outNumbers_19 rfl ?_
          refine z_iconst (pc := 20) h dX8_outNumbers_20 ?_
          refine z_icmp_ne (pc := 21) (tgt := 29) h (by omega) (by omega) dX8_outNumbers_21 (by decide) (fun c21 => ?_) (fun c21 => ?_)
          · refine z_iload_n (pc := 29) h dX8_outNumbers_29 rfl ?_
            refine z_iconst (pc := 30) h dX8_outNumbers_30 ?_
            refine z_icmp_ne (pc := 31) (tgt := 38) h (by omega) (by omega) dX8_outNumbers_31 (by decide) (fun c31 => ?_) (fun c31 => ?_)
            · refine z_iload_n (pc := 38) h dX8_outNumbers_38 rfl ?_
              refine z_iconst (pc := 39) h dX8_outNumbers_39 ?_
              refine z_icmp_ne (pc := 40) (tgt := 49) h (by omega) (by omega) dX8_outNumbers_40 (by decide) (fun c40 => ?_) (fun c40 => ?_)
              · refine z_iload_n (pc := 49) h dX8_outNumbers_49 rfl ?_
                refine z_iconst (pc := 50) h dX8_outNumbers_50 ?_
                refine z_icmp_ne (pc := 51) (tgt := 59) h (by omega) (by omega) dX8_outNumbers_51 (by decide) (fun c51 => ?_) (fun c51 => ?_)
                · refine z_bipush (pc := 59) h dX8_outNumbers_59 (by decide) ?_
                  refine z_ist_3 (pc := 61) h dX8_outNumbers_61 (by decide) rfl ?_
                  first
                  | (rw [if_pos (by omega)] at hlv; exact G _ _ (by omega) hlv.symm (by omega))
                  | (rw [if_neg (by omega)] at hlv; exact G _ _ (by omega) hlv.symm (by omega))
                  | (exfalso; omega)
                · refine z_bipush (pc := 54) h dX8_outNumbers_54 (by decide) ?_
                  refine z_goto (pc := 56) (tgt := 61) h dX8_outNumbers_56 (by decide) ?_
                  refine z_ist_3 (pc := 61) h dX8_outNumbers_61 (by decide) rfl ?_
                  first
                  | (rw [if_pos (by omega)] at hlv; exact G _ _ (by omega) hlv.symm (by omega))
                  | (rw [if_neg (by omega)] at hlv; exact G _ _ (by omega) hlv.symm (by omega))
                  | (exfalso; omega)
              · refine z_sipush (pc := 43) h dX8_outNumbers_43 (by decide) ?_
                refine z_goto (pc := 46) (tgt := 61) h dX8_outNumbers_46 (by decide) ?_
                refine z_ist_3 (pc := 61) h dX8_outNumbers_61 (by decide) rfl ?_
                first
                | (rw [if_pos (by omega)] at hlv; exact G _ _ (by omega) hlv.symm (by omega))
                | (rw [if_neg (by omega)] at hlv; exact G _ _ (by omega) hlv.symm (by omega))
                | (exfalso; omega)
            · refine z_iconst (pc := 34) h dX8_outNumbers_34 ?_
              refine z_goto (pc := 35) (tgt := 61) h dX8_outNumbers_35 (by decide) ?_
              refine z_ist_3 (pc := 61) h dX8_outNumbers_61 (by decide) rfl ?_
              first
              | (rw [if_pos (by omega)] at hlv; exact G _ _ (by omega) hlv.symm (by omega))
              | (rw [if_neg (by omega)] at hlv; exact G _ _ (by omega) hlv.symm (by omega))
              | (exfalso; omega)
          · refine z_bipush (pc := 24) h dX8_outNumbers_24 (by decide) ?_
            refine z_goto (pc := 26) (tgt := 61) h dX8_outNumbers_26 (by decide) ?_
            refine z_ist_3 (pc := 61) h dX8_outNumbers_61 (by decide) rfl ?_
            first
            | (rw [if_pos (by omega)] at hlv; exact G _ _ (by omega) hlv.symm (by omega))
            | (rw [if_neg (by omega)] at hlv; exact G _ _ (by omega) hlv.symm (by omega))
            | (exfalso; omega)
  refine z_iconst (pc := 0) h dX8_outNumbers_0 ?_
  refine z_ist_1 (pc := 1) h dX8_outNumbers_1 (by decide) rfl ?_
  exact L 6 1 m _ _ (by omega) (by omega) (by omega) (KU.rf m) hT hb (fun k a b => by omega) rfl (fun j a b => by omega)
