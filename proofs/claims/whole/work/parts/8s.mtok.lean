/-! The model: tokens. -/
def seV (f : Int → Int) (n p : Int) : Int := if p < n then f p % 256 else -1
theorem m8_see {σ : zS} {m : zOb} {f : Int → Int} {n p : Int} (h2 : m.2 2 = f) (h7 : m.1 7 = n) (h6 : m.1 6 = p) (h0 : 0 ≤ p) (h4 : n ≤ 400) : zCp M_X8_see 1 [zR 31] (zo σ 31 m) (zI (seV f n p)) := by
  subst h2 h7 h6
  refine zC_of (M := M_X8_see) (ls := [some (zR 31)]) (n := 0) (by decide) (fun ad => Nat.le_of_ble_eq_true rfl) rfl (fun x h => ?_)
  unfold seV
  refine z_aloadR_n (pc := 0) h dX8_see_0 rfl ?_
  refine z_getIq (pc := 1) (c := 8) (j := 6) h (zo_s _ _ _) (by first | assumption | rfl) rfl rfl fl_X8_98 dX8_see_1 (fun g1 => ?_)
  refine z_aloadR_n (pc := 4) h dX8_see_4 rfl ?_
  refine z_getIq (pc := 5) (c := 8) (j := 7) h (zo_s _ _ _) (by first | assumption | rfl) rfl rfl fl_X8_101 dX8_see_5 (fun g5 => ?_)
  refine z_icmp_ge (pc := 8) (tgt := 27) h (by omega) (by omega) dX8_see_8 (by decide) (fun c8 => ?_) (fun c8 => ?_)
  · refine z_iconst (pc := 27) h dX8_see_27 ?_
    refine z_iret (pc := 28) h rfl dX8_see_28 ?_
    first
    | (rw [if_pos (by omega), and32]; exact ⟨rfl, rfl⟩)
    | (rw [if_neg (by omega)]; exact ⟨rfl, rfl⟩)
  · refine z_aloadR_n (pc := 11) h dX8_see_11 rfl ?_
    refine z_getA5 (pc := 12) (c := 8) (j := 2) h (by first | assumption | rfl) rfl rfl fl_X8_13 dX8_see_12 ?_
    refine z_aloadR_n (pc := 15) h dX8_see_15 rfl ?_
    refine z_getIq (pc := 16) (c := 8) (j := 6) h (zo_s _ _ _) (by first | assumption | rfl) rfl rfl fl_X8_98 dX8_see_16 (fun g16 => ?_)
    refine z_baldq (pc := 19) (c := 8) (j := 2) (L := 1600) h (zo_s _ _ _) (by first | assumption | rfl) (by decide) rfl (by decide) (by omega) (by omega) dX8_see_19 (fun g19 => ?_)
    refine z_sipush (pc := 20) h dX8_see_20 (by decide) ?_
    refine z_iand (pc := 23) h dX8_see_23 ?_
    refine z_goto (pc := 24) (tgt := 28) h dX8_see_24 (by decide) ?_
    refine z_iret (pc := 28) h rfl dX8_see_28 ?_
    first
    | (rw [if_pos (by omega), and32]; exact ⟨rfl, rfl⟩)
    | (rw [if_neg (by omega)]; exact ⟨rfl, rfl⟩)
def KT (m y : zOb) : Prop := (∀ j, j ≠ 6 → j ≠ 8 → j ≠ 9 → j ≠ 10 → j ≠ 11 → y.1 j = m.1 j) ∧ y.2 = m.2
theorem KT.s {m y : zOb} (h : KT m y) {j : Nat} (hj : j = 6 ∨ j = 8 ∨ j = 9 ∨ j = 10 ∨ j = 11) (v : Int) : KT m (oss y j v) := ⟨fun i a b c d e => by rw [oss_1, if_neg (by omega)]; exact h.1 i a b c d e, h.2⟩
def tk8 (k : Int) : Int := if k = 0 then 0 else if k = 1 then 2 else if k = 2 then 3 else if k = 3 then 4 else 1
def TOK (f : Int → Int) (n q : Int) (m : zOb) : Prop := (0 ≤ q ∧ q ≤ n) ∧ m.1 6 = tE f n q ∧ m.1 8 = tS f n q ∧ m.1 9 = tk8 (tK f n q) ∧ (tK f n q = 2 → m.1 10 = tV f n q) ∧ (tK f n q = 1 → m.1 11 = wd f n q)
theorem seV_in {f : Int → Int} {n p lo hi : Int} (hb : ∀ j, -128 ≤ f j ∧ f j ≤ 127) (h0 : 0 ≤ lo) (h1 : hi ≤ 127) : (lo ≤ seV f n p ∧ seV f n p ≤ hi) ↔ tR f n lo hi p = true := by
  have := hb p
  unfold seV tR
  rw [decide_eq_true_iff]
  split <;> omega
theorem seV_b {f : Int → Int} {n p : Int} : -1 ≤ seV f n p ∧ seV f n p ≤ 255 := by
  unfold seV
  split <;> omega
theorem m8_token {σ : zS} {m : zOb} {f : Int → Int} {n q : Int} (h2 : m.2 2 = f) (h7 : m.1 7 = n) (h6 : m.1 6 = q) (h0 : 0 ≤ q) (hq : q ≤ n) (h4 : n ≤ 400) : zC M_X8_token 3 [zR 31] (zo σ 31 m) (fun rr τ' => rr = none ∧ ∃ m', τ' = zo σ 31 m' ∧ KT m m' ∧ TOK f n q m') := by
  refine zC_of (M := M_X8_token) (ls := [some (zR 31), none, none]) (n := 2) (by decide) (fun ad => Nat.le_of_ble_eq_true rfl) rfl (fun x h => ?_)
  refine z_rgo (fun hrg => ?_)
  have hby : ∀ j, -128 ≤ f j ∧ f j ≤ 127 := fun j => by rw [← h2]; exact hrg.2 2 j
  have hsb := tS_b (f := f) hq
  have hE : tE f n q = tEs f n (tS f n q) := rfl
  have hK : tK f n q = tKs f n (tS f n q) := rfl
  have hV : tV f n q = tVk f (tS f n q) (tEs f n (tS f n q) - tS f n q) := rfl
  have hW : wd f n q = if 8 < tEs f n (tS f n q) - tS f n q then 0 else (wI f (tS f n q) (tEs f n (tS f n q) - tS f n q)).toInt := rfl
  have hSS : tS f n q = tS f n q := rfl
  generalize hs : tS f n q = s at hsb hE hK hV hW
  have fin : ∀ y : zOb, KT m y → y.1 6 = tEs f n s → y.1 8 = s → y.1 9 = tk8 (tKs f n s) → (tKs f n s = 2 → y.1 10 = tVk f s (tEs f n s - s)) → (tKs f n s = 1 → y.1 11 = if 8 < tEs f n s - s then 0 else (wI f s (tEs f n s - s)).toInt) → (none : Option Value) = none ∧ ∃ m', zo σ 31 y = zo σ 31 m' ∧ KT m m' ∧ TOK f n q m' := by
    intro y k a b c d e
    refine ⟨rfl, y, rfl, k, ⟨h0, hq⟩, by rw [hE]; exact a, by rw [hs]; exact b, by rw [hK]; exact c, fun z => by rw [hV]; exact d (by rw [← hK]; exact z), fun z => by rw [hW]; exact e (by rw [← hK]; exact z)⟩
  clear hE hK hV hW hSS
  -- digits
  have D : ∀ (k : Nat) (e : Int) (y : zOb) (l1 : Int), s ≤ e → e ≤ n → n - e < k → s < n → tR f n 97 122 s = false → tR f n 48 57 s = true → (∀ j, s ≤ j → j < e → tR f n 48 57 j = true) → KT m y → y.1 6 = e → y.1 8 = s → (0 ≤ y.1 10 ∧ y.1 10 ≤ 999) → y.1 10 = tVk f s (if e - s ≤ 3 then e - s else 3) → zW x (fun rr τ' => rr = none ∧ ∃ m', τ' = zo σ 31 m' ∧ KT m m' ∧ TOK f n q m') 163 [some (zR 31), some (zI l1), some (zI (e - s))] [] (zo σ 31 y) := by
    intro k
    induction k with
    | zero => intro e y l1 g1 g2 g3; omega
    | succ k ih =>
      intro e y l1 g1 g2 g3 gn ga gd gall hk y6 y8 yv0 yv
      have y2 : y.2 2 = f := by rw [hk.2]; exact h2
      have y7 : y.1 7 = n := by rw [hk.1 7 (by decide) (by decide) (by decide) (by decide) (by decide)]; exact h7
      have sb := seV_b (f := f) (n := n) (p := e)
      have hin := seV_in (n := n) (p := e) (lo := 48) (hi := 57) hby (by omega) (by omega)
      have hdone : tR f n 48 57 e = false → tP f n 48 57 s = e := fun z => zru_eq 401 _ e g1 (by omega) gall z
      have hx := tk2 gn ga gd
      have hse : tR f n 48 57 e = true → seV f n e = f e := fun z => by
        have := of_decide_eq_true z
        unfold seV
        rw [if_pos this.1]; omega
      have hvS : e - s < 3 → tVk f s (e - s + 1) = tVk f s (e - s) * 10 + f (s + (e - s)) - 48 := fun _ => tVk_S f s (by omega)
      have hvb : ∀ kk, 0 ≤ kk → kk ≤ 3 → (∀ j, s ≤ j → j < s + kk → tR f n 48 57 j = true) → 0 ≤ tVk f s kk ∧ tVk f s kk ≤ 999 := fun kk a b c => tVk_b a b (fun j j0 j1 => (of_decide_eq_true (c j j0 j1)).2)
      refine z_aloadR_n (pc := 163) h dX8_token_163 rfl ?_
      refine z_pV (pc := 164) (c := 8) h (m8_see y2 y7 y6 (by omega) h4) (by decide) (by first | assumption | rfl) rfl mv_X8_see ml_X8_104 rfl dX8_token_164 rfl (Nat.le_of_ble_eq_true rfl) ?_
      refine z_bipush (pc := 167) h dX8_token_167 (by decide) ?_
      refine z_bipush (pc := 169) h dX8_token_169 (by decide) ?_
      refine z_pS (pc := 171) h (m8_in (by omega) (by omega) (by omega)) (by decide) ms_X8_in ml_X8_88 rfl dX8_token_171 rfl (Nat.le_of_ble_eq_true rfl) ?_
      refine z_ifeqB (pc := 174) (tgt := 224) h dX8_token_174 (by decide) (fun c174 => ?_) (fun c174 => ?_)
      · have hr0 : tR f n 48 57 e = false := by
          cases hz : tR f n 48 57 e with
          | false => rfl
          | true => exact absurd (hin.mpr hz) (of_decide_eq_false c174)
        rw [hdone hr0] at hx
        refine z_aloadR_n (pc := 224) h dX8_token_224 rfl ?_
        refine z_iload_n (pc := 225) h dX8_token_225 rfl ?_
        refine z_iconst (pc := 226) h dX8_token_226 ?_
        refine z_icmp_le (pc := 227) (tgt := 234) h (by omega) (by omega) dX8_token_227 (by decide) (fun c227 => ?_) (fun c227 => ?_)
        · refine z_iconst (pc := 234) h dX8_token_234 ?_
          refine z_putIo (pc := 235) (c := 8) (j := 9) h (by first | assumption | rfl) rfl rfl fl_X8_115 rfl (tyX8_ok 9 (by decide)) dX8_token_235 (by omega) ?_
          refine z_goto (pc := 238) (tgt := 266) h dX8_token_238 (by decide) ?_
          refine z_ret (pc := 266) h rfl dX8_token_266 ?_
          first
          | (rw [if_pos (by omega)] at hx; exact fin _ (hk.s (by omega) _) (by rw [hx.1]; exact y6) y8 (by rw [hx.2]; rfl) (fun _ => by rw [hx.1]; show y.1 10 = _; rw [yv, if_pos (by omega)]) (fun z => by omega))
          | (rw [if_neg (by omega)] at hx; exact fin _ (hk.s (by omega) _) (by rw [hx.1]; exact y6) y8 (by rw [hx.2]; rfl) (fun z => by omega) (fun z => by omega))
        · refine z_iconst (pc := 230) h dX8_token_230 ?_
          refine z_goto (pc := 231) (tgt := 235) h dX8_token_231 (by decide) ?_
          refine z_putIo (pc := 235) (c := 8) (j := 9) h (by first | assumption | rfl) rfl rfl fl_X8_115 rfl (tyX8_ok 9 (by decide)) dX8_token_235 (by omega) ?_
          refine z_goto (pc := 238) (tgt := 266) h dX8_token_238 (by decide) ?_
          refine z_ret (pc := 266) h rfl dX8_token_266 ?_
          first
          | (rw [if_pos (by omega)] at hx; exact fin _ (hk.s (by omega) _) (by rw [hx.1]; exact y6) y8 (by rw [hx.2]; rfl) (fun _ => by rw [hx.1]; show y.1 10 = _; rw [yv, if_pos (by omega)]) (fun z => by omega))
          | (rw [if_neg (by omega)] at hx; exact fin _ (hk.s (by omega) _) (by rw [hx.1]; exact y6) y8 (by rw [hx.2]; rfl) (fun z => by omega) (fun z => by omega))
      · have hr := hin.mp (of_decide_eq_true c174)
        have hfe := hse hr
        have hrr := (of_decide_eq_true hr)
        have gall' : ∀ j, s ≤ j → j < e + 1 → tR f n 48 57 j = true := fun j a b => by
          by_cases z : j = e
          · rw [z]; exact hr
          · exact gall j a (by omega)
        refine z_aloadR_n (pc := 177) h dX8_token_177 rfl ?_
        refine z_iload_n (pc := 178) h dX8_token_178 rfl ?_
        refine z_iconst (pc := 179) h dX8_token_179 ?_
        refine z_icmp_ge (pc := 180) (tgt := 201) h (by omega) (by omega) dX8_token_180 (by decide) (fun c180 => ?_) (fun c180 => ?_)
        · refine z_aloadR_n (pc := 201) h dX8_token_201 rfl ?_
          refine z_getIq (pc := 202) (c := 8) (j := 10) h (zo_s _ _ _) (by first | assumption | rfl) rfl rfl fl_X8_118 dX8_token_202 (fun g202 => ?_)
          have hv' := hvb (if e + 1 - s ≤ 3 then e + 1 - s else 3) (by split <;> omega) (by split <;> omega) (fun j a b => gall' j a (by split at b <;> omega))
          have hval : (if e - s < 3 then 10 * y.1 10 + f e - 48 else y.1 10) = tVk f s (if e + 1 - s ≤ 3 then e + 1 - s else 3) := by
            by_cases z : e - s < 3
            · rw [if_pos z, if_pos (by omega), show e + 1 - s = e - s + 1 by omega, hvS z, yv, if_pos (by omega), show s + (e - s) = e by omega]; omega
            · rw [if_neg z, yv]
              by_cases w : e - s = 3
              · rw [if_pos (by omega), if_neg (by omega), w]
              · rw [if_neg (by omega), if_neg (by omega)]
          first
          | rw [if_pos (by omega)] at hval
          | rw [if_neg (by omega)] at hval
          rw [hval]
          refine z_putIo (pc := 205) (c := 8) (j := 10) h (by first | assumption | rfl) rfl rfl fl_X8_118 rfl (tyX8_ok 10 (by decide)) dX8_token_205 (by omega) ?_
          refine z_aloadR_n (pc := 208) h dX8_token_208 rfl ?_
          refine z_dupR (pc := 209) h dX8_token_209 ?_
          refine z_getIq (pc := 210) (c := 8) (j := 6) h (zo_s _ _ _) (by first | assumption | rfl) rfl rfl fl_X8_98 dX8_token_210 (fun g210 => ?_)
          try simp only [osa_1, osa_2, oss_1, oss_2, osA_1, osA_2, zup_s, reduceIte, Nat.reduceEqDiff] at g210 ⊢
          refine z_iconst (pc := 213) h dX8_token_213 ?_
          refine z_iadd (pc := 214) h dX8_token_214 ?_
          refine z_putIo (pc := 215) (c := 8) (j := 6) h (by first | assumption | rfl) rfl rfl fl_X8_98 rfl (tyX8_ok 6 (by decide)) dX8_token_215 (by omega) ?_
          refine z_inc_2 (pc := 218) h dX8_token_218 (by decide) rfl ?_
          refine z_goto (pc := 221) (tgt := 163) h dX8_token_221 (by decide) ?_
          rw [y6, show e - s + 1 = e + 1 - s by omega]
          exact ih (e + 1) _ l1 (by omega) (by omega) (by omega) gn ga gd gall' ((hk.s (by omega) _).s (by omega) _) rfl y8 hv' rfl
        · refine z_bipush (pc := 183) h dX8_token_183 (by decide) ?_
          refine z_aloadR_n (pc := 185) h dX8_token_185 rfl ?_
          refine z_getIq (pc := 186) (c := 8) (j := 10) h (zo_s _ _ _) (by first | assumption | rfl) rfl rfl fl_X8_118 dX8_token_186 (fun g186 => ?_)
          refine z_imul (pc := 189) h dX8_token_189 ?_
          refine z_aloadR_n (pc := 190) h dX8_token_190 rfl ?_
          refine z_pV (pc := 191) (c := 8) h (m8_see y2 y7 y6 (by omega) h4) (by decide) (by first | assumption | rfl) rfl mv_X8_see ml_X8_104 rfl dX8_token_191 rfl (Nat.le_of_ble_eq_true rfl) ?_
          rw [hfe]
          refine z_iadd (pc := 194) h dX8_token_194 ?_
          refine z_bipush (pc := 195) h dX8_token_195 (by decide) ?_
          refine z_isub (pc := 197) h dX8_token_197 ?_
          refine z_goto (pc := 198) (tgt := 205) h dX8_token_198 (by decide) ?_
          have hv' := hvb (if e + 1 - s ≤ 3 then e + 1 - s else 3) (by split <;> omega) (by split <;> omega) (fun j a b => gall' j a (by split at b <;> omega))
          have hval : (if e - s < 3 then 10 * y.1 10 + f e - 48 else y.1 10) = tVk f s (if e + 1 - s ≤ 3 then e + 1 - s else 3) := by
            by_cases z : e - s < 3
            · rw [if_pos z, if_pos (by omega), show e + 1 - s = e - s + 1 by omega, hvS z, yv, if_pos (by omega), show s + (e - s) = e by omega]; omega
            · rw [if_neg z, yv]
              by_cases w : e - s = 3
              · rw [if_pos (by omega), if_neg (by omega), w]
              · rw [if_neg (by omega), if_neg (by omega)]
          first
          | rw [if_pos (by omega)] at hval
          | rw [if_neg (by omega)] at hval
          rw [hval]
          refine z_putIo (pc := 205) (c := 8) (j := 10) h (by first | assumption | rfl) rfl rfl fl_X8_118 rfl (tyX8_ok 10 (by decide)) dX8_token_205 (by omega) ?_
          refine z_aloadR_n (pc := 208) h dX8_token_208 rfl ?_
          refine z_dupR (pc := 209) h dX8_token_209 ?_
          refine z_getIq (pc := 210) (c := 8) (j := 6) h (zo_s _ _ _) (by first | assumption | rfl) rfl rfl fl_X8_98 dX8_token_210 (fun g210 => ?_)
          try simp only [osa_1, osa_2, oss_1, oss_2, osA_1, osA_2, zup_s, reduceIte, Nat.reduceEqDiff] at g210 ⊢
          refine z_iconst (pc := 213) h dX8_token_213 ?_
          refine z_iadd (pc := 214) h dX8_token_214 ?_
          refine z_putIo (pc := 215) (c := 8) (j := 6) h (by first | assumption | rfl) rfl rfl fl_X8_98 rfl (tyX8_ok 6 (by decide)) dX8_token_215 (by omega) ?_
          refine z_inc_2 (pc := 218) h dX8_token_218 (by decide) rfl ?_
          refine z_goto (pc := 221) (tgt := 163) h dX8_token_221 (by decide) ?_
          rw [y6, show e - s + 1 = e + 1 - s by omega]
          exact ih (e + 1) _ l1 (by omega) (by omega) (by omega) gn ga gd gall' ((hk.s (by omega) _).s (by omega) _) rfl y8 hv' rfl
  -- letters
  have A : ∀ (k : Nat) (e : Int) (y : zOb) (l1 : Int), s ≤ e → e ≤ n → n - e < k → s < n → tR f n 97 122 s = true → (∀ j, s ≤ j → j < e → tR f n 97 122 j = true) → KT m y → y.1 6 = e → y.1 8 = s → y.1 11 = (wI f s (e - s)).toInt → zW x (fun rr τ' => rr = none ∧ ∃ m', τ' = zo σ 31 m' ∧ KT m m' ∧ TOK f n q m') 74 [some (zR 31), some (zI l1), some (zI (e - s))] [] (zo σ 31 y) := by
    intro k
    induction k with
    | zero => intro e y l1 g1 g2 g3; omega
    | succ k ih =>
      intro e y l1 g1 g2 g3 gn ga gall hk y6 y8 yw
      have y2 : y.2 2 = f := by rw [hk.2]; exact h2
      have y7 : y.1 7 = n := by rw [hk.1 7 (by decide) (by decide) (by decide) (by decide) (by decide)]; exact h7
      have sb := seV_b (f := f) (n := n) (p := e)
      have hin := seV_in (n := n) (p := e) (lo := 97) (hi := 122) hby (by omega) (by omega)
      have hdone : tR f n 97 122 e = false → tP f n 97 122 s = e := fun z => zru_eq 401 _ e g1 (by omega) gall z
      have hx := tk1 gn ga
      have hwS := wI_S f s (k := e - s) (by omega)
      have yw2 : Int64.ofInt (y.1 11) = wI f s (e - s) := by rw [yw, Int64.ofInt_toInt]
      refine z_aloadR_n (pc := 74) h dX8_token_74 rfl ?_
      refine z_pV (pc := 75) (c := 8) h (m8_see y2 y7 y6 (by omega) h4) (by decide) (by first | assumption | rfl) rfl mv_X8_see ml_X8_104 rfl dX8_token_75 rfl (Nat.le_of_ble_eq_true rfl) ?_
      refine z_bipush (pc := 78) h dX8_token_78 (by decide) ?_
      refine z_bipush (pc := 80) h dX8_token_80 (by decide) ?_
      refine z_pS (pc := 82) h (m8_in (by omega) (by omega) (by omega)) (by decide) ms_X8_in ml_X8_88 rfl dX8_token_82 rfl (Nat.le_of_ble_eq_true rfl) ?_
      refine z_ifeqB (pc := 85) (tgt := 121) h dX8_token_85 (by decide) (fun c85 => ?_) (fun c85 => ?_)
      · have hr0 : tR f n 97 122 e = false := by
          cases hz : tR f n 97 122 e with
          | false => rfl
          | true => exact absurd (hin.mpr hz) (of_decide_eq_false c85)
        rw [hdone hr0] at hx
        refine z_aloadR_n (pc := 121) h dX8_token_121 rfl ?_
        refine z_iload_n (pc := 122) h dX8_token_122 rfl ?_
        refine z_bipush (pc := 123) h dX8_token_123 (by decide) ?_
        refine z_icmp_le (pc := 125) (tgt := 132) h (by omega) (by omega) dX8_token_125 (by decide) (fun c125 => ?_) (fun c125 => ?_)
        · refine z_aloadR_n (pc := 132) h dX8_token_132 rfl ?_
          refine z_getLq (pc := 133) (c := 8) (j := 11) h (zo_s _ _ _) (by first | assumption | rfl) rfl rfl fl_X8_111 dX8_token_133 (fun g133 => ?_)
          try rw [yw2]
          refine z_putLo (pc := 136) (c := 8) (j := 11) h (by first | assumption | rfl) rfl rfl fl_X8_111 rfl (tyX8_ok 11 (by decide)) dX8_token_136 ?_
          refine z_aloadR_n (pc := 139) h dX8_token_139 rfl ?_
          refine z_iconst (pc := 140) h dX8_token_140 ?_
          refine z_putIo (pc := 141) (c := 8) (j := 9) h (by first | assumption | rfl) rfl rfl fl_X8_115 rfl (tyX8_ok 9 (by decide)) dX8_token_141 (by omega) ?_
          refine z_goto (pc := 144) (tgt := 266) h dX8_token_144 (by decide) ?_
          refine z_ret (pc := 266) h rfl dX8_token_266 ?_
          first
          | exact fin _ ((hk.s (by omega) _).s (by omega) _) (by rw [hx.1]; exact y6) y8 (by rw [hx.2]; rfl) (fun z => by omega) (fun _ => by rw [hx.1, if_pos (by omega)]; exact (by decide : (Int64.ofNat 0).toInt = 0))
          | exact fin _ ((hk.s (by omega) _).s (by omega) _) (by rw [hx.1]; exact y6) y8 (by rw [hx.2]; rfl) (fun z => by omega) (fun _ => by rw [hx.1, if_neg (by omega)]; rfl)
        · refine z_lconst (pc := 128) h dX8_token_128 ?_
          refine z_goto (pc := 129) (tgt := 136) h dX8_token_129 (by decide) ?_
          try rw [yw2]
          refine z_putLo (pc := 136) (c := 8) (j := 11) h (by first | assumption | rfl) rfl rfl fl_X8_111 rfl (tyX8_ok 11 (by decide)) dX8_token_136 ?_
          refine z_aloadR_n (pc := 139) h dX8_token_139 rfl ?_
          refine z_iconst (pc := 140) h dX8_token_140 ?_
          refine z_putIo (pc := 141) (c := 8) (j := 9) h (by first | assumption | rfl) rfl rfl fl_X8_115 rfl (tyX8_ok 9 (by decide)) dX8_token_141 (by omega) ?_
          refine z_goto (pc := 144) (tgt := 266) h dX8_token_144 (by decide) ?_
          refine z_ret (pc := 266) h rfl dX8_token_266 ?_
          first
          | exact fin _ ((hk.s (by omega) _).s (by omega) _) (by rw [hx.1]; exact y6) y8 (by rw [hx.2]; rfl) (fun z => by omega) (fun _ => by rw [hx.1, if_pos (by omega)]; exact (by decide : (Int64.ofNat 0).toInt = 0))
          | exact fin _ ((hk.s (by omega) _).s (by omega) _) (by rw [hx.1]; exact y6) y8 (by rw [hx.2]; rfl) (fun z => by omega) (fun _ => by rw [hx.1, if_neg (by omega)]; rfl)
      · have hr := hin.mp (of_decide_eq_true c85)
        have hrr := (of_decide_eq_true hr)
        have hsv : seV f n e = f (s + (e - s)) % 256 := by unfold seV; rw [if_pos hrr.1, show s + (e - s) = e by omega]
        have gall' : ∀ j, s ≤ j → j < e + 1 → tR f n 97 122 j = true := fun j a b => by
          by_cases z : j = e
          · rw [z]; exact hr
          · exact gall j a (by omega)
        refine z_aloadR_n (pc := 88) h dX8_token_88 rfl ?_
        refine z_aloadR_n (pc := 89) h dX8_token_89 rfl ?_
        refine z_getLq (pc := 90) (c := 8) (j := 11) h (zo_s _ _ _) (by first | assumption | rfl) rfl rfl fl_X8_111 dX8_token_90 (fun g90 => ?_)
        refine z_bipush (pc := 93) h dX8_token_93 (by decide) ?_
        refine z_lshl (pc := 95) h dX8_token_95 ?_
        refine z_aloadR_n (pc := 96) h dX8_token_96 rfl ?_
        refine z_pV (pc := 97) (c := 8) h (m8_see y2 y7 y6 (by omega) h4) (by decide) (by first | assumption | rfl) rfl mv_X8_see ml_X8_104 rfl dX8_token_97 rfl (Nat.le_of_ble_eq_true rfl) ?_
        refine z_i2l (pc := 100) h dX8_token_100 ?_
        refine z_lor (pc := 101) h dX8_token_101 ?_
        rw [yw2, hsv]
        change zW x _ 102 _ (.long (sw (wI f s (e - s)) (f (s + (e - s)) % 256)) :: _) _
        rw [← hwS]
        refine z_putLo (pc := 102) (c := 8) (j := 11) h (by first | assumption | rfl) rfl rfl fl_X8_111 rfl (tyX8_ok 11 (by decide)) dX8_token_102 ?_
        refine z_aloadR_n (pc := 105) h dX8_token_105 rfl ?_
        refine z_dupR (pc := 106) h dX8_token_106 ?_
        refine z_getIq (pc := 107) (c := 8) (j := 6) h (zo_s _ _ _) (by first | assumption | rfl) rfl rfl fl_X8_98 dX8_token_107 (fun g107 => ?_)
        try simp only [osa_1, osa_2, oss_1, oss_2, osA_1, osA_2, zup_s, reduceIte, Nat.reduceEqDiff] at g107 ⊢
        refine z_iconst (pc := 110) h dX8_token_110 ?_
        refine z_iadd (pc := 111) h dX8_token_111 ?_
        refine z_putIo (pc := 112) (c := 8) (j := 6) h (by first | assumption | rfl) rfl rfl fl_X8_98 rfl (tyX8_ok 6 (by decide)) dX8_token_112 (by omega) ?_
        refine z_inc_2 (pc := 115) h dX8_token_115 (by decide) rfl ?_
        refine z_goto (pc := 118) (tgt := 74) h dX8_token_118 (by decide) ?_
        rw [y6, show e - s + 1 = e + 1 - s by omega]
        exact ih (e + 1) _ l1 (by omega) (by omega) (by omega) gn ga gall' ((hk.s (by omega) _).s (by omega) _) rfl y8 rfl
  have B : ∀ y : zOb, KT m y → y.1 6 = s → zW x (fun rr τ' => rr = none ∧ ∃ m', τ' = zo σ 31 m' ∧ KT m m' ∧ TOK f n q m') 31 [some (zR 31), none, none] [] (zo σ 31 y) := by
    intro y hk y6
    have y2 : y.2 2 = f := by rw [hk.2]; exact h2
    have y7 : y.1 7 = n := by rw [hk.1 7 (by decide) (by decide) (by decide) (by decide) (by decide)]; exact h7
    have sb := seV_b (f := f) (n := n) (p := s)
    have hna := seV_in (n := n) (p := s) (lo := 97) (hi := 122) hby (by omega) (by omega)
    have hnd := seV_in (n := n) (p := s) (lo := 48) (hi := 57) hby (by omega) (by omega)
    have hlt : 0 ≤ seV f n s ↔ s < n := by unfold seV; split <;> omega
    have h59 : s < n → (seV f n s = 59 ↔ f s = 59) := fun z => by have := hby s; unfold seV; rw [if_pos z]; omega
    refine z_aloadR_n (pc := 31) h dX8_token_31 rfl ?_
    refine z_aloadR_n (pc := 32) h dX8_token_32 rfl ?_
    refine z_getIq (pc := 33) (c := 8) (j := 6) h (zo_s _ _ _) (by first | assumption | rfl) rfl rfl fl_X8_98 dX8_token_33 (fun g33 => ?_)
    refine z_putIo (pc := 36) (c := 8) (j := 8) h (by first | assumption | rfl) rfl rfl fl_X8_108 rfl (tyX8_ok 8 (by decide)) dX8_token_36 (by omega) ?_
    rw [y6]
    have e6 : (oss y 8 s).1 6 = s := y6
    refine z_aloadR_n (pc := 39) h dX8_token_39 rfl ?_
    refine z_pV (pc := 40) (c := 8) h (m8_see (m := oss y 8 s) y2 y7 e6 (by omega) h4) (by decide) (by first | assumption | rfl) rfl mv_X8_see ml_X8_104 rfl dX8_token_40 rfl (Nat.le_of_ble_eq_true rfl) ?_
    refine z_ist_1 (pc := 43) h dX8_token_43 (by decide) rfl ?_
    refine z_aloadR_n (pc := 44) h dX8_token_44 rfl ?_
    refine z_lconst (pc := 45) h dX8_token_45 ?_
    refine z_putLo (pc := 46) (c := 8) (j := 11) h (by first | assumption | rfl) rfl rfl fl_X8_111 rfl (tyX8_ok 11 (by decide)) dX8_token_46 ?_
    refine z_iconst (pc := 49) h dX8_token_49 ?_
    refine z_ist_2 (pc := 50) h dX8_token_50 (by decide) rfl ?_
    generalize hz : oss (oss y 8 s) 11 _ = z
    have z6 : z.1 6 = s := by rw [← hz]; exact y6
    have z8 : z.1 8 = s := by rw [← hz]; rfl
    have z11 : z.1 11 = 0 := by rw [← hz]; exact (by decide : (Int64.ofNat 0).toInt = 0)
    have zk : KT m z := by rw [← hz]; exact (hk.s (by omega) _).s (by omega) _
    clear hz
    refine z_iload_n (pc := 51) h dX8_token_51 rfl ?_
    refine z_if_ge (pc := 52) (tgt := 63) h (by omega) dX8_token_52 (by decide) (fun c52 => ?_) (fun c52 => ?_)
    · have hsn : s < n := by omega
      refine z_iload_n (pc := 63) h dX8_token_63 rfl ?_
      refine z_bipush (pc := 64) h dX8_token_64 (by decide) ?_
      refine z_bipush (pc := 66) h dX8_token_66 (by decide) ?_
      refine z_pS (pc := 68) h (m8_in (by omega) (by omega) (by omega)) (by decide) ms_X8_in ml_X8_88 rfl dX8_token_68 rfl (Nat.le_of_ble_eq_true rfl) ?_
      refine z_ifeqB (pc := 71) (tgt := 147) h dX8_token_71 (by decide) (fun c71 => ?_) (fun c71 => ?_)
      · have ha : tR f n 97 122 s = false := by
          cases hz : tR f n 97 122 s with
          | false => rfl
          | true => exact absurd (hna.mpr hz) (of_decide_eq_false c71)
        refine z_iload_n (pc := 147) h dX8_token_147 rfl ?_
        refine z_bipush (pc := 148) h dX8_token_148 (by decide) ?_
        refine z_bipush (pc := 150) h dX8_token_150 (by decide) ?_
        refine z_pS (pc := 152) h (m8_in (by omega) (by omega) (by omega)) (by decide) ms_X8_in ml_X8_88 rfl dX8_token_152 rfl (Nat.le_of_ble_eq_true rfl) ?_
        refine z_ifeqB (pc := 155) (tgt := 241) h dX8_token_155 (by decide) (fun c155 => ?_) (fun c155 => ?_)
        · have hd : tR f n 48 57 s = false := by
            cases hz : tR f n 48 57 s with
            | false => rfl
            | true => exact absurd (hnd.mpr hz) (of_decide_eq_false c155)
          have hx := tk3 hsn ha hd
          refine z_aloadR_n (pc := 241) h dX8_token_241 rfl ?_
          refine z_dupR (pc := 242) h dX8_token_242 ?_
          refine z_getIq (pc := 243) (c := 8) (j := 6) h (zo_s _ _ _) (by first | assumption | rfl) rfl rfl fl_X8_98 dX8_token_243 (fun g243 => ?_)
          try simp only [osa_1, osa_2, oss_1, oss_2, osA_1, osA_2, zup_s, reduceIte, Nat.reduceEqDiff] at g243 ⊢
          refine z_iconst (pc := 246) h dX8_token_246 ?_
          refine z_iadd (pc := 247) h dX8_token_247 ?_
          refine z_putIo (pc := 248) (c := 8) (j := 6) h (by first | assumption | rfl) rfl rfl fl_X8_98 rfl (tyX8_ok 6 (by decide)) dX8_token_248 (by omega) ?_
          refine z_aloadR_n (pc := 251) h dX8_token_251 rfl ?_
          refine z_iload_n (pc := 252) h dX8_token_252 rfl ?_
          refine z_bipush (pc := 253) h dX8_token_253 (by decide) ?_
          refine z_icmp_ne (pc := 255) (tgt := 262) h (by omega) (by omega) dX8_token_255 (by decide) (fun c255 => ?_) (fun c255 => ?_)
          · refine z_iconst (pc := 262) h dX8_token_262 ?_
            refine z_putIo (pc := 263) (c := 8) (j := 9) h (by first | assumption | rfl) rfl rfl fl_X8_115 rfl (tyX8_ok 9 (by decide)) dX8_token_263 (by omega) ?_
            refine z_ret (pc := 266) h rfl dX8_token_266 ?_
            first
            | exact fin _ (zk.s (by omega) _) (by rw [hx.1]; exact z6) z8 (by rw [hx.2]; rfl) (fun w => by omega) (fun w => by omega)
            | (rw [if_pos ((h59 hsn).mp c255)] at hx; exact fin _ ((zk.s (by omega) _).s (by omega) _) (by rw [hx.1]; show z.1 6 + 1 = _; rw [z6]) z8 (by rw [hx.2]; rfl) (fun w => by omega) (fun w => by omega))
            | (rw [if_neg (fun w => c255 ((h59 hsn).mpr w))] at hx; exact fin _ ((zk.s (by omega) _).s (by omega) _) (by rw [hx.1]; show z.1 6 + 1 = _; rw [z6]) z8 (by rw [hx.2]; rfl) (fun w => by omega) (fun w => by omega))
          · refine z_iconst (pc := 258) h dX8_token_258 ?_
            refine z_goto (pc := 259) (tgt := 263) h dX8_token_259 (by decide) ?_
            refine z_putIo (pc := 263) (c := 8) (j := 9) h (by first | assumption | rfl) rfl rfl fl_X8_115 rfl (tyX8_ok 9 (by decide)) dX8_token_263 (by omega) ?_
            refine z_ret (pc := 266) h rfl dX8_token_266 ?_
            first
            | exact fin _ (zk.s (by omega) _) (by rw [hx.1]; exact z6) z8 (by rw [hx.2]; rfl) (fun w => by omega) (fun w => by omega)
            | (rw [if_pos ((h59 hsn).mp c255)] at hx; exact fin _ ((zk.s (by omega) _).s (by omega) _) (by rw [hx.1]; show z.1 6 + 1 = _; rw [z6]) z8 (by rw [hx.2]; rfl) (fun w => by omega) (fun w => by omega))
            | (rw [if_neg (fun w => c255 ((h59 hsn).mpr w))] at hx; exact fin _ ((zk.s (by omega) _).s (by omega) _) (by rw [hx.1]; show z.1 6 + 1 = _; rw [z6]) z8 (by rw [hx.2]; rfl) (fun w => by omega) (fun w => by omega))
        · have hd := hnd.mp (of_decide_eq_true c155)
          refine z_aloadR_n (pc := 158) h dX8_token_158 rfl ?_
          refine z_iconst (pc := 159) h dX8_token_159 ?_
          refine z_putIo (pc := 160) (c := 8) (j := 10) h (by first | assumption | rfl) rfl rfl fl_X8_118 rfl (tyX8_ok 10 (by decide)) dX8_token_160 (by omega) ?_
          have := D (n - s + 1).toNat s (oss z 10 0) (seV f n s) (Int.le_refl s) hsb.2 (by omega) hsn ha hd (fun j a b => by omega) (zk.s (by omega) _) z6 z8 (by show (0 : Int) ≤ 0 ∧ (0 : Int) ≤ 999; omega) (by rw [Int.sub_self]; rfl)
          rw [Int.sub_self] at this
          exact this
      · have ha := hna.mp (of_decide_eq_true c71)
        have := A (n - s + 1).toNat s z (seV f n s) (Int.le_refl s) hsb.2 (by omega) hsn ha (fun j a b => by omega) zk z6 z8 (by rw [z11, Int.sub_self]; exact (by decide : (0 : Int) = (0 : Int64).toInt))
        rw [Int.sub_self] at this
        exact this
    · have hx := tk0 (f := f) (show ¬ s < n by omega)
      refine z_aloadR_n (pc := 55) h dX8_token_55 rfl ?_
      refine z_iconst (pc := 56) h dX8_token_56 ?_
      refine z_putIo (pc := 57) (c := 8) (j := 9) h (by first | assumption | rfl) rfl rfl fl_X8_115 rfl (tyX8_ok 9 (by decide)) dX8_token_57 (by omega) ?_
      refine z_goto (pc := 60) (tgt := 266) h dX8_token_60 (by decide) ?_
      refine z_ret (pc := 266) h rfl dX8_token_266 ?_
      first
      | exact fin _ (zk.s (by omega) _) (by rw [hx.1]; exact z6) z8 (by rw [hx.2]; rfl) (fun w => by omega) (fun w => by omega)
      | (rw [if_pos ((h59 hsn).mp c255)] at hx; exact fin _ ((zk.s (by omega) _).s (by omega) _) (by rw [hx.1]; show z.1 6 + 1 = _; rw [z6]) z8 (by rw [hx.2]; rfl) (fun w => by omega) (fun w => by omega))
      | (rw [if_neg (fun w => c255 ((h59 hsn).mpr w))] at hx; exact fin _ ((zk.s (by omega) _).s (by omega) _) (by rw [hx.1]; show z.1 6 + 1 = _; rw [z6]) z8 (by rw [hx.2]; rfl) (fun w => by omega) (fun w => by omega))
  have L : ∀ (k : Nat) (e : Int) (y : zOb), q ≤ e → e ≤ n → n - e < k → (∀ j, q ≤ j → j < e → tB f n j = true) → KT m y → y.1 6 = e → zW x (fun rr τ' => rr = none ∧ ∃ m', τ' = zo σ 31 m' ∧ KT m m' ∧ TOK f n q m') 0 [some (zR 31), none, none] [] (zo σ 31 y) := by
    intro k
    induction k with
    | zero => intro e y g1 g2 g3; omega
    | succ k ih =>
      intro e y g1 g2 g3 gall hk y6
      have y2 : y.2 2 = f := by rw [hk.2]; exact h2
      have y7 : y.1 7 = n := by rw [hk.1 7 (by decide) (by decide) (by decide) (by decide) (by decide)]; exact h7
      have sb := seV_b (f := f) (n := n) (p := e)
      have hbl : (seV f n e = 10 ∨ seV f n e = 32) ↔ tB f n e = true := by
        have := hby e
        unfold seV tB
        rw [decide_eq_true_iff]
        split <;> omega
      have hdone : tB f n e = false → e = s := fun z => (zru_eq 401 _ e g1 (by omega) gall z).symm.trans hs
      refine z_aloadR_n (pc := 0) h dX8_token_0 rfl ?_
      refine z_pV (pc := 1) (c := 8) h (m8_see y2 y7 y6 (by omega) h4) (by decide) (by first | assumption | rfl) rfl mv_X8_see ml_X8_104 rfl dX8_token_1 rfl (Nat.le_of_ble_eq_true rfl) ?_
      refine z_bipush (pc := 4) h dX8_token_4 (by decide) ?_
      refine z_icmp_eq (pc := 6) (tgt := 18) h (by omega) (by omega) dX8_token_6 (by decide) (fun c6 => ?_) (fun c6 => ?_)
      · have hb : tB f n e = true := hbl.mp (by omega)
        have hbn := (of_decide_eq_true hb).1
        refine z_aloadR_n (pc := 18) h dX8_token_18 rfl ?_
        refine z_dupR (pc := 19) h dX8_token_19 ?_
        refine z_getIq (pc := 20) (c := 8) (j := 6) h (zo_s _ _ _) (by first | assumption | rfl) rfl rfl fl_X8_98 dX8_token_20 (fun g20 => ?_)
        refine z_iconst (pc := 23) h dX8_token_23 ?_
        refine z_iadd (pc := 24) h dX8_token_24 ?_
        refine z_putIo (pc := 25) (c := 8) (j := 6) h (by first | assumption | rfl) rfl rfl fl_X8_98 rfl (tyX8_ok 6 (by decide)) dX8_token_25 (by omega) ?_
        refine z_goto (pc := 28) (tgt := 0) h dX8_token_28 (by decide) ?_
        rw [y6]
        refine ih (e + 1) _ (by omega) (by omega) (by omega) (fun j a b => ?_) (hk.s (by omega) _) rfl
        by_cases z : j = e
        · rw [z]; exact hb
        · exact gall j a (by omega)
      · refine z_aloadR_n (pc := 9) h dX8_token_9 rfl ?_
        refine z_pV (pc := 10) (c := 8) h (m8_see y2 y7 y6 (by omega) h4) (by decide) (by first | assumption | rfl) rfl mv_X8_see ml_X8_104 rfl dX8_token_10 rfl (Nat.le_of_ble_eq_true rfl) ?_
        refine z_bipush (pc := 13) h dX8_token_13 (by decide) ?_
        refine z_icmp_ne (pc := 15) (tgt := 31) h (by omega) (by omega) dX8_token_15 (by decide) (fun c15 => ?_) (fun c15 => ?_)
        · have hb0 : tB f n e = false := by
            cases hz : tB f n e with
            | false => rfl
            | true => have := hbl.mpr hz; omega
          exact B y hk (by rw [y6]; exact hdone hb0)
        · have hb : tB f n e = true := hbl.mp (by omega)
          have hbn := (of_decide_eq_true hb).1
          refine z_aloadR_n (pc := 18) h dX8_token_18 rfl ?_
          refine z_dupR (pc := 19) h dX8_token_19 ?_
          refine z_getIq (pc := 20) (c := 8) (j := 6) h (zo_s _ _ _) (by first | assumption | rfl) rfl rfl fl_X8_98 dX8_token_20 (fun g20 => ?_)
          refine z_iconst (pc := 23) h dX8_token_23 ?_
          refine z_iadd (pc := 24) h dX8_token_24 ?_
          refine z_putIo (pc := 25) (c := 8) (j := 6) h (by first | assumption | rfl) rfl rfl fl_X8_98 rfl (tyX8_ok 6 (by decide)) dX8_token_25 (by omega) ?_
          refine z_goto (pc := 28) (tgt := 0) h dX8_token_28 (by decide) ?_
          rw [y6]
          refine ih (e + 1) _ (by omega) (by omega) (by omega) (fun j a b => ?_) (hk.s (by omega) _) rfl
          by_cases z : j = e
          · rw [z]; exact hb
          · exact gall j a (by omega)
  exact L (n - q + 1).toNat q m (Int.le_refl q) hq (by omega) (fun j a b => by omega) ⟨fun _ _ _ _ _ _ => rfl, rfl⟩ h6
