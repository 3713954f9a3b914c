/-! Tokens of a text: f its bytes, n its length. -/
def zru (P : Int → Bool) : Nat → Int → Int
  | 0, p => p
  | k + 1, p => if P p = true then zru P k (p + 1) else p
theorem zru_eq {P : Int → Bool} : ∀ (k : Nat) (p q : Int), p ≤ q → q - p ≤ k → (∀ j, p ≤ j → j < q → P j = true) → P q = false → zru P k p = q
  | 0, p, q, h1, h2, h3, h4 => by show p = q; omega
  | k + 1, p, q, h1, h2, h3, h4 => by
    unfold zru
    by_cases e : p = q
    · rw [e, h4]; rfl
    · rw [if_pos (h3 p (Int.le_refl p) (by omega))]
      exact zru_eq k (p + 1) q (by omega) (by omega) (fun j a b => h3 j (by omega) b) h4
theorem zru_b {P : Int → Bool} : ∀ (k : Nat) (p : Int), p ≤ zru P k p ∧ zru P k p ≤ p + k ∧ ∀ j, p ≤ j → j < zru P k p → P j = true
  | 0, p => ⟨Int.le_refl p, by show p ≤ p + ((0 : Nat) : Int); omega, fun j a b => by have : zru P 0 p = p := rfl; omega⟩
  | k + 1, p => by
    unfold zru
    split
    · rename_i hp
      obtain ⟨a, b, c⟩ := zru_b (P := P) k (p + 1)
      refine ⟨by omega, by omega, fun j j0 j1 => ?_⟩
      by_cases e : j = p
      · rw [e]; exact hp
      · exact c j (by omega) j1
    · exact ⟨Int.le_refl p, by omega, fun j a b => by omega⟩
def tB (f : Int → Int) (n j : Int) : Bool := decide (j < n ∧ (f j = 32 ∨ f j = 10))
def tR (f : Int → Int) (n lo hi j : Int) : Bool := decide (j < n ∧ lo ≤ f j ∧ f j ≤ hi)
def tS (f : Int → Int) (n p : Int) : Int := zru (tB f n) 401 p
def tP (f : Int → Int) (n lo hi p : Int) : Int := zru (tR f n lo hi) 401 p
/-- end of the token that begins at s -/
def tEs (f : Int → Int) (n s : Int) : Int := if s < n then (if tR f n 97 122 s = true then tP f n 97 122 s else if tR f n 48 57 s = true then tP f n 48 57 s else s + 1) else s
/-- kind of the token that begins at s: 0 the end, 1 a word, 2 a number, 3 the sign, 4 another -/
def tKs (f : Int → Int) (n s : Int) : Int := if s < n then (if tR f n 97 122 s = true then 1 else if tR f n 48 57 s = true then (if tP f n 48 57 s - s ≤ 3 then 2 else 4) else if f s = 59 then 3 else 4) else 0
def tVk (f : Int → Int) (s k : Int) : Int := zfor (fun i a => a * 10 + f (s + i) - 48) k 0
def tE (f : Int → Int) (n p : Int) : Int := tEs f n (tS f n p)
def tK (f : Int → Int) (n p : Int) : Int := tKs f n (tS f n p)
def tV (f : Int → Int) (n p : Int) : Int := tVk f (tS f n p) (tE f n p - tS f n p)
theorem tS_b {f : Int → Int} {n p : Int} (h0 : p ≤ n) : p ≤ tS f n p ∧ tS f n p ≤ n := by
  obtain ⟨a, b, c⟩ := zru_b (P := tB f n) 401 p
  refine ⟨a, ?_⟩
  show zru (tB f n) 401 p ≤ n
  by_cases q : zru (tB f n) 401 p ≤ n
  · exact q
  · have := of_decide_eq_true (c (zru (tB f n) 401 p - 1) (by omega) (by omega))
    omega
theorem tP_b {f : Int → Int} {n lo hi p : Int} (h0 : p ≤ n) : p ≤ tP f n lo hi p ∧ tP f n lo hi p ≤ n := by
  obtain ⟨a, b, c⟩ := zru_b (P := tR f n lo hi) 401 p
  refine ⟨a, ?_⟩
  show zru (tR f n lo hi) 401 p ≤ n
  by_cases q : zru (tR f n lo hi) 401 p ≤ n
  · exact q
  · have := of_decide_eq_true (c (zru (tR f n lo hi) 401 p - 1) (by omega) (by omega))
    omega
theorem tP_c {f : Int → Int} {n lo hi p j : Int} (h0 : p ≤ j) (h1 : j < tP f n lo hi p) : lo ≤ f j ∧ f j ≤ hi := by
  have := of_decide_eq_true ((zru_b (P := tR f n lo hi) 401 p).2.2 j h0 h1)
  exact this.2
theorem tP_s {f : Int → Int} {n lo hi p : Int} (h : tR f n lo hi p = true) : p + 1 ≤ tP f n lo hi p := by
  show p + 1 ≤ zru (tR f n lo hi) (400 + 1) p
  unfold zru
  rw [if_pos h]
  exact (zru_b (P := tR f n lo hi) 400 (p + 1)).1
theorem tE_b {f : Int → Int} {n p : Int} (h0 : p ≤ n) : tS f n p ≤ tE f n p ∧ tE f n p ≤ n ∧ (tK f n p ≠ 0 → tS f n p < tE f n p ∧ tS f n p < n) := by
  have hs := tS_b (f := f) h0
  unfold tE tK
  generalize tS f n p = s at hs ⊢
  unfold tEs tKs
  split
  · rename_i q
    split
    · rename_i q2; have := tP_b (f := f) (n := n) (lo := 97) (hi := 122) hs.2; have := tP_s q2; omega
    · split
      · rename_i q2; have := tP_b (f := f) (n := n) (lo := 48) (hi := 57) hs.2; have := tP_s q2; omega
      · omega
  · exact ⟨Int.le_refl s, hs.2, fun z => absurd rfl z⟩
theorem tK_b (f : Int → Int) (n p : Int) : 0 ≤ tK f n p ∧ tK f n p ≤ 4 := by
  unfold tK tKs
  repeat' split
  all_goals omega
theorem tVk_S (f : Int → Int) (s : Int) {k : Int} (h : 0 ≤ k) : tVk f s (k + 1) = tVk f s k * 10 + f (s + k) - 48 := by
  unfold tVk
  rw [zfor_S _ h]
theorem tV_b {f : Int → Int} {n p : Int} (h : tK f n p = 2) : 0 ≤ tV f n p ∧ tV f n p ≤ 999 := by
  unfold tV tE
  unfold tK at h
  generalize tS f n p = s at h ⊢
  unfold tKs at h
  split at h
  · rename_i q
    split at h
    · omega
    · rename_i q1
      split at h
      · rename_i q2
        split at h
        · rename_i q3
          have e : tEs f n s = tP f n 48 57 s := by unfold tEs; rw [if_pos q, if_neg q1, if_pos q2]
          rw [e]
          have h1 := tP_s q2
          have key : ∀ j, s ≤ j → j < tP f n 48 57 s → 48 ≤ f j ∧ f j ≤ 57 := fun j a b => tP_c a b
          generalize tP f n 48 57 s = t at h1 q3 key ⊢
          have k0 : tVk f s 0 = 0 := rfl
          have k1 := tVk_S f s (Int.le_refl 0)
          have k2 := tVk_S f s (show (0 : Int) ≤ 0 + 1 by omega)
          have k3 := tVk_S f s (show (0 : Int) ≤ 0 + 1 + 1 by omega)
          have hc : t - s = 0 + 1 ∨ t - s = 0 + 1 + 1 ∨ t - s = 0 + 1 + 1 + 1 := by omega
          have c0 := key (s + 0) (by omega) (by omega)
          rcases hc with z | z | z
          · rw [z]; omega
          · rw [z]
            have c1 := key (s + (0 + 1)) (by omega) (by omega)
            omega
          · rw [z]
            have c1 := key (s + (0 + 1)) (by omega) (by omega)
            have c2 := key (s + (0 + 1 + 1)) (by omega) (by omega)
            omega
        · omega
      · split at h <;> omega
  · omega
/-! The class: tokens. -/
theorem c_isBetween {σ : zS} {r : zOb} {j lo hi : Int} (h0 : 0 ≤ j) (h1 : j ≤ 2000) (hn : (σ 1).1 1 ≤ 400) (hlo : 0 ≤ lo ∧ lo ≤ 200) (hhi : 0 ≤ hi ∧ hi ≤ 200) : zCp M_X4_isBetween 1 [zR 2, zI j, zI lo, zI hi] (zo σ 2 r) (zB (tR ((σ 1).2 0) ((σ 1).1 1) lo hi j)) := by
  refine zC_of (M := M_X4_isBetween) (ls := [some (zR 2), some (zI j), some (zI lo), some (zI hi)]) (n := 0) (by decide) (fun ad => Nat.le_of_ble_eq_true rfl) rfl (fun x h => ?_)
  unfold tR
  refine z_iload_n (pc := 0) h dX4_isBetween_0 rfl ?_
  refine z_aloadR_n (pc := 1) h dX4_isBetween_1 rfl ?_
  refine z_getR (pc := 2) (c := 4) (j := 0) (o2 := 1) h rfl (by first | assumption | rfl) rfl rfl fl_X4_29 dX4_isBetween_2 ?_
  refine z_getIq (pc := 5) (c := 6) (j := 1) h (zo_n (show (1 : Nat) ≠ 2 by decide)) (by first | assumption | rfl) rfl rfl fl_X4_51 dX4_isBetween_5 (fun g5 => ?_)
  refine z_icmp_ge (pc := 8) (tgt := 41) h (by omega) (by omega) dX4_isBetween_8 (by decide) (fun c8 => ?_) (fun c8 => ?_)
  · refine z_iconst (pc := 41) h dX4_isBetween_41 ?_
    refine z_zret (pc := 42) h rfl (by omega) dX4_isBetween_42 ?_
    first
    | (rw [decide_eq_true (by omega)]; exact ⟨rfl, rfl⟩)
    | (rw [decide_eq_false (by omega)]; exact ⟨rfl, rfl⟩)
  · refine z_aloadR_n (pc := 11) h dX4_isBetween_11 rfl ?_
    refine z_getR (pc := 12) (c := 4) (j := 0) (o2 := 1) h rfl (by first | assumption | rfl) rfl rfl fl_X4_29 dX4_isBetween_12 ?_
    refine z_getA5 (pc := 15) (c := 6) (j := 0) h (by first | assumption | rfl) rfl rfl fl_X4_56 dX4_isBetween_15 ?_
    refine z_iload_n (pc := 18) h dX4_isBetween_18 rfl ?_
    refine z_baldq (pc := 19) (c := 6) (j := 0) (L := 400) h (zo_n (show (1 : Nat) ≠ 2 by decide)) (by first | assumption | rfl) (by decide) rfl (by decide) (by omega) (by omega) dX4_isBetween_19 (fun g19 => ?_)
    refine z_iload_n (pc := 20) h dX4_isBetween_20 rfl ?_
    refine z_icmp_lt (pc := 21) (tgt := 41) h (by omega) (by omega) dX4_isBetween_21 (by decide) (fun c21 => ?_) (fun c21 => ?_)
    · refine z_iconst (pc := 41) h dX4_isBetween_41 ?_
      refine z_zret (pc := 42) h rfl (by omega) dX4_isBetween_42 ?_
      first
      | (rw [decide_eq_true (by omega)]; exact ⟨rfl, rfl⟩)
      | (rw [decide_eq_false (by omega)]; exact ⟨rfl, rfl⟩)
    · refine z_aloadR_n (pc := 24) h dX4_isBetween_24 rfl ?_
      refine z_getR (pc := 25) (c := 4) (j := 0) (o2 := 1) h rfl (by first | assumption | rfl) rfl rfl fl_X4_29 dX4_isBetween_25 ?_
      refine z_getA5 (pc := 28) (c := 6) (j := 0) h (by first | assumption | rfl) rfl rfl fl_X4_56 dX4_isBetween_28 ?_
      refine z_iload_n (pc := 31) h dX4_isBetween_31 rfl ?_
      refine z_baldq (pc := 32) (c := 6) (j := 0) (L := 400) h (zo_n (show (1 : Nat) ≠ 2 by decide)) (by first | assumption | rfl) (by decide) rfl (by decide) (by omega) (by omega) dX4_isBetween_32 (fun g32 => ?_)
      refine z_iload_n (pc := 33) h dX4_isBetween_33 rfl ?_
      refine z_icmp_gt (pc := 34) (tgt := 41) h (by omega) (by omega) dX4_isBetween_34 (by decide) (fun c34 => ?_) (fun c34 => ?_)
      · refine z_iconst (pc := 41) h dX4_isBetween_41 ?_
        refine z_zret (pc := 42) h rfl (by omega) dX4_isBetween_42 ?_
        first
        | (rw [decide_eq_true (by omega)]; exact ⟨rfl, rfl⟩)
        | (rw [decide_eq_false (by omega)]; exact ⟨rfl, rfl⟩)
      · refine z_iconst (pc := 37) h dX4_isBetween_37 ?_
        refine z_goto (pc := 38) (tgt := 42) h dX4_isBetween_38 (by decide) ?_
        refine z_zret (pc := 42) h rfl (by omega) dX4_isBetween_42 ?_
        first
        | (rw [decide_eq_true (by omega)]; exact ⟨rfl, rfl⟩)
        | (rw [decide_eq_false (by omega)]; exact ⟨rfl, rfl⟩)
theorem c_isBlank {σ : zS} {r : zOb} {j : Int} (h0 : 0 ≤ j) (h1 : j ≤ 2000) (hn : (σ 1).1 1 ≤ 400) : zCp M_X4_isBlank 2 [zR 2, zI j] (zo σ 2 r) (zB (tB ((σ 1).2 0) ((σ 1).1 1) j)) := by
  refine zC_of (M := M_X4_isBlank) (ls := [some (zR 2), some (zI j)]) (n := 0) (by decide) (fun ad => Nat.le_of_ble_eq_true rfl) rfl (fun x h => ?_)
  have e : tB ((σ 1).2 0) ((σ 1).1 1) j = (tR ((σ 1).2 0) ((σ 1).1 1) 32 32 j || tR ((σ 1).2 0) ((σ 1).1 1) 10 10 j) := by
    unfold tB tR
    rw [← Bool.decide_or]
    exact decide_eq_decide.mpr (by omega)
  rw [e]
  refine z_aloadR_n (pc := 0) h dX4_isBlank_0 rfl ?_
  refine z_iload_n (pc := 1) h dX4_isBlank_1 rfl ?_
  refine z_bipush (pc := 2) h dX4_isBlank_2 (by decide) ?_
  refine z_bipush (pc := 4) h dX4_isBlank_4 (by decide) ?_
  refine z_pV (pc := 6) (c := 4) h (c_isBetween h0 h1 hn (by omega) (by omega)) (by decide) (by first | assumption | rfl) rfl mv_X4_isBetween ml_X4_60 rfl dX4_isBlank_6 rfl (Nat.le_of_ble_eq_true rfl) ?_
  refine z_ifneB (pc := 9) (tgt := 24) h dX4_isBlank_9 (by decide) (fun c9 => ?_) (fun c9 => ?_)
  · refine z_iconst (pc := 24) h dX4_isBlank_24 ?_
    refine z_goto (pc := 25) (tgt := 29) h dX4_isBlank_25 (by decide) ?_
    refine z_zret (pc := 29) h rfl (by omega) dX4_isBlank_29 ?_
    first
    | (rw [c9]; exact ⟨rfl, rfl⟩)
    | (rw [c9, c21]; exact ⟨rfl, rfl⟩)
  · refine z_aloadR_n (pc := 12) h dX4_isBlank_12 rfl ?_
    refine z_iload_n (pc := 13) h dX4_isBlank_13 rfl ?_
    refine z_bipush (pc := 14) h dX4_isBlank_14 (by decide) ?_
    refine z_bipush (pc := 16) h dX4_isBlank_16 (by decide) ?_
    refine z_pV (pc := 18) (c := 4) h (c_isBetween h0 h1 hn (by omega) (by omega)) (by decide) (by first | assumption | rfl) rfl mv_X4_isBetween ml_X4_60 rfl dX4_isBlank_18 rfl (Nat.le_of_ble_eq_true rfl) ?_
    refine z_ifeqB (pc := 21) (tgt := 28) h dX4_isBlank_21 (by decide) (fun c21 => ?_) (fun c21 => ?_)
    · refine z_iconst (pc := 28) h dX4_isBlank_28 ?_
      refine z_zret (pc := 29) h rfl (by omega) dX4_isBlank_29 ?_
      first
      | (rw [c9]; exact ⟨rfl, rfl⟩)
      | (rw [c9, c21]; exact ⟨rfl, rfl⟩)
    · refine z_iconst (pc := 24) h dX4_isBlank_24 ?_
      refine z_goto (pc := 25) (tgt := 29) h dX4_isBlank_25 (by decide) ?_
      refine z_zret (pc := 29) h rfl (by omega) dX4_isBlank_29 ?_
      first
      | (rw [c9]; exact ⟨rfl, rfl⟩)
      | (rw [c9, c21]; exact ⟨rfl, rfl⟩)
theorem oss_oss (m : zOb) (j : Nat) (v w : Int) : oss (oss m j v) j w = oss m j w := by
  refine Prod.ext (funext fun i => ?_) rfl
  show (if i = j then w else if i = j then v else m.1 i) = if i = j then w else m.1 i
  split <;> rfl
theorem oss_self (m : zOb) (j : Nat) : oss m j (m.1 j) = m := by
  refine Prod.ext (funext fun i => ?_) rfl
  show (if i = j then m.1 j else m.1 i) = m.1 i
  split
  · rename_i q; rw [q]
  · rfl
theorem c_passAll {σ : zS} {r : zOb} {lo hi : Int} (hp : 0 ≤ r.1 6 ∧ r.1 6 ≤ (σ 1).1 1) (hn : (σ 1).1 1 ≤ 400) (hlo : 0 ≤ lo ∧ lo ≤ 200) (hhi : 0 ≤ hi ∧ hi ≤ 200) : zCv M_X4_passAll 2 [zR 2, zI lo, zI hi] (zo σ 2 r) (zo σ 2 (oss r 6 (tP ((σ 1).2 0) ((σ 1).1 1) lo hi (r.1 6)))) := by
  refine zC_of (M := M_X4_passAll) (ls := [some (zR 2), some (zI lo), some (zI hi)]) (n := 0) (by decide) (fun ad => Nat.le_of_ble_eq_true rfl) rfl (fun x h => ?_)
  have L : ∀ (n : Nat) (q : Int), r.1 6 ≤ q → q ≤ (σ 1).1 1 → (σ 1).1 1 - q < n → (∀ j, r.1 6 ≤ j → j < q → tR ((σ 1).2 0) ((σ 1).1 1) lo hi j = true) → zW x (fun rr τ' => rr = none ∧ τ' = zo σ 2 (oss r 6 (tP ((σ 1).2 0) ((σ 1).1 1) lo hi (r.1 6)))) 0 [some (zR 2), some (zI lo), some (zI hi)] [] (zo σ 2 (oss r 6 q)) := by
    intro n
    induction n with
    | zero => intro q h1 h2 h3; omega
    | succ n ih =>
      intro q h1 h2 h3 ha
      have e6 : (oss r 6 q).1 6 = q := rfl
      have hdone : tR ((σ 1).2 0) ((σ 1).1 1) lo hi q = false → tP ((σ 1).2 0) ((σ 1).1 1) lo hi (r.1 6) = q := fun z => zru_eq 401 _ q h1 (by omega) ha z
      have hz : ¬ q < (σ 1).1 1 → tR ((σ 1).2 0) ((σ 1).1 1) lo hi q = false := fun z => decide_eq_false (fun w => z w.1)
      refine z_aloadR_n (pc := 0) h dX4_passAll_0 rfl ?_
      refine z_getIq (pc := 1) (c := 4) (j := 6) h (zo_s _ _ _) (by first | assumption | rfl) rfl rfl fl_X4_39 dX4_passAll_1 (fun g1 => ?_)
      refine z_aloadR_n (pc := 4) h dX4_passAll_4 rfl ?_
      refine z_getR (pc := 5) (c := 4) (j := 0) (o2 := 1) h rfl (by first | assumption | rfl) rfl rfl fl_X4_29 dX4_passAll_5 ?_
      refine z_getIq (pc := 8) (c := 6) (j := 1) h (zo_n (show (1 : Nat) ≠ 2 by decide)) (by first | assumption | rfl) rfl rfl fl_X4_51 dX4_passAll_8 (fun g8 => ?_)
      refine z_icmp_ge (pc := 11) (tgt := 40) h (by omega) (by omega) dX4_passAll_11 (by decide) (fun c11 => ?_) (fun c11 => ?_)
      · refine z_ret (pc := 40) h rfl dX4_passAll_40 ?_
        first
        | (rw [hdone c24]; exact ⟨rfl, rfl⟩)
        | (rw [hdone (hz (by omega))]; exact ⟨rfl, rfl⟩)
      · refine z_aloadR_n (pc := 14) h dX4_passAll_14 rfl ?_
        refine z_aloadR_n (pc := 15) h dX4_passAll_15 rfl ?_
        refine z_getIq (pc := 16) (c := 4) (j := 6) h (zo_s _ _ _) (by first | assumption | rfl) rfl rfl fl_X4_39 dX4_passAll_16 (fun g16 => ?_)
        refine z_iload_n (pc := 19) h dX4_passAll_19 rfl ?_
        refine z_iload_n (pc := 20) h dX4_passAll_20 rfl ?_
        rw [e6]
        refine z_pV (pc := 21) (c := 4) h (c_isBetween (by omega) (by omega) hn hlo hhi) (by decide) (by first | assumption | rfl) rfl mv_X4_isBetween ml_X4_60 rfl dX4_passAll_21 rfl (Nat.le_of_ble_eq_true rfl) ?_
        refine z_ifeqB (pc := 24) (tgt := 40) h dX4_passAll_24 (by decide) (fun c24 => ?_) (fun c24 => ?_)
        · refine z_ret (pc := 40) h rfl dX4_passAll_40 ?_
          first
          | (rw [hdone c24]; exact ⟨rfl, rfl⟩)
          | (rw [hdone (hz (by omega))]; exact ⟨rfl, rfl⟩)
        · refine z_aloadR_n (pc := 27) h dX4_passAll_27 rfl ?_
          refine z_dupR (pc := 28) h dX4_passAll_28 ?_
          refine z_getIq (pc := 29) (c := 4) (j := 6) h (zo_s _ _ _) (by first | assumption | rfl) rfl rfl fl_X4_39 dX4_passAll_29 (fun g29 => ?_)
          refine z_iconst (pc := 32) h dX4_passAll_32 ?_
          refine z_iadd (pc := 33) h dX4_passAll_33 ?_
          refine z_putIo (pc := 34) (c := 4) (j := 6) h (by first | assumption | rfl) rfl rfl fl_X4_39 rfl (tyX4_ok 6 (by decide)) dX4_passAll_34 (by omega) ?_
          refine z_goto (pc := 37) (tgt := 0) h dX4_passAll_37 (by decide) ?_
          rw [e6, oss_oss]
          refine ih (q + 1) (by omega) (by omega) (by omega) (fun j a b => ?_)
          by_cases e : j = q
          · rw [e]; exact c24
          · exact ha j a (by omega)
  have := L ((σ 1).1 1 - r.1 6 + 1).toNat (r.1 6) (Int.le_refl _) hp.2 (by omega) (fun j a b => by omega)
  rw [oss_self] at this
  exact this
theorem c_numberRead {σ : zS} {r : zOb} (hs : 0 ≤ r.1 7 ∧ r.1 7 ≤ r.1 6) (hq : r.1 6 - r.1 7 ≤ 3) (hp : r.1 6 ≤ 400) (hdg : ∀ j, r.1 7 ≤ j → j < r.1 6 → 48 ≤ (σ 1).2 0 j ∧ (σ 1).2 0 j ≤ 57) : zCp M_X4_numberRead 1 [zR 2] (zo σ 2 r) (zI (tVk ((σ 1).2 0) (r.1 7) (r.1 6 - r.1 7))) := by
  refine zC_of (M := M_X4_numberRead) (ls := [some (zR 2), none, none]) (n := 2) (by decide) (fun ad => Nat.le_of_ble_eq_true rfl) rfl (fun x h => ?_)
  have L : ∀ (n : Nat) (i acc : Int), 0 ≤ i → i ≤ r.1 6 - r.1 7 → r.1 6 - r.1 7 - i < n → 0 ≤ acc → acc ≤ (if i = 0 then 0 else if i = 1 then 9 else if i = 2 then 99 else 999) → acc = tVk ((σ 1).2 0) (r.1 7) i → zW x (fun rr τ' => rr = some (zI (tVk ((σ 1).2 0) (r.1 7) (r.1 6 - r.1 7))) ∧ τ' = zo σ 2 r) 7 [some (zR 2), some (zI acc), some (zI (r.1 7 + i))] [] (zo σ 2 r) := by
    intro n
    induction n with
    | zero => intro i acc h1 h2 h3; omega
    | succ n ih =>
      intro i acc h1 h2 h3 a0 a1 ha
      have hS1 := tVk_S ((σ 1).2 0) (r.1 7) h1
      rw [← ha] at hS1
      have hub : acc ≤ 999 := by split at a1 <;> (try split at a1) <;> (try split at a1) <;> omega
      refine z_iload_n (pc := 7) h dX4_numberRead_7 rfl ?_
      refine z_aloadR_n (pc := 8) h dX4_numberRead_8 rfl ?_
      refine z_getIq (pc := 9) (c := 4) (j := 6) h (zo_s _ _ _) (by first | assumption | rfl) rfl rfl fl_X4_39 dX4_numberRead_9 (fun g9 => ?_)
      refine z_icmp_ge (pc := 12) (tgt := 46) h (by omega) (by omega) dX4_numberRead_12 (by decide) (fun c12 => ?_) (fun c12 => ?_)
      · refine z_iload_n (pc := 46) h dX4_numberRead_46 rfl ?_
        refine z_iret (pc := 47) h rfl dX4_numberRead_47 ?_
        refine ⟨congrArg (fun z => some (zI z)) ?_, rfl⟩
        rw [ha, show i = r.1 6 - r.1 7 by omega]
      · refine z_iload_n (pc := 15) h dX4_numberRead_15 rfl ?_
        refine z_sipush (pc := 16) h dX4_numberRead_16 (by decide) ?_
        refine z_icmp_ge (pc := 19) (tgt := 46) h (by omega) (by omega) dX4_numberRead_19 (by decide) (fun c19 => ?_) (fun c19 => ?_)
        · refine z_iload_n (pc := 46) h dX4_numberRead_46 rfl ?_
          refine z_iret (pc := 47) h rfl dX4_numberRead_47 ?_
          refine ⟨congrArg (fun z => some (zI z)) ?_, rfl⟩
          rw [ha, show i = r.1 6 - r.1 7 by omega]
        · have hd := hdg (r.1 7 + i) (by omega) (by omega)
          refine z_iload_n (pc := 22) h dX4_numberRead_22 rfl ?_
          refine z_bipush (pc := 23) h dX4_numberRead_23 (by decide) ?_
          refine z_imul (pc := 25) h dX4_numberRead_25 ?_
          refine z_aloadR_n (pc := 26) h dX4_numberRead_26 rfl ?_
          refine z_getR (pc := 27) (c := 4) (j := 0) (o2 := 1) h rfl (by first | assumption | rfl) rfl rfl fl_X4_29 dX4_numberRead_27 ?_
          refine z_getA5 (pc := 30) (c := 6) (j := 0) h (by first | assumption | rfl) rfl rfl fl_X4_56 dX4_numberRead_30 ?_
          refine z_iload_n (pc := 33) h dX4_numberRead_33 rfl ?_
          refine z_baldq (pc := 34) (c := 6) (j := 0) (L := 400) h (zo_n (show (1 : Nat) ≠ 2 by decide)) (by first | assumption | rfl) (by decide) rfl (by decide) (by omega) (by omega) dX4_numberRead_34 (fun g34 => ?_)
          refine z_iadd (pc := 35) h dX4_numberRead_35 ?_
          refine z_bipush (pc := 36) h dX4_numberRead_36 (by decide) ?_
          refine z_isub (pc := 38) h dX4_numberRead_38 ?_
          refine z_ist_1 (pc := 39) h dX4_numberRead_39 (by decide) rfl ?_
          refine z_inc_2 (pc := 40) h dX4_numberRead_40 (by decide) rfl ?_
          refine z_goto (pc := 43) (tgt := 7) h dX4_numberRead_43 (by decide) ?_
          rw [show r.1 7 + i + 1 = r.1 7 + (i + 1) by omega]
          have hi3 : i = 0 ∨ i = 1 ∨ i = 2 := by omega
          refine ih (i + 1) _ (by omega) (by omega) (by omega) (by omega) ?_ hS1.symm
          rcases hi3 with z | z | z
          · rw [z] at a1 ⊢; rw [if_pos rfl] at a1; rw [if_neg (by omega), if_pos (by omega)]; rw [z] at hd; omega
          · rw [z] at a1 ⊢; rw [if_neg (by omega), if_pos rfl] at a1; rw [if_neg (by omega), if_neg (by omega), if_pos (by omega)]; rw [z] at hd; omega
          · rw [z] at a1 ⊢; rw [if_neg (by omega), if_neg (by omega), if_pos rfl] at a1; rw [if_neg (by omega), if_neg (by omega), if_neg (by omega)]; rw [z] at hd; omega
  refine z_iconst (pc := 0) h dX4_numberRead_0 ?_
  refine z_ist_1 (pc := 1) h dX4_numberRead_1 (by decide) rfl ?_
  refine z_aloadR_n (pc := 2) h dX4_numberRead_2 rfl ?_
  refine z_getIq (pc := 3) (c := 4) (j := 7) h (zo_s _ _ _) (by first | assumption | rfl) rfl rfl fl_X4_68 dX4_numberRead_3 (fun g3 => ?_)
  refine z_ist_2 (pc := 6) h dX4_numberRead_6 (by decide) rfl ?_
  have := L (r.1 6 - r.1 7 + 1).toNat 0 0 (by omega) (by omega) (by omega) (by omega) (by rw [if_pos rfl]; omega) rfl
  rw [Int.add_zero] at this
  exact this
