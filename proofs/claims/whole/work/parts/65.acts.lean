/-! The class: acts that are kept. -/
theorem zoc_b {v : Int} (h : 11 ≤ v ∧ v ≤ 18) : zoc v.toNat = 3 := by
  have : v = 11 ∨ v = 12 ∨ v = 13 ∨ v = 14 ∨ v = 15 ∨ v = 16 ∨ v = 17 ∨ v = 18 := by omega
  rcases this with rfl | rfl | rfl | rfl | rfl | rfl | rfl | rfl <;> rfl
def ACB (B : Int → Int) : Prop := (∀ i, 0 ≤ i → i < 8 → 11 ≤ B i ∧ B i ≤ 18) ∧ ∀ i j, 0 ≤ i → i < 8 → 0 ≤ j → j < 8 → B i = B j → i = j
def ACI (σ : zS) : Prop := ACB ((σ 10).2 0) ∧ 0 ≤ (σ 10).1 1 ∧ (σ 10).1 1 ≤ 8
/-- a plan that is kept -/
def pa (σ : zS) (i : Int) : zOb := σ ((σ 10).2 0 i).toNat
def rb (B : Int → Int) (i : Int) : Int → Int := fun x => if 0 ≤ x ∧ x < i - 1 then B (x + 1) else B x
def rotB (B : Int → Int) : Int → Int := zup (rb B 8) 7 (B 0)
theorem rotB_at {B : Int → Int} {i : Int} (h0 : 0 ≤ i) (h1 : i < 7) : rotB B i = B (i + 1) := by
  unfold rotB
  rw [zup_n _ _ (by omega)]
  unfold rb
  rw [if_pos (by omega)]
theorem rotB_7 (B : Int → Int) : rotB B 7 = B 0 := zup_s _ _ _
theorem ACB_rot {B : Int → Int} (h : ACB B) : ACB (rotB B) := by
  have hv : ∀ i, 0 ≤ i → i < 8 → rotB B i = B (if i = 7 then 0 else i + 1) := fun i h0 h1 => by
    by_cases y : i = 7
    · rw [if_pos y, y, rotB_7]
    · rw [if_neg y, rotB_at h0 (by omega)]
  refine ⟨fun i h0 h1 => ?_, fun i j h0 h1 g0 g1 e => ?_⟩
  · rw [hv i h0 h1]
    exact h.1 _ (by split <;> omega) (by split <;> omega)
  · rw [hv i h0 h1, hv j g0 g1] at e
    have := h.2 _ _ (by split <;> omega) (by split <;> omega) (by split <;> omega) (by split <;> omega) e
    split at this <;> split at this <;> omega
theorem zar_zo (σ : zS) (o : Nat) (A : zOb) (j : Nat) : zar (zo σ o A) o j = A.2 j := by
  unfold zar
  rw [zo_s]
theorem c_dropOldest {σ : zS} {A : zOb} (hB : ACB (A.2 0)) : zCv M_X0_dropOldest 1 [zR 10] (zo σ 10 A) (zo σ 10 (oss (osA A 0 (rotB (A.2 0))) 1 7)) := by
  have hb := fun i h0 h1 => hB.1 i h0 h1
  have hb0 := hb 0 (by omega) (by omega)
  have hz0 := zoc_b hb0
  refine zC_of (M := M_X0_dropOldest) (ls := [some (zR 10), none, none]) (n := 2) (by decide) (fun ad => Nat.le_of_ble_eq_true rfl) rfl (fun x h => ?_)
  have L : ∀ (n : Nat) (i : Int), 1 ≤ i → i ≤ 8 → 8 - i < n → zW x (fun r τ' => r = none ∧ τ' = zo σ 10 (oss (osA A 0 (rotB (A.2 0))) 1 7)) 9 [some (zR 10), some (zR (A.2 0 0).toNat), some (zI i)] [] (zo σ 10 (osA A 0 (rb (A.2 0) i))) := by
    intro n
    induction n with
    | zero => intro i h1 h2 h3; omega
    | succ n ih =>
      intro i h1 h2 h3
      have hih := ih (i + 1) (by omega)
      have hbi := fun z => hb i (by omega) z
      have ei : rb (A.2 0) i i = A.2 0 i := by unfold rb; rw [if_neg (by omega)]
      have eS : zup (rb (A.2 0) i) (i - 1) (A.2 0 i) = rb (A.2 0) (i + 1) := by
        funext y
        unfold zup rb
        by_cases y1 : y = i - 1
        · rw [if_pos y1, if_pos (by omega), y1, show i - 1 + 1 = i by omega]
        · rw [if_neg y1]
          by_cases y2 : 0 ≤ y ∧ y < i - 1
          · rw [if_pos y2, if_pos (by omega)]
          · rw [if_neg y2, if_neg (by omega)]
      refine z_iload_n (pc := 9) h dX0_dropOldest_9 rfl ?_
      refine z_bipush (pc := 10) h dX0_dropOldest_10 (by decide) ?_
      refine z_icmp_ge (pc := 12) (tgt := 35) h (by omega) (by omega) dX0_dropOldest_12 (by decide) (fun c12 => ?_) (fun c12 => ?_)
      · refine z_aloadR_n (pc := 35) h dX0_dropOldest_35 rfl ?_
        refine z_getA7 (pc := 36) (c := 0) (j := 0) h (by first | assumption | rfl) rfl rfl fl_X0_11 dX0_dropOldest_36 ?_
        refine z_bipush (pc := 39) h dX0_dropOldest_39 (by decide) ?_
        refine z_aloadR_n (pc := 41) h dX0_dropOldest_41 rfl ?_
        refine z_aast (pc := 42) (c := 0) (j := 0) (L := 8) h (by first | assumption | rfl) (by decide) rfl (by decide) (by omega) (by omega) (by first | assumption | rfl) dX0_dropOldest_42 ?_
        rw [zsa_zo, osa_osA, Int.toNat_of_nonneg (by omega), show i = 8 by omega]
        refine z_aloadR_n (pc := 43) h dX0_dropOldest_43 rfl ?_
        refine z_bipush (pc := 44) h dX0_dropOldest_44 (by decide) ?_
        refine z_putI (pc := 46) (c := 0) (j := 1) h (by first | assumption | rfl) rfl rfl fl_X0_18 rfl (tyX0_ok 1 (by decide)) dX0_dropOldest_46 (by omega) ?_
        refine z_ret (pc := 49) h rfl dX0_dropOldest_49 ?_
        exact ⟨rfl, by rw [zss_zo]; rfl⟩
      · refine z_aloadR_n (pc := 15) h dX0_dropOldest_15 rfl ?_
        refine z_getA7 (pc := 16) (c := 0) (j := 0) h (by first | assumption | rfl) rfl rfl fl_X0_11 dX0_dropOldest_16 ?_
        refine z_iload_n (pc := 19) h dX0_dropOldest_19 rfl ?_
        refine z_iconst (pc := 20) h dX0_dropOldest_20 ?_
        refine z_isub (pc := 21) h dX0_dropOldest_21 ?_
        refine z_aloadR_n (pc := 22) h dX0_dropOldest_22 rfl ?_
        refine z_getA7 (pc := 23) (c := 0) (j := 0) h (by first | assumption | rfl) rfl rfl fl_X0_11 dX0_dropOldest_23 ?_
        refine z_iload_n (pc := 26) h dX0_dropOldest_26 rfl ?_
        refine z_aald (pc := 27) (c := 0) (j := 0) (L := 8) (kd := 7) h (by first | assumption | rfl) (by decide) (by decide) rfl (by decide) (by omega) (by omega) dX0_dropOldest_27 (fun g27 => ?_)
        have hbi := hbi (by omega)
        have hz := zoc_b hbi
        rw [zar_zo, osA_at, ei]
        refine z_aast (pc := 28) (c := 0) (j := 0) (L := 8) h (by first | assumption | rfl) (by decide) rfl (by decide) (by omega) (by omega) (by first | assumption | rfl) dX0_dropOldest_28 ?_
        rw [zsa_zo, osa_osA, Int.toNat_of_nonneg (by omega), eS]
        refine z_inc_2 (pc := 29) h dX0_dropOldest_29 (by decide) rfl ?_
        refine z_goto (pc := 32) (tgt := 9) h dX0_dropOldest_32 (by decide) ?_
        exact hih (by omega) (by omega)
  have e0 : rb (A.2 0) 1 = A.2 0 := by
    funext y
    unfold rb
    rw [if_neg (by omega)]
  refine z_aloadR_n (pc := 0) h dX0_dropOldest_0 rfl ?_
  refine z_getA7 (pc := 1) (c := 0) (j := 0) h (by first | assumption | rfl) rfl rfl fl_X0_11 dX0_dropOldest_1 ?_
  refine z_iconst (pc := 4) h dX0_dropOldest_4 ?_
  refine z_aald (pc := 5) (c := 0) (j := 0) (L := 8) (kd := 7) h (by first | assumption | rfl) (by decide) (by decide) rfl (by decide) (by omega) (by omega) dX0_dropOldest_5 (fun g5 => ?_)
  rw [zar_zo]
  refine z_ast_1 (pc := 6) h dX0_dropOldest_6 (by decide) rfl ?_
  refine z_iconst (pc := 7) h dX0_dropOldest_7 ?_
  refine z_ist_2 (pc := 8) h dX0_dropOldest_8 (by decide) rfl ?_
  have := L 8 1 (by omega) (by omega) (by omega)
  rw [e0, osA_same] at this
  exact this
/-- the last part of keep -/
theorem c_keep {σ : zS} (hA : ACI σ) : zC M_X0_keep 2 [zR 10, zR 5] σ (fun r τ => r = none ∧ ACI τ ∧ (τ 10).1 1 = (if (σ 10).1 1 < 8 then (σ 10).1 1 else 7) + 1 ∧ (∀ o, (o ≤ 9 ∨ 19 ≤ o) → τ o = σ o) ∧ (∀ i, 0 ≤ i → i < (if (σ 10).1 1 < 8 then (σ 10).1 1 else 7) → pa τ i = pa σ (if (σ 10).1 1 < 8 then i else i + 1)) ∧ ∃ X, pa τ (if (σ 10).1 1 < 8 then (σ 10).1 1 else 7) = p_cp X (σ 5)) := by
  obtain ⟨hB, m0, m1⟩ := hA
  refine zC_of (M := M_X0_keep) (ls := [some (zR 10), some (zR 5)]) (n := 0) (by decide) (fun ad => Nat.le_of_ble_eq_true rfl) rfl (fun x h => ?_)
  have G : ∀ (A : zOb), ACB (A.2 0) → 0 ≤ A.1 1 → A.1 1 < 8 → A.1 1 = (if (σ 10).1 1 < 8 then (σ 10).1 1 else 7) → (∀ i, 0 ≤ i → i < 7 → A.1 1 < 8 → i < A.1 1 → A.2 0 i = (σ 10).2 0 (if (σ 10).1 1 < 8 then i else i + 1)) → zW x (fun r τ => r = none ∧ ACI τ ∧ (τ 10).1 1 = (if (σ 10).1 1 < 8 then (σ 10).1 1 else 7) + 1 ∧ (∀ o, (o ≤ 9 ∨ 19 ≤ o) → τ o = σ o) ∧ (∀ i, 0 ≤ i → i < (if (σ 10).1 1 < 8 then (σ 10).1 1 else 7) → pa τ i = pa σ (if (σ 10).1 1 < 8 then i else i + 1)) ∧ ∃ X, pa τ (if (σ 10).1 1 < 8 then (σ 10).1 1 else 7) = p_cp X (σ 5)) 13 [some (zR 10), some (zR 5)] [] (zo σ 10 A) := by
    intro A gB g0 g1 gm gi
    have hbm := gB.1 _ g0 g1
    have hz := zoc_b hbm
    generalize hq : (A.2 0 (A.1 1)).toNat = q at hz
    have hq10 : q ≠ 10 ∧ q ≠ 5 ∧ 11 ≤ q ∧ q ≤ 18 := by omega
    have hcp := c_copyFrom (σ := zo σ 10 A) (o := q) (p := 5) (X := (zo σ 10 A) q) hz rfl (fun z => hq10.2.1 z.symm)
    refine z_aloadR_n (pc := 13) h dX0_keep_13 rfl ?_
    refine z_getA7 (pc := 14) (c := 0) (j := 0) h (by first | assumption | rfl) rfl rfl fl_X0_11 dX0_keep_14 ?_
    refine z_aloadR_n (pc := 17) h dX0_keep_17 rfl ?_
    refine z_getIq (pc := 18) (c := 0) (j := 1) h (zo_s _ _ _) (by first | assumption | rfl) rfl rfl fl_X0_18 dX0_keep_18 (fun g18 => ?_)
    refine z_aald (pc := 21) (c := 0) (j := 0) (L := 8) (kd := 7) h (by first | assumption | rfl) (by decide) (by decide) rfl (by decide) (by omega) (by omega) dX0_keep_21 (fun g21 => ?_)
    rw [zar_zo, hq]
    refine z_aloadR_n (pc := 22) h dX0_keep_22 rfl ?_
    refine z_apart q ?_
    refine z_vV (pc := 23) (c := 3) h (hcp) (by decide) (by first | assumption | rfl) rfl mv_X3_copyFrom ml_X0_25 rfl dX0_keep_23 rfl (Nat.le_of_ble_eq_true rfl) ?_
    rw [zo_n (show (5 : Nat) ≠ 10 by decide), zo_comm (fun z => hq10.1 z.symm)]
    refine z_aloadR_n (pc := 26) h dX0_keep_26 rfl ?_
    refine z_dupR (pc := 27) h dX0_keep_27 ?_
    refine z_getIq (pc := 28) (c := 0) (j := 1) h (zo_s _ _ _) (by first | assumption | rfl) rfl rfl fl_X0_18 dX0_keep_28 (fun g28 => ?_)
    refine z_iconst (pc := 31) h dX0_keep_31 ?_
    refine z_iadd (pc := 32) h dX0_keep_32 ?_
    refine z_putIo (pc := 33) (c := 0) (j := 1) h (by first | assumption | rfl) rfl rfl fl_X0_18 rfl (tyX0_ok 1 (by decide)) dX0_keep_33 (by omega) ?_
    refine z_ret (pc := 36) h rfl dX0_keep_36 ?_
    refine ⟨rfl, ?_, ?_, fun o ho => ?_, fun i i0 i1 => ?_, (zo σ 10 A) q, ?_⟩
    · unfold ACI
      rw [zo_s]
      exact ⟨gB, show 0 ≤ A.1 1 + 1 by omega, show A.1 1 + 1 ≤ 8 by omega⟩
    · rw [zo_s, ← gm]; rfl
    · rw [zo_n (by omega), zo_n (by omega)]
    · rw [← gm] at i1
      have hbi := gB.1 i i0 (by omega)
      have hne : A.2 0 i ≠ A.2 0 (A.1 1) := fun z => by have := gB.2 i (A.1 1) i0 (by omega) g0 g1 z; omega
      unfold pa
      rw [zo_s, show (oss A 1 (A.1 1 + 1)).2 0 i = A.2 0 i from rfl, zo_n (by omega), zo_n (by omega), gi i i0 (by omega) g1 i1]
    · unfold pa
      rw [zo_s, ← gm, show (oss A 1 (A.1 1 + 1)).2 0 (A.1 1) = A.2 0 (A.1 1) from rfl, hq, zo_n hq10.1, zo_s]
  refine z_aloadR_n (pc := 0) h dX0_keep_0 rfl ?_
  refine z_getIq (pc := 1) (c := 0) (j := 1) h rfl (by first | assumption | rfl) rfl rfl fl_X0_18 dX0_keep_1 (fun g1 => ?_)
  refine z_bipush (pc := 4) h dX0_keep_4 (by decide) ?_
  refine z_icmp_lt (pc := 6) (tgt := 13) h (by omega) (by omega) dX0_keep_6 (by decide) (fun c6 => ?_) (fun c6 => ?_)
  · refine z_apart 10 ?_
    first
    | (have z : ¬ (σ 10).1 1 < 8 := (by omega); exact G _ (ACB_rot hB) (by show (0 : Int) ≤ 7; omega) (by show (7 : Int) < 8; omega) (by rw [if_neg z]; rfl) (fun i i0 i1 _ _ => by rw [if_neg z]; exact rotB_at i0 i1))
    | exact G (σ 10) hB m0 (by omega) (by rw [if_pos (by omega)]) (fun i i0 i1 _ _ => by rw [if_pos (by omega)])
  · refine z_aloadR_n (pc := 9) h dX0_keep_9 rfl ?_
    refine z_apart 10 ?_
    refine z_vV (pc := 10) (c := 0) h (c_dropOldest hB) (by decide) (by first | assumption | rfl) rfl mv_X0_dropOldest ml_X0_22 rfl dX0_keep_10 rfl (Nat.le_of_ble_eq_true rfl) ?_
    first
    | (have z : ¬ (σ 10).1 1 < 8 := (by omega); exact G _ (ACB_rot hB) (by show (0 : Int) ≤ 7; omega) (by show (7 : Int) < 8; omega) (by rw [if_neg z]; rfl) (fun i i0 i1 _ _ => by rw [if_neg z]; exact rotB_at i0 i1))
    | exact G (σ 10) hB m0 (by omega) (by rw [if_pos (by omega)]) (fun i i0 i1 _ _ => by rw [if_pos (by omega)])
theorem c_giveBack_n {σ : zS} (h : (σ 10).1 1 = 0) : zCr M_X0_giveBack 2 [zR 10, zR 5] σ (zI 0) σ := by
  refine zC_of (M := M_X0_giveBack) (ls := [some (zR 10), some (zR 5)]) (n := 0) (by decide) (fun ad => Nat.le_of_ble_eq_true rfl) rfl (fun x h => ?_)
  refine z_aloadR_n (pc := 0) h dX0_giveBack_0 rfl ?_
  refine z_getIq (pc := 1) (c := 0) (j := 1) h rfl (by first | assumption | rfl) rfl rfl fl_X0_18 dX0_giveBack_1 (fun g1 => ?_)
  refine z_if_gt (pc := 4) (tgt := 9) h (by omega) dX0_giveBack_4 (by decide) (fun c4 => ?_) (fun c4 => ?_)
  · omega
  · refine z_iconst (pc := 7) h dX0_giveBack_7 ?_
    refine z_zret (pc := 8) h rfl (by omega) dX0_giveBack_8 ?_
    exact ⟨rfl, rfl⟩
theorem c_giveBack {σ : zS} (hA : ACI σ) (h : 0 < (σ 10).1 1) : zC M_X0_giveBack 2 [zR 10, zR 5] σ (fun r τ => r = some (zI 1) ∧ τ 10 = oss (σ 10) 1 ((σ 10).1 1 - 1) ∧ τ 5 = p_cp (σ 5) (pa σ ((σ 10).1 1 - 1)) ∧ ∀ o, o ≠ 5 → o ≠ 10 → τ o = σ o) := by
  obtain ⟨hB, m0, m1⟩ := hA
  have hbm := hB.1 ((σ 10).1 1 - 1) (by omega) (by omega)
  have hz := zoc_b hbm
  generalize hq : ((σ 10).2 0 ((σ 10).1 1 - 1)).toNat = q at hz
  have hq10 : q ≠ 10 ∧ q ≠ 5 ∧ 11 ≤ q ∧ q ≤ 18 := by omega
  have hcp := c_copyFrom (σ := zo σ 10 (oss (σ 10) 1 ((σ 10).1 1 - 1))) (o := 5) (p := q) (X := σ 5) rfl hz hq10.2.1
  refine zC_of (M := M_X0_giveBack) (ls := [some (zR 10), some (zR 5)]) (n := 0) (by decide) (fun ad => Nat.le_of_ble_eq_true rfl) rfl (fun x h => ?_)
  refine z_apart 10 ?_
  refine z_aloadR_n (pc := 0) h dX0_giveBack_0 rfl ?_
  refine z_getIq (pc := 1) (c := 0) (j := 1) h (zo_s _ _ _) (by first | assumption | rfl) rfl rfl fl_X0_18 dX0_giveBack_1 (fun g1 => ?_)
  refine z_if_gt (pc := 4) (tgt := 9) h (by omega) dX0_giveBack_4 (by decide) (fun c4 => ?_) (fun c4 => ?_)
  · refine z_aloadR_n (pc := 9) h dX0_giveBack_9 rfl ?_
    refine z_dupR (pc := 10) h dX0_giveBack_10 ?_
    refine z_getIq (pc := 11) (c := 0) (j := 1) h (zo_s _ _ _) (by first | assumption | rfl) rfl rfl fl_X0_18 dX0_giveBack_11 (fun g11 => ?_)
    refine z_iconst (pc := 14) h dX0_giveBack_14 ?_
    refine z_isub (pc := 15) h dX0_giveBack_15 ?_
    refine z_putIo (pc := 16) (c := 0) (j := 1) h (by first | assumption | rfl) rfl rfl fl_X0_18 rfl (tyX0_ok 1 (by decide)) dX0_giveBack_16 (by omega) ?_
    refine z_aloadR_n (pc := 19) h dX0_giveBack_19 rfl ?_
    refine z_aloadR_n (pc := 20) h dX0_giveBack_20 rfl ?_
    refine z_getA7 (pc := 21) (c := 0) (j := 0) h (by first | assumption | rfl) rfl rfl fl_X0_11 dX0_giveBack_21 ?_
    refine z_aloadR_n (pc := 24) h dX0_giveBack_24 rfl ?_
    refine z_getIq (pc := 25) (c := 0) (j := 1) h (zo_s _ _ _) (by first | assumption | rfl) rfl rfl fl_X0_18 dX0_giveBack_25 (fun g25 => ?_)
    try simp only [osa_1, osa_2, oss_1, oss_2, osA_1, osA_2, zup_s, reduceIte, Nat.reduceEqDiff] at g25 ⊢
    refine z_aald (pc := 28) (c := 0) (j := 0) (L := 8) (kd := 7) h (by first | assumption | rfl) (by decide) (by decide) rfl (by decide) (by omega) (by omega) dX0_giveBack_28 (fun g28 => ?_)
    rw [zar_zo, show (oss (σ 10) 1 ((σ 10).1 1 - 1)).2 0 ((σ 10).1 1 - 1) = (σ 10).2 0 ((σ 10).1 1 - 1) from rfl, hq]
    refine z_apart 5 ?_
    rw [zo_n (show (5 : Nat) ≠ 10 by decide)]
    refine z_vV (pc := 29) (c := 3) h (hcp) (by decide) (by first | assumption | rfl) rfl mv_X3_copyFrom ml_X0_25 rfl dX0_giveBack_29 rfl (Nat.le_of_ble_eq_true rfl) ?_
    refine z_iconst (pc := 32) h dX0_giveBack_32 ?_
    refine z_zret (pc := 33) h rfl (by omega) dX0_giveBack_33 ?_
    refine ⟨rfl, ?_, ?_, fun o o5 o10 => ?_⟩
    · rw [zo_n (by decide), zo_s]
    · rw [zo_s, zo_n hq10.1]
      unfold pa
      rw [hq]
    · rw [zo_n o5, zo_n o10]
  · omega
