/-! The class's run: sums, and play. -/
/-- what a run has left, beside the model's -/
def FIN (dk Y m : zOb) : Prop := SI m ∧ DI (-1) m ∧ DKE dk (m.2 1) ∧ RR1 Y m ∧ RR2 Y m ∧ m.1 35 ≤ 200
theorem c_lateBy {σ : zS} {r p : Nat} {Y m : zOb} {t : Int} (hu : RUNH r p) (hF : FIN (σ 4) Y m) (ht0 : 0 ≤ t) (ht1 : t < m.2 1 1) : zCp M_X5_lateBy 1 [zR r, zI t] (zo σ r Y) (zI (s_late m t)) := by
  obtain ⟨hr, hr0, hr1, hp, h4, hpr⟩ := hu
  obtain ⟨hS, hD, hE, hR1, hR2, h200⟩ := hF
  have h8 := hS.1.2.1
  have hk := hS.1.2.2.2.2.2.2.1 t ht0 ht1
  have he := hE.2.2.2.2.2.1 t ht0 ht1
  have hl := (hR1 t ht0 ht1).2.1
  have hlb := (hD.2.2.2.2.2.1 t ht0 ht1).2.2.1
  refine zC_of (M := M_X5_lateBy) (ls := [some (zR r), some (zI t), none]) (n := 1) (by decide) (fun ad => Nat.le_of_ble_eq_true rfl) rfl (fun x h => ?_)
  refine z_aloadR_n (pc := 0) h dX5_lateBy_0 rfl ?_
  refine z_getR (pc := 1) (c := 5) (j := 0) h (by first | assumption | rfl) (by first | assumption | rfl) rfl rfl fl_X5_51 dX5_lateBy_1 ?_
  refine z_getA4 (pc := 4) (c := 1) (j := 7) h (by first | assumption | rfl) rfl rfl fl_X5_198 dX5_lateBy_4 ?_
  refine z_iload_n (pc := 7) h dX5_lateBy_7 rfl ?_
  refine z_ialdq (pc := 8) (c := 1) (j := 7) (L := 8) h (zo_n h4) (by first | assumption | rfl) (by decide) rfl (by decide) (by omega) (by omega) dX5_lateBy_8 (fun g8 => ?_)
  refine z_if_ne (pc := 9) (tgt := 14) h (by omega) dX5_lateBy_9 (by decide) (fun c9 => ?_) (fun c9 => ?_)
  · have hk1 : m.2 1 (17 + 6 * t + 0) = 1 := by omega
    have he2 := he.2.1 hk1
    have hk2 := hk.2.2.1 hk1
    refine z_aloadR_n (pc := 14) h dX5_lateBy_14 rfl ?_
    refine z_getA4 (pc := 15) (c := 5) (j := 3) h (by first | assumption | rfl) rfl rfl fl_X5_15 dX5_lateBy_15 ?_
    refine z_iload_n (pc := 18) h dX5_lateBy_18 rfl ?_
    refine z_ialdq (pc := 19) (c := 5) (j := 3) (L := 8) h (zo_s _ _ _) (by first | assumption | rfl) (by decide) rfl (by decide) (by omega) (by omega) dX5_lateBy_19 (fun g19 => ?_)
    refine z_iconst (pc := 20) h dX5_lateBy_20 ?_
    refine z_icmp_ne (pc := 21) (tgt := 30) h (by omega) (by omega) dX5_lateBy_21 (by decide) (fun c21 => ?_) (fun c21 => ?_)
    · refine z_aloadR_n (pc := 30) h dX5_lateBy_30 rfl ?_
      refine z_getA4 (pc := 31) (c := 5) (j := 3) h (by first | assumption | rfl) rfl rfl fl_X5_15 dX5_lateBy_31 ?_
      refine z_iload_n (pc := 34) h dX5_lateBy_34 rfl ?_
      refine z_ialdq (pc := 35) (c := 5) (j := 3) (L := 8) h (zo_s _ _ _) (by first | assumption | rfl) (by decide) rfl (by decide) (by omega) (by omega) dX5_lateBy_35 (fun g35 => ?_)
      refine z_ist_2 (pc := 36) h dX5_lateBy_36 (by decide) rfl ?_
      refine z_iconst (pc := 37) h dX5_lateBy_37 ?_
      refine z_iload_n (pc := 38) h dX5_lateBy_38 rfl ?_
      refine z_aloadR_n (pc := 39) h dX5_lateBy_39 rfl ?_
      refine z_getR (pc := 40) (c := 5) (j := 0) h (by first | assumption | rfl) (by first | assumption | rfl) rfl rfl fl_X5_51 dX5_lateBy_40 ?_
      refine z_getA4 (pc := 43) (c := 1) (j := 10) h (by first | assumption | rfl) rfl rfl fl_X5_201 dX5_lateBy_43 ?_
      refine z_iload_n (pc := 46) h dX5_lateBy_46 rfl ?_
      refine z_ialdq (pc := 47) (c := 1) (j := 10) (L := 8) h (zo_n h4) (by first | assumption | rfl) (by decide) rfl (by decide) (by omega) (by omega) dX5_lateBy_47 (fun g47 => ?_)
      refine z_isub (pc := 48) h dX5_lateBy_48 ?_
      refine z_max (pc := 49) h (by omega) (by omega) (by decide) ml_X5_177 dX5_lateBy_49 (Nat.le_of_ble_eq_true rfl) ?_
      refine z_iret (pc := 52) h rfl dX5_lateBy_52 ?_
      refine ⟨congrArg (fun z => some (zI z)) ?_, rfl⟩
      unfold s_late
      rw [if_pos hk1]
      first
      | (rw [if_pos (show m.2 28 t = -1 by omega)]; split <;> split <;> omega)
      | (rw [if_neg (show ¬ m.2 28 t = -1 by omega)]; split <;> split <;> omega)
    · refine z_sipush (pc := 24) h dX5_lateBy_24 (by decide) ?_
      refine z_goto (pc := 27) (tgt := 36) h dX5_lateBy_27 (by decide) ?_
      refine z_ist_2 (pc := 36) h dX5_lateBy_36 (by decide) rfl ?_
      refine z_iconst (pc := 37) h dX5_lateBy_37 ?_
      refine z_iload_n (pc := 38) h dX5_lateBy_38 rfl ?_
      refine z_aloadR_n (pc := 39) h dX5_lateBy_39 rfl ?_
      refine z_getR (pc := 40) (c := 5) (j := 0) h (by first | assumption | rfl) (by first | assumption | rfl) rfl rfl fl_X5_51 dX5_lateBy_40 ?_
      refine z_getA4 (pc := 43) (c := 1) (j := 10) h (by first | assumption | rfl) rfl rfl fl_X5_201 dX5_lateBy_43 ?_
      refine z_iload_n (pc := 46) h dX5_lateBy_46 rfl ?_
      refine z_ialdq (pc := 47) (c := 1) (j := 10) (L := 8) h (zo_n h4) (by first | assumption | rfl) (by decide) rfl (by decide) (by omega) (by omega) dX5_lateBy_47 (fun g47 => ?_)
      refine z_isub (pc := 48) h dX5_lateBy_48 ?_
      refine z_max (pc := 49) h (by omega) (by omega) (by decide) ml_X5_177 dX5_lateBy_49 (Nat.le_of_ble_eq_true rfl) ?_
      refine z_iret (pc := 52) h rfl dX5_lateBy_52 ?_
      refine ⟨congrArg (fun z => some (zI z)) ?_, rfl⟩
      unfold s_late
      rw [if_pos hk1]
      first
      | (rw [if_pos (show m.2 28 t = -1 by omega)]; split <;> split <;> omega)
      | (rw [if_neg (show ¬ m.2 28 t = -1 by omega)]; split <;> split <;> omega)
  · refine z_iconst (pc := 12) h dX5_lateBy_12 ?_
    refine z_iret (pc := 13) h rfl dX5_lateBy_13 ?_
    refine ⟨congrArg (fun z => some (zI z)) ?_, rfl⟩
    unfold s_late
    rw [if_neg (by omega)]
theorem s_late_b {m : zOb} (hS : SI m) (hD : DI (-1) m) (h200 : m.1 35 ≤ 200) {t : Int} (h0 : 0 ≤ t) (h1 : t < m.2 1 1) : 0 ≤ s_late m t ∧ s_late m t ≤ 200 := by
  have hl := (hD.2.2.2.2.2.1 t h0 h1).2.2.1
  have hk := hS.1.2.2.2.2.2.2.1 t h0 h1
  unfold s_late
  split
  · rename_i q
    have := (hk.2.2.1 q).2.1
    split <;> split <;> (try omega)
    all_goals (split <;> omega)
  · omega
theorem c_lateness {σ : zS} {r p : Nat} {Y m : zOb} (hu : RUNH r p) (hF : FIN (σ 4) Y m) : zCp M_X5_lateness 2 [zR r] (zo σ r Y) (zI (s_lc m)) := by
  have hlb := fun t h0 h1 => c_lateBy (σ := σ) (t := t) hu hF h0 h1
  obtain ⟨hr, hr0, hr1, hp, h4, hpr⟩ := hu
  obtain ⟨hS, hD, hE, hR1, hR2, h200⟩ := hF
  have h8 := hS.1.2.1
  have htn := hE.2.1
  refine zC_of (M := M_X5_lateness) (ls := [some (zR r), none, none]) (n := 2) (by decide) (fun ad => Nat.le_of_ble_eq_true rfl) rfl (fun x h => ?_)
  have L : ∀ (n : Nat) (i : Int), 0 ≤ i → i ≤ m.2 1 1 → m.2 1 1 - i < n → zW x (fun rr τ' => rr = some (zI (s_lc m)) ∧ τ' = zo σ r Y) 4 [some (zR r), some (zI (zfor (fun t s => s + (if m.2 1 (17 + 6 * t + 0) = 1 then m.2 1 (17 + 6 * t + 5) * s_late m t else 0)) i 0)), some (zI i)] [] (zo σ r Y) := by
    intro n
    induction n with
    | zero => intro i h1 h2 h3; omega
    | succ n ih =>
      intro i h1 h2 h3
      have hih := ih (i + 1) (by omega)
      rw [zfor_S _ h1] at hih
      have hgo : i = m.2 1 1 → zfor (fun t s => s + (if m.2 1 (17 + 6 * t + 0) = 1 then m.2 1 (17 + 6 * t + 5) * s_late m t else 0)) i 0 = s_lc m := fun e => by rw [e]; rfl
      generalize zfor (fun t s => s + (if m.2 1 (17 + 6 * t + 0) = 1 then m.2 1 (17 + 6 * t + 5) * s_late m t else 0)) i 0 = acc at hih hgo ⊢
      have he := hE.2.2.2.2.2.1 i h1
      refine z_iload_n (pc := 4) h dX5_lateness_4 rfl ?_
      refine z_aloadR_n (pc := 5) h dX5_lateness_5 rfl ?_
      refine z_getR (pc := 6) (c := 5) (j := 0) h (by first | assumption | rfl) (by first | assumption | rfl) rfl rfl fl_X5_51 dX5_lateness_6 ?_
      refine z_getIq (pc := 9) (c := 1) (j := 1) h (zo_n h4) (by first | assumption | rfl) rfl rfl fl_X5_124 dX5_lateness_9 (fun g9 => ?_)
      refine z_icmp_ge (pc := 12) (tgt := 39) h (by omega) (by omega) dX5_lateness_12 (by decide) (fun c12 => ?_) (fun c12 => ?_)
      · refine z_iload_n (pc := 39) h dX5_lateness_39 rfl ?_
        refine z_iret (pc := 40) h rfl dX5_lateness_40 ?_
        exact ⟨by rw [hgo (by omega)], rfl⟩
      · refine z_iload_n (pc := 15) h dX5_lateness_15 rfl ?_
        refine z_aloadR_n (pc := 16) h dX5_lateness_16 rfl ?_
        refine z_iload_n (pc := 17) h dX5_lateness_17 rfl ?_
        refine z_pV (pc := 18) (c := 5) h (hlb i h1 (by omega)) (by decide) (by first | assumption | rfl) rfl mv_X5_lateBy ml_X5_204 rfl dX5_lateness_18 rfl (Nat.le_of_ble_eq_true rfl) ?_
        refine z_aloadR_n (pc := 21) h dX5_lateness_21 rfl ?_
        refine z_getR (pc := 22) (c := 5) (j := 0) h (by first | assumption | rfl) (by first | assumption | rfl) rfl rfl fl_X5_51 dX5_lateness_22 ?_
        refine z_getA4 (pc := 25) (c := 1) (j := 12) h (by first | assumption | rfl) rfl rfl fl_X5_208 dX5_lateness_25 ?_
        refine z_iload_n (pc := 28) h dX5_lateness_28 rfl ?_
        refine z_ialdq (pc := 29) (c := 1) (j := 12) (L := 8) h (zo_n h4) (by first | assumption | rfl) (by decide) rfl (by decide) (by omega) (by omega) dX5_lateness_29 (fun g29 => ?_)
        refine z_imul (pc := 30) h dX5_lateness_30 ?_
        refine z_iadd (pc := 31) h dX5_lateness_31 ?_
        refine z_ist_1 (pc := 32) h dX5_lateness_32 (by decide) rfl ?_
        refine z_inc_2 (pc := 33) h dX5_lateness_33 (by decide) rfl ?_
        refine z_goto (pc := 36) (tgt := 4) h dX5_lateness_36 (by decide) ?_
        refine Eq.mp ?_ (hih (by omega) (by omega))
        have he := he (by omega)
        have e : (if m.2 1 (17 + 6 * i + 0) = 1 then m.2 1 (17 + 6 * i + 5) * s_late m i else 0) = s_late m i * (σ 4).2 12 i := by
          by_cases y : m.2 1 (17 + 6 * i + 0) = 1
          · rw [if_pos y, (he.2.1 y).2.2.2, Int.mul_comm]
          · rw [if_neg y]
            unfold s_late
            rw [if_neg y, Int.zero_mul]
        rw [e]
  refine z_iconst (pc := 0) h dX5_lateness_0 ?_
  refine z_ist_1 (pc := 1) h dX5_lateness_1 (by decide) rfl ?_
  refine z_iconst (pc := 2) h dX5_lateness_2 ?_
  refine z_ist_2 (pc := 3) h dX5_lateness_3 (by decide) rfl ?_
  exact L (m.2 1 1 + 1).toNat 0 (by omega) (by omega) (by omega)
theorem c_putOnInAll {σ : zS} {r p : Nat} {Y m : zOb} (hu : RUNH r p) (hF : FIN (σ 4) Y m) : zCp M_X5_putOnInAll 1 [zR r] (zo σ r Y) (zI (s_on m)) := by
  obtain ⟨hr, hr0, hr1, hp, h4, hpr⟩ := hu
  obtain ⟨hS, hD, hE, hR1, hR2, h200⟩ := hF
  have hn := hS.2.2.2.1
  have hcn : (σ 4).1 2 = m.1 20 := by rw [hE.2.2.1, hS.2.2.1]
  refine zC_of (M := M_X5_putOnInAll) (ls := [some (zR r), none, none]) (n := 2) (by decide) (fun ad => Nat.le_of_ble_eq_true rfl) rfl (fun x h => ?_)
  have L : ∀ (n : Nat) (i : Int), 0 ≤ i → i ≤ m.1 20 → m.1 20 - i < n → zW x (fun rr τ' => rr = some (zI (s_on m)) ∧ τ' = zo σ r Y) 4 [some (zR r), some (zI (zfor (fun c s => s + (if m.2 24 c = -1 then 0 else 1)) i 0)), some (zI i)] [] (zo σ r Y) := by
    intro n
    induction n with
    | zero => intro i h1 h2 h3; omega
    | succ n ih =>
      intro i h1 h2 h3
      have hih := ih (i + 1) (by omega)
      rw [zfor_S _ h1] at hih
      have hgo : i = m.1 20 → zfor (fun c s => s + (if m.2 24 c = -1 then 0 else 1)) i 0 = s_on m := fun e => by rw [e]; rfl
      generalize zfor (fun c s => s + (if m.2 24 c = -1 then 0 else 1)) i 0 = acc at hih hgo ⊢
      refine z_iload_n (pc := 4) h dX5_putOnInAll_4 rfl ?_
      refine z_aloadR_n (pc := 5) h dX5_putOnInAll_5 rfl ?_
      refine z_getR (pc := 6) (c := 5) (j := 0) h (by first | assumption | rfl) (by first | assumption | rfl) rfl rfl fl_X5_51 dX5_putOnInAll_6 ?_
      refine z_getIq (pc := 9) (c := 1) (j := 2) h (zo_n h4) (by first | assumption | rfl) rfl rfl fl_X5_101 dX5_putOnInAll_9 (fun g9 => ?_)
      refine z_icmp_ge (pc := 12) (tgt := 39) h (by omega) (by omega) dX5_putOnInAll_12 (by decide) (fun c12 => ?_) (fun c12 => ?_)
      · refine z_iload_n (pc := 39) h dX5_putOnInAll_39 rfl ?_
        refine z_iret (pc := 40) h rfl dX5_putOnInAll_40 ?_
        exact ⟨by rw [hgo (by omega)], rfl⟩
      · obtain ⟨q5, q6, q7, q8, -⟩ := hR2 i h1 (by omega)
        rw [← q6] at hih
        refine z_iload_n (pc := 15) h dX5_putOnInAll_15 rfl ?_
        refine z_aloadR_n (pc := 16) h dX5_putOnInAll_16 rfl ?_
        refine z_getA4 (pc := 17) (c := 5) (j := 6) h (by first | assumption | rfl) rfl rfl fl_X5_24 dX5_putOnInAll_17 ?_
        refine z_iload_n (pc := 20) h dX5_putOnInAll_20 rfl ?_
        refine z_ialdq (pc := 21) (c := 5) (j := 6) (L := 40) h (zo_s _ _ _) (by first | assumption | rfl) (by decide) rfl (by decide) (by omega) (by omega) dX5_putOnInAll_21 (fun g21 => ?_)
        refine z_iconst (pc := 22) h dX5_putOnInAll_22 ?_
        refine z_icmp_ne (pc := 23) (tgt := 30) h (by omega) (by omega) dX5_putOnInAll_23 (by decide) (fun c23 => ?_) (fun c23 => ?_)
        · refine z_iconst (pc := 30) h dX5_putOnInAll_30 ?_
          refine z_iadd (pc := 31) h dX5_putOnInAll_31 ?_
          refine z_ist_1 (pc := 32) h dX5_putOnInAll_32 (by decide) rfl ?_
          refine z_inc_2 (pc := 33) h dX5_putOnInAll_33 (by decide) rfl ?_
          refine z_goto (pc := 36) (tgt := 4) h dX5_putOnInAll_36 (by decide) ?_
          first
          | (rw [if_pos c23] at hih; exact hih (by omega) (by omega))
          | (rw [if_neg c23] at hih; exact hih (by omega) (by omega))
        · refine z_iconst (pc := 26) h dX5_putOnInAll_26 ?_
          refine z_goto (pc := 27) (tgt := 31) h dX5_putOnInAll_27 (by decide) ?_
          refine z_iadd (pc := 31) h dX5_putOnInAll_31 ?_
          refine z_ist_1 (pc := 32) h dX5_putOnInAll_32 (by decide) rfl ?_
          refine z_inc_2 (pc := 33) h dX5_putOnInAll_33 (by decide) rfl ?_
          refine z_goto (pc := 36) (tgt := 4) h dX5_putOnInAll_36 (by decide) ?_
          first
          | (rw [if_pos c23] at hih; exact hih (by omega) (by omega))
          | (rw [if_neg c23] at hih; exact hih (by omega) (by omega))
  refine z_iconst (pc := 0) h dX5_putOnInAll_0 ?_
  refine z_ist_1 (pc := 1) h dX5_putOnInAll_1 (by decide) rfl ?_
  refine z_iconst (pc := 2) h dX5_putOnInAll_2 ?_
  refine z_ist_2 (pc := 3) h dX5_putOnInAll_3 (by decide) rfl ?_
  exact L (m.1 20 + 1).toNat 0 (by omega) (by omega) (by omega)
theorem c_travelled {σ : zS} {r p : Nat} {Y m : zOb} (hu : RUNH r p) (hF : FIN (σ 4) Y m) : zCp M_X5_travelled 1 [zR r] (zo σ r Y) (zI (s_far m)) := by
  obtain ⟨hr, hr0, hr1, hp, h4, hpr⟩ := hu
  obtain ⟨hS, hD, hE, hR1, hR2, h200⟩ := hF
  have hn := hS.2.2.2.1
  have hcn : (σ 4).1 2 = m.1 20 := by rw [hE.2.2.1, hS.2.2.1]
  refine zC_of (M := M_X5_travelled) (ls := [some (zR r), none, none]) (n := 2) (by decide) (fun ad => Nat.le_of_ble_eq_true rfl) rfl (fun x h => ?_)
  have L : ∀ (n : Nat) (i : Int), 0 ≤ i → i ≤ m.1 20 → m.1 20 - i < n → zW x (fun rr τ' => rr = some (zI (s_far m)) ∧ τ' = zo σ r Y) 4 [some (zR r), some (zI (zfor (fun c s => s + (if m.2 24 c = -1 then 0 else m.2 26 c)) i 0)), some (zI i)] [] (zo σ r Y) := by
    intro n
    induction n with
    | zero => intro i h1 h2 h3; omega
    | succ n ih =>
      intro i h1 h2 h3
      have hih := ih (i + 1) (by omega)
      rw [zfor_S _ h1] at hih
      have hgo : i = m.1 20 → zfor (fun c s => s + (if m.2 24 c = -1 then 0 else m.2 26 c)) i 0 = s_far m := fun e => by rw [e]; rfl
      generalize zfor (fun c s => s + (if m.2 24 c = -1 then 0 else m.2 26 c)) i 0 = acc at hih hgo ⊢
      refine z_iload_n (pc := 4) h dX5_travelled_4 rfl ?_
      refine z_aloadR_n (pc := 5) h dX5_travelled_5 rfl ?_
      refine z_getR (pc := 6) (c := 5) (j := 0) h (by first | assumption | rfl) (by first | assumption | rfl) rfl rfl fl_X5_51 dX5_travelled_6 ?_
      refine z_getIq (pc := 9) (c := 1) (j := 2) h (zo_n h4) (by first | assumption | rfl) rfl rfl fl_X5_101 dX5_travelled_9 (fun g9 => ?_)
      refine z_icmp_ge (pc := 12) (tgt := 44) h (by omega) (by omega) dX5_travelled_12 (by decide) (fun c12 => ?_) (fun c12 => ?_)
      · refine z_iload_n (pc := 44) h dX5_travelled_44 rfl ?_
        refine z_iret (pc := 45) h rfl dX5_travelled_45 ?_
        exact ⟨by rw [hgo (by omega)], rfl⟩
      · obtain ⟨q5, q6, q7, q8, -⟩ := hR2 i h1 (by omega)
        rw [← q6, ← q8] at hih
        refine z_iload_n (pc := 15) h dX5_travelled_15 rfl ?_
        refine z_aloadR_n (pc := 16) h dX5_travelled_16 rfl ?_
        refine z_getA4 (pc := 17) (c := 5) (j := 6) h (by first | assumption | rfl) rfl rfl fl_X5_24 dX5_travelled_17 ?_
        refine z_iload_n (pc := 20) h dX5_travelled_20 rfl ?_
        refine z_ialdq (pc := 21) (c := 5) (j := 6) (L := 40) h (zo_s _ _ _) (by first | assumption | rfl) (by decide) rfl (by decide) (by omega) (by omega) dX5_travelled_21 (fun g21 => ?_)
        refine z_iconst (pc := 22) h dX5_travelled_22 ?_
        refine z_icmp_ne (pc := 23) (tgt := 30) h (by omega) (by omega) dX5_travelled_23 (by decide) (fun c23 => ?_) (fun c23 => ?_)
        · refine z_aloadR_n (pc := 30) h dX5_travelled_30 rfl ?_
          refine z_getA4 (pc := 31) (c := 5) (j := 8) h (by first | assumption | rfl) rfl rfl fl_X5_30 dX5_travelled_31 ?_
          refine z_iload_n (pc := 34) h dX5_travelled_34 rfl ?_
          refine z_ialdq (pc := 35) (c := 5) (j := 8) (L := 40) h (zo_s _ _ _) (by first | assumption | rfl) (by decide) rfl (by decide) (by omega) (by omega) dX5_travelled_35 (fun g35 => ?_)
          refine z_iadd (pc := 36) h dX5_travelled_36 ?_
          refine z_ist_1 (pc := 37) h dX5_travelled_37 (by decide) rfl ?_
          refine z_inc_2 (pc := 38) h dX5_travelled_38 (by decide) rfl ?_
          refine z_goto (pc := 41) (tgt := 4) h dX5_travelled_41 (by decide) ?_
          first
          | (rw [if_pos c23] at hih; exact hih (by omega) (by omega))
          | (rw [if_neg c23] at hih; exact hih (by omega) (by omega))
        · refine z_iconst (pc := 26) h dX5_travelled_26 ?_
          refine z_goto (pc := 27) (tgt := 36) h dX5_travelled_27 (by decide) ?_
          refine z_iadd (pc := 36) h dX5_travelled_36 ?_
          refine z_ist_1 (pc := 37) h dX5_travelled_37 (by decide) rfl ?_
          refine z_inc_2 (pc := 38) h dX5_travelled_38 (by decide) rfl ?_
          refine z_goto (pc := 41) (tgt := 4) h dX5_travelled_41 (by decide) ?_
          first
          | (rw [if_pos c23] at hih; exact hih (by omega) (by omega))
          | (rw [if_neg c23] at hih; exact hih (by omega) (by omega))
  refine z_iconst (pc := 0) h dX5_travelled_0 ?_
  refine z_ist_1 (pc := 1) h dX5_travelled_1 (by decide) rfl ?_
  refine z_iconst (pc := 2) h dX5_travelled_2 ?_
  refine z_ist_2 (pc := 3) h dX5_travelled_3 (by decide) rfl ?_
  exact L (m.1 20 + 1).toNat 0 (by omega) (by omega) (by omega)
theorem c_minutesStaged {σ : zS} {r p : Nat} {Y m : zOb} (hu : RUNH r p) (hF : FIN (σ 4) Y m) : zCp M_X5_minutesStaged 1 [zR r] (zo σ r Y) (zI (s_ss m)) := by
  obtain ⟨hr, hr0, hr1, hp, h4, hpr⟩ := hu
  obtain ⟨hS, hD, hE, hR1, hR2, h200⟩ := hF
  have hn := hS.2.2.2.1
  have hcn : (σ 4).1 2 = m.1 20 := by rw [hE.2.2.1, hS.2.2.1]
  refine zC_of (M := M_X5_minutesStaged) (ls := [some (zR r), none, none]) (n := 2) (by decide) (fun ad => Nat.le_of_ble_eq_true rfl) rfl (fun x h => ?_)
  have L : ∀ (n : Nat) (i : Int), 0 ≤ i → i ≤ m.1 20 → m.1 20 - i < n → zW x (fun rr τ' => rr = some (zI (s_ss m)) ∧ τ' = zo σ r Y) 4 [some (zR r), some (zI (zfor (fun c s => s + (if m.2 24 c = -1 then 0 else m.2 24 c - m.2 23 c)) i 0)), some (zI i)] [] (zo σ r Y) := by
    intro n
    induction n with
    | zero => intro i h1 h2 h3; omega
    | succ n ih =>
      intro i h1 h2 h3
      have hih := ih (i + 1) (by omega)
      rw [zfor_S _ h1] at hih
      have hgo : i = m.1 20 → zfor (fun c s => s + (if m.2 24 c = -1 then 0 else m.2 24 c - m.2 23 c)) i 0 = s_ss m := fun e => by rw [e]; rfl
      generalize zfor (fun c s => s + (if m.2 24 c = -1 then 0 else m.2 24 c - m.2 23 c)) i 0 = acc at hih hgo ⊢
      refine z_iload_n (pc := 4) h dX5_minutesStaged_4 rfl ?_
      refine z_aloadR_n (pc := 5) h dX5_minutesStaged_5 rfl ?_
      refine z_getR (pc := 6) (c := 5) (j := 0) h (by first | assumption | rfl) (by first | assumption | rfl) rfl rfl fl_X5_51 dX5_minutesStaged_6 ?_
      refine z_getIq (pc := 9) (c := 1) (j := 2) h (zo_n h4) (by first | assumption | rfl) rfl rfl fl_X5_101 dX5_minutesStaged_9 (fun g9 => ?_)
      refine z_icmp_ge (pc := 12) (tgt := 51) h (by omega) (by omega) dX5_minutesStaged_12 (by decide) (fun c12 => ?_) (fun c12 => ?_)
      · refine z_iload_n (pc := 51) h dX5_minutesStaged_51 rfl ?_
        refine z_iret (pc := 52) h rfl dX5_minutesStaged_52 ?_
        exact ⟨by rw [hgo (by omega)], rfl⟩
      · obtain ⟨q5, q6, q7, q8, -⟩ := hR2 i h1 (by omega)
        rw [← q6, ← q5] at hih
        refine z_iload_n (pc := 15) h dX5_minutesStaged_15 rfl ?_
        refine z_aloadR_n (pc := 16) h dX5_minutesStaged_16 rfl ?_
        refine z_getA4 (pc := 17) (c := 5) (j := 6) h (by first | assumption | rfl) rfl rfl fl_X5_24 dX5_minutesStaged_17 ?_
        refine z_iload_n (pc := 20) h dX5_minutesStaged_20 rfl ?_
        refine z_ialdq (pc := 21) (c := 5) (j := 6) (L := 40) h (zo_s _ _ _) (by first | assumption | rfl) (by decide) rfl (by decide) (by omega) (by omega) dX5_minutesStaged_21 (fun g21 => ?_)
        refine z_iconst (pc := 22) h dX5_minutesStaged_22 ?_
        refine z_icmp_ne (pc := 23) (tgt := 30) h (by omega) (by omega) dX5_minutesStaged_23 (by decide) (fun c23 => ?_) (fun c23 => ?_)
        · refine z_aloadR_n (pc := 30) h dX5_minutesStaged_30 rfl ?_
          refine z_getA4 (pc := 31) (c := 5) (j := 6) h (by first | assumption | rfl) rfl rfl fl_X5_24 dX5_minutesStaged_31 ?_
          refine z_iload_n (pc := 34) h dX5_minutesStaged_34 rfl ?_
          refine z_ialdq (pc := 35) (c := 5) (j := 6) (L := 40) h (zo_s _ _ _) (by first | assumption | rfl) (by decide) rfl (by decide) (by omega) (by omega) dX5_minutesStaged_35 (fun g35 => ?_)
          refine z_aloadR_n (pc := 36) h dX5_minutesStaged_36 rfl ?_
          refine z_getA4 (pc := 37) (c := 5) (j := 5) h (by first | assumption | rfl) rfl rfl fl_X5_21 dX5_minutesStaged_37 ?_
          refine z_iload_n (pc := 40) h dX5_minutesStaged_40 rfl ?_
          refine z_ialdq (pc := 41) (c := 5) (j := 5) (L := 40) h (zo_s _ _ _) (by first | assumption | rfl) (by decide) rfl (by decide) (by omega) (by omega) dX5_minutesStaged_41 (fun g41 => ?_)
          refine z_isub (pc := 42) h dX5_minutesStaged_42 ?_
          refine z_iadd (pc := 43) h dX5_minutesStaged_43 ?_
          refine z_ist_1 (pc := 44) h dX5_minutesStaged_44 (by decide) rfl ?_
          refine z_inc_2 (pc := 45) h dX5_minutesStaged_45 (by decide) rfl ?_
          refine z_goto (pc := 48) (tgt := 4) h dX5_minutesStaged_48 (by decide) ?_
          first
          | (rw [if_pos c23] at hih; exact hih (by omega) (by omega))
          | (rw [if_neg c23] at hih; exact hih (by omega) (by omega))
        · refine z_iconst (pc := 26) h dX5_minutesStaged_26 ?_
          refine z_goto (pc := 27) (tgt := 43) h dX5_minutesStaged_27 (by decide) ?_
          refine z_iadd (pc := 43) h dX5_minutesStaged_43 ?_
          refine z_ist_1 (pc := 44) h dX5_minutesStaged_44 (by decide) rfl ?_
          refine z_inc_2 (pc := 45) h dX5_minutesStaged_45 (by decide) rfl ?_
          refine z_goto (pc := 48) (tgt := 4) h dX5_minutesStaged_48 (by decide) ?_
          first
          | (rw [if_pos c23] at hih; exact hih (by omega) (by omega))
          | (rw [if_neg c23] at hih; exact hih (by omega) (by omega))
  refine z_iconst (pc := 0) h dX5_minutesStaged_0 ?_
  refine z_ist_1 (pc := 1) h dX5_minutesStaged_1 (by decide) rfl ?_
  refine z_iconst (pc := 2) h dX5_minutesStaged_2 ?_
  refine z_ist_2 (pc := 3) h dX5_minutesStaged_3 (by decide) rfl ?_
  exact L (m.1 20 + 1).toNat 0 (by omega) (by omega) (by omega)
theorem zfor_b {f : Int → Int} {lo hi n : Int} (hn : 0 ≤ n) (h : ∀ i, 0 ≤ i → i < n → lo ≤ f i ∧ f i ≤ hi) (hlo : lo ≤ 0) (hhi : 0 ≤ hi) : n * lo ≤ zfor (fun i s => s + f i) n 0 ∧ zfor (fun i s => s + f i) n 0 ≤ n * hi := by
  refine zfor_ind (fun i s => i * lo ≤ s ∧ s ≤ i * hi) (n := n) ⟨by rw [Int.zero_mul]; exact Int.le_refl 0, by rw [Int.zero_mul]; exact Int.le_refl 0⟩ (fun i s h1 h2 h3 => ?_) n hn (Int.le_refl n)
  have := h i h1 h2
  rw [Int.add_mul, Int.add_mul, Int.one_mul, Int.one_mul]
  omega
theorem s_cost_b {m : zOb} (hS : SI m) (hD : DI (-1) m) (h200 : m.1 35 ≤ 200) : 0 ≤ s_cost m ∧ s_cost m ≤ 100000 := by
  have h8 := hS.1.2.1
  have hn := hS.2.2.2.1
  have b1 : 0 ≤ s_lc m ∧ s_lc m ≤ 8 * 1800 := by
    have := zfor_b (f := fun t => if m.2 1 (17 + 6 * t + 0) = 1 then m.2 1 (17 + 6 * t + 5) * s_late m t else 0) (lo := 0) (hi := 1800) (n := m.2 1 1) h8.1 (fun t g0 g1 => by
      split
      · rename_i q
        have w := ((hS.1.2.2.2.2.2.2.1 t g0 g1).2.2.1 q).2.2.2
        have l := s_late_b hS hD h200 g0 g1
        have p1 := Int.mul_le_mul w.2 l.2 l.1 (by omega : (0 : Int) ≤ 9)
        have p2 := Int.mul_nonneg (show 0 ≤ m.2 1 (17 + 6 * t + 5) by omega) l.1
        omega
      · omega) (by omega) (by omega)
    unfold s_lc
    omega
  have b2 : 0 ≤ s_far m ∧ s_far m ≤ 400 := by
    have := zfor_b (f := fun c => if m.2 24 c = -1 then 0 else m.2 26 c) (lo := 0) (hi := 10) (n := m.1 20) hn.1 (fun c g0 g1 => by
      have := (hD.2.2.2.2.2.2.1 c g0 g1).2.2.2
      split <;> omega) (by omega) (by omega)
    unfold s_far
    omega
  have b3 : 0 ≤ s_ss m ∧ s_ss m ≤ 40 * 202 := by
    have := zfor_b (f := fun c => if m.2 24 c = -1 then 0 else m.2 24 c - m.2 23 c) (lo := 0) (hi := 202) (n := m.1 20) hn.1 (fun c g0 g1 => by
      have := hD.2.2.2.2.2.2.1 c g0 g1
      split <;> omega) (by omega) (by omega)
    unfold s_ss
    omega
  have b4 : 0 ≤ s_on m ∧ s_on m ≤ m.1 20 := by
    have := zfor_b (f := fun c => if m.2 24 c = -1 then 0 else 1) (lo := 0) (hi := 1) (n := m.1 20) hn.1 (fun c g0 g1 => by split <;> omega) (by omega) (by omega)
    unfold s_on
    omega
  unfold s_cost
  omega
theorem s_over_u {m : zOb} (hS : SI m) (hD : DI (-1) m) : s_over m = false ↔ 0 < s_u m := by
  have h6 := hS.1.1
  have hnn : ∀ i, 0 ≤ i → i < m.2 1 0 → 0 ≤ m.2 1 (65 + i) - m.2 32 i := fun i g0 g1 => by have := (hD.1 i g0 g1).1; omega
  have h0 := zsum_nn h6.1 hnn
  have hz := zsum_z h6.1 hnn
  unfold s_over s_u
  rcases zfst_cases (fun d => decide (m.2 32 d < m.2 1 (65 + d))) (m.2 1 0) with ⟨y1, y2⟩ | ⟨y1, y2, y3, y4⟩
  · rw [y1]
    have : zsum (fun d => m.2 1 (65 + d) - m.2 32 d) (m.2 1 0) = 0 := hz.mpr (fun i g0 g1 => by have y := of_decide_eq_false (y2 i g0 g1); have := hnn i g0 g1; omega)
    simp
    omega
  · have hne : ¬ zfst (fun d => decide (m.2 32 d < m.2 1 (65 + d))) (m.2 1 0) = -1 := by omega
    rw [decide_eq_false hne]
    simp
    have hq : ¬ zsum (fun d => m.2 1 (65 + d) - m.2 32 d) (m.2 1 0) = 0 := fun e => by
      have := hz.mp e _ y1 y2
      have y3 := of_decide_eq_true y3
      omega
    omega
def RES (Y m : zOb) : Prop := RR1 Y m ∧ RR2 Y m ∧ Y.1 18 = s_cost m
theorem c_play {σ : zS} {r p : Nat} {Y m : zOb} {stg : Int} (hu : RUNH r p) (hwa : WFa (m.2 1)) (hwr : WFr (m.2 1)) (hE : DKE (σ 4) (m.2 1)) (hP : PLE (σ p) (m.2 1)) (hstg : stg = m.2 1 2) : zC M_X5_play 4 [zR r, zI stg] (zo σ r Y) (fun rr τ' => rr = some (zI (s_cost (s_run m))) ∧ ∃ Y', τ' = zo σ r Y' ∧ RES Y' (s_run m)) := by
  have hu0 := hu
  obtain ⟨hr, hr0, hr1, hp, h4, hpr⟩ := hu
  obtain ⟨k1, k2, k3⟩ := ini_ok hwa hwr
  have hs40 := hwa.2.2.1
  refine zC_of (M := M_X5_play) (ls := [some (zR r), some (zI stg), none]) (n := 1) (by decide) (fun ad => Nat.le_of_ble_eq_true rfl) rfl (fun x h => ?_)
  have L : ∀ (n : Nat) (m' Y : zOb), SI m' → DI (-1) m' → m'.1 35 ≤ 200 → 200 - m'.1 35 < n → s_loop n m' = s_run m → m'.2 1 = m.2 1 → RR Y m' → zW x (fun rr τ' => rr = some (zI (s_cost (s_run m))) ∧ ∃ Y', τ' = zo σ r Y' ∧ RES Y' (s_run m)) 15 [some (zR r), some (zI stg), some (zI (m'.1 35))] [] (zo σ r Y) := by
    intro n
    induction n with
    | zero => intro m' Y h1 h2 h3 h4; omega
    | succ n ih =>
      intro m' Y h1 h2 h3 h4' h5 h6 hR
      have hm0 := h2.2.2.2.2.2.2.2.2
      have hEm : DKE (σ 4) (m'.2 1) := by rw [h6]; exact hE
      have hPm : PLE (σ p) (m'.2 1) := by rw [h6]; exact hP
      have hov := s_over_u h1 h2
      have h17 := hR.2.2.2.2.2.2
      have hend : ¬ (m'.1 35 < 200 ∧ s_over m' = false) → m' = s_run m := fun z => by rw [← h5]; show m' = if _ then _ else _; rw [if_neg z]
      have hnx : (m'.1 35 < 200 ∧ s_over m' = false) → s_loop n (oss (s_go m') 35 (m'.1 35 + 1)) = s_run m := fun z => by rw [← h5]; show _ = if _ then _ else _; rw [if_pos z]
      have hn6 := h1.1.1
      obtain ⟨a1, a2, a3, -, -⟩ := KP_for KP_dk h1 h2 (i := m'.2 1 0) hn6.1 (Int.le_refl _)
      rw [← s_p1_eq] at a1 a2 a3
      have e1 : (s_p1 m').2 1 0 = m'.2 1 0 := by rw [a3.1]
      obtain ⟨b1, b2, b3, -, -⟩ := KP_for KP_f2 a1 a2 (i := (s_p1 m').2 1 0) (by omega) (Int.le_refl _)
      rw [← s_p2_eq] at b1 b2 b3
      have e2 : (s_p2 (s_p1 m')).2 1 0 = m'.2 1 0 := by rw [b3.1, a3.1]
      obtain ⟨d1, d2, d3, -, -⟩ := KP_for KP_f3 b1 b2 (i := (s_p2 (s_p1 m')).2 1 0) (by omega) (Int.le_refl _)
      rw [← s_p3_eq] at d1 d2 d3
      have f1 : (s_p1 m').1 35 = m'.1 35 := a3.2.2.2.2.2.2
      have f2 : (s_p2 (s_p1 m')).1 35 = m'.1 35 := b3.2.2.2.2.2.2.trans f1
      have f3 : (s_p3 (s_p2 (s_p1 m'))).1 35 = m'.1 35 := d3.2.2.2.2.2.2.trans f2
      have l1 := fun Y hY => c_letDock (σ := σ) (Y := Y) hu0 h1 h2 hEm hPm hY
      have l2 := fun Y hY => c_putOn (σ := σ) (Y := Y) hu0 a1 a2 (by rw [a3.1]; exact hEm) hY
      have l3 := fun Y hY => c_takeOff (σ := σ) (Y := Y) hu0 b1 b2 (by rw [b3.1, a3.1]; exact hEm) hY
      have l4 := fun Y hY => c_letGo (σ := σ) (Y := Y) hu0 d1 d2 (by rw [d3.1, b3.1, a3.1]; exact hEm) hY
      rw [f1] at l2
      rw [f2] at l3
      rw [f3] at l4
      obtain ⟨g1, g2, g3, -, -⟩ := go_ok h1 h2
      have hfin : ∀ Yq, RR Yq m' → FIN (σ 4) Yq m' := fun Yq hq => ⟨h1, h2, hEm, hq.1, hq.2.1, h3⟩
      have hF := hfin Y hR
      have hcb := s_cost_b h1 h2 h3
      have hcn : (σ 4).1 2 = m'.1 20 := by rw [hEm.2.2.1, h1.2.2.1]
      refine z_iload_n (pc := 15) h dX5_play_15 rfl ?_
      refine z_sipush (pc := 16) h dX5_play_16 (by decide) ?_
      refine z_icmp_ge (pc := 19) (tgt := 55) h (by omega) (by omega) dX5_play_19 (by decide) (fun c19 => ?_) (fun c19 => ?_)
      · have hme : m' = s_run m := hend (fun z => by have z1 := z.1; have z2 := hov.mp z.2; omega)
        refine z_aloadR_n (pc := 55) h dX5_play_55 rfl ?_
        refine z_aloadR_n (pc := 56) h dX5_play_56 rfl ?_
        refine z_pV (pc := 57) (c := 5) h (c_lateness hu0 hF) (by decide) (by first | assumption | rfl) rfl mv_X5_lateness ml_X5_91 rfl dX5_play_57 rfl (Nat.le_of_ble_eq_true rfl) ?_
        refine z_aloadR_n (pc := 60) h dX5_play_60 rfl ?_
        refine z_pV (pc := 61) (c := 5) h (c_travelled hu0 hF) (by decide) (by first | assumption | rfl) rfl mv_X5_travelled ml_X5_95 rfl dX5_play_61 rfl (Nat.le_of_ble_eq_true rfl) ?_
        refine z_iadd (pc := 64) h dX5_play_64 ?_
        refine z_aloadR_n (pc := 65) h dX5_play_65 rfl ?_
        refine z_pV (pc := 66) (c := 5) h (c_minutesStaged hu0 hF) (by decide) (by first | assumption | rfl) rfl mv_X5_minutesStaged ml_X5_98 rfl dX5_play_66 rfl (Nat.le_of_ble_eq_true rfl) ?_
        refine z_iadd (pc := 69) h dX5_play_69 ?_
        refine z_bipush (pc := 70) h dX5_play_70 (by decide) ?_
        refine z_aloadR_n (pc := 72) h dX5_play_72 rfl ?_
        refine z_getR (pc := 73) (c := 5) (j := 0) h (by first | assumption | rfl) (by first | assumption | rfl) rfl rfl fl_X5_51 dX5_play_73 ?_
        refine z_getIq (pc := 76) (c := 1) (j := 2) h (zo_n h4) (by first | assumption | rfl) rfl rfl fl_X5_101 dX5_play_76 (fun g76 => ?_)
        refine z_aloadR_n (pc := 79) h dX5_play_79 rfl ?_
        refine z_pV (pc := 80) (c := 5) h (c_putOnInAll hu0 hF) (by decide) (by first | assumption | rfl) rfl mv_X5_putOnInAll ml_X5_106 rfl dX5_play_80 rfl (Nat.le_of_ble_eq_true rfl) ?_
        refine z_isub (pc := 83) h dX5_play_83 ?_
        refine z_imul (pc := 84) h dX5_play_84 ?_
        refine z_iadd (pc := 85) h dX5_play_85 ?_
        have ecost : s_lc m' + s_far m' + s_ss m' + 100 * ((σ 4).1 2 - s_on m') = s_cost m' := by rw [hcn]; rfl
        rw [ecost]
        refine z_putIo (pc := 86) (c := 5) (j := 18) h (by first | assumption | rfl) rfl rfl fl_X5_109 rfl (tyX5_ok 18 (by decide)) dX5_play_86 (by omega) ?_
        refine z_aloadR_n (pc := 89) h dX5_play_89 rfl ?_
        refine z_getIq (pc := 90) (c := 5) (j := 18) h (zo_s _ _ _) (by first | assumption | rfl) rfl rfl fl_X5_109 dX5_play_90 (fun g90 => ?_)
        try simp only [osa_1, osa_2, oss_1, oss_2, osA_1, osA_2, zup_s, reduceIte, Nat.reduceEqDiff] at g90 ⊢
        refine z_iret (pc := 93) h rfl dX5_play_93 ?_
        rw [← hme]
        refine ⟨rfl, _, rfl, hR.1, hR.2.1, rfl⟩
      · refine z_aloadR_n (pc := 22) h dX5_play_22 rfl ?_
        refine z_getIq (pc := 23) (c := 5) (j := 17) h (zo_s _ _ _) (by first | assumption | rfl) rfl rfl fl_X5_75 dX5_play_23 (fun g23 => ?_)
        refine z_if_le (pc := 26) (tgt := 55) h (by omega) dX5_play_26 (by decide) (fun c26 => ?_) (fun c26 => ?_)
        · have hme : m' = s_run m := hend (fun z => by have z1 := z.1; have z2 := hov.mp z.2; omega)
          refine z_aloadR_n (pc := 55) h dX5_play_55 rfl ?_
          refine z_aloadR_n (pc := 56) h dX5_play_56 rfl ?_
          refine z_pV (pc := 57) (c := 5) h (c_lateness hu0 hF) (by decide) (by first | assumption | rfl) rfl mv_X5_lateness ml_X5_91 rfl dX5_play_57 rfl (Nat.le_of_ble_eq_true rfl) ?_
          refine z_aloadR_n (pc := 60) h dX5_play_60 rfl ?_
          refine z_pV (pc := 61) (c := 5) h (c_travelled hu0 hF) (by decide) (by first | assumption | rfl) rfl mv_X5_travelled ml_X5_95 rfl dX5_play_61 rfl (Nat.le_of_ble_eq_true rfl) ?_
          refine z_iadd (pc := 64) h dX5_play_64 ?_
          refine z_aloadR_n (pc := 65) h dX5_play_65 rfl ?_
          refine z_pV (pc := 66) (c := 5) h (c_minutesStaged hu0 hF) (by decide) (by first | assumption | rfl) rfl mv_X5_minutesStaged ml_X5_98 rfl dX5_play_66 rfl (Nat.le_of_ble_eq_true rfl) ?_
          refine z_iadd (pc := 69) h dX5_play_69 ?_
          refine z_bipush (pc := 70) h dX5_play_70 (by decide) ?_
          refine z_aloadR_n (pc := 72) h dX5_play_72 rfl ?_
          refine z_getR (pc := 73) (c := 5) (j := 0) h (by first | assumption | rfl) (by first | assumption | rfl) rfl rfl fl_X5_51 dX5_play_73 ?_
          refine z_getIq (pc := 76) (c := 1) (j := 2) h (zo_n h4) (by first | assumption | rfl) rfl rfl fl_X5_101 dX5_play_76 (fun g76 => ?_)
          refine z_aloadR_n (pc := 79) h dX5_play_79 rfl ?_
          refine z_pV (pc := 80) (c := 5) h (c_putOnInAll hu0 hF) (by decide) (by first | assumption | rfl) rfl mv_X5_putOnInAll ml_X5_106 rfl dX5_play_80 rfl (Nat.le_of_ble_eq_true rfl) ?_
          refine z_isub (pc := 83) h dX5_play_83 ?_
          refine z_imul (pc := 84) h dX5_play_84 ?_
          refine z_iadd (pc := 85) h dX5_play_85 ?_
          have ecost : s_lc m' + s_far m' + s_ss m' + 100 * ((σ 4).1 2 - s_on m') = s_cost m' := by rw [hcn]; rfl
          rw [ecost]
          refine z_putIo (pc := 86) (c := 5) (j := 18) h (by first | assumption | rfl) rfl rfl fl_X5_109 rfl (tyX5_ok 18 (by decide)) dX5_play_86 (by omega) ?_
          refine z_aloadR_n (pc := 89) h dX5_play_89 rfl ?_
          refine z_getIq (pc := 90) (c := 5) (j := 18) h (zo_s _ _ _) (by first | assumption | rfl) rfl rfl fl_X5_109 dX5_play_90 (fun g90 => ?_)
          try simp only [osa_1, osa_2, oss_1, oss_2, osA_1, osA_2, zup_s, reduceIte, Nat.reduceEqDiff] at g90 ⊢
          refine z_iret (pc := 93) h rfl dX5_play_93 ?_
          rw [← hme]
          refine ⟨rfl, _, rfl, hR.1, hR.2.1, rfl⟩
        · refine z_aloadR_n (pc := 29) h dX5_play_29 rfl ?_
          refine z_iload_n (pc := 30) h dX5_play_30 rfl ?_
          refine z_callV (pc := 31) (c := 5) h (l1 Y hR (by omega)) (by decide) (by first | assumption | rfl) rfl mv_X5_letDock ml_X5_78 rfl dX5_play_31 rfl (Nat.le_of_ble_eq_true rfl) (fun r31 τ31 q31 => ?_)
          obtain ⟨rfl, Y1, rfl, hR1⟩ := q31
          refine z_aloadR_n (pc := 34) h dX5_play_34 rfl ?_
          refine z_iload_n (pc := 35) h dX5_play_35 rfl ?_
          refine z_callV (pc := 36) (c := 5) h (l2 Y1 hR1 (by omega)) (by decide) (by first | assumption | rfl) rfl mv_X5_putOn ml_X5_82 rfl dX5_play_36 rfl (Nat.le_of_ble_eq_true rfl) (fun r36 τ36 q36 => ?_)
          obtain ⟨rfl, Y2, rfl, hR2⟩ := q36
          refine z_aloadR_n (pc := 39) h dX5_play_39 rfl ?_
          refine z_iload_n (pc := 40) h dX5_play_40 rfl ?_
          refine z_callV (pc := 41) (c := 5) h (l3 Y2 hR2 (by omega)) (by decide) (by first | assumption | rfl) rfl mv_X5_takeOff ml_X5_85 rfl dX5_play_41 rfl (Nat.le_of_ble_eq_true rfl) (fun r41 τ41 q41 => ?_)
          obtain ⟨rfl, Y3, rfl, hR3⟩ := q41
          refine z_aloadR_n (pc := 44) h dX5_play_44 rfl ?_
          refine z_iload_n (pc := 45) h dX5_play_45 rfl ?_
          refine z_callV (pc := 46) (c := 5) h (l4 Y3 hR3 (by omega)) (by decide) (by first | assumption | rfl) rfl mv_X5_letGo ml_X5_88 rfl dX5_play_46 rfl (Nat.le_of_ble_eq_true rfl) (fun r46 τ46 q46 => ?_)
          obtain ⟨rfl, Y4, rfl, hR4⟩ := q46
          refine z_inc_2 (pc := 49) h dX5_play_49 (by decide) rfl ?_
          refine z_goto (pc := 52) (tgt := 15) h dX5_play_52 (by decide) ?_
          have e35 : oss (s_go m') 35 ((s_go m').1 35 + 1) = oss (s_go m') 35 (m'.1 35 + 1) := by rw [g3.2.2.2.2.2.2]
          have hgR : RR Y4 (s_go m') := by
            unfold s_go s_p5
            split
            · exact hR4
            · exact hR4
          have hih := ih (oss (s_go m') 35 ((s_go m').1 35 + 1)) Y4 g1 (DI_min g2) (by show (s_go m').1 35 + 1 ≤ 200; rw [g3.2.2.2.2.2.2]; omega) (by show 200 - ((s_go m').1 35 + 1) < (n : Int); rw [g3.2.2.2.2.2.2]; omega) (by rw [e35]; exact hnx ⟨by omega, hov.mpr (by omega)⟩) (g3.1.trans h6) hgR
          have e9 : (oss (s_go m') 35 ((s_go m').1 35 + 1)).1 35 = m'.1 35 + 1 := by show (s_go m').1 35 + 1 = _; rw [g3.2.2.2.2.2.2]
          rw [e9] at hih
          exact hih
  refine z_aloadR_n (pc := 0) h dX5_play_0 rfl ?_
  refine z_iload_n (pc := 1) h dX5_play_1 rfl ?_
  refine z_putIo (pc := 2) (c := 5) (j := 15) h (by first | assumption | rfl) rfl rfl fl_X5_65 rfl (tyX5_ok 15 (by decide)) dX5_play_2 (by omega) ?_
  refine z_aloadR_n (pc := 5) h dX5_play_5 rfl ?_
  refine z_vV (pc := 6) (c := 5) h (c_clear hu0) (by decide) (by first | assumption | rfl) rfl mv_X5_clear ml_X5_69 rfl dX5_play_6 rfl (Nat.le_of_ble_eq_true rfl) ?_
  refine z_aloadR_n (pc := 9) h dX5_play_9 rfl ?_
  refine z_callV (pc := 10) (c := 5) h (c_lineUp hu0 hwa hwr hE hP (fun _ => rfl) rfl) (by decide) (by first | assumption | rfl) rfl mv_X5_lineUp ml_X5_72 rfl dX5_play_10 rfl (Nat.le_of_ble_eq_true rfl) (fun r10 τ10 q10 => ?_)
  obtain ⟨rfl, Y1, rfl, v1, v2, v3, v4, v5⟩ := q10
  refine z_iconst (pc := 13) h dX5_play_13 ?_
  refine z_ist_2 (pc := 14) h dX5_play_14 (by decide) rfl ?_
  have hB : RB (σ 4) (σ p) (m.2 1) Y1 := by
    refine ⟨fun j hj n => ?_, fun j hj n => ?_, ?_, ?_⟩
    · rw [v1 j (by omega) (by omega)]
      rcases hj with rfl | rfl | rfl | rfl | rfl | rfl | rfl <;> rfl
    · rw [v1 j (by omega) (by omega)]
      rcases hj with rfl | rfl | rfl <;> rfl
    · rw [v2 15 (by decide)]; exact hstg
    · rw [v2 16 (by decide)]; rfl
  have hR := RR_ini hwa hwr hE hP hB v3 v4 v5
  exact L 201 (s_ini m) Y1 k1 k2 (by show (0 : Int) ≤ 200; omega) (by show (200 : Int) - 0 < ((201 : Nat) : Int); omega) rfl k3 hR
