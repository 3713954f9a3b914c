/-! The class: questions of a run. -/
def q_lm (m : zOb) (t : Int) : Int := if m.2 28 t = -1 then 199 else m.2 28 t
def q_mn (m : zOb) (t : Int) : Int := if m.2 27 t = -1 then 0 else q_lm m t - m.2 27 t + 1
theorem c_lastMinuteOf {σ : zS} {r p : Nat} {Y m : zOb} {t : Int} (hu : RUNH r p) (hF : FIN (σ 4) Y m) (t0 : 0 ≤ t) (t1 : t < m.2 1 1) : zCp M_X5_lastMinuteOf 1 [zR r, zI t] (zo σ r Y) (zI (q_lm m t)) := by
  obtain ⟨hr, hr0, hr1, hp, h4, hpr⟩ := hu
  obtain ⟨hS, hD, hE, hR1, hR2, h200⟩ := hF
  have h8 := hS.1.2.1
  have hl := (hR1 t t0 t1).2.1
  have hlb := (hD.2.2.2.2.2.1 t t0 t1).2.2.1
  unfold q_lm
  rw [← hl]
  refine zC_of (M := M_X5_lastMinuteOf) (ls := [some (zR r), some (zI t)]) (n := 0) (by decide) (fun ad => Nat.le_of_ble_eq_true rfl) rfl (fun x h => ?_)
  refine z_aloadR_n (pc := 0) h dX5_lastMinuteOf_0 rfl ?_
  refine z_getA4 (pc := 1) (c := 5) (j := 3) h (by first | assumption | rfl) rfl rfl fl_X5_15 dX5_lastMinuteOf_1 ?_
  refine z_iload_n (pc := 4) h dX5_lastMinuteOf_4 rfl ?_
  refine z_ialdq (pc := 5) (c := 5) (j := 3) (L := 8) h (zo_s _ _ _) (by first | assumption | rfl) (by decide) rfl (by decide) (by omega) (by omega) dX5_lastMinuteOf_5 (fun g5 => ?_)
  refine z_iconst (pc := 6) h dX5_lastMinuteOf_6 ?_
  refine z_icmp_ne (pc := 7) (tgt := 16) h (by omega) (by omega) dX5_lastMinuteOf_7 (by decide) (fun c7 => ?_) (fun c7 => ?_)
  · refine z_aloadR_n (pc := 16) h dX5_lastMinuteOf_16 rfl ?_
    refine z_getA4 (pc := 17) (c := 5) (j := 3) h (by first | assumption | rfl) rfl rfl fl_X5_15 dX5_lastMinuteOf_17 ?_
    refine z_iload_n (pc := 20) h dX5_lastMinuteOf_20 rfl ?_
    refine z_ialdq (pc := 21) (c := 5) (j := 3) (L := 8) h (zo_s _ _ _) (by first | assumption | rfl) (by decide) rfl (by decide) (by omega) (by omega) dX5_lastMinuteOf_21 (fun g21 => ?_)
    refine z_iret (pc := 22) h rfl dX5_lastMinuteOf_22 ?_
    first
    | (rw [if_pos (by omega)]; exact ⟨rfl, rfl⟩)
    | (rw [if_neg (by omega)]; exact ⟨rfl, rfl⟩)
  · refine z_sipush (pc := 10) h dX5_lastMinuteOf_10 (by decide) ?_
    refine z_goto (pc := 13) (tgt := 22) h dX5_lastMinuteOf_13 (by decide) ?_
    refine z_iret (pc := 22) h rfl dX5_lastMinuteOf_22 ?_
    first
    | (rw [if_pos (by omega)]; exact ⟨rfl, rfl⟩)
    | (rw [if_neg (by omega)]; exact ⟨rfl, rfl⟩)
theorem c_minutesOf {σ : zS} {r p : Nat} {Y m : zOb} {t : Int} (hu : RUNH r p) (hF : FIN (σ 4) Y m) (t0 : 0 ≤ t) (t1 : t < m.2 1 1) : zCp M_X5_minutesOf 2 [zR r, zI t] (zo σ r Y) (zI (q_mn m t)) := by
  have hlm := c_lastMinuteOf (σ := σ) hu hF t0 t1
  obtain ⟨hr, hr0, hr1, hp, h4, hpr⟩ := hu
  obtain ⟨hS, hD, hE, hR1, hR2, h200⟩ := hF
  have h8 := hS.1.2.1
  have hl := (hR1 t t0 t1).1
  have hlb := hD.2.2.2.2.2.1 t t0 t1
  have hqb : -1 ≤ q_lm m t ∧ q_lm m t ≤ 200 := by unfold q_lm; split <;> omega
  unfold q_mn
  rw [← hl]
  refine zC_of (M := M_X5_minutesOf) (ls := [some (zR r), some (zI t)]) (n := 0) (by decide) (fun ad => Nat.le_of_ble_eq_true rfl) rfl (fun x h => ?_)
  refine z_aloadR_n (pc := 0) h dX5_minutesOf_0 rfl ?_
  refine z_getA4 (pc := 1) (c := 5) (j := 2) h (by first | assumption | rfl) rfl rfl fl_X5_9 dX5_minutesOf_1 ?_
  refine z_iload_n (pc := 4) h dX5_minutesOf_4 rfl ?_
  refine z_ialdq (pc := 5) (c := 5) (j := 2) (L := 8) h (zo_s _ _ _) (by first | assumption | rfl) (by decide) rfl (by decide) (by omega) (by omega) dX5_minutesOf_5 (fun g5 => ?_)
  refine z_iconst (pc := 6) h dX5_minutesOf_6 ?_
  refine z_icmp_ne (pc := 7) (tgt := 14) h (by omega) (by omega) dX5_minutesOf_7 (by decide) (fun c7 => ?_) (fun c7 => ?_)
  · refine z_aloadR_n (pc := 14) h dX5_minutesOf_14 rfl ?_
    refine z_iload_n (pc := 15) h dX5_minutesOf_15 rfl ?_
    refine z_pV (pc := 16) (c := 5) h (hlm) (by decide) (by first | assumption | rfl) rfl mv_X5_lastMinuteOf ml_X5_214 rfl dX5_minutesOf_16 rfl (Nat.le_of_ble_eq_true rfl) ?_
    refine z_aloadR_n (pc := 19) h dX5_minutesOf_19 rfl ?_
    refine z_getA4 (pc := 20) (c := 5) (j := 2) h (by first | assumption | rfl) rfl rfl fl_X5_9 dX5_minutesOf_20 ?_
    refine z_iload_n (pc := 23) h dX5_minutesOf_23 rfl ?_
    refine z_ialdq (pc := 24) (c := 5) (j := 2) (L := 8) h (zo_s _ _ _) (by first | assumption | rfl) (by decide) rfl (by decide) (by omega) (by omega) dX5_minutesOf_24 (fun g24 => ?_)
    refine z_isub (pc := 25) h dX5_minutesOf_25 ?_
    refine z_iconst (pc := 26) h dX5_minutesOf_26 ?_
    refine z_iadd (pc := 27) h dX5_minutesOf_27 ?_
    refine z_iret (pc := 28) h rfl dX5_minutesOf_28 ?_
    first
    | (rw [if_pos (by omega)]; exact ⟨rfl, rfl⟩)
    | (rw [if_neg (by omega)]; exact ⟨rfl, rfl⟩)
  · refine z_iconst (pc := 10) h dX5_minutesOf_10 ?_
    refine z_goto (pc := 11) (tgt := 28) h dX5_minutesOf_11 (by decide) ?_
    refine z_iret (pc := 28) h rfl dX5_minutesOf_28 ?_
    first
    | (rw [if_pos (by omega)]; exact ⟨rfl, rfl⟩)
    | (rw [if_neg (by omega)]; exact ⟨rfl, rfl⟩)
def q_nl (m : zOb) : Int := zfor (fun t s => s + (if m.2 28 t = -1 then 1 else 0)) (m.2 1 1) 0
theorem c_neverLeaving {σ : zS} {r p : Nat} {Y m : zOb} (hu : RUNH r p) (hF : FIN (σ 4) Y m) : zCp M_X5_neverLeaving 1 [zR r] (zo σ r Y) (zI (q_nl m)) := by
  obtain ⟨hr, hr0, hr1, hp, h4, hpr⟩ := hu
  obtain ⟨hS, hD, hE, hR1, hR2, h200⟩ := hF
  have h8 := hS.1.2.1
  have htn := hE.2.1
  refine zC_of (M := M_X5_neverLeaving) (ls := [some (zR r), none, none]) (n := 2) (by decide) (fun ad => Nat.le_of_ble_eq_true rfl) rfl (fun x h => ?_)
  have L : ∀ (n : Nat) (i : Int), 0 ≤ i → i ≤ m.2 1 1 → m.2 1 1 - i < n → zW x (fun rr τ' => rr = some (zI (q_nl m)) ∧ τ' = zo σ r Y) 4 [some (zR r), some (zI (zfor (fun t s => s + (if m.2 28 t = -1 then 1 else 0)) i 0)), some (zI i)] [] (zo σ r Y) := by
    intro n
    induction n with
    | zero => intro i h1 h2 h3; omega
    | succ n ih =>
      intro i h1 h2 h3
      have hih := ih (i + 1) (by omega)
      rw [zfor_S _ h1] at hih
      have hgo : i = m.2 1 1 → zfor (fun t s => s + (if m.2 28 t = -1 then 1 else 0)) i 0 = q_nl m := fun e => by rw [e]; rfl
      generalize zfor (fun t s => s + (if m.2 28 t = -1 then 1 else 0)) i 0 = acc at hih hgo ⊢
      refine z_iload_n (pc := 4) h dX5_neverLeaving_4 rfl ?_
      refine z_aloadR_n (pc := 5) h dX5_neverLeaving_5 rfl ?_
      refine z_getR (pc := 6) (c := 5) (j := 0) h (by first | assumption | rfl) (by first | assumption | rfl) rfl rfl fl_X5_51 dX5_neverLeaving_6 ?_
      refine z_getIq (pc := 9) (c := 1) (j := 1) h (zo_n h4) (by first | assumption | rfl) rfl rfl fl_X5_124 dX5_neverLeaving_9 (fun g9 => ?_)
      refine z_icmp_ge (pc := 12) (tgt := 39) h (by omega) (by omega) dX5_neverLeaving_12 (by decide) (fun c12 => ?_) (fun c12 => ?_)
      · refine z_iload_n (pc := 39) h dX5_neverLeaving_39 rfl ?_
        refine z_iret (pc := 40) h rfl dX5_neverLeaving_40 ?_
        exact ⟨by rw [hgo (by omega)], rfl⟩
      · have q3 := (hR1 i h1 (by omega)).2.1
        rw [← q3] at hih
        refine z_iload_n (pc := 15) h dX5_neverLeaving_15 rfl ?_
        refine z_aloadR_n (pc := 16) h dX5_neverLeaving_16 rfl ?_
        refine z_getA4 (pc := 17) (c := 5) (j := 3) h (by first | assumption | rfl) rfl rfl fl_X5_15 dX5_neverLeaving_17 ?_
        refine z_iload_n (pc := 20) h dX5_neverLeaving_20 rfl ?_
        refine z_ialdq (pc := 21) (c := 5) (j := 3) (L := 8) h (zo_s _ _ _) (by first | assumption | rfl) (by decide) rfl (by decide) (by omega) (by omega) dX5_neverLeaving_21 (fun g21 => ?_)
        refine z_iconst (pc := 22) h dX5_neverLeaving_22 ?_
        refine z_icmp_ne (pc := 23) (tgt := 30) h (by omega) (by omega) dX5_neverLeaving_23 (by decide) (fun c23 => ?_) (fun c23 => ?_)
        · refine z_iconst (pc := 30) h dX5_neverLeaving_30 ?_
          refine z_iadd (pc := 31) h dX5_neverLeaving_31 ?_
          refine z_ist_1 (pc := 32) h dX5_neverLeaving_32 (by decide) rfl ?_
          refine z_inc_2 (pc := 33) h dX5_neverLeaving_33 (by decide) rfl ?_
          refine z_goto (pc := 36) (tgt := 4) h dX5_neverLeaving_36 (by decide) ?_
          first
          | (rw [if_pos c23] at hih; exact hih (by omega) (by omega))
          | (rw [if_neg c23] at hih; exact hih (by omega) (by omega))
        · refine z_iconst (pc := 26) h dX5_neverLeaving_26 ?_
          refine z_goto (pc := 27) (tgt := 31) h dX5_neverLeaving_27 (by decide) ?_
          refine z_iadd (pc := 31) h dX5_neverLeaving_31 ?_
          refine z_ist_1 (pc := 32) h dX5_neverLeaving_32 (by decide) rfl ?_
          refine z_inc_2 (pc := 33) h dX5_neverLeaving_33 (by decide) rfl ?_
          refine z_goto (pc := 36) (tgt := 4) h dX5_neverLeaving_36 (by decide) ?_
          first
          | (rw [if_pos c23] at hih; exact hih (by omega) (by omega))
          | (rw [if_neg c23] at hih; exact hih (by omega) (by omega))
  refine z_iconst (pc := 0) h dX5_neverLeaving_0 ?_
  refine z_ist_1 (pc := 1) h dX5_neverLeaving_1 (by decide) rfl ?_
  refine z_iconst (pc := 2) h dX5_neverLeaving_2 ?_
  refine z_ist_2 (pc := 3) h dX5_neverLeaving_3 (by decide) rfl ?_
  exact L (m.2 1 1 + 1).toNat 0 (by omega) (by omega) (by omega)
