/-! The class: minutes taken at a door. -/
theorem q_mn_b {m : zOb} (hD : DI (-1) m) (h200 : m.1 35 ≤ 200) {t : Int} (t0 : 0 ≤ t) (t1 : t < m.2 1 1) : -201 ≤ q_mn m t ∧ q_mn m t ≤ 300 := by
  have hlb := hD.2.2.2.2.2.1 t t0 t1
  unfold q_mn q_lm
  split
  · omega
  · split <;> omega
def q_mt (P0 : Int → Int) (m : zOb) (d : Int) : Int := zfor (fun t s => s + (if P0 t = d then q_mn m t else 0)) (m.2 1 1) 0
theorem c_minutesTakenAt {σ : zS} {r p : Nat} {Y m : zOb} {d : Int} (hu : RUNH r p) (hF : FIN (σ 4) Y m) (hd : zin d) : zCp M_X5_minutesTakenAt 3 [zR r, zI d] (zo σ r Y) (zI (q_mt ((σ p).2 0) m d)) := by
  have hmn := fun t t0 t1 => c_minutesOf (σ := σ) (t := t) hu hF t0 t1
  obtain ⟨hr, hr0, hr1, hp, h4, hpr⟩ := hu
  obtain ⟨hS, hD, hE, hR1, hR2, h200⟩ := hF
  have h8 := hS.1.2.1
  have htn := hE.2.1
  refine zC_of (M := M_X5_minutesTakenAt) (ls := [some (zR r), some (zI d), none, none]) (n := 2) (by decide) (fun ad => Nat.le_of_ble_eq_true rfl) rfl (fun x h => ?_)
  have L : ∀ (n : Nat) (i acc : Int), 0 ≤ i → i ≤ m.2 1 1 → m.2 1 1 - i < n → -300 * i ≤ acc → acc ≤ 300 * i → acc = zfor (fun t s => s + (if (σ p).2 0 t = d then q_mn m t else 0)) i 0 → zW x (fun rr τ' => rr = some (zI (q_mt ((σ p).2 0) m d)) ∧ τ' = zo σ r Y) 4 [some (zR r), some (zI d), some (zI acc), some (zI i)] [] (zo σ r Y) := by
    intro n
    induction n with
    | zero => intro i acc h1 h2 h3; omega
    | succ n ih =>
      intro i acc h1 h2 h3 a0 a1 ha
      have hS1 : zfor (fun t s => s + (if (σ p).2 0 t = d then q_mn m t else 0)) (i + 1) 0 = acc + (if (σ p).2 0 i = d then q_mn m i else 0) := by rw [zfor_S _ h1, ha]
      refine z_iload_n (pc := 4) h dX5_minutesTakenAt_4 rfl ?_
      refine z_aloadR_n (pc := 5) h dX5_minutesTakenAt_5 rfl ?_
      refine z_getR (pc := 6) (c := 5) (j := 0) h (by first | assumption | rfl) (by first | assumption | rfl) rfl rfl fl_X5_51 dX5_minutesTakenAt_6 ?_
      refine z_getIq (pc := 9) (c := 1) (j := 1) h (zo_n h4) (by first | assumption | rfl) rfl rfl fl_X5_124 dX5_minutesTakenAt_9 (fun g9 => ?_)
      refine z_icmp_ge (pc := 12) (tgt := 46) h (by omega) (by omega) dX5_minutesTakenAt_12 (by decide) (fun c12 => ?_) (fun c12 => ?_)
      · refine z_iload_n (pc := 46) h dX5_minutesTakenAt_46 rfl ?_
        refine z_iret (pc := 47) h rfl dX5_minutesTakenAt_47 ?_
        refine ⟨congrArg (fun z => some (zI z)) ?_, rfl⟩
        rw [ha, show i = m.2 1 1 by omega]
        rfl
      · have hb := q_mn_b hD h200 h1 (show i < m.2 1 1 by omega)
        refine z_iload_n (pc := 15) h dX5_minutesTakenAt_15 rfl ?_
        refine z_aloadR_n (pc := 16) h dX5_minutesTakenAt_16 rfl ?_
        refine z_getR (pc := 17) (c := 5) (j := 1) h (by first | assumption | rfl) (by first | assumption | rfl) rfl rfl fl_X5_55 dX5_minutesTakenAt_17 ?_
        refine z_getA4 (pc := 20) (c := 3) (j := 0) h (by first | assumption | rfl) rfl rfl fl_X5_220 dX5_minutesTakenAt_20 ?_
        refine z_iload_n (pc := 23) h dX5_minutesTakenAt_23 rfl ?_
        refine z_ialdq (pc := 24) (c := 3) (j := 0) (L := 8) h (zo_n hpr) (by first | assumption | rfl) (by decide) rfl (by decide) (by omega) (by omega) dX5_minutesTakenAt_24 (fun g24 => ?_)
        refine z_iload_n (pc := 25) h dX5_minutesTakenAt_25 rfl ?_
        refine z_icmp_ne (pc := 26) (tgt := 37) h (by omega) (by omega) dX5_minutesTakenAt_26 (by decide) (fun c26 => ?_) (fun c26 => ?_)
        · refine z_iconst (pc := 37) h dX5_minutesTakenAt_37 ?_
          refine z_iadd (pc := 38) h dX5_minutesTakenAt_38 ?_
          refine z_ist_2 (pc := 39) h dX5_minutesTakenAt_39 (by decide) rfl ?_
          refine z_inc_3 (pc := 40) h dX5_minutesTakenAt_40 (by decide) rfl ?_
          refine z_goto (pc := 43) (tgt := 4) h dX5_minutesTakenAt_43 (by decide) ?_
          first
          | (rw [if_pos c26] at hS1; exact ih (i + 1) _ (by omega) (by omega) (by omega) (by omega) (by omega) hS1.symm)
          | (rw [if_neg c26] at hS1; exact ih (i + 1) _ (by omega) (by omega) (by omega) (by omega) (by omega) hS1.symm)
        · refine z_aloadR_n (pc := 29) h dX5_minutesTakenAt_29 rfl ?_
          refine z_iload_n (pc := 30) h dX5_minutesTakenAt_30 rfl ?_
          refine z_pV (pc := 31) (c := 5) h (hmn i h1 (by omega)) (by decide) (by first | assumption | rfl) rfl mv_X5_minutesOf ml_X5_217 rfl dX5_minutesTakenAt_31 rfl (Nat.le_of_ble_eq_true rfl) ?_
          refine z_goto (pc := 34) (tgt := 38) h dX5_minutesTakenAt_34 (by decide) ?_
          refine z_iadd (pc := 38) h dX5_minutesTakenAt_38 ?_
          refine z_ist_2 (pc := 39) h dX5_minutesTakenAt_39 (by decide) rfl ?_
          refine z_inc_3 (pc := 40) h dX5_minutesTakenAt_40 (by decide) rfl ?_
          refine z_goto (pc := 43) (tgt := 4) h dX5_minutesTakenAt_43 (by decide) ?_
          first
          | (rw [if_pos c26] at hS1; exact ih (i + 1) _ (by omega) (by omega) (by omega) (by omega) (by omega) hS1.symm)
          | (rw [if_neg c26] at hS1; exact ih (i + 1) _ (by omega) (by omega) (by omega) (by omega) (by omega) hS1.symm)
  refine z_iconst (pc := 0) h dX5_minutesTakenAt_0 ?_
  refine z_ist_2 (pc := 1) h dX5_minutesTakenAt_1 (by decide) rfl ?_
  refine z_iconst (pc := 2) h dX5_minutesTakenAt_2 ?_
  refine z_ist_3 (pc := 3) h dX5_minutesTakenAt_3 (by decide) rfl ?_
  exact L (m.2 1 1 + 1).toNat 0 0 (by omega) (by omega) (by omega) (by omega) (by omega) rfl
