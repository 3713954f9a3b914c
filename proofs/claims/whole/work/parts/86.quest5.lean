/-! The class: the fullest minute, the last that leaves, idle minutes, who stands at a door. -/
theorem s_stA_b {m : zOb} (hS : SI m) (mu z : Int) : 0 ≤ s_stA m mu z ∧ s_stA m mu z ≤ 40 := by
  have hn := hS.2.2.2.1
  have := zcnt_b (fun c => decide ((z = -1 ∨ m.2 22 c = z) ∧ m.2 23 c ≠ -1 ∧ m.2 23 c ≤ mu ∧ (m.2 24 c = -1 ∨ mu < m.2 24 c))) hn.1
  unfold s_stA
  omega
theorem c_mostStaged {σ : zS} {r p : Nat} {Y m : zOb} (hu : RUNH r p) (hF : FIN (σ 4) Y m) : zCp M_X5_mostStaged 2 [zR r] (zo σ r Y) (zI (s_fo (fun mu => s_stA m mu (-1)) 200).1) := by
  have hse := fun mu (h : 0 ≤ mu ∧ mu ≤ 199) => c_stagedAtEnd (σ := σ) (z := -1) hu hF h (by omega)
  obtain ⟨hr, hr0, hr1, hp, h4, hpr⟩ := hu
  obtain ⟨hS, hD, hE, hR1, hR2, h200⟩ := hF
  refine zC_of (M := M_X5_mostStaged) (ls := [some (zR r), none, none]) (n := 2) (by decide) (fun ad => Nat.le_of_ble_eq_true rfl) rfl (fun x h => ?_)
  have L : ∀ (n : Nat) (i acc : Int), 0 ≤ i → i ≤ 200 → 200 - i < n → 0 ≤ acc → acc ≤ 40 → acc = (s_fo (fun mu => s_stA m mu (-1)) i).1 → zW x (fun rr τ' => rr = some (zI (s_fo (fun mu => s_stA m mu (-1)) 200).1) ∧ τ' = zo σ r Y) 4 [some (zR r), some (zI acc), some (zI i)] [] (zo σ r Y) := by
    intro n
    induction n with
    | zero => intro i acc h1 h2 h3; omega
    | succ n ih =>
      intro i acc h1 h2 h3 a0 a1 ha
      have hb := s_stA_b hS i (-1)
      have hS1 := s_fo_S (fun mu => s_stA m mu (-1)) h1
      refine z_iload_n (pc := 4) h dX5_mostStaged_4 rfl ?_
      refine z_sipush (pc := 5) h dX5_mostStaged_5 (by decide) ?_
      refine z_icmp_ge (pc := 8) (tgt := 28) h (by omega) (by omega) dX5_mostStaged_8 (by decide) (fun c8 => ?_) (fun c8 => ?_)
      · refine z_iload_n (pc := 28) h dX5_mostStaged_28 rfl ?_
        refine z_iret (pc := 29) h rfl dX5_mostStaged_29 ?_
        refine ⟨congrArg (fun z => some (zI z)) ?_, rfl⟩
        rw [ha, show i = 200 by omega]
      · refine z_iload_n (pc := 11) h dX5_mostStaged_11 rfl ?_
        refine z_aloadR_n (pc := 12) h dX5_mostStaged_12 rfl ?_
        refine z_iload_n (pc := 13) h dX5_mostStaged_13 rfl ?_
        refine z_iconst (pc := 14) h dX5_mostStaged_14 ?_
        refine z_pV (pc := 15) (c := 5) h (hse i (by omega)) (by decide) (by first | assumption | rfl) rfl mv_X5_stagedAtEnd ml_X5_211 rfl dX5_mostStaged_15 rfl (Nat.le_of_ble_eq_true rfl) ?_
        refine z_max (pc := 18) h (by omega) (by omega) (by decide) ml_X5_177 dX5_mostStaged_18 (Nat.le_of_ble_eq_true rfl) ?_
        refine z_ist_1 (pc := 21) h dX5_mostStaged_21 (by decide) rfl ?_
        refine z_inc_2 (pc := 22) h dX5_mostStaged_22 (by decide) rfl ?_
        refine z_goto (pc := 25) (tgt := 4) h dX5_mostStaged_25 (by decide) ?_
        refine ih (i + 1) _ (by omega) (by omega) (by omega) (by split <;> omega) (by split <;> omega) ?_
        rw [hS1, ← ha]
        split
        · rfl
        · exact ha
  refine z_iconst (pc := 0) h dX5_mostStaged_0 ?_
  refine z_ist_1 (pc := 1) h dX5_mostStaged_1 (by decide) rfl ?_
  refine z_iconst (pc := 2) h dX5_mostStaged_2 ?_
  refine z_ist_2 (pc := 3) h dX5_mostStaged_3 (by decide) rfl ?_
  exact L 201 0 0 (by omega) (by omega) (by omega) (by omega) (by omega) rfl
theorem c_firstFullest {σ : zS} {r p : Nat} {Y m : zOb} (hu : RUNH r p) (hF : FIN (σ 4) Y m) : zCp M_X5_firstFullest 2 [zR r] (zo σ r Y) (zI (s_fo (fun mu => s_stA m mu (-1)) 200).2) := by
  have hse := fun mu (h : 0 ≤ mu ∧ mu ≤ 199) => c_stagedAtEnd (σ := σ) (z := -1) hu hF h (by omega)
  obtain ⟨hr, hr0, hr1, hp, h4, hpr⟩ := hu
  obtain ⟨hS, hD, hE, hR1, hR2, h200⟩ := hF
  refine zC_of (M := M_X5_firstFullest) (ls := [some (zR r), none, none, none, none]) (n := 4) (by decide) (fun ad => Nat.le_of_ble_eq_true rfl) rfl (fun x h => ?_)
  have L : ∀ (n : Nat) (i acc fi : Int) (l4 : Option Value), 0 ≤ i → i ≤ 200 → 200 - i < n → 0 ≤ acc → acc ≤ 40 → (acc, fi) = s_fo (fun mu => s_stA m mu (-1)) i → zW x (fun rr τ' => rr = some (zI (s_fo (fun mu => s_stA m mu (-1)) 200).2) ∧ τ' = zo σ r Y) 6 [some (zR r), some (zI acc), some (zI fi), some (zI i), l4] [] (zo σ r Y) := by
    intro n
    induction n with
    | zero => intro i acc fi l4 h1 h2 h3; omega
    | succ n ih =>
      intro i acc fi l4 h1 h2 h3 a0 a1 ha
      have hb := s_stA_b hS i (-1)
      have hS1 := s_fo_S (fun mu => s_stA m mu (-1)) h1
      rw [← ha] at hS1
      refine z_iload_n (pc := 6) h dX5_firstFullest_6 rfl ?_
      refine z_sipush (pc := 7) h dX5_firstFullest_7 (by decide) ?_
      refine z_icmp_ge (pc := 10) (tgt := 38) h (by omega) (by omega) dX5_firstFullest_10 (by decide) (fun c10 => ?_) (fun c10 => ?_)
      · refine z_iload_n (pc := 38) h dX5_firstFullest_38 rfl ?_
        refine z_iret (pc := 39) h rfl dX5_firstFullest_39 ?_
        refine ⟨congrArg (fun z => some (zI z)) ?_, rfl⟩
        rw [← show i = 200 by omega, ← ha]
      · refine z_aloadR_n (pc := 13) h dX5_firstFullest_13 rfl ?_
        refine z_iload_n (pc := 14) h dX5_firstFullest_14 rfl ?_
        refine z_iconst (pc := 15) h dX5_firstFullest_15 ?_
        refine z_pV (pc := 16) (c := 5) h (hse i (by omega)) (by decide) (by first | assumption | rfl) rfl mv_X5_stagedAtEnd ml_X5_211 rfl dX5_firstFullest_16 rfl (Nat.le_of_ble_eq_true rfl) ?_
        refine z_ist_4 (pc := 19) h dX5_firstFullest_19 (by decide) rfl ?_
        refine z_iload (pc := 21) h dX5_firstFullest_21 rfl ?_
        refine z_iload_n (pc := 23) h dX5_firstFullest_23 rfl ?_
        refine z_icmp_le (pc := 24) (tgt := 32) h (by omega) (by omega) dX5_firstFullest_24 (by decide) (fun c24 => ?_) (fun c24 => ?_)
        · refine z_inc_3 (pc := 32) h dX5_firstFullest_32 (by decide) rfl ?_
          refine z_goto (pc := 35) (tgt := 6) h dX5_firstFullest_35 (by decide) ?_
          first
          | (rw [if_pos (show acc < s_stA m i (-1) by omega)] at hS1; exact ih (i + 1) _ _ _ (by omega) (by omega) (by omega) (by omega) (by omega) hS1.symm)
          | (rw [if_neg (show ¬ acc < s_stA m i (-1) by omega)] at hS1; exact ih (i + 1) _ _ _ (by omega) (by omega) (by omega) (by omega) (by omega) hS1.symm)
        · refine z_iload (pc := 27) h dX5_firstFullest_27 rfl ?_
          refine z_ist_1 (pc := 29) h dX5_firstFullest_29 (by decide) rfl ?_
          refine z_iload_n (pc := 30) h dX5_firstFullest_30 rfl ?_
          refine z_ist_2 (pc := 31) h dX5_firstFullest_31 (by decide) rfl ?_
          refine z_inc_3 (pc := 32) h dX5_firstFullest_32 (by decide) rfl ?_
          refine z_goto (pc := 35) (tgt := 6) h dX5_firstFullest_35 (by decide) ?_
          first
          | (rw [if_pos (show acc < s_stA m i (-1) by omega)] at hS1; exact ih (i + 1) _ _ _ (by omega) (by omega) (by omega) (by omega) (by omega) hS1.symm)
          | (rw [if_neg (show ¬ acc < s_stA m i (-1) by omega)] at hS1; exact ih (i + 1) _ _ _ (by omega) (by omega) (by omega) (by omega) (by omega) hS1.symm)
  refine z_iconst (pc := 0) h dX5_firstFullest_0 ?_
  refine z_ist_1 (pc := 1) h dX5_firstFullest_1 (by decide) rfl ?_
  refine z_iconst (pc := 2) h dX5_firstFullest_2 ?_
  refine z_ist_2 (pc := 3) h dX5_firstFullest_3 (by decide) rfl ?_
  refine z_iconst (pc := 4) h dX5_firstFullest_4 ?_
  refine z_ist_3 (pc := 5) h dX5_firstFullest_5 (by decide) rfl ?_
  exact L 201 0 0 (-1) _ (by omega) (by omega) (by omega) (by omega) (by omega) rfl
def q_ll (m : zOb) (n : Int) : Int := zfor (fun t s => if s < m.2 28 t then m.2 28 t else s) n (-1)
theorem c_lastLeaving {σ : zS} {r p : Nat} {Y m : zOb} (hu : RUNH r p) (hF : FIN (σ 4) Y m) : zCp M_X5_lastLeaving 1 [zR r] (zo σ r Y) (zI (q_ll m (m.2 1 1))) := by
  obtain ⟨hr, hr0, hr1, hp, h4, hpr⟩ := hu
  obtain ⟨hS, hD, hE, hR1, hR2, h200⟩ := hF
  have h8 := hS.1.2.1
  have htn := hE.2.1
  refine zC_of (M := M_X5_lastLeaving) (ls := [some (zR r), none, none]) (n := 2) (by decide) (fun ad => Nat.le_of_ble_eq_true rfl) rfl (fun x h => ?_)
  have L : ∀ (n : Nat) (i acc : Int), 0 ≤ i → i ≤ m.2 1 1 → m.2 1 1 - i < n → -1 ≤ acc → acc ≤ 200 → acc = q_ll m i → zW x (fun rr τ' => rr = some (zI (q_ll m (m.2 1 1))) ∧ τ' = zo σ r Y) 4 [some (zR r), some (zI acc), some (zI i)] [] (zo σ r Y) := by
    intro n
    induction n with
    | zero => intro i acc h1 h2 h3; omega
    | succ n ih =>
      intro i acc h1 h2 h3 a0 a1 ha
      have hS1 : q_ll m (i + 1) = if acc < m.2 28 i then m.2 28 i else acc := by unfold q_ll at ha ⊢; rw [zfor_S _ h1, ← ha]
      refine z_iload_n (pc := 4) h dX5_lastLeaving_4 rfl ?_
      refine z_aloadR_n (pc := 5) h dX5_lastLeaving_5 rfl ?_
      refine z_getR (pc := 6) (c := 5) (j := 0) h (by first | assumption | rfl) (by first | assumption | rfl) rfl rfl fl_X5_51 dX5_lastLeaving_6 ?_
      refine z_getIq (pc := 9) (c := 1) (j := 1) h (zo_n h4) (by first | assumption | rfl) rfl rfl fl_X5_124 dX5_lastLeaving_9 (fun g9 => ?_)
      refine z_icmp_ge (pc := 12) (tgt := 32) h (by omega) (by omega) dX5_lastLeaving_12 (by decide) (fun c12 => ?_) (fun c12 => ?_)
      · refine z_iload_n (pc := 32) h dX5_lastLeaving_32 rfl ?_
        refine z_iret (pc := 33) h rfl dX5_lastLeaving_33 ?_
        refine ⟨congrArg (fun z => some (zI z)) ?_, rfl⟩
        rw [ha, show i = m.2 1 1 by omega]
      · have q3 := (hR1 i h1 (by omega)).2.1
        have hb := (hD.2.2.2.2.2.1 i h1 (by omega)).2.2.1
        refine z_iload_n (pc := 15) h dX5_lastLeaving_15 rfl ?_
        refine z_aloadR_n (pc := 16) h dX5_lastLeaving_16 rfl ?_
        refine z_getA4 (pc := 17) (c := 5) (j := 3) h (by first | assumption | rfl) rfl rfl fl_X5_15 dX5_lastLeaving_17 ?_
        refine z_iload_n (pc := 20) h dX5_lastLeaving_20 rfl ?_
        refine z_ialdq (pc := 21) (c := 5) (j := 3) (L := 8) h (zo_s _ _ _) (by first | assumption | rfl) (by decide) rfl (by decide) (by omega) (by omega) dX5_lastLeaving_21 (fun g21 => ?_)
        refine z_max (pc := 22) h (by omega) (by omega) (by decide) ml_X5_177 dX5_lastLeaving_22 (Nat.le_of_ble_eq_true rfl) ?_
        refine z_ist_1 (pc := 25) h dX5_lastLeaving_25 (by decide) rfl ?_
        refine z_inc_2 (pc := 26) h dX5_lastLeaving_26 (by decide) rfl ?_
        refine z_goto (pc := 29) (tgt := 4) h dX5_lastLeaving_29 (by decide) ?_
        refine ih (i + 1) _ (by omega) (by omega) (by omega) (by split <;> omega) (by split <;> omega) ?_
        rw [hS1, q3]
  refine z_iconst (pc := 0) h dX5_lastLeaving_0 ?_
  refine z_ist_1 (pc := 1) h dX5_lastLeaving_1 (by decide) rfl ?_
  refine z_iconst (pc := 2) h dX5_lastLeaving_2 ?_
  refine z_ist_2 (pc := 3) h dX5_lastLeaving_3 (by decide) rfl ?_
  exact L (m.2 1 1 + 1).toNat 0 (-1) (by omega) (by omega) (by omega) (by omega) (by omega) rfl
def q_id (m : zOb) (n : Int) : Int := zsum (fun t => if m.2 1 (17 + 6 * t + 0) = 0 then q_mn m t - m.2 29 t else 0) n
theorem c_idleMinutes {σ : zS} {r p : Nat} {Y m : zOb} (hu : RUNH r p) (hF : FIN (σ 4) Y m) : zCp M_X5_idleMinutes 3 [zR r] (zo σ r Y) (zI (q_id m (m.2 1 1))) := by
  have hmn := fun t t0 t1 => c_minutesOf (σ := σ) (t := t) hu hF t0 t1
  obtain ⟨hr, hr0, hr1, hp, h4, hpr⟩ := hu
  obtain ⟨hS, hD, hE, hR1, hR2, h200⟩ := hF
  have h8 := hS.1.2.1
  have htn := hE.2.1
  refine zC_of (M := M_X5_idleMinutes) (ls := [some (zR r), none, none]) (n := 2) (by decide) (fun ad => Nat.le_of_ble_eq_true rfl) rfl (fun x h => ?_)
  have L : ∀ (n : Nat) (i acc : Int), 0 ≤ i → i ≤ m.2 1 1 → m.2 1 1 - i < n → -400 * i ≤ acc → acc ≤ 400 * i → acc = q_id m i → zW x (fun rr τ' => rr = some (zI (q_id m (m.2 1 1))) ∧ τ' = zo σ r Y) 4 [some (zR r), some (zI acc), some (zI i)] [] (zo σ r Y) := by
    intro n
    induction n with
    | zero => intro i acc h1 h2 h3; omega
    | succ n ih =>
      intro i acc h1 h2 h3 a0 a1 ha
      have hS1 : q_id m (i + 1) = acc + (if m.2 1 (17 + 6 * i + 0) = 0 then q_mn m i - m.2 29 i else 0) := by unfold q_id at ha ⊢; rw [zsum_S _ h1, ← ha]
      refine z_iload_n (pc := 4) h dX5_idleMinutes_4 rfl ?_
      refine z_aloadR_n (pc := 5) h dX5_idleMinutes_5 rfl ?_
      refine z_getR (pc := 6) (c := 5) (j := 0) h (by first | assumption | rfl) (by first | assumption | rfl) rfl rfl fl_X5_51 dX5_idleMinutes_6 ?_
      refine z_getIq (pc := 9) (c := 1) (j := 1) h (zo_n h4) (by first | assumption | rfl) rfl rfl fl_X5_124 dX5_idleMinutes_9 (fun g9 => ?_)
      refine z_icmp_ge (pc := 12) (tgt := 52) h (by omega) (by omega) dX5_idleMinutes_12 (by decide) (fun c12 => ?_) (fun c12 => ?_)
      · refine z_iload_n (pc := 52) h dX5_idleMinutes_52 rfl ?_
        refine z_iret (pc := 53) h rfl dX5_idleMinutes_53 ?_
        refine ⟨congrArg (fun z => some (zI z)) ?_, rfl⟩
        rw [ha, show i = m.2 1 1 by omega]
      · have q4 := (hR1 i h1 (by omega)).2.2
        have qk := (hE.2.2.2.2.2.1 i h1 (by omega)).1
        have hb := q_mn_b hD h200 h1 (show i < m.2 1 1 by omega)
        have hb2 := (hD.2.2.2.2.2.1 i h1 (by omega)).1
        have hcap : a_cap (m.2 1) i ≤ 60 := by
          have hk := hS.1.2.2.2.2.2.2.1 i h1 (by omega)
          unfold a_cap
          split
          · rename_i y; have := (hk.2.2.1 y).2.2.1; omega
          · rename_i y; exact (a_load_b hS.1 h1 (by omega) (by omega)).2
        refine z_iload_n (pc := 15) h dX5_idleMinutes_15 rfl ?_
        refine z_aloadR_n (pc := 16) h dX5_idleMinutes_16 rfl ?_
        refine z_getR (pc := 17) (c := 5) (j := 0) h (by first | assumption | rfl) (by first | assumption | rfl) rfl rfl fl_X5_51 dX5_idleMinutes_17 ?_
        refine z_getA4 (pc := 20) (c := 1) (j := 7) h (by first | assumption | rfl) rfl rfl fl_X5_198 dX5_idleMinutes_20 ?_
        refine z_iload_n (pc := 23) h dX5_idleMinutes_23 rfl ?_
        refine z_ialdq (pc := 24) (c := 1) (j := 7) (L := 8) h (zo_n h4) (by first | assumption | rfl) (by decide) rfl (by decide) (by omega) (by omega) dX5_idleMinutes_24 (fun g24 => ?_)
        refine z_if_ne (pc := 25) (tgt := 43) h (by omega) dX5_idleMinutes_25 (by decide) (fun c25 => ?_) (fun c25 => ?_)
        · refine z_iconst (pc := 43) h dX5_idleMinutes_43 ?_
          refine z_iadd (pc := 44) h dX5_idleMinutes_44 ?_
          refine z_ist_1 (pc := 45) h dX5_idleMinutes_45 (by decide) rfl ?_
          refine z_inc_2 (pc := 46) h dX5_idleMinutes_46 (by decide) rfl ?_
          refine z_goto (pc := 49) (tgt := 4) h dX5_idleMinutes_49 (by decide) ?_
          first
          | (rw [if_pos (by omega)] at hS1; exact ih (i + 1) _ (by omega) (by omega) (by omega) (by omega) (by omega) (by rw [hS1, q4]))
          | (rw [if_neg (by omega)] at hS1; exact ih (i + 1) _ (by omega) (by omega) (by omega) (by omega) (by omega) hS1.symm)
        · refine z_aloadR_n (pc := 28) h dX5_idleMinutes_28 rfl ?_
          refine z_iload_n (pc := 29) h dX5_idleMinutes_29 rfl ?_
          refine z_pV (pc := 30) (c := 5) h (hmn i h1 (by omega)) (by decide) (by first | assumption | rfl) rfl mv_X5_minutesOf ml_X5_217 rfl dX5_idleMinutes_30 rfl (Nat.le_of_ble_eq_true rfl) ?_
          refine z_aloadR_n (pc := 33) h dX5_idleMinutes_33 rfl ?_
          refine z_getA4 (pc := 34) (c := 5) (j := 4) h (by first | assumption | rfl) rfl rfl fl_X5_18 dX5_idleMinutes_34 ?_
          refine z_iload_n (pc := 37) h dX5_idleMinutes_37 rfl ?_
          refine z_ialdq (pc := 38) (c := 5) (j := 4) (L := 8) h (zo_s _ _ _) (by first | assumption | rfl) (by decide) rfl (by decide) (by omega) (by omega) dX5_idleMinutes_38 (fun g38 => ?_)
          refine z_isub (pc := 39) h dX5_idleMinutes_39 ?_
          refine z_goto (pc := 40) (tgt := 44) h dX5_idleMinutes_40 (by decide) ?_
          refine z_iadd (pc := 44) h dX5_idleMinutes_44 ?_
          refine z_ist_1 (pc := 45) h dX5_idleMinutes_45 (by decide) rfl ?_
          refine z_inc_2 (pc := 46) h dX5_idleMinutes_46 (by decide) rfl ?_
          refine z_goto (pc := 49) (tgt := 4) h dX5_idleMinutes_49 (by decide) ?_
          first
          | (rw [if_pos (by omega)] at hS1; exact ih (i + 1) _ (by omega) (by omega) (by omega) (by omega) (by omega) (by rw [hS1, q4]))
          | (rw [if_neg (by omega)] at hS1; exact ih (i + 1) _ (by omega) (by omega) (by omega) (by omega) (by omega) hS1.symm)
  refine z_iconst (pc := 0) h dX5_idleMinutes_0 ?_
  refine z_ist_1 (pc := 1) h dX5_idleMinutes_1 (by decide) rfl ?_
  refine z_iconst (pc := 2) h dX5_idleMinutes_2 ?_
  refine z_ist_2 (pc := 3) h dX5_idleMinutes_3 (by decide) rfl ?_
  exact L (m.2 1 1 + 1).toNat 0 0 (by omega) (by omega) (by omega) (by omega) (by omega) rfl
def q_st (P0 : Int → Int) (m : zOb) (d mu : Int) : Int := zfst (fun t => decide (P0 t = d ∧ m.2 27 t ≠ -1 ∧ m.2 27 t ≤ mu ∧ mu ≤ q_lm m t)) (m.2 1 1)
theorem c_standingAt {σ : zS} {r p : Nat} {Y m : zOb} {d mu : Int} (hu : RUNH r p) (hF : FIN (σ 4) Y m) (hd : zin d) (hmu : zin mu) : zCp M_X5_standingAt 2 [zR r, zI d, zI mu] (zo σ r Y) (zI (q_st ((σ p).2 0) m d mu)) := by
  have hlm := fun t t0 t1 => c_lastMinuteOf (σ := σ) (t := t) hu hF t0 t1
  obtain ⟨hr, hr0, hr1, hp, h4, hpr⟩ := hu
  obtain ⟨hS, hD, hE, hR1, hR2, h200⟩ := hF
  have h8 := hS.1.2.1
  have htn := hE.2.1
  refine zC_of (M := M_X5_standingAt) (ls := [some (zR r), some (zI d), some (zI mu), none, none]) (n := 2) (by decide) (fun ad => Nat.le_of_ble_eq_true rfl) rfl (fun x h => ?_)
  have L : ∀ (n : Nat) (i : Int) (l4 : Option Value), 0 ≤ i → i ≤ m.2 1 1 → m.2 1 1 - i < n → (∀ t, 0 ≤ t → t < i → decide ((σ p).2 0 t = d ∧ m.2 27 t ≠ -1 ∧ m.2 27 t ≤ mu ∧ mu ≤ q_lm m t) = false) → zW x (fun rr τ' => rr = some (zI (q_st ((σ p).2 0) m d mu)) ∧ τ' = zo σ r Y) 2 [some (zR r), some (zI d), some (zI mu), some (zI i), l4] [] (zo σ r Y) := by
    intro n
    induction n with
    | zero => intro i l4 h1 h2 h3; omega
    | succ n ih =>
      intro i l4 h1 h2 h3 ha
      have hnx : ¬ ((σ p).2 0 i = d ∧ m.2 27 i ≠ -1 ∧ m.2 27 i ≤ mu ∧ mu ≤ q_lm m i) → ∀ t, 0 ≤ t → t < i + 1 → decide ((σ p).2 0 t = d ∧ m.2 27 t ≠ -1 ∧ m.2 27 t ≤ mu ∧ mu ≤ q_lm m t) = false := by
        intro hh t t0 t1
        by_cases e : t = i
        · rw [e]; exact decide_eq_false hh
        · exact ha t t0 (by omega)
      refine z_iload_n (pc := 2) h dX5_standingAt_2 rfl ?_
      refine z_aloadR_n (pc := 3) h dX5_standingAt_3 rfl ?_
      refine z_getR (pc := 4) (c := 5) (j := 0) h (by first | assumption | rfl) (by first | assumption | rfl) rfl rfl fl_X5_51 dX5_standingAt_4 ?_
      refine z_getIq (pc := 7) (c := 1) (j := 1) h (zo_n h4) (by first | assumption | rfl) rfl rfl fl_X5_124 dX5_standingAt_7 (fun g7 => ?_)
      refine z_icmp_ge (pc := 10) (tgt := 75) h (by omega) (by omega) dX5_standingAt_10 (by decide) (fun c10 => ?_) (fun c10 => ?_)
      · refine z_iconst (pc := 75) h dX5_standingAt_75 ?_
        refine z_iret (pc := 76) h rfl dX5_standingAt_76 ?_
        refine ⟨congrArg (fun z => some (zI z)) (zfst_none (fun t t0 t1 => ha t t0 (by omega))).symm, rfl⟩
      · have q4 := (hR1 i h1 (by omega)).1
        have hqb : -1 ≤ q_lm m i ∧ q_lm m i ≤ 200 := by have hlb := (hD.2.2.2.2.2.1 i h1 (by omega)).2.2.1; unfold q_lm; split <;> omega
        refine z_aloadR_n (pc := 13) h dX5_standingAt_13 rfl ?_
        refine z_getA4 (pc := 14) (c := 5) (j := 2) h (by first | assumption | rfl) rfl rfl fl_X5_9 dX5_standingAt_14 ?_
        refine z_iload_n (pc := 17) h dX5_standingAt_17 rfl ?_
        refine z_ialdq (pc := 18) (c := 5) (j := 2) (L := 8) h (zo_s _ _ _) (by first | assumption | rfl) (by decide) rfl (by decide) (by omega) (by omega) dX5_standingAt_18 (fun g18 => ?_)
        refine z_iconst (pc := 19) h dX5_standingAt_19 ?_
        refine z_icmp_eq (pc := 20) (tgt := 37) h (by omega) (by omega) dX5_standingAt_20 (by decide) (fun c20 => ?_) (fun c20 => ?_)
        · refine z_iconst (pc := 37) h dX5_standingAt_37 ?_
          refine z_ist_4 (pc := 38) h dX5_standingAt_38 (by decide) rfl ?_
          refine z_aloadR_n (pc := 40) h dX5_standingAt_40 rfl ?_
          refine z_getR (pc := 41) (c := 5) (j := 1) h (by first | assumption | rfl) (by first | assumption | rfl) rfl rfl fl_X5_55 dX5_standingAt_41 ?_
          refine z_getA4 (pc := 44) (c := 3) (j := 0) h (by first | assumption | rfl) rfl rfl fl_X5_220 dX5_standingAt_44 ?_
          refine z_iload_n (pc := 47) h dX5_standingAt_47 rfl ?_
          refine z_ialdq (pc := 48) (c := 3) (j := 0) (L := 8) h (zo_n hpr) (by first | assumption | rfl) (by decide) rfl (by decide) (by omega) (by omega) dX5_standingAt_48 (fun g48 => ?_)
          refine z_iload_n (pc := 49) h dX5_standingAt_49 rfl ?_
          refine z_icmp_ne (pc := 50) (tgt := 69) h (by omega) (by omega) dX5_standingAt_50 (by decide) (fun c50 => ?_) (fun c50 => ?_)
          · refine z_inc_3 (pc := 69) h dX5_standingAt_69 (by decide) rfl ?_
            refine z_goto (pc := 72) (tgt := 2) h dX5_standingAt_72 (by decide) ?_
            exact ih (i + 1) _ (by omega) (by omega) (by omega) (hnx (by omega))
          · refine z_iload (pc := 53) h dX5_standingAt_53 rfl ?_
            refine z_if_eq (pc := 55) (tgt := 69) h (by omega) dX5_standingAt_55 (by decide) (fun c55 => ?_) (fun c55 => ?_)
            · refine z_inc_3 (pc := 69) h dX5_standingAt_69 (by decide) rfl ?_
              refine z_goto (pc := 72) (tgt := 2) h dX5_standingAt_72 (by decide) ?_
              exact ih (i + 1) _ (by omega) (by omega) (by omega) (hnx (by omega))
            · exact absurd c55 (by decide)
        · refine z_aloadR_n (pc := 23) h dX5_standingAt_23 rfl ?_
          refine z_getA4 (pc := 24) (c := 5) (j := 2) h (by first | assumption | rfl) rfl rfl fl_X5_9 dX5_standingAt_24 ?_
          refine z_iload_n (pc := 27) h dX5_standingAt_27 rfl ?_
          refine z_ialdq (pc := 28) (c := 5) (j := 2) (L := 8) h (zo_s _ _ _) (by first | assumption | rfl) (by decide) rfl (by decide) (by omega) (by omega) dX5_standingAt_28 (fun g28 => ?_)
          refine z_iload_n (pc := 29) h dX5_standingAt_29 rfl ?_
          refine z_icmp_gt (pc := 30) (tgt := 37) h (by omega) (by omega) dX5_standingAt_30 (by decide) (fun c30 => ?_) (fun c30 => ?_)
          · refine z_iconst (pc := 37) h dX5_standingAt_37 ?_
            refine z_ist_4 (pc := 38) h dX5_standingAt_38 (by decide) rfl ?_
            refine z_aloadR_n (pc := 40) h dX5_standingAt_40 rfl ?_
            refine z_getR (pc := 41) (c := 5) (j := 1) h (by first | assumption | rfl) (by first | assumption | rfl) rfl rfl fl_X5_55 dX5_standingAt_41 ?_
            refine z_getA4 (pc := 44) (c := 3) (j := 0) h (by first | assumption | rfl) rfl rfl fl_X5_220 dX5_standingAt_44 ?_
            refine z_iload_n (pc := 47) h dX5_standingAt_47 rfl ?_
            refine z_ialdq (pc := 48) (c := 3) (j := 0) (L := 8) h (zo_n hpr) (by first | assumption | rfl) (by decide) rfl (by decide) (by omega) (by omega) dX5_standingAt_48 (fun g48 => ?_)
            refine z_iload_n (pc := 49) h dX5_standingAt_49 rfl ?_
            refine z_icmp_ne (pc := 50) (tgt := 69) h (by omega) (by omega) dX5_standingAt_50 (by decide) (fun c50 => ?_) (fun c50 => ?_)
            · refine z_inc_3 (pc := 69) h dX5_standingAt_69 (by decide) rfl ?_
              refine z_goto (pc := 72) (tgt := 2) h dX5_standingAt_72 (by decide) ?_
              exact ih (i + 1) _ (by omega) (by omega) (by omega) (hnx (by omega))
            · refine z_iload (pc := 53) h dX5_standingAt_53 rfl ?_
              refine z_if_eq (pc := 55) (tgt := 69) h (by omega) dX5_standingAt_55 (by decide) (fun c55 => ?_) (fun c55 => ?_)
              · refine z_inc_3 (pc := 69) h dX5_standingAt_69 (by decide) rfl ?_
                refine z_goto (pc := 72) (tgt := 2) h dX5_standingAt_72 (by decide) ?_
                exact ih (i + 1) _ (by omega) (by omega) (by omega) (hnx (by omega))
              · exact absurd c55 (by decide)
          · refine z_iconst (pc := 33) h dX5_standingAt_33 ?_
            refine z_goto (pc := 34) (tgt := 38) h dX5_standingAt_34 (by decide) ?_
            refine z_ist_4 (pc := 38) h dX5_standingAt_38 (by decide) rfl ?_
            refine z_aloadR_n (pc := 40) h dX5_standingAt_40 rfl ?_
            refine z_getR (pc := 41) (c := 5) (j := 1) h (by first | assumption | rfl) (by first | assumption | rfl) rfl rfl fl_X5_55 dX5_standingAt_41 ?_
            refine z_getA4 (pc := 44) (c := 3) (j := 0) h (by first | assumption | rfl) rfl rfl fl_X5_220 dX5_standingAt_44 ?_
            refine z_iload_n (pc := 47) h dX5_standingAt_47 rfl ?_
            refine z_ialdq (pc := 48) (c := 3) (j := 0) (L := 8) h (zo_n hpr) (by first | assumption | rfl) (by decide) rfl (by decide) (by omega) (by omega) dX5_standingAt_48 (fun g48 => ?_)
            refine z_iload_n (pc := 49) h dX5_standingAt_49 rfl ?_
            refine z_icmp_ne (pc := 50) (tgt := 69) h (by omega) (by omega) dX5_standingAt_50 (by decide) (fun c50 => ?_) (fun c50 => ?_)
            · refine z_inc_3 (pc := 69) h dX5_standingAt_69 (by decide) rfl ?_
              refine z_goto (pc := 72) (tgt := 2) h dX5_standingAt_72 (by decide) ?_
              exact ih (i + 1) _ (by omega) (by omega) (by omega) (hnx (by omega))
            · refine z_iload (pc := 53) h dX5_standingAt_53 rfl ?_
              refine z_if_eq (pc := 55) (tgt := 69) h (by omega) dX5_standingAt_55 (by decide) (fun c55 => ?_) (fun c55 => ?_)
              · exact absurd c55 (by decide)
              · refine z_iload_n (pc := 58) h dX5_standingAt_58 rfl ?_
                refine z_aloadR_n (pc := 59) h dX5_standingAt_59 rfl ?_
                refine z_iload_n (pc := 60) h dX5_standingAt_60 rfl ?_
                refine z_pV (pc := 61) (c := 5) h (hlm i h1 (by omega)) (by decide) (by first | assumption | rfl) rfl mv_X5_lastMinuteOf ml_X5_214 rfl dX5_standingAt_61 rfl (Nat.le_of_ble_eq_true rfl) ?_
                refine z_icmp_gt (pc := 64) (tgt := 69) h (by omega) (by omega) dX5_standingAt_64 (by decide) (fun c64 => ?_) (fun c64 => ?_)
                · refine z_inc_3 (pc := 69) h dX5_standingAt_69 (by decide) rfl ?_
                  refine z_goto (pc := 72) (tgt := 2) h dX5_standingAt_72 (by decide) ?_
                  exact ih (i + 1) _ (by omega) (by omega) (by omega) (hnx (by omega))
                · refine z_iload_n (pc := 67) h dX5_standingAt_67 rfl ?_
                  refine z_iret (pc := 68) h rfl dX5_standingAt_68 ?_
                  first
                  | omega
                  | exact ⟨congrArg (fun z => some (zI z)) (zfst_some h1 (by omega) (decide_eq_true (by omega)) ha).symm, rfl⟩
  refine z_iconst (pc := 0) h dX5_standingAt_0 ?_
  refine z_ist_3 (pc := 1) h dX5_standingAt_1 (by decide) rfl ?_
  exact L (m.2 1 1 + 1).toNat 0 _ (by omega) (by omega) (by omega) (fun t t0 t1 => by omega)
