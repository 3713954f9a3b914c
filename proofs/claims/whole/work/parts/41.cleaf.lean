/-! The class: small methods of Plan and Run. -/
def p_len (pl : zOb) (d : Int) : Int := zcnt (fun t => decide (pl.2 0 t = d)) 8
theorem m_X3_truckAt {σ : zS} {o : Nat} {d k : Int} (ho : zoc o = 3) (hd : zin d) (hk : zin k) : zCp M_X3_truckAt 2 [zR o, zI d, zI k] σ (zI (p_at (σ o) d k)) := by
  refine zC_of (M := M_X3_truckAt) (ls := [some (zR o), some (zI d), some (zI k), none]) (n := 1) (by decide) (fun ad => Nat.le_of_ble_eq_true rfl) rfl (fun x h => ?_)
  have L : ∀ (n : Nat) (i : Int), 0 ≤ i → i ≤ 8 → 8 - i < n → (∀ j, 0 ≤ j → j < i → ¬ ((σ o).2 0 j = d ∧ (σ o).2 1 j = k)) → zW x (fun r τ' => r = some (zI (p_at (σ o) d k)) ∧ τ' = σ) 2 [some (zR o), some (zI d), some (zI k), some (zI i)] [] σ := by
    intro n
    induction n with
    | zero => intro i h1 h2 h3; omega
    | succ n ih =>
      intro i h1 h2 h3 h4
      refine z_iload_n (pc := 2) h dX3_truckAt_2 rfl ?_
      refine z_bipush (pc := 3) h dX3_truckAt_3 (by decide) ?_
      refine z_icmp_ge (pc := 5) (tgt := 26) h (by omega) (by omega) dX3_truckAt_5 (by decide) (fun c5 => ?_) (fun c5 => ?_)
      · refine z_iconst (pc := 26) h dX3_truckAt_26 ?_
        refine z_iret (pc := 27) h rfl dX3_truckAt_27 ?_
        refine ⟨congrArg (fun z => some (zI z)) (zfst_none (fun j q1 q2 => decide_eq_false (h4 j q1 (by omega)))).symm, rfl⟩
      · refine z_aloadR_n (pc := 8) h dX3_truckAt_8 rfl ?_
        refine z_iload_n (pc := 9) h dX3_truckAt_9 rfl ?_
        refine z_iload_n (pc := 10) h dX3_truckAt_10 rfl ?_
        refine z_iload_n (pc := 11) h dX3_truckAt_11 rfl ?_
        refine z_pV (pc := 12) (c := 3) h (m_X3_isAt ho (by omega) hd hk) (by decide) (by first | assumption | rfl) rfl mv_X3_isAt ml_X3_64 rfl dX3_truckAt_12 rfl (Nat.le_of_ble_eq_true rfl) ?_
        refine z_ifeqB (pc := 15) (tgt := 20) h dX3_truckAt_15 (by decide) (fun c15 => ?_) (fun c15 => ?_)
        · refine z_inc_3 (pc := 20) h dX3_truckAt_20 (by decide) rfl ?_
          refine z_goto (pc := 23) (tgt := 2) h dX3_truckAt_23 (by decide) ?_
          refine ih (i + 1) (by omega) (by omega) (by omega) (fun j q1 q2 => ?_)
          by_cases hj : j = i
          · subst hj; exact of_decide_eq_false c15
          · exact h4 j q1 (by omega)
        · refine z_iload_n (pc := 18) h dX3_truckAt_18 rfl ?_
          refine z_iret (pc := 19) h rfl dX3_truckAt_19 ?_
          refine ⟨congrArg (fun z => some (zI z)) (zfst_some h1 (by omega) c15 (fun j q1 q2 => decide_eq_false (h4 j q1 q2))).symm, rfl⟩
  refine z_iconst (pc := 0) h dX3_truckAt_0 ?_
  refine z_ist_3 (pc := 1) h dX3_truckAt_1 (by decide) rfl ?_
  exact L 9 0 (by omega) (by omega) (by omega) (fun j q1 q2 => by omega)
theorem m_X3_rowLength {σ : zS} {o : Nat} {d : Int} (ho : zoc o = 3) (hd : zin d) : zCp M_X3_rowLength 1 [zR o, zI d] σ (zI (p_len (σ o) d)) := by
  refine zC_of (M := M_X3_rowLength) (ls := [some (zR o), some (zI d), none, none]) (n := 2) (by decide) (fun ad => Nat.le_of_ble_eq_true rfl) rfl (fun x h => ?_)
  have L : ∀ (n : Nat) (i : Int), 0 ≤ i → i ≤ 8 → 8 - i < n → zW x (fun r τ' => r = some (zI (p_len (σ o) d)) ∧ τ' = σ) 4 [some (zR o), some (zI d), some (zI (zcnt (fun t => decide ((σ o).2 0 t = d)) i)), some (zI i)] [] σ := by
    intro n
    induction n with
    | zero => intro i h1 h2 h3; omega
    | succ n ih =>
      intro i h1 h2 h3
      have hih := ih (i + 1) (by omega)
      rw [zcnt_S _ h1] at hih
      refine z_iload_n (pc := 4) h dX3_rowLength_4 rfl ?_
      refine z_bipush (pc := 5) h dX3_rowLength_5 (by decide) ?_
      refine z_icmp_ge (pc := 7) (tgt := 29) h (by omega) (by omega) dX3_rowLength_7 (by decide) (fun c7 => ?_) (fun c7 => ?_)
      · refine z_iload_n (pc := 29) h dX3_rowLength_29 rfl ?_
        refine z_iret (pc := 30) h rfl dX3_rowLength_30 ?_
        have e : i = 8 := by omega
        subst e
        exact ⟨rfl, rfl⟩
      · refine z_aloadR_n (pc := 10) h dX3_rowLength_10 rfl ?_
        refine z_getA4 (pc := 11) (c := 3) (j := 0) h (by first | assumption | rfl) rfl rfl fl_X3_9 dX3_rowLength_11 ?_
        refine z_iload_n (pc := 14) h dX3_rowLength_14 rfl ?_
        refine z_ialdq (pc := 15) (c := 3) (j := 0) (L := 8) h rfl (by first | assumption | rfl) (by decide) rfl (by decide) (by omega) (by omega) dX3_rowLength_15 (fun g15 => ?_)
        refine z_iload_n (pc := 16) h dX3_rowLength_16 rfl ?_
        refine z_icmp_ne (pc := 17) (tgt := 23) h (by omega) (by omega) dX3_rowLength_17 (by decide) (fun c17 => ?_) (fun c17 => ?_)
        · refine z_inc_3 (pc := 23) h dX3_rowLength_23 (by decide) rfl ?_
          refine z_goto (pc := 26) (tgt := 4) h dX3_rowLength_26 (by decide) ?_
          first
          | (rw [if_pos (decide_eq_true c17)] at hih; exact hih (by omega) (by omega))
          | (rw [if_neg (by rw [decide_eq_false c17]; simp)] at hih; exact hih (by omega) (by omega))
        · refine z_inc_2 (pc := 20) h dX3_rowLength_20 (by decide) rfl ?_
          refine z_inc_3 (pc := 23) h dX3_rowLength_23 (by decide) rfl ?_
          refine z_goto (pc := 26) (tgt := 4) h dX3_rowLength_26 (by decide) ?_
          first
          | (rw [if_pos (decide_eq_true c17)] at hih; exact hih (by omega) (by omega))
          | (rw [if_neg (by rw [decide_eq_false c17]; simp)] at hih; exact hih (by omega) (by omega))
  refine z_iconst (pc := 0) h dX3_rowLength_0 ?_
  refine z_ist_2 (pc := 1) h dX3_rowLength_1 (by decide) rfl ?_
  refine z_iconst (pc := 2) h dX3_rowLength_2 ?_
  refine z_ist_3 (pc := 3) h dX3_rowLength_3 (by decide) rfl ?_
  exact L 9 0 (by omega) (by omega) (by omega)
/-! over a state in which a run stands apart -/
theorem c_hasTruck {σ : zS} {r : Nat} {Y : zOb} {v : Int} (h4 : 4 ≠ r) (hv : zin v) : zCp M_X1_hasTruck 1 [zR 4, zI v] (zo σ r Y) (zB (decide (0 ≤ v ∧ v < (σ 4).1 1))) := by
  have h := m_X1_hasTruck (σ := zo σ r Y) (o := 4) (v := v) rfl hv
  unfold zsc at h
  rwa [zo_n h4] at h
theorem c_hasCarton {σ : zS} {r : Nat} {Y : zOb} {v : Int} (h4 : 4 ≠ r) (hv : zin v) : zCp M_X1_hasCarton 1 [zR 4, zI v] (zo σ r Y) (zB (decide (0 ≤ v ∧ v < (σ 4).1 2))) := by
  have h := m_X1_hasCarton (σ := zo σ r Y) (o := 4) (v := v) rfl hv
  unfold zsc at h
  rwa [zo_n h4] at h
theorem c_truckAt {σ : zS} {r p : Nat} {Y : zOb} {d k : Int} (hpr : p ≠ r) (hp : zoc p = 3) (hd : zin d) (hk : zin k) : zCp M_X3_truckAt 2 [zR p, zI d, zI k] (zo σ r Y) (zI (p_at (σ p) d k)) := by
  have h := m_X3_truckAt (σ := zo σ r Y) (o := p) hp hd hk
  rwa [zo_n hpr] at h
theorem c_isInRow {σ : zS} {r p : Nat} {Y : zOb} {v : Int} (hpr : p ≠ r) (hp : zoc p = 3) (hv : zin v) : zCp M_X3_isInRow 1 [zR p, zI v] (zo σ r Y) (zB (decide (0 ≤ v ∧ v < 8 ∧ (σ p).2 0 v ≠ -1))) := by
  have h := m_X3_isInRow (σ := zo σ r Y) (o := p) hp hv
  unfold zar at h
  rwa [zo_n hpr] at h
theorem c_add {σ : zS} {r j : Nat} {Y : zOb} {z v : Int} (hr : zoc r = 5) (hj : j = 13 ∨ j = 14) (hz : 0 ≤ z ∧ z ≤ 3) (hv : -2147483648 ≤ Y.2 j z + v ∧ Y.2 j z + v ≤ 2147483647) : zCv M_X5_add 1 [zA r j, zI z, zI v] (zo σ r Y) (zo σ r (osa Y j z (Y.2 j z + v))) := by
  rcases hj with rfl | rfl
  · refine zC_of (M := M_X5_add) (ls := [some (zA r 13), some (zI z), some (zI v)]) (n := 0) (by decide) (fun ad => Nat.le_of_ble_eq_true rfl) rfl (fun x h => ?_)
    refine z_iload_n (pc := 0) h dX5_add_0 rfl ?_
    refine z_if_lt (pc := 1) (tgt := 17) h (by omega) dX5_add_1 (by decide) (fun c1 => ?_) (fun c1 => ?_)
    · omega
    · refine z_iload_n (pc := 4) h dX5_add_4 rfl ?_
      refine z_aloadA_n (pc := 5) h dX5_add_5 rfl ?_
      refine z_alen4 (pc := 6) (c := 5) (j := 13) (L := 4) h (by first | assumption | rfl) (by decide) rfl dX5_add_6 ?_
      refine z_icmp_ge (pc := 7) (tgt := 17) h (by omega) (by omega) dX5_add_7 (by decide) (fun c7 => ?_) (fun c7 => ?_)
      · omega
      · refine z_aloadA_n (pc := 10) h dX5_add_10 rfl ?_
        refine z_iload_n (pc := 11) h dX5_add_11 rfl ?_
        refine z_dup2AI (pc := 12) h dX5_add_12 ?_
        refine z_ialdq (pc := 13) (c := 5) (j := 13) (L := 4) h (zo_s _ _ _) (by first | assumption | rfl) (by decide) rfl (by decide) (by omega) (by omega) dX5_add_13 (fun g13 => ?_)
        refine z_iload_n (pc := 14) h dX5_add_14 rfl ?_
        refine z_iadd (pc := 15) h dX5_add_15 ?_
        refine z_iasto (pc := 16) (c := 5) (j := 13) (L := 4) h (by first | assumption | rfl) (by decide) rfl (by decide) (by omega) (by omega) (by omega) dX5_add_16 ?_
        refine z_ret (pc := 17) h rfl dX5_add_17 ?_
        exact ⟨rfl, rfl⟩
  · refine zC_of (M := M_X5_add) (ls := [some (zA r 14), some (zI z), some (zI v)]) (n := 0) (by decide) (fun ad => Nat.le_of_ble_eq_true rfl) rfl (fun x h => ?_)
    refine z_iload_n (pc := 0) h dX5_add_0 rfl ?_
    refine z_if_lt (pc := 1) (tgt := 17) h (by omega) dX5_add_1 (by decide) (fun c1 => ?_) (fun c1 => ?_)
    · omega
    · refine z_iload_n (pc := 4) h dX5_add_4 rfl ?_
      refine z_aloadA_n (pc := 5) h dX5_add_5 rfl ?_
      refine z_alen4 (pc := 6) (c := 5) (j := 14) (L := 4) h (by first | assumption | rfl) (by decide) rfl dX5_add_6 ?_
      refine z_icmp_ge (pc := 7) (tgt := 17) h (by omega) (by omega) dX5_add_7 (by decide) (fun c7 => ?_) (fun c7 => ?_)
      · omega
      · refine z_aloadA_n (pc := 10) h dX5_add_10 rfl ?_
        refine z_iload_n (pc := 11) h dX5_add_11 rfl ?_
        refine z_dup2AI (pc := 12) h dX5_add_12 ?_
        refine z_ialdq (pc := 13) (c := 5) (j := 14) (L := 4) h (zo_s _ _ _) (by first | assumption | rfl) (by decide) rfl (by decide) (by omega) (by omega) dX5_add_13 (fun g13 => ?_)
        refine z_iload_n (pc := 14) h dX5_add_14 rfl ?_
        refine z_iadd (pc := 15) h dX5_add_15 ?_
        refine z_iasto (pc := 16) (c := 5) (j := 14) (L := 4) h (by first | assumption | rfl) (by decide) rfl (by decide) (by omega) (by omega) (by omega) dX5_add_16 ?_
        refine z_ret (pc := 17) h rfl dX5_add_17 ?_
        exact ⟨rfl, rfl⟩
theorem c_manyOf {σ : zS} {r j : Nat} {Y : zOb} {z : Int} (hr : zoc r = 5) (hj : j = 13 ∨ j = 14) (hz : 0 ≤ z ∧ z ≤ 3) : zCp M_X5_manyOf 1 [zA r j, zI z] (zo σ r Y) (zI (Y.2 j z)) := by
  rcases hj with rfl | rfl
  · refine zC_of (M := M_X5_manyOf) (ls := [some (zA r 13), some (zI z)]) (n := 0) (by decide) (fun ad => Nat.le_of_ble_eq_true rfl) rfl (fun x h => ?_)
    refine z_iload_n (pc := 0) h dX5_manyOf_0 rfl ?_
    refine z_if_lt (pc := 1) (tgt := 16) h (by omega) dX5_manyOf_1 (by decide) (fun c1 => ?_) (fun c1 => ?_)
    · omega
    · refine z_iload_n (pc := 4) h dX5_manyOf_4 rfl ?_
      refine z_aloadA_n (pc := 5) h dX5_manyOf_5 rfl ?_
      refine z_alen4 (pc := 6) (c := 5) (j := 13) (L := 4) h (by first | assumption | rfl) (by decide) rfl dX5_manyOf_6 ?_
      refine z_icmp_ge (pc := 7) (tgt := 16) h (by omega) (by omega) dX5_manyOf_7 (by decide) (fun c7 => ?_) (fun c7 => ?_)
      · omega
      · refine z_aloadA_n (pc := 10) h dX5_manyOf_10 rfl ?_
        refine z_iload_n (pc := 11) h dX5_manyOf_11 rfl ?_
        refine z_ialdq (pc := 12) (c := 5) (j := 13) (L := 4) h (zo_s _ _ _) (by first | assumption | rfl) (by decide) rfl (by decide) (by omega) (by omega) dX5_manyOf_12 (fun g12 => ?_)
        refine z_goto (pc := 13) (tgt := 17) h dX5_manyOf_13 (by decide) ?_
        refine z_iret (pc := 17) h rfl dX5_manyOf_17 ?_
        exact ⟨rfl, rfl⟩
  · refine zC_of (M := M_X5_manyOf) (ls := [some (zA r 14), some (zI z)]) (n := 0) (by decide) (fun ad => Nat.le_of_ble_eq_true rfl) rfl (fun x h => ?_)
    refine z_iload_n (pc := 0) h dX5_manyOf_0 rfl ?_
    refine z_if_lt (pc := 1) (tgt := 16) h (by omega) dX5_manyOf_1 (by decide) (fun c1 => ?_) (fun c1 => ?_)
    · omega
    · refine z_iload_n (pc := 4) h dX5_manyOf_4 rfl ?_
      refine z_aloadA_n (pc := 5) h dX5_manyOf_5 rfl ?_
      refine z_alen4 (pc := 6) (c := 5) (j := 14) (L := 4) h (by first | assumption | rfl) (by decide) rfl dX5_manyOf_6 ?_
      refine z_icmp_ge (pc := 7) (tgt := 16) h (by omega) (by omega) dX5_manyOf_7 (by decide) (fun c7 => ?_) (fun c7 => ?_)
      · omega
      · refine z_aloadA_n (pc := 10) h dX5_manyOf_10 rfl ?_
        refine z_iload_n (pc := 11) h dX5_manyOf_11 rfl ?_
        refine z_ialdq (pc := 12) (c := 5) (j := 14) (L := 4) h (zo_s _ _ _) (by first | assumption | rfl) (by decide) rfl (by decide) (by omega) (by omega) dX5_manyOf_12 (fun g12 => ?_)
        refine z_goto (pc := 13) (tgt := 17) h dX5_manyOf_13 (by decide) ?_
        refine z_iret (pc := 17) h rfl dX5_manyOf_17 ?_
        exact ⟨rfl, rfl⟩
theorem c_leave {σ : zS} {r : Nat} {Y : zOb} {t d mi : Int} (hr : zoc r = 5) (hr0 : zrf r 0 = 4) (h4 : 4 ≠ r) (ht : 0 ≤ t ∧ t ≤ 7) (hd : 0 ≤ d ∧ d ≤ 5) (hm : 0 ≤ mi ∧ mi ≤ 199) (hc : 0 ≤ (σ 4).1 4 ∧ (σ 4).1 4 ≤ 9) (hu : 0 ≤ Y.1 17) : zCv M_X5_leave 1 [zR r, zI t, zI d, zI mi] (zo σ r Y) (zo σ r (r_lv (σ 4) t d mi Y)) := by
  refine zC_of (M := M_X5_leave) (ls := [some (zR r), some (zI t), some (zI d), some (zI mi)]) (n := 0) (by decide) (fun ad => Nat.le_of_ble_eq_true rfl) rfl (fun x h => ?_)
  refine z_aloadR_n (pc := 0) h dX5_leave_0 rfl ?_
  refine z_getA4 (pc := 1) (c := 5) (j := 3) h (by first | assumption | rfl) rfl rfl fl_X5_15 dX5_leave_1 ?_
  refine z_iload_n (pc := 4) h dX5_leave_4 rfl ?_
  refine z_iload_n (pc := 5) h dX5_leave_5 rfl ?_
  refine z_iasto (pc := 6) (c := 5) (j := 3) (L := 8) h (by first | assumption | rfl) (by decide) rfl (by decide) (by omega) (by omega) (by omega) dX5_leave_6 ?_
  refine z_aloadR_n (pc := 7) h dX5_leave_7 rfl ?_
  refine z_getA4 (pc := 8) (c := 5) (j := 10) h (by first | assumption | rfl) rfl rfl fl_X5_36 dX5_leave_8 ?_
  refine z_iload_n (pc := 11) h dX5_leave_11 rfl ?_
  refine z_iconst (pc := 12) h dX5_leave_12 ?_
  refine z_iasto (pc := 13) (c := 5) (j := 10) (L := 6) h (by first | assumption | rfl) (by decide) rfl (by decide) (by omega) (by omega) (by omega) dX5_leave_13 ?_
  refine z_aloadR_n (pc := 14) h dX5_leave_14 rfl ?_
  refine z_getA4 (pc := 15) (c := 5) (j := 12) h (by first | assumption | rfl) rfl rfl fl_X5_42 dX5_leave_15 ?_
  refine z_iload_n (pc := 18) h dX5_leave_18 rfl ?_
  refine z_iload_n (pc := 19) h dX5_leave_19 rfl ?_
  refine z_aloadR_n (pc := 20) h dX5_leave_20 rfl ?_
  refine z_getR (pc := 21) (c := 5) (j := 0) h (by first | assumption | rfl) (by first | assumption | rfl) rfl rfl fl_X5_51 dX5_leave_21 ?_
  refine z_getIq (pc := 24) (c := 1) (j := 4) h (zo_n h4) (by first | assumption | rfl) rfl rfl fl_X5_195 dX5_leave_24 (fun g24 => ?_)
  refine z_iadd (pc := 27) h dX5_leave_27 ?_
  refine z_iconst (pc := 28) h dX5_leave_28 ?_
  refine z_iadd (pc := 29) h dX5_leave_29 ?_
  refine z_iasto (pc := 30) (c := 5) (j := 12) (L := 6) h (by first | assumption | rfl) (by decide) rfl (by decide) (by omega) (by omega) (by omega) dX5_leave_30 ?_
  refine z_aloadR_n (pc := 31) h dX5_leave_31 rfl ?_
  refine z_dupR (pc := 32) h dX5_leave_32 ?_
  refine z_getIq (pc := 33) (c := 5) (j := 17) h (zo_s _ _ _) (by first | assumption | rfl) rfl rfl fl_X5_75 dX5_leave_33 (fun g33 => ?_)
  try simp only [osa_1, osa_2, oss_1, oss_2, osA_1, osA_2, zup_s, reduceIte, Nat.reduceEqDiff] at g33 ⊢
  refine z_iconst (pc := 36) h dX5_leave_36 ?_
  refine z_isub (pc := 37) h dX5_leave_37 ?_
  refine z_putIo (pc := 38) (c := 5) (j := 17) h (by first | assumption | rfl) rfl rfl fl_X5_75 rfl (tyX5_ok 17 (by decide)) dX5_leave_38 (by omega) ?_
  refine z_ret (pc := 41) h rfl dX5_leave_41 ?_
  exact ⟨rfl, rfl⟩
