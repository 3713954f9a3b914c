/-! The class: what is refused. -/
def x_ex (pl : zOb) (t u : Int) : zOb := osA (osA pl 0 (x_sw (pl.2 0) t u)) 1 (x_sw (pl.2 1) t u)
theorem c_exchange {σ : zS} {o : Nat} {pl : zOb} {t u : Int} (ho : zoc o = 3) (ht : 0 ≤ t ∧ t ≤ 7) (hu : 0 ≤ u ∧ u ≤ 7) : zCv M_X3_exchange 1 [zR o, zI t, zI u] (zo σ o pl) (zo σ o (x_ex pl t u)) := by
  refine zC_of (M := M_X3_exchange) (ls := [some (zR o), some (zI t), some (zI u), none, none]) (n := 2) (by decide) (fun ad => Nat.le_of_ble_eq_true rfl) rfl (fun x h => ?_)
  refine z_aloadR_n (pc := 0) h dX3_exchange_0 rfl ?_
  refine z_getA4 (pc := 1) (c := 3) (j := 0) h (by first | assumption | rfl) rfl rfl fl_X3_9 dX3_exchange_1 ?_
  refine z_iload_n (pc := 4) h dX3_exchange_4 rfl ?_
  refine z_ialdq (pc := 5) (c := 3) (j := 0) (L := 8) h (zo_s _ _ _) (by first | assumption | rfl) (by decide) rfl (by decide) (by omega) (by omega) dX3_exchange_5 (fun g5 => ?_)
  refine z_ist_3 (pc := 6) h dX3_exchange_6 (by decide) rfl ?_
  refine z_aloadR_n (pc := 7) h dX3_exchange_7 rfl ?_
  refine z_getA4 (pc := 8) (c := 3) (j := 1) h (by first | assumption | rfl) rfl rfl fl_X3_15 dX3_exchange_8 ?_
  refine z_iload_n (pc := 11) h dX3_exchange_11 rfl ?_
  refine z_ialdq (pc := 12) (c := 3) (j := 1) (L := 8) h (zo_s _ _ _) (by first | assumption | rfl) (by decide) rfl (by decide) (by omega) (by omega) dX3_exchange_12 (fun g12 => ?_)
  refine z_ist_4 (pc := 13) h dX3_exchange_13 (by decide) rfl ?_
  refine z_aloadR_n (pc := 15) h dX3_exchange_15 rfl ?_
  refine z_getA4 (pc := 16) (c := 3) (j := 0) h (by first | assumption | rfl) rfl rfl fl_X3_9 dX3_exchange_16 ?_
  refine z_iload_n (pc := 19) h dX3_exchange_19 rfl ?_
  refine z_aloadR_n (pc := 20) h dX3_exchange_20 rfl ?_
  refine z_getA4 (pc := 21) (c := 3) (j := 0) h (by first | assumption | rfl) rfl rfl fl_X3_9 dX3_exchange_21 ?_
  refine z_iload_n (pc := 24) h dX3_exchange_24 rfl ?_
  refine z_ialdq (pc := 25) (c := 3) (j := 0) (L := 8) h (zo_s _ _ _) (by first | assumption | rfl) (by decide) rfl (by decide) (by omega) (by omega) dX3_exchange_25 (fun g25 => ?_)
  refine z_iasto (pc := 26) (c := 3) (j := 0) (L := 8) h (by first | assumption | rfl) (by decide) rfl (by decide) (by omega) (by omega) (by omega) dX3_exchange_26 ?_
  refine z_aloadR_n (pc := 27) h dX3_exchange_27 rfl ?_
  refine z_getA4 (pc := 28) (c := 3) (j := 1) h (by first | assumption | rfl) rfl rfl fl_X3_15 dX3_exchange_28 ?_
  refine z_iload_n (pc := 31) h dX3_exchange_31 rfl ?_
  refine z_aloadR_n (pc := 32) h dX3_exchange_32 rfl ?_
  refine z_getA4 (pc := 33) (c := 3) (j := 1) h (by first | assumption | rfl) rfl rfl fl_X3_15 dX3_exchange_33 ?_
  refine z_iload_n (pc := 36) h dX3_exchange_36 rfl ?_
  refine z_ialdq (pc := 37) (c := 3) (j := 1) (L := 8) h (zo_s _ _ _) (by first | assumption | rfl) (by decide) rfl (by decide) (by omega) (by omega) dX3_exchange_37 (fun g37 => ?_)
  try simp only [osa_1, osa_2, oss_1, oss_2, osA_1, osA_2, zup_s, reduceIte, Nat.reduceEqDiff] at g37 ⊢
  refine z_iasto (pc := 38) (c := 3) (j := 1) (L := 8) h (by first | assumption | rfl) (by decide) rfl (by decide) (by omega) (by omega) (by omega) dX3_exchange_38 ?_
  refine z_aloadR_n (pc := 39) h dX3_exchange_39 rfl ?_
  refine z_getA4 (pc := 40) (c := 3) (j := 0) h (by first | assumption | rfl) rfl rfl fl_X3_9 dX3_exchange_40 ?_
  refine z_iload_n (pc := 43) h dX3_exchange_43 rfl ?_
  refine z_iload_n (pc := 44) h dX3_exchange_44 rfl ?_
  refine z_iasto (pc := 45) (c := 3) (j := 0) (L := 8) h (by first | assumption | rfl) (by decide) rfl (by decide) (by omega) (by omega) (by omega) dX3_exchange_45 ?_
  refine z_aloadR_n (pc := 46) h dX3_exchange_46 rfl ?_
  refine z_getA4 (pc := 47) (c := 3) (j := 1) h (by first | assumption | rfl) rfl rfl fl_X3_15 dX3_exchange_47 ?_
  refine z_iload_n (pc := 50) h dX3_exchange_50 rfl ?_
  refine z_iload (pc := 51) h dX3_exchange_51 rfl ?_
  refine z_iasto (pc := 53) (c := 3) (j := 1) (L := 8) h (by first | assumption | rfl) (by decide) rfl (by decide) (by omega) (by omega) (by omega) dX3_exchange_53 ?_
  refine z_ret (pc := 54) h rfl dX3_exchange_54 ?_
  refine ⟨rfl, congrArg (zo σ o) ?_⟩
  unfold x_ex x_sw osa
  refine Prod.ext rfl (funext fun j => ?_)
  by_cases j1 : j = 1
  · subst j1; rfl
  · by_cases j0 : j = 0
    · subst j0; rfl
    · simp [osA_2, j0, j1]
/-- the class's plan, told by a table with places -/
def PLX (pl : zOb) (T : T3) : Prop := pl.2 0 = T.1 ∧ pl.2 1 = T.2.1 ∧ (∀ t, 0 ≤ t → t < T.2.2 1 → pl.2 2 t = T.2.2 (17 + 6 * t + 1)) ∧ pl.1 3 = T.2.2 4
theorem PLX.ple {pl : zOb} {T : T3} (h : PLX pl T) (hT : OKT T) : PLE pl T.2.2 := ⟨h.2.2.1, by rw [h.1, h.2.1]; exact hT.2.1.rows⟩
/-- the class's dock, plan and run -/
def CS (T : T3) (σ : zS) : Prop := DKE (σ 4) T.2.2 ∧ (σ 4).1 3 = T.2.2 2 ∧ PLX (σ 5) T ∧ RES (σ 6) (ra T.2.2)
theorem OKT.run {T : T3} (h : OKT T) : SI (ra T.2.2) ∧ DI (-1) (ra T.2.2) ∧ (ra T.2.2).2 1 = T.2.2 ∧ (ra T.2.2).1 35 ≤ 200 := run_ok (m := ob T.2.2) h.1 h.2.1.wfr
theorem c_isFixed {σ : zS} {T : T3} {t : Int} (hT : OKT T) (hC : CS T σ) (t0 : 0 ≤ t) (t1 : t < T.2.2 1) : zCp M_X7_isFixed 1 [zR 0, zI t] σ (zB (fxd ((ra T.2.2).2 27) T.2.2 t)) := by
  obtain ⟨k1, k2, k3, k4⟩ := hT.run
  have h8 := hT.1.2.1
  have e27 := (hC.2.2.2.1 t t0 (by rw [k3]; exact t1)).1
  have e4 := hC.2.2.1.2.2.2
  unfold fxd
  refine zC_of (M := M_X7_isFixed) (ls := [some (zR 0), some (zI t)]) (n := 0) (by decide) (fun ad => Nat.le_of_ble_eq_true rfl) rfl (fun x h => ?_)
  refine z_aloadR_n (pc := 0) h dX7_isFixed_0 rfl ?_
  refine z_getR (pc := 1) (c := 7) (j := 4) (o2 := 6) h rfl (by first | assumption | rfl) rfl rfl fl_X7_44 dX7_isFixed_1 ?_
  refine z_getA4 (pc := 4) (c := 5) (j := 2) h (by first | assumption | rfl) rfl rfl fl_X7_266 dX7_isFixed_4 ?_
  refine z_iload_n (pc := 7) h dX7_isFixed_7 rfl ?_
  refine z_ialdq (pc := 8) (c := 5) (j := 2) (L := 8) h rfl (by first | assumption | rfl) (by decide) rfl (by decide) (by omega) (by omega) dX7_isFixed_8 (fun g8 => ?_)
  refine z_iconst (pc := 9) h dX7_isFixed_9 ?_
  refine z_icmp_eq (pc := 10) (tgt := 36) h (by omega) (by omega) dX7_isFixed_10 (by decide) (fun c10 => ?_) (fun c10 => ?_)
  · refine z_iconst (pc := 36) h dX7_isFixed_36 ?_
    refine z_zret (pc := 37) h rfl (by omega) dX7_isFixed_37 ?_
    rw [e27] at *
    rw [e4] at *
    first | exact ⟨congrArg some (zB_t (decide_eq_true (by omega))), rfl⟩ | exact ⟨congrArg some (zB_f (decide_eq_false (by omega))), rfl⟩
  · refine z_aloadR_n (pc := 13) h dX7_isFixed_13 rfl ?_
    refine z_getR (pc := 14) (c := 7) (j := 4) (o2 := 6) h rfl (by first | assumption | rfl) rfl rfl fl_X7_44 dX7_isFixed_14 ?_
    refine z_getA4 (pc := 17) (c := 5) (j := 2) h (by first | assumption | rfl) rfl rfl fl_X7_266 dX7_isFixed_17 ?_
    refine z_iload_n (pc := 20) h dX7_isFixed_20 rfl ?_
    refine z_ialdq (pc := 21) (c := 5) (j := 2) (L := 8) h rfl (by first | assumption | rfl) (by decide) rfl (by decide) (by omega) (by omega) dX7_isFixed_21 (fun g21 => ?_)
    refine z_aloadR_n (pc := 22) h dX7_isFixed_22 rfl ?_
    refine z_getR (pc := 23) (c := 7) (j := 3) (o2 := 5) h rfl (by first | assumption | rfl) rfl rfl fl_X7_35 dX7_isFixed_23 ?_
    refine z_getIq (pc := 26) (c := 3) (j := 3) h rfl (by first | assumption | rfl) rfl rfl fl_X7_153 dX7_isFixed_26 (fun g26 => ?_)
    refine z_icmp_ge (pc := 29) (tgt := 36) h (by omega) (by omega) dX7_isFixed_29 (by decide) (fun c29 => ?_) (fun c29 => ?_)
    · refine z_iconst (pc := 36) h dX7_isFixed_36 ?_
      refine z_zret (pc := 37) h rfl (by omega) dX7_isFixed_37 ?_
      rw [e27] at *
      rw [e4] at *
      first | exact ⟨congrArg some (zB_t (decide_eq_true (by omega))), rfl⟩ | exact ⟨congrArg some (zB_f (decide_eq_false (by omega))), rfl⟩
    · refine z_iconst (pc := 32) h dX7_isFixed_32 ?_
      refine z_goto (pc := 33) (tgt := 37) h dX7_isFixed_33 (by decide) ?_
      refine z_zret (pc := 37) h rfl (by omega) dX7_isFixed_37 ?_
      rw [e27] at *
      rw [e4] at *
      first | exact ⟨congrArg some (zB_t (decide_eq_true (by omega))), rfl⟩ | exact ⟨congrArg some (zB_f (decide_eq_false (by omega))), rfl⟩
theorem c_fixedInAll {σ : zS} {T : T3} (hT : OKT T) (hC : CS T σ) : zCp M_X7_fixedInAll 2 [zR 0] σ (zI (zcnt (fun t => fxd ((ra T.2.2).2 27) T.2.2 t) (T.2.2 1))) := by
  have h8 := hT.1.2.1
  have e1 := hC.1.2.1
  refine zC_of (M := M_X7_fixedInAll) (ls := [some (zR 0), none, none]) (n := 2) (by decide) (fun ad => Nat.le_of_ble_eq_true rfl) rfl (fun x h => ?_)
  have L : ∀ (n : Nat) (i : Int), 0 ≤ i → i ≤ T.2.2 1 → T.2.2 1 - i < n → zW x (fun r τ' => r = some (zI (zcnt (fun t => fxd ((ra T.2.2).2 27) T.2.2 t) (T.2.2 1))) ∧ τ' = σ) 4 [some (zR 0), some (zI (zcnt (fun t => fxd ((ra T.2.2).2 27) T.2.2 t) i)), some (zI i)] [] σ := by
    intro n
    induction n with
    | zero => intro i h1 h2 h3; omega
    | succ n ih =>
      intro i h1 h2 h3
      have hih := ih (i + 1) (by omega)
      rw [zcnt_S _ h1] at hih
      have hb := zcnt_b (fun t => fxd ((ra T.2.2).2 27) T.2.2 t) h1
      refine z_iload_n (pc := 4) h dX7_fixedInAll_4 rfl ?_
      refine z_aloadR_n (pc := 5) h dX7_fixedInAll_5 rfl ?_
      refine z_getR (pc := 6) (c := 7) (j := 2) (o2 := 4) h rfl (by first | assumption | rfl) rfl rfl fl_X7_28 dX7_fixedInAll_6 ?_
      refine z_getIq (pc := 9) (c := 1) (j := 1) h rfl (by first | assumption | rfl) rfl rfl fl_X7_118 dX7_fixedInAll_9 (fun g9 => ?_)
      refine z_icmp_ge (pc := 12) (tgt := 32) h (by omega) (by omega) dX7_fixedInAll_12 (by decide) (fun c12 => ?_) (fun c12 => ?_)
      · refine z_iload_n (pc := 32) h dX7_fixedInAll_32 rfl ?_
        refine z_iret (pc := 33) h rfl dX7_fixedInAll_33 ?_
        rw [show i = T.2.2 1 by omega]
        exact ⟨rfl, rfl⟩
      · refine z_aloadR_n (pc := 15) h dX7_fixedInAll_15 rfl ?_
        refine z_iload_n (pc := 16) h dX7_fixedInAll_16 rfl ?_
        refine z_pV (pc := 17) (c := 7) h (c_isFixed hT hC h1 (by omega)) (by decide) (by first | assumption | rfl) rfl mv_X7_isFixed ml_X7_145 rfl dX7_fixedInAll_17 rfl (Nat.le_of_ble_eq_true rfl) ?_
        refine z_ifeqB (pc := 20) (tgt := 26) h dX7_fixedInAll_20 (by decide) (fun c20 => ?_) (fun c20 => ?_)
        · refine z_inc_2 (pc := 26) h dX7_fixedInAll_26 (by decide) rfl ?_
          refine z_goto (pc := 29) (tgt := 4) h dX7_fixedInAll_29 (by decide) ?_
          first
          | (rw [if_pos c20] at hih; exact hih (by omega) (by omega))
          | (rw [if_neg (by rw [c20]; simp)] at hih; exact hih (by omega) (by omega))
        · refine z_inc_1 (pc := 23) h dX7_fixedInAll_23 (by decide) rfl ?_
          refine z_inc_2 (pc := 26) h dX7_fixedInAll_26 (by decide) rfl ?_
          refine z_goto (pc := 29) (tgt := 4) h dX7_fixedInAll_29 (by decide) ?_
          first
          | (rw [if_pos c20] at hih; exact hih (by omega) (by omega))
          | (rw [if_neg (by rw [c20]; simp)] at hih; exact hih (by omega) (by omega))
  refine z_iconst (pc := 0) h dX7_fixedInAll_0 ?_
  refine z_ist_1 (pc := 1) h dX7_fixedInAll_1 (by decide) rfl ?_
  refine z_iconst (pc := 2) h dX7_fixedInAll_2 ?_
  refine z_ist_2 (pc := 3) h dX7_fixedInAll_3 (by decide) rfl ?_
  exact L (T.2.2 1 + 1).toNat 0 (by omega) (by omega) (by omega)
theorem c_fixedAt {σ : zS} {T : T3} {d : Int} (hT : OKT T) (hC : CS T σ) (d0 : 0 ≤ d) (d1 : d < T.2.2 0) : zCp M_X7_fixedAt 2 [zR 0, zI d] σ (zI (t_F T d)) := by
  have h8 := hT.1.2.1
  have h6 := hT.1.1
  have e1 := hC.1.2.1
  have eP := hC.2.2.1.1
  have hF : zcnt (fun t => decide (T.1 t = d) && fxd ((ra T.2.2).2 27) T.2.2 t) (T.2.2 1) = t_F T d := by
    have := cnt_row hT.1 hT.2.1 d0 d1 (fun t => fxd ((ra T.2.2).2 27) T.2.2 t)
    unfold t_F a_F
    rw [← this]
    refine (zcnt_ext h8.1 h8.2 (fun t g0 g1 => ?_)).symm
    rcases hT.2.1.2.2 t (by omega) g1 with z | z
    · rw [decide_eq_false (by omega), Bool.false_and]
    · omega
  rw [← hF]
  refine zC_of (M := M_X7_fixedAt) (ls := [some (zR 0), some (zI d), none, none]) (n := 2) (by decide) (fun ad => Nat.le_of_ble_eq_true rfl) rfl (fun x h => ?_)
  have L : ∀ (n : Nat) (i : Int), 0 ≤ i → i ≤ T.2.2 1 → T.2.2 1 - i < n → zW x (fun r τ' => r = some (zI (zcnt (fun t => decide (T.1 t = d) && fxd ((ra T.2.2).2 27) T.2.2 t) (T.2.2 1))) ∧ τ' = σ) 4 [some (zR 0), some (zI d), some (zI (zcnt (fun t => decide (T.1 t = d) && fxd ((ra T.2.2).2 27) T.2.2 t) i)), some (zI i)] [] σ := by
    intro n
    induction n with
    | zero => intro i h1 h2 h3; omega
    | succ n ih =>
      intro i h1 h2 h3
      have hih := ih (i + 1) (by omega)
      rw [zcnt_S _ h1] at hih
      have hb := zcnt_b (fun t => decide (T.1 t = d) && fxd ((ra T.2.2).2 27) T.2.2 t) h1
      have ePi := congrFun eP i
      refine z_iload_n (pc := 4) h dX7_fixedAt_4 rfl ?_
      refine z_aloadR_n (pc := 5) h dX7_fixedAt_5 rfl ?_
      refine z_getR (pc := 6) (c := 7) (j := 2) (o2 := 4) h rfl (by first | assumption | rfl) rfl rfl fl_X7_28 dX7_fixedAt_6 ?_
      refine z_getIq (pc := 9) (c := 1) (j := 1) h rfl (by first | assumption | rfl) rfl rfl fl_X7_118 dX7_fixedAt_9 (fun g9 => ?_)
      refine z_icmp_ge (pc := 12) (tgt := 45) h (by omega) (by omega) dX7_fixedAt_12 (by decide) (fun c12 => ?_) (fun c12 => ?_)
      · refine z_iload_n (pc := 45) h dX7_fixedAt_45 rfl ?_
        refine z_iret (pc := 46) h rfl dX7_fixedAt_46 ?_
        rw [show i = T.2.2 1 by omega]
        exact ⟨rfl, rfl⟩
      · refine z_aloadR_n (pc := 15) h dX7_fixedAt_15 rfl ?_
        refine z_getR (pc := 16) (c := 7) (j := 3) (o2 := 5) h rfl (by first | assumption | rfl) rfl rfl fl_X7_35 dX7_fixedAt_16 ?_
        refine z_getA4 (pc := 19) (c := 3) (j := 0) h (by first | assumption | rfl) rfl rfl fl_X7_260 dX7_fixedAt_19 ?_
        refine z_iload_n (pc := 22) h dX7_fixedAt_22 rfl ?_
        refine z_ialdq (pc := 23) (c := 3) (j := 0) (L := 8) h rfl (by first | assumption | rfl) (by decide) rfl (by decide) (by omega) (by omega) dX7_fixedAt_23 (fun g23 => ?_)
        refine z_iload_n (pc := 24) h dX7_fixedAt_24 rfl ?_
        refine z_icmp_ne (pc := 25) (tgt := 39) h (by omega) (by omega) dX7_fixedAt_25 (by decide) (fun c25 => ?_) (fun c25 => ?_)
        · rw [if_neg (by rw [decide_eq_false (by omega)]; simp)] at hih
          refine z_inc_3 (pc := 39) h dX7_fixedAt_39 (by decide) rfl ?_
          refine z_goto (pc := 42) (tgt := 4) h dX7_fixedAt_42 (by decide) ?_
          exact hih (by omega) (by omega)
        · rw [show decide (T.1 i = d) = true from decide_eq_true (by omega), Bool.true_and] at hih
          refine z_aloadR_n (pc := 28) h dX7_fixedAt_28 rfl ?_
          refine z_iload_n (pc := 29) h dX7_fixedAt_29 rfl ?_
          refine z_pV (pc := 30) (c := 7) h (c_isFixed hT hC h1 (by omega)) (by decide) (by first | assumption | rfl) rfl mv_X7_isFixed ml_X7_145 rfl dX7_fixedAt_30 rfl (Nat.le_of_ble_eq_true rfl) ?_
          refine z_ifeqB (pc := 33) (tgt := 39) h dX7_fixedAt_33 (by decide) (fun c33 => ?_) (fun c33 => ?_)
          · rw [if_neg (by rw [c33]; simp)] at hih
            refine z_inc_3 (pc := 39) h dX7_fixedAt_39 (by decide) rfl ?_
            refine z_goto (pc := 42) (tgt := 4) h dX7_fixedAt_42 (by decide) ?_
            exact hih (by omega) (by omega)
          · rw [if_pos c33] at hih
            refine z_inc_2 (pc := 36) h dX7_fixedAt_36 (by decide) rfl ?_
            refine z_inc_3 (pc := 39) h dX7_fixedAt_39 (by decide) rfl ?_
            refine z_goto (pc := 42) (tgt := 4) h dX7_fixedAt_42 (by decide) ?_
            exact hih (by omega) (by omega)
  refine z_iconst (pc := 0) h dX7_fixedAt_0 ?_
  refine z_ist_2 (pc := 1) h dX7_fixedAt_1 (by decide) rfl ?_
  refine z_iconst (pc := 2) h dX7_fixedAt_2 ?_
  refine z_ist_3 (pc := 3) h dX7_fixedAt_3 (by decide) rfl ?_
  exact L (T.2.2 1 + 1).toNat 0 (by omega) (by omega) (by omega)
theorem t_F_b {T : T3} (hT : OKT T) {d : Int} (d0 : 0 ≤ d) (d1 : d < T.2.2 0) : 0 ≤ t_F T d ∧ t_F T d ≤ 8 := by
  have := hT.2.1.1 d d0 d1
  have h2 := a_F_b (D := (ra T.2.2).2 27) (a := T.2.2) (e := d) this.1
  unfold t_F
  omega
theorem fx_T {T : T3} (hT : OKT T) {t : Int} (t0 : 0 ≤ t) (t1 : t < T.2.2 1) (hp : T.1 t ≠ -1) : fxd ((ra T.2.2).2 27) T.2.2 t = true ↔ T.2.1 t < t_F T (T.1 t) := by
  obtain ⟨k1, k2, k3, k4⟩ := hT.run
  have := fx_at (P0 := T.1) (P1 := T.2.1) k1 k2 (by rw [k3]; exact hT.2.1) t0 (by rw [k3]; exact t1) hp
  rw [k3] at this
  exact this
theorem c_moveRefusal {σ : zS} {T : T3} {t d k : Int} (hT : OKT T) (hC : CS T σ) (ht : zin t) (hd : zin d) (hk : zin k) : zCp M_X7_moveRefusal 3 [zR 0, zI t, zI d, zI k] σ (zI (mvT T t d k)) := by
  have h8 := hT.1.2.1
  have h6 := hT.1.1
  have e0 := hC.1.1
  have e1 := hC.1.2.1
  have eP := hC.2.2.1.1
  have eQ := hC.2.2.1.2.1
  refine zC_of (M := M_X7_moveRefusal) (ls := [some (zR 0), some (zI t), some (zI d), some (zI k)]) (n := 0) (by decide) (fun ad => Nat.le_of_ble_eq_true rfl) rfl (fun x h => ?_)
  have hno : ¬ MC T.1 T.2.2 t d k → mvT T t d k = -1 := fun z => by unfold mvT mvC; rw [if_neg z]
  refine z_aloadR_n (pc := 0) h dX7_moveRefusal_0 rfl ?_
  refine z_getR (pc := 1) (c := 7) (j := 2) (o2 := 4) h rfl (by first | assumption | rfl) rfl rfl fl_X7_28 dX7_moveRefusal_1 ?_
  refine z_iload_n (pc := 4) h dX7_moveRefusal_4 rfl ?_
  refine z_pV (pc := 5) (c := 1) h (m_X1_hasTruck rfl ht) (by decide) (by first | assumption | rfl) rfl mv_X1_hasTruck ml_X7_240 rfl dX7_moveRefusal_5 rfl (Nat.le_of_ble_eq_true rfl) ?_
  refine z_ifeqB (pc := 8) (tgt := 43) h dX7_moveRefusal_8 (by decide) (fun c8 => ?_) (fun c8 => ?_)
  · rw [hno (fun z => of_decide_eq_false c8 (by unfold zsc; rw [e1]; exact z.1))]
    refine z_iconst (pc := 43) h dX7_moveRefusal_43 ?_
    refine z_iret (pc := 44) h rfl dX7_moveRefusal_44 ?_
    exact ⟨rfl, rfl⟩
  · have z5 := of_decide_eq_true c8
    unfold zsc at z5
    rw [e1] at z5
    refine z_aloadR_n (pc := 11) h dX7_moveRefusal_11 rfl ?_
    refine z_getR (pc := 12) (c := 7) (j := 2) (o2 := 4) h rfl (by first | assumption | rfl) rfl rfl fl_X7_28 dX7_moveRefusal_12 ?_
    refine z_iload_n (pc := 15) h dX7_moveRefusal_15 rfl ?_
    refine z_pV (pc := 16) (c := 1) h (m_X1_hasDoor rfl hd) (by decide) (by first | assumption | rfl) rfl mv_X1_hasDoor ml_X7_210 rfl dX7_moveRefusal_16 rfl (Nat.le_of_ble_eq_true rfl) ?_
    refine z_ifeqB (pc := 19) (tgt := 43) h dX7_moveRefusal_19 (by decide) (fun c19 => ?_) (fun c19 => ?_)
    · rw [hno (fun z => of_decide_eq_false c19 (by unfold zsc; rw [e0]; exact z.2.1))]
      refine z_iconst (pc := 43) h dX7_moveRefusal_43 ?_
      refine z_iret (pc := 44) h rfl dX7_moveRefusal_44 ?_
      exact ⟨rfl, rfl⟩
    · have z13 := of_decide_eq_true c19
      unfold zsc at z13
      rw [e0] at z13
      have hr := hT.2.1.1 d z13.1 z13.2
      have hpt := hT.2.1.rng hT.1 z5.1 z5.2
      have ek := (hC.1.2.2.2.2.2.1 t z5.1 z5.2).1
      have ed := (hC.1.2.2.2.2.1 d z13.1 z13.2).1
      have hpl := p_len_eq hT.1 hT.2.1.wfr (hC.2.2.1.ple hT) z13.1 z13.2
      have ePt := congrFun eP t
      have eQt := congrFun eQ t
      have hif : 0 ≤ (if (σ 5).2 0 t = d then (1 : Int) else 0) ∧ (if (σ 5).2 0 t = d then (1 : Int) else 0) ≤ 1 := by split <;> omega
      refine z_aloadR_n (pc := 22) h dX7_moveRefusal_22 rfl ?_
      refine z_getR (pc := 23) (c := 7) (j := 2) (o2 := 4) h rfl (by first | assumption | rfl) rfl rfl fl_X7_28 dX7_moveRefusal_23 ?_
      refine z_getA4 (pc := 26) (c := 1) (j := 7) h (by first | assumption | rfl) rfl rfl fl_X7_245 dX7_moveRefusal_26 ?_
      refine z_iload_n (pc := 29) h dX7_moveRefusal_29 rfl ?_
      refine z_ialdq (pc := 30) (c := 1) (j := 7) (L := 8) h rfl (by first | assumption | rfl) (by decide) rfl (by decide) (by omega) (by omega) dX7_moveRefusal_30 (fun g30 => ?_)
      refine z_aloadR_n (pc := 31) h dX7_moveRefusal_31 rfl ?_
      refine z_getR (pc := 32) (c := 7) (j := 2) (o2 := 4) h rfl (by first | assumption | rfl) rfl rfl fl_X7_28 dX7_moveRefusal_32 ?_
      refine z_getA4 (pc := 35) (c := 1) (j := 5) h (by first | assumption | rfl) rfl rfl fl_X7_220 dX7_moveRefusal_35 ?_
      refine z_iload_n (pc := 38) h dX7_moveRefusal_38 rfl ?_
      refine z_ialdq (pc := 39) (c := 1) (j := 5) (L := 6) h rfl (by first | assumption | rfl) (by decide) rfl (by decide) (by omega) (by omega) dX7_moveRefusal_39 (fun g39 => ?_)
      refine z_icmp_eq (pc := 40) (tgt := 45) h (by omega) (by omega) dX7_moveRefusal_40 (by decide) (fun c40 => ?_) (fun c40 => ?_)
      · have hkk : T.2.2 (17 + 6 * t + 0) = T.2.2 (5 + 2 * d) := by omega
        have hp := hT.2.2 t d z5.1 z5.2 z13.1 z13.2 hkk
        obtain ⟨p1, p2, p3, p4⟩ := hT.2.1.at hT.1 z5.1 z5.2 hp
        refine z_iload_n (pc := 45) h dX7_moveRefusal_45 rfl ?_
        refine z_if_lt (pc := 46) (tgt := 75) h (by omega) dX7_moveRefusal_46 (by decide) (fun c46 => ?_) (fun c46 => ?_)
        · rw [hno (fun z => by have := z.2.2.2.1; omega)]
          refine z_iconst (pc := 75) h dX7_moveRefusal_75 ?_
          refine z_iret (pc := 76) h rfl dX7_moveRefusal_76 ?_
          exact ⟨rfl, rfl⟩
        · refine z_iload_n (pc := 49) h dX7_moveRefusal_49 rfl ?_
          refine z_aloadR_n (pc := 50) h dX7_moveRefusal_50 rfl ?_
          refine z_getR (pc := 51) (c := 7) (j := 3) (o2 := 5) h rfl (by first | assumption | rfl) rfl rfl fl_X7_35 dX7_moveRefusal_51 ?_
          refine z_iload_n (pc := 54) h dX7_moveRefusal_54 rfl ?_
          refine z_iload_n (pc := 55) h dX7_moveRefusal_55 rfl ?_
          refine z_pV (pc := 56) (c := 3) h (m_X3_othersAt (by first | assumption | rfl) (by omega) (by omega)) (by decide) (by first | assumption | rfl) rfl mv_X3_othersAt ml_X7_339 rfl dX7_moveRefusal_56 rfl (Nat.le_of_ble_eq_true rfl) ?_
          refine z_icmp_gt (pc := 59) (tgt := 75) h (by omega) (by omega) dX7_moveRefusal_59 (by decide) (fun c59 => ?_) (fun c59 => ?_)
          · rw [hno (fun z => by have := z.2.2.2.2; rw [← ePt] at this; omega)]
            refine z_iconst (pc := 75) h dX7_moveRefusal_75 ?_
            refine z_iret (pc := 76) h rfl dX7_moveRefusal_76 ?_
            exact ⟨rfl, rfl⟩
          · have hMC : MC T.1 T.2.2 t d k := ⟨z5, z13, hkk, by omega, by rw [← ePt]; omega⟩
            refine z_aloadR_n (pc := 62) h dX7_moveRefusal_62 rfl ?_
            refine z_getR (pc := 63) (c := 7) (j := 3) (o2 := 5) h rfl (by first | assumption | rfl) rfl rfl fl_X7_35 dX7_moveRefusal_63 ?_
            refine z_iload_n (pc := 66) h dX7_moveRefusal_66 rfl ?_
            refine z_iload_n (pc := 67) h dX7_moveRefusal_67 rfl ?_
            refine z_iload_n (pc := 68) h dX7_moveRefusal_68 rfl ?_
            refine z_pV (pc := 69) (c := 3) h (m_X3_isAt rfl (by omega) hd hk) (by decide) (by first | assumption | rfl) rfl mv_X3_isAt ml_X7_342 rfl dX7_moveRefusal_69 rfl (Nat.le_of_ble_eq_true rfl) ?_
            refine z_ifeqB (pc := 72) (tgt := 77) h dX7_moveRefusal_72 (by decide) (fun c72 => ?_) (fun c72 => ?_)
            · have y := of_decide_eq_false c72
              unfold zar at y
              rw [ePt, eQt] at y
              have hfx := fx_T hT z5.1 z5.2 hp
              have hfb := t_F_b hT z13.1 z13.2
              refine z_aloadR_n (pc := 77) h dX7_moveRefusal_77 rfl ?_
              refine z_iload_n (pc := 78) h dX7_moveRefusal_78 rfl ?_
              refine z_pV (pc := 79) (c := 7) h (c_isFixed hT hC z5.1 z5.2) (by decide) (by first | assumption | rfl) rfl mv_X7_isFixed ml_X7_145 rfl dX7_moveRefusal_79 rfl (Nat.le_of_ble_eq_true rfl) ?_
              refine z_ifneB (pc := 82) (tgt := 94) h dX7_moveRefusal_82 (by decide) (fun c82 => ?_) (fun c82 => ?_)
              · rw [show mvT T t d k = -2 by unfold mvT mvC; rw [if_pos hMC, if_neg y, if_neg (fun w => by have := hfx.mp c82; omega)]]
                refine z_bipush (pc := 94) h dX7_moveRefusal_94 (by decide) ?_
                refine z_goto (pc := 96) (tgt := 100) h dX7_moveRefusal_96 (by decide) ?_
                refine z_iret (pc := 100) h rfl dX7_moveRefusal_100 ?_
                exact ⟨rfl, rfl⟩
              · have hnf : ¬ T.2.1 t < t_F T (T.1 t) := fun w => by rw [hfx.mpr w] at c82; cases c82
                refine z_iload_n (pc := 85) h dX7_moveRefusal_85 rfl ?_
                refine z_aloadR_n (pc := 86) h dX7_moveRefusal_86 rfl ?_
                refine z_iload_n (pc := 87) h dX7_moveRefusal_87 rfl ?_
                refine z_pV (pc := 88) (c := 7) h (c_fixedAt hT hC z13.1 z13.2) (by decide) (by first | assumption | rfl) rfl mv_X7_fixedAt ml_X7_346 rfl dX7_moveRefusal_88 rfl (Nat.le_of_ble_eq_true rfl) ?_
                refine z_icmp_ge (pc := 91) (tgt := 99) h (by omega) (by omega) dX7_moveRefusal_91 (by decide) (fun c91 => ?_) (fun c91 => ?_)
                · rw [show mvT T t d k = 0 by unfold mvT mvC; rw [if_pos hMC, if_neg y, if_pos ⟨by omega, by omega⟩]]
                  refine z_iconst (pc := 99) h dX7_moveRefusal_99 ?_
                  refine z_iret (pc := 100) h rfl dX7_moveRefusal_100 ?_
                  exact ⟨rfl, rfl⟩
                · rw [show mvT T t d k = -2 by unfold mvT mvC; rw [if_pos hMC, if_neg y, if_neg (fun w => by omega)]]
                  refine z_bipush (pc := 94) h dX7_moveRefusal_94 (by decide) ?_
                  refine z_goto (pc := 96) (tgt := 100) h dX7_moveRefusal_96 (by decide) ?_
                  refine z_iret (pc := 100) h rfl dX7_moveRefusal_100 ?_
                  exact ⟨rfl, rfl⟩
            · have y := of_decide_eq_true c72
              unfold zar at y
              rw [show mvT T t d k = -1 by unfold mvT mvC; rw [if_pos hMC, if_pos ⟨ePt.symm.trans y.1, eQt.symm.trans y.2⟩]]
              refine z_iconst (pc := 75) h dX7_moveRefusal_75 ?_
              refine z_iret (pc := 76) h rfl dX7_moveRefusal_76 ?_
              exact ⟨rfl, rfl⟩
      · rw [hno (fun z => by have := z.2.2.1; omega)]
        refine z_iconst (pc := 43) h dX7_moveRefusal_43 ?_
        refine z_iret (pc := 44) h rfl dX7_moveRefusal_44 ?_
        exact ⟨rfl, rfl⟩
theorem c_swapRefusal {σ : zS} {T : T3} {t u : Int} (hT : OKT T) (hC : CS T σ) (ht : zin t) (hu : zin u) : zCp M_X7_swapRefusal 2 [zR 0, zI t, zI u] σ (zI (swT T t u)) := by
  have h8 := hT.1.2.1
  have e1 := hC.1.2.1
  have eP := hC.2.2.1.1
  refine zC_of (M := M_X7_swapRefusal) (ls := [some (zR 0), some (zI t), some (zI u)]) (n := 0) (by decide) (fun ad => Nat.le_of_ble_eq_true rfl) rfl (fun x h => ?_)
  have hno : ¬ SWH T.1 T.2.2 t u → swT T t u = -1 := fun z => by unfold swT swC; rw [if_neg z]
  refine z_aloadR_n (pc := 0) h dX7_swapRefusal_0 rfl ?_
  refine z_getR (pc := 1) (c := 7) (j := 2) (o2 := 4) h rfl (by first | assumption | rfl) rfl rfl fl_X7_28 dX7_swapRefusal_1 ?_
  refine z_iload_n (pc := 4) h dX7_swapRefusal_4 rfl ?_
  refine z_pV (pc := 5) (c := 1) h (m_X1_hasTruck rfl ht) (by decide) (by first | assumption | rfl) rfl mv_X1_hasTruck ml_X7_240 rfl dX7_swapRefusal_5 rfl (Nat.le_of_ble_eq_true rfl) ?_
  refine z_ifeqB (pc := 8) (tgt := 27) h dX7_swapRefusal_8 (by decide) (fun c8 => ?_) (fun c8 => ?_)
  · rw [hno (fun z => of_decide_eq_false c8 (by unfold zsc; rw [e1]; exact z.1))]
    refine z_iconst (pc := 27) h dX7_swapRefusal_27 ?_
    refine z_iret (pc := 28) h rfl dX7_swapRefusal_28 ?_
    exact ⟨rfl, rfl⟩
  · have z5 := of_decide_eq_true c8
    unfold zsc at z5
    rw [e1] at z5
    refine z_aloadR_n (pc := 11) h dX7_swapRefusal_11 rfl ?_
    refine z_getR (pc := 12) (c := 7) (j := 2) (o2 := 4) h rfl (by first | assumption | rfl) rfl rfl fl_X7_28 dX7_swapRefusal_12 ?_
    refine z_iload_n (pc := 15) h dX7_swapRefusal_15 rfl ?_
    refine z_pV (pc := 16) (c := 1) h (m_X1_hasTruck rfl hu) (by decide) (by first | assumption | rfl) rfl mv_X1_hasTruck ml_X7_240 rfl dX7_swapRefusal_16 rfl (Nat.le_of_ble_eq_true rfl) ?_
    refine z_ifeqB (pc := 19) (tgt := 27) h dX7_swapRefusal_19 (by decide) (fun c19 => ?_) (fun c19 => ?_)
    · rw [hno (fun z => of_decide_eq_false c19 (by unfold zsc; rw [e1]; exact z.2.1))]
      refine z_iconst (pc := 27) h dX7_swapRefusal_27 ?_
      refine z_iret (pc := 28) h rfl dX7_swapRefusal_28 ?_
      exact ⟨rfl, rfl⟩
    · have z13 := of_decide_eq_true c19
      unfold zsc at z13
      rw [e1] at z13
      have ek := (hC.1.2.2.2.2.2.1 t z5.1 z5.2).1
      have ed := (hC.1.2.2.2.2.2.1 u z13.1 z13.2).1
      have ePt := congrFun eP t
      have ePu := congrFun eP u
      refine z_iload_n (pc := 22) h dX7_swapRefusal_22 rfl ?_
      refine z_iload_n (pc := 23) h dX7_swapRefusal_23 rfl ?_
      refine z_icmp_ne (pc := 24) (tgt := 29) h (by omega) (by omega) dX7_swapRefusal_24 (by decide) (fun c24 => ?_) (fun c24 => ?_)
      · refine z_aloadR_n (pc := 29) h dX7_swapRefusal_29 rfl ?_
        refine z_getR (pc := 30) (c := 7) (j := 2) (o2 := 4) h rfl (by first | assumption | rfl) rfl rfl fl_X7_28 dX7_swapRefusal_30 ?_
        refine z_getA4 (pc := 33) (c := 1) (j := 7) h (by first | assumption | rfl) rfl rfl fl_X7_245 dX7_swapRefusal_33 ?_
        refine z_iload_n (pc := 36) h dX7_swapRefusal_36 rfl ?_
        refine z_ialdq (pc := 37) (c := 1) (j := 7) (L := 8) h rfl (by first | assumption | rfl) (by decide) rfl (by decide) (by omega) (by omega) dX7_swapRefusal_37 (fun g37 => ?_)
        refine z_aloadR_n (pc := 38) h dX7_swapRefusal_38 rfl ?_
        refine z_getR (pc := 39) (c := 7) (j := 2) (o2 := 4) h rfl (by first | assumption | rfl) rfl rfl fl_X7_28 dX7_swapRefusal_39 ?_
        refine z_getA4 (pc := 42) (c := 1) (j := 7) h (by first | assumption | rfl) rfl rfl fl_X7_245 dX7_swapRefusal_42 ?_
        refine z_iload_n (pc := 45) h dX7_swapRefusal_45 rfl ?_
        refine z_ialdq (pc := 46) (c := 1) (j := 7) (L := 8) h rfl (by first | assumption | rfl) (by decide) rfl (by decide) (by omega) (by omega) dX7_swapRefusal_46 (fun g46 => ?_)
        refine z_icmp_ne (pc := 47) (tgt := 72) h (by omega) (by omega) dX7_swapRefusal_47 (by decide) (fun c47 => ?_) (fun c47 => ?_)
        · rw [hno (fun z => by have := z.2.2.2.1; omega)]
          refine z_iconst (pc := 72) h dX7_swapRefusal_72 ?_
          refine z_iret (pc := 73) h rfl dX7_swapRefusal_73 ?_
          exact ⟨rfl, rfl⟩
        · refine z_aloadR_n (pc := 50) h dX7_swapRefusal_50 rfl ?_
          refine z_getR (pc := 51) (c := 7) (j := 3) (o2 := 5) h rfl (by first | assumption | rfl) rfl rfl fl_X7_35 dX7_swapRefusal_51 ?_
          refine z_iload_n (pc := 54) h dX7_swapRefusal_54 rfl ?_
          refine z_pV (pc := 55) (c := 3) h (m_X3_isInRow rfl ht) (by decide) (by first | assumption | rfl) rfl mv_X3_isInRow ml_X7_349 rfl dX7_swapRefusal_55 rfl (Nat.le_of_ble_eq_true rfl) ?_
          refine z_ifeqB (pc := 58) (tgt := 72) h dX7_swapRefusal_58 (by decide) (fun c58 => ?_) (fun c58 => ?_)
          · rw [hno (fun z => of_decide_eq_false c58 (by unfold zar; rw [ePt]; exact ⟨z5.1, by omega, z.2.2.2.2.1⟩))]
            refine z_iconst (pc := 72) h dX7_swapRefusal_72 ?_
            refine z_iret (pc := 73) h rfl dX7_swapRefusal_73 ?_
            exact ⟨rfl, rfl⟩
          · refine z_aloadR_n (pc := 61) h dX7_swapRefusal_61 rfl ?_
            refine z_getR (pc := 62) (c := 7) (j := 3) (o2 := 5) h rfl (by first | assumption | rfl) rfl rfl fl_X7_35 dX7_swapRefusal_62 ?_
            refine z_iload_n (pc := 65) h dX7_swapRefusal_65 rfl ?_
            refine z_pV (pc := 66) (c := 3) h (m_X3_isInRow rfl hu) (by decide) (by first | assumption | rfl) rfl mv_X3_isInRow ml_X7_349 rfl dX7_swapRefusal_66 rfl (Nat.le_of_ble_eq_true rfl) ?_
            refine z_ifneB (pc := 69) (tgt := 74) h dX7_swapRefusal_69 (by decide) (fun c69 => ?_) (fun c69 => ?_)
            · have y1 := of_decide_eq_true c58
              have y2 := of_decide_eq_true c69
              unfold zar at y1 y2
              rw [ePt] at y1
              rw [ePu] at y2
              have hSW : SWH T.1 T.2.2 t u := ⟨z5, z13, by omega, by omega, y1.2.2, y2.2.2⟩
              have hft := fx_T hT z5.1 z5.2 y1.2.2
              have hfu := fx_T hT z13.1 z13.2 y2.2.2
              refine z_aloadR_n (pc := 74) h dX7_swapRefusal_74 rfl ?_
              refine z_iload_n (pc := 75) h dX7_swapRefusal_75 rfl ?_
              refine z_pV (pc := 76) (c := 7) h (c_isFixed hT hC z5.1 z5.2) (by decide) (by first | assumption | rfl) rfl mv_X7_isFixed ml_X7_145 rfl dX7_swapRefusal_76 rfl (Nat.le_of_ble_eq_true rfl) ?_
              refine z_ifneB (pc := 79) (tgt := 90) h dX7_swapRefusal_79 (by decide) (fun c79 => ?_) (fun c79 => ?_)
              · rw [show swT T t u = -2 by unfold swT swC; rw [if_pos hSW, if_neg (fun w => by have := hft.mp c79; omega)]]
                refine z_bipush (pc := 90) h dX7_swapRefusal_90 (by decide) ?_
                refine z_goto (pc := 92) (tgt := 96) h dX7_swapRefusal_92 (by decide) ?_
                refine z_iret (pc := 96) h rfl dX7_swapRefusal_96 ?_
                exact ⟨rfl, rfl⟩
              · refine z_aloadR_n (pc := 82) h dX7_swapRefusal_82 rfl ?_
                refine z_iload_n (pc := 83) h dX7_swapRefusal_83 rfl ?_
                refine z_pV (pc := 84) (c := 7) h (c_isFixed hT hC z13.1 z13.2) (by decide) (by first | assumption | rfl) rfl mv_X7_isFixed ml_X7_145 rfl dX7_swapRefusal_84 rfl (Nat.le_of_ble_eq_true rfl) ?_
                refine z_ifeqB (pc := 87) (tgt := 95) h dX7_swapRefusal_87 (by decide) (fun c87 => ?_) (fun c87 => ?_)
                · have n1 : ¬ T.2.1 t < t_F T (T.1 t) := fun w => by rw [hft.mpr w] at c79; cases c79
                  have n2 : ¬ T.2.1 u < t_F T (T.1 u) := fun w => by rw [hfu.mpr w] at c87; cases c87
                  rw [show swT T t u = 0 by unfold swT swC; rw [if_pos hSW, if_pos ⟨by omega, by omega⟩]]
                  refine z_iconst (pc := 95) h dX7_swapRefusal_95 ?_
                  refine z_iret (pc := 96) h rfl dX7_swapRefusal_96 ?_
                  exact ⟨rfl, rfl⟩
                · rw [show swT T t u = -2 by unfold swT swC; rw [if_pos hSW, if_neg (fun w => by have := hfu.mp c87; omega)]]
                  refine z_bipush (pc := 90) h dX7_swapRefusal_90 (by decide) ?_
                  refine z_goto (pc := 92) (tgt := 96) h dX7_swapRefusal_92 (by decide) ?_
                  refine z_iret (pc := 96) h rfl dX7_swapRefusal_96 ?_
                  exact ⟨rfl, rfl⟩
            · rw [hno (fun z => of_decide_eq_false c69 (by unfold zar; rw [ePu]; exact ⟨z13.1, by omega, z.2.2.2.2.2⟩))]
              refine z_iconst (pc := 72) h dX7_swapRefusal_72 ?_
              refine z_iret (pc := 73) h rfl dX7_swapRefusal_73 ?_
              exact ⟨rfl, rfl⟩
      · rw [hno (fun z => z.2.2.1 (by omega))]
        refine z_iconst (pc := 27) h dX7_swapRefusal_27 ?_
        refine z_iret (pc := 28) h rfl dX7_swapRefusal_28 ?_
        exact ⟨rfl, rfl⟩
