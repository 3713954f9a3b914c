/-! The class: moves of a plan. -/
theorem zcp {σ : zS} {o p j : Nat} {X : zOb} (h : p ≠ o) : zsA (zo σ o X) o j (zar (zo σ o X) p j) = zo σ o (osA X j ((σ p).2 j)) := by
  rw [zsA_zo]
  unfold zar
  rw [zo_n h]
theorem zkd3 {o : Nat} (h : zoc o = 3) : zkd o 0 = (4, 8) ∧ zkd o 1 = (4, 8) ∧ zkd o 2 = (4, 8) := by
  unfold zkd
  rw [h]
  exact ⟨rfl, rfl, rfl⟩
def p_cp (x y : zOb) : zOb := oss (osA (osA (osA x 0 (y.2 0)) 1 (y.2 1)) 2 (y.2 2)) 3 (y.1 3)
theorem c_copyFrom {σ : zS} {o p : Nat} {X : zOb} (ho : zoc o = 3) (hp : zoc p = 3) (hpo : p ≠ o) : zCv M_X3_copyFrom 1 [zR o, zR p] (zo σ o X) (zo σ o (p_cp X (σ p))) := by
  refine zC_of (M := M_X3_copyFrom) (ls := [some (zR o), some (zR p)]) (n := 0) (by decide) (fun ad => Nat.le_of_ble_eq_true rfl) rfl (fun x h => ?_)
  refine z_aloadR_n (pc := 0) h dX3_copyFrom_0 rfl ?_
  refine z_getA4 (pc := 1) (c := 3) (j := 0) h (by first | assumption | rfl) rfl rfl fl_X3_9 dX3_copyFrom_1 ?_
  refine z_iconst (pc := 4) h dX3_copyFrom_4 ?_
  refine z_aloadR_n (pc := 5) h dX3_copyFrom_5 rfl ?_
  refine z_getA4 (pc := 6) (c := 3) (j := 0) h (by first | assumption | rfl) rfl rfl fl_X3_9 dX3_copyFrom_6 ?_
  refine z_iconst (pc := 9) h dX3_copyFrom_9 ?_
  refine z_bipush (pc := 10) h dX3_copyFrom_10 (by decide) ?_
  refine z_copy (pc := 12) (L := 8) (kd := 4) h (by omega) (by omega) (by decide) (zkd3 hp).1 (zkd3 ho).1 (by decide) rfl (by decide) ml_X3_34 dX3_copyFrom_12 (Nat.le_of_ble_eq_true rfl) ?_
  rw [zcp hpo]
  refine z_aloadR_n (pc := 15) h dX3_copyFrom_15 rfl ?_
  refine z_getA4 (pc := 16) (c := 3) (j := 1) h (by first | assumption | rfl) rfl rfl fl_X3_15 dX3_copyFrom_16 ?_
  refine z_iconst (pc := 19) h dX3_copyFrom_19 ?_
  refine z_aloadR_n (pc := 20) h dX3_copyFrom_20 rfl ?_
  refine z_getA4 (pc := 21) (c := 3) (j := 1) h (by first | assumption | rfl) rfl rfl fl_X3_15 dX3_copyFrom_21 ?_
  refine z_iconst (pc := 24) h dX3_copyFrom_24 ?_
  refine z_bipush (pc := 25) h dX3_copyFrom_25 (by decide) ?_
  refine z_copy (pc := 27) (L := 8) (kd := 4) h (by omega) (by omega) (by decide) (zkd3 hp).2.1 (zkd3 ho).2.1 (by decide) rfl (by decide) ml_X3_34 dX3_copyFrom_27 (Nat.le_of_ble_eq_true rfl) ?_
  rw [zcp hpo]
  refine z_aloadR_n (pc := 30) h dX3_copyFrom_30 rfl ?_
  refine z_getA4 (pc := 31) (c := 3) (j := 2) h (by first | assumption | rfl) rfl rfl fl_X3_18 dX3_copyFrom_31 ?_
  refine z_iconst (pc := 34) h dX3_copyFrom_34 ?_
  refine z_aloadR_n (pc := 35) h dX3_copyFrom_35 rfl ?_
  refine z_getA4 (pc := 36) (c := 3) (j := 2) h (by first | assumption | rfl) rfl rfl fl_X3_18 dX3_copyFrom_36 ?_
  refine z_iconst (pc := 39) h dX3_copyFrom_39 ?_
  refine z_bipush (pc := 40) h dX3_copyFrom_40 (by decide) ?_
  refine z_copy (pc := 42) (L := 8) (kd := 4) h (by omega) (by omega) (by decide) (zkd3 hp).2.2 (zkd3 ho).2.2 (by decide) rfl (by decide) ml_X3_34 dX3_copyFrom_42 (Nat.le_of_ble_eq_true rfl) ?_
  rw [zcp hpo]
  refine z_aloadR_n (pc := 45) h dX3_copyFrom_45 rfl ?_
  refine z_aloadR_n (pc := 46) h dX3_copyFrom_46 rfl ?_
  refine z_getIq (pc := 47) (c := 3) (j := 3) h (zo_n hpo) (by first | assumption | rfl) rfl rfl fl_X3_27 dX3_copyFrom_47 (fun g47 => ?_)
  refine z_putI (pc := 50) (c := 3) (j := 3) h (by first | assumption | rfl) rfl rfl fl_X3_27 rfl (tyX3_ok 3 (by decide)) dX3_copyFrom_50 (by omega) ?_
  refine z_ret (pc := 53) h rfl dX3_copyFrom_53 ?_
  exact ⟨rfl, by first | rfl | (rw [zss_zo]; rfl)⟩
theorem m_X3_othersAt {σ : zS} {o : Nat} {d t : Int} (ho : zoc o = 3) (hd : zin d) (ht : 0 ≤ t ∧ t ≤ 7) : zCp M_X3_othersAt 2 [zR o, zI d, zI t] σ (zI (p_len (σ o) d - (if (σ o).2 0 t = d then 1 else 0))) := by
  have hb := zcnt_b (fun t => decide ((σ o).2 0 t = d)) (n := 8) (by omega)
  have hl : 0 ≤ p_len (σ o) d ∧ p_len (σ o) d ≤ 8 := hb
  refine zC_of (M := M_X3_othersAt) (ls := [some (zR o), some (zI d), some (zI t)]) (n := 0) (by decide) (fun ad => Nat.le_of_ble_eq_true rfl) rfl (fun x h => ?_)
  refine z_aloadR_n (pc := 0) h dX3_othersAt_0 rfl ?_
  refine z_getA4 (pc := 1) (c := 3) (j := 0) h (by first | assumption | rfl) rfl rfl fl_X3_9 dX3_othersAt_1 ?_
  refine z_iload_n (pc := 4) h dX3_othersAt_4 rfl ?_
  refine z_ialdq (pc := 5) (c := 3) (j := 0) (L := 8) h rfl (by first | assumption | rfl) (by decide) rfl (by decide) (by omega) (by omega) dX3_othersAt_5 (fun g5 => ?_)
  refine z_iload_n (pc := 6) h dX3_othersAt_6 rfl ?_
  refine z_icmp_ne (pc := 7) (tgt := 20) h (by omega) (by omega) dX3_othersAt_7 (by decide) (fun c7 => ?_) (fun c7 => ?_)
  · refine z_aloadR_n (pc := 20) h dX3_othersAt_20 rfl ?_
    refine z_iload_n (pc := 21) h dX3_othersAt_21 rfl ?_
    refine z_pV (pc := 22) (c := 3) h (m_X3_rowLength (by first | assumption | rfl) (by omega)) (by decide) (by first | assumption | rfl) rfl mv_X3_rowLength ml_X3_60 rfl dX3_othersAt_22 rfl (Nat.le_of_ble_eq_true rfl) ?_
    refine z_iret (pc := 25) h rfl dX3_othersAt_25 ?_
    first
    | (rw [if_pos c7]; exact ⟨rfl, rfl⟩)
    | (rw [if_neg c7]; refine ⟨congrArg (fun z => some (zI z)) ?_, rfl⟩; omega)
  · refine z_aloadR_n (pc := 10) h dX3_othersAt_10 rfl ?_
    refine z_iload_n (pc := 11) h dX3_othersAt_11 rfl ?_
    refine z_pV (pc := 12) (c := 3) h (m_X3_rowLength (by first | assumption | rfl) (by omega)) (by decide) (by first | assumption | rfl) rfl mv_X3_rowLength ml_X3_60 rfl dX3_othersAt_12 rfl (Nat.le_of_ble_eq_true rfl) ?_
    refine z_iconst (pc := 15) h dX3_othersAt_15 ?_
    refine z_isub (pc := 16) h dX3_othersAt_16 ?_
    refine z_goto (pc := 17) (tgt := 25) h dX3_othersAt_17 (by decide) ?_
    refine z_iret (pc := 25) h rfl dX3_othersAt_25 ?_
    first
    | (rw [if_pos c7]; exact ⟨rfl, rfl⟩)
    | (rw [if_neg c7]; refine ⟨congrArg (fun z => some (zI z)) ?_, rfl⟩; omega)
def x_mv (pl : zOb) (t d k : Int) : zOb := osA (osA pl 0 (zup (pl.2 0) t d)) 1 (zup (p_r2 (zup (pl.2 0) t (-1)) (p_r1 (pl.2 0) (pl.2 1) t) d k) t k)
def r1i (P0 P1 : Int → Int) (t n : Int) : Int → Int := fun o => if (0 ≤ o ∧ o < n) ∧ P0 o = P0 t ∧ P1 t < P1 o then P1 o - 1 else P1 o
def r2i (P0 P1 : Int → Int) (d k n : Int) : Int → Int := fun o => if (0 ≤ o ∧ o < n) ∧ P0 o = d ∧ k ≤ P1 o then P1 o + 1 else P1 o
theorem r1i_S {P0 P1 : Int → Int} {t n : Int} (hn : 0 ≤ n) (hc : P0 n = P0 t ∧ P1 t < P1 n) : zup (r1i P0 P1 t n) n (P1 n - 1) = r1i P0 P1 t (n + 1) := by
  funext o
  unfold zup r1i
  by_cases y : o = n
  · rw [if_pos y, y, if_pos ⟨by omega, hc⟩]
  · rw [if_neg y]
    by_cases y2 : (0 ≤ o ∧ o < n) ∧ P0 o = P0 t ∧ P1 t < P1 o
    · rw [if_pos y2, if_pos ⟨by omega, y2.2⟩]
    · rw [if_neg y2, if_neg (fun z => y2 ⟨by omega, z.2⟩)]
theorem r1i_N {P0 P1 : Int → Int} {t n : Int} (hc : ¬ (P0 n = P0 t ∧ P1 t < P1 n)) : r1i P0 P1 t n = r1i P0 P1 t (n + 1) := by
  funext o
  unfold r1i
  by_cases y2 : (0 ≤ o ∧ o < n) ∧ P0 o = P0 t ∧ P1 t < P1 o
  · rw [if_pos y2, if_pos ⟨by omega, y2.2⟩]
  · rw [if_neg y2, if_neg (fun z => by
      by_cases y : o = n
      · rw [y] at z; exact hc z.2
      · exact y2 ⟨by omega, z.2⟩)]
theorem r2i_S {P0 P1 : Int → Int} {d k n : Int} (hn : 0 ≤ n) (hc : P0 n = d ∧ k ≤ P1 n) : zup (r2i P0 P1 d k n) n (P1 n + 1) = r2i P0 P1 d k (n + 1) := by
  funext o
  unfold zup r2i
  by_cases y : o = n
  · rw [if_pos y, y, if_pos ⟨by omega, hc⟩]
  · rw [if_neg y]
    by_cases y2 : (0 ≤ o ∧ o < n) ∧ P0 o = d ∧ k ≤ P1 o
    · rw [if_pos y2, if_pos ⟨by omega, y2.2⟩]
    · rw [if_neg y2, if_neg (fun z => y2 ⟨by omega, z.2⟩)]
theorem r2i_N {P0 P1 : Int → Int} {d k n : Int} (hc : ¬ (P0 n = d ∧ k ≤ P1 n)) : r2i P0 P1 d k n = r2i P0 P1 d k (n + 1) := by
  funext o
  unfold r2i
  by_cases y2 : (0 ≤ o ∧ o < n) ∧ P0 o = d ∧ k ≤ P1 o
  · rw [if_pos y2, if_pos ⟨by omega, y2.2⟩]
  · rw [if_neg y2, if_neg (fun z => by
      by_cases y : o = n
      · rw [y] at z; exact hc z.2
      · exact y2 ⟨by omega, z.2⟩)]
theorem c_relocate {σ : zS} {o : Nat} {pl : zOb} {t d k : Int} (ho : zoc o = 3) (ht : 0 ≤ t ∧ t ≤ 7) (hd : zin d) (hk : zin k) (hb : ∀ n, 0 ≤ n → n < 8 → -1 ≤ pl.2 1 n ∧ pl.2 1 n ≤ 8) : zCv M_X3_relocate 1 [zR o, zI t, zI d, zI k] (zo σ o pl) (zo σ o (x_mv pl t d k)) := by
  have hbt := hb t ht.1 (by omega)
  refine zC_of (M := M_X3_relocate) (ls := [some (zR o), some (zI t), some (zI d), some (zI k), none]) (n := 1) (by decide) (fun ad => Nat.le_of_ble_eq_true rfl) rfl (fun x h => ?_)
  have B : ∀ (n : Nat) (i : Int), 0 ≤ i → i ≤ 8 → 8 - i < n → zW x (fun r τ' => r = none ∧ τ' = zo σ o (x_mv pl t d k)) 69 [some (zR o), some (zI t), some (zI d), some (zI k), some (zI i)] [] (zo σ o (osA (osA pl 0 (zup (pl.2 0) t (-1))) 1 (r2i (zup (pl.2 0) t (-1)) (p_r1 (pl.2 0) (pl.2 1) t) d k i))) := by
    intro n
    induction n with
    | zero => intro i h1 h2 h3; omega
    | succ n ih =>
      intro i h1 h2 h3
      have hih := ih (i + 1) (by omega)
      have e0 : (osA (osA pl 0 (zup (pl.2 0) t (-1))) 1 (r2i (zup (pl.2 0) t (-1)) (p_r1 (pl.2 0) (pl.2 1) t) d k i)).2 0 = zup (pl.2 0) t (-1) := rfl
      have ei : r2i (zup (pl.2 0) t (-1)) (p_r1 (pl.2 0) (pl.2 1) t) d k i i = p_r1 (pl.2 0) (pl.2 1) t i := by unfold r2i; rw [if_neg (by omega)]
      have hbi : i < 8 → -2 ≤ p_r1 (pl.2 0) (pl.2 1) t i ∧ p_r1 (pl.2 0) (pl.2 1) t i ≤ 8 := fun z => by
        have := hb i h1 z
        unfold p_r1
        split <;> omega
      have nN : ¬ (zup (pl.2 0) t (-1) i = d ∧ k ≤ (r2i (zup (pl.2 0) t (-1)) (p_r1 (pl.2 0) (pl.2 1) t) d k i) i) → i < 8 → zW x (fun r τ' => r = none ∧ τ' = zo σ o (x_mv pl t d k)) 69 [some (zR o), some (zI t), some (zI d), some (zI k), some (zI (i + 1))] [] (zo σ o (osA (osA pl 0 (zup (pl.2 0) t (-1))) 1 (r2i (zup (pl.2 0) t (-1)) (p_r1 (pl.2 0) (pl.2 1) t) d k i))) := fun z z8 => by
        rw [ei] at z
        rw [r2i_N z]
        exact hih (by omega) (by omega)
      have nS : (zup (pl.2 0) t (-1) i = d ∧ k ≤ (r2i (zup (pl.2 0) t (-1)) (p_r1 (pl.2 0) (pl.2 1) t) d k i) i) → i < 8 → zW x (fun r τ' => r = none ∧ τ' = zo σ o (x_mv pl t d k)) 69 [some (zR o), some (zI t), some (zI d), some (zI k), some (zI (i + 1))] [] (zo σ o (osa (osA (osA pl 0 (zup (pl.2 0) t (-1))) 1 (r2i (zup (pl.2 0) t (-1)) (p_r1 (pl.2 0) (pl.2 1) t) d k i)) 1 i ((r2i (zup (pl.2 0) t (-1)) (p_r1 (pl.2 0) (pl.2 1) t) d k i) i + 1))) := fun z z8 => by
        rw [ei] at z
        rw [osa_osA, ei, r2i_S h1 z]
        exact hih (by omega) (by omega)
      have hgo : i = 8 → osa (osa (osA (osA pl 0 (zup (pl.2 0) t (-1))) 1 (r2i (zup (pl.2 0) t (-1)) (p_r1 (pl.2 0) (pl.2 1) t) d k i)) 0 t d) 1 t k = x_mv pl t d k := by
        intro e
        rw [e]
        unfold osa x_mv
        have e1 : r2i (zup (pl.2 0) t (-1)) (p_r1 (pl.2 0) (pl.2 1) t) d k 8 = p_r2 (zup (pl.2 0) t (-1)) (p_r1 (pl.2 0) (pl.2 1) t) d k := rfl
        rw [← zup_zup (pl.2 0) t (-1) d, e1]
        refine Prod.ext rfl (funext fun j => ?_)
        by_cases j1 : j = 1
        · subst j1; rfl
        · by_cases j0 : j = 0
          · subst j0; rfl
          · simp [osA_2, j0, j1]
      have eQ : (osA (osA pl 0 (zup (pl.2 0) t (-1))) 1 (r2i (zup (pl.2 0) t (-1)) (p_r1 (pl.2 0) (pl.2 1) t) d k i)).2 1 = (r2i (zup (pl.2 0) t (-1)) (p_r1 (pl.2 0) (pl.2 1) t) d k i) := rfl
      rw [← ei] at hbi
      rw [← congrFun e0 i, ← congrFun eQ i] at nN nS
      rw [← congrFun eQ i] at hbi
      clear hih e0 eQ
      generalize osA (osA pl 0 (zup (pl.2 0) t (-1))) 1 (r2i (zup (pl.2 0) t (-1)) (p_r1 (pl.2 0) (pl.2 1) t) d k i) = mm at nN nS hbi hgo ⊢
      refine z_iload (pc := 69) h dX3_relocate_69 rfl ?_
      refine z_bipush (pc := 71) h dX3_relocate_71 (by decide) ?_
      refine z_icmp_ge (pc := 73) (tgt := 115) h (by omega) (by omega) dX3_relocate_73 (by decide) (fun c73 => ?_) (fun c73 => ?_)
      · refine z_aloadR_n (pc := 115) h dX3_relocate_115 rfl ?_
        refine z_getA4 (pc := 116) (c := 3) (j := 0) h (by first | assumption | rfl) rfl rfl fl_X3_9 dX3_relocate_116 ?_
        refine z_iload_n (pc := 119) h dX3_relocate_119 rfl ?_
        refine z_iload_n (pc := 120) h dX3_relocate_120 rfl ?_
        refine z_iasto (pc := 121) (c := 3) (j := 0) (L := 8) h (by first | assumption | rfl) (by decide) rfl (by decide) (by omega) (by omega) (by omega) dX3_relocate_121 ?_
        refine z_aloadR_n (pc := 122) h dX3_relocate_122 rfl ?_
        refine z_getA4 (pc := 123) (c := 3) (j := 1) h (by first | assumption | rfl) rfl rfl fl_X3_15 dX3_relocate_123 ?_
        refine z_iload_n (pc := 126) h dX3_relocate_126 rfl ?_
        refine z_iload_n (pc := 127) h dX3_relocate_127 rfl ?_
        refine z_iasto (pc := 128) (c := 3) (j := 1) (L := 8) h (by first | assumption | rfl) (by decide) rfl (by decide) (by omega) (by omega) (by omega) dX3_relocate_128 ?_
        refine z_ret (pc := 129) h rfl dX3_relocate_129 ?_
        exact ⟨rfl, by rw [← hgo (by omega)]⟩
      · refine z_aloadR_n (pc := 76) h dX3_relocate_76 rfl ?_
        refine z_getA4 (pc := 77) (c := 3) (j := 0) h (by first | assumption | rfl) rfl rfl fl_X3_9 dX3_relocate_77 ?_
        refine z_iload (pc := 80) h dX3_relocate_80 rfl ?_
        refine z_ialdq (pc := 82) (c := 3) (j := 0) (L := 8) h (zo_s _ _ _) (by first | assumption | rfl) (by decide) rfl (by decide) (by omega) (by omega) dX3_relocate_82 (fun g82 => ?_)
        refine z_iload_n (pc := 83) h dX3_relocate_83 rfl ?_
        refine z_icmp_ne (pc := 84) (tgt := 109) h (by omega) (by omega) dX3_relocate_84 (by decide) (fun c84 => ?_) (fun c84 => ?_)
        · refine z_inc_4 (pc := 109) h dX3_relocate_109 (by decide) rfl ?_
          refine z_goto (pc := 112) (tgt := 69) h dX3_relocate_112 (by decide) ?_
          first
          | (have z : ¬ (mm.2 0 i = d ∧ k ≤ mm.2 1 i) := (by omega); exact nN z (by omega))
          | exact nS ⟨by omega, by omega⟩ (by omega)
        · refine z_aloadR_n (pc := 87) h dX3_relocate_87 rfl ?_
          refine z_getA4 (pc := 88) (c := 3) (j := 1) h (by first | assumption | rfl) rfl rfl fl_X3_15 dX3_relocate_88 ?_
          refine z_iload (pc := 91) h dX3_relocate_91 rfl ?_
          refine z_ialdq (pc := 93) (c := 3) (j := 1) (L := 8) h (zo_s _ _ _) (by first | assumption | rfl) (by decide) rfl (by decide) (by omega) (by omega) dX3_relocate_93 (fun g93 => ?_)
          have hbi := hbi (by omega)
          refine z_iload_n (pc := 94) h dX3_relocate_94 rfl ?_
          refine z_icmp_lt (pc := 95) (tgt := 109) h (by omega) (by omega) dX3_relocate_95 (by decide) (fun c95 => ?_) (fun c95 => ?_)
          · refine z_inc_4 (pc := 109) h dX3_relocate_109 (by decide) rfl ?_
            refine z_goto (pc := 112) (tgt := 69) h dX3_relocate_112 (by decide) ?_
            first
            | (have z : ¬ (mm.2 0 i = d ∧ k ≤ mm.2 1 i) := (by omega); exact nN z (by omega))
            | exact nS ⟨by omega, by omega⟩ (by omega)
          · refine z_aloadR_n (pc := 98) h dX3_relocate_98 rfl ?_
            refine z_getA4 (pc := 99) (c := 3) (j := 1) h (by first | assumption | rfl) rfl rfl fl_X3_15 dX3_relocate_99 ?_
            refine z_iload (pc := 102) h dX3_relocate_102 rfl ?_
            refine z_dup2AI (pc := 104) h dX3_relocate_104 ?_
            refine z_ialdq (pc := 105) (c := 3) (j := 1) (L := 8) h (zo_s _ _ _) (by first | assumption | rfl) (by decide) rfl (by decide) (by omega) (by omega) dX3_relocate_105 (fun g105 => ?_)
            refine z_iconst (pc := 106) h dX3_relocate_106 ?_
            refine z_iadd (pc := 107) h dX3_relocate_107 ?_
            refine z_iasto (pc := 108) (c := 3) (j := 1) (L := 8) h (by first | assumption | rfl) (by decide) rfl (by decide) (by omega) (by omega) (by omega) dX3_relocate_108 ?_
            refine z_inc_4 (pc := 109) h dX3_relocate_109 (by decide) rfl ?_
            refine z_goto (pc := 112) (tgt := 69) h dX3_relocate_112 (by decide) ?_
            first
            | (have z : ¬ (mm.2 0 i = d ∧ k ≤ mm.2 1 i) := (by omega); exact nN z (by omega))
            | exact nS ⟨by omega, by omega⟩ (by omega)
  have A : ∀ (n : Nat) (i : Int), 0 ≤ i → i ≤ 8 → 8 - i < n → zW x (fun r τ' => r = none ∧ τ' = zo σ o (x_mv pl t d k)) 3 [some (zR o), some (zI t), some (zI d), some (zI k), some (zI i)] [] (zo σ o (osA pl 1 (r1i (pl.2 0) (pl.2 1) t i))) := by
    intro n
    induction n with
    | zero => intro i h1 h2 h3; omega
    | succ n ih =>
      intro i h1 h2 h3
      have hih := ih (i + 1) (by omega)
      have et : r1i (pl.2 0) (pl.2 1) t i t = pl.2 1 t := by unfold r1i; rw [if_neg (by omega)]
      have ei : r1i (pl.2 0) (pl.2 1) t i i = pl.2 1 i := by unfold r1i; rw [if_neg (by omega)]
      have hbi := fun z => hb i h1 z
      have nN : ¬ (pl.2 0 i = pl.2 0 t ∧ (r1i (pl.2 0) (pl.2 1) t i) t < (r1i (pl.2 0) (pl.2 1) t i) i) → i < 8 → zW x (fun r τ' => r = none ∧ τ' = zo σ o (x_mv pl t d k)) 3 [some (zR o), some (zI t), some (zI d), some (zI k), some (zI (i + 1))] [] (zo σ o (osA pl 1 (r1i (pl.2 0) (pl.2 1) t i))) := fun z z8 => by
        rw [ei, et] at z
        rw [r1i_N z]
        exact hih (by omega) (by omega)
      have nS : (pl.2 0 i = pl.2 0 t ∧ (r1i (pl.2 0) (pl.2 1) t i) t < (r1i (pl.2 0) (pl.2 1) t i) i) → i < 8 → zW x (fun r τ' => r = none ∧ τ' = zo σ o (x_mv pl t d k)) 3 [some (zR o), some (zI t), some (zI d), some (zI k), some (zI (i + 1))] [] (zo σ o (osa (osA pl 1 (r1i (pl.2 0) (pl.2 1) t i)) 1 i ((r1i (pl.2 0) (pl.2 1) t i) i - 1))) := fun z z8 => by
        rw [ei, et] at z
        rw [osa_osA, ei, r1i_S h1 z]
        exact hih (by omega) (by omega)
      have hgo : i = 8 → osa (osA pl 1 (r1i (pl.2 0) (pl.2 1) t i)) 0 t (-1) = osA (osA pl 0 (zup (pl.2 0) t (-1))) 1 (r2i (zup (pl.2 0) t (-1)) (p_r1 (pl.2 0) (pl.2 1) t) d k 0) := by
        intro e
        rw [e]
        have e1 : r1i (pl.2 0) (pl.2 1) t 8 = p_r1 (pl.2 0) (pl.2 1) t := rfl
        have e2 : r2i (zup (pl.2 0) t (-1)) (p_r1 (pl.2 0) (pl.2 1) t) d k 0 = p_r1 (pl.2 0) (pl.2 1) t := by
          funext y
          unfold r2i
          rw [if_neg (by omega)]
        rw [e1, e2]
        unfold osa
        refine Prod.ext rfl (funext fun j => ?_)
        by_cases j1 : j = 1
        · subst j1; rfl
        · by_cases j0 : j = 0
          · subst j0; rfl
          · simp [osA_2, j0, j1]
      have e0 : (osA pl 1 (r1i (pl.2 0) (pl.2 1) t i)).2 0 = pl.2 0 := rfl
      have eQ : (osA pl 1 (r1i (pl.2 0) (pl.2 1) t i)).2 1 = (r1i (pl.2 0) (pl.2 1) t i) := rfl
      rw [← ei] at hbi
      rw [← et] at hbt
      rw [← congrFun e0 i, ← congrFun e0 t, ← congrFun eQ i, ← congrFun eQ t] at nN nS
      rw [← congrFun eQ i] at hbi
      rw [← congrFun eQ t] at hbt
      clear hih e0 eQ ei et
      generalize osA pl 1 (r1i (pl.2 0) (pl.2 1) t i) = mm at nN nS hbi hbt hgo ⊢
      refine z_iload (pc := 3) h dX3_relocate_3 rfl ?_
      refine z_bipush (pc := 5) h dX3_relocate_5 (by decide) ?_
      refine z_icmp_ge (pc := 7) (tgt := 59) h (by omega) (by omega) dX3_relocate_7 (by decide) (fun c7 => ?_) (fun c7 => ?_)
      · refine z_aloadR_n (pc := 59) h dX3_relocate_59 rfl ?_
        refine z_getA4 (pc := 60) (c := 3) (j := 0) h (by first | assumption | rfl) rfl rfl fl_X3_9 dX3_relocate_60 ?_
        refine z_iload_n (pc := 63) h dX3_relocate_63 rfl ?_
        refine z_iconst (pc := 64) h dX3_relocate_64 ?_
        refine z_iasto (pc := 65) (c := 3) (j := 0) (L := 8) h (by first | assumption | rfl) (by decide) rfl (by decide) (by omega) (by omega) (by omega) dX3_relocate_65 ?_
        refine z_iconst (pc := 66) h dX3_relocate_66 ?_
        refine z_ist_4 (pc := 67) h dX3_relocate_67 (by decide) rfl ?_
        rw [hgo (by omega)]
        exact B 9 0 (by omega) (by omega) (by omega)
      · refine z_aloadR_n (pc := 10) h dX3_relocate_10 rfl ?_
        refine z_getA4 (pc := 11) (c := 3) (j := 0) h (by first | assumption | rfl) rfl rfl fl_X3_9 dX3_relocate_11 ?_
        refine z_iload (pc := 14) h dX3_relocate_14 rfl ?_
        refine z_ialdq (pc := 16) (c := 3) (j := 0) (L := 8) h (zo_s _ _ _) (by first | assumption | rfl) (by decide) rfl (by decide) (by omega) (by omega) dX3_relocate_16 (fun g16 => ?_)
        refine z_aloadR_n (pc := 17) h dX3_relocate_17 rfl ?_
        refine z_getA4 (pc := 18) (c := 3) (j := 0) h (by first | assumption | rfl) rfl rfl fl_X3_9 dX3_relocate_18 ?_
        refine z_iload_n (pc := 21) h dX3_relocate_21 rfl ?_
        refine z_ialdq (pc := 22) (c := 3) (j := 0) (L := 8) h (zo_s _ _ _) (by first | assumption | rfl) (by decide) rfl (by decide) (by omega) (by omega) dX3_relocate_22 (fun g22 => ?_)
        refine z_icmp_ne (pc := 23) (tgt := 53) h (by omega) (by omega) dX3_relocate_23 (by decide) (fun c23 => ?_) (fun c23 => ?_)
        · refine z_inc_4 (pc := 53) h dX3_relocate_53 (by decide) rfl ?_
          refine z_goto (pc := 56) (tgt := 3) h dX3_relocate_56 (by decide) ?_
          first
          | (have z : ¬ (mm.2 0 i = mm.2 0 t ∧ mm.2 1 t < mm.2 1 i) := (by omega); exact nN z (by omega))
          | exact nS ⟨by omega, by omega⟩ (by omega)
        · refine z_aloadR_n (pc := 26) h dX3_relocate_26 rfl ?_
          refine z_getA4 (pc := 27) (c := 3) (j := 1) h (by first | assumption | rfl) rfl rfl fl_X3_15 dX3_relocate_27 ?_
          refine z_iload (pc := 30) h dX3_relocate_30 rfl ?_
          refine z_ialdq (pc := 32) (c := 3) (j := 1) (L := 8) h (zo_s _ _ _) (by first | assumption | rfl) (by decide) rfl (by decide) (by omega) (by omega) dX3_relocate_32 (fun g32 => ?_)
          refine z_aloadR_n (pc := 33) h dX3_relocate_33 rfl ?_
          refine z_getA4 (pc := 34) (c := 3) (j := 1) h (by first | assumption | rfl) rfl rfl fl_X3_15 dX3_relocate_34 ?_
          refine z_iload_n (pc := 37) h dX3_relocate_37 rfl ?_
          have hbi := hbi (by omega)
          refine z_ialdq (pc := 38) (c := 3) (j := 1) (L := 8) h (zo_s _ _ _) (by first | assumption | rfl) (by decide) rfl (by decide) (by omega) (by omega) dX3_relocate_38 (fun g38 => ?_)
          refine z_icmp_le (pc := 39) (tgt := 53) h (by omega) (by omega) dX3_relocate_39 (by decide) (fun c39 => ?_) (fun c39 => ?_)
          · refine z_inc_4 (pc := 53) h dX3_relocate_53 (by decide) rfl ?_
            refine z_goto (pc := 56) (tgt := 3) h dX3_relocate_56 (by decide) ?_
            first
            | (have z : ¬ (mm.2 0 i = mm.2 0 t ∧ mm.2 1 t < mm.2 1 i) := (by omega); exact nN z (by omega))
            | exact nS ⟨by omega, by omega⟩ (by omega)
          · refine z_aloadR_n (pc := 42) h dX3_relocate_42 rfl ?_
            refine z_getA4 (pc := 43) (c := 3) (j := 1) h (by first | assumption | rfl) rfl rfl fl_X3_15 dX3_relocate_43 ?_
            refine z_iload (pc := 46) h dX3_relocate_46 rfl ?_
            refine z_dup2AI (pc := 48) h dX3_relocate_48 ?_
            refine z_ialdq (pc := 49) (c := 3) (j := 1) (L := 8) h (zo_s _ _ _) (by first | assumption | rfl) (by decide) rfl (by decide) (by omega) (by omega) dX3_relocate_49 (fun g49 => ?_)
            refine z_iconst (pc := 50) h dX3_relocate_50 ?_
            refine z_isub (pc := 51) h dX3_relocate_51 ?_
            refine z_iasto (pc := 52) (c := 3) (j := 1) (L := 8) h (by first | assumption | rfl) (by decide) rfl (by decide) (by omega) (by omega) (by omega) dX3_relocate_52 ?_
            refine z_inc_4 (pc := 53) h dX3_relocate_53 (by decide) rfl ?_
            refine z_goto (pc := 56) (tgt := 3) h dX3_relocate_56 (by decide) ?_
            first
            | (have z : ¬ (mm.2 0 i = mm.2 0 t ∧ mm.2 1 t < mm.2 1 i) := (by omega); exact nN z (by omega))
            | exact nS ⟨by omega, by omega⟩ (by omega)
  have e0 : r1i (pl.2 0) (pl.2 1) t 0 = pl.2 1 := by
    funext y
    unfold r1i
    rw [if_neg (by omega)]
  refine z_iconst (pc := 0) h dX3_relocate_0 ?_
  refine z_ist_4 (pc := 1) h dX3_relocate_1 (by decide) rfl ?_
  have := A 9 0 (by omega) (by omega) (by omega)
  rw [e0, osA_same] at this
  exact this
