/-! The class's run: filling, lining up, sums, play. -/
def fillf (f : Int → Int) (v i : Int) : Int → Int := fun n => if 0 ≤ n ∧ n < i then v else f n
theorem c_fill {σ : zS} {o c j L : Nat} {Y : zOb} {v : Int} (ho : zoc o = c) (hc9 : c < 9) (hk : zfd c j = (4, L)) (hL : L ≤ 2048) (hv : zin v) : zCv M_J7_fill_53178 1 [zA o j, zI v] (zo σ o Y) (zo σ o (osA Y j (fun _ => v))) := by
  refine zC_of (M := M_J7_fill_53178) (ls := [some (zA o j), some (zI v), none, none]) (n := 2) (by decide) (fun ad => Nat.le_of_ble_eq_true rfl) rfl (fun x h => ?_)
  have hfd : zkd o j = (4, L) := by unfold zkd; rw [ho]; exact hk
  have Lp : ∀ (n : Nat) (i : Int), 0 ≤ i → i ≤ L → L - i < n → zW x (fun r τ' => r = none ∧ τ' = zo σ o (osA Y j (fun _ => v))) 5 [some (zA o j), some (zI v), some (zI i), some (zI (L : Int))] [] (zo σ o (osA Y j (fillf (Y.2 j) v i))) := by
    intro n
    induction n with
    | zero => intro i h1 h2 h3; omega
    | succ n ih =>
      intro i h1 h2 h3
      refine z_iload_n (pc := 5) h dJ7_fill_53178_5 rfl ?_
      refine z_iload_n (pc := 6) h dJ7_fill_53178_6 rfl ?_
      refine z_icmp_ge (pc := 7) (tgt := 20) h (by omega) (by omega) dJ7_fill_53178_7 (by decide) (fun c7 => ?_) (fun c7 => ?_)
      · have hi : i = L := by omega
        refine z_norm (τ := zo σ o (osA Y j (fun _ => v))) ?_ ?_ ?_
        · refine ⟨fun o' j' => ?_, fun o' j' n' g0 g1 => ?_⟩
          · unfold zsc
            by_cases e : o' = o
            · subst e; rw [zo_s, zo_s]; rfl
            · rw [zo_n e, zo_n e]
          · unfold zar
            by_cases e : o' = o
            · subst e
              rw [zo_s, zo_s, osA_2, osA_2]
              split
              · rename_i ej
                subst ej
                rw [hfd] at g1
                show fillf (Y.2 j') v i n' = v
                unfold fillf
                rw [if_pos ⟨g0, by simp at g1; omega⟩]
              · rfl
            · rw [zo_n e, zo_n e]
        · intro hr
          refine ⟨fun o' j' => ?_, fun o' j' n' => ?_⟩
          · have := hr.1 o' j'
            unfold zsc at this ⊢
            by_cases e : o' = o
            · subst e; rw [zo_s] at this ⊢; exact this
            · rw [zo_n e] at this ⊢; exact this
          · have := hr.2 o' j' n'
            unfold zar at this ⊢
            by_cases e : o' = o
            · subst e
              rw [zo_s, osA_2] at this ⊢
              split
              · rename_i ej
                subst ej
                rw [hfd]
                exact hv
              · rename_i ej
                rw [if_neg ej] at this
                exact this
            · rw [zo_n e] at this ⊢; exact this
        · exact z_ret (pc := 20) h rfl dJ7_fill_53178_20 ⟨rfl, rfl⟩
      · refine z_aloadA_n (pc := 10) h dJ7_fill_53178_10 rfl ?_
        refine z_iload_n (pc := 11) h dJ7_fill_53178_11 rfl ?_
        refine z_iload_n (pc := 12) h dJ7_fill_53178_12 rfl ?_
        refine z_iasto (pc := 13) (c := c) (j := j) (L := L) h ho hc9 hk hL (by omega) (by omega) hv dJ7_fill_53178_13 ?_
        refine z_inc_2 (pc := 14) h dJ7_fill_53178_14 (by decide) rfl ?_
        refine z_goto (pc := 17) (tgt := 5) h dJ7_fill_53178_17 (by decide) ?_
        have e : osa (osA Y j (fillf (Y.2 j) v i)) j i v = osA Y j (fillf (Y.2 j) v (i + 1)) := by
          refine Prod.ext rfl (funext fun j' => ?_)
          rw [osa_2, osA_2, osA_2, osA_2]
          split
          · rw [if_pos rfl]
            funext n'
            unfold zup fillf
            by_cases e1 : n' = i
            · rw [if_pos e1, if_pos (by omega)]
            · rw [if_neg e1]
              by_cases e2 : 0 ≤ n' ∧ n' < i
              · rw [if_pos e2, if_pos (by omega)]
              · rw [if_neg e2, if_neg (by omega)]
          · rfl
        rw [e]
        exact ih (i + 1) (by omega) (by omega) (by omega)
  refine z_iconst (pc := 0) h dJ7_fill_53178_0 ?_
  refine z_ist_2 (pc := 1) h dJ7_fill_53178_1 (by decide) rfl ?_
  refine z_aloadA_n (pc := 2) h dJ7_fill_53178_2 rfl ?_
  refine z_alen4 (pc := 3) (c := c) (j := j) (L := L) h ho hc9 hk dJ7_fill_53178_3 ?_
  refine z_ist_3 (pc := 4) h dJ7_fill_53178_4 (by decide) rfl ?_
  have e0 : Y = osA Y j (fillf (Y.2 j) v 0) := by
    refine Prod.ext rfl (funext fun j' => ?_)
    rw [osA_2]
    split
    · rename_i ej
      subst ej
      funext n'
      unfold fillf
      rw [if_neg (by omega)]
    · rfl
  have := Lp (L + 1) 0 (by omega) (by omega) (by omega)
  rw [← e0] at this
  exact this
def r_clr (Y : zOb) : zOb := oss (oss (osA (osA (osA (osA (osA (osA (osA (osA (osA (osA (osA Y 2 (fun _ => -1)) 3 (fun _ => -1)) 4 (fun _ => 0)) 5 (fun _ => -1)) 6 (fun _ => -1)) 7 (fun _ => -1)) 8 (fun _ => -1)) 10 (fun _ => -1)) 12 (fun _ => 0)) 13 (fun _ => 0)) 14 (fun _ => 0)) 16 0) 17 0
theorem c_clear {σ : zS} {r p : Nat} {Y : zOb} (hu : RUNH r p) : zCv M_X5_clear 2 [zR r] (zo σ r Y) (zo σ r (r_clr Y)) := by
  obtain ⟨hr, hr0, hr1, hp, h4, hpr⟩ := hu
  refine zC_of (M := M_X5_clear) (ls := [some (zR r)]) (n := 0) (by decide) (fun ad => Nat.le_of_ble_eq_true rfl) rfl (fun x h => ?_)
  refine z_aloadR_n (pc := 0) h dX5_clear_0 rfl ?_
  refine z_getA4 (pc := 1) (c := 5) (j := 2) h (by first | assumption | rfl) rfl rfl fl_X5_9 dX5_clear_1 ?_
  refine z_iconst (pc := 4) h dX5_clear_4 ?_
  refine z_vS (pc := 5) h (c_fill (by first | assumption | rfl) (by decide) rfl (by decide) (by omega)) (by decide) ms_J7_fill_53178 ml_X5_59 rfl dX5_clear_5 rfl (Nat.le_of_ble_eq_true rfl) ?_
  refine z_aloadR_n (pc := 8) h dX5_clear_8 rfl ?_
  refine z_getA4 (pc := 9) (c := 5) (j := 3) h (by first | assumption | rfl) rfl rfl fl_X5_15 dX5_clear_9 ?_
  refine z_iconst (pc := 12) h dX5_clear_12 ?_
  refine z_vS (pc := 13) h (c_fill (by first | assumption | rfl) (by decide) rfl (by decide) (by omega)) (by decide) ms_J7_fill_53178 ml_X5_59 rfl dX5_clear_13 rfl (Nat.le_of_ble_eq_true rfl) ?_
  refine z_aloadR_n (pc := 16) h dX5_clear_16 rfl ?_
  refine z_getA4 (pc := 17) (c := 5) (j := 4) h (by first | assumption | rfl) rfl rfl fl_X5_18 dX5_clear_17 ?_
  refine z_iconst (pc := 20) h dX5_clear_20 ?_
  refine z_vS (pc := 21) h (c_fill (by first | assumption | rfl) (by decide) rfl (by decide) (by omega)) (by decide) ms_J7_fill_53178 ml_X5_59 rfl dX5_clear_21 rfl (Nat.le_of_ble_eq_true rfl) ?_
  refine z_aloadR_n (pc := 24) h dX5_clear_24 rfl ?_
  refine z_getA4 (pc := 25) (c := 5) (j := 5) h (by first | assumption | rfl) rfl rfl fl_X5_21 dX5_clear_25 ?_
  refine z_iconst (pc := 28) h dX5_clear_28 ?_
  refine z_vS (pc := 29) h (c_fill (by first | assumption | rfl) (by decide) rfl (by decide) (by omega)) (by decide) ms_J7_fill_53178 ml_X5_59 rfl dX5_clear_29 rfl (Nat.le_of_ble_eq_true rfl) ?_
  refine z_aloadR_n (pc := 32) h dX5_clear_32 rfl ?_
  refine z_getA4 (pc := 33) (c := 5) (j := 6) h (by first | assumption | rfl) rfl rfl fl_X5_24 dX5_clear_33 ?_
  refine z_iconst (pc := 36) h dX5_clear_36 ?_
  refine z_vS (pc := 37) h (c_fill (by first | assumption | rfl) (by decide) rfl (by decide) (by omega)) (by decide) ms_J7_fill_53178 ml_X5_59 rfl dX5_clear_37 rfl (Nat.le_of_ble_eq_true rfl) ?_
  refine z_aloadR_n (pc := 40) h dX5_clear_40 rfl ?_
  refine z_getA4 (pc := 41) (c := 5) (j := 7) h (by first | assumption | rfl) rfl rfl fl_X5_27 dX5_clear_41 ?_
  refine z_iconst (pc := 44) h dX5_clear_44 ?_
  refine z_vS (pc := 45) h (c_fill (by first | assumption | rfl) (by decide) rfl (by decide) (by omega)) (by decide) ms_J7_fill_53178 ml_X5_59 rfl dX5_clear_45 rfl (Nat.le_of_ble_eq_true rfl) ?_
  refine z_aloadR_n (pc := 48) h dX5_clear_48 rfl ?_
  refine z_getA4 (pc := 49) (c := 5) (j := 8) h (by first | assumption | rfl) rfl rfl fl_X5_30 dX5_clear_49 ?_
  refine z_iconst (pc := 52) h dX5_clear_52 ?_
  refine z_vS (pc := 53) h (c_fill (by first | assumption | rfl) (by decide) rfl (by decide) (by omega)) (by decide) ms_J7_fill_53178 ml_X5_59 rfl dX5_clear_53 rfl (Nat.le_of_ble_eq_true rfl) ?_
  refine z_aloadR_n (pc := 56) h dX5_clear_56 rfl ?_
  refine z_getA4 (pc := 57) (c := 5) (j := 10) h (by first | assumption | rfl) rfl rfl fl_X5_36 dX5_clear_57 ?_
  refine z_iconst (pc := 60) h dX5_clear_60 ?_
  refine z_vS (pc := 61) h (c_fill (by first | assumption | rfl) (by decide) rfl (by decide) (by omega)) (by decide) ms_J7_fill_53178 ml_X5_59 rfl dX5_clear_61 rfl (Nat.le_of_ble_eq_true rfl) ?_
  refine z_aloadR_n (pc := 64) h dX5_clear_64 rfl ?_
  refine z_getA4 (pc := 65) (c := 5) (j := 12) h (by first | assumption | rfl) rfl rfl fl_X5_42 dX5_clear_65 ?_
  refine z_iconst (pc := 68) h dX5_clear_68 ?_
  refine z_vS (pc := 69) h (c_fill (by first | assumption | rfl) (by decide) rfl (by decide) (by omega)) (by decide) ms_J7_fill_53178 ml_X5_59 rfl dX5_clear_69 rfl (Nat.le_of_ble_eq_true rfl) ?_
  refine z_aloadR_n (pc := 72) h dX5_clear_72 rfl ?_
  refine z_getA4 (pc := 73) (c := 5) (j := 13) h (by first | assumption | rfl) rfl rfl fl_X5_45 dX5_clear_73 ?_
  refine z_iconst (pc := 76) h dX5_clear_76 ?_
  refine z_vS (pc := 77) h (c_fill (by first | assumption | rfl) (by decide) rfl (by decide) (by omega)) (by decide) ms_J7_fill_53178 ml_X5_59 rfl dX5_clear_77 rfl (Nat.le_of_ble_eq_true rfl) ?_
  refine z_aloadR_n (pc := 80) h dX5_clear_80 rfl ?_
  refine z_getA4 (pc := 81) (c := 5) (j := 14) h (by first | assumption | rfl) rfl rfl fl_X5_48 dX5_clear_81 ?_
  refine z_iconst (pc := 84) h dX5_clear_84 ?_
  refine z_vS (pc := 85) h (c_fill (by first | assumption | rfl) (by decide) rfl (by decide) (by omega)) (by decide) ms_J7_fill_53178 ml_X5_59 rfl dX5_clear_85 rfl (Nat.le_of_ble_eq_true rfl) ?_
  refine z_aloadR_n (pc := 88) h dX5_clear_88 rfl ?_
  refine z_iconst (pc := 89) h dX5_clear_89 ?_
  refine z_putIo (pc := 90) (c := 5) (j := 16) h (by first | assumption | rfl) rfl rfl fl_X5_112 rfl (tyX5_ok 16 (by decide)) dX5_clear_90 (by omega) ?_
  refine z_aloadR_n (pc := 93) h dX5_clear_93 rfl ?_
  refine z_iconst (pc := 94) h dX5_clear_94 ?_
  refine z_putIo (pc := 95) (c := 5) (j := 17) h (by first | assumption | rfl) rfl rfl fl_X5_75 rfl (tyX5_ok 17 (by decide)) dX5_clear_95 (by omega) ?_
  refine z_ret (pc := 98) h rfl dX5_clear_98 ?_
  exact ⟨rfl, rfl⟩
theorem c_lineUp {σ : zS} {r p : Nat} {Y : zOb} {a : Int → Int} (hu : RUNH r p) (hwa : WFa a) (hwr : WFr a) (hE : DKE (σ 4) a) (hP : PLE (σ p) a) (hx0 : ∀ z, Y.2 14 z = 0) (hu0 : Y.1 17 = 0) : zC M_X5_lineUp 3 [zR r] (zo σ r Y) (fun rr τ' => rr = none ∧ ∃ Y', τ' = zo σ r Y' ∧ (∀ j, j ≠ 11 → j ≠ 14 → Y'.2 j = Y.2 j) ∧ (∀ j, j ≠ 17 → Y'.1 j = Y.1 j) ∧ (∀ d, 0 ≤ d → d < a 0 → Y'.2 11 d = p_at (σ p) d 0) ∧ Y'.1 17 = zcnt (fun t => decide ((σ p).2 0 t ≠ -1)) (a 1) ∧ (∀ z, 0 ≤ z → z ≤ 3 → Y'.2 14 z = zcnt (fun c => decide ((σ p).2 0 ((σ 4).2 14 c) ≠ -1 ∧ (σ 4).2 15 c = z)) ((σ 4).1 2))) := by
  obtain ⟨hr, hr0, hr1, hp, h4, hpr⟩ := hu
  have h6 := hwa.1
  have h8 := hwa.2.1
  have hdn := hE.1
  have htn := hE.2.1
  have hcn := hE.2.2.1
  have h40 := hwa.2.2.2.2.2.2.2
  have hnn := a_fs_nn hwa (t := a 1) h8.1 (Int.le_refl _)
  refine zC_of (M := M_X5_lineUp) (ls := [some (zR r), none]) (n := 1) (by decide) (fun ad => Nat.le_of_ble_eq_true rfl) rfl (fun x h => ?_)
  have T3 : ∀ (Y1 : zOb) (b : Option Value), (∀ j, j ≠ 11 → j ≠ 14 → Y1.2 j = Y.2 j) → (∀ j, j ≠ 17 → Y1.1 j = Y.1 j) → (∀ d, 0 ≤ d → d < a 0 → Y1.2 11 d = p_at (σ p) d 0) → Y1.1 17 = zcnt (fun t => decide ((σ p).2 0 t ≠ -1)) (a 1) → (∀ z, Y1.2 14 z = 0) → zW x (fun rr τ' => rr = none ∧ ∃ Y', τ' = zo σ r Y' ∧ (∀ j, j ≠ 11 → j ≠ 14 → Y'.2 j = Y.2 j) ∧ (∀ j, j ≠ 17 → Y'.1 j = Y.1 j) ∧ (∀ d, 0 ≤ d → d < a 0 → Y'.2 11 d = p_at (σ p) d 0) ∧ Y'.1 17 = zcnt (fun t => decide ((σ p).2 0 t ≠ -1)) (a 1) ∧ (∀ z, 0 ≤ z → z ≤ 3 → Y'.2 14 z = zcnt (fun c => decide ((σ p).2 0 ((σ 4).2 14 c) ≠ -1 ∧ (σ 4).2 15 c = z)) ((σ 4).1 2))) 74 [some (zR r), b] [] (zo σ r Y1) := by
    intro Y1 b t1 t2 t3 t4 t5
    have L : ∀ (n : Nat) (i : Int) (Y2 : zOb), 0 ≤ i → i ≤ (σ 4).1 2 → (σ 4).1 2 - i < n → (∀ j, j ≠ 14 → Y2.2 j = Y1.2 j) → Y2.1 = Y1.1 → (∀ z, 0 ≤ z → z ≤ 3 → Y2.2 14 z = zcnt (fun c => decide ((σ p).2 0 ((σ 4).2 14 c) ≠ -1 ∧ (σ 4).2 15 c = z)) i) → zW x (fun rr τ' => rr = none ∧ ∃ Y', τ' = zo σ r Y' ∧ (∀ j, j ≠ 11 → j ≠ 14 → Y'.2 j = Y.2 j) ∧ (∀ j, j ≠ 17 → Y'.1 j = Y.1 j) ∧ (∀ d, 0 ≤ d → d < a 0 → Y'.2 11 d = p_at (σ p) d 0) ∧ Y'.1 17 = zcnt (fun t => decide ((σ p).2 0 t ≠ -1)) (a 1) ∧ (∀ z, 0 ≤ z → z ≤ 3 → Y'.2 14 z = zcnt (fun c => decide ((σ p).2 0 ((σ 4).2 14 c) ≠ -1 ∧ (σ 4).2 15 c = z)) ((σ 4).1 2))) 76 [some (zR r), some (zI i)] [] (zo σ r Y2) := by
      intro n
      induction n with
      | zero => intro i Y2 h1 h2 h3; omega
      | succ n ih =>
        intro i Y2 h1 h2 h3 u1 u2 u3
        refine z_iload_n (pc := 76) h dX5_lineUp_76 rfl ?_
        refine z_aloadR_n (pc := 77) h dX5_lineUp_77 rfl ?_
        refine z_getR (pc := 78) (c := 5) (j := 0) h (by first | assumption | rfl) (by first | assumption | rfl) rfl rfl fl_X5_51 dX5_lineUp_78 ?_
        refine z_getIq (pc := 81) (c := 1) (j := 2) h (zo_n h4) (by first | assumption | rfl) rfl rfl fl_X5_101 dX5_lineUp_81 (fun g81 => ?_)
        refine z_icmp_ge (pc := 84) (tgt := 129) h (by omega) (by omega) dX5_lineUp_84 (by decide) (fun c84 => ?_) (fun c84 => ?_)
        · refine z_ret (pc := 129) h rfl dX5_lineUp_129 ?_
          have e : i = (σ 4).1 2 := by omega
          subst e
          refine ⟨rfl, Y2, rfl, fun j g0 g1 => ?_, fun j g0 => ?_, fun d g0 g1 => ?_, ?_, u3⟩
          · rw [u1 j g1]; exact t1 j g0 g1
          · rw [u2]; exact t2 j g0
          · rw [u1 11 (by decide)]; exact t3 d g0 g1
          · rw [u2]; exact t4
        · have hci := hE.2.2.2.2.2.2 i h1 (by omega)
          refine z_aloadR_n (pc := 87) h dX5_lineUp_87 rfl ?_
          refine z_getR (pc := 88) (c := 5) (j := 1) h (by first | assumption | rfl) (by first | assumption | rfl) rfl rfl fl_X5_55 dX5_lineUp_88 ?_
          refine z_aloadR_n (pc := 91) h dX5_lineUp_91 rfl ?_
          refine z_getR (pc := 92) (c := 5) (j := 0) h (by first | assumption | rfl) (by first | assumption | rfl) rfl rfl fl_X5_51 dX5_lineUp_92 ?_
          refine z_getA4 (pc := 95) (c := 1) (j := 14) h (by first | assumption | rfl) rfl rfl fl_X5_131 dX5_lineUp_95 ?_
          refine z_iload_n (pc := 98) h dX5_lineUp_98 rfl ?_
          refine z_ialdq (pc := 99) (c := 1) (j := 14) (L := 40) h (zo_n h4) (by first | assumption | rfl) (by decide) rfl (by decide) (by omega) (by omega) dX5_lineUp_99 (fun g99 => ?_)
          refine z_pV (pc := 100) (c := 3) h (c_isInRow hpr hp (by omega)) (by decide) (by first | assumption | rfl) rfl mv_X3_isInRow ml_X5_127 rfl dX5_lineUp_100 rfl (Nat.le_of_ble_eq_true rfl) ?_
          refine z_ifeqB (pc := 103) (tgt := 123) h dX5_lineUp_103 (by decide) (fun c103 => ?_) (fun c103 => ?_)
          · have hno : ∀ z, decide ((σ p).2 0 ((σ 4).2 14 i) ≠ -1 ∧ (σ 4).2 15 i = z) = false := fun z => decide_eq_false (fun y => of_decide_eq_false c103 ⟨hci.1.1, by omega, y.1⟩)
            refine z_inc_1 (pc := 123) h dX5_lineUp_123 (by decide) rfl ?_
            refine z_goto (pc := 126) (tgt := 76) h dX5_lineUp_126 (by decide) ?_
            first
            | (refine ih (i + 1) _ (by omega) (by omega) (by omega) u1 u2 (fun z g0 g1 => ?_)
               rw [zcnt_S _ h1, hno z, u3 z g0 g1]
               simp)
            | (refine ih (i + 1) _ (by omega) (by omega) (by omega) (fun j hj => ?_) u2 (fun z g0 g1 => ?_)
               · rw [osa_2, if_neg hj]; exact u1 j hj
               · rw [osa_2, if_pos rfl, zcnt_S _ h1]
                 by_cases y : z = (σ 4).2 15 i
                 · rw [← y, zup_s, u3 z g0 g1, if_pos (decide_eq_true ⟨c103.2.2, rfl⟩)]
                 · rw [zup_n _ _ y, u3 z g0 g1, if_neg (by rw [decide_eq_false (fun y2 => y y2.2.symm)]; simp)])
          · have c103 := of_decide_eq_true c103
            have hz := u3 _ hci.2.2.1.1 hci.2.2.1.2
            have hzb := zcnt_b (fun c => decide ((σ p).2 0 ((σ 4).2 14 c) ≠ -1 ∧ (σ 4).2 15 c = (σ 4).2 15 i)) (n := i) h1
            refine z_aloadR_n (pc := 106) h dX5_lineUp_106 rfl ?_
            refine z_getA4 (pc := 107) (c := 5) (j := 14) h (by first | assumption | rfl) rfl rfl fl_X5_48 dX5_lineUp_107 ?_
            refine z_aloadR_n (pc := 110) h dX5_lineUp_110 rfl ?_
            refine z_getR (pc := 111) (c := 5) (j := 0) h (by first | assumption | rfl) (by first | assumption | rfl) rfl rfl fl_X5_51 dX5_lineUp_111 ?_
            refine z_getA4 (pc := 114) (c := 1) (j := 15) h (by first | assumption | rfl) rfl rfl fl_X5_134 dX5_lineUp_114 ?_
            refine z_iload_n (pc := 117) h dX5_lineUp_117 rfl ?_
            refine z_ialdq (pc := 118) (c := 1) (j := 15) (L := 40) h (zo_n h4) (by first | assumption | rfl) (by decide) rfl (by decide) (by omega) (by omega) dX5_lineUp_118 (fun g118 => ?_)
            refine z_iconst (pc := 119) h dX5_lineUp_119 ?_
            refine z_vS (pc := 120) h (c_add hr (Or.inr rfl) hci.2.2.1 (by omega)) (by decide) ms_X5_add ml_X5_137 rfl dX5_lineUp_120 rfl (Nat.le_of_ble_eq_true rfl) ?_
            refine z_inc_1 (pc := 123) h dX5_lineUp_123 (by decide) rfl ?_
            refine z_goto (pc := 126) (tgt := 76) h dX5_lineUp_126 (by decide) ?_
            first
            | (refine ih (i + 1) _ (by omega) (by omega) (by omega) u1 u2 (fun z g0 g1 => ?_)
               rw [zcnt_S _ h1, hno z, u3 z g0 g1]
               simp)
            | (refine ih (i + 1) _ (by omega) (by omega) (by omega) (fun j hj => ?_) u2 (fun z g0 g1 => ?_)
               · rw [osa_2, if_neg hj]; exact u1 j hj
               · rw [osa_2, if_pos rfl, zcnt_S _ h1]
                 by_cases y : z = (σ 4).2 15 i
                 · rw [← y, zup_s, u3 z g0 g1, if_pos (decide_eq_true ⟨c103.2.2, rfl⟩)]
                 · rw [zup_n _ _ y, u3 z g0 g1, if_neg (by rw [decide_eq_false (fun y2 => y y2.2.symm)]; simp)])
    refine z_iconst (pc := 74) h dX5_lineUp_74 ?_
    refine z_ist_1 (pc := 75) h dX5_lineUp_75 (by decide) rfl ?_
    exact L ((σ 4).1 2 + 1).toNat 0 Y1 (by omega) (by omega) (by omega) (fun j _ => rfl) rfl (fun z _ _ => t5 z)
  have T2 : ∀ (Y1 : zOb) (b : Option Value), (∀ j, j ≠ 11 → Y1.2 j = Y.2 j) → Y1.1 = Y.1 → (∀ d, 0 ≤ d → d < a 0 → Y1.2 11 d = p_at (σ p) d 0) → zW x (fun rr τ' => rr = none ∧ ∃ Y', τ' = zo σ r Y' ∧ (∀ j, j ≠ 11 → j ≠ 14 → Y'.2 j = Y.2 j) ∧ (∀ j, j ≠ 17 → Y'.1 j = Y.1 j) ∧ (∀ d, 0 ≤ d → d < a 0 → Y'.2 11 d = p_at (σ p) d 0) ∧ Y'.1 17 = zcnt (fun t => decide ((σ p).2 0 t ≠ -1)) (a 1) ∧ (∀ z, 0 ≤ z → z ≤ 3 → Y'.2 14 z = zcnt (fun c => decide ((σ p).2 0 ((σ 4).2 14 c) ≠ -1 ∧ (σ 4).2 15 c = z)) ((σ 4).1 2))) 34 [some (zR r), b] [] (zo σ r Y1) := by
    intro Y1 b t1 t2 t3
    have L : ∀ (n : Nat) (i : Int) (Y2 : zOb), 0 ≤ i → i ≤ a 1 → a 1 - i < n → Y2.2 = Y1.2 → (∀ j, j ≠ 17 → Y2.1 j = Y1.1 j) → Y2.1 17 = zcnt (fun t => decide ((σ p).2 0 t ≠ -1)) i → zW x (fun rr τ' => rr = none ∧ ∃ Y', τ' = zo σ r Y' ∧ (∀ j, j ≠ 11 → j ≠ 14 → Y'.2 j = Y.2 j) ∧ (∀ j, j ≠ 17 → Y'.1 j = Y.1 j) ∧ (∀ d, 0 ≤ d → d < a 0 → Y'.2 11 d = p_at (σ p) d 0) ∧ Y'.1 17 = zcnt (fun t => decide ((σ p).2 0 t ≠ -1)) (a 1) ∧ (∀ z, 0 ≤ z → z ≤ 3 → Y'.2 14 z = zcnt (fun c => decide ((σ p).2 0 ((σ 4).2 14 c) ≠ -1 ∧ (σ 4).2 15 c = z)) ((σ 4).1 2))) 36 [some (zR r), some (zI i)] [] (zo σ r Y2) := by
      intro n
      induction n with
      | zero => intro i Y2 h1 h2 h3; omega
      | succ n ih =>
        intro i Y2 h1 h2 h3 u1 u2 u3
        have hzb := zcnt_b (fun t => decide ((σ p).2 0 t ≠ -1)) (n := i) h1
        refine z_iload_n (pc := 36) h dX5_lineUp_36 rfl ?_
        refine z_aloadR_n (pc := 37) h dX5_lineUp_37 rfl ?_
        refine z_getR (pc := 38) (c := 5) (j := 0) h (by first | assumption | rfl) (by first | assumption | rfl) rfl rfl fl_X5_51 dX5_lineUp_38 ?_
        refine z_getIq (pc := 41) (c := 1) (j := 1) h (zo_n h4) (by first | assumption | rfl) rfl rfl fl_X5_124 dX5_lineUp_41 (fun g41 => ?_)
        refine z_icmp_ge (pc := 44) (tgt := 74) h (by omega) (by omega) dX5_lineUp_44 (by decide) (fun c44 => ?_) (fun c44 => ?_)
        · have e : i = a 1 := by omega
          subst e
          refine T3 Y2 _ (fun j g0 g1 => ?_) (fun j g0 => ?_) (fun d g0 g1 => ?_) u3 (fun z => ?_)
          · rw [u1]; exact t1 j g0
          · rw [u2 j g0, t2]
          · rw [u1]; exact t3 d g0 g1
          · rw [u1, t1 14 (by decide)]; exact hx0 z
        · refine z_aloadR_n (pc := 47) h dX5_lineUp_47 rfl ?_
          refine z_getR (pc := 48) (c := 5) (j := 1) h (by first | assumption | rfl) (by first | assumption | rfl) rfl rfl fl_X5_55 dX5_lineUp_48 ?_
          refine z_iload_n (pc := 51) h dX5_lineUp_51 rfl ?_
          refine z_pV (pc := 52) (c := 3) h (c_isInRow hpr hp (by omega)) (by decide) (by first | assumption | rfl) rfl mv_X3_isInRow ml_X5_127 rfl dX5_lineUp_52 rfl (Nat.le_of_ble_eq_true rfl) ?_
          refine z_ifeqB (pc := 55) (tgt := 68) h dX5_lineUp_55 (by decide) (fun c55 => ?_) (fun c55 => ?_)
          · have hno : decide ((σ p).2 0 i ≠ -1) = false := decide_eq_false (fun y => of_decide_eq_false c55 ⟨h1, by omega, y⟩)
            refine z_inc_1 (pc := 68) h dX5_lineUp_68 (by decide) rfl ?_
            refine z_goto (pc := 71) (tgt := 36) h dX5_lineUp_71 (by decide) ?_
            first
            | (refine ih (i + 1) _ (by omega) (by omega) (by omega) u1 u2 ?_
               rw [zcnt_S _ h1, hno, u3]
               simp)
            | (refine ih (i + 1) _ (by omega) (by omega) (by omega) u1 (fun j hj => ?_) ?_
               · rw [oss_1, if_neg hj]; exact u2 j hj
               · rw [oss_1, if_pos rfl, zcnt_S _ h1, hyes, u3]; simp)
          · have hyes : decide ((σ p).2 0 i ≠ -1) = true := decide_eq_true (of_decide_eq_true c55).2.2
            refine z_aloadR_n (pc := 58) h dX5_lineUp_58 rfl ?_
            refine z_dupR (pc := 59) h dX5_lineUp_59 ?_
            refine z_getIq (pc := 60) (c := 5) (j := 17) h (zo_s _ _ _) (by first | assumption | rfl) rfl rfl fl_X5_75 dX5_lineUp_60 (fun g60 => ?_)
            refine z_iconst (pc := 63) h dX5_lineUp_63 ?_
            refine z_iadd (pc := 64) h dX5_lineUp_64 ?_
            refine z_putIo (pc := 65) (c := 5) (j := 17) h (by first | assumption | rfl) rfl rfl fl_X5_75 rfl (tyX5_ok 17 (by decide)) dX5_lineUp_65 (by omega) ?_
            refine z_inc_1 (pc := 68) h dX5_lineUp_68 (by decide) rfl ?_
            refine z_goto (pc := 71) (tgt := 36) h dX5_lineUp_71 (by decide) ?_
            first
            | (refine ih (i + 1) _ (by omega) (by omega) (by omega) u1 u2 ?_
               rw [zcnt_S _ h1, hno, u3]
               simp)
            | (refine ih (i + 1) _ (by omega) (by omega) (by omega) u1 (fun j hj => ?_) ?_
               · rw [oss_1, if_neg hj]; exact u2 j hj
               · rw [oss_1, if_pos rfl, zcnt_S _ h1, hyes, u3]; simp)
    refine z_iconst (pc := 34) h dX5_lineUp_34 ?_
    refine z_ist_1 (pc := 35) h dX5_lineUp_35 (by decide) rfl ?_
    exact L (a 1 + 1).toNat 0 Y1 (by omega) (by omega) (by omega) rfl (fun j _ => rfl) (by rw [t2]; exact hu0)
  have L : ∀ (n : Nat) (i : Int) (Y2 : zOb), 0 ≤ i → i ≤ a 0 → a 0 - i < n → (∀ j, j ≠ 11 → Y2.2 j = Y.2 j) → Y2.1 = Y.1 → (∀ d, 0 ≤ d → d < i → Y2.2 11 d = p_at (σ p) d 0) → zW x (fun rr τ' => rr = none ∧ ∃ Y', τ' = zo σ r Y' ∧ (∀ j, j ≠ 11 → j ≠ 14 → Y'.2 j = Y.2 j) ∧ (∀ j, j ≠ 17 → Y'.1 j = Y.1 j) ∧ (∀ d, 0 ≤ d → d < a 0 → Y'.2 11 d = p_at (σ p) d 0) ∧ Y'.1 17 = zcnt (fun t => decide ((σ p).2 0 t ≠ -1)) (a 1) ∧ (∀ z, 0 ≤ z → z ≤ 3 → Y'.2 14 z = zcnt (fun c => decide ((σ p).2 0 ((σ 4).2 14 c) ≠ -1 ∧ (σ 4).2 15 c = z)) ((σ 4).1 2))) 2 [some (zR r), some (zI i)] [] (zo σ r Y2) := by
    intro n
    induction n with
    | zero => intro i Y2 h1 h2 h3; omega
    | succ n ih =>
      intro i Y2 h1 h2 h3 u1 u2 u3
      refine z_iload_n (pc := 2) h dX5_lineUp_2 rfl ?_
      refine z_aloadR_n (pc := 3) h dX5_lineUp_3 rfl ?_
      refine z_getR (pc := 4) (c := 5) (j := 0) h (by first | assumption | rfl) (by first | assumption | rfl) rfl rfl fl_X5_51 dX5_lineUp_4 ?_
      refine z_getIq (pc := 7) (c := 1) (j := 0) h (zo_n h4) (by first | assumption | rfl) rfl rfl fl_X5_115 dX5_lineUp_7 (fun g7 => ?_)
      refine z_icmp_ge (pc := 10) (tgt := 34) h (by omega) (by omega) dX5_lineUp_10 (by decide) (fun c10 => ?_) (fun c10 => ?_)
      · exact T2 Y2 _ u1 u2 (fun d g0 g1 => u3 d g0 (by omega))
      · refine z_aloadR_n (pc := 13) h dX5_lineUp_13 rfl ?_
        refine z_getA4 (pc := 14) (c := 5) (j := 11) h (by first | assumption | rfl) rfl rfl fl_X5_39 dX5_lineUp_14 ?_
        refine z_iload_n (pc := 17) h dX5_lineUp_17 rfl ?_
        refine z_aloadR_n (pc := 18) h dX5_lineUp_18 rfl ?_
        refine z_getR (pc := 19) (c := 5) (j := 1) h (by first | assumption | rfl) (by first | assumption | rfl) rfl rfl fl_X5_55 dX5_lineUp_19 ?_
        refine z_iload_n (pc := 22) h dX5_lineUp_22 rfl ?_
        refine z_iconst (pc := 23) h dX5_lineUp_23 ?_
        refine z_pV (pc := 24) (c := 3) h (c_truckAt hpr hp (by omega) (by omega)) (by decide) (by first | assumption | rfl) rfl mv_X3_truckAt ml_X5_118 rfl dX5_lineUp_24 rfl (Nat.le_of_ble_eq_true rfl) ?_
        refine z_iasto (pc := 27) (c := 5) (j := 11) (L := 6) h (by first | assumption | rfl) (by decide) rfl (by decide) (by first | omega | (unfold p_at; rcases zfst_cases (fun t => decide ((σ p).2 0 t = i ∧ (σ p).2 1 t = 0)) 8 with z | z <;> omega)) (by first | omega | (unfold p_at; rcases zfst_cases (fun t => decide ((σ p).2 0 t = i ∧ (σ p).2 1 t = 0)) 8 with z | z <;> omega)) (by first | omega | (unfold p_at; rcases zfst_cases (fun t => decide ((σ p).2 0 t = i ∧ (σ p).2 1 t = 0)) 8 with z | z <;> omega)) dX5_lineUp_27 ?_
        refine z_inc_1 (pc := 28) h dX5_lineUp_28 (by decide) rfl ?_
        refine z_goto (pc := 31) (tgt := 2) h dX5_lineUp_31 (by decide) ?_
        refine ih (i + 1) _ (by omega) (by omega) (by omega) (fun j hj => ?_) u2 (fun d g0 g1 => ?_)
        · rw [osa_2, if_neg hj]; exact u1 j hj
        · rw [osa_2, if_pos rfl]
          by_cases y : d = i
          · rw [y, zup_s]
          · rw [zup_n _ _ y]; exact u3 d g0 (by omega)
  refine z_iconst (pc := 0) h dX5_lineUp_0 ?_
  refine z_ist_1 (pc := 1) h dX5_lineUp_1 (by decide) rfl ?_
  exact L (a 0 + 1).toNat 0 Y (by omega) (by omega) (by omega) (fun j _ => rfl) rfl (fun d g0 g1 => by omega)
