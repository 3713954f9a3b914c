/-! The model: rows are kept and brought back, places are looked up, trucks move. -/
/-- f, but g from lo on, n places -/
def cpf (f g : Int → Int) (lo n : Int) : Int → Int := fun j => if lo ≤ j ∧ j < lo + n then g j else f j
theorem cpf_0 (f g : Int → Int) (lo : Int) : cpf f g lo 0 = f := by
  funext j
  unfold cpf
  rw [if_neg (by omega)]
theorem cpf_S (f g : Int → Int) (lo : Int) {n : Int} (hn : 0 ≤ n) : zup (cpf f g lo n) (lo + n) (g (lo + n)) = cpf f g lo (n + 1) := by
  funext j
  unfold zup cpf
  by_cases y : j = lo + n
  · rw [if_pos y, if_pos (by omega), y]
  · rw [if_neg y]
    by_cases y2 : lo ≤ j ∧ j < lo + n
    · rw [if_pos y2, if_pos (by omega)]
    · rw [if_neg y2, if_neg (by omega)]
theorem osA_osA (m : zOb) (j : Nat) (f g : Int → Int) : osA (osA m j f) j g = osA m j g := by
  unfold osA
  refine Prod.ext rfl (funext fun i => ?_)
  simp only
  split <;> rfl
theorem osA_same (m : zOb) (j : Nat) : osA m j (m.2 j) = m := by
  unfold osA
  refine Prod.ext rfl (funext fun i => ?_)
  simp only
  split
  · rename_i e; rw [e]
  · rfl
theorem osA_at (m : zOb) (j : Nat) (f : Int → Int) : (osA m j f).2 j = f := by
  rw [osA_2, if_pos rfl]
theorem osa_osA (m : zOb) (j : Nat) (f : Int → Int) (n v : Int) : osa (osA m j f) j n v = osA m j (zup f n v) := by
  unfold osa
  rw [osA_at, osA_osA]
theorem m8_keepsRows {σ : zS} {m : zOb} : zCv M_X8_keepsRows 1 [zR 31] (zo σ 31 m) (zo σ 31 (osA m 41 (cpf (m.2 41) (fun j => m.2 1 (65 + j)) 0 54))) := by
  refine zC_of (M := M_X8_keepsRows) (ls := [some (zR 31), none]) (n := 1) (by decide) (fun ad => Nat.le_of_ble_eq_true rfl) rfl (fun x h => ?_)
  have L : ∀ (n : Nat) (i : Int), 0 ≤ i → i ≤ 54 → 54 - i < n → zW x (fun r τ' => r = none ∧ τ' = zo σ 31 (osA m 41 (cpf (m.2 41) (fun j => m.2 1 (65 + j)) 0 54))) 2 [some (zR 31), some (zI i)] [] (zo σ 31 (osA m 41 (cpf (m.2 41) (fun j => m.2 1 (65 + j)) 0 i))) := by
    intro n
    induction n with
    | zero => intro i h1 h2 h3; omega
    | succ n ih =>
      intro i h1 h2 h3
      have hih := ih (i + 1) (by omega)
      have hs := cpf_S (m.2 41) (fun j => m.2 1 (65 + j)) 0 h1
      rw [← hs, ← osa_osA] at hih
      simp only [Int.zero_add] at hih
      have hgo : i = 54 → osA m 41 (cpf (m.2 41) (fun j => m.2 1 (65 + j)) 0 i) = osA m 41 (cpf (m.2 41) (fun j => m.2 1 (65 + j)) 0 54) := fun e => by rw [e]
      have e1 : (osA m 41 (cpf (m.2 41) (fun j => m.2 1 (65 + j)) 0 i)).2 1 = m.2 1 := rfl
      rw [← congrFun e1 (65 + i)] at hih
      generalize osA m 41 (cpf (m.2 41) (fun j => m.2 1 (65 + j)) 0 i) = mm at hih hgo ⊢
      refine z_iload_n (pc := 2) h dX8_keepsRows_2 rfl ?_
      refine z_bipush (pc := 3) h dX8_keepsRows_3 (by decide) ?_
      refine z_icmp_ge (pc := 5) (tgt := 29) h (by omega) (by omega) dX8_keepsRows_5 (by decide) (fun c5 => ?_) (fun c5 => ?_)
      · refine z_ret (pc := 29) h rfl dX8_keepsRows_29 ?_
        exact ⟨rfl, by rw [hgo (by omega)]⟩
      · refine z_aloadR_n (pc := 8) h dX8_keepsRows_8 rfl ?_
        refine z_getA4 (pc := 9) (c := 8) (j := 41) h (by first | assumption | rfl) rfl rfl fl_X8_75 dX8_keepsRows_9 ?_
        refine z_iload_n (pc := 12) h dX8_keepsRows_12 rfl ?_
        refine z_aloadR_n (pc := 13) h dX8_keepsRows_13 rfl ?_
        refine z_getA4 (pc := 14) (c := 8) (j := 1) h (by first | assumption | rfl) rfl rfl fl_X8_7 dX8_keepsRows_14 ?_
        refine z_bipush (pc := 17) h dX8_keepsRows_17 (by decide) ?_
        refine z_iload_n (pc := 19) h dX8_keepsRows_19 rfl ?_
        refine z_iadd (pc := 20) h dX8_keepsRows_20 ?_
        refine z_ialdq (pc := 21) (c := 8) (j := 1) (L := 610) h (zo_s _ _ _) (by first | assumption | rfl) (by decide) rfl (by decide) (by omega) (by omega) dX8_keepsRows_21 (fun g21 => ?_)
        refine z_iasto (pc := 22) (c := 8) (j := 41) (L := 54) h (by first | assumption | rfl) (by decide) rfl (by decide) (by omega) (by omega) (by omega) dX8_keepsRows_22 ?_
        refine z_inc_1 (pc := 23) h dX8_keepsRows_23 (by decide) rfl ?_
        refine z_goto (pc := 26) (tgt := 2) h dX8_keepsRows_26 (by decide) ?_
        exact hih (by omega) (by omega)
  have e0 := cpf_0 (m.2 41) (fun j => m.2 1 (65 + j)) 0
  refine z_iconst (pc := 0) h dX8_keepsRows_0 ?_
  refine z_ist_1 (pc := 1) h dX8_keepsRows_1 (by decide) rfl ?_
  have := L 55 0 (by omega) (by omega) (by omega)
  rw [e0, osA_same] at this
  exact this
theorem m8_rowsBack {σ : zS} {m : zOb} : zCv M_X8_rowsBack 1 [zR 31] (zo σ 31 m) (zo σ 31 (osA m 1 (cpf (m.2 1) (fun j => m.2 41 (j - 65)) 65 54))) := by
  refine zC_of (M := M_X8_rowsBack) (ls := [some (zR 31), none]) (n := 1) (by decide) (fun ad => Nat.le_of_ble_eq_true rfl) rfl (fun x h => ?_)
  have L : ∀ (n : Nat) (i : Int), 0 ≤ i → i ≤ 54 → 54 - i < n → zW x (fun r τ' => r = none ∧ τ' = zo σ 31 (osA m 1 (cpf (m.2 1) (fun j => m.2 41 (j - 65)) 65 54))) 2 [some (zR 31), some (zI i)] [] (zo σ 31 (osA m 1 (cpf (m.2 1) (fun j => m.2 41 (j - 65)) 65 i))) := by
    intro n
    induction n with
    | zero => intro i h1 h2 h3; omega
    | succ n ih =>
      intro i h1 h2 h3
      have hih := ih (i + 1) (by omega)
      have hs := cpf_S (m.2 1) (fun j => m.2 41 (j - 65)) 65 h1
      rw [← hs, ← osa_osA] at hih
      simp only [show 65 + i - 65 = i by omega] at hih
      have hgo : i = 54 → osA m 1 (cpf (m.2 1) (fun j => m.2 41 (j - 65)) 65 i) = osA m 1 (cpf (m.2 1) (fun j => m.2 41 (j - 65)) 65 54) := fun e => by rw [e]
      have e1 : (osA m 1 (cpf (m.2 1) (fun j => m.2 41 (j - 65)) 65 i)).2 41 = m.2 41 := rfl
      rw [← congrFun e1 i] at hih
      generalize osA m 1 (cpf (m.2 1) (fun j => m.2 41 (j - 65)) 65 i) = mm at hih hgo ⊢
      refine z_iload_n (pc := 2) h dX8_rowsBack_2 rfl ?_
      refine z_bipush (pc := 3) h dX8_rowsBack_3 (by decide) ?_
      refine z_icmp_ge (pc := 5) (tgt := 29) h (by omega) (by omega) dX8_rowsBack_5 (by decide) (fun c5 => ?_) (fun c5 => ?_)
      · refine z_ret (pc := 29) h rfl dX8_rowsBack_29 ?_
        exact ⟨rfl, by rw [hgo (by omega)]⟩
      · refine z_aloadR_n (pc := 8) h dX8_rowsBack_8 rfl ?_
        refine z_getA4 (pc := 9) (c := 8) (j := 1) h (by first | assumption | rfl) rfl rfl fl_X8_7 dX8_rowsBack_9 ?_
        refine z_bipush (pc := 12) h dX8_rowsBack_12 (by decide) ?_
        refine z_iload_n (pc := 14) h dX8_rowsBack_14 rfl ?_
        refine z_iadd (pc := 15) h dX8_rowsBack_15 ?_
        refine z_aloadR_n (pc := 16) h dX8_rowsBack_16 rfl ?_
        refine z_getA4 (pc := 17) (c := 8) (j := 41) h (by first | assumption | rfl) rfl rfl fl_X8_75 dX8_rowsBack_17 ?_
        refine z_iload_n (pc := 20) h dX8_rowsBack_20 rfl ?_
        refine z_ialdq (pc := 21) (c := 8) (j := 41) (L := 54) h (zo_s _ _ _) (by first | assumption | rfl) (by decide) rfl (by decide) (by omega) (by omega) dX8_rowsBack_21 (fun g21 => ?_)
        refine z_iasto (pc := 22) (c := 8) (j := 1) (L := 610) h (by first | assumption | rfl) (by decide) rfl (by decide) (by omega) (by omega) (by omega) dX8_rowsBack_22 ?_
        refine z_inc_1 (pc := 23) h dX8_rowsBack_23 (by decide) rfl ?_
        refine z_goto (pc := 26) (tgt := 2) h dX8_rowsBack_26 (by decide) ?_
        exact hih (by omega) (by omega)
  have e0 := cpf_0 (m.2 1) (fun j => m.2 41 (j - 65)) 65
  refine z_iconst (pc := 0) h dX8_rowsBack_0 ?_
  refine z_ist_1 (pc := 1) h dX8_rowsBack_1 (by decide) rfl ?_
  have := L 55 0 (by omega) (by omega) (by omega)
  rw [e0, osA_same] at this
  exact this
theorem m8_takesBest {σ : zS} {m : zOb} : zCv M_X8_takesBest 1 [zR 31] (zo σ 31 m) (zo σ 31 (osA m 1 (cpf (m.2 1) (fun j => m.2 43 (j - 65)) 65 54))) := by
  refine zC_of (M := M_X8_takesBest) (ls := [some (zR 31), none]) (n := 1) (by decide) (fun ad => Nat.le_of_ble_eq_true rfl) rfl (fun x h => ?_)
  have L : ∀ (n : Nat) (i : Int), 0 ≤ i → i ≤ 54 → 54 - i < n → zW x (fun r τ' => r = none ∧ τ' = zo σ 31 (osA m 1 (cpf (m.2 1) (fun j => m.2 43 (j - 65)) 65 54))) 2 [some (zR 31), some (zI i)] [] (zo σ 31 (osA m 1 (cpf (m.2 1) (fun j => m.2 43 (j - 65)) 65 i))) := by
    intro n
    induction n with
    | zero => intro i h1 h2 h3; omega
    | succ n ih =>
      intro i h1 h2 h3
      have hih := ih (i + 1) (by omega)
      have hs := cpf_S (m.2 1) (fun j => m.2 43 (j - 65)) 65 h1
      rw [← hs, ← osa_osA] at hih
      simp only [show 65 + i - 65 = i by omega] at hih
      have hgo : i = 54 → osA m 1 (cpf (m.2 1) (fun j => m.2 43 (j - 65)) 65 i) = osA m 1 (cpf (m.2 1) (fun j => m.2 43 (j - 65)) 65 54) := fun e => by rw [e]
      have e1 : (osA m 1 (cpf (m.2 1) (fun j => m.2 43 (j - 65)) 65 i)).2 43 = m.2 43 := rfl
      rw [← congrFun e1 i] at hih
      generalize osA m 1 (cpf (m.2 1) (fun j => m.2 43 (j - 65)) 65 i) = mm at hih hgo ⊢
      refine z_iload_n (pc := 2) h dX8_takesBest_2 rfl ?_
      refine z_bipush (pc := 3) h dX8_takesBest_3 (by decide) ?_
      refine z_icmp_ge (pc := 5) (tgt := 29) h (by omega) (by omega) dX8_takesBest_5 (by decide) (fun c5 => ?_) (fun c5 => ?_)
      · refine z_ret (pc := 29) h rfl dX8_takesBest_29 ?_
        exact ⟨rfl, by rw [hgo (by omega)]⟩
      · refine z_aloadR_n (pc := 8) h dX8_takesBest_8 rfl ?_
        refine z_getA4 (pc := 9) (c := 8) (j := 1) h (by first | assumption | rfl) rfl rfl fl_X8_7 dX8_takesBest_9 ?_
        refine z_bipush (pc := 12) h dX8_takesBest_12 (by decide) ?_
        refine z_iload_n (pc := 14) h dX8_takesBest_14 rfl ?_
        refine z_iadd (pc := 15) h dX8_takesBest_15 ?_
        refine z_aloadR_n (pc := 16) h dX8_takesBest_16 rfl ?_
        refine z_getA4 (pc := 17) (c := 8) (j := 43) h (by first | assumption | rfl) rfl rfl fl_X8_78 dX8_takesBest_17 ?_
        refine z_iload_n (pc := 20) h dX8_takesBest_20 rfl ?_
        refine z_ialdq (pc := 21) (c := 8) (j := 43) (L := 54) h (zo_s _ _ _) (by first | assumption | rfl) (by decide) rfl (by decide) (by omega) (by omega) dX8_takesBest_21 (fun g21 => ?_)
        refine z_iasto (pc := 22) (c := 8) (j := 1) (L := 610) h (by first | assumption | rfl) (by decide) rfl (by decide) (by omega) (by omega) (by omega) dX8_takesBest_22 ?_
        refine z_inc_1 (pc := 23) h dX8_takesBest_23 (by decide) rfl ?_
        refine z_goto (pc := 26) (tgt := 2) h dX8_takesBest_26 (by decide) ?_
        exact hih (by omega) (by omega)
  have e0 := cpf_0 (m.2 1) (fun j => m.2 43 (j - 65)) 65
  refine z_iconst (pc := 0) h dX8_takesBest_0 ?_
  refine z_ist_1 (pc := 1) h dX8_takesBest_1 (by decide) rfl ?_
  have := L 55 0 (by omega) (by omega) (by omega)
  rw [e0, osA_same] at this
  exact this
theorem m8_remembers {σ : zS} {m : zOb} : zCv M_X8_remembers 1 [zR 31] (zo σ 31 m) (zo σ 31 (osA m 47 (cpf (m.2 47) (m.2 1) 0 119))) := by
  refine zC_of (M := M_X8_remembers) (ls := [some (zR 31), none]) (n := 1) (by decide) (fun ad => Nat.le_of_ble_eq_true rfl) rfl (fun x h => ?_)
  have L : ∀ (n : Nat) (i : Int), 0 ≤ i → i ≤ 119 → 119 - i < n → zW x (fun r τ' => r = none ∧ τ' = zo σ 31 (osA m 47 (cpf (m.2 47) (m.2 1) 0 119))) 2 [some (zR 31), some (zI i)] [] (zo σ 31 (osA m 47 (cpf (m.2 47) (m.2 1) 0 i))) := by
    intro n
    induction n with
    | zero => intro i h1 h2 h3; omega
    | succ n ih =>
      intro i h1 h2 h3
      have hih := ih (i + 1) (by omega)
      have hs := cpf_S (m.2 47) (m.2 1) 0 h1
      rw [← hs, ← osa_osA] at hih
      simp only [Int.zero_add] at hih
      have hgo : i = 119 → osA m 47 (cpf (m.2 47) (m.2 1) 0 i) = osA m 47 (cpf (m.2 47) (m.2 1) 0 119) := fun e => by rw [e]
      have e1 : (osA m 47 (cpf (m.2 47) (m.2 1) 0 i)).2 1 = m.2 1 := rfl
      rw [← congrFun e1 i] at hih
      generalize osA m 47 (cpf (m.2 47) (m.2 1) 0 i) = mm at hih hgo ⊢
      refine z_iload_n (pc := 2) h dX8_remembers_2 rfl ?_
      refine z_bipush (pc := 3) h dX8_remembers_3 (by decide) ?_
      refine z_icmp_ge (pc := 5) (tgt := 26) h (by omega) (by omega) dX8_remembers_5 (by decide) (fun c5 => ?_) (fun c5 => ?_)
      · refine z_ret (pc := 26) h rfl dX8_remembers_26 ?_
        exact ⟨rfl, by rw [hgo (by omega)]⟩
      · refine z_aloadR_n (pc := 8) h dX8_remembers_8 rfl ?_
        refine z_getA4 (pc := 9) (c := 8) (j := 47) h (by first | assumption | rfl) rfl rfl fl_X8_81 dX8_remembers_9 ?_
        refine z_iload_n (pc := 12) h dX8_remembers_12 rfl ?_
        refine z_aloadR_n (pc := 13) h dX8_remembers_13 rfl ?_
        refine z_getA4 (pc := 14) (c := 8) (j := 1) h (by first | assumption | rfl) rfl rfl fl_X8_7 dX8_remembers_14 ?_
        refine z_iload_n (pc := 17) h dX8_remembers_17 rfl ?_
        refine z_ialdq (pc := 18) (c := 8) (j := 1) (L := 610) h (zo_s _ _ _) (by first | assumption | rfl) (by decide) rfl (by decide) (by omega) (by omega) dX8_remembers_18 (fun g18 => ?_)
        refine z_iasto (pc := 19) (c := 8) (j := 47) (L := 119) h (by first | assumption | rfl) (by decide) rfl (by decide) (by omega) (by omega) (by omega) dX8_remembers_19 ?_
        refine z_inc_1 (pc := 20) h dX8_remembers_20 (by decide) rfl ?_
        refine z_goto (pc := 23) (tgt := 2) h dX8_remembers_23 (by decide) ?_
        exact hih (by omega) (by omega)
  have e0 := cpf_0 (m.2 47) (m.2 1) 0
  refine z_iconst (pc := 0) h dX8_remembers_0 ?_
  refine z_ist_1 (pc := 1) h dX8_remembers_1 (by decide) rfl ?_
  have := L 120 0 (by omega) (by omega) (by omega)
  rw [e0, osA_same] at this
  exact this
theorem POS.rng {P0 P1 a : Int → Int} (hwa : WFa a) (h : POS P0 P1 a) {t : Int} (t0 : 0 ≤ t) (t1 : t < a 1) : (-1 ≤ P0 t ∧ P0 t < 6) ∧ -1 ≤ P1 t ∧ P1 t < 8 := by
  have h8 := hwa.2.1
  have h6 := hwa.1
  rcases h.2.2 t t0 (by omega) with z | ⟨z0, z1, z2, z3⟩
  · omega
  · have := h.1 _ z1.1 z1.2
    omega
theorem m8_doorNow {σ : zS} {m : zOb} {P0 P1 : Int → Int} {t : Int} (hwa : WFa (m.2 1)) (hP : POS P0 P1 (m.2 1)) (t0 : 0 ≤ t) (t1 : t < m.2 1 1) : zCp M_X8_doorNow 2 [zR 31, zI t] (zo σ 31 m) (zI (P0 t)) := by
  have h6 := hwa.1
  have h8 := hwa.2.1
  refine zC_of (M := M_X8_doorNow) (ls := [some (zR 31), some (zI t), none, none]) (n := 2) (by decide) (fun ad => Nat.le_of_ble_eq_true rfl) rfl (fun x h => ?_)
  have L : ∀ (n : Nat) (d : Int) (lk : Option Value), 0 ≤ d → d ≤ m.2 1 0 → m.2 1 0 - d < n → (∀ e j, 0 ≤ e → e < d → 0 ≤ j → j < m.2 1 (65 + e) → m.2 1 (71 + 8 * e + j) ≠ t) → zW x (fun r τ' => r = some (zI (P0 t)) ∧ τ' = zo σ 31 m) 2 [some (zR 31), some (zI t), some (zI d), lk] [] (zo σ 31 m) := by
    intro n
    induction n with
    | zero => intro d lk h1 h2 h3; omega
    | succ n ih =>
      intro d lk h1 h2 h3 hno
      have L2 : ∀ (n2 : Nat) (k : Int), d < m.2 1 0 → 0 ≤ k → k ≤ m.2 1 (65 + d) → m.2 1 (65 + d) - k < n2 → (∀ j, 0 ≤ j → j < k → m.2 1 (71 + 8 * d + j) ≠ t) → zW x (fun r τ' => r = some (zI (P0 t)) ∧ τ' = zo σ 31 m) 14 [some (zR 31), some (zI t), some (zI d), some (zI k)] [] (zo σ 31 m) := by
        intro n2
        induction n2 with
        | zero => intro k g0 g1 g2 g3; omega
        | succ n2 ih2 =>
          intro k g0 g1 g2 g3 hnk
          have hr := hP.1 d h1 g0
          refine z_iload_n (pc := 14) h dX8_doorNow_14 rfl ?_
          refine z_aloadR_n (pc := 15) h dX8_doorNow_15 rfl ?_
          refine z_iload_n (pc := 16) h dX8_doorNow_16 rfl ?_
          refine z_pV (pc := 17) (c := 8) h (m8_rowMany (by omega)) (by decide) (by first | assumption | rfl) rfl mv_X8_rowMany ml_X8_191 rfl dX8_doorNow_17 rfl (Nat.le_of_ble_eq_true rfl) ?_
          refine z_icmp_ge (pc := 20) (tgt := 41) h (by omega) (by omega) dX8_doorNow_20 (by decide) (fun c20 => ?_) (fun c20 => ?_)
          · refine z_inc_2 (pc := 41) h dX8_doorNow_41 (by decide) rfl ?_
            refine z_goto (pc := 44) (tgt := 2) h dX8_doorNow_44 (by decide) ?_
            refine ih (d + 1) _ (by omega) (by omega) (by omega) (fun e j y0 y1 y2 y3 => ?_)
            by_cases ee : e = d
            · subst ee; exact hnk j y2 (by omega)
            · exact hno e j y0 (by omega) y2 y3
          · refine z_aloadR_n (pc := 23) h dX8_doorNow_23 rfl ?_
            refine z_iload_n (pc := 24) h dX8_doorNow_24 rfl ?_
            refine z_iload_n (pc := 25) h dX8_doorNow_25 rfl ?_
            refine z_pV (pc := 26) (c := 8) h (m8_rowAt (by omega) (by omega)) (by decide) (by first | assumption | rfl) rfl mv_X8_rowAt ml_X8_205 rfl dX8_doorNow_26 rfl (Nat.le_of_ble_eq_true rfl) ?_
            have hz := (hP.2.1 d k h1 g0 g1 (by omega)).1
            refine z_iload_n (pc := 29) h dX8_doorNow_29 rfl ?_
            refine z_icmp_ne (pc := 30) (tgt := 35) h (by omega) (by omega) dX8_doorNow_30 (by decide) (fun c30 => ?_) (fun c30 => ?_)
            · refine z_inc_3 (pc := 35) h dX8_doorNow_35 (by decide) rfl ?_
              refine z_goto (pc := 38) (tgt := 14) h dX8_doorNow_38 (by decide) ?_
              refine ih2 (k + 1) g0 (by omega) (by omega) (by omega) (fun j y0 y1 => ?_)
              by_cases e : j = k
              · subst e; exact c30
              · exact hnk j y0 (by omega)
            · refine z_iload_n (pc := 33) h dX8_doorNow_33 rfl ?_
              refine z_iret (pc := 34) h rfl dX8_doorNow_34 ?_
              have z := (hP.2.1 d k h1 g0 g1 (by omega)).2.2.1
              rw [c30] at z
              exact ⟨by rw [z], rfl⟩
      refine z_iload_n (pc := 2) h dX8_doorNow_2 rfl ?_
      refine z_aloadR_n (pc := 3) h dX8_doorNow_3 rfl ?_
      refine z_getA4 (pc := 4) (c := 8) (j := 1) h (by first | assumption | rfl) rfl rfl fl_X8_7 dX8_doorNow_4 ?_
      refine z_iconst (pc := 7) h dX8_doorNow_7 ?_
      refine z_ialdq (pc := 8) (c := 8) (j := 1) (L := 610) h (zo_s _ _ _) (by first | assumption | rfl) (by decide) rfl (by decide) (by omega) (by omega) dX8_doorNow_8 (fun g8 => ?_)
      refine z_icmp_ge (pc := 9) (tgt := 47) h (by omega) (by omega) dX8_doorNow_9 (by decide) (fun c9 => ?_) (fun c9 => ?_)
      · refine z_iconst (pc := 47) h dX8_doorNow_47 ?_
        refine z_iret (pc := 48) h rfl dX8_doorNow_48 ?_
        refine ⟨congrArg (fun z => some (zI z)) ?_, rfl⟩
        rcases hP.2.2 t t0 (by omega) with z | ⟨z0, z1, z2, z3⟩
        · exact z.1.symm
        · exact absurd z3 (hno _ _ z1.1 (by omega) z2.1 z2.2)
      · refine z_iconst (pc := 12) h dX8_doorNow_12 ?_
        refine z_ist_3 (pc := 13) h dX8_doorNow_13 (by decide) rfl ?_
        have hr := hP.1 d h1 (by omega)
        exact L2 (m.2 1 (65 + d) + 1).toNat 0 (by omega) (by omega) (by omega) (by omega) (fun j y0 y1 => by omega)
  refine z_iconst (pc := 0) h dX8_doorNow_0 ?_
  refine z_ist_2 (pc := 1) h dX8_doorNow_1 (by decide) rfl ?_
  exact L (m.2 1 0 + 1).toNat 0 _ (by omega) (by omega) (by omega) (fun e j y0 y1 => by omega)
theorem m8_placeNow {σ : zS} {m : zOb} {P0 P1 : Int → Int} {t : Int} (hwa : WFa (m.2 1)) (hP : POS P0 P1 (m.2 1)) (t0 : 0 ≤ t) (t1 : t < m.2 1 1) (hp : P0 t ≠ -1) : zCp M_X8_placeNow 2 [zR 31, zI t, zI (P0 t)] (zo σ 31 m) (zI (P1 t)) := by
  have h6 := hwa.1
  have h8 := hwa.2.1
  obtain ⟨p1, p2, p3, p4⟩ := hP.at hwa t0 t1 hp
  have hr := hP.1 _ p1.1 p1.2
  refine zC_of (M := M_X8_placeNow) (ls := [some (zR 31), some (zI t), some (zI (P0 t)), none]) (n := 1) (by decide) (fun ad => Nat.le_of_ble_eq_true rfl) rfl (fun x h => ?_)
  have L : ∀ (n : Nat) (k : Int), 0 ≤ k → k ≤ P1 t → P1 t - k < n → zW x (fun r τ' => r = some (zI (P1 t)) ∧ τ' = zo σ 31 m) 2 [some (zR 31), some (zI t), some (zI (P0 t)), some (zI k)] [] (zo σ 31 m) := by
    intro n
    induction n with
    | zero => intro k h1 h2 h3; omega
    | succ n ih =>
      intro k h1 h2 h3
      have hne : k ≠ P1 t → m.2 1 (71 + 8 * P0 t + k) ≠ t := fun z => hP.ne p1.1 p1.2 h1 (by omega) (Or.inr z)
      refine z_aloadR_n (pc := 2) h dX8_placeNow_2 rfl ?_
      refine z_iload_n (pc := 3) h dX8_placeNow_3 rfl ?_
      refine z_iload_n (pc := 4) h dX8_placeNow_4 rfl ?_
      refine z_pV (pc := 5) (c := 8) h (m8_rowAt (by omega) (by omega)) (by decide) (by first | assumption | rfl) rfl mv_X8_rowAt ml_X8_205 rfl dX8_placeNow_5 rfl (Nat.le_of_ble_eq_true rfl) ?_
      have hz := (hP.2.1 _ k p1.1 p1.2 h1 (by omega)).1
      refine z_iload_n (pc := 8) h dX8_placeNow_8 rfl ?_
      refine z_icmp_eq (pc := 9) (tgt := 18) h (by omega) (by omega) dX8_placeNow_9 (by decide) (fun c9 => ?_) (fun c9 => ?_)
      · refine z_iload_n (pc := 18) h dX8_placeNow_18 rfl ?_
        refine z_iret (pc := 19) h rfl dX8_placeNow_19 ?_
        refine ⟨congrArg (fun z => some (zI z)) ?_, rfl⟩
        by_cases z : k = P1 t
        · exact z
        · exact absurd c9 (hne z)
      · refine z_inc_3 (pc := 12) h dX8_placeNow_12 (by decide) rfl ?_
        refine z_goto (pc := 15) (tgt := 2) h dX8_placeNow_15 (by decide) ?_
        refine ih (k + 1) (by omega) ?_ ?_
        · by_cases z : k = P1 t
          · rw [z] at c9; exact absurd p3 c9
          · omega
        · by_cases z : k = P1 t
          · rw [z] at c9; exact absurd p3 c9
          · omega
  refine z_iconst (pc := 0) h dX8_placeNow_0 ?_
  refine z_ist_3 (pc := 1) h dX8_placeNow_1 (by decide) rfl ?_
  exact L (P1 t + 1).toNat 0 (by omega) (by omega) (by omega)
theorem m8_othersIn {σ : zS} {m : zOb} {P0 P1 : Int → Int} {t d : Int} (hwa : WFa (m.2 1)) (hP : POS P0 P1 (m.2 1)) (t0 : 0 ≤ t) (t1 : t < m.2 1 1) (d0 : 0 ≤ d) (d1 : d < m.2 1 0) : zCp M_X8_othersIn 3 [zR 31, zI d, zI t] (zo σ 31 m) (zI (m.2 1 (65 + d) - (if P0 t = d then 1 else 0))) := by
  have h6 := hwa.1
  have hr := hP.1 d d0 d1
  have h8 := hwa.2.1
  have hpt := hP.rng hwa t0 t1
  refine zC_of (M := M_X8_othersIn) (ls := [some (zR 31), some (zI d), some (zI t)]) (n := 0) (by decide) (fun ad => Nat.le_of_ble_eq_true rfl) rfl (fun x h => ?_)
  refine z_aloadR_n (pc := 0) h dX8_othersIn_0 rfl ?_
  refine z_iload_n (pc := 1) h dX8_othersIn_1 rfl ?_
  refine z_pV (pc := 2) (c := 8) h (m8_rowMany (by omega)) (by decide) (by first | assumption | rfl) rfl mv_X8_rowMany ml_X8_191 rfl dX8_othersIn_2 rfl (Nat.le_of_ble_eq_true rfl) ?_
  refine z_aloadR_n (pc := 5) h dX8_othersIn_5 rfl ?_
  refine z_iload_n (pc := 6) h dX8_othersIn_6 rfl ?_
  refine z_pV (pc := 7) (c := 8) h (m8_doorNow hwa hP (by omega) (by omega)) (by decide) (by first | assumption | rfl) rfl mv_X8_doorNow ml_X8_284 rfl dX8_othersIn_7 rfl (Nat.le_of_ble_eq_true rfl) ?_
  refine z_iload_n (pc := 10) h dX8_othersIn_10 rfl ?_
  refine z_icmp_ne (pc := 11) (tgt := 18) h (by omega) (by omega) dX8_othersIn_11 (by decide) (fun c11 => ?_) (fun c11 => ?_)
  · refine z_iconst (pc := 18) h dX8_othersIn_18 ?_
    refine z_isub (pc := 19) h dX8_othersIn_19 ?_
    refine z_iret (pc := 20) h rfl dX8_othersIn_20 ?_
    first
    | (rw [if_pos c11]; exact ⟨rfl, rfl⟩)
    | (rw [if_neg c11]; exact ⟨rfl, rfl⟩)
  · refine z_iconst (pc := 14) h dX8_othersIn_14 ?_
    refine z_goto (pc := 15) (tgt := 19) h dX8_othersIn_15 (by decide) ?_
    refine z_isub (pc := 19) h dX8_othersIn_19 ?_
    refine z_iret (pc := 20) h rfl dX8_othersIn_20 ?_
    first
    | (rw [if_pos c11]; exact ⟨rfl, rfl⟩)
    | (rw [if_neg c11]; exact ⟨rfl, rfl⟩)
