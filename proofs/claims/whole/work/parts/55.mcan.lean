/-! The model: what is other, what can be, goesTo and changes. -/
theorem m8_isOther {σ : zS} {m : zOb} {v : Bool} (h6 : 0 ≤ m.2 1 0 ∧ m.2 1 0 ≤ 6) (hr : ∀ e, 0 ≤ e → e < m.2 1 0 → 0 ≤ m.2 1 (65 + e) ∧ m.2 1 (65 + e) ≤ 8) (hv : v = true ↔ a_ne (m.2 1) (m.2 41)) : zCp M_X8_isOther 2 [zR 31] (zo σ 31 m) (zB v) := by
  refine zC_of (M := M_X8_isOther) (ls := [some (zR 31), none, none, none]) (n := 3) (by decide) (fun ad => Nat.le_of_ble_eq_true rfl) rfl (fun x h => ?_)
  refine z_rgo (fun hrg => ?_)
  have hz : ∀ j, zin (m.2 1 j) := fun j => hrg.2 1 j
  have hz2 : ∀ j, zin (m.2 41 j) := fun j => hrg.2 41 j
  have L : ∀ (n : Nat) (d s : Int) (lk : Option Value), 0 ≤ d → d ≤ m.2 1 0 → m.2 1 0 - d < n → ((s = 0 ∧ ∀ e, 0 ≤ e → e < d → m.2 1 (65 + e) = m.2 41 e ∧ ∀ j, 0 ≤ j → j < m.2 1 (65 + e) → m.2 1 (71 + 8 * e + j) = m.2 41 (6 + 8 * e + j)) ∨ (s = 1 ∧ a_ne (m.2 1) (m.2 41))) → zW x (fun r τ' => r = some (zB v) ∧ τ' = zo σ 31 m) 4 [some (zR 31), some (zI s), some (zI d), lk] [] (zo σ 31 m) := by
    intro n
    induction n with
    | zero => intro d s lk h1 h2 h3; omega
    | succ n ih =>
      intro d s lk h1 h2 h3 hs
      have hs01 : s = 0 ∨ s = 1 := by rcases hs with z | z; exact Or.inl z.1; exact Or.inr z.1
      have L2 : ∀ (n2 : Nat) (k s : Int), d < m.2 1 0 → 0 ≤ k → k ≤ m.2 1 (65 + d) → m.2 1 (65 + d) - k < n2 → ((s = 0 ∧ (∀ e, 0 ≤ e → e < d → m.2 1 (65 + e) = m.2 41 e ∧ ∀ j, 0 ≤ j → j < m.2 1 (65 + e) → m.2 1 (71 + 8 * e + j) = m.2 41 (6 + 8 * e + j)) ∧ m.2 1 (65 + d) = m.2 41 d ∧ ∀ j, 0 ≤ j → j < k → m.2 1 (71 + 8 * d + j) = m.2 41 (6 + 8 * d + j)) ∨ (s = 1 ∧ a_ne (m.2 1) (m.2 41))) → zW x (fun r τ' => r = some (zB v) ∧ τ' = zo σ 31 m) 40 [some (zR 31), some (zI s), some (zI d), some (zI k)] [] (zo σ 31 m) := by
        intro n2
        induction n2 with
        | zero => intro k s g0 g1 g2 g3; omega
        | succ n2 ih2 =>
          intro k s g0 g1 g2 g3 hk
          have hs01 : s = 0 ∨ s = 1 := by rcases hk with z | z; exact Or.inl z.1; exact Or.inr z.1
          have hrd := hr d h1 g0
          have hza := hz (71 + 8 * d + k)
          have hzb := hz2 (6 + 8 * d + k)
          refine z_iload_n (pc := 40) h dX8_isOther_40 rfl ?_
          refine z_aloadR_n (pc := 41) h dX8_isOther_41 rfl ?_
          refine z_iload_n (pc := 42) h dX8_isOther_42 rfl ?_
          refine z_pV (pc := 43) (c := 8) h (m8_rowMany (by omega)) (by decide) (by first | assumption | rfl) rfl mv_X8_rowMany ml_X8_191 rfl dX8_isOther_43 rfl (Nat.le_of_ble_eq_true rfl) ?_
          refine z_icmp_ge (pc := 46) (tgt := 88) h (by omega) (by omega) dX8_isOther_46 (by decide) (fun c46 => ?_) (fun c46 => ?_)
          · refine z_inc_2 (pc := 88) h dX8_isOther_88 (by decide) rfl ?_
            refine z_goto (pc := 91) (tgt := 4) h dX8_isOther_91 (by decide) ?_
            refine ih (d + 1) _ _ (by omega) (by omega) (by omega) ?_
            rcases hk with ⟨z1, z2, z3, z4⟩ | ⟨z1, z2⟩
            · left
              refine ⟨z1, fun e y0 y1 => ?_⟩
              by_cases ed : e = d
              · rw [ed]; exact ⟨z3, fun j y2 y3 => z4 j y2 (by omega)⟩
              · exact z2 e y0 (by omega)
            · right; exact ⟨z1, z2⟩
          · refine z_iload_n (pc := 49) h dX8_isOther_49 rfl ?_
            refine z_if_ne (pc := 50) (tgt := 88) h (by omega) dX8_isOther_50 (by decide) (fun c50 => ?_) (fun c50 => ?_)
            · refine z_inc_2 (pc := 88) h dX8_isOther_88 (by decide) rfl ?_
              refine z_goto (pc := 91) (tgt := 4) h dX8_isOther_91 (by decide) ?_
              refine ih (d + 1) _ _ (by omega) (by omega) (by omega) ?_
              rcases hk with ⟨z1, z2, z3, z4⟩ | ⟨z1, z2⟩
              · left
                refine ⟨z1, fun e y0 y1 => ?_⟩
                by_cases ed : e = d
                · rw [ed]; exact ⟨z3, fun j y2 y3 => z4 j y2 (by omega)⟩
                · exact z2 e y0 (by omega)
              · right; exact ⟨z1, z2⟩
            · refine z_aloadR_n (pc := 53) h dX8_isOther_53 rfl ?_
              refine z_iload_n (pc := 54) h dX8_isOther_54 rfl ?_
              refine z_iload_n (pc := 55) h dX8_isOther_55 rfl ?_
              refine z_pV (pc := 56) (c := 8) h (m8_rowAt (by omega) (by omega)) (by decide) (by first | assumption | rfl) rfl mv_X8_rowAt ml_X8_205 rfl dX8_isOther_56 rfl (Nat.le_of_ble_eq_true rfl) ?_
              refine z_aloadR_n (pc := 59) h dX8_isOther_59 rfl ?_
              refine z_getA4 (pc := 60) (c := 8) (j := 41) h (by first | assumption | rfl) rfl rfl fl_X8_75 dX8_isOther_60 ?_
              refine z_bipush (pc := 63) h dX8_isOther_63 (by decide) ?_
              refine z_bipush (pc := 65) h dX8_isOther_65 (by decide) ?_
              refine z_iload_n (pc := 67) h dX8_isOther_67 rfl ?_
              refine z_imul (pc := 68) h dX8_isOther_68 ?_
              refine z_iadd (pc := 69) h dX8_isOther_69 ?_
              refine z_iload_n (pc := 70) h dX8_isOther_70 rfl ?_
              refine z_iadd (pc := 71) h dX8_isOther_71 ?_
              refine z_ialdq (pc := 72) (c := 8) (j := 41) (L := 54) h (zo_s _ _ _) (by first | assumption | rfl) (by decide) rfl (by decide) (by omega) (by omega) dX8_isOther_72 (fun g72 => ?_)
              refine z_icmp_eq (pc := 73) (tgt := 80) h (by omega) (by omega) dX8_isOther_73 (by decide) (fun c73 => ?_) (fun c73 => ?_)
              · refine z_iconst (pc := 80) h dX8_isOther_80 ?_
                refine z_ist_1 (pc := 81) h dX8_isOther_81 (by decide) rfl ?_
                refine z_inc_3 (pc := 82) h dX8_isOther_82 (by decide) rfl ?_
                refine z_goto (pc := 85) (tgt := 40) h dX8_isOther_85 (by decide) ?_
                refine ih2 (k + 1) _ g0 (by omega) (by omega) (by omega) ?_
                rcases hk with ⟨z1, z2, z3, z4⟩ | ⟨z1, z2⟩
                · by_cases ee : m.2 1 (71 + 8 * d + k) = m.2 41 (6 + 8 * d + k)
                  · left
                    refine ⟨by first | rfl | exact absurd ee c73, z2, z3, fun j y0 y1 => ?_⟩
                    by_cases ej : j = k
                    · rw [ej]; exact ee
                    · exact z4 j y0 (by omega)
                  · right
                    exact ⟨by first | rfl | exact absurd c73 ee, d, ⟨h1, g0⟩, Or.inr ⟨k, ⟨g1, by omega⟩, ee⟩⟩
                · omega
              · refine z_iconst (pc := 76) h dX8_isOther_76 ?_
                refine z_goto (pc := 77) (tgt := 81) h dX8_isOther_77 (by decide) ?_
                refine z_ist_1 (pc := 81) h dX8_isOther_81 (by decide) rfl ?_
                refine z_inc_3 (pc := 82) h dX8_isOther_82 (by decide) rfl ?_
                refine z_goto (pc := 85) (tgt := 40) h dX8_isOther_85 (by decide) ?_
                refine ih2 (k + 1) _ g0 (by omega) (by omega) (by omega) ?_
                rcases hk with ⟨z1, z2, z3, z4⟩ | ⟨z1, z2⟩
                · by_cases ee : m.2 1 (71 + 8 * d + k) = m.2 41 (6 + 8 * d + k)
                  · left
                    refine ⟨by first | rfl | exact absurd ee c73, z2, z3, fun j y0 y1 => ?_⟩
                    by_cases ej : j = k
                    · rw [ej]; exact ee
                    · exact z4 j y0 (by omega)
                  · right
                    exact ⟨by first | rfl | exact absurd c73 ee, d, ⟨h1, g0⟩, Or.inr ⟨k, ⟨g1, by omega⟩, ee⟩⟩
                · omega
      have hzc := hz2 d
      have hzd := hz (65 + d)
      refine z_iload_n (pc := 4) h dX8_isOther_4 rfl ?_
      refine z_aloadR_n (pc := 5) h dX8_isOther_5 rfl ?_
      refine z_getA4 (pc := 6) (c := 8) (j := 1) h (by first | assumption | rfl) rfl rfl fl_X8_7 dX8_isOther_6 ?_
      refine z_iconst (pc := 9) h dX8_isOther_9 ?_
      refine z_ialdq (pc := 10) (c := 8) (j := 1) (L := 610) h (zo_s _ _ _) (by first | assumption | rfl) (by decide) rfl (by decide) (by omega) (by omega) dX8_isOther_10 (fun g10 => ?_)
      refine z_icmp_ge (pc := 11) (tgt := 94) h (by omega) (by omega) dX8_isOther_11 (by decide) (fun c11 => ?_) (fun c11 => ?_)
      · refine z_iload_n (pc := 94) h dX8_isOther_94 rfl ?_
        refine z_zret (pc := 95) h rfl (by omega) dX8_isOther_95 ?_
        refine ⟨congrArg some ?_, rfl⟩
        rcases hs with ⟨z1, z2⟩ | ⟨z1, z2⟩
        · rw [z1]
          refine zB_f ?_
          cases hvv : v with
          | false => rfl
          | true =>
            obtain ⟨e, ⟨y0, y1⟩, y2⟩ := hv.mp hvv
            rcases y2 with y2 | ⟨j, ⟨y2, y3⟩, y4⟩
            · exact absurd (z2 e y0 (by omega)).1 y2
            · exact absurd ((z2 e y0 (by omega)).2 j y2 y3) y4
        · rw [z1]
          exact zB_t (hv.mpr z2)
      · refine z_iload_n (pc := 14) h dX8_isOther_14 rfl ?_
        refine z_if_ne (pc := 15) (tgt := 32) h (by omega) dX8_isOther_15 (by decide) (fun c15 => ?_) (fun c15 => ?_)
        · refine z_iconst (pc := 32) h dX8_isOther_32 ?_
          refine z_goto (pc := 33) (tgt := 37) h dX8_isOther_33 (by decide) ?_
          refine z_ist_1 (pc := 37) h dX8_isOther_37 (by decide) rfl ?_
          refine z_iconst (pc := 38) h dX8_isOther_38 ?_
          refine z_ist_3 (pc := 39) h dX8_isOther_39 (by decide) rfl ?_
          have hrd := hr d h1 (by omega)
          refine L2 (m.2 1 (65 + d) + 1).toNat 0 _ (by omega) (by omega) (by omega) (by omega) ?_
          rcases hs with ⟨z1, z2⟩ | ⟨z1, z2⟩
          · by_cases ee : m.2 1 (65 + d) = m.2 41 d
            · left
              exact ⟨by first | rfl | exact absurd ee c29 | exact absurd z1 c15, z2, ee, fun j y0 y1 => by omega⟩
            · right
              exact ⟨by first | rfl | exact absurd c29 ee | exact absurd z1 c15, d, ⟨h1, by omega⟩, Or.inl ee⟩
          · right
            exact ⟨by first | rfl | omega, z2⟩
        · refine z_aloadR_n (pc := 18) h dX8_isOther_18 rfl ?_
          refine z_iload_n (pc := 19) h dX8_isOther_19 rfl ?_
          refine z_pV (pc := 20) (c := 8) h (m8_rowMany (by omega)) (by decide) (by first | assumption | rfl) rfl mv_X8_rowMany ml_X8_191 rfl dX8_isOther_20 rfl (Nat.le_of_ble_eq_true rfl) ?_
          refine z_aloadR_n (pc := 23) h dX8_isOther_23 rfl ?_
          refine z_getA4 (pc := 24) (c := 8) (j := 41) h (by first | assumption | rfl) rfl rfl fl_X8_75 dX8_isOther_24 ?_
          refine z_iload_n (pc := 27) h dX8_isOther_27 rfl ?_
          refine z_ialdq (pc := 28) (c := 8) (j := 41) (L := 54) h (zo_s _ _ _) (by first | assumption | rfl) (by decide) rfl (by decide) (by omega) (by omega) dX8_isOther_28 (fun g28 => ?_)
          refine z_icmp_eq (pc := 29) (tgt := 36) h (by omega) (by omega) dX8_isOther_29 (by decide) (fun c29 => ?_) (fun c29 => ?_)
          · refine z_iconst (pc := 36) h dX8_isOther_36 ?_
            refine z_ist_1 (pc := 37) h dX8_isOther_37 (by decide) rfl ?_
            refine z_iconst (pc := 38) h dX8_isOther_38 ?_
            refine z_ist_3 (pc := 39) h dX8_isOther_39 (by decide) rfl ?_
            have hrd := hr d h1 (by omega)
            refine L2 (m.2 1 (65 + d) + 1).toNat 0 _ (by omega) (by omega) (by omega) (by omega) ?_
            rcases hs with ⟨z1, z2⟩ | ⟨z1, z2⟩
            · by_cases ee : m.2 1 (65 + d) = m.2 41 d
              · left
                exact ⟨by first | rfl | exact absurd ee c29 | exact absurd z1 c15, z2, ee, fun j y0 y1 => by omega⟩
              · right
                exact ⟨by first | rfl | exact absurd c29 ee | exact absurd z1 c15, d, ⟨h1, by omega⟩, Or.inl ee⟩
            · right
              exact ⟨by first | rfl | omega, z2⟩
          · refine z_iconst (pc := 32) h dX8_isOther_32 ?_
            refine z_goto (pc := 33) (tgt := 37) h dX8_isOther_33 (by decide) ?_
            refine z_ist_1 (pc := 37) h dX8_isOther_37 (by decide) rfl ?_
            refine z_iconst (pc := 38) h dX8_isOther_38 ?_
            refine z_ist_3 (pc := 39) h dX8_isOther_39 (by decide) rfl ?_
            have hrd := hr d h1 (by omega)
            refine L2 (m.2 1 (65 + d) + 1).toNat 0 _ (by omega) (by omega) (by omega) (by omega) ?_
            rcases hs with ⟨z1, z2⟩ | ⟨z1, z2⟩
            · by_cases ee : m.2 1 (65 + d) = m.2 41 d
              · left
                exact ⟨by first | rfl | exact absurd ee c29 | exact absurd z1 c15, z2, ee, fun j y0 y1 => by omega⟩
              · right
                exact ⟨by first | rfl | exact absurd c29 ee | exact absurd z1 c15, d, ⟨h1, by omega⟩, Or.inl ee⟩
            · right
              exact ⟨by first | rfl | omega, z2⟩
  refine z_iconst (pc := 0) h dX8_isOther_0 ?_
  refine z_ist_1 (pc := 1) h dX8_isOther_1 (by decide) rfl ?_
  refine z_iconst (pc := 2) h dX8_isOther_2 ?_
  refine z_ist_2 (pc := 3) h dX8_isOther_3 (by decide) rfl ?_
  exact L (m.2 1 0 + 1).toNat 0 0 _ (by omega) (by omega) (by omega) (Or.inl ⟨rfl, fun e y0 y1 => by omega⟩)
theorem m8_canBe {σ : zS} {m : zOb} {v : Bool} (h6 : 0 ≤ m.2 1 0 ∧ m.2 1 0 ≤ 6) (hr : ∀ e, 0 ≤ e → e < m.2 1 0 → 0 ≤ m.2 1 (65 + e) ∧ m.2 1 (65 + e) ≤ 8) (hF : ∀ e, 0 ≤ e → e < m.2 1 0 → 0 ≤ m.2 40 e) (hv : v = true ↔ a_cb (m.2 1) (m.2 40) (m.2 41)) : zCp M_X8_canBe 2 [zR 31] (zo σ 31 m) (zB v) := by
  refine zC_of (M := M_X8_canBe) (ls := [some (zR 31), none, none]) (n := 2) (by decide) (fun ad => Nat.le_of_ble_eq_true rfl) rfl (fun x h => ?_)
  refine z_rgo (fun hrg => ?_)
  have hz : ∀ j, zin (m.2 1 j) := fun j => hrg.2 1 j
  have hz2 : ∀ j, zin (m.2 41 j) := fun j => hrg.2 41 j
  have hz3 : ∀ j, zin (m.2 40 j) := fun j => hrg.2 40 j
  have hff : ¬ a_cb (m.2 1) (m.2 40) (m.2 41) → zI 0 = zB v := fun z => zB_f (by cases hvv : v with | false => rfl | true => exact absurd (hv.mp hvv) z)
  have L : ∀ (n : Nat) (d : Int) (lk : Option Value), 0 ≤ d → d ≤ m.2 1 0 → m.2 1 0 - d < n → (∀ e, 0 ≤ e → e < d → m.2 40 e ≤ m.2 1 (65 + e) ∧ ∀ j, 0 ≤ j → j < m.2 40 e → m.2 1 (71 + 8 * e + j) = m.2 41 (6 + 8 * e + j)) → zW x (fun r τ' => r = some (zB v) ∧ τ' = zo σ 31 m) 2 [some (zR 31), some (zI d), lk] [] (zo σ 31 m) := by
    intro n
    induction n with
    | zero => intro d lk h1 h2 h3; omega
    | succ n ih =>
      intro d lk h1 h2 h3 hs
      have L2 : ∀ (n2 : Nat) (k : Int), d < m.2 1 0 → m.2 40 d ≤ m.2 1 (65 + d) → 0 ≤ k → k ≤ m.2 40 d → m.2 40 d - k < n2 → (∀ j, 0 ≤ j → j < k → m.2 1 (71 + 8 * d + j) = m.2 41 (6 + 8 * d + j)) → zW x (fun r τ' => r = some (zB v) ∧ τ' = zo σ 31 m) 30 [some (zR 31), some (zI d), some (zI k)] [] (zo σ 31 m) := by
        intro n2
        induction n2 with
        | zero => intro k g0 g4 g1 g2 g3; omega
        | succ n2 ih2 =>
          intro k g0 g4 g1 g2 g3 hk
          have hrd := hr d h1 g0
          have hza := hz (71 + 8 * d + k)
          have hzb := hz2 (6 + 8 * d + k)
          refine z_iload_n (pc := 30) h dX8_canBe_30 rfl ?_
          refine z_aloadR_n (pc := 31) h dX8_canBe_31 rfl ?_
          refine z_getA4 (pc := 32) (c := 8) (j := 40) h (by first | assumption | rfl) rfl rfl fl_X8_72 dX8_canBe_32 ?_
          refine z_iload_n (pc := 35) h dX8_canBe_35 rfl ?_
          refine z_ialdq (pc := 36) (c := 8) (j := 40) (L := 6) h (zo_s _ _ _) (by first | assumption | rfl) (by decide) rfl (by decide) (by omega) (by omega) dX8_canBe_36 (fun g36 => ?_)
          refine z_icmp_ge (pc := 37) (tgt := 71) h (by omega) (by omega) dX8_canBe_37 (by decide) (fun c37 => ?_) (fun c37 => ?_)
          · refine z_inc_1 (pc := 71) h dX8_canBe_71 (by decide) rfl ?_
            refine z_goto (pc := 74) (tgt := 2) h dX8_canBe_74 (by decide) ?_
            refine ih (d + 1) _ (by omega) (by omega) (by omega) (fun e y0 y1 => ?_)
            by_cases ed : e = d
            · rw [ed]; exact ⟨g4, fun j y2 y3 => hk j y2 (by omega)⟩
            · exact hs e y0 (by omega)
          · refine z_aloadR_n (pc := 40) h dX8_canBe_40 rfl ?_
            refine z_iload_n (pc := 41) h dX8_canBe_41 rfl ?_
            refine z_iload_n (pc := 42) h dX8_canBe_42 rfl ?_
            refine z_pV (pc := 43) (c := 8) h (m8_rowAt (by omega) (by omega)) (by decide) (by first | assumption | rfl) rfl mv_X8_rowAt ml_X8_205 rfl dX8_canBe_43 rfl (Nat.le_of_ble_eq_true rfl) ?_
            refine z_aloadR_n (pc := 46) h dX8_canBe_46 rfl ?_
            refine z_getA4 (pc := 47) (c := 8) (j := 41) h (by first | assumption | rfl) rfl rfl fl_X8_75 dX8_canBe_47 ?_
            refine z_bipush (pc := 50) h dX8_canBe_50 (by decide) ?_
            refine z_bipush (pc := 52) h dX8_canBe_52 (by decide) ?_
            refine z_iload_n (pc := 54) h dX8_canBe_54 rfl ?_
            refine z_imul (pc := 55) h dX8_canBe_55 ?_
            refine z_iadd (pc := 56) h dX8_canBe_56 ?_
            refine z_iload_n (pc := 57) h dX8_canBe_57 rfl ?_
            refine z_iadd (pc := 58) h dX8_canBe_58 ?_
            refine z_ialdq (pc := 59) (c := 8) (j := 41) (L := 54) h (zo_s _ _ _) (by first | assumption | rfl) (by decide) rfl (by decide) (by omega) (by omega) dX8_canBe_59 (fun g59 => ?_)
            refine z_icmp_eq (pc := 60) (tgt := 65) h (by omega) (by omega) dX8_canBe_60 (by decide) (fun c60 => ?_) (fun c60 => ?_)
            · refine z_inc_2 (pc := 65) h dX8_canBe_65 (by decide) rfl ?_
              refine z_goto (pc := 68) (tgt := 30) h dX8_canBe_68 (by decide) ?_
              refine ih2 (k + 1) g0 g4 (by omega) (by omega) (by omega) (fun j y0 y1 => ?_)
              by_cases ej : j = k
              · rw [ej]; exact c60
              · exact hk j y0 (by omega)
            · refine z_iconst (pc := 63) h dX8_canBe_63 ?_
              refine z_zret (pc := 64) h rfl (by omega) dX8_canBe_64 ?_
              exact ⟨congrArg some (hff (fun z => c60 ((z d h1 g0).2 k g1 (by omega)))), rfl⟩
      have hzc := hz3 d
      have hzd := hz (65 + d)
      have hF0 := hF d h1
      refine z_iload_n (pc := 2) h dX8_canBe_2 rfl ?_
      refine z_aloadR_n (pc := 3) h dX8_canBe_3 rfl ?_
      refine z_getA4 (pc := 4) (c := 8) (j := 1) h (by first | assumption | rfl) rfl rfl fl_X8_7 dX8_canBe_4 ?_
      refine z_iconst (pc := 7) h dX8_canBe_7 ?_
      refine z_ialdq (pc := 8) (c := 8) (j := 1) (L := 610) h (zo_s _ _ _) (by first | assumption | rfl) (by decide) rfl (by decide) (by omega) (by omega) dX8_canBe_8 (fun g8 => ?_)
      refine z_icmp_ge (pc := 9) (tgt := 77) h (by omega) (by omega) dX8_canBe_9 (by decide) (fun c9 => ?_) (fun c9 => ?_)
      · refine z_iconst (pc := 77) h dX8_canBe_77 ?_
        refine z_zret (pc := 78) h rfl (by omega) dX8_canBe_78 ?_
        exact ⟨congrArg some (zB_t (hv.mpr (fun e y0 y1 => hs e y0 (by omega)))), rfl⟩
      · refine z_aloadR_n (pc := 12) h dX8_canBe_12 rfl ?_
        refine z_iload_n (pc := 13) h dX8_canBe_13 rfl ?_
        refine z_pV (pc := 14) (c := 8) h (m8_rowMany (by omega)) (by decide) (by first | assumption | rfl) rfl mv_X8_rowMany ml_X8_191 rfl dX8_canBe_14 rfl (Nat.le_of_ble_eq_true rfl) ?_
        refine z_aloadR_n (pc := 17) h dX8_canBe_17 rfl ?_
        refine z_getA4 (pc := 18) (c := 8) (j := 40) h (by first | assumption | rfl) rfl rfl fl_X8_72 dX8_canBe_18 ?_
        refine z_iload_n (pc := 21) h dX8_canBe_21 rfl ?_
        refine z_ialdq (pc := 22) (c := 8) (j := 40) (L := 6) h (zo_s _ _ _) (by first | assumption | rfl) (by decide) rfl (by decide) (by omega) (by omega) dX8_canBe_22 (fun g22 => ?_)
        refine z_icmp_ge (pc := 23) (tgt := 28) h (by omega) (by omega) dX8_canBe_23 (by decide) (fun c23 => ?_) (fun c23 => ?_)
        · refine z_iconst (pc := 28) h dX8_canBe_28 ?_
          refine z_ist_2 (pc := 29) h dX8_canBe_29 (by decide) rfl ?_
          exact L2 (m.2 40 d + 1).toNat 0 (by omega) (by omega) (by omega) (hF0 (by omega)) (by have := hF0 (by omega); omega) (fun j y0 y1 => by omega)
        · refine z_iconst (pc := 26) h dX8_canBe_26 ?_
          refine z_zret (pc := 27) h rfl (by omega) dX8_canBe_27 ?_
          exact ⟨congrArg some (hff (fun z => by have := (z d h1 (by omega)).1; omega)), rfl⟩
  refine z_iconst (pc := 0) h dX8_canBe_0 ?_
  refine z_ist_1 (pc := 1) h dX8_canBe_1 (by decide) rfl ?_
  exact L (m.2 1 0 + 1).toNat 0 _ (by omega) (by omega) (by omega) (fun e y0 y1 => by omega)
theorem m8_isFixed {σ : zS} {m : zOb} {t : Int} (ht : 0 ≤ t ∧ t ≤ 7) : zCp M_X8_isFixed 1 [zR 31, zI t] (zo σ 31 m) (zB (fxd (m.2 27) (m.2 1) t)) := by
  refine zC_of (M := M_X8_isFixed) (ls := [some (zR 31), some (zI t)]) (n := 0) (by decide) (fun ad => Nat.le_of_ble_eq_true rfl) rfl (fun x h => ?_)
  refine z_rgo (fun hrg => ?_)
  have hz : zin (m.2 1 4) := hrg.2 1 _
  have hz2 : zin (m.2 27 t) := hrg.2 27 _
  unfold fxd
  refine z_aloadR_n (pc := 0) h dX8_isFixed_0 rfl ?_
  refine z_getA4 (pc := 1) (c := 8) (j := 27) h (by first | assumption | rfl) rfl rfl fl_X8_48 dX8_isFixed_1 ?_
  refine z_iload_n (pc := 4) h dX8_isFixed_4 rfl ?_
  refine z_ialdq (pc := 5) (c := 8) (j := 27) (L := 8) h (zo_s _ _ _) (by first | assumption | rfl) (by decide) rfl (by decide) (by omega) (by omega) dX8_isFixed_5 (fun g5 => ?_)
  refine z_iconst (pc := 6) h dX8_isFixed_6 ?_
  refine z_icmp_eq (pc := 7) (tgt := 29) h (by omega) (by omega) dX8_isFixed_7 (by decide) (fun c7 => ?_) (fun c7 => ?_)
  · refine z_iconst (pc := 29) h dX8_isFixed_29 ?_
    refine z_zret (pc := 30) h rfl (by omega) dX8_isFixed_30 ?_
    first | exact ⟨congrArg some (zB_t (decide_eq_true (by omega))), rfl⟩ | exact ⟨congrArg some (zB_f (decide_eq_false (by omega))), rfl⟩
  · refine z_aloadR_n (pc := 10) h dX8_isFixed_10 rfl ?_
    refine z_getA4 (pc := 11) (c := 8) (j := 27) h (by first | assumption | rfl) rfl rfl fl_X8_48 dX8_isFixed_11 ?_
    refine z_iload_n (pc := 14) h dX8_isFixed_14 rfl ?_
    refine z_ialdq (pc := 15) (c := 8) (j := 27) (L := 8) h (zo_s _ _ _) (by first | assumption | rfl) (by decide) rfl (by decide) (by omega) (by omega) dX8_isFixed_15 (fun g15 => ?_)
    refine z_aloadR_n (pc := 16) h dX8_isFixed_16 rfl ?_
    refine z_getA4 (pc := 17) (c := 8) (j := 1) h (by first | assumption | rfl) rfl rfl fl_X8_7 dX8_isFixed_17 ?_
    refine z_iconst (pc := 20) h dX8_isFixed_20 ?_
    refine z_ialdq (pc := 21) (c := 8) (j := 1) (L := 610) h (zo_s _ _ _) (by first | assumption | rfl) (by decide) rfl (by decide) (by omega) (by omega) dX8_isFixed_21 (fun g21 => ?_)
    refine z_icmp_ge (pc := 22) (tgt := 29) h (by omega) (by omega) dX8_isFixed_22 (by decide) (fun c22 => ?_) (fun c22 => ?_)
    · refine z_iconst (pc := 29) h dX8_isFixed_29 ?_
      refine z_zret (pc := 30) h rfl (by omega) dX8_isFixed_30 ?_
      first | exact ⟨congrArg some (zB_t (decide_eq_true (by omega))), rfl⟩ | exact ⟨congrArg some (zB_f (decide_eq_false (by omega))), rfl⟩
    · refine z_iconst (pc := 25) h dX8_isFixed_25 ?_
      refine z_goto (pc := 26) (tgt := 30) h dX8_isFixed_26 (by decide) ?_
      refine z_zret (pc := 30) h rfl (by omega) dX8_isFixed_30 ?_
      first | exact ⟨congrArg some (zB_t (decide_eq_true (by omega))), rfl⟩ | exact ⟨congrArg some (zB_f (decide_eq_false (by omega))), rfl⟩
theorem m8_isOutV {σ : zS} {m : zOb} {t : Int} (ht : 0 ≤ t ∧ t ≤ 7) (hv : m.2 1 (17 + 6 * t + 0) = 0 ∨ m.2 1 (17 + 6 * t + 0) = 1) : zCp M_X8_isOut 2 [zR 31, zI t] (zo σ 31 m) (zI (m.2 1 (17 + 6 * t + 0))) := by
  have h := m8_isOut (σ := σ) (m := m) ht
  rcases hv with z | z
  · rw [z, decide_eq_false (by omega)] at h
    rw [z]; exact h
  · rw [z, decide_eq_true rfl] at h
    rw [z]; exact h
theorem m8_isOutDoorV {σ : zS} {m : zOb} {d : Int} (hd : 0 ≤ d ∧ d ≤ 5) (hv : m.2 1 (5 + 2 * d) = 0 ∨ m.2 1 (5 + 2 * d) = 1) : zCp M_X8_isOutDoor 1 [zR 31, zI d] (zo σ 31 m) (zI (m.2 1 (5 + 2 * d))) := by
  have h := m8_isOutDoor (σ := σ) (m := m) hd
  rcases hv with z | z
  · rw [z, decide_eq_false (by omega)] at h
    rw [z]; exact h
  · rw [z, decide_eq_true rfl] at h
    rw [z]; exact h
