/-! The first plan: the model. -/
theorem m8_fewest {σ : zS} {m : zOb} {kd : Int} (hwa : WFa (m.2 1)) (hr : ∀ e, 0 ≤ e → e < m.2 1 0 → 0 ≤ m.2 1 (65 + e) ∧ m.2 1 (65 + e) ≤ 8) (hkd : kd = 0 ∨ kd = 1) : zCp M_X8_fewest 2 [zR 31, zI kd] (zo σ 31 m) (zI (fw (m.2 1) kd)) := by
  have h6 := hwa.1
  refine zC_of (M := M_X8_fewest) (ls := [some (zR 31), some (zI kd), none, none]) (n := 2) (by decide) (fun ad => Nat.le_of_ble_eq_true rfl) rfl (fun x h => ?_)
  have L : ∀ (n : Nat) (d : Int), 0 ≤ d → d ≤ m.2 1 0 → m.2 1 0 - d < n → zW x (fun r τ' => r = some (zI (fw (m.2 1) kd)) ∧ τ' = zo σ 31 m) 4 [some (zR 31), some (zI kd), some (zI (zfor (fwf (m.2 1) kd) d (-1))), some (zI d)] [] (zo σ 31 m) := by
    intro n
    induction n with
    | zero => intro d h1 h2 h3; omega
    | succ n ih =>
      intro d h1 h2 h3
      have hih := ih (d + 1) (by omega)
      rw [zfor_S _ h1] at hih
      have hs := fw_at (m.2 1) kd h1
      have hgo : d = m.2 1 0 → zfor (fwf (m.2 1) kd) d (-1) = fw (m.2 1) kd := fun e => by rw [e]; rfl
      generalize zfor (fwf (m.2 1) kd) d (-1) = b at hih hs hgo ⊢
      have hb : -1 ≤ b ∧ b ≤ 5 := by rcases hs with z | z <;> omega
      have hk2 := fun z => (hwa.2.2.2.2.2.1 d h1 z).1
      unfold fwf at hih
      refine z_iload_n (pc := 4) h dX8_fewest_4 rfl ?_
      refine z_aloadR_n (pc := 5) h dX8_fewest_5 rfl ?_
      refine z_getA4 (pc := 6) (c := 8) (j := 1) h (by first | assumption | rfl) rfl rfl fl_X8_7 dX8_fewest_6 ?_
      refine z_iconst (pc := 9) h dX8_fewest_9 ?_
      refine z_ialdq (pc := 10) (c := 8) (j := 1) (L := 610) h (zo_s _ _ _) (by first | assumption | rfl) (by decide) rfl (by decide) (by omega) (by omega) dX8_fewest_10 (fun g10 => ?_)
      refine z_icmp_ge (pc := 11) (tgt := 49) h (by omega) (by omega) dX8_fewest_11 (by decide) (fun c11 => ?_) (fun c11 => ?_)
      · refine z_iload_n (pc := 49) h dX8_fewest_49 rfl ?_
        refine z_iret (pc := 50) h rfl dX8_fewest_50 ?_
        exact ⟨by rw [hgo (by omega)], rfl⟩
      · refine z_aloadR_n (pc := 14) h dX8_fewest_14 rfl ?_
        refine z_iload_n (pc := 15) h dX8_fewest_15 rfl ?_
        refine z_pV (pc := 16) (c := 8) h (m8_isOutDoorV (by omega) (hk2 (by omega))) (by decide) (by first | assumption | rfl) rfl mv_X8_isOutDoor ml_X8_187 rfl dX8_fewest_16 rfl (Nat.le_of_ble_eq_true rfl) ?_
        have hk2 := hk2 (by omega)
        have hrd := hr d h1 (by omega)
        refine z_iload_n (pc := 19) h dX8_fewest_19 rfl ?_
        refine z_icmp_ne (pc := 20) (tgt := 43) h (by omega) (by omega) dX8_fewest_20 (by decide) (fun c20 => ?_) (fun c20 => ?_)
        · rw [if_neg (fun z => c20 z.1)] at hih
          refine z_inc_3 (pc := 43) h dX8_fewest_43 (by decide) rfl ?_
          refine z_goto (pc := 46) (tgt := 4) h dX8_fewest_46 (by decide) ?_
          exact hih (by omega) (by omega)
        · refine z_iload_n (pc := 23) h dX8_fewest_23 rfl ?_
          refine z_iconst (pc := 24) h dX8_fewest_24 ?_
          refine z_icmp_eq (pc := 25) (tgt := 41) h (by omega) (by omega) dX8_fewest_25 (by decide) (fun c25 => ?_) (fun c25 => ?_)
          · rw [if_pos ⟨c20, Or.inl c25⟩] at hih
            refine z_iload_n (pc := 41) h dX8_fewest_41 rfl ?_
            refine z_ist_2 (pc := 42) h dX8_fewest_42 (by decide) rfl ?_
            refine z_inc_3 (pc := 43) h dX8_fewest_43 (by decide) rfl ?_
            refine z_goto (pc := 46) (tgt := 4) h dX8_fewest_46 (by decide) ?_
            exact hih (by omega) (by omega)
          · have hrb := hr b (by omega) (by omega)
            refine z_aloadR_n (pc := 28) h dX8_fewest_28 rfl ?_
            refine z_iload_n (pc := 29) h dX8_fewest_29 rfl ?_
            refine z_pV (pc := 30) (c := 8) h (m8_rowMany (by omega)) (by decide) (by first | assumption | rfl) rfl mv_X8_rowMany ml_X8_191 rfl dX8_fewest_30 rfl (Nat.le_of_ble_eq_true rfl) ?_
            refine z_aloadR_n (pc := 33) h dX8_fewest_33 rfl ?_
            refine z_iload_n (pc := 34) h dX8_fewest_34 rfl ?_
            refine z_pV (pc := 35) (c := 8) h (m8_rowMany (by omega)) (by decide) (by first | assumption | rfl) rfl mv_X8_rowMany ml_X8_191 rfl dX8_fewest_35 rfl (Nat.le_of_ble_eq_true rfl) ?_
            refine z_icmp_ge (pc := 38) (tgt := 43) h (by omega) (by omega) dX8_fewest_38 (by decide) (fun c38 => ?_) (fun c38 => ?_)
            · rw [if_neg (by omega)] at hih
              refine z_inc_3 (pc := 43) h dX8_fewest_43 (by decide) rfl ?_
              refine z_goto (pc := 46) (tgt := 4) h dX8_fewest_46 (by decide) ?_
              exact hih (by omega) (by omega)
            · rw [if_pos ⟨c20, Or.inr (by omega)⟩] at hih
              refine z_iload_n (pc := 41) h dX8_fewest_41 rfl ?_
              refine z_ist_2 (pc := 42) h dX8_fewest_42 (by decide) rfl ?_
              refine z_inc_3 (pc := 43) h dX8_fewest_43 (by decide) rfl ?_
              refine z_goto (pc := 46) (tgt := 4) h dX8_fewest_46 (by decide) ?_
              exact hih (by omega) (by omega)
  refine z_iconst (pc := 0) h dX8_fewest_0 ?_
  refine z_ist_2 (pc := 1) h dX8_fewest_1 (by decide) rfl ?_
  refine z_iconst (pc := 2) h dX8_fewest_2 ?_
  refine z_ist_3 (pc := 3) h dX8_fewest_3 (by decide) rfl ?_
  exact L (m.2 1 0 + 1).toNat 0 (by omega) (by omega) (by omega)
