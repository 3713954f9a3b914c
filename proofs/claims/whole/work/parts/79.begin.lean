/-! The first plan: the class. -/
theorem c_rowLength {σ : zS} {pl : zOb} {d : Int} (hd : zin d) : zCp M_X3_rowLength 1 [zR 5, zI d] (zo σ 5 pl) (zI (p_len pl d)) := by
  have h := m_X3_rowLength (σ := zo σ 5 pl) (o := 5) (d := d) rfl hd
  rwa [zo_s] at h
theorem p_len_b (pl : zOb) (d : Int) : 0 ≤ p_len pl d ∧ p_len pl d ≤ 8 := zcnt_b _ (by omega)
theorem c_shortestRow {σ : zS} {pl : zOb} {a : Int → Int} {kd : Int} (hwa : WFa a) (hE : DKE (σ 4) a) (hl : ∀ d, 0 ≤ d → d < a 0 → p_len pl d = a (65 + d)) (hkd : zin kd) : zCp M_X3_shortestRow 2 [zR 5, zR 4, zI kd] (zo σ 5 pl) (zI (fw a kd)) := by
  have h6 := hwa.1
  have e0 := hE.1
  refine zC_of (M := M_X3_shortestRow) (ls := [some (zR 5), some (zR 4), some (zI kd), none, none]) (n := 2) (by decide) (fun ad => Nat.le_of_ble_eq_true rfl) rfl (fun x h => ?_)
  have L : ∀ (n : Nat) (d : Int), 0 ≤ d → d ≤ a 0 → a 0 - d < n → zW x (fun r τ' => r = some (zI (fw a kd)) ∧ τ' = zo σ 5 pl) 5 [some (zR 5), some (zR 4), some (zI kd), some (zI (zfor (fwf a kd) d (-1))), some (zI d)] [] (zo σ 5 pl) := by
    intro n
    induction n with
    | zero => intro d h1 h2 h3; omega
    | succ n ih =>
      intro d h1 h2 h3
      have hih := ih (d + 1) (by omega)
      rw [zfor_S _ h1] at hih
      have hs := fw_at a kd h1
      have hgo : d = a 0 → zfor (fwf a kd) d (-1) = fw a kd := fun e => by rw [e]; rfl
      generalize zfor (fwf a kd) d (-1) = b at hih hs hgo ⊢
      have hb : -1 ≤ b ∧ b ≤ 5 := by rcases hs with z | z <;> omega
      have hk2 := fun z => (hE.2.2.2.2.1 d h1 z).1
      have hk3 := fun z => (hwa.2.2.2.2.2.1 d h1 z).1
      have pb := p_len_b pl b
      have pd := p_len_b pl d
      have hld := hl d h1
      unfold fwf at hih
      refine z_iload (pc := 5) h dX3_shortestRow_5 rfl ?_
      refine z_aloadR_n (pc := 7) h dX3_shortestRow_7 rfl ?_
      refine z_getIq (pc := 8) (c := 1) (j := 0) h (zo_n (show (4 : Nat) ≠ 5 by decide)) (by first | assumption | rfl) rfl rfl fl_X3_54 dX3_shortestRow_8 (fun g8 => ?_)
      refine z_icmp_ge (pc := 11) (tgt := 53) h (by omega) (by omega) dX3_shortestRow_11 (by decide) (fun c11 => ?_) (fun c11 => ?_)
      · refine z_iload_n (pc := 53) h dX3_shortestRow_53 rfl ?_
        refine z_iret (pc := 54) h rfl dX3_shortestRow_54 ?_
        exact ⟨by rw [hgo (by omega)], rfl⟩
      · refine z_aloadR_n (pc := 14) h dX3_shortestRow_14 rfl ?_
        refine z_getA4 (pc := 15) (c := 1) (j := 5) h (by first | assumption | rfl) rfl rfl fl_X3_57 dX3_shortestRow_15 ?_
        refine z_iload (pc := 18) h dX3_shortestRow_18 rfl ?_
        refine z_ialdq (pc := 20) (c := 1) (j := 5) (L := 6) h (zo_n (show (4 : Nat) ≠ 5 by decide)) (by first | assumption | rfl) (by decide) rfl (by decide) (by omega) (by omega) dX3_shortestRow_20 (fun g20 => ?_)
        have hk2 := hk2 (by omega)
        have hk3 := hk3 (by omega)
        have hld := hld (by omega)
        refine z_iload_n (pc := 21) h dX3_shortestRow_21 rfl ?_
        refine z_icmp_ne (pc := 22) (tgt := 47) h (by omega) (by omega) dX3_shortestRow_22 (by decide) (fun c22 => ?_) (fun c22 => ?_)
        · rw [if_neg (fun z => by omega)] at hih
          refine z_inc_4 (pc := 47) h dX3_shortestRow_47 (by decide) rfl ?_
          refine z_goto (pc := 50) (tgt := 5) h dX3_shortestRow_50 (by decide) ?_
          exact hih (by omega) (by omega)
        · refine z_iload_n (pc := 25) h dX3_shortestRow_25 rfl ?_
          refine z_iconst (pc := 26) h dX3_shortestRow_26 ?_
          refine z_icmp_eq (pc := 27) (tgt := 44) h (by omega) (by omega) dX3_shortestRow_27 (by decide) (fun c27 => ?_) (fun c27 => ?_)
          · rw [if_pos ⟨by omega, Or.inl c27⟩] at hih
            refine z_iload (pc := 44) h dX3_shortestRow_44 rfl ?_
            refine z_ist_3 (pc := 46) h dX3_shortestRow_46 (by decide) rfl ?_
            refine z_inc_4 (pc := 47) h dX3_shortestRow_47 (by decide) rfl ?_
            refine z_goto (pc := 50) (tgt := 5) h dX3_shortestRow_50 (by decide) ?_
            exact hih (by omega) (by omega)
          · have hlb := hl b (by omega) (by omega)
            refine z_aloadR_n (pc := 30) h dX3_shortestRow_30 rfl ?_
            refine z_iload (pc := 31) h dX3_shortestRow_31 rfl ?_
            refine z_pV (pc := 33) (c := 3) h (c_rowLength (by omega)) (by decide) (by first | assumption | rfl) rfl mv_X3_rowLength ml_X3_60 rfl dX3_shortestRow_33 rfl (Nat.le_of_ble_eq_true rfl) ?_
            refine z_aloadR_n (pc := 36) h dX3_shortestRow_36 rfl ?_
            refine z_iload_n (pc := 37) h dX3_shortestRow_37 rfl ?_
            refine z_pV (pc := 38) (c := 3) h (c_rowLength (by omega)) (by decide) (by first | assumption | rfl) rfl mv_X3_rowLength ml_X3_60 rfl dX3_shortestRow_38 rfl (Nat.le_of_ble_eq_true rfl) ?_
            refine z_icmp_ge (pc := 41) (tgt := 47) h (by omega) (by omega) dX3_shortestRow_41 (by decide) (fun c41 => ?_) (fun c41 => ?_)
            · rw [if_neg (by omega)] at hih
              refine z_inc_4 (pc := 47) h dX3_shortestRow_47 (by decide) rfl ?_
              refine z_goto (pc := 50) (tgt := 5) h dX3_shortestRow_50 (by decide) ?_
              exact hih (by omega) (by omega)
            · rw [if_pos ⟨by omega, Or.inr (by omega)⟩] at hih
              refine z_iload (pc := 44) h dX3_shortestRow_44 rfl ?_
              refine z_ist_3 (pc := 46) h dX3_shortestRow_46 (by decide) rfl ?_
              refine z_inc_4 (pc := 47) h dX3_shortestRow_47 (by decide) rfl ?_
              refine z_goto (pc := 50) (tgt := 5) h dX3_shortestRow_50 (by decide) ?_
              exact hih (by omega) (by omega)
  refine z_iconst (pc := 0) h dX3_shortestRow_0 ?_
  refine z_ist_3 (pc := 1) h dX3_shortestRow_1 (by decide) rfl ?_
  refine z_iconst (pc := 2) h dX3_shortestRow_2 ?_
  refine z_ist_4 (pc := 3) h dX3_shortestRow_3 (by decide) rfl ?_
  exact L (a 0 + 1).toNat 0 (by omega) (by omega) (by omega)
theorem c_putLast {σ : zS} {pl : zOb} {t d : Int} (ht : 0 ≤ t ∧ t ≤ 7) (hd : zin d) : zCv M_X3_putLast 2 [zR 5, zI t, zI d] (zo σ 5 pl) (zo σ 5 (if d = -1 then pl else osa (osa pl 0 t d) 1 t (p_len pl d))) := by
  have pd := p_len_b pl d
  refine zC_of (M := M_X3_putLast) (ls := [some (zR 5), some (zI t), some (zI d), none]) (n := 1) (by decide) (fun ad => Nat.le_of_ble_eq_true rfl) rfl (fun x h => ?_)
  refine z_iload_n (pc := 0) h dX3_putLast_0 rfl ?_
  refine z_iconst (pc := 1) h dX3_putLast_1 ?_
  refine z_icmp_eq (pc := 2) (tgt := 25) h (by omega) (by omega) dX3_putLast_2 (by decide) (fun c2 => ?_) (fun c2 => ?_)
  · refine z_ret (pc := 25) h rfl dX3_putLast_25 ?_
    first
    | (rw [if_pos c2]; exact ⟨rfl, rfl⟩)
    | (rw [if_neg c2]; exact ⟨rfl, rfl⟩)
  · refine z_aloadR_n (pc := 5) h dX3_putLast_5 rfl ?_
    refine z_iload_n (pc := 6) h dX3_putLast_6 rfl ?_
    refine z_pV (pc := 7) (c := 3) h (c_rowLength hd) (by decide) (by first | assumption | rfl) rfl mv_X3_rowLength ml_X3_60 rfl dX3_putLast_7 rfl (Nat.le_of_ble_eq_true rfl) ?_
    refine z_ist_3 (pc := 10) h dX3_putLast_10 (by decide) rfl ?_
    refine z_aloadR_n (pc := 11) h dX3_putLast_11 rfl ?_
    refine z_getA4 (pc := 12) (c := 3) (j := 0) h (by first | assumption | rfl) rfl rfl fl_X3_9 dX3_putLast_12 ?_
    refine z_iload_n (pc := 15) h dX3_putLast_15 rfl ?_
    refine z_iload_n (pc := 16) h dX3_putLast_16 rfl ?_
    refine z_iasto (pc := 17) (c := 3) (j := 0) (L := 8) h (by first | assumption | rfl) (by decide) rfl (by decide) (by omega) (by omega) (by omega) dX3_putLast_17 ?_
    refine z_aloadR_n (pc := 18) h dX3_putLast_18 rfl ?_
    refine z_getA4 (pc := 19) (c := 3) (j := 1) h (by first | assumption | rfl) rfl rfl fl_X3_15 dX3_putLast_19 ?_
    refine z_iload_n (pc := 22) h dX3_putLast_22 rfl ?_
    refine z_iload_n (pc := 23) h dX3_putLast_23 rfl ?_
    refine z_iasto (pc := 24) (c := 3) (j := 1) (L := 8) h (by first | assumption | rfl) (by decide) rfl (by decide) (by omega) (by omega) (by omega) dX3_putLast_24 ?_
    refine z_ret (pc := 25) h rfl dX3_putLast_25 ?_
    first
    | (rw [if_pos c2]; exact ⟨rfl, rfl⟩)
    | (rw [if_neg c2]; exact ⟨rfl, rfl⟩)
