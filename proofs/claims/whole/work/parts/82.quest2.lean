/-! The class: sums over a door. -/
def q_ha (P0 : Int → Int) (m : zOb) (d : Int) : Int := zfor (fun t s => s + (if P0 t = d then m.2 29 t else 0)) (m.2 1 1) 0
theorem c_handledAt {σ : zS} {r p : Nat} {Y m : zOb} {d : Int} (hu : RUNH r p) (hF : FIN (σ 4) Y m) (hd : zin d) : zCp M_X5_handledAt 1 [zR r, zI d] (zo σ r Y) (zI (q_ha ((σ p).2 0) m d)) := by
  obtain ⟨hr, hr0, hr1, hp, h4, hpr⟩ := hu
  obtain ⟨hS, hD, hE, hR1, hR2, h200⟩ := hF
  have h8 := hS.1.2.1
  have htn := hE.2.1
  refine zC_of (M := M_X5_handledAt) (ls := [some (zR r), some (zI d), none, none]) (n := 2) (by decide) (fun ad => Nat.le_of_ble_eq_true rfl) rfl (fun x h => ?_)
  have L : ∀ (n : Nat) (i acc : Int), 0 ≤ i → i ≤ m.2 1 1 → m.2 1 1 - i < n → 0 ≤ acc → acc ≤ 60 * i → acc = zfor (fun t s => s + (if (σ p).2 0 t = d then m.2 29 t else 0)) i 0 → zW x (fun rr τ' => rr = some (zI (q_ha ((σ p).2 0) m d)) ∧ τ' = zo σ r Y) 4 [some (zR r), some (zI d), some (zI acc), some (zI i)] [] (zo σ r Y) := by
    intro n
    induction n with
    | zero => intro i acc h1 h2 h3; omega
    | succ n ih =>
      intro i acc h1 h2 h3 a0 a1 ha
      have hS1 : zfor (fun t s => s + (if (σ p).2 0 t = d then m.2 29 t else 0)) (i + 1) 0 = acc + (if (σ p).2 0 i = d then m.2 29 i else 0) := by rw [zfor_S _ h1, ha]
      refine z_iload_n (pc := 4) h dX5_handledAt_4 rfl ?_
      refine z_aloadR_n (pc := 5) h dX5_handledAt_5 rfl ?_
      refine z_getR (pc := 6) (c := 5) (j := 0) h (by first | assumption | rfl) (by first | assumption | rfl) rfl rfl fl_X5_51 dX5_handledAt_6 ?_
      refine z_getIq (pc := 9) (c := 1) (j := 1) h (zo_n h4) (by first | assumption | rfl) rfl rfl fl_X5_124 dX5_handledAt_9 (fun g9 => ?_)
      refine z_icmp_ge (pc := 12) (tgt := 47) h (by omega) (by omega) dX5_handledAt_12 (by decide) (fun c12 => ?_) (fun c12 => ?_)
      · refine z_iload_n (pc := 47) h dX5_handledAt_47 rfl ?_
        refine z_iret (pc := 48) h rfl dX5_handledAt_48 ?_
        refine ⟨congrArg (fun z => some (zI z)) ?_, rfl⟩
        rw [ha, show i = m.2 1 1 by omega]
        rfl
      · have q4 := (hR1 i h1 (by omega)).2.2
        have hb := (hD.2.2.2.2.2.1 i h1 (by omega)).1
        have hcap : a_cap (m.2 1) i ≤ 60 := by
          have hk := hS.1.2.2.2.2.2.2.1 i h1 (by omega)
          unfold a_cap
          split
          · rename_i y; have := (hk.2.2.1 y).2.2.1; omega
          · rename_i y; exact (a_load_b hS.1 h1 (by omega) (by omega)).2
        refine z_iload_n (pc := 15) h dX5_handledAt_15 rfl ?_
        refine z_aloadR_n (pc := 16) h dX5_handledAt_16 rfl ?_
        refine z_getR (pc := 17) (c := 5) (j := 1) h (by first | assumption | rfl) (by first | assumption | rfl) rfl rfl fl_X5_55 dX5_handledAt_17 ?_
        refine z_getA4 (pc := 20) (c := 3) (j := 0) h (by first | assumption | rfl) rfl rfl fl_X5_220 dX5_handledAt_20 ?_
        refine z_iload_n (pc := 23) h dX5_handledAt_23 rfl ?_
        refine z_ialdq (pc := 24) (c := 3) (j := 0) (L := 8) h (zo_n hpr) (by first | assumption | rfl) (by decide) rfl (by decide) (by omega) (by omega) dX5_handledAt_24 (fun g24 => ?_)
        refine z_iload_n (pc := 25) h dX5_handledAt_25 rfl ?_
        refine z_icmp_ne (pc := 26) (tgt := 38) h (by omega) (by omega) dX5_handledAt_26 (by decide) (fun c26 => ?_) (fun c26 => ?_)
        · refine z_iconst (pc := 38) h dX5_handledAt_38 ?_
          refine z_iadd (pc := 39) h dX5_handledAt_39 ?_
          refine z_ist_2 (pc := 40) h dX5_handledAt_40 (by decide) rfl ?_
          refine z_inc_3 (pc := 41) h dX5_handledAt_41 (by decide) rfl ?_
          refine z_goto (pc := 44) (tgt := 4) h dX5_handledAt_44 (by decide) ?_
          first
          | (rw [if_pos c26] at hS1; exact ih (i + 1) _ (by omega) (by omega) (by omega) (by omega) (by omega) (by rw [hS1, q4]))
          | (rw [if_neg c26] at hS1; exact ih (i + 1) _ (by omega) (by omega) (by omega) (by omega) (by omega) hS1.symm)
        · refine z_aloadR_n (pc := 29) h dX5_handledAt_29 rfl ?_
          refine z_getA4 (pc := 30) (c := 5) (j := 4) h (by first | assumption | rfl) rfl rfl fl_X5_18 dX5_handledAt_30 ?_
          refine z_iload_n (pc := 33) h dX5_handledAt_33 rfl ?_
          refine z_ialdq (pc := 34) (c := 5) (j := 4) (L := 8) h (zo_s _ _ _) (by first | assumption | rfl) (by decide) rfl (by decide) (by omega) (by omega) dX5_handledAt_34 (fun g34 => ?_)
          refine z_goto (pc := 35) (tgt := 39) h dX5_handledAt_35 (by decide) ?_
          refine z_iadd (pc := 39) h dX5_handledAt_39 ?_
          refine z_ist_2 (pc := 40) h dX5_handledAt_40 (by decide) rfl ?_
          refine z_inc_3 (pc := 41) h dX5_handledAt_41 (by decide) rfl ?_
          refine z_goto (pc := 44) (tgt := 4) h dX5_handledAt_44 (by decide) ?_
          first
          | (rw [if_pos c26] at hS1; exact ih (i + 1) _ (by omega) (by omega) (by omega) (by omega) (by omega) (by rw [hS1, q4]))
          | (rw [if_neg c26] at hS1; exact ih (i + 1) _ (by omega) (by omega) (by omega) (by omega) (by omega) hS1.symm)
  refine z_iconst (pc := 0) h dX5_handledAt_0 ?_
  refine z_ist_2 (pc := 1) h dX5_handledAt_1 (by decide) rfl ?_
  refine z_iconst (pc := 2) h dX5_handledAt_2 ?_
  refine z_ist_3 (pc := 3) h dX5_handledAt_3 (by decide) rfl ?_
  exact L (m.2 1 1 + 1).toNat 0 0 (by omega) (by omega) (by omega) (by omega) (by omega) rfl
