/-! The class's run: loops over doors. -/
theorem RR_po {dk Y m : zOb} {d t mi : Int} (ht : t = s_tr m d) (hmi : mi = m.1 35) (hS : SI m) (hD : DI (-1) m) (hE : DKE dk (m.2 1)) (hR : RR Y m) (h0 : 0 ≤ d) (h1 : d < m.2 1 0) (hk : m.2 1 (5 + 2 * d) = 1) (hst : m.2 33 d = 1) (hb : s_best m d (m.1 20) ≠ -1) : RR (if dk.2 11 t ≤ Y.2 4 t + 1 then r_lv dk t d mi (r_po1 dk (s_best m d (m.1 20)) t d mi Y) else r_po1 dk (s_best m d (m.1 20)) t d mi Y) (s_po d m) := by
  subst ht; subst hmi
  have htr := tr_ok hS hD h0 h1 hst
  rcases s_best_spec m d (n := m.1 20) hS.2.2.2.1.1 with y | ⟨y1, y2, y3⟩
  · exact absurd y hb
  · have hR1 := RR_po1 hS hD hE hR h0 h1 hst y1 y2 y3
    have hD1 := DI_po1 hS hD h0 h1 hk hst y1 y2 y3
    have hcap := hD.2.1 d (by omega) h0 h1 hst
    unfold a_cap at hcap
    rw [if_pos (by omega)] at hcap
    have hrm : dk.2 11 (s_tr m d) = m.2 1 (17 + 6 * s_tr m d + 4) := ((hE.2.2.2.2.2.1 _ htr.2.1 htr.2.2.1).2.1 (by omega)).2.2.1
    have hh := (hR.1 _ htr.2.1 htr.2.2.1).2.2
    unfold s_po
    rw [if_neg hb]
    by_cases q : m.2 29 (s_tr m d) + 1 = m.2 1 (17 + 6 * s_tr m d + 4)
    · rw [if_pos q, if_pos (by omega)]
      exact RR_lv (m := s_po1 d (s_best m d (m.1 20)) m) (d := d) (x := d) hS hD1 hR1 h0 h1 hst hE.2.2.2.1
    · rw [if_neg q, if_neg (by omega)]
      exact hR1
theorem RR_to {dk Y m : zOb} {d t mi c : Int} (ht : t = s_tr m d) (hmi : mi = m.1 35) (hcx : c = s_nx m (s_tr m d)) (hS : SI m) (hD : DI (-1) m) (hE : DKE dk (m.2 1)) (hR : RR Y m) (h0 : 0 ≤ d) (h1 : d < m.2 1 0) (hk : m.2 1 (5 + 2 * d) ≠ 1) (hst : m.2 33 d = 1) (hsp : m.1 36 < m.2 1 2) : RR (if dk.2 11 t ≤ Y.2 4 t + 1 then r_lv dk t d mi (r_to1 dk c t d mi Y) else r_to1 dk c t d mi Y) (s_to d m) := by
  subst ht; subst hmi; subst hcx
  have htr := tr_ok hS hD h0 h1 hst
  have hR1 := RR_to1 hS hD hE hR h0 h1 hk hst
  have hD1 := DI_to1 hS hD h0 h1 hk hst
  have n5 := (s_nx_eq hS hD h0 h1 hk hst).2.2.2.2
  have hcap := hD.2.1 d (by omega) h0 h1 hst
  unfold a_cap at hcap
  rw [if_neg (by omega)] at hcap
  have hrm : dk.2 11 (s_tr m d) = a_load (m.2 1) (s_tr m d) := ((hE.2.2.2.2.2.1 _ htr.2.1 htr.2.2.1).2.2 n5).2.2.1
  have hh := (hR.1 _ htr.2.1 htr.2.2.1).2.2
  have e : s_to d m = if m.2 29 (s_tr m d) + 1 = s_load m (s_tr m d) then s_lv d (s_to1 (s_tr m d) (s_nx m (s_tr m d)) m) else s_to1 (s_tr m d) (s_nx m (s_tr m d)) m := by
    unfold s_to
    rw [if_neg (show ¬ m.2 1 2 ≤ m.1 36 by omega)]
  rw [e]
  by_cases q : m.2 29 (s_tr m d) + 1 = s_load m (s_tr m d)
  · rw [if_pos q, if_pos (show dk.2 11 (s_tr m d) ≤ Y.2 4 (s_tr m d) + 1 by rw [s_load_eq] at q; omega)]
    exact RR_lv (m := s_to1 (s_tr m d) (s_nx m (s_tr m d)) m) (d := d) (x := d) hS hD1 hR1 h0 h1 hst hE.2.2.2.1
  · rw [if_neg q, if_neg (show ¬ dk.2 11 (s_tr m d) ≤ Y.2 4 (s_tr m d) + 1 by rw [s_load_eq] at q; omega)]
    exact hR1
theorem s_left_x {m : zOb} (hn : 0 ≤ m.1 20) (z : Int) : s_left m z = false ↔ s_x m z = 0 := by
  unfold s_left
  rcases zfst_cases (fun c => decide (m.2 22 c = z ∧ m.2 24 c = -1 ∧ m.2 30 (m.2 21 c) ≠ -1)) (m.1 20) with ⟨y1, y2⟩ | ⟨y1, y2, y3, y4⟩
  · rw [y1]
    simp only [ne_eq, not_true_eq_false, decide_false, true_iff]
    refine zcnt_none (fun i q1 q2 => decide_eq_false ?_)
    rintro ⟨a1, a2, a3⟩
    exact of_decide_eq_false (y2 i q1 q2) ⟨a2, a1, a3⟩
  · have hne : zfst (fun c => decide (m.2 22 c = z ∧ m.2 24 c = -1 ∧ m.2 30 (m.2 21 c) ≠ -1)) (m.1 20) ≠ -1 := by omega
    constructor
    · intro q
      exact absurd hne (of_decide_eq_false q)
    · intro q
      have h := zcnt_zero q _ y1 y2
      have y3 := of_decide_eq_true y3
      exact absurd ⟨y3.2.1, y3.1, y3.2.2⟩ (of_decide_eq_false h)
/-- what bounds a run has -/
theorem run_b {dk Y m : zOb} (hS : SI m) (hD : DI (-1) m) (hE : DKE dk (m.2 1)) (hR : RR Y m) : 0 ≤ Y.1 17 ∧ (0 ≤ Y.1 16 ∧ Y.1 16 ≤ 40) ∧ (∀ t, 0 ≤ t → t < m.2 1 1 → 0 ≤ Y.2 4 t ∧ Y.2 4 t ≤ 60) ∧ (∀ z, 0 ≤ z → z ≤ 3 → (0 ≤ Y.2 13 z ∧ Y.2 13 z ≤ 40) ∧ (0 ≤ Y.2 14 z ∧ Y.2 14 z ≤ 40)) ∧ (0 ≤ dk.1 4 ∧ dk.1 4 ≤ 9) ∧ (∀ c, 0 ≤ c → c < m.1 20 → (0 ≤ dk.2 15 c ∧ dk.2 15 c ≤ 3)) := by
  have hn := hS.2.2.2.1
  refine ⟨?_, ?_, fun t q0 q1 => ?_, fun z q0 q1 => ?_, ?_, fun c q0 q1 => ?_⟩
  · rw [hR.2.2.2.2.2.2]
    exact zsum_nn hS.1.1.1 (fun i g1 g2 => by have := (hD.1 i g1 g2).1; omega)
  · have z := hD.2.2.2.2.2.2.2.1
    have z2 := zcnt_b (fun c => decide (m.2 23 c ≠ -1 ∧ m.2 24 c = -1)) (n := m.1 20) (by omega)
    unfold s_stg at z
    rw [hR.2.2.2.2.2.1]
    omega
  · have h1 := (hR.1 t q0 q1).2.2
    have h2 := (hD.2.2.2.2.2.1 t q0 q1).1
    have h3 : a_cap (m.2 1) t ≤ 60 := by
      unfold a_cap
      split
      · rename_i q
        have := ((hS.1.2.2.2.2.2.2.1 t q0 q1).2.2.1 q).2.2.1
        omega
      · rename_i q
        exact (a_load_b hS.1 q0 q1 (by rcases (hS.1.2.2.2.2.2.2.1 t q0 q1).1 with y | y; exact y; exact absurd y q)).2
    omega
  · obtain ⟨g1, g2⟩ := hR.2.2.2.1 z q0 q1
    have b1 := zcnt_b (fun c => decide (m.2 23 c ≠ -1 ∧ m.2 24 c = -1 ∧ m.2 22 c = z)) (n := m.1 20) (by omega)
    have b2 := zcnt_b (fun c => decide (m.2 24 c = -1 ∧ m.2 22 c = z ∧ m.2 30 (m.2 21 c) ≠ -1)) (n := m.1 20) (by omega)
    unfold s_w at g1
    unfold s_x at g2
    omega
  · rw [hE.2.2.2.1]
    exact hS.1.2.2.2.1
  · rw [(env_c hS hE q0 q1).2]
    exact (hS.2.2.2.2.1 c q0 q1).2.2.1
theorem c_putOn {σ : zS} {r p : Nat} {Y m : zOb} (hu : RUNH r p) (hS : SI m) (hD : DI (-1) m) (hE : DKE (σ 4) (m.2 1)) (hR : RR Y m) (hmn : m.1 35 ≤ 199) : zC M_X5_putOn 3 [zR r, zI (m.1 35)] (zo σ r Y) (fun rr τ' => rr = none ∧ ∃ Y', τ' = zo σ r Y' ∧ RR Y' (s_p2 m)) := by
  obtain ⟨hr, hr0, hr1, hp, h4, hpr⟩ := id hu
  have h6 := hS.1.1
  have h8 := hS.1.2.1
  have hm0 := hD.2.2.2.2.2.2.2.2
  have hdn := hE.1
  have htn := hE.2.1
  refine zC_of (M := M_X5_putOn) (ls := [some (zR r), some (zI (m.1 35)), none, none, none]) (n := 3) (by decide) (fun ad => Nat.le_of_ble_eq_true rfl) rfl (fun x h => ?_)
  have L : ∀ (n : Nat) (i : Int) (Y : zOb) (a b : Option Value), 0 ≤ i → i ≤ m.2 1 0 → m.2 1 0 - i < n → RR Y (zfor s_f2 i m) → zc1 a = true → zW x (fun rr τ' => rr = none ∧ ∃ Y', τ' = zo σ r Y' ∧ RR Y' (s_p2 m)) 2 [some (zR r), some (zI (m.1 35)), some (zI i), a, b] [] (zo σ r Y) := by
    intro n
    induction n with
    | zero => intro i Y a b h1 h2 h3; omega
    | succ n ih =>
      intro i Y a b h1 h2 h3 hR hca
      obtain ⟨k1, k2, k3, -⟩ := KP_for KP_f2 hS hD h1 h2
      have hih := fun Y a b => ih (i + 1) Y a b (by omega)
      simp only [zfor_S _ h1] at hih
      have hgo : i = m.2 1 0 → zfor s_f2 i m = s_p2 m := fun e => by rw [e]; rfl
      generalize zfor s_f2 i m = mm at hih k1 k2 k3 hgo hR
      have e1 : mm.2 1 = m.2 1 := k3.1
      have e35 : mm.1 35 = m.1 35 := k3.2.2.2.2.2.2
      have hEm : DKE (σ 4) (mm.2 1) := by rw [e1]; exact hE
      have hnc := k1.2.2.2.1
      have hcn : (σ 4).1 2 = mm.1 20 := by rw [hEm.2.2.1, k1.2.2.1]
      have e10 : mm.2 1 0 = m.2 1 0 := by rw [e1]
      have e11 : mm.2 1 1 = m.2 1 1 := by rw [e1]
      refine z_iload_n (pc := 2) h dX5_putOn_2 rfl ?_
      refine z_aloadR_n (pc := 3) h dX5_putOn_3 rfl ?_
      refine z_getR (pc := 4) (c := 5) (j := 0) h (by first | assumption | rfl) (by first | assumption | rfl) rfl rfl fl_X5_51 dX5_putOn_4 ?_
      refine z_getIq (pc := 7) (c := 1) (j := 0) h (zo_n h4) (by first | assumption | rfl) rfl rfl fl_X5_115 dX5_putOn_7 (fun g7 => ?_)
      refine z_icmp_ge (pc := 10) (tgt := 88) h (by omega) (by omega) dX5_putOn_10 (by decide) (fun c10 => ?_) (fun c10 => ?_)
      · refine z_ret (pc := 88) h rfl dX5_putOn_88 ?_
        rw [← hgo (by omega)]
        exact ⟨rfl, Y, rfl, hR⟩
      · obtain ⟨a1, a2, a3⟩ := hR.2.2.1 i h1 (by omega)
        have hdk := hEm.2.2.2.2.1 i h1 (by omega)
        have hddi := k2.1 i h1 (by omega)
        refine z_aloadR_n (pc := 13) h dX5_putOn_13 rfl ?_
        refine z_getA4 (pc := 14) (c := 5) (j := 10) h (by first | assumption | rfl) rfl rfl fl_X5_36 dX5_putOn_14 ?_
        refine z_iload_n (pc := 17) h dX5_putOn_17 rfl ?_
        refine z_ialdq (pc := 18) (c := 5) (j := 10) (L := 6) h (zo_s _ _ _) (by first | assumption | rfl) (by decide) rfl (by decide) (by omega) (by omega) dX5_putOn_18 (fun g18 => ?_)
        refine z_ist_3 (pc := 19) h dX5_putOn_19 (by decide) rfl ?_
        refine z_aloadR_n (pc := 20) h dX5_putOn_20 rfl ?_
        refine z_getR (pc := 21) (c := 5) (j := 0) h (by first | assumption | rfl) (by first | assumption | rfl) rfl rfl fl_X5_51 dX5_putOn_21 ?_
        refine z_getA4 (pc := 24) (c := 1) (j := 5) h (by first | assumption | rfl) rfl rfl fl_X5_150 dX5_putOn_24 ?_
        refine z_iload_n (pc := 27) h dX5_putOn_27 rfl ?_
        refine z_ialdq (pc := 28) (c := 1) (j := 5) (L := 6) h (zo_n h4) (by first | assumption | rfl) (by decide) rfl (by decide) (by omega) (by omega) dX5_putOn_28 (fun g28 => ?_)
        refine z_iconst (pc := 29) h dX5_putOn_29 ?_
        refine z_icmp_ne (pc := 30) (tgt := 82) h (by omega) (by omega) dX5_putOn_30 (by decide) (fun c30 => ?_) (fun c30 => ?_)
        · have hk1 : ¬ mm.2 1 (5 + 2 * i) = 1 := by omega
          refine z_inc_2 (pc := 82) h dX5_putOn_82 (by decide) rfl ?_
          refine z_goto (pc := 85) (tgt := 2) h dX5_putOn_85 (by decide) ?_
          refine hih _ _ _ (by omega) (by omega) ?_ rfl
          unfold s_f2
          first
          | (rw [if_neg (fun y => hk1 y.1)]; exact hR)
          | (rw [if_neg (fun y => hns y.2)]; exact hR)
          | (rw [if_pos (show mm.2 1 (5 + 2 * i) = 1 ∧ mm.2 33 i = 1 from ⟨by omega, hst⟩)]; unfold s_po; rw [if_pos hb70]; exact hR)
          | (rw [if_pos (show mm.2 1 (5 + 2 * i) = 1 ∧ mm.2 33 i = 1 from ⟨by omega, hst⟩)]
             exact RR_po a1 e35.symm k1 k2 hEm hR h1 (by omega) (by omega) hst (by omega))
        · refine z_aloadR_n (pc := 33) h dX5_putOn_33 rfl ?_
          refine z_getR (pc := 34) (c := 5) (j := 0) h (by first | assumption | rfl) (by first | assumption | rfl) rfl rfl fl_X5_51 dX5_putOn_34 ?_
          refine z_iload_n (pc := 37) h dX5_putOn_37 rfl ?_
          refine z_pV (pc := 38) (c := 1) h (c_hasTruck h4 (by omega)) (by decide) (by first | assumption | rfl) rfl mv_X1_hasTruck ml_X5_141 rfl dX5_putOn_38 rfl (Nat.le_of_ble_eq_true rfl) ?_
          refine z_ifeqB (pc := 41) (tgt := 82) h dX5_putOn_41 (by decide) (fun c41 => ?_) (fun c41 => ?_)
          · have hns : ¬ mm.2 33 i = 1 := by
              intro y2
              have y := of_decide_eq_false c41
              rw [if_pos y2] at a1
              have htr := tr_ok k1 k2 (d := i) h1 (by omega) y2
              dsimp only [s_tr] at htr
              omega
            refine z_inc_2 (pc := 82) h dX5_putOn_82 (by decide) rfl ?_
            refine z_goto (pc := 85) (tgt := 2) h dX5_putOn_85 (by decide) ?_
            refine hih _ _ _ (by omega) (by omega) ?_ rfl
            unfold s_f2
            first
            | (rw [if_neg (fun y => hk1 y.1)]; exact hR)
            | (rw [if_neg (fun y => hns y.2)]; exact hR)
            | (rw [if_pos (show mm.2 1 (5 + 2 * i) = 1 ∧ mm.2 33 i = 1 from ⟨by omega, hst⟩)]; unfold s_po; rw [if_pos hb70]; exact hR)
            | (rw [if_pos (show mm.2 1 (5 + 2 * i) = 1 ∧ mm.2 33 i = 1 from ⟨by omega, hst⟩)]
               exact RR_po a1 e35.symm k1 k2 hEm hR h1 (by omega) (by omega) hst (by omega))
          · have c41 := of_decide_eq_true c41
            have hst : mm.2 33 i = 1 := by rcases Classical.em (mm.2 33 i = 1) with y | y; exact y; rw [if_neg y] at a1; omega
            rw [if_pos hst] at a1
            have htr := tr_ok k1 k2 (d := i) h1 (by omega) hst
            dsimp only [s_tr] at htr
            have hdst := ((hEm.2.2.2.2.2.1 _ htr.2.1 htr.2.2.1).2.1 (by omega)).1
            have hdst2 := ((k1.1.2.2.2.2.2.2.1 _ htr.2.1 htr.2.2.1).2.2.1 (by omega)).1
            have hbb := run_b k1 k2 hEm hR
            refine z_aloadR_n (pc := 44) h dX5_putOn_44 rfl ?_
            refine z_iload_n (pc := 45) h dX5_putOn_45 rfl ?_
            refine z_aloadR_n (pc := 46) h dX5_putOn_46 rfl ?_
            refine z_getR (pc := 47) (c := 5) (j := 0) h (by first | assumption | rfl) (by first | assumption | rfl) rfl rfl fl_X5_51 dX5_putOn_47 ?_
            refine z_getA4 (pc := 50) (c := 1) (j := 9) h (by first | assumption | rfl) rfl rfl fl_X5_153 dX5_putOn_50 ?_
            refine z_iload_n (pc := 53) h dX5_putOn_53 rfl ?_
            refine z_ialdq (pc := 54) (c := 1) (j := 9) (L := 8) h (zo_n h4) (by first | assumption | rfl) (by decide) rfl (by decide) (by omega) (by omega) dX5_putOn_54 (fun g54 => ?_)
            refine z_iload_n (pc := 55) h dX5_putOn_55 rfl ?_
            refine z_pV (pc := 56) (c := 5) h (show zCp M_X5_firstReady 2 [zR r, zI i, zI ((σ 4).2 9 (Y.2 10 i)), zI (m.1 35)] (zo σ r Y) (zI (s_best mm i (mm.1 20))) from by rw [← e35]; exact c_firstReady hu k1 k2 hEm hR h1 (by omega) hst (by omega) (by rw [a1]; exact hdst) (by omega)) (by decide) (by first | assumption | rfl) rfl mv_X5_firstReady ml_X5_156 rfl dX5_putOn_56 rfl (Nat.le_of_ble_eq_true rfl) ?_
            refine z_ist_4 (pc := 59) h dX5_putOn_59 (by decide) rfl ?_
            have hbs := s_best_spec mm i (n := mm.1 20) (by omega)
            refine z_aloadR_n (pc := 61) h dX5_putOn_61 rfl ?_
            refine z_getR (pc := 62) (c := 5) (j := 0) h (by first | assumption | rfl) (by first | assumption | rfl) rfl rfl fl_X5_51 dX5_putOn_62 ?_
            refine z_iload (pc := 65) h dX5_putOn_65 rfl ?_
            refine z_pV (pc := 67) (c := 1) h (c_hasCarton h4 (by omega)) (by decide) (by first | assumption | rfl) rfl mv_X1_hasCarton ml_X5_160 rfl dX5_putOn_67 rfl (Nat.le_of_ble_eq_true rfl) ?_
            refine z_ifeqB (pc := 70) (tgt := 82) h dX5_putOn_70 (by decide) (fun c70 => ?_) (fun c70 => ?_)
            · have hb70 : s_best mm i (mm.1 20) = -1 := by have y := of_decide_eq_false c70; omega
              refine z_inc_2 (pc := 82) h dX5_putOn_82 (by decide) rfl ?_
              refine z_goto (pc := 85) (tgt := 2) h dX5_putOn_85 (by decide) ?_
              refine hih _ _ _ (by omega) (by omega) ?_ rfl
              unfold s_f2
              first
              | (rw [if_neg (fun y => hk1 y.1)]; exact hR)
              | (rw [if_neg (fun y => hns y.2)]; exact hR)
              | (rw [if_pos (show mm.2 1 (5 + 2 * i) = 1 ∧ mm.2 33 i = 1 from ⟨by omega, hst⟩)]; unfold s_po; rw [if_pos hb70]; exact hR)
              | (rw [if_pos (show mm.2 1 (5 + 2 * i) = 1 ∧ mm.2 33 i = 1 from ⟨by omega, hst⟩)]
                 exact RR_po a1 e35.symm k1 k2 hEm hR h1 (by omega) (by omega) hst (by omega))
            · have c70 := of_decide_eq_true c70
              have hcan : s_can mm i (s_best mm i (mm.1 20)) = true := by rcases hbs with y | y; omega; exact y.2.2
              have hoff : mm.2 23 (s_best mm i (mm.1 20)) ≠ -1 := by have y := hcan; unfold s_can at y; exact (of_decide_eq_true y).1
              have hdf := door_facts k1 k2 (d := i) h1 (by omega) c70.1 (by omega) hoff
              have hfs := (hR.2.1 _ c70.1 (by omega)).2.2.2.2 hoff
              have hai := hbb.2.2.2.2.2 _ c70.1 (by omega)
              have hwz := hbb.2.2.2.1 _ hai.1 hai.2
              have hhh := hbb.2.2.1 (Y.2 10 i) (by omega) (by omega)
              refine z_aloadR_n (pc := 73) h dX5_putOn_73 rfl ?_
              refine z_iload (pc := 74) h dX5_putOn_74 rfl ?_
              refine z_iload_n (pc := 76) h dX5_putOn_76 rfl ?_
              refine z_iload_n (pc := 77) h dX5_putOn_77 rfl ?_
              refine z_iload_n (pc := 78) h dX5_putOn_78 rfl ?_
              refine z_vV (pc := 79) (c := 5) h (c_putOneOn hu (by omega) (by omega) (by omega) (by omega) (by omega) (by omega) (by omega) (by omega) (by omega) (by omega) (by omega) (by omega) (by omega)) (by decide) (by first | assumption | rfl) rfl mv_X5_putOneOn ml_X5_163 rfl dX5_putOn_79 rfl (Nat.le_of_ble_eq_true rfl) ?_
              refine z_inc_2 (pc := 82) h dX5_putOn_82 (by decide) rfl ?_
              refine z_goto (pc := 85) (tgt := 2) h dX5_putOn_85 (by decide) ?_
              refine hih _ _ _ (by omega) (by omega) ?_ rfl
              unfold s_f2
              first
              | (rw [if_neg (fun y => hk1 y.1)]; exact hR)
              | (rw [if_neg (fun y => hns y.2)]; exact hR)
              | (rw [if_pos (show mm.2 1 (5 + 2 * i) = 1 ∧ mm.2 33 i = 1 from ⟨by omega, hst⟩)]; unfold s_po; rw [if_pos hb70]; exact hR)
              | (rw [if_pos (show mm.2 1 (5 + 2 * i) = 1 ∧ mm.2 33 i = 1 from ⟨by omega, hst⟩)]
                 exact RR_po a1 e35.symm k1 k2 hEm hR h1 (by omega) (by omega) hst (by omega))
  refine z_iconst (pc := 0) h dX5_putOn_0 ?_
  refine z_ist_2 (pc := 1) h dX5_putOn_1 (by decide) rfl ?_
  exact L (m.2 1 0 + 1).toNat 0 Y _ _ (by omega) (by omega) (by omega) hR rfl
theorem c_takeOff {σ : zS} {r p : Nat} {Y m : zOb} (hu : RUNH r p) (hS : SI m) (hD : DI (-1) m) (hE : DKE (σ 4) (m.2 1)) (hR : RR Y m) (hmn : m.1 35 ≤ 199) : zC M_X5_takeOff 3 [zR r, zI (m.1 35)] (zo σ r Y) (fun rr τ' => rr = none ∧ ∃ Y', τ' = zo σ r Y' ∧ RR Y' (s_p3 m)) := by
  obtain ⟨hr, hr0, hr1, hp, h4, hpr⟩ := id hu
  have h6 := hS.1.1
  have h8 := hS.1.2.1
  have hm0 := hD.2.2.2.2.2.2.2.2
  have hdn := hE.1
  have htn := hE.2.1
  refine zC_of (M := M_X5_takeOff) (ls := [some (zR r), some (zI (m.1 35)), none, none, none]) (n := 3) (by decide) (fun ad => Nat.le_of_ble_eq_true rfl) rfl (fun x h => ?_)
  have L : ∀ (n : Nat) (i : Int) (Y : zOb) (a b : Option Value), 0 ≤ i → i ≤ m.2 1 0 → m.2 1 0 - i < n → RR Y (zfor s_f3 i m) → zc1 a = true → zW x (fun rr τ' => rr = none ∧ ∃ Y', τ' = zo σ r Y' ∧ RR Y' (s_p3 m)) 2 [some (zR r), some (zI (m.1 35)), some (zI i), a, b] [] (zo σ r Y) := by
    intro n
    induction n with
    | zero => intro i Y a b h1 h2 h3; omega
    | succ n ih =>
      intro i Y a b h1 h2 h3 hR hca
      obtain ⟨k1, k2, k3, -⟩ := KP_for KP_f3 hS hD h1 h2
      have hih := fun Y a b => ih (i + 1) Y a b (by omega)
      simp only [zfor_S _ h1] at hih
      have hgo : i = m.2 1 0 → zfor s_f3 i m = s_p3 m := fun e => by rw [e]; rfl
      generalize zfor s_f3 i m = mm at hih k1 k2 k3 hgo hR
      have e1 : mm.2 1 = m.2 1 := k3.1
      have e35 : mm.1 35 = m.1 35 := k3.2.2.2.2.2.2
      have hEm : DKE (σ 4) (mm.2 1) := by rw [e1]; exact hE
      have hnc := k1.2.2.2.1
      have hcn : (σ 4).1 2 = mm.1 20 := by rw [hEm.2.2.1, k1.2.2.1]
      have e10 : mm.2 1 0 = m.2 1 0 := by rw [e1]
      have e11 : mm.2 1 1 = m.2 1 1 := by rw [e1]
      have h15 := hR.2.2.2.2.1
      have h16 := hR.2.2.2.2.2.1
      refine z_iload_n (pc := 2) h dX5_takeOff_2 rfl ?_
      refine z_aloadR_n (pc := 3) h dX5_takeOff_3 rfl ?_
      refine z_getR (pc := 4) (c := 5) (j := 0) h (by first | assumption | rfl) (by first | assumption | rfl) rfl rfl fl_X5_51 dX5_takeOff_4 ?_
      refine z_getIq (pc := 7) (c := 1) (j := 0) h (zo_n h4) (by first | assumption | rfl) rfl rfl fl_X5_115 dX5_takeOff_7 (fun g7 => ?_)
      refine z_icmp_ge (pc := 10) (tgt := 99) h (by omega) (by omega) dX5_takeOff_10 (by decide) (fun c10 => ?_) (fun c10 => ?_)
      · refine z_ret (pc := 99) h rfl dX5_takeOff_99 ?_
        rw [← hgo (by omega)]
        exact ⟨rfl, Y, rfl, hR⟩
      · obtain ⟨a1, a2, a3⟩ := hR.2.2.1 i h1 (by omega)
        have hdk := hEm.2.2.2.2.1 i h1 (by omega)
        have hdk2 := (k1.1.2.2.2.2.2.1 i h1 (by omega)).1
        have hddi := k2.1 i h1 (by omega)
        refine z_aloadR_n (pc := 13) h dX5_takeOff_13 rfl ?_
        refine z_getA4 (pc := 14) (c := 5) (j := 10) h (by first | assumption | rfl) rfl rfl fl_X5_36 dX5_takeOff_14 ?_
        refine z_iload_n (pc := 17) h dX5_takeOff_17 rfl ?_
        refine z_ialdq (pc := 18) (c := 5) (j := 10) (L := 6) h (zo_s _ _ _) (by first | assumption | rfl) (by decide) rfl (by decide) (by omega) (by omega) dX5_takeOff_18 (fun g18 => ?_)
        refine z_ist_3 (pc := 19) h dX5_takeOff_19 (by decide) rfl ?_
        refine z_aloadR_n (pc := 20) h dX5_takeOff_20 rfl ?_
        refine z_getR (pc := 21) (c := 5) (j := 0) h (by first | assumption | rfl) (by first | assumption | rfl) rfl rfl fl_X5_51 dX5_takeOff_21 ?_
        refine z_getA4 (pc := 24) (c := 1) (j := 5) h (by first | assumption | rfl) rfl rfl fl_X5_150 dX5_takeOff_24 ?_
        refine z_iload_n (pc := 27) h dX5_takeOff_27 rfl ?_
        refine z_ialdq (pc := 28) (c := 1) (j := 5) (L := 6) h (zo_n h4) (by first | assumption | rfl) (by decide) rfl (by decide) (by omega) (by omega) dX5_takeOff_28 (fun g28 => ?_)
        refine z_if_ne (pc := 29) (tgt := 93) h (by omega) dX5_takeOff_29 (by decide) (fun c29 => ?_) (fun c29 => ?_)
        · have hk1 : ¬ mm.2 1 (5 + 2 * i) ≠ 1 := by omega
          refine z_inc_2 (pc := 93) h dX5_takeOff_93 (by decide) rfl ?_
          refine z_goto (pc := 96) (tgt := 2) h dX5_takeOff_96 (by decide) ?_
          refine hih _ _ _ (by omega) (by omega) ?_ rfl
          unfold s_f3
          first
          | (rw [if_neg (fun y => hk1 y.1)]; exact hR)
          | (rw [if_neg (fun y => hns y.2)]; exact hR)
          | (rw [if_pos (show mm.2 1 (5 + 2 * i) ≠ 1 ∧ mm.2 33 i = 1 from ⟨hk0, hst⟩)]; unfold s_to; rw [if_pos hfull]; exact hR)
          | (rw [if_pos (show mm.2 1 (5 + 2 * i) ≠ 1 ∧ mm.2 33 i = 1 from ⟨hk0, hst⟩)]
             exact RR_to a1 e35.symm (by rw [hcx, a1]) k1 k2 hEm hR h1 (by omega) hk0 hst (by omega))
        · refine z_aloadR_n (pc := 32) h dX5_takeOff_32 rfl ?_
          refine z_getR (pc := 33) (c := 5) (j := 0) h (by first | assumption | rfl) (by first | assumption | rfl) rfl rfl fl_X5_51 dX5_takeOff_33 ?_
          refine z_iload_n (pc := 36) h dX5_takeOff_36 rfl ?_
          refine z_pV (pc := 37) (c := 1) h (c_hasTruck h4 (by omega)) (by decide) (by first | assumption | rfl) rfl mv_X1_hasTruck ml_X5_141 rfl dX5_takeOff_37 rfl (Nat.le_of_ble_eq_true rfl) ?_
          refine z_ifeqB (pc := 40) (tgt := 93) h dX5_takeOff_40 (by decide) (fun c40 => ?_) (fun c40 => ?_)
          · have hns : ¬ mm.2 33 i = 1 := by
              intro y2
              have y := of_decide_eq_false c40
              rw [if_pos y2] at a1
              have htr := tr_ok k1 k2 (d := i) h1 (by omega) y2
              dsimp only [s_tr] at htr
              omega
            refine z_inc_2 (pc := 93) h dX5_takeOff_93 (by decide) rfl ?_
            refine z_goto (pc := 96) (tgt := 2) h dX5_takeOff_96 (by decide) ?_
            refine hih _ _ _ (by omega) (by omega) ?_ rfl
            unfold s_f3
            first
            | (rw [if_neg (fun y => hk1 y.1)]; exact hR)
            | (rw [if_neg (fun y => hns y.2)]; exact hR)
            | (rw [if_pos (show mm.2 1 (5 + 2 * i) ≠ 1 ∧ mm.2 33 i = 1 from ⟨hk0, hst⟩)]; unfold s_to; rw [if_pos hfull]; exact hR)
            | (rw [if_pos (show mm.2 1 (5 + 2 * i) ≠ 1 ∧ mm.2 33 i = 1 from ⟨hk0, hst⟩)]
               exact RR_to a1 e35.symm (by rw [hcx, a1]) k1 k2 hEm hR h1 (by omega) hk0 hst (by omega))
          · have c40 := of_decide_eq_true c40
            have hst : mm.2 33 i = 1 := by rcases Classical.em (mm.2 33 i = 1) with y | y; exact y; rw [if_neg y] at a1; omega
            rw [if_pos hst] at a1
            have htr := tr_ok k1 k2 (d := i) h1 (by omega) hst
            have hk0 : mm.2 1 (5 + 2 * i) ≠ 1 := by omega
            have hnx := s_nx_eq k1 k2 (d := i) h1 (by omega) hk0 hst
            have hbb := run_b k1 k2 hEm hR
            have hfc := ((hEm.2.2.2.2.2.1 _ htr.2.1 htr.2.2.1).2.2 hnx.2.2.2.2).2.2.2.2
            have hhd := (hR.1 _ htr.2.1 htr.2.2.1).2.2
            have hhh := hbb.2.2.1 _ htr.2.1 htr.2.2.1
            dsimp only [s_tr] at htr hnx hfc hhd hhh
            rw [← a1] at htr hnx hfc hhd hhh
            have hcx : (σ 4).2 13 (Y.2 10 i) + Y.2 4 (Y.2 10 i) = s_nx mm (Y.2 10 i) := by omega
            refine z_aloadR_n (pc := 43) h dX5_takeOff_43 rfl ?_
            refine z_getIq (pc := 44) (c := 5) (j := 16) h (zo_s _ _ _) (by first | assumption | rfl) rfl rfl fl_X5_112 dX5_takeOff_44 (fun g44 => ?_)
            refine z_aloadR_n (pc := 47) h dX5_takeOff_47 rfl ?_
            refine z_getIq (pc := 48) (c := 5) (j := 15) h (zo_s _ _ _) (by first | assumption | rfl) rfl rfl fl_X5_65 dX5_takeOff_48 (fun g48 => ?_)
            refine z_icmp_ge (pc := 51) (tgt := 93) h (by omega) (by omega) dX5_takeOff_51 (by decide) (fun c51 => ?_) (fun c51 => ?_)
            · have hfull : mm.2 1 2 ≤ mm.1 36 := by omega
              refine z_inc_2 (pc := 93) h dX5_takeOff_93 (by decide) rfl ?_
              refine z_goto (pc := 96) (tgt := 2) h dX5_takeOff_96 (by decide) ?_
              refine hih _ _ _ (by omega) (by omega) ?_ rfl
              unfold s_f3
              first
              | (rw [if_neg (fun y => hk1 y.1)]; exact hR)
              | (rw [if_neg (fun y => hns y.2)]; exact hR)
              | (rw [if_pos (show mm.2 1 (5 + 2 * i) ≠ 1 ∧ mm.2 33 i = 1 from ⟨hk0, hst⟩)]; unfold s_to; rw [if_pos hfull]; exact hR)
              | (rw [if_pos (show mm.2 1 (5 + 2 * i) ≠ 1 ∧ mm.2 33 i = 1 from ⟨hk0, hst⟩)]
                 exact RR_to a1 e35.symm (by rw [hcx, a1]) k1 k2 hEm hR h1 (by omega) hk0 hst (by omega))
            · refine z_aloadR_n (pc := 54) h dX5_takeOff_54 rfl ?_
              refine z_getR (pc := 55) (c := 5) (j := 0) h (by first | assumption | rfl) (by first | assumption | rfl) rfl rfl fl_X5_51 dX5_takeOff_55 ?_
              refine z_getA4 (pc := 58) (c := 1) (j := 13) h (by first | assumption | rfl) rfl rfl fl_X5_189 dX5_takeOff_58 ?_
              refine z_iload_n (pc := 61) h dX5_takeOff_61 rfl ?_
              refine z_ialdq (pc := 62) (c := 1) (j := 13) (L := 8) h (zo_n h4) (by first | assumption | rfl) (by decide) rfl (by decide) (by omega) (by omega) dX5_takeOff_62 (fun g62 => ?_)
              refine z_aloadR_n (pc := 63) h dX5_takeOff_63 rfl ?_
              refine z_getA4 (pc := 64) (c := 5) (j := 4) h (by first | assumption | rfl) rfl rfl fl_X5_18 dX5_takeOff_64 ?_
              refine z_iload_n (pc := 67) h dX5_takeOff_67 rfl ?_
              refine z_ialdq (pc := 68) (c := 5) (j := 4) (L := 8) h (zo_s _ _ _) (by first | assumption | rfl) (by decide) rfl (by decide) (by omega) (by omega) dX5_takeOff_68 (fun g68 => ?_)
              refine z_iadd (pc := 69) h dX5_takeOff_69 ?_
              refine z_ist_4 (pc := 70) h dX5_takeOff_70 (by decide) rfl ?_
              refine z_aloadR_n (pc := 72) h dX5_takeOff_72 rfl ?_
              refine z_getR (pc := 73) (c := 5) (j := 0) h (by first | assumption | rfl) (by first | assumption | rfl) rfl rfl fl_X5_51 dX5_takeOff_73 ?_
              refine z_iload (pc := 76) h dX5_takeOff_76 rfl ?_
              refine z_pV (pc := 78) (c := 1) h (c_hasCarton h4 (by omega)) (by decide) (by first | assumption | rfl) rfl mv_X1_hasCarton ml_X5_160 rfl dX5_takeOff_78 rfl (Nat.le_of_ble_eq_true rfl) ?_
              refine z_ifeqB (pc := 81) (tgt := 93) h dX5_takeOff_81 (by decide) (fun c81 => ?_) (fun c81 => ?_)
              · exact absurd (of_decide_eq_false c81) (by omega)
              · have c81 := of_decide_eq_true c81
                have hai := hbb.2.2.2.2.2 _ c81.1 (by omega)
                have hwz := hbb.2.2.2.1 _ hai.1 hai.2
                refine z_aloadR_n (pc := 84) h dX5_takeOff_84 rfl ?_
                refine z_iload (pc := 85) h dX5_takeOff_85 rfl ?_
                refine z_iload_n (pc := 87) h dX5_takeOff_87 rfl ?_
                refine z_iload_n (pc := 88) h dX5_takeOff_88 rfl ?_
                refine z_iload_n (pc := 89) h dX5_takeOff_89 rfl ?_
                refine z_vV (pc := 90) (c := 5) h (c_takeOneOff hu (by omega) (by omega) (by omega) (by omega) (by omega) (by omega) (by omega) (by omega) (by omega) (by omega)) (by decide) (by first | assumption | rfl) rfl mv_X5_takeOneOff ml_X5_192 rfl dX5_takeOff_90 rfl (Nat.le_of_ble_eq_true rfl) ?_
                refine z_inc_2 (pc := 93) h dX5_takeOff_93 (by decide) rfl ?_
                refine z_goto (pc := 96) (tgt := 2) h dX5_takeOff_96 (by decide) ?_
                refine hih _ _ _ (by omega) (by omega) ?_ rfl
                unfold s_f3
                first
                | (rw [if_neg (fun y => hk1 y.1)]; exact hR)
                | (rw [if_neg (fun y => hns y.2)]; exact hR)
                | (rw [if_pos (show mm.2 1 (5 + 2 * i) ≠ 1 ∧ mm.2 33 i = 1 from ⟨hk0, hst⟩)]; unfold s_to; rw [if_pos hfull]; exact hR)
                | (rw [if_pos (show mm.2 1 (5 + 2 * i) ≠ 1 ∧ mm.2 33 i = 1 from ⟨hk0, hst⟩)]
                   exact RR_to a1 e35.symm (by rw [hcx, a1]) k1 k2 hEm hR h1 (by omega) hk0 hst (by omega))
  refine z_iconst (pc := 0) h dX5_takeOff_0 ?_
  refine z_ist_2 (pc := 1) h dX5_takeOff_1 (by decide) rfl ?_
  exact L (m.2 1 0 + 1).toNat 0 Y _ _ (by omega) (by omega) (by omega) hR rfl
theorem c_letGo {σ : zS} {r p : Nat} {Y m : zOb} (hu : RUNH r p) (hS : SI m) (hD : DI (-1) m) (hE : DKE (σ 4) (m.2 1)) (hR : RR Y m) (hmn : m.1 35 ≤ 199) : zC M_X5_letGo 3 [zR r, zI (m.1 35)] (zo σ r Y) (fun rr τ' => rr = none ∧ ∃ Y', τ' = zo σ r Y' ∧ RR Y' (s_p4 m)) := by
  obtain ⟨hr, hr0, hr1, hp, h4, hpr⟩ := id hu
  have h6 := hS.1.1
  have h8 := hS.1.2.1
  have hm0 := hD.2.2.2.2.2.2.2.2
  have hdn := hE.1
  have htn := hE.2.1
  refine zC_of (M := M_X5_letGo) (ls := [some (zR r), some (zI (m.1 35)), none, none]) (n := 2) (by decide) (fun ad => Nat.le_of_ble_eq_true rfl) rfl (fun x h => ?_)
  have L : ∀ (n : Nat) (i : Int) (Y : zOb) (a : Option Value), 0 ≤ i → i ≤ m.2 1 0 → m.2 1 0 - i < n → RR Y (zfor s_f4 i m) → zW x (fun rr τ' => rr = none ∧ ∃ Y', τ' = zo σ r Y' ∧ RR Y' (s_p4 m)) 2 [some (zR r), some (zI (m.1 35)), some (zI i), a] [] (zo σ r Y) := by
    intro n
    induction n with
    | zero => intro i Y a h1 h2 h3; omega
    | succ n ih =>
      intro i Y a h1 h2 h3 hR
      obtain ⟨k1, k2, k3, -⟩ := KP_for KP_f4 hS hD h1 h2
      have hih := fun Y a => ih (i + 1) Y a (by omega)
      simp only [zfor_S _ h1] at hih
      have hgo : i = m.2 1 0 → zfor s_f4 i m = s_p4 m := fun e => by rw [e]; rfl
      generalize zfor s_f4 i m = mm at hih k1 k2 k3 hgo hR
      have e1 : mm.2 1 = m.2 1 := k3.1
      have e35 : mm.1 35 = m.1 35 := k3.2.2.2.2.2.2
      have hEm : DKE (σ 4) (mm.2 1) := by rw [e1]; exact hE
      have hnc := k1.2.2.2.1
      have e10 : mm.2 1 0 = m.2 1 0 := by rw [e1]
      have e11 : mm.2 1 1 = m.2 1 1 := by rw [e1]
      refine z_iload_n (pc := 2) h dX5_letGo_2 rfl ?_
      refine z_aloadR_n (pc := 3) h dX5_letGo_3 rfl ?_
      refine z_getR (pc := 4) (c := 5) (j := 0) h (by first | assumption | rfl) (by first | assumption | rfl) rfl rfl fl_X5_51 dX5_letGo_4 ?_
      refine z_getIq (pc := 7) (c := 1) (j := 0) h (zo_n h4) (by first | assumption | rfl) rfl rfl fl_X5_115 dX5_letGo_7 (fun g7 => ?_)
      refine z_icmp_ge (pc := 10) (tgt := 76) h (by omega) (by omega) dX5_letGo_10 (by decide) (fun c10 => ?_) (fun c10 => ?_)
      · refine z_ret (pc := 76) h rfl dX5_letGo_76 ?_
        rw [← hgo (by omega)]
        exact ⟨rfl, Y, rfl, hR⟩
      · obtain ⟨a1, a2, a3⟩ := hR.2.2.1 i h1 (by omega)
        have hdk := hEm.2.2.2.2.1 i h1 (by omega)
        have hddi := k2.1 i h1 (by omega)
        refine z_aloadR_n (pc := 13) h dX5_letGo_13 rfl ?_
        refine z_getA4 (pc := 14) (c := 5) (j := 10) h (by first | assumption | rfl) rfl rfl fl_X5_36 dX5_letGo_14 ?_
        refine z_iload_n (pc := 17) h dX5_letGo_17 rfl ?_
        refine z_ialdq (pc := 18) (c := 5) (j := 10) (L := 6) h (zo_s _ _ _) (by first | assumption | rfl) (by decide) rfl (by decide) (by omega) (by omega) dX5_letGo_18 (fun g18 => ?_)
        refine z_ist_3 (pc := 19) h dX5_letGo_19 (by decide) rfl ?_
        refine z_aloadR_n (pc := 20) h dX5_letGo_20 rfl ?_
        refine z_getR (pc := 21) (c := 5) (j := 0) h (by first | assumption | rfl) (by first | assumption | rfl) rfl rfl fl_X5_51 dX5_letGo_21 ?_
        refine z_getA4 (pc := 24) (c := 1) (j := 5) h (by first | assumption | rfl) rfl rfl fl_X5_150 dX5_letGo_24 ?_
        refine z_iload_n (pc := 27) h dX5_letGo_27 rfl ?_
        refine z_ialdq (pc := 28) (c := 1) (j := 5) (L := 6) h (zo_n h4) (by first | assumption | rfl) (by decide) rfl (by decide) (by omega) (by omega) dX5_letGo_28 (fun g28 => ?_)
        refine z_iconst (pc := 29) h dX5_letGo_29 ?_
        refine z_icmp_ne (pc := 30) (tgt := 70) h (by omega) (by omega) dX5_letGo_30 (by decide) (fun c30 => ?_) (fun c30 => ?_)
        · have hk1 : ¬ mm.2 1 (5 + 2 * i) = 1 := by omega
          refine z_inc_2 (pc := 70) h dX5_letGo_70 (by decide) rfl ?_
          refine z_goto (pc := 73) (tgt := 2) h dX5_letGo_73 (by decide) ?_
          refine hih _ _ (by omega) (by omega) ?_
          unfold s_f4
          first
          | (rw [if_neg (fun y => hk1 y.1)]; exact hR)
          | (rw [if_neg (fun y => hns y.2.1)]; exact hR)
          | (rw [if_neg (fun y => hle y.2.2)]; exact hR)
          | (rw [if_pos ⟨by omega, hst, hle⟩, a1, ← e35]
             exact RR_lv k1 k2 hR h1 (by omega) hst hEm.2.2.2.1)
        · refine z_aloadR_n (pc := 33) h dX5_letGo_33 rfl ?_
          refine z_getR (pc := 34) (c := 5) (j := 0) h (by first | assumption | rfl) (by first | assumption | rfl) rfl rfl fl_X5_51 dX5_letGo_34 ?_
          refine z_iload_n (pc := 37) h dX5_letGo_37 rfl ?_
          refine z_pV (pc := 38) (c := 1) h (c_hasTruck h4 (by omega)) (by decide) (by first | assumption | rfl) rfl mv_X1_hasTruck ml_X5_141 rfl dX5_letGo_38 rfl (Nat.le_of_ble_eq_true rfl) ?_
          refine z_ifeqB (pc := 41) (tgt := 70) h dX5_letGo_41 (by decide) (fun c41 => ?_) (fun c41 => ?_)
          · have hns : ¬ mm.2 33 i = 1 := by
              intro y2
              have y := of_decide_eq_false c41
              rw [if_pos y2] at a1
              have htr := tr_ok k1 k2 (d := i) h1 (by omega) y2
              dsimp only [s_tr] at htr
              omega
            refine z_inc_2 (pc := 70) h dX5_letGo_70 (by decide) rfl ?_
            refine z_goto (pc := 73) (tgt := 2) h dX5_letGo_73 (by decide) ?_
            refine hih _ _ (by omega) (by omega) ?_
            unfold s_f4
            first
            | (rw [if_neg (fun y => hk1 y.1)]; exact hR)
            | (rw [if_neg (fun y => hns y.2.1)]; exact hR)
            | (rw [if_neg (fun y => hle y.2.2)]; exact hR)
            | (rw [if_pos ⟨by omega, hst, hle⟩, a1, ← e35]
               exact RR_lv k1 k2 hR h1 (by omega) hst hEm.2.2.2.1)
          · have c41 := of_decide_eq_true c41
            have hst : mm.2 33 i = 1 := by rcases Classical.em (mm.2 33 i = 1) with y | y; exact y; rw [if_neg y] at a1; omega
            rw [if_pos hst] at a1
            have htr := tr_ok k1 k2 (d := i) h1 (by omega) hst
            dsimp only [s_tr] at htr
            have hdst := ((hEm.2.2.2.2.2.1 _ htr.2.1 htr.2.2.1).2.1 (by omega)).1
            have hdst2 := ((k1.1.2.2.2.2.2.2.1 _ htr.2.1 htr.2.2.1).2.2.1 (by omega)).1
            rw [← a1] at hdst hdst2
            have hbb := run_b k1 k2 hEm hR
            have hxz := hbb.2.2.2.1 ((σ 4).2 9 (Y.2 10 i)) (by omega) (by omega)
            have hxe := (hR.2.2.2.1 ((σ 4).2 9 (Y.2 10 i)) (by omega) (by omega)).2
            have hlx := s_left_x (m := mm) hnc.1 ((σ 4).2 9 (Y.2 10 i))
            refine z_aloadR_n (pc := 44) h dX5_letGo_44 rfl ?_
            refine z_getA4 (pc := 45) (c := 5) (j := 14) h (by first | assumption | rfl) rfl rfl fl_X5_48 dX5_letGo_45 ?_
            refine z_aloadR_n (pc := 48) h dX5_letGo_48 rfl ?_
            refine z_getR (pc := 49) (c := 5) (j := 0) h (by first | assumption | rfl) (by first | assumption | rfl) rfl rfl fl_X5_51 dX5_letGo_49 ?_
            refine z_getA4 (pc := 52) (c := 1) (j := 9) h (by first | assumption | rfl) rfl rfl fl_X5_153 dX5_letGo_52 ?_
            refine z_iload_n (pc := 55) h dX5_letGo_55 rfl ?_
            refine z_ialdq (pc := 56) (c := 1) (j := 9) (L := 8) h (zo_n h4) (by first | assumption | rfl) (by decide) rfl (by decide) (by omega) (by omega) dX5_letGo_56 (fun g56 => ?_)
            refine z_pS (pc := 57) h (c_manyOf hr (Or.inr rfl) (by omega)) (by decide) ms_X5_manyOf ml_X5_167 rfl dX5_letGo_57 rfl (Nat.le_of_ble_eq_true rfl) ?_
            refine z_if_ne (pc := 60) (tgt := 70) h (by omega) dX5_letGo_60 (by decide) (fun c60 => ?_) (fun c60 => ?_)
            · have hle : ¬ s_left mm (mm.2 1 (17 + 6 * s_tr mm i + 2)) = false := fun y => by
                have e9 : mm.2 1 (17 + 6 * s_tr mm i + 2) = (σ 4).2 9 (Y.2 10 i) := by rw [hdst, a1]
                rw [e9] at y
                have := hlx.mp y
                omega
              refine z_inc_2 (pc := 70) h dX5_letGo_70 (by decide) rfl ?_
              refine z_goto (pc := 73) (tgt := 2) h dX5_letGo_73 (by decide) ?_
              refine hih _ _ (by omega) (by omega) ?_
              unfold s_f4
              first
              | (rw [if_neg (fun y => hk1 y.1)]; exact hR)
              | (rw [if_neg (fun y => hns y.2.1)]; exact hR)
              | (rw [if_neg (fun y => hle y.2.2)]; exact hR)
              | (rw [if_pos ⟨by omega, hst, hle⟩, a1, ← e35]
                 exact RR_lv k1 k2 hR h1 (by omega) hst hEm.2.2.2.1)
            · have hle : s_left mm (mm.2 1 (17 + 6 * s_tr mm i + 2)) = false := by
                have e9 : mm.2 1 (17 + 6 * s_tr mm i + 2) = (σ 4).2 9 (Y.2 10 i) := by rw [hdst, a1]
                rw [e9]
                exact hlx.mpr (by omega)
              refine z_aloadR_n (pc := 63) h dX5_letGo_63 rfl ?_
              refine z_iload_n (pc := 64) h dX5_letGo_64 rfl ?_
              refine z_iload_n (pc := 65) h dX5_letGo_65 rfl ?_
              refine z_iload_n (pc := 66) h dX5_letGo_66 rfl ?_
              refine z_vV (pc := 67) (c := 5) h (c_leave hr hr0 h4 (by omega) (by omega) (by omega) (by omega) (by omega)) (by decide) (by first | assumption | rfl) rfl mv_X5_leave ml_X5_185 rfl dX5_letGo_67 rfl (Nat.le_of_ble_eq_true rfl) ?_
              refine z_inc_2 (pc := 70) h dX5_letGo_70 (by decide) rfl ?_
              refine z_goto (pc := 73) (tgt := 2) h dX5_letGo_73 (by decide) ?_
              refine hih _ _ (by omega) (by omega) ?_
              unfold s_f4
              first
              | (rw [if_neg (fun y => hk1 y.1)]; exact hR)
              | (rw [if_neg (fun y => hns y.2.1)]; exact hR)
              | (rw [if_neg (fun y => hle y.2.2)]; exact hR)
              | (rw [if_pos ⟨by omega, hst, hle⟩, a1, ← e35]
                 exact RR_lv k1 k2 hR h1 (by omega) hst hEm.2.2.2.1)
  refine z_iconst (pc := 0) h dX5_letGo_0 ?_
  refine z_ist_2 (pc := 1) h dX5_letGo_1 (by decide) rfl ?_
  exact L (m.2 1 0 + 1).toNat 0 Y _ (by omega) (by omega) (by omega) hR
