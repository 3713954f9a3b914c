/-! The model: acts are kept. -/
/-- the number of acts before one more is kept -/
def kN (u : Int) : Int := if u = 8 then 7 else u
def kO (u : Int) : Int := if u = 8 then 1 else 0
def PUSH (a : Int → Int) (m m' : zOb) : Prop := m'.1 5 = kN (m.1 5) + 1 ∧ (∀ i k, 0 ≤ i → i < kN (m.1 5) → 0 ≤ k → k < 119 → m'.2 4 (119 * i + k) = m.2 4 (119 * (i + kO (m.1 5)) + k)) ∧ ∀ k, 0 ≤ k → k < 119 → m'.2 4 (119 * kN (m.1 5) + k) = a k
/-- fields that keeps leaves alone -/
def K45 (m m' : zOb) : Prop := ∀ j, (j ≠ 5 → m'.1 j = m.1 j) ∧ (j ≠ 4 → m'.2 j = m.2 j)
theorem K45.rf (m : zOb) : K45 m m := fun _ => ⟨fun _ => rfl, fun _ => rfl⟩
theorem K45.a {m m' : zOb} (h : K45 m m') (n v : Int) : K45 m (osa m' 4 n v) := fun j => ⟨(h j).1, fun hj => by rw [osa_2, if_neg hj]; exact (h j).2 hj⟩
theorem K45.s {m m' : zOb} (h : K45 m m') (v : Int) : K45 m (oss m' 5 v) := fun j => ⟨fun hj => by rw [oss_1, if_neg hj]; exact (h j).1 hj, (h j).2⟩
theorem m8_keeps {σ : zS} {m : zOb} (hu : 0 ≤ m.1 5 ∧ m.1 5 ≤ 8) : zC M_X8_keeps 1 [zR 31] (zo σ 31 m) (fun r τ' => r = none ∧ ∃ m', τ' = zo σ 31 m' ∧ K45 m m' ∧ PUSH (m.2 47) m m') := by
  refine zC_of (M := M_X8_keeps) (ls := [some (zR 31), none]) (n := 1) (by decide) (fun ad => Nat.le_of_ble_eq_true rfl) rfl (fun x h => ?_)
  generalize hK : (fun (r : Option Value) (τ' : zS) => r = none ∧ ∃ m', τ' = zo σ 31 m' ∧ K45 m m' ∧ PUSH (m.2 47) m m') = K
  have hkN : kN (m.1 5) = 7 ∨ kN (m.1 5) = m.1 5 := by unfold kN; split <;> omega
  have hkb : 0 ≤ kN (m.1 5) ∧ kN (m.1 5) ≤ 7 := by unfold kN; split <;> omega
  have B : ∀ (n : Nat) (i : Int) (mm : zOb), 0 ≤ i → i ≤ 119 → 119 - i < n → K45 m mm → mm.1 5 = kN (m.1 5) → (∀ j k, 0 ≤ j → j < kN (m.1 5) → 0 ≤ k → k < 119 → mm.2 4 (119 * j + k) = m.2 4 (119 * (j + kO (m.1 5)) + k)) → (∀ k, 0 ≤ k → k < i → mm.2 4 (119 * kN (m.1 5) + k) = m.2 47 k) → zW x K 51 [some (zR 31), some (zI i)] [] (zo σ 31 mm) := by
    intro n
    induction n with
    | zero => intro i mm h1 h2 h3; omega
    | succ n ih =>
      intro i mm h1 h2 h3 hk h5 hs hb
      have e47 : mm.2 47 = m.2 47 := (hk 47).2 (by decide)
      refine z_rgo (fun hrg => ?_)
      have hz : zin (mm.2 47 i) := hrg.2 47 _
      have hmul : 119 * mm.1 5 + i = 119 * kN (m.1 5) + i := by rw [h5]
      refine z_iload_n (pc := 51) h dX8_keeps_51 rfl ?_
      refine z_bipush (pc := 52) h dX8_keeps_52 (by decide) ?_
      refine z_icmp_ge (pc := 54) (tgt := 83) h (by omega) (by omega) dX8_keeps_54 (by decide) (fun c54 => ?_) (fun c54 => ?_)
      · refine z_aloadR_n (pc := 83) h dX8_keeps_83 rfl ?_
        refine z_dupR (pc := 84) h dX8_keeps_84 ?_
        refine z_getIq (pc := 85) (c := 8) (j := 5) h (zo_s _ _ _) (by first | assumption | rfl) rfl rfl fl_X8_181 dX8_keeps_85 (fun g85 => ?_)
        refine z_iconst (pc := 88) h dX8_keeps_88 ?_
        refine z_iadd (pc := 89) h dX8_keeps_89 ?_
        refine z_putIo (pc := 90) (c := 8) (j := 5) h (by first | assumption | rfl) rfl rfl fl_X8_181 rfl (tyX8_ok 5 (by decide)) dX8_keeps_90 (by omega) ?_
        refine z_ret (pc := 93) h rfl dX8_keeps_93 ?_
        rw [← hK]
        refine ⟨rfl, _, rfl, hk.s _, ?_, hs, fun k k0 k1 => hb k k0 (by omega)⟩
        show mm.1 5 + 1 = _
        rw [h5]
      · refine z_aloadR_n (pc := 57) h dX8_keeps_57 rfl ?_
        refine z_getA4 (pc := 58) (c := 8) (j := 4) h (by first | assumption | rfl) rfl rfl fl_X8_21 dX8_keeps_58 ?_
        refine z_bipush (pc := 61) h dX8_keeps_61 (by decide) ?_
        refine z_aloadR_n (pc := 63) h dX8_keeps_63 rfl ?_
        refine z_getIq (pc := 64) (c := 8) (j := 5) h (zo_s _ _ _) (by first | assumption | rfl) rfl rfl fl_X8_181 dX8_keeps_64 (fun g64 => ?_)
        refine z_imul (pc := 67) h dX8_keeps_67 ?_
        refine z_iload_n (pc := 68) h dX8_keeps_68 rfl ?_
        refine z_iadd (pc := 69) h dX8_keeps_69 ?_
        refine z_aloadR_n (pc := 70) h dX8_keeps_70 rfl ?_
        refine z_getA4 (pc := 71) (c := 8) (j := 47) h (by first | assumption | rfl) rfl rfl fl_X8_81 dX8_keeps_71 ?_
        refine z_iload_n (pc := 74) h dX8_keeps_74 rfl ?_
        refine z_ialdq (pc := 75) (c := 8) (j := 47) (L := 119) h (zo_s _ _ _) (by first | assumption | rfl) (by decide) rfl (by decide) (by omega) (by omega) dX8_keeps_75 (fun g75 => ?_)
        refine z_iasto (pc := 76) (c := 8) (j := 4) (L := 952) h (by first | assumption | rfl) (by decide) rfl (by decide) (by omega) (by omega) (by omega) dX8_keeps_76 ?_
        refine z_inc_1 (pc := 77) h dX8_keeps_77 (by decide) rfl ?_
        refine z_goto (pc := 80) (tgt := 51) h dX8_keeps_80 (by decide) ?_
        refine ih (i + 1) _ (by omega) (by omega) (by omega) (hk.a _ _) h5 (fun j k j0 j1 k0 k1 => ?_) (fun k k0 k1 => ?_)
        · show zup (mm.2 4) (119 * mm.1 5 + i) (mm.2 47 i) (119 * j + k) = _
          rw [zup_n _ _ (by omega)]
          exact hs j k j0 j1 k0 k1
        · show zup (mm.2 4) (119 * mm.1 5 + i) (mm.2 47 i) (119 * kN (m.1 5) + k) = _
          rw [hmul, e47]
          by_cases e : k = i
          · rw [e, zup_s]
          · rw [zup_n _ _ (by omega)]
            exact hb k k0 (by omega)
  have A : m.1 5 = 8 → ∀ (n : Nat) (i : Int) (mm : zOb), 0 ≤ i → i ≤ 833 → 833 - i < n → K45 m mm → mm.1 5 = 8 → (∀ k, 0 ≤ k → k < i → mm.2 4 k = m.2 4 (k + 119)) → (∀ k, i ≤ k → mm.2 4 k = m.2 4 k) → zW x K 11 [some (zR 31), some (zI i)] [] (zo σ 31 mm) := by
    intro h8 n
    induction n with
    | zero => intro i mm h1 h2 h3; omega
    | succ n ih =>
      intro i mm h1 h2 h3 hk h5 hs hb
      refine z_rgo (fun hrg => ?_)
      have hz : zin (mm.2 4 (i + 119)) := hrg.2 4 _
      refine z_iload_n (pc := 11) h dX8_keeps_11 rfl ?_
      refine z_sipush (pc := 12) h dX8_keeps_12 (by decide) ?_
      refine z_icmp_ge (pc := 15) (tgt := 39) h (by omega) (by omega) dX8_keeps_15 (by decide) (fun c15 => ?_) (fun c15 => ?_)
      · refine z_aloadR_n (pc := 39) h dX8_keeps_39 rfl ?_
        refine z_dupR (pc := 40) h dX8_keeps_40 ?_
        refine z_getIq (pc := 41) (c := 8) (j := 5) h (zo_s _ _ _) (by first | assumption | rfl) rfl rfl fl_X8_181 dX8_keeps_41 (fun g41 => ?_)
        refine z_iconst (pc := 44) h dX8_keeps_44 ?_
        refine z_isub (pc := 45) h dX8_keeps_45 ?_
        refine z_putIo (pc := 46) (c := 8) (j := 5) h (by first | assumption | rfl) rfl rfl fl_X8_181 rfl (tyX8_ok 5 (by decide)) dX8_keeps_46 (by omega) ?_
        refine z_iconst (pc := 49) h dX8_keeps_49 ?_
        refine z_ist_1 (pc := 50) h dX8_keeps_50 (by decide) rfl ?_
        refine B 120 0 _ (by omega) (by omega) (by omega) (hk.s _) ?_ (fun j k j0 j1 k0 k1 => ?_) (fun k k0 k1 => by omega)
        · show mm.1 5 - 1 = _
          unfold kN; rw [if_pos h8]; omega
        · show mm.2 4 (119 * j + k) = _
          have : kN (m.1 5) = 7 := by unfold kN; rw [if_pos h8]
          rw [hs _ (by omega) (by omega)]
          unfold kO
          rw [if_pos h8, show 119 * (j + 1) + k = 119 * j + k + 119 by omega]
      · refine z_aloadR_n (pc := 18) h dX8_keeps_18 rfl ?_
        refine z_getA4 (pc := 19) (c := 8) (j := 4) h (by first | assumption | rfl) rfl rfl fl_X8_21 dX8_keeps_19 ?_
        refine z_iload_n (pc := 22) h dX8_keeps_22 rfl ?_
        refine z_aloadR_n (pc := 23) h dX8_keeps_23 rfl ?_
        refine z_getA4 (pc := 24) (c := 8) (j := 4) h (by first | assumption | rfl) rfl rfl fl_X8_21 dX8_keeps_24 ?_
        refine z_iload_n (pc := 27) h dX8_keeps_27 rfl ?_
        refine z_bipush (pc := 28) h dX8_keeps_28 (by decide) ?_
        refine z_iadd (pc := 30) h dX8_keeps_30 ?_
        refine z_ialdq (pc := 31) (c := 8) (j := 4) (L := 952) h (zo_s _ _ _) (by first | assumption | rfl) (by decide) rfl (by decide) (by omega) (by omega) dX8_keeps_31 (fun g31 => ?_)
        refine z_iasto (pc := 32) (c := 8) (j := 4) (L := 952) h (by first | assumption | rfl) (by decide) rfl (by decide) (by omega) (by omega) (by omega) dX8_keeps_32 ?_
        refine z_inc_1 (pc := 33) h dX8_keeps_33 (by decide) rfl ?_
        refine z_goto (pc := 36) (tgt := 11) h dX8_keeps_36 (by decide) ?_
        refine ih (i + 1) _ (by omega) (by omega) (by omega) (hk.a _ _) h5 (fun k k0 k1 => ?_) (fun k k0 => ?_)
        · show zup (mm.2 4) i (mm.2 4 (i + 119)) k = _
          by_cases e : k = i
          · rw [e, zup_s]; exact hb _ (by omega)
          · rw [zup_n _ _ e]; exact hs k k0 (by omega)
        · show zup (mm.2 4) i (mm.2 4 (i + 119)) k = _
          rw [zup_n _ _ (by omega)]; exact hb k (by omega)
  refine z_aloadR_n (pc := 0) h dX8_keeps_0 rfl ?_
  refine z_getIq (pc := 1) (c := 8) (j := 5) h (zo_s _ _ _) (by first | assumption | rfl) rfl rfl fl_X8_181 dX8_keeps_1 (fun g1 => ?_)
  refine z_bipush (pc := 4) h dX8_keeps_4 (by decide) ?_
  refine z_icmp_ne (pc := 6) (tgt := 49) h (by omega) (by omega) dX8_keeps_6 (by decide) (fun c6 => ?_) (fun c6 => ?_)
  · refine z_iconst (pc := 49) h dX8_keeps_49 ?_
    refine z_ist_1 (pc := 50) h dX8_keeps_50 (by decide) rfl ?_
    refine B 120 0 m (by omega) (by omega) (by omega) (K45.rf m) ?_ (fun j k j0 j1 k0 k1 => ?_) (fun k k0 k1 => by omega)
    · unfold kN; rw [if_neg (by omega)]
    · unfold kO; rw [if_neg (by omega), Int.add_zero]
  · refine z_iconst (pc := 9) h dX8_keeps_9 ?_
    refine z_ist_1 (pc := 10) h dX8_keeps_10 (by decide) rfl ?_
    exact A (by omega) 834 0 m (by omega) (by omega) (by omega) (K45.rf m) (by omega) (fun k k0 k1 => by omega) (fun k _ => rfl)
/-- what an act leaves alone in the model -/
def MP (m m' : zOb) : Prop := m'.1 0 = 0 ∧ m'.2 2 = m.2 2 ∧ m'.2 3 = m.2 3
/-- done, after a table was changed or not -/
theorem m8_done {σ : zS} {m0 mr mb : zOb} {T U : T3} {v : Int} (hv : zin v) (hU : v = 0 → OKT U) (bK : KF mr mb) (r0 : mr.1 0 = 0) (r2 : mr.2 2 = m0.2 2) (r3 : mr.2 3 = m0.2 3) (r4 : mr.2 4 = m0.2 4) (r5 : mr.1 5 = m0.1 5) (r47 : ∀ k, 0 ≤ k → k < 119 → mr.2 47 k = T.2.2 k) (hu : 0 ≤ m0.1 5 ∧ m0.1 5 ≤ 8) : zC M_X8_done 6 [zR 31, zI v] (zo σ 31 (osA mb 1 (if v = 0 then U.2.2 else T.2.2))) (fun r τ' => r = some (zI (if v = 0 then rc U.2.2 else v)) ∧ ∃ m', τ' = zo σ 31 m' ∧ MP m0 m' ∧ (if v = 0 then m'.2 1 = U.2.2 ∧ PUSH T.2.2 m0 m' else m'.2 1 = T.2.2 ∧ m'.1 5 = m0.1 5 ∧ m'.2 4 = m0.2 4)) := by
  obtain ⟨b0, b2, b3, b4, b5, b47⟩ := bK
  by_cases y : v = 0
  · simp only [if_pos y]
    have hUU := hU y
    clear hU
    subst y
    refine zC_of (M := M_X8_done) (ls := [some (zR 31), some (zI 0)]) (n := 0) (by decide) (fun ad => Nat.le_of_ble_eq_true rfl) rfl (fun x h => ?_)
    generalize hmm : osA mb 1 U.2.2 = mm
    have m1 : mm.2 1 = U.2.2 := by rw [← hmm]; rfl
    have m0' : mm.1 0 = 0 := by rw [← hmm]; exact b0.trans r0
    have m2 : mm.2 2 = m0.2 2 := by rw [← hmm]; exact b2.trans r2
    have m3 : mm.2 3 = m0.2 3 := by rw [← hmm]; exact b3.trans r3
    have m4 : mm.2 4 = m0.2 4 := by rw [← hmm]; exact b4.trans r4
    have m5 : mm.1 5 = m0.1 5 := by rw [← hmm]; exact b5.trans r5
    have m47 : mm.2 47 = mr.2 47 := by rw [← hmm]; exact b47
    clear hmm
    refine z_iload_n (pc := 0) h dX8_done_0 rfl ?_
    refine z_if_eq (pc := 1) (tgt := 6) h (by omega) dX8_done_1 (by decide) (fun c1 => ?_) (fun c1 => ?_)
    · refine z_aloadR_n (pc := 6) h dX8_done_6 rfl ?_
      refine z_callV (pc := 7) (c := 8) h (m8_keeps (by rw [m5]; exact hu)) (by decide) (by first | assumption | rfl) rfl mv_X8_keeps ml_X8_331 rfl dX8_done_7 rfl (Nat.le_of_ble_eq_true rfl) (fun r7 τ7 q7 => ?_)
      obtain ⟨rfl, mk, rfl, k45, kp⟩ := q7
      have n1 : mk.2 1 = U.2.2 := ((k45 1).2 (by decide)).trans m1
      have hwa : WFa (mk.2 1) := by rw [n1]; exact hUU.1
      have hwr : WFr (mk.2 1) := by rw [n1]; exact hUU.2.1.wfr
      have hrc := rc_eq hwa hwr
      rw [n1] at hrc
      obtain ⟨k1, k2, k3, k4⟩ := run_ok hwa hwr
      have hfr := FR_run mk
      refine z_aloadR_n (pc := 10) h dX8_done_10 rfl ?_
      refine z_rV (pc := 11) (c := 8) h (m8_runs hwa hwr) (by decide) (by first | assumption | rfl) rfl mv_X8_runs ml_X8_272 rfl dX8_done_11 rfl (Nat.le_of_ble_eq_true rfl) ?_
      rw [hrc]
      refine z_iret (pc := 14) h rfl dX8_done_14 ?_
      refine ⟨rfl, _, rfl, ⟨?_, ?_, ?_⟩, k3.trans n1, ?_, ?_, ?_⟩
      · exact ((hfr 0 (by omega)).1.trans ((k45 0).1 (by decide))).trans m0'
      · exact ((hfr 2 (by omega)).2.trans ((k45 2).2 (by decide))).trans m2
      · exact ((hfr 3 (by omega)).2.trans ((k45 3).2 (by decide))).trans m3
      · rw [(hfr 5 (by omega)).1, kp.1, m5]
      · intro i k i0 i1 k0 k1
        rw [(hfr 4 (by omega)).2, ← m5, ← m4]
        exact kp.2.1 i k i0 (by rw [m5]; exact i1) k0 k1
      · intro k k0 k1
        rw [(hfr 4 (by omega)).2, ← m5, kp.2.2 k k0 k1, m47]
        exact r47 k k0 k1
    · exact absurd rfl c1
  · simp only [if_neg y]
    refine zC_of (M := M_X8_done) (ls := [some (zR 31), some (zI v)]) (n := 0) (by decide) (fun ad => Nat.le_of_ble_eq_true rfl) rfl (fun x h => ?_)
    refine z_iload_n (pc := 0) h dX8_done_0 rfl ?_
    refine z_if_eq (pc := 1) (tgt := 6) h (by omega) dX8_done_1 (by decide) (fun c1 => ?_) (fun c1 => ?_)
    · exact absurd c1 y
    · refine z_iload_n (pc := 4) h dX8_done_4 rfl ?_
      refine z_iret (pc := 5) h rfl dX8_done_5 ?_
      exact ⟨rfl, _, rfl, ⟨b0.trans r0, b2.trans r2, b3.trans r3⟩, rfl, b5.trans r5, b4.trans r4⟩
theorem m8_place {σ : zS} {m : zOb} {T : T3} {t d k : Int} (hT : OKT T) (e1 : m.2 1 = T.2.2) (hu : 0 ≤ m.1 5 ∧ m.1 5 ≤ 8) (ht : zin t) (hd : zin d) (hk : zin k) : zC M_X8_place 7 [zR 31, zI t, zI d, zI k] (zo σ 31 m) (fun r τ' => r = some (zI (if mvT T t d k = 0 then rc (t_mv T t d k).2.2 else mvT T t d k)) ∧ ∃ m', τ' = zo σ 31 m' ∧ MP m m' ∧ (if mvT T t d k = 0 then m'.2 1 = (t_mv T t d k).2.2 ∧ PUSH T.2.2 m m' else m'.2 1 = T.2.2 ∧ m'.1 5 = m.1 5 ∧ m'.2 4 = m.2 4)) := by
  refine zC_of (M := M_X8_place) (ls := [some (zR 31), some (zI t), some (zI d), some (zI k)]) (n := 0) (by decide) (fun ad => Nat.le_of_ble_eq_true rfl) rfl (fun x h => ?_)
  have hmb := mvT_b T t d k
  refine z_aloadR_n (pc := 0) h dX8_place_0 rfl ?_
  refine z_iconst (pc := 1) h dX8_place_1 ?_
  refine z_putIo (pc := 2) (c := 8) (j := 0) h (by first | assumption | rfl) rfl rfl fl_X8_84 rfl (tyX8_ok 0 (by decide)) dX8_place_2 (by omega) ?_
  refine z_aloadR_n (pc := 5) h dX8_place_5 rfl ?_
  refine z_vV (pc := 6) (c := 8) h (m8_remembers) (by decide) (by first | assumption | rfl) rfl mv_X8_remembers ml_X8_334 rfl dX8_place_6 rfl (Nat.le_of_ble_eq_true rfl) ?_
  generalize hmr : osA (oss m 0 0) 47 (cpf ((oss m 0 0).2 47) ((oss m 0 0).2 1) 0 119) = mr
  have r1 : mr.2 1 = T.2.2 := by rw [← hmr]; exact e1
  have r0 : mr.1 0 = 0 := by rw [← hmr]; rfl
  have r2 : mr.2 2 = m.2 2 := by rw [← hmr]; rfl
  have r3 : mr.2 3 = m.2 3 := by rw [← hmr]; rfl
  have r4 : mr.2 4 = m.2 4 := by rw [← hmr]; rfl
  have r5 : mr.1 5 = m.1 5 := by rw [← hmr]; rfl
  have r47 : ∀ k, 0 ≤ k → k < 119 → mr.2 47 k = T.2.2 k := fun k k0 k1 => by
    rw [← hmr, ← e1]
    show cpf (m.2 47) (m.2 1) 0 119 k = m.2 1 k
    unfold cpf
    rw [if_pos (by omega)]
  clear hmr
  refine z_aloadR_n (pc := 9) h dX8_place_9 rfl ?_
  refine z_callV (pc := 10) (c := 8) h (m8_begins (by rw [r1]; exact hT.1) (by rw [r1]; exact hT.2.1.wfr)) (by decide) (by first | assumption | rfl) rfl mv_X8_begins ml_X8_318 rfl dX8_place_10 rfl (Nat.le_of_ble_eq_true rfl) (fun r10 τ10 q10 => ?_)
  obtain ⟨rfl, mb, rfl, b1, b42, b41, b40, b27, bK⟩ := q10
  rw [r1] at b1 b42 b41 b40
  have hM : MS T mr mb := ⟨b1, b41, b40, b42, bK⟩
  have hwa : WFa (mb.2 1) := by rw [b1]; exact hT.1
  have hP : POS T.1 T.2.1 (mb.2 1) := by rw [b1]; exact hT.2.1
  have hi : WFi T.1 (mb.2 1) := by rw [b1]; exact hT.2.2
  have hKp : KPT (mb.2 1) (mb.2 41) := by rw [b1]; exact b41
  have hgo := m8_goesTo (σ := σ) (t := t) (d := d) (k := k) hwa hP hi hKp (hM.F hT) ht hd hk
  have ec : mvC T.1 T.2.1 (mb.2 1) (mb.2 40) t d k = mvT T t d k := by rw [b1]; exact mvC_congr hT.1 hT.2.1 hT.2.2 b40 t d k
  rw [ec, b1] at hgo
  have hdn := m8_done (σ := σ) (m0 := m) (mr := mr) (mb := mb) (T := T) (U := t_mv T t d k) hmb (fun z => OKT_mv hT (mvC_0 z)) bK r0 r2 r3 r4 r5 r47 hu
  refine z_aloadR_n (pc := 13) h dX8_place_13 rfl ?_
  refine z_aloadR_n (pc := 14) h dX8_place_14 rfl ?_
  refine z_iload_n (pc := 15) h dX8_place_15 rfl ?_
  refine z_iload_n (pc := 16) h dX8_place_16 rfl ?_
  refine z_iload_n (pc := 17) h dX8_place_17 rfl ?_
  refine z_rV (pc := 18) (c := 8) h (hgo) (by decide) (by first | assumption | rfl) rfl mv_X8_goesTo ml_X8_321 rfl dX8_place_18 rfl (Nat.le_of_ble_eq_true rfl) ?_
  refine z_callV (pc := 21) (c := 8) h (hdn) (by decide) (by first | assumption | rfl) rfl mv_X8_done ml_X8_337 rfl dX8_place_21 rfl (Nat.le_of_ble_eq_true rfl) (fun r21 τ21 q21 => ?_)
  obtain ⟨rfl, q3⟩ := q21
  refine z_iret (pc := 24) h rfl dX8_place_24 ?_
  exact ⟨rfl, q3⟩
