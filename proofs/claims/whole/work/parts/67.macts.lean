/-! The model: swap, late, now, step, undo. -/
theorem m8_swap {σ : zS} {m : zOb} {T : T3} {t u : Int} (hT : OKT T) (e1 : m.2 1 = T.2.2) (hu : 0 ≤ m.1 5 ∧ m.1 5 ≤ 8) (ht : zin t) (hd : zin u) : zC M_X8_swap 7 [zR 31, zI t, zI u] (zo σ 31 m) (fun r τ' => r = some (zI (if swT T t u = 0 then rc (t_sw T t u).2.2 else swT T t u)) ∧ ∃ m', τ' = zo σ 31 m' ∧ MP m m' ∧ (if swT T t u = 0 then m'.2 1 = (t_sw T t u).2.2 ∧ PUSH T.2.2 m m' else m'.2 1 = T.2.2 ∧ m'.1 5 = m.1 5 ∧ m'.2 4 = m.2 4)) := by
  refine zC_of (M := M_X8_swap) (ls := [some (zR 31), some (zI t), some (zI u)]) (n := 0) (by decide) (fun ad => Nat.le_of_ble_eq_true rfl) rfl (fun x h => ?_)
  have hmb := swT_b T t u
  refine z_aloadR_n (pc := 0) h dX8_swap_0 rfl ?_
  refine z_iconst (pc := 1) h dX8_swap_1 ?_
  refine z_putIo (pc := 2) (c := 8) (j := 0) h (by first | assumption | rfl) rfl rfl fl_X8_84 rfl (tyX8_ok 0 (by decide)) dX8_swap_2 (by omega) ?_
  refine z_aloadR_n (pc := 5) h dX8_swap_5 rfl ?_
  refine z_vV (pc := 6) (c := 8) h (m8_remembers) (by decide) (by first | assumption | rfl) rfl mv_X8_remembers ml_X8_334 rfl dX8_swap_6 rfl (Nat.le_of_ble_eq_true rfl) ?_
  generalize hmr : osA (oss m 0 0) 47 (cpf ((oss m 0 0).2 47) ((oss m 0 0).2 1) 0 119) = mr
  have r1 : mr.2 1 = T.2.2 := by rw [← hmr]; exact e1
  have r0 : mr.1 0 = 0 := by rw [← hmr]; rfl
  have r2 : mr.2 2 = m.2 2 := by rw [← hmr]; rfl
  have r3 : mr.2 3 = m.2 3 := by rw [← hmr]; rfl
  have r4 : mr.2 4 = m.2 4 := by rw [← hmr]; rfl
  have r5 : mr.1 5 = m.1 5 := by rw [← hmr]; rfl
  have r47 : ∀ k, 0 ≤ k → k < 119 → mr.2 47 k = T.2.2 k := fun k k0 k1 => by
    rw [← hmr, ← e1]
    show cpf (m.2 47) (m.2 1) 0 119 k = m.2 1 k
    unfold cpf
    rw [if_pos (by omega)]
  clear hmr
  refine z_aloadR_n (pc := 9) h dX8_swap_9 rfl ?_
  refine z_callV (pc := 10) (c := 8) h (m8_begins (by rw [r1]; exact hT.1) (by rw [r1]; exact hT.2.1.wfr)) (by decide) (by first | assumption | rfl) rfl mv_X8_begins ml_X8_318 rfl dX8_swap_10 rfl (Nat.le_of_ble_eq_true rfl) (fun r10 τ10 q10 => ?_)
  obtain ⟨rfl, mb, rfl, b1, b42, b41, b40, b27, bK⟩ := q10
  rw [r1] at b1 b42 b41 b40
  have hM : MS T mr mb := ⟨b1, b41, b40, b42, bK⟩
  have hwa : WFa (mb.2 1) := by rw [b1]; exact hT.1
  have hP : POS T.1 T.2.1 (mb.2 1) := by rw [b1]; exact hT.2.1
  have hKp : KPT (mb.2 1) (mb.2 41) := by rw [b1]; exact b41
  have hgo := m8_changes (σ := σ) (t := t) (u := u) hwa hP hKp (hM.F hT) ht hd
  have ec : swC T.1 T.2.1 (mb.2 1) (mb.2 40) t u = swT T t u := by rw [b1]; exact swC_congr hT.1 hT.2.1 b40 t u
  rw [ec, b1] at hgo
  have hdn := m8_done (σ := σ) (m0 := m) (mr := mr) (mb := mb) (T := T) (U := t_sw T t u) hmb (fun z => OKT_sw hT (swC_0 z)) bK r0 r2 r3 r4 r5 r47 hu
  refine z_aloadR_n (pc := 13) h dX8_swap_13 rfl ?_
  refine z_aloadR_n (pc := 14) h dX8_swap_14 rfl ?_
  refine z_iload_n (pc := 15) h dX8_swap_15 rfl ?_
  refine z_iload_n (pc := 16) h dX8_swap_16 rfl ?_
  refine z_rV (pc := 17) (c := 8) h (hgo) (by decide) (by first | assumption | rfl) rfl mv_X8_changes ml_X8_328 rfl dX8_swap_17 rfl (Nat.le_of_ble_eq_true rfl) ?_
  refine z_callV (pc := 20) (c := 8) h (hdn) (by decide) (by first | assumption | rfl) rfl mv_X8_done ml_X8_337 rfl dX8_swap_20 rfl (Nat.le_of_ble_eq_true rfl) (fun r20 τ20 q20 => ?_)
  obtain ⟨rfl, q3⟩ := q20
  refine z_iret (pc := 23) h rfl dX8_swap_23 ?_
  exact ⟨rfl, q3⟩
def LC (a : Int → Int) (t b : Int) : Prop := (0 ≤ t ∧ t < a 1) ∧ (1 ≤ b ∧ b ≤ 99) ∧ a (17 + 6 * t + 1) + b ≤ 99
def dLC (a : Int → Int) (t b : Int) : Decidable (LC a t b) := by unfold LC; exact inferInstance
def ltK (T : T3) (t b : Int) : Int := @ite Int (LC T.2.2 t b) (dLC T.2.2 t b) (if fxd ((ra T.2.2).2 27) T.2.2 t = true then -2 else 0) (-1)
def t_lt (T : T3) (t b : Int) : T3 := (T.1, T.2.1, zup T.2.2 (17 + 6 * t + 1) (T.2.2 (17 + 6 * t + 1) + b))
theorem ltK_0 {T : T3} {t b : Int} (h : ltK T t b = 0) : LC T.2.2 t b ∧ fxd ((ra T.2.2).2 27) T.2.2 t = false := by
  unfold ltK at h
  by_cases y : LC T.2.2 t b
  · rw [if_pos y] at h
    cases hf : fxd ((ra T.2.2).2 27) T.2.2 t with
    | false => exact ⟨y, rfl⟩
    | true => rw [hf] at h; simp at h
  · rw [if_neg y] at h
    omega
theorem OKT_lt {T : T3} {t b : Int} (h : OKT T) (hc : LC T.2.2 t b) : OKT (t_lt T t b) := by
  obtain ⟨hwa, hP, hi⟩ := h
  have h6 := hwa.1
  have h8 := hwa.2.1
  obtain ⟨⟨t0, t1⟩, hb, hs⟩ := hc
  have hat := (hwa.2.2.2.2.2.2.1 t t0 t1).2.1
  have es : ∀ i, i ≠ 17 + 6 * t + 1 → zup T.2.2 (17 + 6 * t + 1) (T.2.2 (17 + 6 * t + 1) + b) i = T.2.2 i := fun i hi => zup_n _ _ hi
  have ea : zup T.2.2 (17 + 6 * t + 1) (T.2.2 (17 + 6 * t + 1) + b) (17 + 6 * t + 1) = T.2.2 (17 + 6 * t + 1) + b := zup_s _ _ _
  show WFa (zup T.2.2 (17 + 6 * t + 1) (T.2.2 (17 + 6 * t + 1) + b)) ∧ POS T.1 T.2.1 (zup T.2.2 (17 + 6 * t + 1) (T.2.2 (17 + 6 * t + 1) + b)) ∧ WFi T.1 (zup T.2.2 (17 + 6 * t + 1) (T.2.2 (17 + 6 * t + 1) + b))
  generalize zup T.2.2 (17 + 6 * t + 1) (T.2.2 (17 + 6 * t + 1) + b) = c at es ea ⊢
  have hl : ∀ u, a_load c u = a_load T.2.2 u := fun u => by
    unfold a_load
    rw [es _ (by omega), es _ (by omega), es _ (by omega), es _ (by omega)]
  have hf : ∀ n, a_fs c n = a_fs T.2.2 n := fun n => zfor_congr (fun i s g0 g1 => by rw [es _ (by omega), hl])
  obtain ⟨a0, a1, a2, a3, a4, a5, a7, a9⟩ := hwa
  refine ⟨?_, ⟨fun e g0 g1 => ?_, fun e j g0 g1 g2 g3 => ?_, fun o g0 g1 => ?_⟩, fun o d o0 o1 d0 d1 hk => ?_⟩
  · unfold WFa
    rw [es 0 (by omega), es 1 (by omega), es 2 (by omega), es 3 (by omega), es 4 (by omega), hf]
    refine ⟨a0, a1, a2, a3, a4, fun d g0 g1 => ?_, fun u g0 g1 => ?_, a9⟩
    · rw [es _ (by omega), es _ (by omega)]
      exact a5 d g0 g1
    · have := a7 u g0 g1
      rw [hl, es (17 + 6 * u + 0) (by omega), es (17 + 6 * u + 2) (by omega), es (17 + 6 * u + 3) (by omega), es (17 + 6 * u + 4) (by omega), es (17 + 6 * u + 5) (by omega)]
      refine ⟨this.1, ?_, this.2.2⟩
      by_cases y : u = t
      · rw [y, ea]; omega
      · rw [es _ (by omega)]; exact this.2.1
  · rw [es 0 (by omega)] at g1
    rw [es _ (by omega)]
    exact hP.1 e g0 g1
  · rw [es 0 (by omega)] at g1
    rw [es _ (by omega)] at g3
    have := hP.2.1 e j g0 g1 g2 g3
    rw [es _ (by omega), es 1 (by omega), es (17 + 6 * T.2.2 (71 + 8 * e + j) + 0) (by omega), es (5 + 2 * e) (by omega)]
    exact this
  · rcases hP.2.2 o g0 g1 with z | ⟨z0, z1, z2, z3⟩
    · exact Or.inl z
    · right
      rw [es 1 (by omega), es 0 (by omega), es (65 + T.1 o) (by omega), es (71 + 8 * T.1 o + T.2.1 o) (by omega)]
      exact ⟨z0, z1, z2, z3⟩
  · rw [es _ (by omega)] at o1
    rw [es _ (by omega)] at d1
    rw [es _ (by omega), es _ (by omega)] at hk
    exact hi o d o0 o1 d0 d1 hk
theorem ltK_b (T : T3) (t b : Int) : zin (ltK T t b) := by
  unfold ltK
  split
  · split <;> omega
  · omega
theorem m8_late {σ : zS} {m : zOb} {T : T3} {t b : Int} (hT : OKT T) (e1 : m.2 1 = T.2.2) (hu : 0 ≤ m.1 5 ∧ m.1 5 ≤ 8) (ht : zin t) (hb : zin b) : zC M_X8_late 7 [zR 31, zI t, zI b] (zo σ 31 m) (fun r τ' => r = some (zI (if ltK T t b = 0 then T.2.2 (17 + 6 * t + 1) + b else ltK T t b)) ∧ ∃ m', τ' = zo σ 31 m' ∧ MP m m' ∧ (if ltK T t b = 0 then m'.2 1 = (t_lt T t b).2.2 ∧ PUSH T.2.2 m m' else m'.2 1 = T.2.2 ∧ m'.1 5 = m.1 5 ∧ m'.2 4 = m.2 4)) := by
  have h8 := hT.1.2.1
  refine zC_of (M := M_X8_late) (ls := [some (zR 31), some (zI t), some (zI b)]) (n := 0) (by decide) (fun ad => Nat.le_of_ble_eq_true rfl) rfl (fun x h => ?_)
  refine z_rgo (fun hrg => ?_)
  have e11 : m.2 1 1 = T.2.2 1 := by rw [e1]
  have hx1 : (oss m 0 0).2 1 = T.2.2 := e1
  have hx0 : (oss m 0 0).1 0 = 0 := rfl
  have hx2 : (oss m 0 0).2 2 = m.2 2 := rfl
  have hx3 : (oss m 0 0).2 3 = m.2 3 := rfl
  have hx4 : (oss m 0 0).2 4 = m.2 4 := rfl
  have hx5 : (oss m 0 0).1 5 = m.1 5 := rfl
  have N : ¬ LC T.2.2 t b → zW x (fun r τ' => r = some (zI (if ltK T t b = 0 then T.2.2 (17 + 6 * t + 1) + b else ltK T t b)) ∧ ∃ m', τ' = zo σ 31 m' ∧ MP m m' ∧ (if ltK T t b = 0 then m'.2 1 = (t_lt T t b).2.2 ∧ PUSH T.2.2 m m' else m'.2 1 = T.2.2 ∧ m'.1 5 = m.1 5 ∧ m'.2 4 = m.2 4)) 36 [some (zR 31), some (zI t), some (zI b)] [] (zo σ 31 (oss m 0 0)) := by
    intro hc
    have hk : ltK T t b = -1 := by unfold ltK; rw [if_neg hc]
    rw [hk]
    refine z_iconst (pc := 36) h dX8_late_36 ?_
    refine z_iret (pc := 37) h rfl dX8_late_37 ?_
    exact ⟨rfl, _, rfl, ⟨rfl, rfl, rfl⟩, e1, rfl, rfl⟩
  refine z_aloadR_n (pc := 0) h dX8_late_0 rfl ?_
  refine z_iconst (pc := 1) h dX8_late_1 ?_
  refine z_putIo (pc := 2) (c := 8) (j := 0) h (by first | assumption | rfl) rfl rfl fl_X8_84 rfl (tyX8_ok 0 (by decide)) dX8_late_2 (by omega) ?_
  generalize oss m 0 0 = mz at hx0 hx1 hx2 hx3 hx4 hx5 N ⊢
  have e11 : mz.2 1 1 = T.2.2 1 := by rw [hx1]
  have eat : mz.2 1 (17 + 6 * t + 1) = T.2.2 (17 + 6 * t + 1) := by rw [hx1]
  refine z_aloadR_n (pc := 5) h dX8_late_5 rfl ?_
  refine z_iload_n (pc := 6) h dX8_late_6 rfl ?_
  refine z_pV (pc := 7) (c := 8) h (m8_isTruck (by omega) (by omega)) (by decide) (by first | assumption | rfl) rfl mv_X8_isTruck ml_X8_290 rfl dX8_late_7 rfl (Nat.le_of_ble_eq_true rfl) ?_
  refine z_ifeqB (pc := 10) (tgt := 36) h dX8_late_10 (by decide) (fun c10 => ?_) (fun c10 => ?_)
  · exact N (fun z => of_decide_eq_false c10 (by have := z.1; omega))
  · have z5 := of_decide_eq_true c10
    have hat := (hT.1.2.2.2.2.2.2.1 t (by omega) (by omega)).2.1
    refine z_iload_n (pc := 13) h dX8_late_13 rfl ?_
    refine z_iconst (pc := 14) h dX8_late_14 ?_
    refine z_bipush (pc := 15) h dX8_late_15 (by decide) ?_
    refine z_pS (pc := 17) h (m8_in (by omega) (by omega) (by omega)) (by decide) ms_X8_in ml_X8_88 rfl dX8_late_17 rfl (Nat.le_of_ble_eq_true rfl) ?_
    refine z_ifeqB (pc := 20) (tgt := 36) h dX8_late_20 (by decide) (fun c20 => ?_) (fun c20 => ?_)
    · exact N (fun z => of_decide_eq_false c20 z.2.1)
    · have z20 := of_decide_eq_true c20
      refine z_aloadR_n (pc := 23) h dX8_late_23 rfl ?_
      refine z_iload_n (pc := 24) h dX8_late_24 rfl ?_
      refine z_iconst (pc := 25) h dX8_late_25 ?_
      refine z_pV (pc := 26) (c := 8) h (m8_of (by omega) (by omega)) (by decide) (by first | assumption | rfl) rfl mv_X8_of ml_X8_92 rfl dX8_late_26 rfl (Nat.le_of_ble_eq_true rfl) ?_
      refine z_iload_n (pc := 29) h dX8_late_29 rfl ?_
      refine z_iadd (pc := 30) h dX8_late_30 ?_
      refine z_bipush (pc := 31) h dX8_late_31 (by decide) ?_
      refine z_icmp_le (pc := 33) (tgt := 38) h (by omega) (by omega) dX8_late_33 (by decide) (fun c33 => ?_) (fun c33 => ?_)
      · have hc : LC T.2.2 t b := ⟨by omega, z20, by omega⟩
        refine z_aloadR_n (pc := 38) h dX8_late_38 rfl ?_
        refine z_callV (pc := 39) (c := 8) h (m8_begins (by rw [hx1]; exact hT.1) (by rw [hx1]; exact hT.2.1.wfr)) (by decide) (by first | assumption | rfl) rfl mv_X8_begins ml_X8_318 rfl dX8_late_39 rfl (Nat.le_of_ble_eq_true rfl) (fun r39 τ39 q39 => ?_)
        obtain ⟨rfl, mb, rfl, b1, b42, b41, b40, b27, bK⟩ := q39
        rw [hx1] at b1 b27
        have hfx : fxd (mb.2 27) (mb.2 1) t = fxd ((ra T.2.2).2 27) T.2.2 t := by unfold fxd; rw [b1, b27 t (by omega) (by omega)]
        obtain ⟨y0, y2, y3, y4, y5, y47⟩ := bK
        refine z_aloadR_n (pc := 42) h dX8_late_42 rfl ?_
        refine z_iload_n (pc := 43) h dX8_late_43 rfl ?_
        refine z_pV (pc := 44) (c := 8) h (m8_isFixed (by omega)) (by decide) (by first | assumption | rfl) rfl mv_X8_isFixed ml_X8_278 rfl dX8_late_44 rfl (Nat.le_of_ble_eq_true rfl) ?_
        refine z_ifeqB (pc := 47) (tgt := 53) h dX8_late_47 (by decide) (fun c47 => ?_) (fun c47 => ?_)
        · have hk : ltK T t b = 0 := by
            have c47 : fxd (mb.2 27) (mb.2 1) t = false := c47
            unfold ltK; rw [if_pos hc, if_neg (by rw [← hfx, c47]; simp)]
          rw [hk]
          refine z_aloadR_n (pc := 53) h dX8_late_53 rfl ?_
          refine z_vV (pc := 54) (c := 8) h (m8_remembers) (by decide) (by first | assumption | rfl) rfl mv_X8_remembers ml_X8_334 rfl dX8_late_54 rfl (Nat.le_of_ble_eq_true rfl) ?_
          generalize hmr : osA mb 47 (cpf (mb.2 47) (mb.2 1) 0 119) = mr
          have r1 : mr.2 1 = T.2.2 := by rw [← hmr]; exact b1
          have r0 : mr.1 0 = 0 := by rw [← hmr]; exact y0.trans hx0
          have r2 : mr.2 2 = m.2 2 := by rw [← hmr]; exact y2.trans hx2
          have r3 : mr.2 3 = m.2 3 := by rw [← hmr]; exact y3.trans hx3
          have r4 : mr.2 4 = m.2 4 := by rw [← hmr]; exact y4.trans hx4
          have r5 : mr.1 5 = m.1 5 := by rw [← hmr]; exact y5.trans hx5
          have r47 : ∀ k, 0 ≤ k → k < 119 → mr.2 47 k = T.2.2 k := fun k k0 k1 => by
            rw [← hmr, ← b1]
            show cpf (mb.2 47) (mb.2 1) 0 119 k = mb.2 1 k
            unfold cpf
            rw [if_pos (by omega)]
          clear hmr
          refine z_aloadR_n (pc := 57) h dX8_late_57 rfl ?_
          refine z_callV (pc := 58) (c := 8) h (m8_keeps (by rw [r5]; exact hu)) (by decide) (by first | assumption | rfl) rfl mv_X8_keeps ml_X8_331 rfl dX8_late_58 rfl (Nat.le_of_ble_eq_true rfl) (fun r58 τ58 q58 => ?_)
          obtain ⟨rfl, mk, rfl, k45, kp⟩ := q58
          have n1 : mk.2 1 = T.2.2 := ((k45 1).2 (by decide)).trans r1
          have nat : mk.2 1 (17 + 6 * t + 1) = T.2.2 (17 + 6 * t + 1) := by rw [n1]
          have hPu : PUSH T.2.2 m mk := by
            refine ⟨by rw [kp.1, r5], fun i k i0 i1 k0 k1 => ?_, fun k k0 k1 => ?_⟩
            · rw [← r5, ← r4]; exact kp.2.1 i k i0 (by rw [r5]; exact i1) k0 k1
            · rw [← r5, kp.2.2 k k0 k1]; exact r47 k k0 k1
          refine z_aloadR_n (pc := 61) h dX8_late_61 rfl ?_
          refine z_getA4 (pc := 62) (c := 8) (j := 1) h (by first | assumption | rfl) rfl rfl fl_X8_7 dX8_late_62 ?_
          refine z_bipush (pc := 65) h dX8_late_65 (by decide) ?_
          refine z_bipush (pc := 67) h dX8_late_67 (by decide) ?_
          refine z_iload_n (pc := 69) h dX8_late_69 rfl ?_
          refine z_imul (pc := 70) h dX8_late_70 ?_
          refine z_iadd (pc := 71) h dX8_late_71 ?_
          refine z_iconst (pc := 72) h dX8_late_72 ?_
          refine z_iadd (pc := 73) h dX8_late_73 ?_
          refine z_dup2AI (pc := 74) h dX8_late_74 ?_
          refine z_ialdq (pc := 75) (c := 8) (j := 1) (L := 610) h (zo_s _ _ _) (by first | assumption | rfl) (by decide) rfl (by decide) (by omega) (by omega) dX8_late_75 (fun g75 => ?_)
          try simp only [osa_1, osa_2, oss_1, oss_2, osA_1, osA_2, zup_s, reduceIte, Nat.reduceEqDiff] at g75 ⊢
          refine z_iload_n (pc := 76) h dX8_late_76 rfl ?_
          refine z_iadd (pc := 77) h dX8_late_77 ?_
          refine z_iasto (pc := 78) (c := 8) (j := 1) (L := 610) h (by first | assumption | rfl) (by decide) rfl (by decide) (by omega) (by omega) (by omega) dX8_late_78 ?_
          refine z_aloadR_n (pc := 79) h dX8_late_79 rfl ?_
          refine z_iload_n (pc := 80) h dX8_late_80 rfl ?_
          refine z_iconst (pc := 81) h dX8_late_81 ?_
          refine z_pV (pc := 82) (c := 8) h (m8_of (by omega) (by omega)) (by decide) (by first | assumption | rfl) rfl mv_X8_of ml_X8_92 rfl dX8_late_82 rfl (Nat.le_of_ble_eq_true rfl) ?_
          refine z_iret (pc := 85) h rfl dX8_late_85 ?_
          refine ⟨?_, _, rfl, ⟨((k45 0).1 (by decide)).trans r0, ((k45 2).2 (by decide)).trans r2, ((k45 3).2 (by decide)).trans r3⟩, ?_, hPu⟩
          · rw [← nat]
            first
            | rfl
            | exact congrArg (fun z => some (zI z)) (zup_s _ _ _)
          · show zup (mk.2 1) (17 + 6 * t + 1) (mk.2 1 (17 + 6 * t + 1) + b) = zup T.2.2 (17 + 6 * t + 1) (T.2.2 (17 + 6 * t + 1) + b)
            rw [n1]
        · have hk : ltK T t b = -2 := by
            have c47 : fxd (mb.2 27) (mb.2 1) t = true := c47
            unfold ltK; rw [if_pos hc, if_pos (hfx.symm.trans c47)]
          rw [hk]
          refine z_bipush (pc := 50) h dX8_late_50 (by decide) ?_
          refine z_iret (pc := 52) h rfl dX8_late_52 ?_
          exact ⟨rfl, _, rfl, ⟨y0.trans hx0, y2.trans hx2, y3.trans hx3⟩, b1, y5.trans hx5, y4.trans hx4⟩
      · exact N (fun z => by have := z.2.2; omega)
