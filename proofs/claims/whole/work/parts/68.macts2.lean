/-! The model: now, step, repair, undo. -/
def nwK (T : T3) (v : Int) : Bool := decide (T.2.2 4 + 1 ≤ v ∧ v ≤ 199)
def t_nw (T : T3) (v : Int) : T3 := (T.1, T.2.1, zup T.2.2 4 v)
theorem OKT_up {T : T3} {i v : Int} (h : OKT T) (hi : i = 2 ∨ i = 4) (hv : 0 ≤ v ∧ (i = 2 → v ≤ 40) ∧ (i = 4 → v ≤ 199)) : OKT (T.1, T.2.1, zup T.2.2 i v) := by
  obtain ⟨hwa, hP, hw⟩ := h
  have h6 := hwa.1
  have h8 := hwa.2.1
  have es : ∀ j, j ≠ i → zup T.2.2 i v j = T.2.2 j := fun j hj => zup_n _ _ hj
  have ei : zup T.2.2 i v i = v := zup_s _ _ _
  show WFa (zup T.2.2 i v) ∧ POS T.1 T.2.1 (zup T.2.2 i v) ∧ WFi T.1 (zup T.2.2 i v)
  generalize zup T.2.2 i v = c at es ei ⊢
  have hl : ∀ u, 0 ≤ u → a_load c u = a_load T.2.2 u := fun u hu => by
    unfold a_load
    rw [es _ (by omega), es _ (by omega), es _ (by omega), es _ (by omega)]
  have hf : ∀ n, a_fs c n = a_fs T.2.2 n := fun n => zfor_congr (fun i s g0 g1 => by rw [es _ (by omega), hl _ g0])
  obtain ⟨a0, a1, a2, a3, a4, a5, a7, a9⟩ := hwa
  refine ⟨?_, ⟨fun e g0 g1 => ?_, fun e j g0 g1 g2 g3 => ?_, fun o g0 g1 => ?_⟩, fun o d o0 o1 d0 d1 hk => ?_⟩
  · unfold WFa
    rw [es 0 (by omega), es 1 (by omega), es 3 (by omega), hf]
    refine ⟨a0, a1, ?_, a3, ?_, fun d g0 g1 => ?_, fun u g0 g1 => ?_, a9⟩
    · by_cases y : i = 2
      · rw [← y, ei]; omega
      · rw [es _ (by omega)]; exact a2
    · by_cases y : i = 4
      · rw [← y, ei]; omega
      · rw [es _ (by omega)]; exact a4
    · rw [es _ (by omega), es _ (by omega)]
      exact a5 d g0 g1
    · rw [hl _ g0, es (17 + 6 * u + 0) (by omega), es (17 + 6 * u + 1) (by omega), es (17 + 6 * u + 2) (by omega), es (17 + 6 * u + 3) (by omega), es (17 + 6 * u + 4) (by omega), es (17 + 6 * u + 5) (by omega)]
      exact a7 u g0 g1
  · rw [es 0 (by omega)] at g1
    rw [es _ (by omega)]
    exact hP.1 e g0 g1
  · rw [es 0 (by omega)] at g1
    rw [es _ (by omega)] at g3
    have := hP.2.1 e j g0 g1 g2 g3
    rw [es _ (by omega), es 1 (by omega), es (17 + 6 * T.2.2 (71 + 8 * e + j) + 0) (by omega), es (5 + 2 * e) (by omega)]
    exact this
  · rcases hP.2.2 o g0 g1 with z | ⟨z0, z1, z2, z3⟩
    · exact Or.inl z
    · right
      rw [es 1 (by omega), es 0 (by omega), es (65 + T.1 o) (by omega), es (71 + 8 * T.1 o + T.2.1 o) (by omega)]
      exact ⟨z0, z1, z2, z3⟩
  · rw [es _ (by omega)] at o1
    rw [es _ (by omega)] at d1
    rw [es _ (by omega), es _ (by omega)] at hk
    exact hw o d o0 o1 d0 d1 hk
theorem m8_now {σ : zS} {m : zOb} {T : T3} {v : Int} (hT : OKT T) (e1 : m.2 1 = T.2.2) (hu : 0 ≤ m.1 5 ∧ m.1 5 ≤ 8) (hv : zin v) : zC M_X8_now 2 [zR 31, zI v] (zo σ 31 m) (fun r τ' => r = some (zB (nwK T v)) ∧ ∃ m', τ' = zo σ 31 m' ∧ MP m m' ∧ (if nwK T v = true then m'.2 1 = (t_nw T v).2.2 ∧ PUSH T.2.2 m m' else m'.2 1 = T.2.2 ∧ m'.1 5 = m.1 5 ∧ m'.2 4 = m.2 4)) := by
  have h4 := hT.1.2.2.2.2.1
  refine zC_of (M := M_X8_now) (ls := [some (zR 31), some (zI v)]) (n := 0) (by decide) (fun ad => Nat.le_of_ble_eq_true rfl) rfl (fun x h => ?_)
  have e14 : m.2 1 4 = T.2.2 4 := by rw [e1]
  have hx1 : (oss m 0 0).2 1 = T.2.2 := e1
  have hx0 : (oss m 0 0).1 0 = 0 := rfl
  have hx2 : (oss m 0 0).2 2 = m.2 2 := rfl
  have hx3 : (oss m 0 0).2 3 = m.2 3 := rfl
  have hx4 : (oss m 0 0).2 4 = m.2 4 := rfl
  have hx5 : (oss m 0 0).1 5 = m.1 5 := rfl
  refine z_aloadR_n (pc := 0) h dX8_now_0 rfl ?_
  refine z_iconst (pc := 1) h dX8_now_1 ?_
  refine z_putIo (pc := 2) (c := 8) (j := 0) h (by first | assumption | rfl) rfl rfl fl_X8_84 rfl (tyX8_ok 0 (by decide)) dX8_now_2 (by omega) ?_
  generalize oss m 0 0 = mb at hx0 hx1 hx2 hx3 hx4 hx5 ⊢
  have e14 : mb.2 1 4 = T.2.2 4 := by rw [hx1]
  refine z_iload_n (pc := 5) h dX8_now_5 rfl ?_
  refine z_aloadR_n (pc := 6) h dX8_now_6 rfl ?_
  refine z_getA4 (pc := 7) (c := 8) (j := 1) h (by first | assumption | rfl) rfl rfl fl_X8_7 dX8_now_7 ?_
  refine z_iconst (pc := 10) h dX8_now_10 ?_
  refine z_ialdq (pc := 11) (c := 8) (j := 1) (L := 610) h (zo_s _ _ _) (by first | assumption | rfl) (by decide) rfl (by decide) (by omega) (by omega) dX8_now_11 (fun g11 => ?_)
  try simp only [osa_1, osa_2, oss_1, oss_2, osA_1, osA_2, zup_s, reduceIte, Nat.reduceEqDiff] at g11 ⊢
  refine z_iconst (pc := 12) h dX8_now_12 ?_
  refine z_iadd (pc := 13) h dX8_now_13 ?_
  refine z_sipush (pc := 14) h dX8_now_14 (by decide) ?_
  refine z_pS (pc := 17) h (m8_in (by omega) (by omega) (by omega)) (by decide) ms_X8_in ml_X8_88 rfl dX8_now_17 rfl (Nat.le_of_ble_eq_true rfl) ?_
  refine z_ifneB (pc := 20) (tgt := 25) h dX8_now_20 (by decide) (fun c20 => ?_) (fun c20 => ?_)
  · have z := of_decide_eq_true c20
    have hk : nwK T v = true := decide_eq_true (by omega)
    rw [hk]
    refine z_aloadR_n (pc := 25) h dX8_now_25 rfl ?_
    refine z_vV (pc := 26) (c := 8) h (m8_remembers) (by decide) (by first | assumption | rfl) rfl mv_X8_remembers ml_X8_334 rfl dX8_now_26 rfl (Nat.le_of_ble_eq_true rfl) ?_
    generalize hmr : osA mb 47 (cpf (mb.2 47) (mb.2 1) 0 119) = mr
    have r1 : mr.2 1 = T.2.2 := by rw [← hmr]; exact hx1
    have r0 : mr.1 0 = 0 := by rw [← hmr]; exact hx0
    have r2 : mr.2 2 = m.2 2 := by rw [← hmr]; exact hx2
    have r3 : mr.2 3 = m.2 3 := by rw [← hmr]; exact hx3
    have r4 : mr.2 4 = m.2 4 := by rw [← hmr]; exact hx4
    have r5 : mr.1 5 = m.1 5 := by rw [← hmr]; exact hx5
    have r47 : ∀ k, 0 ≤ k → k < 119 → mr.2 47 k = T.2.2 k := fun k k0 k1 => by
      rw [← hmr, ← hx1]
      show cpf (mb.2 47) (mb.2 1) 0 119 k = mb.2 1 k
      unfold cpf
      rw [if_pos (by omega)]
    clear hmr
    refine z_aloadR_n (pc := 29) h dX8_now_29 rfl ?_
    refine z_callV (pc := 30) (c := 8) h (m8_keeps (by rw [r5]; exact hu)) (by decide) (by first | assumption | rfl) rfl mv_X8_keeps ml_X8_331 rfl dX8_now_30 rfl (Nat.le_of_ble_eq_true rfl) (fun r30 τ30 q30 => ?_)
    obtain ⟨rfl, mk, rfl, k45, kp⟩ := q30
    have n1 : mk.2 1 = T.2.2 := ((k45 1).2 (by decide)).trans r1
    have hPu : PUSH T.2.2 m mk := by
      refine ⟨by rw [kp.1, r5], fun i k i0 i1 k0 k1 => ?_, fun k k0 k1 => ?_⟩
      · rw [← r5, ← r4]; exact kp.2.1 i k i0 (by rw [r5]; exact i1) k0 k1
      · rw [← r5, kp.2.2 k k0 k1]; exact r47 k k0 k1
    refine z_aloadR_n (pc := 33) h dX8_now_33 rfl ?_
    refine z_getA4 (pc := 34) (c := 8) (j := 1) h (by first | assumption | rfl) rfl rfl fl_X8_7 dX8_now_34 ?_
    refine z_iconst (pc := 37) h dX8_now_37 ?_
    refine z_iload_n (pc := 38) h dX8_now_38 rfl ?_
    refine z_iasto (pc := 39) (c := 8) (j := 1) (L := 610) h (by first | assumption | rfl) (by decide) rfl (by decide) (by omega) (by omega) (by omega) dX8_now_39 ?_
    refine z_iconst (pc := 40) h dX8_now_40 ?_
    refine z_zret (pc := 41) h rfl (by omega) dX8_now_41 ?_
    refine ⟨rfl, _, rfl, ⟨((k45 0).1 (by decide)).trans r0, ((k45 2).2 (by decide)).trans r2, ((k45 3).2 (by decide)).trans r3⟩, ?_⟩
    rw [if_pos rfl]
    refine ⟨?_, hPu⟩
    show zup (mk.2 1) 4 v = zup T.2.2 4 v
    rw [n1]
  · have z := of_decide_eq_false c20
    have hk : nwK T v = false := decide_eq_false (by omega)
    rw [hk]
    refine z_iconst (pc := 23) h dX8_now_23 ?_
    refine z_zret (pc := 24) h rfl (by omega) dX8_now_24 ?_
    refine ⟨rfl, _, rfl, ⟨hx0, hx2, hx3⟩, ?_⟩
    rw [if_neg (by decide)]
    exact ⟨hx1, hx5, hx4⟩
theorem tb_best_eq {T : T3} {m : zOb} (hT : OKT T) (hB : BSR T m (srch T)) (hlt : (srch T).1 < rc T.2.2) : cpf T.2.2 (fun j => m.2 43 (j - 65)) 65 54 = (srch T).2.2.2 := by
  have hG := (GS_s hT).2 hlt
  have hb := hB.2 hlt
  funext i
  unfold cpf
  by_cases y : 65 ≤ i ∧ i < 65 + 54
  · rw [if_pos y]
    show m.2 43 (i - 65) = _
    rw [hb _ (by omega) (by omega), show 65 + (i - 65) = i by omega]
  · rw [if_neg y]
    exact (hG.2.1 i (by omega)).symm
theorem m8_step {σ : zS} {m : zOb} {T : T3} (hT : OKT T) (e1 : m.2 1 = T.2.2) (hu : 0 ≤ m.1 5 ∧ m.1 5 ≤ 8) : zC M_X8_step 8 [zR 31] (zo σ 31 m) (fun r τ' => r = some (zI (if (srch T).1 < rc T.2.2 then (srch T).1 else -1)) ∧ ∃ m', τ' = zo σ 31 m' ∧ MP m m' ∧ (if (srch T).1 < rc T.2.2 then m'.2 1 = (srch T).2.2.2 ∧ PUSH T.2.2 m m' else m'.2 1 = T.2.2 ∧ m'.1 5 = m.1 5 ∧ m'.2 4 = m.2 4)) := by
  have hsb := (GS_s hT).b hT
  refine zC_of (M := M_X8_step) (ls := [some (zR 31)]) (n := 0) (by decide) (fun ad => Nat.le_of_ble_eq_true rfl) rfl (fun x h => ?_)
  refine z_aloadR_n (pc := 0) h dX8_step_0 rfl ?_
  refine z_iconst (pc := 1) h dX8_step_1 ?_
  refine z_putIo (pc := 2) (c := 8) (j := 0) h (by first | assumption | rfl) rfl rfl fl_X8_84 rfl (tyX8_ok 0 (by decide)) dX8_step_2 (by omega) ?_
  refine z_aloadR_n (pc := 5) h dX8_step_5 rfl ?_
  refine z_vV (pc := 6) (c := 8) h (m8_remembers) (by decide) (by first | assumption | rfl) rfl mv_X8_remembers ml_X8_334 rfl dX8_step_6 rfl (Nat.le_of_ble_eq_true rfl) ?_
  generalize hmr : osA (oss m 0 0) 47 (cpf ((oss m 0 0).2 47) ((oss m 0 0).2 1) 0 119) = mr
  have r1 : mr.2 1 = T.2.2 := by rw [← hmr]; exact e1
  have r0 : mr.1 0 = 0 := by rw [← hmr]; rfl
  have r2 : mr.2 2 = m.2 2 := by rw [← hmr]; rfl
  have r3 : mr.2 3 = m.2 3 := by rw [← hmr]; rfl
  have r4 : mr.2 4 = m.2 4 := by rw [← hmr]; rfl
  have r5 : mr.1 5 = m.1 5 := by rw [← hmr]; rfl
  have r47 : ∀ k, 0 ≤ k → k < 119 → mr.2 47 k = T.2.2 k := fun k k0 k1 => by
    rw [← hmr, ← e1]
    show cpf (m.2 47) (m.2 1) 0 119 k = m.2 1 k
    unfold cpf
    rw [if_pos (by omega)]
  clear hmr
  refine z_aloadR_n (pc := 9) h dX8_step_9 rfl ?_
  refine z_callV (pc := 10) (c := 8) h (m8_isBetter hT r1) (by decide) (by first | assumption | rfl) rfl mv_X8_isBetter ml_X8_340 rfl dX8_step_10 rfl (Nat.le_of_ble_eq_true rfl) (fun r10 τ10 q10 => ?_)
  obtain ⟨rfl, mb, rfl, hM, hB⟩ := q10
  obtain ⟨y0, y2, y3, y4, y5, y47⟩ := hM.2.2.2.2
  refine z_ifneB (pc := 13) (tgt := 18) h dX8_step_13 (by decide) (fun c13 => ?_) (fun c13 => ?_)
  · have hlt := of_decide_eq_true c13
    rw [if_pos hlt]
    refine z_aloadR_n (pc := 18) h dX8_step_18 rfl ?_
    refine z_callV (pc := 19) (c := 8) h (m8_keeps (by rw [y5, r5]; exact hu)) (by decide) (by first | assumption | rfl) rfl mv_X8_keeps ml_X8_331 rfl dX8_step_19 rfl (Nat.le_of_ble_eq_true rfl) (fun r19 τ19 q19 => ?_)
    obtain ⟨rfl, mk, rfl, k45, kp⟩ := q19
    have n1 : mk.2 1 = T.2.2 := ((k45 1).2 (by decide)).trans hM.1
    have n43 : mk.2 43 = mb.2 43 := (k45 43).2 (by decide)
    have n44 : mk.1 44 = (srch T).1 := ((k45 44).1 (by decide)).trans hB.1
    have hPu : PUSH T.2.2 m mk := by
      refine ⟨by rw [kp.1, y5, r5], fun i k i0 i1 k0 k1 => ?_, fun k k0 k1 => ?_⟩
      · rw [← r5, ← r4, ← y5, ← y4]; exact kp.2.1 i k i0 (by rw [y5, r5]; exact i1) k0 k1
      · rw [← r5, ← y5, kp.2.2 k k0 k1, y47]; exact r47 k k0 k1
    refine z_aloadR_n (pc := 22) h dX8_step_22 rfl ?_
    refine z_vV (pc := 23) (c := 8) h (m8_takesBest) (by decide) (by first | assumption | rfl) rfl mv_X8_takesBest ml_X8_343 rfl dX8_step_23 rfl (Nat.le_of_ble_eq_true rfl) ?_
    refine z_aloadR_n (pc := 26) h dX8_step_26 rfl ?_
    refine z_getIq (pc := 27) (c := 8) (j := 44) h (zo_s _ _ _) (by first | assumption | rfl) rfl rfl fl_X8_315 dX8_step_27 (fun g27 => ?_)
    try simp only [osa_1, osa_2, oss_1, oss_2, osA_1, osA_2, zup_s, reduceIte, Nat.reduceEqDiff] at g27 ⊢
    refine z_iret (pc := 30) h rfl dX8_step_30 ?_
    refine ⟨congrArg (fun z => some (zI z)) n44, _, rfl, ⟨((k45 0).1 (by decide)).trans (y0.trans r0), ((k45 2).2 (by decide)).trans (y2.trans r2), ((k45 3).2 (by decide)).trans (y3.trans r3)⟩, ?_⟩
    rw [if_pos hlt]
    refine ⟨?_, hPu⟩
    show cpf (mk.2 1) (fun j => mk.2 43 (j - 65)) 65 54 = _
    rw [n1, n43]
    exact tb_best_eq hT hB hlt
  · have hlt := of_decide_eq_false c13
    rw [if_neg hlt]
    refine z_iconst (pc := 16) h dX8_step_16 ?_
    refine z_iret (pc := 17) h rfl dX8_step_17 ?_
    refine ⟨rfl, _, rfl, ⟨y0.trans r0, y2.trans r2, y3.trans r3⟩, ?_⟩
    rw [if_neg hlt]
    exact ⟨hM.1, y5.trans r5, y4.trans r4⟩
def rpL : Nat → Int → T3 → Int × T3
  | 0, n, T => (n, T)
  | f + 1, n, T => if n < 5 ∧ (srch T).1 < rc T.2.2 then rpL f (n + 1) (srch T).2 else (n, T)
def rep (T : T3) : Int × T3 := rpL 6 0 T
theorem rpL_ok : ∀ (f : Nat) (n : Int) (T : T3), OKT T → 0 ≤ n → n ≤ 5 → OKT (rpL f n T).2 ∧ RWS T.2.2 (rpL f n T).2.2.2 ∧ n ≤ (rpL f n T).1 ∧ (rpL f n T).1 ≤ 5 ∧ ((rpL f n T).1 = n → (rpL f n T).2 = T)
  | 0, n, T, h, h0, h1 => ⟨h, fun _ _ => rfl, Int.le_refl _, h1, fun _ => rfl⟩
  | f + 1, n, T, h, h0, h1 => by
    unfold rpL
    split
    · rename_i y
      have hG := (GS_s h).2 y.2
      obtain ⟨i1, i2, i3, i4, i5⟩ := rpL_ok f (n + 1) (srch T).2 hG.1 (by omega) (by omega)
      exact ⟨i1, fun i hi => (i2 i hi).trans (hG.2.1 i hi), by omega, i4, fun z => by omega⟩
    · exact ⟨h, fun _ _ => rfl, Int.le_refl _, h1, fun _ => rfl⟩
theorem m8_repair {σ : zS} {m : zOb} {T : T3} (hT : OKT T) (e1 : m.2 1 = T.2.2) (hu : 0 ≤ m.1 5 ∧ m.1 5 ≤ 8) : zC M_X8_repair 8 [zR 31] (zo σ 31 m) (fun r τ' => r = some (zI (if (rep T).1 = 0 then -1 else (rep T).1)) ∧ ∃ m', τ' = zo σ 31 m' ∧ MP m m' ∧ m'.2 1 = (rep T).2.2.2 ∧ (if (rep T).1 = 0 then m'.1 5 = m.1 5 ∧ m'.2 4 = m.2 4 else PUSH T.2.2 m m')) := by
  refine zC_of (M := M_X8_repair) (ls := [some (zR 31), none]) (n := 1) (by decide) (fun ad => Nat.le_of_ble_eq_true rfl) rfl (fun x h => ?_)
  generalize hK : (fun (r : Option Value) (τ' : zS) => r = some (zI (if (rep T).1 = 0 then -1 else (rep T).1)) ∧ ∃ m', τ' = zo σ 31 m' ∧ MP m m' ∧ m'.2 1 = (rep T).2.2.2 ∧ (if (rep T).1 = 0 then m'.1 5 = m.1 5 ∧ m'.2 4 = m.2 4 else PUSH T.2.2 m m')) = K
  have L : ∀ (f : Nat) (n : Int) (U : T3) (mm : zOb), OKT U → 0 ≤ n → n ≤ 5 → 5 - n < f → rpL f n U = rep T → mm.2 1 = U.2.2 → mm.1 0 = 0 → mm.2 2 = m.2 2 → mm.2 3 = m.2 3 → mm.2 4 = m.2 4 → mm.1 5 = m.1 5 → (∀ k, 0 ≤ k → k < 119 → mm.2 47 k = T.2.2 k) → zW x K 11 [some (zR 31), some (zI n)] [] (zo σ 31 mm) := by
    intro f
    induction f with
    | zero => intro n U mm hU h0 h1 h2; omega
    | succ f ih =>
      intro n U mm hU h0 h1 h2 hr r1 r0 r2 r3 r4 r5 r47
      have hfin : ¬ (n < 5 ∧ (srch U).1 < rc U.2.2) → rep T = (n, U) := fun z => by rw [← hr]; unfold rpL; rw [if_neg z]
      have hnx : (n < 5 ∧ (srch U).1 < rc U.2.2) → rpL f (n + 1) (srch U).2 = rep T := fun z => by rw [← hr]; exact (if_pos z).symm
      have E : ∀ (mm : zOb), rep T = (n, U) → mm.2 1 = U.2.2 → mm.1 0 = 0 → mm.2 2 = m.2 2 → mm.2 3 = m.2 3 → mm.2 4 = m.2 4 → mm.1 5 = m.1 5 → (∀ k, 0 ≤ k → k < 119 → mm.2 47 k = T.2.2 k) → zW x K 33 [some (zR 31), some (zI n)] [] (zo σ 31 mm) := by
        intro mm hE r1 r0 r2 r3 r4 r5 r47
        refine z_iload_n (pc := 33) h dX8_repair_33 rfl ?_
        refine z_if_ne (pc := 34) (tgt := 39) h (by omega) dX8_repair_34 (by decide) (fun c34 => ?_) (fun c34 => ?_)
        · refine z_aloadR_n (pc := 39) h dX8_repair_39 rfl ?_
          refine z_callV (pc := 40) (c := 8) h (m8_keeps (by rw [r5]; exact hu)) (by decide) (by first | assumption | rfl) rfl mv_X8_keeps ml_X8_331 rfl dX8_repair_40 rfl (Nat.le_of_ble_eq_true rfl) (fun r40 τ40 q40 => ?_)
          obtain ⟨rfl, mk, rfl, k45, kp⟩ := q40
          refine z_iload_n (pc := 43) h dX8_repair_43 rfl ?_
          refine z_iret (pc := 44) h rfl dX8_repair_44 ?_
          rw [← hK, hE]
          refine ⟨?_, mk, rfl, ⟨((k45 0).1 (by decide)).trans r0, ((k45 2).2 (by decide)).trans r2, ((k45 3).2 (by decide)).trans r3⟩, ((k45 1).2 (by decide)).trans r1, ?_⟩
          · rw [if_neg (show ¬ n = 0 by omega)]
          · rw [if_neg (show ¬ n = 0 by omega)]
            refine ⟨by rw [kp.1, r5], fun i k i0 i1 k0 k1 => ?_, fun k k0 k1 => ?_⟩
            · rw [← r5, ← r4]; exact kp.2.1 i k i0 (by rw [r5]; exact i1) k0 k1
            · rw [← r5, kp.2.2 k k0 k1]; exact r47 k k0 k1
        · refine z_iconst (pc := 37) h dX8_repair_37 ?_
          refine z_iret (pc := 38) h rfl dX8_repair_38 ?_
          rw [← hK, hE]
          refine ⟨?_, mm, rfl, ⟨r0, r2, r3⟩, r1, ?_⟩
          · rw [if_pos (show n = 0 by omega)]
          · rw [if_pos (show n = 0 by omega)]; exact ⟨r5, r4⟩
      refine z_iload_n (pc := 11) h dX8_repair_11 rfl ?_
      refine z_iconst (pc := 12) h dX8_repair_12 ?_
      refine z_icmp_ge (pc := 13) (tgt := 33) h (by omega) (by omega) dX8_repair_13 (by decide) (fun c13 => ?_) (fun c13 => ?_)
      · exact E mm (hfin (fun z => by omega)) r1 r0 r2 r3 r4 r5 r47
      · refine z_aloadR_n (pc := 16) h dX8_repair_16 rfl ?_
        refine z_callV (pc := 17) (c := 8) h (m8_isBetter hU r1) (by decide) (by first | assumption | rfl) rfl mv_X8_isBetter ml_X8_340 rfl dX8_repair_17 rfl (Nat.le_of_ble_eq_true rfl) (fun r17 τ17 q17 => ?_)
        obtain ⟨rfl, mb, rfl, hM, hB⟩ := q17
        obtain ⟨y0, y2, y3, y4, y5, y47⟩ := hM.2.2.2.2
        refine z_ifeqB (pc := 20) (tgt := 33) h dX8_repair_20 (by decide) (fun c20 => ?_) (fun c20 => ?_)
        · exact E mb (hfin (fun z => of_decide_eq_false c20 z.2)) hM.1 (y0.trans r0) (y2.trans r2) (y3.trans r3) (y4.trans r4) (y5.trans r5) (fun k k0 k1 => by rw [y47]; exact r47 k k0 k1)
        · have hlt := of_decide_eq_true c20
          refine z_aloadR_n (pc := 23) h dX8_repair_23 rfl ?_
          refine z_vV (pc := 24) (c := 8) h (m8_takesBest) (by decide) (by first | assumption | rfl) rfl mv_X8_takesBest ml_X8_343 rfl dX8_repair_24 rfl (Nat.le_of_ble_eq_true rfl) ?_
          refine z_inc_1 (pc := 27) h dX8_repair_27 (by decide) rfl ?_
          refine z_goto (pc := 30) (tgt := 11) h dX8_repair_30 (by decide) ?_
          refine ih (n + 1) (srch U).2 _ ((GS_s hU).2 hlt).1 (by omega) (by omega) (by omega) (hnx ⟨by omega, hlt⟩) ?_ (y0.trans r0) (y2.trans r2) (y3.trans r3) (y4.trans r4) (y5.trans r5) (fun k k0 k1 => by show mb.2 47 k = _; rw [y47]; exact r47 k k0 k1)
          show cpf (mb.2 1) (fun j => mb.2 43 (j - 65)) 65 54 = _
          rw [hM.1]
          exact tb_best_eq hU hB hlt
  refine z_aloadR_n (pc := 0) h dX8_repair_0 rfl ?_
  refine z_iconst (pc := 1) h dX8_repair_1 ?_
  refine z_putIo (pc := 2) (c := 8) (j := 0) h (by first | assumption | rfl) rfl rfl fl_X8_84 rfl (tyX8_ok 0 (by decide)) dX8_repair_2 (by omega) ?_
  refine z_aloadR_n (pc := 5) h dX8_repair_5 rfl ?_
  refine z_vV (pc := 6) (c := 8) h (m8_remembers) (by decide) (by first | assumption | rfl) rfl mv_X8_remembers ml_X8_334 rfl dX8_repair_6 rfl (Nat.le_of_ble_eq_true rfl) ?_
  refine z_iconst (pc := 9) h dX8_repair_9 ?_
  refine z_ist_1 (pc := 10) h dX8_repair_10 (by decide) rfl ?_
  refine L 6 0 T _ hT (by omega) (by omega) (by omega) rfl e1 rfl rfl rfl rfl rfl (fun k k0 k1 => ?_)
  show cpf (m.2 47) (m.2 1) 0 119 k = T.2.2 k
  unfold cpf
  rw [if_pos (by omega), e1]
