/-! The model: tries, isBetter. -/
def MS (T : T3) (m0 m : zOb) : Prop := m.2 1 = T.2.2 ∧ KPT T.2.2 (m.2 41) ∧ (∀ e, 0 ≤ e → e < T.2.2 0 → m.2 40 e = t_F T e) ∧ m.1 42 = rc T.2.2 ∧ KF m0 m
def BSR (T : T3) (m : zOb) (s : Int × T3) : Prop := m.1 44 = s.1 ∧ (s.1 < rc T.2.2 → ∀ j, 0 ≤ j → j < 54 → m.2 43 j = s.2.2.2 (65 + j))
theorem MS.F {T : T3} {m0 m : zOb} (hT : OKT T) (h : MS T m0 m) : ∀ e, 0 ≤ e → e < m.2 1 0 → 0 ≤ m.2 40 e ∧ m.2 40 e ≤ m.2 1 (65 + e) := by
  intro e e0 e1
  rw [h.1] at e1 ⊢
  rw [h.2.2.1 e e0 e1]
  exact a_F_b (hT.2.1.1 e e0 e1).1
theorem tries_n {σ : zS} {m : zOb} {v : Int} {K : Option Value → zS → Prop} (hv : zin v) (h0 : v ≠ 0) (hK : K none (zo σ 31 m)) : zC M_X8_tries 6 [zR 31, zI v] (zo σ 31 m) K := by
  refine zC_of (M := M_X8_tries) (ls := [some (zR 31), some (zI v), none, none]) (n := 2) (by decide) (fun ad => Nat.le_of_ble_eq_true rfl) rfl (fun x h => ?_)
  refine z_iload_n (pc := 0) h dX8_tries_0 rfl ?_
  refine z_if_eq (pc := 1) (tgt := 5) h (by omega) dX8_tries_1 (by decide) (fun c1 => ?_) (fun c1 => ?_)
  · exact absurd c1 h0
  · refine z_ret (pc := 4) h rfl dX8_tries_4 ?_
    exact hK
theorem tries_0 {σ : zS} {m m0 : zOb} {T U : T3} {s : Int × T3} (hU : OKT U) (hr : RWS T.2.2 U.2.2) (e1 : m.2 1 = U.2.2) (hM : MS T m0 (osA m 1 T.2.2)) (hB : BSR T m s) : zC M_X8_tries 6 [zR 31, zI 0] (zo σ 31 m) (fun r τ' => r = none ∧ ∃ m', τ' = zo σ 31 m' ∧ MS T m0 m' ∧ BSR T m' (tr1 U s)) := by
  have hwa : WFa (m.2 1) := by rw [e1]; exact hU.1
  have hwr : WFr (m.2 1) := by rw [e1]; exact hU.2.1.wfr
  obtain ⟨k1, k2, k3, k4⟩ := run_ok hwa hwr
  have hrc := rc_eq hwa hwr
  rw [e1] at hrc
  have hfr := FR_run m
  have hcb := s_cost_b k1 k2 k4
  have f41 : (s_run m).2 41 = m.2 41 := (hfr 41 (by omega)).2
  have f40 : (s_run m).2 40 = m.2 40 := (hfr 40 (by omega)).2
  have f42 : (s_run m).1 42 = m.1 42 := (hfr 42 (by omega)).1
  have f44 : (s_run m).1 44 = m.1 44 := (hfr 44 (by omega)).1
  have f43 : (s_run m).2 43 = m.2 43 := (hfr 43 (by omega)).2
  have fK := hfr.kf
  obtain ⟨M1, M2, M3, M4, M5⟩ := hM
  have M2 : KPT T.2.2 (m.2 41) := M2
  have M3 : ∀ e, 0 ≤ e → e < T.2.2 0 → m.2 40 e = t_F T e := M3
  have M4 : m.1 42 = rc T.2.2 := M4
  have M5 : KF m0 m := ⟨M5.1, M5.2.1, M5.2.2.1, M5.2.2.2.1, M5.2.2.2.2.1, M5.2.2.2.2.2⟩
  have hback := back_eq (b := U.2.2) M2 hr
  refine zC_of (M := M_X8_tries) (ls := [some (zR 31), some (zI 0), none, none]) (n := 2) (by decide) (fun ad => Nat.le_of_ble_eq_true rfl) rfl (fun x h => ?_)
  generalize hK : (fun (r : Option Value) (τ' : zS) => r = none ∧ ∃ m', τ' = zo σ 31 m' ∧ MS T m0 m' ∧ BSR T m' (tr1 U s)) = K
  have E : ∀ (mm : zOb) (l : Option Value), mm.2 1 = U.2.2 → mm.2 41 = m.2 41 → mm.2 40 = m.2 40 → mm.1 42 = m.1 42 → KF m mm → BSR T mm (tr1 U s) → zW x K 52 [some (zR 31), some (zI 0), some (zI (rc U.2.2)), l] [] (zo σ 31 mm) := by
    intro mm l y1 y41 y40 y42 yK yB
    have hrb := m8_rowsBack (σ := σ) (m := mm)
    rw [y1, y41, hback] at hrb
    refine z_aloadR_n (pc := 52) h dX8_tries_52 rfl ?_
    refine z_vV (pc := 53) (c := 8) h (hrb) (by decide) (by first | assumption | rfl) rfl mv_X8_rowsBack ml_X8_312 rfl dX8_tries_53 rfl (Nat.le_of_ble_eq_true rfl) ?_
    refine z_ret (pc := 56) h rfl dX8_tries_56 ?_
    rw [← hK]
    refine ⟨rfl, _, rfl, ⟨rfl, ?_, ?_, ?_, ?_⟩, yB⟩
    · show KPT T.2.2 (mm.2 41)
      rw [y41]; exact M2
    · show ∀ e, 0 ≤ e → e < T.2.2 0 → mm.2 40 e = t_F T e
      rw [y40]; exact M3
    · show mm.1 42 = rc T.2.2
      rw [y42]; exact M4
    · exact M5.tr ⟨yK.1, yK.2.1, yK.2.2.1, yK.2.2.2.1, yK.2.2.2.2.1, yK.2.2.2.2.2⟩
  have C : ∀ (n : Nat) (i : Int) (mm : zOb), 0 ≤ i → i ≤ 54 → 54 - i < n → mm.2 1 = U.2.2 → mm.2 41 = m.2 41 → mm.2 40 = m.2 40 → mm.1 42 = m.1 42 → KF m mm → rc U.2.2 < s.1 → mm.1 44 = rc U.2.2 → (∀ j, 0 ≤ j → j < i → mm.2 43 j = U.2.2 (65 + j)) → zW x K 25 [some (zR 31), some (zI 0), some (zI (rc U.2.2)), some (zI i)] [] (zo σ 31 mm) := by
    intro n
    induction n with
    | zero => intro i mm h1 h2 h3; omega
    | succ n ih =>
      intro i mm h1 h2 h3 y1 y41 y40 y42 yK yc y44 y43
      refine z_rgo (fun hrg => ?_)
      have hz : zin (mm.2 1 (65 + i)) := hrg.2 1 _
      refine z_iload_n (pc := 25) h dX8_tries_25 rfl ?_
      refine z_bipush (pc := 26) h dX8_tries_26 (by decide) ?_
      refine z_icmp_ge (pc := 28) (tgt := 52) h (by omega) (by omega) dX8_tries_28 (by decide) (fun c28 => ?_) (fun c28 => ?_)
      · refine E mm _ y1 y41 y40 y42 yK ?_
        unfold tr1
        rw [if_pos yc]
        exact ⟨y44, fun _ j z0 z1 => y43 j z0 (by omega)⟩
      · refine z_aloadR_n (pc := 31) h dX8_tries_31 rfl ?_
        refine z_getA4 (pc := 32) (c := 8) (j := 43) h (by first | assumption | rfl) rfl rfl fl_X8_78 dX8_tries_32 ?_
        refine z_iload_n (pc := 35) h dX8_tries_35 rfl ?_
        refine z_aloadR_n (pc := 36) h dX8_tries_36 rfl ?_
        refine z_getA4 (pc := 37) (c := 8) (j := 1) h (by first | assumption | rfl) rfl rfl fl_X8_7 dX8_tries_37 ?_
        refine z_bipush (pc := 40) h dX8_tries_40 (by decide) ?_
        refine z_iload_n (pc := 42) h dX8_tries_42 rfl ?_
        refine z_iadd (pc := 43) h dX8_tries_43 ?_
        refine z_ialdq (pc := 44) (c := 8) (j := 1) (L := 610) h (zo_s _ _ _) (by first | assumption | rfl) (by decide) rfl (by decide) (by omega) (by omega) dX8_tries_44 (fun g44 => ?_)
        refine z_iasto (pc := 45) (c := 8) (j := 43) (L := 54) h (by first | assumption | rfl) (by decide) rfl (by decide) (by omega) (by omega) (by omega) dX8_tries_45 ?_
        refine z_inc_3 (pc := 46) h dX8_tries_46 (by decide) rfl ?_
        refine z_goto (pc := 49) (tgt := 25) h dX8_tries_49 (by decide) ?_
        refine ih (i + 1) (osa mm 43 i (mm.2 1 (65 + i))) (by omega) (by omega) (by omega) y1 y41 y40 y42 ⟨yK.1, yK.2.1, yK.2.2.1, yK.2.2.2.1, yK.2.2.2.2.1, yK.2.2.2.2.2⟩ yc y44 (fun j z0 z1 => ?_)
        show zup (mm.2 43) i (mm.2 1 (65 + i)) j = _
        by_cases ee : j = i
        · rw [ee, zup_s, y1]
        · rw [zup_n _ _ ee]; exact y43 j z0 (by omega)
  refine z_iload_n (pc := 0) h dX8_tries_0 rfl ?_
  refine z_if_eq (pc := 1) (tgt := 5) h (by omega) dX8_tries_1 (by decide) (fun c1 => ?_) (fun c1 => ?_)
  · refine z_aloadR_n (pc := 5) h dX8_tries_5 rfl ?_
    refine z_rV (pc := 6) (c := 8) h (m8_runs hwa hwr) (by decide) (by first | assumption | rfl) rfl mv_X8_runs ml_X8_272 rfl dX8_tries_6 rfl (Nat.le_of_ble_eq_true rfl) ?_
    rw [hrc]
    rw [hrc] at hcb
    generalize s_run m = mr at k3 f41 f40 f42 f43 f44 fK ⊢
    have B1 := hB.1
    refine z_ist_2 (pc := 9) h dX8_tries_9 (by decide) rfl ?_
    refine z_iload_n (pc := 10) h dX8_tries_10 rfl ?_
    refine z_aloadR_n (pc := 11) h dX8_tries_11 rfl ?_
    refine z_getIq (pc := 12) (c := 8) (j := 44) h (zo_s _ _ _) (by first | assumption | rfl) rfl rfl fl_X8_315 dX8_tries_12 (fun g12 => ?_)
    refine z_icmp_ge (pc := 15) (tgt := 52) h (by omega) (by omega) dX8_tries_15 (by decide) (fun c15 => ?_) (fun c15 => ?_)
    · refine E mr _ (k3.trans e1) f41 f40 f42 fK ?_
      unfold tr1
      rw [if_neg (by omega)]
      exact ⟨f44.trans B1, by rw [f43]; exact hB.2⟩
    · refine z_aloadR_n (pc := 18) h dX8_tries_18 rfl ?_
      refine z_iload_n (pc := 19) h dX8_tries_19 rfl ?_
      refine z_putIo (pc := 20) (c := 8) (j := 44) h (by first | assumption | rfl) rfl rfl fl_X8_315 rfl (tyX8_ok 44 (by decide)) dX8_tries_20 (by omega) ?_
      refine z_iconst (pc := 23) h dX8_tries_23 ?_
      refine z_ist_3 (pc := 24) h dX8_tries_24 (by decide) rfl ?_
      exact C 55 0 (oss mr 44 (rc U.2.2)) (by omega) (by omega) (by omega) (k3.trans e1) f41 f40 f42 ⟨fK.1, fK.2.1, fK.2.2.1, fK.2.2.2.1, fK.2.2.2.2.1, fK.2.2.2.2.2⟩ (by omega) rfl (fun j z0 z1 => by omega)
  · exact absurd rfl c1
theorem zfor_ext {α : Type} {f : Int → α → α} {a : α} {n k : Int} (h0 : 0 ≤ n) (hk : n ≤ k) (h : ∀ i b, n ≤ i → i < k → f i b = b) : zfor f k a = zfor f n a := by
  have key : ∀ j : Nat, n + j ≤ k → zfor f (n + j) a = zfor f n a := by
    intro j
    induction j with
    | zero => intro _; rw [show n + ((0 : Nat) : Int) = n by omega]
    | succ j ih =>
      intro hj
      rw [show n + ((j + 1 : Nat) : Int) = (n + j) + 1 by omega, zfor_S _ (by omega), h _ _ (by omega) (by omega), ih (by omega)]
  have := key (k - n).toNat (by omega)
  rwa [show n + (((k - n).toNat : Nat) : Int) = k by omega] at this
theorem mvT_far {T : T3} (h : OKT T) {t d k : Int} (hk : T.2.2 (65 + d) < k ∨ 8 ≤ k) : mvT T t d k ≠ 0 := by
  intro z
  have hc := mvC_0 z
  have hm := hc.mvh T.2.1 h.2.2
  have := (hm.facts h.1 h.2.1).2.2
  obtain ⟨-, -, -, k0, k1⟩ := hc
  split at k1 <;> omega
theorem mvT_none {T : T3} (h : OKT T) {t d k : Int} (hp : T.1 t = -1) : mvT T t d k ≠ 0 := by
  intro z
  have hc := mvC_0 z
  exact (hc.mvh T.2.1 h.2.2).2.1 hp
theorem sr_d_none {T : T3} (h : OKT T) {t d : Int} (hp : T.1 t = -1) (s : Int × T3) : sr_d T t d s = s := zfor_keep (P := fun b => b = s) rfl (fun k b _ _ hb => by unfold sr_k; rw [if_neg (mvT_none h hp)]; exact hb)
theorem sr_t_none {T : T3} (h : OKT T) {t n : Int} (hp : T.1 t = -1) (s : Int × T3) : zfor (sr_d T t) n s = s := zfor_keep (P := fun b => b = s) rfl (fun k b _ _ hb => by rw [sr_d_none h hp]; exact hb)
theorem sr_d_eq {T : T3} (h : OKT T) {t d : Int} (d0 : 0 ≤ d) (d1 : d < T.2.2 0) (s : Int × T3) : zfor (sr_k T t d) (T.2.2 (65 + d) + 1) s = sr_d T t d s := by
  have hr := h.2.1.1 d d0 d1
  have hid : ∀ i b, (T.2.2 (65 + d) < i ∨ 8 ≤ i) → sr_k T t d i b = b := fun i b hi => by unfold sr_k; rw [if_neg (mvT_far h hi)]
  unfold sr_d
  rcases Int.lt_or_le (T.2.2 (65 + d)) 8 with w | w
  · exact (zfor_ext (by omega) (by omega) (fun i b g0 g1 => hid i b (by omega))).symm
  · rw [show T.2.2 (65 + d) = 8 by omega]
    exact zfor_ext (by omega) (by omega) (fun i b g0 g1 => hid i b (by omega))
theorem sr_x_0 (T : T3) {t : Int} (h : 0 ≤ t) (s : Int × T3) : zfor (sr_u T t) (t + 1) s = s := by
  rw [zfor_ext (n := 0) (by omega) (by omega) (fun i b g0 g1 => by unfold sr_u; rw [if_neg (by omega)])]
  rfl
theorem tries_mv {σ : zS} {m m0 : zOb} {T : T3} {s : Int × T3} {t d k : Int} (hT : OKT T) (hM : MS T m0 m) (hB : BSR T m s) : zC M_X8_tries 6 [zR 31, zI (mvC T.1 T.2.1 (m.2 1) (m.2 40) t d k)] (zo σ 31 (osA m 1 (if mvC T.1 T.2.1 (m.2 1) (m.2 40) t d k = 0 then a_mv T.1 T.2.1 (m.2 1) t d k else m.2 1))) (fun r τ' => r = none ∧ ∃ m', τ' = zo σ 31 m' ∧ MS T m0 m' ∧ BSR T m' (sr_k T t d k s)) := by
  have ec : mvC T.1 T.2.1 (m.2 1) (m.2 40) t d k = mvT T t d k := by
    rw [hM.1]
    exact mvC_congr hT.1 hT.2.1 hT.2.2 hM.2.2.1 t d k
  rw [ec]
  unfold sr_k
  by_cases y : mvT T t d k = 0
  · rw [if_pos y, if_pos y, y]
    have hc := mvC_0 y
    refine tries_0 (OKT_mv hT hc) (fun i hi => a_mv_o hT.1 hT.2.1 (hc.mvh _ hT.2.2) hi) ?_ ?_ hB
    · rw [osA_at, hM.1]; rfl
    · rw [osA_osA]
      rw [← hM.1, osA_same]
      exact hM
  · rw [if_neg y, if_neg y, osA_same]
    have hb : zin (mvT T t d k) := by
      unfold mvT mvC
      split
      · split
        · omega
        · split <;> omega
      · omega
    exact tries_n hb y ⟨rfl, m, rfl, hM, hB⟩
theorem tries_sw {σ : zS} {m m0 : zOb} {T : T3} {s : Int × T3} {t u : Int} (hT : OKT T) (hM : MS T m0 m) (hB : BSR T m s) (htu : t < u) : zC M_X8_tries 6 [zR 31, zI (swC T.1 T.2.1 (m.2 1) (m.2 40) t u)] (zo σ 31 (osA m 1 (if swC T.1 T.2.1 (m.2 1) (m.2 40) t u = 0 then a_sw T.1 T.2.1 (m.2 1) t u else m.2 1))) (fun r τ' => r = none ∧ ∃ m', τ' = zo σ 31 m' ∧ MS T m0 m' ∧ BSR T m' (sr_u T t u s)) := by
  have ec : swC T.1 T.2.1 (m.2 1) (m.2 40) t u = swT T t u := by
    rw [hM.1]
    exact swC_congr hT.1 hT.2.1 hM.2.2.1 t u
  rw [ec]
  unfold sr_u
  rw [if_pos htu]
  by_cases y : swT T t u = 0
  · rw [if_pos y, if_pos y, y]
    have hc := swC_0 y
    refine tries_0 (OKT_sw hT hc) (fun i hi => a_sw_o hT.1 hT.2.1 hc hi) ?_ ?_ hB
    · rw [osA_at, hM.1]; rfl
    · rw [osA_osA]
      rw [← hM.1, osA_same]
      exact hM
  · rw [if_neg y, if_neg y, osA_same]
    have hb : zin (swT T t u) := by
      unfold swT swC
      split
      · split <;> omega
      · omega
    exact tries_n hb y ⟨rfl, m, rfl, hM, hB⟩
