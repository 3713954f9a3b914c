/-! The class: the search for a step. -/
theorem runh6 : RUNH 6 5 := by unfold RUNH; decide
theorem runh8 : RUNH 8 7 := by unfold RUNH; decide
theorem a_load_x {a b : Int → Int} (e : ∀ i, i < 65 → b i = a i) {t : Int} (ht : t < 8) : a_load b t = a_load a t := by
  unfold a_load
  rw [e _ (by omega), e _ (by omega), e _ (by omega), e _ (by omega)]
theorem a_fs_x {a b : Int → Int} (e : ∀ i, i < 65 → b i = a i) {t : Int} (ht : t ≤ 8) : a_fs b t = a_fs a t := zfor_congr (fun i c g0 g1 => by rw [e _ (by omega), a_load_x e (by omega)])
theorem a_pl_x {a b : Int → Int} (e : ∀ i, i < 65 → b i = a i) {t d : Int} (ht : t < 8) (hd : d ≤ 4) : a_pl b t d = a_pl a t d := zfor_congr (fun i c g0 g1 => by rw [e _ (by omega)])
/-- a dock is told by the table's beginning -/
theorem DKE_x {dk : zOb} {a b : Int → Int} (e : ∀ i, i < 65 → b i = a i) (h6 : a 0 ≤ 6) (h8 : a 1 ≤ 8) (h : DKE dk a) : DKE dk b := by
  obtain ⟨d0, d1, d2, d4, d5, d6, d7⟩ := h
  unfold DKE
  rw [e 0 (by omega), e 1 (by omega), e 3 (by omega), a_fs_x e h8]
  refine ⟨d0, d1, d2, d4, fun d g0 g1 => ?_, fun t g0 g1 => ?_, fun c g0 g1 => ?_⟩
  · rw [e _ (by omega), e _ (by omega)]
    exact d5 d g0 g1
  · rw [a_load_x e (by omega), a_fs_x e (by omega), e (17 + 6 * t + 0) (by omega), e (17 + 6 * t + 2) (by omega), e (17 + 6 * t + 3) (by omega), e (17 + 6 * t + 4) (by omega), e (17 + 6 * t + 5) (by omega)]
    exact d6 t g0 g1
  · obtain ⟨x1, x2, x3, x4, x5⟩ := d7 c g0 g1
    rw [a_fs_x e (by omega), a_pl_x e (by omega) (by omega), e _ (by omega), e (17 + 6 * dk.2 14 c + (2 + dk.2 15 c)) (by omega)]
    exact ⟨x1, x2, x3, x4, x5⟩
theorem RWS.lo {a b : Int → Int} (h : RWS a b) : ∀ i, i < 65 → b i = a i := fun i hi => h i (Or.inl hi)
theorem PLX_cp {x y : zOb} {T : T3} (h : PLX y T) : PLX (p_cp x y) T := h
theorem PLX_mv {pl : zOb} {T : T3} {t d k : Int} (h : PLX pl T) (hT : OKT T) (hc : MC T.1 T.2.2 t d k) : PLX (x_mv pl t d k) (t_mv T t d k) := by
  have es := fun i hi => a_mv_s hT.1 hT.2.1 (hc.mvh T.2.1 hT.2.2) (i := i) hi
  have h8 := hT.1.2.1
  obtain ⟨h0, h1, h2, h3⟩ := h
  refine ⟨?_, ?_, fun t g0 g1 => ?_, ?_⟩
  · show zup (pl.2 0) t d = zup T.1 t d
    rw [h0]
  · show zup (p_r2 (zup (pl.2 0) t (-1)) (p_r1 (pl.2 0) (pl.2 1) t) d k) t k = zup (p_r2 (zup T.1 t (-1)) (p_r1 T.1 T.2.1 t) d k) t k
    rw [h0, h1]
  · have g1 : t < a_mv T.1 T.2.1 T.2.2 _ d k 1 := g1
    rw [es 1 (by omega)] at g1
    show pl.2 2 t = a_mv T.1 T.2.1 T.2.2 _ d k (17 + 6 * t + 1)
    rw [es _ (by omega)]
    exact h2 t g0 g1
  · show pl.1 3 = a_mv T.1 T.2.1 T.2.2 t d k 4
    rw [es _ (by omega)]
    exact h3
theorem PLX_sw {pl : zOb} {T : T3} {t u : Int} (h : PLX pl T) (hT : OKT T) (hc : SWH T.1 T.2.2 t u) : PLX (x_ex pl t u) (t_sw T t u) := by
  have es := fun i hi => a_sw_s hT.1 hT.2.1 hc (i := i) hi
  have h8 := hT.1.2.1
  obtain ⟨h0, h1, h2, h3⟩ := h
  refine ⟨?_, ?_, fun t g0 g1 => ?_, ?_⟩
  · show x_sw (pl.2 0) t u = x_sw T.1 t u
    rw [h0]
  · show x_sw (pl.2 1) t u = x_sw T.2.1 t u
    rw [h1]
  · have g1 : t < a_sw T.1 T.2.1 T.2.2 _ u 1 := g1
    rw [es 1 (by omega)] at g1
    show pl.2 2 t = a_sw T.1 T.2.1 T.2.2 _ u (17 + 6 * t + 1)
    rw [es _ (by omega)]
    exact h2 t g0 g1
  · show pl.1 3 = a_sw T.1 T.2.1 T.2.2 t u 4
    rw [es _ (by omega)]
    exact h3
theorem POS.p8 {P0 P1 a : Int → Int} (h : POS P0 P1 a) {n : Int} (n0 : 0 ≤ n) (n1 : n < 8) : -1 ≤ P1 n ∧ P1 n ≤ 8 := by
  rcases h.2.2 n n0 n1 with z | ⟨z0, z1, z2, z3⟩
  · omega
  · have := h.1 _ z1.1 z1.2
    omega
theorem rc_b {T : T3} (hT : OKT T) : 0 ≤ rc T.2.2 ∧ rc T.2.2 ≤ 100000 := by
  obtain ⟨k1, k2, k3, k4⟩ := hT.run
  exact s_cost_b k1 k2 k4
theorem c_keepIfLess {σ : zS} {T U : T3} {low : Int} (hT : OKT T) (hU : OKT U) (hr : RWS T.2.2 U.2.2) (hC : CS T σ) (hp : PLX (σ 7) U) (hl : zin low) : zC M_X7_keepIfLess 5 [zR 0, zI low] σ (fun r τ => r = some (zI (if rc U.2.2 < low then rc U.2.2 else low)) ∧ (∀ o, o ≠ 8 → o ≠ 9 → τ o = σ o) ∧ (if rc U.2.2 < low then PLX (τ 9) U else τ 9 = σ 9)) := by
  have hcb := rc_b hU
  have e3 := hC.2.1
  have h40 := hT.1.2.2.1
  have hE := DKE_x hr.lo hT.1.1.2 hT.1.2.1.2 hC.1
  have hpl := c_play (σ := σ) (Y := σ 8) (m := ob U.2.2) (stg := (σ 4).1 3) runh8 hU.1 hU.2.1.wfr hE (hp.ple hU) (by rw [e3]; exact (hr 2 (by omega)).symm)
  refine zC_of (M := M_X7_keepIfLess) (ls := [some (zR 0), some (zI low), none]) (n := 1) (by decide) (fun ad => Nat.le_of_ble_eq_true rfl) rfl (fun x h => ?_)
  refine z_aloadR_n (pc := 0) h dX7_keepIfLess_0 rfl ?_
  refine z_getR (pc := 1) (c := 7) (j := 6) (o2 := 8) h rfl (by first | assumption | rfl) rfl rfl fl_X7_51 dX7_keepIfLess_1 ?_
  refine z_aloadR_n (pc := 4) h dX7_keepIfLess_4 rfl ?_
  refine z_getR (pc := 5) (c := 7) (j := 2) (o2 := 4) h rfl (by first | assumption | rfl) rfl rfl fl_X7_28 dX7_keepIfLess_5 ?_
  refine z_getIq (pc := 8) (c := 1) (j := 3) h rfl (by first | assumption | rfl) rfl rfl fl_X7_111 dX7_keepIfLess_8 (fun g8 => ?_)
  refine z_apart 8 ?_
  refine z_callV (pc := 11) (c := 5) h (hpl) (by decide) (by first | assumption | rfl) rfl mv_X5_play ml_X7_114 rfl dX7_keepIfLess_11 rfl (Nat.le_of_ble_eq_true rfl) (fun r11 τ11 q11 => ?_)
  obtain ⟨rfl, Y, rfl, hRES⟩ := q11
  have hc : s_cost (s_run (ob U.2.2)) = rc U.2.2 := rfl
  rw [hc]
  refine z_ist_2 (pc := 14) h dX7_keepIfLess_14 (by decide) rfl ?_
  refine z_iload_n (pc := 15) h dX7_keepIfLess_15 rfl ?_
  refine z_iload_n (pc := 16) h dX7_keepIfLess_16 rfl ?_
  refine z_icmp_lt (pc := 17) (tgt := 22) h (by omega) (by omega) dX7_keepIfLess_17 (by decide) (fun c17 => ?_) (fun c17 => ?_)
  · refine z_aloadR_n (pc := 22) h dX7_keepIfLess_22 rfl ?_
    refine z_getR (pc := 23) (c := 7) (j := 7) (o2 := 9) h rfl (by first | assumption | rfl) rfl rfl fl_X7_54 dX7_keepIfLess_23 ?_
    refine z_aloadR_n (pc := 26) h dX7_keepIfLess_26 rfl ?_
    refine z_getR (pc := 27) (c := 7) (j := 5) (o2 := 7) h rfl (by first | assumption | rfl) rfl rfl fl_X7_48 dX7_keepIfLess_27 ?_
    refine z_apart 9 ?_
    refine z_vV (pc := 30) (c := 3) h (c_copyFrom rfl rfl (by decide)) (by decide) (by first | assumption | rfl) rfl mv_X3_copyFrom ml_X7_320 rfl dX7_keepIfLess_30 rfl (Nat.le_of_ble_eq_true rfl) ?_
    refine z_iload_n (pc := 33) h dX7_keepIfLess_33 rfl ?_
    refine z_iret (pc := 34) h rfl dX7_keepIfLess_34 ?_
    rw [if_pos (by omega), if_pos (by omega)]
    refine ⟨rfl, fun o o8 o9 => ?_, ?_⟩
    · rw [zo_n o9, zo_n o8]
    · rw [zo_s, zo_n (show (7 : Nat) ≠ 8 by decide)]
      exact PLX_cp hp
  · refine z_iload_n (pc := 20) h dX7_keepIfLess_20 rfl ?_
    refine z_iret (pc := 21) h rfl dX7_keepIfLess_21 ?_
    rw [if_neg (by omega), if_neg (by omega)]
    exact ⟨rfl, fun o o8 o9 => zo_n o8, zo_n (by decide)⟩
/-- what a search leaves of the class's state -/
def CX (σ τ : zS) : Prop := ∀ o, o ≠ 7 → o ≠ 8 → o ≠ 9 → τ o = σ o
theorem CX.cs {σ τ : zS} {T : T3} (h : CX σ τ) (hC : CS T σ) : CS T τ := by
  unfold CS
  rw [h 4 (by decide) (by decide) (by decide), h 5 (by decide) (by decide) (by decide), h 6 (by decide) (by decide) (by decide)]
  exact hC
def BSC (T : T3) (τ : zS) (s : Int × T3) : Prop := s.1 < rc T.2.2 → PLX (τ 9) s.2
theorem tr1_1 (U : T3) (s : Int × T3) : (tr1 U s).1 = if rc U.2.2 < s.1 then rc U.2.2 else s.1 := by
  unfold tr1
  split <;> rfl
/-- after one try -/
theorem BSC_tr1 {T U : T3} {τ τ' : zS} {s : Int × T3} (h : BSC T τ s) (hk : if rc U.2.2 < s.1 then PLX (τ' 9) U else τ' 9 = τ 9) : BSC T τ' (tr1 U s) := by
  unfold tr1
  by_cases y : rc U.2.2 < s.1
  · rw [if_pos y] at hk ⊢
    exact fun _ => hk
  · rw [if_neg y] at hk ⊢
    intro z
    rw [hk]
    exact h z
theorem GS.b {T : T3} {s : Int × T3} (hT : OKT T) (h : GS T s) : zin s.1 := by
  have := rc_b hT
  by_cases y : s.1 < rc T.2.2
  · obtain ⟨z1, z2, z3⟩ := h.2 y
    have := rc_b z1
    omega
  · have := h.1
    omega
theorem c_tryMoves {σ : zS} {T : T3} (hT : OKT T) (hC : CS T σ) : zC M_X7_tryMoves 6 [zR 0, zI (rc T.2.2)] σ (fun r τ => r = some (zI (sr_m T).1) ∧ CX σ τ ∧ BSC T τ (sr_m T)) := by
  have h8 := hT.1.2.1
  have h6 := hT.1.1
  have hcb := rc_b hT
  refine zC_of (M := M_X7_tryMoves) (ls := [some (zR 0), some (zI (rc T.2.2)), none, none, none, none]) (n := 4) (by decide) (fun ad => Nat.le_of_ble_eq_true rfl) rfl (fun x h => ?_)
  have L : ∀ (n : Nat) (t : Int) (τ : zS) (s : Int × T3) (l4 l5 : Option Value), 0 ≤ t → t ≤ T.2.2 1 → T.2.2 1 - t < n → CX σ τ → s = zfor (sr_t T) t (rc T.2.2, T) → GS T s → BSC T τ s → zW x (fun r τ => r = some (zI (sr_m T).1) ∧ CX σ τ ∧ BSC T τ (sr_m T)) 4 [some (zR 0), some (zI (rc T.2.2)), some (zI s.1), some (zI t), l4, l5] [] τ := by
    intro n
    induction n with
    | zero => intro t τ s l4 l5 h1 h2 h3; omega
    | succ n ih =>
      intro t τ s l4 l5 h1 h2 h3 hX hs hG hB
      have e1 := (hX.cs hC).1.2.1
      have L2 : ∀ (n2 : Nat) (d : Int) (τ : zS) (s2 : Int × T3) (l5 : Option Value), t < T.2.2 1 → 0 ≤ d → d ≤ T.2.2 0 → T.2.2 0 - d < n2 → CX σ τ → s2 = zfor (sr_d T t) d s → GS T s2 → BSC T τ s2 → zW x (fun r τ => r = some (zI (sr_m T).1) ∧ CX σ τ ∧ BSC T τ (sr_m T)) 18 [some (zR 0), some (zI (rc T.2.2)), some (zI s2.1), some (zI t), some (zI d), l5] [] τ := by
        intro n2
        induction n2 with
        | zero => intro d τ s2 l5 g0 g1 g2 g3; omega
        | succ n2 ih2 =>
          intro d τ s2 l5 g0 g1 g2 g3 hX hs2 hG hB
          have e0 := (hX.cs hC).1.1
          have L3 : ∀ (n3 : Nat) (k : Int) (τ : zS) (s3 : Int × T3), d < T.2.2 0 → 0 ≤ k → k ≤ 8 → 8 - k < n3 → CX σ τ → s3 = zfor (sr_k T t d) k s2 → GS T s3 → BSC T τ s3 → zW x (fun r τ => r = some (zI (sr_m T).1) ∧ CX σ τ ∧ BSC T τ (sr_m T)) 33 [some (zR 0), some (zI (rc T.2.2)), some (zI s3.1), some (zI t), some (zI d), some (zI k)] [] τ := by
            intro n3
            induction n3 with
            | zero => intro k τ s3 y0 y1 y2 y3; omega
            | succ n3 ih3 =>
              intro k τ s3 y0 y1 y2 y3 hX hs3 hG hB
              have hCt := hX.cs hC
              have hsb := hG.b hT
              have hmvb : zin (mvT T t d k) := by
                unfold mvT mvC
                split
                · split
                  · omega
                  · split <;> omega
                · omega
              have hstep : sr_k T t d k s3 = zfor (sr_k T t d) (k + 1) s2 := by rw [zfor_S _ y1, hs3]
              have hG' := GS_k hT hG t d k
              refine z_iload (pc := 33) h dX7_tryMoves_33 rfl ?_
              refine z_bipush (pc := 35) h dX7_tryMoves_35 (by decide) ?_
              refine z_icmp_ge (pc := 37) (tgt := 87) h (by omega) (by omega) dX7_tryMoves_37 (by decide) (fun c37 => ?_) (fun c37 => ?_)
              · refine z_inc_4 (pc := 87) h dX7_tryMoves_87 (by decide) rfl ?_
                refine z_goto (pc := 90) (tgt := 18) h dX7_tryMoves_90 (by decide) ?_
                refine ih2 (d + 1) τ s3 _ g0 (by omega) (by omega) (by omega) hX ?_ hG hB
                rw [zfor_S _ g1, ← hs2, hs3, show k = 8 by omega]
                rfl
              · refine z_aloadR_n (pc := 40) h dX7_tryMoves_40 rfl ?_
                refine z_iload_n (pc := 41) h dX7_tryMoves_41 rfl ?_
                refine z_iload (pc := 42) h dX7_tryMoves_42 rfl ?_
                refine z_iload (pc := 44) h dX7_tryMoves_44 rfl ?_
                refine z_pV (pc := 46) (c := 7) h (c_moveRefusal hT hCt (by omega) (by omega) (by omega)) (by decide) (by first | assumption | rfl) rfl mv_X7_moveRefusal ml_X7_121 rfl dX7_tryMoves_46 rfl (Nat.le_of_ble_eq_true rfl) ?_
                refine z_if_ne (pc := 49) (tgt := 81) h (by omega) dX7_tryMoves_49 (by decide) (fun c49 => ?_) (fun c49 => ?_)
                · have hskip : sr_k T t d k s3 = s3 := by unfold sr_k; rw [if_neg c49]
                  refine z_inc_5 (pc := 81) h dX7_tryMoves_81 (by decide) rfl ?_
                  refine z_goto (pc := 84) (tgt := 33) h dX7_tryMoves_84 (by decide) ?_
                  first
                  | exact ih3 (k + 1) τ77 _ y0 (by omega) (by omega) (by omega) hX3 hstep hG' hB3
                  | (rw [← hskip]; exact ih3 (k + 1) τ _ y0 (by omega) (by omega) (by omega) hX hstep hG' (by rw [hskip]; exact hB))
                · have hc := mvC_0 c49
                  have hskip : sr_k T t d k s3 = tr1 (t_mv T t d k) s3 := by unfold sr_k; rw [if_pos c49]
                  have hpc : PLX (p_cp (τ 7) (τ 5)) T := PLX_cp hCt.2.2.1
                  have hpm := PLX_mv hpc hT hc
                  refine z_aloadR_n (pc := 52) h dX7_tryMoves_52 rfl ?_
                  refine z_getR (pc := 53) (c := 7) (j := 5) (o2 := 7) h rfl (by first | assumption | rfl) rfl rfl fl_X7_48 dX7_tryMoves_53 ?_
                  refine z_aloadR_n (pc := 56) h dX7_tryMoves_56 rfl ?_
                  refine z_getR (pc := 57) (c := 7) (j := 3) (o2 := 5) h rfl (by first | assumption | rfl) rfl rfl fl_X7_35 dX7_tryMoves_57 ?_
                  refine z_apart 7 ?_
                  refine z_vV (pc := 60) (c := 3) h (c_copyFrom rfl rfl (by decide)) (by decide) (by first | assumption | rfl) rfl mv_X3_copyFrom ml_X7_320 rfl dX7_tryMoves_60 rfl (Nat.le_of_ble_eq_true rfl) ?_
                  refine z_aloadR_n (pc := 63) h dX7_tryMoves_63 rfl ?_
                  refine z_getR (pc := 64) (c := 7) (j := 5) (o2 := 7) h rfl (by first | assumption | rfl) rfl rfl fl_X7_48 dX7_tryMoves_64 ?_
                  refine z_iload_n (pc := 67) h dX7_tryMoves_67 rfl ?_
                  refine z_iload (pc := 68) h dX7_tryMoves_68 rfl ?_
                  refine z_iload (pc := 70) h dX7_tryMoves_70 rfl ?_
                  refine z_vV (pc := 72) (c := 3) h (c_relocate rfl (by omega) (by omega) (by omega) (fun n n0 n1 => by rw [hpc.2.1]; exact hT.2.1.p8 n0 n1)) (by decide) (by first | assumption | rfl) rfl mv_X3_relocate ml_X7_129 rfl dX7_tryMoves_72 rfl (Nat.le_of_ble_eq_true rfl) ?_
                  generalize hpq : x_mv (p_cp (τ 7) (τ 5)) t d k = pq at hpm ⊢
                  have hX2 : CX σ (zo τ 7 pq) := fun o o7 o8 o9 => by rw [zo_n o7]; exact hX o o7 o8 o9
                  refine z_aloadR_n (pc := 75) h dX7_tryMoves_75 rfl ?_
                  refine z_iload_n (pc := 76) h dX7_tryMoves_76 rfl ?_
                  refine z_callV (pc := 77) (c := 7) h (c_keepIfLess (T := T) (U := t_mv T t d k) hT (OKT_mv hT hc) (fun i hi => a_mv_o hT.1 hT.2.1 (hc.mvh _ hT.2.2) hi) (hX2.cs hC) (by rw [zo_s]; exact hpm) hsb) (by decide) (by first | assumption | rfl) rfl mv_X7_keepIfLess ml_X7_358 rfl dX7_tryMoves_77 rfl (Nat.le_of_ble_eq_true rfl) (fun r77 τ77 q77 => ?_)
                  obtain ⟨rfl, k2, k3⟩ := q77
                  rw [← tr1_1, ← hskip]
                  rw [zo_n (show (9 : Nat) ≠ 7 by decide)] at k3
                  have hX3 : CX σ τ77 := fun o o7 o8 o9 => by rw [k2 o o8 o9]; exact hX2 o o7 o8 o9
                  have hB3 : BSC T τ77 (sr_k T t d k s3) := by rw [hskip]; exact BSC_tr1 hB k3
                  refine z_ist_2 (pc := 80) h dX7_tryMoves_80 (by decide) rfl ?_
                  refine z_inc_5 (pc := 81) h dX7_tryMoves_81 (by decide) rfl ?_
                  refine z_goto (pc := 84) (tgt := 33) h dX7_tryMoves_84 (by decide) ?_
                  first
                  | exact ih3 (k + 1) τ77 _ y0 (by omega) (by omega) (by omega) hX3 hstep hG' hB3
                  | (rw [← hskip]; exact ih3 (k + 1) τ _ y0 (by omega) (by omega) (by omega) hX hstep hG' (by rw [hskip]; exact hB))
          refine z_iload (pc := 18) h dX7_tryMoves_18 rfl ?_
          refine z_aloadR_n (pc := 20) h dX7_tryMoves_20 rfl ?_
          refine z_getR (pc := 21) (c := 7) (j := 2) (o2 := 4) h rfl (by first | assumption | rfl) rfl rfl fl_X7_28 dX7_tryMoves_21 ?_
          refine z_getIq (pc := 24) (c := 1) (j := 0) h rfl (by first | assumption | rfl) rfl rfl fl_X7_168 dX7_tryMoves_24 (fun g24 => ?_)
          refine z_icmp_ge (pc := 27) (tgt := 93) h (by omega) (by omega) dX7_tryMoves_27 (by decide) (fun c27 => ?_) (fun c27 => ?_)
          · refine z_inc_3 (pc := 93) h dX7_tryMoves_93 (by decide) rfl ?_
            refine z_goto (pc := 96) (tgt := 4) h dX7_tryMoves_96 (by decide) ?_
            refine ih (t + 1) τ s2 _ _ (by omega) (by omega) (by omega) hX ?_ hG hB
            rw [zfor_S _ h1, ← hs, hs2, show d = T.2.2 0 by omega]
            rfl
          · refine z_iconst (pc := 30) h dX7_tryMoves_30 ?_
            refine z_ist_5 (pc := 31) h dX7_tryMoves_31 (by decide) rfl ?_
            exact L3 9 0 τ s2 (by omega) (by omega) (by omega) (by omega) hX rfl hG hB
      refine z_iload_n (pc := 4) h dX7_tryMoves_4 rfl ?_
      refine z_aloadR_n (pc := 5) h dX7_tryMoves_5 rfl ?_
      refine z_getR (pc := 6) (c := 7) (j := 2) (o2 := 4) h rfl (by first | assumption | rfl) rfl rfl fl_X7_28 dX7_tryMoves_6 ?_
      refine z_getIq (pc := 9) (c := 1) (j := 1) h rfl (by first | assumption | rfl) rfl rfl fl_X7_118 dX7_tryMoves_9 (fun g9 => ?_)
      refine z_icmp_ge (pc := 12) (tgt := 99) h (by omega) (by omega) dX7_tryMoves_12 (by decide) (fun c12 => ?_) (fun c12 => ?_)
      · refine z_iload_n (pc := 99) h dX7_tryMoves_99 rfl ?_
        refine z_iret (pc := 100) h rfl dX7_tryMoves_100 ?_
        have e : s = sr_m T := by rw [hs, show t = T.2.2 1 by omega]; rfl
        rw [← e]
        exact ⟨rfl, hX, hB⟩
      · refine z_iconst (pc := 15) h dX7_tryMoves_15 ?_
        refine z_ist_4 (pc := 16) h dX7_tryMoves_16 (by decide) rfl ?_
        exact L2 (T.2.2 0 + 1).toNat 0 τ s _ (by omega) (by omega) (by omega) (by omega) hX rfl hG hB
  refine z_iload_n (pc := 0) h dX7_tryMoves_0 rfl ?_
  refine z_ist_2 (pc := 1) h dX7_tryMoves_1 (by decide) rfl ?_
  refine z_iconst (pc := 2) h dX7_tryMoves_2 ?_
  refine z_ist_3 (pc := 3) h dX7_tryMoves_3 (by decide) rfl ?_
  exact L (T.2.2 1 + 1).toNat 0 σ (rc T.2.2, T) _ _ (by omega) (by omega) (by omega) (fun o _ _ _ => rfl) rfl ⟨Int.le_refl _, fun z => absurd z (Int.lt_irrefl _)⟩ (fun z => absurd z (Int.lt_irrefl _))
