/-! Tables with places; the search for a step. -/
abbrev T3 : Type := (Int → Int) × (Int → Int) × (Int → Int)
def OKT (T : T3) : Prop := WFa T.2.2 ∧ POS T.1 T.2.1 T.2.2 ∧ WFi T.1 T.2.2
def t_mv (T : T3) (t d k : Int) : T3 := (zup T.1 t d, zup (p_r2 (zup T.1 t (-1)) (p_r1 T.1 T.2.1 t) d k) t k, a_mv T.1 T.2.1 T.2.2 t d k)
def t_sw (T : T3) (t u : Int) : T3 := (x_sw T.1 t u, x_sw T.2.1 t u, a_sw T.1 T.2.1 T.2.2 t u)
def t_F (T : T3) (e : Int) : Int := a_F ((ra T.2.2).2 27) T.2.2 e
def mvT (T : T3) (t d k : Int) : Int := mvC T.1 T.2.1 T.2.2 (t_F T) t d k
def swT (T : T3) (t u : Int) : Int := swC T.1 T.2.1 T.2.2 (t_F T) t u
theorem mvC_0 {P0 P1 a F : Int → Int} {t d k : Int} (h : mvC P0 P1 a F t d k = 0) : MC P0 a t d k := by
  unfold mvC at h
  by_cases y : MC P0 a t d k
  · exact y
  · rw [if_neg y] at h
    omega
theorem swC_0 {P0 P1 a F : Int → Int} {t u : Int} (h : swC P0 P1 a F t u = 0) : SWH P0 a t u := by
  unfold swC at h
  by_cases y : SWH P0 a t u
  · exact y
  · rw [if_neg y] at h
    omega
theorem WFi_mv {P0 a b : Int → Int} {v t : Int} (h : WFi P0 a) (hv : v ≠ -1) (e : ∀ i, i < 65 → b i = a i) (h6 : a 0 ≤ 6) (h8 : a 1 ≤ 8) : WFi (zup P0 t v) b := by
  intro o d o0 o1 d0 d1 hk
  rw [e 1 (by omega)] at o1
  rw [e 0 (by omega)] at d1
  rw [e _ (by omega), e _ (by omega)] at hk
  unfold zup
  split
  · exact hv
  · exact h o d o0 o1 d0 d1 hk
theorem OKT_mv {T : T3} {t d k : Int} (h : OKT T) (hc : MC T.1 T.2.2 t d k) : OKT (t_mv T t d k) := by
  obtain ⟨hwa, hP, hi⟩ := h
  have hm := hc.mvh T.2.1 hi
  exact ⟨WFa_ext hwa (fun i hi => a_mv_s hwa hP hm hi), POS_mv hwa hP hm, WFi_mv hi (by have := hc.2.1; omega) (fun i hi => a_mv_s hwa hP hm hi) hwa.1.2 hwa.2.1.2⟩
theorem OKT_sw {T : T3} {t u : Int} (h : OKT T) (hc : SWH T.1 T.2.2 t u) : OKT (t_sw T t u) := by
  obtain ⟨hwa, hP, hi⟩ := h
  have es : ∀ i, i < 65 → a_sw T.1 T.2.1 T.2.2 t u i = T.2.2 i := fun i hi => a_sw_s hwa hP hc (by omega)
  refine ⟨WFa_ext hwa es, POS_sw hwa hP hc, ?_⟩
  refine WFi_mv (P0 := zup T.1 t (T.1 u)) ?_ hc.2.2.2.2.1 (fun i hi => rfl) (by show a_sw T.1 T.2.1 T.2.2 t u 0 ≤ 6; rw [es 0 (by omega)]; exact hwa.1.2) (by show a_sw T.1 T.2.1 T.2.2 t u 1 ≤ 8; rw [es 1 (by omega)]; exact hwa.2.1.2)
  exact WFi_mv hi hc.2.2.2.2.2 es hwa.1.2 hwa.2.1.2
def tr1 (U : T3) (s : Int × T3) : Int × T3 := if rc U.2.2 < s.1 then (rc U.2.2, U) else s
def sr_k (T : T3) (t d k : Int) (s : Int × T3) : Int × T3 := if mvT T t d k = 0 then tr1 (t_mv T t d k) s else s
def sr_d (T : T3) (t d : Int) (s : Int × T3) : Int × T3 := zfor (sr_k T t d) 8 s
def sr_t (T : T3) (t : Int) (s : Int × T3) : Int × T3 := zfor (sr_d T t) (T.2.2 0) s
def sr_m (T : T3) : Int × T3 := zfor (sr_t T) (T.2.2 1) (rc T.2.2, T)
def sr_u (T : T3) (t u : Int) (s : Int × T3) : Int × T3 := if t < u then (if swT T t u = 0 then tr1 (t_sw T t u) s else s) else s
def sr_x (T : T3) (t : Int) (s : Int × T3) : Int × T3 := zfor (sr_u T t) (T.2.2 1) s
def sr_s (T : T3) (s : Int × T3) : Int × T3 := zfor (sr_x T) (T.2.2 1) s
def srch (T : T3) : Int × T3 := sr_s T (sr_m T)
/-- a table that differs from another one in rows at most -/
def RWS (a b : Int → Int) : Prop := ∀ i, (i < 65 ∨ 119 ≤ i) → b i = a i
/-- what a search has found -/
def GS (T : T3) (s : Int × T3) : Prop := s.1 ≤ rc T.2.2 ∧ (s.1 < rc T.2.2 → OKT s.2 ∧ RWS T.2.2 s.2.2.2 ∧ s.1 = rc s.2.2.2)
theorem GS_tr1 {T U : T3} {s : Int × T3} (h : GS T s) (hU : OKT U) (hr : RWS T.2.2 U.2.2) : GS T (tr1 U s) := by
  unfold tr1
  split
  · exact ⟨by have := h.1; omega, fun _ => ⟨hU, hr, rfl⟩⟩
  · exact h
theorem zfor_keep {α : Type} {f : Int → α → α} {P : α → Prop} {n : Int} {a : α} (h0 : P a) (h : ∀ i b, 0 ≤ i → i < n → P b → P (f i b)) : P (zfor f n a) := by
  rcases Int.lt_or_le n 0 with hn | hn
  · rw [zfor_n _ (by omega)]; exact h0
  · exact zfor_ind (fun _ b => P b) h0 h n hn (Int.le_refl n)
theorem GS_k {T : T3} (h : OKT T) {s : Int × T3} (g : GS T s) (t d k : Int) : GS T (sr_k T t d k s) := by
  unfold sr_k
  split
  · rename_i y
    have hc := mvC_0 y
    exact GS_tr1 g (OKT_mv h hc) (fun i hi => a_mv_o h.1 h.2.1 (hc.mvh _ h.2.2) hi)
  · exact g
theorem GS_d {T : T3} (h : OKT T) {s : Int × T3} (g : GS T s) (t d : Int) : GS T (sr_d T t d s) := zfor_keep g (fun k b _ _ hb => GS_k h hb t d k)
theorem GS_t {T : T3} (h : OKT T) {s : Int × T3} (g : GS T s) (t : Int) : GS T (sr_t T t s) := zfor_keep g (fun d b _ _ hb => GS_d h hb t d)
theorem GS_m {T : T3} (h : OKT T) : GS T (sr_m T) := zfor_keep ⟨Int.le_refl _, fun z => absurd z (Int.lt_irrefl _)⟩ (fun t b _ _ hb => GS_t h hb t)
theorem GS_u {T : T3} (h : OKT T) {s : Int × T3} (g : GS T s) (t u : Int) : GS T (sr_u T t u s) := by
  unfold sr_u
  split
  · split
    · rename_i y
      have hc := swC_0 y
      exact GS_tr1 g (OKT_sw h hc) (fun i hi => a_sw_o h.1 h.2.1 hc hi)
    · exact g
  · exact g
theorem GS_x {T : T3} (h : OKT T) {s : Int × T3} (g : GS T s) (t : Int) : GS T (sr_x T t s) := zfor_keep g (fun u b _ _ hb => GS_u h hb t u)
theorem GS_s {T : T3} (h : OKT T) : GS T (srch T) := zfor_keep (GS_m h) (fun t b _ _ hb => GS_x h hb t)
/-- what a table's run is, whatever the object was -/
theorem ra_27 {m : zOb} (hwa : WFa (m.2 1)) (hwr : WFr (m.2 1)) {t : Int} (t0 : 0 ≤ t) (t1 : t < m.2 1 1) : (s_run m).2 27 t = (ra (m.2 1)).2 27 t := by
  have h := ra_eq hwa hwr
  have e : (ra (m.2 1)).2 1 = m.2 1 := (run_ok (m := ob (m.2 1)) hwa hwr).2.2.1
  exact (h.2.2.2.2.2.2.2.2.1 t t0 (by rw [e]; exact t1)).1
theorem rc_eq {m : zOb} (hwa : WFa (m.2 1)) (hwr : WFr (m.2 1)) : s_cost (s_run m) = rc (m.2 1) := (EQM_cost (ra_eq hwa hwr)).1
theorem a_F_eq {m : zOb} (hwa : WFa (m.2 1)) (hwr : WFr (m.2 1)) {e : Int} (e0 : 0 ≤ e) (e1 : e < m.2 1 0) : a_F ((s_run m).2 27) (m.2 1) e = a_F ((ra (m.2 1)).2 27) (m.2 1) e := by
  refine zcnt_congr (fun k g0 g1 => ?_)
  have := hwr.2.1 e k e0 e1 g0 g1
  unfold fxd
  rw [ra_27 hwa hwr this.1 this.2.1]
theorem mvC_congr {P0 P1 a F G : Int → Int} (hwa : WFa a) (hP : POS P0 P1 a) (hi : WFi P0 a) (h : ∀ e, 0 ≤ e → e < a 0 → F e = G e) (t d k : Int) : mvC P0 P1 a F t d k = mvC P0 P1 a G t d k := by
  unfold mvC
  by_cases y : MC P0 a t d k
  · rw [if_pos y, if_pos y]
    have hm := y.mvh P1 hi
    obtain ⟨p1, -⟩ := hP.at hwa y.1.1 y.1.2 hm.2.1
    rw [h _ p1.1 p1.2, h d y.2.1.1 y.2.1.2]
  · rw [if_neg y, if_neg y]
theorem swC_congr {P0 P1 a F G : Int → Int} (hwa : WFa a) (hP : POS P0 P1 a) (h : ∀ e, 0 ≤ e → e < a 0 → F e = G e) (t u : Int) : swC P0 P1 a F t u = swC P0 P1 a G t u := by
  unfold swC
  by_cases y : SWH P0 a t u
  · rw [if_pos y, if_pos y]
    obtain ⟨p1, -⟩ := hP.at hwa y.1.1 y.1.2 y.2.2.2.2.1
    obtain ⟨q1, -⟩ := hP.at hwa y.2.1.1 y.2.1.2 y.2.2.2.2.2
    rw [h _ p1.1 p1.2, h _ q1.1 q1.2]
  · rw [if_neg y, if_neg y]
/-! the model's object in a search -/
def KF (m m' : zOb) : Prop := m'.1 0 = m.1 0 ∧ m'.2 2 = m.2 2 ∧ m'.2 3 = m.2 3 ∧ m'.2 4 = m.2 4 ∧ m'.1 5 = m.1 5 ∧ m'.2 47 = m.2 47
theorem KF.rf (m : zOb) : KF m m := ⟨rfl, rfl, rfl, rfl, rfl, rfl⟩
theorem KF.tr {m m' m'' : zOb} (h : KF m m') (g : KF m' m'') : KF m m'' := ⟨g.1.trans h.1, g.2.1.trans h.2.1, g.2.2.1.trans h.2.2.1, g.2.2.2.1.trans h.2.2.2.1, g.2.2.2.2.1.trans h.2.2.2.2.1, g.2.2.2.2.2.trans h.2.2.2.2.2⟩
theorem KF_s (m : zOb) (v : Int) : KF m (oss m 42 v) := ⟨rfl, rfl, rfl, rfl, rfl, rfl⟩
theorem FR.kf {m m' : zOb} (h : FR m m') : KF m m' := ⟨(h 0 (by omega)).1, (h 2 (by omega)).2, (h 3 (by omega)).2, (h 4 (by omega)).2, (h 5 (by omega)).1, (h 47 (by omega)).2⟩
theorem m8_begins {σ : zS} {m : zOb} (hwa : WFa (m.2 1)) (hwr : WFr (m.2 1)) : zC M_X8_begins 6 [zR 31] (zo σ 31 m) (fun r τ' => r = none ∧ ∃ m', τ' = zo σ 31 m' ∧ m'.2 1 = m.2 1 ∧ m'.1 42 = rc (m.2 1) ∧ KPT (m.2 1) (m'.2 41) ∧ (∀ e, 0 ≤ e → e < m.2 1 0 → m'.2 40 e = a_F ((ra (m.2 1)).2 27) (m.2 1) e) ∧ (∀ t, 0 ≤ t → t < m.2 1 1 → m'.2 27 t = (ra (m.2 1)).2 27 t) ∧ KF m m') := by
  have h6 := hwa.1
  have h8 := hwa.2.1
  obtain ⟨k1, k2, k3, k4⟩ := run_ok hwa hwr
  have hrc := rc_eq hwa hwr
  have hfr := (FR_run m).kf
  have hcb := s_cost_b k1 k2 k4
  have h27 := fun t t0 t1 => ra_27 hwa hwr (t := t) t0 t1
  have haF := fun e e0 e1 => a_F_eq hwa hwr (e := e) e0 e1
  refine zC_of (M := M_X8_begins) (ls := [some (zR 31), none, none]) (n := 2) (by decide) (fun ad => Nat.le_of_ble_eq_true rfl) rfl (fun x h => ?_)
  generalize hK : (fun (r : Option Value) (τ' : zS) => r = none ∧ ∃ m', τ' = zo σ 31 m' ∧ m'.2 1 = m.2 1 ∧ m'.1 42 = rc (m.2 1) ∧ KPT (m.2 1) (m'.2 41) ∧ (∀ e, 0 ≤ e → e < m.2 1 0 → m'.2 40 e = a_F ((ra (m.2 1)).2 27) (m.2 1) e) ∧ (∀ t, 0 ≤ t → t < m.2 1 1 → m'.2 27 t = (ra (m.2 1)).2 27 t) ∧ KF m m') = K
  have B : ∀ (n : Nat) (d : Int) (mm : zOb) (lk : Option Value), 0 ≤ d → d ≤ m.2 1 0 → m.2 1 0 - d < n → mm.2 1 = m.2 1 → mm.1 42 = rc (m.2 1) → (∀ e, 0 ≤ e → e < d → mm.2 40 e = a_F ((s_run m).2 27) (m.2 1) e) → (∀ e, d ≤ e → e < 6 → mm.2 40 e = 0) → mm.2 27 = (s_run m).2 27 → KF m mm → zW x K 31 [some (zR 31), some (zI d), lk] [] (zo σ 31 mm) := by
    intro n
    induction n with
    | zero => intro d mm lk h1 h2 h3; omega
    | succ n ih =>
      intro d mm lk h1 h2 h3 e1 e42 eF e0 e27 eK
      have e10 : mm.2 1 0 = m.2 1 0 := by rw [e1]
      have B2 : ∀ (n2 : Nat) (k : Int) (mm : zOb), d < m.2 1 0 → 0 ≤ k → k ≤ m.2 1 (65 + d) → m.2 1 (65 + d) - k < n2 → mm.2 1 = m.2 1 → mm.1 42 = rc (m.2 1) → (∀ e, 0 ≤ e → e < d → mm.2 40 e = a_F ((s_run m).2 27) (m.2 1) e) → mm.2 40 d = zcnt (fun k => fxd ((s_run m).2 27) (m.2 1) (m.2 1 (71 + 8 * d + k))) k → (∀ e, d < e → e < 6 → mm.2 40 e = 0) → mm.2 27 = (s_run m).2 27 → KF m mm → zW x K 43 [some (zR 31), some (zI d), some (zI k)] [] (zo σ 31 mm) := by
        intro n2
        induction n2 with
        | zero => intro k mm g0 g1 g2 g3; omega
        | succ n2 ih2 =>
          intro k mm g0 g1 g2 g3 e1 e42 eF eD e0 e27 eK
          have e10 : mm.2 1 0 = m.2 1 0 := by rw [e1]
          have e65 : mm.2 1 (65 + d) = m.2 1 (65 + d) := by rw [e1]
          have e71 : mm.2 1 (71 + 8 * d + k) = m.2 1 (71 + 8 * d + k) := by rw [e1]
          have hr := hwr.1 d h1 g0
          have hro := hwr.2.1 d k h1 g0 g1
          have hcb := zcnt_b (fun k => fxd ((s_run m).2 27) (m.2 1) (m.2 1 (71 + 8 * d + k))) g1
          have hS := zcnt_S (fun k => fxd ((s_run m).2 27) (m.2 1) (m.2 1 (71 + 8 * d + k))) g1
          have nx : ∀ v, v = mm.2 40 d + (if fxd ((s_run m).2 27) (m.2 1) (m.2 1 (71 + 8 * d + k)) = true then 1 else 0) → k < m.2 1 (65 + d) → zW x K 43 [some (zR 31), some (zI d), some (zI (k + 1))] [] (zo σ 31 (osa mm 40 d v)) := by
            intro v hv hk
            refine ih2 (k + 1) (osa mm 40 d v) g0 (by omega) (by omega) (by omega) e1 e42 (fun e y0 y1 => ?_) ?_ (fun e y0 y1 => ?_) e27 eK
            · show zup (mm.2 40) d v e = _
              rw [zup_n _ _ (by omega)]; exact eF e y0 y1
            · show zup (mm.2 40) d v d = _
              rw [zup_s, hS, hv, eD]
              split <;> omega
            · show zup (mm.2 40) d v e = _
              rw [zup_n _ _ (by omega)]; exact e0 e y0 y1
          have hfx : fxd (mm.2 27) (mm.2 1) (mm.2 1 (71 + 8 * d + k)) = fxd ((s_run m).2 27) (m.2 1) (m.2 1 (71 + 8 * d + k)) := by rw [e27, e1]
          refine z_iload_n (pc := 43) h dX8_begins_43 rfl ?_
          refine z_aloadR_n (pc := 44) h dX8_begins_44 rfl ?_
          refine z_iload_n (pc := 45) h dX8_begins_45 rfl ?_
          refine z_pV (pc := 46) (c := 8) h (m8_rowMany (by omega)) (by decide) (by first | assumption | rfl) rfl mv_X8_rowMany ml_X8_191 rfl dX8_begins_46 rfl (Nat.le_of_ble_eq_true rfl) ?_
          refine z_icmp_ge (pc := 49) (tgt := 85) h (by omega) (by omega) dX8_begins_49 (by decide) (fun c49 => ?_) (fun c49 => ?_)
          · refine z_inc_1 (pc := 85) h dX8_begins_85 (by decide) rfl ?_
            refine z_goto (pc := 88) (tgt := 31) h dX8_begins_88 (by decide) ?_
            refine ih (d + 1) mm _ (by omega) (by omega) (by omega) e1 e42 (fun e y0 y1 => ?_) (fun e y0 y1 => e0 e (by omega) y1) e27 eK
            by_cases ee : e = d
            · rw [ee, eD]; unfold a_F; rw [show k = m.2 1 (65 + d) by omega]
            · exact eF e y0 (by omega)
          · have hro := hro (by omega)
            rw [← e71] at hro
            refine z_aloadR_n (pc := 52) h dX8_begins_52 rfl ?_
            refine z_getA4 (pc := 53) (c := 8) (j := 40) h (by first | assumption | rfl) rfl rfl fl_X8_72 dX8_begins_53 ?_
            refine z_iload_n (pc := 56) h dX8_begins_56 rfl ?_
            refine z_dup2AI (pc := 57) h dX8_begins_57 ?_
            refine z_ialdq (pc := 58) (c := 8) (j := 40) (L := 6) h (zo_s _ _ _) (by first | assumption | rfl) (by decide) rfl (by decide) (by omega) (by omega) dX8_begins_58 (fun g58 => ?_)
            refine z_aloadR_n (pc := 59) h dX8_begins_59 rfl ?_
            refine z_aloadR_n (pc := 60) h dX8_begins_60 rfl ?_
            refine z_iload_n (pc := 61) h dX8_begins_61 rfl ?_
            refine z_iload_n (pc := 62) h dX8_begins_62 rfl ?_
            refine z_pV (pc := 63) (c := 8) h (m8_rowAt (by omega) (by omega)) (by decide) (by first | assumption | rfl) rfl mv_X8_rowAt ml_X8_205 rfl dX8_begins_63 rfl (Nat.le_of_ble_eq_true rfl) ?_
            refine z_pV (pc := 66) (c := 8) h (m8_isFixed (by omega)) (by decide) (by first | assumption | rfl) rfl mv_X8_isFixed ml_X8_278 rfl dX8_begins_66 rfl (Nat.le_of_ble_eq_true rfl) ?_
            refine z_ifeqB (pc := 69) (tgt := 76) h dX8_begins_69 (by decide) (fun c69 => ?_) (fun c69 => ?_)
            · refine z_iconst (pc := 76) h dX8_begins_76 ?_
              refine z_iadd (pc := 77) h dX8_begins_77 ?_
              refine z_iasto (pc := 78) (c := 8) (j := 40) (L := 6) h (by first | assumption | rfl) (by decide) rfl (by decide) (by omega) (by omega) (by omega) dX8_begins_78 ?_
              refine z_inc_2 (pc := 79) h dX8_begins_79 (by decide) rfl ?_
              refine z_goto (pc := 82) (tgt := 43) h dX8_begins_82 (by decide) ?_
              refine nx _ ?_ (by omega)
              first
              | (rw [if_pos (show fxd ((s_run m).2 27) (m.2 1) (m.2 1 (71 + 8 * d + k)) = true from hfx.symm.trans c69)]; done)
              | (rw [if_neg (show ¬ fxd ((s_run m).2 27) (m.2 1) (m.2 1 (71 + 8 * d + k)) = true from fun z => by rw [hfx.symm.trans c69] at z; cases z)]; done)
            · refine z_iconst (pc := 72) h dX8_begins_72 ?_
              refine z_goto (pc := 73) (tgt := 77) h dX8_begins_73 (by decide) ?_
              refine z_iadd (pc := 77) h dX8_begins_77 ?_
              refine z_iasto (pc := 78) (c := 8) (j := 40) (L := 6) h (by first | assumption | rfl) (by decide) rfl (by decide) (by omega) (by omega) (by omega) dX8_begins_78 ?_
              refine z_inc_2 (pc := 79) h dX8_begins_79 (by decide) rfl ?_
              refine z_goto (pc := 82) (tgt := 43) h dX8_begins_82 (by decide) ?_
              refine nx _ ?_ (by omega)
              first
              | (rw [if_pos (show fxd ((s_run m).2 27) (m.2 1) (m.2 1 (71 + 8 * d + k)) = true from hfx.symm.trans c69)]; done)
              | (rw [if_neg (show ¬ fxd ((s_run m).2 27) (m.2 1) (m.2 1 (71 + 8 * d + k)) = true from fun z => by rw [hfx.symm.trans c69] at z; cases z)]; done)
      refine z_iload_n (pc := 31) h dX8_begins_31 rfl ?_
      refine z_aloadR_n (pc := 32) h dX8_begins_32 rfl ?_
      refine z_getA4 (pc := 33) (c := 8) (j := 1) h (by first | assumption | rfl) rfl rfl fl_X8_7 dX8_begins_33 ?_
      refine z_iconst (pc := 36) h dX8_begins_36 ?_
      refine z_ialdq (pc := 37) (c := 8) (j := 1) (L := 610) h (zo_s _ _ _) (by first | assumption | rfl) (by decide) rfl (by decide) (by omega) (by omega) dX8_begins_37 (fun g37 => ?_)
      refine z_icmp_ge (pc := 38) (tgt := 91) h (by omega) (by omega) dX8_begins_38 (by decide) (fun c38 => ?_) (fun c38 => ?_)
      · refine z_aloadR_n (pc := 91) h dX8_begins_91 rfl ?_
        refine z_vV (pc := 92) (c := 8) h (m8_keepsRows) (by decide) (by first | assumption | rfl) rfl mv_X8_keepsRows ml_X8_281 rfl dX8_begins_92 rfl (Nat.le_of_ble_eq_true rfl) ?_
        refine z_ret (pc := 95) h rfl dX8_begins_95 ?_
        rw [← hK]
        refine ⟨rfl, _, rfl, e1, e42, ?_, fun e y0 y1 => ?_, fun t y0 y1 => ?_, eK⟩
        · intro j y0 y1
          show cpf (mm.2 41) (fun j => mm.2 1 (65 + j)) 0 54 j = _
          unfold cpf
          rw [if_pos (by omega), e1]
        · exact (eF e y0 (by omega)).trans (haF e y0 y1)
        · exact (congrFun e27 t).trans (h27 t y0 y1)
      · refine z_iconst (pc := 41) h dX8_begins_41 ?_
        refine z_ist_2 (pc := 42) h dX8_begins_42 (by decide) rfl ?_
        have hr := hwr.1 d h1 (by omega)
        exact B2 (m.2 1 (65 + d) + 1).toNat 0 mm (by omega) (by omega) (by omega) (by omega) e1 e42 eF (by rw [e0 d (by omega) (by omega)]; rfl) (fun e y0 y1 => e0 e (by omega) y1) e27 eK
  have A : ∀ (n : Nat) (i : Int) (mm : zOb), 0 ≤ i → i ≤ 6 → 6 - i < n → mm.2 1 = m.2 1 → mm.1 42 = rc (m.2 1) → (∀ e, 0 ≤ e → e < i → mm.2 40 e = 0) → mm.2 27 = (s_run m).2 27 → KF m mm → ∀ lk : Option Value, zW x K 10 [some (zR 31), some (zI i), lk] [] (zo σ 31 mm) := by
    intro n
    induction n with
    | zero => intro i mm h1 h2 h3; omega
    | succ n ih =>
      intro i mm h1 h2 h3 e1 e42 e0 e27 eK lk
      refine z_iload_n (pc := 10) h dX8_begins_10 rfl ?_
      refine z_bipush (pc := 11) h dX8_begins_11 (by decide) ?_
      refine z_icmp_ge (pc := 13) (tgt := 29) h (by omega) (by omega) dX8_begins_13 (by decide) (fun c13 => ?_) (fun c13 => ?_)
      · refine z_iconst (pc := 29) h dX8_begins_29 ?_
        refine z_ist_1 (pc := 30) h dX8_begins_30 (by decide) rfl ?_
        exact B (m.2 1 0 + 1).toNat 0 mm _ (by omega) (by omega) (by omega) e1 e42 (fun e y0 y1 => by omega) (fun e y0 y1 => e0 e (by omega) (by omega)) e27 eK
      · refine z_aloadR_n (pc := 16) h dX8_begins_16 rfl ?_
        refine z_getA4 (pc := 17) (c := 8) (j := 40) h (by first | assumption | rfl) rfl rfl fl_X8_72 dX8_begins_17 ?_
        refine z_iload_n (pc := 20) h dX8_begins_20 rfl ?_
        refine z_iconst (pc := 21) h dX8_begins_21 ?_
        refine z_iasto (pc := 22) (c := 8) (j := 40) (L := 6) h (by first | assumption | rfl) (by decide) rfl (by decide) (by omega) (by omega) (by omega) dX8_begins_22 ?_
        refine z_inc_1 (pc := 23) h dX8_begins_23 (by decide) rfl ?_
        refine z_goto (pc := 26) (tgt := 10) h dX8_begins_26 (by decide) ?_
        refine ih (i + 1) (osa mm 40 i 0) (by omega) (by omega) (by omega) e1 e42 (fun e y0 y1 => ?_) e27 eK _
        show zup (mm.2 40) i 0 e = 0
        by_cases ee : e = i
        · rw [ee, zup_s]
        · rw [zup_n _ _ ee]; exact e0 e y0 (by omega)
  refine z_aloadR_n (pc := 0) h dX8_begins_0 rfl ?_
  refine z_aloadR_n (pc := 1) h dX8_begins_1 rfl ?_
  refine z_rV (pc := 2) (c := 8) h (m8_runs hwa hwr) (by decide) (by first | assumption | rfl) rfl mv_X8_runs ml_X8_272 rfl dX8_begins_2 rfl (Nat.le_of_ble_eq_true rfl) ?_
  refine z_putIo (pc := 5) (c := 8) (j := 42) h (by first | assumption | rfl) rfl rfl fl_X8_275 rfl (tyX8_ok 42 (by decide)) dX8_begins_5 (by omega) ?_
  generalize s_run m = mr at k3 A hfr hrc ⊢
  refine z_iconst (pc := 8) h dX8_begins_8 ?_
  refine z_ist_1 (pc := 9) h dX8_begins_9 (by decide) rfl ?_
  exact A 7 0 (oss mr 42 (s_cost mr)) (by omega) (by omega) (by omega) k3 hrc (fun e y0 y1 => by omega) rfl (hfr.tr (KF_s mr _)) _
