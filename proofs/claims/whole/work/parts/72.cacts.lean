/-! The class: acts. -/
def ANE (a b : Int → Int) : Prop := ∀ i, 0 ≤ i → i < 65 → i ≠ 2 → i ≠ 4 → (∀ t : Int, 0 ≤ t → i ≠ 17 + 6 * t + 1) → b i = a i
theorem DKE_n {dk : zOb} {a b : Int → Int} (hwa : WFa a) (e : ANE a b) (h : DKE dk a) : DKE dk b := by
  have h6 := hwa.1
  have h8 := hwa.2.1
  have hl : ∀ t, 0 ≤ t → t < 8 → a_load b t = a_load a t := fun t t0 ht => by
    unfold a_load
    rw [e _ (by omega) (by omega) (by omega) (by omega) (fun _ _ => by omega), e _ (by omega) (by omega) (by omega) (by omega) (fun _ _ => by omega), e _ (by omega) (by omega) (by omega) (by omega) (fun _ _ => by omega), e _ (by omega) (by omega) (by omega) (by omega) (fun _ _ => by omega)]
  have hf : ∀ t, t ≤ 8 → a_fs b t = a_fs a t := fun t ht => zfor_congr (fun i c g0 g1 => by rw [e _ (by omega) (by omega) (by omega) (by omega) (fun _ _ => by omega), hl _ (by omega) (by omega)])
  have hp : ∀ t d, 0 ≤ t → t < 8 → d ≤ 4 → a_pl b t d = a_pl a t d := fun t d t0 ht hd => zfor_congr (fun i c g0 g1 => by rw [e _ (by omega) (by omega) (by omega) (by omega) (fun _ _ => by omega)])
  obtain ⟨d0, d1, d2, d4, d5, d6, d7⟩ := h
  unfold DKE
  rw [e 0 (by omega) (by omega) (by omega) (by omega) (fun _ _ => by omega), e 1 (by omega) (by omega) (by omega) (by omega) (fun _ _ => by omega), e 3 (by omega) (by omega) (by omega) (by omega) (fun _ _ => by omega), hf _ (by omega)]
  refine ⟨d0, d1, d2, d4, fun d g0 g1 => ?_, fun t g0 g1 => ?_, fun c g0 g1 => ?_⟩
  · rw [e _ (by omega) (by omega) (by omega) (by omega) (fun _ _ => by omega), e _ (by omega) (by omega) (by omega) (by omega) (fun _ _ => by omega)]
    exact d5 d g0 g1
  · rw [hl t g0 (by omega), hf t (by omega), e (17 + 6 * t + 0) (by omega) (by omega) (by omega) (by omega) (fun _ _ => by omega), e (17 + 6 * t + 2) (by omega) (by omega) (by omega) (by omega) (fun _ _ => by omega), e (17 + 6 * t + 3) (by omega) (by omega) (by omega) (by omega) (fun _ _ => by omega), e (17 + 6 * t + 4) (by omega) (by omega) (by omega) (by omega) (fun _ _ => by omega), e (17 + 6 * t + 5) (by omega) (by omega) (by omega) (by omega) (fun _ _ => by omega)]
    exact d6 t g0 g1
  · obtain ⟨x1, x2, x3, x4, x5⟩ := d7 c g0 g1
    rw [hf _ (by omega), hp _ _ (by omega) (by omega) (by omega), e _ (by omega) (by omega) (by omega) (by omega) (fun _ _ => by omega), e (17 + 6 * dk.2 14 c + (2 + dk.2 15 c)) (by omega) (by omega) (by omega) (by omega) (fun _ _ => by omega)]
    exact ⟨x1, x2, x3, x4, x5⟩
theorem ANE_lt (T : T3) {t : Int} (h0 : 0 ≤ t) (b : Int) : ANE T.2.2 (t_lt T t b).2.2 := fun i _ _ _ _ h => zup_n _ _ (h t h0)
theorem ANE_nw (T : T3) (v : Int) : ANE T.2.2 (t_nw T v).2.2 := fun i _ _ _ h _ => zup_n _ _ h
theorem ANE_st (T : T3) (v : Int) : ANE T.2.2 (t_st T v).2.2 := fun i _ _ h _ _ => zup_n _ _ h
/-- an act is kept -/
def AK (σ τ : zS) : Prop := ACI τ ∧ (τ 10).1 1 = (if (σ 10).1 1 < 8 then (σ 10).1 1 else 7) + 1 ∧ (∀ i, 0 ≤ i → i < (if (σ 10).1 1 < 8 then (σ 10).1 1 else 7) → pa τ i = pa σ (if (σ 10).1 1 < 8 then i else i + 1)) ∧ ∃ X, pa τ (if (σ 10).1 1 < 8 then (σ 10).1 1 else 7) = p_cp X (σ 5)
theorem pa_zo {τ : zS} {o : Nat} {X : zOb} {i : Int} (hA : ACI τ) (ho : o ≤ 9) (i0 : 0 ≤ i) (i1 : i < 8) : pa (zo τ o X) i = pa τ i := by
  have := hA.1.1 i i0 i1
  unfold pa
  rw [zo_n (show (10 : Nat) ≠ o by omega), zo_n (by omega)]
theorem AK_zo {σ τ : zS} {o : Nat} {X : zOb} (h : AK σ τ) (ho : o ≤ 9) (hm : 0 ≤ (σ 10).1 1 ∧ (σ 10).1 1 ≤ 8) : AK σ (zo τ o X) := by
  obtain ⟨h1, h2, h3, Z, h4⟩ := h
  have e10 : zo τ o X 10 = τ 10 := zo_n (by omega)
  have hN : 0 ≤ (if (σ 10).1 1 < 8 then (σ 10).1 1 else 7) ∧ (if (σ 10).1 1 < 8 then (σ 10).1 1 else 7) < 8 := by split <;> omega
  refine ⟨?_, ?_, fun i i0 i1 => ?_, Z, ?_⟩
  · unfold ACI; rw [e10]; exact h1
  · rw [e10]; exact h2
  · rw [pa_zo h1 ho i0 (by omega)]; exact h3 i i0 i1
  · rw [pa_zo h1 ho hN.1 hN.2]; exact h4
/-- what an act leaves alone -/
def FRc (σ τ : zS) : Prop := ∀ o, (o ≤ 4 ∨ 19 ≤ o) → τ o = σ o
theorem CS.plx {T : T3} {σ : zS} (h : CS T σ) : PLX (σ 5) T := h.2.2.1
theorem c_place {σ : zS} {T : T3} {t d k : Int} (hT : OKT T) (hC : CS T σ) (hA : ACI σ) (ht : zin t) (hd : zin d) (hk : zin k) : zC M_X7_place 6 [zR 0, zI t, zI d, zI k] σ (fun r τ => r = some (zI (if mvT T t d k = 0 then rc (t_mv T t d k).2.2 else mvT T t d k)) ∧ (if mvT T t d k = 0 then CS (t_mv T t d k) τ ∧ AK σ τ ∧ FRc σ τ else τ = σ)) := by
  have hmb := mvT_b T t d k
  have h40 := hT.1.2.2.1
  have h8 := hT.1.2.1
  refine zC_of (M := M_X7_place) (ls := [some (zR 0), some (zI t), some (zI d), some (zI k), none]) (n := 1) (by decide) (fun ad => Nat.le_of_ble_eq_true rfl) rfl (fun x h => ?_)
  refine z_aloadR_n (pc := 0) h dX7_place_0 rfl ?_
  refine z_iload_n (pc := 1) h dX7_place_1 rfl ?_
  refine z_iload_n (pc := 2) h dX7_place_2 rfl ?_
  refine z_iload_n (pc := 3) h dX7_place_3 rfl ?_
  refine z_pV (pc := 4) (c := 7) h (c_moveRefusal hT hC ht hd hk) (by decide) (by first | assumption | rfl) rfl mv_X7_moveRefusal ml_X7_121 rfl dX7_place_4 rfl (Nat.le_of_ble_eq_true rfl) ?_
  refine z_ist_4 (pc := 7) h dX7_place_7 (by decide) rfl ?_
  refine z_iload (pc := 9) h dX7_place_9 rfl ?_
  refine z_if_eq (pc := 11) (tgt := 17) h (by omega) dX7_place_11 (by decide) (fun c11 => ?_) (fun c11 => ?_)
  · rw [if_pos c11]
    simp only [if_pos c11]
    have hc := mvC_0 c11
    have hU := OKT_mv hT hc
    have hr : RWS T.2.2 (t_mv T t d k).2.2 := fun i hi => a_mv_o hT.1 hT.2.1 (hc.mvh _ hT.2.2) hi
    refine z_aloadR_n (pc := 17) h dX7_place_17 rfl ?_
    refine z_getR (pc := 18) (c := 7) (j := 8) (o2 := 10) h rfl (by first | assumption | rfl) rfl rfl fl_X7_60 dX7_place_18 ?_
    refine z_aloadR_n (pc := 21) h dX7_place_21 rfl ?_
    refine z_getR (pc := 22) (c := 7) (j := 3) (o2 := 5) h rfl (by first | assumption | rfl) rfl rfl fl_X7_35 dX7_place_22 ?_
    refine z_callV (pc := 25) (c := 0) h (c_keep hA) (by decide) (by first | assumption | rfl) rfl mv_X0_keep ml_X7_125 rfl dX7_place_25 rfl (Nat.le_of_ble_eq_true rfl) (fun r25 τ25 q25 => ?_)
    obtain ⟨rfl, a1, a2, a3, a4, a5⟩ := q25
    have hAK : AK σ τ25 := ⟨a1, a2, a4, a5⟩
    have e4 : τ25 4 = σ 4 := a3 4 (by omega)
    have hp5 : PLX (τ25 5) T := by rw [a3 5 (by omega)]; exact hC.plx
    have hpm := PLX_mv hp5 hT hc
    have hE : DKE (τ25 4) (t_mv T t d k).2.2 := by rw [e4]; exact DKE_x hr.lo hT.1.1.2 hT.1.2.1.2 hC.1
    have hstg : (τ25 4).1 3 = (t_mv T t d k).2.2 2 := by rw [e4, hC.2.1]; exact (hr 2 (by omega)).symm
    have hs40 : 0 ≤ (τ25 4).1 3 ∧ (τ25 4).1 3 ≤ 40 := by rw [e4, hC.2.1]; exact h40
    refine z_aloadR_n (pc := 28) h dX7_place_28 rfl ?_
    refine z_getR (pc := 29) (c := 7) (j := 3) (o2 := 5) h rfl (by first | assumption | rfl) rfl rfl fl_X7_35 dX7_place_29 ?_
    refine z_iload_n (pc := 32) h dX7_place_32 rfl ?_
    refine z_iload_n (pc := 33) h dX7_place_33 rfl ?_
    refine z_iload_n (pc := 34) h dX7_place_34 rfl ?_
    refine z_apart 5 ?_
    refine z_vV (pc := 35) (c := 3) h (c_relocate rfl (by have := hc.1; omega) hd hk (fun n n0 n1 => by rw [hp5.2.1]; exact hT.2.1.p8 n0 n1)) (by decide) (by first | assumption | rfl) rfl mv_X3_relocate ml_X7_129 rfl dX7_place_35 rfl (Nat.le_of_ble_eq_true rfl) ?_
    generalize x_mv (τ25 5) t d k = pq at hpm ⊢
    refine z_aloadR_n (pc := 38) h dX7_place_38 rfl ?_
    refine z_getR (pc := 39) (c := 7) (j := 4) (o2 := 6) h rfl (by first | assumption | rfl) rfl rfl fl_X7_44 dX7_place_39 ?_
    refine z_aloadR_n (pc := 42) h dX7_place_42 rfl ?_
    refine z_getR (pc := 43) (c := 7) (j := 2) (o2 := 4) h rfl (by first | assumption | rfl) rfl rfl fl_X7_28 dX7_place_43 ?_
    refine z_getIq (pc := 46) (c := 1) (j := 3) h (zo_n (show (4 : Nat) ≠ 5 by decide)) (by first | assumption | rfl) rfl rfl fl_X7_111 dX7_place_46 (fun g46 => ?_)
    refine z_apart 6 ?_
    refine z_callV (pc := 49) (c := 5) h (c_play (σ := zo τ25 5 pq) (m := ob (t_mv T t d k).2.2) runh6 hU.1 hU.2.1.wfr (by rw [zo_n (by decide)]; exact hE) (by rw [zo_s]; exact hpm.ple hU) hstg) (by decide) (by first | assumption | rfl) rfl mv_X5_play ml_X7_114 rfl dX7_place_49 rfl (Nat.le_of_ble_eq_true rfl) (fun r49 τ49 q49 => ?_)
    obtain ⟨rfl, Y, rfl, hRES⟩ := q49
    refine z_iret (pc := 52) h rfl dX7_place_52 ?_
    refine ⟨rfl, ⟨?_, ?_, ?_, ?_⟩, ?_, fun o ho => ?_⟩
    · rw [zo_n (by decide), zo_n (by decide)]; exact hE
    · rw [zo_n (by decide), zo_n (by decide)]; exact hstg
    · rw [zo_n (by decide), zo_s]; exact hpm
    · rw [zo_s]; exact hRES
    · exact AK_zo (AK_zo hAK (by decide) hA.2) (by decide) hA.2
    · rw [zo_n (by omega), zo_n (by omega)]; exact a3 o (by omega)
  · rw [if_neg c11]
    simp only [if_neg c11]
    refine z_iload (pc := 14) h dX7_place_14 rfl ?_
    refine z_iret (pc := 16) h rfl dX7_place_16 ?_
    exact ⟨rfl, rfl⟩
theorem c_swap {σ : zS} {T : T3} {t u : Int} (hT : OKT T) (hC : CS T σ) (hA : ACI σ) (ht : zin t) (hd : zin u) : zC M_X7_swap 6 [zR 0, zI t, zI u] σ (fun r τ => r = some (zI (if swT T t u = 0 then rc (t_sw T t u).2.2 else swT T t u)) ∧ (if swT T t u = 0 then CS (t_sw T t u) τ ∧ AK σ τ ∧ FRc σ τ else τ = σ)) := by
  have hmb := swT_b T t u
  have h40 := hT.1.2.2.1
  have h8 := hT.1.2.1
  refine zC_of (M := M_X7_swap) (ls := [some (zR 0), some (zI t), some (zI u), none]) (n := 1) (by decide) (fun ad => Nat.le_of_ble_eq_true rfl) rfl (fun x h => ?_)
  refine z_aloadR_n (pc := 0) h dX7_swap_0 rfl ?_
  refine z_iload_n (pc := 1) h dX7_swap_1 rfl ?_
  refine z_iload_n (pc := 2) h dX7_swap_2 rfl ?_
  refine z_pV (pc := 3) (c := 7) h (c_swapRefusal hT hC ht hd) (by decide) (by first | assumption | rfl) rfl mv_X7_swapRefusal ml_X7_133 rfl dX7_swap_3 rfl (Nat.le_of_ble_eq_true rfl) ?_
  refine z_ist_3 (pc := 6) h dX7_swap_6 (by decide) rfl ?_
  refine z_iload_n (pc := 7) h dX7_swap_7 rfl ?_
  refine z_if_eq (pc := 8) (tgt := 13) h (by omega) dX7_swap_8 (by decide) (fun c8 => ?_) (fun c8 => ?_)
  · rw [if_pos c8]
    simp only [if_pos c8]
    have hc := swC_0 c8
    have hU := OKT_sw hT hc
    have hr : RWS T.2.2 (t_sw T t u).2.2 := fun i hi => a_sw_o hT.1 hT.2.1 hc hi
    refine z_aloadR_n (pc := 13) h dX7_swap_13 rfl ?_
    refine z_getR (pc := 14) (c := 7) (j := 8) (o2 := 10) h rfl (by first | assumption | rfl) rfl rfl fl_X7_60 dX7_swap_14 ?_
    refine z_aloadR_n (pc := 17) h dX7_swap_17 rfl ?_
    refine z_getR (pc := 18) (c := 7) (j := 3) (o2 := 5) h rfl (by first | assumption | rfl) rfl rfl fl_X7_35 dX7_swap_18 ?_
    refine z_callV (pc := 21) (c := 0) h (c_keep hA) (by decide) (by first | assumption | rfl) rfl mv_X0_keep ml_X7_125 rfl dX7_swap_21 rfl (Nat.le_of_ble_eq_true rfl) (fun r21 τ21 q21 => ?_)
    obtain ⟨rfl, a1, a2, a3, a4, a5⟩ := q21
    have hAK : AK σ τ21 := ⟨a1, a2, a4, a5⟩
    have e4 : τ21 4 = σ 4 := a3 4 (by omega)
    have hp5 : PLX (τ21 5) T := by rw [a3 5 (by omega)]; exact hC.plx
    have hpm := PLX_sw hp5 hT hc
    have hE : DKE (τ21 4) (t_sw T t u).2.2 := by rw [e4]; exact DKE_x hr.lo hT.1.1.2 hT.1.2.1.2 hC.1
    have hstg : (τ21 4).1 3 = (t_sw T t u).2.2 2 := by rw [e4, hC.2.1]; exact (hr 2 (by omega)).symm
    have hs40 : 0 ≤ (τ21 4).1 3 ∧ (τ21 4).1 3 ≤ 40 := by rw [e4, hC.2.1]; exact h40
    refine z_aloadR_n (pc := 24) h dX7_swap_24 rfl ?_
    refine z_getR (pc := 25) (c := 7) (j := 3) (o2 := 5) h rfl (by first | assumption | rfl) rfl rfl fl_X7_35 dX7_swap_25 ?_
    refine z_iload_n (pc := 28) h dX7_swap_28 rfl ?_
    refine z_iload_n (pc := 29) h dX7_swap_29 rfl ?_
    refine z_apart 5 ?_
    refine z_vV (pc := 30) (c := 3) h (c_exchange rfl (by have := hc.1; omega) (by have := hc.2.1; omega)) (by decide) (by first | assumption | rfl) rfl mv_X3_exchange ml_X7_137 rfl dX7_swap_30 rfl (Nat.le_of_ble_eq_true rfl) ?_
    generalize x_ex (τ21 5) t u = pq at hpm ⊢
    refine z_aloadR_n (pc := 33) h dX7_swap_33 rfl ?_
    refine z_getR (pc := 34) (c := 7) (j := 4) (o2 := 6) h rfl (by first | assumption | rfl) rfl rfl fl_X7_44 dX7_swap_34 ?_
    refine z_aloadR_n (pc := 37) h dX7_swap_37 rfl ?_
    refine z_getR (pc := 38) (c := 7) (j := 2) (o2 := 4) h rfl (by first | assumption | rfl) rfl rfl fl_X7_28 dX7_swap_38 ?_
    refine z_getIq (pc := 41) (c := 1) (j := 3) h (zo_n (show (4 : Nat) ≠ 5 by decide)) (by first | assumption | rfl) rfl rfl fl_X7_111 dX7_swap_41 (fun g41 => ?_)
    refine z_apart 6 ?_
    refine z_callV (pc := 44) (c := 5) h (c_play (σ := zo τ21 5 pq) (m := ob (t_sw T t u).2.2) runh6 hU.1 hU.2.1.wfr (by rw [zo_n (by decide)]; exact hE) (by rw [zo_s]; exact hpm.ple hU) hstg) (by decide) (by first | assumption | rfl) rfl mv_X5_play ml_X7_114 rfl dX7_swap_44 rfl (Nat.le_of_ble_eq_true rfl) (fun r44 τ44 q44 => ?_)
    obtain ⟨rfl, Y, rfl, hRES⟩ := q44
    refine z_iret (pc := 47) h rfl dX7_swap_47 ?_
    refine ⟨rfl, ⟨?_, ?_, ?_, ?_⟩, ?_, fun o ho => ?_⟩
    · rw [zo_n (by decide), zo_n (by decide)]; exact hE
    · rw [zo_n (by decide), zo_n (by decide)]; exact hstg
    · rw [zo_n (by decide), zo_s]; exact hpm
    · rw [zo_s]; exact hRES
    · exact AK_zo (AK_zo hAK (by decide) hA.2) (by decide) hA.2
    · rw [zo_n (by omega), zo_n (by omega)]; exact a3 o (by omega)
  · rw [if_neg c8]
    simp only [if_neg c8]
    refine z_iload_n (pc := 11) h dX7_swap_11 rfl ?_
    refine z_iret (pc := 12) h rfl dX7_swap_12 ?_
    exact ⟨rfl, rfl⟩
theorem c_canBeDelayed {σ : zS} {T : T3} {t b : Int} (hT : OKT T) (hC : CS T σ) (ht : zin t) (hb : zin b) : zCp M_X7_canBeDelayed 2 [zR 0, zI t, zI b] σ (zB (@decide (LC T.2.2 t b) (dLC T.2.2 t b))) := by
  have h8 := hT.1.2.1
  have e1 := hC.1.2.1
  have hno : ¬ LC T.2.2 t b → zI 0 = zB (@decide (LC T.2.2 t b) (dLC T.2.2 t b)) := fun z => zB_f (@decide_eq_false _ (dLC T.2.2 t b) z)
  refine zC_of (M := M_X7_canBeDelayed) (ls := [some (zR 0), some (zI t), some (zI b)]) (n := 0) (by decide) (fun ad => Nat.le_of_ble_eq_true rfl) rfl (fun x h => ?_)
  refine z_aloadR_n (pc := 0) h dX7_canBeDelayed_0 rfl ?_
  refine z_getR (pc := 1) (c := 7) (j := 2) (o2 := 4) h rfl (by first | assumption | rfl) rfl rfl fl_X7_28 dX7_canBeDelayed_1 ?_
  refine z_iload_n (pc := 4) h dX7_canBeDelayed_4 rfl ?_
  refine z_pV (pc := 5) (c := 1) h (m_X1_hasTruck rfl ht) (by decide) (by first | assumption | rfl) rfl mv_X1_hasTruck ml_X7_240 rfl dX7_canBeDelayed_5 rfl (Nat.le_of_ble_eq_true rfl) ?_
  refine z_ifeqB (pc := 8) (tgt := 42) h dX7_canBeDelayed_8 (by decide) (fun c8 => ?_) (fun c8 => ?_)
  · have hn : ¬ LC T.2.2 t b := fun z => of_decide_eq_false c8 (by unfold zsc; rw [e1]; exact z.1)
    refine z_iconst (pc := 42) h dX7_canBeDelayed_42 ?_
    refine z_zret (pc := 43) h rfl (by omega) dX7_canBeDelayed_43 ?_
    first
    | exact ⟨congrArg some (zB_t (@decide_eq_true _ (dLC T.2.2 t b) hy)), rfl⟩
    | exact ⟨congrArg some (hno hn), rfl⟩
  · have z5 := of_decide_eq_true c8
    unfold zsc at z5
    rw [e1] at z5
    have hat := (hT.1.2.2.2.2.2.2.1 t z5.1 z5.2).2.1
    have ea := hC.2.2.1.2.2.1 t z5.1 z5.2
    refine z_iload_n (pc := 11) h dX7_canBeDelayed_11 rfl ?_
    refine z_iconst (pc := 12) h dX7_canBeDelayed_12 ?_
    refine z_icmp_lt (pc := 13) (tgt := 42) h (by omega) (by omega) dX7_canBeDelayed_13 (by decide) (fun c13 => ?_) (fun c13 => ?_)
    · have hn : ¬ LC T.2.2 t b := fun z => by have := z.2.1; omega
      refine z_iconst (pc := 42) h dX7_canBeDelayed_42 ?_
      refine z_zret (pc := 43) h rfl (by omega) dX7_canBeDelayed_43 ?_
      first
      | exact ⟨congrArg some (zB_t (@decide_eq_true _ (dLC T.2.2 t b) hy)), rfl⟩
      | exact ⟨congrArg some (hno hn), rfl⟩
    · refine z_iload_n (pc := 16) h dX7_canBeDelayed_16 rfl ?_
      refine z_bipush (pc := 17) h dX7_canBeDelayed_17 (by decide) ?_
      refine z_icmp_gt (pc := 19) (tgt := 42) h (by omega) (by omega) dX7_canBeDelayed_19 (by decide) (fun c19 => ?_) (fun c19 => ?_)
      · have hn : ¬ LC T.2.2 t b := fun z => by have := z.2.1; omega
        refine z_iconst (pc := 42) h dX7_canBeDelayed_42 ?_
        refine z_zret (pc := 43) h rfl (by omega) dX7_canBeDelayed_43 ?_
        first
        | exact ⟨congrArg some (zB_t (@decide_eq_true _ (dLC T.2.2 t b) hy)), rfl⟩
        | exact ⟨congrArg some (hno hn), rfl⟩
      · refine z_aloadR_n (pc := 22) h dX7_canBeDelayed_22 rfl ?_
        refine z_getR (pc := 23) (c := 7) (j := 3) (o2 := 5) h rfl (by first | assumption | rfl) rfl rfl fl_X7_35 dX7_canBeDelayed_23 ?_
        refine z_getA4 (pc := 26) (c := 3) (j := 2) h (by first | assumption | rfl) rfl rfl fl_X7_149 dX7_canBeDelayed_26 ?_
        refine z_iload_n (pc := 29) h dX7_canBeDelayed_29 rfl ?_
        refine z_ialdq (pc := 30) (c := 3) (j := 2) (L := 8) h rfl (by first | assumption | rfl) (by decide) rfl (by decide) (by omega) (by omega) dX7_canBeDelayed_30 (fun g30 => ?_)
        refine z_iload_n (pc := 31) h dX7_canBeDelayed_31 rfl ?_
        refine z_iadd (pc := 32) h dX7_canBeDelayed_32 ?_
        refine z_bipush (pc := 33) h dX7_canBeDelayed_33 (by decide) ?_
        refine z_icmp_gt (pc := 35) (tgt := 42) h (by omega) (by omega) dX7_canBeDelayed_35 (by decide) (fun c35 => ?_) (fun c35 => ?_)
        · have hn : ¬ LC T.2.2 t b := fun z => by have := z.2.2; omega
          refine z_iconst (pc := 42) h dX7_canBeDelayed_42 ?_
          refine z_zret (pc := 43) h rfl (by omega) dX7_canBeDelayed_43 ?_
          first
          | exact ⟨congrArg some (zB_t (@decide_eq_true _ (dLC T.2.2 t b) hy)), rfl⟩
          | exact ⟨congrArg some (hno hn), rfl⟩
        · have hy : LC T.2.2 t b := ⟨z5, by omega, by omega⟩
          refine z_iconst (pc := 38) h dX7_canBeDelayed_38 ?_
          refine z_goto (pc := 39) (tgt := 43) h dX7_canBeDelayed_39 (by decide) ?_
          refine z_zret (pc := 43) h rfl (by omega) dX7_canBeDelayed_43 ?_
          first
          | exact ⟨congrArg some (zB_t (@decide_eq_true _ (dLC T.2.2 t b) hy)), rfl⟩
          | exact ⟨congrArg some (hno hn), rfl⟩
