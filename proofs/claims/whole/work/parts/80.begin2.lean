/-! The first plan: the class, on. -/
theorem PLX_ap {pl : zOb} {T : T3} {t d : Int} (h : PLX pl T) (d0 : 0 ≤ d) (d5 : d < 6) (h8 : T.2.2 1 ≤ 8) (r0 : 0 ≤ T.2.2 (65 + d)) : PLX (osa (osa pl 0 t d) 1 t (T.2.2 (65 + d))) (t_ap T t d) := by
  have es : ∀ i, i < 65 → a_ap T.2.2 t d i = T.2.2 i := fun i hi => by unfold a_ap; rw [zup_n _ _ (by omega), zup_n _ _ (by omega)]
  refine ⟨?_, ?_, fun u u0 u1 => ?_, ?_⟩
  · show zup (pl.2 0) t d = zup T.1 t d
    rw [h.1]
  · show zup (pl.2 1) t (T.2.2 (65 + d)) = zup T.2.1 t (T.2.2 (65 + d))
    rw [h.2.1]
  · have u1 : u < a_ap T.2.2 t d 1 := u1
    rw [es 1 (by omega)] at u1
    show pl.2 2 u = a_ap T.2.2 t d (17 + 6 * u + 1)
    rw [es _ (by omega)]
    exact h.2.2.1 u u0 u1
  · show pl.1 3 = a_ap T.2.2 t d 4
    rw [es _ (by omega)]
    exact h.2.2.2
theorem zcp8 {σ : zS} {o p j j2 : Nat} {X : zOb} (h : p ≠ o) : zsA (zo σ o X) o j2 (zar (zo σ o X) p j) = zo σ o (osA X j2 ((σ p).2 j)) := by
  rw [zsA_zo]
  unfold zar
  rw [zo_n h]
theorem c_begin {σ : zS} {pl : zOb} {T : T3} {a0 : Int → Int} (hI : FPI a0 0 0 T) (h1 : T.1 = fun _ => -1) (h2 : T.2.1 = fun _ => -1) (h4 : T.2.2 4 = 0) (hE : DKE (σ 4) T.2.2) (hEa : DKE (σ 4) a0) (harr : ∀ t, 0 ≤ t → t < T.2.2 1 → (σ 4).2 8 t = T.2.2 (17 + 6 * t + 1)) : zC M_X3_begin 3 [zR 5, zR 4] (zo σ 5 pl) (fun r τ => r = none ∧ ∃ pl', τ = zo σ 5 pl' ∧ PLX pl' (fpl T)) := by
  have h6a : a0 0 ≤ 6 := by rw [← hEa.1, hE.1]; exact hI.1.1.2
  have h8a : a0 1 ≤ 8 := by rw [← hEa.2.1, hE.2.1]; exact hI.1.2.1.2
  refine zC_of (M := M_X3_begin) (ls := [some (zR 5), some (zR 4), none, none]) (n := 2) (by decide) (fun ad => Nat.le_of_ble_eq_true rfl) rfl (fun x h => ?_)
  generalize hK : (fun (r : Option Value) (τ : zS) => r = none ∧ ∃ pl', τ = zo σ 5 pl' ∧ PLX pl' (fpl T)) = K
  have L : ∀ (n : Nat) (mi : Int) (U : T3) (p : zOb) (l3 : Option Value), 0 ≤ mi → mi ≤ 100 → 100 - mi < n → U = zfor fp2 mi T → FPI a0 mi 0 U → PLX p U → zW x K 38 [some (zR 5), some (zR 4), some (zI mi), l3] [] (zo σ 5 p) := by
    intro n
    induction n with
    | zero => intro mi U p l3 h1 h2 h3; omega
    | succ n ih =>
      intro mi U p l3 h1 h2 h3 hU hF hp
      have L2 : ∀ (n2 : Nat) (t : Int) (V : T3) (p : zOb), mi < 100 → 0 ≤ t → t ≤ U.2.2 1 → U.2.2 1 - t < n2 → V = zfor (fp1 mi) t U → V.2.2 1 = U.2.2 1 → FPI a0 mi t V → PLX p V → zW x K 46 [some (zR 5), some (zR 4), some (zI mi), some (zI t)] [] (zo σ 5 p) := by
        intro n2
        induction n2 with
        | zero => intro t V p g0 g1 g2 g3; omega
        | succ n2 ih2 =>
          intro t V p g0 g1 g2 g3 hV hV1 hFV hp
          have hwa := hFV.1
          have h6 := hwa.1
          have h8 := hwa.2.1
          have hEV : DKE (σ 4) V.2.2 := DKE_x hFV.2.2.1.lo h6a h8a hEa
          have e1 := hEV.2.1
          have hs : fp1 mi t V = zfor (fp1 mi) (t + 1) U := by rw [zfor_S _ g1, hV]
          have hnx := fun z => FPI_1 hFV g1 z
          have hsp := fw_spec h6.1 (V.2.2 (17 + 6 * t + 0))
          have hple : PLE p V.2.2 := ⟨hp.2.2.1, by rw [hp.1, hp.2.1]; exact hFV.2.1.rows⟩
          have hlen : ∀ d, 0 ≤ d → d < V.2.2 0 → p_len p d = V.2.2 (65 + d) := fun d d0 d1 => p_len_eq hwa hFV.2.1.wfr hple d0 d1
          refine z_iload_n (pc := 46) h dX3_begin_46 rfl ?_
          refine z_aloadR_n (pc := 47) h dX3_begin_47 rfl ?_
          refine z_getIq (pc := 48) (c := 1) (j := 1) h (zo_n (show (4 : Nat) ≠ 5 by decide)) (by first | assumption | rfl) rfl rfl fl_X3_40 dX3_begin_48 (fun g48 => ?_)
          refine z_icmp_ge (pc := 51) (tgt := 86) h (by omega) (by omega) dX3_begin_51 (by decide) (fun c51 => ?_) (fun c51 => ?_)
          · refine z_inc_2 (pc := 86) h dX3_begin_86 (by decide) rfl ?_
            refine z_goto (pc := 89) (tgt := 38) h dX3_begin_89 (by decide) ?_
            refine ih (mi + 1) V p _ (by omega) (by omega) (by omega) ?_ ?_ hp
            · rw [zfor_S _ h1, ← hU, hV, show t = U.2.2 1 by omega]; rfl
            · have w := FPI_2 hF
              have : fp2 mi U = V := by rw [hV, show t = U.2.2 1 by omega]; rfl
              rw [this] at w; exact w
          · have t1 : t < V.2.2 1 := by omega
            have ea := hp.2.2.1 t g1 t1
            have hek := (hEV.2.2.2.2.2.1 t g1 t1).1
            have htk := hwa.2.2.2.2.2.2.1 t g1 t1
            have w := hnx t1
            refine z_aloadR_n (pc := 54) h dX3_begin_54 rfl ?_
            refine z_getA4 (pc := 55) (c := 3) (j := 2) h (by first | assumption | rfl) rfl rfl fl_X3_18 dX3_begin_55 ?_
            refine z_iload_n (pc := 58) h dX3_begin_58 rfl ?_
            refine z_ialdq (pc := 59) (c := 3) (j := 2) (L := 8) h (zo_s _ _ _) (by first | assumption | rfl) (by decide) rfl (by decide) (by omega) (by omega) dX3_begin_59 (fun g59 => ?_)
            refine z_iload_n (pc := 60) h dX3_begin_60 rfl ?_
            refine z_icmp_ne (pc := 61) (tgt := 80) h (by omega) (by omega) dX3_begin_61 (by decide) (fun c61 => ?_) (fun c61 => ?_)
            · have ef : fp1 mi t V = V := by unfold fp1; rw [if_neg (fun z => by omega)]
              rw [ef] at w hs
              refine z_inc_3 (pc := 80) h dX3_begin_80 (by decide) rfl ?_
              refine z_goto (pc := 83) (tgt := 46) h dX3_begin_83 (by decide) ?_
              first
              | exact pF
              | exact ih2 (t + 1) V p g0 (by omega) (by omega) (by omega) hs hV1 w.1 hp
            · refine z_aloadR_n (pc := 64) h dX3_begin_64 rfl ?_
              refine z_iload_n (pc := 65) h dX3_begin_65 rfl ?_
              refine z_aloadR_n (pc := 66) h dX3_begin_66 rfl ?_
              refine z_aloadR_n (pc := 67) h dX3_begin_67 rfl ?_
              refine z_aloadR_n (pc := 68) h dX3_begin_68 rfl ?_
              refine z_getA4 (pc := 69) (c := 1) (j := 7) h (by first | assumption | rfl) rfl rfl fl_X3_43 dX3_begin_69 ?_
              refine z_iload_n (pc := 72) h dX3_begin_72 rfl ?_
              refine z_ialdq (pc := 73) (c := 1) (j := 7) (L := 8) h (zo_n (show (4 : Nat) ≠ 5 by decide)) (by first | assumption | rfl) (by decide) rfl (by decide) (by omega) (by omega) dX3_begin_73 (fun g73 => ?_)
              rw [hek]
              refine z_pV (pc := 74) (c := 3) h (c_shortestRow hwa hEV hlen (by omega)) (by decide) (by first | assumption | rfl) rfl mv_X3_shortestRow ml_X3_46 rfl dX3_begin_74 rfl (Nat.le_of_ble_eq_true rfl) ?_
              have hfb : -1 ≤ fw V.2.2 (V.2.2 (17 + 6 * t + 0)) ∧ fw V.2.2 (V.2.2 (17 + 6 * t + 0)) ≤ 5 := by rcases hsp with z | z <;> omega
              refine z_vV (pc := 77) (c := 3) h (c_putLast (by omega) (by omega)) (by decide) (by first | assumption | rfl) rfl mv_X3_putLast ml_X3_50 rfl dX3_begin_77 rfl (Nat.le_of_ble_eq_true rfl) ?_
              have pF : zW x K 46 [some (zR 5), some (zR 4), some (zI mi), some (zI (t + 1))] [] (zo σ 5 (if fw V.2.2 (V.2.2 (17 + 6 * t + 0)) = -1 then p else osa (osa p 0 t (fw V.2.2 (V.2.2 (17 + 6 * t + 0)))) 1 t (p_len p (fw V.2.2 (V.2.2 (17 + 6 * t + 0)))))) := by
                refine ih2 (t + 1) (fp1 mi t V) _ g0 (by omega) (by omega) (by omega) hs (w.2.trans hV1) w.1 ?_
                by_cases y : fw V.2.2 (V.2.2 (17 + 6 * t + 0)) = -1
                · have ef : fp1 mi t V = V := by unfold fp1; rw [if_neg (fun z => z.2 y)]
                  rw [if_pos y, ef]
                  exact hp
                · have ef : fp1 mi t V = t_ap V t (fw V.2.2 (V.2.2 (17 + 6 * t + 0))) := by unfold fp1; rw [if_pos ⟨by omega, y⟩]
                  have hd : 0 ≤ fw V.2.2 (V.2.2 (17 + 6 * t + 0)) ∧ fw V.2.2 (V.2.2 (17 + 6 * t + 0)) < V.2.2 0 := by rcases hsp with z | z <;> omega
                  rw [if_neg y, ef, hlen _ hd.1 hd.2]
                  exact PLX_ap hp hd.1 (by omega) h8.2 (hFV.2.1.1 _ hd.1 hd.2).1
              refine z_inc_3 (pc := 80) h dX3_begin_80 (by decide) rfl ?_
              refine z_goto (pc := 83) (tgt := 46) h dX3_begin_83 (by decide) ?_
              first
              | exact pF
              | exact ih2 (t + 1) V p g0 (by omega) (by omega) (by omega) hs hV1 w.1 hp
      refine z_iload_n (pc := 38) h dX3_begin_38 rfl ?_
      refine z_bipush (pc := 39) h dX3_begin_39 (by decide) ?_
      refine z_icmp_gt (pc := 41) (tgt := 92) h (by omega) (by omega) dX3_begin_41 (by decide) (fun c41 => ?_) (fun c41 => ?_)
      · refine z_ret (pc := 92) h rfl dX3_begin_92 ?_
        rw [← hK]
        refine ⟨rfl, p, rfl, ?_⟩
        rw [fpl, ← show mi = 100 by omega, ← hU]
        exact hp
      · refine z_iconst (pc := 44) h dX3_begin_44 ?_
        refine z_ist_3 (pc := 45) h dX3_begin_45 (by decide) rfl ?_
        exact L2 (U.2.2 1 + 1).toNat 0 U p (by omega) (by omega) (by have := hF.1.2.1; omega) (by have := hF.1.2.1; omega) rfl rfl hF hp
  refine z_aloadR_n (pc := 0) h dX3_begin_0 rfl ?_
  refine z_iconst (pc := 1) h dX3_begin_1 ?_
  refine z_putIo (pc := 2) (c := 3) (j := 3) h (by first | assumption | rfl) rfl rfl fl_X3_27 rfl (tyX3_ok 3 (by decide)) dX3_begin_2 (by omega) ?_
  refine z_aloadR_n (pc := 5) h dX3_begin_5 rfl ?_
  refine z_getA4 (pc := 6) (c := 3) (j := 0) h (by first | assumption | rfl) rfl rfl fl_X3_9 dX3_begin_6 ?_
  refine z_iconst (pc := 9) h dX3_begin_9 ?_
  refine z_vS (pc := 10) h (c_fill (by first | assumption | rfl) (by decide) rfl (by decide) (by omega)) (by decide) ms_J7_fill_53178 ml_X3_21 rfl dX3_begin_10 rfl (Nat.le_of_ble_eq_true rfl) ?_
  refine z_aloadR_n (pc := 13) h dX3_begin_13 rfl ?_
  refine z_getA4 (pc := 14) (c := 3) (j := 1) h (by first | assumption | rfl) rfl rfl fl_X3_15 dX3_begin_14 ?_
  refine z_iconst (pc := 17) h dX3_begin_17 ?_
  refine z_vS (pc := 18) h (c_fill (by first | assumption | rfl) (by decide) rfl (by decide) (by omega)) (by decide) ms_J7_fill_53178 ml_X3_21 rfl dX3_begin_18 rfl (Nat.le_of_ble_eq_true rfl) ?_
  refine z_aloadR_n (pc := 21) h dX3_begin_21 rfl ?_
  refine z_getA4 (pc := 22) (c := 1) (j := 8) h (by first | assumption | rfl) rfl rfl fl_X3_31 dX3_begin_22 ?_
  refine z_iconst (pc := 25) h dX3_begin_25 ?_
  refine z_aloadR_n (pc := 26) h dX3_begin_26 rfl ?_
  refine z_getA4 (pc := 27) (c := 3) (j := 2) h (by first | assumption | rfl) rfl rfl fl_X3_18 dX3_begin_27 ?_
  refine z_iconst (pc := 30) h dX3_begin_30 ?_
  refine z_bipush (pc := 31) h dX3_begin_31 (by decide) ?_
  refine z_copy (pc := 33) (L := 8) (kd := 4) h (by decide) (by decide) (by decide) rfl rfl (by decide) rfl (by decide) ml_X3_34 dX3_begin_33 (Nat.le_of_ble_eq_true rfl) ?_
  rw [zcp8 (show (4 : Nat) ≠ 5 by decide)]
  refine z_iconst (pc := 36) h dX3_begin_36 ?_
  refine z_ist_2 (pc := 37) h dX3_begin_37 (by decide) rfl ?_
  have hL := fun p => L 101 0 T p none (by omega) (by omega) (by omega) (zfor_0 fp2 T).symm hI
  refine hL _ ?_
  refine ⟨?_, ?_, ?_, ?_⟩
  · exact h1.symm
  · exact h2.symm
  · exact fun t t0 t1 => harr t t0 t1
  · exact h4.symm
