/-! The law's loop. -/
theorem yF_le {x : zX} {a b a' b' : Nat} (h : yF x a b) (h1 : a' ≤ a) (h2 : b' ≤ b) : yF x a' b' := by
  obtain ⟨p, l, e, R, s, m, args, below, meth, cd, D, ad, cs⟩ := x
  obtain ⟨q1, q2⟩ := h
  exact ⟨by omega, by omega⟩
theorem l_cases {x : zX} {nc ns : Nat} {Q : State → Prop} {σ : zS} {cL : ClassId} {v0 : Int64} {L : Nat} {xs : Nat → Int32} {i : Int} (h : yH x RL cL_law 7 12) (hT : lT x cL) (hF : yF x (nc + 1) (ns + 6)) (hS : lS x L xs) (hL : L ≤ 2048) (h0 : 0 ≤ i) (h1 : i + 4 ≤ L) (hR : REL σ) (kk : ∀ τ v, REL τ → yW x (lA x) (lEx x cL v) (nc + 1) (ns + 6) Q 1042 (lls i) [] τ) : yW x (lA x) (lEx x cL v0) nc ns Q 32 (lls i) [] σ := by
  refine y_aload_n (pc := 32) h dL_law_32 rfl ?_
  refine y_iload (pc := 33) h dL_law_33 rfl ?_
  refine l_sld (pc := 35) h hS (by omega) (by omega) hL dL_law_35 ?_
  refine y_bipush (pc := 36) h dL_law_36 (by decide) ?_
  refine y_iand (pc := 38) h dL_law_38 ?_
  generalize Int32.ofInt (xs i.toNat).toInt &&& Int32.ofInt 31 = w
  by_cases hc : 0 ≤ w.toInt ∧ w.toInt ≤ 24
  · have hq : w.toInt = 0 ∨ w.toInt = 1 ∨ w.toInt = 2 ∨ w.toInt = 3 ∨ w.toInt = 4 ∨ w.toInt = 5 ∨ w.toInt = 6 ∨ w.toInt = 7 ∨ w.toInt = 8 ∨ w.toInt = 9 ∨ w.toInt = 10 ∨ w.toInt = 11 ∨ w.toInt = 12 ∨ w.toInt = 13 ∨ w.toInt = 14 ∨ w.toInt = 15 ∨ w.toInt = 16 ∨ w.toInt = 17 ∨ w.toInt = 18 ∨ w.toInt = 19 ∨ w.toInt = 20 ∨ w.toInt = 21 ∨ w.toInt = 22 ∨ w.toInt = 23 ∨ w.toInt = 24 := by omega
    rcases hq with q | q | q | q | q | q | q | q | q | q | q | q | q | q | q | q | q | q | q | q | q | q | q | q | q
    · exact y_tswIn (pc := 39) (tgt := 152) (off := 113) h dL_law_39 (zin_v _) hc.1 hc.2 (by rw [q]; rfl) rfl (lc_type h hT hF hS hL h0 h1 hR kk)
    · exact y_tswIn (pc := 39) (tgt := 209) (off := 170) h dL_law_39 (zin_v _) hc.1 hc.2 (by rw [q]; rfl) rfl (lc_read h hT hF hS hL h0 h1 hR kk)
    · exact y_tswIn (pc := 39) (tgt := 222) (off := 183) h dL_law_39 (zin_v _) hc.1 hc.2 (by rw [q]; rfl) rfl (lc_fault h hT hF hS hL h0 h1 hR kk)
    · exact y_tswIn (pc := 39) (tgt := 263) (off := 224) h dL_law_39 (zin_v _) hc.1 hc.2 (by rw [q]; rfl) rfl (lc_place h hT hF hS hL h0 h1 hR kk)
    · exact y_tswIn (pc := 39) (tgt := 312) (off := 273) h dL_law_39 (zin_v _) hc.1 hc.2 (by rw [q]; rfl) rfl (lc_swap h hT hF hS hL h0 h1 hR kk)
    · exact y_tswIn (pc := 39) (tgt := 349) (off := 310) h dL_law_39 (zin_v _) hc.1 hc.2 (by rw [q]; rfl) rfl (lc_late h hT hF hS hL h0 h1 hR kk)
    · exact y_tswIn (pc := 39) (tgt := 386) (off := 347) h dL_law_39 (zin_v _) hc.1 hc.2 (by rw [q]; rfl) rfl (lc_now h hT hF hS hL h0 h1 hR kk)
    · exact y_tswIn (pc := 39) (tgt := 411) (off := 372) h dL_law_39 (zin_v _) hc.1 hc.2 (by rw [q]; rfl) rfl (lc_step h hT hF hS hL h0 h1 hR kk)
    · exact y_tswIn (pc := 39) (tgt := 424) (off := 385) h dL_law_39 (zin_v _) hc.1 hc.2 (by rw [q]; rfl) rfl (lc_repair h hT hF hS hL h0 h1 hR kk)
    · exact y_tswIn (pc := 39) (tgt := 437) (off := 398) h dL_law_39 (zin_v _) hc.1 hc.2 (by rw [q]; rfl) rfl (lc_undo h hT hF hS hL h0 h1 hR kk)
    · exact y_tswIn (pc := 39) (tgt := 450) (off := 411) h dL_law_39 (zin_v _) hc.1 hc.2 (by rw [q]; rfl) rfl (lc_count h hT hF hS hL h0 h1 hR kk)
    · exact y_tswIn (pc := 39) (tgt := 475) (off := 436) h dL_law_39 (zin_v _) hc.1 hc.2 (by rw [q]; rfl) rfl (lc_door h hT hF hS hL h0 h1 hR kk)
    · exact y_tswIn (pc := 39) (tgt := 543) (off := 504) h dL_law_39 (zin_v _) hc.1 hc.2 (by rw [q]; rfl) rfl (lc_row h hT hF hS hL h0 h1 hR kk)
    · exact y_tswIn (pc := 39) (tgt := 580) (off := 541) h dL_law_39 (zin_v _) hc.1 hc.2 (by rw [q]; rfl) rfl (lc_truck h hT hF hS hL h0 h1 hR kk)
    · exact y_tswIn (pc := 39) (tgt := 648) (off := 609) h dL_law_39 (zin_v _) hc.1 hc.2 (by rw [q]; rfl) rfl (lc_carton h hT hF hS hL h0 h1 hR kk)
    · exact y_tswIn (pc := 39) (tgt := 716) (off := 677) h dL_law_39 (zin_v _) hc.1 hc.2 (by rw [q]; rfl) rfl (lc_staged h hT hF hS hL h0 h1 hR kk)
    · exact y_tswIn (pc := 39) (tgt := 753) (off := 714) h dL_law_39 (zin_v _) hc.1 hc.2 (by rw [q]; rfl) rfl (lc_at h hT hF hS hL h0 h1 hR kk)
    · exact y_tswIn (pc := 39) (tgt := 790) (off := 751) h dL_law_39 (zin_v _) hc.1 hc.2 (by rw [q]; rfl) rfl (lc_travel h hT hF hS hL h0 h1 hR kk)
    · exact y_tswIn (pc := 39) (tgt := 827) (off := 788) h dL_law_39 (zin_v _) hc.1 hc.2 (by rw [q]; rfl) rfl (lc_would h hT hF hS hL h0 h1 hR kk)
    · exact y_tswIn (pc := 39) (tgt := 876) (off := 837) h dL_law_39 (zin_v _) hc.1 hc.2 (by rw [q]; rfl) rfl (lc_delayed h hT hF hS hL h0 h1 hR kk)
    · exact y_tswIn (pc := 39) (tgt := 913) (off := 874) h dL_law_39 (zin_v _) hc.1 hc.2 (by rw [q]; rfl) rfl (lc_roomy h hT hF hS hL h0 h1 hR kk)
    · exact y_tswIn (pc := 39) (tgt := 938) (off := 899) h dL_law_39 (zin_v _) hc.1 hc.2 (by rw [q]; rfl) rfl (lc_least h hT hF hS hL h0 h1 hR kk)
    · exact y_tswIn (pc := 39) (tgt := 951) (off := 912) h dL_law_39 (zin_v _) hc.1 hc.2 (by rw [q]; rfl) rfl (lc_moves h hT hF hS hL h0 h1 hR kk)
    · exact y_tswIn (pc := 39) (tgt := 992) (off := 953) h dL_law_39 (zin_v _) hc.1 hc.2 (by rw [q]; rfl) rfl (lc_image h hT hF hS hL h0 h1 hR kk)
    · exact y_tswIn (pc := 39) (tgt := 1017) (off := 978) h dL_law_39 (zin_v _) hc.1 hc.2 (by rw [q]; rfl) rfl (lc_again h hT hF hS hL h0 h1 hR kk)
  · exact y_tswOut (pc := 39) (tgt := 1042) h dL_law_39 (zin_v _) (by omega) rfl (l_widen (Nat.le_add_right _ _) (Nat.le_add_right _ _) (kk σ v0 hR))
theorem l_head {x : zX} {Ex : Heap → Prop} {nc ns : Nat} {Q : State → Prop} {σ : zS} {L : Nat} {xs : Nat → Int32} {i : Int} (h : yH x RL cL_law 7 12) (hS : lS x L xs) (hL : L ≤ 2048) (h0 : 0 ≤ i) (h1 : i ≤ 2048) (kt : (L : Int) - 4 < i → yW x (lA x) Ex nc ns Q 1048 (lls i) [] σ) (kf : i ≤ (L : Int) - 4 → yW x (lA x) Ex nc ns Q 32 (lls i) [] σ) : yW x (lA x) Ex nc ns Q 23 (lls i) [] σ := by
  refine y_iload (pc := 23) h dL_law_23 rfl ?_
  refine y_aload_n (pc := 25) h dL_law_25 rfl ?_
  refine l_slen (pc := 26) h hS dL_law_26 ?_
  refine y_iconst (pc := 27) h dL_law_27 ?_
  refine y_isub (pc := 28) h dL_law_28 ?_
  exact y_icmp_gt (pc := 29) (tgt := 1048) h ⟨by omega, by omega⟩ ⟨by omega, by omega⟩ dL_law_29 rfl kt kf
theorem l_loop {x : zX} {Q : State → Prop} {cL : ClassId} {L : Nat} {xs : Nat → Int32} (h : yH x RL cL_law 7 12) (hT : lT x cL) (hS : lS x L xs) (hL : L ≤ 2048) : ∀ (n nc ns : Nat) (i : Int) (σ : zS) (v0 : Int64), 0 ≤ i → i ≤ 2048 → (L : Int) < i + 4 * n + 4 → yF x (nc + n) (ns + 6 * n) → REL σ → (∀ nc' ns' i' σ' v', nc' ≤ nc + n → ns' ≤ ns + 6 * n → yW x (lA x) (lEx x cL v') nc' ns' Q 1048 (lls i') [] σ') → yW x (lA x) (lEx x cL v0) nc ns Q 23 (lls i) [] σ := by
  intro n
  induction n with
  | zero =>
    intro nc ns i σ v0 h0 h1 hn hF hR kend
    exact l_head h hS hL h0 h1 (fun _ => kend _ _ _ _ _ (Nat.le_refl _) (Nat.le_refl _)) (fun c => absurd c (by omega))
  | succ n ih =>
    intro nc ns i σ v0 h0 h1 hn hF hR kend
    refine l_head h hS hL h0 h1 (fun _ => kend _ _ _ _ _ (Nat.le_add_right _ _) (Nat.le_add_right _ _)) (fun c => ?_)
    refine l_cases h hT (yF_le hF (by omega) (by omega)) hS hL h0 (by omega) hR (fun τ v hτ => ?_)
    refine y_inc_4 (pc := 1042) h dL_law_1042 (by decide) rfl ?_
    refine y_goto (pc := 1045) (tgt := 23) h dL_law_1045 rfl ?_
    exact ih (nc + 1) (ns + 6) (i + 4) τ v (by omega) (by omega) (by omega) (yF_le hF (by omega) (by omega)) hτ (fun nc' ns' i' σ' v' g1 g2 => kend nc' ns' i' σ' v' (by omega) (by omega))
