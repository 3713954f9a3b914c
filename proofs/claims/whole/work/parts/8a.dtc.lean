/-! door, truck, carton: the class and the model, where they answer. -/
theorem row_sum {T : T3} (hT : OKT T) (f : Int → Int) {d : Int} (d0 : 0 ≤ d) (d1 : d < T.2.2 0) : zsum (fun t => if T.1 t = d then f t else 0) (T.2.2 1) = zsum (fun k => f (T.2.2 (71 + 8 * d + k))) (T.2.2 (65 + d)) := by
  have h8 := hT.1.2.1
  have h65 := hT.2.1.wfr.1 d d0 d1
  have key : ∀ n : Nat, (n : Int) ≤ T.2.2 (65 + d) → zsum (fun t => if T.1 t = d ∧ T.2.1 t < n then f t else 0) (T.2.2 1) = zsum (fun k => f (T.2.2 (71 + 8 * d + k))) n := by
    intro n
    induction n with
    | zero =>
      intro _
      have : zsum (fun t => if T.1 t = d ∧ T.2.1 t < ((0 : Nat) : Int) then f t else 0) (T.2.2 1) = zsum (fun _ => 0) (T.2.2 1) := by
        refine zsum_congr (fun t t0 t1 => ?_)
        rw [if_neg]
        intro q
        have := hT.2.1.at hT.1 t0 t1 (by rw [q.1]; omega)
        omega
      rw [this]
      have z : zsum (fun _ => (0 : Int)) (T.2.2 1) = 0 := (zsum_z (f := fun _ => 0) h8.1 (fun _ _ _ => Int.le_refl 0)).mpr (fun _ _ _ => rfl)
      rw [z]
      rfl
    | succ n ih =>
      intro hn
      have hr := hT.2.1.wfr.2.1 d n d0 d1 (by omega) (by omega)
      have hpt : T.1 (T.2.2 (71 + 8 * d + n)) = d ∧ T.2.1 (T.2.2 (71 + 8 * d + n)) = n := by
        constructor
        · by_cases z : T.1 (T.2.2 (71 + 8 * d + n)) = d
          · exact z
          · exact absurd rfl (hT.2.1.ne (t := T.2.2 (71 + 8 * d + n)) d0 d1 (by omega) (by omega) (Or.inl (fun q => z q.symm)))
        · by_cases z : T.2.1 (T.2.2 (71 + 8 * d + n)) = n
          · exact z
          · exact absurd rfl (hT.2.1.ne (t := T.2.2 (71 + 8 * d + n)) d0 d1 (by omega) (by omega) (Or.inr (fun q => z q.symm)))
      rw [show ((n + 1 : Nat) : Int) = (n : Int) + 1 by omega, zsum_S _ (by omega), ← ih (by omega)]
      refine zsum_one (k := T.2.2 (71 + 8 * d + n)) hr.1 hr.2.1 ?_ (fun t t0 t1 tn => ?_)
      · rw [if_pos ⟨hpt.1, by omega⟩, if_neg (by omega)]
        omega
      · by_cases z : T.1 t = d
        · have hp := hT.2.1.at hT.1 t0 t1 (by rw [z]; omega)
          have hne : T.2.1 t ≠ n := by
            intro w
            have := hp.2.2.1
            rw [z, w] at this
            exact tn this.symm
          by_cases w : T.2.1 t < n
          · rw [if_pos ⟨z, by omega⟩, if_pos ⟨z, w⟩]
          · rw [if_neg (by omega), if_neg (by omega)]
        · rw [if_neg (fun q => z q.1), if_neg (fun q => z q.1)]
  have := key (T.2.2 (65 + d)).toNat (by omega)
  rw [show (((T.2.2 (65 + d)).toNat : Nat) : Int) = T.2.2 (65 + d) by omega] at this
  rw [← this]
  refine zsum_congr (fun t t0 t1 => ?_)
  by_cases z : T.1 t = d
  · have hp := hT.2.1.at hT.1 t0 t1 (by rw [z]; omega)
    rw [z] at hp
    rw [if_pos z, if_pos ⟨z, by omega⟩]
  · rw [if_neg z, if_neg (fun q => z q.1)]
def drQ (T : T3) (d w : Int) : Int := if w = 0 then T.2.2 (5 + 2 * d) else if w = 1 then T.2.2 (5 + 2 * d + 1) else if w = 2 then T.2.2 (65 + d) else if w = 3 then q_mt T.1 (ra T.2.2) d else q_ha T.1 (ra T.2.2) d
theorem c_door {σ : zS} {T : T3} {d w : Int} (hT : OKT T) (hC : CS T σ) (hd : 0 ≤ d ∧ d < T.2.2 0) (hw : 0 ≤ w ∧ w ≤ 4) : zCp M_X7_door 4 [zR 0, zI d, zI w] σ (zI (drQ T d w)) := by
  have h6 := hT.1.1
  have hF := fin6 hT hC
  have e0 : zsc σ 4 0 = T.2.2 0 := hC.1.1
  have hP := hC.2.2.1.ple hT
  have z1 := c_minutesTakenAt (σ := σ) (d := d) runh6 hF (by omega)
  have z2 := c_handledAt (σ := σ) (d := d) runh6 hF (by omega)
  rw [zo_self, hC.2.2.1.1] at z1 z2
  have w1 := hC.1.2.2.2.2.1 d hd.1 hd.2
  refine zC_of (M := M_X7_door) (ls := [some (zR 0), some (zI d), some (zI w)]) (n := 0) (by decide) (fun ad => Nat.le_of_ble_eq_true rfl) rfl (fun x h => ?_)
  refine z_aloadR_n (pc := 0) h dX7_door_0 rfl ?_
  refine z_getR (pc := 1) (c := 7) (j := 2) (o2 := 4) h rfl (by first | assumption | rfl) rfl rfl fl_X7_28 dX7_door_1 ?_
  refine z_iload_n (pc := 4) h dX7_door_4 rfl ?_
  refine z_pV (pc := 5) (c := 1) h (m_X1_hasDoor rfl (by omega)) (by decide) (by first | assumption | rfl) rfl mv_X1_hasDoor ml_X7_210 rfl dX7_door_5 rfl (Nat.le_of_ble_eq_true rfl) ?_
  refine z_ifneB (pc := 8) (tgt := 21) h dX7_door_8 (by decide) (fun c8 => ?_) (fun c8 => ?_)
  · refine z_iload_n (pc := 21) h dX7_door_21 rfl ?_
    have hsw : (w < 0 ∨ 4 < w) ∨ w = 0 ∨ w = 1 ∨ w = 2 ∨ w = 3 ∨ w = 4 := by omega
    rcases hsw with hsw | rfl | rfl | rfl | rfl | rfl
    · refine z_tswOut (pc := 22) (tgt := 103) h dX7_door_22 (by omega) hsw (by decide) ?_
      omega
    · refine z_tswIn (pc := 22) (tgt := 56) h dX7_door_22 (by omega) (by decide) (by decide) rfl (by decide) ?_
      refine z_aloadR_n (pc := 56) h dX7_door_56 rfl ?_
      refine z_getR (pc := 57) (c := 7) (j := 2) (o2 := 4) h rfl (by first | assumption | rfl) rfl rfl fl_X7_28 dX7_door_57 ?_
      refine z_getA4 (pc := 60) (c := 1) (j := 5) h (by first | assumption | rfl) rfl rfl fl_X7_220 dX7_door_60 ?_
      refine z_iload_n (pc := 63) h dX7_door_63 rfl ?_
      refine z_ialdq (pc := 64) (c := 1) (j := 5) (L := 6) h rfl (by first | assumption | rfl) (by decide) rfl (by decide) (by omega) (by omega) dX7_door_64 (fun g64 => ?_)
      refine z_iret (pc := 65) h rfl dX7_door_65 ?_
      exact ⟨congrArg (fun z => some (zI z)) w1.1, rfl⟩
    · refine z_tswIn (pc := 22) (tgt := 66) h dX7_door_22 (by omega) (by decide) (by decide) rfl (by decide) ?_
      refine z_aloadR_n (pc := 66) h dX7_door_66 rfl ?_
      refine z_getR (pc := 67) (c := 7) (j := 2) (o2 := 4) h rfl (by first | assumption | rfl) rfl rfl fl_X7_28 dX7_door_67 ?_
      refine z_getA4 (pc := 70) (c := 1) (j := 6) h (by first | assumption | rfl) rfl rfl fl_X7_223 dX7_door_70 ?_
      refine z_iload_n (pc := 73) h dX7_door_73 rfl ?_
      refine z_ialdq (pc := 74) (c := 1) (j := 6) (L := 6) h rfl (by first | assumption | rfl) (by decide) rfl (by decide) (by omega) (by omega) dX7_door_74 (fun g74 => ?_)
      refine z_iret (pc := 75) h rfl dX7_door_75 ?_
      exact ⟨congrArg (fun z => some (zI z)) w1.2, rfl⟩
    · refine z_tswIn (pc := 22) (tgt := 76) h dX7_door_22 (by omega) (by decide) (by decide) rfl (by decide) ?_
      refine z_aloadR_n (pc := 76) h dX7_door_76 rfl ?_
      refine z_getR (pc := 77) (c := 7) (j := 3) (o2 := 5) h rfl (by first | assumption | rfl) rfl rfl fl_X7_35 dX7_door_77 ?_
      refine z_iload_n (pc := 80) h dX7_door_80 rfl ?_
      refine z_pV (pc := 81) (c := 3) h (m_X3_rowLength rfl (by omega)) (by decide) (by first | assumption | rfl) rfl mv_X3_rowLength ml_X7_226 rfl dX7_door_81 rfl (Nat.le_of_ble_eq_true rfl) ?_
      refine z_iret (pc := 84) h rfl dX7_door_84 ?_
      exact ⟨congrArg (fun z => some (zI z)) (p_len_eq hT.1 hT.2.1.wfr hP hd.1 hd.2), rfl⟩
    · refine z_tswIn (pc := 22) (tgt := 85) h dX7_door_22 (by omega) (by decide) (by decide) rfl (by decide) ?_
      refine z_aloadR_n (pc := 85) h dX7_door_85 rfl ?_
      refine z_getR (pc := 86) (c := 7) (j := 4) (o2 := 6) h rfl (by first | assumption | rfl) rfl rfl fl_X7_44 dX7_door_86 ?_
      refine z_iload_n (pc := 89) h dX7_door_89 rfl ?_
      refine z_pV (pc := 90) (c := 5) h (z1) (by decide) (by first | assumption | rfl) rfl mv_X5_minutesTakenAt ml_X7_229 rfl dX7_door_90 rfl (Nat.le_of_ble_eq_true rfl) ?_
      refine z_iret (pc := 93) h rfl dX7_door_93 ?_
      exact ⟨rfl, rfl⟩
    · refine z_tswIn (pc := 22) (tgt := 94) h dX7_door_22 (by omega) (by decide) (by decide) rfl (by decide) ?_
      refine z_aloadR_n (pc := 94) h dX7_door_94 rfl ?_
      refine z_getR (pc := 95) (c := 7) (j := 4) (o2 := 6) h rfl (by first | assumption | rfl) rfl rfl fl_X7_44 dX7_door_95 ?_
      refine z_iload_n (pc := 98) h dX7_door_98 rfl ?_
      refine z_pV (pc := 99) (c := 5) h (z2) (by decide) (by first | assumption | rfl) rfl mv_X5_handledAt ml_X7_232 rfl dX7_door_99 rfl (Nat.le_of_ble_eq_true rfl) ?_
      refine z_iret (pc := 102) h rfl dX7_door_102 ?_
      exact ⟨rfl, rfl⟩
  · exact absurd (show 0 ≤ d ∧ d < zsc σ 4 0 by rw [e0]; exact hd) (of_decide_eq_false c8)
theorem zcnt_iv {lo hi n : Int} (h0 : 0 ≤ lo) (h1 : lo ≤ hi) (h2 : hi ≤ n) : zcnt (fun c => decide (lo ≤ c ∧ c < hi)) n = hi - lo := by
  have key : ∀ k, 0 ≤ k → k ≤ n → zcnt (fun c => decide (lo ≤ c ∧ c < hi)) k = (if k ≤ lo then 0 else if k ≤ hi then k - lo else hi - lo) := by
    intro k k0 k1
    refine zfor_ind (f := fun i a => if decide (lo ≤ i ∧ i < hi) = true then a + 1 else a) (a := (0 : Int)) (fun k b => b = (if k ≤ lo then 0 else if k ≤ hi then k - lo else hi - lo)) (n := n) (by rw [if_pos h0]) (fun i b g0 g1 g2 => ?_) k k0 k1
    show (if decide (lo ≤ i ∧ i < hi) = true then b + 1 else b) = _
    by_cases q : lo ≤ i ∧ i < hi
    · rw [if_pos (decide_eq_true q), if_neg (by omega), if_pos (by omega), g2]
      split <;> (try split) <;> omega
    · rw [if_neg (fun w => q (of_decide_eq_true w)), g2]
      split <;> split <;> (try split) <;> (try split) <;> omega
  rw [key n (by omega) (Int.le_refl n)]
  split <;> (try split) <;> omega
theorem fs_step {a : Int → Int} (h : WFa a) {t u : Int} (h0 : 0 ≤ t) (h1 : t < u) (h2 : u ≤ a 1) : 0 ≤ a_fs a t ∧ a_fs a t + (if a (17 + 6 * t + 0) = 1 then 0 else a_load a t) ≤ a_fs a u := by
  have nn : ∀ v, 0 ≤ v → v ≤ a 1 → 0 ≤ a_fs a v ∧ ∀ w, 0 ≤ w → w < v → a_fs a w + (if a (17 + 6 * w + 0) = 1 then 0 else a_load a w) ≤ a_fs a v := by
    intro v v0 v1
    have ld : ∀ i, 0 ≤ i → i < a 1 → 0 ≤ (if a (17 + 6 * i + 0) = 1 then 0 else a_load a i) := by
      intro i i0 i1
      split
      · exact Int.le_refl 0
      · rename_i hz
        have hk' : a (17 + 6 * i + 0) = 0 := by rcases (h.2.2.2.2.2.2.1 i i0 i1).1 with z | z; exact z; exact absurd z hz
        have := a_load_b h i0 i1 hk'
        omega
    refine zfor_ind (f := fun u s => if a (17 + 6 * u + 0) = 1 then s else s + a_load a u) (a := (0 : Int)) (fun k s => s = a_fs a k ∧ (0 ≤ s ∧ ∀ w, 0 ≤ w → w < k → a_fs a w + (if a (17 + 6 * w + 0) = 1 then 0 else a_load a w) ≤ s)) (n := a 1) ⟨rfl, Int.le_refl 0, fun w w0 w1 => by omega⟩ (fun i s g0 g1 g2 => ?_) v v0 v1 |>.2
    have e : (if a (17 + 6 * i + 0) = 1 then s else s + a_load a i) = s + (if a (17 + 6 * i + 0) = 1 then 0 else a_load a i) := by split <;> omega
    have hl := ld i g0 g1
    refine ⟨?_, ?_, fun w w0 w1 => ?_⟩
    · unfold a_fs
      rw [zfor_S _ g0]
      have := g2.1
      unfold a_fs at this
      rw [← this]
    · rw [e]; omega
    · rw [e]
      by_cases q : w = i
      · rw [q, ← g2.1]; exact Int.le_refl _
      · have := g2.2.2 w w0 (by omega); omega
  exact ⟨(nn t h0 (by omega)).1, (nn u (by omega) h2).2 t h0 h1⟩
def ldQ (a : Int → Int) (t z : Int) : Int := if a (17 + 6 * t + 0) = 1 then 0 else a (17 + 6 * t + (2 + z))
theorem ld_cnt {dk : zOb} {a : Int → Int} (hwa : WFa a) (hE : DKE dk a) {t z : Int} (t0 : 0 ≤ t) (t1 : t < a 1) (hz : 0 ≤ z ∧ z ≤ 3) : zcnt (fun c => decide (dk.2 14 c = t ∧ dk.2 15 c = z)) (a_fs a (a 1)) = ldQ a t z := by
  unfold ldQ
  have hk := hwa.2.2.2.2.2.2.1 t t0 t1
  by_cases ho : a (17 + 6 * t + 0) = 1
  · rw [if_pos ho]
    refine zcnt_none (fun c c0 c1 => decide_eq_false (fun q => ?_))
    have := (hE.2.2.2.2.2.2 c c0 c1).2.1
    rw [q.1] at this
    omega
  · have hi : a (17 + 6 * t + 0) = 0 := by have := hk.1; omega
    rw [if_neg ho]
    have hb := hk.2.2.2 hi
    have hst := fs_step hwa t0 t1 (Int.le_refl _)
    rw [if_neg ho] at hst
    have hpl : 0 ≤ a_pl a t z ∧ a_pl a t z + a (17 + 6 * t + (2 + z)) ≤ a_load a t ∧ 0 ≤ a (17 + 6 * t + (2 + z)) := by
      have e1 : a_pl a t 1 = 0 + a (17 + 6 * t + (2 + 0)) := zfor_S _ (Int.le_refl 0) 0
      have e2 : a_pl a t 2 = a_pl a t 1 + a (17 + 6 * t + (2 + 1)) := zfor_S _ (show (0 : Int) ≤ 1 by omega) 0
      have e3 : a_pl a t 3 = a_pl a t 2 + a (17 + 6 * t + (2 + 2)) := zfor_S _ (show (0 : Int) ≤ 2 by omega) 0
      have e0 : a_pl a t 0 = 0 := rfl
      rw [show (17 + 6 * t + (2 + 0) : Int) = 17 + 6 * t + 2 by omega] at e1
      rw [show (17 + 6 * t + (2 + 1) : Int) = 17 + 6 * t + 3 by omega] at e2
      rw [show (17 + 6 * t + (2 + 2) : Int) = 17 + 6 * t + 4 by omega] at e3
      have hz4 : z = 0 ∨ z = 1 ∨ z = 2 ∨ z = 3 := by omega
      unfold a_load
      rcases hz4 with rfl | rfl | rfl | rfl
      · rw [show (17 + 6 * t + (2 + 0) : Int) = 17 + 6 * t + 2 by omega]; omega
      · rw [show (17 + 6 * t + (2 + 1) : Int) = 17 + 6 * t + 3 by omega]; omega
      · rw [show (17 + 6 * t + (2 + 2) : Int) = 17 + 6 * t + 4 by omega]; omega
      · rw [show (17 + 6 * t + (2 + 3) : Int) = 17 + 6 * t + 5 by omega]; omega
    have := zcnt_iv (lo := a_fs a t + a_pl a t z) (hi := a_fs a t + a_pl a t z + a (17 + 6 * t + (2 + z))) (n := a_fs a (a 1)) (by omega) (by omega) (by omega)
    rw [show a (17 + 6 * t + (2 + z)) = a_fs a t + a_pl a t z + a (17 + 6 * t + (2 + z)) - (a_fs a t + a_pl a t z) by omega, ← this]
    refine zcnt_congr (fun c c0 c1 => decide_eq_decide.mpr ⟨fun q => ?_, fun q => ?_⟩)
    · have := hE.2.2.2.2.2.2 c c0 c1
      rw [q.1, q.2] at this
      exact this.2.2.2
    · have x := hE.2.2.2.2.2.2 c c0 c1
      have := c_uniq hwa x.1 x.2.1 x.2.2.1 x.2.2.2.1 x.2.2.2.2 ⟨t0, t1⟩ hi hz q.1 q.2
      exact this
theorem c_loadFor {σ : zS} {T : T3} {t z : Int} (hT : OKT T) (hC : CS T σ) (ht : 0 ≤ t ∧ t < T.2.2 1) (hz : 0 ≤ z ∧ z ≤ 3) : zCp M_X1_loadFor 1 [zR 4, zI t, zI z] σ (zI (ldQ T.2.2 t z)) := by
  have h8 := hT.1.2.1
  have h40 := hT.1.2.2.2.2.2.2.2
  have hfn : 0 ≤ a_fs T.2.2 (T.2.2 1) := by have := fs_step hT.1 ht.1 ht.2 (Int.le_refl _); have h2 := hT.1; split at this <;> (try omega); rename_i q; have := a_load_b h2 ht.1 ht.2 (by have := (h2.2.2.2.2.2.2.1 t ht.1 ht.2).1; omega); omega
  rw [← ld_cnt hT.1 hC.1 ht.1 ht.2 hz]
  have hcn : (σ 4).1 2 = a_fs T.2.2 (T.2.2 1) := hC.1.2.2.1
  refine zC_of (M := M_X1_loadFor) (ls := [some (zR 4), some (zI t), some (zI z), none, none]) (n := 2) (by decide) (fun ad => Nat.le_of_ble_eq_true rfl) rfl (fun x h => ?_)
  have L : ∀ (n : Nat) (i acc : Int), 0 ≤ i → i ≤ a_fs T.2.2 (T.2.2 1) → a_fs T.2.2 (T.2.2 1) - i < n → 0 ≤ acc → acc ≤ i → acc = zcnt (fun c => decide ((σ 4).2 14 c = t ∧ (σ 4).2 15 c = z)) i → zW x (fun rr τ' => rr = some (zI (zcnt (fun c => decide ((σ 4).2 14 c = t ∧ (σ 4).2 15 c = z)) (a_fs T.2.2 (T.2.2 1)))) ∧ τ' = σ) 5 [some (zR 4), some (zI t), some (zI z), some (zI acc), some (zI i)] [] σ := by
    intro n
    induction n with
    | zero => intro i acc h1 h2 h3; omega
    | succ n ih =>
      intro i acc h1 h2 h3 a0 a1 ha
      have hS1 := zcnt_S (fun c => decide ((σ 4).2 14 c = t ∧ (σ 4).2 15 c = z)) h1
      rw [← ha] at hS1
      refine z_iload (pc := 5) h dX1_loadFor_5 rfl ?_
      refine z_aloadR_n (pc := 7) h dX1_loadFor_7 rfl ?_
      refine z_getIq (pc := 8) (c := 1) (j := 2) h rfl (by first | assumption | rfl) rfl rfl fl_X1_58 dX1_loadFor_8 (fun g8 => ?_)
      refine z_icmp_ge (pc := 11) (tgt := 45) h (by omega) (by omega) dX1_loadFor_11 (by decide) (fun c11 => ?_) (fun c11 => ?_)
      · refine z_iload_n (pc := 45) h dX1_loadFor_45 rfl ?_
        refine z_iret (pc := 46) h rfl dX1_loadFor_46 ?_
        refine ⟨congrArg (fun z => some (zI z)) ?_, rfl⟩
        rw [ha, show i = a_fs T.2.2 (T.2.2 1) by omega]
      · refine z_aloadR_n (pc := 14) h dX1_loadFor_14 rfl ?_
        refine z_getA4 (pc := 15) (c := 1) (j := 14) h (by first | assumption | rfl) rfl rfl fl_X1_46 dX1_loadFor_15 ?_
        refine z_iload (pc := 18) h dX1_loadFor_18 rfl ?_
        refine z_ialdq (pc := 20) (c := 1) (j := 14) (L := 40) h rfl (by first | assumption | rfl) (by decide) rfl (by decide) (by omega) (by omega) dX1_loadFor_20 (fun g20 => ?_)
        refine z_iload_n (pc := 21) h dX1_loadFor_21 rfl ?_
        refine z_icmp_ne (pc := 22) (tgt := 39) h (by omega) (by omega) dX1_loadFor_22 (by decide) (fun c22 => ?_) (fun c22 => ?_)
        · refine z_inc_4 (pc := 39) h dX1_loadFor_39 (by decide) rfl ?_
          refine z_goto (pc := 42) (tgt := 5) h dX1_loadFor_42 (by decide) ?_
          first
          | (rw [if_pos (decide_eq_true (by omega))] at hS1; exact ih (i + 1) _ (by omega) (by omega) (by omega) (by omega) (by omega) hS1.symm)
          | (rw [if_neg (by intro w; have := of_decide_eq_true w; omega)] at hS1; exact ih (i + 1) _ (by omega) (by omega) (by omega) (by omega) (by omega) hS1.symm)
        · refine z_aloadR_n (pc := 25) h dX1_loadFor_25 rfl ?_
          refine z_getA4 (pc := 26) (c := 1) (j := 15) h (by first | assumption | rfl) rfl rfl fl_X1_49 dX1_loadFor_26 ?_
          refine z_iload (pc := 29) h dX1_loadFor_29 rfl ?_
          refine z_ialdq (pc := 31) (c := 1) (j := 15) (L := 40) h rfl (by first | assumption | rfl) (by decide) rfl (by decide) (by omega) (by omega) dX1_loadFor_31 (fun g31 => ?_)
          refine z_iload_n (pc := 32) h dX1_loadFor_32 rfl ?_
          refine z_icmp_ne (pc := 33) (tgt := 39) h (by omega) (by omega) dX1_loadFor_33 (by decide) (fun c33 => ?_) (fun c33 => ?_)
          · refine z_inc_4 (pc := 39) h dX1_loadFor_39 (by decide) rfl ?_
            refine z_goto (pc := 42) (tgt := 5) h dX1_loadFor_42 (by decide) ?_
            first
            | (rw [if_pos (decide_eq_true (by omega))] at hS1; exact ih (i + 1) _ (by omega) (by omega) (by omega) (by omega) (by omega) hS1.symm)
            | (rw [if_neg (by intro w; have := of_decide_eq_true w; omega)] at hS1; exact ih (i + 1) _ (by omega) (by omega) (by omega) (by omega) (by omega) hS1.symm)
          · refine z_inc_3 (pc := 36) h dX1_loadFor_36 (by decide) rfl ?_
            refine z_inc_4 (pc := 39) h dX1_loadFor_39 (by decide) rfl ?_
            refine z_goto (pc := 42) (tgt := 5) h dX1_loadFor_42 (by decide) ?_
            first
            | (rw [if_pos (decide_eq_true (by omega))] at hS1; exact ih (i + 1) _ (by omega) (by omega) (by omega) (by omega) (by omega) hS1.symm)
            | (rw [if_neg (by intro w; have := of_decide_eq_true w; omega)] at hS1; exact ih (i + 1) _ (by omega) (by omega) (by omega) (by omega) (by omega) hS1.symm)
  refine z_iconst (pc := 0) h dX1_loadFor_0 ?_
  refine z_ist_3 (pc := 1) h dX1_loadFor_1 (by decide) rfl ?_
  refine z_iconst (pc := 2) h dX1_loadFor_2 ?_
  refine z_ist_4 (pc := 3) h dX1_loadFor_3 (by decide) rfl ?_
  exact L (a_fs T.2.2 (T.2.2 1) + 1).toNat 0 0 (by omega) (by omega) (by omega) (by omega) (by omega) rfl
def tkQ (T : T3) (t w : Int) : Int := if w = 0 then T.2.2 (17 + 6 * t + 0) else if w = 1 then T.2.2 (17 + 6 * t + 1) else if 2 ≤ w ∧ w ≤ 5 then (if T.2.2 (17 + 6 * t + 0) = 1 then T.2.2 (17 + 6 * t + w) else if w = 4 then a_load T.2.2 t else -1) else if w = 6 then T.1 t else if w = 7 then T.2.1 t else if w = 8 then (ra T.2.2).2 27 t else if w = 9 then (ra T.2.2).2 28 t else if w = 10 then (ra T.2.2).2 29 t else if w = 11 then s_late (ra T.2.2) t else if w = 12 then (if fxd ((ra T.2.2).2 27) T.2.2 t = true then 1 else 0) else ldQ T.2.2 t (w - 20)
theorem tkQ_ld {T : T3} {t w : Int} (h : 20 ≤ w) : tkQ T t w = ldQ T.2.2 t (w - 20) := by
  unfold tkQ
  rw [if_neg (by omega), if_neg (by omega), if_neg (by omega), if_neg (by omega), if_neg (by omega), if_neg (by omega), if_neg (by omega), if_neg (by omega), if_neg (by omega), if_neg (by omega)]
theorem c_truck {σ : zS} {T : T3} {t w : Int} (hT : OKT T) (hC : CS T σ) (ht : 0 ≤ t ∧ t < T.2.2 1) (hw : 0 ≤ w ∧ w ≤ 12 ∨ 20 ≤ w ∧ w ≤ 23) : zCp M_X7_truck 4 [zR 0, zI t, zI w] σ (zI (tkQ T t w)) := by
  have h8 := hT.1.2.1
  have hF := fin6 hT hC
  have e0 : zsc σ 4 1 = T.2.2 1 := hC.1.2.1
  obtain ⟨k1, k2, k3, k4⟩ := hT.run
  have z1 := c_lateBy (σ := σ) (t := t) runh6 hF ht.1 (by rw [k3]; exact ht.2)
  rw [zo_self] at z1
  have w1 := hC.1.2.2.2.2.2.1 t ht.1 ht.2
  have w2 := hT.1.2.2.2.2.2.2.1 t ht.1 ht.2
  have w3 := hC.2.2.2.1 t ht.1 (by rw [k3]; exact ht.2)
  refine zC_of (M := M_X7_truck) (ls := [some (zR 0), some (zI t), some (zI w), none]) (n := 1) (by decide) (fun ad => Nat.le_of_ble_eq_true rfl) rfl (fun x h => ?_)
  refine z_aloadR_n (pc := 0) h dX7_truck_0 rfl ?_
  refine z_getR (pc := 1) (c := 7) (j := 2) (o2 := 4) h rfl (by first | assumption | rfl) rfl rfl fl_X7_28 dX7_truck_1 ?_
  refine z_iload_n (pc := 4) h dX7_truck_4 rfl ?_
  refine z_pV (pc := 5) (c := 1) h (m_X1_hasTruck rfl (by omega)) (by decide) (by first | assumption | rfl) rfl mv_X1_hasTruck ml_X7_240 rfl dX7_truck_5 rfl (Nat.le_of_ble_eq_true rfl) ?_
  refine z_ifneB (pc := 8) (tgt := 21) h dX7_truck_8 (by decide) (fun c8 => ?_) (fun c8 => ?_)
  · refine z_iload_n (pc := 21) h dX7_truck_21 rfl ?_
    have hsw : (w < 0 ∨ 12 < w) ∨ w = 0 ∨ w = 1 ∨ w = 2 ∨ w = 3 ∨ w = 4 ∨ w = 5 ∨ w = 6 ∨ w = 7 ∨ w = 8 ∨ w = 9 ∨ w = 10 ∨ w = 11 ∨ w = 12 := by omega
    rcases hsw with hsw | rfl | rfl | rfl | rfl | rfl | rfl | rfl | rfl | rfl | rfl | rfl | rfl | rfl
    · refine z_tswOut (pc := 22) (tgt := 221) h dX7_truck_22 (by omega) hsw (by decide) ?_
      refine z_iload_n (pc := 221) h dX7_truck_221 rfl ?_
      refine z_bipush (pc := 222) h dX7_truck_222 (by decide) ?_
      refine z_icmp_ge (pc := 224) (tgt := 231) h (by omega) (by omega) dX7_truck_224 (by decide) (fun c224 => ?_) (fun c224 => ?_)
      · refine z_iload_n (pc := 231) h dX7_truck_231 rfl ?_
        refine z_bipush (pc := 232) h dX7_truck_232 (by decide) ?_
        refine z_isub (pc := 234) h dX7_truck_234 ?_
        refine z_ist_3 (pc := 235) h dX7_truck_235 (by decide) rfl ?_
        refine z_iload_n (pc := 236) h dX7_truck_236 rfl ?_
        refine z_if_lt (pc := 237) (tgt := 245) h (by omega) dX7_truck_237 (by decide) (fun c237 => ?_) (fun c237 => ?_)
        · omega
        · refine z_iload_n (pc := 240) h dX7_truck_240 rfl ?_
          refine z_iconst (pc := 241) h dX7_truck_241 ?_
          refine z_icmp_lt (pc := 242) (tgt := 256) h (by omega) (by omega) dX7_truck_242 (by decide) (fun c242 => ?_) (fun c242 => ?_)
          · refine z_aloadR_n (pc := 256) h dX7_truck_256 rfl ?_
            refine z_getR (pc := 257) (c := 7) (j := 2) (o2 := 4) h rfl (by first | assumption | rfl) rfl rfl fl_X7_28 dX7_truck_257 ?_
            refine z_iload_n (pc := 260) h dX7_truck_260 rfl ?_
            refine z_iload_n (pc := 261) h dX7_truck_261 rfl ?_
            refine z_pV (pc := 262) (c := 1) h (c_loadFor hT hC ht (by omega)) (by decide) (by first | assumption | rfl) rfl mv_X1_loadFor ml_X7_280 rfl dX7_truck_262 rfl (Nat.le_of_ble_eq_true rfl) ?_
            refine z_iret (pc := 265) h rfl dX7_truck_265 ?_
            first
            | (exfalso; omega)
            | (rw [tkQ_ld (by omega)]; exact ⟨rfl, rfl⟩)
          · omega
      · refine z_iconst (pc := 227) h dX7_truck_227 ?_
        refine z_goto (pc := 228) (tgt := 235) h dX7_truck_228 (by decide) ?_
        refine z_ist_3 (pc := 235) h dX7_truck_235 (by decide) rfl ?_
        refine z_iload_n (pc := 236) h dX7_truck_236 rfl ?_
        refine z_if_lt (pc := 237) (tgt := 245) h (by omega) dX7_truck_237 (by decide) (fun c237 => ?_) (fun c237 => ?_)
        · omega
        · refine z_iload_n (pc := 240) h dX7_truck_240 rfl ?_
          refine z_iconst (pc := 241) h dX7_truck_241 ?_
          refine z_icmp_lt (pc := 242) (tgt := 256) h (by omega) (by omega) dX7_truck_242 (by decide) (fun c242 => ?_) (fun c242 => ?_)
          · refine z_aloadR_n (pc := 256) h dX7_truck_256 rfl ?_
            refine z_getR (pc := 257) (c := 7) (j := 2) (o2 := 4) h rfl (by first | assumption | rfl) rfl rfl fl_X7_28 dX7_truck_257 ?_
            refine z_iload_n (pc := 260) h dX7_truck_260 rfl ?_
            refine z_iload_n (pc := 261) h dX7_truck_261 rfl ?_
            refine z_pV (pc := 262) (c := 1) h (c_loadFor hT hC ht (by omega)) (by decide) (by first | assumption | rfl) rfl mv_X1_loadFor ml_X7_280 rfl dX7_truck_262 rfl (Nat.le_of_ble_eq_true rfl) ?_
            refine z_iret (pc := 265) h rfl dX7_truck_265 ?_
            first
            | (exfalso; omega)
            | (rw [tkQ_ld (by omega)]; exact ⟨rfl, rfl⟩)
          · omega
    · refine z_tswIn (pc := 22) (tgt := 88) h dX7_truck_22 (by omega) (by decide) (by decide) rfl (by decide) ?_
      refine z_aloadR_n (pc := 88) h dX7_truck_88 rfl ?_
      refine z_getR (pc := 89) (c := 7) (j := 2) (o2 := 4) h rfl (by first | assumption | rfl) rfl rfl fl_X7_28 dX7_truck_89 ?_
      refine z_getA4 (pc := 92) (c := 1) (j := 7) h (by first | assumption | rfl) rfl rfl fl_X7_245 dX7_truck_92 ?_
      refine z_iload_n (pc := 95) h dX7_truck_95 rfl ?_
      refine z_ialdq (pc := 96) (c := 1) (j := 7) (L := 8) h rfl (by first | assumption | rfl) (by decide) rfl (by decide) (by omega) (by omega) dX7_truck_96 (fun g96 => ?_)
      refine z_iret (pc := 97) h rfl dX7_truck_97 ?_
      exact ⟨congrArg (fun z => some (zI z)) w1.1, rfl⟩
    · refine z_tswIn (pc := 22) (tgt := 98) h dX7_truck_22 (by omega) (by decide) (by decide) rfl (by decide) ?_
      refine z_aloadR_n (pc := 98) h dX7_truck_98 rfl ?_
      refine z_getR (pc := 99) (c := 7) (j := 3) (o2 := 5) h rfl (by first | assumption | rfl) rfl rfl fl_X7_35 dX7_truck_99 ?_
      refine z_getA4 (pc := 102) (c := 3) (j := 2) h (by first | assumption | rfl) rfl rfl fl_X7_149 dX7_truck_102 ?_
      refine z_iload_n (pc := 105) h dX7_truck_105 rfl ?_
      refine z_ialdq (pc := 106) (c := 3) (j := 2) (L := 8) h rfl (by first | assumption | rfl) (by decide) rfl (by decide) (by omega) (by omega) dX7_truck_106 (fun g106 => ?_)
      refine z_iret (pc := 107) h rfl dX7_truck_107 ?_
      exact ⟨congrArg (fun z => some (zI z)) (hC.2.2.1.2.2.1 t ht.1 ht.2), rfl⟩
    · refine z_tswIn (pc := 22) (tgt := 108) h dX7_truck_22 (by omega) (by decide) (by decide) rfl (by decide) ?_
      refine z_aloadR_n (pc := 108) h dX7_truck_108 rfl ?_
      refine z_getR (pc := 109) (c := 7) (j := 2) (o2 := 4) h rfl (by first | assumption | rfl) rfl rfl fl_X7_28 dX7_truck_109 ?_
      refine z_getA4 (pc := 112) (c := 1) (j := 9) h (by first | assumption | rfl) rfl rfl fl_X7_248 dX7_truck_112 ?_
      refine z_iload_n (pc := 115) h dX7_truck_115 rfl ?_
      refine z_ialdq (pc := 116) (c := 1) (j := 9) (L := 8) h rfl (by first | assumption | rfl) (by decide) rfl (by decide) (by omega) (by omega) dX7_truck_116 (fun g116 => ?_)
      refine z_iret (pc := 117) h rfl dX7_truck_117 ?_
      refine ⟨congrArg (fun z => some (zI z)) (show (σ 4).2 9 t = if T.2.2 (17 + 6 * t + 0) = 1 then T.2.2 (17 + 6 * t + 2) else -1 from ?_), rfl⟩
      split
      · rename_i q; exact (w1.2.1 q).1
      · exact (w1.2.2 (by omega)).1
    · refine z_tswIn (pc := 22) (tgt := 118) h dX7_truck_22 (by omega) (by decide) (by decide) rfl (by decide) ?_
      refine z_aloadR_n (pc := 118) h dX7_truck_118 rfl ?_
      refine z_getR (pc := 119) (c := 7) (j := 2) (o2 := 4) h rfl (by first | assumption | rfl) rfl rfl fl_X7_28 dX7_truck_119 ?_
      refine z_getA4 (pc := 122) (c := 1) (j := 10) h (by first | assumption | rfl) rfl rfl fl_X7_251 dX7_truck_122 ?_
      refine z_iload_n (pc := 125) h dX7_truck_125 rfl ?_
      refine z_ialdq (pc := 126) (c := 1) (j := 10) (L := 8) h rfl (by first | assumption | rfl) (by decide) rfl (by decide) (by omega) (by omega) dX7_truck_126 (fun g126 => ?_)
      refine z_iret (pc := 127) h rfl dX7_truck_127 ?_
      refine ⟨congrArg (fun z => some (zI z)) (show (σ 4).2 10 t = if T.2.2 (17 + 6 * t + 0) = 1 then T.2.2 (17 + 6 * t + 3) else -1 from ?_), rfl⟩
      split
      · rename_i q; exact (w1.2.1 q).2.1
      · exact (w1.2.2 (by omega)).2.1
    · refine z_tswIn (pc := 22) (tgt := 128) h dX7_truck_22 (by omega) (by decide) (by decide) rfl (by decide) ?_
      refine z_aloadR_n (pc := 128) h dX7_truck_128 rfl ?_
      refine z_getR (pc := 129) (c := 7) (j := 2) (o2 := 4) h rfl (by first | assumption | rfl) rfl rfl fl_X7_28 dX7_truck_129 ?_
      refine z_getA4 (pc := 132) (c := 1) (j := 11) h (by first | assumption | rfl) rfl rfl fl_X7_254 dX7_truck_132 ?_
      refine z_iload_n (pc := 135) h dX7_truck_135 rfl ?_
      refine z_ialdq (pc := 136) (c := 1) (j := 11) (L := 8) h rfl (by first | assumption | rfl) (by decide) rfl (by decide) (by omega) (by omega) dX7_truck_136 (fun g136 => ?_)
      refine z_iret (pc := 137) h rfl dX7_truck_137 ?_
      refine ⟨congrArg (fun z => some (zI z)) (show (σ 4).2 11 t = if T.2.2 (17 + 6 * t + 0) = 1 then T.2.2 (17 + 6 * t + 4) else a_load T.2.2 t from ?_), rfl⟩
      split
      · rename_i q; exact (w1.2.1 q).2.2.1
      · exact (w1.2.2 (by omega)).2.2.1
    · refine z_tswIn (pc := 22) (tgt := 138) h dX7_truck_22 (by omega) (by decide) (by decide) rfl (by decide) ?_
      refine z_aloadR_n (pc := 138) h dX7_truck_138 rfl ?_
      refine z_getR (pc := 139) (c := 7) (j := 2) (o2 := 4) h rfl (by first | assumption | rfl) rfl rfl fl_X7_28 dX7_truck_139 ?_
      refine z_getA4 (pc := 142) (c := 1) (j := 12) h (by first | assumption | rfl) rfl rfl fl_X7_257 dX7_truck_142 ?_
      refine z_iload_n (pc := 145) h dX7_truck_145 rfl ?_
      refine z_ialdq (pc := 146) (c := 1) (j := 12) (L := 8) h rfl (by first | assumption | rfl) (by decide) rfl (by decide) (by omega) (by omega) dX7_truck_146 (fun g146 => ?_)
      refine z_iret (pc := 147) h rfl dX7_truck_147 ?_
      refine ⟨congrArg (fun z => some (zI z)) (show (σ 4).2 12 t = if T.2.2 (17 + 6 * t + 0) = 1 then T.2.2 (17 + 6 * t + 5) else -1 from ?_), rfl⟩
      split
      · rename_i q; exact (w1.2.1 q).2.2.2
      · exact (w1.2.2 (by omega)).2.2.2.1
    · refine z_tswIn (pc := 22) (tgt := 148) h dX7_truck_22 (by omega) (by decide) (by decide) rfl (by decide) ?_
      refine z_aloadR_n (pc := 148) h dX7_truck_148 rfl ?_
      refine z_getR (pc := 149) (c := 7) (j := 3) (o2 := 5) h rfl (by first | assumption | rfl) rfl rfl fl_X7_35 dX7_truck_149 ?_
      refine z_getA4 (pc := 152) (c := 3) (j := 0) h (by first | assumption | rfl) rfl rfl fl_X7_260 dX7_truck_152 ?_
      refine z_iload_n (pc := 155) h dX7_truck_155 rfl ?_
      refine z_ialdq (pc := 156) (c := 3) (j := 0) (L := 8) h rfl (by first | assumption | rfl) (by decide) rfl (by decide) (by omega) (by omega) dX7_truck_156 (fun g156 => ?_)
      refine z_iret (pc := 157) h rfl dX7_truck_157 ?_
      exact ⟨congrArg (fun z => some (zI z)) (show (σ 5).2 0 t = T.1 t by rw [hC.2.2.1.1]), rfl⟩
    · refine z_tswIn (pc := 22) (tgt := 158) h dX7_truck_22 (by omega) (by decide) (by decide) rfl (by decide) ?_
      refine z_aloadR_n (pc := 158) h dX7_truck_158 rfl ?_
      refine z_getR (pc := 159) (c := 7) (j := 3) (o2 := 5) h rfl (by first | assumption | rfl) rfl rfl fl_X7_35 dX7_truck_159 ?_
      refine z_getA4 (pc := 162) (c := 3) (j := 1) h (by first | assumption | rfl) rfl rfl fl_X7_263 dX7_truck_162 ?_
      refine z_iload_n (pc := 165) h dX7_truck_165 rfl ?_
      refine z_ialdq (pc := 166) (c := 3) (j := 1) (L := 8) h rfl (by first | assumption | rfl) (by decide) rfl (by decide) (by omega) (by omega) dX7_truck_166 (fun g166 => ?_)
      refine z_iret (pc := 167) h rfl dX7_truck_167 ?_
      exact ⟨congrArg (fun z => some (zI z)) (show (σ 5).2 1 t = T.2.1 t by rw [hC.2.2.1.2.1]), rfl⟩
    · refine z_tswIn (pc := 22) (tgt := 168) h dX7_truck_22 (by omega) (by decide) (by decide) rfl (by decide) ?_
      refine z_aloadR_n (pc := 168) h dX7_truck_168 rfl ?_
      refine z_getR (pc := 169) (c := 7) (j := 4) (o2 := 6) h rfl (by first | assumption | rfl) rfl rfl fl_X7_44 dX7_truck_169 ?_
      refine z_getA4 (pc := 172) (c := 5) (j := 2) h (by first | assumption | rfl) rfl rfl fl_X7_266 dX7_truck_172 ?_
      refine z_iload_n (pc := 175) h dX7_truck_175 rfl ?_
      refine z_ialdq (pc := 176) (c := 5) (j := 2) (L := 8) h rfl (by first | assumption | rfl) (by decide) rfl (by decide) (by omega) (by omega) dX7_truck_176 (fun g176 => ?_)
      refine z_iret (pc := 177) h rfl dX7_truck_177 ?_
      exact ⟨congrArg (fun z => some (zI z)) w3.1, rfl⟩
    · refine z_tswIn (pc := 22) (tgt := 178) h dX7_truck_22 (by omega) (by decide) (by decide) rfl (by decide) ?_
      refine z_aloadR_n (pc := 178) h dX7_truck_178 rfl ?_
      refine z_getR (pc := 179) (c := 7) (j := 4) (o2 := 6) h rfl (by first | assumption | rfl) rfl rfl fl_X7_44 dX7_truck_179 ?_
      refine z_getA4 (pc := 182) (c := 5) (j := 3) h (by first | assumption | rfl) rfl rfl fl_X7_269 dX7_truck_182 ?_
      refine z_iload_n (pc := 185) h dX7_truck_185 rfl ?_
      refine z_ialdq (pc := 186) (c := 5) (j := 3) (L := 8) h rfl (by first | assumption | rfl) (by decide) rfl (by decide) (by omega) (by omega) dX7_truck_186 (fun g186 => ?_)
      refine z_iret (pc := 187) h rfl dX7_truck_187 ?_
      exact ⟨congrArg (fun z => some (zI z)) w3.2.1, rfl⟩
    · refine z_tswIn (pc := 22) (tgt := 188) h dX7_truck_22 (by omega) (by decide) (by decide) rfl (by decide) ?_
      refine z_aloadR_n (pc := 188) h dX7_truck_188 rfl ?_
      refine z_getR (pc := 189) (c := 7) (j := 4) (o2 := 6) h rfl (by first | assumption | rfl) rfl rfl fl_X7_44 dX7_truck_189 ?_
      refine z_getA4 (pc := 192) (c := 5) (j := 4) h (by first | assumption | rfl) rfl rfl fl_X7_272 dX7_truck_192 ?_
      refine z_iload_n (pc := 195) h dX7_truck_195 rfl ?_
      refine z_ialdq (pc := 196) (c := 5) (j := 4) (L := 8) h rfl (by first | assumption | rfl) (by decide) rfl (by decide) (by omega) (by omega) dX7_truck_196 (fun g196 => ?_)
      refine z_iret (pc := 197) h rfl dX7_truck_197 ?_
      exact ⟨congrArg (fun z => some (zI z)) w3.2.2, rfl⟩
    · refine z_tswIn (pc := 22) (tgt := 198) h dX7_truck_22 (by omega) (by decide) (by decide) rfl (by decide) ?_
      refine z_aloadR_n (pc := 198) h dX7_truck_198 rfl ?_
      refine z_getR (pc := 199) (c := 7) (j := 4) (o2 := 6) h rfl (by first | assumption | rfl) rfl rfl fl_X7_44 dX7_truck_199 ?_
      refine z_iload_n (pc := 202) h dX7_truck_202 rfl ?_
      refine z_pV (pc := 203) (c := 5) h (z1) (by decide) (by first | assumption | rfl) rfl mv_X5_lateBy ml_X7_275 rfl dX7_truck_203 rfl (Nat.le_of_ble_eq_true rfl) ?_
      refine z_iret (pc := 206) h rfl dX7_truck_206 ?_
      exact ⟨rfl, rfl⟩
    · refine z_tswIn (pc := 22) (tgt := 207) h dX7_truck_22 (by omega) (by decide) (by decide) rfl (by decide) ?_
      refine z_aloadR_n (pc := 207) h dX7_truck_207 rfl ?_
      refine z_iload_n (pc := 208) h dX7_truck_208 rfl ?_
      refine z_pV (pc := 209) (c := 7) h (c_isFixed hT hC ht.1 ht.2) (by decide) (by first | assumption | rfl) rfl mv_X7_isFixed ml_X7_145 rfl dX7_truck_209 rfl (Nat.le_of_ble_eq_true rfl) ?_
      refine z_ifeqB (pc := 212) (tgt := 219) h dX7_truck_212 (by decide) (fun c212 => ?_) (fun c212 => ?_)
      · refine z_iconst (pc := 219) h dX7_truck_219 ?_
        refine z_iret (pc := 220) h rfl dX7_truck_220 ?_
        refine ⟨congrArg (fun z => some (zI z)) (show _ = if fxd ((ra T.2.2).2 27) T.2.2 t = true then (1 : Int) else 0 from ?_), rfl⟩
        rw [c212]
        rfl
      · refine z_iconst (pc := 215) h dX7_truck_215 ?_
        refine z_goto (pc := 216) (tgt := 220) h dX7_truck_216 (by decide) ?_
        refine z_iret (pc := 220) h rfl dX7_truck_220 ?_
        refine ⟨congrArg (fun z => some (zI z)) (show _ = if fxd ((ra T.2.2).2 27) T.2.2 t = true then (1 : Int) else 0 from ?_), rfl⟩
        rw [c212]
        rfl
  · exact absurd (show 0 ≤ t ∧ t < zsc σ 4 1 by rw [e0]; exact ht) (of_decide_eq_false c8)
def caQ (T : T3) (c w : Int) : Int := if w = 0 then (ra T.2.2).2 21 c else if w = 1 then (ra T.2.2).2 22 c else if w = 2 then (ra T.2.2).2 23 c else if w = 3 then (ra T.2.2).2 24 c else if w = 4 then (ra T.2.2).2 25 c else (ra T.2.2).2 26 c
theorem c_carton {σ : zS} {T : T3} {c w : Int} (hT : OKT T) (hC : CS T σ) (hc : 0 ≤ c ∧ c < (ra T.2.2).1 20) (hw : 0 ≤ w ∧ w ≤ 5) : zCp M_X7_carton 2 [zR 0, zI c, zI w] σ (zI (caQ T c w)) := by
  have hF := fin6 hT hC
  obtain ⟨k1, k2, k3, k4⟩ := hT.run
  have hn := k1.2.2.2.1
  have e0 : zsc σ 4 2 = (ra T.2.2).1 20 := by rw [k1.2.2.1, k3]; exact hC.1.2.2.1
  have w1 := env_c (dk := σ 4) k1 (by rw [k3]; exact hC.1) hc.1 hc.2
  have w3 := hC.2.2.2.2.1 c hc.1 hc.2
  refine zC_of (M := M_X7_carton) (ls := [some (zR 0), some (zI c), some (zI w)]) (n := 0) (by decide) (fun ad => Nat.le_of_ble_eq_true rfl) rfl (fun x h => ?_)
  refine z_aloadR_n (pc := 0) h dX7_carton_0 rfl ?_
  refine z_getR (pc := 1) (c := 7) (j := 2) (o2 := 4) h rfl (by first | assumption | rfl) rfl rfl fl_X7_28 dX7_carton_1 ?_
  refine z_iload_n (pc := 4) h dX7_carton_4 rfl ?_
  refine z_pV (pc := 5) (c := 1) h (m_X1_hasCarton rfl (by omega)) (by decide) (by first | assumption | rfl) rfl mv_X1_hasCarton ml_X7_283 rfl dX7_carton_5 rfl (Nat.le_of_ble_eq_true rfl) ?_
  refine z_ifneB (pc := 8) (tgt := 22) h dX7_carton_8 (by decide) (fun c8 => ?_) (fun c8 => ?_)
  · refine z_iload_n (pc := 22) h dX7_carton_22 rfl ?_
    have hsw : (w < 0 ∨ 5 < w) ∨ w = 0 ∨ w = 1 ∨ w = 2 ∨ w = 3 ∨ w = 4 ∨ w = 5 := by omega
    rcases hsw with hsw | rfl | rfl | rfl | rfl | rfl | rfl
    · refine z_tswOut (pc := 23) (tgt := 120) h dX7_carton_23 (by omega) hsw (by decide) ?_
      omega
    · refine z_tswIn (pc := 23) (tgt := 60) h dX7_carton_23 (by omega) (by decide) (by decide) rfl (by decide) ?_
      refine z_aloadR_n (pc := 60) h dX7_carton_60 rfl ?_
      refine z_getR (pc := 61) (c := 7) (j := 2) (o2 := 4) h rfl (by first | assumption | rfl) rfl rfl fl_X7_28 dX7_carton_61 ?_
      refine z_getA4 (pc := 64) (c := 1) (j := 14) h (by first | assumption | rfl) rfl rfl fl_X7_288 dX7_carton_64 ?_
      refine z_iload_n (pc := 67) h dX7_carton_67 rfl ?_
      refine z_ialdq (pc := 68) (c := 1) (j := 14) (L := 40) h rfl (by first | assumption | rfl) (by decide) rfl (by decide) (by omega) (by omega) dX7_carton_68 (fun g68 => ?_)
      refine z_iret (pc := 69) h rfl dX7_carton_69 ?_
      exact ⟨congrArg (fun z => some (zI z)) w1.1, rfl⟩
    · refine z_tswIn (pc := 23) (tgt := 70) h dX7_carton_23 (by omega) (by decide) (by decide) rfl (by decide) ?_
      refine z_aloadR_n (pc := 70) h dX7_carton_70 rfl ?_
      refine z_getR (pc := 71) (c := 7) (j := 2) (o2 := 4) h rfl (by first | assumption | rfl) rfl rfl fl_X7_28 dX7_carton_71 ?_
      refine z_getA4 (pc := 74) (c := 1) (j := 15) h (by first | assumption | rfl) rfl rfl fl_X7_291 dX7_carton_74 ?_
      refine z_iload_n (pc := 77) h dX7_carton_77 rfl ?_
      refine z_ialdq (pc := 78) (c := 1) (j := 15) (L := 40) h rfl (by first | assumption | rfl) (by decide) rfl (by decide) (by omega) (by omega) dX7_carton_78 (fun g78 => ?_)
      refine z_iret (pc := 79) h rfl dX7_carton_79 ?_
      exact ⟨congrArg (fun z => some (zI z)) w1.2, rfl⟩
    · refine z_tswIn (pc := 23) (tgt := 80) h dX7_carton_23 (by omega) (by decide) (by decide) rfl (by decide) ?_
      refine z_aloadR_n (pc := 80) h dX7_carton_80 rfl ?_
      refine z_getR (pc := 81) (c := 7) (j := 4) (o2 := 6) h rfl (by first | assumption | rfl) rfl rfl fl_X7_44 dX7_carton_81 ?_
      refine z_getA4 (pc := 84) (c := 5) (j := 5) h (by first | assumption | rfl) rfl rfl fl_X7_294 dX7_carton_84 ?_
      refine z_iload_n (pc := 87) h dX7_carton_87 rfl ?_
      refine z_ialdq (pc := 88) (c := 5) (j := 5) (L := 40) h rfl (by first | assumption | rfl) (by decide) rfl (by decide) (by omega) (by omega) dX7_carton_88 (fun g88 => ?_)
      refine z_iret (pc := 89) h rfl dX7_carton_89 ?_
      exact ⟨congrArg (fun z => some (zI z)) w3.1, rfl⟩
    · refine z_tswIn (pc := 23) (tgt := 90) h dX7_carton_23 (by omega) (by decide) (by decide) rfl (by decide) ?_
      refine z_aloadR_n (pc := 90) h dX7_carton_90 rfl ?_
      refine z_getR (pc := 91) (c := 7) (j := 4) (o2 := 6) h rfl (by first | assumption | rfl) rfl rfl fl_X7_44 dX7_carton_91 ?_
      refine z_getA4 (pc := 94) (c := 5) (j := 6) h (by first | assumption | rfl) rfl rfl fl_X7_297 dX7_carton_94 ?_
      refine z_iload_n (pc := 97) h dX7_carton_97 rfl ?_
      refine z_ialdq (pc := 98) (c := 5) (j := 6) (L := 40) h rfl (by first | assumption | rfl) (by decide) rfl (by decide) (by omega) (by omega) dX7_carton_98 (fun g98 => ?_)
      refine z_iret (pc := 99) h rfl dX7_carton_99 ?_
      exact ⟨congrArg (fun z => some (zI z)) w3.2.1, rfl⟩
    · refine z_tswIn (pc := 23) (tgt := 100) h dX7_carton_23 (by omega) (by decide) (by decide) rfl (by decide) ?_
      refine z_aloadR_n (pc := 100) h dX7_carton_100 rfl ?_
      refine z_getR (pc := 101) (c := 7) (j := 4) (o2 := 6) h rfl (by first | assumption | rfl) rfl rfl fl_X7_44 dX7_carton_101 ?_
      refine z_getA4 (pc := 104) (c := 5) (j := 7) h (by first | assumption | rfl) rfl rfl fl_X7_300 dX7_carton_104 ?_
      refine z_iload_n (pc := 107) h dX7_carton_107 rfl ?_
      refine z_ialdq (pc := 108) (c := 5) (j := 7) (L := 40) h rfl (by first | assumption | rfl) (by decide) rfl (by decide) (by omega) (by omega) dX7_carton_108 (fun g108 => ?_)
      refine z_iret (pc := 109) h rfl dX7_carton_109 ?_
      exact ⟨congrArg (fun z => some (zI z)) w3.2.2.1, rfl⟩
    · refine z_tswIn (pc := 23) (tgt := 110) h dX7_carton_23 (by omega) (by decide) (by decide) rfl (by decide) ?_
      refine z_aloadR_n (pc := 110) h dX7_carton_110 rfl ?_
      refine z_getR (pc := 111) (c := 7) (j := 4) (o2 := 6) h rfl (by first | assumption | rfl) rfl rfl fl_X7_44 dX7_carton_111 ?_
      refine z_getA4 (pc := 114) (c := 5) (j := 8) h (by first | assumption | rfl) rfl rfl fl_X7_303 dX7_carton_114 ?_
      refine z_iload_n (pc := 117) h dX7_carton_117 rfl ?_
      refine z_ialdq (pc := 118) (c := 5) (j := 8) (L := 40) h rfl (by first | assumption | rfl) (by decide) rfl (by decide) (by omega) (by omega) dX7_carton_118 (fun g118 => ?_)
      refine z_iret (pc := 119) h rfl dX7_carton_119 ?_
      exact ⟨congrArg (fun z => some (zI z)) w3.2.2.2.1, rfl⟩
  · exact absurd (show 0 ≤ c ∧ c < zsc σ 4 2 by rw [e0]; exact hc) (of_decide_eq_false c8)
