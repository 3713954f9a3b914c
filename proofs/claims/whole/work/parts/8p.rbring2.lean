/-! The class: readBringer. -/
theorem bIn_d {m m' ct ct' : Int} {b : Int × Int} {s : Int} {V P : Int → Int} (h : b.1 = 0 → m = m' ∧ ct = ct') (hb : PB s b) (hP : ∀ j, 0 ≤ j → j < 5 → s < P j) : bIn m ct b s V P = bIn m' ct' b s V P := by
  by_cases e : b.1 = 0
  · rw [(h e).1, (h e).2]
  · have h2 := hb.1 e
    have h3 : ∀ x : Int, bTr x b s = b := fun x => by
      unfold bTr
      split
      · rfl
      · exact nt_old e h2
    have h4 : ∀ j v lo hi, 0 ≤ j → j < 5 → chk b v lo hi (P j) = b := fun j v lo hi j0 j1 => chk_old e (by have := hP j j0 j1; omega)
    have h5 : ∀ x, bIn5 x b s V P = b := fun x => by
      unfold bIn5
      rw [h3, h4 0 _ _ _ (by omega) (by omega), h4 1 _ _ _ (by omega) (by omega), h4 2 _ _ _ (by omega) (by omega), h4 3 _ _ _ (by omega) (by omega), h4 4 _ _ _ (by omega) (by omega)]
    have h6 : ∀ x y, bIn x y b s V P = b := fun x y => by
      unfold bIn
      rw [h5]
      split
      · exact nt_old e h2
      · rfl
    rw [h6, h6]
theorem zb0 {b : Bool} (h : (if b = true then (1 : Int) else 0) = 0) : b = false := by cases b with
  | false => rfl
  | true => exact absurd h (by decide)
theorem zb1 {b : Bool} (h : ¬ (if b = true then (1 : Int) else 0) = 0) : b = true := by cases b with
  | false => exact absurd rfl h
  | true => rfl
theorem c_readBringer {σ : zS} {r dk : zOb} {f a : Int → Int} {n q1 s ct : Int} {b : Int × Int} (hf : (σ 1).2 0 = f) (hn : (σ 1).1 1 = n) (h4 : n ≤ 400) (hT : TL f n q1 r) (hs : 0 ≤ s ∧ s < q1) (hJ : CJ s a ct b r dk) : zC M_X4_readBringer 6 [zR 2, zI s] (zo (zo σ 3 dk) 2 r) (fun rr τ' => rr = none ∧ ∃ r' dk', τ' = zo (zo σ 3 dk') 2 r' ∧ CO f n (sIn f n q1 s a ct b) r' dk') := by
  have hq1 := hT.1
  refine zC_of (M := M_X4_readBringer) (ls := [some (zR 2), some (zI s), none, none, none, none]) (n := 4) (by decide) (fun ad => Nat.le_of_ble_eq_true rfl) rfl (fun x h => ?_)
  unfold sIn
  have M : ∀ y1 : zOb, NR f n q1 5 r y1 → decide (nF f n q1 5 = -1) = true → zW x (fun rr τ' => rr = none ∧ ∃ r' dk', τ' = zo (zo σ 3 dk') 2 r' ∧ CO f n (num f n q1 5 (nQ f n q1 6, if a 1 < 8 then aT a (pIn (vN f n q1)) else a, if a 1 < 8 then ct + ldV (vN f n q1) else ct, bIn (a 1) ct b s (vN f n q1) (pN f n q1))) r' dk') 9 [some (zR 2), some (zI s), none, none, none, none] [] (zo (zo σ 3 dk) 2 y1) := by
    intro y1 hNR c5
    have hF := of_decide_eq_true c5
    obtain ⟨h45, hTy1, hvp⟩ := hNR.ok hF
    have hJ1 := hJ.n45 h45.1 h45.2
    have hb45 := hJ1.1
    have hbd := hJ1.2.2.2
    have hvb : ∀ j, 0 ≤ j → j < 5 → 0 ≤ vN f n q1 j ∧ vN f n q1 j ≤ 999 := fun j a b => vN_b hF a b
    have hpb : ∀ j, 0 ≤ j → 0 ≤ pN f n q1 j ∧ pN f n q1 j ≤ 400 := fun j a => by have := pN_b (f := f) (j := j) hT.1.1 hT.1.2 a; omega
    have hps : ∀ j, 0 ≤ j → j < 5 → s < pN f n q1 j := fun j a _ => by have := pN_b (f := f) (j := j) hT.1.1 hT.1.2 a; omega
    have hpe : ∀ j, 0 ≤ j → j < 5 → pN f n q1 j < tS f n (nQ f n q1 6) := fun j a b => (pN_end (j := j) hT.1.1 hT.1.2 hF a b).1
    have hqe : q1 < tS f n (nQ f n q1 6) := (pN_end (j := 0) hT.1.1 hT.1.2 hF (by omega) (by omega)).2
    have hTy : TL f n (nQ f n q1 6) y1 := hTy1
    have hJ2 : b.1 = 0 → dk.1 1 = a 1 ∧ dk.1 2 = ct := fun z => ⟨(hJ1.2.1 z).1.2.1.2.1, by rw [(hJ1.2.1 z).2]; exact (hJ1.2.1 z).1.2.1.2.2.1⟩
    have hbe := bIn_d (V := vN f n q1) (P := pN f n q1) hJ2 hJ1.2.2.1 hps
    unfold num
    rw [if_pos hF, ← hbe]
    have hPBs := hJ1.2.2.1
    have hTold := hJ1.2.1
    clear hbe hTy1 hNR c5 hJ h45 hJ1
    generalize vN f n q1 = V at hvb hvp ⊢
    generalize pN f n q1 = P at hpb hvp hps hpe ⊢
    have hw : ∀ j, 0 ≤ j → j < 5 → 0 ≤ wj V j ∧ wj V j ≤ 15 := fun j j0 j1 => wj_b (hvb j j0 j1).1
    have hyv : ∀ B j, 0 ≤ j → j < 5 → (ntO y1 B).2 2 j = V j := fun B j j0 j1 => (hvp j j0 j1).1
    have hLb : ∀ k, 0 ≤ k → k ≤ 4 → 0 ≤ Lz V k ∧ Lz V k ≤ 15 * k := by
      intro k k0 k4
      refine zfor_ind (f := fun j s => s + wj V (1 + j)) (a := (0 : Int)) (fun k s => 0 ≤ s ∧ s ≤ 15 * k) (n := 4) (by omega) (fun i t g0 g1 g2 => ?_) k k0 k4
      have := hw (1 + i) (by omega) (by omega)
      omega
    -- the cartons
    have K2 : ∀ (yf dk1 : zOb), (∀ j, 0 ≤ j → j < 5 → yf.2 2 j = V j) → BD dk1 → 1 ≤ dk1.1 1 → dk1.1 2 + Lz V 4 ≤ 40 → (∀ dk', CZ dk1 dk' (fun z => wj V (1 + z)) 4 0 → BD dk' → ∃ r' dk'', zo (zo σ 3 dk') 2 yf = zo (zo σ 3 dk'') 2 r' ∧ CO f n (.inr (nQ f n q1 6, if a 1 < 8 then aT a (pIn V) else a, if a 1 < 8 then ct + ldV V else ct, bIn (dk.1 1) (dk.1 2) b s V P)) r' dk'') → ∀ (m : Nat) (i l2 : Int) (l3 : Bool) (l5 : Option Value) (dk' : zOb), 1 ≤ i → i ≤ 5 → 5 - i < m → CZ dk1 dk' (fun z => wj V (1 + z)) (i - 1) 0 → BD dk' → zW x (fun rr τ' => rr = none ∧ ∃ r' dk', τ' = zo (zo σ 3 dk') 2 r' ∧ CO f n (.inr (nQ f n q1 6, if a 1 < 8 then aT a (pIn V) else a, if a 1 < 8 then ct + ldV V else ct, bIn (dk.1 1) (dk.1 2) b s V P)) r' dk') 137 [some (zR 2), some (zI s), some (zI l2), some (zB l3), some (zI i), l5] [] (zo (zo σ 3 dk') 2 yf) := by
      intro yf dk1 hyf hB1 hn1 hN40 hend m
      induction m with
      | zero => intro i l2 l3 l5 dk' h1 h2 h3; omega
      | succ m ih =>
        intro i l2 l3 l5 dk' h1 h2 h3 hCZ hBD
        have hih := ih (i + 1)
        have K3 : ∀ (m2 : Nat) (k : Int) (dk' : zOb), 0 ≤ k → i ≤ 4 → k ≤ wj V i → wj V i - k < m2 → CZ dk1 dk' (fun z => wj V (1 + z)) (i - 1) k → BD dk' → zW x (fun rr τ' => rr = none ∧ ∃ r' dk', τ' = zo (zo σ 3 dk') 2 r' ∧ CO f n (.inr (nQ f n q1 6, if a 1 < 8 then aT a (pIn V) else a, if a 1 < 8 then ct + ldV V else ct, bIn (dk.1 1) (dk.1 2) b s V P)) r' dk') 146 [some (zR 2), some (zI s), some (zI l2), some (zB l3), some (zI i), some (zI k)] [] (zo (zo σ 3 dk') 2 yf) := by
          intro m2
          induction m2 with
          | zero => intro k dk' g1 g2 g3 g4; omega
          | succ m2 ih2 =>
            intro k dk' g1 g2 g3 g4 hC hB
            have hvi := hvb i (by omega) (by omega)
            have ev := hyf i (by omega) (by omega)
            have hbw := hw i (by omega) (by omega)
            have hwd : wj V i = if V i ≤ 15 then V i else 0 := rfl
            refine z_iload (pc := 146) h dX4_readBringer_146 rfl ?_
            refine z_aloadR_n (pc := 148) h dX4_readBringer_148 rfl ?_
            refine z_getA4 (pc := 149) (c := 4) (j := 2) h (by first | assumption | rfl) rfl rfl fl_X4_18 dX4_readBringer_149 ?_
            refine z_iload (pc := 152) h dX4_readBringer_152 rfl ?_
            refine z_ialdq (pc := 154) (c := 4) (j := 2) (L := 5) h (zo_s _ _ _) (by first | assumption | rfl) (by decide) rfl (by decide) (by omega) (by omega) dX4_readBringer_154 (fun g154 => ?_)
            refine z_icmp_ge (pc := 155) (tgt := 187) h (by omega) (by omega) dX4_readBringer_155 (by decide) (fun c155 => ?_) (fun c155 => ?_)
            · refine z_inc_4 (pc := 187) h dX4_readBringer_187 (by decide) rfl ?_
              refine z_goto (pc := 190) (tgt := 137) h dX4_readBringer_190 (by decide) ?_
              have hk : k = wj V i := by
                rw [hwd] at g3 ⊢
                split at g3
                · rename_i q; rw [if_pos q]; omega
                · rename_i q; rw [if_neg q]; omega
              have hz := CZ_z (z := i - 1) (w := fun z => wj V (1 + z)) (dk := dk1) (dk' := dk') (by rw [show 1 + (i - 1) = i by omega, ← hk]; exact hC) (by omega)
              rw [show i - 1 + 1 = i + 1 - 1 by omega] at hz
              exact hih _ _ _ _ (by omega) (by omega) (by omega) hz hB
            · refine z_aloadR_n (pc := 158) h dX4_readBringer_158 rfl ?_
              refine z_getA4 (pc := 159) (c := 4) (j := 2) h (by first | assumption | rfl) rfl rfl fl_X4_18 dX4_readBringer_159 ?_
              refine z_iload (pc := 162) h dX4_readBringer_162 rfl ?_
              refine z_ialdq (pc := 164) (c := 4) (j := 2) (L := 5) h (zo_s _ _ _) (by first | assumption | rfl) (by decide) rfl (by decide) (by omega) (by omega) dX4_readBringer_164 (fun g164 => ?_)
              refine z_bipush (pc := 165) h dX4_readBringer_165 (by decide) ?_
              refine z_icmp_gt (pc := 167) (tgt := 187) h (by omega) (by omega) dX4_readBringer_167 (by decide) (fun c167 => ?_) (fun c167 => ?_)
              · refine z_inc_4 (pc := 187) h dX4_readBringer_187 (by decide) rfl ?_
                refine z_goto (pc := 190) (tgt := 137) h dX4_readBringer_190 (by decide) ?_
                have hk : k = wj V i := by
                  rw [hwd] at g3 ⊢
                  split at g3
                  · rename_i q; rw [if_pos q]; omega
                  · rename_i q; rw [if_neg q]; omega
                have hz := CZ_z (z := i - 1) (w := fun z => wj V (1 + z)) (dk := dk1) (dk' := dk') (by rw [show 1 + (i - 1) = i by omega, ← hk]; exact hC) (by omega)
                rw [show i - 1 + 1 = i + 1 - 1 by omega] at hz
                exact hih _ _ _ _ (by omega) (by omega) (by omega) hz hB
              · refine z_aloadR_n (pc := 170) h dX4_readBringer_170 rfl ?_
                refine z_getR (pc := 171) (c := 4) (j := 1) (o2 := 3) h rfl (by first | assumption | rfl) rfl rfl fl_X4_12 dX4_readBringer_171 ?_
                refine z_iload (pc := 174) h dX4_readBringer_174 rfl ?_
                refine z_iconst (pc := 176) h dX4_readBringer_176 ?_
                refine z_isub (pc := 177) h dX4_readBringer_177 ?_
                rw [zo_comm (show (3 : Nat) ≠ 2 by decide)]
                have hsz := zsum_nn (f := fun z => wj V (1 + z)) (n := i - 1) (by omega) (fun e e0 e1 => (hw (1 + e) (by omega) (by omega)).1)
                have hwi : wj V i = V i := by rw [hwd, if_pos (by omega)]
                have hsum : zsum (fun z => wj V (1 + z)) (i - 1) + wj V i ≤ Lz V 4 := by
                  have hb1 := hw 1 (by omega) (by omega)
                  have hb2 := hw 2 (by omega) (by omega)
                  have hb3 := hw 3 (by omega) (by omega)
                  have hb4 := hw 4 (by omega) (by omega)
                  have q4 : Lz V 4 = 0 + wj V 1 + wj V 2 + wj V 3 + wj V 4 := rfl
                  have q0 : zsum (fun z => wj V (1 + z)) 0 = 0 := rfl
                  have q1 : zsum (fun z => wj V (1 + z)) 1 = 0 + wj V 1 := rfl
                  have q2 : zsum (fun z => wj V (1 + z)) 2 = 0 + wj V 1 + wj V 2 := rfl
                  have q3 : zsum (fun z => wj V (1 + z)) 3 = 0 + wj V 1 + wj V 2 + wj V 3 := rfl
                  have hi4 : i = 1 ∨ i = 2 ∨ i = 3 ∨ i = 4 := by omega
                  rcases hi4 with z | z | z | z
                  · rw [z, show (1 : Int) - 1 = 0 from rfl]; omega
                  · rw [z, show (2 : Int) - 1 = 1 from rfl]; omega
                  · rw [z, show (3 : Int) - 1 = 2 from rfl]; omega
                  · rw [z, show (4 : Int) - 1 = 3 from rfl]; omega
                have hd1 : dk'.1 1 = dk1.1 1 := hC.1 1 (by decide)
                have hd2 := hC.2.1
                have hb11 := hB.2.2.2 (dk'.1 1 - 1) (by omega) (by omega)
                have hb22 := hB.2.2.1
                have hb33 := hB.2.1
                refine z_vV (pc := 178) (c := 1) h (c_addCarton (by omega) (by omega) (by omega) (by omega)) (by decide) (by first | assumption | rfl) rfl mv_X1_addCartonToLatest ml_X4_145 rfl dX4_readBringer_178 rfl (Nat.le_of_ble_eq_true rfl) ?_
                rw [zo_comm (show (2 : Nat) ≠ 3 by decide)]
                refine z_inc_5 (pc := 181) h dX4_readBringer_181 (by decide) rfl ?_
                refine z_goto (pc := 184) (tgt := 146) h dX4_readBringer_184 (by decide) ?_
                exact ih2 (k + 1) _ (by omega) g2 (by omega) (by omega) (CZ_k hC (by omega) hB1.2.2.1.1 g1 (fun e e0 e1 => (hw (1 + e) (by omega) (by omega)).1)) (BD_kdO hB (by omega) (by omega))
        refine z_iload (pc := 137) h dX4_readBringer_137 rfl ?_
        refine z_iconst (pc := 139) h dX4_readBringer_139 ?_
        refine z_icmp_gt (pc := 140) (tgt := 193) h (by omega) (by omega) dX4_readBringer_140 (by decide) (fun c140 => ?_) (fun c140 => ?_)
        · refine z_ret (pc := 193) h rfl dX4_readBringer_193 ?_
          exact ⟨rfl, hend dk' (by rw [show (4 : Int) = i - 1 by omega]; exact hCZ) hBD⟩
        · refine z_iconst (pc := 143) h dX4_readBringer_143 ?_
          refine z_ist_5 (pc := 144) h dX4_readBringer_144 (by decide) rfl ?_
          exact K3 (wj V i + 1).toNat 0 dk' (by omega) (by omega) (hw i (by omega) (by omega)).1 (by omega) hCZ hBD
    -- behind the checks
    have K1 : ∀ (l4 l5 : Option Value), zW x (fun rr τ' => rr = none ∧ ∃ r' dk', τ' = zo (zo σ 3 dk') 2 r' ∧ CO f n (.inr (nQ f n q1 6, if a 1 < 8 then aT a (pIn V) else a, if a 1 < 8 then ct + ldV V else ct, bIn (dk.1 1) (dk.1 2) b s V P)) r' dk') 96 [some (zR 2), some (zI s), some (zI (Lz V 4)), some (zB (Ez V 4)), l4, l5] [] (zo (zo σ 3 dk) 2 (ntO y1 (bIn5 (dk.1 1) b s V P))) := by
      intro l4 l5
      have hL4 := hLb 4 (by omega) (by omega)
      have hbd2 := hbd.2.2.1
      have W : lfB (dk.1 2) V = true → ∃ r' dk', zo (zo σ 3 dk) 2 (ntO y1 (nt (bIn5 (dk.1 1) b s V P) 4 s)) = zo (zo σ 3 dk') 2 r' ∧ CO f n (.inr (nQ f n q1 6, if a 1 < 8 then aT a (pIn V) else a, if a 1 < 8 then ct + ldV V else ct, bIn (dk.1 1) (dk.1 2) b s V P)) r' dk' := by
        intro hl
        have e : bIn (dk.1 1) (dk.1 2) b s V P = nt (bIn5 (dk.1 1) b s V P) 4 s := if_pos hl
        refine ⟨_, _, rfl, hTy, ?_, fun z => ?_, ?_, hbd⟩
        · show _ = bIn (dk.1 1) (dk.1 2) b s V P
          rw [e, ntO_45]
        · change (bIn (dk.1 1) (dk.1 2) b s V P).1 = 0 at z
          rw [e] at z
          exact absurd z (nt_ne (by decide))
        · show PB (tS f n (nQ f n q1 6)) (bIn (dk.1 1) (dk.1 2) b s V P)
          rw [e]
          exact nt_PB (bIn5_PB (hPBs.up (by omega)) (by omega) hpe) (by omega) (by decide)
      refine z_iload_n (pc := 96) h dX4_readBringer_96 rfl ?_
      refine z_if_ne (pc := 97) (tgt := 114) h (by omega) dX4_readBringer_97 (by decide) (fun c97 => ?_) (fun c97 => ?_)
      · have c97 := zb1 c97
        refine z_aloadR_n (pc := 114) h dX4_readBringer_114 rfl ?_
        refine z_iconst (pc := 115) h dX4_readBringer_115 ?_
        refine z_iload_n (pc := 116) h dX4_readBringer_116 rfl ?_
        refine z_vV (pc := 117) (c := 4) h (c_note (by omega) (by omega)) (by decide) (by first | assumption | rfl) rfl mv_X4_note ml_X4_90 rfl dX4_readBringer_117 rfl (Nat.le_of_ble_eq_true rfl) ?_
        refine z_ret (pc := 120) h rfl dX4_readBringer_120 ?_
        rw [ntO_45, ntO_ntO]
        first
        | (have ce := of_decide_eq_true ((Ez_4 V).symm.trans c97); exact ⟨rfl, W (decide_eq_true (Or.inl ce))⟩)
        | exact ⟨rfl, W (decide_eq_true (Or.inr (by rw [← Lz_4]; omega)))⟩
      · have c97 := zb0 c97
        refine z_aloadR_n (pc := 100) h dX4_readBringer_100 rfl ?_
        refine z_getR (pc := 101) (c := 4) (j := 1) (o2 := 3) h rfl (by first | assumption | rfl) rfl rfl fl_X4_12 dX4_readBringer_101 ?_
        refine z_getIq (pc := 104) (c := 1) (j := 2) h ((zo_n (show (3 : Nat) ≠ 2 by decide)).trans (zo_s _ _ _)) (by first | assumption | rfl) rfl rfl fl_X4_139 dX4_readBringer_104 (fun g104 => ?_)
        refine z_iload_n (pc := 107) h dX4_readBringer_107 rfl ?_
        refine z_iadd (pc := 108) h dX4_readBringer_108 ?_
        refine z_bipush (pc := 109) h dX4_readBringer_109 (by decide) ?_
        refine z_icmp_le (pc := 111) (tgt := 121) h (by omega) (by omega) dX4_readBringer_111 (by decide) (fun c111 => ?_) (fun c111 => ?_)
        · have cf := of_decide_eq_false ((Ez_4 V).symm.trans c97)
          have hlf : lfB (dk.1 2) V = false := decide_eq_false (fun z => by rw [← Lz_4] at z; rcases z with z | z; exact cf z; omega)
          have e : bIn (dk.1 1) (dk.1 2) b s V P = bIn5 (dk.1 1) b s V P := if_neg (by rw [hlf]; decide)
          have ev0 := hyv (bIn5 (dk.1 1) b s V P) 0 (by omega) (by omega)
          have hv0 := hvb 0 (by omega) (by omega)
          refine z_aloadR_n (pc := 121) h dX4_readBringer_121 rfl ?_
          refine z_getR (pc := 122) (c := 4) (j := 1) (o2 := 3) h rfl (by first | assumption | rfl) rfl rfl fl_X4_12 dX4_readBringer_122 ?_
          refine z_aloadR_n (pc := 125) h dX4_readBringer_125 rfl ?_
          refine z_getA4 (pc := 126) (c := 4) (j := 2) h (by first | assumption | rfl) rfl rfl fl_X4_18 dX4_readBringer_126 ?_
          refine z_iconst (pc := 129) h dX4_readBringer_129 ?_
          refine z_ialdq (pc := 130) (c := 4) (j := 2) (L := 5) h (zo_s _ _ _) (by first | assumption | rfl) (by decide) rfl (by decide) (by omega) (by omega) dX4_readBringer_130 (fun g130 => ?_)
          rw [ev0, zo_comm (show (3 : Nat) ≠ 2 by decide)]
          refine z_vV (pc := 131) (c := 1) h (c_addBringer hbd.2.1 hv0 hbd.2.2.1) (by decide) (by first | assumption | rfl) rfl mv_X1_addBringer ml_X4_142 rfl dX4_readBringer_131 rfl (Nat.le_of_ble_eq_true rfl) ?_
          rw [zo_comm (show (2 : Nat) ≠ 3 by decide)]
          have hbn := hbd.2.1
          have hB1 := BD_bO (v := V 0) hbd
          have h1n : 1 ≤ (if dk.1 1 < 8 then bO dk (V 0) else dk).1 1 := by
            split
            · show 1 ≤ dk.1 1 + 1; omega
            · omega
          have h2n : (if dk.1 1 < 8 then bO dk (V 0) else dk).1 2 = dk.1 2 := by split <;> rfl
          refine z_iconst (pc := 134) h dX4_readBringer_134 ?_
          refine z_ist_4 (pc := 135) h dX4_readBringer_135 (by decide) rfl ?_
          refine K2 _ (if dk.1 1 < 8 then bO dk (V 0) else dk) (hyv _) hB1 h1n (by rw [h2n]; omega) (fun dk' hc hB' => ?_) 5 1 _ _ _ _ (by omega) (by omega) (by omega) CZ_0 hB1
          refine ⟨_, _, rfl, hTy, ?_, fun z => ?_, ?_, hB'⟩
          · show _ = bIn (dk.1 1) (dk.1 2) b s V P
            rw [e, ntO_45]
          · change (bIn (dk.1 1) (dk.1 2) b s V P).1 = 0 at z
            rw [e] at z
            have zz := bIn5_0 z
            have zt := hTold zz.1
            have zn := hJ2 zz.1
            rw [if_pos zz.2.1] at hc
            have z8 : a 1 < 8 := by omega
            have zf := TOLD_in zt.1 z8 zz.2.2.1 zz.2.2.2.1 zz.2.2.2.2.1 zz.2.2.2.2.2.1 zz.2.2.2.2.2.2 cf (by rw [← zt.2, ← zn.2, ← Lz_4]; omega) hc
            show TOLD (if a 1 < 8 then aT a (pIn V) else a) dk' ∧ (if a 1 < 8 then ct + ldV V else ct) = a_fs (if a 1 < 8 then aT a (pIn V) else a) ((if a 1 < 8 then aT a (pIn V) else a) 1)
            rw [if_pos z8, if_pos z8]
            exact ⟨zf.1, by rw [zf.2, zt.2]⟩
          · show PB (tS f n (nQ f n q1 6)) (bIn (dk.1 1) (dk.1 2) b s V P)
            rw [e]
            exact bIn5_PB (hPBs.up (by omega)) (by omega) hpe
        · refine z_aloadR_n (pc := 114) h dX4_readBringer_114 rfl ?_
          refine z_iconst (pc := 115) h dX4_readBringer_115 ?_
          refine z_iload_n (pc := 116) h dX4_readBringer_116 rfl ?_
          refine z_vV (pc := 117) (c := 4) h (c_note (by omega) (by omega)) (by decide) (by first | assumption | rfl) rfl mv_X4_note ml_X4_90 rfl dX4_readBringer_117 rfl (Nat.le_of_ble_eq_true rfl) ?_
          refine z_ret (pc := 120) h rfl dX4_readBringer_120 ?_
          rw [ntO_45, ntO_ntO]
          first
          | (have ce := of_decide_eq_true ((Ez_4 V).symm.trans c97); exact ⟨rfl, W (decide_eq_true (Or.inl ce))⟩)
          | exact ⟨rfl, W (decide_eq_true (Or.inr (by rw [← Lz_4]; omega)))⟩
    have K0 : ∀ (m : Nat) (i : Int) (l5 : Option Value), 1 ≤ i → i ≤ 5 → 5 - i < m → zW x (fun rr τ' => rr = none ∧ ∃ r' dk', τ' = zo (zo σ 3 dk') 2 r' ∧ CO f n (.inr (nQ f n q1 6, if a 1 < 8 then aT a (pIn V) else a, if a 1 < 8 then ct + ldV V else ct, bIn (dk.1 1) (dk.1 2) b s V P)) r' dk') 29 [some (zR 2), some (zI s), some (zI (Lz V (i - 1))), some (zB (Ez V (i - 1))), some (zI i), l5] [] (zo (zo σ 3 dk) 2 (ntO y1 (Bz V P (chk (bTr (dk.1 1) b s) (V 0) 0 99 (P 0)) (i - 1)))) := by
      intro m
      induction m with
      | zero => intro i l5 h1 h2 h3; omega
      | succ m ih =>
        intro i l5 h1 h2 h3
        have hih := ih (i + 1) l5 (by omega)
        have e1 : Lz V (i + 1 - 1) = Lz V (i - 1) + wj V i := by
          rw [show i + 1 - 1 = (i - 1) + 1 by omega]
          show zsum _ (i - 1 + 1) = _
          rw [zsum_S _ (by omega), show 1 + (i - 1) = i by omega]
          rfl
        have e2 : Ez V (i + 1 - 1) = (Ez V (i - 1) && decide (V i = 0)) := by
          rw [show i + 1 - 1 = (i - 1) + 1 by omega]
          show zfor _ (i - 1 + 1) true = _
          rw [zfor_S _ (by omega), show 1 + (i - 1) = i by omega]
          rfl
        have e3 : Bz V P (chk (bTr (dk.1 1) b s) (V 0) 0 99 (P 0)) (i + 1 - 1) = chk (Bz V P (chk (bTr (dk.1 1) b s) (V 0) 0 99 (P 0)) (i - 1)) (V i) 0 15 (P i) := by
          rw [show i + 1 - 1 = (i - 1) + 1 by omega]
          show zfor _ (i - 1 + 1) _ = _
          rw [zfor_S _ (by omega), show 1 + (i - 1) = i by omega]
          rfl
        rw [e1, e2, e3] at hih
        have hlb := hLb (i - 1) (by omega) (by omega)
        have hdone : i = 5 → ∀ l4 l5, zW x (fun rr τ' => rr = none ∧ ∃ r' dk', τ' = zo (zo σ 3 dk') 2 r' ∧ CO f n (.inr (nQ f n q1 6, if a 1 < 8 then aT a (pIn V) else a, if a 1 < 8 then ct + ldV V else ct, bIn (dk.1 1) (dk.1 2) b s V P)) r' dk') 96 [some (zR 2), some (zI s), some (zI (Lz V (i - 1))), some (zB (Ez V (i - 1))), l4, l5] [] (zo (zo σ 3 dk) 2 (ntO y1 (Bz V P (chk (bTr (dk.1 1) b s) (V 0) 0 99 (P 0)) (i - 1)))) := fun e l4 l5 => by
          rw [e, show (5 : Int) - 1 = 4 from rfl, Bz_4]
          exact K1 l4 l5
        generalize Lz V (i - 1) = L at hih hlb hdone ⊢
        generalize Ez V (i - 1) = E at hih hdone ⊢
        generalize Bz V P (chk (bTr (dk.1 1) b s) (V 0) 0 99 (P 0)) (i - 1) = B at hih hdone ⊢
        refine z_iload (pc := 29) h dX4_readBringer_29 rfl ?_
        refine z_iconst (pc := 31) h dX4_readBringer_31 ?_
        refine z_icmp_gt (pc := 32) (tgt := 96) h (by omega) (by omega) dX4_readBringer_32 (by decide) (fun c32 => ?_) (fun c32 => ?_)
        · exact hdone (by omega) _ _
        · have hvi := hvp i (by omega) (by omega)
          have hvbi := hvb i (by omega) (by omega)
          have hwd : wj V i = if V i ≤ 15 then V i else 0 := rfl
          have hyi := hyv (chk B (V i) 0 15 (P i)) i (by omega) (by omega)
          refine z_aloadR_n (pc := 35) h dX4_readBringer_35 rfl ?_
          refine z_iload (pc := 36) h dX4_readBringer_36 rfl ?_
          refine z_iconst (pc := 38) h dX4_readBringer_38 ?_
          refine z_bipush (pc := 39) h dX4_readBringer_39 (by decide) ?_
          refine z_vV (pc := 41) (c := 4) h (c_chk (by omega) hvi.1 hvi.2 hvbi (hpb i (by omega)) (by omega) (by omega)) (by decide) (by first | assumption | rfl) rfl mv_X4_checkNumber ml_X4_129 rfl dX4_readBringer_41 rfl (Nat.le_of_ble_eq_true rfl) ?_
          refine z_iload_n (pc := 44) h dX4_readBringer_44 rfl ?_
          refine z_aloadR_n (pc := 45) h dX4_readBringer_45 rfl ?_
          refine z_getA4 (pc := 46) (c := 4) (j := 2) h (by first | assumption | rfl) rfl rfl fl_X4_18 dX4_readBringer_46 ?_
          refine z_iload (pc := 49) h dX4_readBringer_49 rfl ?_
          refine z_ialdq (pc := 51) (c := 4) (j := 2) (L := 5) h (zo_s _ _ _) (by first | assumption | rfl) (by decide) rfl (by decide) (by omega) (by omega) dX4_readBringer_51 (fun g51 => ?_)
          refine z_bipush (pc := 52) h dX4_readBringer_52 (by decide) ?_
          rw [hyi]
          refine z_icmp_gt (pc := 54) (tgt := 67) h (by omega) (by omega) dX4_readBringer_54 (by decide) (fun c54 => ?_) (fun c54 => ?_)
          · refine z_iconst (pc := 67) h dX4_readBringer_67 ?_
            try rw [hyi]
            refine z_iadd (pc := 68) h dX4_readBringer_68 ?_
            refine z_ist_2 (pc := 69) h dX4_readBringer_69 (by decide) rfl ?_
            refine z_iload_n (pc := 70) h dX4_readBringer_70 rfl ?_
            refine z_if_eq (pc := 71) (tgt := 88) h (by omega) dX4_readBringer_71 (by decide) (fun c71 => ?_) (fun c71 => ?_)
            · have c71 := zb0 c71
              refine z_iconst (pc := 88) h dX4_readBringer_88 ?_
              refine z_ist_3 (pc := 89) h dX4_readBringer_89 (by decide) rfl ?_
              refine z_inc_4 (pc := 90) h dX4_readBringer_90 (by decide) rfl ?_
              refine z_goto (pc := 93) (tgt := 29) h dX4_readBringer_93 (by decide) ?_
              have qw : (V i ≤ 15 ∧ wj V i = V i) ∨ (¬ V i ≤ 15 ∧ wj V i = 0) := by
                rw [hwd]
                by_cases q : V i ≤ 15
                · exact Or.inl ⟨q, if_pos q⟩
                · exact Or.inr ⟨q, if_neg q⟩
              first
              | (exfalso; omega)
              | (have ed := decide_eq_true c81; have ew : wj V i = V i := by omega
                 rw [ew, c71, ed] at hih; exact hih (by omega) (by omega))
              | (have ed := decide_eq_false c81; have ew : wj V i = V i := by omega
                 rw [ew, c71, ed] at hih; exact hih (by omega) (by omega))
              | (have ed := decide_eq_false c81; have ew : wj V i = 0 := by omega
                 rw [ew, c71, ed] at hih; exact hih (by omega) (by omega))
              | (have ew : wj V i = V i := by omega
                 rw [ew, c71, Bool.false_and] at hih; exact hih (by omega) (by omega))
              | (have ew : wj V i = 0 := by omega
                 rw [ew, c71, Bool.false_and] at hih; exact hih (by omega) (by omega))
            · have c71 := zb1 c71
              refine z_aloadR_n (pc := 74) h dX4_readBringer_74 rfl ?_
              refine z_getA4 (pc := 75) (c := 4) (j := 2) h (by first | assumption | rfl) rfl rfl fl_X4_18 dX4_readBringer_75 ?_
              refine z_iload (pc := 78) h dX4_readBringer_78 rfl ?_
              refine z_ialdq (pc := 80) (c := 4) (j := 2) (L := 5) h (zo_s _ _ _) (by first | assumption | rfl) (by decide) rfl (by decide) (by omega) (by omega) dX4_readBringer_80 (fun g80 => ?_)
              rw [hyi]
              refine z_if_ne (pc := 81) (tgt := 88) h (by omega) dX4_readBringer_81 (by decide) (fun c81 => ?_) (fun c81 => ?_)
              · refine z_iconst (pc := 88) h dX4_readBringer_88 ?_
                refine z_ist_3 (pc := 89) h dX4_readBringer_89 (by decide) rfl ?_
                refine z_inc_4 (pc := 90) h dX4_readBringer_90 (by decide) rfl ?_
                refine z_goto (pc := 93) (tgt := 29) h dX4_readBringer_93 (by decide) ?_
                have qw : (V i ≤ 15 ∧ wj V i = V i) ∨ (¬ V i ≤ 15 ∧ wj V i = 0) := by
                  rw [hwd]
                  by_cases q : V i ≤ 15
                  · exact Or.inl ⟨q, if_pos q⟩
                  · exact Or.inr ⟨q, if_neg q⟩
                first
                | (exfalso; omega)
                | (have ed := decide_eq_true c81; have ew : wj V i = V i := by omega
                   rw [ew, c71, ed] at hih; exact hih (by omega) (by omega))
                | (have ed := decide_eq_false c81; have ew : wj V i = V i := by omega
                   rw [ew, c71, ed] at hih; exact hih (by omega) (by omega))
                | (have ed := decide_eq_false c81; have ew : wj V i = 0 := by omega
                   rw [ew, c71, ed] at hih; exact hih (by omega) (by omega))
                | (have ew : wj V i = V i := by omega
                   rw [ew, c71, Bool.false_and] at hih; exact hih (by omega) (by omega))
                | (have ew : wj V i = 0 := by omega
                   rw [ew, c71, Bool.false_and] at hih; exact hih (by omega) (by omega))
              · refine z_iconst (pc := 84) h dX4_readBringer_84 ?_
                refine z_goto (pc := 85) (tgt := 89) h dX4_readBringer_85 (by decide) ?_
                refine z_ist_3 (pc := 89) h dX4_readBringer_89 (by decide) rfl ?_
                refine z_inc_4 (pc := 90) h dX4_readBringer_90 (by decide) rfl ?_
                refine z_goto (pc := 93) (tgt := 29) h dX4_readBringer_93 (by decide) ?_
                have qw : (V i ≤ 15 ∧ wj V i = V i) ∨ (¬ V i ≤ 15 ∧ wj V i = 0) := by
                  rw [hwd]
                  by_cases q : V i ≤ 15
                  · exact Or.inl ⟨q, if_pos q⟩
                  · exact Or.inr ⟨q, if_neg q⟩
                first
                | (exfalso; omega)
                | (have ed := decide_eq_true c81; have ew : wj V i = V i := by omega
                   rw [ew, c71, ed] at hih; exact hih (by omega) (by omega))
                | (have ed := decide_eq_false c81; have ew : wj V i = V i := by omega
                   rw [ew, c71, ed] at hih; exact hih (by omega) (by omega))
                | (have ed := decide_eq_false c81; have ew : wj V i = 0 := by omega
                   rw [ew, c71, ed] at hih; exact hih (by omega) (by omega))
                | (have ew : wj V i = V i := by omega
                   rw [ew, c71, Bool.false_and] at hih; exact hih (by omega) (by omega))
                | (have ew : wj V i = 0 := by omega
                   rw [ew, c71, Bool.false_and] at hih; exact hih (by omega) (by omega))
          · refine z_aloadR_n (pc := 57) h dX4_readBringer_57 rfl ?_
            refine z_getA4 (pc := 58) (c := 4) (j := 2) h (by first | assumption | rfl) rfl rfl fl_X4_18 dX4_readBringer_58 ?_
            refine z_iload (pc := 61) h dX4_readBringer_61 rfl ?_
            refine z_ialdq (pc := 63) (c := 4) (j := 2) (L := 5) h (zo_s _ _ _) (by first | assumption | rfl) (by decide) rfl (by decide) (by omega) (by omega) dX4_readBringer_63 (fun g63 => ?_)
            refine z_goto (pc := 64) (tgt := 68) h dX4_readBringer_64 (by decide) ?_
            try rw [hyi]
            refine z_iadd (pc := 68) h dX4_readBringer_68 ?_
            refine z_ist_2 (pc := 69) h dX4_readBringer_69 (by decide) rfl ?_
            refine z_iload_n (pc := 70) h dX4_readBringer_70 rfl ?_
            refine z_if_eq (pc := 71) (tgt := 88) h (by omega) dX4_readBringer_71 (by decide) (fun c71 => ?_) (fun c71 => ?_)
            · have c71 := zb0 c71
              refine z_iconst (pc := 88) h dX4_readBringer_88 ?_
              refine z_ist_3 (pc := 89) h dX4_readBringer_89 (by decide) rfl ?_
              refine z_inc_4 (pc := 90) h dX4_readBringer_90 (by decide) rfl ?_
              refine z_goto (pc := 93) (tgt := 29) h dX4_readBringer_93 (by decide) ?_
              have qw : (V i ≤ 15 ∧ wj V i = V i) ∨ (¬ V i ≤ 15 ∧ wj V i = 0) := by
                rw [hwd]
                by_cases q : V i ≤ 15
                · exact Or.inl ⟨q, if_pos q⟩
                · exact Or.inr ⟨q, if_neg q⟩
              first
              | (exfalso; omega)
              | (have ed := decide_eq_true c81; have ew : wj V i = V i := by omega
                 rw [ew, c71, ed] at hih; exact hih (by omega) (by omega))
              | (have ed := decide_eq_false c81; have ew : wj V i = V i := by omega
                 rw [ew, c71, ed] at hih; exact hih (by omega) (by omega))
              | (have ed := decide_eq_false c81; have ew : wj V i = 0 := by omega
                 rw [ew, c71, ed] at hih; exact hih (by omega) (by omega))
              | (have ew : wj V i = V i := by omega
                 rw [ew, c71, Bool.false_and] at hih; exact hih (by omega) (by omega))
              | (have ew : wj V i = 0 := by omega
                 rw [ew, c71, Bool.false_and] at hih; exact hih (by omega) (by omega))
            · have c71 := zb1 c71
              refine z_aloadR_n (pc := 74) h dX4_readBringer_74 rfl ?_
              refine z_getA4 (pc := 75) (c := 4) (j := 2) h (by first | assumption | rfl) rfl rfl fl_X4_18 dX4_readBringer_75 ?_
              refine z_iload (pc := 78) h dX4_readBringer_78 rfl ?_
              refine z_ialdq (pc := 80) (c := 4) (j := 2) (L := 5) h (zo_s _ _ _) (by first | assumption | rfl) (by decide) rfl (by decide) (by omega) (by omega) dX4_readBringer_80 (fun g80 => ?_)
              rw [hyi]
              refine z_if_ne (pc := 81) (tgt := 88) h (by omega) dX4_readBringer_81 (by decide) (fun c81 => ?_) (fun c81 => ?_)
              · refine z_iconst (pc := 88) h dX4_readBringer_88 ?_
                refine z_ist_3 (pc := 89) h dX4_readBringer_89 (by decide) rfl ?_
                refine z_inc_4 (pc := 90) h dX4_readBringer_90 (by decide) rfl ?_
                refine z_goto (pc := 93) (tgt := 29) h dX4_readBringer_93 (by decide) ?_
                have qw : (V i ≤ 15 ∧ wj V i = V i) ∨ (¬ V i ≤ 15 ∧ wj V i = 0) := by
                  rw [hwd]
                  by_cases q : V i ≤ 15
                  · exact Or.inl ⟨q, if_pos q⟩
                  · exact Or.inr ⟨q, if_neg q⟩
                first
                | (exfalso; omega)
                | (have ed := decide_eq_true c81; have ew : wj V i = V i := by omega
                   rw [ew, c71, ed] at hih; exact hih (by omega) (by omega))
                | (have ed := decide_eq_false c81; have ew : wj V i = V i := by omega
                   rw [ew, c71, ed] at hih; exact hih (by omega) (by omega))
                | (have ed := decide_eq_false c81; have ew : wj V i = 0 := by omega
                   rw [ew, c71, ed] at hih; exact hih (by omega) (by omega))
                | (have ew : wj V i = V i := by omega
                   rw [ew, c71, Bool.false_and] at hih; exact hih (by omega) (by omega))
                | (have ew : wj V i = 0 := by omega
                   rw [ew, c71, Bool.false_and] at hih; exact hih (by omega) (by omega))
              · refine z_iconst (pc := 84) h dX4_readBringer_84 ?_
                refine z_goto (pc := 85) (tgt := 89) h dX4_readBringer_85 (by decide) ?_
                refine z_ist_3 (pc := 89) h dX4_readBringer_89 (by decide) rfl ?_
                refine z_inc_4 (pc := 90) h dX4_readBringer_90 (by decide) rfl ?_
                refine z_goto (pc := 93) (tgt := 29) h dX4_readBringer_93 (by decide) ?_
                have qw : (V i ≤ 15 ∧ wj V i = V i) ∨ (¬ V i ≤ 15 ∧ wj V i = 0) := by
                  rw [hwd]
                  by_cases q : V i ≤ 15
                  · exact Or.inl ⟨q, if_pos q⟩
                  · exact Or.inr ⟨q, if_neg q⟩
                first
                | (exfalso; omega)
                | (have ed := decide_eq_true c81; have ew : wj V i = V i := by omega
                   rw [ew, c71, ed] at hih; exact hih (by omega) (by omega))
                | (have ed := decide_eq_false c81; have ew : wj V i = V i := by omega
                   rw [ew, c71, ed] at hih; exact hih (by omega) (by omega))
                | (have ed := decide_eq_false c81; have ew : wj V i = 0 := by omega
                   rw [ew, c71, ed] at hih; exact hih (by omega) (by omega))
                | (have ew : wj V i = V i := by omega
                   rw [ew, c71, Bool.false_and] at hih; exact hih (by omega) (by omega))
                | (have ew : wj V i = 0 := by omega
                   rw [ew, c71, Bool.false_and] at hih; exact hih (by omega) (by omega))
    have v0 := hvp 0 (by omega) (by omega)
    refine z_aloadR_n (pc := 9) h dX4_readBringer_9 rfl ?_
    refine z_iload_n (pc := 10) h dX4_readBringer_10 rfl ?_
    refine z_vV (pc := 11) (c := 4) h (c_checkTruckCount (by omega)) (by decide) (by first | assumption | rfl) rfl mv_X4_checkTruckCount ml_X4_136 rfl dX4_readBringer_11 rfl (Nat.le_of_ble_eq_true rfl) ?_
    rw [hb45]
    refine z_aloadR_n (pc := 14) h dX4_readBringer_14 rfl ?_
    refine z_iconst (pc := 15) h dX4_readBringer_15 ?_
    refine z_iconst (pc := 16) h dX4_readBringer_16 ?_
    refine z_bipush (pc := 17) h dX4_readBringer_17 (by decide) ?_
    refine z_vV (pc := 19) (c := 4) h (c_chk (by omega) v0.1 v0.2 (hvb 0 (by omega) (by omega)) (hpb 0 (by omega)) (by omega) (by omega)) (by decide) (by first | assumption | rfl) rfl mv_X4_checkNumber ml_X4_129 rfl dX4_readBringer_19 rfl (Nat.le_of_ble_eq_true rfl) ?_
    refine z_iconst (pc := 22) h dX4_readBringer_22 ?_
    refine z_ist_2 (pc := 23) h dX4_readBringer_23 (by decide) rfl ?_
    refine z_iconst (pc := 24) h dX4_readBringer_24 ?_
    refine z_ist_3 (pc := 25) h dX4_readBringer_25 (by decide) rfl ?_
    refine z_iconst (pc := 26) h dX4_readBringer_26 ?_
    refine z_ist_4 (pc := 27) h dX4_readBringer_27 (by decide) rfl ?_
    exact K0 5 1 _ (by omega) (by omega) (by omega)
  refine z_aloadR_n (pc := 0) h dX4_readBringer_0 rfl ?_
  refine z_iconst (pc := 1) h dX4_readBringer_1 ?_
  refine z_callV (pc := 2) (c := 4) h (w_takesNumbers hf hn h4 (by omega) hT) (by decide) (by first | assumption | rfl) rfl mv_X4_takesNumbers ml_X4_123 rfl dX4_readBringer_2 rfl (Nat.le_of_ble_eq_true rfl) (fun r2 τ2 q2 => ?_)
  obtain ⟨rfl, y1, rfl, hNR⟩ := q2
  refine z_ifneB (pc := 5) (tgt := 9) h dX4_readBringer_5 (by decide) (fun c5 => ?_) (fun c5 => ?_)
  · exact M y1 hNR c5
  · refine z_ret (pc := 8) h rfl dX4_readBringer_8 ?_
    exact ⟨rfl, y1, dk, rfl, num_w hNR (of_decide_eq_false c5)⟩
