/-! The class: readStatement, follow. -/
def prs (f : Int → Int) (n : Int) : Nat → ST → Sum Int ST
  | 0, S => .inr S
  | k + 1, S => if tK f n S.1 = 0 then .inr S else match stm f n S with
    | .inl p => .inl p
    | .inr S' => prs f n k S'
theorem tW_k {f : Int → Int} {n q : Int} {i : Nat} (h : tW f n q i = true) : tK f n q = 1 := (of_decide_eq_true h).1
theorem num_q {f : Int → Int} {n q c : Int} {S S' : ST} (h0 : 0 ≤ q) (h1 : q ≤ n) (hc : 0 ≤ c) (h : num f n q c S = .inr S') (hS : S.1 = nQ f n q (c + 1)) : q ≤ S'.1 ∧ S'.1 ≤ n := by
  unfold num at h
  split at h
  · cases h
    rw [hS]
    exact nQ_b h0 h1 (by omega)
  · cases h
theorem stm_q {f : Int → Int} {n : Int} {S S' : ST} (h0 : 0 ≤ S.1) (h1 : S.1 ≤ n) (hk : tK f n S.1 ≠ 0) (h : stm f n S = .inr S') : S.1 < S'.1 ∧ S'.1 ≤ n := by
  have a := tE_b (f := f) h1
  have b := tS_b (f := f) h1
  have d := a.2.2 hk
  have key : ∀ q, 0 ≤ q → q ≤ n → S.1 < q → ∀ c T, 0 ≤ c → T.1 = nQ f n q (c + 1) → num f n q c T = .inr S' → S.1 < S'.1 ∧ S'.1 ≤ n := fun q q0 q1 q2 c T c0 e z => by
    have := num_q q0 q1 c0 z e
    omega
  unfold stm at h
  split at h
  · unfold sDoor at h
    split at h
    · have e := tE_b (f := f) a.2.1
      have e2 := tS_b (f := f) a.2.1
      exact key _ (by omega) (by omega) (by omega) 1 _ (by omega) rfl h
    · cases h
  · split at h
    · exact key _ (by omega) (by omega) (by omega) 5 _ (by omega) rfl h
    · split at h
      · exact key _ (by omega) (by omega) (by omega) 5 _ (by omega) rfl h
      · split at h
        · exact key _ (by omega) (by omega) (by omega) 1 _ (by omega) rfl h
        · split at h
          · exact key _ (by omega) (by omega) (by omega) 1 _ (by omega) rfl h
          · cases h
theorem c_readStatement {σ : zS} {r dk : zOb} {f : Int → Int} {n : Int} {S : ST} (hf : (σ 1).2 0 = f) (hn : (σ 1).1 1 = n) (h4 : n ≤ 400) (hC : CI f n S r dk) : zC M_X4_readStatement 7 [zR 2] (zo (zo σ 3 dk) 2 r) (fun rr τ' => rr = none ∧ ∃ r' dk', τ' = zo (zo σ 3 dk') 2 r' ∧ CO f n (stm f n S) r' dk') := by
  obtain ⟨hT, hJ⟩ := hC
  have hb := hT.b
  have hq := hT.1
  have hE := tE_b (f := f) hq.2
  have e7 := hT.2.2.1
  have hlt : ∀ i, tW f n S.1 i = true → 0 ≤ tS f n S.1 ∧ tS f n S.1 < tE f n S.1 := fun i z => by
    have := hE.2.2 (by rw [tW_k z]; decide)
    omega
  refine zC_of (M := M_X4_readStatement) (ls := [some (zR 2), none]) (n := 1) (by decide) (fun ad => Nat.le_of_ble_eq_true rfl) rfl (fun x h => ?_)
  unfold stm
  refine z_aloadR_n (pc := 0) h dX4_readStatement_0 rfl ?_
  refine z_getIq (pc := 1) (c := 4) (j := 7) h (zo_s _ _ _) (by first | assumption | rfl) rfl rfl fl_X4_68 dX4_readStatement_1 (fun g1 => ?_)
  rw [e7]
  refine z_ist_1 (pc := 4) h dX4_readStatement_4 (by decide) rfl ?_
  refine z_aloadR_n (pc := 5) h dX4_readStatement_5 rfl ?_
  refine z_ldcT (pc := 6) h (i := 0) (by decide) dX4_readStatement_6 ?_
  refine z_callV (pc := 8) (c := 4) h (w_takesWord hf hn h4 (by decide) hT) (by decide) (by first | assumption | rfl) rfl mv_X4_takesWord ml_X4_95 rfl dX4_readStatement_8 rfl (Nat.le_of_ble_eq_true rfl) (fun r8 τ8 q8 => ?_)
  obtain ⟨rfl, r1, rfl, hK1, hT1⟩ := q8
  refine z_ifeqB (pc := 11) (tgt := 22) h dX4_readStatement_11 (by decide) (fun c11 => ?_) (fun c11 => ?_)
  · rw [c11, if_neg (by decide)] at hT1
    rw [c11, if_neg (by decide)]
    subst hT1
    refine z_aloadR_n (pc := 22) h dX4_readStatement_22 rfl ?_
    refine z_ldcT (pc := 23) h (i := 1) (by decide) dX4_readStatement_23 ?_
    refine z_callV (pc := 25) (c := 4) h (w_takesWord hf hn h4 (by decide) hT) (by decide) (by first | assumption | rfl) rfl mv_X4_takesWord ml_X4_95 rfl dX4_readStatement_25 rfl (Nat.le_of_ble_eq_true rfl) (fun r25 τ25 q25 => ?_)
    obtain ⟨rfl, r2, rfl, hK2, hT2⟩ := q25
    refine z_ifeqB (pc := 28) (tgt := 39) h dX4_readStatement_28 (by decide) (fun c28 => ?_) (fun c28 => ?_)
    · rw [c28, if_neg (by decide)] at hT2
      rw [c28, if_neg (by decide)]
      subst hT2
      refine z_aloadR_n (pc := 39) h dX4_readStatement_39 rfl ?_
      refine z_ldcT (pc := 40) h (i := 2) (by decide) dX4_readStatement_40 ?_
      refine z_callV (pc := 42) (c := 4) h (w_takesWord hf hn h4 (by decide) hT) (by decide) (by first | assumption | rfl) rfl mv_X4_takesWord ml_X4_95 rfl dX4_readStatement_42 rfl (Nat.le_of_ble_eq_true rfl) (fun r42 τ42 q42 => ?_)
      obtain ⟨rfl, r3, rfl, hK3, hT3⟩ := q42
      refine z_ifeqB (pc := 45) (tgt := 56) h dX4_readStatement_45 (by decide) (fun c45 => ?_) (fun c45 => ?_)
      · rw [c45, if_neg (by decide)] at hT3
        rw [c45, if_neg (by decide)]
        subst hT3
        refine z_aloadR_n (pc := 56) h dX4_readStatement_56 rfl ?_
        refine z_ldcT (pc := 57) h (i := 3) (by decide) dX4_readStatement_57 ?_
        refine z_callV (pc := 59) (c := 4) h (w_takesWord hf hn h4 (by decide) hT) (by decide) (by first | assumption | rfl) rfl mv_X4_takesWord ml_X4_95 rfl dX4_readStatement_59 rfl (Nat.le_of_ble_eq_true rfl) (fun r59 τ59 q59 => ?_)
        obtain ⟨rfl, r4, rfl, hK4, hT4⟩ := q59
        refine z_ifeqB (pc := 62) (tgt := 72) h dX4_readStatement_62 (by decide) (fun c62 => ?_) (fun c62 => ?_)
        · rw [c62, if_neg (by decide)] at hT4
          rw [c62, if_neg (by decide)]
          subst hT4
          refine z_aloadR_n (pc := 72) h dX4_readStatement_72 rfl ?_
          refine z_ldcT (pc := 73) h (i := 4) (by decide) dX4_readStatement_73 ?_
          refine z_callV (pc := 75) (c := 4) h (w_takesWord hf hn h4 (by decide) hT) (by decide) (by first | assumption | rfl) rfl mv_X4_takesWord ml_X4_95 rfl dX4_readStatement_75 rfl (Nat.le_of_ble_eq_true rfl) (fun r75 τ75 q75 => ?_)
          obtain ⟨rfl, r5, rfl, hK5, hT5⟩ := q75
          refine z_ifeqB (pc := 78) (tgt := 88) h dX4_readStatement_78 (by decide) (fun c78 => ?_) (fun c78 => ?_)
          · rw [c78, if_neg (by decide)] at hT5
            rw [c78, if_neg (by decide)]
            subst hT5
            refine z_aloadR_n (pc := 88) h dX4_readStatement_88 rfl ?_
            refine z_iconst (pc := 89) h dX4_readStatement_89 ?_
            refine z_aloadR_n (pc := 90) h dX4_readStatement_90 rfl ?_
            refine z_getIq (pc := 91) (c := 4) (j := 7) h (zo_s _ _ _) (by first | assumption | rfl) rfl rfl fl_X4_68 dX4_readStatement_91 (fun g91 => ?_)
            rw [e7]
            refine z_vV (pc := 94) (c := 4) h (c_note1 (by omega)) (by decide) (by first | assumption | rfl) rfl mv_X4_note ml_X4_90 rfl dX4_readStatement_94 rfl (Nat.le_of_ble_eq_true rfl) ?_
            refine z_ret (pc := 97) h rfl dX4_readStatement_97 ?_
            first
            | exact ⟨rfl, y, dy, rfl, hO⟩
            | exact ⟨rfl, _, dk, rfl, rfl, rfl⟩
          · rw [if_pos c78] at hT5
            rw [if_pos c78]
            refine z_aloadR_n (pc := 81) h dX4_readStatement_81 rfl ?_
            refine z_callV (pc := 82) (c := 4) h (c_readChange hf hn h4 hT5 (hlt 4 c78) (hJ.kr hK5)) (by decide) (by first | assumption | rfl) rfl mv_X4_readChange ml_X4_120 rfl dX4_readStatement_82 rfl (Nat.le_of_ble_eq_true rfl) (fun r82 τ82 q82 => ?_)
            obtain ⟨rfl, y, dy, rfl, hO⟩ := q82
            refine z_goto (pc := 85) (tgt := 97) h dX4_readStatement_85 (by decide) ?_
            refine z_ret (pc := 97) h rfl dX4_readStatement_97 ?_
            first
            | exact ⟨rfl, y, dy, rfl, hO⟩
            | exact ⟨rfl, _, dk, rfl, rfl, rfl⟩
        · rw [if_pos c62] at hT4
          rw [if_pos c62]
          refine z_aloadR_n (pc := 65) h dX4_readStatement_65 rfl ?_
          refine z_callV (pc := 66) (c := 4) h (c_readStaging hf hn h4 hT4 (hlt 3 c62) (hJ.kr hK4)) (by decide) (by first | assumption | rfl) rfl mv_X4_readStaging ml_X4_115 rfl dX4_readStatement_66 rfl (Nat.le_of_ble_eq_true rfl) (fun r66 τ66 q66 => ?_)
          obtain ⟨rfl, y, dy, rfl, hO⟩ := q66
          refine z_goto (pc := 69) (tgt := 97) h dX4_readStatement_69 (by decide) ?_
          refine z_ret (pc := 97) h rfl dX4_readStatement_97 ?_
          first
          | exact ⟨rfl, y, dy, rfl, hO⟩
          | exact ⟨rfl, _, dk, rfl, rfl, rfl⟩
      · rw [if_pos c45] at hT3
        rw [if_pos c45]
        refine z_aloadR_n (pc := 48) h dX4_readStatement_48 rfl ?_
        refine z_iload_n (pc := 49) h dX4_readStatement_49 rfl ?_
        refine z_callV (pc := 50) (c := 4) h (c_readTaker hf hn h4 hT3 (hlt 2 c45) (hJ.kr hK3)) (by decide) (by first | assumption | rfl) rfl mv_X4_readTaker ml_X4_110 rfl dX4_readStatement_50 rfl (Nat.le_of_ble_eq_true rfl) (fun r50 τ50 q50 => ?_)
        obtain ⟨rfl, y, dy, rfl, hO⟩ := q50
        refine z_goto (pc := 53) (tgt := 97) h dX4_readStatement_53 (by decide) ?_
        refine z_ret (pc := 97) h rfl dX4_readStatement_97 ?_
        first
        | exact ⟨rfl, y, dy, rfl, hO⟩
        | exact ⟨rfl, _, dk, rfl, rfl, rfl⟩
    · rw [if_pos c28] at hT2
      rw [if_pos c28]
      refine z_aloadR_n (pc := 31) h dX4_readStatement_31 rfl ?_
      refine z_iload_n (pc := 32) h dX4_readStatement_32 rfl ?_
      refine z_callV (pc := 33) (c := 4) h (c_readBringer hf hn h4 hT2 (hlt 1 c28) (hJ.kr hK2)) (by decide) (by first | assumption | rfl) rfl mv_X4_readBringer ml_X4_105 rfl dX4_readStatement_33 rfl (Nat.le_of_ble_eq_true rfl) (fun r33 τ33 q33 => ?_)
      obtain ⟨rfl, y, dy, rfl, hO⟩ := q33
      refine z_goto (pc := 36) (tgt := 97) h dX4_readStatement_36 (by decide) ?_
      refine z_ret (pc := 97) h rfl dX4_readStatement_97 ?_
      first
      | exact ⟨rfl, y, dy, rfl, hO⟩
      | exact ⟨rfl, _, dk, rfl, rfl, rfl⟩
  · rw [if_pos c11] at hT1
    rw [if_pos c11]
    refine z_aloadR_n (pc := 14) h dX4_readStatement_14 rfl ?_
    refine z_iload_n (pc := 15) h dX4_readStatement_15 rfl ?_
    refine z_callV (pc := 16) (c := 4) h (c_readDoor hf hn h4 hT1 (hlt 0 c11) (hJ.kr hK1)) (by decide) (by first | assumption | rfl) rfl mv_X4_readDoor ml_X4_99 rfl dX4_readStatement_16 rfl (Nat.le_of_ble_eq_true rfl) (fun r16 τ16 q16 => ?_)
    obtain ⟨rfl, y, dy, rfl, hO⟩ := q16
    refine z_goto (pc := 19) (tgt := 97) h dX4_readStatement_19 (by decide) ?_
    refine z_ret (pc := 97) h rfl dX4_readStatement_97 ?_
    first
    | exact ⟨rfl, y, dy, rfl, hO⟩
    | exact ⟨rfl, _, dk, rfl, rfl, rfl⟩
/-- how the class ends -/
def CF (R : Sum Int ST) (r dk : zOb) : Prop := match R with
  | .inl p => r.1 4 = 1 ∧ r.1 5 = p
  | .inr S => (r.1 4, r.1 5) = S.2.2.2 ∧ (S.2.2.2.1 = 0 → TOLD S.2.1 dk)
theorem c_follow {σ : zS} {r dk : zOb} {f a0 : Int → Int} {n : Int} (hf : (σ 1).2 0 = f) (hn : (σ 1).1 1 = n) (h0 : 0 ≤ n) (h4 : n ≤ 400) (ha : ∀ i, 0 ≤ i → i < 119 → a0 i = if i = 2 then 10 else if i = 3 then 2 else 0) : zC M_X4_follow 8 [zR 2] (zo (zo σ 3 dk) 2 r) (fun rr τ' => rr = none ∧ ∃ r' dk', τ' = zo (zo σ 3 dk') 2 r' ∧ CF (prs f n 401 (0, a0, 0, (0, -1))) r' dk') := by
  refine zC_of (M := M_X4_follow) (ls := [some (zR 2), none]) (n := 1) (by decide) (fun ad => Nat.le_of_ble_eq_true rfl) rfl (fun x h => ?_)
  have E : ∀ (i : Int) (y dy : zOb), 0 ≤ i → i ≤ 400 → y.1 4 = 1 → CF (prs f n 401 (0, a0, 0, (0, -1))) y dy → zW x (fun rr τ' => rr = none ∧ ∃ r' dk', τ' = zo (zo σ 3 dk') 2 r' ∧ CF (prs f n 401 (0, a0, 0, (0, -1))) r' dk') 28 [some (zR 2), some (zI i)] [] (zo (zo σ 3 dy) 2 y) := by
    intro i y dy h1 h2 h3 hc
    refine z_iload_n (pc := 28) h dX4_follow_28 rfl ?_
    refine z_sipush (pc := 29) h dX4_follow_29 (by decide) ?_
    refine z_icmp_ge (pc := 32) (tgt := 60) h (by omega) (by omega) dX4_follow_32 (by decide) (fun c32 => ?_) (fun c32 => ?_)
    · refine z_ret (pc := 60) h rfl dX4_follow_60 ?_
      exact ⟨rfl, y, dy, rfl, hc⟩
    · refine z_aloadR_n (pc := 35) h dX4_follow_35 rfl ?_
      refine z_getIq (pc := 36) (c := 4) (j := 8) h (zo_s _ _ _) (by first | assumption | rfl) rfl rfl fl_X4_45 dX4_follow_36 (fun g36 => ?_)
      refine z_if_eq (pc := 39) (tgt := 60) h (by omega) dX4_follow_39 (by decide) (fun c39 => ?_) (fun c39 => ?_)
      · refine z_ret (pc := 60) h rfl dX4_follow_60 ?_
        exact ⟨rfl, y, dy, rfl, hc⟩
      · refine z_aloadR_n (pc := 42) h dX4_follow_42 rfl ?_
        refine z_getIq (pc := 43) (c := 4) (j := 4) h (zo_s _ _ _) (by first | assumption | rfl) rfl rfl fl_X4_36 dX4_follow_43 (fun g43 => ?_)
        refine z_iconst (pc := 46) h dX4_follow_46 ?_
        refine z_icmp_eq (pc := 47) (tgt := 60) h (by omega) (by omega) dX4_follow_47 (by decide) (fun c47 => ?_) (fun c47 => ?_)
        · refine z_ret (pc := 60) h rfl dX4_follow_60 ?_
          exact ⟨rfl, y, dy, rfl, hc⟩
        · exact absurd h3 c47
  have L : ∀ (m : Nat) (i : Int) (S : ST) (y dy : zOb), 0 ≤ i → i ≤ 400 → 401 - i = m → i ≤ S.1 → CI f n S y dy → prs f n m S = prs f n 401 (0, a0, 0, (0, -1)) → zW x (fun rr τ' => rr = none ∧ ∃ r' dk', τ' = zo (zo σ 3 dk') 2 r' ∧ CF (prs f n 401 (0, a0, 0, (0, -1))) r' dk') 28 [some (zR 2), some (zI i)] [] (zo (zo σ 3 dy) 2 y) := by
    intro m
    induction m with
    | zero => intro i S y dy h1 h2 h3; omega
    | succ m ih =>
      intro i S y dy h1 h2 h3 hiS hCI hp
      obtain ⟨hT, hJ⟩ := hCI
      have hb := hT.b
      have e8 := hT.2.2.2.1
      have h45 := hJ.1
      have h41 := hJ.2.2.1.2
      have e4 : y.1 4 = S.2.2.2.1 := congrArg Prod.fst h45
      have hstop : tK f n S.1 = 0 → CF (prs f n 401 (0, a0, 0, (0, -1))) y dy := by
        intro z
        rw [← hp]
        unfold prs
        rw [if_pos z]
        exact ⟨h45, fun w => (hJ.2.1 w).1⟩
      have hend : ¬ i < 400 → tK f n S.1 = 0 := by
        intro z
        have t := tS_b (f := f) hT.1.2
        have : ¬ tS f n S.1 < n := by omega
        unfold tK
        exact (tk0 this).2
      have hgo : tK f n S.1 ≠ 0 → (match stm f n S with | .inl p => Sum.inl p | .inr S' => prs f n m S') = prs f n 401 (0, a0, 0, (0, -1)) := by
        intro z
        rw [← hp]
        show _ = if _ then _ else _
        rw [if_neg z]
      refine z_iload_n (pc := 28) h dX4_follow_28 rfl ?_
      refine z_sipush (pc := 29) h dX4_follow_29 (by decide) ?_
      refine z_icmp_ge (pc := 32) (tgt := 60) h (by omega) (by omega) dX4_follow_32 (by decide) (fun c32 => ?_) (fun c32 => ?_)
      · refine z_ret (pc := 60) h rfl dX4_follow_60 ?_
        first
        | exact ⟨rfl, y, dy, rfl, hstop (hend (by omega))⟩
        | exact ⟨rfl, y, dy, rfl, hstop (by omega)⟩
        | (exfalso; omega)
      · refine z_aloadR_n (pc := 35) h dX4_follow_35 rfl ?_
        refine z_getIq (pc := 36) (c := 4) (j := 8) h (zo_s _ _ _) (by first | assumption | rfl) rfl rfl fl_X4_45 dX4_follow_36 (fun g36 => ?_)
        refine z_if_eq (pc := 39) (tgt := 60) h (by omega) dX4_follow_39 (by decide) (fun c39 => ?_) (fun c39 => ?_)
        · refine z_ret (pc := 60) h rfl dX4_follow_60 ?_
          first
          | exact ⟨rfl, y, dy, rfl, hstop (hend (by omega))⟩
          | exact ⟨rfl, y, dy, rfl, hstop (by omega)⟩
          | (exfalso; omega)
        · refine z_aloadR_n (pc := 42) h dX4_follow_42 rfl ?_
          refine z_getIq (pc := 43) (c := 4) (j := 4) h (zo_s _ _ _) (by first | assumption | rfl) rfl rfl fl_X4_36 dX4_follow_43 (fun g43 => ?_)
          refine z_iconst (pc := 46) h dX4_follow_46 ?_
          refine z_icmp_eq (pc := 47) (tgt := 60) h (by omega) (by omega) dX4_follow_47 (by decide) (fun c47 => ?_) (fun c47 => ?_)
          · refine z_ret (pc := 60) h rfl dX4_follow_60 ?_
            first
            | exact ⟨rfl, y, dy, rfl, hstop (hend (by omega))⟩
            | exact ⟨rfl, y, dy, rfl, hstop (by omega)⟩
            | (exfalso; omega)
          · refine z_aloadR_n (pc := 50) h dX4_follow_50 rfl ?_
            refine z_callV (pc := 51) (c := 4) h (c_readStatement hf hn h4 ⟨hT, hJ⟩) (by decide) (by first | assumption | rfl) rfl mv_X4_readStatement ml_X4_48 rfl dX4_follow_51 rfl (Nat.le_of_ble_eq_true rfl) (fun r51 τ51 q51 => ?_)
            obtain ⟨rfl, y2, dy2, rfl, hO⟩ := q51
            have hg := hgo (by omega)
            refine z_inc_1 (pc := 54) h dX4_follow_54 (by decide) rfl ?_
            refine z_goto (pc := 57) (tgt := 28) h dX4_follow_57 (by decide) ?_
            have hm : ∀ R, stm f n S = R → zW x (fun rr τ' => rr = none ∧ ∃ r' dk', τ' = zo (zo σ 3 dk') 2 r' ∧ CF (prs f n 401 (0, a0, 0, (0, -1))) r' dk') 28 [some (zR 2), some (zI (i + 1))] [] (zo (zo σ 3 dy2) 2 y2) := by
              intro R hR
              rw [hR] at hO hg
              cases R with
              | inl p =>
                exact E (i + 1) y2 dy2 (by omega) (by omega) hO.1 (by rw [← hg]; exact hO)
              | inr S' =>
                have hq := stm_q hT.1.1 hT.1.2 (by omega) hR
                exact ih (i + 1) S' y2 dy2 (by omega) (by omega) (by omega) (by omega) hO hg
            exact hm _ rfl
  have e1 : ∀ d r, (zo (zo σ 3 d) 2 r) 1 = σ 1 := fun d r => (zo_n (by decide)).trans (zo_n (by decide))
  refine z_aloadR_n (pc := 0) h dX4_follow_0 rfl ?_
  refine z_getR (pc := 1) (c := 4) (j := 1) (o2 := 3) h rfl (by first | assumption | rfl) rfl rfl fl_X4_12 dX4_follow_1 ?_
  rw [zo_comm (show (3 : Nat) ≠ 2 by decide)]
  refine z_vV (pc := 4) (c := 1) h (c_clearD) (by decide) (by first | assumption | rfl) rfl mv_X1_clear ml_X4_33 rfl dX4_follow_4 rfl (Nat.le_of_ble_eq_true rfl) ?_
  rw [zo_comm (show (2 : Nat) ≠ 3 by decide)]
  generalize hdc : oss (oss (oss (oss (oss dk 0 0) 1 0) 2 0) 3 10) 4 2 = dc
  have d0 : dc.1 0 = 0 ∧ dc.1 1 = 0 ∧ dc.1 2 = 0 ∧ dc.1 3 = 10 ∧ dc.1 4 = 2 := by rw [← hdc]; exact ⟨rfl, rfl, rfl, rfl, rfl⟩
  clear hdc
  refine z_aloadR_n (pc := 7) h dX4_follow_7 rfl ?_
  refine z_iconst (pc := 8) h dX4_follow_8 ?_
  refine z_putIo (pc := 9) (c := 4) (j := 4) h (by first | assumption | rfl) rfl rfl fl_X4_36 rfl (tyX4_ok 4 (by decide)) dX4_follow_9 (by omega) ?_
  refine z_aloadR_n (pc := 12) h dX4_follow_12 rfl ?_
  refine z_iconst (pc := 13) h dX4_follow_13 ?_
  refine z_putIo (pc := 14) (c := 4) (j := 5) h (by first | assumption | rfl) rfl rfl fl_X4_25 rfl (tyX4_ok 5 (by decide)) dX4_follow_14 (by omega) ?_
  refine z_aloadR_n (pc := 17) h dX4_follow_17 rfl ?_
  refine z_iconst (pc := 18) h dX4_follow_18 ?_
  refine z_putIo (pc := 19) (c := 4) (j := 6) h (by first | assumption | rfl) rfl rfl fl_X4_39 rfl (tyX4_ok 6 (by decide)) dX4_follow_19 (by omega) ?_
  generalize hyc : oss (oss (oss r 4 0) 5 (-1)) 6 0 = yc
  have y0 : yc.1 4 = 0 ∧ yc.1 5 = -1 ∧ yc.1 6 = 0 := by rw [← hyc]; exact ⟨rfl, rfl, rfl⟩
  clear hyc
  have ec : zo σ 3 dc 1 = σ 1 := zo_n (by decide)
  have hadv := c_advance (σ := zo σ 3 dc) (r := yc) (by rw [ec]; omega) (by rw [ec]; omega)
  rw [ec, hf, hn] at hadv
  refine z_aloadR_n (pc := 22) h dX4_follow_22 rfl ?_
  refine z_callV (pc := 23) (c := 4) h (hadv) (by decide) (by first | assumption | rfl) rfl mv_X4_advance ml_X4_42 rfl dX4_follow_23 rfl (Nat.le_of_ble_eq_true rfl) (fun r23 τ23 q23 => ?_)
  obtain ⟨rfl, r', rfl, hA⟩ := q23
  refine z_iconst (pc := 26) h dX4_follow_26 ?_
  refine z_ist_1 (pc := 27) h dX4_follow_27 (by decide) rfl ?_
  refine L 401 0 (0, a0, 0, (0, -1)) r' dc (by omega) (by omega) (by omega) (Int.le_refl 0) ⟨?_, ?_, fun _ => ⟨TOLD_0 ha d0.1 d0.2.1 d0.2.2.1 d0.2.2.2.1 d0.2.2.2.2, ?_⟩, ⟨fun z => absurd rfl z, by show ¬ (0 : Int) = 1; decide⟩, ⟨by omega, by omega, by omega, fun t t0 t1 => by omega⟩⟩ rfl
  · have := hA.tl (by omega) (by omega); rw [y0.2.2] at this; exact this
  · rw [hA.kr.1 4 (by omega), hA.kr.1 5 (by omega), y0.1, y0.2.1]
  · show (0 : Int) = a_fs a0 (a0 1); rw [ha 1 (by omega) (by omega)]; rfl
