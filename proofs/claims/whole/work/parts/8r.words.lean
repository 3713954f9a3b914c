/-! Words of the model: a long out of letters. -/
def sw (w : Int64) (c : Int) : Int64 := (w <<< ((Int32.ofInt 8).toInt64 &&& 63)) ||| (Int32.ofInt c).toInt64
theorem sw_t {w : Int64} {c : Int} (h0 : 0 ≤ w.toInt) (h1 : w.toInt < 36028797018963968) (c0 : 0 ≤ c) (c1 : c ≤ 255) : (sw w c).toInt = w.toInt * 256 + c := by
  have hw : (w.toBitVec.toNat : Int) = w.toInt := by
    have h2 : w.toBitVec.toInt = w.toInt := Int64.toInt_toBitVec w
    rw [BitVec.toInt_eq_toNat_cond] at h2
    have := w.toBitVec.isLt
    split at h2 <;> omega
  have hc : ((Int32.ofInt c).toInt64.toBitVec.toNat : Int) = c := by
    have h2 : (Int32.ofInt c).toInt64.toBitVec.toInt = c := by
      rw [Int64.toInt_toBitVec, Int32.toInt_toInt64, Int32.toInt_ofInt_of_le (by omega) (by omega)]
    rw [BitVec.toInt_eq_toNat_cond] at h2
    have := (Int32.ofInt c).toInt64.toBitVec.isLt
    split at h2 <;> omega
  have hs : ((Int32.ofInt 8).toInt64 &&& 63) = (8 : Int64) := by decide
  have h3 : (sw w c).toBitVec.toNat = w.toBitVec.toNat * 256 + (Int32.ofInt c).toInt64.toBitVec.toNat := by
    unfold sw
    rw [hs, Int64.toBitVec_or, BitVec.toNat_or, Int64.toBitVec_shiftLeft]
    have e : (w.toBitVec <<< ((8 : Int64).toBitVec.smod 64)).toNat = w.toBitVec.toNat <<< 8 := by
      show (w.toBitVec <<< (8 : Nat)).toNat = _
      rw [BitVec.toNat_shiftLeft, Nat.mod_eq_of_lt]
      rw [Nat.shiftLeft_eq]
      omega
    rw [e, ← Nat.shiftLeft_add_eq_or_of_lt (by omega), Nat.shiftLeft_eq]
  rw [← Int64.toInt_toBitVec, BitVec.toInt_eq_toNat_cond, h3]
  rw [if_pos (by omega)]
  omega
def wI (f : Int → Int) (s k : Int) : Int64 := zfor (fun i w => sw w (f (s + i) % 256)) k 0
def wS (f : Int → Int) (s k : Int) : Int := zfor (fun i a => a * 256 + f (s + i)) k 0
theorem wS_S (f : Int → Int) (s : Int) {k : Int} (h : 0 ≤ k) : wS f s (k + 1) = wS f s k * 256 + f (s + k) := zfor_S _ h 0
theorem wI_S (f : Int → Int) (s : Int) {k : Int} (h : 0 ≤ k) : wI f s (k + 1) = sw (wI f s k) (f (s + k) % 256) := zfor_S _ h 0
theorem wS_c (f : Int → Int) (s : Int) : wS f s 0 = 0 ∧ wS f s 1 = wS f s 0 * 256 + f (s + 0) ∧ wS f s 2 = wS f s 1 * 256 + f (s + 1) ∧ wS f s 3 = wS f s 2 * 256 + f (s + 2) ∧ wS f s 4 = wS f s 3 * 256 + f (s + 3) ∧ wS f s 5 = wS f s 4 * 256 + f (s + 4) ∧ wS f s 6 = wS f s 5 * 256 + f (s + 5) ∧ wS f s 7 = wS f s 6 * 256 + f (s + 6) ∧ wS f s 8 = wS f s 7 * 256 + f (s + 7) :=
  ⟨rfl, wS_S f s (show (0 : Int) ≤ 0 by omega), wS_S f s (show (0 : Int) ≤ 1 by omega), wS_S f s (show (0 : Int) ≤ 2 by omega), wS_S f s (show (0 : Int) ≤ 3 by omega), wS_S f s (show (0 : Int) ≤ 4 by omega), wS_S f s (show (0 : Int) ≤ 5 by omega), wS_S f s (show (0 : Int) ≤ 6 by omega), wS_S f s (show (0 : Int) ≤ 7 by omega)⟩
theorem wS_b {f : Int → Int} {s k : Int} (h0 : 0 ≤ k) (h1 : k ≤ 7) (hl : ∀ j, 0 ≤ j → j < k → 97 ≤ f (s + j) ∧ f (s + j) ≤ 122) : 0 ≤ wS f s k ∧ wS f s k < 36028797018963968 := by
  obtain ⟨e0, e1, e2, e3, e4, e5, e6, e7, e8⟩ := wS_c f s
  have hk : k = 0 ∨ k = 1 ∨ k = 2 ∨ k = 3 ∨ k = 4 ∨ k = 5 ∨ k = 6 ∨ k = 7 := by omega
  rcases hk with rfl | rfl | rfl | rfl | rfl | rfl | rfl | rfl
  · omega
  · have l0 := hl 0 (by omega) (by omega); omega
  · have l0 := hl 0 (by omega) (by omega); have l1 := hl 1 (by omega) (by omega); omega
  · have l0 := hl 0 (by omega) (by omega); have l1 := hl 1 (by omega) (by omega); have l2 := hl 2 (by omega) (by omega); omega
  · have l0 := hl 0 (by omega) (by omega); have l1 := hl 1 (by omega) (by omega); have l2 := hl 2 (by omega) (by omega); have l3 := hl 3 (by omega) (by omega); omega
  · have l0 := hl 0 (by omega) (by omega); have l1 := hl 1 (by omega) (by omega); have l2 := hl 2 (by omega) (by omega); have l3 := hl 3 (by omega) (by omega); have l4 := hl 4 (by omega) (by omega); omega
  · have l0 := hl 0 (by omega) (by omega); have l1 := hl 1 (by omega) (by omega); have l2 := hl 2 (by omega) (by omega); have l3 := hl 3 (by omega) (by omega); have l4 := hl 4 (by omega) (by omega); have l5 := hl 5 (by omega) (by omega); omega
  · have l0 := hl 0 (by omega) (by omega); have l1 := hl 1 (by omega) (by omega); have l2 := hl 2 (by omega) (by omega); have l3 := hl 3 (by omega) (by omega); have l4 := hl 4 (by omega) (by omega); have l5 := hl 5 (by omega) (by omega); have l6 := hl 6 (by omega) (by omega); omega
theorem wI_t {f : Int → Int} {s k : Int} (h0 : 0 ≤ k) (h1 : k ≤ 8) (hl : ∀ j, 0 ≤ j → j < k → 97 ≤ f (s + j) ∧ f (s + j) ≤ 122) : (wI f s k).toInt = wS f s k := by
  have key : ∀ m : Nat, (m : Int) ≤ k → (wI f s m).toInt = wS f s m := by
    intro m
    induction m with
    | zero => intro _; exact (by decide : (0 : Int64).toInt = 0)
    | succ m ih =>
      intro hm
      have e := ih (by omega)
      have b := wS_b (f := f) (s := s) (k := m) (by omega) (by omega) (fun j a c => hl j a (by omega))
      have l := hl m (by omega) (by omega)
      rw [show ((m + 1 : Nat) : Int) = (m : Int) + 1 by omega, wI_S f s (by omega), wS_S f s (by omega), sw_t (by omega) (by omega) (by omega) (by omega), e]
      omega
  have := key k.toNat (by omega)
  rwa [show ((k.toNat : Nat) : Int) = k by omega] at this
def Wc (i : Nat) : Int := ([1685024626, 26990, 7304564, 32497584017337959, 109299962373989] : List Int).getD i 0
theorem wS_w0 {f : Int → Int} {s k : Int} (h0 : 1 ≤ k) (h1 : k ≤ 8) (hl : ∀ j, 0 ≤ j → j < k → 97 ≤ f (s + j) ∧ f (s + j) ≤ 122) : wS f s k = 1685024626 ↔ (k = 4 ∧ f (s + 0) = 100 ∧ f (s + 1) = 111 ∧ f (s + 2) = 111 ∧ f (s + 3) = 114) := by
  obtain ⟨e0, e1, e2, e3, e4, e5, e6, e7, e8⟩ := wS_c f s
  have hk : k = 1 ∨ k = 2 ∨ k = 3 ∨ k = 4 ∨ k = 5 ∨ k = 6 ∨ k = 7 ∨ k = 8 := by omega
  rcases hk with rfl | rfl | rfl | rfl | rfl | rfl | rfl | rfl
  · have l0 := hl 0 (by omega) (by omega); omega
  · have l0 := hl 0 (by omega) (by omega); have l1 := hl 1 (by omega) (by omega); omega
  · have l0 := hl 0 (by omega) (by omega); have l1 := hl 1 (by omega) (by omega); have l2 := hl 2 (by omega) (by omega); omega
  · have l0 := hl 0 (by omega) (by omega); have l1 := hl 1 (by omega) (by omega); have l2 := hl 2 (by omega) (by omega); have l3 := hl 3 (by omega) (by omega); omega
  · have l0 := hl 0 (by omega) (by omega); have l1 := hl 1 (by omega) (by omega); have l2 := hl 2 (by omega) (by omega); have l3 := hl 3 (by omega) (by omega); have l4 := hl 4 (by omega) (by omega); omega
  · have l0 := hl 0 (by omega) (by omega); have l1 := hl 1 (by omega) (by omega); have l2 := hl 2 (by omega) (by omega); have l3 := hl 3 (by omega) (by omega); have l4 := hl 4 (by omega) (by omega); have l5 := hl 5 (by omega) (by omega); omega
  · have l0 := hl 0 (by omega) (by omega); have l1 := hl 1 (by omega) (by omega); have l2 := hl 2 (by omega) (by omega); have l3 := hl 3 (by omega) (by omega); have l4 := hl 4 (by omega) (by omega); have l5 := hl 5 (by omega) (by omega); have l6 := hl 6 (by omega) (by omega); omega
  · have l0 := hl 0 (by omega) (by omega); have l1 := hl 1 (by omega) (by omega); have l2 := hl 2 (by omega) (by omega); have l3 := hl 3 (by omega) (by omega); have l4 := hl 4 (by omega) (by omega); have l5 := hl 5 (by omega) (by omega); have l6 := hl 6 (by omega) (by omega); have l7 := hl 7 (by omega) (by omega); omega
theorem tWm_0 {f : Int → Int} {s : Int} : tWm f s 0 = true ↔ (f (s + 0) = 100 ∧ f (s + 1) = 111 ∧ f (s + 2) = 111 ∧ f (s + 3) = 114) := by
  have hz : zln 0 = 4 ∧ zch 0 0 = 100 ∧ zch 0 1 = 111 ∧ zch 0 2 = 111 ∧ zch 0 3 = 114 := by decide
  refine ⟨fun h => ?_, fun h => ?_⟩
  · have h2 := of_decide_eq_true h
    rcases zfst_cases (fun k => decide (f (s + k) ≠ zch 0 k)) (zln 0) with v | v
    · have q0 := of_decide_eq_false (v.2 0 (by omega) (by omega))
      have q1 := of_decide_eq_false (v.2 1 (by omega) (by omega))
      have q2 := of_decide_eq_false (v.2 2 (by omega) (by omega))
      have q3 := of_decide_eq_false (v.2 3 (by omega) (by omega))
      omega
    · omega
  · refine decide_eq_true (zfst_none (fun j a b => decide_eq_false (fun z => z ?_)))
    have hj : j = 0 ∨ j = 1 ∨ j = 2 ∨ j = 3 := by omega
    rcases hj with rfl | rfl | rfl | rfl
    · omega
    · omega
    · omega
    · omega
theorem wS_w1 {f : Int → Int} {s k : Int} (h0 : 1 ≤ k) (h1 : k ≤ 8) (hl : ∀ j, 0 ≤ j → j < k → 97 ≤ f (s + j) ∧ f (s + j) ≤ 122) : wS f s k = 26990 ↔ (k = 2 ∧ f (s + 0) = 105 ∧ f (s + 1) = 110) := by
  obtain ⟨e0, e1, e2, e3, e4, e5, e6, e7, e8⟩ := wS_c f s
  have hk : k = 1 ∨ k = 2 ∨ k = 3 ∨ k = 4 ∨ k = 5 ∨ k = 6 ∨ k = 7 ∨ k = 8 := by omega
  rcases hk with rfl | rfl | rfl | rfl | rfl | rfl | rfl | rfl
  · have l0 := hl 0 (by omega) (by omega); omega
  · have l0 := hl 0 (by omega) (by omega); have l1 := hl 1 (by omega) (by omega); omega
  · have l0 := hl 0 (by omega) (by omega); have l1 := hl 1 (by omega) (by omega); have l2 := hl 2 (by omega) (by omega); omega
  · have l0 := hl 0 (by omega) (by omega); have l1 := hl 1 (by omega) (by omega); have l2 := hl 2 (by omega) (by omega); have l3 := hl 3 (by omega) (by omega); omega
  · have l0 := hl 0 (by omega) (by omega); have l1 := hl 1 (by omega) (by omega); have l2 := hl 2 (by omega) (by omega); have l3 := hl 3 (by omega) (by omega); have l4 := hl 4 (by omega) (by omega); omega
  · have l0 := hl 0 (by omega) (by omega); have l1 := hl 1 (by omega) (by omega); have l2 := hl 2 (by omega) (by omega); have l3 := hl 3 (by omega) (by omega); have l4 := hl 4 (by omega) (by omega); have l5 := hl 5 (by omega) (by omega); omega
  · have l0 := hl 0 (by omega) (by omega); have l1 := hl 1 (by omega) (by omega); have l2 := hl 2 (by omega) (by omega); have l3 := hl 3 (by omega) (by omega); have l4 := hl 4 (by omega) (by omega); have l5 := hl 5 (by omega) (by omega); have l6 := hl 6 (by omega) (by omega); omega
  · have l0 := hl 0 (by omega) (by omega); have l1 := hl 1 (by omega) (by omega); have l2 := hl 2 (by omega) (by omega); have l3 := hl 3 (by omega) (by omega); have l4 := hl 4 (by omega) (by omega); have l5 := hl 5 (by omega) (by omega); have l6 := hl 6 (by omega) (by omega); have l7 := hl 7 (by omega) (by omega); omega
theorem tWm_1 {f : Int → Int} {s : Int} : tWm f s 1 = true ↔ (f (s + 0) = 105 ∧ f (s + 1) = 110) := by
  have hz : zln 1 = 2 ∧ zch 1 0 = 105 ∧ zch 1 1 = 110 := by decide
  refine ⟨fun h => ?_, fun h => ?_⟩
  · have h2 := of_decide_eq_true h
    rcases zfst_cases (fun k => decide (f (s + k) ≠ zch 1 k)) (zln 1) with v | v
    · have q0 := of_decide_eq_false (v.2 0 (by omega) (by omega))
      have q1 := of_decide_eq_false (v.2 1 (by omega) (by omega))
      omega
    · omega
  · refine decide_eq_true (zfst_none (fun j a b => decide_eq_false (fun z => z ?_)))
    have hj : j = 0 ∨ j = 1 := by omega
    rcases hj with rfl | rfl
    · omega
    · omega
theorem wS_w2 {f : Int → Int} {s k : Int} (h0 : 1 ≤ k) (h1 : k ≤ 8) (hl : ∀ j, 0 ≤ j → j < k → 97 ≤ f (s + j) ∧ f (s + j) ≤ 122) : wS f s k = 7304564 ↔ (k = 3 ∧ f (s + 0) = 111 ∧ f (s + 1) = 117 ∧ f (s + 2) = 116) := by
  obtain ⟨e0, e1, e2, e3, e4, e5, e6, e7, e8⟩ := wS_c f s
  have hk : k = 1 ∨ k = 2 ∨ k = 3 ∨ k = 4 ∨ k = 5 ∨ k = 6 ∨ k = 7 ∨ k = 8 := by omega
  rcases hk with rfl | rfl | rfl | rfl | rfl | rfl | rfl | rfl
  · have l0 := hl 0 (by omega) (by omega); omega
  · have l0 := hl 0 (by omega) (by omega); have l1 := hl 1 (by omega) (by omega); omega
  · have l0 := hl 0 (by omega) (by omega); have l1 := hl 1 (by omega) (by omega); have l2 := hl 2 (by omega) (by omega); omega
  · have l0 := hl 0 (by omega) (by omega); have l1 := hl 1 (by omega) (by omega); have l2 := hl 2 (by omega) (by omega); have l3 := hl 3 (by omega) (by omega); omega
  · have l0 := hl 0 (by omega) (by omega); have l1 := hl 1 (by omega) (by omega); have l2 := hl 2 (by omega) (by omega); have l3 := hl 3 (by omega) (by omega); have l4 := hl 4 (by omega) (by omega); omega
  · have l0 := hl 0 (by omega) (by omega); have l1 := hl 1 (by omega) (by omega); have l2 := hl 2 (by omega) (by omega); have l3 := hl 3 (by omega) (by omega); have l4 := hl 4 (by omega) (by omega); have l5 := hl 5 (by omega) (by omega); omega
  · have l0 := hl 0 (by omega) (by omega); have l1 := hl 1 (by omega) (by omega); have l2 := hl 2 (by omega) (by omega); have l3 := hl 3 (by omega) (by omega); have l4 := hl 4 (by omega) (by omega); have l5 := hl 5 (by omega) (by omega); have l6 := hl 6 (by omega) (by omega); omega
  · have l0 := hl 0 (by omega) (by omega); have l1 := hl 1 (by omega) (by omega); have l2 := hl 2 (by omega) (by omega); have l3 := hl 3 (by omega) (by omega); have l4 := hl 4 (by omega) (by omega); have l5 := hl 5 (by omega) (by omega); have l6 := hl 6 (by omega) (by omega); have l7 := hl 7 (by omega) (by omega); omega
theorem tWm_2 {f : Int → Int} {s : Int} : tWm f s 2 = true ↔ (f (s + 0) = 111 ∧ f (s + 1) = 117 ∧ f (s + 2) = 116) := by
  have hz : zln 2 = 3 ∧ zch 2 0 = 111 ∧ zch 2 1 = 117 ∧ zch 2 2 = 116 := by decide
  refine ⟨fun h => ?_, fun h => ?_⟩
  · have h2 := of_decide_eq_true h
    rcases zfst_cases (fun k => decide (f (s + k) ≠ zch 2 k)) (zln 2) with v | v
    · have q0 := of_decide_eq_false (v.2 0 (by omega) (by omega))
      have q1 := of_decide_eq_false (v.2 1 (by omega) (by omega))
      have q2 := of_decide_eq_false (v.2 2 (by omega) (by omega))
      omega
    · omega
  · refine decide_eq_true (zfst_none (fun j a b => decide_eq_false (fun z => z ?_)))
    have hj : j = 0 ∨ j = 1 ∨ j = 2 := by omega
    rcases hj with rfl | rfl | rfl
    · omega
    · omega
    · omega
theorem wS_w3 {f : Int → Int} {s k : Int} (h0 : 1 ≤ k) (h1 : k ≤ 8) (hl : ∀ j, 0 ≤ j → j < k → 97 ≤ f (s + j) ∧ f (s + j) ≤ 122) : wS f s k = 32497584017337959 ↔ (k = 7 ∧ f (s + 0) = 115 ∧ f (s + 1) = 116 ∧ f (s + 2) = 97 ∧ f (s + 3) = 103 ∧ f (s + 4) = 105 ∧ f (s + 5) = 110 ∧ f (s + 6) = 103) := by
  obtain ⟨e0, e1, e2, e3, e4, e5, e6, e7, e8⟩ := wS_c f s
  have hk : k = 1 ∨ k = 2 ∨ k = 3 ∨ k = 4 ∨ k = 5 ∨ k = 6 ∨ k = 7 ∨ k = 8 := by omega
  rcases hk with rfl | rfl | rfl | rfl | rfl | rfl | rfl | rfl
  · have l0 := hl 0 (by omega) (by omega); omega
  · have l0 := hl 0 (by omega) (by omega); have l1 := hl 1 (by omega) (by omega); omega
  · have l0 := hl 0 (by omega) (by omega); have l1 := hl 1 (by omega) (by omega); have l2 := hl 2 (by omega) (by omega); omega
  · have l0 := hl 0 (by omega) (by omega); have l1 := hl 1 (by omega) (by omega); have l2 := hl 2 (by omega) (by omega); have l3 := hl 3 (by omega) (by omega); omega
  · have l0 := hl 0 (by omega) (by omega); have l1 := hl 1 (by omega) (by omega); have l2 := hl 2 (by omega) (by omega); have l3 := hl 3 (by omega) (by omega); have l4 := hl 4 (by omega) (by omega); omega
  · have l0 := hl 0 (by omega) (by omega); have l1 := hl 1 (by omega) (by omega); have l2 := hl 2 (by omega) (by omega); have l3 := hl 3 (by omega) (by omega); have l4 := hl 4 (by omega) (by omega); have l5 := hl 5 (by omega) (by omega); omega
  · have l0 := hl 0 (by omega) (by omega); have l1 := hl 1 (by omega) (by omega); have l2 := hl 2 (by omega) (by omega); have l3 := hl 3 (by omega) (by omega); have l4 := hl 4 (by omega) (by omega); have l5 := hl 5 (by omega) (by omega); have l6 := hl 6 (by omega) (by omega); omega
  · have l0 := hl 0 (by omega) (by omega); have l1 := hl 1 (by omega) (by omega); have l2 := hl 2 (by omega) (by omega); have l3 := hl 3 (by omega) (by omega); have l4 := hl 4 (by omega) (by omega); have l5 := hl 5 (by omega) (by omega); have l6 := hl 6 (by omega) (by omega); have l7 := hl 7 (by omega) (by omega); omega
theorem tWm_3 {f : Int → Int} {s : Int} : tWm f s 3 = true ↔ (f (s + 0) = 115 ∧ f (s + 1) = 116 ∧ f (s + 2) = 97 ∧ f (s + 3) = 103 ∧ f (s + 4) = 105 ∧ f (s + 5) = 110 ∧ f (s + 6) = 103) := by
  have hz : zln 3 = 7 ∧ zch 3 0 = 115 ∧ zch 3 1 = 116 ∧ zch 3 2 = 97 ∧ zch 3 3 = 103 ∧ zch 3 4 = 105 ∧ zch 3 5 = 110 ∧ zch 3 6 = 103 := by decide
  refine ⟨fun h => ?_, fun h => ?_⟩
  · have h2 := of_decide_eq_true h
    rcases zfst_cases (fun k => decide (f (s + k) ≠ zch 3 k)) (zln 3) with v | v
    · have q0 := of_decide_eq_false (v.2 0 (by omega) (by omega))
      have q1 := of_decide_eq_false (v.2 1 (by omega) (by omega))
      have q2 := of_decide_eq_false (v.2 2 (by omega) (by omega))
      have q3 := of_decide_eq_false (v.2 3 (by omega) (by omega))
      have q4 := of_decide_eq_false (v.2 4 (by omega) (by omega))
      have q5 := of_decide_eq_false (v.2 5 (by omega) (by omega))
      have q6 := of_decide_eq_false (v.2 6 (by omega) (by omega))
      omega
    · omega
  · refine decide_eq_true (zfst_none (fun j a b => decide_eq_false (fun z => z ?_)))
    have hj : j = 0 ∨ j = 1 ∨ j = 2 ∨ j = 3 ∨ j = 4 ∨ j = 5 ∨ j = 6 := by omega
    rcases hj with rfl | rfl | rfl | rfl | rfl | rfl | rfl
    · omega
    · omega
    · omega
    · omega
    · omega
    · omega
    · omega
theorem wS_w4 {f : Int → Int} {s k : Int} (h0 : 1 ≤ k) (h1 : k ≤ 8) (hl : ∀ j, 0 ≤ j → j < k → 97 ≤ f (s + j) ∧ f (s + j) ≤ 122) : wS f s k = 109299962373989 ↔ (k = 6 ∧ f (s + 0) = 99 ∧ f (s + 1) = 104 ∧ f (s + 2) = 97 ∧ f (s + 3) = 110 ∧ f (s + 4) = 103 ∧ f (s + 5) = 101) := by
  obtain ⟨e0, e1, e2, e3, e4, e5, e6, e7, e8⟩ := wS_c f s
  have hk : k = 1 ∨ k = 2 ∨ k = 3 ∨ k = 4 ∨ k = 5 ∨ k = 6 ∨ k = 7 ∨ k = 8 := by omega
  rcases hk with rfl | rfl | rfl | rfl | rfl | rfl | rfl | rfl
  · have l0 := hl 0 (by omega) (by omega); omega
  · have l0 := hl 0 (by omega) (by omega); have l1 := hl 1 (by omega) (by omega); omega
  · have l0 := hl 0 (by omega) (by omega); have l1 := hl 1 (by omega) (by omega); have l2 := hl 2 (by omega) (by omega); omega
  · have l0 := hl 0 (by omega) (by omega); have l1 := hl 1 (by omega) (by omega); have l2 := hl 2 (by omega) (by omega); have l3 := hl 3 (by omega) (by omega); omega
  · have l0 := hl 0 (by omega) (by omega); have l1 := hl 1 (by omega) (by omega); have l2 := hl 2 (by omega) (by omega); have l3 := hl 3 (by omega) (by omega); have l4 := hl 4 (by omega) (by omega); omega
  · have l0 := hl 0 (by omega) (by omega); have l1 := hl 1 (by omega) (by omega); have l2 := hl 2 (by omega) (by omega); have l3 := hl 3 (by omega) (by omega); have l4 := hl 4 (by omega) (by omega); have l5 := hl 5 (by omega) (by omega); omega
  · have l0 := hl 0 (by omega) (by omega); have l1 := hl 1 (by omega) (by omega); have l2 := hl 2 (by omega) (by omega); have l3 := hl 3 (by omega) (by omega); have l4 := hl 4 (by omega) (by omega); have l5 := hl 5 (by omega) (by omega); have l6 := hl 6 (by omega) (by omega); omega
  · have l0 := hl 0 (by omega) (by omega); have l1 := hl 1 (by omega) (by omega); have l2 := hl 2 (by omega) (by omega); have l3 := hl 3 (by omega) (by omega); have l4 := hl 4 (by omega) (by omega); have l5 := hl 5 (by omega) (by omega); have l6 := hl 6 (by omega) (by omega); have l7 := hl 7 (by omega) (by omega); omega
theorem tWm_4 {f : Int → Int} {s : Int} : tWm f s 4 = true ↔ (f (s + 0) = 99 ∧ f (s + 1) = 104 ∧ f (s + 2) = 97 ∧ f (s + 3) = 110 ∧ f (s + 4) = 103 ∧ f (s + 5) = 101) := by
  have hz : zln 4 = 6 ∧ zch 4 0 = 99 ∧ zch 4 1 = 104 ∧ zch 4 2 = 97 ∧ zch 4 3 = 110 ∧ zch 4 4 = 103 ∧ zch 4 5 = 101 := by decide
  refine ⟨fun h => ?_, fun h => ?_⟩
  · have h2 := of_decide_eq_true h
    rcases zfst_cases (fun k => decide (f (s + k) ≠ zch 4 k)) (zln 4) with v | v
    · have q0 := of_decide_eq_false (v.2 0 (by omega) (by omega))
      have q1 := of_decide_eq_false (v.2 1 (by omega) (by omega))
      have q2 := of_decide_eq_false (v.2 2 (by omega) (by omega))
      have q3 := of_decide_eq_false (v.2 3 (by omega) (by omega))
      have q4 := of_decide_eq_false (v.2 4 (by omega) (by omega))
      have q5 := of_decide_eq_false (v.2 5 (by omega) (by omega))
      omega
    · omega
  · refine decide_eq_true (zfst_none (fun j a b => decide_eq_false (fun z => z ?_)))
    have hj : j = 0 ∨ j = 1 ∨ j = 2 ∨ j = 3 ∨ j = 4 ∨ j = 5 := by omega
    rcases hj with rfl | rfl | rfl | rfl | rfl | rfl
    · omega
    · omega
    · omega
    · omega
    · omega
    · omega
/-- the model's word, and the class's -/
def wd (f : Int → Int) (n q : Int) : Int := if 8 < tE f n q - tS f n q then 0 else (wI f (tS f n q) (tE f n q - tS f n q)).toInt
theorem wd_iff {f : Int → Int} {n q : Int} {i : Nat} (hi : i < 5) (hq : q ≤ n) (hk : tK f n q = 1) : wd f n q = Wc i ↔ tW f n q i = true := by
  have hs := tS_b (f := f) hq
  have hl : ∀ j, 0 ≤ j → j < tE f n q - tS f n q → 97 ≤ f (tS f n q + j) ∧ f (tS f n q + j) ≤ 122 := by
    intro j a b
    unfold tE at b
    unfold tK at hk
    generalize tS f n q = s at hk b ⊢
    unfold tKs at hk
    split at hk
    · rename_i q0
      split at hk
      · rename_i q1
        rw [(tk1 q0 q1).1] at b
        exact tP_c (n := n) (p := s) (by omega) (by omega)
      · split at hk
        · split at hk <;> omega
        · split at hk <;> omega
    · omega
  have h1 := ((tE_b (f := f) hq).2.2 (by omega)).1
  have hT : tW f n q i = true ↔ (tE f n q - tS f n q = zln i ∧ tWm f (tS f n q) i = true) := ⟨fun h => (of_decide_eq_true h).2, fun h => decide_eq_true ⟨hk, h⟩⟩
  rw [hT]
  unfold wd
  generalize tS f n q = s at hl h1 ⊢
  generalize tE f n q = e at hl h1 ⊢
  have hi5 : i = 0 ∨ i = 1 ∨ i = 2 ∨ i = 3 ∨ i = 4 := by omega
  by_cases h8 : 8 < e - s
  · rw [if_pos h8]
    have b7 := zln_b i hi
    refine ⟨fun h => ?_, fun h => by omega⟩
    exfalso
    have : ∀ i, i < 5 → Wc i ≠ 0 := by decide
    exact this i hi h.symm
  · rw [if_neg h8, wI_t (by omega) (by omega) hl]
    rcases hi5 with rfl | rfl | rfl | rfl | rfl
    · rw [tWm_0]; exact wS_w0 (by omega) (by omega) hl
    · rw [tWm_1]; exact wS_w1 (by omega) (by omega) hl
    · rw [tWm_2]; exact wS_w2 (by omega) (by omega) hl
    · rw [tWm_3]; exact wS_w3 (by omega) (by omega) hl
    · rw [tWm_4]; exact wS_w4 (by omega) (by omega) hl
