/-! Bytes of a long; type. -/
theorem and32 {a : Int} : (Int32.ofInt a &&& Int32.ofInt 255).toInt = a % 256 := by
  rw [← Int32.toInt_toBitVec, Int32.toBitVec_and]
  have e : (Int32.ofInt 255).toBitVec = 255#32 := by decide
  rw [e]
  have h1 : ((Int32.ofInt a).toBitVec &&& 255#32).toNat = (Int32.ofInt a).toBitVec.toNat % 256 := by
    rw [BitVec.toNat_and]
    exact Nat.and_two_pow_sub_one_eq_mod _ 8
  have h2 : (Int32.ofInt a).toBitVec.toInt = a.bmod (2^32) := by rw [Int32.toInt_toBitVec, Int32.toInt_ofInt]
  rw [BitVec.toInt_eq_toNat_bmod] at h2
  rw [BitVec.toInt_eq_toNat_bmod, h1]
  have h3 : ((((Int32.ofInt a).toBitVec.toNat : Nat) : Int)) % 256 = a % 256 := by
    have q := congrArg (fun z => z % 4294967296) h2
    have q1 : (((Int32.ofInt a).toBitVec.toNat : Nat) : Int).bmod (2^32) % 4294967296 = (((Int32.ofInt a).toBitVec.toNat : Nat) : Int) % 4294967296 := Int.bmod_emod
    have q2 : a.bmod (2^32) % 4294967296 = a % 4294967296 := Int.bmod_emod
    simp only [q1, q2] at q
    omega
  rw [Int.bmod_eq_of_le (by omega) (by omega)]
  omega
theorem and64 {x : Int64} : (x &&& 255).toInt = x.toInt % 256 := by
  rw [← Int64.toInt_toBitVec, Int64.toBitVec_and]
  have e : (255 : Int64).toBitVec = 255#64 := by decide
  rw [e]
  have h1 : (x.toBitVec &&& 255#64).toNat = x.toBitVec.toNat % 256 := by
    rw [BitVec.toNat_and]
    exact Nat.and_two_pow_sub_one_eq_mod _ 8
  have h2 : x.toBitVec.toInt = x.toInt := Int64.toInt_toBitVec x
  rw [BitVec.toInt_eq_toNat_bmod] at h2
  rw [BitVec.toInt_eq_toNat_bmod, h1]
  have h3 : ((x.toBitVec.toNat : Nat) : Int) % 256 = x.toInt % 256 := by
    have q := congrArg (fun z => z % 18446744073709551616) h2
    have q1 : ((x.toBitVec.toNat : Nat) : Int).bmod (2^64) % 18446744073709551616 = ((x.toBitVec.toNat : Nat) : Int) % 18446744073709551616 := Int.bmod_emod
    simp only [q1] at q
    omega
  rw [Int.bmod_eq_of_le (by omega) (by omega)]
  omega
def by8 (x : Int64) (k : Int) : Int := if k = 0 then (x.toInt / 72057594037927936) % 256 else if k = 1 then (x.toInt / 281474976710656) % 256 else if k = 2 then (x.toInt / 1099511627776) % 256 else if k = 3 then (x.toInt / 4294967296) % 256 else if k = 4 then (x.toInt / 16777216) % 256 else if k = 5 then (x.toInt / 65536) % 256 else if k = 6 then (x.toInt / 256) % 256 else x.toInt % 256
theorem sh_s {x : Int64} {n : Nat} {s : Int64} (hs : s.toBitVec.smod 64 = BitVec.ofNat 64 n) (hn : n < 64) : (x >>> s).toInt = x.toInt / ((2 ^ n : Nat) : Int) := by
  rw [← Int64.toInt_toBitVec, Int64.toBitVec_shiftRight, hs]
  have : x.toBitVec.sshiftRight' (BitVec.ofNat 64 n) = x.toBitVec.sshiftRight n := by
    unfold BitVec.sshiftRight'
    rw [BitVec.toNat_ofNat, Nat.mod_eq_of_lt (by omega)]
  rw [this, BitVec.toInt_sshiftRight, Int.shiftRight_eq_div_pow, Int64.toInt_toBitVec]
theorem sh_u {x : Int64} {n : Nat} {s : UInt64} (hs : s.toNat = n) (hn : n < 64) : (((x.toUInt64 >>> s).toInt64).toInt) % 256 = ((x.toInt % 18446744073709551616) / ((2 ^ n : Nat) : Int)) % 256 := by
  have h1 : (x.toUInt64 >>> s).toInt64.toInt = (((x.toUInt64 >>> s).toNat : Nat) : Int).bmod (2^64) := by
    rw [← Int64.toInt_toBitVec, BitVec.toInt_eq_toNat_bmod]
    rfl
  have h2 : (x.toUInt64 >>> s).toNat = x.toUInt64.toNat / 2 ^ n := by
    rw [UInt64.toNat_shiftRight, hs, Nat.mod_eq_of_lt hn, Nat.shiftRight_eq_div_pow]
  have h3 : x.toInt = ((x.toUInt64.toNat : Nat) : Int).bmod (2^64) := by
    rw [← Int64.toInt_toBitVec, BitVec.toInt_eq_toNat_bmod]
    rfl
  have h4 : x.toInt % 18446744073709551616 = ((x.toUInt64.toNat : Nat) : Int) := by
    rw [h3]
    have q1 : ((x.toUInt64.toNat : Nat) : Int).bmod (2^64) % 18446744073709551616 = ((x.toUInt64.toNat : Nat) : Int) % 18446744073709551616 := Int.bmod_emod
    rw [q1]
    have := x.toUInt64.toNat_lt
    omega
  have h5 : ((((x.toUInt64 >>> s).toNat : Nat) : Int).bmod (2^64)) % 256 = (((x.toUInt64 >>> s).toNat : Nat) : Int) % 256 := by
    have q1 : (((x.toUInt64 >>> s).toNat : Nat) : Int).bmod (2^64) % 18446744073709551616 = (((x.toUInt64 >>> s).toNat : Nat) : Int) % 18446744073709551616 := Int.bmod_emod
    generalize (((x.toUInt64 >>> s).toNat : Nat) : Int).bmod (2^64) = B at q1 ⊢
    generalize (((x.toUInt64 >>> s).toNat : Nat) : Int) = C at q1 ⊢
    omega
  rw [h1, h5, h2, h4, Int.natCast_ediv]
theorem l2i_256 (x : Int64) : x.toInt32.toInt % 256 = x.toInt % 256 := by
  rw [Int64.toInt_toInt32]
  have q1 : x.toInt.bmod (2^32) % 4294967296 = x.toInt % 4294967296 := Int.bmod_emod
  omega
theorem i8_256 (a b : Int) (h : a % 256 = b % 256) : (Int8.ofInt a).toInt = (Int8.ofInt b).toInt := by
  rw [Int8.toInt_ofInt, Int8.toInt_ofInt]
  have : a.bmod 256 = b.bmod 256 := by
    unfold Int.bmod
    simp only
    rw [show ((256 : Nat) : Int) = 256 from rfl, h]
  exact this
theorem byC {x : Int64} {k : Int} (h0 : 0 ≤ k) (h1 : k ≤ 7) : (Int32.ofInt ((x.toUInt64 >>> ((Int32.ofInt (8 * (7 - k))).toInt64.toUInt64 &&& Int64.toUInt64 63)).toInt64.toInt32.toInt) &&& Int32.ofInt 255).toInt = by8 x k := by
  rw [and32, l2i_256]
  have hx := x.le_toInt
  have hx2 := x.toInt_lt
  have h : k = 0 ∨ k = 1 ∨ k = 2 ∨ k = 3 ∨ k = 4 ∨ k = 5 ∨ k = 6 ∨ k = 7 := by omega
  rcases h with rfl | rfl | rfl | rfl | rfl | rfl | rfl | rfl
  · rw [sh_u (n := 56) (by decide) (by omega)]; show x.toInt % 18446744073709551616 / 72057594037927936 % 256 = x.toInt / 72057594037927936 % 256; omega
  · rw [sh_u (n := 48) (by decide) (by omega)]; show x.toInt % 18446744073709551616 / 281474976710656 % 256 = x.toInt / 281474976710656 % 256; omega
  · rw [sh_u (n := 40) (by decide) (by omega)]; show x.toInt % 18446744073709551616 / 1099511627776 % 256 = x.toInt / 1099511627776 % 256; omega
  · rw [sh_u (n := 32) (by decide) (by omega)]; show x.toInt % 18446744073709551616 / 4294967296 % 256 = x.toInt / 4294967296 % 256; omega
  · rw [sh_u (n := 24) (by decide) (by omega)]; show x.toInt % 18446744073709551616 / 16777216 % 256 = x.toInt / 16777216 % 256; omega
  · rw [sh_u (n := 16) (by decide) (by omega)]; show x.toInt % 18446744073709551616 / 65536 % 256 = x.toInt / 65536 % 256; omega
  · rw [sh_u (n := 8) (by decide) (by omega)]; show x.toInt % 18446744073709551616 / 256 % 256 = x.toInt / 256 % 256; omega
  · rw [sh_u (n := 0) (by decide) (by omega)]; show x.toInt % 18446744073709551616 / 1 % 256 = x.toInt % 256; omega
theorem byM {x : Int64} {k : Int} (h0 : 0 ≤ k) (h1 : k ≤ 7) : (x >>> ((Int32.ofInt (56 - 8 * k)).toInt64 &&& 63)).toInt % 256 = by8 x k := by
  have h : k = 0 ∨ k = 1 ∨ k = 2 ∨ k = 3 ∨ k = 4 ∨ k = 5 ∨ k = 6 ∨ k = 7 := by omega
  rcases h with rfl | rfl | rfl | rfl | rfl | rfl | rfl | rfl
  · rw [sh_s (n := 56) (by decide) (by omega)]; rfl
  · rw [sh_s (n := 48) (by decide) (by omega)]; rfl
  · rw [sh_s (n := 40) (by decide) (by omega)]; rfl
  · rw [sh_s (n := 32) (by decide) (by omega)]; rfl
  · rw [sh_s (n := 24) (by decide) (by omega)]; rfl
  · rw [sh_s (n := 16) (by decide) (by omega)]; rfl
  · rw [sh_s (n := 8) (by decide) (by omega)]; rfl
  · rw [sh_s (n := 0) (by decide) (by omega)]; show _ / ((1 : Nat) : Int) % 256 = _ % 256; omega
theorem by8_b (x : Int64) (k : Int) : 0 ≤ by8 x k ∧ by8 x k ≤ 255 := by
  unfold by8
  repeat' split
  all_goals omega
/-- a byte as it stands -/
def bs8 (x : Int64) (k : Int) : Int := (Int8.ofInt (by8 x k)).toInt
theorem bs8_b (x : Int64) (k : Int) : -128 ≤ bs8 x k ∧ bs8 x k ≤ 127 := by
  have h1 := (Int8.ofInt (by8 x k)).le_toInt
  have h2 := (Int8.ofInt (by8 x k)).toInt_lt
  unfold bs8
  omega
/-- how many bytes a long has -/
def nb8 (x : Int64) : Int := if zfst (fun k => decide (by8 x k = 0)) 8 = -1 then 8 else zfst (fun k => decide (by8 x k = 0)) 8
theorem nb8_b (x : Int64) : 0 ≤ nb8 x ∧ nb8 x ≤ 8 := by
  unfold nb8
  rcases zfst_cases (fun k => decide (by8 x k = 0)) 8 with z | z
  · rw [if_pos z.1]; omega
  · rw [if_neg (by omega)]; omega
theorem nb8_e {x : Int64} {i : Int} (h0 : 0 ≤ i) (h1 : i < 8) (ha : ∀ k, 0 ≤ k → k < i → by8 x k ≠ 0) (hi : by8 x i = 0) : nb8 x = i := by
  have := zfst_some (p := fun k => decide (by8 x k = 0)) (n := 8) h0 h1 (decide_eq_true hi) (fun j j0 j1 => decide_eq_false (ha j j0 j1))
  unfold nb8
  rw [this, if_neg (by omega)]
theorem nb8_8 {x : Int64} (ha : ∀ k, 0 ≤ k → k < 8 → by8 x k ≠ 0) : nb8 x = 8 := by
  have := zfst_none (p := fun k => decide (by8 x k = 0)) (n := 8) (fun j j0 j1 => decide_eq_false (ha j j0 j1))
  unfold nb8
  rw [this, if_pos rfl]
theorem c_byteOf {σ : zS} {x : Int64} {k : Int} (h0 : 0 ≤ k) (h1 : k ≤ 7) : zCp M_X6_byteOf 1 [.long x, zI k] σ (zI (by8 x k)) := by
  refine zC_of (M := M_X6_byteOf) (ls := [some (.long x), none, some (zI k)]) (n := 0) (by decide) (fun ad => Nat.le_of_ble_eq_true rfl) rfl (fun x h => ?_)
  refine z_lload_n (pc := 0) h dX6_byteOf_0 rfl ?_
  refine z_bipush (pc := 1) h dX6_byteOf_1 (by decide) ?_
  refine z_bipush (pc := 3) h dX6_byteOf_3 (by decide) ?_
  refine z_iload_n (pc := 5) h dX6_byteOf_5 rfl ?_
  refine z_isub (pc := 6) h dX6_byteOf_6 ?_
  refine z_imul (pc := 7) h dX6_byteOf_7 ?_
  refine z_lushr (pc := 8) h dX6_byteOf_8 ?_
  refine z_l2i (pc := 9) h dX6_byteOf_9 ?_
  refine z_sipush (pc := 10) h dX6_byteOf_10 (by decide) ?_
  refine z_iand (pc := 13) h dX6_byteOf_13 ?_
  refine z_iret (pc := 14) h rfl dX6_byteOf_14 ?_
  rw [byC h0 h1]
  exact ⟨rfl, rfl⟩
