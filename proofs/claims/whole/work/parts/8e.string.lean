/-! String constants: rows, length, charAt. -/
def zV (i : Nat) : Value := .ref (200000 + i)
def zF : Value := .ref 300000
def zln (i : Nat) : Int := ((zlen.getD i 0 : Nat) : Int)
def zch (i : Nat) (k : Int) : Int := ((zbyt.getD i []).getD k.toNat 0).toInt
theorem zln_b : ∀ i, i < 5 → 2 ≤ zln i ∧ zln i ≤ 7 := by decide
theorem zch_b : ∀ i k, 0 ≤ zch i k ∧ zch i k ≤ 127 := by
  intro i k
  have key : ∀ i, i < 5 → ∀ n, n < 7 → 0 ≤ ((zbyt.getD i []).getD n 0).toInt ∧ ((zbyt.getD i []).getD n 0).toInt ≤ 127 := by decide
  have len : ∀ i, i < 5 → (zbyt.getD i []).length ≤ 7 := by decide
  unfold zch
  rcases Nat.lt_or_ge i 5 with hi | hi
  · rcases Nat.lt_or_ge k.toNat 7 with hk | hk
    · exact key i hi _ hk
    · have : (zbyt.getD i []).getD k.toNat 0 = 0 := by
        rw [List.getD_eq_getElem?_getD, List.getElem?_eq_none (Nat.le_trans (len i hi) hk)]; rfl
      rw [this]
      decide
  · have : zbyt.getD i [] = [] := by
      rw [List.getD_eq_getElem?_getD, List.getElem?_eq_none (by show 5 ≤ i; exact hi)]; rfl
    rw [this]
    show 0 ≤ (0 : Int32).toInt ∧ (0 : Int32).toInt ≤ 127
    decide
theorem zln_e : ∀ i, i < 5 → Int32.ofNat (zlen.getD i 0) = Int32.ofInt (zln i) := by decide
section ZSTR
variable {x : zX} {K : Option Value → zS → Prop} {own : String} {cc : ByteArray} {nL d pc : Nat} {ret : Option FieldType} {ls : List (Option Value)} {st : List Value} {σ : zS}
theorem z_ldcT (h : zH x RX4 cc nL ret d) {i : Nat} (hi : i < 5) (hd : decode cc pc = .ok (.ldc (zix i), 2)) (k : zW x K (pc + 2) ls (zT i :: st) σ) : zW x K pc ls st σ := by
  obtain ⟨p, l, e, R, s, m, args, below, meth, cd, D, ad, cs⟩ := x
  intro H locs la hW hS hl
  obtain ⟨hx, hb, hml, hr, hown, hts, hlk, rfl, hK, hinj, hE⟩ := h
  exact va_ldcS hx hb hown (hE.2.1 i hi) hd (k H locs la hW hS hl)
theorem z_getV (h : zH x own cc nL ret d) {i n : Nat} (hi : i < 5) (hw : Cond.fieldLink own n "java/lang/String" "value" "[B" ∈ zUW) (hd : decode cc pc = .ok (.getfield n, 3)) (k : zW x K (pc + 3) ls (zV i :: st) σ) : zW x K pc ls (zT i :: st) σ := by
  obtain ⟨p, l, e, R, s, m, args, below, meth, cd, D, ad, cs⟩ := x
  intro H locs la hW hS hl
  obtain ⟨hx, hb, hml, hr, hown, hts, hlk, rfl, hK, hinj, hE⟩ := h
  exact vk_getf hx hb (hE.1.1 i hi).2.2.1 hS hown (hts _ hw) (fun _ q => q) hd (k H locs la hW hS hl)
theorem z_getCd (h : zH x own cc nL ret d) {i n : Nat} (hi : i < 5) (hw : Cond.fieldLink own n "java/lang/String" "coder" "B" ∈ zUW) (hd : decode cc pc = .ok (.getfield n, 3)) (k : zW x K (pc + 3) ls (zI 0 :: st) σ) : zW x K pc ls (zT i :: st) σ := by
  obtain ⟨p, l, e, R, s, m, args, below, meth, cd, D, ad, cs⟩ := x
  intro H locs la hW hS hl
  obtain ⟨hx, hb, hml, hr, hown, hts, hlk, rfl, hK, hinj, hE⟩ := h
  exact vk_getf hx hb (hE.1.1 i hi).2.1 hS hown (hts _ hw) (fun _ q => q) hd (k H locs la hW hS hl)
theorem z_getsC (h : zH x own cc nL ret d) {n : Nat} (hw : Cond.fieldLink own n "java/lang/String" "COMPACT_STRINGS" "Z" ∈ zUW) (hd : decode cc pc = .ok (.getstatic n, 3)) (k : zW x K (pc + 3) ls (zI 1 :: st) σ) : zW x K pc ls st σ := by
  obtain ⟨p, l, e, R, s, m, args, below, meth, cd, D, ad, cs⟩ := x
  intro H locs la hW hS hl
  obtain ⟨hx, hb, hml, hr, hown, hts, hlk, rfl, hK, hinj, hE⟩ := h
  exact va_gets hx hb hE.2.2.1 hS hown (hts _ hw) (fun _ q => q) hd (k H locs la hW hS hl)
theorem z_getsF (h : zH x own cc nL ret d) {n : Nat} (hw : Cond.fieldLink own n "jdk/internal/util/Preconditions" "SIOOBE_FORMATTER" "Ljava/util/function/BiFunction;" ∈ zUW) (hd : decode cc pc = .ok (.getstatic n, 3)) (k1 : zW x K (pc + 3) ls (.null :: st) σ) (k2 : zW x K (pc + 3) ls (zF :: st) σ) : zW x K pc ls st σ := by
  obtain ⟨p, l, e, R, s, m, args, below, meth, cd, D, ad, cs⟩ := x
  intro H locs la hW hS hl
  obtain ⟨hx, hb, hml, hr, hown, hts, hlk, rfl, hK, hinj, hE⟩ := h
  rcases hE.2.2.2.1 with q | q
  · exact va_gets hx hb q hS hown (hts _ hw) (fun _ q => q) hd (k1 H locs la hW hS hl)
  · exact va_gets hx hb q hS hown (hts _ hw) (fun _ q => q) hd (k2 H locs la hW hS hl)
theorem z_alenV (h : zH x own cc nL ret d) {i : Nat} (hi : i < 5) (hd : decode cc pc = .ok (.arraylength, 1)) (k : zW x K (pc + 1) ls (zI (zln i) :: st) σ) : zW x K pc ls (zV i :: st) σ := by
  obtain ⟨p, l, e, R, s, m, args, below, meth, cd, D, ad, cs⟩ := x
  intro H locs la hW hS hl
  obtain ⟨hx, hb, hml, hr, hown, hts, hlk, rfl, hK, hinj, hE⟩ := h
  exact va_tlen hx hb (hE.1.1 i hi).2.2.2 hS (v := Int32.ofInt (zln i)) (zln_e i hi) hd (k H locs la hW hS hl)
theorem z_baldV (h : zH x own cc nL ret d) {i : Nat} {n : Int} (hi : i < 5) (h0 : 0 ≤ n) (h1 : n < zln i) (hd : decode cc pc = .ok (.baload, 1)) (k : zW x K (pc + 1) ls (zI (zch i n) :: st) σ) : zW x K pc ls (zI n :: zV i :: st) σ := by
  have hb7 := zln_b i hi
  obtain ⟨p, l, e, R, s, m, args, below, meth, cd, D, ad, cs⟩ := x
  intro H locs la hW hS hl
  obtain ⟨hx, hb, hml, hr, hown, hts, hlk, rfl, hK, hinj, hE⟩ := h
  refine va_tb hx hb (hE.1.1 i hi).2.2.2 hS (z_in h0 (by unfold zln at h1; exact h1) (by unfold zln at hb7; omega)) (v := .int (Int32.ofInt (zch i n))) ?_ hd (k H locs la hW hS hl)
  rw [z_clamp h0 ⟨by omega, by omega⟩]
  unfold zch
  rw [Int32.ofInt_toInt]
theorem z_i2c (h : zH x own cc nL ret d) {a : Int} (ha : 0 ≤ a ∧ a ≤ 255) (hd : decode cc pc = .ok (.i2c, 1)) (k : zW x K (pc + 1) ls (zI a :: st) σ) : zW x K pc ls (zI a :: st) σ := by
  obtain ⟨p, l, e, R, s, m, args, below, meth, cd, D, ad, cs⟩ := x
  intro H locs la hW hS hl
  obtain ⟨hx, hb, hml, hr, hown, hts, hlk, rfl, hK, hinj, hE⟩ := h
  refine lv_i2c hx hb hd (v := Int32.ofInt a) ?_ (k H locs la hW hS hl)
  have key : ∀ n : Fin 256, ((Int32.ofInt ((n : Nat) : Int)).toUInt32 % 65536).toInt32 = Int32.ofInt ((n : Nat) : Int) := by decide +kernel
  have := key ⟨a.toNat, by omega⟩
  rwa [show ((a.toNat : Nat) : Int) = a by omega] at this
theorem z_ishr0 (h : zH x own cc nL ret d) {a : Int} (hd : decode cc pc = .ok (.ishr, 1)) (k : zW x K (pc + 1) ls (zI a :: st) σ) : zW x K pc ls (zI 0 :: zI a :: st) σ := by
  obtain ⟨p, l, e, R, s, m, args, below, meth, cd, D, ad, cs⟩ := x
  intro H locs la hW hS hl
  obtain ⟨hx, hb, hml, hr, hown, hts, hlk, rfl, hK, hinj, hE⟩ := h
  refine lv_ishr hx hb hd ?_
  have e1 : (Int32.ofInt 0 &&& 31 : Int32) = 0 := by decide
  have e2 : ∀ y : Int32, y >>> (0 : Int32) = y := fun y => by simp
  rw [e1, e2]
  exact k H locs la hW hS hl
theorem z_aloadX_n (h : zH x own cc nL ret d) {q : Fin 4} {v : Nat} (hd : decode cc pc = .ok (.aload_n q, 1)) (hv : ls[(q : Nat)]? = some (some (.ref v))) (k : zW x K (pc + 1) ls (.ref v :: st) σ) : zW x K pc ls st σ := by
  obtain ⟨p, l, e, R, s, m, args, below, meth, cd, D, ad, cs⟩ := x
  intro H locs la hW hS hl
  obtain ⟨hx, hb, hml, hr, hown, hts, hlk, rfl, hK, hinj, hE⟩ := h
  exact lv_aload_n hx hb hd rfl (hl.2.2 _ _ hv) (k H locs la hW hS hl)
theorem z_nret (h : zH x own cc nL ret d) {v : Int} {ty : FieldType} (hre : ret = some ty) (hn : narrow ty (.int (Int32.ofInt v)) = .int (Int32.ofInt v)) (hd : decode cc pc = .ok (.ireturn, 1)) (k : K (some (zI v)) σ) : zW x K pc ls [zI v] σ := by
  obtain ⟨p, l, e, R, s, m, args, below, meth, cd, D, ad, cs⟩ := x
  intro H locs la hW hS hl
  obtain ⟨hx, hb, hml, hr, hown, hts, hlk, rfl, hK, hinj, hE⟩ := h
  exact W.zret hx hb (hr.trans hre) hn (fun t ht hw => ⟨some (zI v), σ, rfl, k, by rw [ht]; exact hW, hS.F ht⟩) hS.2.2 hd hlk
theorem z_pT (h : zH x own cc nL ret d) {M : MethodName × ByteArray × Nat × Option FieldType} {d' o i np : Nat} {as stk : List Value} {v : Value} (hi : o < 5) (hC : zCp M d' (zT o :: as) σ v) (hdl : d' < d) (hm : zMV M RJ0 np) (hw : Cond.methodLink own i M.1 ∈ zUW) (hn : as.length = np) (hd : decode cc pc = .ok (.invokevirtual i, 3)) (hst : as.reverse ++ zT o :: st = stk) (hrm : (st.map fun v => v.category).sum ≤ 8)
    (k : zW x K (pc + 3) ls (v :: st) σ) : zW x K pc ls stk σ := by
  obtain ⟨p, l, e, R, s, m, args, below, meth, cd, D, ad, cs⟩ := x
  intro H locs la hW hS hl
  obtain ⟨hx, hb, hml, hr, hown, hts, hlk, rfl, hK, hinj, hE⟩ := h
  obtain ⟨⟨w4, w5, hnm, h8⟩, hcl, w2, w3⟩ := hm
  have hM := hC l D ad cs hinj
  have hpre := zPre (as := zT o :: as) hW hS hK hE
  subst hst
  refine zBack (st := st) (ls := ls) (va_runV (C := RJ0) (b := ad (100000 + o)) (As := as.map (zcv ad)) (nL := nL) (bytes := M.2.1) (maxL := M.2.2.1) (ret := M.2.2.2) (index := i) (n := np) ⟨hx, hb, hml, hown, hts⟩ hM ⟨callB_of np hts (zGI w5) rfl rfl rfl (hts _ w4) (hts _ hw) hnm ⟨?_, ?_⟩, hts _ w2, hts _ w3⟩ ⟨hpre.1, vk_recv (adK := fun i => ad (100000 + i)) (i := o) hE.1 hi hS, hpre.2⟩ rfl (by rw [List.length_map]; exact hn) (by rw [← hml]; exact hl.1) ?_ ?_ hd ⟨Nat.le_refl _, Nat.le_refl _⟩) hS hl (fun r τ q => by obtain ⟨rfl, rfl⟩ := q; exact k)
  · exact hdl
  · show 8 + (M.2.2.1 + 11) + 27 * d' ≤ 27 * d
    omega
  · show (as.reverse ++ zT o :: st).map (zcv ad) = _
    rw [List.map_append, List.map_reverse]
    rfl
  · exact lv_room (by rw [zcat_sum]; exact hrm)
end ZSTR
abbrev M_J0_length_8abf5 : MethodName × ByteArray × Nat × Option FieldType := (yJ0_length_8abf5, cJ0_length_8abf5, 1, some .int)
abbrev M_J0_coder_7d493 : MethodName × ByteArray × Nat × Option FieldType := (yJ0_coder_7d493, cJ0_coder_7d493, 1, some .byte)
abbrev M_J0_charAt_5068e : MethodName × ByteArray × Nat × Option FieldType := (yJ0_charAt_5068e, cJ0_charAt_5068e, 2, some .char)
abbrev M_J0_isLatin1_aae02 : MethodName × ByteArray × Nat × Option FieldType := (yJ0_isLatin1_aae02, cJ0_isLatin1_aae02, 1, some .boolean)
abbrev M_J1_charAt_3b067 : MethodName × ByteArray × Nat × Option FieldType := (yJ1_charAt_3b067, cJ1_charAt_3b067, 2, some .char)
abbrev M_J0_checkIndex_df160 : MethodName × ByteArray × Nat × Option FieldType := (yJ0_checkIndex_df160, cJ0_checkIndex_df160, 2, none)
abbrev M_J3_checkIndex_8e157 : MethodName × ByteArray × Nat × Option FieldType := (yJ3_checkIndex_8e157, cJ3_checkIndex_8e157, 3, some .int)
theorem mv_J0_length_8abf5 : zMV M_J0_length_8abf5 RJ0 0 := ⟨⟨ini_RJ0, co_J0_length_8abf5, ⟨by decide, by decide, by decide +kernel⟩, by decide⟩, rfl, im_J0_length_8abf5, se_J0_length_8abf5⟩
theorem mv_J0_coder_7d493 : zMV M_J0_coder_7d493 RJ0 0 := ⟨⟨ini_RJ0, co_J0_coder_7d493, ⟨by decide, by decide, by decide +kernel⟩, by decide⟩, rfl, im_J0_coder_7d493, se_J0_coder_7d493⟩
theorem mv_J0_charAt_5068e : zMV M_J0_charAt_5068e RJ0 1 := ⟨⟨ini_RJ0, co_J0_charAt_5068e, ⟨by decide, by decide, by decide +kernel⟩, by decide⟩, rfl, im_J0_charAt_5068e, se_J0_charAt_5068e⟩
theorem mv_J0_isLatin1_aae02 : zMV M_J0_isLatin1_aae02 RJ0 0 := ⟨⟨ini_RJ0, co_J0_isLatin1_aae02, ⟨by decide, by decide, by decide +kernel⟩, by decide⟩, rfl, im_J0_isLatin1_aae02, se_J0_isLatin1_aae02⟩
theorem ms_J1_charAt_3b067 : zMS M_J1_charAt_3b067 2 := ⟨⟨ini_RJ1, co_J1_charAt_3b067, ⟨by decide, by decide, by decide +kernel⟩, by decide⟩, sm_J1_charAt_3b067⟩
theorem ms_J0_checkIndex_df160 : zMS M_J0_checkIndex_df160 2 := ⟨⟨ini_RJ0, co_J0_checkIndex_df160, ⟨by decide, by decide, by decide +kernel⟩, by decide⟩, sm_J0_checkIndex_df160⟩
theorem ms_J3_checkIndex_8e157 : zMS M_J3_checkIndex_8e157 3 := ⟨⟨ini_RJ3, co_J3_checkIndex_8e157, ⟨by decide, by decide, by decide +kernel⟩, by decide⟩, sm_J3_checkIndex_8e157⟩
theorem s_coder {σ : zS} {i : Nat} (hi : i < 5) : zCp M_J0_coder_7d493 1 [zT i] σ (zI 0) := by
  refine zC_of (M := M_J0_coder_7d493) (ls := [some (zT i)]) (n := 0) (by decide) (fun ad => Nat.le_of_ble_eq_true rfl) rfl (fun x h => ?_)
  refine z_getsC (pc := 0) h fl_J0_38 dJ0_coder_7d493_0 ?_
  refine z_if_eq (pc := 3) (tgt := 13) h (by omega) dJ0_coder_7d493_3 (by decide) (fun c3 => ?_) (fun c3 => ?_)
  · exact absurd c3 (by decide)
  refine z_aloadT_n (pc := 6) h dJ0_coder_7d493_6 rfl ?_
  refine z_getCd (pc := 7) h hi fl_J0_15 dJ0_coder_7d493_7 ?_
  refine z_goto (pc := 10) (tgt := 14) h dJ0_coder_7d493_10 (by decide) ?_
  refine z_nret (pc := 14) h rfl (by decide) dJ0_coder_7d493_14 ?_
  exact ⟨rfl, rfl⟩
theorem s_isLatin1 {σ : zS} {i : Nat} (hi : i < 5) : zCp M_J0_isLatin1_aae02 1 [zT i] σ (zI 1) := by
  refine zC_of (M := M_J0_isLatin1_aae02) (ls := [some (zT i)]) (n := 0) (by decide) (fun ad => Nat.le_of_ble_eq_true rfl) rfl (fun x h => ?_)
  refine z_getsC (pc := 0) h fl_J0_38 dJ0_isLatin1_aae02_0 ?_
  refine z_if_eq (pc := 3) (tgt := 17) h (by omega) dJ0_isLatin1_aae02_3 (by decide) (fun c3 => ?_) (fun c3 => ?_)
  · exact absurd c3 (by decide)
  refine z_aloadT_n (pc := 6) h dJ0_isLatin1_aae02_6 rfl ?_
  refine z_getCd (pc := 7) h hi fl_J0_15 dJ0_isLatin1_aae02_7 ?_
  refine z_if_ne (pc := 10) (tgt := 17) h (by omega) dJ0_isLatin1_aae02_10 (by decide) (fun c3 => ?_) (fun c3 => ?_)
  · exact absurd rfl c3
  refine z_iconst (pc := 13) h dJ0_isLatin1_aae02_13 ?_
  refine z_goto (pc := 14) (tgt := 18) h dJ0_isLatin1_aae02_14 (by decide) ?_
  refine z_zret (pc := 18) h rfl (by omega) dJ0_isLatin1_aae02_18 ?_
  exact ⟨rfl, rfl⟩
theorem s_length {σ : zS} {i : Nat} (hi : i < 5) : zCp M_J0_length_8abf5 2 [zT i] σ (zI (zln i)) := by
  refine zC_of (M := M_J0_length_8abf5) (ls := [some (zT i)]) (n := 0) (by decide) (fun ad => Nat.le_of_ble_eq_true rfl) rfl (fun x h => ?_)
  refine z_aloadT_n (pc := 0) h dJ0_length_8abf5_0 rfl ?_
  refine z_getV (pc := 1) h hi fl_J0_9 dJ0_length_8abf5_1 ?_
  refine z_alenV (pc := 4) h hi dJ0_length_8abf5_4 ?_
  refine z_aloadT_n (pc := 5) h dJ0_length_8abf5_5 rfl ?_
  refine z_pT (pc := 6) h hi (s_coder hi) (by decide) mv_J0_coder_7d493 ml_J0_335 rfl dJ0_length_8abf5_6 rfl (Nat.le_of_ble_eq_true rfl) ?_
  refine z_ishr0 (pc := 9) h dJ0_length_8abf5_9 ?_
  refine z_iret (pc := 10) h rfl dJ0_length_8abf5_10 ?_
  exact ⟨rfl, rfl⟩
theorem s_check3 {σ : zS} {v : Value} {k n : Int} (hv : v = .null ∨ v = zF) (h0 : 0 ≤ k) (h1 : k < n) (h2 : n ≤ 10) : zCp M_J3_checkIndex_8e157 1 [zI k, zI n, v] σ (zI k) := by
  have hc : v.category ≠ 2 := by rcases hv with rfl | rfl <;> decide
  refine zC_of (M := M_J3_checkIndex_8e157) (ls := [some (zI k), some (zI n), some v]) (n := 0) (by decide) (fun ad => by rcases hv with rfl | rfl <;> exact Nat.le_of_ble_eq_true rfl) (by rcases hv with rfl | rfl <;> rfl) (fun x h => ?_)
  refine z_iload_n (pc := 0) h dJ3_checkIndex_8e157_0 rfl ?_
  refine z_if_lt (pc := 1) (tgt := 9) h (by omega) dJ3_checkIndex_8e157_1 (by decide) (fun c3 => ?_) (fun c3 => ?_)
  · omega
  refine z_iload_n (pc := 4) h dJ3_checkIndex_8e157_4 rfl ?_
  refine z_iload_n (pc := 5) h dJ3_checkIndex_8e157_5 rfl ?_
  refine z_icmp_lt (pc := 6) (tgt := 16) h (by omega) (by omega) dJ3_checkIndex_8e157_6 (by decide) (fun c3 => ?_) (fun c3 => ?_)
  · refine z_iload_n (pc := 16) h dJ3_checkIndex_8e157_16 rfl ?_
    refine z_iret (pc := 17) h rfl dJ3_checkIndex_8e157_17 ?_
    exact ⟨rfl, rfl⟩
  · omega
theorem s_check {σ : zS} {k n : Int} (h0 : 0 ≤ k) (h1 : k < n) (h2 : n ≤ 10) : zCv M_J0_checkIndex_df160 2 [zI k, zI n] σ σ := by
  refine zC_of (M := M_J0_checkIndex_df160) (ls := [some (zI k), some (zI n)]) (n := 0) (by decide) (fun ad => Nat.le_of_ble_eq_true rfl) rfl (fun x h => ?_)
  have go : ∀ v : Value, v = .null ∨ v = zF → zW x (fun r τ' => r = none ∧ τ' = σ) 5 [some (zI k), some (zI n)] [v, zI n, zI k] σ := by
    intro v hv
    refine z_pS (pc := 5) (st := []) h (s_check3 hv h0 h1 h2) (by decide) ms_J3_checkIndex_8e157 ml_J0_1059 rfl dJ0_checkIndex_df160_5 rfl (Nat.le_of_ble_eq_true rfl) ?_
    refine z_popI (pc := 8) h dJ0_checkIndex_df160_8 ?_
    refine z_ret (pc := 9) h rfl dJ0_checkIndex_df160_9 ?_
    exact ⟨rfl, rfl⟩
  refine z_iload_n (pc := 0) h dJ0_checkIndex_df160_0 rfl ?_
  refine z_iload_n (pc := 1) h dJ0_checkIndex_df160_1 rfl ?_
  exact z_getsF (pc := 2) h fl_J0_1053 dJ0_checkIndex_df160_2 (go _ (Or.inl rfl)) (go _ (Or.inr rfl))
theorem s_charAt1 {σ : zS} {i : Nat} {k : Int} (hi : i < 5) (h0 : 0 ≤ k) (h1 : k < zln i) : zCp M_J1_charAt_3b067 3 [zV i, zI k] σ (zI (zch i k)) := by
  have hb := zln_b i hi
  have hcb := zch_b i k
  refine zC_of (M := M_J1_charAt_3b067) (ls := [some (zV i), some (zI k)]) (n := 0) (by decide) (fun ad => Nat.le_of_ble_eq_true rfl) rfl (fun x h => ?_)
  refine z_iload_n (pc := 0) h dJ1_charAt_3b067_0 rfl ?_
  refine z_aloadX_n (pc := 1) (v := 200000 + i) h dJ1_charAt_3b067_1 rfl ?_
  refine z_alenV (pc := 2) h hi dJ1_charAt_3b067_2 ?_
  refine z_vS (pc := 3) (st := []) h (s_check h0 h1 (by omega)) (by decide) ms_J0_checkIndex_df160 ml_J1_9 rfl dJ1_charAt_3b067_3 rfl (Nat.le_of_ble_eq_true rfl) ?_
  refine z_aloadX_n (pc := 6) (v := 200000 + i) h dJ1_charAt_3b067_6 rfl ?_
  refine z_iload_n (pc := 7) h dJ1_charAt_3b067_7 rfl ?_
  refine z_baldV (pc := 8) h hi h0 h1 dJ1_charAt_3b067_8 ?_
  refine z_sipush (pc := 9) h dJ1_charAt_3b067_9 (by decide) ?_
  refine z_iand (pc := 12) h dJ1_charAt_3b067_12 ?_
  rw [and32, show zch i k % 256 = zch i k by omega]
  refine z_i2c (pc := 13) h (by omega) dJ1_charAt_3b067_13 ?_
  refine z_nret (pc := 14) (ty := .char) h rfl ?_ dJ1_charAt_3b067_14 ?_
  · have key : ∀ n : Fin 256, narrow .char (.int (Int32.ofInt ((n : Nat) : Int))) = .int (Int32.ofInt ((n : Nat) : Int)) := by decide +kernel
    have := key ⟨(zch i k).toNat, by omega⟩
    rwa [show (((zch i k).toNat : Nat) : Int) = zch i k by omega] at this
  exact ⟨rfl, rfl⟩
theorem s_charAt {σ : zS} {i : Nat} {k : Int} (hi : i < 5) (h0 : 0 ≤ k) (h1 : k < zln i) : zCp M_J0_charAt_5068e 4 [zT i, zI k] σ (zI (zch i k)) := by
  have hb := zln_b i hi
  have hcb := zch_b i k
  refine zC_of (M := M_J0_charAt_5068e) (ls := [some (zT i), some (zI k)]) (n := 0) (by decide) (fun ad => Nat.le_of_ble_eq_true rfl) rfl (fun x h => ?_)
  refine z_aloadT_n (pc := 0) h dJ0_charAt_5068e_0 rfl ?_
  refine z_pT (pc := 1) (st := []) h hi (s_isLatin1 hi) (by decide) mv_J0_isLatin1_aae02 ml_J0_492 rfl dJ0_charAt_5068e_1 rfl (Nat.le_of_ble_eq_true rfl) ?_
  refine z_if_eq (pc := 4) (tgt := 16) h (by omega) dJ0_charAt_5068e_4 (by decide) (fun c3 => ?_) (fun c3 => ?_)
  · exact absurd c3 (by decide)
  refine z_aloadT_n (pc := 7) h dJ0_charAt_5068e_7 rfl ?_
  refine z_getV (pc := 8) h hi fl_J0_9 dJ0_charAt_5068e_8 ?_
  refine z_iload_n (pc := 11) h dJ0_charAt_5068e_11 rfl ?_
  refine z_pS (pc := 12) (st := []) h (s_charAt1 hi h0 h1) (by decide) ms_J1_charAt_3b067 ml_J0_495 rfl dJ0_charAt_5068e_12 rfl (Nat.le_of_ble_eq_true rfl) ?_
  refine z_nret (pc := 15) (ty := .char) h rfl ?_ dJ0_charAt_5068e_15 ?_
  · have key : ∀ n : Fin 256, narrow .char (.int (Int32.ofInt ((n : Nat) : Int))) = .int (Int32.ofInt ((n : Nat) : Int)) := by decide +kernel
    have := key ⟨(zch i k).toNat, by omega⟩
    rwa [show (((zch i k).toNat : Nat) : Int) = zch i k by omega] at this
  exact ⟨rfl, rfl⟩
