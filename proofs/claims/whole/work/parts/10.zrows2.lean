/-! Stores by place, longs, switches. -/
section ZR2
variable {x : zX} {K : Option Value → zS → Prop} {own : String} {cc : ByteArray} {nL d pc : Nat} {ret : Option FieldType} {ls : List (Option Value)} {st : List Value} {σ : zS}

theorem zp_k {ls : List (Option Value)} {i : Nat} {a : Option Value} (hi : ls[i]? = some a) (hc : zc1 a = true) : ∀ j u, j + 1 = i + 1 → ls[j]? = some (some u) → u.category = 1 := by
  intro j u hj hu
  have e : j = i := by omega
  subst e
  rw [hi] at hu
  cases hu
  simpa [zc1] using hc
theorem z_ist_0 (h : zH x own cc nL ret d) {v : Int} {a0 : Option Value} {r : List (Option Value)} (hd : decode cc pc = .ok (.istore_n 0, 1)) (hn : 0 < nL) (k : zW x K (pc + 1) (some (zI v) :: r) st σ) : zW x K pc (a0 :: r) (zI v :: st) σ := z_istore_nG (ls := a0 :: r) (q := 0) h hd (Nat.le_of_ble_eq_true rfl) hn (fun j u hj => by cases hj) k
theorem z_ast_0 (h : zH x own cc nL ret d) {v : Nat} {a0 : Option Value} {r : List (Option Value)} (hd : decode cc pc = .ok (.astore_n 0, 1)) (hn : 0 < nL) (k : zW x K (pc + 1) (some (zR v) :: r) st σ) : zW x K pc (a0 :: r) (zR v :: st) σ := z_astoreR_nG (ls := a0 :: r) (q := 0) h hd (Nat.le_of_ble_eq_true rfl) hn (fun j u hj => by cases hj) k
theorem z_inc_0 (h : zH x own cc nL ret d) {v n : Int} {r : List (Option Value)} (hd : decode cc pc = .ok (.iinc 0 n, 3)) (hn : 0 < nL) (k : zW x K (pc + 3) (some (zI (v + n)) :: r) st σ) : zW x K pc (some (zI v) :: r) st σ := z_iincG (ls := some (zI v) :: r) (i := 0) h hd rfl hn (fun j u hj => by cases hj) k
theorem z_ist_1 (h : zH x own cc nL ret d) {v : Int} {a0 a1 : Option Value} {r : List (Option Value)} (hd : decode cc pc = .ok (.istore_n 1, 1)) (hn : 1 < nL) (hc : zc1 a0 = true) (k : zW x K (pc + 1) (a0 :: some (zI v) :: r) st σ) : zW x K pc (a0 :: a1 :: r) (zI v :: st) σ := z_istore_nG (ls := a0 :: a1 :: r) (q := 1) h hd (Nat.le_of_ble_eq_true rfl) hn (zp_k (i := 0) (a := a0) rfl hc) k
theorem z_ast_1 (h : zH x own cc nL ret d) {v : Nat} {a0 a1 : Option Value} {r : List (Option Value)} (hd : decode cc pc = .ok (.astore_n 1, 1)) (hn : 1 < nL) (hc : zc1 a0 = true) (k : zW x K (pc + 1) (a0 :: some (zR v) :: r) st σ) : zW x K pc (a0 :: a1 :: r) (zR v :: st) σ := z_astoreR_nG (ls := a0 :: a1 :: r) (q := 1) h hd (Nat.le_of_ble_eq_true rfl) hn (zp_k (i := 0) (a := a0) rfl hc) k
theorem z_inc_1 (h : zH x own cc nL ret d) {v n : Int} {a0 : Option Value} {r : List (Option Value)} (hd : decode cc pc = .ok (.iinc 1 n, 3)) (hn : 1 < nL) (hc : zc1 a0 = true) (k : zW x K (pc + 3) (a0 :: some (zI (v + n)) :: r) st σ) : zW x K pc (a0 :: some (zI v) :: r) st σ := z_iincG (ls := a0 :: some (zI v) :: r) (i := 1) h hd rfl hn (zp_k (i := 0) (a := a0) rfl hc) k
theorem z_ist_2 (h : zH x own cc nL ret d) {v : Int} {a0 a1 a2 : Option Value} {r : List (Option Value)} (hd : decode cc pc = .ok (.istore_n 2, 1)) (hn : 2 < nL) (hc : zc1 a1 = true) (k : zW x K (pc + 1) (a0 :: a1 :: some (zI v) :: r) st σ) : zW x K pc (a0 :: a1 :: a2 :: r) (zI v :: st) σ := z_istore_nG (ls := a0 :: a1 :: a2 :: r) (q := 2) h hd (Nat.le_of_ble_eq_true rfl) hn (zp_k (i := 1) (a := a1) rfl hc) k
theorem z_ast_2 (h : zH x own cc nL ret d) {v : Nat} {a0 a1 a2 : Option Value} {r : List (Option Value)} (hd : decode cc pc = .ok (.astore_n 2, 1)) (hn : 2 < nL) (hc : zc1 a1 = true) (k : zW x K (pc + 1) (a0 :: a1 :: some (zR v) :: r) st σ) : zW x K pc (a0 :: a1 :: a2 :: r) (zR v :: st) σ := z_astoreR_nG (ls := a0 :: a1 :: a2 :: r) (q := 2) h hd (Nat.le_of_ble_eq_true rfl) hn (zp_k (i := 1) (a := a1) rfl hc) k
theorem z_inc_2 (h : zH x own cc nL ret d) {v n : Int} {a0 a1 : Option Value} {r : List (Option Value)} (hd : decode cc pc = .ok (.iinc 2 n, 3)) (hn : 2 < nL) (hc : zc1 a1 = true) (k : zW x K (pc + 3) (a0 :: a1 :: some (zI (v + n)) :: r) st σ) : zW x K pc (a0 :: a1 :: some (zI v) :: r) st σ := z_iincG (ls := a0 :: a1 :: some (zI v) :: r) (i := 2) h hd rfl hn (zp_k (i := 1) (a := a1) rfl hc) k
theorem z_ist_3 (h : zH x own cc nL ret d) {v : Int} {a0 a1 a2 a3 : Option Value} {r : List (Option Value)} (hd : decode cc pc = .ok (.istore_n 3, 1)) (hn : 3 < nL) (hc : zc1 a2 = true) (k : zW x K (pc + 1) (a0 :: a1 :: a2 :: some (zI v) :: r) st σ) : zW x K pc (a0 :: a1 :: a2 :: a3 :: r) (zI v :: st) σ := z_istore_nG (ls := a0 :: a1 :: a2 :: a3 :: r) (q := 3) h hd (Nat.le_of_ble_eq_true rfl) hn (zp_k (i := 2) (a := a2) rfl hc) k
theorem z_ast_3 (h : zH x own cc nL ret d) {v : Nat} {a0 a1 a2 a3 : Option Value} {r : List (Option Value)} (hd : decode cc pc = .ok (.astore_n 3, 1)) (hn : 3 < nL) (hc : zc1 a2 = true) (k : zW x K (pc + 1) (a0 :: a1 :: a2 :: some (zR v) :: r) st σ) : zW x K pc (a0 :: a1 :: a2 :: a3 :: r) (zR v :: st) σ := z_astoreR_nG (ls := a0 :: a1 :: a2 :: a3 :: r) (q := 3) h hd (Nat.le_of_ble_eq_true rfl) hn (zp_k (i := 2) (a := a2) rfl hc) k
theorem z_inc_3 (h : zH x own cc nL ret d) {v n : Int} {a0 a1 a2 : Option Value} {r : List (Option Value)} (hd : decode cc pc = .ok (.iinc 3 n, 3)) (hn : 3 < nL) (hc : zc1 a2 = true) (k : zW x K (pc + 3) (a0 :: a1 :: a2 :: some (zI (v + n)) :: r) st σ) : zW x K pc (a0 :: a1 :: a2 :: some (zI v) :: r) st σ := z_iincG (ls := a0 :: a1 :: a2 :: some (zI v) :: r) (i := 3) h hd rfl hn (zp_k (i := 2) (a := a2) rfl hc) k
theorem z_ist_4 (h : zH x own cc nL ret d) {v : Int} {a0 a1 a2 a3 a4 : Option Value} {r : List (Option Value)} (hd : decode cc pc = .ok (.istore 4, 2)) (hn : 4 < nL) (hc : zc1 a3 = true) (k : zW x K (pc + 2) (a0 :: a1 :: a2 :: a3 :: some (zI v) :: r) st σ) : zW x K pc (a0 :: a1 :: a2 :: a3 :: a4 :: r) (zI v :: st) σ := z_istoreG (ls := a0 :: a1 :: a2 :: a3 :: a4 :: r) (i := 4) h hd (Nat.le_of_ble_eq_true rfl) hn (zp_k (i := 3) (a := a3) rfl hc) k
theorem z_ast_4 (h : zH x own cc nL ret d) {v : Nat} {a0 a1 a2 a3 a4 : Option Value} {r : List (Option Value)} (hd : decode cc pc = .ok (.astore 4, 2)) (hn : 4 < nL) (hc : zc1 a3 = true) (k : zW x K (pc + 2) (a0 :: a1 :: a2 :: a3 :: some (zR v) :: r) st σ) : zW x K pc (a0 :: a1 :: a2 :: a3 :: a4 :: r) (zR v :: st) σ := z_astoreRG (ls := a0 :: a1 :: a2 :: a3 :: a4 :: r) (i := 4) h hd (Nat.le_of_ble_eq_true rfl) hn (zp_k (i := 3) (a := a3) rfl hc) k
theorem z_inc_4 (h : zH x own cc nL ret d) {v n : Int} {a0 a1 a2 a3 : Option Value} {r : List (Option Value)} (hd : decode cc pc = .ok (.iinc 4 n, 3)) (hn : 4 < nL) (hc : zc1 a3 = true) (k : zW x K (pc + 3) (a0 :: a1 :: a2 :: a3 :: some (zI (v + n)) :: r) st σ) : zW x K pc (a0 :: a1 :: a2 :: a3 :: some (zI v) :: r) st σ := z_iincG (ls := a0 :: a1 :: a2 :: a3 :: some (zI v) :: r) (i := 4) h hd rfl hn (zp_k (i := 3) (a := a3) rfl hc) k
theorem z_ist_5 (h : zH x own cc nL ret d) {v : Int} {a0 a1 a2 a3 a4 a5 : Option Value} {r : List (Option Value)} (hd : decode cc pc = .ok (.istore 5, 2)) (hn : 5 < nL) (hc : zc1 a4 = true) (k : zW x K (pc + 2) (a0 :: a1 :: a2 :: a3 :: a4 :: some (zI v) :: r) st σ) : zW x K pc (a0 :: a1 :: a2 :: a3 :: a4 :: a5 :: r) (zI v :: st) σ := z_istoreG (ls := a0 :: a1 :: a2 :: a3 :: a4 :: a5 :: r) (i := 5) h hd (Nat.le_of_ble_eq_true rfl) hn (zp_k (i := 4) (a := a4) rfl hc) k
theorem z_ast_5 (h : zH x own cc nL ret d) {v : Nat} {a0 a1 a2 a3 a4 a5 : Option Value} {r : List (Option Value)} (hd : decode cc pc = .ok (.astore 5, 2)) (hn : 5 < nL) (hc : zc1 a4 = true) (k : zW x K (pc + 2) (a0 :: a1 :: a2 :: a3 :: a4 :: some (zR v) :: r) st σ) : zW x K pc (a0 :: a1 :: a2 :: a3 :: a4 :: a5 :: r) (zR v :: st) σ := z_astoreRG (ls := a0 :: a1 :: a2 :: a3 :: a4 :: a5 :: r) (i := 5) h hd (Nat.le_of_ble_eq_true rfl) hn (zp_k (i := 4) (a := a4) rfl hc) k
theorem z_inc_5 (h : zH x own cc nL ret d) {v n : Int} {a0 a1 a2 a3 a4 : Option Value} {r : List (Option Value)} (hd : decode cc pc = .ok (.iinc 5 n, 3)) (hn : 5 < nL) (hc : zc1 a4 = true) (k : zW x K (pc + 3) (a0 :: a1 :: a2 :: a3 :: a4 :: some (zI (v + n)) :: r) st σ) : zW x K pc (a0 :: a1 :: a2 :: a3 :: a4 :: some (zI v) :: r) st σ := z_iincG (ls := a0 :: a1 :: a2 :: a3 :: a4 :: some (zI v) :: r) (i := 5) h hd rfl hn (zp_k (i := 4) (a := a4) rfl hc) k
theorem z_ist_6 (h : zH x own cc nL ret d) {v : Int} {a0 a1 a2 a3 a4 a5 a6 : Option Value} {r : List (Option Value)} (hd : decode cc pc = .ok (.istore 6, 2)) (hn : 6 < nL) (hc : zc1 a5 = true) (k : zW x K (pc + 2) (a0 :: a1 :: a2 :: a3 :: a4 :: a5 :: some (zI v) :: r) st σ) : zW x K pc (a0 :: a1 :: a2 :: a3 :: a4 :: a5 :: a6 :: r) (zI v :: st) σ := z_istoreG (ls := a0 :: a1 :: a2 :: a3 :: a4 :: a5 :: a6 :: r) (i := 6) h hd (Nat.le_of_ble_eq_true rfl) hn (zp_k (i := 5) (a := a5) rfl hc) k
theorem z_ast_6 (h : zH x own cc nL ret d) {v : Nat} {a0 a1 a2 a3 a4 a5 a6 : Option Value} {r : List (Option Value)} (hd : decode cc pc = .ok (.astore 6, 2)) (hn : 6 < nL) (hc : zc1 a5 = true) (k : zW x K (pc + 2) (a0 :: a1 :: a2 :: a3 :: a4 :: a5 :: some (zR v) :: r) st σ) : zW x K pc (a0 :: a1 :: a2 :: a3 :: a4 :: a5 :: a6 :: r) (zR v :: st) σ := z_astoreRG (ls := a0 :: a1 :: a2 :: a3 :: a4 :: a5 :: a6 :: r) (i := 6) h hd (Nat.le_of_ble_eq_true rfl) hn (zp_k (i := 5) (a := a5) rfl hc) k
theorem z_inc_6 (h : zH x own cc nL ret d) {v n : Int} {a0 a1 a2 a3 a4 a5 : Option Value} {r : List (Option Value)} (hd : decode cc pc = .ok (.iinc 6 n, 3)) (hn : 6 < nL) (hc : zc1 a5 = true) (k : zW x K (pc + 3) (a0 :: a1 :: a2 :: a3 :: a4 :: a5 :: some (zI (v + n)) :: r) st σ) : zW x K pc (a0 :: a1 :: a2 :: a3 :: a4 :: a5 :: some (zI v) :: r) st σ := z_iincG (ls := a0 :: a1 :: a2 :: a3 :: a4 :: a5 :: some (zI v) :: r) (i := 6) h hd rfl hn (zp_k (i := 5) (a := a5) rfl hc) k
theorem z_ist_7 (h : zH x own cc nL ret d) {v : Int} {a0 a1 a2 a3 a4 a5 a6 a7 : Option Value} {r : List (Option Value)} (hd : decode cc pc = .ok (.istore 7, 2)) (hn : 7 < nL) (hc : zc1 a6 = true) (k : zW x K (pc + 2) (a0 :: a1 :: a2 :: a3 :: a4 :: a5 :: a6 :: some (zI v) :: r) st σ) : zW x K pc (a0 :: a1 :: a2 :: a3 :: a4 :: a5 :: a6 :: a7 :: r) (zI v :: st) σ := z_istoreG (ls := a0 :: a1 :: a2 :: a3 :: a4 :: a5 :: a6 :: a7 :: r) (i := 7) h hd (Nat.le_of_ble_eq_true rfl) hn (zp_k (i := 6) (a := a6) rfl hc) k
theorem z_ast_7 (h : zH x own cc nL ret d) {v : Nat} {a0 a1 a2 a3 a4 a5 a6 a7 : Option Value} {r : List (Option Value)} (hd : decode cc pc = .ok (.astore 7, 2)) (hn : 7 < nL) (hc : zc1 a6 = true) (k : zW x K (pc + 2) (a0 :: a1 :: a2 :: a3 :: a4 :: a5 :: a6 :: some (zR v) :: r) st σ) : zW x K pc (a0 :: a1 :: a2 :: a3 :: a4 :: a5 :: a6 :: a7 :: r) (zR v :: st) σ := z_astoreRG (ls := a0 :: a1 :: a2 :: a3 :: a4 :: a5 :: a6 :: a7 :: r) (i := 7) h hd (Nat.le_of_ble_eq_true rfl) hn (zp_k (i := 6) (a := a6) rfl hc) k
theorem z_inc_7 (h : zH x own cc nL ret d) {v n : Int} {a0 a1 a2 a3 a4 a5 a6 : Option Value} {r : List (Option Value)} (hd : decode cc pc = .ok (.iinc 7 n, 3)) (hn : 7 < nL) (hc : zc1 a6 = true) (k : zW x K (pc + 3) (a0 :: a1 :: a2 :: a3 :: a4 :: a5 :: a6 :: some (zI (v + n)) :: r) st σ) : zW x K pc (a0 :: a1 :: a2 :: a3 :: a4 :: a5 :: a6 :: some (zI v) :: r) st σ := z_iincG (ls := a0 :: a1 :: a2 :: a3 :: a4 :: a5 :: a6 :: some (zI v) :: r) (i := 7) h hd rfl hn (zp_k (i := 6) (a := a6) rfl hc) k
theorem zB_I (b : Bool) : zB b = zI (if b then 1 else 0) := rfl
theorem z_lst_1 (h : zH x own cc nL ret d) {v : Int64} {a0 a1 a2 : Option Value} {r : List (Option Value)} (hd : decode cc pc = .ok (.lstore_n 1, 1)) (hn : 2 < nL) (hc : zc1 a0 = true) (k : zW x K (pc + 1) (a0 :: some (.long v) :: none :: r) st σ) : zW x K pc (a0 :: a1 :: a2 :: r) (.long v :: st) σ := by
  obtain ⟨p, l, e, R, s, m, args, below, meth, cd, D, ad, cs⟩ := x
  intro H locs la hW hS hl
  obtain ⟨hx, hb, hml, hr, hown, hts, hlk, rfl, hK, hinj, hE⟩ := h
  refine lv_lstore_n (i := 1) hx hb hd rfl hl.has (by rw [hml]; exact hn) rfl (fun la' hl' => k H locs la' hW hS ?_)
  refine ⟨hl'.1, hl'.2.1, fun j u hj => ?_⟩
  match j, hj with
  | 0, hj =>
    simp at hj
    subst hj
    refine hl'.2.2 (0, zcv ad u) (List.mem_cons_of_mem _ (List.mem_filter.mpr ⟨zlv_mem (i := 0) (by simp), ?_⟩))
    have : u.category = 1 := by simpa [zc1] using hc
    simp [zcv_cat, this]
  | 1, hj =>
    simp at hj
    subst hj
    exact hl'.2.2 (1, .long v) List.mem_cons_self
  | 2, hj => simp at hj
  | j + 3, hj =>
    have hj2 : (a0 :: a1 :: a2 :: r)[j + 3]? = some (some u) := by simpa using hj
    refine hl'.2.2 (j + 3, zcv ad u) (List.mem_cons_of_mem _ (List.mem_filter.mpr ⟨zlv_mem hj2, ?_⟩))
    simp

theorem z_land (h : zH x own cc nL ret d) {x1 y1 : Int64} (hd : decode cc pc = .ok (.land, 1)) (k : zW x K (pc + 1) ls (.long (x1 &&& y1) :: st) σ) : zW x K pc ls (.long y1 :: .long x1 :: st) σ := by
  obtain ⟨p, l, e, R, s, m, args, below, meth, cd, D, ad, cs⟩ := x
  intro H locs la hW hS hl
  obtain ⟨hx, hb, hml, hr, hown, hts, hlk, rfl, hK, hinj, hE⟩ := h
  exact lv_land (x := x1) (y := y1) hx hb hd (k H locs la hW hS hl)

theorem z_lor (h : zH x own cc nL ret d) {x1 y1 : Int64} (hd : decode cc pc = .ok (.lor, 1)) (k : zW x K (pc + 1) ls (.long (x1 ||| y1) :: st) σ) : zW x K pc ls (.long y1 :: .long x1 :: st) σ := by
  obtain ⟨p, l, e, R, s, m, args, below, meth, cd, D, ad, cs⟩ := x
  intro H locs la hW hS hl
  obtain ⟨hx, hb, hml, hr, hown, hts, hlk, rfl, hK, hinj, hE⟩ := h
  exact lv_lor (x := x1) (y := y1) hx hb hd (k H locs la hW hS hl)

theorem z_lshl (h : zH x own cc nL ret d) {x1 : Int64} {a : Int} (hd : decode cc pc = .ok (.lshl, 1)) (k : zW x K (pc + 1) ls (.long (x1 <<< ((Int32.ofInt a).toInt64 &&& 63)) :: st) σ) : zW x K pc ls (zI a :: .long x1 :: st) σ := by
  obtain ⟨p, l, e, R, s, m, args, below, meth, cd, D, ad, cs⟩ := x
  intro H locs la hW hS hl
  obtain ⟨hx, hb, hml, hr, hown, hts, hlk, rfl, hK, hinj, hE⟩ := h
  exact lv_lshl (x := x1) (y := Int32.ofInt a) hx hb hd rfl (k H locs la hW hS hl)

theorem z_lshr (h : zH x own cc nL ret d) {x1 : Int64} {a : Int} (hd : decode cc pc = .ok (.lshr, 1)) (k : zW x K (pc + 1) ls (.long (x1 >>> ((Int32.ofInt a).toInt64 &&& 63)) :: st) σ) : zW x K pc ls (zI a :: .long x1 :: st) σ := by
  obtain ⟨p, l, e, R, s, m, args, below, meth, cd, D, ad, cs⟩ := x
  intro H locs la hW hS hl
  obtain ⟨hx, hb, hml, hr, hown, hts, hlk, rfl, hK, hinj, hE⟩ := h
  exact lv_lshr (x := x1) (y := Int32.ofInt a) hx hb hd rfl (k H locs la hW hS hl)

theorem z_lushr (h : zH x own cc nL ret d) {x1 : Int64} {a : Int} (hd : decode cc pc = .ok (.lushr, 1)) (k : zW x K (pc + 1) ls (.long ((x1.toUInt64 >>> ((Int32.ofInt a).toInt64.toUInt64 &&& Int64.toUInt64 63)).toInt64) :: st) σ) : zW x K pc ls (zI a :: .long x1 :: st) σ := by
  obtain ⟨p, l, e, R, s, m, args, below, meth, cd, D, ad, cs⟩ := x
  intro H locs la hW hS hl
  obtain ⟨hx, hb, hml, hr, hown, hts, hlk, rfl, hK, hinj, hE⟩ := h
  exact lv_lushr (x := x1) (y := Int32.ofInt a) hx hb hd rfl (k H locs la hW hS hl)

theorem z_i2l (h : zH x own cc nL ret d) {a : Int} (hd : decode cc pc = .ok (.i2l, 1)) (k : zW x K (pc + 1) ls (.long (Int32.ofInt a).toInt64 :: st) σ) : zW x K pc ls (zI a :: st) σ := by
  obtain ⟨p, l, e, R, s, m, args, below, meth, cd, D, ad, cs⟩ := x
  intro H locs la hW hS hl
  obtain ⟨hx, hb, hml, hr, hown, hts, hlk, rfl, hK, hinj, hE⟩ := h
  exact lv_i2l (x := Int32.ofInt a) hx hb hd rfl (k H locs la hW hS hl)

theorem z_l2i (h : zH x own cc nL ret d) {x1 : Int64} (hd : decode cc pc = .ok (.l2i, 1)) (k : zW x K (pc + 1) ls (zI x1.toInt32.toInt :: st) σ) : zW x K pc ls (.long x1 :: st) σ := by
  obtain ⟨p, l, e, R, s, m, args, below, meth, cd, D, ad, cs⟩ := x
  intro H locs la hW hS hl
  obtain ⟨hx, hb, hml, hr, hown, hts, hlk, rfl, hK, hinj, hE⟩ := h
  exact lv_l2i (x := x1) hx hb hd (Int32.ofInt_toInt _).symm (k H locs la hW hS hl)

theorem z_i2b (h : zH x own cc nL ret d) {a : Int} (hd : decode cc pc = .ok (.i2b, 1)) (k : zW x K (pc + 1) ls (zI (Int8.ofInt a).toInt :: st) σ) : zW x K pc ls (zI a :: st) σ := by
  obtain ⟨p, l, e, R, s, m, args, below, meth, cd, D, ad, cs⟩ := x
  intro H locs la hW hS hl
  obtain ⟨hx, hb, hml, hr, hown, hts, hlk, rfl, hK, hinj, hE⟩ := h
  exact lv_i2b (x := Int32.ofInt a) hx hb hd (by rw [Int32.toInt8_ofInt, Int32.ofInt_int8ToInt]) (k H locs la hW hS hl)

theorem z_iand (h : zH x own cc nL ret d) {a b : Int} (hd : decode cc pc = .ok (.iand, 1)) (k : zW x K (pc + 1) ls (zI (Int32.ofInt a &&& Int32.ofInt b).toInt :: st) σ) : zW x K pc ls (zI b :: zI a :: st) σ := by
  obtain ⟨p, l, e, R, s, m, args, below, meth, cd, D, ad, cs⟩ := x
  intro H locs la hW hS hl
  obtain ⟨hx, hb, hml, hr, hown, hts, hlk, rfl, hK, hinj, hE⟩ := h
  have k' := k H locs la hW hS hl
  refine lv_iand (x := Int32.ofInt a) (y := Int32.ofInt b) hx hb hd ?_
  have e1 : zcv ad (zI (Int32.ofInt a &&& Int32.ofInt b).toInt) = .int (Int32.ofInt a &&& Int32.ofInt b) := by simp [zI, zcv]
  rw [List.map_cons, e1] at k'
  exact k'

def zlc (x y : Int64) : Int := (lg_cmp x y).toInt
theorem zlc_0 (x y : Int64) : zlc x y = 0 ↔ x = y := by
  unfold zlc lg_cmp
  split
  · rename_i h
    have : ¬ x = y := fun e => by subst e; exact absurd h (by simp)
    simp [this]
  · split
    · rename_i h1 h2; simp_all
    · rename_i h1 h2; simp_all
theorem zlc_r (x y : Int64) : -2147483648 ≤ zlc x y ∧ zlc x y ≤ 2147483647 := by
  unfold zlc
  exact ⟨(lg_cmp x y).minValue_le_toInt, (lg_cmp x y).toInt_le⟩

theorem z_lcmp (h : zH x own cc nL ret d) {x1 y1 : Int64} (hd : decode cc pc = .ok (.lcmp, 1)) (k : zW x K (pc + 1) ls (zI (zlc x1 y1) :: st) σ) : zW x K pc ls (.long y1 :: .long x1 :: st) σ := by
  obtain ⟨p, l, e, R, s, m, args, below, meth, cd, D, ad, cs⟩ := x
  intro H locs la hW hS hl
  obtain ⟨hx, hb, hml, hr, hown, hts, hlk, rfl, hK, hinj, hE⟩ := h
  have k' := k H locs la hW hS hl
  refine W.lcmp (x := x1) (y := y1) hx hb hd ?_
  have e1 : zcv ad (zI (zlc x1 y1)) = .int (lg_cmp x1 y1) := by simp [zI, zcv, zlc]
  rw [List.map_cons, e1] at k'
  exact k'

theorem z_tswIn (h : zH x own cc nL ret d) {dflt lo hi : Int} {offs : Array Int} {len : Nat} {a off : Int} {tgt : Nat} (hd : decode cc pc = .ok (.tableswitch dflt lo hi offs, len)) (ha : -2147483648 ≤ a ∧ a ≤ 2147483647) (h1 : lo ≤ a) (h2 : a ≤ hi) (ho : offs[(a - lo).toNat]? = some off) (ht : (pc : Int) + off = (tgt : Int)) (k : zW x K tgt ls st σ) : zW x K pc ls (zI a :: st) σ := by
  obtain ⟨p, l, e, R, s, m, args, below, meth, cd, D, ad, cs⟩ := x
  intro H locs la hW hS hl
  obtain ⟨hx, hb, hml, hr, hown, hts, hlk, rfl, hK, hinj, hE⟩ := h
  exact lv_tableIn (x := Int32.ofInt a) hx hb hd (by rw [z_toInt ha]; omega) (by rw [z_toInt ha]; omega) (by rw [z_toInt ha]; exact ho) ht (k H locs la hW hS hl)

theorem z_tswOut (h : zH x own cc nL ret d) {dflt lo hi : Int} {offs : Array Int} {len : Nat} {a : Int} {tgt : Nat} (hd : decode cc pc = .ok (.tableswitch dflt lo hi offs, len)) (ha : -2147483648 ≤ a ∧ a ≤ 2147483647) (h1 : a < lo ∨ hi < a) (ht : (pc : Int) + dflt = (tgt : Int)) (k : zW x K tgt ls st σ) : zW x K pc ls (zI a :: st) σ := by
  obtain ⟨p, l, e, R, s, m, args, below, meth, cd, D, ad, cs⟩ := x
  intro H locs la hW hS hl
  obtain ⟨hx, hb, hml, hr, hown, hts, hlk, rfl, hK, hinj, hE⟩ := h
  exact lv_tableOut (x := Int32.ofInt a) hx hb hd (by rw [z_toInt ha]; exact h1) ht (k H locs la hW hS hl)

end ZR2
