/-! The rows again for any end, any room, cells made meanwhile; Ex: what holds of the heap beside the world. -/
def yH (x : zX) (own : String) (cc : ByteArray) (nL d : Nat) : Prop := match x with
  | (p, _, _, R, s, m, args, _, _, c, D, ad, cs) => p.tables.exec = Jvm.exec ∧ c.code = cc ∧ c.maxLocals = nL ∧ s.vm.findClass own = some m.cls ∧ (∀ w ∈ zUW, w.before args s = true) ∧ (d ≤ R.frames ∧ 27 * d ≤ R.locals) ∧ va_K D vwCl (zty cs) s ∧ zInj ad
def yE (x : zX) (A : Nat → Prop) (Ex : Heap → Prop) : Prop := match x with
  | (_, _, _, _, s, _, _, _, _, _, _, ad, _) => (∀ (H : Heap) (U : State), Ex H → U.heap = H → s.WarmedH U.vm → zEX ad U) ∧ (∀ H H' : Heap, Ex H → H.size ≤ H'.size → (∀ q : Nat, q < H.size → ¬ zAs ad q → H'[q]? = H[q]?) → Ex H') ∧ ∀ q, zAs ad q → A q
def yF (x : zX) (nc ns : Nat) : Prop := match x with
  | (_, _, _, R, _, _, _, _, _, _, _, _, _) => nc ≤ R.cells ∧ ns ≤ R.slots
def yW (x : zX) (A : Nat → Prop) (Ex : Heap → Prop) (nc ns : Nat) (Q : State → Prop) (pc : Nat) (ls : List (Option Value)) (st : List Value) (σ : zS) : Prop := match x with
  | (p, l, e, R, s, m, args, below, meth, c, D, ad, cs) => ∀ (H : Heap) (locs : List Loc) (la : Array Slot), zWd D ad cs σ H → va_S A s.heap H locs → Ex H → zLV la c.maxLocals ad ls →
    W p l e R s m args below meth c H locs nc ns Q (F0 m pc la (st.map (zcv ad)))
section YROWS
variable {x : zX} {A : Nat → Prop} {Ex : Heap → Prop} {nc ns : Nat} {Q : State → Prop} {own : String} {cc : ByteArray} {nL d pc : Nat} {ls : List (Option Value)} {st : List Value} {σ : zS}
theorem y_iconst (h : yH x own cc nL d) {n : Int} (hd : decode cc pc = .ok (.iconst n, 1)) (k : yW x A Ex nc ns Q (pc + 1) ls (zI n :: st) σ) : yW x A Ex nc ns Q pc ls st σ := by
  obtain ⟨p, l, e, R, s, m, args, below, meth, cd, D, ad, cs⟩ := x
  intro H locs la hW hS hX hl
  obtain ⟨hx, hb, hml, hown, hts, hfl, hK, hinj⟩ := h
  exact lv_iconst hx hb hd rfl (k H locs la hW hS hX hl)
theorem y_bipush (h : yH x own cc nL d) {n : Int} (hd : decode cc pc = .ok (.bipush n, 2)) (hv : (Int8.ofInt n).toInt32 = Int32.ofInt n) (k : yW x A Ex nc ns Q (pc + 2) ls (zI n :: st) σ) : yW x A Ex nc ns Q pc ls st σ := by
  obtain ⟨p, l, e, R, s, m, args, below, meth, cd, D, ad, cs⟩ := x
  intro H locs la hW hS hX hl
  obtain ⟨hx, hb, hml, hown, hts, hfl, hK, hinj⟩ := h
  exact lv_bipush hx hb hd hv (k H locs la hW hS hX hl)
theorem y_ldc2 (h : yH x own cc nL d) {i : Nat} {v : Int64} (hw : Cond.constantLong own i v ∈ zUW) (hd : decode cc pc = .ok (.ldc2_w i, 3)) (k : yW x A Ex nc ns Q (pc + 3) ls (.long v :: st) σ) : yW x A Ex nc ns Q pc ls st σ := by
  obtain ⟨p, l, e, R, s, m, args, below, meth, cd, D, ad, cs⟩ := x
  intro H locs la hW hS hX hl
  obtain ⟨hx, hb, hml, hown, hts, hfl, hK, hinj⟩ := h
  exact lv_ldc2 hx hb hown (hts _ hw) hd (k H locs la hW hS hX hl)
theorem y_iload_n (h : yH x own cc nL d) {q : Fin 4} {v : Int} (hd : decode cc pc = .ok (.iload_n q, 1)) (hv : ls[(q : Nat)]? = some (some (zI v))) (k : yW x A Ex nc ns Q (pc + 1) ls ((zI v) :: st) σ) : yW x A Ex nc ns Q pc ls st σ := by
  obtain ⟨p, l, e, R, s, m, args, below, meth, cd, D, ad, cs⟩ := x
  intro H locs la hW hS hX hl
  obtain ⟨hx, hb, hml, hown, hts, hfl, hK, hinj⟩ := h
  exact lv_iload_n hx hb hd rfl (hl.2.2 _ _ hv) (k H locs la hW hS hX hl)
theorem y_iload (h : yH x own cc nL d) {i : Nat} {v : Int} (hd : decode cc pc = .ok (.iload i, 2)) (hv : ls[i]? = some (some (zI v))) (k : yW x A Ex nc ns Q (pc + 2) ls ((zI v) :: st) σ) : yW x A Ex nc ns Q pc ls st σ := by
  obtain ⟨p, l, e, R, s, m, args, below, meth, cd, D, ad, cs⟩ := x
  intro H locs la hW hS hX hl
  obtain ⟨hx, hb, hml, hown, hts, hfl, hK, hinj⟩ := h
  exact lv_iload hx hb hd (hl.2.2 _ _ hv) (k H locs la hW hS hX hl)
theorem y_aload_n (h : yH x own cc nL d) {q : Fin 4} {v : Nat} (hd : decode cc pc = .ok (.aload_n q, 1)) (hv : ls[(q : Nat)]? = some (some (.ref v))) (k : yW x A Ex nc ns Q (pc + 1) ls ((.ref v) :: st) σ) : yW x A Ex nc ns Q pc ls st σ := by
  obtain ⟨p, l, e, R, s, m, args, below, meth, cd, D, ad, cs⟩ := x
  intro H locs la hW hS hX hl
  obtain ⟨hx, hb, hml, hown, hts, hfl, hK, hinj⟩ := h
  exact lv_aload_n hx hb hd rfl (hl.2.2 _ _ hv) (k H locs la hW hS hX hl)
theorem y_istore_nG (h : yH x own cc nL d) {q : Fin 4} {v : Int} (hd : decode cc pc = .ok (.istore_n q, 1)) (hi : (q : Nat) < ls.length) (hn : (q : Nat) < nL) (hp : ∀ j u, j + 1 = (q : Nat) → ls[j]? = some (some u) → u.category = 1) (k : yW x A Ex nc ns Q (pc + 1) (ls.set q (some (zI v))) st σ) : yW x A Ex nc ns Q pc ls ((zI v) :: st) σ := by
  obtain ⟨p, l, e, R, s, m, args, below, meth, cd, D, ad, cs⟩ := x
  intro H locs la hW hS hX hl
  obtain ⟨hx, hb, hml, hown, hts, hfl, hK, hinj⟩ := h
  exact lv_istore_n hx hb hd rfl hl.has (by rw [hml]; exact hn) rfl (fun la' hl' => k H locs la' hW hS hX (by have := zLV.put (v := zI v) rfl hp hi hl'; exact this))
theorem y_istoreG (h : yH x own cc nL d) {i : Nat} {v : Int} (hd : decode cc pc = .ok (.istore i, 2)) (hi : i < ls.length) (hn : i < nL) (hp : ∀ j u, j + 1 = i → ls[j]? = some (some u) → u.category = 1) (k : yW x A Ex nc ns Q (pc + 2) (ls.set i (some (zI v))) st σ) : yW x A Ex nc ns Q pc ls ((zI v) :: st) σ := by
  obtain ⟨p, l, e, R, s, m, args, below, meth, cd, D, ad, cs⟩ := x
  intro H locs la hW hS hX hl
  obtain ⟨hx, hb, hml, hown, hts, hfl, hK, hinj⟩ := h
  exact lv_istore hx hb hd hl.has (by rw [hml]; exact hn) rfl (fun la' hl' => k H locs la' hW hS hX (by have := zLV.put (v := zI v) rfl hp hi hl'; exact this))
theorem y_iincG (h : yH x own cc nL d) {i : Nat} {a n : Int} (hd : decode cc pc = .ok (.iinc i n, 3)) (hv : ls[i]? = some (some (zI a))) (hn : i < nL) (hp : ∀ j u, j + 1 = i → ls[j]? = some (some u) → u.category = 1) (k : yW x A Ex nc ns Q (pc + 3) (ls.set i (some (zI (a + n)))) st σ) : yW x A Ex nc ns Q pc ls st σ := by
  obtain ⟨p, l, e, R, s, m, args, below, meth, cd, D, ad, cs⟩ := x
  intro H locs la hW hS hX hl
  obtain ⟨hx, hb, hml, hown, hts, hfl, hK, hinj⟩ := h
  obtain ⟨q, hq⟩ := List.getElem?_of_mem (zlv_mem (ad := ad) hv)
  exact lv_iinc (v := Int32.ofInt (a + n)) hx hb hd hl.has hq (by rw [Int32.ofInt_add]) (by rw [hml]; exact hn) rfl (fun la' hl' => k H locs la' hW hS hX (by have := zLV.put (v := zI (a + n)) rfl hp (List.getElem?_eq_some_iff.mp hv).1 hl'; exact this))
theorem y_iadd (h : yH x own cc nL d) {a b : Int} (hd : decode cc pc = .ok (.iadd, 1)) (k : yW x A Ex nc ns Q (pc + 1) ls (zI (a + b) :: st) σ) : yW x A Ex nc ns Q pc ls (zI b :: zI a :: st) σ := by
  obtain ⟨p, l, e, R, s, m, args, below, meth, cd, D, ad, cs⟩ := x
  intro H locs la hW hS hX hl
  obtain ⟨hx, hb, hml, hown, hts, hfl, hK, hinj⟩ := h
  have k' := k H locs la hW hS hX hl
  refine lv_iadd (x := Int32.ofInt a) (y := Int32.ofInt b) hx hb hd ?_
  rw [← Int32.ofInt_add]
  exact k'
theorem y_isub (h : yH x own cc nL d) {a b : Int} (hd : decode cc pc = .ok (.isub, 1)) (k : yW x A Ex nc ns Q (pc + 1) ls (zI (a - b) :: st) σ) : yW x A Ex nc ns Q pc ls (zI b :: zI a :: st) σ := by
  obtain ⟨p, l, e, R, s, m, args, below, meth, cd, D, ad, cs⟩ := x
  intro H locs la hW hS hX hl
  obtain ⟨hx, hb, hml, hown, hts, hfl, hK, hinj⟩ := h
  have k' := k H locs la hW hS hX hl
  refine lv_isub (x := Int32.ofInt a) (y := Int32.ofInt b) hx hb hd ?_
  rw [← Int32.ofInt_sub]
  exact k'
theorem y_icmp_eq (h : yH x own cc nL d) {a b : Int} {off : Int} {tgt : Nat} (ha : -2147483648 ≤ a ∧ a ≤ 2147483647) (hb2 : -2147483648 ≤ b ∧ b ≤ 2147483647) (hd : decode cc pc = .ok (.if_icmp .eq off, 3)) (ht : (pc : Int) + off = (tgt : Int)) (kt : a = b → yW x A Ex nc ns Q tgt ls st σ) (kf : ¬ a = b → yW x A Ex nc ns Q (pc + 3) ls st σ) : yW x A Ex nc ns Q pc ls (zI b :: zI a :: st) σ := by
  obtain ⟨p, l, e, R, s, m, args, below, meth, cd, D, ad, cs⟩ := x
  intro H locs la hW hS hX hl
  obtain ⟨hx, hb, hml, hown, hts, hfl, hK, hinj⟩ := h
  exact lv_icmp_eq hx hb hd ht (fun q => kt (by exact (z_eq ha hb2).mp q) H locs la hW hS hX hl) (fun q => kf (by have q2 := mt (z_eq ha hb2).mpr q; omega) H locs la hW hS hX hl)
theorem y_if_eq (h : yH x own cc nL d) {a : Int} {off : Int} {tgt : Nat} (ha : -2147483648 ≤ a ∧ a ≤ 2147483647) (hd : decode cc pc = .ok (.ifCond .eq off, 3)) (ht : (pc : Int) + off = (tgt : Int)) (kt : a = 0 → yW x A Ex nc ns Q tgt ls st σ) (kf : ¬ a = 0 → yW x A Ex nc ns Q (pc + 3) ls st σ) : yW x A Ex nc ns Q pc ls (zI a :: st) σ := by
  obtain ⟨p, l, e, R, s, m, args, below, meth, cd, D, ad, cs⟩ := x
  intro H locs la hW hS hX hl
  obtain ⟨hx, hb, hml, hown, hts, hfl, hK, hinj⟩ := h
  exact lv_if_eq hx hb hd ht (fun q => kt (by rw [← z_0] at q; exact (z_eq ha (⟨by omega, by omega⟩ : zin 0)).mp q) H locs la hW hS hX hl) (fun q => kf (by rw [← z_0] at q; have q2 := mt (z_eq ha (⟨by omega, by omega⟩ : zin 0)).mpr q; omega) H locs la hW hS hX hl)
theorem y_icmp_ne (h : yH x own cc nL d) {a b : Int} {off : Int} {tgt : Nat} (ha : -2147483648 ≤ a ∧ a ≤ 2147483647) (hb2 : -2147483648 ≤ b ∧ b ≤ 2147483647) (hd : decode cc pc = .ok (.if_icmp .ne off, 3)) (ht : (pc : Int) + off = (tgt : Int)) (kt : ¬ a = b → yW x A Ex nc ns Q tgt ls st σ) (kf : a = b → yW x A Ex nc ns Q (pc + 3) ls st σ) : yW x A Ex nc ns Q pc ls (zI b :: zI a :: st) σ := by
  obtain ⟨p, l, e, R, s, m, args, below, meth, cd, D, ad, cs⟩ := x
  intro H locs la hW hS hX hl
  obtain ⟨hx, hb, hml, hown, hts, hfl, hK, hinj⟩ := h
  exact lv_icmp_ne hx hb hd ht (fun q => kt (by exact mt (z_eq ha hb2).mpr q) H locs la hW hS hX hl) (fun q => kf (by exact (z_eq ha hb2).mp (q)) H locs la hW hS hX hl)
theorem y_if_ne (h : yH x own cc nL d) {a : Int} {off : Int} {tgt : Nat} (ha : -2147483648 ≤ a ∧ a ≤ 2147483647) (hd : decode cc pc = .ok (.ifCond .ne off, 3)) (ht : (pc : Int) + off = (tgt : Int)) (kt : ¬ a = 0 → yW x A Ex nc ns Q tgt ls st σ) (kf : a = 0 → yW x A Ex nc ns Q (pc + 3) ls st σ) : yW x A Ex nc ns Q pc ls (zI a :: st) σ := by
  obtain ⟨p, l, e, R, s, m, args, below, meth, cd, D, ad, cs⟩ := x
  intro H locs la hW hS hX hl
  obtain ⟨hx, hb, hml, hown, hts, hfl, hK, hinj⟩ := h
  exact lv_if_ne hx hb hd ht (fun q => kt (by rw [← z_0] at q; exact mt (z_eq ha (⟨by omega, by omega⟩ : zin 0)).mpr q) H locs la hW hS hX hl) (fun q => kf (by rw [← z_0] at q; exact (z_eq ha (⟨by omega, by omega⟩ : zin 0)).mp (q)) H locs la hW hS hX hl)
theorem y_icmp_lt (h : yH x own cc nL d) {a b : Int} {off : Int} {tgt : Nat} (ha : -2147483648 ≤ a ∧ a ≤ 2147483647) (hb2 : -2147483648 ≤ b ∧ b ≤ 2147483647) (hd : decode cc pc = .ok (.if_icmp .lt off, 3)) (ht : (pc : Int) + off = (tgt : Int)) (kt : a < b → yW x A Ex nc ns Q tgt ls st σ) (kf : b ≤ a → yW x A Ex nc ns Q (pc + 3) ls st σ) : yW x A Ex nc ns Q pc ls (zI b :: zI a :: st) σ := by
  obtain ⟨p, l, e, R, s, m, args, below, meth, cd, D, ad, cs⟩ := x
  intro H locs la hW hS hX hl
  obtain ⟨hx, hb, hml, hown, hts, hfl, hK, hinj⟩ := h
  exact lv_icmp_lt hx hb hd ht (fun q => kt (by exact (z_lt ha hb2).mp q) H locs la hW hS hX hl) (fun q => kf (by have q2 := mt (z_lt ha hb2).mpr q; omega) H locs la hW hS hX hl)
theorem y_if_lt (h : yH x own cc nL d) {a : Int} {off : Int} {tgt : Nat} (ha : -2147483648 ≤ a ∧ a ≤ 2147483647) (hd : decode cc pc = .ok (.ifCond .lt off, 3)) (ht : (pc : Int) + off = (tgt : Int)) (kt : a < 0 → yW x A Ex nc ns Q tgt ls st σ) (kf : 0 ≤ a → yW x A Ex nc ns Q (pc + 3) ls st σ) : yW x A Ex nc ns Q pc ls (zI a :: st) σ := by
  obtain ⟨p, l, e, R, s, m, args, below, meth, cd, D, ad, cs⟩ := x
  intro H locs la hW hS hX hl
  obtain ⟨hx, hb, hml, hown, hts, hfl, hK, hinj⟩ := h
  exact lv_if_lt hx hb hd ht (fun q => kt (by rw [← z_0] at q; exact (z_lt ha (⟨by omega, by omega⟩ : zin 0)).mp q) H locs la hW hS hX hl) (fun q => kf (by rw [← z_0] at q; have q2 := mt (z_lt ha (⟨by omega, by omega⟩ : zin 0)).mpr q; omega) H locs la hW hS hX hl)
theorem y_icmp_ge (h : yH x own cc nL d) {a b : Int} {off : Int} {tgt : Nat} (ha : -2147483648 ≤ a ∧ a ≤ 2147483647) (hb2 : -2147483648 ≤ b ∧ b ≤ 2147483647) (hd : decode cc pc = .ok (.if_icmp .ge off, 3)) (ht : (pc : Int) + off = (tgt : Int)) (kt : b ≤ a → yW x A Ex nc ns Q tgt ls st σ) (kf : a < b → yW x A Ex nc ns Q (pc + 3) ls st σ) : yW x A Ex nc ns Q pc ls (zI b :: zI a :: st) σ := by
  obtain ⟨p, l, e, R, s, m, args, below, meth, cd, D, ad, cs⟩ := x
  intro H locs la hW hS hX hl
  obtain ⟨hx, hb, hml, hown, hts, hfl, hK, hinj⟩ := h
  exact lv_icmp_ge hx hb hd ht (fun q => kt (by exact (z_le hb2 ha).mp q) H locs la hW hS hX hl) (fun q => kf (by have q2 := mt (z_le hb2 ha).mpr q; omega) H locs la hW hS hX hl)
theorem y_if_ge (h : yH x own cc nL d) {a : Int} {off : Int} {tgt : Nat} (ha : -2147483648 ≤ a ∧ a ≤ 2147483647) (hd : decode cc pc = .ok (.ifCond .ge off, 3)) (ht : (pc : Int) + off = (tgt : Int)) (kt : 0 ≤ a → yW x A Ex nc ns Q tgt ls st σ) (kf : a < 0 → yW x A Ex nc ns Q (pc + 3) ls st σ) : yW x A Ex nc ns Q pc ls (zI a :: st) σ := by
  obtain ⟨p, l, e, R, s, m, args, below, meth, cd, D, ad, cs⟩ := x
  intro H locs la hW hS hX hl
  obtain ⟨hx, hb, hml, hown, hts, hfl, hK, hinj⟩ := h
  exact lv_if_ge hx hb hd ht (fun q => kt (by rw [← z_0] at q; exact (z_le (⟨by omega, by omega⟩ : zin 0) ha).mp q) H locs la hW hS hX hl) (fun q => kf (by rw [← z_0] at q; have q2 := mt (z_le (⟨by omega, by omega⟩ : zin 0) ha).mpr q; omega) H locs la hW hS hX hl)
theorem y_icmp_gt (h : yH x own cc nL d) {a b : Int} {off : Int} {tgt : Nat} (ha : -2147483648 ≤ a ∧ a ≤ 2147483647) (hb2 : -2147483648 ≤ b ∧ b ≤ 2147483647) (hd : decode cc pc = .ok (.if_icmp .gt off, 3)) (ht : (pc : Int) + off = (tgt : Int)) (kt : b < a → yW x A Ex nc ns Q tgt ls st σ) (kf : a ≤ b → yW x A Ex nc ns Q (pc + 3) ls st σ) : yW x A Ex nc ns Q pc ls (zI b :: zI a :: st) σ := by
  obtain ⟨p, l, e, R, s, m, args, below, meth, cd, D, ad, cs⟩ := x
  intro H locs la hW hS hX hl
  obtain ⟨hx, hb, hml, hown, hts, hfl, hK, hinj⟩ := h
  exact lv_icmp_gt hx hb hd ht (fun q => kt (by exact (z_lt hb2 ha).mp q) H locs la hW hS hX hl) (fun q => kf (by have q2 := mt (z_lt hb2 ha).mpr q; omega) H locs la hW hS hX hl)
theorem y_if_gt (h : yH x own cc nL d) {a : Int} {off : Int} {tgt : Nat} (ha : -2147483648 ≤ a ∧ a ≤ 2147483647) (hd : decode cc pc = .ok (.ifCond .gt off, 3)) (ht : (pc : Int) + off = (tgt : Int)) (kt : 0 < a → yW x A Ex nc ns Q tgt ls st σ) (kf : a ≤ 0 → yW x A Ex nc ns Q (pc + 3) ls st σ) : yW x A Ex nc ns Q pc ls (zI a :: st) σ := by
  obtain ⟨p, l, e, R, s, m, args, below, meth, cd, D, ad, cs⟩ := x
  intro H locs la hW hS hX hl
  obtain ⟨hx, hb, hml, hown, hts, hfl, hK, hinj⟩ := h
  exact lv_if_gt hx hb hd ht (fun q => kt (by rw [← z_0] at q; exact (z_lt (⟨by omega, by omega⟩ : zin 0) ha).mp q) H locs la hW hS hX hl) (fun q => kf (by rw [← z_0] at q; have q2 := mt (z_lt (⟨by omega, by omega⟩ : zin 0) ha).mpr q; omega) H locs la hW hS hX hl)
theorem y_ifeqB (h : yH x own cc nL d) {b : Bool} {off : Int} {tgt : Nat} (hd : decode cc pc = .ok (.ifCond .eq off, 3)) (ht : (pc : Int) + off = (tgt : Int)) (kt : b = false → yW x A Ex nc ns Q tgt ls st σ) (kf : b = true → yW x A Ex nc ns Q (pc + 3) ls st σ) : yW x A Ex nc ns Q pc ls (zB b :: st) σ := by
  obtain ⟨p, l, e, R, s, m, args, below, meth, cd, D, ad, cs⟩ := x
  intro H locs la hW hS hX hl
  obtain ⟨hx, hb, hml, hown, hts, hfl, hK, hinj⟩ := h
  exact lv_if_eq hx hb hd ht (fun q => kt (zB_0.mp q) H locs la hW hS hX hl) (fun q => kf (by cases b; exact absurd (zB_0.mpr rfl) q; rfl) H locs la hW hS hX hl)
theorem y_ifneB (h : yH x own cc nL d) {b : Bool} {off : Int} {tgt : Nat} (hd : decode cc pc = .ok (.ifCond .ne off, 3)) (ht : (pc : Int) + off = (tgt : Int)) (kt : b = true → yW x A Ex nc ns Q tgt ls st σ) (kf : b = false → yW x A Ex nc ns Q (pc + 3) ls st σ) : yW x A Ex nc ns Q pc ls (zB b :: st) σ := by
  obtain ⟨p, l, e, R, s, m, args, below, meth, cd, D, ad, cs⟩ := x
  intro H locs la hW hS hX hl
  obtain ⟨hx, hb, hml, hown, hts, hfl, hK, hinj⟩ := h
  exact lv_if_ne hx hb hd ht (fun q => kt (by cases b; exact absurd (zB_0.mpr rfl) q; rfl) H locs la hW hS hX hl) (fun q => kf (zB_0.mp q) H locs la hW hS hX hl)
theorem y_goto (h : yH x own cc nL d) {off : Int} {tgt : Nat} (hd : decode cc pc = .ok (.goto off, 3)) (ht : (pc : Int) + off = (tgt : Int)) (k : yW x A Ex nc ns Q tgt ls st σ) : yW x A Ex nc ns Q pc ls st σ := by
  obtain ⟨p, l, e, R, s, m, args, below, meth, cd, D, ad, cs⟩ := x
  intro H locs la hW hS hX hl
  obtain ⟨hx, hb, hml, hown, hts, hfl, hK, hinj⟩ := h
  exact lv_goto hx hb hd ht (k H locs la hW hS hX hl)
theorem y_getR (h : yH x own cc nL d) {o c j i : Nat} {C : String} {T : u_T} {N : Nat} {L : Nat} {o2 : Nat} (hrf : zrf o j = o2) (ho : zoc o = c) (hc : vwCl[c]? = some (C, T, N)) (hk : zfd c j = (3, L)) (hw : Cond.fieldLink own i (T j).1 (T j).2.1 (T j).2.2.1 ∈ zUW) (hd : decode cc pc = .ok (.getfield i, 3)) (k : yW x A Ex nc ns Q (pc + 3) ls (zR o2 :: st) σ) : yW x A Ex nc ns Q pc ls (zR o :: st) σ := by
  obtain ⟨p, l, e, R, s, m, args, below, meth, cd, D, ad, cs⟩ := x
  intro H locs la hW hS hX hl
  obtain ⟨hx, hb, hml, hown, hts, hfl, hK, hinj⟩ := h
  have h9 := zoc9 ho hc
  obtain ⟨hwd, hN⟩ := zwords c C T N hc
  obtain ⟨q0, hq, hq2⟩ := zwl_at ad cs σ (zkey_o h9)
  rw [zce_o] at hq2
  rw [ho] at hq2
  have hj : j < N := by
    rcases Nat.lt_or_ge j N with z | z
    · exact z
    · exfalso
      have : zfd c j = (99, 0) := by unfold zfd; exact zgd (by omega)
      rw [this] at hk
      cases hk
  have hkd : zkd o j = (3, L) := by unfold zkd; rw [ho]; exact hk
  have hv : ((List.range (zfL c).length).map (zfv ad σ o))[j]? = some (zcv ad (zR o2)) := by
    rw [zfs_at ad σ o (by omega)]
    simp [zfv, hkd, zcv, zI, zR, zA, hrf]
  exact va_get (ref := (T j).1) hx hb hts hwd hown hK hW.1 q0 hq2 hc j hj (hts _ hw) (fun _ z => z) hv hd (k H locs la hW hS hX hl)
theorem y_ist_3 (h : yH x own cc nL d) {v : Int} {a0 a1 a2 a3 : Option Value} {r : List (Option Value)} (hd : decode cc pc = .ok (.istore_n 3, 1)) (hn : 3 < nL) (hc : zc1 a2 = true) (k : yW x A Ex nc ns Q (pc + 1) (a0 :: a1 :: a2 :: some (zI v) :: r) st σ) : yW x A Ex nc ns Q pc (a0 :: a1 :: a2 :: a3 :: r) (zI v :: st) σ := y_istore_nG (ls := a0 :: a1 :: a2 :: a3 :: r) (q := 3) h hd (Nat.le_of_ble_eq_true rfl) hn (zp_k (i := 2) (a := a2) rfl hc) k
theorem y_ist_5 (h : yH x own cc nL d) {v : Int} {a0 a1 a2 a3 a4 a5 : Option Value} {r : List (Option Value)} (hd : decode cc pc = .ok (.istore 5, 2)) (hn : 5 < nL) (hc : zc1 a4 = true) (k : yW x A Ex nc ns Q (pc + 2) (a0 :: a1 :: a2 :: a3 :: a4 :: some (zI v) :: r) st σ) : yW x A Ex nc ns Q pc (a0 :: a1 :: a2 :: a3 :: a4 :: a5 :: r) (zI v :: st) σ := y_istoreG (ls := a0 :: a1 :: a2 :: a3 :: a4 :: a5 :: r) (i := 5) h hd (Nat.le_of_ble_eq_true rfl) hn (zp_k (i := 4) (a := a4) rfl hc) k
theorem y_ist_6 (h : yH x own cc nL d) {v : Int} {a0 a1 a2 a3 a4 a5 a6 : Option Value} {r : List (Option Value)} (hd : decode cc pc = .ok (.istore 6, 2)) (hn : 6 < nL) (hc : zc1 a5 = true) (k : yW x A Ex nc ns Q (pc + 2) (a0 :: a1 :: a2 :: a3 :: a4 :: a5 :: some (zI v) :: r) st σ) : yW x A Ex nc ns Q pc (a0 :: a1 :: a2 :: a3 :: a4 :: a5 :: a6 :: r) (zI v :: st) σ := y_istoreG (ls := a0 :: a1 :: a2 :: a3 :: a4 :: a5 :: a6 :: r) (i := 6) h hd (Nat.le_of_ble_eq_true rfl) hn (zp_k (i := 5) (a := a5) rfl hc) k
theorem y_inc_4 (h : yH x own cc nL d) {v n : Int} {a0 a1 a2 a3 : Option Value} {r : List (Option Value)} (hd : decode cc pc = .ok (.iinc 4 n, 3)) (hn : 4 < nL) (hc : zc1 a3 = true) (k : yW x A Ex nc ns Q (pc + 3) (a0 :: a1 :: a2 :: a3 :: some (zI (v + n)) :: r) st σ) : yW x A Ex nc ns Q pc (a0 :: a1 :: a2 :: a3 :: some (zI v) :: r) st σ := y_iincG (ls := a0 :: a1 :: a2 :: a3 :: some (zI v) :: r) (i := 4) h hd rfl hn (zp_k (i := 3) (a := a3) rfl hc) k
theorem y_land (h : yH x own cc nL d) {x1 y1 : Int64} (hd : decode cc pc = .ok (.land, 1)) (k : yW x A Ex nc ns Q (pc + 1) ls (.long (x1 &&& y1) :: st) σ) : yW x A Ex nc ns Q pc ls (.long y1 :: .long x1 :: st) σ := by
  obtain ⟨p, l, e, R, s, m, args, below, meth, cd, D, ad, cs⟩ := x
  intro H locs la hW hS hX hl
  obtain ⟨hx, hb, hml, hown, hts, hfl, hK, hinj⟩ := h
  exact lv_land (x := x1) (y := y1) hx hb hd (k H locs la hW hS hX hl)
theorem y_lor (h : yH x own cc nL d) {x1 y1 : Int64} (hd : decode cc pc = .ok (.lor, 1)) (k : yW x A Ex nc ns Q (pc + 1) ls (.long (x1 ||| y1) :: st) σ) : yW x A Ex nc ns Q pc ls (.long y1 :: .long x1 :: st) σ := by
  obtain ⟨p, l, e, R, s, m, args, below, meth, cd, D, ad, cs⟩ := x
  intro H locs la hW hS hX hl
  obtain ⟨hx, hb, hml, hown, hts, hfl, hK, hinj⟩ := h
  exact lv_lor (x := x1) (y := y1) hx hb hd (k H locs la hW hS hX hl)
theorem y_lshl (h : yH x own cc nL d) {x1 : Int64} {a : Int} (hd : decode cc pc = .ok (.lshl, 1)) (k : yW x A Ex nc ns Q (pc + 1) ls (.long (x1 <<< ((Int32.ofInt a).toInt64 &&& 63)) :: st) σ) : yW x A Ex nc ns Q pc ls (zI a :: .long x1 :: st) σ := by
  obtain ⟨p, l, e, R, s, m, args, below, meth, cd, D, ad, cs⟩ := x
  intro H locs la hW hS hX hl
  obtain ⟨hx, hb, hml, hown, hts, hfl, hK, hinj⟩ := h
  exact lv_lshl (x := x1) (y := Int32.ofInt a) hx hb hd rfl (k H locs la hW hS hX hl)
theorem y_i2l (h : yH x own cc nL d) {a : Int} (hd : decode cc pc = .ok (.i2l, 1)) (k : yW x A Ex nc ns Q (pc + 1) ls (.long (Int32.ofInt a).toInt64 :: st) σ) : yW x A Ex nc ns Q pc ls (zI a :: st) σ := by
  obtain ⟨p, l, e, R, s, m, args, below, meth, cd, D, ad, cs⟩ := x
  intro H locs la hW hS hX hl
  obtain ⟨hx, hb, hml, hown, hts, hfl, hK, hinj⟩ := h
  exact lv_i2l (x := Int32.ofInt a) hx hb hd rfl (k H locs la hW hS hX hl)
theorem y_iand (h : yH x own cc nL d) {a b : Int} (hd : decode cc pc = .ok (.iand, 1)) (k : yW x A Ex nc ns Q (pc + 1) ls (zI (Int32.ofInt a &&& Int32.ofInt b).toInt :: st) σ) : yW x A Ex nc ns Q pc ls (zI b :: zI a :: st) σ := by
  obtain ⟨p, l, e, R, s, m, args, below, meth, cd, D, ad, cs⟩ := x
  intro H locs la hW hS hX hl
  obtain ⟨hx, hb, hml, hown, hts, hfl, hK, hinj⟩ := h
  have k' := k H locs la hW hS hX hl
  refine lv_iand (x := Int32.ofInt a) (y := Int32.ofInt b) hx hb hd ?_
  have e1 : zcv ad (zI (Int32.ofInt a &&& Int32.ofInt b).toInt) = .int (Int32.ofInt a &&& Int32.ofInt b) := by simp [zI, zcv]
  rw [List.map_cons, e1] at k'
  exact k'
theorem y_lcmp (h : yH x own cc nL d) {x1 y1 : Int64} (hd : decode cc pc = .ok (.lcmp, 1)) (k : yW x A Ex nc ns Q (pc + 1) ls (zI (zlc x1 y1) :: st) σ) : yW x A Ex nc ns Q pc ls (.long y1 :: .long x1 :: st) σ := by
  obtain ⟨p, l, e, R, s, m, args, below, meth, cd, D, ad, cs⟩ := x
  intro H locs la hW hS hX hl
  obtain ⟨hx, hb, hml, hown, hts, hfl, hK, hinj⟩ := h
  have k' := k H locs la hW hS hX hl
  refine W.lcmp (x := x1) (y := y1) hx hb hd ?_
  have e1 : zcv ad (zI (zlc x1 y1)) = .int (lg_cmp x1 y1) := by simp [zI, zcv, zlc]
  rw [List.map_cons, e1] at k'
  exact k'
theorem y_tswIn (h : yH x own cc nL d) {dflt lo hi : Int} {offs : Array Int} {len : Nat} {a off : Int} {tgt : Nat} (hd : decode cc pc = .ok (.tableswitch dflt lo hi offs, len)) (ha : -2147483648 ≤ a ∧ a ≤ 2147483647) (h1 : lo ≤ a) (h2 : a ≤ hi) (ho : offs[(a - lo).toNat]? = some off) (ht : (pc : Int) + off = (tgt : Int)) (k : yW x A Ex nc ns Q tgt ls st σ) : yW x A Ex nc ns Q pc ls (zI a :: st) σ := by
  obtain ⟨p, l, e, R, s, m, args, below, meth, cd, D, ad, cs⟩ := x
  intro H locs la hW hS hX hl
  obtain ⟨hx, hb, hml, hown, hts, hfl, hK, hinj⟩ := h
  exact lv_tableIn (x := Int32.ofInt a) hx hb hd (by rw [z_toInt ha]; omega) (by rw [z_toInt ha]; omega) (by rw [z_toInt ha]; exact ho) ht (k H locs la hW hS hX hl)
theorem y_tswOut (h : yH x own cc nL d) {dflt lo hi : Int} {offs : Array Int} {len : Nat} {a : Int} {tgt : Nat} (hd : decode cc pc = .ok (.tableswitch dflt lo hi offs, len)) (ha : -2147483648 ≤ a ∧ a ≤ 2147483647) (h1 : a < lo ∨ hi < a) (ht : (pc : Int) + dflt = (tgt : Int)) (k : yW x A Ex nc ns Q tgt ls st σ) : yW x A Ex nc ns Q pc ls (zI a :: st) σ := by
  obtain ⟨p, l, e, R, s, m, args, below, meth, cd, D, ad, cs⟩ := x
  intro H locs la hW hS hX hl
  obtain ⟨hx, hb, hml, hown, hts, hfl, hK, hinj⟩ := h
  exact lv_tableOut (x := Int32.ofInt a) hx hb hd (by rw [z_toInt ha]; exact h1) ht (k H locs la hW hS hX hl)
theorem yBack {p : Program} {l : Launch} {e : Env} {R : Room} {s : State} {m : MethodId} {args : Array Value} {below : List Frame} {meth : Method} {c : Code} {D : va_G} {ad : Nat → Nat} {cs : Nat → ClassId} {H : Heap} {locs : List Loc} {la : Array Slot} {stk : List Value} {Kc : Option Value → zS → Prop} {av : Array Value}
    (hE : yE (p, l, e, R, s, m, args, below, meth, c, D, ad, cs) A Ex)
    (hr : va_Run p l e R s m args below meth c H locs nc ns 0 0 (F0 m pc la stk) (st.map (zcv ad)) (zQ D ad cs Kc av) (zAs ad)) (hS : va_S A s.heap H locs) (hX : Ex H) (hl : zLV la c.maxLocals ad ls)
    (k : ∀ r τ, Kc r τ → yW (p, l, e, R, s, m, args, below, meth, c, D, ad, cs) A Ex nc ns Q (pc + 3) ls (r.toList ++ st) τ) : W p l e R s m args below meth c H locs nc ns Q (F0 m pc la stk) := by
  intro T hT X
  obtain ⟨v, st₀, t, T', L, h0, X', hL, e1, e2, ⟨r, τ, hv, hk, hWd, hF⟩, stp⟩ := hr T hT X
  have hv2 : v = r.map (zcv ad) := by cases hv; rfl
  subst hv2
  obtain ⟨hz, hkp⟩ := hF
  rw [h0] at hz hkp
  have hS' : va_S A s.heap T'.heap (locs ++ L) := ⟨Nat.le_trans hS.1 (by rw [e1]; exact hz), fun q h1 h2 => by rw [e1, hkp q (Nat.lt_of_lt_of_le h1 hS.1) (fun z => h2 (hE.2.2 q z))]; exact hS.2.1 q h1 h2, fun q hq => by
    rcases List.mem_append.mp hq with h | h
    · exact hS.2.2 q h
    · exact hE.2.2 _ (hL q h)⟩
  have hX' : Ex T'.heap := hE.2.1 H T'.heap hX (by rw [e1]; exact hz) (fun q h1 h2 => by rw [e1]; exact hkp q h1 h2)
  have k2 := k r τ hk T'.heap (locs ++ L) la (by rw [e1]; exact hWd) hS' hX' hl
  have heq : (r.toList ++ st).map (zcv ad) = (r.map (zcv ad)).toList ++ st.map (zcv ad) := by cases r <;> simp
  rw [heq] at k2
  obtain ⟨t2, a1, b1⟩ := k2 T' rfl X'
  exact ⟨t2, stp t2 a1, b1⟩
theorem yPre {p : Program} {l : Launch} {e : Env} {R : Room} {s : State} {m : MethodId} {args : Array Value} {below : List Frame} {meth : Method} {c : Code} {D : va_G} {ad : Nat → Nat} {cs : Nat → ClassId} {H : Heap} {as : List Value} (hE : yE (p, l, e, R, s, m, args, below, meth, c, D, ad, cs) A Ex) (hW : zWd D ad cs σ H) (hX : Ex H) (hK : va_K D vwCl (zty cs) s) : PreS s H (va_Pc (as.map (zcv ad)) (zBg D ad cs σ)) (as.map (zcv ad)) := by
  refine ⟨fun a U g mk q => ⟨q.1, q.2.1, va_K.moved (u := U) (U := U.calling g mk a) (Vm.Alike.refl U.vm) q.2.2.1, zEX.same rfl rfl q.2.2.2⟩, fun U hU hw => ⟨rfl, by rw [hU]; exact hW, va_K.moved hw.alike hK, hE.1 H U hX hU hw⟩⟩
theorem y_callV (h : yH x own cc nL d) (hE : yE x A Ex) (hf : yF x nc ns) {M : MethodName × ByteArray × Nat × Option FieldType} {d' o c i np : Nat} {C : String} {T : u_T} {N : Nat} {as stk : List Value} {Kc : Option Value → zS → Prop} (hC : zC M d' (zR o :: as) σ Kc) (hdl : d' < d) (ho : zoc o = c) (hc : vwCl[c]? = some (C, T, N)) (hm : zMV M C np) (hw : Cond.methodLink own i M.1 ∈ zUW) (hn : as.length = np) (hd : decode cc pc = .ok (.invokevirtual i, 3)) (hst : as.reverse ++ zR o :: st = stk) (hrm : (st.map fun v => v.category).sum ≤ 8)
    (k : ∀ r τ, Kc r τ → yW x A Ex nc ns Q (pc + 3) ls (r.toList ++ st) τ) : yW x A Ex nc ns Q pc ls stk σ := by
  obtain ⟨p, l, e, R, s, m, args, below, meth, cd, D, ad, cs⟩ := x
  intro H locs la hW hS hX hl
  obtain ⟨hx, hb, hml, hown, hts, hfl, hK, hinj⟩ := h
  obtain ⟨⟨w4, w5, hnm, h8⟩, hcl, w2, w3⟩ := hm
  have hM := hC l D ad cs hinj
  have h9 := zoc9 ho hc
  obtain ⟨q0, hq, hq2⟩ := zwl_at ad cs σ (zkey_o h9)
  rw [zce_o, ho] at hq2
  have hpre := yPre (as := zR o :: as) hE hW hX hK
  have hfl' : d ≤ R.frames ∧ 27 * d ≤ R.locals := hfl
  have hf' : nc ≤ R.cells ∧ ns ≤ R.slots := hf
  subst hst
  refine yBack (st := st) (ls := ls) hE (va_runV (C := C) (b := ad (64 * o)) (As := as.map (zcv ad)) (nL := nL) (bytes := M.2.1) (maxL := M.2.2.1) (ret := M.2.2.2) (index := i) (n := np) ⟨hx, hb, hml, hown, hts⟩ hM ⟨callB_of np hts (zGI w5) rfl rfl rfl (hts _ w4) (hts _ hw) hnm ⟨?_, ?_⟩, hts _ w2, hts _ w3⟩ ⟨hpre.1, va_recv hK hW.1 hc hq2, hpre.2⟩ rfl (by rw [List.length_map]; exact hn) (by rw [← hml]; exact hl.1) ?_ ?_ hd ⟨hf'.1, hf'.2⟩) hS hX hl k
  · show d' + 1 ≤ R.frames
    omega
  · show 8 + (M.2.2.1 + 11) + 27 * d' ≤ R.locals
    omega
  · show (as.reverse ++ zR o :: st).map (zcv ad) = _
    rw [List.map_append, List.map_reverse]
    rfl
  · exact lv_room (by rw [zcat_sum]; exact hrm)
end YROWS
