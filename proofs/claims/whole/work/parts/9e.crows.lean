/-! Constructors: the cells that they make stand one behind the other. -/
def cNd : List (String × Nat × MethodName) := [(RX7, 9, yX6_init), (RX7, 27, yX1_init), (RX7, 70, yX2_init), (RX2, 9, yX6_init), (RX2, 18, yX1_init), (RX4, 11, yX1_init)]
def cN (U : State) : Prop := (∀ n ∈ cNd, va_Nw (.methodLinkNest n.1 n.2.1 n.2.2 RX7) U) ∧ va_AO RX3 U ∧ va_AO RX2 U
theorem cN.moved {s U : State} (hW : s.WarmedH U.vm) (h : cN s) : cN U := ⟨fun n hn => va_Nw.warmM hW (h.1 n hn), va_AO.moved hW.alike h.2.1, va_AO.moved hW.alike h.2.2⟩
theorem cN.same {s U : State} (hv : s.vm = U.vm) (h : cN s) : cN U := by
  have ha : s.vm.Alike U.vm := by rw [hv]; exact Vm.Alike.refl _
  exact ⟨fun n hn => va_Nw.same rfl hv (h.1 n hn), va_AO.moved ha h.2.1, va_AO.moved ha h.2.2⟩
abbrev cX : Type := Program × Launch × Env × Room × State × MethodId × Array Value × List Frame × Method × Code × va_G × (Nat → ClassId) × Nat
def cP (D : va_G) (a : Nat) (B : List va_E) (H : Heap) : Prop := (∀ (i : Nat) (e : va_E), B[i]? = some e → va_at D vwCl (a + i, e) H) ∧ H.size = a + B.length
def cH (x : cX) (own : String) (cc : ByteArray) (nL d : Nat) : Prop := match x with
  | (p, _, _, R, s, m, args, _, _, c, D, cs, _) => p.tables.exec = Jvm.exec ∧ c.code = cc ∧ c.maxLocals = nL ∧ s.vm.findClass own = some m.cls ∧ (∀ w ∈ zUW, w.before args s = true) ∧ (d ≤ R.frames ∧ 27 * d ≤ R.locals) ∧ va_K D vwCl (zty cs) s ∧ cN s
def cW (x : cX) (nc ns : Nat) (Q : State → Prop) (pc : Nat) (ls : List (Option Value)) (st : List Value) (B : List va_E) : Prop := match x with
  | (p, l, e, R, s, m, args, below, meth, c, D, _, a) => ∀ (H : Heap) (locs : List Loc) (la : Array Slot), cP D a B H → va_S (fun q => a ≤ q) s.heap H locs → zLV la c.maxLocals id ls →
    W p l e R s m args below meth c H locs nc ns Q (F0 m pc la (st.map (zcv id)))
def cF (x : cX) (nc ns : Nat) : Prop := match x with
  | (_, _, _, R, _, _, _, _, _, _, _, _, _) => nc ≤ R.cells ∧ ns ≤ R.slots
def cI (x : cX) : Prop := match x with
  | (_, _, _, _, _, _, _, _, meth, _, _, _, _) => meth.name = "<init>"
def cA (x : cX) : Nat := match x with
  | (_, _, _, _, _, _, _, _, _, _, _, _, a) => a
def cC (x : cX) : Nat → ClassId := match x with
  | (_, _, _, _, _, _, _, _, _, _, _, cs, _) => cs
def cD (x : cX) : va_G := match x with
  | (_, _, _, _, _, _, _, _, _, _, D, _, _) => D
theorem zcv_id (v : Value) : zcv id v = v := by cases v <;> rfl
theorem zcv_ids (st : List Value) : st.map (zcv id) = st := by
  rw [show zcv id = id from funext zcv_id, List.map_id]
/-! worlds -/
theorem cP.lt {D : va_G} {a : Nat} {B : List va_E} {H : Heap} (h : cP D a B H) {i : Nat} {e : va_E} (hi : B[i]? = some e) : a + i < H.size := by
  rw [h.2]
  have := (List.getElem?_eq_some_iff.mp hi).1
  omega
theorem va_at.same {D : va_G} {q : Nat} {e : va_E} {H H1 : Heap} (h : va_at D vwCl (q, e) H) (he : H1[q]? = H[q]?) : va_at D vwCl (q, e) H1 := by
  have := (va_P.kept (ws := [(q, e)]) (H := H) (H1 := H1) (D := D) (cl := vwCl) (fun k z hz => by
    cases k with
    | zero => cases hz; exact h
    | succ k => cases hz) (fun k z hz => by
    cases k with
    | zero => cases hz; exact he
    | succ k => cases hz))
  exact this 0 _ rfl
theorem cP.set {D : va_G} {a i : Nat} {B : List va_E} {e e' : va_E} {H H1 : Heap} (h : cP D a B H) (hi : B[i]? = some e) (hn : va_at D vwCl (a + i, e') H1) (hz : H1.size = H.size) (ho : ∀ q, q ≠ a + i → H1[q]? = H[q]?) : cP D a (B.set i e') H1 := by
  refine ⟨fun j f hj => ?_, by rw [hz, h.2, List.length_set]⟩
  rw [List.getElem?_set] at hj
  by_cases hij : i = j
  · subst hij
    rw [if_pos rfl] at hj
    split at hj
    · cases hj; exact hn
    · cases hj
  · rw [if_neg hij] at hj
    exact va_at.same (h.1 j f hj) (ho _ (by omega))
theorem cP.push {D : va_G} {a : Nat} {B : List va_E} {e : va_E} {H H1 : Heap} (h : cP D a B H) (hn : va_at D vwCl (H.size, e) H1) (hz : H1.size = H.size + 1) (ho : ∀ q, q < H.size → H1[q]? = H[q]?) : cP D a (B ++ [e]) H1 := by
  refine ⟨fun j f hj => ?_, by rw [hz, h.2, List.length_append]; rfl⟩
  rcases Nat.lt_or_ge j B.length with q | q
  · rw [List.getElem?_append_left q] at hj
    exact va_at.same (h.1 j f hj) (ho _ (h.lt hj))
  · rw [List.getElem?_append_right q] at hj
    have hz : j - B.length < 1 := (List.getElem?_eq_some_iff.mp hj).1
    rw [show j - B.length = 0 by omega] at hj
    cases hj
    have : a + j = H.size := by rw [h.2]; omega
    rw [this]
    exact hn
theorem cP.suf {D : va_G} {a : Nat} {P B : List va_E} {H : Heap} (h : cP D a (P ++ B) H) : cP D (a + P.length) B H := by
  refine ⟨fun j f hj => ?_, by rw [h.2, List.length_append]; omega⟩
  have := h.1 (P.length + j) f (by rw [List.getElem?_append_right (by omega)]; rw [show P.length + j - P.length = j by omega]; exact hj)
  rw [← Nat.add_assoc] at this
  exact this
theorem cP.app {D : va_G} {a : Nat} {P B B1 : List va_E} {H H1 : Heap} (h : cP D a (P ++ B) H) (hn : cP D (a + P.length) B1 H1) (ho : ∀ q, q < H.size → ¬ a + P.length ≤ q → H1[q]? = H[q]?) : cP D a (P ++ B1) H1 := by
  refine ⟨fun j f hj => ?_, by rw [hn.2, List.length_append]; omega⟩
  rcases Nat.lt_or_ge j P.length with q | q
  · rw [List.getElem?_append_left q] at hj
    have hj2 : (P ++ B)[j]? = some f := by rw [List.getElem?_append_left q]; exact hj
    exact va_at.same (h.1 j f hj2) (ho _ (h.lt hj2) (by omega))
  · rw [List.getElem?_append_right q] at hj
    have := hn.1 _ f hj
    rw [show a + P.length + (j - P.length) = a + j by omega] at this
    exact this
theorem cS.put {a q : Nat} {H0 H H1 : Heap} {locs : List Loc} {n : Nat} (h : va_S (fun q => a ≤ q) H0 H locs) (hq : a ≤ q) (hz : H1.size = H.size) (ho : ∀ z, z ≠ q → H1[z]? = H[z]?) : va_S (fun q => a ≤ q) H0 H1 (locs ++ [⟨q, n⟩]) := by
  refine ⟨by rw [hz]; exact h.1, fun z h1 h2 => ?_, fun z hz => ?_⟩
  · rw [ho z (by intro e; subst e; exact h2 hq)]
    exact h.2.1 z h1 h2
  · rcases List.mem_append.mp hz with g | g
    · exact h.2.2 z g
    · rw [List.mem_singleton] at g
      subst g
      exact hq
theorem cS.push {a : Nat} {H0 H H1 : Heap} {locs : List Loc} (h : va_S (fun q => a ≤ q) H0 H locs) (hz : H1.size = H.size + 1) (ho : ∀ z, z < H.size → H1[z]? = H[z]?) : va_S (fun q => a ≤ q) H0 H1 locs :=
  ⟨by rw [hz]; exact Nat.le_succ_of_le h.1, fun z h1 h2 => (ho z (Nat.lt_of_lt_of_le h1 h.1)).trans (h.2.1 z h1 h2), h.2.2⟩
section NROWS
variable {x : cX} {nc ns : Nat} {Q : State → Prop} {own : String} {cc : ByteArray} {nL d pc : Nat} {ls : List (Option Value)} {st : List Value} {B : List va_E}
theorem n_iconst (h : cH x own cc nL d) {n : Int} (hd : decode cc pc = .ok (.iconst n, 1)) (k : cW x nc ns Q (pc + 1) ls (zI n :: st) B) : cW x nc ns Q pc ls st B := by
  obtain ⟨p, l, e, R, s, m, args, below, meth, cd, D, cs, a0⟩ := x
  intro H locs la hP hS hl
  obtain ⟨hx, hb, hml, hown, hts, hfl, hK, hN⟩ := h
  exact lv_iconst hx hb hd rfl (k H locs la hP hS hl)
theorem n_bipush (h : cH x own cc nL d) {n : Int} (hd : decode cc pc = .ok (.bipush n, 2)) (hv : (Int8.ofInt n).toInt32 = Int32.ofInt n) (k : cW x nc ns Q (pc + 2) ls (zI n :: st) B) : cW x nc ns Q pc ls st B := by
  obtain ⟨p, l, e, R, s, m, args, below, meth, cd, D, cs, a0⟩ := x
  intro H locs la hP hS hl
  obtain ⟨hx, hb, hml, hown, hts, hfl, hK, hN⟩ := h
  exact lv_bipush hx hb hd hv (k H locs la hP hS hl)
theorem n_iload_n (h : cH x own cc nL d) {q : Fin 4} {v : Int} (hd : decode cc pc = .ok (.iload_n q, 1)) (hv : ls[(q : Nat)]? = some (some (zI v))) (k : cW x nc ns Q (pc + 1) ls ((zI v) :: st) B) : cW x nc ns Q pc ls st B := by
  obtain ⟨p, l, e, R, s, m, args, below, meth, cd, D, cs, a0⟩ := x
  intro H locs la hP hS hl
  obtain ⟨hx, hb, hml, hown, hts, hfl, hK, hN⟩ := h
  exact lv_iload_n hx hb hd rfl (hl.2.2 _ _ hv) (k H locs la hP hS hl)
theorem n_aload_n (h : cH x own cc nL d) {q : Fin 4} {v : Nat} (hd : decode cc pc = .ok (.aload_n q, 1)) (hv : ls[(q : Nat)]? = some (some (.ref v))) (k : cW x nc ns Q (pc + 1) ls ((.ref v) :: st) B) : cW x nc ns Q pc ls st B := by
  obtain ⟨p, l, e, R, s, m, args, below, meth, cd, D, cs, a0⟩ := x
  intro H locs la hP hS hl
  obtain ⟨hx, hb, hml, hown, hts, hfl, hK, hN⟩ := h
  exact lv_aload_n hx hb hd rfl (hl.2.2 _ _ hv) (k H locs la hP hS hl)
theorem n_istore_nG (h : cH x own cc nL d) {q : Fin 4} {v : Int} (hd : decode cc pc = .ok (.istore_n q, 1)) (hi : (q : Nat) < ls.length) (hn : (q : Nat) < nL) (hp : ∀ j u, j + 1 = (q : Nat) → ls[j]? = some (some u) → u.category = 1) (k : cW x nc ns Q (pc + 1) (ls.set q (some (zI v))) st B) : cW x nc ns Q pc ls ((zI v) :: st) B := by
  obtain ⟨p, l, e, R, s, m, args, below, meth, cd, D, cs, a0⟩ := x
  intro H locs la hP hS hl
  obtain ⟨hx, hb, hml, hown, hts, hfl, hK, hN⟩ := h
  exact lv_istore_n hx hb hd rfl hl.has (by rw [hml]; exact hn) rfl (fun la' hl' => k H locs la' hP hS (by have := zLV.put (v := zI v) rfl hp hi hl'; exact this))
theorem n_iincG (h : cH x own cc nL d) {i : Nat} {a n : Int} (hd : decode cc pc = .ok (.iinc i n, 3)) (hv : ls[i]? = some (some (zI a))) (hn : i < nL) (hp : ∀ j u, j + 1 = i → ls[j]? = some (some u) → u.category = 1) (k : cW x nc ns Q (pc + 3) (ls.set i (some (zI (a + n)))) st B) : cW x nc ns Q pc ls st B := by
  obtain ⟨p, l, e, R, s, m, args, below, meth, cd, D, cs, a0⟩ := x
  intro H locs la hP hS hl
  obtain ⟨hx, hb, hml, hown, hts, hfl, hK, hN⟩ := h
  obtain ⟨q, hq⟩ := List.getElem?_of_mem (zlv_mem (ad := id) hv)
  exact lv_iinc (v := Int32.ofInt (a + n)) hx hb hd hl.has hq (by rw [Int32.ofInt_add]) (by rw [hml]; exact hn) rfl (fun la' hl' => k H locs la' hP hS (by have := zLV.put (v := zI (a + n)) rfl hp (List.getElem?_eq_some_iff.mp hv).1 hl'; exact this))
theorem n_icmp_ge (h : cH x own cc nL d) {a b : Int} {off : Int} {tgt : Nat} (ha : -2147483648 ≤ a ∧ a ≤ 2147483647) (hb2 : -2147483648 ≤ b ∧ b ≤ 2147483647) (hd : decode cc pc = .ok (.if_icmp .ge off, 3)) (ht : (pc : Int) + off = (tgt : Int)) (kt : b ≤ a → cW x nc ns Q tgt ls st B) (kf : a < b → cW x nc ns Q (pc + 3) ls st B) : cW x nc ns Q pc ls (zI b :: zI a :: st) B := by
  obtain ⟨p, l, e, R, s, m, args, below, meth, cd, D, cs, a0⟩ := x
  intro H locs la hP hS hl
  obtain ⟨hx, hb, hml, hown, hts, hfl, hK, hN⟩ := h
  exact lv_icmp_ge hx hb hd ht (fun q => kt (by exact (z_le hb2 ha).mp q) H locs la hP hS hl) (fun q => kf (by have q2 := mt (z_le hb2 ha).mpr q; omega) H locs la hP hS hl)
theorem n_goto (h : cH x own cc nL d) {off : Int} {tgt : Nat} (hd : decode cc pc = .ok (.goto off, 3)) (ht : (pc : Int) + off = (tgt : Int)) (k : cW x nc ns Q tgt ls st B) : cW x nc ns Q pc ls st B := by
  obtain ⟨p, l, e, R, s, m, args, below, meth, cd, D, cs, a0⟩ := x
  intro H locs la hP hS hl
  obtain ⟨hx, hb, hml, hown, hts, hfl, hK, hN⟩ := h
  exact lv_goto hx hb hd ht (k H locs la hP hS hl)
theorem n_sipush (h : cH x own cc nL d) {n : Int} (hd : decode cc pc = .ok (.sipush n, 3)) (hv : (Int16.ofInt n).toInt32 = Int32.ofInt n) (k : cW x nc ns Q (pc + 3) ls (zI n :: st) B) : cW x nc ns Q pc ls st B := by
  obtain ⟨p, l, e, R, s, m, args, below, meth, cd, D, cs, a0⟩ := x
  intro H locs la hP hS hl
  obtain ⟨hx, hb, hml, hown, hts, hfl, hK, hN⟩ := h
  exact lv_sipush hx hb hd hv (k H locs la hP hS hl)
theorem n_dup (h : cH x own cc nL d) {v : Nat} (hd : decode cc pc = .ok (.dup, 1)) (k : cW x nc ns Q (pc + 1) ls (.ref v :: .ref v :: st) B) : cW x nc ns Q pc ls (.ref v :: st) B := by
  obtain ⟨p, l, e, R, s, m, args, below, meth, cd, D, cs, a0⟩ := x
  intro H locs la hP hS hl
  obtain ⟨hx, hb, hml, hown, hts, hfl, hK, hN⟩ := h
  exact lv_dup hx hb hd rfl (k H locs la hP hS hl)
theorem n_astore_n (h : cH x own cc nL d) {q : Fin 4} {v : Nat} (hd : decode cc pc = .ok (.astore_n q, 1)) (hi : (q : Nat) < ls.length) (hn : (q : Nat) < nL) (hp : ∀ j u, j + 1 = (q : Nat) → ls[j]? = some (some u) → u.category = 1) (k : cW x nc ns Q (pc + 1) (ls.set q (some (.ref v))) st B) : cW x nc ns Q pc ls ((.ref v) :: st) B := by
  obtain ⟨p, l, e, R, s, m, args, below, meth, cd, D, cs, a0⟩ := x
  intro H locs la hP hS hl
  obtain ⟨hx, hb, hml, hown, hts, hfl, hK, hN⟩ := h
  exact lv_astore_n hx hb hd rfl hl.has (by rw [hml]; exact hn) rfl (fun la' hl' => k H locs la' hP hS (by have := zLV.put (v := .ref v) (ad := id) rfl hp hi hl'; exact this))
theorem n_obj (h : cH x own cc nL d) {i v : Nat} (hd0 : 1 ≤ d) (hw : Cond.methodLink own i objectInit ∈ zUW) (hd : decode cc pc = .ok (.invokespecial i, 3)) (k : cW x nc ns Q (pc + 3) ls [] B) : cW x nc ns Q pc ls [.ref v] B := by
  obtain ⟨p, l, e, R, s, m, args, below, meth, cd, D, cs, a0⟩ := x
  intro H locs la hP hS hl
  obtain ⟨hx, hb, hml, hown, hts, hfl, hK, hN⟩ := h
  refine W.objInit (a := v) (rest := []) hx hb hown (hts _ hw) (hts _ im_objectInit) (hts _ co_objectInit) rfl hl.1 rfl hd ?_ ?_ (k H locs la hP hS hl)
  · have : d ≤ R.frames := hfl.1
    show 1 ≤ R.frames
    omega
  · have : 27 * d ≤ R.locals := hfl.2
    show 0 + 0 + 12 ≤ R.locals
    omega
theorem n_get (h : cH x own cc nL d) {i c j ix q : Nat} {C : String} {T : u_T} {N : Nat} {fs : List Value} {v : Value} (hB : B[i]? = some (.inr (c, fs))) (hq : q = cA x + i) (hc : vwCl[c]? = some (C, T, N)) (hj : j < N) (hw : Cond.fieldLink own ix (T j).1 (T j).2.1 (T j).2.2.1 ∈ zUW) (hv : fs[j]? = some v) (hd : decode cc pc = .ok (.getfield ix, 3)) (k : cW x nc ns Q (pc + 3) ls (v :: st) B) : cW x nc ns Q pc ls (.ref q :: st) B := by
  obtain ⟨p, l, e, R, s, m, args, below, meth, cd, D, cs, a0⟩ := x
  intro H locs la hP hS hl
  obtain ⟨hx, hb, hml, hown, hts, hfl, hK, hN⟩ := h
  subst hq
  have hwd := (zwords c C T N hc).1
  have hk := k H locs la hP hS hl
  rw [zcv_ids] at hk ⊢
  refine va_get (ref := (T j).1) (ws := [(a0 + i, .inr (c, fs))]) hx hb hts hwd hown hK (fun z w hz => ?_) 0 rfl hc j hj (hts _ hw) (fun _ z => z) hv hd hk
  cases z with
  | zero => cases hz; exact hP.1 i _ hB
  | succ z => cases hz
theorem n_put (h : cH x own cc nL d) {c j ix : Nat} {C : String} {T : u_T} {N : Nat} {fs : List Value} {v : Value} {R0 : List va_E} {ty : FieldType} (hc : vwCl[c]? = some (C, T, N)) (hj : j < N) (hw : Cond.fieldLink own ix (T j).1 (T j).2.1 (T j).2.2.1 ∈ zUW) (hfin : (T j).2.2.2 = false ∨ ((T j).2.2.2 = true ∧ cI x ∧ (T j).1 = own)) (hdd : parseFieldDescriptor (T j).2.2.1 = some ty) (hnr : narrow ty v = v) (hfit : fits ty v = true) (hl0 : j < fs.length) (hd : decode cc pc = .ok (.putfield ix, 3)) (k : cW x nc ns Q (pc + 3) ls st (.inr (c, fs.set j v) :: R0)) : cW x nc ns Q pc ls (v :: .ref (cA x) :: st) (.inr (c, fs) :: R0) := by
  obtain ⟨p, l, e, R, s, m, args, below, meth, cd, D, cs, a0⟩ := x
  intro H locs la hP hS hl
  obtain ⟨hx, hb, hml, hown, hts, hfl, hK, hN⟩ := h
  obtain ⟨hwd, hNn⟩ := zwords c C T N hc
  obtain ⟨ty0, hty, hnm⟩ := ztypes c C T N hc
  have hap := va_apart (own := own) hts hwd ty0 hty hnm hK hc
  have h00 := hP.1 0 _ rfl
  rw [Nat.add_zero] at h00
  obtain ⟨r, h1, cell, q1, q2, q3, q4⟩ := h00
  have hr : r = (C, T, N) := Option.some.inj (h1.symm.trans hc)
  subst hr
  obtain ⟨hS0, hfc, kC, hkC, hkind⟩ := hK.1 c _ hc
  obtain ⟨cf, kf, fi, f, hi, hsl⟩ := hS0 j hj
  have hlay := hts _ (hwd _ (u_in_lay hj))
  unfold u_lay at hlay
  have hst := (u_facts hfc hkC (u_lays hts hwd hj) hi).1
  have fin : ∀ (H1 : Heap), H1[a0]? = some (cell.setSlot (D.2 c j) v) → H1.size = H.size → (∀ q, q ≠ a0 → H1[q]? = H[q]?) → ∀ n, W p l e R s m args below meth cd H1 (locs ++ [⟨a0, n⟩]) nc ns Q (F0 m (pc + 3) la (st.map (zcv id))) := by
    intro H1 e1 e2 e3 n
    have hset : (Sum.inr (c, fs) :: R0 : List va_E).set 0 (.inr (c, fs.set j v)) = .inr (c, fs.set j v) :: R0 := rfl
    refine k H1 _ la (by rw [← hset]; exact hP.set rfl (by rw [Nat.add_zero]; exact ⟨_, hc, t_OB.to (V := updV (vp_V fs) j v) ⟨_, e1, q2, q3, t_set q4 hap hj v⟩ (fun z _ => vp_updV_set hl0 v z)⟩) e2 (by rw [Nat.add_zero]; exact e3)) (cS.put hS (Nat.le_refl _) e2 e3) hl
  rw [List.map_cons, List.map_cons, zcv_id, zcv_id]
  rcases hfin with g | ⟨g, g2, g3⟩
  · rw [if_neg (by rw [g]; decide)] at hlay
    have h6 := u_store hfc hkC hkind hlay hi hdd hnr hfit
    refine W.putK hx hb (f := f) ⟨hown, hts _ hw, ⟨_, _, _, hi⟩, hst⟩ (by rw [q2]; exact h6) q1 q3 (by rw [hsl]; exact k2_hasslot (q4 j hj)) rfl rfl hd fun H' e1 e2 e3 => ?_
    rw [hsl] at e1 ⊢
    exact fin H' e1 e2 e3 _
  · rw [if_pos g] at hlay
    have hcf : m.cls = cf := by
      obtain ⟨_, _, c', _, _, _, -, -, hf', -, -, -, hown2, -⟩ := Cond.laysFinal_spec hlay
      have e1 : c' = cf := by have := hi.symm.trans hf'; simp at this; exact this.1.symm
      rw [g3] at hown2
      rw [← e1]; exact Option.some.inj (hown.symm.trans hown2)
    have h6 := u_fits hfc hkC hkind (Or.inr hlay) hi hdd hnr hfit
    refine W.putFinK hx hb hown (hts _ hw) hi hst hcf g2 (by rw [q2]; exact h6) q1 q3 (by rw [hsl]; exact k2_hasslot (q4 j hj)) rfl rfl hd fun H' e1 e2 e3 => ?_
    rw [hsl] at e1 ⊢
    exact fin H' e1 e2 e3 _
end NROWS
