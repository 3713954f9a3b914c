/-! Constructors: making cells, calls, the end. -/
def cRm (d kc ks : Nat) : Room := { frames := d, cells := kc, slots := ks, locals := 27 * d }
def cM (y : MethodName) (b : ByteArray) (n d kc ks : Nat) (as : List Value) (D : va_G) (cs : Nat → ClassId) (a : Nat) (B0 B1 : List va_E) : Prop :=
  ∀ l : Launch, Met l y (zuw y b n none) (cRm d kc ks) (va_Pc as (fun U => cP D a B0 U.heap ∧ va_K D vwCl (zty cs) U ∧ cN U)) (va_Qv (fun _ : Unit => True) (fun _ t => cP D a B1 t.heap) (fun q => a ≤ q)) kc ks (fun q => a ≤ q)
def cQ (x : cX) (kc ks : Nat) (B1 : List va_E) : State → Prop := match x with
  | (_, _, _, _, s, _, args, below, _, _, D, _, a) => MQ below (va_Qv (fun _ : Unit => True) (fun _ t => cP D a B1 t.heap) (fun q => a ≤ q)) args s kc ks (fun q => a ≤ q)
def cE (x : cX) : Prop := match x with
  | (_, _, _, _, _, _, _, _, meth, _, _, _, _) => meth.sig.returnType = none ∧ meth.locks = false
theorem cM_of {y : MethodName} {b : ByteArray} {nL n d kc ks : Nat} {as : List Value} {D : va_G} {cs : Nat → ClassId} {a : Nat} {B0 B1 : List va_E} {ls : List (Option Value)} (hy : plainName y.cls = true) (hlen : (lg_sl as).length ≤ nL) (hls : zls as ++ List.replicate n none = ls)
    (body : ∀ x : cX, cA x = a → cC x = cs → cD x = D → cH x y.cls b nL d → (y.name = "<init>" → cI x) → cE x → (∀ nc ns, nc ≤ kc → ns ≤ ks → cF x nc ns) → cW x 0 0 (cQ x kc ks B1) 0 ls [] B0) : cM y b nL d kc ks as D cs a B0 B1 := by
  intro l
  refine Met.ofW (cc := b) (maxL := nL) (ret := none) hy rfl ?_
  intro p e s m args below meth c s₁ B hml hv
  obtain ⟨rfl, hP, hK, hN⟩ := hv
  have hts0 := atoms_spec (ws := zuw y b nL none) B.pre
  have hts : ∀ w ∈ zUW, w.before (as.toArray) s = true := fun w h => hts0 w (List.mem_cons_of_mem _ h)
  have hown : s.vm.findClass y.cls = some m.cls := findClass_of_methodNamed B.named
  have hb := body (p, l, e, cRm d kc ks, s, m, as.toArray, below, meth, c, D, cs, a) rfl rfl rfl ⟨B.exec, B.bytes, hml, hown, hts, ⟨Nat.le_refl _, Nat.le_refl _⟩, hK, hN⟩ (fun hn => by have := (name_of_methodNamed B.named B.method).1; rw [hn] at this; exact this) ⟨B.returns, B.notSynchronized⟩ (fun nc ns h1 h2 => ⟨h1, h2⟩)
  have hl := lv_entry as (n := nL) hlen
  rw [lg_entry_eq]
  exact hb s.heap [] _ hP va_S.rf ⟨by rw [hml]; exact hl.1, hl.2.1, fun i v h => hl.2.2 (i, _) (by have := zls_mem id as 0 i v (zls_in hls h); rw [Nat.zero_add] at this; rw [zcv_ids] at this; exact this)⟩
section NROWS2
variable {x : cX} {nc ns : Nat} {Q : State → Prop} {own : String} {cc : ByteArray} {nL d pc : Nat} {ls : List (Option Value)} {st : List Value} {B : List va_E}
theorem n_ret (h : cH x own cc nL d) (hE : cE x) {kc ks : Nat} (h1 : nc ≤ kc) (h2 : ns ≤ ks) (hd : decode cc pc = .ok (.return_, 1)) : cW x nc ns (cQ x kc ks B) pc ls [] B := by
  obtain ⟨p, l, e, R, s, m, args, below, meth, cd, D, cs, a0⟩ := x
  intro H locs la hP hS hl
  obtain ⟨hx, hb, hml, hown, hts, hfl, hK, hN⟩ := h
  obtain ⟨hr, hlk⟩ := hE
  refine W.widen (k := kc) (n := ks) h1 h2 ?_
  exact W.vret hx hb hr (fun t ht hW => ⟨⟨(), rfl, trivial, by show cP D a0 B t.heap; rw [ht]; exact hP⟩, hS.F ht⟩) hS.2.2 hd hlk
def cT (x : cX) (cA0 : ClassId) (ty : FieldType) : Prop := match x with
  | (_, _, _, _, s, _, _, _, _, _, _, _, _) => ArrOfT s cA0 ty ∧ va_RA s cA0 ty
theorem cT_of (h : cH x own cc nL d) {t0 : Nat} {cA0 : ClassId} {ty : FieldType} (ht : (zty (cC x))[t0]? = some (cA0, ty)) : cT x cA0 ty := by
  obtain ⟨p, l, e, R, s, m, args, below, meth, cd, D, cs, a0⟩ := x
  obtain ⟨hx, hb, hml, hown, hts, hfl, hK, hN⟩ := h
  exact hK.2 t0 _ ht
theorem n_newa (h : cH x own cc nL d) {atype : ArrayType} {ty : FieldType} {cA0 : ClassId} {n : Int} {N' L : Nat} {a1 : vp_A} (hT : cT x cA0 ty) (harr : Cond.arrayClass ty ∈ zUW) (hty : newarray.typeOf atype = ty) (ha : ∀ cA : ClassId, vp_cell cA a1 = arrV cA N' (fun _ => defaultValue ty)) (hn : ¬ Int32.ofInt n < 0) (hN' : (Int32.ofInt n).toNatClampNeg = N') (hby : N' * componentBytes ty ≤ 536870912) (hf : cF x (nc + 1) (ns + N')) (hL : B.length = L) (hd : decode cc pc = .ok (.newarray atype, 2)) (k : cW x (nc + 1) (ns + N') Q (pc + 2) ls (.ref (cA x + L) :: st) (B ++ [.inl (cA0, a1)])) : cW x nc ns Q pc ls (zI n :: st) B := by
  obtain ⟨p, l, e, R, s, m, args, below, meth, cd, D, cs, a0⟩ := x
  intro H locs la hP hS hl
  obtain ⟨hx, hb, hml, hown, hts, hfl, hK, hN⟩ := h
  subst hty
  subst hL
  have hz : H.size = a0 + B.length := hP.2
  refine va_newaK hx hb (hts _ harr) rfl hd rfl hn hN' hby hf.1 hf.2 rfl fun H1 cA' e1 z1 o1 hAr hNm => ?_
  have hcA : cA' = cA0 := by
    have h2 := hT.2
    have h3 : s.vm.findClass ("[" ++ (newarray.typeOf atype).toString) = some cA0 := by cases atype <;> exact h2
    exact Option.some.inj (hNm.symm.trans h3)
  subst hcA
  have k2 := k H1 locs la (hP.push (by show H1[H.size]? = some (vp_cell _ _); rw [ha]; exact e1) z1 o1) (cS.push hS z1 o1) hl
  rw [hz]
  exact k2
theorem n_new (h : cH x own cc nL d) {c ix L N : Nat} {C : String} {T : u_T} {fs : List Value} (ty : Nat → FieldType) (hty : ∀ k, k < N → parseFieldDescriptor (T k).2.2.1 = some (ty k)) (hfs : ∀ j, j < N → defaultValue (ty j) = vp_V fs j) (hc : vwCl[c]? = some (C, T, N)) (hcl : Cond.classLink own ix C ∈ zUW) (hins : Cond.instantiable C N ∈ zUW) (hini : Cond.initialized C ∈ zUW) (hf : cF x (nc + 1) (ns + N)) (hL : B.length = L) (hd : decode cc pc = .ok (.new ix, 3)) (k : cW x (nc + 1) (ns + N) Q (pc + 3) ls (.ref (cA x + L) :: st) (B ++ [.inr (c, fs)])) : cW x nc ns Q pc ls st B := by
  obtain ⟨p, l, e, R, s, m, args, below, meth, cd, D, cs, a0⟩ := x
  intro H locs la hP hS hl
  obtain ⟨hx, hb, hml, hown, hts, hfl, hK, hN⟩ := h
  subst hL
  have hz : H.size = a0 + B.length := hP.2
  have hKn := hK.1 c _ hc
  have hwd := (zwords c C T N hc).1
  refine W.newcK hx hb hown (hts _ hcl) (hts _ hins) (hts _ hini) rfl hd hf.1 hf.2 hKn.2.1 rfl fun H1 kC hkC e1 z1 o1 => ?_
  have k2 := k H1 locs la (hP.push ⟨_, hc, (u_born ty hts hwd hKn hkC e1 hty).to hfs⟩ z1 o1) (cS.push hS z1 o1) hl
  rw [hz]
  exact k2
theorem n_newq (h : cH x own cc nL d) {C : String} {ix t0 L N' : Nat} {n : Int} {cA0 : ClassId} (hC : C = RX3 ∨ C = RX2) (hT : cT x cA0 (.object C)) (hcl : Cond.classLink own ix C ∈ zUW) (hn : ¬ Int32.ofInt n < 0) (hN' : (Int32.ofInt n).toNatClampNeg = N') (hby : N' * 4 ≤ 536870912) (hf : cF x (nc + 1) (ns + N')) (hL : B.length = L) (hd : decode cc pc = .ok (.anewarray ix, 3)) (k : cW x (nc + 1) (ns + N') Q (pc + 3) ls (.ref (cA x + L) :: st) (B ++ [.inl (cA0, N', .inr (.inr (.inr (.inr (fun _ => none)))))])) : cW x nc ns Q pc ls (zI n :: st) B := by
  obtain ⟨p, l, e, R, s, m, args, below, meth, cd, D, cs, a0⟩ := x
  intro H locs la hP hS hl
  obtain ⟨hx, hb, hml, hown, hts, hfl, hK, hN⟩ := h
  subst hL
  subst hN'
  have hz : H.size = a0 + B.length := hP.2
  have hov : va_AO C s := by
    rcases hC with g | g
    · rw [g]; exact hN.2.1
    · rw [g]; exact hN.2.2
  refine W.anew hx hb hown (hts _ hcl) (va_AO.use hov) rfl hd rfl hn hby hf.1 hf.2 fun cA' kA comp f1 f2 f3 f4 => ?_
  have hcA : cA' = cA0 := by
    obtain ⟨kA', comp', g1, g2, g3, g4⟩ := hT.2
    exact Option.some.inj (f1.symm.trans g4)
  subst hcA
  have e1 : (H.push ({ cls := cA', slots := Array.replicate (Int32.ofInt n).toNatClampNeg .null, vm := .none } : Cell))[H.size]? = some (vp_cell cA' ((Int32.ofInt n).toNatClampNeg, .inr (.inr (.inr (.inr (fun _ => none)))))) := by
    rw [vp_cell_q]
    have : (arrV cA' (Int32.ofInt n).toNatClampNeg (fun _ => va_rf none)) = ({ cls := cA', slots := Array.replicate (Int32.ofInt n).toNatClampNeg .null, vm := .none } : Cell) := by rw [← arrV_new]; rfl
    rw [this]
    simp
  have z1 : (H.push ({ cls := cA', slots := Array.replicate (Int32.ofInt n).toNatClampNeg .null, vm := .none } : Cell)).size = H.size + 1 := by simp
  have o1 : ∀ q, q < H.size → (H.push ({ cls := cA', slots := Array.replicate (Int32.ofInt n).toNatClampNeg .null, vm := .none } : Cell))[q]? = H[q]? := fun q hq => by
    rw [Array.getElem?_push, if_neg (Nat.ne_of_lt hq)]
  have k2 := k _ locs la (hP.push (e := .inl (cA', (Int32.ofInt n).toNatClampNeg, .inr (.inr (.inr (.inr (fun _ => none)))))) e1 z1 o1) (cS.push hS z1 o1) hl
  rw [hz]
  exact k2
theorem n_iast (h : cH x own cc nL d) {i n q : Nat} {u v : Int} {f : Nat → Int32} (hB : B[i]? = some (.inl (cC x 0, n, .inl f))) (hq : q = cA x + i) (hin : vp_in (Int32.ofInt u) n) (hd : decode cc pc = .ok (.iastore, 1)) (k : cW x nc ns Q (pc + 1) ls st (B.set i (.inl (cC x 0, n, .inl (upd f (Int32.ofInt u).toNatClampNeg (Int32.ofInt v)))))) : cW x nc ns Q pc ls (zI v :: zI u :: .ref q :: st) B := by
  obtain ⟨p, l, e, R, s, m, args, below, meth, cd, D, cs, a0⟩ := x
  intro H locs la hP hS hl
  obtain ⟨hx, hb, hml, hown, hts, hfl, hK, hN⟩ := h
  subst hq
  have hat := hP.1 i _ hB
  refine W.iast hx hb hat ((hK.2 0 _ rfl).1 n (fun j => .int (f j))) (fun q => by cases q) (by show ¬ (Int32.ofInt u < 0 ∨ (arrV _ _ _).slots.size ≤ _); rw [arrV_size]; exact hin) rfl rfl hd fun H1 e1 z1 oq => ?_
  refine k H1 _ la (hP.set hB ?_ z1 oq) (cS.put hS (Nat.le_add_right _ _) z1 oq) hl
  show H1[a0 + i]? = some (vp_cell _ _)
  rw [e1]
  rw [vp_cell_i, vp_cell_i, arrV_store]
  congr 2
  funext z
  by_cases hz : z = (Int32.ofInt u).toNatClampNeg
  · subst hz
    simp [updV, upd]
  · simp [updV, upd, hz]
theorem n_aast (h : cH x own cc nL d) {i j n q q2 t0 c N : Nat} {C : String} {T : u_T} {u : Int} {f : Nat → Option Nat} {vs : List Value} {cA0 : ClassId} (hB : B[i]? = some (.inl (cA0, n, .inr (.inr (.inr (.inr f)))))) (ht : cT x cA0 (.object C)) (hq : q = cA x + i) (hB2 : B[j]? = some (.inr (c, vs))) (hc : vwCl[c]? = some (C, T, N)) (hq2 : q2 = cA x + j) (hin : vp_in (Int32.ofInt u) n) (hd : decode cc pc = .ok (.aastore, 1)) (k : cW x nc ns Q (pc + 1) ls st (B.set i (.inl (cA0, n, .inr (.inr (.inr (.inr (va_up f (Int32.ofInt u).toNatClampNeg (some q2))))))))) : cW x nc ns Q pc ls (.ref q2 :: zI u :: .ref q :: st) B := by
  obtain ⟨p, l, e, R, s, m, args, below, meth, cd, D, cs, a0⟩ := x
  intro H locs la hP hS hl
  obtain ⟨hx, hb, hml, hown, hts, hfl, hK, hN⟩ := h
  subst hq
  subst hq2
  have hat := hP.1 i _ hB
  have hlt : (Int32.ofInt u).toNatClampNeg < n := Nat.not_le.mp fun q => hin (Or.inr q)
  have h0 : ¬ Int32.ofInt u < 0 := fun q => hin (Or.inl q)
  obtain ⟨r', hr', cellV, g1, g2, g3, -⟩ := hP.1 j _ hB2
  have hcls := (hK.1 c _ hc).2
  obtain ⟨kA, comp, k1, k2, k3, -⟩ := ht.2
  have hcomp : comp = D.1 c := Option.some.inj (k3.symm.trans hcls.1)
  subst hcomp
  obtain ⟨kC, hkC, -⟩ := hcls.2
  refine W.aast hx hb hat (fun q h => by cases h) (fun h => by cases h) k1 k2 rfl hkC ⟨h0, by show _ < (arrV _ _ _).slots.size; rw [arrV_size]; exact hlt⟩ g1 (fun q h => by rw [g3] at h; cases h) (by rw [g2]; exact hkC) (by rw [g2]; exact va_assign hcls) rfl rfl hd fun H1 e1 z1 oq => ?_
  refine k H1 _ la (hP.set hB ?_ z1 oq) (cS.put hS (Nat.le_add_right _ _) z1 oq) hl
  show H1[a0 + i]? = some (vp_cell _ _)
  rw [e1]
  rw [vp_cell_q, vp_cell_q, arrV_store]
  congr 2
  funext z
  by_cases hz : z = (Int32.ofInt u).toNatClampNeg
  · subst hz
    simp [updV, va_up, va_rf]; rfl
  · simp [updV, va_up, hz]
theorem n_call (h : cH x own cc nL d) {y : MethodName} {b : ByteArray} {mL d' kc ks i ix np : Nat} {as stk : List Value} {P B0 B1 : List va_E} (hM : cM y b mL d' kc ks (.ref (cA x + i) :: as) (cD x) (cC x) (cA x + i) B0 B1) (hB : B = P ++ B0) (hi : P.length = i) (hdl : d' < d) (hf : cF x (nc + kc) (ns + ks)) (hco : Cond.code y b mL none ∈ zUW) (hini : Cond.initialized y.cls ∈ zUW) (hml0 : Cond.methodLink own ix y ∈ zUW) (him : Cond.instanceMethod y ∈ zUW) (hy1 : y.name = "<init>") (hnm : y.cls ≠ "java/lang/invoke/MethodHandle" ∧ y.cls ≠ "java/lang/invoke/VarHandle" ∧ (parseMethodDescriptor y.desc).map (fun d => d.parameters.length) = some np) (hmL : mL ≤ 8) (hn : as.length = np) (hd : decode cc pc = .ok (.invokespecial ix, 3)) (hst : as.reverse ++ .ref (cA x + i) :: st = stk) (hrm : (st.map fun v => v.category).sum ≤ 8) (k : cW x (nc + kc) (ns + ks) Q (pc + 3) ls st (P ++ B1)) : cW x nc ns Q pc ls stk B := by
  obtain ⟨p, l, e, R, s, m, args, below, meth, cd, D, cs, a0⟩ := x
  intro H locs la hP hS hl
  obtain ⟨hx, hb, hml, hown, hts, hfl, hK, hN⟩ := h
  subst hi
  subst hB
  subst hst
  rw [zcv_ids]
  have hM := hM l
  have hfl' : d ≤ R.frames ∧ 27 * d ≤ R.locals := hfl
  have hpre : PreS s H (va_Pc (.ref (a0 + P.length) :: as) (fun U => cP D (a0 + P.length) B0 U.heap ∧ va_K D vwCl (zty cs) U ∧ cN U)) (.ref (a0 + P.length) :: as) :=
    ⟨fun a U g mk q => ⟨q.1, q.2.1, va_K.moved (u := U) (U := U.calling g mk a) (Vm.Alike.refl U.vm) q.2.2.1, cN.same rfl q.2.2.2⟩, fun U hU hw => ⟨rfl, by rw [hU]; exact hP.suf, va_K.moved hw.alike hK, hN.moved hw⟩⟩
  refine va_callv (A0 := fun q => a0 ≤ q) (H0 := s.heap) (va_runI (b := a0 + P.length) (As := as) (rest := st) (nL := nL) (bytes := b) (maxL := mL) (index := ix) (n := np) ⟨hx, hb, hml, hown, hts⟩ hM (cwI np hts (zGI hco) rfl rfl rfl (hts _ hini) (hts _ hml0) (hts _ him) hy1 hnm ⟨by show d' + 1 ≤ R.frames; omega, by show 8 + (mL + 11) + 27 * d' ≤ R.locals; omega⟩) hpre rfl hn (by rw [← hml]; exact hl.1) rfl (lv_room hrm) hd hf) hS (fun q _ h => Nat.le_trans (Nat.le_add_right _ _) h) (fun q h => Nat.le_trans (Nat.le_add_right _ _) h) (fun u t H1 locs1 ht hvm _ hBt hz hk hS1 => ?_)
  · have k2 := k H1 locs1 la (hP.app (by rw [← ht]; exact hBt) (fun q h1 h2 => hk q h1 h2)) hS1 hl
    rw [zcv_ids] at k2
    exact k2
theorem n_callN (h : cH x own cc nL d) {y : MethodName} {b : ByteArray} {mL d' kc ks i ix np : Nat} {as stk : List Value} {P B0 B1 : List va_E} (hM : cM y b mL d' kc ks (.ref (cA x + i) :: as) (cD x) (cC x) (cA x + i) B0 B1) (hB : B = P ++ B0) (hi : P.length = i) (hdl : d' < d) (hf : cF x (nc + kc) (ns + ks)) (hco : Cond.code y b mL none ∈ zUW) (hini : Cond.initialized y.cls ∈ zUW) (hml0 : (own, ix, y) ∈ cNd) (him : Cond.instanceMethod y ∈ zUW) (hy1 : y.name = "<init>") (hnm : y.cls ≠ "java/lang/invoke/MethodHandle" ∧ y.cls ≠ "java/lang/invoke/VarHandle" ∧ (parseMethodDescriptor y.desc).map (fun d => d.parameters.length) = some np) (hmL : mL ≤ 8) (hn : as.length = np) (hd : decode cc pc = .ok (.invokespecial ix, 3)) (hst : as.reverse ++ .ref (cA x + i) :: st = stk) (hrm : (st.map fun v => v.category).sum ≤ 8) (k : cW x (nc + kc) (ns + ks) Q (pc + 3) ls st (P ++ B1)) : cW x nc ns Q pc ls stk B := by
  obtain ⟨p, l, e, R, s, m, args, below, meth, cd, D, cs, a0⟩ := x
  intro H locs la hP hS hl
  obtain ⟨hx, hb, hml, hown, hts, hfl, hK, hN⟩ := h
  subst hi
  subst hB
  subst hst
  rw [zcv_ids]
  have hM := hM l
  have hfl' : d ≤ R.frames ∧ 27 * d ≤ R.locals := hfl
  have hpre : PreS s H (va_Pc (.ref (a0 + P.length) :: as) (fun U => cP D (a0 + P.length) B0 U.heap ∧ va_K D vwCl (zty cs) U ∧ cN U)) (.ref (a0 + P.length) :: as) :=
    ⟨fun a U g mk q => ⟨q.1, q.2.1, va_K.moved (u := U) (U := U.calling g mk a) (Vm.Alike.refl U.vm) q.2.2.1, cN.same rfl q.2.2.2⟩, fun U hU hw => ⟨rfl, by rw [hU]; exact hP.suf, va_K.moved hw.alike hK, hN.moved hw⟩⟩
  refine va_callv (A0 := fun q => a0 ≤ q) (H0 := s.heap) (va_runIN (b := a0 + P.length) (As := as) (rest := st) (nL := nL) (bytes := b) (maxL := mL) (index := ix) (n := np) (host := RX7) ⟨hx, hb, hml, hown, hts⟩ hM ⟨va_cnB np hts (zGI hco) rfl rfl rfl (hN.1 _ hml0) (hts _ hini) hnm ⟨by show d' + 1 ≤ R.frames; omega, by show 8 + (mL + 11) + 27 * d' ≤ R.locals; omega⟩, hy1, hts _ him⟩ hpre rfl hn (by rw [← hml]; exact hl.1) rfl (lv_room hrm) hd hf) hS (fun q _ h => Nat.le_trans (Nat.le_add_right _ _) h) (fun q h => Nat.le_trans (Nat.le_add_right _ _) h) (fun u t H1 locs1 ht hvm _ hBt hz hk hS1 => ?_)
  · have k2 := k H1 locs1 la (hP.app (by rw [← ht]; exact hBt) (fun q h1 h2 => hk q h1 h2)) hS1 hl
    rw [zcv_ids] at k2
    exact k2
theorem n_callS (h : cH x own cc nL d) {y : MethodName} {b : ByteArray} {mL d' kc ks i ix np : Nat} {as stk : List Value} {P B0 B1 : List va_E} (hM : cM y b mL d' kc ks (as) (cD x) (cC x) (cA x + i) B0 B1) (hB : B = P ++ B0) (hi : P.length = i) (hdl : d' < d) (hf : cF x (nc + kc) (ns + ks)) (hco : Cond.code y b mL none ∈ zUW) (hini : Cond.initialized y.cls ∈ zUW) (hml0 : Cond.methodLink own ix y ∈ zUW) (him : Cond.static y ∈ zUW) (hnm : y.cls ≠ "java/lang/invoke/MethodHandle" ∧ y.cls ≠ "java/lang/invoke/VarHandle" ∧ (parseMethodDescriptor y.desc).map (fun d => d.parameters.length) = some np) (hmL : mL ≤ 8) (hn : as.length = np) (hd : decode cc pc = .ok (.invokestatic ix, 3)) (hst : as.reverse ++ st = stk) (hrm : (st.map fun v => v.category).sum ≤ 8) (k : cW x (nc + kc) (ns + ks) Q (pc + 3) ls st (P ++ B1)) : cW x nc ns Q pc ls stk B := by
  obtain ⟨p, l, e, R, s, m, args, below, meth, cd, D, cs, a0⟩ := x
  intro H locs la hP hS hl
  obtain ⟨hx, hb, hml, hown, hts, hfl, hK, hN⟩ := h
  subst hi
  subst hB
  subst hst
  rw [zcv_ids]
  have hM := hM l
  have hfl' : d ≤ R.frames ∧ 27 * d ≤ R.locals := hfl
  have hpre : PreS s H (va_Pc (as) (fun U => cP D (a0 + P.length) B0 U.heap ∧ va_K D vwCl (zty cs) U ∧ cN U)) (as) :=
    ⟨fun a U g mk q => ⟨q.1, q.2.1, va_K.moved (u := U) (U := U.calling g mk a) (Vm.Alike.refl U.vm) q.2.2.1, cN.same rfl q.2.2.2⟩, fun U hU hw => ⟨rfl, by rw [hU]; exact hP.suf, va_K.moved hw.alike hK, hN.moved hw⟩⟩
  refine va_callv (A0 := fun q => a0 ≤ q) (H0 := s.heap) (va_runS (As := as) (rest := st) (nL := nL) (bytes := b) (maxL := mL) (ret := none) (index := ix) (n := np) ⟨hx, hb, hml, hown, hts⟩ hM ⟨callB_of np hts (zGI hco) rfl rfl rfl (hts _ hini) (hts _ hml0) hnm ⟨by show d' + 1 ≤ R.frames; omega, by show 8 + (mL + 11) + 27 * d' ≤ R.locals; omega⟩, hts _ him⟩ hpre rfl hn (by rw [← hml]; exact hl.1) rfl (lv_room hrm) hd hf) hS (fun q _ h => Nat.le_trans (Nat.le_add_right _ _) h) (fun q h => Nat.le_trans (Nat.le_add_right _ _) h) (fun u t H1 locs1 ht hvm _ hBt hz hk hS1 => ?_)
  · have k2 := k H1 locs1 la (hP.app (by rw [← ht]; exact hBt) (fun q h1 h2 => hk q h1 h2)) hS1 hl
    rw [zcv_ids] at k2
    exact k2
end NROWS2
def cdf (c : Nat) : List Value := (zfL c).map (fun k => if k.1 = 2 then .long 0 else if 3 ≤ k.1 then .null else .int 0)
theorem cdf_0 : ∀ j, j < 2 → defaultValue (tyX0 j) = vp_V (cdf 0) j
  | 0, _ => rfl
  | 1, _ => rfl
  | _ + 2, h => absurd h (by omega)
theorem cdf_1 : ∀ j, j < 16 → defaultValue (tyX1 j) = vp_V (cdf 1) j
  | 0, _ => rfl
  | 1, _ => rfl
  | 2, _ => rfl
  | 3, _ => rfl
  | 4, _ => rfl
  | 5, _ => rfl
  | 6, _ => rfl
  | 7, _ => rfl
  | 8, _ => rfl
  | 9, _ => rfl
  | 10, _ => rfl
  | 11, _ => rfl
  | 12, _ => rfl
  | 13, _ => rfl
  | 14, _ => rfl
  | 15, _ => rfl
  | _ + 16, h => absurd h (by omega)
theorem cdf_2 : ∀ j, j < 6 → defaultValue (tyX2 j) = vp_V (cdf 2) j
  | 0, _ => rfl
  | 1, _ => rfl
  | 2, _ => rfl
  | 3, _ => rfl
  | 4, _ => rfl
  | 5, _ => rfl
  | _ + 6, h => absurd h (by omega)
theorem cdf_3 : ∀ j, j < 4 → defaultValue (tyX3 j) = vp_V (cdf 3) j
  | 0, _ => rfl
  | 1, _ => rfl
  | 2, _ => rfl
  | 3, _ => rfl
  | _ + 4, h => absurd h (by omega)
theorem cdf_4 : ∀ j, j < 10 → defaultValue (tyX4 j) = vp_V (cdf 4) j
  | 0, _ => rfl
  | 1, _ => rfl
  | 2, _ => rfl
  | 3, _ => rfl
  | 4, _ => rfl
  | 5, _ => rfl
  | 6, _ => rfl
  | 7, _ => rfl
  | 8, _ => rfl
  | 9, _ => rfl
  | _ + 10, h => absurd h (by omega)
theorem cdf_5 : ∀ j, j < 19 → defaultValue (tyX5 j) = vp_V (cdf 5) j
  | 0, _ => rfl
  | 1, _ => rfl
  | 2, _ => rfl
  | 3, _ => rfl
  | 4, _ => rfl
  | 5, _ => rfl
  | 6, _ => rfl
  | 7, _ => rfl
  | 8, _ => rfl
  | 9, _ => rfl
  | 10, _ => rfl
  | 11, _ => rfl
  | 12, _ => rfl
  | 13, _ => rfl
  | 14, _ => rfl
  | 15, _ => rfl
  | 16, _ => rfl
  | 17, _ => rfl
  | 18, _ => rfl
  | _ + 19, h => absurd h (by omega)
theorem cdf_6 : ∀ j, j < 2 → defaultValue (tyX6 j) = vp_V (cdf 6) j
  | 0, _ => rfl
  | 1, _ => rfl
  | _ + 2, h => absurd h (by omega)
theorem cdf_7 : ∀ j, j < 12 → defaultValue (tyX7 j) = vp_V (cdf 7) j
  | 0, _ => rfl
  | 1, _ => rfl
  | 2, _ => rfl
  | 3, _ => rfl
  | 4, _ => rfl
  | 5, _ => rfl
  | 6, _ => rfl
  | 7, _ => rfl
  | 8, _ => rfl
  | 9, _ => rfl
  | 10, _ => rfl
  | 11, _ => rfl
  | _ + 12, h => absurd h (by omega)
theorem cdf_8 : ∀ j, j < 48 → defaultValue (tyX8 j) = vp_V (cdf 8) j
  | 0, _ => rfl
  | 1, _ => rfl
  | 2, _ => rfl
  | 3, _ => rfl
  | 4, _ => rfl
  | 5, _ => rfl
  | 6, _ => rfl
  | 7, _ => rfl
  | 8, _ => rfl
  | 9, _ => rfl
  | 10, _ => rfl
  | 11, _ => rfl
  | 12, _ => rfl
  | 13, _ => rfl
  | 14, _ => rfl
  | 15, _ => rfl
  | 16, _ => rfl
  | 17, _ => rfl
  | 18, _ => rfl
  | 19, _ => rfl
  | 20, _ => rfl
  | 21, _ => rfl
  | 22, _ => rfl
  | 23, _ => rfl
  | 24, _ => rfl
  | 25, _ => rfl
  | 26, _ => rfl
  | 27, _ => rfl
  | 28, _ => rfl
  | 29, _ => rfl
  | 30, _ => rfl
  | 31, _ => rfl
  | 32, _ => rfl
  | 33, _ => rfl
  | 34, _ => rfl
  | 35, _ => rfl
  | 36, _ => rfl
  | 37, _ => rfl
  | 38, _ => rfl
  | 39, _ => rfl
  | 40, _ => rfl
  | 41, _ => rfl
  | 42, _ => rfl
  | 43, _ => rfl
  | 44, _ => rfl
  | 45, _ => rfl
  | 46, _ => rfl
  | 47, _ => rfl
  | _ + 48, h => absurd h (by omega)
