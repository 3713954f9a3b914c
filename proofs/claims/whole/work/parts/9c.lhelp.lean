/-! the law's helpers door, truck, carton: 0 and the answer in out[0], or 1 where the class throws -/
def zAo (ad : Nat → Nat) : Nat → Prop := fun q => zAs ad q ∨ q = ad 400001
def zEXg (A : Nat → Prop) (ad : Nat → Nat) (U : State) : Prop := vk_S 5 zlen zbyt (fun i => ad (100000 + i)) (fun i => ad (200000 + i)) A U U.heap ∧ (∀ i, i < 5 → vk_R RX4 (zix i) (ztx i) (ad (100000 + i)) U) ∧ va_Z "java/lang/String" "COMPACT_STRINGS" "Z" (.int 1) A U U.heap ∧
  (va_Z "jdk/internal/util/Preconditions" "SIOOBE_FORMATTER" "Ljava/util/function/BiFunction;" .null A U U.heap ∨ va_Z "jdk/internal/util/Preconditions" "SIOOBE_FORMATTER" "Ljava/util/function/BiFunction;" (.ref (ad 300000)) A U U.heap) ∧ va_Zq "java/lang/Throwable" "UNASSIGNED_STACK" "[Ljava/lang/StackTraceElement;" A U U.heap ∧ va_Zq "java/lang/Throwable" "SUPPRESSED_SENTINEL" "Ljava/util/List;" A U U.heap ∧ ∀ i, i < 6 → ∃ a, vk_R RX7 (zxi i) (zxt i) a U
theorem zEXg.moved {A : Nat → Prop} {ad : Nat → Nat} {s U : State} (hW : s.WarmedH U.vm) (hS : ∀ q : Nat, q < s.heap.size → ¬ A q → U.heap[q]? = s.heap[q]?) (h : zEXg A ad s) : zEXg A ad U :=
  ⟨(h.1.kept hS).moved hW.alike, fun i hi => (h.2.1 i hi).warm hW, (h.2.2.1.kept hS).moved hW.alike, h.2.2.2.1.imp (fun q => (q.kept hS).moved hW.alike) (fun q => (q.kept hS).moved hW.alike), (h.2.2.2.2.1.kept hS).moved hW.alike, (h.2.2.2.2.2.1.kept hS).moved hW.alike, fun i hi => (h.2.2.2.2.2.2 i hi).imp fun a q => q.warm hW⟩
theorem zEXg.narrow {A B : Nat → Prop} {ad : Nat → Nat} {U : State} (hAB : ∀ q, B q → A q) (h : zEXg A ad U) : zEXg B ad U :=
  ⟨h.1.narrow hAB, h.2.1, h.2.2.1.narrow hAB, h.2.2.2.1.imp (fun q => q.narrow hAB) (fun q => q.narrow hAB), h.2.2.2.2.1.narrow hAB, h.2.2.2.2.2.1.narrow hAB, h.2.2.2.2.2.2⟩
theorem zEXg.ex {ad : Nat → Nat} {U : State} (h : zEXg (zAs ad) ad U) : zEX ad U := h
def zXPg (A : Nat → Prop) (U : State) : Prop := (∀ w ∈ nsW, w.before #[] U = true) ∧ vx_Zq Bundle.tN "UNASSIGNED_STACK" Bundle.steD A U U.heap ∧ vx_Zq Bundle.tN "SUPPRESSED_SENTINEL" Bundle.listD A U U.heap
theorem zXPg.moved {A : Nat → Prop} {s U : State} (hW : s.WarmedH U.vm) (hS : ∀ q : Nat, q < s.heap.size → ¬ A q → U.heap[q]? = s.heap[q]?) (h : zXPg A s) : zXPg A U :=
  ⟨fun w hw => ns_word hW (nsW_kinds w hw) (h.1 w hw), vx_Zq.moved hW.alike (h.2.1.kept hS), vx_Zq.moved hW.alike (h.2.2.kept hS)⟩
theorem zXPg.narrow {A B : Nat → Prop} {U : State} (hAB : ∀ q, B q → A q) (h : zXPg A U) : zXPg B U := ⟨h.1, h.2.1.narrow hAB, h.2.2.narrow hAB⟩
def zoE (cL : ClassId) (v : Int64) : va_E := .inl (cL, 1, .inr (.inl (fun _ => v)))
def yO (D : va_G) (ad : Nat → Nat) (cL : ClassId) (v : Int64) (H : Heap) : Prop := va_P D vwCl [(ad 400001, zoE cL v)] H
def zlw (y : MethodName) (cc : ByteArray) : List Cond := Cond.codeWith y cc 5 (some .int) [(0, 10, 13, 13)] :: zUW
/-- what a helper finds -/
def zBo (D : va_G) (ad : Nat → Nat) (cs : Nat → ClassId) (cL : ClassId) (σ : zS) (v0 : Int64) (U : State) : Prop := zWd D ad cs σ U.heap ∧ va_K D vwCl (zty cs) U ∧ va_K D vwCl [(cL, .long)] U ∧ yO D ad cL v0 U.heap ∧ zEXg (zAo ad) ad U ∧ zXPg (zAo ad) U
def zQo (D : va_G) (ad : Nat → Nat) (cs : Nat → ClassId) (cL : ClassId) (σ : zS) (K : Int → Int64 → Prop) : Array Value → State → Outcome → State → Prop := fun _ st oc t =>
  ∃ (r : Int) (v : Int64), oc = .returned (some (zI r)) ∧ K r v ∧ zWd D ad cs σ t.heap ∧ yO D ad cL v t.heap ∧ va_F (zAo ad) st t
def zCo (y : MethodName) (cc : ByteArray) (a b : Int) (σ : zS) (K : Int → Int64 → Prop) : Prop :=
  ∀ (l : Launch) (D : va_G) (ad : Nat → Nat) (cs : Nat → ClassId) (cL : ClassId) (v0 : Int64), l.stackTraces = false → zInj ad → ¬ zAs ad (ad 400001) →
    Met l y (zlw y cc) (zrt 7) (va_Pc ([zR 0, zI a, zI b, .ref 400001].map (zcv ad)) (zBo D ad cs cL σ v0)) (zQo D ad cs cL σ K) 1 6 (zAo ad)
theorem Met_ofWH {l : Launch} {y : MethodName} {ws ws' : List Cond} {rm : Room} {Pc : Array Value → State → Prop} {Qc : Array Value → State → Outcome → State → Prop} {mc ms : Nat} {free : Addr → Prop} {cc : ByteArray} {maxL : Nat} {ret : Option FieldType} {hh : List (Nat × Nat × Nat × Nat)}
    (hy : plainName y.cls = true) (hw : ws = Cond.codeWith y cc maxL ret hh :: ws')
    (body : ∀ p e s m args below meth c s₁, BodyLoose p l y (headSpec ws rm) cc maxL ret e s m args below meth c s₁ → c.maxLocals = maxL → Pc args s →
      W p l e (headSpec ws rm).room s m args below meth c s.heap [] 0 0 (MQ below Qc args s mc ms free) (entryFrame m args maxL)) : Met l y ws rm Pc Qc mc ms free := by
  refine MetFree.of_bodyS (code := cc) (maxLocals := maxL) (ret := ret) hy ?_ ?_
  · intro args s m h hn
    obtain ⟨m9, meth, c, hn9, h1, h2, h3, h4, -, h5, h6, -⟩ := Cond.codeWith_spec (atoms_spec (ws := ws) h _ (by rw [hw]; exact List.mem_cons_self))
    cases hn.symm.trans hn9
    exact ⟨meth, c, h1, h2, h3, h4, h5, h6⟩
  · intro p e s m args below meth c s₁ B hml hP _
    have hh0 : s₁.heap = s.heap := by rw [B.state]; rfl
    obtain ⟨t, a1, o, b1, b2, b3, b4⟩ := body p e s m args below meth c s₁ B hml hP s₁ hh0 (Stand.of_body B)
    exact ⟨t, o, a1, b1, b2, b3, b4⟩
def yXo (x : zX) (cL : ClassId) (v0 : Int64) : Heap → Prop := match x with
  | (_, _, _, _, s, _, _, _, _, _, D, ad, _) => fun H => (s.heap.size ≤ H.size ∧ ∀ q : Nat, q < s.heap.size → ¬ zAo ad q → H[q]? = s.heap[q]?) ∧ yO D ad cL v0 H
def yAo (x : zX) : Nat → Prop := match x with
  | (_, _, _, _, _, _, _, _, _, _, _, ad, _) => zAo ad
def yQo (x : zX) (cL : ClassId) (σ : zS) (K : Int → Int64 → Prop) : State → Prop := match x with
  | (_, _, _, _, s, _, args, below, _, _, D, ad, cs) => MQ below (zQo D ad cs cL σ K) args s 1 6 (zAo ad)
def yTo (x : zX) (cL : ClassId) : Prop := match x with
  | (_, l, _, R, s, m, args, _, meth, c, D, ad, _) => l.stackTraces = false ∧ zXPg (zAo ad) s ∧ zEXg (zAo ad) ad s ∧ meth.locks = false ∧ meth.sig.returnType = some .int ∧ c.exceptionTable.toList = tableOf [(0, 10, 13, 13)] ∧ va_K D vwCl [(cL, .long)] s ∧ ¬ zAs ad (ad 400001) ∧ (7 ≤ R.frames ∧ 189 ≤ R.locals ∧ 1 ≤ R.cells ∧ 6 ≤ R.slots)
theorem yEo_of {x : zX} {cL : ClassId} {v0 : Int64} (h : yTo x cL) : yE x (yAo x) (yXo x cL v0) := by
  obtain ⟨p, l, e, R, s, m, args, below, meth, cd, D, ad, cs⟩ := x
  obtain ⟨-, -, hE, -, -, -, -, hno, -⟩ := h
  refine ⟨fun H U hX hU hW => (zEXg.narrow (fun q z => Or.inl z) (zEXg.moved hW (fun q h1 h2 => by rw [hU]; exact hX.1.2 q h1 h2) hE)).ex, fun H H' hX hz hk => ⟨⟨Nat.le_trans hX.1.1 hz, fun q h1 h2 => by rw [hk q (Nat.lt_of_lt_of_le h1 hX.1.1) (fun z => h2 (Or.inl z))]; exact hX.1.2 q h1 h2⟩, ?_⟩, fun q z => Or.inl z⟩
  refine va_P.kept hX.2 (fun k q hq => ?_)
  have hl := (hX.2 k q hq).lt
  cases k with
  | zero => cases hq; exact hk _ hl hno
  | succ n => cases hq
theorem zCo_of {y : MethodName} {cc : ByteArray} {a b : Int} {σ : zS} {K : Int → Int64 → Prop} (hy : plainName y.cls = true) (hyc : y.cls = RL)
    (body : ∀ (x : zX) (cL : ClassId) (v0 : Int64), yH x RL cc 5 7 → yTo x cL → yW x (yAo x) (yXo x cL v0) 0 0 (yQo x cL σ K) 0 [some (zR 0), some (zI a), some (zI b), some (.ref 400001), none] [] σ) : zCo y cc a b σ K := by
  intro l D ad cs cL v0 hl hinj hno
  refine Met_ofWH (cc := cc) (maxL := 5) (ret := some .int) hy rfl ?_
  intro p e s m args below meth c s₁ B hml hv
  obtain ⟨rfl, hWd, hK, hKl, hO, hE, hXP⟩ := hv
  have hts0 := atoms_spec (ws := zlw y cc) B.pre
  have hts : ∀ w ∈ zUW, w.before _ s = true := fun w hw => hts0 w (List.mem_cons_of_mem _ hw)
  have hown : s.vm.findClass RL = some m.cls := by rw [← hyc]; exact findClass_of_methodNamed B.named
  have htab := vx_table (x := y) B (hts0 _ List.mem_cons_self)
  have hb := body (p, l, e, zrt 7, s, m, _, below, meth, c, D, ad, cs) cL v0 ⟨B.exec, B.bytes, hml, hown, hts, ⟨Nat.le_refl _, Nat.le_refl _⟩, hK, hinj⟩ ⟨hl, hXP, hE, B.notSynchronized, B.returns, htab, hKl, hno, Nat.le_refl _, (by decide), Nat.le_refl _, Nat.le_refl _⟩
  have hl := lv_entry ([zR 0, zI a, zI b, .ref 400001].map (zcv ad)) (n := 5) (Nat.le_of_ble_eq_true rfl)
  rw [lg_entry_eq]
  exact hb s.heap [] _ hWd va_S.rf ⟨⟨Nat.le_refl _, fun _ _ _ => rfl⟩, hO⟩ ⟨by rw [hml]; exact hl.1, hl.2.1, fun i v h => hl.2.2 (i, _) (by have := zls_mem ad [zR 0, zI a, zI b, .ref 400001] 0 i v (zls_in (n := 1) rfl h); rwa [Nat.zero_add] at this)⟩
section YO
variable {x : zX} {cc : ByteArray} {nL d pc : Nat} {ls : List (Option Value)} {st : List Value} {σ : zS} {cL : ClassId} {v0 : Int64} {K : Int → Int64 → Prop} {own : String}
/-- out[0] is written, then 0 comes back -/
theorem y_lastore (h : yH x own cc nL d) (hT : yTo x cL) {v : Int64} (hd : decode cc pc = .ok (.lastore, 1)) (k : yW x (yAo x) (yXo x cL v) 0 0 (yQo x cL σ K) (pc + 1) ls [] σ) : yW x (yAo x) (yXo x cL v0) 0 0 (yQo x cL σ K) pc ls [.long v, zI 0, .ref 400001] σ := by
  obtain ⟨p, l, e, R, s, m, args, below, meth, cd, D, ad, cs⟩ := x
  intro H locs la hW hS hX hl
  obtain ⟨hx, hb, hml, hown, hts, hfl, hK, hinj⟩ := h
  obtain ⟨-, -, -, -, -, -, hKl, hno, -⟩ := hT
  have hDz := zD cs σ hinj
  have hW1 := hW.1
  obtain ⟨ws, hws⟩ : ∃ z, z = zwl ad cs σ := ⟨_, rfl⟩
  rw [← hws] at hW1 hDz
  have hP := va_P.app (w1 := [(ad 400001, zoE cL v0)]) hX.2 hW1
  have hD : va_D (zAo ad) ([(ad 400001, zoE cL v0)] ++ ws) := by
    refine ⟨fun i j p q hp hq e => ?_, fun k q hq => ?_⟩
    · cases i with
      | zero =>
        cases hp
        cases j with
        | zero => rfl
        | succ j => exact absurd (by rw [show ad 400001 = q.1 from e]; exact hDz.2 j q hq) hno
      | succ i =>
        cases j with
        | zero => cases hq; exact absurd (by rw [show ad 400001 = p.1 from e.symm]; exact hDz.2 i p hp) hno
        | succ j => exact congrArg (· + 1) (hDz.1 i j p q hp hq e)
    · cases k with
      | zero => cases hq; exact Or.inr rfl
      | succ k => exact Or.inl (hDz.2 k q hq)
  refine va_last (ws := [(ad 400001, zoE cL v0)] ++ ws) (i := Int32.ofInt 0) (x := v) hx hb hKl hP hD hS 0 0 rfl rfl (z_in (n := 0) (N := 1) (by decide) (by decide) (by decide)) hd (fun H1 locs1 hP1 hD1 hS1 => ?_)
  have hP2 : va_P D vwCl ws H1 := fun k q hq => hP1 (k + 1) q hq
  refine k H1 locs1 la ⟨by rw [← hws]; exact hP2, hW.2⟩ hS1 ⟨⟨hS1.1, hS1.2.1⟩, ?_⟩ hl
  intro k q hq
  cases k with
  | zero =>
    cases hq
    have h0 : H1[ad 400001]? = some (vp_cell cL (1, .inr (.inl (vp_updL (fun _ => v0) (Int32.ofInt 0).toNatClampNeg v)))) := hP1 0 _ rfl
    show H1[ad 400001]? = some (vp_cell cL (1, .inr (.inl (fun _ => v))))
    rw [h0]
    have e2 : (Int32.ofInt 0).toNatClampNeg = 0 := by decide
    rw [e2]
    simp [vp_cell, vp_updL, arrV]
  | succ n => cases hq
theorem y_oret (h : yH x own cc nL d) (hT : yTo x cL) {r : Int} (hd : decode cc pc = .ok (.ireturn, 1)) {nc ns : Nat} (h1 : nc ≤ 1) (h2 : ns ≤ 6) (k : K r v0) : yW x (yAo x) (yXo x cL v0) nc ns (yQo x cL σ K) pc ls [zI r] σ := by
  obtain ⟨p, l, e, R, s, m, args, below, meth, cd, D, ad, cs⟩ := x
  intro H locs la hW hS hX hl
  obtain ⟨hx, hb, hml, hown, hts, hfl, hK, hinj⟩ := h
  obtain ⟨-, -, -, hlk, hr, -, -, -, -⟩ := hT
  refine W.widen (k := 1) (n := 6) h1 h2 ?_
  exact W.iret hx hb hr (fun t ht hWt => ⟨r, v0, rfl, k, by rw [ht]; exact hW, by rw [ht]; exact hX.2, by rw [va_F, ht]; exact ⟨hS.1, hS.2.1⟩⟩) hS.2.2 hd hlk
end YO
def zLd (cc : ByteArray) (i7 : Nat) : Prop := (decode cc 0 = .ok (.aload_n 3, 1) ∧ decode cc 1 = .ok (.iconst 0, 1) ∧ decode cc 2 = .ok (.aload_n 0, 1) ∧ decode cc 3 = .ok (.iload_n 1, 1) ∧ decode cc 4 = .ok (.iload_n 2, 1) ∧ decode cc 5 = .ok (.invokevirtual i7, 3)) ∧ (decode cc 8 = .ok (.i2l, 1) ∧ decode cc 9 = .ok (.lastore, 1) ∧ decode cc 10 = .ok (.goto 7, 3)) ∧ (decode cc 13 = .ok (.astore 4, 2) ∧ decode cc 15 = .ok (.iconst 1, 1) ∧ decode cc 16 = .ok (.ireturn, 1)) ∧ decode cc 17 = .ok (.iconst 0, 1) ∧ decode cc 18 = .ok (.ireturn, 1)
theorem zLd_door : zLd cL_door 7 := ⟨⟨dL_door_0, dL_door_1, dL_door_2, dL_door_3, dL_door_4, dL_door_5⟩, ⟨dL_door_8, dL_door_9, dL_door_10⟩, ⟨dL_door_13, dL_door_15, dL_door_16⟩, dL_door_17, dL_door_18⟩
theorem zLd_truck : zLd cL_truck 15 := ⟨⟨dL_truck_0, dL_truck_1, dL_truck_2, dL_truck_3, dL_truck_4, dL_truck_5⟩, ⟨dL_truck_8, dL_truck_9, dL_truck_10⟩, ⟨dL_truck_13, dL_truck_15, dL_truck_16⟩, dL_truck_17, dL_truck_18⟩
theorem zLd_carton : zLd cL_carton 18 := ⟨⟨dL_carton_0, dL_carton_1, dL_carton_2, dL_carton_3, dL_carton_4, dL_carton_5⟩, ⟨dL_carton_8, dL_carton_9, dL_carton_10⟩, ⟨dL_carton_13, dL_carton_15, dL_carton_16⟩, dL_carton_17, dL_carton_18⟩
theorem L_ans {y : MethodName} {cc : ByteArray} {M : MethodName × ByteArray × Nat × Option FieldType} {i7 d' : Nat} {a b v : Int} {σ : zS} (hy : plainName y.cls = true) (hyc : y.cls = RL) (hL : zLd cc i7) (hm : zMV M RX7 2) (hw : Cond.methodLink RL i7 M.1 ∈ zUW) (hC : zCp M d' [zR 0, zI a, zI b] σ (zI v)) (hd7 : d' < 7) : zCo y cc a b σ (fun r w => r = 0 ∧ w = (Int32.ofInt v).toInt64) := by
  obtain ⟨⟨d0, d1, d2, d3, d4, d5⟩, ⟨d8, d9, d10⟩, -, d17, d18⟩ := hL
  refine zCo_of hy hyc (fun x cL v0 h hT => ?_)
  refine y_aload_n (pc := 0) h d0 rfl ?_
  refine y_iconst (pc := 1) h d1 ?_
  refine y_aload_n (pc := 2) h d2 rfl ?_
  refine y_iload_n (pc := 3) h d3 rfl ?_
  refine y_iload_n (pc := 4) h d4 rfl ?_
  refine y_callV (pc := 5) (o := 0) (c := 7) h (yEo_of hT) (yF0 x) hC hd7 rfl rfl hm hw rfl d5 rfl (Nat.le_of_ble_eq_true rfl) (fun r τ q => ?_)
  obtain ⟨rfl, rfl⟩ := q
  refine y_i2l (pc := 8) h d8 ?_
  refine y_lastore (pc := 9) h hT d9 ?_
  refine y_goto (pc := 10) (tgt := 17) h d10 (by decide) ?_
  refine y_iconst (pc := 17) h d17 ?_
  exact y_oret (pc := 18) h hT d18 (by decide) (by decide) ⟨rfl, rfl⟩
theorem L_thr {y : MethodName} {cc : ByteArray} {M : MethodName × ByteArray × Nat × Option FieldType} {i7 : Nat} {a b : Int} {σ : zS} (hy : plainName y.cls = true) (hyc : y.cls = RL) (hL : zLd cc i7) (hm : zMV M RX7 2) (hM4 : M.2.2.1 ≤ 4) (hw : Cond.methodLink RL i7 M.1 ∈ zUW) (hC : zCt M 6 [zR 0, zI a, zI b] σ) : zCo y cc a b σ (fun r _ => r = 1) := by
  obtain ⟨⟨d0, d1, d2, d3, d4, d5⟩, -, ⟨d13, d15, d16⟩, -⟩ := hL
  refine zCo_of hy hyc (fun x cL v0 h hT => ?_)
  refine y_aload_n (pc := 0) h d0 rfl ?_
  refine y_iconst (pc := 1) h d1 ?_
  refine y_aload_n (pc := 2) h d2 rfl ?_
  refine y_iload_n (pc := 3) h d3 rfl ?_
  refine y_iload_n (pc := 4) h d4 rfl ?_
  have kend := y_oret (σ := σ) (K := fun r _ => r = 1) (v0 := v0) (ls := [some (zR 0), some (zI a), some (zI b), some (.ref 400001), none]) (pc := 16) h hT (r := 1) d16 (nc := 1) (ns := 6) (by decide) (by decide) rfl
  have hE := yEo_of (v0 := v0) hT
  obtain ⟨p, l, e, R, s, m, args, below, meth, cd, D, ad, cs⟩ := x
  intro H locs la hW hS hX hl
  obtain ⟨hx, hb, hml, hown, hts, hfl, hK, hinj⟩ := h
  obtain ⟨hst, hXP, hEg, hlk, hr, htab, hKl, hno, r1, r2, r3, r4⟩ := hT
  obtain ⟨⟨w4, w5, hnm, h8⟩, hcl, w2, w3⟩ := hm
  have hM := hC l D ad cs hst hinj
  obtain ⟨q0, hq, hq2⟩ := zwl_at ad cs σ (zkey_o (o := 0) (by decide))
  rw [zce_o] at hq2
  have hrun := vx_runV (C := RX7) (b := ad (64 * 0)) (As := [zI a, zI b].map (zcv ad)) (rest := [zI 0, .ref 400001].map (zcv ad)) (g := F0 m 5 la ([zI b, zI a, zR 0, zI 0, .ref 400001].map (zcv ad))) (locs := locs) (H := H) (below := below) (meth := meth) (e := e) (cells := 0) (slots := 0) (nL := 5) (bytes := M.2.1) (maxL := M.2.2.1) (ret := M.2.2.2) (index := i7) (n := 2) ⟨hx, hb, hml, hown, hts⟩ hM ⟨callB_of 2 hts (zGI w5) rfl rfl rfl (hts _ w4) (hts _ hw) hnm ⟨r1, by show 8 + (M.2.2.1 + 11) + 27 * 6 ≤ R.locals; omega⟩, hts _ w2, hts _ w3⟩ ⟨fun a U g mk q => ⟨q.1, ⟨q.2.1.1, va_K.moved (u := U) (U := U.calling g mk a) (Vm.Alike.refl U.vm) q.2.1.2.1, zEX.same rfl rfl q.2.1.2.2⟩, zXP.calling q.2.2⟩, va_recv hK hW.1 (ci := 7) rfl hq2, fun U hU hw => ⟨rfl, ⟨by rw [hU]; exact hW, va_K.moved hw.alike hK, hE.1 H U hX hU hw⟩, zXPg.narrow (fun q z => Or.inl z) (zXPg.moved hw (fun q h1 h2 => by rw [hU]; exact hX.1.2 q h1 h2) hXP)⟩⟩ rfl rfl (by rw [← hml]; exact hl.1) rfl (lv_room (Nat.le_of_ble_eq_true rfl)) d5 ⟨r3, r4⟩
  intro T hT X
  rcases hrun T hT X with ⟨v, st₀, t, T', L, h0, X', hL, e1, e2, hf, st⟩ | ⟨q, st₀, t, T', L, E, ce, h0, X', hL, e1, e2, ⟨u, -, ⟨hEe, hWd⟩, hF⟩, hce, hcv, hcl9, st⟩
  · exact hf.elim
  · obtain ⟨hz, hkp⟩ := hF
    rw [h0] at hz hkp
    have hS' : va_S (zAo ad) s.heap T'.heap (locs ++ L) := ⟨Nat.le_trans hS.1 (by rw [e1]; exact hz), fun q h1 h2 => by rw [e1, hkp q (Nat.lt_of_lt_of_le h1 hS.1) (fun z => h2 (Or.inl z))]; exact hS.2.1 q h1 h2, fun q hq => by
      rcases List.mem_append.mp hq with h | h
      · exact hS.2.2 q h
      · exact Or.inl (hL q h)⟩
    have hX' : yXo (p, l, e, R, s, m, args, below, meth, cd, D, ad, cs) cL v0 T'.heap := hE.2.1 H T'.heap hX (by rw [e1]; exact hz) (fun q h1 h2 => by rw [e1]; exact hkp q h1 h2)
    subst hEe
    have hcast : (Cond.castable nsE nsE).before args s = true := vx_ot_at (State.WarmedH.refl s) rfl (nsW_ot _ (by decide +kernel)) (hXP.1 (Cond.castable nsE nsE) (by decide +kernel))
    have hcatch : vx_W p l e R s m args below meth cd T'.heap (locs ++ L) (0 + 1) (0 + 6) (yQo (p, l, e, R, s, m, args, below, meth, cd, D, ad, cs) cL σ (fun r _ => r = 1)) (F0 m 5 la ([zI 0, .ref 400001].map (zcv ad))) q := by
      refine vx_catch (own := RL) (name := nsE) (E := nsE) (ce := ce) hown [] ⟨0, 10, 13, 13⟩ [] (by rw [htab]; rfl) (fun z hz => nomatch hz) rfl (by decide) (hts _ cl_L_13) hcast (by rw [e1]; exact hce) hcv hcl9 ?_
      refine lv_astore hx hb d13 hl.has (by rw [hml]; decide) rfl (fun la' hl' => ?_)
      refine lv_iconst hx hb d15 rfl ?_
      refine kend T'.heap (locs ++ L) la' (by rw [e1]; exact hWd) hS' hX' ?_
      refine ⟨hl'.1, hl'.2.1, fun i v hv => ?_⟩
      have hcat : i ≠ 4 ∧ (i + 1 = 4 → v.category = 1) := by
        match i, hv with
        | 0, _ => exact ⟨by decide, fun z => absurd z (by decide)⟩
        | 1, _ => exact ⟨by decide, fun z => absurd z (by decide)⟩
        | 2, _ => exact ⟨by decide, fun z => absurd z (by decide)⟩
        | 3, hv => cases hv; exact ⟨by decide, fun _ => rfl⟩
        | 4, hv => cases hv
        | n + 5, hv => simp at hv
      refine hl'.2.2 (i, zcv ad v) (List.mem_cons_of_mem _ (List.mem_filter.mpr ⟨zlv_mem hv, ?_⟩))
      have e2 : (i == 4) = false := by simpa using hcat.1
      by_cases e3 : i + 1 = 4
      · simp [e2, zcv_cat, hcat.2 e3]
      · have e4 : (i + 1 == 4) = false := by simpa using e3
        simp [e2, e4]
    obtain ⟨t2, a1, b1⟩ := hcatch T' rfl X'
    exact ⟨t2, st.trans a1, b1⟩
