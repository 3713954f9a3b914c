/-! what a throw needs of the machine, carried over calls -/
def nsW : List Cond := Cond.classLink RX7 213 nsE :: Cond.initialized nsE :: (nsA RX7 217).filter vx_no
def nsD : Cond → Bool
  | .declares _ => true
  | .castable _ _ => true
  | _ => false
theorem nsW_kinds : ∀ w ∈ nsW, (goodWord w || nsD w) = true := by decide +kernel
theorem nsW_ot : ∀ w ∈ nsW, vx_ot w = true := by decide +kernel
theorem ns_decl {x : MethodName} {a a' : Array Value} {s U : State} (hv : s.vm.Alike U.vm) (h : (Cond.declares x).before a s = true) : (Cond.declares x).before a' U = true := by
  obtain ⟨m, meth, h1, h2, h3, h4⟩ := Cond.declares_spec h
  have h1' : U.methodNamed? x = some m := by
    have := State.methodNamed?_setVm (s := s) hv x
    have e : (s.setVm U.vm).methodNamed? x = U.methodNamed? x := rfl
    rw [← e, this]; exact h1
  have h2' : U.vm.method? m = some meth := by rw [hv.method?]; exact h2
  simp [Cond.before, Cond.holds, Cond.value, h1', h2', h3, h4]
theorem ns_cast {x y : String} {a a' : Array Value} {s U : State} (hv : s.vm.Alike U.vm) (h : (Cond.castable x y).before a s = true) : (Cond.castable x y).before a' U = true := by
  obtain ⟨c, t, h1, h2, h3⟩ := Cond.castable_spec h
  have h1' : U.vm.findClass x = some c := by rw [hv.findClass]; exact h1
  have h2' : U.vm.findClass y = some t := by rw [hv.findClass]; exact h2
  have h3' : U.vm.assignable c t = true := by rw [hv.assignable]; exact h3
  simp [Cond.before, Cond.holds, Cond.value, h1', h2', h3']
theorem ns_word {w : Cond} {a a' : Array Value} {s U : State} (hW : s.WarmedH U.vm) (hk : (goodWord w || nsD w) = true) (h : w.before a s = true) : w.before a' U = true := by
  simp only [Bool.or_eq_true] at hk
  rcases hk with hk | hk
  · exact word_at hW (good_of_word hk) h
  · cases w <;> first | exact ns_decl hW.alike h | exact ns_cast hW.alike h | cases hk
def zXP (ad : Nat → Nat) (U : State) : Prop := (∀ w ∈ nsW, w.before #[] U = true) ∧ vx_Zq Bundle.tN "UNASSIGNED_STACK" Bundle.steD (zAs ad) U U.heap ∧ vx_Zq Bundle.tN "SUPPRESSED_SENTINEL" Bundle.listD (zAs ad) U U.heap
theorem zXP.moved {ad : Nat → Nat} {s U : State} (hW : s.WarmedH U.vm) {locs : List Loc} (hS : va_S (zAs ad) s.heap U.heap locs) (h : zXP ad s) : zXP ad U :=
  ⟨fun w hw => ns_word hW (nsW_kinds w hw) (h.1 w hw), vx_Zq.moved hW.alike (h.2.1.kept hS.2.1), vx_Zq.moved hW.alike (h.2.2.kept hS.2.1)⟩
theorem zXP.calling {ad : Nat → Nat} {U : State} {g : JFrame} {mk : MethodId} {a : Array Value} (h : zXP ad U) : zXP ad (U.calling g mk a) :=
  ⟨fun w hw => vx_ot_at (s := U) (U := U.calling g mk a) (State.WarmedH.refl U) rfl (nsW_ot w hw) (h.1 w hw), vx_Zq.moved (u := U) (U := U.calling g mk a) (Vm.Alike.refl U.vm) h.2.1, vx_Zq.moved (u := U) (U := U.calling g mk a) (Vm.Alike.refl U.vm) h.2.2⟩
/-- a method that throws NoSuchElementException, the world as it was -/
def zrt (d : Nat) : Room := { frames := d, cells := 1, slots := 6, locals := 27 * d }
def zXC (D : va_G) (ad : Nat → Nat) (cs : Nat → ClassId) (σ : zS) : String → State → State → Prop := vx_X (fun _ : Unit => True) (fun E _ t => E = nsE ∧ zWd D ad cs σ t.heap) (zAs ad)
def zCt (M : MethodName × ByteArray × Nat × Option FieldType) (d : Nat) (as : List Value) (σ : zS) : Prop :=
  ∀ (l : Launch) (D : va_G) (ad : Nat → Nat) (cs : Nat → ClassId), l.stackTraces = false → zInj ad → vx_Met l M.1 (zuw M.1 M.2.1 M.2.2.1 M.2.2.2) (zrt d) (va_Pc (as.map (zcv ad)) (fun U => zBg D ad cs σ U ∧ zXP ad U)) (fun _ _ _ _ => False) (zXC D ad cs σ) 1 6 (zAs ad)
def yX (x : zX) : Heap → Prop := match x with
  | (_, _, _, _, s, _, _, _, _, _, _, ad, _) => fun H => ∃ locs, va_S (zAs ad) s.heap H locs
def yQt (x : zX) (σ : zS) : State → Prop := match x with
  | (_, _, _, _, s, _, args, below, _, _, D, ad, cs) => vx_MQ below (fun _ _ _ _ => False) (zXC D ad cs σ) args s 1 6 (zAs ad)
def yA (x : zX) : Nat → Prop := match x with
  | (_, _, _, _, _, _, _, _, _, _, _, ad, _) => zAs ad
/-- what a throwing body stands on -/
def yT (x : zX) : Prop := match x with
  | (_, l, _, R, s, m, args, _, meth, c, _, ad, _) => l.stackTraces = false ∧ zXP ad s ∧ zEX ad s ∧ meth.locks = false ∧ (∀ z ∈ c.exceptionTable.toList, False) ∧ (6 ≤ R.frames ∧ 162 ≤ R.locals ∧ 1 ≤ R.cells ∧ 6 ≤ R.slots)
theorem yE_of {x : zX} (h : yT x) : yE x (yA x) (yX x) := by
  obtain ⟨p, l, e, R, s, m, args, below, meth, cd, D, ad, cs⟩ := x
  obtain ⟨-, -, hE, -⟩ := h
  refine ⟨fun H U ⟨locs, hS⟩ hU hW => zEX.moved (locs := locs) hW (by rw [hU]; exact hS) hE, fun H H' ⟨locs, hS⟩ hz hk => ⟨locs, Nat.le_trans hS.1 hz, fun q h1 h2 => by rw [hk q (Nat.lt_of_lt_of_le h1 hS.1) h2]; exact hS.2.1 q h1 h2, hS.2.2⟩, fun q z => z⟩
theorem zCt_of {M : MethodName × ByteArray × Nat × Option FieldType} {d n : Nat} {as : List Value} {σ : zS} {ls : List (Option Value)} (h6 : 6 ≤ d) (hy : plainName M.1.cls = true) (hlen : ∀ ad : Nat → Nat, (lg_sl (as.map (zcv ad))).length ≤ M.2.2.1) (hls : zls as ++ List.replicate n none = ls)
    (body : ∀ x : zX, yH x M.1.cls M.2.1 M.2.2.1 d → yT x → yW x (yA x) (yX x) 0 0 (yQt x σ) 0 ls [] σ) : zCt M d as σ := by
  obtain ⟨y, bc, nL, ret⟩ := M
  intro l D ad cs hl hinj
  refine vx_ofW (cc := bc) (maxL := nL) (ret := ret) hy rfl ?_
  intro p e s m args below meth c s₁ B hml htab hv
  obtain ⟨rfl, ⟨hWd, hK, hE⟩, hXP⟩ := hv
  have hts : ∀ w ∈ zUW, w.before (as.map (zcv ad)).toArray s = true := fun w hw => atoms_spec (ws := zuw y bc nL ret) B.pre w (List.mem_cons_of_mem _ hw)
  have hown : s.vm.findClass y.cls = some m.cls := findClass_of_methodNamed B.named
  have hb := body (p, l, e, zrt d, s, m, (as.map (zcv ad)).toArray, below, meth, c, D, ad, cs) ⟨B.exec, B.bytes, hml, hown, hts, ⟨Nat.le_refl _, Nat.le_refl _⟩, hK, hinj⟩ ⟨hl, hXP, hE, B.notSynchronized, htab, h6, (by show 162 ≤ 27 * d; omega), Nat.le_refl _, Nat.le_refl _⟩
  have hl := lv_entry (as.map (zcv ad)) (n := nL) (hlen ad)
  rw [lg_entry_eq]
  exact hb s.heap [] _ hWd va_S.rf ⟨[], va_S.rf⟩ ⟨by rw [hml]; exact hl.1, hl.2.1, fun i v h => hl.2.2 (i, _) (by have := zls_mem ad as 0 i v (zls_in hls h); rwa [Nat.zero_add] at this)⟩
section YT
variable {x : zX} {cc : ByteArray} {nL d pc : Nat} {ls : List (Option Value)} {σ : zS}
theorem y_throwS (h : yH x RX7 cc nL d) (hT : yT x) {i : Nat} (hi : i < 6) (d0 : decode cc pc = .ok (.new 213, 3)) (d3 : decode cc (pc + 3) = .ok (.dup, 1)) (d4 : decode cc (pc + 4) = .ok (.ldc (zxi i), 2)) (d6 : decode cc (pc + 6) = .ok (.invokespecial 217, 3)) (d9 : decode cc (pc + 9) = .ok (.athrow, 1)) : yW x (yA x) (yX x) 0 0 (yQt x σ) pc ls [] σ := by
  obtain ⟨p, l, e, R, s, m, args, below, meth, cd, D, ad, cs⟩ := x
  intro H locs la hW hS hX hl
  obtain ⟨hx, hb, hml, hown, hts, hfl, hK, hinj⟩ := h
  obtain ⟨hst, hXP, hE, hlk, htab, r1, r2, r3, r4⟩ := hT
  obtain ⟨sa, hsa⟩ := hE.2.2.2.2.2.2 i hi
  have hw : ∀ w ∈ nsW, w.before args s = true := fun w hw => vx_ot_at (State.WarmedH.refl s) rfl (nsW_ot w hw) (hXP.1 w hw)
  refine ns_throwS (rest := []) (sa := sa) (text := zxt i) (A := zAs ad) hx hb hst hown (hw _ List.mem_cons_self) (hw _ (List.mem_cons_of_mem _ List.mem_cons_self)) hsa (fun w h1 => hw w (List.mem_cons_of_mem _ (List.mem_cons_of_mem _ h1))) nsW_ot hXP.2.1 hXP.2.2 hS hl.1 d0 d3 d4 d6 d9 (fun z hz => (htab z hz).elim) (by omega) (by simp; omega) (by omega) (by omega) hlk (fun t ha hz hk => ?_) hS.2.2 (Nat.le_refl _) (Nat.le_refl _)
  refine ⟨(), trivial, ⟨rfl, ?_⟩, Nat.le_trans hS.1 hz, fun q h1 h2 => by rw [hk q (Nat.lt_of_lt_of_le h1 hS.1)]; exact hS.2.1 q h1 h2⟩
  exact ⟨hW.1.kept fun k q hq => hk q.1 (hW.1 k q hq).lt, hW.2⟩
theorem y_throwSW (h : yH x RX7 cc nL d) (hT : yT x) {i : Nat} (hi : i < 6) (d0 : decode cc pc = .ok (.new 213, 3)) (d3 : decode cc (pc + 3) = .ok (.dup, 1)) (d4 : decode cc (pc + 4) = .ok (.ldc_w (zxi i), 3)) (d6 : decode cc (pc + 7) = .ok (.invokespecial 217, 3)) (d9 : decode cc (pc + 10) = .ok (.athrow, 1)) : yW x (yA x) (yX x) 0 0 (yQt x σ) pc ls [] σ := by
  obtain ⟨p, l, e, R, s, m, args, below, meth, cd, D, ad, cs⟩ := x
  intro H locs la hW hS hX hl
  obtain ⟨hx, hb, hml, hown, hts, hfl, hK, hinj⟩ := h
  obtain ⟨hst, hXP, hE, hlk, htab, r1, r2, r3, r4⟩ := hT
  obtain ⟨sa, hsa⟩ := hE.2.2.2.2.2.2 i hi
  have hw : ∀ w ∈ nsW, w.before args s = true := fun w hw => vx_ot_at (State.WarmedH.refl s) rfl (nsW_ot w hw) (hXP.1 w hw)
  refine ns_throwSW (rest := []) (sa := sa) (text := zxt i) (A := zAs ad) hx hb hst hown (hw _ List.mem_cons_self) (hw _ (List.mem_cons_of_mem _ List.mem_cons_self)) hsa (fun w h1 => hw w (List.mem_cons_of_mem _ (List.mem_cons_of_mem _ h1))) nsW_ot hXP.2.1 hXP.2.2 hS hl.1 d0 d3 d4 d6 d9 (fun z hz => (htab z hz).elim) (by omega) (by simp; omega) (by omega) (by omega) hlk (fun t ha hz hk => ?_) hS.2.2 (Nat.le_refl _) (Nat.le_refl _)
  refine ⟨(), trivial, ⟨rfl, ?_⟩, Nat.le_trans hS.1 hz, fun q h1 h2 => by rw [hk q (Nat.lt_of_lt_of_le h1 hS.1)]; exact hS.2.1 q h1 h2⟩
  exact ⟨hW.1.kept fun k q hq => hk q.1 (hW.1 k q hq).lt, hW.2⟩
end YT
