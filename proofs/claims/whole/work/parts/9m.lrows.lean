/-! The law's own rows. -/
def lA (x : zX) : Nat → Prop := match x with
  | (_, _, _, _, s, _, _, _, _, _, _, _, _) => fun q => s.heap.size ≤ q
def lS (x : zX) (L : Nat) (xs : Nat → Int32) : Prop := match x with
  | (_, _, _, _, s, _, _, _, _, _, _, ad, _) => va_X (ad 400000) L xs s s.heap ∧ ad 400000 < s.heap.size
def lEx (x : zX) (cL : ClassId) (v : Int64) : Heap → Prop := match x with
  | (_, _, _, _, s, _, _, _, _, _, D, ad, _) => fun H => yO D ad cL v H ∧ ∀ q, q < s.heap.size → H[q]? = s.heap[q]?
def lT (x : zX) (cL : ClassId) : Prop := match x with
  | (_, l, _, _, s, _, _, _, _, _, D, ad, _) => l.stackTraces = false ∧ ¬ zAs ad (ad 400001) ∧ va_K D vwCl [(cL, .long)] s ∧ zEXg (fun q => s.heap.size ≤ q) ad s ∧ zXPg (fun q => s.heap.size ≤ q) s ∧ (∀ q, zAs ad q → s.heap.size ≤ q) ∧ s.heap.size ≤ ad 400001
theorem yO.kept {D : va_G} {ad : Nat → Nat} {cL : ClassId} {v : Int64} {H H1 : Heap} (h : yO D ad cL v H) (he : H1[ad 400001]? = H[ad 400001]?) : yO D ad cL v H1 :=
  va_P.kept h (fun k z hz => by
    cases k with
    | zero => cases hz; exact he
    | succ k => cases hz)
theorem yO.lt {D : va_G} {ad : Nat → Nat} {cL : ClassId} {v : Int64} {H : Heap} (h : yO D ad cL v H) : ad 400001 < H.size := (h 0 _ rfl).lt
theorem lE_of {x : zX} {cL : ClassId} {v : Int64} (h : lT x cL) : yE x (lA x) (lEx x cL v) := by
  obtain ⟨p, l, e, R, s, m, args, below, meth, cd, D, ad, cs⟩ := x
  obtain ⟨h1, h2, h3, h4, h5, h6, h7⟩ := h
  refine ⟨fun H U hX hU hW => ?_, fun H H' hX hz hq => ⟨hX.1.kept (hq _ hX.1.lt h2), fun q hl => ?_⟩, h6⟩
  · have := h4.moved hW (fun q hq _ => by rw [hU]; exact hX.2 q hq)
    exact (this.narrow (B := zAs ad) h6).ex
  · have hlt := hX.1.lt
    rw [hq q (by omega) (fun z => by have := h6 q z; omega)]
    exact hX.2 q hl
section LROWS
variable {x : zX} {Ex : Heap → Prop} {nc ns : Nat} {Q : State → Prop} {own : String} {cc : ByteArray} {nL d pc : Nat} {ls : List (Option Value)} {st : List Value} {σ : zS} {cL : ClassId} {v0 : Int64}
theorem zI_v (v : Int32) : zI v.toInt = .int v := by unfold zI; rw [Int32.ofInt_toInt]
theorem l_slen (h : yH x own cc nL d) {L : Nat} {xs : Nat → Int32} (hX : lS x L xs) (hd : decode cc pc = .ok (.arraylength, 1)) (k : yW x (lA x) Ex nc ns Q (pc + 1) ls (zI (L : Int) :: st) σ) : yW x (lA x) Ex nc ns Q pc ls (.ref 400000 :: st) σ := by
  obtain ⟨p, l, e, R, s, m, args, below, meth, cd, D, ad, cs⟩ := x
  intro H locs la hW hS hE hl
  obtain ⟨hx, hb, hml, hown, hts, hfl, hK, hinj⟩ := h
  have k2 := k H locs la hW hS hE hl
  have e : Int32.ofInt (L : Int) = Int32.ofNat L := by simp [Int32.ofInt_eq_ofNat]
  refine va_slen hx hb hX.1 hX.2 (A := fun q => s.heap.size ≤ q) (fun z => by have := hX.2; omega) hS hd ?_
  rw [← e]
  exact k2
theorem l_sld (h : yH x own cc nL d) {L : Nat} {xs : Nat → Int32} {i : Int} (hX : lS x L xs) (h0 : 0 ≤ i) (h1 : i < L) (hL : L ≤ 2048) (hd : decode cc pc = .ok (.iaload, 1)) (k : yW x (lA x) Ex nc ns Q (pc + 1) ls (zI (xs i.toNat).toInt :: st) σ) : yW x (lA x) Ex nc ns Q pc ls (zI i :: .ref 400000 :: st) σ := by
  obtain ⟨p, l, e, R, s, m, args, below, meth, cd, D, ad, cs⟩ := x
  intro H locs la hW hS hE hl
  obtain ⟨hx, hb, hml, hown, hts, hfl, hK, hinj⟩ := h
  have k2 := k H locs la hW hS hE hl
  rw [zI_v] at k2
  refine va_sld hx hb hX.1 hX.2 (A := fun q => s.heap.size ≤ q) (fun z => by have := hX.2; omega) hS (z_in h0 h1 hL) hd ?_
  rw [z_clamp h0 ⟨by omega, by omega⟩]
  exact k2
theorem l_eqv (h : yH x own cc nL d) {A : Nat → Prop} {v : Int} {off : Int} {tgt : Nat} (hd : decode cc pc = .ok (.if_icmp .eq off, 3)) (ht : (pc : Int) + off = (tgt : Int)) (k : yW x A Ex nc ns Q tgt ls st σ) : yW x A Ex nc ns Q pc ls (zI v :: zI v :: st) σ := by
  obtain ⟨p, l, e, R, s, m, args, below, meth, cd, D, ad, cs⟩ := x
  intro H locs la hW hS hE hl
  obtain ⟨hx, hb, hml, hown, hts, hfl, hK, hinj⟩ := h
  exact lv_icmp_eq hx hb hd ht (fun _ => k H locs la hW hS hE hl) (fun q => absurd rfl q)
theorem l_laload (h : yH x own cc nL d) (hT : lT x cL) (hd : decode cc pc = .ok (.laload, 1)) (k : yW x (lA x) (lEx x cL v0) nc ns Q (pc + 1) ls (.long v0 :: st) σ) : yW x (lA x) (lEx x cL v0) nc ns Q pc ls (zI 0 :: .ref 400001 :: st) σ := by
  obtain ⟨p, l, e, R, s, m, args, below, meth, cd, D, ad, cs⟩ := x
  intro H locs la hW hS hE hl
  obtain ⟨hx, hb, hml, hown, hts, hfl, hK, hinj⟩ := h
  exact va_lald hx hb hT.2.2.1 hE.1 0 0 rfl rfl (z_in (n := 0) (N := 1) (by decide) (by decide) (by decide)) hd (k H locs la hW hS hE hl)
theorem l_forget {A : Nat → Prop} {ls' : List (Option Value)} (hls : ∀ (i : Nat) (v : Value), ls'[i]? = some (some v) → ls[i]? = some (some v)) (k : yW x A Ex nc ns Q pc ls' st σ) : yW x A Ex nc ns Q pc ls st σ := by
  obtain ⟨p, l, e, R, s, m, args, below, meth, cd, D, ad, cs⟩ := x
  intro H locs la hW hS hE hl
  exact k H locs la hW hS hE ⟨hl.1, hl.2.1, fun i v hi => hl.2.2 i v (hls i v hi)⟩
theorem l_widen {A : Nat → Prop} {nc' ns' : Nat} (h1 : nc ≤ nc') (h2 : ns ≤ ns') (k : yW x A Ex nc' ns' Q pc ls st σ) : yW x A Ex nc ns Q pc ls st σ := by
  obtain ⟨p, l, e, R, s, m, args, below, meth, cd, D, ad, cs⟩ := x
  intro H locs la hW hS hE hl
  exact W.widen (k := nc') (n := ns') h1 h2 (k H locs la hW hS hE hl)
theorem zEXg.calling {A : Nat → Prop} {ad : Nat → Nat} {U : State} {g : JFrame} {mk : MethodId} {a : Array Value} (h : zEXg A ad U) : zEXg A ad (U.calling g mk a) := zEXg.moved (s := U) (U := U.calling g mk a) (State.WarmedH.refl U) (fun _ _ _ => rfl) h
theorem zXPg.calling {A : Nat → Prop} {U : State} {g : JFrame} {mk : MethodId} {a : Array Value} (h : zXPg A U) : zXPg A (U.calling g mk a) :=
  ⟨fun w hw => vx_ot_at (s := U) (U := U.calling g mk a) (State.WarmedH.refl U) rfl (nsW_ot w hw) (h.1 w hw), vx_Zq.moved (u := U) (U := U.calling g mk a) (Vm.Alike.refl U.vm) h.2.1, vx_Zq.moved (u := U) (U := U.calling g mk a) (Vm.Alike.refl U.vm) h.2.2⟩
theorem l_help (h : yH x own cc nL d) (hT : lT x cL) (hf : yF x (nc + 1) (ns + 6)) {y : MethodName} {cy : ByteArray} {a b : Int} {ix : Nat} {K : Int → Int64 → Prop} (hC : zCo y cy a b σ K) (h8 : 8 ≤ d) (hyn : y.cls ≠ "java/lang/invoke/MethodHandle" ∧ y.cls ≠ "java/lang/invoke/VarHandle" ∧ (parseMethodDescriptor y.desc).map (fun d => d.parameters.length) = some 4) (hml0 : Cond.methodLink own ix y ∈ zUW) (hst0 : Cond.static y ∈ zUW) (hini : Cond.initialized y.cls ∈ zUW) (hcw : Cond.codeWith y cy 5 (some .int) [(0, 10, 13, 13)] ∈ zUW) (hd : decode cc pc = .ok (.invokestatic ix, 3))
    (k : ∀ r v, K r v → yW x (lA x) (lEx x cL v) (nc + 1) (ns + 6) Q (pc + 3) ls [zI r] σ) : yW x (lA x) (lEx x cL v0) nc ns Q pc ls [.ref 400001, zI b, zI a, zR 0] σ := by
  obtain ⟨p, l, e, R, s, m, args, below, meth, cd, D, ad, cs⟩ := x
  intro H locs la hW hS hE hl
  obtain ⟨hx, hb, hml, hown, hts, hfl, hK, hinj⟩ := h
  obtain ⟨h1, h2, h3, h4, h5, h6, h7⟩ := hT
  have hfl' : d ≤ R.frames ∧ 27 * d ≤ R.locals := hfl
  have hf' : nc + 1 ≤ R.cells ∧ ns + 6 ≤ R.slots := hf
  have hM := hC l D ad cs cL v0 h1 hinj h2
  have hAo : ∀ q, zAo ad q → s.heap.size ≤ q := fun q z => by
    rcases z with z | z
    · exact h6 q z
    · rw [z]; exact h7
  have hpre : PreS s H (va_Pc ([zR 0, zI a, zI b, .ref 400001].map (zcv ad)) (zBo D ad cs cL σ v0)) ([zR 0, zI a, zI b, .ref 400001].map (zcv ad)) := by
    refine ⟨fun a U g mk q => ⟨q.1, q.2.1, va_K.moved (u := U) (U := U.calling g mk a) (Vm.Alike.refl U.vm) q.2.2.1, va_K.moved (u := U) (U := U.calling g mk a) (Vm.Alike.refl U.vm) q.2.2.2.1, q.2.2.2.2.1, zEXg.calling q.2.2.2.2.2.1, zXPg.calling q.2.2.2.2.2.2⟩, fun U hU hw => ⟨rfl, by rw [hU]; exact hW, va_K.moved hw.alike hK, va_K.moved hw.alike h3, by rw [hU]; exact hE.1, ?_, ?_⟩⟩
    · exact (h4.moved hw (fun q hq _ => by rw [hU]; exact hE.2 q hq)).narrow hAo
    · exact (h5.moved hw (fun q hq _ => by rw [hU]; exact hE.2 q hq)).narrow hAo
  have hG : GoodIn zUW (va_wsS own ix y (zlw y cy)) := by
    intro w hw
    have hm : w ∈ zUW := by
      unfold va_wsS zlw at hw
      rcases List.mem_append.mp hw with q | q
      · simp only [List.mem_cons, List.not_mem_nil, or_false] at q
        rcases q with q | q | q <;> subst q <;> assumption
      · rcases List.mem_cons.mp q with q | q
        · subst q; assumption
        · exact q
    exact ⟨hm, good_of_word (zUW_good w hm)⟩
  have hr := vx_runSW (p := p) (l := l) (e := e) (R := R) (s := s) (m := m) (args := args) (below := below) (meth := meth) (c := cd) (H := H) (locs := locs) (cells := nc) (slots := ns) (As := [zR 0, zI a, zI b, .ref 400001].map (zcv ad)) (rest := []) (nL := nL) (bytes := cy) (maxL := 5) (ret := some .int) (index := ix) (n := 4) (g := F0 m pc la ([.ref 400001, zI b, zI a, zR 0].map (zcv ad))) ⟨hx, hb, hml, hown, hts⟩ hM (vx_cwSW 4 hts hG rfl rfl rfl hyn ⟨by show 7 + 1 ≤ R.frames; omega, by show 8 + (5 + 11) + 27 * 7 ≤ R.locals; omega⟩) hpre rfl rfl (by rw [← hml]; exact hl.1) rfl (lv_room (by decide)) hd hf'
  intro T hT X
  obtain ⟨v, st₀, t, T', L, h0, X', hL, e1, e2, ⟨r, w, hv, hk, hWd, hO, hF⟩, stp⟩ := hr T hT X
  have hv2 : v = some (zI r) := by cases hv; rfl
  subst hv2
  obtain ⟨hz, hkp⟩ := hF
  rw [h0] at hz hkp
  have hlt := hE.1.lt
  have hS' : va_S (fun q => s.heap.size ≤ q) s.heap T'.heap (locs ++ L) := ⟨Nat.le_trans hS.1 (by rw [e1]; exact hz), fun q g1 g2 => by rw [e1, hkp q (Nat.lt_of_lt_of_le g1 hS.1) (fun z => g2 (hAo q z))]; exact hS.2.1 q g1 g2, fun q hq => by
    rcases List.mem_append.mp hq with z | z
    · exact hS.2.2 q z
    · exact hAo _ (hL q z)⟩
  have hX' : lEx (p, l, e, R, s, m, args, below, meth, cd, D, ad, cs) cL w T'.heap := ⟨by rw [e1]; exact hO, fun q hq => by rw [e1, hkp q (by omega) (fun z => by have := hAo q z; omega)]; exact hE.2 q hq⟩
  have k2 := k r w hk T'.heap (locs ++ L) la (by rw [e1]; exact hWd) hS' hX' hl
  obtain ⟨t2, a1, b1⟩ := k2 T' rfl X'
  exact ⟨t2, stp t2 a1, b1⟩
end LROWS
