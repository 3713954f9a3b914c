/-! Calls, copies, what lies outside an array's length, stores by place. -/
theorem zGI {z : MethodName} {b' : ByteArray} {n' : Nat} {r' : Option FieldType} (h : Cond.code z b' n' r' ∈ zUW) : GoodIn zUW (zuw z b' n' r') := by
  intro w hw
  have hm : w ∈ zUW := by
    rcases List.mem_cons.mp hw with e | e
    · rw [e]; exact h
    · exact e
  exact ⟨hm, good_of_word (zUW_good w hm)⟩
def zMC (M : MethodName × ByteArray × Nat × Option FieldType) (np : Nat) : Prop := Cond.initialized M.1.cls ∈ zUW ∧ Cond.code M.1 M.2.1 M.2.2.1 M.2.2.2 ∈ zUW ∧ (M.1.cls ≠ "java/lang/invoke/MethodHandle" ∧ M.1.cls ≠ "java/lang/invoke/VarHandle" ∧ (parseMethodDescriptor M.1.desc).map (fun d => d.parameters.length) = some np) ∧ M.2.2.1 ≤ 8
def zMV (M : MethodName × ByteArray × Nat × Option FieldType) (C : String) (np : Nat) : Prop := zMC M np ∧ M.1.cls = C ∧ Cond.instanceMethod M.1 ∈ zUW ∧ Cond.selects C M.1 M.1 ∈ zUW
def zMS (M : MethodName × ByteArray × Nat × Option FieldType) (np : Nat) : Prop := zMC M np ∧ Cond.static M.1 ∈ zUW
section ZCALLS
variable {x : zX} {K : Option Value → zS → Prop} {own : String} {cc : ByteArray} {nL d pc : Nat} {ret : Option FieldType} {ls : List (Option Value)} {st : List Value} {σ : zS}
theorem zcat_sum (ad : Nat → Nat) (st : List Value) : ((st.map (zcv ad)).map fun v => v.category).sum = (st.map fun v => v.category).sum := by
  rw [List.map_map]
  congr 1
  apply List.map_congr_left
  intro v _
  exact zcv_cat ad v
theorem zPre {D : va_G} {ad : Nat → Nat} {cs : Nat → ClassId} {s : State} {H : Heap} {locs : List Loc} {as : List Value} (hW : zWd D ad cs σ H) (hS : va_S (zAs ad) s.heap H locs) (hK : va_K D vwCl (zty cs) s) (hE : zEX ad s) : PreS s H (va_Pc (as.map (zcv ad)) (zBg D ad cs σ)) (as.map (zcv ad)) := by
  refine ⟨fun a U g mk q => ⟨q.1, q.2.1, va_K.moved (u := U) (U := U.calling g mk a) (Vm.Alike.refl U.vm) q.2.2.1, zEX.same rfl rfl q.2.2.2⟩, fun U hU hw => ⟨rfl, by rw [hU]; exact hW, va_K.moved hw.alike hK, zEX.moved (locs := locs) hw (by rw [hU]; exact hS) hE⟩⟩
theorem zBack {p : Program} {l : Launch} {e : Env} {R : Room} {s : State} {m : MethodId} {args : Array Value} {below : List Frame} {meth : Method} {c : Code} {D : va_G} {ad : Nat → Nat} {cs : Nat → ClassId} {H : Heap} {locs : List Loc} {la : Array Slot} {stk : List Value} {Kc : Option Value → zS → Prop} {av : Array Value}
    (hr : va_Run p l e R s m args below meth c H locs 0 0 0 0 (F0 m pc la stk) (st.map (zcv ad)) (zQ D ad cs Kc av) (zAs ad)) (hS : va_S (zAs ad) s.heap H locs) (hl : zLV la c.maxLocals ad ls)
    (k : ∀ r τ, Kc r τ → zW (p, l, e, R, s, m, args, below, meth, c, D, ad, cs) K (pc + 3) ls (r.toList ++ st) τ) : W p l e R s m args below meth c H locs 0 0 (MQ below (zQ D ad cs K) args s 0 0 (zAs ad)) (F0 m pc la stk) := by
  intro T hT X
  obtain ⟨v, st₀, t, T', L, h0, X', hL, e1, e2, ⟨r, τ, hv, hk, hWd, hF⟩, stp⟩ := hr T hT X
  have hv2 : v = r.map (zcv ad) := by cases hv; rfl
  subst hv2
  obtain ⟨hz, hkp⟩ := hF
  rw [h0] at hz hkp
  have hS' : va_S (zAs ad) s.heap T'.heap (locs ++ L) := ⟨Nat.le_trans hS.1 (by rw [e1]; exact hz), fun q h1 h2 => by rw [e1, hkp q (Nat.lt_of_lt_of_le h1 hS.1) h2]; exact hS.2.1 q h1 h2, fun q hq => by
    rcases List.mem_append.mp hq with h | h
    · exact hS.2.2 q h
    · exact hL q h⟩
  have k2 := k r τ hk T'.heap (locs ++ L) la (by rw [e1]; exact hWd) hS' hl
  have heq : (r.toList ++ st).map (zcv ad) = (r.map (zcv ad)).toList ++ st.map (zcv ad) := by cases r <;> simp
  rw [heq] at k2
  obtain ⟨t2, a1, b1⟩ := k2 T' rfl X'
  exact ⟨t2, stp t2 a1, b1⟩
theorem z_callV (h : zH x own cc nL ret d) {M : MethodName × ByteArray × Nat × Option FieldType} {d' o c i np : Nat} {C : String} {T : u_T} {N : Nat} {as stk : List Value} {Kc : Option Value → zS → Prop} (hC : zC M d' (zR o :: as) σ Kc) (hdl : d' < d) (ho : zoc o = c) (hc : vwCl[c]? = some (C, T, N)) (hm : zMV M C np) (hw : Cond.methodLink own i M.1 ∈ zUW) (hn : as.length = np) (hd : decode cc pc = .ok (.invokevirtual i, 3)) (hst : as.reverse ++ zR o :: st = stk) (hrm : (st.map fun v => v.category).sum ≤ 8)
    (k : ∀ r τ, Kc r τ → zW x K (pc + 3) ls (r.toList ++ st) τ) : zW x K pc ls stk σ := by
  obtain ⟨p, l, e, R, s, m, args, below, meth, cd, D, ad, cs⟩ := x
  intro H locs la hW hS hl
  obtain ⟨hx, hb, hml, hr, hown, hts, hlk, rfl, hK, hinj, hE⟩ := h
  obtain ⟨⟨w4, w5, hnm, h8⟩, hcl, w2, w3⟩ := hm
  have hM := hC l D ad cs hinj
  have h9 := zoc9 ho hc
  obtain ⟨q0, hq, hq2⟩ := zwl_at ad cs σ (zkey_o h9)
  rw [zce_o, ho] at hq2
  have hpre := zPre (as := zR o :: as) hW hS hK hE
  subst hst
  refine zBack (st := st) (ls := ls) (va_runV (C := C) (b := ad (64 * o)) (As := as.map (zcv ad)) (nL := nL) (bytes := M.2.1) (maxL := M.2.2.1) (ret := M.2.2.2) (index := i) (n := np) ⟨hx, hb, hml, hown, hts⟩ hM ⟨callB_of np hts (zGI w5) rfl rfl rfl (hts _ w4) (hts _ hw) hnm ⟨?_, ?_⟩, hts _ w2, hts _ w3⟩ ⟨hpre.1, va_recv hK hW.1 hc hq2, hpre.2⟩ rfl (by rw [List.length_map]; exact hn) (by rw [← hml]; exact hl.1) ?_ ?_ hd ⟨Nat.le_refl _, Nat.le_refl _⟩) hS hl k
  · exact hdl
  · show 8 + (M.2.2.1 + 11) + 27 * d' ≤ 27 * d
    omega
  · show (as.reverse ++ zR o :: st).map (zcv ad) = _
    rw [List.map_append, List.map_reverse]
    rfl
  · exact lv_room (by rw [zcat_sum]; exact hrm)
theorem z_callS (h : zH x own cc nL ret d) {M : MethodName × ByteArray × Nat × Option FieldType} {d' i np : Nat} {as stk : List Value} {Kc : Option Value → zS → Prop} (hC : zC M d' as σ Kc) (hdl : d' < d) (hm : zMS M np) (hw : Cond.methodLink own i M.1 ∈ zUW) (hn : as.length = np) (hd : decode cc pc = .ok (.invokestatic i, 3)) (hst : as.reverse ++ st = stk) (hrm : (st.map fun v => v.category).sum ≤ 8)
    (k : ∀ r τ, Kc r τ → zW x K (pc + 3) ls (r.toList ++ st) τ) : zW x K pc ls stk σ := by
  obtain ⟨p, l, e, R, s, m, args, below, meth, cd, D, ad, cs⟩ := x
  intro H locs la hW hS hl
  obtain ⟨hx, hb, hml, hr, hown, hts, hlk, rfl, hK, hinj, hE⟩ := h
  obtain ⟨⟨w4, w5, hnm, h8⟩, w2⟩ := hm
  have hM := hC l D ad cs hinj
  have hpre := zPre (as := as) hW hS hK hE
  subst hst
  refine zBack (st := st) (ls := ls) (va_runS (As := as.map (zcv ad)) (nL := nL) (bytes := M.2.1) (maxL := M.2.2.1) (ret := M.2.2.2) (index := i) (n := np) ⟨hx, hb, hml, hown, hts⟩ hM ⟨callB_of np hts (zGI w5) rfl rfl rfl (hts _ w4) (hts _ hw) hnm ⟨?_, ?_⟩, hts _ w2⟩ hpre rfl (by rw [List.length_map]; exact hn) (by rw [← hml]; exact hl.1) ?_ ?_ hd ⟨Nat.le_refl _, Nat.le_refl _⟩) hS hl k
  · exact hdl
  · show 8 + (M.2.2.1 + 11) + 27 * d' ≤ 27 * d
    omega
  · show (as.reverse ++ st).map (zcv ad) = _
    rw [List.map_append, List.map_reverse]
  · exact lv_room (by rw [zcat_sum]; exact hrm)
/-! pure contracts: an answer, the state as it was; or a new state -/
abbrev zCp (M : MethodName × ByteArray × Nat × Option FieldType) (d : Nat) (as : List Value) (σ : zS) (v : Value) : Prop := zC M d as σ (fun r τ => r = some v ∧ τ = σ)
abbrev zCv (M : MethodName × ByteArray × Nat × Option FieldType) (d : Nat) (as : List Value) (σ τ : zS) : Prop := zC M d as σ (fun r τ' => r = none ∧ τ' = τ)
abbrev zCr (M : MethodName × ByteArray × Nat × Option FieldType) (d : Nat) (as : List Value) (σ : zS) (v : Value) (τ : zS) : Prop := zC M d as σ (fun r τ' => r = some v ∧ τ' = τ)
theorem z_pV (h : zH x own cc nL ret d) {M : MethodName × ByteArray × Nat × Option FieldType} {d' o c i np : Nat} {C : String} {T : u_T} {N : Nat} {as stk : List Value} {v : Value} (hC : zCp M d' (zR o :: as) σ v) (hdl : d' < d) (ho : zoc o = c) (hc : vwCl[c]? = some (C, T, N)) (hm : zMV M C np) (hw : Cond.methodLink own i M.1 ∈ zUW) (hn : as.length = np) (hd : decode cc pc = .ok (.invokevirtual i, 3)) (hst : as.reverse ++ zR o :: st = stk) (hrm : (st.map fun v => v.category).sum ≤ 8)
    (k : zW x K (pc + 3) ls (v :: st) σ) : zW x K pc ls stk σ := z_callV h hC hdl ho hc hm hw hn hd hst hrm (fun r τ q => by obtain ⟨rfl, rfl⟩ := q; exact k)
theorem z_vV (h : zH x own cc nL ret d) {M : MethodName × ByteArray × Nat × Option FieldType} {d' o c i np : Nat} {C : String} {T : u_T} {N : Nat} {as stk : List Value} {τ : zS} (hC : zCv M d' (zR o :: as) σ τ) (hdl : d' < d) (ho : zoc o = c) (hc : vwCl[c]? = some (C, T, N)) (hm : zMV M C np) (hw : Cond.methodLink own i M.1 ∈ zUW) (hn : as.length = np) (hd : decode cc pc = .ok (.invokevirtual i, 3)) (hst : as.reverse ++ zR o :: st = stk) (hrm : (st.map fun v => v.category).sum ≤ 8)
    (k : zW x K (pc + 3) ls st τ) : zW x K pc ls stk σ := z_callV h hC hdl ho hc hm hw hn hd hst hrm (fun r τ q => by obtain ⟨rfl, rfl⟩ := q; exact k)
theorem z_rV (h : zH x own cc nL ret d) {M : MethodName × ByteArray × Nat × Option FieldType} {d' o c i np : Nat} {C : String} {T : u_T} {N : Nat} {as stk : List Value} {v : Value} {τ : zS} (hC : zCr M d' (zR o :: as) σ v τ) (hdl : d' < d) (ho : zoc o = c) (hc : vwCl[c]? = some (C, T, N)) (hm : zMV M C np) (hw : Cond.methodLink own i M.1 ∈ zUW) (hn : as.length = np) (hd : decode cc pc = .ok (.invokevirtual i, 3)) (hst : as.reverse ++ zR o :: st = stk) (hrm : (st.map fun v => v.category).sum ≤ 8)
    (k : zW x K (pc + 3) ls (v :: st) τ) : zW x K pc ls stk σ := z_callV h hC hdl ho hc hm hw hn hd hst hrm (fun r τ q => by obtain ⟨rfl, rfl⟩ := q; exact k)
theorem z_pS (h : zH x own cc nL ret d) {M : MethodName × ByteArray × Nat × Option FieldType} {d' i np : Nat} {as stk : List Value} {v : Value} (hC : zCp M d' as σ v) (hdl : d' < d) (hm : zMS M np) (hw : Cond.methodLink own i M.1 ∈ zUW) (hn : as.length = np) (hd : decode cc pc = .ok (.invokestatic i, 3)) (hst : as.reverse ++ st = stk) (hrm : (st.map fun v => v.category).sum ≤ 8)
    (k : zW x K (pc + 3) ls (v :: st) σ) : zW x K pc ls stk σ := z_callS h hC hdl hm hw hn hd hst hrm (fun r τ q => by obtain ⟨rfl, rfl⟩ := q; exact k)
theorem z_vS (h : zH x own cc nL ret d) {M : MethodName × ByteArray × Nat × Option FieldType} {d' i np : Nat} {as stk : List Value} {τ : zS} (hC : zCv M d' as σ τ) (hdl : d' < d) (hm : zMS M np) (hw : Cond.methodLink own i M.1 ∈ zUW) (hn : as.length = np) (hd : decode cc pc = .ok (.invokestatic i, 3)) (hst : as.reverse ++ st = stk) (hrm : (st.map fun v => v.category).sum ≤ 8)
    (k : zW x K (pc + 3) ls st τ) : zW x K pc ls stk σ := z_callS h hC hdl hm hw hn hd hst hrm (fun r τ q => by obtain ⟨rfl, rfl⟩ := q; exact k)
/-! what lies outside an array's length is free -/
def zEq (σ τ : zS) : Prop := (∀ o j, zsc σ o j = zsc τ o j) ∧ ∀ o j (n : Int), 0 ≤ n → n < (zkd o j).2 → zar σ o j n = zar τ o j n
theorem zarr_congr (c : ClassId) (n : Nat) {f g : Nat → Int32} (h : ∀ j, j < n → f j = g j) : vp_cell c (n, .inl f) = vp_cell c (n, .inl g) := by
  rw [vp_cell_i, vp_cell_i]
  unfold arrV
  congr 1
  apply Array.ext
  · simp
  · intro i h1 h2
    simp at h1
    simp [h i h1]
theorem zarrq_congr (c : ClassId) (n : Nat) {f g : Nat → Option Nat} (h : ∀ j, j < n → f j = g j) : vp_cell c (n, .inr (.inr (.inr (.inr f)))) = vp_cell c (n, .inr (.inr (.inr (.inr g)))) := by
  rw [vp_cell_q, vp_cell_q]
  unfold arrV
  congr 1
  apply Array.ext
  · simp
  · intro i h1 h2
    simp at h1
    simp [h i h1]
theorem zWd_congr {D : va_G} {ad : Nat → Nat} {cs : Nat → ClassId} {σ τ : zS} {H : Heap} (h : zEq σ τ) (hr : zRG τ) (hW : zWd D ad cs σ H) : zWd D ad cs τ H := by
  refine ⟨fun i q hq => ?_, hr⟩
  unfold zwl at hq
  rw [List.getElem?_map] at hq
  cases hk : zkeys[i]? with
  | none => rw [hk] at hq; cases hq
  | some k =>
    rw [hk] at hq
    cases hq
    have h0 := hW.1 i (ad k, zce ad cs σ k) (by unfold zwl; rw [List.getElem?_map, hk]; rfl)
    show va_at D vwCl (ad k, zce ad cs τ k) H
    rcases zkey_split (List.mem_of_getElem? hk) with ⟨o, rfl, -⟩ | ⟨o, j, rfl, -, h4, h9, hj⟩
    · rw [zce_o] at h0 ⊢
      have hm : (List.range (zfL (zoc o)).length).map (zfv ad σ o) = (List.range (zfL (zoc o)).length).map (zfv ad τ o) := List.map_congr_left fun a _ => zfv_congr ad (h.1 o a)
      rw [← hm]
      exact h0
    · rw [zce_a _ _ _ hj] at h0 ⊢
      unfold zca at h0 ⊢
      by_cases h7 : (zkd o j).1 < 7
      · rw [if_pos h7] at h0 ⊢
        have e := zarr_congr (cs ((zkd o j).1 - 4)) (zkd o j).2 (f := fun i => Int32.ofInt (zar σ o j (i : Int))) (g := fun i => Int32.ofInt (zar τ o j (i : Int))) (fun i hi => by rw [h.2 o j (i : Int) (by omega) (by omega)])
        show H[_]? = some _
        rw [← e]
        exact h0
      · rw [if_neg h7] at h0 ⊢
        have e := zarrq_congr (cs ((zkd o j).1 - 4)) (zkd o j).2 (f := fun i => some (ad (64 * (zar σ o j (i : Int)).toNat))) (g := fun i => some (ad (64 * (zar τ o j (i : Int)).toNat))) (fun i hi => by rw [h.2 o j (i : Int) (by omega) (by omega)])
        show H[_]? = some _
        rw [← e]
        exact h0
theorem z_norm {τ : zS} (he : zEq σ τ) (hr : zRG σ → zRG τ) (k : zW x K pc ls st τ) : zW x K pc ls st σ := by
  obtain ⟨p, l, e, R, s, m, args, below, meth, cd, D, ad, cs⟩ := x
  intro H locs la hW hS hl
  exact k H locs la (zWd_congr he (hr hW.2) hW) hS hl
/-- what every state is -/
theorem z_rg (k : zRG σ → zW x K pc ls st σ) : zW x K pc ls st σ := by
  obtain ⟨p, l, e, R, s, m, args, below, meth, cd, D, ad, cs⟩ := x
  intro H locs la hW hS hl
  exact k hW.2 H locs la hW hS hl
theorem z_copy (h : zH x own cc nL ret d) {o j o2 j2 L i kd : Nat} {m : Int} (h9 : zoc o < 9) (h92 : zoc o2 < 9) (hkd : kd = 4 ∨ kd = 5) (hk : zkd o j = (kd, L)) (hk2 : zkd o2 j2 = (kd, L)) (hL : L ≤ 2048) (hm : m = (L : Int)) (hdd : 0 < d) (hw : Cond.methodLink own i arraycopyName ∈ zUW) (hd : decode cc pc = .ok (.invokestatic i, 3)) (hrm : (st.map fun v => v.category).sum ≤ 8)
    (k : zW x K (pc + 3) ls st (zsA σ o2 j2 (zar σ o j))) : zW x K pc ls (zI m :: zI 0 :: zA o2 j2 :: zI 0 :: zA o j :: st) σ := by
  obtain ⟨p, l, e, R, s, mm, args, below, meth, cd, D, ad, cs⟩ := x
  intro H locs la hW hS hl
  obtain ⟨hx, hb, hml, hr, hown, hts, hlk, rfl, hK, hinj, hE⟩ := h
  have h60 : j < 60 := zfd_j (c := zoc o) (by have : zfd (zoc o) j = (kd, L) := hk; rw [this]; rcases hkd with rfl | rfl <;> simp)
  have h602 : j2 < 60 := zfd_j (c := zoc o2) (by have : zfd (zoc o2) j2 = (kd, L) := hk2; rw [this]; rcases hkd with rfl | rfl <;> simp)
  have hkk : 4 ≤ kd ∧ kd < 9 ∧ kd < 7 := by rcases hkd with rfl | rfl <;> simp
  obtain ⟨q0, hq, hq2⟩ := zwl_at ad cs σ (zkey_a (j := j) h9 (by rw [hk]; exact hkk.1) (by rw [hk]; exact hkk.2.1))
  obtain ⟨q1, hq1, hq3⟩ := zwl_at ad cs σ (zkey_a (j := j2) h92 (by rw [hk2]; exact hkk.1) (by rw [hk2]; exact hkk.2.1))
  have he : ∀ τ, zca ad cs τ o j = .inl (cs (kd - 4), L, .inl (fun i => Int32.ofInt (zar τ o j (i : Int)))) := by intro τ; simp [zca, hk, hkk.2.2]
  have he2 : ∀ τ, zca ad cs τ o2 j2 = .inl (cs (kd - 4), L, .inl (fun i => Int32.ofInt (zar τ o2 j2 (i : Int)))) := by intro τ; simp [zca, hk2, hkk.2.2]
  rw [zce_a _ _ _ h60, he] at hq2
  rw [zce_a _ _ _ h602, he2] at hq3
  subst hm
  have e0 : (Int32.ofInt 0).toNatClampNeg = 0 := by decide
  have eL : (Int32.ofInt (L : Int)).toNatClampNeg = L := by rw [z_clamp (by omega) ⟨by omega, by omega⟩]; omega
  obtain ⟨ty, t0, hty, hpr, hfit⟩ : ∃ (ty : FieldType) (t0 : Nat), (zty cs)[t0]? = some (cs (kd - 4), ty) ∧ refKind ty = false ∧ ∀ n, fits ty (.int (Int32.ofInt (zar σ o j n))) = true := by
    rcases hkd with rfl | rfl
    · exact ⟨.int, 0, rfl, rfl, fun n => by simp [fits]⟩
    · refine ⟨.byte, 1, rfl, rfl, fun n => ?_⟩
      have hrg := hW.2.2 o j n
      rw [hk] at hrg
      have h1 : -128 ≤ zar σ o j n ∧ zar σ o j n ≤ 127 := hrg
      have e1 : Int32.ofInt (zar σ o j n) = (Int32.ofInt (zar σ o j n)).toInt8.toInt32 := by
        apply Int32.toInt_inj.mp
        rw [Int32.toInt8_ofInt, Int8.toInt_toInt32, Int8.toInt_ofInt_of_le (by omega) (by omega), z_toInt ⟨by omega, by omega⟩]
      rw [e1]
      exact pk_fb _
  refine va_copyi (sp := Int32.ofInt 0) (dp := Int32.ofInt 0) (n := Int32.ofInt (L : Int)) hx hb hl.1.symm hown (hts _ hw) (hts _ ot_native_arraycopyName) (hts _ sm_arraycopyName) (hts _ ini_java_lang_System) hK hW.1 (zD cs σ hinj) hS q0 q1 t0 t0 hq2 hq3 hty hty hpr (by decide) (by decide) (by rw [← z_0, z_lt ⟨by omega, by omega⟩ ⟨by omega, by omega⟩]; omega) (by rw [e0, eL]; omega) (by rw [e0, eL]; omega) (fun i hi => hfit _) hdd ?_ hd ?_
  · rw [zcat_sum]
    have : nativeFrameWords "java/lang/System" "arraycopy" 5 ≤ 8 := by decide
    show _ ≤ 27 * d
    omega
  · intro H1 locs1 g1 g2 g3
    refine k H1 locs1 la ⟨?_, zRG_sA hW.2 (fun n => ?_)⟩ g3 hl
    · have := zwl_sA ad cs σ (zar σ o j) h602 hq1
      rw [he2] at this
      rw [← this]
      intro i q hiq
      by_cases hi : q1 = i
      · subst hi
        have hlt := (List.getElem?_eq_some_iff.mp hq3).1
        rw [List.getElem?_set, if_pos rfl, if_pos hlt] at hiq
        cases hiq
        have h0 := g1 q1 _ (by rw [List.getElem?_set, if_pos rfl, if_pos hlt])
        show H1[_]? = some _
        rw [zar_sA, if_pos ⟨rfl, rfl⟩]
        have e9 := zarr_congr (cs (kd - 4)) L (f := va_cpy (fun i => Int32.ofInt (zar σ o j (i : Int))) (fun i => Int32.ofInt (zar σ o2 j2 (i : Int))) (Int32.ofInt 0).toNatClampNeg (Int32.ofInt 0).toNatClampNeg (Int32.ofInt (L : Int)).toNatClampNeg) (g := fun i => Int32.ofInt (zar σ o j (i : Int))) (fun i hi => by rw [e0, eL]; unfold va_cpy; rw [if_pos ⟨Nat.zero_le _, by omega⟩]; simp)
        rw [← e9]
        exact h0
      · rw [List.getElem?_set, if_neg hi] at hiq
        exact g1 i q (by rw [List.getElem?_set, if_neg hi]; exact hiq)
    · rw [hk2, ← hk]
      exact hW.2.2 o j n
theorem z_max (h : zH x own cc nL ret d) {i : Nat} {a b : Int} (ha : -2147483648 ≤ a ∧ a ≤ 2147483647) (hb2 : -2147483648 ≤ b ∧ b ≤ 2147483647) (hdd : 0 < d) (hw : Cond.methodLink own i Lib.Math.max.name ∈ zUW) (hd : decode cc pc = .ok (.invokestatic i, 3)) (hrm : (st.map fun v => v.category).sum ≤ 8)
    (k : zW x K (pc + 3) ls (zI (if a < b then b else a) :: st) σ) : zW x K pc ls (zI b :: zI a :: st) σ := by
  obtain ⟨p, l, e, R, s, mm, args, below, meth, cd, D, ad, cs⟩ := x
  intro H locs la hW hS hl
  obtain ⟨hx, hb, hml, hr, hown, hts, hlk, rfl, hK, hinj, hE⟩ := h
  have k' := k H locs la hW hS hl
  refine va_mmax (x := Int32.ofInt a) (y := Int32.ofInt b) hx hb hl.1.symm hown (hts _ hw) (hts _ sm_Lib_Math_max_name) (hts _ ini_java_lang_Math) (hts _ co_Lib_Math_max_name) (show 1 ≤ (zrm d).frames from hdd) ?_ (Nat.le_refl _) (Nat.le_refl _) hd ?_
  · rw [zcat_sum]
    show _ ≤ 27 * d
    omega
  · have e1 : (if Int32.ofInt a < Int32.ofInt b then Int32.ofInt b else Int32.ofInt a) = Int32.ofInt (if a < b then b else a) := by
      by_cases q : a < b
      · rw [if_pos q, if_pos ((z_lt ha hb2).mpr q)]
      · rw [if_neg q, if_neg (fun z => q ((z_lt ha hb2).mp z))]
    rw [e1]
    exact k'
end ZCALLS
