/-! The judgement of the abstract machine, and a row an instruction. -/
def zUW : List Cond := wsL_law
theorem zUW_good : ∀ w ∈ zUW, goodWord w = true := by
  intro w hw
  rcases List.mem_append.mp hw with h | h
  · exact List.all_eq_true.mp (by decide +kernel : wsL_law0.all goodWord = true) w h
  · cases h
def zuw (y : MethodName) (b : ByteArray) (n : Nat) (r : Option FieldType) : List Cond := .code y b n r :: zUW
theorem zuw_in {y z : MethodName} {b b' : ByteArray} {n n' : Nat} {r r' : Option FieldType} (h : Cond.code z b' n' r' ∈ zUW) : GoodIn (zuw y b n r) (zuw z b' n' r') := by
  intro w hw
  have hm : w ∈ zUW := by
    rcases List.mem_cons.mp hw with e | e
    · rw [e]; exact h
    · exact e
  exact ⟨List.mem_cons_of_mem _ hm, good_of_word (zUW_good w hm)⟩
def zrm (d : Nat) : Room := { frames := d, cells := 0, slots := 0, locals := 27 * d }
def zAs (ad : Nat → Nat) : Nat → Prop := fun q => ∃ k, k ∈ zkeys ∧ ad k = q
def zInj (ad : Nat → Nat) : Prop := ∀ a b, a ∈ zkeys → b ∈ zkeys → ad a = ad b → a = b
def zty (cs : Nat → ClassId) : List (ClassId × FieldType) := [(cs 0, .int), (cs 1, .byte), (cs 2, .boolean), (cs 3, .object RX3), (cs 4, .object RX2)]
def zWd (D : va_G) (ad : Nat → Nat) (cs : Nat → ClassId) (σ : zS) (H : Heap) : Prop := va_P D vwCl (zwl ad cs σ) H ∧ zRG σ
def zlen : List Nat := [4, 2, 3, 7, 6]
def zbyt : List (List Int32) := [[100, 111, 111, 114], [105, 110], [111, 117, 116], [115, 116, 97, 103, 105, 110, 103], [99, 104, 97, 110, 103, 101]]
def ztx (i : Nat) : String := (["door", "in", "out", "staging", "change"] : List String).getD i ""
def zix (i : Nat) : Nat := ([93, 103, 108, 113, 118] : List Nat).getD i 0
def zxi (i : Nat) : Nat := ([215, 235, 243, 278, 286, 306] : List Nat).getD i 0
def zxt (i : Nat) : String := (["no such door", "a door has no such thing", "no such truck", "a truck has no such thing", "no such carton", "a carton has no such thing"] : List String).getD i ""
def zEY (ad : Nat → Nat) (U : State) : Prop := (va_Z "jdk/internal/util/Preconditions" "SIOOBE_FORMATTER" "Ljava/util/function/BiFunction;" .null (zAs ad) U U.heap ∨ va_Z "jdk/internal/util/Preconditions" "SIOOBE_FORMATTER" "Ljava/util/function/BiFunction;" (.ref (ad 300000)) (zAs ad) U U.heap) ∧ va_Zq "java/lang/Throwable" "UNASSIGNED_STACK" "[Ljava/lang/StackTraceElement;" (zAs ad) U U.heap ∧ va_Zq "java/lang/Throwable" "SUPPRESSED_SENTINEL" "Ljava/util/List;" (zAs ad) U U.heap ∧ ∀ i, i < 6 → ∃ a, vk_R RX7 (zxi i) (zxt i) a U
def zEX (ad : Nat → Nat) (U : State) : Prop := vk_S 5 zlen zbyt (fun i => ad (100000 + i)) (fun i => ad (200000 + i)) (zAs ad) U U.heap ∧ (∀ i, i < 5 → vk_R RX4 (zix i) (ztx i) (ad (100000 + i)) U) ∧ va_Z "java/lang/String" "COMPACT_STRINGS" "Z" (.int 1) (zAs ad) U U.heap ∧ zEY ad U
def zBg (D : va_G) (ad : Nat → Nat) (cs : Nat → ClassId) (σ : zS) (U : State) : Prop := zWd D ad cs σ U.heap ∧ va_K D vwCl (zty cs) U ∧ zEX ad U
def zQ (D : va_G) (ad : Nat → Nat) (cs : Nat → ClassId) (K : Option Value → zS → Prop) : Array Value → State → Outcome → State → Prop := fun _ st oc t =>
  ∃ (r : Option Value) (τ : zS), oc = .returned (r.map (zcv ad)) ∧ K r τ ∧ zWd D ad cs τ t.heap ∧ va_F (zAs ad) st t
/-- the contract of a method at these arguments and this state: it returns, and K holds of its answer and of the state behind it -/
def zC (M : MethodName × ByteArray × Nat × Option FieldType) (d : Nat) (as : List Value) (σ : zS) (K : Option Value → zS → Prop) : Prop :=
  ∀ (l : Launch) (D : va_G) (ad : Nat → Nat) (cs : Nat → ClassId), zInj ad → Met l M.1 (zuw M.1 M.2.1 M.2.2.1 M.2.2.2) (zrm d) (va_Pc (as.map (zcv ad)) (zBg D ad cs σ)) (zQ D ad cs K) 0 0 (zAs ad)
abbrev zX : Type := Program × Launch × Env × Room × State × MethodId × Array Value × List Frame × Method × Code × va_G × (Nat → Nat) × (Nat → ClassId)
def zLV (la : Array Slot) (nL : Nat) (ad : Nat → Nat) (ls : List (Option Value)) : Prop := la.size = nL ∧ lv_wf la ∧ ∀ (i : Nat) (v : Value), ls[i]? = some (some v) → la[i]? = some (.val (zcv ad v))
/-- what is fixed while a method's body runs -/
def zH (x : zX) (own : String) (cc : ByteArray) (nL : Nat) (ret : Option FieldType) (d : Nat) : Prop := match x with
  | (p, _, _, R, s, m, args, _, meth, c, D, ad, cs) => p.tables.exec = Jvm.exec ∧ c.code = cc ∧ c.maxLocals = nL ∧ meth.sig.returnType = ret ∧ s.vm.findClass own = some m.cls ∧ (∀ w ∈ zUW, w.before args s = true) ∧ meth.locks = false ∧ R = zrm d ∧ va_K D vwCl (zty cs) s ∧ zInj ad ∧ zEX ad s
/-- from pc with these locals, this stack and this state the method comes to its end with K -/
def zW (x : zX) (K : Option Value → zS → Prop) (pc : Nat) (ls : List (Option Value)) (st : List Value) (σ : zS) : Prop := match x with
  | (p, l, e, R, s, m, args, below, meth, c, D, ad, cs) => ∀ (H : Heap) (locs : List Loc) (la : Array Slot), zWd D ad cs σ H → va_S (zAs ad) s.heap H locs → zLV la c.maxLocals ad ls →
    W p l e R s m args below meth c H locs 0 0 (MQ below (zQ D ad cs K) args s 0 0 (zAs ad)) (F0 m pc la (st.map (zcv ad)))
theorem zD {ad : Nat → Nat} (cs : Nat → ClassId) (σ : zS) (h : zInj ad) : va_D (zAs ad) (zwl ad cs σ) := by
  have key : ∀ (i : Nat) (p : Nat × va_E), (zwl ad cs σ)[i]? = some p → ∃ k, zkeys[i]? = some k ∧ p.1 = ad k := by
    intro i p hp
    unfold zwl at hp
    rw [List.getElem?_map] at hp
    cases hk : zkeys[i]? with
    | none => rw [hk] at hp; cases hp
    | some k => rw [hk] at hp; cases hp; exact ⟨k, rfl, rfl⟩
  refine ⟨fun i j p q hi hj hpq => ?_, fun k q hk => ?_⟩
  · obtain ⟨a, h1, h2⟩ := key i p hi
    obtain ⟨b, h3, h4⟩ := key j q hj
    have hab := h a b (List.mem_of_getElem? h1) (List.mem_of_getElem? h3) (by rw [← h2, ← h4, hpq])
    subst hab
    exact (List.getElem?_inj (List.getElem?_eq_some_iff.mp h1).1 zkeys_nd).mp (h1.trans h3.symm)
  · obtain ⟨a, h1, h2⟩ := key k q hk
    exact ⟨a, List.mem_of_getElem? h1, h2.symm⟩
theorem zEY.moved {ad : Nat → Nat} {s U : State} (hW : s.WarmedH U.vm) {locs : List Loc} (hS : va_S (zAs ad) s.heap U.heap locs) (h : zEY ad s) : zEY ad U :=
  ⟨h.1.imp (fun q => (q.kept (fun a h1 h2 => hS.2.1 a h1 h2)).moved hW.alike) (fun q => (q.kept (fun a h1 h2 => hS.2.1 a h1 h2)).moved hW.alike), (h.2.1.kept (fun a h1 h2 => hS.2.1 a h1 h2)).moved hW.alike, (h.2.2.1.kept (fun a h1 h2 => hS.2.1 a h1 h2)).moved hW.alike, fun i hi => (h.2.2.2 i hi).imp fun a q => q.warm hW⟩
theorem zEY.same {ad : Nat → Nat} {s U : State} (hv : U.vm = s.vm) (hh : U.heap = s.heap) (h : zEY ad s) : zEY ad U := by
  refine ⟨?_, ?_, ?_, fun i hi => (h.2.2.2 i hi).imp fun a q => vk_R.same hv q⟩
  · rw [hh]; exact h.1.imp (fun q => q.moved (by rw [hv]; exact Vm.Alike.refl _)) (fun q => q.moved (by rw [hv]; exact Vm.Alike.refl _))
  · rw [hh]; exact h.2.1.moved (by rw [hv]; exact Vm.Alike.refl _)
  · rw [hh]; exact h.2.2.1.moved (by rw [hv]; exact Vm.Alike.refl _)
theorem zEX.moved {ad : Nat → Nat} {s U : State} (hW : s.WarmedH U.vm) {locs : List Loc} (hS : va_S (zAs ad) s.heap U.heap locs) (h : zEX ad s) : zEX ad U :=
  ⟨(h.1.kept (fun a h1 h2 => hS.2.1 a h1 h2)).moved hW.alike, fun i hi => (h.2.1 i hi).warm hW, (h.2.2.1.kept (fun a h1 h2 => hS.2.1 a h1 h2)).moved hW.alike, h.2.2.2.moved hW hS⟩
theorem zEX.same {ad : Nat → Nat} {s U : State} (hv : U.vm = s.vm) (hh : U.heap = s.heap) (h : zEX ad s) : zEX ad U := by
  refine ⟨?_, fun i hi => vk_R.same hv (h.2.1 i hi), ?_, h.2.2.2.same hv hh⟩
  · rw [hh]; exact h.1.moved (by rw [hv]; exact Vm.Alike.refl _)
  · rw [hh]; exact h.2.2.1.moved (by rw [hv]; exact Vm.Alike.refl _)
/-! entry -/
def zls : List Value → List (Option Value)
  | [] => []
  | v :: vs => if v.category = 2 then some v :: none :: zls vs else some v :: zls vs
theorem zcv_cat (ad : Nat → Nat) (v : Value) : (zcv ad v).category = v.category := by cases v <;> rfl
theorem zls_mem (ad : Nat → Nat) : ∀ (as : List Value) (k i : Nat) (v : Value), (zls as)[i]? = some (some v) → (k + i, zcv ad v) ∈ lv_args k (as.map (zcv ad))
  | [], k, i, v, h => by simp [zls] at h
  | a :: as, k, i, v, h => by
    rw [List.map_cons]
    unfold lv_args
    rw [zcv_cat]
    unfold zls at h
    by_cases hc : a.category = 2
    · rw [if_pos hc] at h ⊢
      match i, h with
      | 0, h => simp at h; subst h; exact List.mem_cons_self
      | 1, h => simp at h
      | i + 2, h =>
        have h2 : (zls as)[i]? = some (some v) := by simpa using h
        refine List.mem_cons_of_mem _ ?_
        have := zls_mem ad as (k + 2) i v h2
        rwa [show k + 2 + i = k + (i + 2) by omega] at this
    · rw [if_neg hc] at h ⊢
      match i, h with
      | 0, h => simp at h; subst h; exact List.mem_cons_self
      | i + 1, h =>
        have h2 : (zls as)[i]? = some (some v) := by simpa using h
        refine List.mem_cons_of_mem _ ?_
        have := zls_mem ad as (k + 1) i v h2
        rwa [show k + 1 + i = k + (i + 1) by omega] at this
theorem zls_in {as : List Value} {n : Nat} {ls : List (Option Value)} (h : zls as ++ List.replicate n none = ls) {i : Nat} {v : Value} (hv : ls[i]? = some (some v)) : (zls as)[i]? = some (some v) := by
  subst h
  rw [List.getElem?_append] at hv
  split at hv
  · exact hv
  · rw [List.getElem?_replicate] at hv
    split at hv <;> simp at hv
theorem zC_of {M : MethodName × ByteArray × Nat × Option FieldType} {d n : Nat} {as : List Value} {σ : zS} {K : Option Value → zS → Prop} {ls : List (Option Value)} (hy : plainName M.1.cls = true) (hlen : ∀ ad : Nat → Nat, (lg_sl (as.map (zcv ad))).length ≤ M.2.2.1) (hls : zls as ++ List.replicate n none = ls)
    (body : ∀ x : zX, zH x M.1.cls M.2.1 M.2.2.1 M.2.2.2 d → zW x K 0 ls [] σ) : zC M d as σ K := by
  intro l D ad cs hinj
  obtain ⟨y, b, nL, ret⟩ := M
  refine Met.ofW (cc := b) (maxL := nL) (ret := ret) hy rfl ?_
  intro p e s m args below meth c s₁ B hml hv
  obtain ⟨rfl, hWd, hK, hE⟩ := hv
  have hts0 := atoms_spec (ws := zuw y b nL ret) B.pre
  have hts : ∀ w ∈ zUW, w.before ((as.map (zcv ad)).toArray) s = true := fun w h => hts0 w (List.mem_cons_of_mem _ h)
  have hown : s.vm.findClass y.cls = some m.cls := findClass_of_methodNamed B.named
  have hb := body (p, l, e, zrm d, s, m, (as.map (zcv ad)).toArray, below, meth, c, D, ad, cs) ⟨B.exec, B.bytes, hml, B.returns, hown, hts, B.notSynchronized, rfl, hK, hinj, hE⟩
  have hl := lv_entry (as.map (zcv ad)) (n := nL) (hlen ad)
  rw [lg_entry_eq]
  exact hb s.heap [] _ hWd va_S.rf ⟨by rw [hml]; exact hl.1, hl.2.1, fun i v h => hl.2.2 (i, _) (by have := zls_mem ad as 0 i v (zls_in hls h); rwa [Nat.zero_add] at this)⟩
section ZROWS
variable {x : zX} {K : Option Value → zS → Prop} {own : String} {cc : ByteArray} {nL d pc : Nat} {ret : Option FieldType} {ls : List (Option Value)} {st : List Value} {σ : zS}

theorem z_iconst (h : zH x own cc nL ret d) {n : Int} (hd : decode cc pc = .ok (.iconst n, 1)) (k : zW x K (pc + 1) ls (zI n :: st) σ) : zW x K pc ls st σ := by
  obtain ⟨p, l, e, R, s, m, args, below, meth, cd, D, ad, cs⟩ := x
  intro H locs la hW hS hl
  obtain ⟨hx, hb, hml, hr, hown, hts, hlk, rfl, hK, hinj, hE⟩ := h
  exact lv_iconst hx hb hd rfl (k H locs la hW hS hl)

theorem z_bipush (h : zH x own cc nL ret d) {n : Int} (hd : decode cc pc = .ok (.bipush n, 2)) (hv : (Int8.ofInt n).toInt32 = Int32.ofInt n) (k : zW x K (pc + 2) ls (zI n :: st) σ) : zW x K pc ls st σ := by
  obtain ⟨p, l, e, R, s, m, args, below, meth, cd, D, ad, cs⟩ := x
  intro H locs la hW hS hl
  obtain ⟨hx, hb, hml, hr, hown, hts, hlk, rfl, hK, hinj, hE⟩ := h
  exact lv_bipush hx hb hd hv (k H locs la hW hS hl)

theorem z_sipush (h : zH x own cc nL ret d) {n : Int} (hd : decode cc pc = .ok (.sipush n, 3)) (hv : (Int16.ofInt n).toInt32 = Int32.ofInt n) (k : zW x K (pc + 3) ls (zI n :: st) σ) : zW x K pc ls st σ := by
  obtain ⟨p, l, e, R, s, m, args, below, meth, cd, D, ad, cs⟩ := x
  intro H locs la hW hS hl
  obtain ⟨hx, hb, hml, hr, hown, hts, hlk, rfl, hK, hinj, hE⟩ := h
  exact lv_sipush hx hb hd hv (k H locs la hW hS hl)

theorem z_ldc2 (h : zH x own cc nL ret d) {i : Nat} {v : Int64} (hw : Cond.constantLong own i v ∈ zUW) (hd : decode cc pc = .ok (.ldc2_w i, 3)) (k : zW x K (pc + 3) ls (.long v :: st) σ) : zW x K pc ls st σ := by
  obtain ⟨p, l, e, R, s, m, args, below, meth, cd, D, ad, cs⟩ := x
  intro H locs la hW hS hl
  obtain ⟨hx, hb, hml, hr, hown, hts, hlk, rfl, hK, hinj, hE⟩ := h
  exact lv_ldc2 hx hb hown (hts _ hw) hd (k H locs la hW hS hl)

theorem z_lconst (h : zH x own cc nL ret d) {n : Fin 2} (hd : decode cc pc = .ok (.lconst n, 1)) (k : zW x K (pc + 1) ls (.long (Int64.ofNat (n : Nat)) :: st) σ) : zW x K pc ls st σ := by
  obtain ⟨p, l, e, R, s, m, args, below, meth, cd, D, ad, cs⟩ := x
  intro H locs la hW hS hl
  obtain ⟨hx, hb, hml, hr, hown, hts, hlk, rfl, hK, hinj, hE⟩ := h
  exact lv_lconst hx hb hd rfl (k H locs la hW hS hl)

theorem z_iload_n (h : zH x own cc nL ret d) {q : Fin 4} {v : Int} (hd : decode cc pc = .ok (.iload_n q, 1)) (hv : ls[(q : Nat)]? = some (some (zI v))) (k : zW x K (pc + 1) ls ((zI v) :: st) σ) : zW x K pc ls st σ := by
  obtain ⟨p, l, e, R, s, m, args, below, meth, cd, D, ad, cs⟩ := x
  intro H locs la hW hS hl
  obtain ⟨hx, hb, hml, hr, hown, hts, hlk, rfl, hK, hinj, hE⟩ := h
  exact lv_iload_n hx hb hd rfl (hl.2.2 _ _ hv) (k H locs la hW hS hl)

theorem z_iload (h : zH x own cc nL ret d) {i : Nat} {v : Int} (hd : decode cc pc = .ok (.iload i, 2)) (hv : ls[i]? = some (some (zI v))) (k : zW x K (pc + 2) ls ((zI v) :: st) σ) : zW x K pc ls st σ := by
  obtain ⟨p, l, e, R, s, m, args, below, meth, cd, D, ad, cs⟩ := x
  intro H locs la hW hS hl
  obtain ⟨hx, hb, hml, hr, hown, hts, hlk, rfl, hK, hinj, hE⟩ := h
  exact lv_iload hx hb hd (hl.2.2 _ _ hv) (k H locs la hW hS hl)

theorem z_aloadR_n (h : zH x own cc nL ret d) {q : Fin 4} {v : Nat} (hd : decode cc pc = .ok (.aload_n q, 1)) (hv : ls[(q : Nat)]? = some (some (zR v))) (k : zW x K (pc + 1) ls ((zR v) :: st) σ) : zW x K pc ls st σ := by
  obtain ⟨p, l, e, R, s, m, args, below, meth, cd, D, ad, cs⟩ := x
  intro H locs la hW hS hl
  obtain ⟨hx, hb, hml, hr, hown, hts, hlk, rfl, hK, hinj, hE⟩ := h
  exact lv_aload_n hx hb hd rfl (hl.2.2 _ _ hv) (k H locs la hW hS hl)

theorem z_aloadR (h : zH x own cc nL ret d) {i : Nat} {v : Nat} (hd : decode cc pc = .ok (.aload i, 2)) (hv : ls[i]? = some (some (zR v))) (k : zW x K (pc + 2) ls ((zR v) :: st) σ) : zW x K pc ls st σ := by
  obtain ⟨p, l, e, R, s, m, args, below, meth, cd, D, ad, cs⟩ := x
  intro H locs la hW hS hl
  obtain ⟨hx, hb, hml, hr, hown, hts, hlk, rfl, hK, hinj, hE⟩ := h
  exact lv_aload hx hb hd (hl.2.2 _ _ hv) (k H locs la hW hS hl)

theorem z_lload_n (h : zH x own cc nL ret d) {q : Fin 4} {v : Int64} (hd : decode cc pc = .ok (.lload_n q, 1)) (hv : ls[(q : Nat)]? = some (some (.long v))) (k : zW x K (pc + 1) ls ((.long v) :: st) σ) : zW x K pc ls st σ := by
  obtain ⟨p, l, e, R, s, m, args, below, meth, cd, D, ad, cs⟩ := x
  intro H locs la hW hS hl
  obtain ⟨hx, hb, hml, hr, hown, hts, hlk, rfl, hK, hinj, hE⟩ := h
  exact lv_lload_n hx hb hd rfl (hl.2.2 _ _ hv) (k H locs la hW hS hl)

theorem z_lload (h : zH x own cc nL ret d) {i : Nat} {v : Int64} (hd : decode cc pc = .ok (.lload i, 2)) (hv : ls[i]? = some (some (.long v))) (k : zW x K (pc + 2) ls ((.long v) :: st) σ) : zW x K pc ls st σ := by
  obtain ⟨p, l, e, R, s, m, args, below, meth, cd, D, ad, cs⟩ := x
  intro H locs la hW hS hl
  obtain ⟨hx, hb, hml, hr, hown, hts, hlk, rfl, hK, hinj, hE⟩ := h
  exact lv_lload hx hb hd (hl.2.2 _ _ hv) (k H locs la hW hS hl)

theorem z_aloadT_n (h : zH x own cc nL ret d) {q : Fin 4} {v : Nat} (hd : decode cc pc = .ok (.aload_n q, 1)) (hv : ls[(q : Nat)]? = some (some (zT v))) (k : zW x K (pc + 1) ls ((zT v) :: st) σ) : zW x K pc ls st σ := by
  obtain ⟨p, l, e, R, s, m, args, below, meth, cd, D, ad, cs⟩ := x
  intro H locs la hW hS hl
  obtain ⟨hx, hb, hml, hr, hown, hts, hlk, rfl, hK, hinj, hE⟩ := h
  exact lv_aload_n hx hb hd rfl (hl.2.2 _ _ hv) (k H locs la hW hS hl)

theorem z_aloadT (h : zH x own cc nL ret d) {i : Nat} {v : Nat} (hd : decode cc pc = .ok (.aload i, 2)) (hv : ls[i]? = some (some (zT v))) (k : zW x K (pc + 2) ls ((zT v) :: st) σ) : zW x K pc ls st σ := by
  obtain ⟨p, l, e, R, s, m, args, below, meth, cd, D, ad, cs⟩ := x
  intro H locs la hW hS hl
  obtain ⟨hx, hb, hml, hr, hown, hts, hlk, rfl, hK, hinj, hE⟩ := h
  exact lv_aload hx hb hd (hl.2.2 _ _ hv) (k H locs la hW hS hl)

theorem z_aloadA_n (h : zH x own cc nL ret d) {q : Fin 4} {u v : Nat} (hd : decode cc pc = .ok (.aload_n q, 1)) (hv : ls[(q : Nat)]? = some (some (zA u v))) (k : zW x K (pc + 1) ls (zA u v :: st) σ) : zW x K pc ls st σ := by
  obtain ⟨p, l, e, R, s, m, args, below, meth, cd, D, ad, cs⟩ := x
  intro H locs la hW hS hl
  obtain ⟨hx, hb, hml, hr, hown, hts, hlk, rfl, hK, hinj, hE⟩ := h
  exact lv_aload_n hx hb hd rfl (hl.2.2 _ _ hv) (k H locs la hW hS hl)

def zc1 (a : Option Value) : Bool := match a with
  | none => true
  | some v => v.category == 1
/-- the locals as the kit has them -/
def zlv (ad : Nat → Nat) (ls : List (Option Value)) : List (Nat × Value) := (List.range ls.length).filterMap (fun i => match ls[i]? with
  | some (some v) => some (i, zcv ad v)
  | _ => none)
theorem zlv_mem {ad : Nat → Nat} {ls : List (Option Value)} {i : Nat} {v : Value} (h : ls[i]? = some (some v)) : (i, zcv ad v) ∈ zlv ad ls := by
  refine List.mem_filterMap.mpr ⟨i, List.mem_range.mpr (List.getElem?_eq_some_iff.mp h).1, ?_⟩
  rw [h]
theorem zlv_of {ad : Nat → Nat} {ls : List (Option Value)} {q : Nat × Value} (h : q ∈ zlv ad ls) : ∃ v, ls[q.1]? = some (some v) ∧ q.2 = zcv ad v := by
  obtain ⟨i, -, h2⟩ := List.mem_filterMap.mp h
  split at h2
  · rename_i v hv
    cases h2
    exact ⟨v, hv, rfl⟩
  · cases h2
theorem zLV.has {la : Array Slot} {nL : Nat} {ad : Nat → Nat} {ls : List (Option Value)} (h : zLV la nL ad ls) : lv_has la nL (zlv ad ls) :=
  ⟨h.1, h.2.1, fun q hq => by obtain ⟨v, h1, h2⟩ := zlv_of hq; rw [h2]; exact h.2.2 _ _ h1⟩
theorem zLV.put {la : Array Slot} {nL : Nat} {ad : Nat → Nat} {ls : List (Option Value)} {i : Nat} {v w : Value} (hw : w = zcv ad v) (hp : ∀ j u, j + 1 = i → ls[j]? = some (some u) → u.category = 1) (hi : i < ls.length)
    (h : lv_has la nL ((i, w) :: (zlv ad ls).filter (fun q => !(q.1 == i) && !(q.1 + 1 == i && q.2.category == 2)))) : zLV la nL ad (ls.set i (some v)) := by
  refine ⟨h.1, h.2.1, fun j u hj => ?_⟩
  rw [List.getElem?_set] at hj
  by_cases e : i = j
  · subst e
    rw [if_pos rfl, if_pos hi] at hj
    cases hj
    have := h.2.2 (i, w) List.mem_cons_self
    rw [hw] at this
    exact this
  · rw [if_neg e] at hj
    refine h.2.2 (j, zcv ad u) (List.mem_cons_of_mem _ (List.mem_filter.mpr ⟨zlv_mem hj, ?_⟩))
    have e2 : (j == i) = false := by simpa using Ne.symm e
    by_cases e3 : j + 1 = i
    · have := hp j u e3 hj
      simp [e2, zcv_cat, this]
    · have e4 : (j + 1 == i) = false := by simpa using e3
      simp [e2, e4]

theorem z_istore_nG (h : zH x own cc nL ret d) {q : Fin 4} {v : Int} (hd : decode cc pc = .ok (.istore_n q, 1)) (hi : (q : Nat) < ls.length) (hn : (q : Nat) < nL) (hp : ∀ j u, j + 1 = (q : Nat) → ls[j]? = some (some u) → u.category = 1) (k : zW x K (pc + 1) (ls.set q (some (zI v))) st σ) : zW x K pc ls ((zI v) :: st) σ := by
  obtain ⟨p, l, e, R, s, m, args, below, meth, cd, D, ad, cs⟩ := x
  intro H locs la hW hS hl
  obtain ⟨hx, hb, hml, hr, hown, hts, hlk, rfl, hK, hinj, hE⟩ := h
  exact lv_istore_n hx hb hd rfl hl.has (by rw [hml]; exact hn) rfl (fun la' hl' => k H locs la' hW hS (by have := zLV.put (v := zI v) rfl hp hi hl'; exact this))

theorem z_istoreG (h : zH x own cc nL ret d) {i : Nat} {v : Int} (hd : decode cc pc = .ok (.istore i, 2)) (hi : i < ls.length) (hn : i < nL) (hp : ∀ j u, j + 1 = i → ls[j]? = some (some u) → u.category = 1) (k : zW x K (pc + 2) (ls.set i (some (zI v))) st σ) : zW x K pc ls ((zI v) :: st) σ := by
  obtain ⟨p, l, e, R, s, m, args, below, meth, cd, D, ad, cs⟩ := x
  intro H locs la hW hS hl
  obtain ⟨hx, hb, hml, hr, hown, hts, hlk, rfl, hK, hinj, hE⟩ := h
  exact lv_istore hx hb hd hl.has (by rw [hml]; exact hn) rfl (fun la' hl' => k H locs la' hW hS (by have := zLV.put (v := zI v) rfl hp hi hl'; exact this))

theorem z_astoreR_nG (h : zH x own cc nL ret d) {q : Fin 4} {v : Nat} (hd : decode cc pc = .ok (.astore_n q, 1)) (hi : (q : Nat) < ls.length) (hn : (q : Nat) < nL) (hp : ∀ j u, j + 1 = (q : Nat) → ls[j]? = some (some u) → u.category = 1) (k : zW x K (pc + 1) (ls.set q (some (zR v))) st σ) : zW x K pc ls ((zR v) :: st) σ := by
  obtain ⟨p, l, e, R, s, m, args, below, meth, cd, D, ad, cs⟩ := x
  intro H locs la hW hS hl
  obtain ⟨hx, hb, hml, hr, hown, hts, hlk, rfl, hK, hinj, hE⟩ := h
  exact lv_astore_n hx hb hd rfl hl.has (by rw [hml]; exact hn) rfl (fun la' hl' => k H locs la' hW hS (by have := zLV.put (v := zR v) rfl hp hi hl'; exact this))

theorem z_astoreRG (h : zH x own cc nL ret d) {i : Nat} {v : Nat} (hd : decode cc pc = .ok (.astore i, 2)) (hi : i < ls.length) (hn : i < nL) (hp : ∀ j u, j + 1 = i → ls[j]? = some (some u) → u.category = 1) (k : zW x K (pc + 2) (ls.set i (some (zR v))) st σ) : zW x K pc ls ((zR v) :: st) σ := by
  obtain ⟨p, l, e, R, s, m, args, below, meth, cd, D, ad, cs⟩ := x
  intro H locs la hW hS hl
  obtain ⟨hx, hb, hml, hr, hown, hts, hlk, rfl, hK, hinj, hE⟩ := h
  exact lv_astore hx hb hd hl.has (by rw [hml]; exact hn) rfl (fun la' hl' => k H locs la' hW hS (by have := zLV.put (v := zR v) rfl hp hi hl'; exact this))

theorem zp_of {ls : List (Option Value)} {i : Nat} (h : ∀ j, j + 1 = i → (ls[j]?.map zc1).getD true = true) : ∀ j u, j + 1 = i → ls[j]? = some (some u) → u.category = 1 := by
  intro j u hj hu
  have := h j hj
  rw [hu] at this
  simpa [zc1] using this

theorem z_iincG (h : zH x own cc nL ret d) {i : Nat} {a n : Int} (hd : decode cc pc = .ok (.iinc i n, 3)) (hv : ls[i]? = some (some (zI a))) (hn : i < nL) (hp : ∀ j u, j + 1 = i → ls[j]? = some (some u) → u.category = 1) (k : zW x K (pc + 3) (ls.set i (some (zI (a + n)))) st σ) : zW x K pc ls st σ := by
  obtain ⟨p, l, e, R, s, m, args, below, meth, cd, D, ad, cs⟩ := x
  intro H locs la hW hS hl
  obtain ⟨hx, hb, hml, hr, hown, hts, hlk, rfl, hK, hinj, hE⟩ := h
  obtain ⟨q, hq⟩ := List.getElem?_of_mem (zlv_mem (ad := ad) hv)
  exact lv_iinc (v := Int32.ofInt (a + n)) hx hb hd hl.has hq (by rw [Int32.ofInt_add]) (by rw [hml]; exact hn) rfl (fun la' hl' => k H locs la' hW hS (by have := zLV.put (v := zI (a + n)) rfl hp (List.getElem?_eq_some_iff.mp hv).1 hl'; exact this))

theorem z_iadd (h : zH x own cc nL ret d) {a b : Int} (hd : decode cc pc = .ok (.iadd, 1)) (k : zW x K (pc + 1) ls (zI (a + b) :: st) σ) : zW x K pc ls (zI b :: zI a :: st) σ := by
  obtain ⟨p, l, e, R, s, m, args, below, meth, cd, D, ad, cs⟩ := x
  intro H locs la hW hS hl
  obtain ⟨hx, hb, hml, hr, hown, hts, hlk, rfl, hK, hinj, hE⟩ := h
  have k' := k H locs la hW hS hl
  refine lv_iadd (x := Int32.ofInt a) (y := Int32.ofInt b) hx hb hd ?_
  rw [← Int32.ofInt_add]
  exact k'

theorem z_isub (h : zH x own cc nL ret d) {a b : Int} (hd : decode cc pc = .ok (.isub, 1)) (k : zW x K (pc + 1) ls (zI (a - b) :: st) σ) : zW x K pc ls (zI b :: zI a :: st) σ := by
  obtain ⟨p, l, e, R, s, m, args, below, meth, cd, D, ad, cs⟩ := x
  intro H locs la hW hS hl
  obtain ⟨hx, hb, hml, hr, hown, hts, hlk, rfl, hK, hinj, hE⟩ := h
  have k' := k H locs la hW hS hl
  refine lv_isub (x := Int32.ofInt a) (y := Int32.ofInt b) hx hb hd ?_
  rw [← Int32.ofInt_sub]
  exact k'

theorem z_imul (h : zH x own cc nL ret d) {a b : Int} (hd : decode cc pc = .ok (.imul, 1)) (k : zW x K (pc + 1) ls (zI (a * b) :: st) σ) : zW x K pc ls (zI b :: zI a :: st) σ := by
  obtain ⟨p, l, e, R, s, m, args, below, meth, cd, D, ad, cs⟩ := x
  intro H locs la hW hS hl
  obtain ⟨hx, hb, hml, hr, hown, hts, hlk, rfl, hK, hinj, hE⟩ := h
  have k' := k H locs la hW hS hl
  refine lv_imul (x := Int32.ofInt a) (y := Int32.ofInt b) hx hb hd ?_
  rw [← Int32.ofInt_mul]
  exact k'

theorem z_ineg (h : zH x own cc nL ret d) {a : Int} (hd : decode cc pc = .ok (.ineg, 1)) (k : zW x K (pc + 1) ls (zI (-a) :: st) σ) : zW x K pc ls (zI a :: st) σ := by
  obtain ⟨p, l, e, R, s, m, args, below, meth, cd, D, ad, cs⟩ := x
  intro H locs la hW hS hl
  obtain ⟨hx, hb, hml, hr, hown, hts, hlk, rfl, hK, hinj, hE⟩ := h
  have k' := k H locs la hW hS hl
  refine lv_ineg (x := Int32.ofInt a) hx hb hd ?_
  rw [← Int32.ofInt_neg]
  exact k'

theorem z_idiv (h : zH x own cc nL ret d) {a b : Int} (ha : -2147483648 ≤ a ∧ a ≤ 2147483647) (hbb : 0 < b ∧ b ≤ 2147483647) (hd : decode cc pc = .ok (.idiv, 1)) (k : zW x K (pc + 1) ls (zI (a.tdiv b) :: st) σ) : zW x K pc ls (zI b :: zI a :: st) σ := by
  obtain ⟨p, l, e, R, s, m, args, below, meth, cd, D, ad, cs⟩ := x
  intro H locs la hW hS hl
  obtain ⟨hx, hb, hml, hr, hown, hts, hlk, rfl, hK, hinj, hE⟩ := h
  have k' := k H locs la hW hS hl
  refine lv_idiv (x := Int32.ofInt a) (y := Int32.ofInt b) hx hb hd (fun e => ?_) ?_
  · rw [← z_0, z_eq ⟨by omega, by omega⟩ ⟨by omega, by omega⟩] at e
    omega
  · rw [← Int32.ofInt_tdiv (by have := ha.1; exact this) (by have := ha.2; exact this) (show Int32.minValue.toInt ≤ b by have : Int32.minValue.toInt = -2147483648 := rfl; omega) (by have := hbb.2; exact this)]
    exact k'

theorem z_dupI (h : zH x own cc nL ret d) {a : Int} (hd : decode cc pc = .ok (.dup, 1)) (k : zW x K (pc + 1) ls (zI a :: zI a :: st) σ) : zW x K pc ls (zI a :: st) σ := by
  obtain ⟨p, l, e, R, s, m, args, below, meth, cd, D, ad, cs⟩ := x
  intro H locs la hW hS hl
  obtain ⟨hx, hb, hml, hr, hown, hts, hlk, rfl, hK, hinj, hE⟩ := h
  exact lv_dup hx hb hd rfl (k H locs la hW hS hl)

theorem z_dupR (h : zH x own cc nL ret d) {a : Nat} (hd : decode cc pc = .ok (.dup, 1)) (k : zW x K (pc + 1) ls (zR a :: zR a :: st) σ) : zW x K pc ls (zR a :: st) σ := by
  obtain ⟨p, l, e, R, s, m, args, below, meth, cd, D, ad, cs⟩ := x
  intro H locs la hW hS hl
  obtain ⟨hx, hb, hml, hr, hown, hts, hlk, rfl, hK, hinj, hE⟩ := h
  exact lv_dup hx hb hd rfl (k H locs la hW hS hl)

theorem z_popI (h : zH x own cc nL ret d) {a : Int} (hd : decode cc pc = .ok (.pop, 1)) (k : zW x K (pc + 1) ls (st) σ) : zW x K pc ls (zI a :: st) σ := by
  obtain ⟨p, l, e, R, s, m, args, below, meth, cd, D, ad, cs⟩ := x
  intro H locs la hW hS hl
  obtain ⟨hx, hb, hml, hr, hown, hts, hlk, rfl, hK, hinj, hE⟩ := h
  exact lv_pop hx hb hd rfl (k H locs la hW hS hl)

theorem z_dup2AI (h : zH x own cc nL ret d) {u v : Nat} {a : Int} (hd : decode cc pc = .ok (.dup2, 1)) (k : zW x K (pc + 1) ls (zI a :: zA u v :: zI a :: zA u v :: st) σ) : zW x K pc ls (zI a :: zA u v :: st) σ := by
  obtain ⟨p, l, e, R, s, m, args, below, meth, cd, D, ad, cs⟩ := x
  intro H locs la hW hS hl
  obtain ⟨hx, hb, hml, hr, hown, hts, hlk, rfl, hK, hinj, hE⟩ := h
  exact lv_dup2_11 hx hb hd rfl rfl (k H locs la hW hS hl)

theorem z_icmp_eq (h : zH x own cc nL ret d) {a b : Int} {off : Int} {tgt : Nat} (ha : -2147483648 ≤ a ∧ a ≤ 2147483647) (hb2 : -2147483648 ≤ b ∧ b ≤ 2147483647) (hd : decode cc pc = .ok (.if_icmp .eq off, 3)) (ht : (pc : Int) + off = (tgt : Int)) (kt : a = b → zW x K tgt ls st σ) (kf : ¬ a = b → zW x K (pc + 3) ls st σ) : zW x K pc ls (zI b :: zI a :: st) σ := by
  obtain ⟨p, l, e, R, s, m, args, below, meth, cd, D, ad, cs⟩ := x
  intro H locs la hW hS hl
  obtain ⟨hx, hb, hml, hr, hown, hts, hlk, rfl, hK, hinj, hE⟩ := h
  exact lv_icmp_eq hx hb hd ht (fun q => kt (by exact (z_eq ha hb2).mp q) H locs la hW hS hl) (fun q => kf (by have q2 := mt (z_eq ha hb2).mpr q; omega) H locs la hW hS hl)

theorem z_if_eq (h : zH x own cc nL ret d) {a : Int} {off : Int} {tgt : Nat} (ha : -2147483648 ≤ a ∧ a ≤ 2147483647) (hd : decode cc pc = .ok (.ifCond .eq off, 3)) (ht : (pc : Int) + off = (tgt : Int)) (kt : a = 0 → zW x K tgt ls st σ) (kf : ¬ a = 0 → zW x K (pc + 3) ls st σ) : zW x K pc ls (zI a :: st) σ := by
  obtain ⟨p, l, e, R, s, m, args, below, meth, cd, D, ad, cs⟩ := x
  intro H locs la hW hS hl
  obtain ⟨hx, hb, hml, hr, hown, hts, hlk, rfl, hK, hinj, hE⟩ := h
  exact lv_if_eq hx hb hd ht (fun q => kt (by rw [← z_0] at q; exact (z_eq ha (⟨by omega, by omega⟩ : zin 0)).mp q) H locs la hW hS hl) (fun q => kf (by rw [← z_0] at q; have q2 := mt (z_eq ha (⟨by omega, by omega⟩ : zin 0)).mpr q; omega) H locs la hW hS hl)

theorem z_icmp_ne (h : zH x own cc nL ret d) {a b : Int} {off : Int} {tgt : Nat} (ha : -2147483648 ≤ a ∧ a ≤ 2147483647) (hb2 : -2147483648 ≤ b ∧ b ≤ 2147483647) (hd : decode cc pc = .ok (.if_icmp .ne off, 3)) (ht : (pc : Int) + off = (tgt : Int)) (kt : ¬ a = b → zW x K tgt ls st σ) (kf : a = b → zW x K (pc + 3) ls st σ) : zW x K pc ls (zI b :: zI a :: st) σ := by
  obtain ⟨p, l, e, R, s, m, args, below, meth, cd, D, ad, cs⟩ := x
  intro H locs la hW hS hl
  obtain ⟨hx, hb, hml, hr, hown, hts, hlk, rfl, hK, hinj, hE⟩ := h
  exact lv_icmp_ne hx hb hd ht (fun q => kt (by exact mt (z_eq ha hb2).mpr q) H locs la hW hS hl) (fun q => kf (by exact (z_eq ha hb2).mp (q)) H locs la hW hS hl)

theorem z_if_ne (h : zH x own cc nL ret d) {a : Int} {off : Int} {tgt : Nat} (ha : -2147483648 ≤ a ∧ a ≤ 2147483647) (hd : decode cc pc = .ok (.ifCond .ne off, 3)) (ht : (pc : Int) + off = (tgt : Int)) (kt : ¬ a = 0 → zW x K tgt ls st σ) (kf : a = 0 → zW x K (pc + 3) ls st σ) : zW x K pc ls (zI a :: st) σ := by
  obtain ⟨p, l, e, R, s, m, args, below, meth, cd, D, ad, cs⟩ := x
  intro H locs la hW hS hl
  obtain ⟨hx, hb, hml, hr, hown, hts, hlk, rfl, hK, hinj, hE⟩ := h
  exact lv_if_ne hx hb hd ht (fun q => kt (by rw [← z_0] at q; exact mt (z_eq ha (⟨by omega, by omega⟩ : zin 0)).mpr q) H locs la hW hS hl) (fun q => kf (by rw [← z_0] at q; exact (z_eq ha (⟨by omega, by omega⟩ : zin 0)).mp (q)) H locs la hW hS hl)

theorem z_icmp_lt (h : zH x own cc nL ret d) {a b : Int} {off : Int} {tgt : Nat} (ha : -2147483648 ≤ a ∧ a ≤ 2147483647) (hb2 : -2147483648 ≤ b ∧ b ≤ 2147483647) (hd : decode cc pc = .ok (.if_icmp .lt off, 3)) (ht : (pc : Int) + off = (tgt : Int)) (kt : a < b → zW x K tgt ls st σ) (kf : b ≤ a → zW x K (pc + 3) ls st σ) : zW x K pc ls (zI b :: zI a :: st) σ := by
  obtain ⟨p, l, e, R, s, m, args, below, meth, cd, D, ad, cs⟩ := x
  intro H locs la hW hS hl
  obtain ⟨hx, hb, hml, hr, hown, hts, hlk, rfl, hK, hinj, hE⟩ := h
  exact lv_icmp_lt hx hb hd ht (fun q => kt (by exact (z_lt ha hb2).mp q) H locs la hW hS hl) (fun q => kf (by have q2 := mt (z_lt ha hb2).mpr q; omega) H locs la hW hS hl)

theorem z_if_lt (h : zH x own cc nL ret d) {a : Int} {off : Int} {tgt : Nat} (ha : -2147483648 ≤ a ∧ a ≤ 2147483647) (hd : decode cc pc = .ok (.ifCond .lt off, 3)) (ht : (pc : Int) + off = (tgt : Int)) (kt : a < 0 → zW x K tgt ls st σ) (kf : 0 ≤ a → zW x K (pc + 3) ls st σ) : zW x K pc ls (zI a :: st) σ := by
  obtain ⟨p, l, e, R, s, m, args, below, meth, cd, D, ad, cs⟩ := x
  intro H locs la hW hS hl
  obtain ⟨hx, hb, hml, hr, hown, hts, hlk, rfl, hK, hinj, hE⟩ := h
  exact lv_if_lt hx hb hd ht (fun q => kt (by rw [← z_0] at q; exact (z_lt ha (⟨by omega, by omega⟩ : zin 0)).mp q) H locs la hW hS hl) (fun q => kf (by rw [← z_0] at q; have q2 := mt (z_lt ha (⟨by omega, by omega⟩ : zin 0)).mpr q; omega) H locs la hW hS hl)

theorem z_icmp_ge (h : zH x own cc nL ret d) {a b : Int} {off : Int} {tgt : Nat} (ha : -2147483648 ≤ a ∧ a ≤ 2147483647) (hb2 : -2147483648 ≤ b ∧ b ≤ 2147483647) (hd : decode cc pc = .ok (.if_icmp .ge off, 3)) (ht : (pc : Int) + off = (tgt : Int)) (kt : b ≤ a → zW x K tgt ls st σ) (kf : a < b → zW x K (pc + 3) ls st σ) : zW x K pc ls (zI b :: zI a :: st) σ := by
  obtain ⟨p, l, e, R, s, m, args, below, meth, cd, D, ad, cs⟩ := x
  intro H locs la hW hS hl
  obtain ⟨hx, hb, hml, hr, hown, hts, hlk, rfl, hK, hinj, hE⟩ := h
  exact lv_icmp_ge hx hb hd ht (fun q => kt (by exact (z_le hb2 ha).mp q) H locs la hW hS hl) (fun q => kf (by have q2 := mt (z_le hb2 ha).mpr q; omega) H locs la hW hS hl)

theorem z_if_ge (h : zH x own cc nL ret d) {a : Int} {off : Int} {tgt : Nat} (ha : -2147483648 ≤ a ∧ a ≤ 2147483647) (hd : decode cc pc = .ok (.ifCond .ge off, 3)) (ht : (pc : Int) + off = (tgt : Int)) (kt : 0 ≤ a → zW x K tgt ls st σ) (kf : a < 0 → zW x K (pc + 3) ls st σ) : zW x K pc ls (zI a :: st) σ := by
  obtain ⟨p, l, e, R, s, m, args, below, meth, cd, D, ad, cs⟩ := x
  intro H locs la hW hS hl
  obtain ⟨hx, hb, hml, hr, hown, hts, hlk, rfl, hK, hinj, hE⟩ := h
  exact lv_if_ge hx hb hd ht (fun q => kt (by rw [← z_0] at q; exact (z_le (⟨by omega, by omega⟩ : zin 0) ha).mp q) H locs la hW hS hl) (fun q => kf (by rw [← z_0] at q; have q2 := mt (z_le (⟨by omega, by omega⟩ : zin 0) ha).mpr q; omega) H locs la hW hS hl)

theorem z_icmp_gt (h : zH x own cc nL ret d) {a b : Int} {off : Int} {tgt : Nat} (ha : -2147483648 ≤ a ∧ a ≤ 2147483647) (hb2 : -2147483648 ≤ b ∧ b ≤ 2147483647) (hd : decode cc pc = .ok (.if_icmp .gt off, 3)) (ht : (pc : Int) + off = (tgt : Int)) (kt : b < a → zW x K tgt ls st σ) (kf : a ≤ b → zW x K (pc + 3) ls st σ) : zW x K pc ls (zI b :: zI a :: st) σ := by
  obtain ⟨p, l, e, R, s, m, args, below, meth, cd, D, ad, cs⟩ := x
  intro H locs la hW hS hl
  obtain ⟨hx, hb, hml, hr, hown, hts, hlk, rfl, hK, hinj, hE⟩ := h
  exact lv_icmp_gt hx hb hd ht (fun q => kt (by exact (z_lt hb2 ha).mp q) H locs la hW hS hl) (fun q => kf (by have q2 := mt (z_lt hb2 ha).mpr q; omega) H locs la hW hS hl)

theorem z_if_gt (h : zH x own cc nL ret d) {a : Int} {off : Int} {tgt : Nat} (ha : -2147483648 ≤ a ∧ a ≤ 2147483647) (hd : decode cc pc = .ok (.ifCond .gt off, 3)) (ht : (pc : Int) + off = (tgt : Int)) (kt : 0 < a → zW x K tgt ls st σ) (kf : a ≤ 0 → zW x K (pc + 3) ls st σ) : zW x K pc ls (zI a :: st) σ := by
  obtain ⟨p, l, e, R, s, m, args, below, meth, cd, D, ad, cs⟩ := x
  intro H locs la hW hS hl
  obtain ⟨hx, hb, hml, hr, hown, hts, hlk, rfl, hK, hinj, hE⟩ := h
  exact lv_if_gt hx hb hd ht (fun q => kt (by rw [← z_0] at q; exact (z_lt (⟨by omega, by omega⟩ : zin 0) ha).mp q) H locs la hW hS hl) (fun q => kf (by rw [← z_0] at q; have q2 := mt (z_lt (⟨by omega, by omega⟩ : zin 0) ha).mpr q; omega) H locs la hW hS hl)

theorem z_icmp_le (h : zH x own cc nL ret d) {a b : Int} {off : Int} {tgt : Nat} (ha : -2147483648 ≤ a ∧ a ≤ 2147483647) (hb2 : -2147483648 ≤ b ∧ b ≤ 2147483647) (hd : decode cc pc = .ok (.if_icmp .le off, 3)) (ht : (pc : Int) + off = (tgt : Int)) (kt : a ≤ b → zW x K tgt ls st σ) (kf : b < a → zW x K (pc + 3) ls st σ) : zW x K pc ls (zI b :: zI a :: st) σ := by
  obtain ⟨p, l, e, R, s, m, args, below, meth, cd, D, ad, cs⟩ := x
  intro H locs la hW hS hl
  obtain ⟨hx, hb, hml, hr, hown, hts, hlk, rfl, hK, hinj, hE⟩ := h
  exact lv_icmp_le hx hb hd ht (fun q => kt (by exact (z_le ha hb2).mp q) H locs la hW hS hl) (fun q => kf (by have q2 := mt (z_le ha hb2).mpr q; omega) H locs la hW hS hl)

theorem z_if_le (h : zH x own cc nL ret d) {a : Int} {off : Int} {tgt : Nat} (ha : -2147483648 ≤ a ∧ a ≤ 2147483647) (hd : decode cc pc = .ok (.ifCond .le off, 3)) (ht : (pc : Int) + off = (tgt : Int)) (kt : a ≤ 0 → zW x K tgt ls st σ) (kf : 0 < a → zW x K (pc + 3) ls st σ) : zW x K pc ls (zI a :: st) σ := by
  obtain ⟨p, l, e, R, s, m, args, below, meth, cd, D, ad, cs⟩ := x
  intro H locs la hW hS hl
  obtain ⟨hx, hb, hml, hr, hown, hts, hlk, rfl, hK, hinj, hE⟩ := h
  exact lv_if_le hx hb hd ht (fun q => kt (by rw [← z_0] at q; exact (z_le ha (⟨by omega, by omega⟩ : zin 0)).mp q) H locs la hW hS hl) (fun q => kf (by rw [← z_0] at q; have q2 := mt (z_le ha (⟨by omega, by omega⟩ : zin 0)).mpr q; omega) H locs la hW hS hl)

def zB (b : Bool) : Value := zI (if b then 1 else 0)
theorem zB_0 {b : Bool} : Int32.ofInt (if b then 1 else 0) = 0 ↔ b = false := by cases b <;> decide

theorem z_ifeqB (h : zH x own cc nL ret d) {b : Bool} {off : Int} {tgt : Nat} (hd : decode cc pc = .ok (.ifCond .eq off, 3)) (ht : (pc : Int) + off = (tgt : Int)) (kt : b = false → zW x K tgt ls st σ) (kf : b = true → zW x K (pc + 3) ls st σ) : zW x K pc ls (zB b :: st) σ := by
  obtain ⟨p, l, e, R, s, m, args, below, meth, cd, D, ad, cs⟩ := x
  intro H locs la hW hS hl
  obtain ⟨hx, hb, hml, hr, hown, hts, hlk, rfl, hK, hinj, hE⟩ := h
  exact lv_if_eq hx hb hd ht (fun q => kt (zB_0.mp q) H locs la hW hS hl) (fun q => kf (by cases b; exact absurd (zB_0.mpr rfl) q; rfl) H locs la hW hS hl)

theorem z_ifneB (h : zH x own cc nL ret d) {b : Bool} {off : Int} {tgt : Nat} (hd : decode cc pc = .ok (.ifCond .ne off, 3)) (ht : (pc : Int) + off = (tgt : Int)) (kt : b = true → zW x K tgt ls st σ) (kf : b = false → zW x K (pc + 3) ls st σ) : zW x K pc ls (zB b :: st) σ := by
  obtain ⟨p, l, e, R, s, m, args, below, meth, cd, D, ad, cs⟩ := x
  intro H locs la hW hS hl
  obtain ⟨hx, hb, hml, hr, hown, hts, hlk, rfl, hK, hinj, hE⟩ := h
  exact lv_if_ne hx hb hd ht (fun q => kt (by cases b; exact absurd (zB_0.mpr rfl) q; rfl) H locs la hW hS hl) (fun q => kf (zB_0.mp q) H locs la hW hS hl)

theorem z_goto (h : zH x own cc nL ret d) {off : Int} {tgt : Nat} (hd : decode cc pc = .ok (.goto off, 3)) (ht : (pc : Int) + off = (tgt : Int)) (k : zW x K tgt ls st σ) : zW x K pc ls st σ := by
  obtain ⟨p, l, e, R, s, m, args, below, meth, cd, D, ad, cs⟩ := x
  intro H locs la hW hS hl
  obtain ⟨hx, hb, hml, hr, hown, hts, hlk, rfl, hK, hinj, hE⟩ := h
  exact lv_goto hx hb hd ht (k H locs la hW hS hl)

theorem z_iret (h : zH x own cc nL ret d) {v : Int} (hre : ret = some .int) (hd : decode cc pc = .ok (.ireturn, 1)) (k : K (some (zI v)) σ) : zW x K pc ls [zI v] σ := by
  obtain ⟨p, l, e, R, s, m, args, below, meth, cd, D, ad, cs⟩ := x
  intro H locs la hW hS hl
  obtain ⟨hx, hb, hml, hr, hown, hts, hlk, rfl, hK, hinj, hE⟩ := h
  exact W.iret hx hb (hr.trans hre) (fun t ht hw => ⟨some (zI v), σ, rfl, k, by rw [ht]; exact hW, hS.F ht⟩) hS.2.2 hd hlk

theorem z_zret (h : zH x own cc nL ret d) {v : Int} (hre : ret = some .boolean) (hv : v = 0 ∨ v = 1) (hd : decode cc pc = .ok (.ireturn, 1)) (k : K (some (zI v)) σ) : zW x K pc ls [zI v] σ := by
  obtain ⟨p, l, e, R, s, m, args, below, meth, cd, D, ad, cs⟩ := x
  intro H locs la hW hS hl
  obtain ⟨hx, hb, hml, hr, hown, hts, hlk, rfl, hK, hinj, hE⟩ := h
  exact W.zret hx hb (hr.trans hre) (by rcases hv with rfl | rfl <;> decide) (fun t ht hw => ⟨some (zI v), σ, rfl, k, by rw [ht]; exact hW, hS.F ht⟩) hS.2.2 hd hlk

theorem z_bret (h : zH x own cc nL ret d) {b : Bool} (hre : ret = some .boolean) (hd : decode cc pc = .ok (.ireturn, 1)) (k : K (some (zB b)) σ) : zW x K pc ls [zB b] σ := by
  obtain ⟨p, l, e, R, s, m, args, below, meth, cd, D, ad, cs⟩ := x
  intro H locs la hW hS hl
  obtain ⟨hx, hb, hml, hr, hown, hts, hlk, rfl, hK, hinj, hE⟩ := h
  exact W.zret hx hb (hr.trans hre) (by cases b <;> decide) (fun t ht hw => ⟨some (zB b), σ, rfl, k, by rw [ht]; exact hW, hS.F ht⟩) hS.2.2 hd hlk

theorem z_ret (h : zH x own cc nL ret d) (hre : ret = none) (hd : decode cc pc = .ok (.return_, 1)) (k : K none σ) : zW x K pc ls [] σ := by
  obtain ⟨p, l, e, R, s, m, args, below, meth, cd, D, ad, cs⟩ := x
  intro H locs la hW hS hl
  obtain ⟨hx, hb, hml, hr, hown, hts, hlk, rfl, hK, hinj, hE⟩ := h
  exact W.vret hx hb (hr.trans hre) (fun t ht hw => ⟨none, σ, rfl, k, by rw [ht]; exact hW, hS.F ht⟩) hS.2.2 hd hlk

theorem zwords : ∀ (c : Nat) (C : String) (T : u_T) (N : Nat), vwCl[c]? = some (C, T, N) → (∀ w ∈ u_ws C T N, w ∈ zUW) ∧ N = (zfL c).length
  | 0, _, _, _, h => by cases h; exact ⟨inlX0, rfl⟩
  | 1, _, _, _, h => by cases h; exact ⟨inlX1, rfl⟩
  | 2, _, _, _, h => by cases h; exact ⟨inlX2, rfl⟩
  | 3, _, _, _, h => by cases h; exact ⟨inlX3, rfl⟩
  | 4, _, _, _, h => by cases h; exact ⟨inlX4, rfl⟩
  | 5, _, _, _, h => by cases h; exact ⟨inlX5, rfl⟩
  | 6, _, _, _, h => by cases h; exact ⟨inlX6, rfl⟩
  | 7, _, _, _, h => by cases h; exact ⟨inlX7, rfl⟩
  | 8, _, _, _, h => by cases h; exact ⟨inlX8, rfl⟩
  | _ + 9, _, _, _, h => by simp at h
theorem ztypes : ∀ (c : Nat) (C : String) (T : u_T) (N : Nat), vwCl[c]? = some (C, T, N) → ∃ ty : Nat → FieldType, (∀ k, k < N → parseFieldDescriptor (T k).2.2.1 = some (ty k)) ∧ (∀ a, a < N → ∀ b, b < N → a ≠ b → (T a).2.1 ≠ (T b).2.1)
  | 0, _, _, _, h => by cases h; exact ⟨tyX0, tyX0_ok, nmX0⟩
  | 1, _, _, _, h => by cases h; exact ⟨tyX1, tyX1_ok, nmX1⟩
  | 2, _, _, _, h => by cases h; exact ⟨tyX2, tyX2_ok, nmX2⟩
  | 3, _, _, _, h => by cases h; exact ⟨tyX3, tyX3_ok, nmX3⟩
  | 4, _, _, _, h => by cases h; exact ⟨tyX4, tyX4_ok, nmX4⟩
  | 5, _, _, _, h => by cases h; exact ⟨tyX5, tyX5_ok, nmX5⟩
  | 6, _, _, _, h => by cases h; exact ⟨tyX6, tyX6_ok, nmX6⟩
  | 7, _, _, _, h => by cases h; exact ⟨tyX7, tyX7_ok, nmX7⟩
  | 8, _, _, _, h => by cases h; exact ⟨tyX8, tyX8_ok, nmX8⟩
  | _ + 9, _, _, _, h => by simp at h
theorem zoc9 {o c : Nat} {q : vw_C} (ho : zoc o = c) (hc : vwCl[c]? = some q) : zoc o < 9 := by
  have := (List.getElem?_eq_some_iff.mp hc).1
  rw [ho]; exact this

theorem z_getI (h : zH x own cc nL ret d) {o c j i : Nat} {C : String} {T : u_T} {N : Nat} {L : Nat} (ho : zoc o = c) (hc : vwCl[c]? = some (C, T, N)) (hk : zfd c j = (0, L)) (hw : Cond.fieldLink own i (T j).1 (T j).2.1 (T j).2.2.1 ∈ zUW) (hd : decode cc pc = .ok (.getfield i, 3)) (k : (-2147483648 ≤ zsc σ o j ∧ zsc σ o j ≤ 2147483647) → zW x K (pc + 3) ls (zI (zsc σ o j) :: st) σ) : zW x K pc ls (zR o :: st) σ := by
  obtain ⟨p, l, e, R, s, m, args, below, meth, cd, D, ad, cs⟩ := x
  intro H locs la hW hS hl
  obtain ⟨hx, hb, hml, hr, hown, hts, hlk, rfl, hK, hinj, hE⟩ := h
  have h9 := zoc9 ho hc
  obtain ⟨hwd, hN⟩ := zwords c C T N hc
  obtain ⟨q0, hq, hq2⟩ := zwl_at ad cs σ (zkey_o h9)
  rw [zce_o] at hq2
  rw [ho] at hq2
  have hj : j < N := by
    rcases Nat.lt_or_ge j N with z | z
    · exact z
    · exfalso
      have : zfd c j = (99, 0) := by unfold zfd; exact zgd (by omega)
      rw [this] at hk
      cases hk
  have hkd : zkd o j = (0, L) := by unfold zkd; rw [ho]; exact hk
  have hv : ((List.range (zfL c).length).map (zfv ad σ o))[j]? = some (zcv ad (zI (zsc σ o j))) := by
    rw [zfs_at ad σ o (by omega)]
    simp [zfv, hkd, zcv, zI, zR, zA]
  exact va_get (ref := (T j).1) hx hb hts hwd hown hK hW.1 q0 hq2 hc j hj (hts _ hw) (fun _ z => z) hv hd (k (by have := hW.2.1 o j; rw [hkd] at this; exact this) H locs la hW hS hl)

theorem z_getZ (h : zH x own cc nL ret d) {o c j i : Nat} {C : String} {T : u_T} {N : Nat} {L : Nat} (ho : zoc o = c) (hc : vwCl[c]? = some (C, T, N)) (hk : zfd c j = (1, L)) (hw : Cond.fieldLink own i (T j).1 (T j).2.1 (T j).2.2.1 ∈ zUW) (hd : decode cc pc = .ok (.getfield i, 3)) (k : (zsc σ o j = 0 ∨ zsc σ o j = 1) → zW x K (pc + 3) ls (zI (zsc σ o j) :: st) σ) : zW x K pc ls (zR o :: st) σ := by
  obtain ⟨p, l, e, R, s, m, args, below, meth, cd, D, ad, cs⟩ := x
  intro H locs la hW hS hl
  obtain ⟨hx, hb, hml, hr, hown, hts, hlk, rfl, hK, hinj, hE⟩ := h
  have h9 := zoc9 ho hc
  obtain ⟨hwd, hN⟩ := zwords c C T N hc
  obtain ⟨q0, hq, hq2⟩ := zwl_at ad cs σ (zkey_o h9)
  rw [zce_o] at hq2
  rw [ho] at hq2
  have hj : j < N := by
    rcases Nat.lt_or_ge j N with z | z
    · exact z
    · exfalso
      have : zfd c j = (99, 0) := by unfold zfd; exact zgd (by omega)
      rw [this] at hk
      cases hk
  have hkd : zkd o j = (1, L) := by unfold zkd; rw [ho]; exact hk
  have hv : ((List.range (zfL c).length).map (zfv ad σ o))[j]? = some (zcv ad (zI (zsc σ o j))) := by
    rw [zfs_at ad σ o (by omega)]
    simp [zfv, hkd, zcv, zI, zR, zA]
  exact va_get (ref := (T j).1) hx hb hts hwd hown hK hW.1 q0 hq2 hc j hj (hts _ hw) (fun _ z => z) hv hd (k (by have := hW.2.1 o j; rw [hkd] at this; exact this) H locs la hW hS hl)

theorem z_getL (h : zH x own cc nL ret d) {o c j i : Nat} {C : String} {T : u_T} {N : Nat} {L : Nat} (ho : zoc o = c) (hc : vwCl[c]? = some (C, T, N)) (hk : zfd c j = (2, L)) (hw : Cond.fieldLink own i (T j).1 (T j).2.1 (T j).2.2.1 ∈ zUW) (hd : decode cc pc = .ok (.getfield i, 3)) (k : (-9223372036854775808 ≤ zsc σ o j ∧ zsc σ o j ≤ 9223372036854775807) → zW x K (pc + 3) ls (.long (Int64.ofInt (zsc σ o j)) :: st) σ) : zW x K pc ls (zR o :: st) σ := by
  obtain ⟨p, l, e, R, s, m, args, below, meth, cd, D, ad, cs⟩ := x
  intro H locs la hW hS hl
  obtain ⟨hx, hb, hml, hr, hown, hts, hlk, rfl, hK, hinj, hE⟩ := h
  have h9 := zoc9 ho hc
  obtain ⟨hwd, hN⟩ := zwords c C T N hc
  obtain ⟨q0, hq, hq2⟩ := zwl_at ad cs σ (zkey_o h9)
  rw [zce_o] at hq2
  rw [ho] at hq2
  have hj : j < N := by
    rcases Nat.lt_or_ge j N with z | z
    · exact z
    · exfalso
      have : zfd c j = (99, 0) := by unfold zfd; exact zgd (by omega)
      rw [this] at hk
      cases hk
  have hkd : zkd o j = (2, L) := by unfold zkd; rw [ho]; exact hk
  have hv : ((List.range (zfL c).length).map (zfv ad σ o))[j]? = some (zcv ad (.long (Int64.ofInt (zsc σ o j)))) := by
    rw [zfs_at ad σ o (by omega)]
    simp [zfv, hkd, zcv, zI, zR, zA]
  exact va_get (ref := (T j).1) hx hb hts hwd hown hK hW.1 q0 hq2 hc j hj (hts _ hw) (fun _ z => z) hv hd (k (by have := hW.2.1 o j; rw [hkd] at this; exact this) H locs la hW hS hl)

theorem z_getR (h : zH x own cc nL ret d) {o c j i : Nat} {C : String} {T : u_T} {N : Nat} {L : Nat} {o2 : Nat} (hrf : zrf o j = o2) (ho : zoc o = c) (hc : vwCl[c]? = some (C, T, N)) (hk : zfd c j = (3, L)) (hw : Cond.fieldLink own i (T j).1 (T j).2.1 (T j).2.2.1 ∈ zUW) (hd : decode cc pc = .ok (.getfield i, 3)) (k : zW x K (pc + 3) ls (zR o2 :: st) σ) : zW x K pc ls (zR o :: st) σ := by
  obtain ⟨p, l, e, R, s, m, args, below, meth, cd, D, ad, cs⟩ := x
  intro H locs la hW hS hl
  obtain ⟨hx, hb, hml, hr, hown, hts, hlk, rfl, hK, hinj, hE⟩ := h
  have h9 := zoc9 ho hc
  obtain ⟨hwd, hN⟩ := zwords c C T N hc
  obtain ⟨q0, hq, hq2⟩ := zwl_at ad cs σ (zkey_o h9)
  rw [zce_o] at hq2
  rw [ho] at hq2
  have hj : j < N := by
    rcases Nat.lt_or_ge j N with z | z
    · exact z
    · exfalso
      have : zfd c j = (99, 0) := by unfold zfd; exact zgd (by omega)
      rw [this] at hk
      cases hk
  have hkd : zkd o j = (3, L) := by unfold zkd; rw [ho]; exact hk
  have hv : ((List.range (zfL c).length).map (zfv ad σ o))[j]? = some (zcv ad (zR o2)) := by
    rw [zfs_at ad σ o (by omega)]
    simp [zfv, hkd, zcv, zI, zR, zA, hrf]
  exact va_get (ref := (T j).1) hx hb hts hwd hown hK hW.1 q0 hq2 hc j hj (hts _ hw) (fun _ z => z) hv hd (k H locs la hW hS hl)

theorem z_getA4 (h : zH x own cc nL ret d) {o c j i : Nat} {C : String} {T : u_T} {N : Nat} {L : Nat} (ho : zoc o = c) (hc : vwCl[c]? = some (C, T, N)) (hk : zfd c j = (4, L)) (hw : Cond.fieldLink own i (T j).1 (T j).2.1 (T j).2.2.1 ∈ zUW) (hd : decode cc pc = .ok (.getfield i, 3)) (k : zW x K (pc + 3) ls (zA o j :: st) σ) : zW x K pc ls (zR o :: st) σ := by
  obtain ⟨p, l, e, R, s, m, args, below, meth, cd, D, ad, cs⟩ := x
  intro H locs la hW hS hl
  obtain ⟨hx, hb, hml, hr, hown, hts, hlk, rfl, hK, hinj, hE⟩ := h
  have h9 := zoc9 ho hc
  obtain ⟨hwd, hN⟩ := zwords c C T N hc
  obtain ⟨q0, hq, hq2⟩ := zwl_at ad cs σ (zkey_o h9)
  rw [zce_o] at hq2
  rw [ho] at hq2
  have hj : j < N := by
    rcases Nat.lt_or_ge j N with z | z
    · exact z
    · exfalso
      have : zfd c j = (99, 0) := by unfold zfd; exact zgd (by omega)
      rw [this] at hk
      cases hk
  have hkd : zkd o j = (4, L) := by unfold zkd; rw [ho]; exact hk
  have hv : ((List.range (zfL c).length).map (zfv ad σ o))[j]? = some (zcv ad (zA o j)) := by
    rw [zfs_at ad σ o (by omega)]
    simp [zfv, hkd, zcv, zI, zR, zA]
  exact va_get (ref := (T j).1) hx hb hts hwd hown hK hW.1 q0 hq2 hc j hj (hts _ hw) (fun _ z => z) hv hd (k H locs la hW hS hl)

theorem z_getA5 (h : zH x own cc nL ret d) {o c j i : Nat} {C : String} {T : u_T} {N : Nat} {L : Nat} (ho : zoc o = c) (hc : vwCl[c]? = some (C, T, N)) (hk : zfd c j = (5, L)) (hw : Cond.fieldLink own i (T j).1 (T j).2.1 (T j).2.2.1 ∈ zUW) (hd : decode cc pc = .ok (.getfield i, 3)) (k : zW x K (pc + 3) ls (zA o j :: st) σ) : zW x K pc ls (zR o :: st) σ := by
  obtain ⟨p, l, e, R, s, m, args, below, meth, cd, D, ad, cs⟩ := x
  intro H locs la hW hS hl
  obtain ⟨hx, hb, hml, hr, hown, hts, hlk, rfl, hK, hinj, hE⟩ := h
  have h9 := zoc9 ho hc
  obtain ⟨hwd, hN⟩ := zwords c C T N hc
  obtain ⟨q0, hq, hq2⟩ := zwl_at ad cs σ (zkey_o h9)
  rw [zce_o] at hq2
  rw [ho] at hq2
  have hj : j < N := by
    rcases Nat.lt_or_ge j N with z | z
    · exact z
    · exfalso
      have : zfd c j = (99, 0) := by unfold zfd; exact zgd (by omega)
      rw [this] at hk
      cases hk
  have hkd : zkd o j = (5, L) := by unfold zkd; rw [ho]; exact hk
  have hv : ((List.range (zfL c).length).map (zfv ad σ o))[j]? = some (zcv ad (zA o j)) := by
    rw [zfs_at ad σ o (by omega)]
    simp [zfv, hkd, zcv, zI, zR, zA]
  exact va_get (ref := (T j).1) hx hb hts hwd hown hK hW.1 q0 hq2 hc j hj (hts _ hw) (fun _ z => z) hv hd (k H locs la hW hS hl)

theorem z_getA6 (h : zH x own cc nL ret d) {o c j i : Nat} {C : String} {T : u_T} {N : Nat} {L : Nat} (ho : zoc o = c) (hc : vwCl[c]? = some (C, T, N)) (hk : zfd c j = (6, L)) (hw : Cond.fieldLink own i (T j).1 (T j).2.1 (T j).2.2.1 ∈ zUW) (hd : decode cc pc = .ok (.getfield i, 3)) (k : zW x K (pc + 3) ls (zA o j :: st) σ) : zW x K pc ls (zR o :: st) σ := by
  obtain ⟨p, l, e, R, s, m, args, below, meth, cd, D, ad, cs⟩ := x
  intro H locs la hW hS hl
  obtain ⟨hx, hb, hml, hr, hown, hts, hlk, rfl, hK, hinj, hE⟩ := h
  have h9 := zoc9 ho hc
  obtain ⟨hwd, hN⟩ := zwords c C T N hc
  obtain ⟨q0, hq, hq2⟩ := zwl_at ad cs σ (zkey_o h9)
  rw [zce_o] at hq2
  rw [ho] at hq2
  have hj : j < N := by
    rcases Nat.lt_or_ge j N with z | z
    · exact z
    · exfalso
      have : zfd c j = (99, 0) := by unfold zfd; exact zgd (by omega)
      rw [this] at hk
      cases hk
  have hkd : zkd o j = (6, L) := by unfold zkd; rw [ho]; exact hk
  have hv : ((List.range (zfL c).length).map (zfv ad σ o))[j]? = some (zcv ad (zA o j)) := by
    rw [zfs_at ad σ o (by omega)]
    simp [zfv, hkd, zcv, zI, zR, zA]
  exact va_get (ref := (T j).1) hx hb hts hwd hown hK hW.1 q0 hq2 hc j hj (hts _ hw) (fun _ z => z) hv hd (k H locs la hW hS hl)

theorem z_getA7 (h : zH x own cc nL ret d) {o c j i : Nat} {C : String} {T : u_T} {N : Nat} {L : Nat} (ho : zoc o = c) (hc : vwCl[c]? = some (C, T, N)) (hk : zfd c j = (7, L)) (hw : Cond.fieldLink own i (T j).1 (T j).2.1 (T j).2.2.1 ∈ zUW) (hd : decode cc pc = .ok (.getfield i, 3)) (k : zW x K (pc + 3) ls (zA o j :: st) σ) : zW x K pc ls (zR o :: st) σ := by
  obtain ⟨p, l, e, R, s, m, args, below, meth, cd, D, ad, cs⟩ := x
  intro H locs la hW hS hl
  obtain ⟨hx, hb, hml, hr, hown, hts, hlk, rfl, hK, hinj, hE⟩ := h
  have h9 := zoc9 ho hc
  obtain ⟨hwd, hN⟩ := zwords c C T N hc
  obtain ⟨q0, hq, hq2⟩ := zwl_at ad cs σ (zkey_o h9)
  rw [zce_o] at hq2
  rw [ho] at hq2
  have hj : j < N := by
    rcases Nat.lt_or_ge j N with z | z
    · exact z
    · exfalso
      have : zfd c j = (99, 0) := by unfold zfd; exact zgd (by omega)
      rw [this] at hk
      cases hk
  have hkd : zkd o j = (7, L) := by unfold zkd; rw [ho]; exact hk
  have hv : ((List.range (zfL c).length).map (zfv ad σ o))[j]? = some (zcv ad (zA o j)) := by
    rw [zfs_at ad σ o (by omega)]
    simp [zfv, hkd, zcv, zI, zR, zA]
  exact va_get (ref := (T j).1) hx hb hts hwd hown hK hW.1 q0 hq2 hc j hj (hts _ hw) (fun _ z => z) hv hd (k H locs la hW hS hl)

theorem z_getA8 (h : zH x own cc nL ret d) {o c j i : Nat} {C : String} {T : u_T} {N : Nat} {L : Nat} (ho : zoc o = c) (hc : vwCl[c]? = some (C, T, N)) (hk : zfd c j = (8, L)) (hw : Cond.fieldLink own i (T j).1 (T j).2.1 (T j).2.2.1 ∈ zUW) (hd : decode cc pc = .ok (.getfield i, 3)) (k : zW x K (pc + 3) ls (zA o j :: st) σ) : zW x K pc ls (zR o :: st) σ := by
  obtain ⟨p, l, e, R, s, m, args, below, meth, cd, D, ad, cs⟩ := x
  intro H locs la hW hS hl
  obtain ⟨hx, hb, hml, hr, hown, hts, hlk, rfl, hK, hinj, hE⟩ := h
  have h9 := zoc9 ho hc
  obtain ⟨hwd, hN⟩ := zwords c C T N hc
  obtain ⟨q0, hq, hq2⟩ := zwl_at ad cs σ (zkey_o h9)
  rw [zce_o] at hq2
  rw [ho] at hq2
  have hj : j < N := by
    rcases Nat.lt_or_ge j N with z | z
    · exact z
    · exfalso
      have : zfd c j = (99, 0) := by unfold zfd; exact zgd (by omega)
      rw [this] at hk
      cases hk
  have hkd : zkd o j = (8, L) := by unfold zkd; rw [ho]; exact hk
  have hv : ((List.range (zfL c).length).map (zfv ad σ o))[j]? = some (zcv ad (zA o j)) := by
    rw [zfs_at ad σ o (by omega)]
    simp [zfv, hkd, zcv, zI, zR, zA]
  exact va_get (ref := (T j).1) hx hb hts hwd hown hK hW.1 q0 hq2 hc j hj (hts _ hw) (fun _ z => z) hv hd (k H locs la hW hS hl)

theorem zRG_ss {σ : zS} (h : zRG σ) {o j : Nat} {v : Int} (hv : zrK (zkd o j).1 v) : zRG (zss σ o j v) := by
  refine ⟨fun o' j' => ?_, fun o' j' n => by rw [zar_ss]; exact h.2 o' j' n⟩
  rw [zsc_ss]
  split
  · rename_i q; obtain ⟨rfl, rfl⟩ := q; exact hv
  · exact h.1 o' j'
theorem zRG_sA {σ : zS} (h : zRG σ) {o j : Nat} {f : Int → Int} (hv : ∀ n, zrK (zkd o j).1 (f n)) : zRG (zsA σ o j f) := by
  refine ⟨fun o' j' => by rw [zsc_sA]; exact h.1 o' j', fun o' j' n => ?_⟩
  rw [zar_sA]
  split
  · rename_i q; obtain ⟨rfl, rfl⟩ := q; exact hv n
  · exact h.2 o' j' n
theorem zRG_sa {σ : zS} (h : zRG σ) {o j : Nat} {n v : Int} (hv : zrK (zkd o j).1 v) : zRG (zsa σ o j n v) := by
  refine zRG_sA h (fun m => ?_)
  unfold zup
  split
  · exact hv
  · exact h.2 o j m

theorem z_putI (h : zH x own cc nL ret d) {o c j i : Nat} {C : String} {T : u_T} {N : Nat} {L : Nat} {v : Int} (ho : zoc o = c) (hc : vwCl[c]? = some (C, T, N)) (hk : zfd c j = (0, L)) (hw : Cond.fieldLink own i (T j).1 (T j).2.1 (T j).2.2.1 ∈ zUW) (hf : (T j).2.2.2 = false) (hdd : parseFieldDescriptor (T j).2.2.1 = some .int) (hd : decode cc pc = .ok (.putfield i, 3)) (hv : -2147483648 ≤ v ∧ v ≤ 2147483647) (k : zW x K (pc + 3) ls st (zss σ o j v)) : zW x K pc ls (zI v :: zR o :: st) σ := by
  obtain ⟨p, l, e, R, s, m, args, below, meth, cd, D, ad, cs⟩ := x
  intro H locs la hW hS hl
  obtain ⟨hx, hb, hml, hr, hown, hts, hlk, rfl, hK, hinj, hE⟩ := h
  have h9 := zoc9 ho hc
  obtain ⟨hwd, hN⟩ := zwords c C T N hc
  obtain ⟨ty, hty, hnm⟩ := ztypes c C T N hc
  obtain ⟨q0, hq, hq2⟩ := zwl_at ad cs σ (zkey_o h9)
  rw [zce_o] at hq2
  rw [ho] at hq2
  have hj : j < N := by
    rcases Nat.lt_or_ge j N with z | z
    · exact z
    · exfalso
      have : zfd c j = (99, 0) := by unfold zfd; exact zgd (by omega)
      rw [this] at hk
      cases hk
  have hkd : zkd o j = (0, L) := by unfold zkd; rw [ho]; exact hk
  have hset := zfs_set ad σ o (j := j) (N := (zfL c).length) v (.int (Int32.ofInt v)) (by simp [zfv, hkd, zsc_ss])
  refine va_put (ref := (T j).1) (v := .int (Int32.ofInt v)) hx hb hts hwd ty hty hnm hown hK hW.1 (zD cs σ hinj) hS q0 hq2 hc j hj (hts _ hw) (fun _ z => z) hf hdd rfl (by simp [fits]) (by simp; omega) hd ?_
  intro H1 locs1 g1 g2 g3
  refine k H1 locs1 la ⟨?_, zRG_ss hW.2 (by rw [hkd]; exact hv)⟩ g3 hl
  rw [hset] at g1
  have := zwl_ss ad cs σ (j := j) v hq
  rw [ho] at this
  rw [← this]
  exact g1

theorem z_putZ (h : zH x own cc nL ret d) {o c j i : Nat} {C : String} {T : u_T} {N : Nat} {L : Nat} {v : Int} (ho : zoc o = c) (hc : vwCl[c]? = some (C, T, N)) (hk : zfd c j = (1, L)) (hw : Cond.fieldLink own i (T j).1 (T j).2.1 (T j).2.2.1 ∈ zUW) (hf : (T j).2.2.2 = false) (hdd : parseFieldDescriptor (T j).2.2.1 = some .boolean) (hd : decode cc pc = .ok (.putfield i, 3)) (hv : v = 0 ∨ v = 1) (k : zW x K (pc + 3) ls st (zss σ o j v)) : zW x K pc ls (zI v :: zR o :: st) σ := by
  obtain ⟨p, l, e, R, s, m, args, below, meth, cd, D, ad, cs⟩ := x
  intro H locs la hW hS hl
  obtain ⟨hx, hb, hml, hr, hown, hts, hlk, rfl, hK, hinj, hE⟩ := h
  have h9 := zoc9 ho hc
  obtain ⟨hwd, hN⟩ := zwords c C T N hc
  obtain ⟨ty, hty, hnm⟩ := ztypes c C T N hc
  obtain ⟨q0, hq, hq2⟩ := zwl_at ad cs σ (zkey_o h9)
  rw [zce_o] at hq2
  rw [ho] at hq2
  have hj : j < N := by
    rcases Nat.lt_or_ge j N with z | z
    · exact z
    · exfalso
      have : zfd c j = (99, 0) := by unfold zfd; exact zgd (by omega)
      rw [this] at hk
      cases hk
  have hkd : zkd o j = (1, L) := by unfold zkd; rw [ho]; exact hk
  have hset := zfs_set ad σ o (j := j) (N := (zfL c).length) v (.int (Int32.ofInt v)) (by simp [zfv, hkd, zsc_ss])
  refine va_put (ref := (T j).1) (v := .int (Int32.ofInt v)) hx hb hts hwd ty hty hnm hown hK hW.1 (zD cs σ hinj) hS q0 hq2 hc j hj (hts _ hw) (fun _ z => z) hf hdd (by rcases hv with rfl | rfl <;> decide) (by rcases hv with rfl | rfl <;> decide) (by simp; omega) hd ?_
  intro H1 locs1 g1 g2 g3
  refine k H1 locs1 la ⟨?_, zRG_ss hW.2 (by rw [hkd]; exact hv)⟩ g3 hl
  rw [hset] at g1
  have := zwl_ss ad cs σ (j := j) v hq
  rw [ho] at this
  rw [← this]
  exact g1

theorem z_putL (h : zH x own cc nL ret d) {o c j i : Nat} {C : String} {T : u_T} {N : Nat} {L : Nat} {v : Int64} (ho : zoc o = c) (hc : vwCl[c]? = some (C, T, N)) (hk : zfd c j = (2, L)) (hw : Cond.fieldLink own i (T j).1 (T j).2.1 (T j).2.2.1 ∈ zUW) (hf : (T j).2.2.2 = false) (hdd : parseFieldDescriptor (T j).2.2.1 = some .long) (hd : decode cc pc = .ok (.putfield i, 3)) (k : zW x K (pc + 3) ls st (zss σ o j v.toInt)) : zW x K pc ls (.long v :: zR o :: st) σ := by
  obtain ⟨p, l, e, R, s, m, args, below, meth, cd, D, ad, cs⟩ := x
  intro H locs la hW hS hl
  obtain ⟨hx, hb, hml, hr, hown, hts, hlk, rfl, hK, hinj, hE⟩ := h
  have h9 := zoc9 ho hc
  obtain ⟨hwd, hN⟩ := zwords c C T N hc
  obtain ⟨ty, hty, hnm⟩ := ztypes c C T N hc
  obtain ⟨q0, hq, hq2⟩ := zwl_at ad cs σ (zkey_o h9)
  rw [zce_o] at hq2
  rw [ho] at hq2
  have hj : j < N := by
    rcases Nat.lt_or_ge j N with z | z
    · exact z
    · exfalso
      have : zfd c j = (99, 0) := by unfold zfd; exact zgd (by omega)
      rw [this] at hk
      cases hk
  have hkd : zkd o j = (2, L) := by unfold zkd; rw [ho]; exact hk
  have hset := zfs_set ad σ o (j := j) (N := (zfL c).length) v.toInt (.long v) (by simp [zfv, hkd, zsc_ss])
  refine va_put (ref := (T j).1) (v := .long v) hx hb hts hwd ty hty hnm hown hK hW.1 (zD cs σ hinj) hS q0 hq2 hc j hj (hts _ hw) (fun _ z => z) hf hdd rfl (by simp [fits]) (by simp; omega) hd ?_
  intro H1 locs1 g1 g2 g3
  refine k H1 locs1 la ⟨?_, zRG_ss hW.2 (by rw [hkd]; have h1 := v.minValue_le_toInt; have h2 := v.toInt_le; exact ⟨h1, h2⟩)⟩ g3 hl
  rw [hset] at g1
  have := zwl_ss ad cs σ (j := j) v.toInt hq
  rw [ho] at this
  rw [← this]
  exact g1

theorem z_iald (h : zH x own cc nL ret d) {o c j L : Nat} {n : Int} (ho : zoc o = c) (hc9 : c < 9) (hk : zfd c j = (4, L)) (hL : L ≤ 2048) (h0 : 0 ≤ n) (h1 : n < (L : Int)) (hd : decode cc pc = .ok (.iaload, 1)) (k : (-2147483648 ≤ zar σ o j n ∧ zar σ o j n ≤ 2147483647) → zW x K (pc + 1) ls (zI (zar σ o j n) :: st) σ) : zW x K pc ls (zI n :: zA o j :: st) σ := by
  obtain ⟨p, l, e, R, s, m, args, below, meth, cd, D, ad, cs⟩ := x
  intro H locs la hW hS hl
  obtain ⟨hx, hb, hml, hr, hown, hts, hlk, rfl, hK, hinj, hE⟩ := h
  have h9 : zoc o < 9 := by rw [ho]; exact hc9
  have hkd : zkd o j = (4, L) := by unfold zkd; rw [ho]; exact hk
  have h60 : j < 60 := zfd_j (c := c) (by simp [hk])
  obtain ⟨q0, hq, hq2⟩ := zwl_at ad cs σ (zkey_a (j := j) h9 (by simp [hkd]) (by simp [hkd]))
  rw [zce_a _ _ _ h60] at hq2
  have he : zca ad cs σ o j = .inl (cs 0, L, .inl (fun i => Int32.ofInt (zar σ o j (i : Int)))) := by simp [zca, hkd]
  rw [he] at hq2
  have k' := k (by have := hW.2.2 o j n; rw [hkd] at this; exact this) H locs la hW hS hl
  refine va_iald (i := Int32.ofInt n) hx hb hK hW.1 q0 0 hq2 rfl (z_in h0 h1 hL) hd ?_
  rw [z_clamp h0 ⟨by omega, by omega⟩, Int.toNat_of_nonneg h0]
  exact k'

theorem z_bald (h : zH x own cc nL ret d) {o c j L : Nat} {n : Int} (ho : zoc o = c) (hc9 : c < 9) (hk : zfd c j = (5, L)) (hL : L ≤ 2048) (h0 : 0 ≤ n) (h1 : n < (L : Int)) (hd : decode cc pc = .ok (.baload, 1)) (k : (-128 ≤ zar σ o j n ∧ zar σ o j n ≤ 127) → zW x K (pc + 1) ls (zI (zar σ o j n) :: st) σ) : zW x K pc ls (zI n :: zA o j :: st) σ := by
  obtain ⟨p, l, e, R, s, m, args, below, meth, cd, D, ad, cs⟩ := x
  intro H locs la hW hS hl
  obtain ⟨hx, hb, hml, hr, hown, hts, hlk, rfl, hK, hinj, hE⟩ := h
  have h9 : zoc o < 9 := by rw [ho]; exact hc9
  have hkd : zkd o j = (5, L) := by unfold zkd; rw [ho]; exact hk
  have h60 : j < 60 := zfd_j (c := c) (by simp [hk])
  obtain ⟨q0, hq, hq2⟩ := zwl_at ad cs σ (zkey_a (j := j) h9 (by simp [hkd]) (by simp [hkd]))
  rw [zce_a _ _ _ h60] at hq2
  have he : zca ad cs σ o j = .inl (cs 1, L, .inl (fun i => Int32.ofInt (zar σ o j (i : Int)))) := by simp [zca, hkd]
  rw [he] at hq2
  have k' := k (by have := hW.2.2 o j n; rw [hkd] at this; exact this) H locs la hW hS hl
  refine va_bald (i := Int32.ofInt n) hx hb hK hW.1 q0 1 hq2 rfl (z_in h0 h1 hL) hd ?_
  rw [z_clamp h0 ⟨by omega, by omega⟩, Int.toNat_of_nonneg h0]
  exact k'

theorem z_zald (h : zH x own cc nL ret d) {o c j L : Nat} {n : Int} (ho : zoc o = c) (hc9 : c < 9) (hk : zfd c j = (6, L)) (hL : L ≤ 2048) (h0 : 0 ≤ n) (h1 : n < (L : Int)) (hd : decode cc pc = .ok (.baload, 1)) (k : (zar σ o j n = 0 ∨ zar σ o j n = 1) → zW x K (pc + 1) ls (zI (zar σ o j n) :: st) σ) : zW x K pc ls (zI n :: zA o j :: st) σ := by
  obtain ⟨p, l, e, R, s, m, args, below, meth, cd, D, ad, cs⟩ := x
  intro H locs la hW hS hl
  obtain ⟨hx, hb, hml, hr, hown, hts, hlk, rfl, hK, hinj, hE⟩ := h
  have h9 : zoc o < 9 := by rw [ho]; exact hc9
  have hkd : zkd o j = (6, L) := by unfold zkd; rw [ho]; exact hk
  have h60 : j < 60 := zfd_j (c := c) (by simp [hk])
  obtain ⟨q0, hq, hq2⟩ := zwl_at ad cs σ (zkey_a (j := j) h9 (by simp [hkd]) (by simp [hkd]))
  rw [zce_a _ _ _ h60] at hq2
  have he : zca ad cs σ o j = .inl (cs 2, L, .inl (fun i => Int32.ofInt (zar σ o j (i : Int)))) := by simp [zca, hkd]
  rw [he] at hq2
  have k' := k (by have := hW.2.2 o j n; rw [hkd] at this; exact this) H locs la hW hS hl
  refine va_zald (i := Int32.ofInt n) hx hb hK hW.1 q0 2 hq2 rfl (z_in h0 h1 hL) hd ?_
  rw [z_clamp h0 ⟨by omega, by omega⟩, Int.toNat_of_nonneg h0]
  exact k'

theorem z_iast (h : zH x own cc nL ret d) {o c j L : Nat} {n v : Int} (ho : zoc o = c) (hc9 : c < 9) (hk : zfd c j = (4, L)) (hL : L ≤ 2048) (h0 : 0 ≤ n) (h1 : n < (L : Int)) (hv : -2147483648 ≤ v ∧ v ≤ 2147483647) (hd : decode cc pc = .ok (.iastore, 1)) (k : zW x K (pc + 1) ls st (zsa σ o j n v)) : zW x K pc ls (zI v :: zI n :: zA o j :: st) σ := by
  obtain ⟨p, l, e, R, s, m, args, below, meth, cd, D, ad, cs⟩ := x
  intro H locs la hW hS hl
  obtain ⟨hx, hb, hml, hr, hown, hts, hlk, rfl, hK, hinj, hE⟩ := h
  have h9 : zoc o < 9 := by rw [ho]; exact hc9
  have hkd : zkd o j = (4, L) := by unfold zkd; rw [ho]; exact hk
  have h60 : j < 60 := zfd_j (c := c) (by simp [hk])
  obtain ⟨q0, hq, hq2⟩ := zwl_at ad cs σ (zkey_a (j := j) h9 (by simp [hkd]) (by simp [hkd]))
  rw [zce_a _ _ _ h60] at hq2
  have he : ∀ τ, zca ad cs τ o j = .inl (cs 0, L, .inl (fun i => Int32.ofInt (zar τ o j (i : Int)))) := by intro τ; simp [zca, hkd]
  rw [he] at hq2
  refine va_iast (i := Int32.ofInt n) (x := Int32.ofInt v) hx hb hK hW.1 (zD cs σ hinj) hS q0 0 hq2 rfl (z_in h0 h1 hL) hd ?_
  intro H1 locs1 g1 g2 g3
  refine k H1 locs1 la ⟨?_, zRG_sa hW.2 (by rw [hkd]; exact hv)⟩ g3 hl
  have := zwl_sA ad cs σ (zup (zar σ o j) n v) h60 hq
  rw [he] at this
  unfold zsa
  rw [← this]
  have hf : upd (fun i => Int32.ofInt (zar σ o j (i : Int))) (Int32.ofInt n).toNatClampNeg (Int32.ofInt v) = fun (i : Nat) => Int32.ofInt (zar (zsA σ o j (zup (zar σ o j) n v)) o j (i : Int)) := by
    skip
    funext i
    rw [zar_sA, if_pos ⟨rfl, rfl⟩, z_clamp h0 ⟨by omega, by omega⟩]
    unfold upd zup
    by_cases e : i = n.toNat
    · rw [if_pos e, if_pos (by omega)]
    · rw [if_neg e, if_neg (by omega)]
  rw [hf] at g1
  exact g1

theorem z_bast (h : zH x own cc nL ret d) {o c j L : Nat} {n v : Int} (ho : zoc o = c) (hc9 : c < 9) (hk : zfd c j = (5, L)) (hL : L ≤ 2048) (h0 : 0 ≤ n) (h1 : n < (L : Int)) (hv : -128 ≤ v ∧ v ≤ 127) (hd : decode cc pc = .ok (.bastore, 1)) (k : zW x K (pc + 1) ls st (zsa σ o j n v)) : zW x K pc ls (zI v :: zI n :: zA o j :: st) σ := by
  obtain ⟨p, l, e, R, s, m, args, below, meth, cd, D, ad, cs⟩ := x
  intro H locs la hW hS hl
  obtain ⟨hx, hb, hml, hr, hown, hts, hlk, rfl, hK, hinj, hE⟩ := h
  have h9 : zoc o < 9 := by rw [ho]; exact hc9
  have hkd : zkd o j = (5, L) := by unfold zkd; rw [ho]; exact hk
  have h60 : j < 60 := zfd_j (c := c) (by simp [hk])
  obtain ⟨q0, hq, hq2⟩ := zwl_at ad cs σ (zkey_a (j := j) h9 (by simp [hkd]) (by simp [hkd]))
  rw [zce_a _ _ _ h60] at hq2
  have he : ∀ τ, zca ad cs τ o j = .inl (cs 1, L, .inl (fun i => Int32.ofInt (zar τ o j (i : Int)))) := by intro τ; simp [zca, hkd]
  rw [he] at hq2
  have hnar : vp_nar .byte (Int32.ofInt v) = Int32.ofInt v := by
    rw [vp_nar_byte, Int32.toInt8_ofInt]
    apply Int32.toInt_inj.mp
    rw [Int8.toInt_toInt32, Int8.toInt_ofInt_of_le (by omega) (by omega), z_toInt ⟨by omega, by omega⟩]
  refine va_bast (i := Int32.ofInt n) (x := Int32.ofInt v) hx hb hK hW.1 (zD cs σ hinj) hS q0 1 hq2 rfl (z_in h0 h1 hL) hd ?_
  intro H1 locs1 g1 g2 g3
  refine k H1 locs1 la ⟨?_, zRG_sa hW.2 (by rw [hkd]; exact hv)⟩ g3 hl
  have := zwl_sA ad cs σ (zup (zar σ o j) n v) h60 hq
  rw [he] at this
  unfold zsa
  rw [← this]
  have hf : upd (fun i => Int32.ofInt (zar σ o j (i : Int))) (Int32.ofInt n).toNatClampNeg (vp_nar .byte (Int32.ofInt v)) = fun (i : Nat) => Int32.ofInt (zar (zsA σ o j (zup (zar σ o j) n v)) o j (i : Int)) := by
    rw [hnar]
    funext i
    rw [zar_sA, if_pos ⟨rfl, rfl⟩, z_clamp h0 ⟨by omega, by omega⟩]
    unfold upd zup
    by_cases e : i = n.toNat
    · rw [if_pos e, if_pos (by omega)]
    · rw [if_neg e, if_neg (by omega)]
  rw [hf] at g1
  exact g1

theorem z_zast (h : zH x own cc nL ret d) {o c j L : Nat} {n v : Int} (ho : zoc o = c) (hc9 : c < 9) (hk : zfd c j = (6, L)) (hL : L ≤ 2048) (h0 : 0 ≤ n) (h1 : n < (L : Int)) (hv : v = 0 ∨ v = 1) (hd : decode cc pc = .ok (.bastore, 1)) (k : zW x K (pc + 1) ls st (zsa σ o j n v)) : zW x K pc ls (zI v :: zI n :: zA o j :: st) σ := by
  obtain ⟨p, l, e, R, s, m, args, below, meth, cd, D, ad, cs⟩ := x
  intro H locs la hW hS hl
  obtain ⟨hx, hb, hml, hr, hown, hts, hlk, rfl, hK, hinj, hE⟩ := h
  have h9 : zoc o < 9 := by rw [ho]; exact hc9
  have hkd : zkd o j = (6, L) := by unfold zkd; rw [ho]; exact hk
  have h60 : j < 60 := zfd_j (c := c) (by simp [hk])
  obtain ⟨q0, hq, hq2⟩ := zwl_at ad cs σ (zkey_a (j := j) h9 (by simp [hkd]) (by simp [hkd]))
  rw [zce_a _ _ _ h60] at hq2
  have he : ∀ τ, zca ad cs τ o j = .inl (cs 2, L, .inl (fun i => Int32.ofInt (zar τ o j (i : Int)))) := by intro τ; simp [zca, hkd]
  rw [he] at hq2
  have hnar : vp_nar .boolean (Int32.ofInt v) = Int32.ofInt v := by rcases hv with rfl | rfl <;> decide
  refine va_zast (i := Int32.ofInt n) (x := Int32.ofInt v) hx hb hK hW.1 (zD cs σ hinj) hS q0 2 hq2 rfl (z_in h0 h1 hL) hd ?_
  intro H1 locs1 g1 g2 g3
  refine k H1 locs1 la ⟨?_, zRG_sa hW.2 (by rw [hkd]; exact hv)⟩ g3 hl
  have := zwl_sA ad cs σ (zup (zar σ o j) n v) h60 hq
  rw [he] at this
  unfold zsa
  rw [← this]
  have hf : upd (fun i => Int32.ofInt (zar σ o j (i : Int))) (Int32.ofInt n).toNatClampNeg (vp_nar .boolean (Int32.ofInt v)) = fun (i : Nat) => Int32.ofInt (zar (zsA σ o j (zup (zar σ o j) n v)) o j (i : Int)) := by
    rw [hnar]
    funext i
    rw [zar_sA, if_pos ⟨rfl, rfl⟩, z_clamp h0 ⟨by omega, by omega⟩]
    unfold upd zup
    by_cases e : i = n.toNat
    · rw [if_pos e, if_pos (by omega)]
    · rw [if_neg e, if_neg (by omega)]
  rw [hf] at g1
  exact g1

theorem z_aald (h : zH x own cc nL ret d) {o c j L kd : Nat} {n : Int} (ho : zoc o = c) (hc9 : c < 9) (hkk : kd = 7 ∨ kd = 8) (hk : zfd c j = (kd, L)) (hL : L ≤ 2048) (h0 : 0 ≤ n) (h1 : n < (L : Int)) (hd : decode cc pc = .ok (.aaload, 1)) (k : zrK kd (zar σ o j n) → zW x K (pc + 1) ls (zR (zar σ o j n).toNat :: st) σ) : zW x K pc ls (zI n :: zA o j :: st) σ := by
  obtain ⟨p, l, e, R, s, m, args, below, meth, cd, D, ad, cs⟩ := x
  intro H locs la hW hS hl
  obtain ⟨hx, hb, hml, hr, hown, hts, hlk, rfl, hK, hinj, hE⟩ := h
  have h9 : zoc o < 9 := by rw [ho]; exact hc9
  have hkd : zkd o j = (kd, L) := by unfold zkd; rw [ho]; exact hk
  have h60 : j < 60 := zfd_j (c := c) (by rcases hkk with rfl | rfl <;> simp [hk])
  obtain ⟨q0, hq, hq2⟩ := zwl_at ad cs σ (zkey_a (j := j) h9 (by rcases hkk with rfl | rfl <;> simp [hkd]) (by rcases hkk with rfl | rfl <;> simp [hkd]))
  rw [zce_a _ _ _ h60] at hq2
  have he : zca ad cs σ o j = .inl (cs (kd - 4), L, .inr (.inr (.inr (.inr (fun i => some (ad (64 * (zar σ o j (i : Int)).toNat))))))) := by
    have : ¬ kd < 7 := by rcases hkk with rfl | rfl <;> decide
    simp [zca, hkd, this]
  rw [he] at hq2
  have k' := k (by have := hW.2.2 o j n; rw [hkd] at this; exact this) H locs la hW hS hl
  have fin : ∀ (t0 : Nat) (C : String), (zty cs)[t0]? = some (cs (kd - 4), .object C) → W p l e (zrm d) s m args below meth cd H locs 0 0 (MQ below (zQ D ad cs K) args s 0 0 (zAs ad)) (F0 m pc la (List.map (zcv ad) (zI n :: zA o j :: st))) := by
    intro t0 C ht
    refine va_aldq (i := Int32.ofInt n) hx hb hK hW.1 q0 t0 hq2 ht (z_in h0 h1 hL) hd ?_
    rw [z_clamp h0 ⟨by omega, by omega⟩]
    rw [show ((n.toNat : Nat) : Int) = n from Int.toNat_of_nonneg h0]
    exact k'
  rcases hkk with rfl | rfl
  · exact fin 3 RX3 rfl
  · exact fin 4 RX2 rfl

theorem z_aast (h : zH x own cc nL ret d) {o c j L q : Nat} {n : Int} (ho : zoc o = c) (hc9 : c < 9) (hk : zfd c j = (7, L)) (hL : L ≤ 2048) (h0 : 0 ≤ n) (h1 : n < (L : Int)) (hq3 : zoc q = 3) (hd : decode cc pc = .ok (.aastore, 1)) (k : zW x K (pc + 1) ls st (zsa σ o j n (q : Int))) : zW x K pc ls (zR q :: zI n :: zA o j :: st) σ := by
  obtain ⟨p, l, e, R, s, m, args, below, meth, cd, D, ad, cs⟩ := x
  intro H locs la hW hS hl
  obtain ⟨hx, hb, hml, hr, hown, hts, hlk, rfl, hK, hinj, hE⟩ := h
  have h9 : zoc o < 9 := by rw [ho]; exact hc9
  have hkd : zkd o j = (7, L) := by unfold zkd; rw [ho]; exact hk
  have h60 : j < 60 := zfd_j (c := c) (by simp [hk])
  obtain ⟨q0, hq, hq2⟩ := zwl_at ad cs σ (zkey_a (j := j) h9 (by simp [hkd]) (by simp [hkd]))
  rw [zce_a _ _ _ h60] at hq2
  have he : ∀ τ, zca ad cs τ o j = .inl (cs 3, L, .inr (.inr (.inr (.inr (fun i => some (ad (64 * (zar τ o j (i : Int)).toNat))))))) := by intro τ; simp [zca, hkd]
  rw [he] at hq2
  obtain ⟨q1, hq1, hq4⟩ := zwl_at ad cs σ (zkey_o (o := q) (by rw [hq3]; decide))
  rw [zce_o, hq3] at hq4
  refine va_astq (i := Int32.ofInt n) (r := (RX3, TX3, 4)) (v := ad (64 * q)) hx hb hK hW.1 (zD cs σ hinj) hS q0 3 q1 3 hq2 rfl hq4 rfl (z_in h0 h1 hL) hd ?_
  intro H1 locs1 g1 g2 g3
  refine k H1 locs1 la ⟨?_, zRG_sa hW.2 (by rw [hkd]; exact ⟨by omega, by simpa using hq3⟩)⟩ g3 hl
  have := zwl_sA ad cs σ (zup (zar σ o j) n (q : Int)) h60 hq
  rw [he] at this
  unfold zsa
  rw [← this]
  have hf : va_up (fun i => some (ad (64 * (zar σ o j ((i : Nat) : Int)).toNat))) (Int32.ofInt n).toNatClampNeg (some (ad (64 * q))) = fun i => some (ad (64 * (zar (zsA σ o j (zup (zar σ o j) n (q : Int))) o j ((i : Nat) : Int)).toNat)) := by
    funext i
    rw [zar_sA, if_pos ⟨rfl, rfl⟩, z_clamp h0 ⟨by omega, by omega⟩]
    unfold va_up zup
    by_cases e : i = n.toNat
    · rw [if_pos e, if_pos (by omega)]; simp
    · rw [if_neg e, if_neg (by omega)]
  rw [hf] at g1
  exact g1

theorem z_alen4 (h : zH x own cc nL ret d) {o c j L : Nat} (ho : zoc o = c) (hc9 : c < 9) (hk : zfd c j = (4, L)) (hd : decode cc pc = .ok (.arraylength, 1)) (k : zW x K (pc + 1) ls (zI (L : Int) :: st) σ) : zW x K pc ls (zA o j :: st) σ := by
  obtain ⟨p, l, e, R, s, m, args, below, meth, cd, D, ad, cs⟩ := x
  intro H locs la hW hS hl
  obtain ⟨hx, hb, hml, hr, hown, hts, hlk, rfl, hK, hinj, hE⟩ := h
  have h9 : zoc o < 9 := by rw [ho]; exact hc9
  have hkd : zkd o j = (4, L) := by unfold zkd; rw [ho]; exact hk
  have h60 : j < 60 := zfd_j (c := c) (by simp [hk])
  obtain ⟨q0, hq, hq2⟩ := zwl_at ad cs σ (zkey_a (j := j) h9 (by simp [hkd]) (by simp [hkd]))
  rw [zce_a _ _ _ h60] at hq2
  have he : zca ad cs σ o j = .inl (cs 0, L, .inl (fun i => Int32.ofInt (zar σ o j (i : Int)))) := by simp [zca, hkd]
  rw [he] at hq2
  exact va_alen hx hb hK hW.1 q0 0 hq2 rfl (v := Int32.ofInt (L : Int)) (by simp [Int32.ofInt_eq_ofNat]) hd (k H locs la hW hS hl)

theorem z_alen8 (h : zH x own cc nL ret d) {o c j L : Nat} (ho : zoc o = c) (hc9 : c < 9) (hk : zfd c j = (8, L)) (hd : decode cc pc = .ok (.arraylength, 1)) (k : zW x K (pc + 1) ls (zI (L : Int) :: st) σ) : zW x K pc ls (zA o j :: st) σ := by
  obtain ⟨p, l, e, R, s, m, args, below, meth, cd, D, ad, cs⟩ := x
  intro H locs la hW hS hl
  obtain ⟨hx, hb, hml, hr, hown, hts, hlk, rfl, hK, hinj, hE⟩ := h
  have h9 : zoc o < 9 := by rw [ho]; exact hc9
  have hkd : zkd o j = (8, L) := by unfold zkd; rw [ho]; exact hk
  have h60 : j < 60 := zfd_j (c := c) (by simp [hk])
  obtain ⟨q0, hq, hq2⟩ := zwl_at ad cs σ (zkey_a (j := j) h9 (by simp [hkd]) (by simp [hkd]))
  rw [zce_a _ _ _ h60] at hq2
  have he : zca ad cs σ o j = .inl (cs 4, L, .inr (.inr (.inr (.inr (fun i => some (ad (64 * (zar σ o j (i : Int)).toNat))))))) := by simp [zca, hkd]
  rw [he] at hq2
  exact va_alen hx hb hK hW.1 q0 4 hq2 rfl (v := Int32.ofInt (L : Int)) (by simp [Int32.ofInt_eq_ofNat]) hd (k H locs la hW hS hl)

end ZROWS
