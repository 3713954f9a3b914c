/-! THE CLAIM OUT OF ONE WALK OF THE LAW'S BODY. Your part is whole_start (and what it stands on); all else here is the same for every law, but numbers. -/
def R_law : String := "DockTurnsLaw"
def lw_P (b : Addr) (xs : List Int32) (args : Array Value) (s : State) : Prop := args = #[.ref b] ∧ s.IntsAt b xs ∧ xs.length ≤ 2048 ∧ (Jvm.Cond.and given_1 narrow_1).before args s = true
def lw_Q (_ : Array Value) (s : State) (o : Outcome) (t : State) : Prop := o = .returned (some (.int 1)) ∧ Framed s o t [] 601024 7293034
def lw_Z (below : List Frame) (a : Array Value) (s : State) : State → Prop := fun t => ∃ o, t.status = .running ∧ Ended t below o ∧ lw_Q a s o t
/-- the law's own end, with 1 on the stack, nothing written that was there before, its room as the claim has it -/
theorem lw_ret {p : Program} {l : Launch} {e : Env} {s : State} {m : MethodId} {below : List Frame} {meth : Method} {c : Code} {b : Nat} (hx : p.tables.exec = Jvm.exec) (hb : c.code = code) (hr : meth.sig.returnType = ret) (hlocks : meth.locks = false) {pc : Nat} {H : Heap} {ls : Array Slot} (hdg : decode code pc = .ok (.ireturn, 1)) : W p l e room_1 s m #[Value.ref b] below meth c H [] 601024 7293034 (lw_Z below #[Value.ref b] s) (F0 m pc ls [.int 1]) := by
  intro T hT X
  obtain ⟨fs, hret, hrun, hended, hW, hframe⟩ := X.leave (v := some (.int 1)) (hlocks := hlocks) (fun h => by rw [hr] at h; cases h)
  have hmeth' : T.vm.method? m = some meth := X.method'
  refine ⟨T.setFrames fs, ?_, .returned (some (.int 1)), hrun, hended, rfl, ⟨_, rfl⟩, hW, hframe⟩
  jvm_step X.here [X.here.top, hx, hb, hdg, hmeth', hr, ret, narrow_b1]
  (try refine ⟨rfl, ?_⟩); (try refine ⟨rfl, ?_⟩)
  first | (intro acts; rw [hret _ acts rfl rfl rfl]) | rw [hret _ _ rfl rfl rfl]
  exact Steps.refl _
/-- what holds at the law's entry: the machine, the code, the tables' words (any of lw_tbl by 'hts w (by decide +kernel)'), the script of L ints xs at the cell b, what the Statement gives of the start (any of its parts by flat_of_before) -/
def lw_At (p : Program) (s : State) (m : MethodId) (meth : Method) (c : Code) (b L : Nat) (xs : Nat → Int32) : Prop :=
  p.tables.exec = Jvm.exec ∧ c.code = code ∧ meth.sig.returnType = ret ∧ c.maxLocals = 7 ∧ s.vm.findClass R_law = some m.cls ∧ (∀ w ∈ lw_tbl, w.before #[Value.ref b] s = true) ∧ va_X b L xs s s.heap ∧ b < s.heap.size ∧ meth.locks = false ∧ (Jvm.Cond.and given_1 narrow_1).before #[Value.ref b] s = true
theorem whole_start {p : Program} {e : Env} {s : State} {m : MethodId} {below : List Frame} {meth : Method} {c : Code} (l : Launch) (hflags : l.flags = flags0) {b L : Nat} {xs : Nat → Int32} (hL : L ≤ 2048) (C0 : lw_At p s m meth c b L xs) : W p l e room_1 s m #[Value.ref b] below meth c s.heap [] 0 0 (lw_Z below #[Value.ref b] s) (entryFrame m ([Value.ref b] : List Value).toArray 7) := by
  obtain ⟨hx, hb, hr, hml, hown, hts, hX, hbl, hlocks, hgv⟩ := id C0
  have hf : ∀ w ∈ lfc, w.before #[Value.ref b] s = true := flat_of_before _ hgv
  have hz : ∀ w ∈ zUW, w.before #[Value.ref b] s = true := fun w hw => hts w (zUW_in w hw)
  obtain ⟨D, cs, cL, hK, hKL⟩ := lw_known hz (hts _ lt_o3) (hts _ lt_o2)
  obtain ⟨ext, e0, e1, hE⟩ := lw_ext b hts hf
  have hXP := lw_xp hts hf
  have hN : cN s := ⟨fun n hn => va_Nw.of rfl (hts _ (lt_nd n hn)), va_AO.of (hts _ lt_o3), va_AO.of (hts _ lt_o2)⟩
  have hst : l.stackTraces = false := by
    unfold Launch.stackTraces
    rw [hflags]
    decide +kernel
  have h40 : zad s.heap.size ext 400000 = b := by
    unfold zad
    rw [if_neg (by decide), e0]
  have h41 : zad s.heap.size ext 400001 = s.heap.size + 187 := by
    unfold zad
    rw [if_neg (by decide), e1]
  have hroom : 12 ≤ room_1.frames ∧ 27 * 12 ≤ room_1.locals := ⟨Nat.le_of_ble_eq_true rfl, Nat.le_of_ble_eq_true rfl⟩
  have hC : cH (p, l, e, room_1, s, m, #[Value.ref b], below, meth, c, D, cs, s.heap.size) RL cL_law 7 12 := ⟨hx, hb, hml, hown, hz, hroom, hK, hN⟩
  have hY : yH (p, l, e, room_1, s, m, #[Value.ref b], below, meth, c, D, zad s.heap.size ext, cs) RL cL_law 7 12 := ⟨hx, hb, hml, hown, hz, hroom, hK, zad_inj⟩
  have hT : lT (p, l, e, room_1, s, m, #[Value.ref b], below, meth, c, D, zad s.heap.size ext, cs) cL := ⟨hst, fun z => by have := zad_As z; rw [h41] at this; omega, hKL, hE, hXP, fun q z => (zad_As z).1, by rw [h41]; omega⟩
  have hS : lS (p, l, e, room_1, s, m, #[Value.ref b], below, meth, c, D, zad s.heap.size ext, cs) L xs := ⟨by rw [h40]; exact hX, by rw [h40]; exact hbl⟩
  have hend : ∀ (nc' ns' : Nat) (i' : Int) (σ' : zS) (v' : Int64), nc' ≤ 188 + 512 → ns' ≤ 7291 + 6 * 512 → yW (p, l, e, room_1, s, m, #[Value.ref b], below, meth, c, D, zad s.heap.size ext, cs) (lA (p, l, e, room_1, s, m, #[Value.ref b], below, meth, c, D, zad s.heap.size ext, cs)) (lEx (p, l, e, room_1, s, m, #[Value.ref b], below, meth, c, D, zad s.heap.size ext, cs) cL v') nc' ns' (lw_Z below #[Value.ref b] s) 1048 (lls i') [] σ' := by
    intro nc' ns' i' σ' v' g1 g2 H locs la hW hS' hE' hl'
    refine lv_iconst (v := 1) hx hb dL_law_1048 (by decide) ?_
    refine va_forget (fun q hq => hS'.2.2 q hq) ?_
    exact W.widen (k := 601024) (n := 7293034) (by omega) (by omega) (lw_ret hx hb hr hlocks dL_law_1049)
  have hlp := l_loop (Q := lw_Z below #[Value.ref b] s) hY hT hS hL 512 188 7291 0 s0 0 (by decide) (by decide) (by omega) ⟨Nat.le_of_ble_eq_true rfl, Nat.le_of_ble_eq_true rfl⟩ REL_0 hend
  have hstart : yW (p, l, e, room_1, s, m, #[Value.ref b], below, meth, c, D, zad s.heap.size ext, cs) (lA (p, l, e, room_1, s, m, #[Value.ref b], below, meth, c, D, zad s.heap.size ext, cs)) (lEx (p, l, e, room_1, s, m, #[Value.ref b], below, meth, c, D, zad s.heap.size ext, cs) cL 0) 188 7291 (lw_Z below #[Value.ref b] s) 20 [some (.ref 400000), some (zR 0), some (zR 31), some (.ref 400001), none, none, none] [] s0 := by
    refine y_iconst (pc := 20) hY dL_law_20 ?_
    refine y_istoreG (pc := 21) (i := 4) hY dL_law_21 (Nat.le_of_ble_eq_true rfl) (by decide) (ngh (i := 3) (w := .ref 400001) rfl rfl) ?_
    exact hlp
  have hm := l_make (x := (p, l, e, room_1, s, m, #[Value.ref b], below, meth, c, D, cs, s.heap.size)) (b := b) (cL := cL) hC (fun nc ns g1 g2 => ⟨g1, g2⟩) (hKL.2 0 _ rfl) (l_enter e0 e1 hml hstart)
  have hl := lv_entry ([.ref b]) (n := 7) (Nat.le_of_ble_eq_true rfl)
  rw [lg_entry_eq]
  exact hm s.heap [] _ ⟨fun i e hi => (by cases hi), rfl⟩ va_S.rf ⟨by rw [hml]; exact hl.1, hl.2.1, fun i v h => hl.2.2 (i, _) (by have := zls_mem id [.ref b] 0 i v (zls_in (n := 6) rfl h); rw [Nat.zero_add] at this; rw [zcv_ids] at this; exact this)⟩
