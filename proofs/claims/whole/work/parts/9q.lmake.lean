/-! The law makes its objects. -/
theorem l_make {x : cX} {Q : State → Prop} {cL : ClassId} {b : Nat} (h : cH x RL cL_law 7 12) (hF : ∀ nc ns, nc ≤ 601024 → ns ≤ 7293034 → cF x nc ns) (hT : cT x cL .long)
    (k : cW x 188 7291 Q 20 [some (.ref b), some (.ref (cA x)), some (.ref (cA x + 162)), some (.ref (cA x + 187)), none, none, none] [] ((bX7 (cC x) (cA x) ++ bX8 (cC x) (cA x + 162)) ++ [.inl (cL, 1, .inr (.inl (fun _ => 0)))])) : cW x 0 0 Q 0 [some (.ref b), none, none, none, none, none, none] [] [] := by
  refine n_new (pc := 0) (c := 7) (L := 0) (fs := cdf 7) h tyX7 tyX7_ok cdf_7 rfl cl_L_8 ot_instantiable_RX7_12 ini_RX7 (hF _ _ (by decide) (by decide)) rfl dL_law_0 ?_
  refine n_eq (B' := [.inr (7, cdf 7)]) rfl ?_
  refine n_dup (pc := 3) h dL_law_3 ?_
  refine n_call (pc := 4) (np := 0) (i := 0) (as := []) (st := [.ref (cA x)]) (P := []) (B0 := [.inr (7, cdf 7)]) h k_X7 rfl rfl (by decide) (hF _ _ (by decide) (by decide)) co_X7_init ini_RX7 ml_L_21 im_X7_init rfl ⟨by decide, by decide, by decide +kernel⟩ (by decide) rfl dL_law_4 rfl (Nat.le_of_ble_eq_true rfl) ?_
  refine n_eq (B' := bX7 (cC x) (cA x)) rfl ?_
  refine n_astore_n (pc := 7) h dL_law_7 (Nat.le_of_ble_eq_true rfl) (by decide) (ngh (i := 0) (w := .ref b) rfl rfl) ?_
  refine n_new (pc := 8) (c := 8) (L := 162) (fs := cdf 8) h tyX8 tyX8_ok cdf_8 rfl cl_L_22 ot_instantiable_RX8_48 ini_RX8 (hF _ _ (by decide) (by decide)) (bX7_len _ _) dL_law_8 ?_
  refine n_dup (pc := 11) h dL_law_11 ?_
  refine n_call (pc := 12) (np := 0) (i := 162) (as := []) (st := [.ref (cA x + 162)]) (P := bX7 (cC x) (cA x)) (B0 := [.inr (8, cdf 8)]) h k_X8 rfl (bX7_len _ _) (by decide) (hF _ _ (by decide) (by decide)) co_X8_init ini_RX8 ml_L_24 im_X8_init rfl ⟨by decide, by decide, by decide +kernel⟩ (by decide) rfl dL_law_12 rfl (Nat.le_of_ble_eq_true rfl) ?_
  refine n_astore_n (pc := 15) h dL_law_15 (Nat.le_of_ble_eq_true rfl) (by decide) (ngh (i := 1) (w := .ref (cA x)) rfl rfl) ?_
  refine n_iconst (pc := 16) h dL_law_16 ?_
  refine n_newa (pc := 17) (ty := .long) (N' := 1) (L := 187) (a1 := (1, .inr (.inl (fun _ => 0)))) h hT ot_arrayClass__long rfl (fun _ => rfl) (by decide) (by decide) (by decide) (hF _ _ (by decide) (by decide)) (by rw [List.length_append, bX7_len, bX8_len]) dL_law_17 ?_
  refine n_astore_n (pc := 19) h dL_law_19 (Nat.le_of_ble_eq_true rfl) (by decide) (ngh (i := 2) (w := .ref (cA x + 162)) rfl rfl) ?_
  exact k
/-- the world behind the constructors, seen as the law's loop sees it -/
theorem l_enter {p : Program} {l : Launch} {e : Env} {R : Room} {s : State} {m : MethodId} {args : Array Value} {below : List Frame} {meth : Method} {c : Code} {D : va_G} {cs : Nat → ClassId} {ext : Nat → Nat} {Q : State → Prop} {cL : ClassId} {nc ns : Nat} {b : Nat}
    (e0 : ext 400000 = b) (e1 : ext 400001 = s.heap.size + 187) (hml : c.maxLocals = 7)
    (k : yW (p, l, e, R, s, m, args, below, meth, c, D, zad s.heap.size ext, cs) (lA (p, l, e, R, s, m, args, below, meth, c, D, zad s.heap.size ext, cs)) (lEx (p, l, e, R, s, m, args, below, meth, c, D, zad s.heap.size ext, cs) cL 0) nc ns Q 20 [some (.ref 400000), some (zR 0), some (zR 31), some (.ref 400001), none, none, none] [] s0) :
    cW (p, l, e, R, s, m, args, below, meth, c, D, cs, s.heap.size) nc ns Q 20 [some (.ref b), some (.ref s.heap.size), some (.ref (s.heap.size + 162)), some (.ref (s.heap.size + 187)), none, none, none] [] ((bX7 cs s.heap.size ++ bX8 cs (s.heap.size + 162)) ++ [.inl (cL, 1, .inr (.inl (fun _ => 0)))]) := by
  intro H locs la hP hS hl
  have hR : cR D s.heap.size ((bX7 cs s.heap.size ++ bX8 cs (s.heap.size + 162)) ++ [.inl (cL, 1, .inr (.inl (fun _ => 0)))]) H := hP.1
  have h7 := hR.l.l
  have h8 := hR.l.r (q := s.heap.size + 162) (by rw [bX7_len])
  have h9 := hR.r (q := s.heap.size + 187) (by rw [List.length_append, bX7_len, bX8_len])
  have hO : yO D (zad s.heap.size ext) cL 0 H := by
    intro i q hi
    cases i with
    | zero =>
      cases hi
      have := h9 0 _ rfl
      have e2 : zad s.heap.size ext 400001 = s.heap.size + 187 + 0 := by
        unfold zad
        rw [if_neg (by decide), e1]
      rw [e2]
      exact this
    | succ i => cases hi
  refine k H locs la ⟨w0_all h7 h8, zRG_0⟩ hS ⟨hO, fun q hq => hS.2.1 q hq (Nat.not_le.mpr hq)⟩ ⟨hl.1, hl.2.1, fun i v hi => ?_⟩
  match i, hi with
  | 0, hi => 
    cases hi
    have := hl.2.2 0 (.ref b) rfl
    have e2 : zad s.heap.size ext 400000 = b := by
      unfold zad
      rw [if_neg (by decide), e0]
    show la[0]? = some (.val (.ref (zad s.heap.size ext 400000)))
    rw [e2]
    exact this
  | 1, hi => cases hi; exact hl.2.2 1 (.ref s.heap.size) rfl
  | 2, hi => cases hi; exact hl.2.2 2 (.ref (s.heap.size + 162)) rfl
  | 3, hi =>
    cases hi
    have := hl.2.2 3 (.ref (s.heap.size + 187)) rfl
    have e2 : zad s.heap.size ext 400001 = s.heap.size + 187 := by
      unfold zad
      rw [if_neg (by decide), e1]
    show la[3]? = some (.val (.ref (zad s.heap.size ext 400001)))
    rw [e2]
    exact this
  | 4, hi => cases hi
  | 5, hi => cases hi
  | 6, hi => cases hi
  | _ + 7, hi => cases hi
