/-! Constructors: Arrays.fill on an array just made. -/
theorem arrV_congr {c : ClassId} {n : Nat} {f g : Nat → Value} (h : ∀ i, i < n → f i = g i) : arrV c n f = arrV c n g := by
  have e : (arrV c n f).slots = (arrV c n g).slots := by
    apply Array.ext_getElem?
    intro i
    rcases Nat.lt_or_ge i n with q | q
    · rw [arrV_read c f q, arrV_read c g q, h i q]
    · rw [Array.getElem?_eq_none (by rw [arrV_size]; exact q), Array.getElem?_eq_none (by rw [arrV_size]; exact q)]
  show ({ cls := c, slots := (arrV c n f).slots, vm := .none } : Cell) = { cls := c, slots := (arrV c n g).slots, vm := .none }
  rw [e]
theorem va_at.arr {D : va_G} {q n : Nat} {c : ClassId} {f g : Nat → Int32} {H : Heap} (h : va_at D vwCl (q, .inl (c, n, .inl f)) H) (hfg : ∀ i, i < n → f i = g i) : va_at D vwCl (q, .inl (c, n, .inl g)) H := by
  show H[q]? = some (vp_cell c (n, .inl g))
  rw [vp_cell_i, ← arrV_congr (f := fun j => Value.int (f j)) (fun i hi => by rw [hfg i hi]), ← vp_cell_i]
  exact h
theorem va_at.arq {D : va_G} {q n : Nat} {c : ClassId} {f g : Nat → Option Nat} {H : Heap} (h : va_at D vwCl (q, .inl (c, n, .inr (.inr (.inr (.inr f))))) H) (hfg : ∀ i, i < n → f i = g i) : va_at D vwCl (q, .inl (c, n, .inr (.inr (.inr (.inr g))))) H := by
  show H[q]? = some (vp_cell c (n, .inr (.inr (.inr (.inr g)))))
  rw [vp_cell_q, ← arrV_congr (f := fun j => va_rf (f j)) (fun i hi => by rw [hfg i hi]), ← vp_cell_q]
  exact h
theorem cP.arr {D : va_G} {a i n : Nat} {B : List va_E} {c : ClassId} {f g : Nat → Int32} {H : Heap} (h : cP D a B H) (hi : B[i]? = some (.inl (c, n, .inl f))) (hfg : ∀ i, i < n → f i = g i) : cP D a (B.set i (.inl (c, n, .inl g))) H := h.set hi (va_at.arr (h.1 i _ hi) hfg) rfl (fun _ _ => rfl)
theorem cP.arq {D : va_G} {a i n : Nat} {B : List va_E} {c : ClassId} {f g : Nat → Option Nat} {H : Heap} (h : cP D a B H) (hi : B[i]? = some (.inl (c, n, .inr (.inr (.inr (.inr f)))))) (hfg : ∀ i, i < n → f i = g i) : cP D a (B.set i (.inl (c, n, .inr (.inr (.inr (.inr g)))))) H := h.set hi (va_at.arq (h.1 i _ hi) hfg) rfl (fun _ _ => rfl)
section NROWS3
variable {x : cX} {nc ns : Nat} {Q : State → Prop} {own : String} {cc : ByteArray} {nL d pc : Nat} {ls : List (Option Value)} {st : List Value} {B : List va_E}
theorem n_conv {B' : List va_E} (hc : ∀ H, cP (cD x) (cA x) B H → cP (cD x) (cA x) B' H) (k : cW x nc ns Q pc ls st B') : cW x nc ns Q pc ls st B := by
  obtain ⟨p, l, e, R, s, m, args, below, meth, cd, D, cs, a0⟩ := x
  intro H locs la hP hS hl
  exact k H locs la (hc H hP) hS hl
theorem n_eq {B' : List va_E} (hc : B = B') (k : cW x nc ns Q pc ls st B') : cW x nc ns Q pc ls st B := by
  rw [hc]; exact k
theorem n_alen (h : cH x own cc nL d) {i n q : Nat} {f : Nat → Int32} (hB : B[i]? = some (.inl (cC x 0, n, .inl f))) (hq : q = cA x + i) (hd : decode cc pc = .ok (.arraylength, 1)) (k : cW x nc ns Q (pc + 1) ls (zI (n : Int) :: st) B) : cW x nc ns Q pc ls (.ref q :: st) B := by
  obtain ⟨p, l, e, R, s, m, args, below, meth, cd, D, cs, a0⟩ := x
  intro H locs la hP hS hl
  obtain ⟨hx, hb, hml, hown, hts, hfl, hK, hN⟩ := h
  subst hq
  refine va_alen (ws := [(a0 + i, .inl (cs 0, n, .inl f))]) hx hb hK (fun z w hz => ?_) 0 0 rfl rfl (v := Int32.ofInt (n : Int)) (by simp [Int32.ofInt_eq_ofNat]) hd (k H locs la hP hS hl)
  cases z with
  | zero => cases hz; exact hP.1 i _ hB
  | succ z => cases hz
end NROWS3
theorem ngh {ls : List (Option Value)} {i : Nat} {w : Value} (hw : ls[i]? = some (some w)) (hc : w.category = 1) : ∀ j u, j + 1 = i + 1 → ls[j]? = some (some u) → u.category = 1 := by
  intro j u hj hu
  have e : j = i := by omega
  subst e
  rw [hw] at hu
  cases hu
  exact hc
theorem ngn {ls : List (Option Value)} {i : Nat} (hw : ls[i]? = some none) : ∀ j u, j + 1 = i + 1 → ls[j]? = some (some u) → u.category = 1 := by
  intro j u hj hu
  have e : j = i := by omega
  subst e
  rw [hw] at hu
  cases hu
def cfl (f : Nat → Int32) (v : Int) (j : Nat) : Nat → Int32 := fun i => if i < j then Int32.ofInt v else f i
theorem fill_loop {x : cX} {Q : State → Prop} {n : Nat} {v : Int} {f : Nat → Int32} {R0 : List va_E} (h : cH x yJ7_fill_53178.cls cJ7_fill_53178 4 0) (hn : n ≤ 2048) (kr : cW x 0 0 Q 20 [some (.ref (cA x)), some (zI v), some (zI n), some (zI n)] [] (.inl (cC x 0, n, .inl (cfl f v n)) :: R0)) :
    ∀ k j : Nat, j + k = n → cW x 0 0 Q 5 [some (.ref (cA x)), some (zI v), some (zI j), some (zI n)] [] (.inl (cC x 0, n, .inl (cfl f v j)) :: R0) := by
  intro k
  induction k with
  | zero =>
    intro j hj
    have hj : j = n := by omega
    subst hj
    refine n_iload_n (pc := 5) h dJ7_fill_53178_5 rfl ?_
    refine n_iload_n (pc := 6) h dJ7_fill_53178_6 rfl ?_
    refine n_icmp_ge (pc := 7) (tgt := 20) h ⟨by omega, by omega⟩ ⟨by omega, by omega⟩ dJ7_fill_53178_7 rfl (fun _ => kr) (fun c => absurd c (by omega))
  | succ k ih =>
    intro j hj
    refine n_iload_n (pc := 5) h dJ7_fill_53178_5 rfl ?_
    refine n_iload_n (pc := 6) h dJ7_fill_53178_6 rfl ?_
    refine n_icmp_ge (pc := 7) (tgt := 20) h ⟨by omega, by omega⟩ ⟨by omega, by omega⟩ dJ7_fill_53178_7 rfl (fun c => absurd c (by omega)) (fun _ => ?_)
    refine n_aload_n (pc := 10) h dJ7_fill_53178_10 rfl ?_
    refine n_iload_n (pc := 11) h dJ7_fill_53178_11 rfl ?_
    refine n_iload_n (pc := 12) h dJ7_fill_53178_12 rfl ?_
    refine n_iast (pc := 13) (i := 0) h rfl rfl (z_in (by omega) (by omega) hn) dJ7_fill_53178_13 ?_
    refine n_iincG (pc := 14) (a := (j : Int)) (n := 1) h dJ7_fill_53178_14 rfl (by decide) (ngh (i := 1) (w := zI v) rfl rfl) ?_
    refine n_goto (pc := 17) (tgt := 5) h dJ7_fill_53178_17 rfl ?_
    have e : upd (cfl f v j) (Int32.ofInt (j : Int)).toNatClampNeg (Int32.ofInt v) = cfl f v (j + 1) := by
      rw [z_clamp (by omega) ⟨by omega, by omega⟩]
      funext i
      unfold upd cfl
      rw [Int.toNat_natCast]
      by_cases q : i = j
      · subst q; rw [if_pos rfl, if_pos (by omega)]
      · rw [if_neg q]
        by_cases q2 : i < j
        · rw [if_pos q2, if_pos (by omega)]
        · rw [if_neg q2, if_neg (by omega)]
    show cW x 0 0 Q 5 _ [] (.inl (cC x 0, n, .inl (upd (cfl f v j) (Int32.ofInt (j : Int)).toNatClampNeg (Int32.ofInt v))) :: R0)
    rw [e]
    exact ih (j + 1) (by omega)
theorem n_fill {D : va_G} {cs : Nat → ClassId} {a n : Nat} {v : Int} {f : Nat → Int32} {R0 : List va_E} (hn : n ≤ 2048) : cM yJ7_fill_53178 cJ7_fill_53178 4 0 0 0 [.ref a, zI v] D cs a (.inl (cs 0, n, .inl f) :: R0) (.inl (cs 0, n, .inl (fun _ => Int32.ofInt v)) :: R0) := by
  refine cM_of (n := 2) (ls := [some (.ref a), some (zI v), none, none]) (by decide +kernel) (Nat.le_of_ble_eq_true rfl) rfl (fun x hA hC hD h hI hE hF => ?_)
  subst hA hC hD
  refine n_iconst (pc := 0) h dJ7_fill_53178_0 ?_
  refine n_istore_nG (pc := 1) (v := 0) h dJ7_fill_53178_1 (Nat.le_of_ble_eq_true rfl) (by decide) (ngh (i := 1) (w := zI v) rfl rfl) ?_
  refine n_aload_n (pc := 2) h dJ7_fill_53178_2 rfl ?_
  refine n_alen (pc := 3) (i := 0) h rfl rfl dJ7_fill_53178_3 ?_
  refine n_istore_nG (pc := 4) (v := n) h dJ7_fill_53178_4 (Nat.le_of_ble_eq_true rfl) (by decide) (ngh (i := 2) (w := zI 0) rfl rfl) ?_
  refine fill_loop (n := n) (f := f) (v := v) h hn ?_ n 0 (by omega)
  refine n_conv (B' := .inl (cC x 0, n, .inl (fun _ => Int32.ofInt v)) :: R0) (fun H hP => hP.arr (i := 0) rfl (fun i hi => by unfold cfl; rw [if_pos hi])) ?_
  exact n_ret (pc := 20) h hE (Nat.le_refl _) (Nat.le_refl _) dJ7_fill_53178_20
