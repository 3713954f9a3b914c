/-! What a statement of a text says. -/
abbrev ST : Type := Int × (Int → Int) × Int × (Int × Int)
theorem nt_old {b : Int × Int} {w p : Int} (h : b.1 ≠ 0) (h2 : b.2 < p) : nt b w p = b := if_neg (by omega)
theorem nt_ne {b : Int × Int} {w p : Int} (h : w ≠ 0) : (nt b w p).1 ≠ 0 := by
  unfold nt
  split
  · exact h
  · rename_i q; intro z; exact q (Or.inl z)
theorem chk_old {b : Int × Int} {v lo hi p : Int} (h : b.1 ≠ 0) (h2 : b.2 < p) : chk b v lo hi p = b := by
  unfold chk
  split
  · exact nt_old h h2
  · rfl
theorem chk_0 {b : Int × Int} {v lo hi p : Int} (h : (chk b v lo hi p).1 = 0) : b.1 = 0 ∧ lo ≤ v ∧ v ≤ hi := by
  unfold chk at h
  split at h
  · exact absurd h (nt_ne (by decide))
  · omega
def PB (s : Int) (b : Int × Int) : Prop := (b.1 ≠ 0 → b.2 < s) ∧ b.1 ≠ 1
theorem nt_PB {s : Int} {b : Int × Int} {w p : Int} (h : PB s b) (hp : p < s) (hw : w ≠ 1) : PB s (nt b w p) := by
  unfold nt
  split
  · exact ⟨fun _ => hp, hw⟩
  · exact h
theorem chk_PB {s : Int} {b : Int × Int} {v lo hi p : Int} (h : PB s b) (hp : p < s) : PB s (chk b v lo hi p) := by
  unfold chk
  split
  · exact nt_PB h hp (by decide)
  · exact h
theorem PB.up {s t : Int} {b : Int × Int} (h : PB s b) (hst : s ≤ t) : PB t b := ⟨fun z => by have := h.1 z; omega, h.2⟩
def bDoor (m : Int) (b : Int × Int) (s : Int) (V P : Int → Int) : Int × Int := chk (if m < 6 then b else nt b 3 s) (V 0) 0 99 (P 0)
def bTr (m : Int) (b : Int × Int) (s : Int) : Int × Int := if m < 8 then b else nt b 3 s
def wj (V : Int → Int) (j : Int) : Int := if V j ≤ 15 then V j else 0
def ldV (V : Int → Int) : Int := wj V 1 + wj V 2 + wj V 3 + wj V 4
def bIn5 (m : Int) (b : Int × Int) (s : Int) (V P : Int → Int) : Int × Int := chk (chk (chk (chk (chk (bTr m b s) (V 0) 0 99 (P 0)) (V 1) 0 15 (P 1)) (V 2) 0 15 (P 2)) (V 3) 0 15 (P 3)) (V 4) 0 15 (P 4)
def lfV (ct : Int) (V : Int → Int) : Prop := (V 1 = 0 ∧ V 2 = 0 ∧ V 3 = 0 ∧ V 4 = 0) ∨ 40 < ct + ldV V
def lfB (ct : Int) (V : Int → Int) : Bool := decide ((V 1 = 0 ∧ V 2 = 0 ∧ V 3 = 0 ∧ V 4 = 0) ∨ 40 < ct + ldV V)
def bIn (m ct : Int) (b : Int × Int) (s : Int) (V P : Int → Int) : Int × Int := if lfB ct V = true then nt (bIn5 m b s V P) 4 s else bIn5 m b s V P
def bOut (m : Int) (b : Int × Int) (s : Int) (V P : Int → Int) : Int × Int := chk (chk (chk (chk (chk (bTr m b s) (V 0) 0 99 (P 0)) (V 1) 0 3 (P 1)) (V 2) 0 199 (P 2)) (V 3) 1 40 (P 3)) (V 4) 1 9 (P 4)
def pIn (V : Int → Int) (k : Int) : Int := if k = 0 then 0 else if k = 1 then V 0 else wj V (k - 1)
def pOut (V : Int → Int) (k : Int) : Int := if k = 0 then 1 else V (k - 1)
def aT (a P : Int → Int) : Int → Int := zup (fun i => if 17 + 6 * a 1 ≤ i ∧ i ≤ 17 + 6 * a 1 + 5 then P (i - (17 + 6 * a 1)) else a i) 1 (a 1 + 1)
theorem aT_AP {a P : Int → Int} (h : 0 ≤ a 1) : AP a (aT a P) P := by
  refine ⟨zup_s _ _ _, fun k k0 k5 => ?_, fun i i0 i1 i2 i3 => ?_⟩
  · show zup _ 1 _ _ = _
    rw [zup_n _ _ (by omega), if_pos (by omega), show 17 + 6 * a 1 + k - (17 + 6 * a 1) = k by omega]
  · show zup _ 1 _ _ = _
    rw [zup_n _ _ i2, if_neg (by omega)]
def vN (f : Int → Int) (n q j : Int) : Int := tV f n (nQ f n q j)
def pN (f : Int → Int) (n q j : Int) : Int := tS f n (nQ f n q j)
def num (f : Int → Int) (n q c : Int) (S : ST) : Sum Int ST := if nF f n q c = -1 then .inr S else .inl (tS f n (nQ f n q (nF f n q c)))
def sDoor (f : Int → Int) (n q1 s : Int) (a : Int → Int) (ct : Int) (b : Int × Int) : Sum Int ST := if tW f n q1 1 = true ∨ tW f n q1 2 = true then num f n (tE f n q1) 1 (nQ f n (tE f n q1) 2, if a 0 < 6 then aD a (if tW f n q1 1 = true then 0 else 1) (vN f n (tE f n q1) 0) else a, ct, bDoor (a 0) b s (vN f n (tE f n q1)) (pN f n (tE f n q1))) else .inl (tS f n q1)
def sIn (f : Int → Int) (n q1 s : Int) (a : Int → Int) (ct : Int) (b : Int × Int) : Sum Int ST := num f n q1 5 (nQ f n q1 6, if a 1 < 8 then aT a (pIn (vN f n q1)) else a, if a 1 < 8 then ct + ldV (vN f n q1) else ct, bIn (a 1) ct b s (vN f n q1) (pN f n q1))
def sOut (f : Int → Int) (n q1 s : Int) (a : Int → Int) (ct : Int) (b : Int × Int) : Sum Int ST := num f n q1 5 (nQ f n q1 6, if a 1 < 8 then aT a (pOut (vN f n q1)) else a, ct, bOut (a 1) b s (vN f n q1) (pN f n q1))
def sStg (f : Int → Int) (n q1 : Int) (a : Int → Int) (ct : Int) (b : Int × Int) : Sum Int ST := num f n q1 1 (nQ f n q1 2, zup a 2 (vN f n q1 0), ct, chk b (vN f n q1 0) 0 40 (pN f n q1 0))
def sChg (f : Int → Int) (n q1 : Int) (a : Int → Int) (ct : Int) (b : Int × Int) : Sum Int ST := num f n q1 1 (nQ f n q1 2, zup a 3 (vN f n q1 0), ct, chk b (vN f n q1 0) 0 9 (pN f n q1 0))
def stm (f : Int → Int) (n : Int) (S : ST) : Sum Int ST :=
  if tW f n S.1 0 = true then sDoor f n (tE f n S.1) (tS f n S.1) S.2.1 S.2.2.1 S.2.2.2
  else if tW f n S.1 1 = true then sIn f n (tE f n S.1) (tS f n S.1) S.2.1 S.2.2.1 S.2.2.2
  else if tW f n S.1 2 = true then sOut f n (tE f n S.1) (tS f n S.1) S.2.1 S.2.2.1 S.2.2.2
  else if tW f n S.1 3 = true then sStg f n (tE f n S.1) S.2.1 S.2.2.1 S.2.2.2
  else if tW f n S.1 4 = true then sChg f n (tE f n S.1) S.2.1 S.2.2.1 S.2.2.2
  else .inl (tS f n S.1)
/-- how the class stands to it -/
def CJ (s : Int) (a : Int → Int) (ct : Int) (b : Int × Int) (r dk : zOb) : Prop := (r.1 4, r.1 5) = b ∧ (b.1 = 0 → TOLD a dk ∧ ct = a_fs a (a 1)) ∧ PB s b ∧ BD dk
def CI (f : Int → Int) (n : Int) (S : ST) (r dk : zOb) : Prop := TL f n S.1 r ∧ CJ (tS f n S.1) S.2.1 S.2.2.1 S.2.2.2 r dk
def CO (f : Int → Int) (n : Int) (R : Sum Int ST) (r dk : zOb) : Prop := match R with
  | .inl p => r.1 4 = 1 ∧ r.1 5 = p
  | .inr S => CI f n S r dk
theorem TL_nt {f : Int → Int} {n q : Int} {r : zOb} {b : Int × Int} : TL f n q (ntO r b) = TL f n q r := rfl
theorem ntO_ntO (r : zOb) (b c : Int × Int) : ntO (ntO r b) c = ntO r c := by
  unfold ntO
  refine Prod.ext (funext fun j => ?_) rfl
  show (if j = 5 then c.2 else if j = 4 then c.1 else if j = 5 then b.2 else if j = 4 then b.1 else r.1 j) = if j = 5 then c.2 else if j = 4 then c.1 else r.1 j
  split
  · rfl
  · split <;> rfl
theorem ntO_45 (r : zOb) (b : Int × Int) : ((ntO r b).1 4, (ntO r b).1 5) = b := rfl
theorem pN_b {f : Int → Int} {n q j : Int} (h0 : 0 ≤ q) (h1 : q ≤ n) (hj : 0 ≤ j) : q ≤ pN f n q j ∧ pN f n q j ≤ n := by
  have a := nQ_b (f := f) h0 h1 hj
  have b := tS_b (f := f) a.2
  unfold pN
  omega
theorem pN_lt {f : Int → Int} {n q j : Int} (h0 : 0 ≤ q) (h1 : q ≤ n) (hj : 0 ≤ j) (hk : tK f n (nQ f n q j) ≠ 0) : pN f n q j < nQ f n q (j + 1) := by
  have a := nQ_b (f := f) h0 h1 hj
  rw [nQ_S f n q hj]
  exact ((tE_b (f := f) a.2).2.2 hk).1
theorem nQ_mono {f : Int → Int} {n q j k : Int} (h0 : 0 ≤ q) (h1 : q ≤ n) (hj : 0 ≤ j) (hk : j ≤ k) : nQ f n q j ≤ nQ f n q k := by
  have key : ∀ m : Nat, nQ f n q j ≤ nQ f n q (j + m) := by
    intro m
    induction m with
    | zero => rw [show j + ((0 : Nat) : Int) = j by omega]; exact Int.le_refl _
    | succ m ih =>
      rw [show j + ((m + 1 : Nat) : Int) = j + m + 1 by omega, nQ_S f n q (by omega)]
      have a := nQ_b (f := f) (k := j + m) h0 h1 (by omega)
      have b := tE_b (f := f) a.2
      have c := tS_b (f := f) a.2
      omega
  have := key (k - j).toNat
  rwa [show j + (((k - j).toNat : Nat) : Int) = k by omega] at this
/-- all places of a statement lie before the next one -/
theorem pN_end {f : Int → Int} {n q c j : Int} (h0 : 0 ≤ q) (h1 : q ≤ n) (hF : nF f n q c = -1) (hj : 0 ≤ j) (hjc : j < c) : pN f n q j < tS f n (nQ f n q (c + 1)) ∧ q < tS f n (nQ f n q (c + 1)) := by
  have ok := nF_ok (by omega) hF
  have a := pN_lt h0 h1 hj (by rw [ok.1 j hj hjc]; decide)
  have b := nQ_mono (f := f) (k := c + 1) h0 h1 (show 0 ≤ j + 1 by omega) (by omega)
  have d := nQ_b (f := f) (k := c + 1) h0 h1 (by omega)
  have e := tS_b (f := f) d.2
  have g := (pN_b (f := f) (j := j) h0 h1 hj).1
  omega
theorem vN_b {f : Int → Int} {n q c j : Int} (hF : nF f n q c = -1) (hj : 0 ≤ j) (hjc : j < c) : 0 ≤ vN f n q j ∧ vN f n q j ≤ 999 := tV_b ((nF_ok (by omega) hF).1 j hj hjc)
theorem w_takesWord {σ : zS} {r dk : zOb} {f : Int → Int} {n q : Int} {i : Nat} (hf : (σ 1).2 0 = f) (hn : (σ 1).1 1 = n) (h4 : n ≤ 400) (hi : i < 5) (hT : TL f n q r) : zC M_X4_takesWord 5 [zR 2, zT i] (zo (zo σ 3 dk) 2 r) (fun rr τ' => rr = some (zB (tW f n q i)) ∧ ∃ r', τ' = zo (zo σ 3 dk) 2 r' ∧ KR r r' ∧ (if tW f n q i = true then TL f n (tE f n q) r' else r' = r)) := by
  subst hf hn
  have e : zo σ 3 dk 1 = σ 1 := zo_n (by decide)
  have := c_takesWord (σ := zo σ 3 dk) (r := r) (q := q) hi (by rw [e]; exact h4) (by rw [e]; exact hT)
  rw [e] at this
  exact this
theorem w_takesNumbers {σ : zS} {r dk : zOb} {f : Int → Int} {n q c : Int} (hf : (σ 1).2 0 = f) (hn : (σ 1).1 1 = n) (h4 : n ≤ 400) (hc : 1 ≤ c ∧ c ≤ 5) (hT : TL f n q r) : zC M_X4_takesNumbers 4 [zR 2, zI c] (zo (zo σ 3 dk) 2 r) (fun rr τ' => rr = some (zB (decide (nF f n q c = -1))) ∧ ∃ r', τ' = zo (zo σ 3 dk) 2 r' ∧ NR f n q c r r') := by
  subst hf hn
  have e : zo σ 3 dk 1 = σ 1 := zo_n (by decide)
  have := c_takesNumbers (σ := zo σ 3 dk) (r := r) (q := q) hc (by rw [e]; exact h4) (by rw [e]; exact hT)
  rw [e] at this
  exact this
theorem bDoor_d {m m' : Int} {b : Int × Int} {s : Int} {V P : Int → Int} (h : b.1 = 0 → m = m') (hb : PB s b) (hP : s < P 0) : bDoor m b s V P = bDoor m' b s V P := by
  by_cases e : b.1 = 0
  · rw [h e]
  · have h2 := hb.1 e
    have h3 : ∀ x : Int, (if x < 6 then b else nt b 3 s) = b := fun x => by
      split
      · rfl
      · exact nt_old e h2
    unfold bDoor
    rw [h3, h3]
theorem bTr_d {m m' : Int} {b : Int × Int} {s : Int} (h : b.1 = 0 → m = m') (hb : PB s b) : bTr m b s = bTr m' b s := by
  by_cases e : b.1 = 0
  · rw [h e]
  · have h2 := hb.1 e
    have h3 : ∀ x : Int, bTr x b s = b := fun x => by
      unfold bTr
      split
      · rfl
      · exact nt_old e h2
    rw [h3, h3]
theorem bTr_0 {m : Int} {b : Int × Int} {s : Int} (h : (bTr m b s).1 = 0) : b.1 = 0 ∧ m < 8 := by
  unfold bTr at h
  split at h
  · rename_i q; exact ⟨h, q⟩
  · exact absurd h (nt_ne (by decide))
theorem bTr_PB {m : Int} {b : Int × Int} {s t : Int} (hb : PB t b) (h : s < t) : PB t (bTr m b s) := by
  unfold bTr
  split
  · exact hb
  · exact nt_PB hb h (by decide)
