/-! Counted loops as functions; the model's run as functions of its object. -/
def zit {α : Type} (f : Int → α → α) : Nat → α → α
  | 0, a => a
  | n + 1, a => f (n : Int) (zit f n a)
def zfor {α : Type} (f : Int → α → α) (i : Int) (a : α) : α := zit f i.toNat a
theorem zfor_0 {α : Type} (f : Int → α → α) (a : α) : zfor f 0 a = a := rfl
theorem zfor_n {α : Type} (f : Int → α → α) {i : Int} (h : i ≤ 0) (a : α) : zfor f i a = a := by
  unfold zfor
  rw [show i.toNat = 0 by omega]; rfl
theorem zfor_S {α : Type} (f : Int → α → α) {i : Int} (h : 0 ≤ i) (a : α) : zfor f (i + 1) a = f i (zfor f i a) := by
  unfold zfor
  rw [show (i + 1).toNat = i.toNat + 1 by omega]
  show f _ _ = _
  rw [show ((i.toNat : Nat) : Int) = i by omega]
/-- what holds at first and is kept by every turn holds at last -/
theorem zfor_ind {α : Type} {f : Int → α → α} {a : α} (P : Int → α → Prop) {n : Int} (h0 : P 0 a) (hs : ∀ i b, 0 ≤ i → i < n → P i b → P (i + 1) (f i b)) : ∀ i, 0 ≤ i → i ≤ n → P i (zfor f i a) := by
  have key : ∀ k : Nat, (k : Int) ≤ n → P k (zfor f k a) := by
    intro k
    induction k with
    | zero => intro _; exact h0
    | succ k ih =>
      intro hk
      have h1 : ((k + 1 : Nat) : Int) = (k : Int) + 1 := by omega
      rw [h1, zfor_S f (by omega)]
      exact hs k _ (by omega) (by omega) (ih (by omega))
  intro i h1 h2
  have := key i.toNat (by omega)
  rwa [show ((i.toNat : Nat) : Int) = i by omega] at this
theorem zfor_congr {α : Type} {f g : Int → α → α} {n : Int} {a : α} (h : ∀ i b, 0 ≤ i → i < n → f i b = g i b) : zfor f n a = zfor g n a := by
  rcases Int.lt_or_le n 0 with hn | hn
  · rw [zfor_n f (by omega), zfor_n g (by omega)]
  · have := zfor_ind (f := f) (a := a) (fun i b => b = zfor g i a) (n := n) rfl (fun i b h1 h2 h3 => by rw [zfor_S g h1, h3, h i _ h1 h2]) n hn (Int.le_refl n)
    exact this
/-- the first place below n at which p holds, or -1 -/
def zfst (p : Int → Bool) (n : Int) : Int := zfor (fun i a => if a = -1 ∧ p i = true then i else a) n (-1)
theorem zfst_none {p : Int → Bool} {n : Int} (h : ∀ j, 0 ≤ j → j < n → p j = false) : zfst p n = -1 := by
  rcases Int.lt_or_le n 0 with hn | hn
  · exact zfor_n _ (by omega) _
  · exact zfor_ind (fun _ b => b = -1) rfl (fun i b h1 h2 h3 => by rw [h3, h i h1 h2]; simp) n hn (Int.le_refl n)
theorem zfst_some {p : Int → Bool} {n i : Int} (h0 : 0 ≤ i) (hn : i < n) (hi : p i = true) (h : ∀ j, 0 ≤ j → j < i → p j = false) : zfst p n = i := by
  have := zfor_ind (f := fun i a => if a = -1 ∧ p i = true then i else a) (a := (-1 : Int)) (fun k b => (k ≤ i → b = -1) ∧ (i < k → b = i)) (n := n) ⟨fun _ => rfl, fun q => by omega⟩ (fun k b h1 h2 h3 => by
    refine ⟨fun q => ?_, fun q => ?_⟩
    · rw [h3.1 (by omega), h k h1 (by omega)]; simp
    · by_cases hk : k = i
      · subst hk
        rw [h3.1 (by omega)]; simp [hi]
      · rw [h3.2 (by omega), if_neg]
        rintro ⟨z, -⟩
        omega) n (by omega) (Int.le_refl n)
  exact this.2 hn
/-- either none, or the first one -/
theorem zfst_cases (p : Int → Bool) (n : Int) : (zfst p n = -1 ∧ ∀ j, 0 ≤ j → j < n → p j = false) ∨ (0 ≤ zfst p n ∧ zfst p n < n ∧ p (zfst p n) = true ∧ ∀ j, 0 ≤ j → j < zfst p n → p j = false) := by
  rcases Int.lt_or_le n 0 with hn | hn
  · exact Or.inl ⟨zfor_n _ (by omega) _, fun j h1 h2 => by omega⟩
  · exact zfor_ind (fun k b => (b = -1 ∧ ∀ j, 0 ≤ j → j < k → p j = false) ∨ (0 ≤ b ∧ b < k ∧ p b = true ∧ ∀ j, 0 ≤ j → j < b → p j = false)) (Or.inl ⟨rfl, fun j h1 h2 => by omega⟩) (fun k b h1 h2 h3 => by
      rcases h3 with ⟨rfl, h3⟩ | ⟨g1, g2, g3, g4⟩
      · by_cases hp : p k = true
        · right
          rw [if_pos ⟨rfl, hp⟩]
          exact ⟨h1, by omega, hp, h3⟩
        · left
          rw [if_neg (fun z => hp z.2)]
          refine ⟨rfl, fun j q1 q2 => ?_⟩
          by_cases hj : j = k
          · subst hj; simpa using hp
          · exact h3 j q1 (by omega)
      · right
        rw [if_neg (fun z => by omega)]
        exact ⟨g1, by omega, g3, g4⟩) n hn (Int.le_refl n)
/-! the model's run. Arrays: 1 all, 21 cartonTruck, 22 cartonFor, 23 off, 24 on, 25 onTruck, 26 far, 27 docks, 28 leaves, 29 handled, 30 doorOf, 31 placeOf, 32 turn, 33 stands, 34 free; scalars: 20 cartons, 35 minute, 36 stagedNow, 37 mostStaged, 38 firstMost, 39 idle -/
/-- the truck whose turn it is at a door -/
abbrev s_tr (m : zOb) (d : Int) : Int := m.2 1 (71 + 8 * d + m.2 32 d)
def s_lv (d : Int) (m : zOb) : zOb := osa (osa (osa (osa m 28 (s_tr m d) (m.1 35)) 33 d 0) 32 d (m.2 32 d + 1)) 34 d (m.1 35 + m.2 1 3 + 1)
def s_dk (d : Int) (m : zOb) : zOb := if m.2 33 d = 0 ∧ m.2 32 d < m.2 1 (65 + d) ∧ m.2 34 d ≤ m.1 35 ∧ m.2 1 (17 + 6 * s_tr m d + 1) ≤ m.1 35 then osa (osa m 33 d 1) 27 (s_tr m d) (m.1 35) else m
/-- the way from the door of the truck that brings carton c -/
def s_way (m : zOb) (c d : Int) : Int := zway (m.2 1 (5 + 2 * m.2 30 (m.2 21 c) + 1)) (m.2 1 (5 + 2 * d + 1))
def s_can (m : zOb) (d c : Int) : Bool := decide (m.2 23 c ≠ -1 ∧ m.2 24 c = -1 ∧ m.2 22 c = m.2 1 (17 + 6 * s_tr m d + 2) ∧ (if s_way m c d < 1 then 1 else s_way m c d) ≤ m.1 35 - m.2 23 c)
def s_best (m : zOb) (d n : Int) : Int := zfor (fun c b => if s_can m d c = true ∧ (b = -1 ∨ m.2 23 c < m.2 23 b) then c else b) n (-1)
def s_po1 (d b : Int) (m : zOb) : zOb := osa (oss (osa (osa (osa m 24 b (m.1 35)) 25 b (s_tr m d)) 26 b (s_way m b d)) 36 (m.1 36 - 1)) 29 (s_tr m d) (m.2 29 (s_tr m d) + 1)
def s_po (d : Int) (m : zOb) : zOb := if s_best m d (m.1 20) = -1 then m else if m.2 29 (s_tr m d) + 1 = m.2 1 (17 + 6 * s_tr m d + 4) then s_lv d (s_po1 d (s_best m d (m.1 20)) m) else s_po1 d (s_best m d (m.1 20)) m
def s_load (m : zOb) (t : Int) : Int := m.2 1 (17 + 6 * t + 2) + m.2 1 (17 + 6 * t + 3) + m.2 1 (17 + 6 * t + 4) + m.2 1 (17 + 6 * t + 5)
def s_nx (m : zOb) (t : Int) : Int := zfst (fun c => decide (m.2 21 c = t ∧ m.2 23 c = -1)) 40
def s_to1 (t c : Int) (m : zOb) : zOb := osa (oss (osa m 23 c (m.1 35)) 36 (m.1 36 + 1)) 29 t (m.2 29 t + 1)
def s_to (d : Int) (m : zOb) : zOb := if m.2 1 2 ≤ m.1 36 then oss m 39 (m.1 39 + 1) else if m.2 29 (s_tr m d) + 1 = s_load m (s_tr m d) then s_lv d (s_to1 (s_tr m d) (s_nx m (s_tr m d)) m) else s_to1 (s_tr m d) (s_nx m (s_tr m d)) m
def s_left (m : zOb) (z : Int) : Bool := decide (zfst (fun c => decide (m.2 22 c = z ∧ m.2 24 c = -1 ∧ m.2 30 (m.2 21 c) ≠ -1)) (m.1 20) ≠ -1)
def s_p1 (m : zOb) : zOb := zfor s_dk (m.2 1 0) m
def s_p2 (m : zOb) : zOb := zfor (fun d m => if m.2 1 (5 + 2 * d) = 1 ∧ m.2 33 d = 1 then s_po d m else m) (m.2 1 0) m
def s_p3 (m : zOb) : zOb := zfor (fun d m => if m.2 1 (5 + 2 * d) ≠ 1 ∧ m.2 33 d = 1 then s_to d m else m) (m.2 1 0) m
def s_p4 (m : zOb) : zOb := zfor (fun d m => if m.2 1 (5 + 2 * d) = 1 ∧ m.2 33 d = 1 ∧ s_left m (m.2 1 (17 + 6 * s_tr m d + 2)) = false then s_lv d m else m) (m.2 1 0) m
def s_p5 (m : zOb) : zOb := if m.1 37 < m.1 36 then oss (oss m 37 (m.1 36)) 38 (m.1 35) else m
def s_go (m : zOb) : zOb := s_p5 (s_p4 (s_p3 (s_p2 (s_p1 m))))
def s_over (m : zOb) : Bool := decide (zfst (fun d => decide (m.2 32 d < m.2 1 (65 + d))) (m.2 1 0) = -1)
