/-! What holds of the model's object while a plan is run. -/
/-- how many below n have p -/
def zcnt (p : Int → Bool) (n : Int) : Int := zfor (fun i a => if p i = true then a + 1 else a) n 0
theorem zcnt_0 (p : Int → Bool) : zcnt p 0 = 0 := rfl
theorem zcnt_S (p : Int → Bool) {n : Int} (h : 0 ≤ n) : zcnt p (n + 1) = if p n = true then zcnt p n + 1 else zcnt p n := by
  unfold zcnt
  rw [zfor_S _ h]
theorem zcnt_b (p : Int → Bool) {n : Int} (h : 0 ≤ n) : 0 ≤ zcnt p n ∧ zcnt p n ≤ n := by
  exact zfor_ind (fun i b => 0 ≤ b ∧ b ≤ i) (by omega) (fun i b h1 h2 h3 => by split <;> omega) n h (Int.le_refl n)
theorem zcnt_congr {p q : Int → Bool} {n : Int} (h : ∀ i, 0 ≤ i → i < n → p i = q i) : zcnt p n = zcnt q n := zfor_congr (fun i b h1 h2 => by rw [h i h1 h2])
/-- one place more -/
theorem zcnt_one {p q : Int → Bool} {n k : Int} (h0 : 0 ≤ k) (hk : k < n) (hp : p k = false) (hq : q k = true) (h : ∀ i, 0 ≤ i → i < n → i ≠ k → p i = q i) : zcnt q n = zcnt p n + 1 := by
  have key : ∀ i, 0 ≤ i → i ≤ n → zcnt q i = zcnt p i + (if k < i then 1 else 0) := by
    intro i h1 h2
    have := zfor_ind (f := fun i a => if q i = true then a + 1 else a) (a := (0 : Int)) (fun i b => b = zcnt p i + (if k < i then 1 else 0)) (n := n) (by rw [zcnt_0, if_neg (by omega)]; rfl) (fun i b g1 g2 g3 => by
      rw [zcnt_S p g1, g3]
      have hh : (if k < i + 1 then (1 : Int) else 0) = (if k < i then 1 else 0) + (if i = k then 1 else 0) := by
        split <;> split <;> split <;> omega
      rw [hh]
      by_cases e : i = k
      · rw [if_pos e]
        rw [e, hq, hp]
        simp
      · rw [if_neg e, h i g1 g2 e]
        split <;> omega) i h1 h2
    exact this
  rw [key n (by omega) (Int.le_refl n), if_pos hk]
theorem zcnt_zero {p : Int → Bool} {n : Int} (h : zcnt p n = 0) : ∀ i, 0 ≤ i → i < n → p i = false := by
  intro i h1 h2
  cases hp : p i with
  | false => rfl
  | true =>
    have h3 := zcnt_one (p := fun j => if j = i then false else p j) (q := p) h1 h2 (by simp) hp (fun j _ _ hj => by simp [hj])
    have := (zcnt_b (fun j => if j = i then false else p j) (n := n) (by omega)).1
    omega
theorem zcnt_none {p : Int → Bool} {n : Int} (h : ∀ i, 0 ≤ i → i < n → p i = false) : zcnt p n = 0 := by
  rcases Int.lt_or_le n 0 with hn | hn
  · exact zfor_n _ (by omega) _
  · exact zfor_ind (fun _ b => b = 0) rfl (fun i b h1 h2 h3 => by rw [h i h1 h2, h3]; simp) n hn (Int.le_refl n)
/-- the load of an IN truck, of the table a -/
def a_load (a : Int → Int) (t : Int) : Int := a (17 + 6 * t + 2) + a (17 + 6 * t + 3) + a (17 + 6 * t + 4) + a (17 + 6 * t + 5)
/-- the first carton of a truck -/
def a_fs (a : Int → Int) (t : Int) : Int := zfor (fun u s => if a (17 + 6 * u + 0) = 1 then s else s + a_load a u) t 0
/-- loads for the first destinations -/
def a_pl (a : Int → Int) (t d : Int) : Int := zfor (fun e s => s + a (17 + 6 * t + (2 + e))) d 0
/-- what the table is, apart from rows -/
def WFa (a : Int → Int) : Prop :=
  (0 ≤ a 0 ∧ a 0 ≤ 6) ∧ (0 ≤ a 1 ∧ a 1 ≤ 8) ∧ (0 ≤ a 2 ∧ a 2 ≤ 40) ∧ (0 ≤ a 3 ∧ a 3 ≤ 9) ∧ (0 ≤ a 4 ∧ a 4 ≤ 199) ∧
  (∀ d, 0 ≤ d → d < a 0 → (a (5 + 2 * d) = 0 ∨ a (5 + 2 * d) = 1) ∧ 0 ≤ a (5 + 2 * d + 1) ∧ a (5 + 2 * d + 1) ≤ 99) ∧
  (∀ t, 0 ≤ t → t < a 1 → (a (17 + 6 * t + 0) = 0 ∨ a (17 + 6 * t + 0) = 1) ∧ (0 ≤ a (17 + 6 * t + 1) ∧ a (17 + 6 * t + 1) ≤ 99) ∧
    (a (17 + 6 * t + 0) = 1 → (0 ≤ a (17 + 6 * t + 2) ∧ a (17 + 6 * t + 2) ≤ 3) ∧ (0 ≤ a (17 + 6 * t + 3) ∧ a (17 + 6 * t + 3) ≤ 199) ∧ (1 ≤ a (17 + 6 * t + 4) ∧ a (17 + 6 * t + 4) ≤ 40) ∧ (1 ≤ a (17 + 6 * t + 5) ∧ a (17 + 6 * t + 5) ≤ 9)) ∧
    (a (17 + 6 * t + 0) = 0 → (0 ≤ a (17 + 6 * t + 2) ∧ a (17 + 6 * t + 2) ≤ 15) ∧ (0 ≤ a (17 + 6 * t + 3) ∧ a (17 + 6 * t + 3) ≤ 15) ∧ (0 ≤ a (17 + 6 * t + 4) ∧ a (17 + 6 * t + 4) ≤ 15) ∧ (0 ≤ a (17 + 6 * t + 5) ∧ a (17 + 6 * t + 5) ≤ 15) ∧ 1 ≤ a_load a t)) ∧
  a_fs a (a 1) ≤ 40
/-- what rows are -/
def WFr (a : Int → Int) : Prop :=
  (∀ d, 0 ≤ d → d < a 0 → 0 ≤ a (65 + d) ∧ a (65 + d) ≤ 8) ∧
  (∀ d k, 0 ≤ d → d < a 0 → 0 ≤ k → k < a (65 + d) → 0 ≤ a (71 + 8 * d + k) ∧ a (71 + 8 * d + k) < a 1 ∧ a (17 + 6 * a (71 + 8 * d + k) + 0) = a (5 + 2 * d)) ∧
  (∀ d k d' k', 0 ≤ d → d < a 0 → 0 ≤ k → k < a (65 + d) → 0 ≤ d' → d' < a 0 → 0 ≤ k' → k' < a (65 + d') → a (71 + 8 * d + k) = a (71 + 8 * d' + k') → d = d' ∧ k = k')
/-- how cartons lie, and where trucks are -/
def LAY (a ct cf dof pof : Int → Int) (nC : Int) : Prop :=
  nC = a_fs a (a 1) ∧ (0 ≤ nC ∧ nC ≤ 40) ∧
  (∀ c, 0 ≤ c → c < nC → (0 ≤ ct c ∧ ct c < a 1) ∧ a (17 + 6 * ct c + 0) = 0 ∧ (0 ≤ cf c ∧ cf c ≤ 3) ∧ a_fs a (ct c) ≤ c ∧ c < a_fs a (ct c) + a_load a (ct c) ∧ a_fs a (ct c) + a_pl a (ct c) (cf c) ≤ c ∧ c < a_fs a (ct c) + a_pl a (ct c) (cf c) + a (17 + 6 * ct c + (2 + cf c))) ∧
  (∀ t c, 0 ≤ t → t < a 1 → a (17 + 6 * t + 0) = 0 → a_fs a t ≤ c → c < a_fs a t + a_load a t → (0 ≤ c ∧ c < nC) ∧ ct c = t) ∧
  (∀ t, 0 ≤ t → t < a 1 → (dof t = -1 ∧ pof t = -1 ∧ ∀ d k, 0 ≤ d → d < a 0 → 0 ≤ k → k < a (65 + d) → a (71 + 8 * d + k) ≠ t) ∨ ((0 ≤ dof t ∧ dof t < a 0) ∧ (0 ≤ pof t ∧ pof t < a (65 + dof t)) ∧ a (71 + 8 * dof t + pof t) = t))
def SI (m : zOb) : Prop := WFa (m.2 1) ∧ WFr (m.2 1) ∧ LAY (m.2 1) (m.2 21) (m.2 22) (m.2 30) (m.2 31) (m.1 20)
/-- doors -/
def DId (m : zOb) : Prop := ∀ d, 0 ≤ d → d < m.2 1 0 → (0 ≤ m.2 32 d ∧ m.2 32 d ≤ m.2 1 (65 + d)) ∧ (m.2 33 d = 0 ∨ m.2 33 d = 1) ∧
  (m.2 33 d = 1 → m.2 32 d < m.2 1 (65 + d) ∧ 0 ≤ m.2 27 (s_tr m d) ∧ m.2 28 (s_tr m d) = -1) ∧ 0 ≤ m.2 34 d ∧ m.2 34 d ≤ m.1 35 + 10
/-- how many a truck can handle -/
def a_cap (a : Int → Int) (t : Int) : Int := if a (17 + 6 * t + 0) = 1 then a (17 + 6 * t + 4) else a_load a t
/-- the ones that stand have not handled all (but at the door x) -/
def DIs (x : Int) (m : zOb) : Prop := ∀ d, d ≠ x → 0 ≤ d → d < m.2 1 0 → m.2 33 d = 1 → m.2 29 (s_tr m d) < a_cap (m.2 1) (s_tr m d)
/-- trucks that have not docked yet -/
def DIf (m : zOb) : Prop := ∀ d k, 0 ≤ d → d < m.2 1 0 → m.2 32 d + m.2 33 d ≤ k → k < m.2 1 (65 + d) → m.2 29 (m.2 1 (71 + 8 * d + k)) = 0 ∧ m.2 27 (m.2 1 (71 + 8 * d + k)) = -1 ∧ m.2 28 (m.2 1 (71 + 8 * d + k)) = -1
/-- trucks that have left -/
def DIp (m : zOb) : Prop := ∀ d k, 0 ≤ d → d < m.2 1 0 → 0 ≤ k → k < m.2 32 d → 0 ≤ m.2 27 (m.2 1 (71 + 8 * d + k)) ∧ m.2 27 (m.2 1 (71 + 8 * d + k)) ≤ m.2 28 (m.2 1 (71 + 8 * d + k)) ∧ m.2 28 (m.2 1 (71 + 8 * d + k)) < m.2 34 d
/-- one behind the other -/
def DIo (m : zOb) : Prop := ∀ d k k', 0 ≤ d → d < m.2 1 0 → 0 ≤ k → k < k' → k' < m.2 1 (65 + d) → m.2 27 (m.2 1 (71 + 8 * d + k')) ≠ -1 → 0 ≤ m.2 27 (m.2 1 (71 + 8 * d + k)) ∧ m.2 27 (m.2 1 (71 + 8 * d + k)) ≤ m.2 28 (m.2 1 (71 + 8 * d + k)) ∧ m.2 28 (m.2 1 (71 + 8 * d + k)) < m.2 27 (m.2 1 (71 + 8 * d + k'))
/-- trucks -/
def DIt (m : zOb) : Prop := ∀ t, 0 ≤ t → t < m.2 1 1 → (0 ≤ m.2 29 t ∧ m.2 29 t ≤ a_cap (m.2 1) t) ∧ (-1 ≤ m.2 27 t ∧ m.2 27 t ≤ m.1 35) ∧ (-1 ≤ m.2 28 t ∧ m.2 28 t ≤ m.1 35) ∧ (m.2 30 t = -1 → m.2 29 t = 0 ∧ m.2 27 t = -1 ∧ m.2 28 t = -1)
/-- cartons -/
def DIc (m : zOb) : Prop := ∀ c, 0 ≤ c → c < m.1 20 → (-1 ≤ m.2 23 c ∧ m.2 23 c ≤ m.1 35) ∧ (m.2 23 c ≠ -1 ↔ c < a_fs (m.2 1) (m.2 21 c) + m.2 29 (m.2 21 c)) ∧ (m.2 23 c ≠ -1 → m.2 30 (m.2 21 c) ≠ -1) ∧ (m.2 24 c = -1 ∨ (m.2 23 c ≠ -1 ∧ m.2 23 c < m.2 24 c ∧ m.2 24 c ≤ m.1 35 ∧ (0 ≤ m.2 25 c ∧ m.2 25 c < m.2 1 1) ∧ 0 ≤ m.2 26 c ∧ m.2 26 c ≤ 10))
/-- the numbers -/
def s_stg (m : zOb) : Int := zcnt (fun c => decide (m.2 23 c ≠ -1 ∧ m.2 24 c = -1)) (m.1 20)
def DIn (m : zOb) : Prop := m.1 36 = s_stg m ∧ 0 ≤ m.1 35
def DI (x : Int) (m : zOb) : Prop := DId m ∧ DIs x m ∧ DIf m ∧ DIp m ∧ DIo m ∧ DIt m ∧ DIc m ∧ DIn m
theorem a_load_b {a : Int → Int} (h : WFa a) {t : Int} (h0 : 0 ≤ t) (h1 : t < a 1) (hk : a (17 + 6 * t + 0) = 0) : 1 ≤ a_load a t ∧ a_load a t ≤ 60 := by
  obtain ⟨-, -, -, -, -, -, h7, -⟩ := h
  have := (h7 t h0 h1).2.2.2 hk
  unfold a_load at this ⊢
  omega
theorem a_load_40 {a : Int → Int} (h : WFa a) {t : Int} (h0 : 0 ≤ t) (h1 : t < a 1) (hk : a (17 + 6 * t + 0) = 0) : a_load a t ≤ 40 := by
  have h8 := h.2.2.2.2.2.2.2
  have mono : ∀ u, t + 1 ≤ u → u ≤ a 1 → a_load a t ≤ a_fs a u := by
    intro u hu1 hu2
    have nn : ∀ u, 0 ≤ u → u ≤ a 1 → 0 ≤ a_fs a u := by
      intro u g1 g2
      refine zfor_ind (fun _ s => 0 ≤ s) (Int.le_refl 0) (fun i s q1 q2 q3 => ?_) u g1 g2
      split
      · exact q3
      · rename_i hz
        have hk' : a (17 + 6 * i + 0) = 0 := by rcases (h.2.2.2.2.2.2.1 i q1 q2).1 with z | z; exact z; exact absurd z hz
        have := a_load_b h q1 q2 hk'
        omega
    have step : ∀ n : Nat, t + 1 + n ≤ a 1 → a_load a t ≤ a_fs a (t + 1 + n) := by
      intro n
      induction n with
      | zero =>
        intro hn
        unfold a_fs
        rw [show t + 1 + ((0 : Nat) : Int) = t + 1 by omega, zfor_S _ h0, if_neg (by omega)]
        have := nn t h0 (by omega)
        unfold a_fs at this
        omega
      | succ n ih =>
        intro hn
        have g := ih (by omega)
        unfold a_fs at g ⊢
        rw [show t + 1 + ((n + 1 : Nat) : Int) = (t + 1 + n) + 1 by omega, zfor_S _ (by omega)]
        split
        · exact g
        · rename_i hz
          have hk' : a (17 + 6 * (t + 1 + (n : Int)) + 0) = 0 := by rcases (h.2.2.2.2.2.2.1 (t + 1 + n) (by omega) (by omega)).1 with z | z; exact z; exact absurd z hz
          have := a_load_b h (t := t + 1 + n) (by omega) (by omega) hk'
          omega
    have := step (u - (t + 1)).toNat (by omega)
    rwa [show t + 1 + (((u - (t + 1)).toNat : Nat) : Int) = u by omega] at this
  have := mono (a 1) (by omega) (Int.le_refl _)
  omega
