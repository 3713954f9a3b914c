/-! Cartons are laid. -/
def s_pc (t d : Int) (m : zOb) : zOb := oss (osa (osa (osa (osa (osa (osa m 21 (m.1 20) t) 22 (m.1 20) d) 23 (m.1 20) (-1)) 24 (m.1 20) (-1)) 25 (m.1 20) (-1)) 26 (m.1 20) (-1)) 20 (m.1 20 + 1)
def s_l3 (t d : Int) (m : zOb) : zOb := zfor (fun _ m => s_pc t d m) (m.2 1 (17 + 6 * t + (2 + d))) m
def s_l2 (t : Int) (m : zOb) : zOb := if m.2 1 (17 + 6 * t + 0) = 1 then m else zfor (s_l3 t) 4 m
def s_l0 (t : Int) (m : zOb) : zOb := osa (osa (osa (osa (osa m 27 t (-1)) 28 t (-1)) 29 t 0) 30 t (-1)) 31 t (-1)
def s_l1 (t : Int) (m : zOb) : zOb := s_l2 t (s_l0 t m)
def s_lt (m : zOb) : zOb := zfor s_l1 (m.2 1 1) (oss m 20 0)
def s_lk (d k : Int) (m : zOb) : zOb := osa (osa m 30 (m.2 1 (71 + 8 * d + k)) d) 31 (m.2 1 (71 + 8 * d + k)) k
def s_ld0 (d : Int) (m : zOb) : zOb := osa (osa (osa m 32 d 0) 33 d 0) 34 d 0
def s_ld (d : Int) (m : zOb) : zOb := zfor (s_lk d) (m.2 1 (65 + d)) (s_ld0 d m)
def s_lay (m : zOb) : zOb := zfor s_ld (m.2 1 0) (s_lt m)
theorem a_pl_S (a : Int → Int) (t : Int) {d : Int} (h : 0 ≤ d) : a_pl a t (d + 1) = a_pl a t d + a (17 + 6 * t + (2 + d)) := by
  unfold a_pl
  rw [zfor_S _ h]
theorem a_pl_4 (a : Int → Int) (t : Int) : a_pl a t 4 = a_load a t := by
  have p0 : a_pl a t 0 = 0 := rfl
  have p1 := a_pl_S a t (d := 0) (by omega)
  have p2 := a_pl_S a t (d := 1) (by omega)
  have p3 := a_pl_S a t (d := 2) (by omega)
  have p4 := a_pl_S a t (d := 3) (by omega)
  rw [show 17 + 6 * t + (2 + 0) = 17 + 6 * t + 2 by omega] at p1
  rw [show 17 + 6 * t + (2 + 1) = 17 + 6 * t + 3 by omega] at p2
  rw [show 17 + 6 * t + (2 + 2) = 17 + 6 * t + 4 by omega] at p3
  rw [show 17 + 6 * t + (2 + 3) = 17 + 6 * t + 5 by omega] at p4
  simp only [Int.zero_add, Int.reduceAdd] at p1 p2 p3 p4
  unfold a_load
  omega
theorem a_fs_S (a : Int → Int) {t : Int} (h : 0 ≤ t) : a_fs a (t + 1) = if a (17 + 6 * t + 0) = 1 then a_fs a t else a_fs a t + a_load a t := by
  unfold a_fs
  rw [zfor_S _ h]
theorem a_fs_mono {a : Int → Int} (h : WFa a) {t u : Int} (h0 : 0 ≤ t) (h1 : t ≤ u) (h2 : u ≤ a 1) : a_fs a t ≤ a_fs a u := by
  have step : ∀ n : Nat, t + n ≤ a 1 → a_fs a t ≤ a_fs a (t + n) := by
    intro n
    induction n with
    | zero => intro _; rw [show t + ((0 : Nat) : Int) = t by omega]; exact Int.le_refl _
    | succ n ih =>
      intro hn
      have g := ih (by omega)
      rw [show t + ((n + 1 : Nat) : Int) = (t + n) + 1 by omega, a_fs_S _ (by omega)]
      split
      · exact g
      · rename_i hz
        have hk' : a (17 + 6 * (t + (n : Int)) + 0) = 0 := by rcases (h.2.2.2.2.2.2.1 (t + n) (by omega) (by omega)).1 with z | z; exact z; exact absurd z hz
        have := a_load_b h (t := t + n) (by omega) (by omega) hk'
        omega
  have := step (u - t).toNat (by omega)
  rwa [show t + (((u - t).toNat : Nat) : Int) = u by omega] at this
theorem a_fs_nn {a : Int → Int} (h : WFa a) {t : Int} (h0 : 0 ≤ t) (h1 : t ≤ a 1) : 0 ≤ a_fs a t := a_fs_mono h (t := 0) (Int.le_refl 0) h0 h1
theorem a_fs_end {a : Int → Int} (h : WFa a) {t u : Int} (h0 : 0 ≤ t) (h1 : t < u) (h2 : u ≤ a 1) (hk : a (17 + 6 * t + 0) = 0) : a_fs a t + a_load a t ≤ a_fs a u := by
  have e := a_fs_S a h0
  rw [if_neg (by omega)] at e
  have := a_fs_mono h (t := t + 1) (u := u) (by omega) (by omega) h2
  omega
/-- loads of the first destinations -/
theorem a_pl_b {a : Int → Int} (h : WFa a) {t d : Int} (h0 : 0 ≤ t) (h1 : t < a 1) (hk : a (17 + 6 * t + 0) = 0) (hd0 : 0 ≤ d) (hd1 : d < 4) : 0 ≤ a_pl a t d ∧ 0 ≤ a (17 + 6 * t + (2 + d)) ∧ a_pl a t d + a (17 + 6 * t + (2 + d)) ≤ a_load a t := by
  have g := (h.2.2.2.2.2.2.1 t h0 h1).2.2.2 hk
  have e4 := a_pl_4 a t
  have p0 : a_pl a t 0 = 0 := rfl
  have p1 := a_pl_S a t (d := 0) (by omega)
  have p2 := a_pl_S a t (d := 1) (by omega)
  have p3 := a_pl_S a t (d := 2) (by omega)
  have p4 := a_pl_S a t (d := 3) (by omega)
  rw [show 17 + 6 * t + (2 + 0) = 17 + 6 * t + 2 by omega] at p1
  rw [show 17 + 6 * t + (2 + 1) = 17 + 6 * t + 3 by omega] at p2
  rw [show 17 + 6 * t + (2 + 2) = 17 + 6 * t + 4 by omega] at p3
  rw [show 17 + 6 * t + (2 + 3) = 17 + 6 * t + 5 by omega] at p4
  simp only [Int.zero_add, Int.reduceAdd] at p1 p2 p3 p4
  have hd : d = 0 ∨ d = 1 ∨ d = 2 ∨ d = 3 := by omega
  rcases hd with rfl | rfl | rfl | rfl
  · rw [show 17 + 6 * t + (2 + 0) = 17 + 6 * t + 2 by omega]; omega
  · rw [show 17 + 6 * t + (2 + 1) = 17 + 6 * t + 3 by omega]; omega
  · rw [show 17 + 6 * t + (2 + 2) = 17 + 6 * t + 4 by omega]; omega
  · rw [show 17 + 6 * t + (2 + 3) = 17 + 6 * t + 5 by omega]; omega
/-- what holds while cartons are laid: of trucks below t all is laid; n cartons -/
def LQ (a : Int → Int) (t n : Int) (m : zOb) : Prop := m.2 1 = a ∧ m.1 20 = n ∧
  (∀ c, 0 ≤ c → c < n → (0 ≤ m.2 21 c ∧ m.2 21 c < a 1) ∧ a (17 + 6 * m.2 21 c + 0) = 0 ∧ (0 ≤ m.2 22 c ∧ m.2 22 c ≤ 3) ∧ a_fs a (m.2 21 c) ≤ c ∧ c < a_fs a (m.2 21 c) + a_load a (m.2 21 c) ∧ a_fs a (m.2 21 c) + a_pl a (m.2 21 c) (m.2 22 c) ≤ c ∧ c < a_fs a (m.2 21 c) + a_pl a (m.2 21 c) (m.2 22 c) + a (17 + 6 * m.2 21 c + (2 + m.2 22 c))) ∧
  (∀ c, 0 ≤ c → c < n → m.2 23 c = -1 ∧ m.2 24 c = -1 ∧ m.2 25 c = -1 ∧ m.2 26 c = -1) ∧
  (∀ u, 0 ≤ u → u < t → m.2 27 u = -1 ∧ m.2 28 u = -1 ∧ m.2 29 u = 0 ∧ m.2 30 u = -1 ∧ m.2 31 u = -1)
theorem LQ_l0 {a : Int → Int} {t n : Int} {m : zOb} (h : LQ a t n m) : LQ a (t + 1) n (s_l0 t m) := by
  obtain ⟨h1, h2, h3, h4, h5⟩ := h
  refine ⟨h1, h2, h3, h4, fun u hu0 hu1 => ?_⟩
  show zup (m.2 27) t (-1) u = -1 ∧ zup (m.2 28) t (-1) u = -1 ∧ zup (m.2 29) t 0 u = 0 ∧ zup (m.2 30) t (-1) u = -1 ∧ zup (m.2 31) t (-1) u = -1
  by_cases e : u = t
  · subst e
    simp only [zup_s]
    exact ⟨trivial, trivial, trivial, trivial, trivial⟩
  · rw [zup_n _ _ e, zup_n _ _ e, zup_n _ _ e, zup_n _ _ e, zup_n _ _ e]
    exact h5 u hu0 (by omega)
theorem LQ_pc {a : Int → Int} (hwa : WFa a) {t d n u : Int} {m : zOb} (h0 : 0 ≤ t) (h1 : t < a 1) (hk : a (17 + 6 * t + 0) = 0) (hd0 : 0 ≤ d) (hd1 : d < 4) (hn1 : a_fs a t + a_pl a t d ≤ n) (hn2 : n < a_fs a t + a_pl a t d + a (17 + 6 * t + (2 + d))) (h : LQ a u n m) : LQ a u (n + 1) (s_pc t d m) := by
  have hpb := a_pl_b hwa h0 h1 hk hd0 hd1
  obtain ⟨g1, g2, g3, g4, g5⟩ := h
  have hnn := a_fs_nn hwa h0 (by omega)
  refine ⟨g1, by show m.1 20 + 1 = n + 1; omega, fun c hc0 hc1 => ?_, fun c hc0 hc1 => ?_, g5⟩
  · show (0 ≤ zup (m.2 21) (m.1 20) t c ∧ zup (m.2 21) (m.1 20) t c < a 1) ∧ a (17 + 6 * zup (m.2 21) (m.1 20) t c + 0) = 0 ∧ (0 ≤ zup (m.2 22) (m.1 20) d c ∧ zup (m.2 22) (m.1 20) d c ≤ 3) ∧ a_fs a (zup (m.2 21) (m.1 20) t c) ≤ c ∧ c < a_fs a (zup (m.2 21) (m.1 20) t c) + a_load a (zup (m.2 21) (m.1 20) t c) ∧ a_fs a (zup (m.2 21) (m.1 20) t c) + a_pl a (zup (m.2 21) (m.1 20) t c) (zup (m.2 22) (m.1 20) d c) ≤ c ∧ c < a_fs a (zup (m.2 21) (m.1 20) t c) + a_pl a (zup (m.2 21) (m.1 20) t c) (zup (m.2 22) (m.1 20) d c) + a (17 + 6 * zup (m.2 21) (m.1 20) t c + (2 + zup (m.2 22) (m.1 20) d c))
    by_cases e : c = m.1 20
    · rw [← e, zup_s, zup_s]
      omega
    · rw [zup_n _ _ e, zup_n _ _ e]
      exact g3 c hc0 (by omega)
  · show zup (m.2 23) (m.1 20) (-1) c = -1 ∧ zup (m.2 24) (m.1 20) (-1) c = -1 ∧ zup (m.2 25) (m.1 20) (-1) c = -1 ∧ zup (m.2 26) (m.1 20) (-1) c = -1
    by_cases e : c = m.1 20
    · rw [← e, zup_s, zup_s, zup_s, zup_s]
      exact ⟨rfl, rfl, rfl, rfl⟩
    · rw [zup_n _ _ e, zup_n _ _ e, zup_n _ _ e, zup_n _ _ e]
      exact g4 c hc0 (by omega)
/-- k cartons of a truck for one destination -/
theorem LQ_l3k {a : Int → Int} (hwa : WFa a) {t d n u : Int} {m : zOb} (h0 : 0 ≤ t) (h1 : t < a 1) (hk : a (17 + 6 * t + 0) = 0) (hd0 : 0 ≤ d) (hd1 : d < 4) (h : LQ a u n m) (hn : n = a_fs a t + a_pl a t d) {k : Int} (hk0 : 0 ≤ k) (hk1 : k ≤ a (17 + 6 * t + (2 + d))) : LQ a u (n + k) (zfor (fun _ m => s_pc t d m) k m) := by
  have hb := a_pl_b hwa h0 h1 hk hd0 hd1
  refine zfor_ind (fun k m' => LQ a u (n + k) m') (n := a (17 + 6 * t + (2 + d))) (by rw [Int.add_zero]; exact h) (fun i m' q1 q2 q3 => ?_) k hk0 hk1
  rw [← Int.add_assoc]
  exact LQ_pc hwa h0 h1 hk hd0 hd1 (by omega) (by omega) q3
theorem LQ_l2d {a : Int → Int} (hwa : WFa a) {t u : Int} {m : zOb} (h0 : 0 ≤ t) (h1 : t < a 1) (hk : a (17 + 6 * t + 0) = 0) (h : LQ a u (a_fs a t) m) {d : Int} (hd0 : 0 ≤ d) (hd1 : d ≤ 4) : LQ a u (a_fs a t + a_pl a t d) (zfor (s_l3 t) d m) := by
  refine zfor_ind (fun d m' => LQ a u (a_fs a t + a_pl a t d) m') (n := 4) (by show LQ a u (a_fs a t + 0) m; rw [Int.add_zero]; exact h) (fun i m' q1 q2 q3 => ?_) d hd0 hd1
  rw [a_pl_S _ _ q1, ← Int.add_assoc]
  have hb := a_pl_b hwa h0 h1 hk q1 q2
  have := LQ_l3k hwa h0 h1 hk q1 q2 q3 rfl hb.2.1 (Int.le_refl _)
  have e : m'.2 1 = a := q3.1
  unfold s_l3
  rw [e]
  exact this
theorem LQ_l1 {a : Int → Int} (hwa : WFa a) {t : Int} {m : zOb} (h0 : 0 ≤ t) (h1 : t < a 1) (h : LQ a t (a_fs a t) m) : LQ a (t + 1) (a_fs a (t + 1)) (s_l1 t m) := by
  have h2 := LQ_l0 h
  have e : (s_l0 t m).2 1 = a := h.1
  unfold s_l1 s_l2
  rw [e, a_fs_S _ h0]
  split
  · exact h2
  · rename_i hz
    have hk : a (17 + 6 * t + 0) = 0 := by rcases (hwa.2.2.2.2.2.2.1 t h0 h1).1 with z | z; exact z; exact absurd z hz
    have := LQ_l2d hwa h0 h1 hk h2 (d := 4) (by omega) (by omega)
    rwa [a_pl_4] at this
theorem LQ_lt {a : Int → Int} (hwa : WFa a) {m : zOb} (hm : m.2 1 = a) {t : Int} (h0 : 0 ≤ t) (h1 : t ≤ a 1) : LQ a t (a_fs a t) (zfor s_l1 t (oss m 20 0)) := by
  refine zfor_ind (a := oss m 20 0) (fun t m' => LQ a t (a_fs a t) m') (n := a 1) ⟨hm, rfl, fun c q1 q2 => ?_, fun c q1 q2 => ?_, fun u q1 q2 => by omega⟩ (fun i m' q1 q2 q3 => LQ_l1 hwa q1 q2 q3) t h0 h1
  · have e : a_fs a 0 = 0 := rfl
    omega
  · have e : a_fs a 0 = 0 := rfl
    omega
/-- rows are told to trucks: doors below e, and of e the places below k -/
def LD (a : Int → Int) (e k : Int) (m0 m : zOb) : Prop := m.2 1 = a ∧ m.1 20 = m0.1 20 ∧ m.2 21 = m0.2 21 ∧ m.2 22 = m0.2 22 ∧ m.2 23 = m0.2 23 ∧ m.2 24 = m0.2 24 ∧ m.2 25 = m0.2 25 ∧ m.2 26 = m0.2 26 ∧ m.2 27 = m0.2 27 ∧ m.2 28 = m0.2 28 ∧ m.2 29 = m0.2 29 ∧
  (∀ d, 0 ≤ d → (d < e ∨ (d = e ∧ 0 ≤ k)) → m.2 32 d = 0 ∧ m.2 33 d = 0 ∧ m.2 34 d = 0) ∧
  (∀ t, 0 ≤ t → t < a 1 → (m.2 30 t = -1 ∧ m.2 31 t = -1 ∧ ∀ d j, 0 ≤ d → 0 ≤ j → j < a (65 + d) → (d < e ∨ (d = e ∧ j < k)) → a (71 + 8 * d + j) ≠ t) ∨ ((0 ≤ m.2 30 t ∧ m.2 30 t ≤ e) ∧ (m.2 30 t = e → m.2 31 t < k) ∧ (0 ≤ m.2 31 t ∧ m.2 31 t < a (65 + m.2 30 t)) ∧ a (71 + 8 * m.2 30 t + m.2 31 t) = t))
theorem LD_0 {a : Int → Int} {e : Int} {m0 m : zOb} (hk : ∀ d, 0 ≤ d → d < e → 0 ≤ a (65 + d)) (he : 0 ≤ e) (h : LD a e (-1) m0 m) : LD a e 0 m0 (s_ld0 e m) := by
  obtain ⟨h1, h2, h3, h4, h5, h6, h7, h8, h9, h10, h11, h12, h13⟩ := h
  refine ⟨h1, h2, h3, h4, h5, h6, h7, h8, h9, h10, h11, fun d q1 q2 => ?_, fun t q1 q2 => ?_⟩
  · show zup (m.2 32) e 0 d = 0 ∧ zup (m.2 33) e 0 d = 0 ∧ zup (m.2 34) e 0 d = 0
    by_cases z : d = e
    · subst z; simp only [zup_s]; exact ⟨trivial, trivial, trivial⟩
    · rw [zup_n _ _ z, zup_n _ _ z, zup_n _ _ z]
      exact h12 d q1 (by omega)
  · show (m.2 30 t = -1 ∧ m.2 31 t = -1 ∧ _) ∨ _
    rcases h13 t q1 q2 with ⟨z1, z2, z3⟩ | ⟨z1, z2, z3, z4⟩
    · exact Or.inl ⟨z1, z2, fun d j g1 g2 g3 g4 => z3 d j g1 g2 g3 (by omega)⟩
    · exact Or.inr ⟨z1, fun z => by have := z2 z; show m.2 31 t < 0; omega, z3, z4⟩
theorem LD_k {a : Int → Int} (hwr : WFr a) {e k : Int} {m0 m : zOb} (he0 : 0 ≤ e) (he1 : e < a 0) (hk0 : 0 ≤ k) (hk1 : k < a (65 + e)) (h : LD a e k m0 m) : LD a e (k + 1) m0 (s_lk e k m) := by
  obtain ⟨h1, h2, h3, h4, h5, h6, h7, h8, h9, h10, h11, h12, h13⟩ := h
  refine ⟨h1, h2, h3, h4, h5, h6, h7, h8, h9, h10, h11, fun d q1 q2 => h12 d q1 (by omega), fun t q1 q2 => ?_⟩
  have e30 : (s_lk e k m).2 30 = zup (m.2 30) (a (71 + 8 * e + k)) e := by rw [← h1]; rfl
  have e31 : (s_lk e k m).2 31 = zup (m.2 31) (a (71 + 8 * e + k)) k := by rw [← h1]; rfl
  rw [e30, e31]
  by_cases z : t = a (71 + 8 * e + k)
  · right
    rw [← z, zup_s, zup_s]
    exact ⟨⟨he0, Int.le_refl _⟩, fun _ => by omega, ⟨hk0, hk1⟩, z.symm⟩
  · rw [zup_n _ _ z, zup_n _ _ z]
    rcases h13 t q1 q2 with ⟨z1, z2, z3⟩ | ⟨z1, z2, z3, z4⟩
    · refine Or.inl ⟨z1, z2, fun d j g1 g2 g3 g4 => ?_⟩
      by_cases g : d = e ∧ j = k
      · obtain ⟨rfl, rfl⟩ := g
        exact fun q => z q.symm
      · exact z3 d j g1 g2 g3 (by omega)
    · exact Or.inr ⟨z1, fun y => by have := z2 y; omega, z3, z4⟩
theorem LD_kk {a : Int → Int} (hwr : WFr a) {e : Int} {m0 m : zOb} (he0 : 0 ≤ e) (he1 : e < a 0) (h : LD a e 0 m0 m) {k : Int} (hk0 : 0 ≤ k) (hk1 : k ≤ a (65 + e)) : LD a e k m0 (zfor (s_lk e) k m) :=
  zfor_ind (fun k m' => LD a e k m0 m') (n := a (65 + e)) h (fun i m' q1 q2 q3 => LD_k hwr he0 he1 q1 q2 q3) k hk0 hk1
theorem LD_next {a : Int → Int} (hwr : WFr a) {e : Int} {m0 m : zOb} (he0 : 0 ≤ e) (he1 : e < a 0) (h : LD a e (a (65 + e)) m0 m) : LD a (e + 1) (-1) m0 m := by
  obtain ⟨h1, h2, h3, h4, h5, h6, h7, h8, h9, h10, h11, h12, h13⟩ := h
  have hr := hwr.1 e he0 he1
  refine ⟨h1, h2, h3, h4, h5, h6, h7, h8, h9, h10, h11, fun d q1 q2 => h12 d q1 (by omega), fun t q1 q2 => ?_⟩
  rcases h13 t q1 q2 with ⟨z1, z2, z3⟩ | ⟨z1, z2, z3, z4⟩
  · refine Or.inl ⟨z1, z2, fun d j g1 g2 g3 g4 => z3 d j g1 g2 g3 ?_⟩
    by_cases g : d = e
    · subst g; exact Or.inr ⟨rfl, g3⟩
    · exact Or.inl (by omega)
  · exact Or.inr ⟨by omega, fun y => by omega, z3, z4⟩
theorem LD_ld {a : Int → Int} (hwr : WFr a) {m0 : zOb} (hm : m0.2 1 = a) (hdo : ∀ t, 0 ≤ t → t < a 1 → m0.2 30 t = -1 ∧ m0.2 31 t = -1) {e : Int} (he0 : 0 ≤ e) (he1 : e ≤ a 0) : LD a e (-1) m0 (zfor s_ld e m0) := by
  refine zfor_ind (fun e m' => LD a e (-1) m0 m') (n := a 0) ⟨hm, rfl, rfl, rfl, rfl, rfl, rfl, rfl, rfl, rfl, rfl, fun d q1 q2 => by omega, fun t q1 q2 => Or.inl ⟨(hdo t q1 q2).1, (hdo t q1 q2).2, fun d j g1 g2 g3 g4 => by omega⟩⟩ (fun i m' q1 q2 q3 => ?_) e he0 he1
  have h1 := LD_0 (fun d g1 g2 => (hwr.1 d g1 (by omega)).1) q1 q3
  have e1 : m'.2 1 = a := q3.1
  have := LD_kk hwr q1 q2 h1 (k := a (65 + i)) (hwr.1 i q1 q2).1 (Int.le_refl _)
  unfold s_ld
  rw [e1]
  exact LD_next hwr q1 q2 this
/-- at first: what a run begins with -/
def s_ini (m : zOb) : zOb := oss (oss (oss (oss (oss (s_lay m) 36 0) 37 0) 38 (-1)) 39 0) 35 0
theorem ini_ok {m : zOb} (hwa : WFa (m.2 1)) (hwr : WFr (m.2 1)) : SI (s_ini m) ∧ DI (-1) (s_ini m) ∧ (s_ini m).2 1 = m.2 1 := by
  have hq := LQ_lt hwa (m := m) rfl (t := m.2 1 1) hwa.2.1.1 (Int.le_refl _)
  have e0 : s_lt m = zfor s_l1 (m.2 1 1) (oss m 20 0) := rfl
  rw [← e0] at hq
  obtain ⟨q1, q2, q3, q4, q5⟩ := hq
  have hd := LD_ld hwr (m0 := s_lt m) q1 (fun t g1 g2 => ⟨(q5 t g1 g2).2.2.2.1, (q5 t g1 g2).2.2.2.2⟩) (e := m.2 1 0) hwa.1.1 (Int.le_refl _)
  have e2 : s_lay m = zfor s_ld (m.2 1 0) (s_lt m) := rfl
  rw [← e2] at hd
  obtain ⟨h1, h2, h3, h4, h5, h6, h7, h8, h9, h10, h11, h12, h13⟩ := hd
  generalize s_lt m = m1 at q1 q2 q3 q4 q5 h1 h2 h3 h4 h5 h6 h7 h8 h9 h10 h11
  have hini : ∀ j, (s_ini m).2 j = (s_lay m).2 j := fun j => rfl
  have hi20 : (s_ini m).1 20 = (s_lay m).1 20 := rfl
  have hi35 : (s_ini m).1 35 = 0 := rfl
  have hi36 : (s_ini m).1 36 = 0 := rfl
  generalize s_ini m = m2 at hini hi20 hi35 hi36 ⊢
  generalize s_lay m = m3 at h1 h2 h3 h4 h5 h6 h7 h8 h9 h10 h11 h12 h13 hini hi20
  have hfe := hwa.2.2.2.2.2.2.2
  have hfn := a_fs_nn hwa (t := m.2 1 1) hwa.2.1.1 (Int.le_refl _)
  have htr : ∀ d k, 0 ≤ d → d < m.2 1 0 → 0 ≤ k → k < m.2 1 (65 + d) → m.2 1 (71 + 8 * d + k) < m.2 1 1 ∧ 0 ≤ m.2 1 (71 + 8 * d + k) := fun d k g1 g2 g3 g4 => ⟨(hwr.2.1 d k g1 g2 g3 g4).2.1, (hwr.2.1 d k g1 g2 g3 g4).1⟩
  refine ⟨⟨by rw [hini, h1]; exact hwa, by rw [hini, h1]; exact hwr, ?_⟩, ?_, by rw [hini, h1]⟩
  · rw [hini, hini, hini, hini, hini, hi20, h1, h2, h3, h4, q2]
    refine ⟨rfl, ⟨hfn, hfe⟩, q3, fun t c g1 g2 g3 g4 g5 => ?_, fun t g1 g2 => ?_⟩
    · have hend := a_fs_end hwa g1 g2 (Int.le_refl _) g3
      have hf0 := a_fs_nn hwa g1 (by omega)
      refine ⟨⟨by omega, by omega⟩, ?_⟩
      obtain ⟨z1, z2, z3, z4, z5⟩ := q3 c (by omega) (by omega)
      rcases Int.lt_trichotomy (m1.2 21 c) t with y | y | y
      · have := a_fs_end hwa z1.1 y (by omega) z2
        omega
      · exact y
      · have := a_fs_end hwa g1 y (by omega) g3
        omega
    · rcases h13 t g1 g2 with ⟨z1, z2, z3⟩ | ⟨z1, z2, z3, z4⟩
      · exact Or.inl ⟨z1, z2, fun d k y1 y2 y3 y4 => z3 d k y1 y3 y4 (Or.inl y2)⟩
      · refine Or.inr ⟨⟨z1.1, ?_⟩, z3, z4⟩
        rcases Int.lt_or_le (m3.2 30 t) (m.2 1 0) with y | y
        · exact y
        · have := z2 (by omega)
          omega
  · refine ⟨?_, ?_, ?_, ?_, ?_, ?_, ?_, ?_⟩
    · intro d g1 g2
      simp only [hini, s_tr] at g2 ⊢
      rw [h1] at g2 ⊢
      have := h12 d g1 (Or.inl g2)
      have hr := hwr.1 d g1 g2
      rw [this.1, this.2.1, this.2.2, hi35]
      exact ⟨by omega, by omega, fun z => by omega, by omega, by omega⟩
    · intro d gx g1 g2 g3
      rw [hini] at g2 g3
      rw [h1] at g2
      have := h12 d g1 (Or.inl g2)
      omega
    · intro d k g1 g2 g3 g4
      simp only [hini] at g2 g3 g4 ⊢
      rw [h1] at g2 g4 ⊢
      have hz := h12 d g1 (Or.inl g2)
      have := htr d k g1 g2 (by omega) g4
      rw [h9, h10, h11]
      have := q5 _ this.2 this.1
      exact ⟨this.2.2.1, this.1, this.2.1⟩
    · intro d k g1 g2 g3 g4
      simp only [hini] at g2 g4
      rw [h1] at g2
      have := h12 d g1 (Or.inl g2)
      omega
    · intro d k k' g1 g2 g3 g4 g5 g6
      simp only [hini] at g2 g5 g6
      rw [h1] at g2 g5 g6
      rw [h9] at g6
      have := htr d k' g1 g2 (by omega) g5
      exact absurd (q5 _ this.2 this.1).1 g6
    · intro t g1 g2
      simp only [hini] at g2 ⊢
      rw [h1] at g2 ⊢
      rw [h9, h10, h11, hi35]
      have z := q5 t g1 g2
      rw [z.1, z.2.1, z.2.2.1]
      refine ⟨⟨by omega, ?_⟩, by omega, by omega, fun _ => ⟨rfl, rfl, rfl⟩⟩
      unfold a_cap
      split
      · rename_i y
        have := ((hwa.2.2.2.2.2.2.1 t g1 g2).2.2.1 y).2.2.1
        omega
      · rename_i y
        have hk : m.2 1 (17 + 6 * t + 0) = 0 := by rcases (hwa.2.2.2.2.2.2.1 t g1 g2).1 with y2 | y2; exact y2; exact absurd y2 y
        have := (a_load_b hwa g1 g2 hk).1
        omega
    · intro c g1 g2
      rw [hi20, h2, q2] at g2
      simp only [hini]
      rw [h1, h3, h5, h6, h7, h8, h11, hi35]
      have z := q4 c g1 g2
      have z2 := q3 c g1 g2
      have z3 := q5 _ z2.1.1 z2.1.2
      rw [z.1, z.2.1, z3.2.2.1]
      refine ⟨by omega, ⟨fun y => by omega, fun y => by omega⟩, fun y => by omega, Or.inl rfl⟩
    · refine ⟨?_, by rw [hi35]; exact Int.le_refl _⟩
      rw [hi36]
      unfold s_stg
      rw [zcnt_none]
      intro i g1 g2
      rw [hi20, h2, q2] at g2
      simp only [hini]
      rw [h5, (q4 i g1 g2).1]
      simp
