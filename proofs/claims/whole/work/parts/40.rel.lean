/-! The class's run beside the model's. -/
def zsum (f : Int → Int) (n : Int) : Int := zfor (fun i s => s + f i) n 0
theorem zsum_S (f : Int → Int) {n : Int} (h : 0 ≤ n) : zsum f (n + 1) = zsum f n + f n := by
  unfold zsum
  rw [zfor_S _ h]
theorem zsum_congr {f g : Int → Int} {n : Int} (h : ∀ i, 0 ≤ i → i < n → f i = g i) : zsum f n = zsum g n := zfor_congr (fun i b h1 h2 => by rw [h i h1 h2])
theorem zsum_one {f g : Int → Int} {n k v : Int} (h0 : 0 ≤ k) (hk : k < n) (hv : g k = f k + v) (h : ∀ i, 0 ≤ i → i < n → i ≠ k → g i = f i) : zsum g n = zsum f n + v := by
  have key : ∀ i, 0 ≤ i → i ≤ n → zsum g i = zsum f i + (if k < i then v else 0) := by
    intro i h1 h2
    refine zfor_ind (f := fun i s => s + g i) (a := (0 : Int)) (fun i b => b = zsum f i + (if k < i then v else 0)) (n := n) (by rw [if_neg (by omega)]; rfl) (fun i b g1 g2 g3 => ?_) i h1 h2
    rw [zsum_S f g1, g3]
    have hh : (if k < i + 1 then v else 0) = (if k < i then v else 0) + (if i = k then v else 0) := by
      split <;> split <;> split <;> omega
    rw [hh]
    by_cases e : i = k
    · rw [if_pos e, e, hv]; omega
    · rw [if_neg e, h i g1 g2 e]; omega
  rw [key n (by omega) (Int.le_refl n), if_pos hk]
theorem zsum_nn {f : Int → Int} {n : Int} (hn : 0 ≤ n) (h : ∀ i, 0 ≤ i → i < n → 0 ≤ f i) : 0 ≤ zsum f n := zfor_ind (fun _ s => 0 ≤ s) (Int.le_refl 0) (fun i s h1 h2 h3 => by have := h i h1 h2; omega) n hn (Int.le_refl n)
theorem zsum_z {f : Int → Int} {n : Int} (hn : 0 ≤ n) (h : ∀ i, 0 ≤ i → i < n → 0 ≤ f i) : zsum f n = 0 ↔ ∀ i, 0 ≤ i → i < n → f i = 0 := by
  constructor
  · intro hz i h1 h2
    have h3 := zsum_one (f := fun j => if j = i then 0 else f j) (g := f) (v := f i) h1 h2 (by simp) (fun j _ _ hj => by simp [hj])
    have h4 := zsum_nn (f := fun j => if j = i then 0 else f j) hn (fun j g1 g2 => by split; omega; exact h j g1 g2)
    have := h i h1 h2
    omega
  · intro hz
    have := zsum_congr (f := f) (g := fun _ => 0) hz
    rw [this]
    exact zfor_ind (fun _ s => s = 0) rfl (fun i s h1 h2 h3 => by rw [h3]; rfl) n hn (Int.le_refl n)
/-- the dock of the class, told by the table a -/
def DKE (dk : zOb) (a : Int → Int) : Prop :=
  dk.1 0 = a 0 ∧ dk.1 1 = a 1 ∧ dk.1 2 = a_fs a (a 1) ∧ dk.1 4 = a 3 ∧
  (∀ d, 0 ≤ d → d < a 0 → dk.2 5 d = a (5 + 2 * d) ∧ dk.2 6 d = a (5 + 2 * d + 1)) ∧
  (∀ t, 0 ≤ t → t < a 1 → dk.2 7 t = a (17 + 6 * t + 0) ∧ (a (17 + 6 * t + 0) = 1 → dk.2 9 t = a (17 + 6 * t + 2) ∧ dk.2 10 t = a (17 + 6 * t + 3) ∧ dk.2 11 t = a (17 + 6 * t + 4) ∧ dk.2 12 t = a (17 + 6 * t + 5)) ∧ (a (17 + 6 * t + 0) = 0 → dk.2 9 t = -1 ∧ dk.2 10 t = -1 ∧ dk.2 11 t = a_load a t ∧ dk.2 12 t = -1 ∧ dk.2 13 t = a_fs a t)) ∧
  (∀ c, 0 ≤ c → c < a_fs a (a 1) → (0 ≤ dk.2 14 c ∧ dk.2 14 c < a 1) ∧ a (17 + 6 * dk.2 14 c + 0) = 0 ∧ (0 ≤ dk.2 15 c ∧ dk.2 15 c ≤ 3) ∧ a_fs a (dk.2 14 c) + a_pl a (dk.2 14 c) (dk.2 15 c) ≤ c ∧ c < a_fs a (dk.2 14 c) + a_pl a (dk.2 14 c) (dk.2 15 c) + a (17 + 6 * dk.2 14 c + (2 + dk.2 15 c)))
/-- the plan of the class, told by the table a -/
def PLE (pl : zOb) (a : Int → Int) : Prop :=
  (∀ t, 0 ≤ t → t < a 1 → pl.2 2 t = a (17 + 6 * t + 1)) ∧
  (∀ t, 0 ≤ t → t < 8 → (pl.2 0 t = -1 ∧ pl.2 1 t = -1 ∧ ∀ d k, 0 ≤ d → d < a 0 → 0 ≤ k → k < a (65 + d) → a (71 + 8 * d + k) ≠ t) ∨ (t < a 1 ∧ (0 ≤ pl.2 0 t ∧ pl.2 0 t < a 0) ∧ (0 ≤ pl.2 1 t ∧ pl.2 1 t < a (65 + pl.2 0 t)) ∧ a (71 + 8 * pl.2 0 t + pl.2 1 t) = t))
/-- partial loads grow -/
theorem a_pl_mono {a : Int → Int} (h : WFa a) {t d e : Int} (h0 : 0 ≤ t) (h1 : t < a 1) (hk : a (17 + 6 * t + 0) = 0) (hd0 : 0 ≤ d) (hde : d < e) (he : e ≤ 3) : a_pl a t d + a (17 + 6 * t + (2 + d)) ≤ a_pl a t e := by
  have p0 := a_pl_b h h0 h1 hk (d := 0) (by omega) (by omega)
  have p1 := a_pl_b h h0 h1 hk (d := 1) (by omega) (by omega)
  have p2 := a_pl_b h h0 h1 hk (d := 2) (by omega) (by omega)
  have p3 := a_pl_b h h0 h1 hk (d := 3) (by omega) (by omega)
  have s1 := a_pl_S a t (d := 0) (by omega)
  have s2 := a_pl_S a t (d := 1) (by omega)
  have s3 := a_pl_S a t (d := 2) (by omega)
  simp only [Int.zero_add, Int.reduceAdd] at s1 s2 s3 p0 p1 p2 p3
  have hd : (d = 0 ∨ d = 1 ∨ d = 2) ∧ (e = 1 ∨ e = 2 ∨ e = 3) := by omega
  obtain ⟨rfl | rfl | rfl, rfl | rfl | rfl⟩ := hd <;> simp only [Int.reduceAdd] <;> omega
/-- a carton's truck and destination are told by its number -/
theorem c_uniq {a : Int → Int} (h : WFa a) {c t z t' z' : Int} (h1 : 0 ≤ t ∧ t < a 1) (h2 : a (17 + 6 * t + 0) = 0) (h3 : 0 ≤ z ∧ z ≤ 3) (h4 : a_fs a t + a_pl a t z ≤ c) (h5 : c < a_fs a t + a_pl a t z + a (17 + 6 * t + (2 + z))) (g1 : 0 ≤ t' ∧ t' < a 1) (g2 : a (17 + 6 * t' + 0) = 0) (g3 : 0 ≤ z' ∧ z' ≤ 3) (g4 : a_fs a t' + a_pl a t' z' ≤ c) (g5 : c < a_fs a t' + a_pl a t' z' + a (17 + 6 * t' + (2 + z'))) : t = t' ∧ z = z' := by
  have p := a_pl_b h h1.1 h1.2 h2 (d := z) (by omega) (by omega)
  have q := a_pl_b h g1.1 g1.2 g2 (d := z') (by omega) (by omega)
  have ht : t = t' := by
    rcases Int.lt_trichotomy t t' with y | y | y
    · have := a_fs_end h h1.1 y (by omega) h2
      omega
    · exact y
    · have := a_fs_end h g1.1 y (by omega) g2
      omega
  subst ht
  refine ⟨rfl, ?_⟩
  rcases Int.lt_trichotomy z z' with y | y | y
  · have := a_pl_mono h h1.1 h1.2 h2 h3.1 y g3.2
    omega
  · exact y
  · have := a_pl_mono h h1.1 h1.2 h2 g3.1 y h3.2
    omega
theorem env_c {dk m : zOb} (hS : SI m) (hE : DKE dk (m.2 1)) {c : Int} (h0 : 0 ≤ c) (h1 : c < m.1 20) : dk.2 14 c = m.2 21 c ∧ dk.2 15 c = m.2 22 c := by
  obtain ⟨hwa, hwr, hly⟩ := hS
  have e1 := hE.2.2.2.2.2.2 c h0 (by rw [← hly.1]; exact h1)
  have e2 := hly.2.2.1 c h0 h1
  exact c_uniq hwa e1.1 e1.2.1 e1.2.2.1 e1.2.2.2.1 e1.2.2.2.2 e2.1 e2.2.1 e2.2.2.1 e2.2.2.2.2.2.1 e2.2.2.2.2.2.2
theorem env_d {pl m : zOb} (hS : SI m) (hP : PLE pl (m.2 1)) {t : Int} (h0 : 0 ≤ t) (h1 : t < m.2 1 1) : pl.2 0 t = m.2 30 t ∧ pl.2 1 t = m.2 31 t := by
  obtain ⟨hwa, hwr, hly⟩ := hS
  have h8 := hwa.2.1
  rcases hP.2 t h0 (by omega) with ⟨z1, z2, z3⟩ | ⟨z0, z1, z2, z3⟩ <;> rcases hly.2.2.2.2 t h0 h1 with ⟨y1, y2, y3⟩ | ⟨y1, y2, y3⟩
  · omega
  · exact absurd y3 (z3 _ _ y1.1 y1.2 y2.1 y2.2)
  · exact absurd z3 (y3 _ _ z1.1 z1.2 z2.1 z2.2)
  · exact hwr.2.2 _ _ _ _ z1.1 z1.2 z2.1 z2.2 y1.1 y1.2 y2.1 y2.2 (z3.trans y3.symm)
/-- the truck at a place -/
def p_at (pl : zOb) (d k : Int) : Int := zfst (fun t => decide (pl.2 0 t = d ∧ pl.2 1 t = k)) 8
theorem p_at_eq {pl : zOb} {a : Int → Int} (hwa : WFa a) (hwr : WFr a) (hP : PLE pl a) {d : Int} (h0 : 0 ≤ d) (h1 : d < a 0) (k : Int) : p_at pl d k = if 0 ≤ k ∧ k < a (65 + d) then a (71 + 8 * d + k) else -1 := by
  have h8 := hwa.2.1
  split
  · rename_i hk
    obtain ⟨r1, r2, -⟩ := hwr.2.1 d k h0 h1 hk.1 hk.2
    have hq := hP.2 _ r1 (by omega)
    refine zfst_some r1 (by omega) ?_ (fun j q1 q2 => ?_)
    · rcases hq with ⟨-, -, z3⟩ | ⟨z0, z1, z2, z3⟩
      · exact absurd rfl (z3 d k h0 h1 hk.1 hk.2)
      · have := hwr.2.2 _ _ d k z1.1 z1.2 z2.1 z2.2 h0 h1 hk.1 hk.2 z3
        exact decide_eq_true this
    · apply decide_eq_false
      rintro ⟨y1, y2⟩
      rcases hP.2 j q1 (by omega) with ⟨z1, -⟩ | ⟨z0, z1, z2, z3⟩
      · omega
      · rw [y1, y2] at z3
        omega
  · rename_i hk
    refine zfst_none (fun j q1 q2 => decide_eq_false ?_)
    rintro ⟨y1, y2⟩
    rcases hP.2 j q1 q2 with ⟨z1, -⟩ | ⟨z0, z1, z2, z3⟩
    · omega
    · rw [y1] at z2
      omega
def s_w (m : zOb) (z : Int) : Int := zcnt (fun c => decide (m.2 23 c ≠ -1 ∧ m.2 24 c = -1 ∧ m.2 22 c = z)) (m.1 20)
def s_x (m : zOb) (z : Int) : Int := zcnt (fun c => decide (m.2 24 c = -1 ∧ m.2 22 c = z ∧ m.2 30 (m.2 21 c) ≠ -1)) (m.1 20)
def s_u (m : zOb) : Int := zsum (fun d => m.2 1 (65 + d) - m.2 32 d) (m.2 1 0)
def RR1 (Y m : zOb) : Prop := ∀ t, 0 ≤ t → t < m.2 1 1 → Y.2 2 t = m.2 27 t ∧ Y.2 3 t = m.2 28 t ∧ Y.2 4 t = m.2 29 t
def RR2 (Y m : zOb) : Prop := ∀ c, 0 ≤ c → c < m.1 20 → Y.2 5 c = m.2 23 c ∧ Y.2 6 c = m.2 24 c ∧ Y.2 7 c = m.2 25 c ∧ Y.2 8 c = m.2 26 c ∧ (m.2 23 c ≠ -1 → Y.2 9 c = m.2 1 (5 + 2 * m.2 30 (m.2 21 c) + 1))
def RR3 (Y m : zOb) : Prop := ∀ d, 0 ≤ d → d < m.2 1 0 → Y.2 10 d = (if m.2 33 d = 1 then m.2 1 (71 + 8 * d + m.2 32 d) else -1) ∧ Y.2 11 d = (if m.2 32 d + m.2 33 d < m.2 1 (65 + d) then m.2 1 (71 + 8 * d + (m.2 32 d + m.2 33 d)) else -1) ∧ Y.2 12 d = m.2 34 d
def RR4 (Y m : zOb) : Prop := ∀ z, 0 ≤ z → z ≤ 3 → Y.2 13 z = s_w m z ∧ Y.2 14 z = s_x m z
def RR5 (Y m : zOb) : Prop := Y.1 15 = m.2 1 2 ∧ Y.1 16 = m.1 36 ∧ Y.1 17 = s_u m
def RR (Y m : zOb) : Prop := RR1 Y m ∧ RR2 Y m ∧ RR3 Y m ∧ RR4 Y m ∧ RR5 Y m
def r_lv (dk : zOb) (t d mi : Int) (Y : zOb) : zOb := oss (osa (osa (osa Y 3 t mi) 10 d (-1)) 12 d (mi + dk.1 4 + 1)) 17 (Y.1 17 - 1)
theorem RR_lv {dk Y m : zOb} {d x : Int} (hS : SI m) (hD : DI x m) (hR : RR Y m) (h0 : 0 ≤ d) (h1 : d < m.2 1 0) (hst : m.2 33 d = 1) (hch : dk.1 4 = m.2 1 3) : RR (r_lv dk (s_tr m d) d (m.1 35) Y) (s_lv d m) := by
  obtain ⟨r1, r2, r3, r4, r5⟩ := hR
  have htr := tr_ok hS hD h0 h1 hst
  refine ⟨fun t q0 q1 => ?_, r2, fun e q0 q1 => ?_, r4, r5.1, r5.2.1, ?_⟩
  · show Y.2 2 t = m.2 27 t ∧ zup (Y.2 3) (s_tr m d) (m.1 35) t = zup (m.2 28) (s_tr m d) (m.1 35) t ∧ Y.2 4 t = m.2 29 t
    obtain ⟨a1, a2, a3⟩ := r1 t q0 q1
    refine ⟨a1, ?_, a3⟩
    unfold zup
    split
    · rfl
    · exact a2
  · show zup (Y.2 10) d (-1) e = (if zup (m.2 33) d 0 e = 1 then m.2 1 (71 + 8 * e + zup (m.2 32) d (m.2 32 d + 1) e) else -1) ∧ Y.2 11 e = (if zup (m.2 32) d (m.2 32 d + 1) e + zup (m.2 33) d 0 e < m.2 1 (65 + e) then m.2 1 (71 + 8 * e + (zup (m.2 32) d (m.2 32 d + 1) e + zup (m.2 33) d 0 e)) else -1) ∧ zup (Y.2 12) d (m.1 35 + dk.1 4 + 1) e = zup (m.2 34) d (m.1 35 + m.2 1 3 + 1) e
    obtain ⟨a1, a2, a3⟩ := r3 e q0 q1
    by_cases hed : e = d
    · subst hed
      simp only [zup_s]
      rw [hst] at a2
      rw [hch, if_neg (by omega), Int.add_zero]
      exact ⟨rfl, a2, rfl⟩
    · rw [zup_n _ _ hed, zup_n _ _ hed, zup_n _ _ hed, zup_n _ _ hed, zup_n _ _ hed]
      exact ⟨a1, a2, a3⟩
  · show Y.1 17 - 1 = zsum (fun e => m.2 1 (65 + e) - zup (m.2 32) d (m.2 32 d + 1) e) (m.2 1 0)
    rw [r5.2.2]
    unfold s_u
    have := zsum_one (f := fun e => m.2 1 (65 + e) - m.2 32 e) (g := fun e => m.2 1 (65 + e) - zup (m.2 32) d (m.2 32 d + 1) e) (v := -1) h0 h1 (by rw [zup_s]; omega) (fun i _ _ hi => by rw [zup_n _ _ hi])
    rw [this]
    omega
def r_dk1 (pl : zOb) (t d mi : Int) (Y : zOb) : zOb := osa (osa (osa Y 10 d t) 2 t mi) 11 d (p_at pl d (pl.2 1 t + 1))
theorem RR_dk {pl Y m : zOb} {d : Int} (hS : SI m) (hD : DI (-1) m) (hP : PLE pl (m.2 1)) (hR : RR Y m) (h0 : 0 ≤ d) (h1 : d < m.2 1 0) (c1 : m.2 33 d = 0) (c2 : m.2 32 d < m.2 1 (65 + d)) : RR (r_dk1 pl (s_tr m d) d (m.1 35) Y) (osa (osa m 33 d 1) 27 (s_tr m d) (m.1 35)) := by
  obtain ⟨r1, r2, r3, r4, r5⟩ := hR
  have hd := hD.1 d h0 h1
  have hro : 0 ≤ s_tr m d ∧ s_tr m d < m.2 1 1 ∧ _ := hS.2.1.2.1 d (m.2 32 d) h0 h1 hd.1.1 c2
  have hpl : pl.2 1 (s_tr m d) = m.2 32 d := by
    rcases hP.2 _ hro.1 (by have := hS.1.2.1; omega) with ⟨-, -, z3⟩ | ⟨z0, z1, z2, z3⟩
    · exact absurd rfl (z3 d (m.2 32 d) h0 h1 hd.1.1 c2)
    · exact (hS.2.1.2.2 _ _ _ _ z1.1 z1.2 z2.1 z2.2 h0 h1 hd.1.1 c2 z3).2
  have hpa := p_at_eq hS.1 hS.2.1 hP h0 h1 (m.2 32 d + 1)
  refine ⟨fun t q0 q1 => ?_, r2, fun e q0 q1 => ?_, r4, r5⟩
  · show zup (Y.2 2) (s_tr m d) (m.1 35) t = zup (m.2 27) (s_tr m d) (m.1 35) t ∧ Y.2 3 t = m.2 28 t ∧ Y.2 4 t = m.2 29 t
    obtain ⟨a1, a2, a3⟩ := r1 t q0 q1
    refine ⟨?_, a2, a3⟩
    unfold zup
    split
    · rfl
    · exact a1
  · show zup (Y.2 10) d (s_tr m d) e = (if zup (m.2 33) d 1 e = 1 then m.2 1 (71 + 8 * e + m.2 32 e) else -1) ∧ zup (Y.2 11) d (p_at pl d (pl.2 1 (s_tr m d) + 1)) e = (if m.2 32 e + zup (m.2 33) d 1 e < m.2 1 (65 + e) then m.2 1 (71 + 8 * e + (m.2 32 e + zup (m.2 33) d 1 e)) else -1) ∧ Y.2 12 e = m.2 34 e
    obtain ⟨a1, a2, a3⟩ := r3 e q0 q1
    by_cases hed : e = d
    · subst hed
      simp only [zup_s]
      rw [hpl, hpa, if_pos trivial]
      refine ⟨rfl, ?_, a3⟩
      by_cases z : m.2 32 e + 1 < m.2 1 (65 + e)
      · rw [if_pos ⟨by omega, z⟩, if_pos z]
      · rw [if_neg (fun y => z y.2), if_neg z]
    · rw [zup_n _ _ hed, zup_n _ _ hed, zup_n _ _ hed]
      exact ⟨a1, a2, a3⟩
def r_po1 (dk : zOb) (c t d mi : Int) (Y : zOb) : zOb := osa (oss (osa (osa (osa (osa (osa Y 6 c mi) 7 c t) 8 c (zway (Y.2 9 c) (dk.2 6 d))) 13 (dk.2 15 c) (Y.2 13 (dk.2 15 c) + -1)) 14 (dk.2 15 c) (Y.2 14 (dk.2 15 c) + -1)) 16 (Y.1 16 - 1)) 4 t (Y.2 4 t + 1)
theorem RR_po1 {dk Y m : zOb} {d b : Int} (hS : SI m) (hD : DI (-1) m) (hE : DKE dk (m.2 1)) (hR : RR Y m) (h0 : 0 ≤ d) (h1 : d < m.2 1 0) (hst : m.2 33 d = 1) (hb0 : 0 ≤ b) (hb1 : b < m.1 20) (hcan : s_can m d b = true) : RR (r_po1 dk b (s_tr m d) d (m.1 35) Y) (s_po1 d b m) := by
  obtain ⟨r1, r2, r3, r4, r5⟩ := hR
  simp only [s_can, decide_eq_true_eq] at hcan
  obtain ⟨k1, k2, k3, k4⟩ := hcan
  have hm := hD.2.2.2.2.2.2.2.2
  have hcb := hD.2.2.2.2.2.2.1 b hb0 hb1
  have henv := env_c hS hE hb0 hb1
  have hcf := (hS.2.2.2.2.1 b hb0 hb1).2.2.1
  refine ⟨fun t q0 q1 => ?_, fun c q0 q1 => ?_, r3, fun z q0 q1 => ?_, r5.1, ?_, r5.2.2⟩
  · show Y.2 2 t = m.2 27 t ∧ Y.2 3 t = m.2 28 t ∧ zup (Y.2 4) (s_tr m d) (Y.2 4 (s_tr m d) + 1) t = zup (m.2 29) (s_tr m d) (m.2 29 (s_tr m d) + 1) t
    obtain ⟨a1, a2, a3⟩ := r1 t q0 q1
    refine ⟨a1, a2, ?_⟩
    by_cases e : t = s_tr m d
    · rw [← e, zup_s, zup_s, a3]
    · rw [zup_n _ _ e, zup_n _ _ e, a3]
  · show Y.2 5 c = m.2 23 c ∧ zup (Y.2 6) b (m.1 35) c = zup (m.2 24) b (m.1 35) c ∧ zup (Y.2 7) b (s_tr m d) c = zup (m.2 25) b (s_tr m d) c ∧ zup (Y.2 8) b (zway (Y.2 9 b) (dk.2 6 d)) c = zup (m.2 26) b (s_way m b d) c ∧ (m.2 23 c ≠ -1 → Y.2 9 c = m.2 1 (5 + 2 * m.2 30 (m.2 21 c) + 1))
    obtain ⟨a1, a2, a3, a4, a5⟩ := r2 c q0 q1
    by_cases e : c = b
    · subst e
      simp only [zup_s]
      refine ⟨a1, trivial, trivial, ?_, a5⟩
      rw [a5 k1, (hE.2.2.2.2.1 d h0 h1).2]
      rfl
    · rw [zup_n _ _ e, zup_n _ _ e, zup_n _ _ e, zup_n _ _ e, zup_n _ _ e, zup_n _ _ e]
      exact ⟨a1, a2, a3, a4, a5⟩
  · show zup (Y.2 13) (dk.2 15 b) (Y.2 13 (dk.2 15 b) + -1) z = zcnt (fun c => decide (m.2 23 c ≠ -1 ∧ zup (m.2 24) b (m.1 35) c = -1 ∧ m.2 22 c = z)) (m.1 20) ∧ zup (Y.2 14) (dk.2 15 b) (Y.2 14 (dk.2 15 b) + -1) z = zcnt (fun c => decide (zup (m.2 24) b (m.1 35) c = -1 ∧ m.2 22 c = z ∧ m.2 30 (m.2 21 c) ≠ -1)) (m.1 20)
    rw [henv.2]
    obtain ⟨a1, a2⟩ := r4 z q0 q1
    by_cases e : z = m.2 22 b
    · subst e
      rw [zup_s, zup_s, a1, a2]
      unfold s_w s_x
      have g1 := zcnt_one (p := fun c => decide (m.2 23 c ≠ -1 ∧ zup (m.2 24) b (m.1 35) c = -1 ∧ m.2 22 c = m.2 22 b)) (q := fun c => decide (m.2 23 c ≠ -1 ∧ m.2 24 c = -1 ∧ m.2 22 c = m.2 22 b)) (n := m.1 20) (k := b) hb0 hb1 (by rw [zup_s]; exact decide_eq_false (fun y => by omega)) (decide_eq_true ⟨k1, k2, rfl⟩) (fun i _ _ hi => by rw [zup_n _ _ hi])
      have g2 := zcnt_one (p := fun c => decide (zup (m.2 24) b (m.1 35) c = -1 ∧ m.2 22 c = m.2 22 b ∧ m.2 30 (m.2 21 c) ≠ -1)) (q := fun c => decide (m.2 24 c = -1 ∧ m.2 22 c = m.2 22 b ∧ m.2 30 (m.2 21 c) ≠ -1)) (n := m.1 20) (k := b) hb0 hb1 (by rw [zup_s]; exact decide_eq_false (fun y => by omega)) (decide_eq_true ⟨k2, rfl, hcb.2.2.1 k1⟩) (fun i _ _ hi => by rw [zup_n _ _ hi])
      omega
    · rw [zup_n _ _ e, zup_n _ _ e, a1, a2]
      unfold s_w s_x
      refine ⟨zcnt_congr (fun i _ _ => ?_), zcnt_congr (fun i _ _ => ?_)⟩
      · by_cases hi : i = b
        · subst hi
          rw [decide_eq_false (fun y => e y.2.2.symm), decide_eq_false (fun y => e y.2.2.symm)]
        · rw [zup_n _ _ hi]
      · by_cases hi : i = b
        · subst hi
          rw [decide_eq_false (fun y => e y.2.1.symm), decide_eq_false (fun y => e y.2.1.symm)]
        · rw [zup_n _ _ hi]
  · show Y.1 16 - 1 = m.1 36 - 1
    rw [r5.2.1]
def r_to1 (dk : zOb) (c t d mi : Int) (Y : zOb) : zOb := osa (oss (osa (osa (osa Y 5 c mi) 9 c (dk.2 6 d)) 13 (dk.2 15 c) (Y.2 13 (dk.2 15 c) + 1)) 16 (Y.1 16 + 1)) 4 t (Y.2 4 t + 1)
theorem RR_to1 {dk Y m : zOb} {d : Int} (hS : SI m) (hD : DI (-1) m) (hE : DKE dk (m.2 1)) (hR : RR Y m) (h0 : 0 ≤ d) (h1 : d < m.2 1 0) (hk : m.2 1 (5 + 2 * d) ≠ 1) (hst : m.2 33 d = 1) : RR (r_to1 dk (s_nx m (s_tr m d)) (s_tr m d) d (m.1 35) Y) (s_to1 (s_tr m d) (s_nx m (s_tr m d)) m) := by
  obtain ⟨r1, r2, r3, r4, r5⟩ := hR
  obtain ⟨n1, n2, n3, n4, n5⟩ := s_nx_eq hS hD h0 h1 hk hst
  have htr := tr_ok hS hD h0 h1 hst
  have hm := hD.2.2.2.2.2.2.2.2
  generalize hcx : s_nx m (s_tr m d) = b at n1 n2 n3 n4
  have hcb := hD.2.2.2.2.2.2.1 b n2.1 n2.2
  have henv := env_c hS hE n2.1 n2.2
  have hon : m.2 24 b = -1 := by
    rcases hcb.2.2.2 with z | z
    · exact z
    · exact absurd n4 z.1
  have hdo : m.2 30 (m.2 21 b) = d := by
    rw [n3]
    rcases hS.2.2.2.2.2.2 _ htr.2.1 htr.2.2.1 with ⟨-, -, z⟩ | ⟨z1, z2, z3⟩
    · exact absurd rfl (z d (m.2 32 d) h0 h1 htr.1.1 htr.1.2.1)
    · exact (hS.2.1.2.2 _ _ _ _ z1.1 z1.2 z2.1 z2.2 h0 h1 htr.1.1 htr.1.2.1 z3).1
  refine ⟨fun t q0 q1 => ?_, fun c q0 q1 => ?_, r3, fun z q0 q1 => ?_, r5.1, ?_, r5.2.2⟩
  · show Y.2 2 t = m.2 27 t ∧ Y.2 3 t = m.2 28 t ∧ zup (Y.2 4) (s_tr m d) (Y.2 4 (s_tr m d) + 1) t = zup (m.2 29) (s_tr m d) (m.2 29 (s_tr m d) + 1) t
    obtain ⟨a1, a2, a3⟩ := r1 t q0 q1
    refine ⟨a1, a2, ?_⟩
    by_cases e : t = s_tr m d
    · rw [← e, zup_s, zup_s, a3]
    · rw [zup_n _ _ e, zup_n _ _ e, a3]
  · show zup (Y.2 5) b (m.1 35) c = zup (m.2 23) b (m.1 35) c ∧ Y.2 6 c = m.2 24 c ∧ Y.2 7 c = m.2 25 c ∧ Y.2 8 c = m.2 26 c ∧ (zup (m.2 23) b (m.1 35) c ≠ -1 → zup (Y.2 9) b (dk.2 6 d) c = m.2 1 (5 + 2 * m.2 30 (m.2 21 c) + 1))
    obtain ⟨a1, a2, a3, a4, a5⟩ := r2 c q0 q1
    by_cases e : c = b
    · subst e
      simp only [zup_s]
      refine ⟨trivial, a2, a3, a4, fun _ => ?_⟩
      rw [hdo, (hE.2.2.2.2.1 d h0 h1).2]
    · rw [zup_n _ _ e, zup_n _ _ e, zup_n _ _ e]
      exact ⟨a1, a2, a3, a4, a5⟩
  · show zup (Y.2 13) (dk.2 15 b) (Y.2 13 (dk.2 15 b) + 1) z = zcnt (fun c => decide (zup (m.2 23) b (m.1 35) c ≠ -1 ∧ m.2 24 c = -1 ∧ m.2 22 c = z)) (m.1 20) ∧ Y.2 14 z = s_x m z
    rw [henv.2]
    obtain ⟨a1, a2⟩ := r4 z q0 q1
    refine ⟨?_, a2⟩
    by_cases e : z = m.2 22 b
    · subst e
      rw [zup_s, a1]
      unfold s_w
      have g1 := zcnt_one (p := fun c => decide (m.2 23 c ≠ -1 ∧ m.2 24 c = -1 ∧ m.2 22 c = m.2 22 b)) (q := fun c => decide (zup (m.2 23) b (m.1 35) c ≠ -1 ∧ m.2 24 c = -1 ∧ m.2 22 c = m.2 22 b)) (n := m.1 20) (k := b) n2.1 n2.2 (decide_eq_false (fun y => y.1 n4)) (by rw [zup_s]; exact decide_eq_true ⟨by omega, hon, rfl⟩) (fun i _ _ hi => by rw [zup_n _ _ hi])
      omega
    · rw [zup_n _ _ e, a1]
      unfold s_w
      refine zcnt_congr (fun i _ _ => ?_)
      by_cases hi : i = b
      · subst hi
        rw [decide_eq_false (fun y => e y.2.2.symm), decide_eq_false (fun y => e y.2.2.symm)]
      · rw [zup_n _ _ hi]
  · show Y.1 16 + 1 = m.1 36 + 1
    rw [r5.2.1]
