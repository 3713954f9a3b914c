/-! The world behind the constructors. -/
def kB : List Nat := [0, 64, 65, 128, 192, 198, 199, 200, 201, 202, 203, 204, 205, 206, 207, 208, 131, 132, 256, 262, 263, 264, 265, 266, 267, 268, 269, 270, 271, 272, 320, 321, 322, 323, 384, 387, 388, 389, 390, 391, 392, 393, 394, 395, 396, 397, 398, 399, 448, 449, 450, 451, 512, 515, 516, 517, 518, 519, 520, 521, 522, 523, 524, 525, 526, 527, 576, 577, 578, 579, 640, 641, 704, 705, 706, 707, 768, 769, 770, 771, 832, 833, 834, 835, 896, 897, 898, 899, 960, 961, 962, 963, 1024, 1025, 1026, 1027, 1088, 1089, 1090, 1091, 1152, 1153, 1154, 1155, 10, 1216, 1280, 1281, 1344, 1350, 1351, 1352, 1353, 1354, 1355, 1356, 1357, 1358, 1359, 1360, 1408, 1409, 1410, 1411, 1472, 1536, 1537, 1600, 1606, 1607, 1608, 1609, 1610, 1611, 1612, 1613, 1614, 1615, 1616, 1664, 1665, 1666, 1667, 1728, 1792, 1793, 1856, 1862, 1863, 1864, 1865, 1866, 1867, 1868, 1869, 1870, 1871, 1872, 1920, 1921, 1922, 1923, 1984, 1986, 1987, 1988, 1989, 2000, 2003, 2006, 2007, 2008, 2009, 2010, 2011, 2012, 2013, 2014, 2015, 2016, 2017, 2018, 2019, 2025, 2026, 2028, 2032]
def zof (k : Nat) : Nat := if k % 64 = 0 then ([0, 1, 3, 4, 18, 30, 34, 48, 52, 66, 70, 72, 76, 80, 84, 88, 92, 96, 100, 105, 106, 108, 120, 124, 125, 127, 139, 143, 144, 146, 158, 162] : List Nat).getD (k / 64) 0 else (if k / 64 = 0 then 104 else if k / 64 = 2 then 16 else ([0, 1, 3, 4, 18, 30, 34, 48, 52, 66, 70, 72, 76, 80, 84, 88, 92, 96, 100, 105, 106, 108, 120, 124, 125, 127, 139, 143, 144, 146, 158, 162] : List Nat).getD (k / 64) 0 + 1) + ((zfL (zoc (k / 64))).take (k % 64 - 1)).countP (fun q => decide (4 ≤ q.1))
def zad (a : Nat) (ext : Nat → Nat) (k : Nat) : Nat := if k < 2048 then a + zof k else ext k
theorem kB_of : ∀ k ∈ zkeys, kB[zof k]? = some k := by
  intro k hk
  have key : (zkeys.all fun k => kB[zof k]? == some k) = true := by decide +kernel
  exact eq_of_beq (List.all_eq_true.mp key k hk)
theorem zof_lt : ∀ k ∈ zkeys, zof k < 187 ∧ k < 2048 := by
  intro k hk
  refine ⟨?_, List.mem_range.mp (List.mem_filter.mp hk).1⟩
  have := (List.getElem?_eq_some_iff.mp (kB_of k hk)).1
  exact this
theorem zad_k {a : Nat} {ext : Nat → Nat} {k : Nat} (hk : k ∈ zkeys) : zad a ext k = a + zof k := by
  unfold zad
  rw [if_pos (zof_lt k hk).2]
theorem zad_inj {a : Nat} {ext : Nat → Nat} : zInj (zad a ext) := by
  intro k k' h h' e
  rw [zad_k h, zad_k h'] at e
  have e : zof k = zof k' := by omega
  have h1 := kB_of k h
  rw [e, kB_of k' h'] at h1
  exact (Option.some.inj h1).symm
theorem zad_As {a : Nat} {ext : Nat → Nat} {q : Nat} (h : zAs (zad a ext) q) : a ≤ q ∧ q < a + 187 := by
  obtain ⟨k, hk, e⟩ := h
  rw [zad_k hk] at e
  have := (zof_lt k hk).1
  omega
def cR (D : va_G) (a : Nat) (B : List va_E) (H : Heap) : Prop := ∀ (i : Nat) (e : va_E), B[i]? = some e → va_at D vwCl (a + i, e) H
theorem cR.app {D : va_G} {a q : Nat} {P B : List va_E} {H : Heap} (h1 : cR D a P H) (h2 : cR D q B H) (hn : q = a + P.length) : cR D a (P ++ B) H := by
  intro i e hi
  rcases Nat.lt_or_ge i P.length with z | z
  · rw [List.getElem?_append_left z] at hi
    exact h1 i e hi
  · rw [List.getElem?_append_right z] at hi
    have := h2 _ e hi
    rw [hn, show a + P.length + (i - P.length) = a + i by omega] at this
    exact this
theorem cR.l {D : va_G} {a : Nat} {P B : List va_E} {H : Heap} (h : cR D a (P ++ B) H) : cR D a P H := fun i e hi => h i e (by rw [List.getElem?_append_left (List.getElem?_eq_some_iff.mp hi).1]; exact hi)
theorem cR.r {D : va_G} {a q : Nat} {P B : List va_E} {H : Heap} (h : cR D a (P ++ B) H) (hn : q = a + P.length) : cR D q B H := by
  intro i e hi
  have := h (P.length + i) e (by rw [List.getElem?_append_right (by omega), show P.length + i - P.length = i by omega]; exact hi)
  rw [hn, Nat.add_assoc]
  exact this
theorem cR.hd {D : va_G} {a : Nat} {e : va_E} {T : List va_E} {H : Heap} (h : cR D a (e :: T) H) : cR D a [e] H ∧ cR D (a + 1) T H := ⟨cR.l (P := [e]) (B := T) h, cR.r (P := [e]) (B := T) h rfl⟩
theorem cR.arr {D : va_G} {a i n : Nat} {B : List va_E} {c : ClassId} {f g : Nat → Int32} {H : Heap} (h : cR D a B H) (hi : B[i]? = some (.inl (c, n, .inl f))) (hfg : ∀ i, i < n → f i = g i) : cR D a (B.set i (.inl (c, n, .inl g))) H := by
  intro j e hj
  rw [List.getElem?_set] at hj
  by_cases hij : i = j
  · subst hij
    rw [if_pos rfl] at hj
    split at hj
    · cases hj; exact va_at.arr (h i _ hi) hfg
    · cases hj
  · rw [if_neg hij] at hj
    exact h j e hj
theorem cR.arq {D : va_G} {a i n : Nat} {B : List va_E} {c : ClassId} {f g : Nat → Option Nat} {H : Heap} (h : cR D a B H) (hi : B[i]? = some (.inl (c, n, .inr (.inr (.inr (.inr f)))))) (hfg : ∀ i, i < n → f i = g i) : cR D a (B.set i (.inl (c, n, .inr (.inr (.inr (.inr g)))))) H := by
  intro j e hj
  rw [List.getElem?_set] at hj
  by_cases hij : i = j
  · subst hij
    rw [if_pos rfl] at hj
    split at hj
    · cases hj; exact va_at.arq (h i _ hi) hfg
    · cases hj
  · rw [if_neg hij] at hj
    exact h j e hj
theorem bX6_len (cs : Nat → ClassId) (a : Nat) : (bX6 cs a).length = 2 := rfl
theorem bX3_len (cs : Nat → ClassId) (a : Nat) : (bX3 cs a).length = 4 := rfl
theorem bX1_len (cs : Nat → ClassId) (a : Nat) : (bX1 cs a).length = 12 := rfl
theorem bX5_len (cs : Nat → ClassId) (a x0 x1 : Nat) : (bX5 cs a x0 x1).length = 14 := rfl
theorem bX8_len (cs : Nat → ClassId) (a : Nat) : (bX8 cs a).length = 25 := rfl
theorem bX4_len (cs : Nat → ClassId) (a x0 : Nat) : (bX4 cs a x0).length = 15 := rfl
theorem bX2_len (cs : Nat → ClassId) (a : Nat) : (bX2 cs a).length = 19 := rfl
theorem bX0_len (cs : Nat → ClassId) (a : Nat) : (bX0 cs a).length = 34 := rfl
theorem bX7_len (cs : Nat → ClassId) (a : Nat) : (bX7 cs a).length = 162 := by
  unfold bX7
  simp only [List.length_cons, List.length_append, List.length_nil, bX6_len, bX3_len, bX1_len, bX5_len, bX8_len, bX4_len, bX2_len, bX0_len]
set_option maxRecDepth 16384 in
theorem w0_1 (cs : Nat → ClassId) (a : Nat) (ext : Nat → Nat) : bX6 cs (a + 1) = [64, 65].map (zce (zad a ext) cs s0) := rfl
set_option maxRecDepth 16384 in
theorem w0_3 (cs : Nat → ClassId) (a : Nat) (ext : Nat → Nat) : bX4 cs (a + 3) (a + 1) = [128, 192, 198, 199, 200, 201, 202, 203, 204, 205, 206, 207, 208, 131, 132].map (zce (zad a ext) cs s0) := rfl
set_option maxRecDepth 16384 in
theorem w0_18 (cs : Nat → ClassId) (a : Nat) (ext : Nat → Nat) : bX1 cs (a + 18) = [256, 262, 263, 264, 265, 266, 267, 268, 269, 270, 271, 272].map (zce (zad a ext) cs s0) := rfl
set_option maxRecDepth 16384 in
theorem w0_30 (cs : Nat → ClassId) (a : Nat) (ext : Nat → Nat) : bX3 cs (a + 30) = [320, 321, 322, 323].map (zce (zad a ext) cs s0) := rfl
set_option maxRecDepth 16384 in
theorem w0_34 (cs : Nat → ClassId) (a : Nat) (ext : Nat → Nat) : bX5 cs (a + 34) (a + 18) (a + 30) = [384, 387, 388, 389, 390, 391, 392, 393, 394, 395, 396, 397, 398, 399].map (zce (zad a ext) cs s0) := rfl
set_option maxRecDepth 16384 in
theorem w0_48 (cs : Nat → ClassId) (a : Nat) (ext : Nat → Nat) : bX3 cs (a + 48) = [448, 449, 450, 451].map (zce (zad a ext) cs s0) := rfl
set_option maxRecDepth 16384 in
theorem w0_52 (cs : Nat → ClassId) (a : Nat) (ext : Nat → Nat) : bX5 cs (a + 52) (a + 18) (a + 48) = [512, 515, 516, 517, 518, 519, 520, 521, 522, 523, 524, 525, 526, 527].map (zce (zad a ext) cs s0) := rfl
set_option maxRecDepth 16384 in
theorem w0_66 (cs : Nat → ClassId) (a : Nat) (ext : Nat → Nat) : bX3 cs (a + 66) = [576, 577, 578, 579].map (zce (zad a ext) cs s0) := rfl
set_option maxRecDepth 16384 in
theorem w0_105 (cs : Nat → ClassId) (a : Nat) (ext : Nat → Nat) : bX2 cs (a + 105) = [1216, 1280, 1281, 1344, 1350, 1351, 1352, 1353, 1354, 1355, 1356, 1357, 1358, 1359, 1360, 1408, 1409, 1410, 1411].map (zce (zad a ext) cs s0) := rfl
set_option maxRecDepth 16384 in
theorem w0_124 (cs : Nat → ClassId) (a : Nat) (ext : Nat → Nat) : bX2 cs (a + 124) = [1472, 1536, 1537, 1600, 1606, 1607, 1608, 1609, 1610, 1611, 1612, 1613, 1614, 1615, 1616, 1664, 1665, 1666, 1667].map (zce (zad a ext) cs s0) := rfl
set_option maxRecDepth 16384 in
theorem w0_143 (cs : Nat → ClassId) (a : Nat) (ext : Nat → Nat) : bX2 cs (a + 143) = [1728, 1792, 1793, 1856, 1862, 1863, 1864, 1865, 1866, 1867, 1868, 1869, 1870, 1871, 1872, 1920, 1921, 1922, 1923].map (zce (zad a ext) cs s0) := rfl
set_option maxRecDepth 16384 in
theorem w0_0 (cs : Nat → ClassId) (a : Nat) (ext : Nat → Nat) : [(.inr (7, [.ref (a + 1), .ref (a + 3), .ref (a + 18), .ref (a + 30), .ref (a + 34), .ref (a + 48), .ref (a + 52), .ref (a + 66), .ref (a + 70), .ref (a + 104), zI 0, zI (-1)]) : va_E)] = [0].map (zce (zad a ext) cs s0) := rfl
set_option maxRecDepth 16384 in
theorem w0_70 (cs : Nat → ClassId) (a : Nat) (ext : Nat → Nat) : (bX0 cs (a + 70)).set 1 (zce (zad a ext) cs s0 641) = [640, 641, 704, 705, 706, 707, 768, 769, 770, 771, 832, 833, 834, 835, 896, 897, 898, 899, 960, 961, 962, 963, 1024, 1025, 1026, 1027, 1088, 1089, 1090, 1091, 1152, 1153, 1154, 1155].map (zce (zad a ext) cs s0) := rfl
set_option maxRecDepth 16384 in
theorem w0_162 (cs : Nat → ClassId) (a : Nat) (ext : Nat → Nat) : (bX8 cs (a + 162)).set 1 (zce (zad a ext) cs s0 1986) = [1984, 1986, 1987, 1988, 1989, 2000, 2003, 2006, 2007, 2008, 2009, 2010, 2011, 2012, 2013, 2014, 2015, 2016, 2017, 2018, 2019, 2025, 2026, 2028, 2032].map (zce (zad a ext) cs s0) := rfl
set_option maxRecDepth 16384 in
theorem w0_all {D : va_G} {cs : Nat → ClassId} {a : Nat} {ext : Nat → Nat} {H : Heap} (h7 : cR D a (bX7 cs a) H) (h8 : cR D (a + 162) (bX8 cs (a + 162)) H) : va_P D vwCl (zwl (zad a ext) cs s0) H := by
  unfold bX7 at h7
  have g0 := h7.hd.1
  have t13 := h7.hd.2
  have g143 := cR.r (q := a + 143) t13 (by simp only [List.length_cons, List.length_append, List.length_nil, bX6_len, bX3_len, bX1_len, bX5_len, bX8_len, bX4_len, bX2_len, bX0_len])
  have t12 := t13.l
  have g124 := cR.r (q := a + 124) t12 (by simp only [List.length_cons, List.length_append, List.length_nil, bX6_len, bX3_len, bX1_len, bX5_len, bX8_len, bX4_len, bX2_len, bX0_len])
  have t11 := t12.l
  have g105 := cR.r (q := a + 105) t11 (by simp only [List.length_cons, List.length_append, List.length_nil, bX6_len, bX3_len, bX1_len, bX5_len, bX8_len, bX4_len, bX2_len, bX0_len])
  have t10 := t11.l
  have g104 := cR.r (q := a + 104) t10 (by simp only [List.length_cons, List.length_append, List.length_nil, bX6_len, bX3_len, bX1_len, bX5_len, bX8_len, bX4_len, bX2_len, bX0_len])
  have t9 := t10.l
  have g70 := cR.r (q := a + 70) t9 (by simp only [List.length_cons, List.length_append, List.length_nil, bX6_len, bX3_len, bX1_len, bX5_len, bX8_len, bX4_len, bX2_len, bX0_len])
  have t8 := t9.l
  have g66 := cR.r (q := a + 66) t8 (by simp only [List.length_cons, List.length_append, List.length_nil, bX6_len, bX3_len, bX1_len, bX5_len, bX8_len, bX4_len, bX2_len, bX0_len])
  have t7 := t8.l
  have g52 := cR.r (q := a + 52) t7 (by simp only [List.length_cons, List.length_append, List.length_nil, bX6_len, bX3_len, bX1_len, bX5_len, bX8_len, bX4_len, bX2_len, bX0_len])
  have t6 := t7.l
  have g48 := cR.r (q := a + 48) t6 (by simp only [List.length_cons, List.length_append, List.length_nil, bX6_len, bX3_len, bX1_len, bX5_len, bX8_len, bX4_len, bX2_len, bX0_len])
  have t5 := t6.l
  have g34 := cR.r (q := a + 34) t5 (by simp only [List.length_cons, List.length_append, List.length_nil, bX6_len, bX3_len, bX1_len, bX5_len, bX8_len, bX4_len, bX2_len, bX0_len])
  have t4 := t5.l
  have g30 := cR.r (q := a + 30) t4 (by simp only [List.length_cons, List.length_append, List.length_nil, bX6_len, bX3_len, bX1_len, bX5_len, bX8_len, bX4_len, bX2_len, bX0_len])
  have t3 := t4.l
  have g18 := cR.r (q := a + 18) t3 (by simp only [List.length_cons, List.length_append, List.length_nil, bX6_len, bX3_len, bX1_len, bX5_len, bX8_len, bX4_len, bX2_len, bX0_len])
  have t2 := t3.l
  have g3 := cR.r (q := a + 3) t2 (by simp only [List.length_cons, List.length_append, List.length_nil, bX6_len, bX3_len, bX1_len, bX5_len, bX8_len, bX4_len, bX2_len, bX0_len])
  have t1 := t2.l
  have g1 := t1
  rw [w0_1 cs a ext] at g1
  rw [w0_3 cs a ext] at g3
  rw [w0_18 cs a ext] at g18
  rw [w0_30 cs a ext] at g30
  rw [w0_34 cs a ext] at g34
  rw [w0_48 cs a ext] at g48
  rw [w0_52 cs a ext] at g52
  rw [w0_66 cs a ext] at g66
  rw [w0_105 cs a ext] at g105
  rw [w0_124 cs a ext] at g124
  rw [w0_143 cs a ext] at g143
  have g70 := cR.arq (i := 1) (g := fun i => some (zad a ext (64 * (zar s0 10 0 (i : Int)).toNat))) g70 rfl (by
    intro i hi
    match i, hi with
    | 0, _ => rfl
    | 1, _ => rfl
    | 2, _ => rfl
    | 3, _ => rfl
    | 4, _ => rfl
    | 5, _ => rfl
    | 6, _ => rfl
    | 7, _ => rfl)
  have g70 : cR D (a + 70) ((bX0 cs (a + 70)).set 1 (zce (zad a ext) cs s0 641)) H := g70
  rw [w0_70 cs a ext] at g70
  have g104 := cR.arq (i := 0) (g := fun i => some (zad a ext (64 * (zar s0 0 9 (i : Int)).toNat))) g104 rfl (by
    intro i hi
    match i, hi with
    | 0, _ => rfl
    | 1, _ => rfl
    | 2, _ => rfl)
  have g104 : cR D (a + 104) ([10].map (zce (zad a ext) cs s0)) H := g104
  have g162 := cR.arr (i := 1) (g := fun i => Int32.ofInt (zar s0 31 1 (i : Int))) h8 rfl (by
    intro i hi
    show upd (upd (upd (fun _ => Int32.ofInt 0) 2 (Int32.ofInt 10)) 3 (Int32.ofInt 2)) 121 (Int32.ofInt (-1)) i = Int32.ofInt (s0a (i : Int))
    unfold upd s0a
    by_cases q2 : i = 2
    · subst q2; rfl
    · by_cases q3 : i = 3
      · subst q3; rfl
      · by_cases q4 : i = 121
        · subst q4; rfl
        · rw [if_neg q4, if_neg q3, if_neg q2, if_neg (by omega), if_neg (by omega), if_neg (by omega)])
  have g162 : cR D (a + 162) ((bX8 cs (a + 162)).set 1 (zce (zad a ext) cs s0 1986)) H := g162
  rw [w0_162 cs a ext] at g162
  have g0 : cR D a ([0].map (zce (zad a ext) cs s0)) H := by rw [← w0_0 cs a ext]; exact g0
  have f1 := cR.app g0 g1 (by simp only [List.length_append, List.length_map, List.length_cons, List.length_nil]; try omega)
  have f2 := cR.app f1 g3 (by simp only [List.length_append, List.length_map, List.length_cons, List.length_nil]; try omega)
  have f3 := cR.app f2 g18 (by simp only [List.length_append, List.length_map, List.length_cons, List.length_nil]; try omega)
  have f4 := cR.app f3 g30 (by simp only [List.length_append, List.length_map, List.length_cons, List.length_nil]; try omega)
  have f5 := cR.app f4 g34 (by simp only [List.length_append, List.length_map, List.length_cons, List.length_nil]; try omega)
  have f6 := cR.app f5 g48 (by simp only [List.length_append, List.length_map, List.length_cons, List.length_nil]; try omega)
  have f7 := cR.app f6 g52 (by simp only [List.length_append, List.length_map, List.length_cons, List.length_nil]; try omega)
  have f8 := cR.app f7 g66 (by simp only [List.length_append, List.length_map, List.length_cons, List.length_nil]; try omega)
  have f9 := cR.app f8 g70 (by simp only [List.length_append, List.length_map, List.length_cons, List.length_nil]; try omega)
  have f10 := cR.app f9 g104 (by simp only [List.length_append, List.length_map, List.length_cons, List.length_nil]; try omega)
  have f11 := cR.app f10 g105 (by simp only [List.length_append, List.length_map, List.length_cons, List.length_nil]; try omega)
  have f12 := cR.app f11 g124 (by simp only [List.length_append, List.length_map, List.length_cons, List.length_nil]; try omega)
  have f13 := cR.app f12 g143 (by simp only [List.length_append, List.length_map, List.length_cons, List.length_nil]; try omega)
  have f14 := cR.app f13 g162 (by simp only [List.length_append, List.length_map, List.length_cons, List.length_nil]; try omega)
  have e : kB = (((((((((((((([0] ++ [64, 65]) ++ [128, 192, 198, 199, 200, 201, 202, 203, 204, 205, 206, 207, 208, 131, 132]) ++ [256, 262, 263, 264, 265, 266, 267, 268, 269, 270, 271, 272]) ++ [320, 321, 322, 323]) ++ [384, 387, 388, 389, 390, 391, 392, 393, 394, 395, 396, 397, 398, 399]) ++ [448, 449, 450, 451]) ++ [512, 515, 516, 517, 518, 519, 520, 521, 522, 523, 524, 525, 526, 527]) ++ [576, 577, 578, 579]) ++ [640, 641, 704, 705, 706, 707, 768, 769, 770, 771, 832, 833, 834, 835, 896, 897, 898, 899, 960, 961, 962, 963, 1024, 1025, 1026, 1027, 1088, 1089, 1090, 1091, 1152, 1153, 1154, 1155]) ++ [10]) ++ [1216, 1280, 1281, 1344, 1350, 1351, 1352, 1353, 1354, 1355, 1356, 1357, 1358, 1359, 1360, 1408, 1409, 1410, 1411]) ++ [1472, 1536, 1537, 1600, 1606, 1607, 1608, 1609, 1610, 1611, 1612, 1613, 1614, 1615, 1616, 1664, 1665, 1666, 1667]) ++ [1728, 1792, 1793, 1856, 1862, 1863, 1864, 1865, 1866, 1867, 1868, 1869, 1870, 1871, 1872, 1920, 1921, 1922, 1923]) ++ [1984, 1986, 1987, 1988, 1989, 2000, 2003, 2006, 2007, 2008, 2009, 2010, 2011, 2012, 2013, 2014, 2015, 2016, 2017, 2018, 2019, 2025, 2026, 2028, 2032]) := rfl
  have hA : cR D a (kB.map (zce (zad a ext) cs s0)) H := by
    rw [e]
    simp only [List.map_append]
    exact f14
  intro i q hi
  unfold zwl at hi
  rw [List.getElem?_map] at hi
  cases hk : zkeys[i]? with
  | none => rw [hk] at hi; cases hi
  | some k =>
    rw [hk] at hi
    cases hi
    have hm := List.mem_of_getElem? hk
    have h2 := hA (zof k) (zce (zad a ext) cs s0 k) (by rw [List.getElem?_map, kB_of k hm]; rfl)
    rw [← zad_k (ext := ext) hm] at h2
    exact h2
