/-! The abstract machine. A state is what every object's numbers are: by object number, (scalar fields by place, array fields by place and index), all as Int. Which object a reference field names never changes (zrf), but for the places of Acts.before and DockTurns.images, which hold object numbers. -/
abbrev zOb : Type := (Nat → Int) × (Nat → Int → Int)
abbrev zS : Type := Nat → zOb
def zI (n : Int) : Value := .int (Int32.ofInt n)
def zL (n : Int) : Value := .long (Int64.ofInt n)
def zR (o : Nat) : Value := .ref (64 * o)
def zA (o j : Nat) : Value := .ref (64 * o + 1 + j)
def zT (i : Nat) : Value := .ref (100000 + i)
def zsc (σ : zS) (o j : Nat) : Int := (σ o).1 j
def zar (σ : zS) (o j : Nat) : Int → Int := (σ o).2 j
def zup (f : Int → Int) (n v : Int) : Int → Int := fun m => if m = n then v else f m
def zss (σ : zS) (o j : Nat) (v : Int) : zS := fun o' => if o' = o then (fun j' => if j' = j then v else (σ o).1 j', (σ o).2) else σ o'
def zsA (σ : zS) (o j : Nat) (f : Int → Int) : zS := fun o' => if o' = o then ((σ o).1, fun j' => if j' = j then f else (σ o).2 j') else σ o'
def zsa (σ : zS) (o j : Nat) (n v : Int) : zS := zsA σ o j (zup (zar σ o j) n v)
theorem zsc_ss (σ : zS) (o j : Nat) (v : Int) (o' j' : Nat) : zsc (zss σ o j v) o' j' = if o' = o ∧ j' = j then v else zsc σ o' j' := by
  unfold zsc zss
  by_cases h : o' = o
  · subst h; by_cases h2 : j' = j <;> simp [h2]
  · simp [h]
theorem zar_ss (σ : zS) (o j : Nat) (v : Int) (o' j' : Nat) : zar (zss σ o j v) o' j' = zar σ o' j' := by
  unfold zar zss
  by_cases h : o' = o
  · subst h; simp
  · simp [h]
theorem zsc_sA (σ : zS) (o j : Nat) (f : Int → Int) (o' j' : Nat) : zsc (zsA σ o j f) o' j' = zsc σ o' j' := by
  unfold zsc zsA
  by_cases h : o' = o
  · subst h; simp
  · simp [h]
theorem zar_sA (σ : zS) (o j : Nat) (f : Int → Int) (o' j' : Nat) : zar (zsA σ o j f) o' j' = if o' = o ∧ j' = j then f else zar σ o' j' := by
  unfold zar zsA
  by_cases h : o' = o
  · subst h; by_cases h2 : j' = j <;> simp [h2]
  · simp [h]
theorem zsc_sa (σ : zS) (o j : Nat) (n v : Int) (o' j' : Nat) : zsc (zsa σ o j n v) o' j' = zsc σ o' j' := zsc_sA ..
theorem zar_sa (σ : zS) (o j : Nat) (n v : Int) (o' j' : Nat) : zar (zsa σ o j n v) o' j' = if o' = o ∧ j' = j then zup (zar σ o j) n v else zar σ o' j' := zar_sA ..
theorem zup_s (f : Int → Int) (n v : Int) : zup f n v n = v := by simp [zup]
theorem zup_n (f : Int → Int) {n m : Int} (v : Int) (h : m ≠ n) : zup f n v m = f m := by simp [zup, h]
theorem zS_ext {σ τ : zS} (h1 : ∀ o j, zsc σ o j = zsc τ o j) (h2 : ∀ o j, zar σ o j = zar τ o j) : σ = τ := by
  funext o
  exact Prod.ext (funext fun j => h1 o j) (funext fun j => h2 o j)
/-! tables: kinds 0 int, 1 boolean, 2 long, 3 an object, 4 int[], 5 byte[], 6 boolean[], 7 Plan[], 8 Image[]; with an array's length -/
def zfL : Nat → List (Nat × Nat)
  | 0 => [(7,8),(0,0)]
  | 1 => [(0,0),(0,0),(0,0),(0,0),(0,0),(4,6),(4,6),(4,8),(4,8),(4,8),(4,8),(4,8),(4,8),(4,8),(4,40),(4,40)]
  | 2 => [(3,0),(3,0),(3,0),(1,0),(0,0),(0,0)]
  | 3 => [(4,8),(4,8),(4,8),(0,0)]
  | 4 => [(3,0),(3,0),(4,5),(4,5),(0,0),(0,0),(0,0),(0,0),(0,0),(0,0)]
  | 5 => [(3,0),(3,0),(4,8),(4,8),(4,8),(4,40),(4,40),(4,40),(4,40),(4,40),(4,6),(4,6),(4,6),(4,4),(4,4),(0,0),(0,0),(0,0),(0,0)]
  | 6 => [(5,400),(0,0)]
  | 7 => [(3,0),(3,0),(3,0),(3,0),(3,0),(3,0),(3,0),(3,0),(3,0),(8,3),(0,0),(0,0)]
  | 8 => [(0,0),(4,610),(5,1600),(6,3),(4,952),(0,0),(0,0),(0,0),(0,0),(0,0),(0,0),(2,0),(0,0),(0,0),(0,0),(4,119),(0,0),(0,0),(4,6),(1,0),(0,0),(4,40),(4,40),(4,40),(4,40),(4,40),(4,40),(4,8),(4,8),(4,8),(4,8),(4,8),(4,6),(6,6),(4,6),(0,0),(0,0),(0,0),(0,0),(0,0),(4,6),(4,54),(0,0),(4,54),(0,0),(0,0),(0,0),(4,119)]
  | _ => []
theorem zgd {l : List (Nat × Nat)} {n : Nat} {d : Nat × Nat} (h : l.length ≤ n) : l.getD n d = d := by
  rw [List.getD_eq_getElem?_getD, List.getElem?_eq_none h]; rfl
theorem zgdN {l : List Nat} {n : Nat} {d : Nat} (h : l.length ≤ n) : l.getD n d = d := by
  rw [List.getD_eq_getElem?_getD, List.getElem?_eq_none h]; rfl
def zfd (c j : Nat) : Nat × Nat := (zfL c).getD j (99, 0)
def zocL : List Nat := [7,6,4,1,1,3,5,3,5,3,0,3,3,3,3,3,3,3,3,2,6,1,3,2,6,1,3,2,6,1,3,8]
def zoc (o : Nat) : Nat := zocL.getD o 99
def zrfL (o : Nat) : List Nat := if o = 0 then [1,2,4,5,6,7,8,9,10] else if o = 2 then [1,3] else if o = 6 then [4,5] else if o = 8 then [4,7] else if o = 19 then [20,21,22] else if o = 23 then [24,25,26] else if o = 27 then [28,29,30] else []
def zrf (o j : Nat) : Nat := (zrfL o).getD j 0
def zkd (o j : Nat) : Nat × Nat := zfd (zoc o) j
/-- what a place of a kind may hold -/
def zrK (k : Nat) (v : Int) : Prop := match k with
  | 1 => v = 0 ∨ v = 1
  | 2 => -9223372036854775808 ≤ v ∧ v ≤ 9223372036854775807
  | 5 => -128 ≤ v ∧ v ≤ 127
  | 6 => v = 0 ∨ v = 1
  | 7 => 0 ≤ v ∧ zoc v.toNat = 3
  | 8 => 0 ≤ v ∧ zoc v.toNat = 2
  | _ => -2147483648 ≤ v ∧ v ≤ 2147483647
def zRG (σ : zS) : Prop := (∀ o j, zrK (zkd o j).1 (zsc σ o j)) ∧ ∀ o j n, zrK (zkd o j).1 (zar σ o j n)
def zvk (k : Nat) : Bool := decide (zoc (k / 64) < 9) && (k % 64 == 0 || (decide (4 ≤ (zkd (k / 64) (k % 64 - 1)).1) && decide ((zkd (k / 64) (k % 64 - 1)).1 < 9)))
def zkeys : List Nat := (List.range 2048).filter zvk
theorem zkeys_nd : zkeys.Nodup := List.Nodup.sublist List.filter_sublist List.nodup_range
theorem zoc_lt {o : Nat} (h : zoc o < 9) : o < 32 := by
  rcases Nat.lt_or_ge o 32 with q | q
  · exact q
  · unfold zoc zocL at h
    rw [zgdN (by simpa using q)] at h
    omega
theorem zkey_o {o : Nat} (h : zoc o < 9) : 64 * o ∈ zkeys := by
  have := zoc_lt h
  refine List.mem_filter.mpr ⟨List.mem_range.mpr (by omega), ?_⟩
  have e1 : 64 * o / 64 = o := by omega
  have e2 : 64 * o % 64 = 0 := by omega
  simp [zvk, e1, e2, h]
theorem zfL_len : ∀ c, (zfL c).length ≤ 60 := by
  intro c
  match c with
  | 0 | 1 | 2 | 3 | 4 | 5 | 6 | 7 | 8 => decide
  | _ + 9 => exact Nat.zero_le _
theorem zfd_j {c j : Nat} (h : (zfd c j).1 < 9) : j < 60 := by
  rcases Nat.lt_or_ge j (zfL c).length with q | q
  · exact Nat.lt_of_lt_of_le q (zfL_len c)
  · unfold zfd at h
    rw [zgd q] at h
    exact absurd h (by decide)
theorem zkey_a {o j : Nat} (h : zoc o < 9) (h1 : 4 ≤ (zkd o j).1) (h2 : (zkd o j).1 < 9) : 64 * o + 1 + j ∈ zkeys := by
  have h3 := zoc_lt h
  have h4 := zfd_j h2
  refine List.mem_filter.mpr ⟨List.mem_range.mpr (by omega), ?_⟩
  have e1 : (64 * o + 1 + j) / 64 = o := by omega
  have e2 : (64 * o + 1 + j) % 64 = j + 1 := by omega
  simp [zvk, e1, e2, h, h1, h2]
/-- concrete values out of abstract ones -/
def zcv (ad : Nat → Nat) (v : Value) : Value := match v with
  | .ref k => .ref (ad k)
  | v => v
def zfv (ad : Nat → Nat) (σ : zS) (o j : Nat) : Value :=
  if (zkd o j).1 = 3 then .ref (ad (64 * zrf o j)) else if (zkd o j).1 = 2 then .long (Int64.ofInt (zsc σ o j)) else if 4 ≤ (zkd o j).1 then .ref (ad (64 * o + 1 + j)) else .int (Int32.ofInt (zsc σ o j))
def zca (ad : Nat → Nat) (cs : Nat → ClassId) (σ : zS) (o j : Nat) : va_E :=
  if (zkd o j).1 < 7 then .inl (cs ((zkd o j).1 - 4), (zkd o j).2, .inl (fun i => Int32.ofInt (zar σ o j (i : Int)))) else .inl (cs ((zkd o j).1 - 4), (zkd o j).2, .inr (.inr (.inr (.inr (fun i => some (ad (64 * (zar σ o j (i : Int)).toNat)))))))
def zce (ad : Nat → Nat) (cs : Nat → ClassId) (σ : zS) (k : Nat) : va_E :=
  if k % 64 = 0 then .inr (zoc (k / 64), (List.range (zfL (zoc (k / 64))).length).map (zfv ad σ (k / 64))) else zca ad cs σ (k / 64) (k % 64 - 1)
def zwl (ad : Nat → Nat) (cs : Nat → ClassId) (σ : zS) : va_W := zkeys.map (fun k => (ad k, zce ad cs σ k))
theorem zce_o (ad : Nat → Nat) (cs : Nat → ClassId) (σ : zS) (o : Nat) : zce ad cs σ (64 * o) = .inr (zoc o, (List.range (zfL (zoc o)).length).map (zfv ad σ o)) := by
  have e1 : 64 * o / 64 = o := by omega
  have e2 : 64 * o % 64 = 0 := by omega
  simp [zce, e1, e2]
theorem zce_a (ad : Nat → Nat) (cs : Nat → ClassId) (σ : zS) {o j : Nat} (h : j < 60) : zce ad cs σ (64 * o + 1 + j) = zca ad cs σ o j := by
  have e1 : (64 * o + 1 + j) / 64 = o := by omega
  have e2 : (64 * o + 1 + j) % 64 = j + 1 := by omega
  simp [zce, e1, e2]
theorem zwl_at (ad : Nat → Nat) (cs : Nat → ClassId) (σ : zS) {k : Nat} (h : k ∈ zkeys) : ∃ q : Nat, zkeys[q]? = some k ∧ (zwl ad cs σ)[q]? = some (ad k, zce ad cs σ k) := by
  obtain ⟨q, hq⟩ := List.getElem?_of_mem h
  exact ⟨q, hq, by unfold zwl; rw [List.getElem?_map, hq]; rfl⟩
theorem zwl_set (ad : Nat → Nat) (cs : Nat → ClassId) {σ τ : zS} {k q : Nat} {e : va_E} (hq : zkeys[q]? = some k) (he : zce ad cs τ k = e) (ho : ∀ k', k' ∈ zkeys → k' ≠ k → zce ad cs τ k' = zce ad cs σ k') : (zwl ad cs σ).set q (ad k, e) = zwl ad cs τ := by
  apply List.ext_getElem?
  intro i
  unfold zwl
  rw [List.getElem?_set]
  by_cases hi : q = i
  · subst hi
    have hl := (List.getElem?_eq_some_iff.mp hq).1
    rw [if_pos rfl, if_pos (by simpa using hl), List.getElem?_map, hq]
    simp [he]
  · rw [if_neg hi, List.getElem?_map, List.getElem?_map]
    cases hk : zkeys[i]? with
    | none => rfl
    | some k' =>
      have hne : k' ≠ k := by
        intro e2
        subst e2
        have h1 := (List.getElem?_eq_some_iff.mp hq)
        have h2 := (List.getElem?_eq_some_iff.mp hk)
        obtain ⟨l1, g1⟩ := h1
        obtain ⟨l2, g2⟩ := h2
        exact hi ((List.getElem?_inj l1 zkeys_nd).mp (hq.trans hk.symm))
      simp only [Option.map_some]
      rw [ho k' (List.mem_of_getElem? hk) hne]
theorem zkey_split {k : Nat} (h : k ∈ zkeys) : (∃ o, k = 64 * o ∧ zoc o < 9) ∨ ∃ o j, k = 64 * o + 1 + j ∧ zoc o < 9 ∧ 4 ≤ (zkd o j).1 ∧ (zkd o j).1 < 9 ∧ j < 60 := by
  have h2 := (List.mem_filter.mp h).2
  simp only [zvk, Bool.and_eq_true, decide_eq_true_eq, Bool.or_eq_true, beq_iff_eq] at h2
  rcases Nat.eq_zero_or_pos (k % 64) with q | q
  · exact Or.inl ⟨k / 64, by omega, h2.1⟩
  · right
    have h3 : 4 ≤ (zkd (k / 64) (k % 64 - 1)).1 ∧ (zkd (k / 64) (k % 64 - 1)).1 < 9 := by
      rcases h2.2 with z | z
      · omega
      · exact z
    exact ⟨k / 64, k % 64 - 1, by omega, h2.1, h3.1, h3.2, zfd_j h3.2⟩
theorem zfv_congr (ad : Nat → Nat) {σ τ : zS} {o j : Nat} (h : zsc τ o j = zsc σ o j) : zfv ad τ o j = zfv ad σ o j := by simp only [zfv, h]
theorem zca_congr (ad : Nat → Nat) (cs : Nat → ClassId) {σ τ : zS} {o j : Nat} (h : zar τ o j = zar σ o j) : zca ad cs τ o j = zca ad cs σ o j := by simp only [zca, h]
theorem zwl_ss (ad : Nat → Nat) (cs : Nat → ClassId) (σ : zS) {o j q : Nat} (v : Int) (hq : zkeys[q]? = some (64 * o)) : (zwl ad cs σ).set q (ad (64 * o), .inr (zoc o, (List.range (zfL (zoc o)).length).map (zfv ad (zss σ o j v) o))) = zwl ad cs (zss σ o j v) := by
  refine zwl_set ad cs hq (zce_o ..) (fun k' hk' hne => ?_)
  rcases zkey_split hk' with ⟨o', rfl, -⟩ | ⟨o', j', rfl, -, -, -, hj⟩
  · have hoo : ¬ o' = o := fun e => hne (by rw [e])
    rw [zce_o, zce_o]
    have hm : (List.range (zfL (zoc o')).length).map (zfv ad (zss σ o j v) o') = (List.range (zfL (zoc o')).length).map (zfv ad σ o') :=
      List.map_congr_left fun a _ => zfv_congr ad (by rw [zsc_ss, if_neg (fun z => hoo z.1)])
    rw [hm]
  · rw [zce_a _ _ _ hj, zce_a _ _ _ hj]
    exact zca_congr ad cs (zar_ss ..)
theorem zwl_sA (ad : Nat → Nat) (cs : Nat → ClassId) (σ : zS) {o j q : Nat} (f : Int → Int) (hj : j < 60) (hq : zkeys[q]? = some (64 * o + 1 + j)) : (zwl ad cs σ).set q (ad (64 * o + 1 + j), zca ad cs (zsA σ o j f) o j) = zwl ad cs (zsA σ o j f) := by
  refine zwl_set ad cs hq (zce_a _ _ _ hj) (fun k' hk' hne => ?_)
  rcases zkey_split hk' with ⟨o', rfl, -⟩ | ⟨o', j', rfl, -, -, -, hj'⟩
  · rw [zce_o, zce_o]
    have hm : (List.range (zfL (zoc o')).length).map (zfv ad (zsA σ o j f) o') = (List.range (zfL (zoc o')).length).map (zfv ad σ o') :=
      List.map_congr_left fun a _ => zfv_congr ad (zsc_sA ..)
    rw [hm]
  · rw [zce_a _ _ _ hj', zce_a _ _ _ hj']
    refine zca_congr ad cs ?_
    rw [zar_sA, if_neg]
    rintro ⟨rfl, rfl⟩
    exact hne rfl
theorem zfs_at (ad : Nat → Nat) (σ : zS) (o : Nat) {j N : Nat} (h : j < N) : ((List.range N).map (zfv ad σ o))[j]? = some (zfv ad σ o j) := by
  rw [List.getElem?_map, List.getElem?_range h]; rfl
theorem zfs_set (ad : Nat → Nat) (σ : zS) (o : Nat) {j N : Nat} (v : Int) (w : Value) (hw : zfv ad (zss σ o j v) o j = w) : ((List.range N).map (zfv ad σ o)).set j w = (List.range N).map (zfv ad (zss σ o j v) o) := by
  apply List.ext_getElem?
  intro i
  rw [List.getElem?_set, List.getElem?_map, List.getElem?_map]
  by_cases hi : j = i
  · subst hi
    by_cases hl : j < N
    · simp [hl, hw]
    · simp [hl]
  · rw [if_neg hi]
    cases h : (List.range N)[i]? with
    | none => rfl
    | some a =>
      have ha : a = i := by
        have := (List.getElem?_eq_some_iff.mp h)
        obtain ⟨l1, g1⟩ := this
        simpa using g1.symm
      subst ha
      simp only [Option.map_some]
      rw [zfv_congr ad (show zsc (zss σ o j v) o a = zsc σ o a by rw [zsc_ss]; simp [Ne.symm hi])]
/-! numbers -/
abbrev zin (n : Int) : Prop := -2147483648 ≤ n ∧ n ≤ 2147483647
theorem z_toInt {n : Int} (h : zin n) : (Int32.ofInt n).toInt = n := Int32.toInt_ofInt_of_le (by have := h.1; omega) (by have := h.2; omega)
theorem z_eq {a b : Int} (ha : zin a) (hb : zin b) : Int32.ofInt a = Int32.ofInt b ↔ a = b := by
  rw [← Int32.toInt_inj, z_toInt ha, z_toInt hb]
theorem z_lt {a b : Int} (ha : zin a) (hb : zin b) : Int32.ofInt a < Int32.ofInt b ↔ a < b := by
  rw [Int32.lt_iff_toInt_lt, z_toInt ha, z_toInt hb]
theorem z_le {a b : Int} (ha : zin a) (hb : zin b) : Int32.ofInt a ≤ Int32.ofInt b ↔ a ≤ b := by
  rw [Int32.le_iff_toInt_le, z_toInt ha, z_toInt hb]
theorem z_clamp {n : Int} (h0 : 0 ≤ n) (h : zin n) : (Int32.ofInt n).toNatClampNeg = n.toNat := by
  rw [Int32.toNatClampNeg, z_toInt h]
theorem z_in {n : Int} {N : Nat} (h0 : 0 ≤ n) (h : n < N) (hN : N ≤ 2048) : vp_in (Int32.ofInt n) N := by
  rw [vp_in_iff, z_toInt ⟨by omega, by omega⟩]
  exact ⟨h0, h⟩
theorem z_0 : Int32.ofInt 0 = 0 := by decide
