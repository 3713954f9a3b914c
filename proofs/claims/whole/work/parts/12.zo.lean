/-! States in which one object stands apart; rows over them. -/
def zo (σ : zS) (o : Nat) (m : zOb) : zS := fun o' => if o' = o then m else σ o'
def oss (m : zOb) (j : Nat) (v : Int) : zOb := (fun j' => if j' = j then v else m.1 j', m.2)
def osA (m : zOb) (j : Nat) (f : Int → Int) : zOb := (m.1, fun j' => if j' = j then f else m.2 j')
def osa (m : zOb) (j : Nat) (n v : Int) : zOb := osA m j (zup (m.2 j) n v)
theorem zo_s (σ : zS) (o : Nat) (m : zOb) : zo σ o m o = m := by simp [zo]
theorem zo_n {σ : zS} {o o' : Nat} {m : zOb} (h : o' ≠ o) : zo σ o m o' = σ o' := by simp [zo, h]
theorem zo_self (σ : zS) (o : Nat) : zo σ o (σ o) = σ := by
  funext o'
  by_cases h : o' = o
  · subst h; simp [zo]
  · simp [zo, h]
theorem zo_zo (σ : zS) (o : Nat) (m m' : zOb) : zo (zo σ o m) o m' = zo σ o m' := by
  funext o'
  by_cases h : o' = o <;> simp [zo, h]
theorem zo_comm {σ : zS} {o o2 : Nat} {m m2 : zOb} (h : o ≠ o2) : zo (zo σ o m) o2 m2 = zo (zo σ o2 m2) o m := by
  funext o'
  by_cases h1 : o' = o
  · subst h1; simp [zo, h]
  · by_cases h2 : o' = o2 <;> simp [zo, h1, h2, Ne.symm h]
theorem zss_zo (σ : zS) (o : Nat) (m : zOb) (j : Nat) (v : Int) : zss (zo σ o m) o j v = zo σ o (oss m j v) := by
  funext o'
  by_cases h : o' = o
  · subst h; simp [zss, zo, oss]
  · simp [zss, zo, h]
theorem zsA_zo (σ : zS) (o : Nat) (m : zOb) (j : Nat) (f : Int → Int) : zsA (zo σ o m) o j f = zo σ o (osA m j f) := by
  funext o'
  by_cases h : o' = o
  · subst h; simp [zsA, zo, osA]
  · simp [zsA, zo, h]
theorem zsa_zo (σ : zS) (o : Nat) (m : zOb) (j : Nat) (n v : Int) : zsa (zo σ o m) o j n v = zo σ o (osa m j n v) := by
  have e : zar (zo σ o m) o j = m.2 j := by unfold zar; rw [zo_s]
  unfold zsa osa
  rw [zsA_zo, e]
theorem oss_1 (m : zOb) (j : Nat) (v : Int) (j' : Nat) : (oss m j v).1 j' = if j' = j then v else m.1 j' := rfl
theorem oss_2 (m : zOb) (j : Nat) (v : Int) : (oss m j v).2 = m.2 := rfl
theorem osA_1 (m : zOb) (j : Nat) (f : Int → Int) : (osA m j f).1 = m.1 := rfl
theorem osA_2 (m : zOb) (j : Nat) (f : Int → Int) (j' : Nat) : (osA m j f).2 j' = if j' = j then f else m.2 j' := rfl
theorem osa_1 (m : zOb) (j : Nat) (n v : Int) : (osa m j n v).1 = m.1 := rfl
theorem osa_2 (m : zOb) (j : Nat) (n v : Int) (j' : Nat) : (osa m j n v).2 j' = if j' = j then zup (m.2 j) n v else m.2 j' := rfl
theorem zup_a (f : Int → Int) (n v m : Int) : zup f n v m = if m = n then v else f m := rfl
section ZOROWS
variable {x : zX} {K : Option Value → zS → Prop} {own : String} {cc : ByteArray} {nL d pc : Nat} {ret : Option FieldType} {ls : List (Option Value)} {st : List Value} {σ : zS}

theorem z_getIq (h : zH x own cc nL ret d) {o c j i : Nat} {C : String} {T : u_T} {N : Nat} {L : Nat} {q : zOb} (hq : σ o = q) (ho : zoc o = c) (hc : vwCl[c]? = some (C, T, N)) (hk : zfd c j = (0, L)) (hw : Cond.fieldLink own i (T j).1 (T j).2.1 (T j).2.2.1 ∈ zUW) (hd : decode cc pc = .ok (.getfield i, 3)) (k : (-2147483648 ≤ q.1 j ∧ q.1 j ≤ 2147483647) → zW x K (pc + 3) ls (zI (q.1 j) :: st) σ) : zW x K pc ls (zR o :: st) σ := by
  subst hq
  exact z_getI h ho hc hk hw hd k
theorem z_getZq (h : zH x own cc nL ret d) {o c j i : Nat} {C : String} {T : u_T} {N : Nat} {L : Nat} {q : zOb} (hq : σ o = q) (ho : zoc o = c) (hc : vwCl[c]? = some (C, T, N)) (hk : zfd c j = (1, L)) (hw : Cond.fieldLink own i (T j).1 (T j).2.1 (T j).2.2.1 ∈ zUW) (hd : decode cc pc = .ok (.getfield i, 3)) (k : (q.1 j = 0 ∨ q.1 j = 1) → zW x K (pc + 3) ls (zI (q.1 j) :: st) σ) : zW x K pc ls (zR o :: st) σ := by
  subst hq
  exact z_getZ h ho hc hk hw hd k
theorem z_getLq (h : zH x own cc nL ret d) {o c j i : Nat} {C : String} {T : u_T} {N : Nat} {L : Nat} {q : zOb} (hq : σ o = q) (ho : zoc o = c) (hc : vwCl[c]? = some (C, T, N)) (hk : zfd c j = (2, L)) (hw : Cond.fieldLink own i (T j).1 (T j).2.1 (T j).2.2.1 ∈ zUW) (hd : decode cc pc = .ok (.getfield i, 3)) (k : (-9223372036854775808 ≤ q.1 j ∧ q.1 j ≤ 9223372036854775807) → zW x K (pc + 3) ls (.long (Int64.ofInt (q.1 j)) :: st) σ) : zW x K pc ls (zR o :: st) σ := by
  subst hq
  exact z_getL h ho hc hk hw hd k
theorem z_putIo (h : zH x own cc nL ret d) {o c j i : Nat} {C : String} {T : u_T} {N : Nat} {L : Nat} {v : Int} {m : zOb} (ho : zoc o = c) (hc : vwCl[c]? = some (C, T, N)) (hk : zfd c j = (0, L)) (hw : Cond.fieldLink own i (T j).1 (T j).2.1 (T j).2.2.1 ∈ zUW) (hf : (T j).2.2.2 = false) (hdd : parseFieldDescriptor (T j).2.2.1 = some .int) (hd : decode cc pc = .ok (.putfield i, 3)) (hv : -2147483648 ≤ v ∧ v ≤ 2147483647) (k : zW x K (pc + 3) ls st (zo σ o (oss m j v))) : zW x K pc ls (zI v :: zR o :: st) (zo σ o m) := by
  refine z_putI h ho hc hk hw hf hdd hd hv ?_
  rw [zss_zo]
  exact k
theorem z_putZo (h : zH x own cc nL ret d) {o c j i : Nat} {C : String} {T : u_T} {N : Nat} {L : Nat} {v : Int} {m : zOb} (ho : zoc o = c) (hc : vwCl[c]? = some (C, T, N)) (hk : zfd c j = (1, L)) (hw : Cond.fieldLink own i (T j).1 (T j).2.1 (T j).2.2.1 ∈ zUW) (hf : (T j).2.2.2 = false) (hdd : parseFieldDescriptor (T j).2.2.1 = some .boolean) (hd : decode cc pc = .ok (.putfield i, 3)) (hv : v = 0 ∨ v = 1) (k : zW x K (pc + 3) ls st (zo σ o (oss m j v))) : zW x K pc ls (zI v :: zR o :: st) (zo σ o m) := by
  refine z_putZ h ho hc hk hw hf hdd hd hv ?_
  rw [zss_zo]
  exact k
theorem z_putLo (h : zH x own cc nL ret d) {o c j i : Nat} {C : String} {T : u_T} {N : Nat} {L : Nat} {v : Int64} {m : zOb} (ho : zoc o = c) (hc : vwCl[c]? = some (C, T, N)) (hk : zfd c j = (2, L)) (hw : Cond.fieldLink own i (T j).1 (T j).2.1 (T j).2.2.1 ∈ zUW) (hf : (T j).2.2.2 = false) (hdd : parseFieldDescriptor (T j).2.2.1 = some .long) (hd : decode cc pc = .ok (.putfield i, 3)) (k : zW x K (pc + 3) ls st (zo σ o (oss m j v.toInt))) : zW x K pc ls (.long v :: zR o :: st) (zo σ o m) := by
  refine z_putL h ho hc hk hw hf hdd hd ?_
  rw [zss_zo]
  exact k
theorem z_ialdq (h : zH x own cc nL ret d) {o c j L : Nat} {n : Int} {q : zOb} (hq : σ o = q) (ho : zoc o = c) (hc9 : c < 9) (hk : zfd c j = (4, L)) (hL : L ≤ 2048) (h0 : 0 ≤ n) (h1 : n < (L : Int)) (hd : decode cc pc = .ok (.iaload, 1)) (k : (-2147483648 ≤ q.2 j n ∧ q.2 j n ≤ 2147483647) → zW x K (pc + 1) ls (zI (q.2 j n) :: st) σ) : zW x K pc ls (zI n :: zA o j :: st) σ := by
  subst hq
  exact z_iald h ho hc9 hk hL h0 h1 hd k
theorem z_baldq (h : zH x own cc nL ret d) {o c j L : Nat} {n : Int} {q : zOb} (hq : σ o = q) (ho : zoc o = c) (hc9 : c < 9) (hk : zfd c j = (5, L)) (hL : L ≤ 2048) (h0 : 0 ≤ n) (h1 : n < (L : Int)) (hd : decode cc pc = .ok (.baload, 1)) (k : (-128 ≤ q.2 j n ∧ q.2 j n ≤ 127) → zW x K (pc + 1) ls (zI (q.2 j n) :: st) σ) : zW x K pc ls (zI n :: zA o j :: st) σ := by
  subst hq
  exact z_bald h ho hc9 hk hL h0 h1 hd k
theorem z_zaldq (h : zH x own cc nL ret d) {o c j L : Nat} {n : Int} {q : zOb} (hq : σ o = q) (ho : zoc o = c) (hc9 : c < 9) (hk : zfd c j = (6, L)) (hL : L ≤ 2048) (h0 : 0 ≤ n) (h1 : n < (L : Int)) (hd : decode cc pc = .ok (.baload, 1)) (k : (q.2 j n = 0 ∨ q.2 j n = 1) → zW x K (pc + 1) ls (zI (q.2 j n) :: st) σ) : zW x K pc ls (zI n :: zA o j :: st) σ := by
  subst hq
  exact z_zald h ho hc9 hk hL h0 h1 hd k
theorem z_iasto (h : zH x own cc nL ret d) {o c j L : Nat} {n : Int} {v : Int} {m : zOb} (ho : zoc o = c) (hc9 : c < 9) (hk : zfd c j = (4, L)) (hL : L ≤ 2048) (h0 : 0 ≤ n) (h1 : n < (L : Int)) (hv : -2147483648 ≤ v ∧ v ≤ 2147483647) (hd : decode cc pc = .ok (.iastore, 1)) (k : zW x K (pc + 1) ls st (zo σ o (osa m j n v))) : zW x K pc ls (zI v :: zI n :: zA o j :: st) (zo σ o m) := by
  refine z_iast h ho hc9 hk hL h0 h1 hv hd ?_
  rw [zsa_zo]
  exact k
theorem z_basto (h : zH x own cc nL ret d) {o c j L : Nat} {n : Int} {v : Int} {m : zOb} (ho : zoc o = c) (hc9 : c < 9) (hk : zfd c j = (5, L)) (hL : L ≤ 2048) (h0 : 0 ≤ n) (h1 : n < (L : Int)) (hv : -128 ≤ v ∧ v ≤ 127) (hd : decode cc pc = .ok (.bastore, 1)) (k : zW x K (pc + 1) ls st (zo σ o (osa m j n v))) : zW x K pc ls (zI v :: zI n :: zA o j :: st) (zo σ o m) := by
  refine z_bast h ho hc9 hk hL h0 h1 hv hd ?_
  rw [zsa_zo]
  exact k
theorem z_zasto (h : zH x own cc nL ret d) {o c j L : Nat} {n : Int} {v : Int} {m : zOb} (ho : zoc o = c) (hc9 : c < 9) (hk : zfd c j = (6, L)) (hL : L ≤ 2048) (h0 : 0 ≤ n) (h1 : n < (L : Int)) (hv : v = 0 ∨ v = 1) (hd : decode cc pc = .ok (.bastore, 1)) (k : zW x K (pc + 1) ls st (zo σ o (osa m j n v))) : zW x K pc ls (zI v :: zI n :: zA o j :: st) (zo σ o m) := by
  refine z_zast h ho hc9 hk hL h0 h1 hv hd ?_
  rw [zsa_zo]
  exact k
/-- a state is one with any of its objects apart -/
theorem z_apart (o : Nat) (k : zW x K pc ls st (zo σ o (σ o))) : zW x K pc ls st σ := by rwa [zo_self] at k
/-- what every object's numbers are -/
theorem z_rgo {m : zOb} {o : Nat} (k : (∀ j, zrK (zkd o j).1 (m.1 j)) ∧ (∀ j n, zrK (zkd o j).1 (m.2 j n)) → zW x K pc ls st (zo σ o m)) : zW x K pc ls st (zo σ o m) := by
  refine z_rg (fun hr => k ⟨fun j => ?_, fun j n => ?_⟩)
  · have := hr.1 o j
    unfold zsc at this
    rwa [zo_s] at this
  · have := hr.2 o j n
    unfold zar at this
    rwa [zo_s] at this
end ZOROWS
