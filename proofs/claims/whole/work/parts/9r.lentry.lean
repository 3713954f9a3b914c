/-! What holds at the law's entry. -/
theorem arr_of {ty : FieldType} {A : Array Value} {s : State} (h : (Cond.arrayClass ty).before A s = true) (hp : ∀ C, ty ≠ .object C) : ∃ cA, ArrOfT s cA ty ∧ va_RA s cA ty := by
  obtain ⟨c, k, comp, h1, h2, h3⟩ := Cond.arrayClass_spec h
  refine ⟨c, fun n z => ⟨fun k h => (by cases h), k, h2, comp, h3⟩, ?_⟩
  cases ty <;> first | exact h1 | exact absurd rfl (hp _)
theorem arr_over {C : String} {A : Array Value} {s : State} (h : (Cond.arrayOver (.object C)).before A s = true) : ∃ cA, ArrOfT s cA (.object C) ∧ va_RA s cA (.object C) := by
  obtain ⟨comp, c, k, h1, -, h3, h4, h5⟩ := Cond.arrayOver_spec h
  exact ⟨c, fun n z => ⟨fun k h => (by cases h), k, h3, comp, h4⟩, k, comp, h3, h4, h1, h5⟩
theorem vk_S_congr {N : Nat} {len : List Nat} {byt : List (List Int32)} {adK adV adK' adV' : Nat → Nat} {A : Nat → Prop} {U : State} {H : Heap} (h : vk_S N len byt adK adV A U H) (e1 : ∀ i, i < N → adK' i = adK i) (e2 : ∀ i, i < N → adV' i = adV i) : vk_S N len byt adK' adV' A U H :=
  ⟨fun i hi => by rw [e1 i hi, e2 i hi]; exact h.1 i hi, fun i j hi hj e => h.2 i j hi hj (by rw [← e1 i hi, ← e1 j hj]; exact e)⟩
theorem lw_known {A : Array Value} {s : State} (hts : ∀ w ∈ zUW, w.before A s = true) (hO3 : (Cond.arrayOver (.object RX3)).before A s = true) (hO2 : (Cond.arrayOver (.object RX2)).before A s = true) : ∃ (D : va_G) (cs : Nat → ClassId) (cL : ClassId), va_K D vwCl (zty cs) s ∧ va_K D vwCl [(cL, .long)] s := by
  obtain ⟨c0, i0, k0⟩ := u_known (C := RX0) (T := TX0) (N := 2) (n := 2) hts inlX0 (hts _ ot_instantiable_RX0_2)
  obtain ⟨c1, i1, k1⟩ := u_known (C := RX1) (T := TX1) (N := 16) (n := 16) hts inlX1 (hts _ ot_instantiable_RX1_16)
  obtain ⟨c2, i2, k2⟩ := u_known (C := RX2) (T := TX2) (N := 6) (n := 6) hts inlX2 (hts _ ot_instantiable_RX2_6)
  obtain ⟨c3, i3, k3⟩ := u_known (C := RX3) (T := TX3) (N := 4) (n := 4) hts inlX3 (hts _ ot_instantiable_RX3_4)
  obtain ⟨c4, i4, k4⟩ := u_known (C := RX4) (T := TX4) (N := 10) (n := 10) hts inlX4 (hts _ ot_instantiable_RX4_10)
  obtain ⟨c5, i5, k5⟩ := u_known (C := RX5) (T := TX5) (N := 19) (n := 19) hts inlX5 (hts _ ot_instantiable_RX5_19)
  obtain ⟨c6, i6, k6⟩ := u_known (C := RX6) (T := TX6) (N := 2) (n := 2) hts inlX6 (hts _ ot_instantiable_RX6_2)
  obtain ⟨c7, i7, k7⟩ := u_known (C := RX7) (T := TX7) (N := 12) (n := 12) hts inlX7 (hts _ ot_instantiable_RX7_12)
  obtain ⟨c8, i8, k8⟩ := u_known (C := RX8) (T := TX8) (N := 48) (n := 48) hts inlX8 (hts _ ot_instantiable_RX8_48)
  obtain ⟨a0, b0⟩ := arr_of (hts _ ot_arrayClass__int) (fun _ h => by cases h)
  obtain ⟨a1, b1⟩ := arr_of (hts _ ot_arrayClass__byte) (fun _ h => by cases h)
  obtain ⟨a2, b2⟩ := arr_of (hts _ ot_arrayClass__boolean) (fun _ h => by cases h)
  obtain ⟨a3, b3⟩ := arr_over hO3
  obtain ⟨a4, b4⟩ := arr_over hO2
  obtain ⟨aL, bL⟩ := arr_of (hts _ ot_arrayClass__long) (fun _ h => by cases h)
  obtain ⟨D, hD⟩ : ∃ D : va_G, ∀ (c : Nat) (q : vw_C), vwCl[c]? = some q → u_Kn s q.1 q.2.1 q.2.2 (D.1 c) (D.2 c) := by
    refine ⟨(fun k => match k with | 0 => c0 | 1 => c1 | 2 => c2 | 3 => c3 | 4 => c4 | 5 => c5 | 6 => c6 | 7 => c7 | _ => c8, fun k => match k with | 0 => i0 | 1 => i1 | 2 => i2 | 3 => i3 | 4 => i4 | 5 => i5 | 6 => i6 | 7 => i7 | _ => i8), ?_⟩
    intro k q hq
    match k, hq with
    | 0, hq => cases hq; exact k0
    | 1, hq => cases hq; exact k1
    | 2, hq => cases hq; exact k2
    | 3, hq => cases hq; exact k3
    | 4, hq => cases hq; exact k4
    | 5, hq => cases hq; exact k5
    | 6, hq => cases hq; exact k6
    | 7, hq => cases hq; exact k7
    | 8, hq => cases hq; exact k8
    | _ + 9, hq => cases hq
  refine ⟨D, fun k => match k with | 0 => a0 | 1 => a1 | 2 => a2 | 3 => a3 | _ => a4, aL, ⟨hD, fun k q hq => ?_⟩, ⟨hD, fun k q hq => ?_⟩⟩
  · match k, hq with
    | 0, hq => cases hq; exact b0
    | 1, hq => cases hq; exact b1
    | 2, hq => cases hq; exact b2
    | 3, hq => cases hq; exact b3
    | 4, hq => cases hq; exact b4
    | _ + 5, hq => cases hq
  · match k, hq with
    | 0, hq => cases hq; exact bL
    | _ + 1, hq => cases hq
def lfc : List Cond := flatC (Jvm.Cond.and given_1 narrow_1)
theorem lf_ex : ∀ i, i < 5 → Cond.exactly (.string RX4 (zix i)) "java/lang/String" ∈ lfc := by decide +kernel
theorem lf_co : ∀ i, i < 5 → Cond.eq (.field (.string RX4 (zix i)) "java/lang/String" "coder" "B") (.int 0) ∈ lfc := by decide +kernel
theorem lf_ar : ∀ i, i < 5 → Cond.arrayOf (.field (.string RX4 (zix i)) "java/lang/String" "value" "[B") .byte ∈ lfc := by decide +kernel
theorem lf_le : ∀ i, i < 5 → Cond.eq (.length (.field (.string RX4 (zix i)) "java/lang/String" "value" "[B")) (.int (Int32.ofNat (zlen.getD i 0))) ∈ lfc := by decide +kernel
theorem lf_el : ∀ i, i < 5 → ∀ j, j < zlen.getD i 0 → Cond.eq (.elem (.field (.string RX4 (zix i)) "java/lang/String" "value" "[B") (.int (Int32.ofNat j))) (.int ((zbyt.getD i []).getD j 0)) ∈ lfc := by decide +kernel
theorem lf_ne : ∀ i, i < 5 → ∀ j, j < 5 → i ≠ j → (Cond.not (Cond.eq (.string RX4 (zix i)) (.string RX4 (zix j))) ∈ lfc ∨ Cond.not (Cond.eq (.string RX4 (zix j)) (.string RX4 (zix i))) ∈ lfc) := by decide +kernel
theorem lf_xe : ∀ i, i < 6 → Cond.exactly (.string RX7 (zxi i)) "java/lang/String" ∈ lfc := by decide +kernel
theorem lf_cs : Cond.eq (.static "java/lang/String" "COMPACT_STRINGS" "Z") (.int 1) ∈ lfc := by decide +kernel
theorem lf_sf : Cond.isRef (.static "jdk/internal/util/Preconditions" "SIOOBE_FORMATTER" "Ljava/util/function/BiFunction;") ∈ lfc := by decide +kernel
theorem lf_us : Cond.isRef (.static "java/lang/Throwable" "UNASSIGNED_STACK" "[Ljava/lang/StackTraceElement;") ∈ lfc := by decide +kernel
theorem lf_ss : Cond.isRef (.static "java/lang/Throwable" "SUPPRESSED_SENTINEL" "Ljava/util/List;") ∈ lfc := by decide +kernel
theorem lt_sr : ∀ i, i < 5 → Cond.stringRef RX4 (zix i) (ztx i) ∈ lw_tbl := by decide +kernel
theorem lt_xr : ∀ i, i < 6 → Cond.stringRef RX7 (zxi i) (zxt i) ∈ lw_tbl := by decide +kernel
theorem lt_l1 : Cond.laysStatic "java/lang/String" "COMPACT_STRINGS" "Z" ∈ lw_tbl := by decide +kernel
theorem lt_l2 : Cond.laysStatic "jdk/internal/util/Preconditions" "SIOOBE_FORMATTER" "Ljava/util/function/BiFunction;" ∈ lw_tbl := by decide +kernel
theorem lt_l3 : Cond.laysStatic "java/lang/Throwable" "UNASSIGNED_STACK" "[Ljava/lang/StackTraceElement;" ∈ lw_tbl := by decide +kernel
theorem lt_l4 : Cond.laysStatic "java/lang/Throwable" "SUPPRESSED_SENTINEL" "Ljava/util/List;" ∈ lw_tbl := by decide +kernel
theorem lt_i1 : Cond.initialized "java/lang/String" ∈ lw_tbl := by decide +kernel
theorem lt_i2 : Cond.initialized "jdk/internal/util/Preconditions" ∈ lw_tbl := by decide +kernel
theorem lt_i3 : Cond.initialized "java/lang/Throwable" ∈ lw_tbl := by decide +kernel
theorem lt_o3 : Cond.arrayOver (.object RX3) ∈ lw_tbl := by decide +kernel
theorem lt_o2 : Cond.arrayOver (.object RX2) ∈ lw_tbl := by decide +kernel
theorem lt_nd : ∀ n ∈ cNd, Cond.methodLinkNest n.1 n.2.1 n.2.2 RX7 ∈ lw_tbl := by decide +kernel
set_option maxRecDepth 20000 in
theorem lt_ns : ∀ w ∈ nsW, w ∈ lw_tbl := by decide +kernel
