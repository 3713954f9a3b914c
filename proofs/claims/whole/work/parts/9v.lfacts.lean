/-! The law's start: what the tables and the premises give. -/
theorem zUW_in : ∀ w ∈ zUW, w ∈ lw_tbl := by
  unfold zUW wsL_law wsL_law0
  refine List.forall_mem_append.mpr ⟨?_, fun w h => by cases h⟩
  refine List.forall_mem_append.mpr ⟨?_, fun w h => by cases h⟩
  refine List.forall_mem_append.mpr ⟨?_, in_wsX20⟩
  refine List.forall_mem_append.mpr ⟨?_, in_wsX00⟩
  refine List.forall_mem_append.mpr ⟨?_, in_wsX50⟩
  refine List.forall_mem_append.mpr ⟨?_, in_wsX30⟩
  refine List.forall_mem_append.mpr ⟨?_, in_wsX10⟩
  refine List.forall_mem_append.mpr ⟨?_, in_wsX40⟩
  refine List.forall_mem_append.mpr ⟨?_, in_wsX60⟩
  refine List.forall_mem_append.mpr ⟨?_, in_wsX80⟩
  refine List.forall_mem_append.mpr ⟨?_, in_wsX70⟩
  refine List.forall_mem_append.mpr ⟨in_wsL_law0_r1, ?_⟩
  refine List.forall_mem_append.mpr ⟨in_wsL_law0_r2, ?_⟩
  refine List.forall_mem_append.mpr ⟨in_wsL_law0_r3, ?_⟩
  refine List.forall_mem_append.mpr ⟨in_wsL_law0_r4, ?_⟩
  refine List.forall_mem_append.mpr ⟨in_wsL_law0_r5, ?_⟩
  refine List.forall_mem_append.mpr ⟨in_wsL_law0_r6, ?_⟩
  refine List.forall_mem_append.mpr ⟨in_wsL_law0_r7, ?_⟩
  refine List.forall_mem_append.mpr ⟨in_wsL_law0_r8, ?_⟩
  refine List.forall_mem_append.mpr ⟨in_wsL_law0_r9, ?_⟩
  refine List.forall_mem_append.mpr ⟨in_wsL_law0_r10, ?_⟩
  refine List.forall_mem_append.mpr ⟨in_wsL_law0_r11, ?_⟩
  refine List.forall_mem_append.mpr ⟨in_wsL_law0_r12, ?_⟩
  refine List.forall_mem_append.mpr ⟨in_wsL_law0_r13, ?_⟩
  refine List.forall_mem_append.mpr ⟨in_wsL_law0_r14, ?_⟩
  refine List.forall_mem_append.mpr ⟨in_wsL_law0_r15, ?_⟩
  refine List.forall_mem_append.mpr ⟨in_wsL_law0_r16, ?_⟩
  refine List.forall_mem_append.mpr ⟨in_wsL_law0_r17, ?_⟩
  refine List.forall_mem_append.mpr ⟨in_wsL_law0_r18, ?_⟩
  refine List.forall_mem_append.mpr ⟨in_wsL_law0_r19, ?_⟩
  refine List.forall_mem_append.mpr ⟨in_wsL_law0_r20, ?_⟩
  refine List.forall_mem_append.mpr ⟨in_wsL_law0_r21, ?_⟩
  refine List.forall_mem_append.mpr ⟨in_wsL_law0_r22, ?_⟩
  refine List.forall_mem_append.mpr ⟨in_wsL_law0_r23, ?_⟩
  refine List.forall_mem_append.mpr ⟨in_wsL_law0_r24, ?_⟩
  refine List.forall_mem_append.mpr ⟨in_wsL_law0_r25, ?_⟩
  refine List.forall_mem_append.mpr ⟨in_wsL_law0_r26, ?_⟩
  refine List.forall_mem_append.mpr ⟨in_wsL_law0_r27, ?_⟩
  refine List.forall_mem_append.mpr ⟨in_wsL_law0_r28, ?_⟩
  refine List.forall_mem_append.mpr ⟨in_wsL_law0_r29, ?_⟩
  refine List.forall_mem_append.mpr ⟨in_wsL_law0_r30, ?_⟩
  refine List.forall_mem_append.mpr ⟨in_wsL_law0_r31, ?_⟩
  refine List.forall_mem_append.mpr ⟨in_wsL_law0_r32, ?_⟩
  refine List.forall_mem_append.mpr ⟨in_wsL_law0_r33, ?_⟩
  refine List.forall_mem_append.mpr ⟨in_wsL_law0_r34, ?_⟩
  refine List.forall_mem_append.mpr ⟨in_wsL_law0_r35, ?_⟩
  refine List.forall_mem_append.mpr ⟨in_wsL_law0_r36, ?_⟩
  refine List.forall_mem_append.mpr ⟨in_wsL_law0_r37, ?_⟩
  refine List.forall_mem_append.mpr ⟨in_wsL_law0_r38, ?_⟩
  refine List.forall_mem_append.mpr ⟨in_wsL_law0_r39, ?_⟩
  refine List.forall_mem_append.mpr ⟨in_wsL_law0_r40, ?_⟩
  refine List.forall_mem_append.mpr ⟨in_wsL_law0_r41, ?_⟩
  refine List.forall_mem_append.mpr ⟨in_wsL_law0_r42, ?_⟩
  refine List.forall_mem_append.mpr ⟨in_wsL_law0_r43, ?_⟩
  refine List.forall_mem_append.mpr ⟨in_wsL_law0_r44, ?_⟩
  refine List.forall_mem_append.mpr ⟨in_wsL_law0_r45, ?_⟩
  refine List.forall_mem_append.mpr ⟨in_wsL_law0_r46, ?_⟩
  refine List.forall_mem_append.mpr ⟨in_wsL_law0_r47, ?_⟩
  refine List.forall_mem_append.mpr ⟨in_wsL_law0_r48, ?_⟩
  exact in_wsL_law0_r49
theorem lw_ext {A : Array Value} {s : State} (b : Nat) (hts : ∀ w ∈ lw_tbl, w.before A s = true) (hf : ∀ w ∈ lfc, w.before A s = true) : ∃ ext : Nat → Nat, ext 400000 = b ∧ ext 400001 = s.heap.size + 187 ∧ zEXg (fun q => s.heap.size ≤ q) (zad s.heap.size ext) s := by
  have hA : ∀ a : Nat, a < s.heap.size → ¬ (fun q => s.heap.size ≤ q) a := fun a h => Nat.not_le.mpr h
  obtain ⟨adK, adV, hS, hE⟩ := vk_Sof (N := 5) (tm := fun i => .string RX4 (zix i)) (len := zlen) (byt := zbyt) (A := fun q => s.heap.size ≤ q) (args := A) (s := s) (by decide) (fun i hi => hf _ (lf_ex i hi)) (fun i hi => hf _ (lf_co i hi)) (fun i hi => hf _ (lf_ar i hi)) (fun i hi => hf _ (lf_le i hi)) (fun i hi j hj => hf _ (lf_el i hi j hj)) (fun i j hi hj hij => (lf_ne i hi j hj hij).imp (hf _) (hf _)) hA
  have hC := va_Zof (A := fun q => s.heap.size ≤ q) (hts _ lt_l1) (hts _ lt_i1) (va_eqt (hf _ lf_cs)) hA
  have hU := va_Zqof (A := fun q => s.heap.size ≤ q) (hts _ lt_l3) (hts _ lt_i3) (hf _ lf_us) hA
  have hV := va_Zqof (A := fun q => s.heap.size ≤ q) (hts _ lt_l4) (hts _ lt_i3) (hf _ lf_ss) hA
  have hX : ∀ i, i < 6 → ∃ a, vk_R RX7 (zxi i) (zxt i) a s := fun i hi => by
    obtain ⟨a, c, cA, kA, q1, -⟩ := Cond.exactly_spec (hf _ (lf_xe i hi))
    exact ⟨a, vk_R.of (hts _ (lt_xr i hi)) q1⟩
  obtain ⟨t, hF⟩ : ∃ t : Nat, va_Z "jdk/internal/util/Preconditions" "SIOOBE_FORMATTER" "Ljava/util/function/BiFunction;" .null (fun q => s.heap.size ≤ q) s s.heap ∨ va_Z "jdk/internal/util/Preconditions" "SIOOBE_FORMATTER" "Ljava/util/function/BiFunction;" (.ref t) (fun q => s.heap.size ≤ q) s s.heap := by
    rcases va_Zqof (A := fun q => s.heap.size ≤ q) (hts _ lt_l2) (hts _ lt_i2) (hf _ lf_sf) hA with q | ⟨t, q⟩
    · exact ⟨0, Or.inl q⟩
    · exact ⟨t, Or.inr q⟩
  obtain ⟨ext, x0, x1, x2, xK, xV⟩ : ∃ ext : Nat → Nat, ext 400000 = b ∧ ext 400001 = s.heap.size + 187 ∧ ext 300000 = t ∧ (∀ i, i < 5 → ext (100000 + i) = adK i) ∧ (∀ i, i < 5 → ext (200000 + i) = adV i) := by
    refine ⟨fun k => if k = 400000 then b else if k = 400001 then s.heap.size + 187 else if k = 300000 then t else if 200000 ≤ k then adV (k - 200000) else adK (k - 100000), by simp, by simp, by simp, fun i hi => ?_, fun i hi => ?_⟩
    · dsimp only
      rw [if_neg (by omega), if_neg (by omega), if_neg (by omega), if_neg (by omega), show 100000 + i - 100000 = i by omega]
    · dsimp only
      rw [if_neg (by omega), if_neg (by omega), if_neg (by omega), if_pos (by omega), show 200000 + i - 200000 = i by omega]
  have z : ∀ k, 2048 ≤ k → zad s.heap.size ext k = ext k := fun k hk => by
    unfold zad
    rw [if_neg (by omega)]
  refine ⟨ext, x0, x1, vk_S_congr hS (fun i hi => ?_) (fun i hi => ?_), fun i hi => ?_, hC, ?_, hU, hV, hX⟩
  · show zad s.heap.size ext (100000 + i) = adK i
    rw [z _ (by omega), xK i hi]
  · show zad s.heap.size ext (200000 + i) = adV i
    rw [z _ (by omega), xV i hi]
  · rw [z _ (by omega), xK i hi]
    exact vk_R.of (hts _ (lt_sr i hi)) (hE i hi)
  · rw [z _ (by omega), x2]
    exact hF
theorem lw_xp {A : Array Value} {s : State} (hts : ∀ w ∈ lw_tbl, w.before A s = true) (hf : ∀ w ∈ lfc, w.before A s = true) : zXPg (fun q => s.heap.size ≤ q) s := by
  have hA : ∀ a : Nat, a < s.heap.size → ¬ (fun q => s.heap.size ≤ q) a := fun a h => Nat.not_le.mpr h
  exact ⟨fun w hw => ns_word (State.WarmedH.refl s) (nsW_kinds w hw) (hts w (lt_ns w hw)), vx_Zqof (hts _ lt_l3) (hts _ lt_i3) (hf _ lf_us) hA, vx_Zqof (hts _ lt_l4) (hts _ lt_i3) (hf _ lf_ss) hA⟩
