/-! type, of the class and of the model. -/
theorem c_bytesIn {σ : zS} {e : Int64} : zCp M_X6_bytesIn 2 [.long e] σ (zI (nb8 e)) := by
  refine zC_of (M := M_X6_bytesIn) (ls := [some (.long e), none, none]) (n := 1) (by decide) (fun ad => Nat.le_of_ble_eq_true rfl) rfl (fun x h => ?_)
  have L : ∀ (n : Nat) (i : Int), 0 ≤ i → i ≤ 8 → 8 - i < n → (∀ k, 0 ≤ k → k < i → by8 e k ≠ 0) → zW x (fun rr τ' => rr = some (zI (nb8 e)) ∧ τ' = σ) 2 [some (.long e), none, some (zI i)] [] σ := by
    intro n
    induction n with
    | zero => intro i h1 h2 h3; omega
    | succ n ih =>
      intro i h1 h2 h3 ha
      have hb := by8_b e i
      refine z_iload_n (pc := 2) h dX6_bytesIn_2 rfl ?_
      refine z_bipush (pc := 3) h dX6_bytesIn_3 (by decide) ?_
      refine z_icmp_ge (pc := 5) (tgt := 22) h (by omega) (by omega) dX6_bytesIn_5 (by decide) (fun c5 => ?_) (fun c5 => ?_)
      · refine z_iload_n (pc := 22) h dX6_bytesIn_22 rfl ?_
        refine z_iret (pc := 23) h rfl dX6_bytesIn_23 ?_
        first
        | (rw [nb8_e h1 (by omega) ha c13]; exact ⟨rfl, rfl⟩)
        | (rw [nb8_8 (fun k k0 k1 => ha k k0 (by omega)), show i = 8 by omega]; exact ⟨rfl, rfl⟩)
      · refine z_lload_n (pc := 8) h dX6_bytesIn_8 rfl ?_
        refine z_iload_n (pc := 9) h dX6_bytesIn_9 rfl ?_
        refine z_pS (pc := 10) h (c_byteOf h1 (by omega)) (by decide) ms_X6_byteOf ml_X6_15 rfl dX6_bytesIn_10 rfl (Nat.le_of_ble_eq_true rfl) ?_
        refine z_if_eq (pc := 13) (tgt := 22) h (by omega) dX6_bytesIn_13 (by decide) (fun c13 => ?_) (fun c13 => ?_)
        · refine z_iload_n (pc := 22) h dX6_bytesIn_22 rfl ?_
          refine z_iret (pc := 23) h rfl dX6_bytesIn_23 ?_
          first
          | (rw [nb8_e h1 (by omega) ha c13]; exact ⟨rfl, rfl⟩)
          | (rw [nb8_8 (fun k k0 k1 => ha k k0 (by omega)), show i = 8 by omega]; exact ⟨rfl, rfl⟩)
        · refine z_inc_2 (pc := 16) h dX6_bytesIn_16 (by decide) rfl ?_
          refine z_goto (pc := 19) (tgt := 2) h dX6_bytesIn_19 (by decide) ?_
          refine ih (i + 1) (by omega) (by omega) (by omega) (fun k k0 k1 => ?_)
          by_cases q : k = i
          · rw [q]; exact c13
          · exact ha k k0 (by omega)
  refine z_iconst (pc := 0) h dX6_bytesIn_0 ?_
  refine z_ist_2 (pc := 1) h dX6_bytesIn_1 (by decide) rfl ?_
  exact L 9 0 (by omega) (by omega) (by omega) (fun k k0 k1 => by omega)
def tx8 (f : Int → Int) (e : Int64) (n i : Int) : Int → Int := fun j => if n ≤ j ∧ j < n + i then bs8 e (j - n) else f j
theorem tx8_0 (f : Int → Int) (e : Int64) (n : Int) : tx8 f e n 0 = f := by
  funext j
  unfold tx8
  rw [if_neg (by omega)]
theorem tx8_S (f : Int → Int) (e : Int64) {n i : Int} (h : 0 ≤ i) : zup (tx8 f e n i) (n + i) (bs8 e i) = tx8 f e n (i + 1) := by
  funext j
  unfold zup tx8
  by_cases q : j = n + i
  · rw [if_pos q, if_pos (by omega), q, show n + i - n = i by omega]
  · rw [if_neg q]
    by_cases w : n ≤ j ∧ j < n + i
    · rw [if_pos w, if_pos (by omega)]
    · rw [if_neg w, if_neg (by omega)]
def txO (m : zOb) (e : Int64) (i : Int) : zOb := oss (osA m 0 (tx8 (m.2 0) e (m.1 1) i)) 1 (m.1 1 + i)
theorem txO_0 (m : zOb) (e : Int64) : txO m e 0 = m := by
  unfold txO
  rw [tx8_0, Int.add_zero]
  refine Prod.ext (funext fun j => ?_) (funext fun j => ?_)
  · show (if j = 1 then m.1 1 else m.1 j) = m.1 j
    split
    · rename_i q; rw [q]
    · rfl
  · show (if j = 0 then m.2 0 else m.2 j) = m.2 j
    split
    · rename_i q; rw [q]
    · rfl
theorem txO_S (m : zOb) (e : Int64) {i : Int} (h : 0 ≤ i) : oss (osa (txO m e i) 0 (m.1 1 + i) (bs8 e i)) 1 (m.1 1 + i + 1) = txO m e (i + 1) := by
  unfold txO
  rw [← tx8_S _ _ h, show m.1 1 + (i + 1) = m.1 1 + i + 1 by omega]
  refine Prod.ext (funext fun j => ?_) (funext fun j => ?_)
  · show (if j = 1 then m.1 1 + i + 1 else if j = 1 then m.1 1 + i else m.1 j) = if j = 1 then m.1 1 + i + 1 else m.1 j
    split <;> rfl
  · show (if j = 0 then zup (tx8 (m.2 0) e (m.1 1) i) (m.1 1 + i) (bs8 e i) else if j = 0 then tx8 (m.2 0) e (m.1 1) i else m.2 j) = if j = 0 then zup (tx8 (m.2 0) e (m.1 1) i) (m.1 1 + i) (bs8 e i) else m.2 j
    split <;> rfl
theorem c_append {σ : zS} {o : Nat} {m : zOb} {e : Int64} {v : Int} (ho : zoc o = 6) (hv : 0 ≤ v ∧ v ≤ 8) (hl : 0 ≤ m.1 1 ∧ m.1 1 + v ≤ 400) : zCv M_X6_append 2 [zR o, .long e, zI v] (zo σ o m) (zo σ o (txO m e v)) := by
  refine zC_of (M := M_X6_append) (ls := [some (zR o), some (.long e), none, some (zI v), none]) (n := 1) (by decide) (fun ad => Nat.le_of_ble_eq_true rfl) rfl (fun x h => ?_)
  have L : ∀ (n : Nat) (i : Int), 0 ≤ i → i ≤ v → v - i < n → zW x (fun rr τ' => rr = none ∧ τ' = zo σ o (txO m e v)) 3 [some (zR o), some (.long e), none, some (zI v), some (zI i)] [] (zo σ o (txO m e i)) := by
    intro n
    induction n with
    | zero => intro i h1 h2 h3; omega
    | succ n ih =>
      intro i h1 h2 h3
      have hih := ih (i + 1) (by omega)
      rw [← txO_S m e h1] at hih
      have e1 : (txO m e i).1 1 = m.1 1 + i := rfl
      have hb := bs8_b e i
      have hgo : i = v → txO m e i = txO m e v := fun q => by rw [q]
      generalize txO m e i = y at hih e1 hgo ⊢
      refine z_iload (pc := 3) h dX6_append_3 rfl ?_
      refine z_iload_n (pc := 5) h dX6_append_5 rfl ?_
      refine z_icmp_ge (pc := 6) (tgt := 51) h (by omega) (by omega) dX6_append_6 (by decide) (fun c6 => ?_) (fun c6 => ?_)
      · refine z_ret (pc := 51) h rfl dX6_append_51 ?_
        first
        | exact ⟨rfl, by rw [hgo (by omega)]⟩
        | (exfalso; omega)
      · refine z_aloadR_n (pc := 9) h dX6_append_9 rfl ?_
        refine z_getIq (pc := 10) (c := 6) (j := 1) h (zo_s _ _ _) (by first | assumption | rfl) rfl rfl fl_X6_19 dX6_append_10 (fun g10 => ?_)
        refine z_sipush (pc := 13) h dX6_append_13 (by decide) ?_
        refine z_icmp_ge (pc := 16) (tgt := 51) h (by omega) (by omega) dX6_append_16 (by decide) (fun c16 => ?_) (fun c16 => ?_)
        · refine z_ret (pc := 51) h rfl dX6_append_51 ?_
          first
          | exact ⟨rfl, by rw [hgo (by omega)]⟩
          | (exfalso; omega)
        · refine z_aloadR_n (pc := 19) h dX6_append_19 rfl ?_
          refine z_getA5 (pc := 20) (c := 6) (j := 0) h (by first | assumption | rfl) rfl rfl fl_X6_9 dX6_append_20 ?_
          refine z_aloadR_n (pc := 23) h dX6_append_23 rfl ?_
          refine z_getIq (pc := 24) (c := 6) (j := 1) h (zo_s _ _ _) (by first | assumption | rfl) rfl rfl fl_X6_19 dX6_append_24 (fun g24 => ?_)
          refine z_lload_n (pc := 27) h dX6_append_27 rfl ?_
          refine z_iload (pc := 28) h dX6_append_28 rfl ?_
          refine z_pS (pc := 30) h (c_byteOf h1 (by omega)) (by decide) ms_X6_byteOf ml_X6_15 rfl dX6_append_30 rfl (Nat.le_of_ble_eq_true rfl) ?_
          refine z_i2b (pc := 33) h dX6_append_33 ?_
          change zW x _ 34 _ (zI (bs8 e i) :: _) _
          refine z_basto (pc := 34) (c := 6) (j := 0) (L := 400) h (by first | assumption | rfl) (by decide) rfl (by decide) (by omega) (by omega) (by omega) dX6_append_34 ?_
          refine z_aloadR_n (pc := 35) h dX6_append_35 rfl ?_
          refine z_dupR (pc := 36) h dX6_append_36 ?_
          refine z_getIq (pc := 37) (c := 6) (j := 1) h (zo_s _ _ _) (by first | assumption | rfl) rfl rfl fl_X6_19 dX6_append_37 (fun g37 => ?_)
          try simp only [osa_1, osa_2, oss_1, oss_2, osA_1, osA_2, zup_s, reduceIte, Nat.reduceEqDiff] at g37 ⊢
          refine z_iconst (pc := 40) h dX6_append_40 ?_
          refine z_iadd (pc := 41) h dX6_append_41 ?_
          refine z_putIo (pc := 42) (c := 6) (j := 1) h (by first | assumption | rfl) rfl rfl fl_X6_19 rfl (tyX6_ok 1 (by decide)) dX6_append_42 (by omega) ?_
          refine z_inc_4 (pc := 45) h dX6_append_45 (by decide) rfl ?_
          refine z_goto (pc := 48) (tgt := 3) h dX6_append_48 (by decide) ?_
          rw [e1] at *
          exact hih (by omega) (by omega)
  refine z_iconst (pc := 0) h dX6_append_0 ?_
  refine z_ist_4 (pc := 1) h dX6_append_1 (by decide) rfl ?_
  have := L (v + 1).toNat 0 (by omega) (by omega) (by omega)
  rw [txO_0] at this
  exact this
theorem c_type {σ : zS} {e : Int64} (hl : 0 ≤ (σ 1).1 1 ∧ (σ 1).1 1 ≤ 400) : zCr M_X7_type 3 [zR 0, .long e] σ (zI (if 400 < (σ 1).1 1 + nb8 e then -1 else (σ 1).1 1 + nb8 e)) (if 400 < (σ 1).1 1 + nb8 e then σ else zo σ 1 (txO (σ 1) e (nb8 e))) := by
  have hb := nb8_b e
  refine zC_of (M := M_X7_type) (ls := [some (zR 0), some (.long e), none, none]) (n := 1) (by decide) (fun ad => Nat.le_of_ble_eq_true rfl) rfl (fun x h => ?_)
  refine z_apart 1 ?_
  rw [show (if 400 < (σ 1).1 1 + nb8 e then σ else zo σ 1 (txO (σ 1) e (nb8 e))) = zo σ 1 (if 400 < (σ 1).1 1 + nb8 e then σ 1 else txO (σ 1) e (nb8 e)) by split; rw [zo_self]; rfl]
  generalize σ 1 = y at hl ⊢
  refine z_lload_n (pc := 0) h dX7_type_0 rfl ?_
  refine z_pS (pc := 1) h (c_bytesIn) (by decide) ms_X6_bytesIn ml_X7_78 rfl dX7_type_1 rfl (Nat.le_of_ble_eq_true rfl) ?_
  refine z_ist_3 (pc := 4) h dX7_type_4 (by decide) rfl ?_
  refine z_aloadR_n (pc := 5) h dX7_type_5 rfl ?_
  refine z_getR (pc := 6) (c := 7) (j := 0) (o2 := 1) h rfl (by first | assumption | rfl) rfl rfl fl_X7_10 dX7_type_6 ?_
  refine z_getIq (pc := 9) (c := 6) (j := 1) h (zo_s _ _ _) (by first | assumption | rfl) rfl rfl fl_X7_82 dX7_type_9 (fun g9 => ?_)
  refine z_iload_n (pc := 12) h dX7_type_12 rfl ?_
  refine z_iadd (pc := 13) h dX7_type_13 ?_
  refine z_sipush (pc := 14) h dX7_type_14 (by decide) ?_
  refine z_icmp_le (pc := 17) (tgt := 22) h (by omega) (by omega) dX7_type_17 (by decide) (fun c17 => ?_) (fun c17 => ?_)
  · refine z_aloadR_n (pc := 22) h dX7_type_22 rfl ?_
    refine z_getR (pc := 23) (c := 7) (j := 0) (o2 := 1) h rfl (by first | assumption | rfl) rfl rfl fl_X7_10 dX7_type_23 ?_
    refine z_lload_n (pc := 26) h dX7_type_26 rfl ?_
    refine z_iload_n (pc := 27) h dX7_type_27 rfl ?_
    refine z_vV (pc := 28) (c := 6) h (c_append rfl hb (by omega)) (by decide) (by first | assumption | rfl) rfl mv_X6_append ml_X7_85 rfl dX7_type_28 rfl (Nat.le_of_ble_eq_true rfl) ?_
    refine z_aloadR_n (pc := 31) h dX7_type_31 rfl ?_
    refine z_getR (pc := 32) (c := 7) (j := 0) (o2 := 1) h rfl (by first | assumption | rfl) rfl rfl fl_X7_10 dX7_type_32 ?_
    refine z_getIq (pc := 35) (c := 6) (j := 1) h (zo_s _ _ _) (by first | assumption | rfl) rfl rfl fl_X7_82 dX7_type_35 (fun g35 => ?_)
    refine z_iret (pc := 38) h rfl dX7_type_38 ?_
    rw [if_neg (by omega), if_neg (by omega)]
    exact ⟨rfl, rfl⟩
  · refine z_iconst (pc := 20) h dX7_type_20 ?_
    refine z_iret (pc := 21) h rfl dX7_type_21 ?_
    rw [if_pos (by omega), if_pos (by omega)]
    exact ⟨rfl, rfl⟩
theorem zlc_b (x y : Int64) : -2147483648 ≤ zlc x y ∧ zlc x y ≤ 2147483647 := by
  have h1 := (lg_cmp x y).le_toInt
  have h2 := (lg_cmp x y).toInt_lt
  unfold zlc
  omega
theorem land_0 {e : Int64} {k : Int} (h0 : 0 ≤ k) (h1 : k ≤ 7) : zlc ((e >>> ((Int32.ofInt (56 - 8 * k)).toInt64 &&& 63)) &&& 255) 0 = 0 ↔ by8 e k = 0 := by
  rw [zlc_0, ← Int64.toInt_inj, and64, byM h0 h1]
  exact Iff.rfl
theorem l2b {e : Int64} {k : Int} (h0 : 0 ≤ k) (h1 : k ≤ 7) : (Int8.ofInt ((e >>> ((Int32.ofInt (56 - 8 * k)).toInt64 &&& 63)).toInt32.toInt)).toInt = bs8 e k := by
  unfold bs8
  refine i8_256 _ _ ?_
  rw [l2i_256, byM h0 h1]
  have := by8_b e k
  omega
/-- the model's text -/
def tyO (m : zOb) (e : Int64) (i : Int) : zOb := osa (osA m 2 (tx8 (m.2 2) e (m.2 1 119) i)) 1 119 (m.2 1 119 + i)
theorem tyO_0 (m : zOb) (e : Int64) : tyO m e 0 = m := by
  unfold tyO
  rw [tx8_0, Int.add_zero]
  refine Prod.ext rfl (funext fun j => ?_)
  show (if j = 1 then zup (m.2 1) 119 (m.2 1 119) else if j = 2 then m.2 2 else m.2 j) = m.2 j
  split
  · rename_i q; rw [q, zup_same]
  · split
    · rename_i q; rw [q]
    · rfl
theorem tyO_S (m : zOb) (e : Int64) {i : Int} (h : 0 ≤ i) : osa (osa (tyO m e i) 2 (m.2 1 119 + i) (bs8 e i)) 1 119 (m.2 1 119 + i + 1) = tyO m e (i + 1) := by
  unfold tyO
  rw [← tx8_S _ _ h, show m.2 1 119 + (i + 1) = m.2 1 119 + i + 1 by omega]
  refine Prod.ext rfl (funext fun j => ?_)
  show (if j = 1 then zup (zup (m.2 1) 119 (m.2 1 119 + i)) 119 (m.2 1 119 + i + 1) else if j = 2 then zup (tx8 (m.2 2) e (m.2 1 119) i) (m.2 1 119 + i) (bs8 e i) else if j = 1 then zup (m.2 1) 119 (m.2 1 119 + i) else if j = 2 then tx8 (m.2 2) e (m.2 1 119) i else m.2 j) = if j = 1 then zup (m.2 1) 119 (m.2 1 119 + i + 1) else if j = 2 then zup (tx8 (m.2 2) e (m.2 1 119) i) (m.2 1 119 + i) (bs8 e i) else m.2 j
  rw [zup_zup]
  split
  · rfl
  · split <;> rfl
theorem m8_type {σ : zS} {m : zOb} {e : Int64} (hl : 0 ≤ m.2 1 119 ∧ m.2 1 119 ≤ 400) : zCr M_X8_type 1 [zR 31, .long e] (zo σ 31 m) (zI (if 400 < m.2 1 119 + nb8 e then -1 else m.2 1 119 + nb8 e)) (zo σ 31 (if 400 < m.2 1 119 + nb8 e then oss m 0 0 else tyO (oss m 0 0) e (nb8 e))) := by
  have hb := nb8_b e
  have hy1 : (oss m 0 0).2 1 119 = m.2 1 119 := rfl
  refine zC_of (M := M_X8_type) (ls := [some (zR 31), some (.long e), none, none, none]) (n := 2) (by decide) (fun ad => Nat.le_of_ble_eq_true rfl) rfl (fun x h => ?_)
  refine z_aloadR_n (pc := 0) h dX8_type_0 rfl ?_
  refine z_iconst (pc := 1) h dX8_type_1 ?_
  refine z_putIo (pc := 2) (c := 8) (j := 0) h (by first | assumption | rfl) rfl rfl fl_X8_84 rfl (tyX8_ok 0 (by decide)) dX8_type_2 (by omega) ?_
  rw [← hy1] at hl ⊢
  generalize oss m 0 0 = y at hl ⊢
  refine z_iconst (pc := 5) h dX8_type_5 ?_
  refine z_ist_3 (pc := 6) h dX8_type_6 (by decide) rfl ?_
  skip
  have L2 : ∀ (n : Nat) (i : Int), 0 ≤ i → i ≤ nb8 e → nb8 e - i < n → y.2 1 119 + nb8 e ≤ 400 → zW x (fun rr τ' => rr = some (zI (y.2 1 119 + nb8 e)) ∧ τ' = zo σ 31 (tyO y e (nb8 e))) 57 [some (zR 31), some (.long e), none, some (zI (nb8 e)), some (zI i)] [] (zo σ 31 (tyO y e i)) := by
    intro n
    induction n with
    | zero => intro i h1 h2 h3; omega
    | succ n ih =>
      intro i h1 h2 h3 h4
      have hih := ih (i + 1) (by omega)
      rw [← tyO_S y e h1] at hih
      have e1 : (tyO y e i).2 1 119 = y.2 1 119 + i := by show zup (y.2 1) 119 (y.2 1 119 + i) 119 = _; rw [zup_s]
      have hbb := bs8_b e i
      have hgo : i = nb8 e → tyO y e i = tyO y e (nb8 e) := fun q => by rw [q]
      generalize tyO y e i = w at hih e1 hgo ⊢
      refine z_iload (pc := 57) h dX8_type_57 rfl ?_
      refine z_iload_n (pc := 59) h dX8_type_59 rfl ?_
      refine z_icmp_ge (pc := 60) (tgt := 104) h (by omega) (by omega) dX8_type_60 (by decide) (fun c60 => ?_) (fun c60 => ?_)
      · refine z_aloadR_n (pc := 104) h dX8_type_104 rfl ?_
        refine z_getA4 (pc := 105) (c := 8) (j := 1) h (by first | assumption | rfl) rfl rfl fl_X8_7 dX8_type_105 ?_
        refine z_bipush (pc := 108) h dX8_type_108 (by decide) ?_
        refine z_ialdq (pc := 110) (c := 8) (j := 1) (L := 610) h (zo_s _ _ _) (by first | assumption | rfl) (by decide) rfl (by decide) (by omega) (by omega) dX8_type_110 (fun g110 => ?_)
        refine z_iret (pc := 111) h rfl dX8_type_111 ?_
        refine ⟨?_, by rw [hgo (by omega)]⟩
        rw [e1, show i = nb8 e by omega]
      · refine z_aloadR_n (pc := 63) h dX8_type_63 rfl ?_
        refine z_getA5 (pc := 64) (c := 8) (j := 2) h (by first | assumption | rfl) rfl rfl fl_X8_13 dX8_type_64 ?_
        refine z_aloadR_n (pc := 67) h dX8_type_67 rfl ?_
        refine z_getA4 (pc := 68) (c := 8) (j := 1) h (by first | assumption | rfl) rfl rfl fl_X8_7 dX8_type_68 ?_
        refine z_bipush (pc := 71) h dX8_type_71 (by decide) ?_
        refine z_ialdq (pc := 73) (c := 8) (j := 1) (L := 610) h (zo_s _ _ _) (by first | assumption | rfl) (by decide) rfl (by decide) (by omega) (by omega) dX8_type_73 (fun g73 => ?_)
        refine z_lload_n (pc := 74) h dX8_type_74 rfl ?_
        refine z_bipush (pc := 75) h dX8_type_75 (by decide) ?_
        refine z_bipush (pc := 77) h dX8_type_77 (by decide) ?_
        refine z_iload (pc := 79) h dX8_type_79 rfl ?_
        refine z_imul (pc := 81) h dX8_type_81 ?_
        refine z_isub (pc := 82) h dX8_type_82 ?_
        refine z_lshr (pc := 83) h dX8_type_83 ?_
        refine z_l2i (pc := 84) h dX8_type_84 ?_
        refine z_i2b (pc := 85) h dX8_type_85 ?_
        rw [l2b h1 (by omega)]
        refine z_basto (pc := 86) (c := 8) (j := 2) (L := 1600) h (by first | assumption | rfl) (by decide) rfl (by decide) (by omega) (by omega) (by omega) dX8_type_86 ?_
        refine z_aloadR_n (pc := 87) h dX8_type_87 rfl ?_
        refine z_getA4 (pc := 88) (c := 8) (j := 1) h (by first | assumption | rfl) rfl rfl fl_X8_7 dX8_type_88 ?_
        refine z_bipush (pc := 91) h dX8_type_91 (by decide) ?_
        refine z_dup2AI (pc := 93) h dX8_type_93 ?_
        refine z_ialdq (pc := 94) (c := 8) (j := 1) (L := 610) h (zo_s _ _ _) (by first | assumption | rfl) (by decide) rfl (by decide) (by omega) (by omega) dX8_type_94 (fun g94 => ?_)
        try simp only [osa_1, osa_2, oss_1, oss_2, osA_1, osA_2, zup_s, reduceIte, Nat.reduceEqDiff] at g94 ⊢
        refine z_iconst (pc := 95) h dX8_type_95 ?_
        refine z_iadd (pc := 96) h dX8_type_96 ?_
        refine z_iasto (pc := 97) (c := 8) (j := 1) (L := 610) h (by first | assumption | rfl) (by decide) rfl (by decide) (by omega) (by omega) (by omega) dX8_type_97 ?_
        refine z_inc_4 (pc := 98) h dX8_type_98 (by decide) rfl ?_
        refine z_goto (pc := 101) (tgt := 57) h dX8_type_101 (by decide) ?_
        rw [e1] at *
        exact hih (by omega) (by omega) h4
  have L : ∀ (n : Nat) (i : Int) (l4 : Option Value), 0 ≤ i → i ≤ 8 → 8 - i < n → (∀ k, 0 ≤ k → k < i → by8 e k ≠ 0) → zW x (fun rr τ' => rr = some (zI (if 400 < y.2 1 119 + nb8 e then -1 else y.2 1 119 + nb8 e)) ∧ τ' = zo σ 31 (if 400 < y.2 1 119 + nb8 e then y else tyO y e (nb8 e))) 7 [some (zR 31), some (.long e), none, some (zI i), l4] [] (zo σ 31 y) := by
    intro n
    induction n with
    | zero => intro i l4 h1 h2 h3; omega
    | succ n ih =>
      intro i l4 h1 h2 h3 ha
      refine z_iload_n (pc := 7) h dX8_type_7 rfl ?_
      refine z_bipush (pc := 8) h dX8_type_8 (by decide) ?_
      refine z_icmp_ge (pc := 10) (tgt := 37) h (by omega) (by omega) dX8_type_10 (by decide) (fun c10 => ?_) (fun c10 => ?_)
      · have hn := nb8_8 (x := e) (fun k k0 k1 => ha k k0 (by omega))
        rw [show i = nb8 e by omega]
        refine z_aloadR_n (pc := 37) h dX8_type_37 rfl ?_
        refine z_getA4 (pc := 38) (c := 8) (j := 1) h (by first | assumption | rfl) rfl rfl fl_X8_7 dX8_type_38 ?_
        refine z_bipush (pc := 41) h dX8_type_41 (by decide) ?_
        refine z_ialdq (pc := 43) (c := 8) (j := 1) (L := 610) h (zo_s _ _ _) (by first | assumption | rfl) (by decide) rfl (by decide) (by omega) (by omega) dX8_type_43 (fun g43 => ?_)
        refine z_iload_n (pc := 44) h dX8_type_44 rfl ?_
        refine z_iadd (pc := 45) h dX8_type_45 ?_
        refine z_sipush (pc := 46) h dX8_type_46 (by decide) ?_
        refine z_icmp_le (pc := 49) (tgt := 54) h (by omega) (by omega) dX8_type_49 (by decide) (fun c49 => ?_) (fun c49 => ?_)
        · refine z_iconst (pc := 54) h dX8_type_54 ?_
          refine z_ist_4 (pc := 55) h dX8_type_55 (by decide) rfl ?_
          rw [if_neg (by omega), if_neg (by omega)]
          have := L2 9 0 (by omega) (by omega) (by omega) (by omega)
          rw [tyO_0] at this
          exact this
        · refine z_iconst (pc := 52) h dX8_type_52 ?_
          refine z_iret (pc := 53) h rfl dX8_type_53 ?_
          rw [if_pos (by omega), if_pos (by omega)]
          exact ⟨rfl, rfl⟩
      · refine z_lload_n (pc := 13) h dX8_type_13 rfl ?_
        refine z_bipush (pc := 14) h dX8_type_14 (by decide) ?_
        refine z_bipush (pc := 16) h dX8_type_16 (by decide) ?_
        refine z_iload_n (pc := 18) h dX8_type_18 rfl ?_
        refine z_imul (pc := 19) h dX8_type_19 ?_
        refine z_isub (pc := 20) h dX8_type_20 ?_
        refine z_lshr (pc := 21) h dX8_type_21 ?_
        refine z_ldc2 (pc := 22) h kl_X8_96 dX8_type_22 ?_
        refine z_land (pc := 25) h dX8_type_25 ?_
        refine z_lconst (pc := 26) h dX8_type_26 ?_
        refine z_lcmp (pc := 27) h dX8_type_27 ?_
        refine z_if_eq (pc := 28) (tgt := 37) h (by exact zlc_b _ _) dX8_type_28 (by decide) (fun c28 => ?_) (fun c28 => ?_)
        · have hn := nb8_e h1 (by omega) ha ((land_0 h1 (by omega)).mp c28)
          rw [← hn]
          refine z_aloadR_n (pc := 37) h dX8_type_37 rfl ?_
          refine z_getA4 (pc := 38) (c := 8) (j := 1) h (by first | assumption | rfl) rfl rfl fl_X8_7 dX8_type_38 ?_
          refine z_bipush (pc := 41) h dX8_type_41 (by decide) ?_
          refine z_ialdq (pc := 43) (c := 8) (j := 1) (L := 610) h (zo_s _ _ _) (by first | assumption | rfl) (by decide) rfl (by decide) (by omega) (by omega) dX8_type_43 (fun g43 => ?_)
          refine z_iload_n (pc := 44) h dX8_type_44 rfl ?_
          refine z_iadd (pc := 45) h dX8_type_45 ?_
          refine z_sipush (pc := 46) h dX8_type_46 (by decide) ?_
          refine z_icmp_le (pc := 49) (tgt := 54) h (by omega) (by omega) dX8_type_49 (by decide) (fun c49 => ?_) (fun c49 => ?_)
          · refine z_iconst (pc := 54) h dX8_type_54 ?_
            refine z_ist_4 (pc := 55) h dX8_type_55 (by decide) rfl ?_
            rw [if_neg (by omega), if_neg (by omega)]
            have := L2 9 0 (by omega) (by omega) (by omega) (by omega)
            rw [tyO_0] at this
            exact this
          · refine z_iconst (pc := 52) h dX8_type_52 ?_
            refine z_iret (pc := 53) h rfl dX8_type_53 ?_
            rw [if_pos (by omega), if_pos (by omega)]
            exact ⟨rfl, rfl⟩
        · refine z_inc_3 (pc := 31) h dX8_type_31 (by decide) rfl ?_
          refine z_goto (pc := 34) (tgt := 7) h dX8_type_34 (by decide) ?_
          refine ih (i + 1) _ (by omega) (by omega) (by omega) (fun k k0 k1 => ?_)
          by_cases q : k = i
          · rw [q]; exact fun z => c28 ((land_0 h1 (by omega)).mpr z)
          · exact ha k k0 (by omega)
  exact L 9 0 _ (by omega) (by omega) (by omega) (fun k k0 k1 => by omega)
