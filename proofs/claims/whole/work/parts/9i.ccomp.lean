/-! Constructors of Reading, Image, Acts. -/
def bX4 (cs : Nat → ClassId) (a : Nat) (tx : Nat) : List va_E := (.inr (4, [.ref (tx), .ref (a + 1), .ref (a + 13), .ref (a + 14), .int 0, zI (-1), .int 0, .int 0, .int 0, .int 0]) :: ((bX1 (cs) (a + 1) ++ [.inl (cs 0, 5, .inl (fun _ => Int32.ofInt 0))]) ++ [.inl (cs 0, 5, .inl (fun _ => Int32.ofInt 0))]))
theorem k_X4 {D : va_G} {cs : Nat → ClassId} {a tx : Nat} : cM yX4_init cX4_init 2 2 14 174 [.ref a, .ref tx] D cs a [.inr (4, cdf 4)] (bX4 cs a tx) := by
  refine cM_of (n := 0) (ls := [some (.ref a), some (.ref tx)]) (by decide +kernel) (Nat.le_of_ble_eq_true rfl) rfl (fun x hA hC hD h hI hE hF => ?_)
  subst hA hC hD
  refine n_eq (B' := (.inr (4, [.null, .null, .null, .null, .int 0, .int 0, .int 0, .int 0, .int 0, .int 0]) :: [])) rfl ?_
  refine n_aload_n (pc := 0) h dX4_init_0 rfl ?_
  refine n_obj (pc := 1) h (by decide) ml_X4_3 dX4_init_1 ?_
  refine n_aload_n (pc := 4) h dX4_init_4 rfl ?_
  refine n_new (pc := 5) (c := 1) (L := 1) (fs := cdf 1) h tyX1 tyX1_ok cdf_1 rfl cl_X4_9 ot_instantiable_RX1_16 ini_RX1 (hF _ _ (by decide) (by decide)) rfl dX4_init_5 ?_
  refine n_eq (B' := (.inr (4, [.null, .null, .null, .null, .int 0, .int 0, .int 0, .int 0, .int 0, .int 0]) :: [.inr (1, cdf 1)])) rfl ?_
  refine n_dup (pc := 8) h dX4_init_8 ?_
  refine n_callN (pc := 9) (np := 0) (i := 1) (as := []) (st := [.ref (cA x + 1), .ref (cA x)]) (P := (.inr (4, [.null, .null, .null, .null, .int 0, .int 0, .int 0, .int 0, .int 0, .int 0]) :: [])) (B0 := [.inr (1, cdf 1)]) h k_X1 rfl rfl (by decide) (hF _ _ (by decide) (by decide)) co_X1_init ini_RX1 (List.mem_of_getElem? (i := 5) rfl) im_X1_init rfl ⟨by decide, by decide, by decide +kernel⟩ (by decide) rfl dX4_init_9 rfl (Nat.le_of_ble_eq_true rfl) ?_
  refine n_eq (B' := (.inr (4, [.null, .null, .null, .null, .int 0, .int 0, .int 0, .int 0, .int 0, .int 0]) :: bX1 (cC x) (cA x + 1))) rfl ?_
  refine n_put (pc := 12) (c := 4) (j := 1) h rfl (by decide) fl_X4_12 (by first | exact Or.inl rfl | exact Or.inr ⟨rfl, hI rfl, rfl⟩) (tyX4_ok 1 (by decide)) rfl rfl (Nat.le_of_ble_eq_true rfl) dX4_init_12 ?_
  refine n_eq (B' := (.inr (4, [.null, .ref (cA x + 1), .null, .null, .int 0, .int 0, .int 0, .int 0, .int 0, .int 0]) :: bX1 (cC x) (cA x + 1))) rfl ?_
  refine n_aload_n (pc := 15) h dX4_init_15 rfl ?_
  refine n_iconst (pc := 16) h dX4_init_16 ?_
  refine n_newa (pc := 17) (ty := .int) (N' := 5) (L := 13) (a1 := (5, .inl (fun _ => Int32.ofInt 0))) h (cT_of h (t0 := 0) rfl) ot_arrayClass__int rfl (fun _ => rfl) (by decide) (by decide) (by decide) (hF _ _ (by decide) (by decide)) rfl dX4_init_17 ?_
  refine n_eq (B' := (.inr (4, [.null, .ref (cA x + 1), .null, .null, .int 0, .int 0, .int 0, .int 0, .int 0, .int 0]) :: (bX1 (cC x) (cA x + 1) ++ [.inl (cC x 0, 5, .inl (fun _ => Int32.ofInt 0))]))) rfl ?_
  refine n_put (pc := 19) (c := 4) (j := 2) h rfl (by decide) fl_X4_18 (by first | exact Or.inl rfl | exact Or.inr ⟨rfl, hI rfl, rfl⟩) (tyX4_ok 2 (by decide)) rfl rfl (Nat.le_of_ble_eq_true rfl) dX4_init_19 ?_
  refine n_eq (B' := (.inr (4, [.null, .ref (cA x + 1), .ref (cA x + 13), .null, .int 0, .int 0, .int 0, .int 0, .int 0, .int 0]) :: (bX1 (cC x) (cA x + 1) ++ [.inl (cC x 0, 5, .inl (fun _ => Int32.ofInt 0))]))) rfl ?_
  refine n_aload_n (pc := 22) h dX4_init_22 rfl ?_
  refine n_iconst (pc := 23) h dX4_init_23 ?_
  refine n_newa (pc := 24) (ty := .int) (N' := 5) (L := 14) (a1 := (5, .inl (fun _ => Int32.ofInt 0))) h (cT_of h (t0 := 0) rfl) ot_arrayClass__int rfl (fun _ => rfl) (by decide) (by decide) (by decide) (hF _ _ (by decide) (by decide)) rfl dX4_init_24 ?_
  refine n_eq (B' := (.inr (4, [.null, .ref (cA x + 1), .ref (cA x + 13), .null, .int 0, .int 0, .int 0, .int 0, .int 0, .int 0]) :: ((bX1 (cC x) (cA x + 1) ++ [.inl (cC x 0, 5, .inl (fun _ => Int32.ofInt 0))]) ++ [.inl (cC x 0, 5, .inl (fun _ => Int32.ofInt 0))]))) rfl ?_
  refine n_put (pc := 26) (c := 4) (j := 3) h rfl (by decide) fl_X4_22 (by first | exact Or.inl rfl | exact Or.inr ⟨rfl, hI rfl, rfl⟩) (tyX4_ok 3 (by decide)) rfl rfl (Nat.le_of_ble_eq_true rfl) dX4_init_26 ?_
  refine n_eq (B' := (.inr (4, [.null, .ref (cA x + 1), .ref (cA x + 13), .ref (cA x + 14), .int 0, .int 0, .int 0, .int 0, .int 0, .int 0]) :: ((bX1 (cC x) (cA x + 1) ++ [.inl (cC x 0, 5, .inl (fun _ => Int32.ofInt 0))]) ++ [.inl (cC x 0, 5, .inl (fun _ => Int32.ofInt 0))]))) rfl ?_
  refine n_aload_n (pc := 29) h dX4_init_29 rfl ?_
  refine n_iconst (pc := 30) h dX4_init_30 ?_
  refine n_put (pc := 31) (c := 4) (j := 5) h rfl (by decide) fl_X4_25 (by first | exact Or.inl rfl | exact Or.inr ⟨rfl, hI rfl, rfl⟩) (tyX4_ok 5 (by decide)) rfl rfl (Nat.le_of_ble_eq_true rfl) dX4_init_31 ?_
  refine n_eq (B' := (.inr (4, [.null, .ref (cA x + 1), .ref (cA x + 13), .ref (cA x + 14), .int 0, zI (-1), .int 0, .int 0, .int 0, .int 0]) :: ((bX1 (cC x) (cA x + 1) ++ [.inl (cC x 0, 5, .inl (fun _ => Int32.ofInt 0))]) ++ [.inl (cC x 0, 5, .inl (fun _ => Int32.ofInt 0))]))) rfl ?_
  refine n_aload_n (pc := 34) h dX4_init_34 rfl ?_
  refine n_aload_n (pc := 35) h dX4_init_35 rfl ?_
  refine n_put (pc := 36) (c := 4) (j := 0) h rfl (by decide) fl_X4_29 (by first | exact Or.inl rfl | exact Or.inr ⟨rfl, hI rfl, rfl⟩) (tyX4_ok 0 (by decide)) rfl rfl (Nat.le_of_ble_eq_true rfl) dX4_init_36 ?_
  refine n_eq (B' := (.inr (4, [.ref (tx), .ref (cA x + 1), .ref (cA x + 13), .ref (cA x + 14), .int 0, zI (-1), .int 0, .int 0, .int 0, .int 0]) :: ((bX1 (cC x) (cA x + 1) ++ [.inl (cC x 0, 5, .inl (fun _ => Int32.ofInt 0))]) ++ [.inl (cC x 0, 5, .inl (fun _ => Int32.ofInt 0))]))) rfl ?_
  exact n_ret (pc := 39) h hE (by decide) (by decide) dX4_init_39
def bX2 (cs : Nat → ClassId) (a : Nat) : List va_E := (.inr (2, [.ref (a + 1), .ref (a + 3), .ref (a + 15), .int 0, .int 0, .int 0]) :: ((bX6 (cs) (a + 1) ++ bX1 (cs) (a + 3)) ++ bX3 (cs) (a + 15)))
theorem k_X2 {D : va_G} {cs : Nat → ClassId} {a : Nat} : cM yX2_init cX2_init 1 2 18 594 [.ref a] D cs a [.inr (2, cdf 2)] (bX2 cs a) := by
  refine cM_of (n := 0) (ls := [some (.ref a)]) (by decide +kernel) (Nat.le_of_ble_eq_true rfl) rfl (fun x hA hC hD h hI hE hF => ?_)
  subst hA hC hD
  refine n_eq (B' := (.inr (2, [.null, .null, .null, .int 0, .int 0, .int 0]) :: [])) rfl ?_
  refine n_aload_n (pc := 0) h dX2_init_0 rfl ?_
  refine n_obj (pc := 1) h (by decide) ml_X2_1 dX2_init_1 ?_
  refine n_aload_n (pc := 4) h dX2_init_4 rfl ?_
  refine n_new (pc := 5) (c := 6) (L := 1) (fs := cdf 6) h tyX6 tyX6_ok cdf_6 rfl cl_X2_7 ot_instantiable_RX6_2 ini_RX6 (hF _ _ (by decide) (by decide)) rfl dX2_init_5 ?_
  refine n_eq (B' := (.inr (2, [.null, .null, .null, .int 0, .int 0, .int 0]) :: [.inr (6, cdf 6)])) rfl ?_
  refine n_dup (pc := 8) h dX2_init_8 ?_
  refine n_callN (pc := 9) (np := 0) (i := 1) (as := []) (st := [.ref (cA x + 1), .ref (cA x)]) (P := (.inr (2, [.null, .null, .null, .int 0, .int 0, .int 0]) :: [])) (B0 := [.inr (6, cdf 6)]) h k_X6 rfl rfl (by decide) (hF _ _ (by decide) (by decide)) co_X6_init ini_RX6 (List.mem_of_getElem? (i := 3) rfl) im_X6_init rfl ⟨by decide, by decide, by decide +kernel⟩ (by decide) rfl dX2_init_9 rfl (Nat.le_of_ble_eq_true rfl) ?_
  refine n_eq (B' := (.inr (2, [.null, .null, .null, .int 0, .int 0, .int 0]) :: bX6 (cC x) (cA x + 1))) rfl ?_
  refine n_put (pc := 12) (c := 2) (j := 0) h rfl (by decide) fl_X2_10 (by first | exact Or.inl rfl | exact Or.inr ⟨rfl, hI rfl, rfl⟩) (tyX2_ok 0 (by decide)) rfl rfl (Nat.le_of_ble_eq_true rfl) dX2_init_12 ?_
  refine n_eq (B' := (.inr (2, [.ref (cA x + 1), .null, .null, .int 0, .int 0, .int 0]) :: bX6 (cC x) (cA x + 1))) rfl ?_
  refine n_aload_n (pc := 15) h dX2_init_15 rfl ?_
  refine n_new (pc := 16) (c := 1) (L := 3) (fs := cdf 1) h tyX1 tyX1_ok cdf_1 rfl cl_X2_16 ot_instantiable_RX1_16 ini_RX1 (hF _ _ (by decide) (by decide)) rfl dX2_init_16 ?_
  refine n_eq (B' := (.inr (2, [.ref (cA x + 1), .null, .null, .int 0, .int 0, .int 0]) :: (bX6 (cC x) (cA x + 1) ++ [.inr (1, cdf 1)]))) rfl ?_
  refine n_dup (pc := 19) h dX2_init_19 ?_
  refine n_callN (pc := 20) (np := 0) (i := 3) (as := []) (st := [.ref (cA x + 3), .ref (cA x)]) (P := (.inr (2, [.ref (cA x + 1), .null, .null, .int 0, .int 0, .int 0]) :: bX6 (cC x) (cA x + 1))) (B0 := [.inr (1, cdf 1)]) h k_X1 rfl rfl (by decide) (hF _ _ (by decide) (by decide)) co_X1_init ini_RX1 (List.mem_of_getElem? (i := 4) rfl) im_X1_init rfl ⟨by decide, by decide, by decide +kernel⟩ (by decide) rfl dX2_init_20 rfl (Nat.le_of_ble_eq_true rfl) ?_
  refine n_eq (B' := (.inr (2, [.ref (cA x + 1), .null, .null, .int 0, .int 0, .int 0]) :: (bX6 (cC x) (cA x + 1) ++ bX1 (cC x) (cA x + 3)))) rfl ?_
  refine n_put (pc := 23) (c := 2) (j := 1) h rfl (by decide) fl_X2_19 (by first | exact Or.inl rfl | exact Or.inr ⟨rfl, hI rfl, rfl⟩) (tyX2_ok 1 (by decide)) rfl rfl (Nat.le_of_ble_eq_true rfl) dX2_init_23 ?_
  refine n_eq (B' := (.inr (2, [.ref (cA x + 1), .ref (cA x + 3), .null, .int 0, .int 0, .int 0]) :: (bX6 (cC x) (cA x + 1) ++ bX1 (cC x) (cA x + 3)))) rfl ?_
  refine n_aload_n (pc := 26) h dX2_init_26 rfl ?_
  refine n_new (pc := 27) (c := 3) (L := 15) (fs := cdf 3) h tyX3 tyX3_ok cdf_3 rfl cl_X2_23 ot_instantiable_RX3_4 ini_RX3 (hF _ _ (by decide) (by decide)) rfl dX2_init_27 ?_
  refine n_eq (B' := (.inr (2, [.ref (cA x + 1), .ref (cA x + 3), .null, .int 0, .int 0, .int 0]) :: ((bX6 (cC x) (cA x + 1) ++ bX1 (cC x) (cA x + 3)) ++ [.inr (3, cdf 3)]))) rfl ?_
  refine n_dup (pc := 30) h dX2_init_30 ?_
  refine n_call (pc := 31) (np := 0) (i := 15) (as := []) (st := [.ref (cA x + 15), .ref (cA x)]) (P := (.inr (2, [.ref (cA x + 1), .ref (cA x + 3), .null, .int 0, .int 0, .int 0]) :: (bX6 (cC x) (cA x + 1) ++ bX1 (cC x) (cA x + 3)))) (B0 := [.inr (3, cdf 3)]) h k_X3 rfl rfl (by decide) (hF _ _ (by decide) (by decide)) co_X3_init ini_RX3 ml_X2_25 im_X3_init rfl ⟨by decide, by decide, by decide +kernel⟩ (by decide) rfl dX2_init_31 rfl (Nat.le_of_ble_eq_true rfl) ?_
  refine n_eq (B' := (.inr (2, [.ref (cA x + 1), .ref (cA x + 3), .null, .int 0, .int 0, .int 0]) :: ((bX6 (cC x) (cA x + 1) ++ bX1 (cC x) (cA x + 3)) ++ bX3 (cC x) (cA x + 15)))) rfl ?_
  refine n_put (pc := 34) (c := 2) (j := 2) h rfl (by decide) fl_X2_26 (by first | exact Or.inl rfl | exact Or.inr ⟨rfl, hI rfl, rfl⟩) (tyX2_ok 2 (by decide)) rfl rfl (Nat.le_of_ble_eq_true rfl) dX2_init_34 ?_
  refine n_eq (B' := (.inr (2, [.ref (cA x + 1), .ref (cA x + 3), .ref (cA x + 15), .int 0, .int 0, .int 0]) :: ((bX6 (cC x) (cA x + 1) ++ bX1 (cC x) (cA x + 3)) ++ bX3 (cC x) (cA x + 15)))) rfl ?_
  exact n_ret (pc := 37) h hE (by decide) (by decide) dX2_init_37
def bX0 (cs : Nat → ClassId) (a : Nat) : List va_E := (.inr (0, [.ref (a + 1), .int 0]) :: (((((((([.inl (cs 3, 8, .inr (.inr (.inr (.inr (fun i => some (a + 2 + 4 * i))))))] ++ bX3 (cs) (a + 2)) ++ bX3 (cs) (a + 6)) ++ bX3 (cs) (a + 10)) ++ bX3 (cs) (a + 14)) ++ bX3 (cs) (a + 18)) ++ bX3 (cs) (a + 22)) ++ bX3 (cs) (a + 26)) ++ bX3 (cs) (a + 30)))
theorem k_X0 {D : va_G} {cs : Nat → ClassId} {a : Nat} : cM yX0_init cX0_init 2 2 33 232 [.ref a] D cs a [.inr (0, cdf 0)] (bX0 cs a) := by
  refine cM_of (n := 1) (ls := [some (.ref a), none]) (by decide +kernel) (Nat.le_of_ble_eq_true rfl) rfl (fun x hA hC hD h hI hE hF => ?_)
  subst hA hC hD
  refine n_eq (B' := (.inr (0, [.null, .int 0]) :: [])) rfl ?_
  refine n_aload_n (pc := 0) h dX0_init_0 rfl ?_
  refine n_obj (pc := 1) h (by decide) ml_X0_3 dX0_init_1 ?_
  refine n_aload_n (pc := 4) h dX0_init_4 rfl ?_
  refine n_bipush (pc := 5) h dX0_init_5 (by decide) ?_
  refine n_newq (pc := 7) (t0 := 0) (C := RX3) (N' := 8) (L := 1) h (Or.inl rfl) (cT_of h (t0 := 3) rfl) cl_X0_9 (by decide) (by decide) (by decide) (hF _ _ (by decide) (by decide)) rfl dX0_init_7 ?_
  refine n_eq (B' := (.inr (0, [.null, .int 0]) :: [.inl (cC x 3, 8, .inr (.inr (.inr (.inr (fun _ => none)))))])) rfl ?_
  refine n_put (pc := 10) (c := 0) (j := 0) h rfl (by decide) fl_X0_11 (by first | exact Or.inl rfl | exact Or.inr ⟨rfl, hI rfl, rfl⟩) (tyX0_ok 0 (by decide)) rfl rfl (Nat.le_of_ble_eq_true rfl) dX0_init_10 ?_
  refine n_eq (B' := (.inr (0, [.ref (cA x + 1), .int 0]) :: [.inl (cC x 3, 8, .inr (.inr (.inr (.inr (fun _ => none)))))])) rfl ?_
  refine n_iconst (pc := 13) h dX0_init_13 ?_
  refine n_istore_nG (pc := 14) (v := 0) h dX0_init_14 (Nat.le_of_ble_eq_true rfl) (by decide) (ngh (i := 0) (w := .ref (cA x)) rfl rfl) ?_
  refine n_iload_n (pc := 15) h dX0_init_15 rfl ?_
  refine n_bipush (pc := 16) h dX0_init_16 (by decide) ?_
  refine n_icmp_ge (pc := 18) (tgt := 40) h (by decide) (by decide) dX0_init_18 rfl (fun c => absurd c (by decide)) (fun _ => ?_)
  refine n_aload_n (pc := 21) h dX0_init_21 rfl ?_
  refine n_get (pc := 22) (i := 0) (c := 0) (j := 0) h rfl rfl rfl (by decide) fl_X0_11 rfl dX0_init_22 ?_
  refine n_iload_n (pc := 25) h dX0_init_25 rfl ?_
  refine n_new (pc := 26) (c := 3) (L := 2) (fs := cdf 3) h tyX3 tyX3_ok cdf_3 rfl cl_X0_9 ot_instantiable_RX3_4 ini_RX3 (hF _ _ (by decide) (by decide)) rfl dX0_init_26 ?_
  refine n_eq (B' := (.inr (0, [.ref (cA x + 1), .int 0]) :: ([.inl (cC x 3, 8, .inr (.inr (.inr (.inr (fun _ => none)))))] ++ [.inr (3, cdf 3)]))) rfl ?_
  refine n_dup (pc := 29) h dX0_init_29 ?_
  refine n_call (pc := 30) (np := 0) (i := 2) (as := []) (st := [.ref (cA x + 2), zI (0), .ref (cA x + 1)]) (P := (.inr (0, [.ref (cA x + 1), .int 0]) :: [.inl (cC x 3, 8, .inr (.inr (.inr (.inr (fun _ => none)))))])) (B0 := [.inr (3, cdf 3)]) h k_X3 rfl rfl (by decide) (hF _ _ (by decide) (by decide)) co_X3_init ini_RX3 ml_X0_17 im_X3_init rfl ⟨by decide, by decide, by decide +kernel⟩ (by decide) rfl dX0_init_30 rfl (Nat.le_of_ble_eq_true rfl) ?_
  refine n_eq (B' := (.inr (0, [.ref (cA x + 1), .int 0]) :: ([.inl (cC x 3, 8, .inr (.inr (.inr (.inr (fun _ => none)))))] ++ bX3 (cC x) (cA x + 2)))) rfl ?_
  refine n_aast (pc := 33) (t0 := 0) (i := 1) (j := 2) (c := 3) h rfl (cT_of h (t0 := 3) rfl) rfl rfl rfl rfl (z_in (by decide) (by decide) (by decide)) dX0_init_33 ?_
  refine n_eq (B' := (.inr (0, [.ref (cA x + 1), .int 0]) :: ([.inl (cC x 3, 8, .inr (.inr (.inr (.inr (va_up (fun _ => none) 0 (some (cA x + 2)))))))] ++ bX3 (cC x) (cA x + 2)))) rfl ?_
  refine n_iincG (pc := 34) (a := 0) (n := 1) h dX0_init_34 rfl (by decide) (ngh (i := 0) (w := .ref (cA x)) rfl rfl) ?_
  refine n_goto (pc := 37) (tgt := 15) h dX0_init_37 rfl ?_
  refine n_iload_n (pc := 15) h dX0_init_15 rfl ?_
  refine n_bipush (pc := 16) h dX0_init_16 (by decide) ?_
  refine n_icmp_ge (pc := 18) (tgt := 40) h (by decide) (by decide) dX0_init_18 rfl (fun c => absurd c (by decide)) (fun _ => ?_)
  refine n_aload_n (pc := 21) h dX0_init_21 rfl ?_
  refine n_get (pc := 22) (i := 0) (c := 0) (j := 0) h rfl rfl rfl (by decide) fl_X0_11 rfl dX0_init_22 ?_
  refine n_iload_n (pc := 25) h dX0_init_25 rfl ?_
  refine n_new (pc := 26) (c := 3) (L := 6) (fs := cdf 3) h tyX3 tyX3_ok cdf_3 rfl cl_X0_9 ot_instantiable_RX3_4 ini_RX3 (hF _ _ (by decide) (by decide)) rfl dX0_init_26 ?_
  refine n_eq (B' := (.inr (0, [.ref (cA x + 1), .int 0]) :: (([.inl (cC x 3, 8, .inr (.inr (.inr (.inr (va_up (fun _ => none) 0 (some (cA x + 2)))))))] ++ bX3 (cC x) (cA x + 2)) ++ [.inr (3, cdf 3)]))) rfl ?_
  refine n_dup (pc := 29) h dX0_init_29 ?_
  refine n_call (pc := 30) (np := 0) (i := 6) (as := []) (st := [.ref (cA x + 6), zI (0 + 1), .ref (cA x + 1)]) (P := (.inr (0, [.ref (cA x + 1), .int 0]) :: ([.inl (cC x 3, 8, .inr (.inr (.inr (.inr (va_up (fun _ => none) 0 (some (cA x + 2)))))))] ++ bX3 (cC x) (cA x + 2)))) (B0 := [.inr (3, cdf 3)]) h k_X3 rfl rfl (by decide) (hF _ _ (by decide) (by decide)) co_X3_init ini_RX3 ml_X0_17 im_X3_init rfl ⟨by decide, by decide, by decide +kernel⟩ (by decide) rfl dX0_init_30 rfl (Nat.le_of_ble_eq_true rfl) ?_
  refine n_eq (B' := (.inr (0, [.ref (cA x + 1), .int 0]) :: (([.inl (cC x 3, 8, .inr (.inr (.inr (.inr (va_up (fun _ => none) 0 (some (cA x + 2)))))))] ++ bX3 (cC x) (cA x + 2)) ++ bX3 (cC x) (cA x + 6)))) rfl ?_
  refine n_aast (pc := 33) (t0 := 0) (i := 1) (j := 6) (c := 3) h rfl (cT_of h (t0 := 3) rfl) rfl rfl rfl rfl (z_in (by decide) (by decide) (by decide)) dX0_init_33 ?_
  refine n_eq (B' := (.inr (0, [.ref (cA x + 1), .int 0]) :: (([.inl (cC x 3, 8, .inr (.inr (.inr (.inr (va_up (va_up (fun _ => none) 0 (some (cA x + 2))) 1 (some (cA x + 6)))))))] ++ bX3 (cC x) (cA x + 2)) ++ bX3 (cC x) (cA x + 6)))) rfl ?_
  refine n_iincG (pc := 34) (a := 0 + 1) (n := 1) h dX0_init_34 rfl (by decide) (ngh (i := 0) (w := .ref (cA x)) rfl rfl) ?_
  refine n_goto (pc := 37) (tgt := 15) h dX0_init_37 rfl ?_
  refine n_iload_n (pc := 15) h dX0_init_15 rfl ?_
  refine n_bipush (pc := 16) h dX0_init_16 (by decide) ?_
  refine n_icmp_ge (pc := 18) (tgt := 40) h (by decide) (by decide) dX0_init_18 rfl (fun c => absurd c (by decide)) (fun _ => ?_)
  refine n_aload_n (pc := 21) h dX0_init_21 rfl ?_
  refine n_get (pc := 22) (i := 0) (c := 0) (j := 0) h rfl rfl rfl (by decide) fl_X0_11 rfl dX0_init_22 ?_
  refine n_iload_n (pc := 25) h dX0_init_25 rfl ?_
  refine n_new (pc := 26) (c := 3) (L := 10) (fs := cdf 3) h tyX3 tyX3_ok cdf_3 rfl cl_X0_9 ot_instantiable_RX3_4 ini_RX3 (hF _ _ (by decide) (by decide)) rfl dX0_init_26 ?_
  refine n_eq (B' := (.inr (0, [.ref (cA x + 1), .int 0]) :: ((([.inl (cC x 3, 8, .inr (.inr (.inr (.inr (va_up (va_up (fun _ => none) 0 (some (cA x + 2))) 1 (some (cA x + 6)))))))] ++ bX3 (cC x) (cA x + 2)) ++ bX3 (cC x) (cA x + 6)) ++ [.inr (3, cdf 3)]))) rfl ?_
  refine n_dup (pc := 29) h dX0_init_29 ?_
  refine n_call (pc := 30) (np := 0) (i := 10) (as := []) (st := [.ref (cA x + 10), zI (0 + 1 + 1), .ref (cA x + 1)]) (P := (.inr (0, [.ref (cA x + 1), .int 0]) :: (([.inl (cC x 3, 8, .inr (.inr (.inr (.inr (va_up (va_up (fun _ => none) 0 (some (cA x + 2))) 1 (some (cA x + 6)))))))] ++ bX3 (cC x) (cA x + 2)) ++ bX3 (cC x) (cA x + 6)))) (B0 := [.inr (3, cdf 3)]) h k_X3 rfl rfl (by decide) (hF _ _ (by decide) (by decide)) co_X3_init ini_RX3 ml_X0_17 im_X3_init rfl ⟨by decide, by decide, by decide +kernel⟩ (by decide) rfl dX0_init_30 rfl (Nat.le_of_ble_eq_true rfl) ?_
  refine n_eq (B' := (.inr (0, [.ref (cA x + 1), .int 0]) :: ((([.inl (cC x 3, 8, .inr (.inr (.inr (.inr (va_up (va_up (fun _ => none) 0 (some (cA x + 2))) 1 (some (cA x + 6)))))))] ++ bX3 (cC x) (cA x + 2)) ++ bX3 (cC x) (cA x + 6)) ++ bX3 (cC x) (cA x + 10)))) rfl ?_
  refine n_aast (pc := 33) (t0 := 0) (i := 1) (j := 10) (c := 3) h rfl (cT_of h (t0 := 3) rfl) rfl rfl rfl rfl (z_in (by decide) (by decide) (by decide)) dX0_init_33 ?_
  refine n_eq (B' := (.inr (0, [.ref (cA x + 1), .int 0]) :: ((([.inl (cC x 3, 8, .inr (.inr (.inr (.inr (va_up (va_up (va_up (fun _ => none) 0 (some (cA x + 2))) 1 (some (cA x + 6))) 2 (some (cA x + 10)))))))] ++ bX3 (cC x) (cA x + 2)) ++ bX3 (cC x) (cA x + 6)) ++ bX3 (cC x) (cA x + 10)))) rfl ?_
  refine n_iincG (pc := 34) (a := 0 + 1 + 1) (n := 1) h dX0_init_34 rfl (by decide) (ngh (i := 0) (w := .ref (cA x)) rfl rfl) ?_
  refine n_goto (pc := 37) (tgt := 15) h dX0_init_37 rfl ?_
  refine n_iload_n (pc := 15) h dX0_init_15 rfl ?_
  refine n_bipush (pc := 16) h dX0_init_16 (by decide) ?_
  refine n_icmp_ge (pc := 18) (tgt := 40) h (by decide) (by decide) dX0_init_18 rfl (fun c => absurd c (by decide)) (fun _ => ?_)
  refine n_aload_n (pc := 21) h dX0_init_21 rfl ?_
  refine n_get (pc := 22) (i := 0) (c := 0) (j := 0) h rfl rfl rfl (by decide) fl_X0_11 rfl dX0_init_22 ?_
  refine n_iload_n (pc := 25) h dX0_init_25 rfl ?_
  refine n_new (pc := 26) (c := 3) (L := 14) (fs := cdf 3) h tyX3 tyX3_ok cdf_3 rfl cl_X0_9 ot_instantiable_RX3_4 ini_RX3 (hF _ _ (by decide) (by decide)) rfl dX0_init_26 ?_
  refine n_eq (B' := (.inr (0, [.ref (cA x + 1), .int 0]) :: (((([.inl (cC x 3, 8, .inr (.inr (.inr (.inr (va_up (va_up (va_up (fun _ => none) 0 (some (cA x + 2))) 1 (some (cA x + 6))) 2 (some (cA x + 10)))))))] ++ bX3 (cC x) (cA x + 2)) ++ bX3 (cC x) (cA x + 6)) ++ bX3 (cC x) (cA x + 10)) ++ [.inr (3, cdf 3)]))) rfl ?_
  refine n_dup (pc := 29) h dX0_init_29 ?_
  refine n_call (pc := 30) (np := 0) (i := 14) (as := []) (st := [.ref (cA x + 14), zI (0 + 1 + 1 + 1), .ref (cA x + 1)]) (P := (.inr (0, [.ref (cA x + 1), .int 0]) :: ((([.inl (cC x 3, 8, .inr (.inr (.inr (.inr (va_up (va_up (va_up (fun _ => none) 0 (some (cA x + 2))) 1 (some (cA x + 6))) 2 (some (cA x + 10)))))))] ++ bX3 (cC x) (cA x + 2)) ++ bX3 (cC x) (cA x + 6)) ++ bX3 (cC x) (cA x + 10)))) (B0 := [.inr (3, cdf 3)]) h k_X3 rfl rfl (by decide) (hF _ _ (by decide) (by decide)) co_X3_init ini_RX3 ml_X0_17 im_X3_init rfl ⟨by decide, by decide, by decide +kernel⟩ (by decide) rfl dX0_init_30 rfl (Nat.le_of_ble_eq_true rfl) ?_
  refine n_eq (B' := (.inr (0, [.ref (cA x + 1), .int 0]) :: (((([.inl (cC x 3, 8, .inr (.inr (.inr (.inr (va_up (va_up (va_up (fun _ => none) 0 (some (cA x + 2))) 1 (some (cA x + 6))) 2 (some (cA x + 10)))))))] ++ bX3 (cC x) (cA x + 2)) ++ bX3 (cC x) (cA x + 6)) ++ bX3 (cC x) (cA x + 10)) ++ bX3 (cC x) (cA x + 14)))) rfl ?_
  refine n_aast (pc := 33) (t0 := 0) (i := 1) (j := 14) (c := 3) h rfl (cT_of h (t0 := 3) rfl) rfl rfl rfl rfl (z_in (by decide) (by decide) (by decide)) dX0_init_33 ?_
  refine n_eq (B' := (.inr (0, [.ref (cA x + 1), .int 0]) :: (((([.inl (cC x 3, 8, .inr (.inr (.inr (.inr (va_up (va_up (va_up (va_up (fun _ => none) 0 (some (cA x + 2))) 1 (some (cA x + 6))) 2 (some (cA x + 10))) 3 (some (cA x + 14)))))))] ++ bX3 (cC x) (cA x + 2)) ++ bX3 (cC x) (cA x + 6)) ++ bX3 (cC x) (cA x + 10)) ++ bX3 (cC x) (cA x + 14)))) rfl ?_
  refine n_iincG (pc := 34) (a := 0 + 1 + 1 + 1) (n := 1) h dX0_init_34 rfl (by decide) (ngh (i := 0) (w := .ref (cA x)) rfl rfl) ?_
  refine n_goto (pc := 37) (tgt := 15) h dX0_init_37 rfl ?_
  refine n_iload_n (pc := 15) h dX0_init_15 rfl ?_
  refine n_bipush (pc := 16) h dX0_init_16 (by decide) ?_
  refine n_icmp_ge (pc := 18) (tgt := 40) h (by decide) (by decide) dX0_init_18 rfl (fun c => absurd c (by decide)) (fun _ => ?_)
  refine n_aload_n (pc := 21) h dX0_init_21 rfl ?_
  refine n_get (pc := 22) (i := 0) (c := 0) (j := 0) h rfl rfl rfl (by decide) fl_X0_11 rfl dX0_init_22 ?_
  refine n_iload_n (pc := 25) h dX0_init_25 rfl ?_
  refine n_new (pc := 26) (c := 3) (L := 18) (fs := cdf 3) h tyX3 tyX3_ok cdf_3 rfl cl_X0_9 ot_instantiable_RX3_4 ini_RX3 (hF _ _ (by decide) (by decide)) rfl dX0_init_26 ?_
  refine n_eq (B' := (.inr (0, [.ref (cA x + 1), .int 0]) :: ((((([.inl (cC x 3, 8, .inr (.inr (.inr (.inr (va_up (va_up (va_up (va_up (fun _ => none) 0 (some (cA x + 2))) 1 (some (cA x + 6))) 2 (some (cA x + 10))) 3 (some (cA x + 14)))))))] ++ bX3 (cC x) (cA x + 2)) ++ bX3 (cC x) (cA x + 6)) ++ bX3 (cC x) (cA x + 10)) ++ bX3 (cC x) (cA x + 14)) ++ [.inr (3, cdf 3)]))) rfl ?_
  refine n_dup (pc := 29) h dX0_init_29 ?_
  refine n_call (pc := 30) (np := 0) (i := 18) (as := []) (st := [.ref (cA x + 18), zI (0 + 1 + 1 + 1 + 1), .ref (cA x + 1)]) (P := (.inr (0, [.ref (cA x + 1), .int 0]) :: (((([.inl (cC x 3, 8, .inr (.inr (.inr (.inr (va_up (va_up (va_up (va_up (fun _ => none) 0 (some (cA x + 2))) 1 (some (cA x + 6))) 2 (some (cA x + 10))) 3 (some (cA x + 14)))))))] ++ bX3 (cC x) (cA x + 2)) ++ bX3 (cC x) (cA x + 6)) ++ bX3 (cC x) (cA x + 10)) ++ bX3 (cC x) (cA x + 14)))) (B0 := [.inr (3, cdf 3)]) h k_X3 rfl rfl (by decide) (hF _ _ (by decide) (by decide)) co_X3_init ini_RX3 ml_X0_17 im_X3_init rfl ⟨by decide, by decide, by decide +kernel⟩ (by decide) rfl dX0_init_30 rfl (Nat.le_of_ble_eq_true rfl) ?_
  refine n_eq (B' := (.inr (0, [.ref (cA x + 1), .int 0]) :: ((((([.inl (cC x 3, 8, .inr (.inr (.inr (.inr (va_up (va_up (va_up (va_up (fun _ => none) 0 (some (cA x + 2))) 1 (some (cA x + 6))) 2 (some (cA x + 10))) 3 (some (cA x + 14)))))))] ++ bX3 (cC x) (cA x + 2)) ++ bX3 (cC x) (cA x + 6)) ++ bX3 (cC x) (cA x + 10)) ++ bX3 (cC x) (cA x + 14)) ++ bX3 (cC x) (cA x + 18)))) rfl ?_
  refine n_aast (pc := 33) (t0 := 0) (i := 1) (j := 18) (c := 3) h rfl (cT_of h (t0 := 3) rfl) rfl rfl rfl rfl (z_in (by decide) (by decide) (by decide)) dX0_init_33 ?_
  refine n_eq (B' := (.inr (0, [.ref (cA x + 1), .int 0]) :: ((((([.inl (cC x 3, 8, .inr (.inr (.inr (.inr (va_up (va_up (va_up (va_up (va_up (fun _ => none) 0 (some (cA x + 2))) 1 (some (cA x + 6))) 2 (some (cA x + 10))) 3 (some (cA x + 14))) 4 (some (cA x + 18)))))))] ++ bX3 (cC x) (cA x + 2)) ++ bX3 (cC x) (cA x + 6)) ++ bX3 (cC x) (cA x + 10)) ++ bX3 (cC x) (cA x + 14)) ++ bX3 (cC x) (cA x + 18)))) rfl ?_
  refine n_iincG (pc := 34) (a := 0 + 1 + 1 + 1 + 1) (n := 1) h dX0_init_34 rfl (by decide) (ngh (i := 0) (w := .ref (cA x)) rfl rfl) ?_
  refine n_goto (pc := 37) (tgt := 15) h dX0_init_37 rfl ?_
  refine n_iload_n (pc := 15) h dX0_init_15 rfl ?_
  refine n_bipush (pc := 16) h dX0_init_16 (by decide) ?_
  refine n_icmp_ge (pc := 18) (tgt := 40) h (by decide) (by decide) dX0_init_18 rfl (fun c => absurd c (by decide)) (fun _ => ?_)
  refine n_aload_n (pc := 21) h dX0_init_21 rfl ?_
  refine n_get (pc := 22) (i := 0) (c := 0) (j := 0) h rfl rfl rfl (by decide) fl_X0_11 rfl dX0_init_22 ?_
  refine n_iload_n (pc := 25) h dX0_init_25 rfl ?_
  refine n_new (pc := 26) (c := 3) (L := 22) (fs := cdf 3) h tyX3 tyX3_ok cdf_3 rfl cl_X0_9 ot_instantiable_RX3_4 ini_RX3 (hF _ _ (by decide) (by decide)) rfl dX0_init_26 ?_
  refine n_eq (B' := (.inr (0, [.ref (cA x + 1), .int 0]) :: (((((([.inl (cC x 3, 8, .inr (.inr (.inr (.inr (va_up (va_up (va_up (va_up (va_up (fun _ => none) 0 (some (cA x + 2))) 1 (some (cA x + 6))) 2 (some (cA x + 10))) 3 (some (cA x + 14))) 4 (some (cA x + 18)))))))] ++ bX3 (cC x) (cA x + 2)) ++ bX3 (cC x) (cA x + 6)) ++ bX3 (cC x) (cA x + 10)) ++ bX3 (cC x) (cA x + 14)) ++ bX3 (cC x) (cA x + 18)) ++ [.inr (3, cdf 3)]))) rfl ?_
  refine n_dup (pc := 29) h dX0_init_29 ?_
  refine n_call (pc := 30) (np := 0) (i := 22) (as := []) (st := [.ref (cA x + 22), zI (0 + 1 + 1 + 1 + 1 + 1), .ref (cA x + 1)]) (P := (.inr (0, [.ref (cA x + 1), .int 0]) :: ((((([.inl (cC x 3, 8, .inr (.inr (.inr (.inr (va_up (va_up (va_up (va_up (va_up (fun _ => none) 0 (some (cA x + 2))) 1 (some (cA x + 6))) 2 (some (cA x + 10))) 3 (some (cA x + 14))) 4 (some (cA x + 18)))))))] ++ bX3 (cC x) (cA x + 2)) ++ bX3 (cC x) (cA x + 6)) ++ bX3 (cC x) (cA x + 10)) ++ bX3 (cC x) (cA x + 14)) ++ bX3 (cC x) (cA x + 18)))) (B0 := [.inr (3, cdf 3)]) h k_X3 rfl rfl (by decide) (hF _ _ (by decide) (by decide)) co_X3_init ini_RX3 ml_X0_17 im_X3_init rfl ⟨by decide, by decide, by decide +kernel⟩ (by decide) rfl dX0_init_30 rfl (Nat.le_of_ble_eq_true rfl) ?_
  refine n_eq (B' := (.inr (0, [.ref (cA x + 1), .int 0]) :: (((((([.inl (cC x 3, 8, .inr (.inr (.inr (.inr (va_up (va_up (va_up (va_up (va_up (fun _ => none) 0 (some (cA x + 2))) 1 (some (cA x + 6))) 2 (some (cA x + 10))) 3 (some (cA x + 14))) 4 (some (cA x + 18)))))))] ++ bX3 (cC x) (cA x + 2)) ++ bX3 (cC x) (cA x + 6)) ++ bX3 (cC x) (cA x + 10)) ++ bX3 (cC x) (cA x + 14)) ++ bX3 (cC x) (cA x + 18)) ++ bX3 (cC x) (cA x + 22)))) rfl ?_
  refine n_aast (pc := 33) (t0 := 0) (i := 1) (j := 22) (c := 3) h rfl (cT_of h (t0 := 3) rfl) rfl rfl rfl rfl (z_in (by decide) (by decide) (by decide)) dX0_init_33 ?_
  refine n_eq (B' := (.inr (0, [.ref (cA x + 1), .int 0]) :: (((((([.inl (cC x 3, 8, .inr (.inr (.inr (.inr (va_up (va_up (va_up (va_up (va_up (va_up (fun _ => none) 0 (some (cA x + 2))) 1 (some (cA x + 6))) 2 (some (cA x + 10))) 3 (some (cA x + 14))) 4 (some (cA x + 18))) 5 (some (cA x + 22)))))))] ++ bX3 (cC x) (cA x + 2)) ++ bX3 (cC x) (cA x + 6)) ++ bX3 (cC x) (cA x + 10)) ++ bX3 (cC x) (cA x + 14)) ++ bX3 (cC x) (cA x + 18)) ++ bX3 (cC x) (cA x + 22)))) rfl ?_
  refine n_iincG (pc := 34) (a := 0 + 1 + 1 + 1 + 1 + 1) (n := 1) h dX0_init_34 rfl (by decide) (ngh (i := 0) (w := .ref (cA x)) rfl rfl) ?_
  refine n_goto (pc := 37) (tgt := 15) h dX0_init_37 rfl ?_
  refine n_iload_n (pc := 15) h dX0_init_15 rfl ?_
  refine n_bipush (pc := 16) h dX0_init_16 (by decide) ?_
  refine n_icmp_ge (pc := 18) (tgt := 40) h (by decide) (by decide) dX0_init_18 rfl (fun c => absurd c (by decide)) (fun _ => ?_)
  refine n_aload_n (pc := 21) h dX0_init_21 rfl ?_
  refine n_get (pc := 22) (i := 0) (c := 0) (j := 0) h rfl rfl rfl (by decide) fl_X0_11 rfl dX0_init_22 ?_
  refine n_iload_n (pc := 25) h dX0_init_25 rfl ?_
  refine n_new (pc := 26) (c := 3) (L := 26) (fs := cdf 3) h tyX3 tyX3_ok cdf_3 rfl cl_X0_9 ot_instantiable_RX3_4 ini_RX3 (hF _ _ (by decide) (by decide)) rfl dX0_init_26 ?_
  refine n_eq (B' := (.inr (0, [.ref (cA x + 1), .int 0]) :: ((((((([.inl (cC x 3, 8, .inr (.inr (.inr (.inr (va_up (va_up (va_up (va_up (va_up (va_up (fun _ => none) 0 (some (cA x + 2))) 1 (some (cA x + 6))) 2 (some (cA x + 10))) 3 (some (cA x + 14))) 4 (some (cA x + 18))) 5 (some (cA x + 22)))))))] ++ bX3 (cC x) (cA x + 2)) ++ bX3 (cC x) (cA x + 6)) ++ bX3 (cC x) (cA x + 10)) ++ bX3 (cC x) (cA x + 14)) ++ bX3 (cC x) (cA x + 18)) ++ bX3 (cC x) (cA x + 22)) ++ [.inr (3, cdf 3)]))) rfl ?_
  refine n_dup (pc := 29) h dX0_init_29 ?_
  refine n_call (pc := 30) (np := 0) (i := 26) (as := []) (st := [.ref (cA x + 26), zI (0 + 1 + 1 + 1 + 1 + 1 + 1), .ref (cA x + 1)]) (P := (.inr (0, [.ref (cA x + 1), .int 0]) :: (((((([.inl (cC x 3, 8, .inr (.inr (.inr (.inr (va_up (va_up (va_up (va_up (va_up (va_up (fun _ => none) 0 (some (cA x + 2))) 1 (some (cA x + 6))) 2 (some (cA x + 10))) 3 (some (cA x + 14))) 4 (some (cA x + 18))) 5 (some (cA x + 22)))))))] ++ bX3 (cC x) (cA x + 2)) ++ bX3 (cC x) (cA x + 6)) ++ bX3 (cC x) (cA x + 10)) ++ bX3 (cC x) (cA x + 14)) ++ bX3 (cC x) (cA x + 18)) ++ bX3 (cC x) (cA x + 22)))) (B0 := [.inr (3, cdf 3)]) h k_X3 rfl rfl (by decide) (hF _ _ (by decide) (by decide)) co_X3_init ini_RX3 ml_X0_17 im_X3_init rfl ⟨by decide, by decide, by decide +kernel⟩ (by decide) rfl dX0_init_30 rfl (Nat.le_of_ble_eq_true rfl) ?_
  refine n_eq (B' := (.inr (0, [.ref (cA x + 1), .int 0]) :: ((((((([.inl (cC x 3, 8, .inr (.inr (.inr (.inr (va_up (va_up (va_up (va_up (va_up (va_up (fun _ => none) 0 (some (cA x + 2))) 1 (some (cA x + 6))) 2 (some (cA x + 10))) 3 (some (cA x + 14))) 4 (some (cA x + 18))) 5 (some (cA x + 22)))))))] ++ bX3 (cC x) (cA x + 2)) ++ bX3 (cC x) (cA x + 6)) ++ bX3 (cC x) (cA x + 10)) ++ bX3 (cC x) (cA x + 14)) ++ bX3 (cC x) (cA x + 18)) ++ bX3 (cC x) (cA x + 22)) ++ bX3 (cC x) (cA x + 26)))) rfl ?_
  refine n_aast (pc := 33) (t0 := 0) (i := 1) (j := 26) (c := 3) h rfl (cT_of h (t0 := 3) rfl) rfl rfl rfl rfl (z_in (by decide) (by decide) (by decide)) dX0_init_33 ?_
  refine n_eq (B' := (.inr (0, [.ref (cA x + 1), .int 0]) :: ((((((([.inl (cC x 3, 8, .inr (.inr (.inr (.inr (va_up (va_up (va_up (va_up (va_up (va_up (va_up (fun _ => none) 0 (some (cA x + 2))) 1 (some (cA x + 6))) 2 (some (cA x + 10))) 3 (some (cA x + 14))) 4 (some (cA x + 18))) 5 (some (cA x + 22))) 6 (some (cA x + 26)))))))] ++ bX3 (cC x) (cA x + 2)) ++ bX3 (cC x) (cA x + 6)) ++ bX3 (cC x) (cA x + 10)) ++ bX3 (cC x) (cA x + 14)) ++ bX3 (cC x) (cA x + 18)) ++ bX3 (cC x) (cA x + 22)) ++ bX3 (cC x) (cA x + 26)))) rfl ?_
  refine n_iincG (pc := 34) (a := 0 + 1 + 1 + 1 + 1 + 1 + 1) (n := 1) h dX0_init_34 rfl (by decide) (ngh (i := 0) (w := .ref (cA x)) rfl rfl) ?_
  refine n_goto (pc := 37) (tgt := 15) h dX0_init_37 rfl ?_
  refine n_iload_n (pc := 15) h dX0_init_15 rfl ?_
  refine n_bipush (pc := 16) h dX0_init_16 (by decide) ?_
  refine n_icmp_ge (pc := 18) (tgt := 40) h (by decide) (by decide) dX0_init_18 rfl (fun c => absurd c (by decide)) (fun _ => ?_)
  refine n_aload_n (pc := 21) h dX0_init_21 rfl ?_
  refine n_get (pc := 22) (i := 0) (c := 0) (j := 0) h rfl rfl rfl (by decide) fl_X0_11 rfl dX0_init_22 ?_
  refine n_iload_n (pc := 25) h dX0_init_25 rfl ?_
  refine n_new (pc := 26) (c := 3) (L := 30) (fs := cdf 3) h tyX3 tyX3_ok cdf_3 rfl cl_X0_9 ot_instantiable_RX3_4 ini_RX3 (hF _ _ (by decide) (by decide)) rfl dX0_init_26 ?_
  refine n_eq (B' := (.inr (0, [.ref (cA x + 1), .int 0]) :: (((((((([.inl (cC x 3, 8, .inr (.inr (.inr (.inr (va_up (va_up (va_up (va_up (va_up (va_up (va_up (fun _ => none) 0 (some (cA x + 2))) 1 (some (cA x + 6))) 2 (some (cA x + 10))) 3 (some (cA x + 14))) 4 (some (cA x + 18))) 5 (some (cA x + 22))) 6 (some (cA x + 26)))))))] ++ bX3 (cC x) (cA x + 2)) ++ bX3 (cC x) (cA x + 6)) ++ bX3 (cC x) (cA x + 10)) ++ bX3 (cC x) (cA x + 14)) ++ bX3 (cC x) (cA x + 18)) ++ bX3 (cC x) (cA x + 22)) ++ bX3 (cC x) (cA x + 26)) ++ [.inr (3, cdf 3)]))) rfl ?_
  refine n_dup (pc := 29) h dX0_init_29 ?_
  refine n_call (pc := 30) (np := 0) (i := 30) (as := []) (st := [.ref (cA x + 30), zI (0 + 1 + 1 + 1 + 1 + 1 + 1 + 1), .ref (cA x + 1)]) (P := (.inr (0, [.ref (cA x + 1), .int 0]) :: ((((((([.inl (cC x 3, 8, .inr (.inr (.inr (.inr (va_up (va_up (va_up (va_up (va_up (va_up (va_up (fun _ => none) 0 (some (cA x + 2))) 1 (some (cA x + 6))) 2 (some (cA x + 10))) 3 (some (cA x + 14))) 4 (some (cA x + 18))) 5 (some (cA x + 22))) 6 (some (cA x + 26)))))))] ++ bX3 (cC x) (cA x + 2)) ++ bX3 (cC x) (cA x + 6)) ++ bX3 (cC x) (cA x + 10)) ++ bX3 (cC x) (cA x + 14)) ++ bX3 (cC x) (cA x + 18)) ++ bX3 (cC x) (cA x + 22)) ++ bX3 (cC x) (cA x + 26)))) (B0 := [.inr (3, cdf 3)]) h k_X3 rfl rfl (by decide) (hF _ _ (by decide) (by decide)) co_X3_init ini_RX3 ml_X0_17 im_X3_init rfl ⟨by decide, by decide, by decide +kernel⟩ (by decide) rfl dX0_init_30 rfl (Nat.le_of_ble_eq_true rfl) ?_
  refine n_eq (B' := (.inr (0, [.ref (cA x + 1), .int 0]) :: (((((((([.inl (cC x 3, 8, .inr (.inr (.inr (.inr (va_up (va_up (va_up (va_up (va_up (va_up (va_up (fun _ => none) 0 (some (cA x + 2))) 1 (some (cA x + 6))) 2 (some (cA x + 10))) 3 (some (cA x + 14))) 4 (some (cA x + 18))) 5 (some (cA x + 22))) 6 (some (cA x + 26)))))))] ++ bX3 (cC x) (cA x + 2)) ++ bX3 (cC x) (cA x + 6)) ++ bX3 (cC x) (cA x + 10)) ++ bX3 (cC x) (cA x + 14)) ++ bX3 (cC x) (cA x + 18)) ++ bX3 (cC x) (cA x + 22)) ++ bX3 (cC x) (cA x + 26)) ++ bX3 (cC x) (cA x + 30)))) rfl ?_
  refine n_aast (pc := 33) (t0 := 0) (i := 1) (j := 30) (c := 3) h rfl (cT_of h (t0 := 3) rfl) rfl rfl rfl rfl (z_in (by decide) (by decide) (by decide)) dX0_init_33 ?_
  refine n_eq (B' := (.inr (0, [.ref (cA x + 1), .int 0]) :: (((((((([.inl (cC x 3, 8, .inr (.inr (.inr (.inr (va_up (va_up (va_up (va_up (va_up (va_up (va_up (va_up (fun _ => none) 0 (some (cA x + 2))) 1 (some (cA x + 6))) 2 (some (cA x + 10))) 3 (some (cA x + 14))) 4 (some (cA x + 18))) 5 (some (cA x + 22))) 6 (some (cA x + 26))) 7 (some (cA x + 30)))))))] ++ bX3 (cC x) (cA x + 2)) ++ bX3 (cC x) (cA x + 6)) ++ bX3 (cC x) (cA x + 10)) ++ bX3 (cC x) (cA x + 14)) ++ bX3 (cC x) (cA x + 18)) ++ bX3 (cC x) (cA x + 22)) ++ bX3 (cC x) (cA x + 26)) ++ bX3 (cC x) (cA x + 30)))) rfl ?_
  refine n_iincG (pc := 34) (a := 0 + 1 + 1 + 1 + 1 + 1 + 1 + 1) (n := 1) h dX0_init_34 rfl (by decide) (ngh (i := 0) (w := .ref (cA x)) rfl rfl) ?_
  refine n_goto (pc := 37) (tgt := 15) h dX0_init_37 rfl ?_
  refine n_iload_n (pc := 15) h dX0_init_15 rfl ?_
  refine n_bipush (pc := 16) h dX0_init_16 (by decide) ?_
  refine n_icmp_ge (pc := 18) (tgt := 40) h (by decide) (by decide) dX0_init_18 rfl (fun _ => ?_) (fun c => absurd c (by decide))
  have hg : ∀ i, i < 8 → (va_up (va_up (va_up (va_up (va_up (va_up (va_up (va_up (fun _ => none) 0 (some (cA x + 2))) 1 (some (cA x + 6))) 2 (some (cA x + 10))) 3 (some (cA x + 14))) 4 (some (cA x + 18))) 5 (some (cA x + 22))) 6 (some (cA x + 26))) 7 (some (cA x + 30))) i = (fun i => some (cA x + 2 + 4 * i)) i
    | 0, _ => rfl
    | 1, _ => rfl
    | 2, _ => rfl
    | 3, _ => rfl
    | 4, _ => rfl
    | 5, _ => rfl
    | 6, _ => rfl
    | 7, _ => rfl
    | _ + 8, hh => absurd hh (by omega)
  refine n_conv (B' := (.inr (0, [.ref (cA x + 1), .int 0]) :: (((((((([.inl (cC x 3, 8, .inr (.inr (.inr (.inr (fun i => some (cA x + 2 + 4 * i))))))] ++ bX3 (cC x) (cA x + 2)) ++ bX3 (cC x) (cA x + 6)) ++ bX3 (cC x) (cA x + 10)) ++ bX3 (cC x) (cA x + 14)) ++ bX3 (cC x) (cA x + 18)) ++ bX3 (cC x) (cA x + 22)) ++ bX3 (cC x) (cA x + 26)) ++ bX3 (cC x) (cA x + 30)))) (fun H hP => by have hh := hP.arq (i := 1) rfl hg; exact hh) ?_
  exact n_ret (pc := 40) h hE (by decide) (by decide) dX0_init_40
