/-! door, truck, carton where they throw -/
theorem yF0 (x : zX) : yF x 0 0 := by
  obtain ⟨p, l, e, R, s, m, args, below, meth, cd, D, ad, cs⟩ := x
  exact ⟨Nat.zero_le _, Nat.zero_le _⟩
theorem t_door {σ : zS} {d w : Int} (hd : zin d) (hw : zin w) (h0 : ¬ ((0 ≤ d ∧ d < zsc σ 4 0) ∧ 0 ≤ w ∧ w ≤ 4)) : zCt M_X7_door 6 [zR 0, zI d, zI w] σ := by
  refine zCt_of (M := M_X7_door) (ls := [some (zR 0), some (zI d), some (zI w)]) (n := 0) (Nat.le_refl 6) (by decide) (fun ad => Nat.le_of_ble_eq_true rfl) rfl (fun x h hT => ?_)
  refine y_aload_n (pc := 0) h dX7_door_0 rfl ?_
  refine y_getR (o := 0) (pc := 1) (c := 7) (j := 2) (o2 := 4) h rfl rfl rfl rfl fl_X7_28 dX7_door_1 ?_
  refine y_iload_n (pc := 4) h dX7_door_4 rfl ?_
  refine y_callV (pc := 5) (c := 1) h (yE_of hT) (yF0 x) (m_X1_hasDoor (o := 4) rfl hd) (by decide) rfl rfl mv_X1_hasDoor ml_X7_210 rfl dX7_door_5 rfl (Nat.le_of_ble_eq_true rfl) (fun r τ q => ?_)
  obtain ⟨rfl, rfl⟩ := q
  refine y_ifneB (pc := 8) (tgt := 21) h dX7_door_8 (by decide) (fun c8 => ?_) (fun c8 => ?_)
  · have c9 := of_decide_eq_true c8
    refine y_iload_n (pc := 21) h dX7_door_21 rfl ?_
    refine y_tswOut (pc := 22) (tgt := 103) h dX7_door_22 hw (by omega) (by decide) ?_
    exact y_throwS (i := 1) h hT (by decide) dX7_door_103 dX7_door_106 dX7_door_107 dX7_door_109 dX7_door_112
  · exact y_throwS (i := 0) h hT (by decide) dX7_door_11 dX7_door_14 dX7_door_15 dX7_door_17 dX7_door_20
theorem t_carton {σ : zS} {d w : Int} (hd : zin d) (hw : zin w) (h0 : ¬ ((0 ≤ d ∧ d < zsc σ 4 2) ∧ 0 ≤ w ∧ w ≤ 5)) : zCt M_X7_carton 6 [zR 0, zI d, zI w] σ := by
  refine zCt_of (M := M_X7_carton) (ls := [some (zR 0), some (zI d), some (zI w)]) (n := 0) (Nat.le_refl 6) (by decide) (fun ad => Nat.le_of_ble_eq_true rfl) rfl (fun x h hT => ?_)
  refine y_aload_n (pc := 0) h dX7_carton_0 rfl ?_
  refine y_getR (o := 0) (pc := 1) (c := 7) (j := 2) (o2 := 4) h rfl rfl rfl rfl fl_X7_28 dX7_carton_1 ?_
  refine y_iload_n (pc := 4) h dX7_carton_4 rfl ?_
  refine y_callV (pc := 5) (c := 1) h (yE_of hT) (yF0 x) (m_X1_hasCarton (o := 4) rfl hd) (by decide) rfl rfl mv_X1_hasCarton ml_X7_283 rfl dX7_carton_5 rfl (Nat.le_of_ble_eq_true rfl) (fun r τ q => ?_)
  obtain ⟨rfl, rfl⟩ := q
  refine y_ifneB (pc := 8) (tgt := 22) h dX7_carton_8 (by decide) (fun c8 => ?_) (fun c8 => ?_)
  · have c9 := of_decide_eq_true c8
    refine y_iload_n (pc := 22) h dX7_carton_22 rfl ?_
    refine y_tswOut (pc := 23) (tgt := 120) h dX7_carton_23 hw (by omega) (by decide) ?_
    exact y_throwSW (i := 5) h hT (by decide) dX7_carton_120 dX7_carton_123 dX7_carton_124 dX7_carton_127 dX7_carton_130
  · exact y_throwSW (i := 4) h hT (by decide) dX7_carton_11 dX7_carton_14 dX7_carton_15 dX7_carton_18 dX7_carton_21
theorem t_truck {σ : zS} {d w : Int} (hd : zin d) (hw : zin w) (h0 : ¬ ((0 ≤ d ∧ d < zsc σ 4 1) ∧ (0 ≤ w ∧ w ≤ 12 ∨ 20 ≤ w ∧ w ≤ 23))) : zCt M_X7_truck 6 [zR 0, zI d, zI w] σ := by
  refine zCt_of (M := M_X7_truck) (ls := [some (zR 0), some (zI d), some (zI w), none]) (n := 1) (Nat.le_refl 6) (by decide) (fun ad => Nat.le_of_ble_eq_true rfl) rfl (fun x h hT => ?_)
  refine y_aload_n (pc := 0) h dX7_truck_0 rfl ?_
  refine y_getR (o := 0) (pc := 1) (c := 7) (j := 2) (o2 := 4) h rfl rfl rfl rfl fl_X7_28 dX7_truck_1 ?_
  refine y_iload_n (pc := 4) h dX7_truck_4 rfl ?_
  refine y_callV (pc := 5) (c := 1) h (yE_of hT) (yF0 x) (m_X1_hasTruck (o := 4) rfl hd) (by decide) rfl rfl mv_X1_hasTruck ml_X7_240 rfl dX7_truck_5 rfl (Nat.le_of_ble_eq_true rfl) (fun r τ q => ?_)
  obtain ⟨rfl, rfl⟩ := q
  refine y_ifneB (pc := 8) (tgt := 21) h dX7_truck_8 (by decide) (fun c8 => ?_) (fun c8 => ?_)
  · have c9 := of_decide_eq_true c8
    refine y_iload_n (pc := 21) h dX7_truck_21 rfl ?_
    refine y_tswOut (pc := 22) (tgt := 221) h dX7_truck_22 hw (by omega) (by decide) ?_
    refine y_iload_n (pc := 221) h dX7_truck_221 rfl ?_
    refine y_bipush (pc := 222) h dX7_truck_222 (by decide) ?_
    refine y_icmp_ge (pc := 224) (tgt := 231) h hw (by decide) dX7_truck_224 (by decide) (fun c224 => ?_) (fun c224 => ?_)
    · refine y_iload_n (pc := 231) h dX7_truck_231 rfl ?_
      refine y_bipush (pc := 232) h dX7_truck_232 (by decide) ?_
      refine y_isub (pc := 234) h dX7_truck_234 ?_
      refine y_ist_3 (pc := 235) h dX7_truck_235 (by decide) rfl ?_
      refine y_iload_n (pc := 236) h dX7_truck_236 rfl ?_
      refine y_if_lt (pc := 237) (tgt := 245) h (by omega) dX7_truck_237 (by decide) (fun c237 => by omega) (fun c237 => ?_)
      refine y_iload_n (pc := 240) h dX7_truck_240 rfl ?_
      refine y_iconst (pc := 241) h dX7_truck_241 ?_
      refine y_icmp_lt (pc := 242) (tgt := 256) h (by omega) (by decide) dX7_truck_242 (by decide) (fun c242 => by omega) (fun c242 => ?_)
      exact y_throwSW (i := 3) h hT (by decide) dX7_truck_245 dX7_truck_248 dX7_truck_249 dX7_truck_252 dX7_truck_255
    · refine y_iconst (pc := 227) h dX7_truck_227 ?_
      refine y_goto (pc := 228) (tgt := 235) h dX7_truck_228 (by decide) ?_
      refine y_ist_3 (pc := 235) h dX7_truck_235 (by decide) rfl ?_
      refine y_iload_n (pc := 236) h dX7_truck_236 rfl ?_
      refine y_if_lt (pc := 237) (tgt := 245) h (by decide) dX7_truck_237 (by decide) (fun c237 => ?_) (fun c237 => absurd c237 (by decide))
      exact y_throwSW (i := 3) h hT (by decide) dX7_truck_245 dX7_truck_248 dX7_truck_249 dX7_truck_252 dX7_truck_255
  · exact y_throwS (i := 2) h hT (by decide) dX7_truck_11 dX7_truck_14 dX7_truck_15 dX7_truck_17 dX7_truck_20
