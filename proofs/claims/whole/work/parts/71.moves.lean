/-! How many moves, how many swaps: the model and the class. -/
def mn_k (T : T3) (t d k n : Int) : Int := if mvT T t d k = 0 then n + 1 else n
def mn_d (T : T3) (t d n : Int) : Int := zfor (mn_k T t d) 8 n
def mn_t (T : T3) (t n : Int) : Int := zfor (mn_d T t) (T.2.2 0) n
def mvN (T : T3) : Int := zfor (mn_t T) (T.2.2 1) 0
def sn_u (T : T3) (t u n : Int) : Int := if t < u then (if swT T t u = 0 then n + 1 else n) else n
def sn_t (T : T3) (t n : Int) : Int := zfor (sn_u T t) (T.2.2 1) n
def swN (T : T3) : Int := zfor (sn_t T) (T.2.2 1) 0
theorem zfor_le {f : Int → Int → Int} {n c a : Int} (hn : 0 ≤ n) (h : ∀ i b, 0 ≤ i → i < n → b ≤ f i b ∧ f i b ≤ b + c) (hc : 0 ≤ c) : a ≤ zfor f n a ∧ zfor f n a ≤ a + c * n := by
  refine zfor_ind (fun i b => a ≤ b ∧ b ≤ a + c * i) (n := n) ⟨Int.le_refl _, by rw [Int.mul_zero]; omega⟩ (fun i b h1 h2 h3 => ?_) n hn (Int.le_refl n)
  have := h i b h1 h2
  rw [Int.mul_add, Int.mul_one]
  omega
theorem mn_k_b (T : T3) (t d k n : Int) : n ≤ mn_k T t d k n ∧ mn_k T t d k n ≤ n + 1 := by
  unfold mn_k
  split <;> omega
theorem mn_d_b (T : T3) (t d n : Int) : n ≤ mn_d T t d n ∧ mn_d T t d n ≤ n + 8 := by
  have := zfor_le (f := mn_k T t d) (n := 8) (c := 1) (a := n) (by omega) (fun k b _ _ => mn_k_b T t d k b) (by omega)
  unfold mn_d
  omega
theorem mn_t_b {T : T3} (hT : OKT T) (t n : Int) : n ≤ mn_t T t n ∧ mn_t T t n ≤ n + 48 := by
  have h6 := hT.1.1
  have := zfor_le (f := mn_d T t) (n := T.2.2 0) (c := 8) (a := n) (by omega) (fun k b _ _ => mn_d_b T t k b) (by omega)
  unfold mn_t
  omega
theorem sn_u_b (T : T3) (t u n : Int) : n ≤ sn_u T t u n ∧ sn_u T t u n ≤ n + 1 := by
  unfold sn_u
  split
  · split <;> omega
  · omega
theorem sn_t_b {T : T3} (hT : OKT T) (t n : Int) : n ≤ sn_t T t n ∧ sn_t T t n ≤ n + 8 := by
  have h8 := hT.1.2.1
  have := zfor_le (f := sn_u T t) (n := T.2.2 1) (c := 1) (a := n) (by omega) (fun k b _ _ => sn_u_b T t k b) (by omega)
  unfold sn_t
  omega
theorem mn_d_none {T : T3} (h : OKT T) {t d : Int} (hp : T.1 t = -1) (s : Int) : mn_d T t d s = s := zfor_keep (P := fun b => b = s) rfl (fun k b _ _ hb => by unfold mn_k; rw [if_neg (mvT_none h hp)]; exact hb)
theorem mn_t_none {T : T3} (h : OKT T) {t n : Int} (hp : T.1 t = -1) (s : Int) : zfor (mn_d T t) n s = s := zfor_keep (P := fun b => b = s) rfl (fun k b _ _ hb => by rw [mn_d_none h hp]; exact hb)
theorem mn_d_eq {T : T3} (h : OKT T) {t d : Int} (d0 : 0 ≤ d) (d1 : d < T.2.2 0) (s : Int) : zfor (mn_k T t d) (T.2.2 (65 + d) + 1) s = mn_d T t d s := by
  have hr := h.2.1.1 d d0 d1
  have hid : ∀ i b, (T.2.2 (65 + d) < i ∨ 8 ≤ i) → mn_k T t d i b = b := fun i b hi => by unfold mn_k; rw [if_neg (mvT_far h hi)]
  unfold mn_d
  rcases Int.lt_or_le (T.2.2 (65 + d)) 8 with w | w
  · exact (zfor_ext (by omega) (by omega) (fun i b g0 g1 => hid i b (by omega))).symm
  · rw [show T.2.2 (65 + d) = 8 by omega]
    exact zfor_ext (by omega) (by omega) (fun i b g0 g1 => hid i b (by omega))
theorem sn_t_0 (T : T3) {t : Int} (h : 0 ≤ t) (s : Int) : zfor (sn_u T t) (t + 1) s = s := by
  rw [zfor_ext (n := 0) (by omega) (by omega) (fun i b g0 g1 => by unfold sn_u; rw [if_neg (by omega)])]
  rfl
theorem back_mv {σ : zS} {mm m0 : zOb} {T : T3} {t d k : Int} (hT : OKT T) (hM : MS T m0 mm) : zCv M_X8_rowsBack 1 [zR 31] (zo σ 31 (osA mm 1 (if mvT T t d k = 0 then a_mv T.1 T.2.1 T.2.2 t d k else T.2.2))) (zo σ 31 mm) := by
  have hrb := m8_rowsBack (σ := σ) (m := osA mm 1 (if mvT T t d k = 0 then a_mv T.1 T.2.1 T.2.2 t d k else T.2.2))
  have hback := back_eq (a := T.2.2) (b := if mvT T t d k = 0 then a_mv T.1 T.2.1 T.2.2 t d k else T.2.2) (κ := mm.2 41) hM.2.1 (fun i hi => by
    split
    · rename_i y
      exact a_mv_o hT.1 hT.2.1 ((mvC_0 y).mvh _ hT.2.2) hi
    · rfl)
  rw [osA_at, osA_osA, show (osA mm 1 (if mvT T t d k = 0 then a_mv T.1 T.2.1 T.2.2 t d k else T.2.2)).2 41 = mm.2 41 from rfl, hback, ← hM.1, osA_same] at hrb
  rw [← hM.1]
  exact hrb
theorem back_sw {σ : zS} {mm m0 : zOb} {T : T3} {t u : Int} (hT : OKT T) (hM : MS T m0 mm) : zCv M_X8_rowsBack 1 [zR 31] (zo σ 31 (osA mm 1 (if swT T t u = 0 then a_sw T.1 T.2.1 T.2.2 t u else T.2.2))) (zo σ 31 mm) := by
  have hrb := m8_rowsBack (σ := σ) (m := osA mm 1 (if swT T t u = 0 then a_sw T.1 T.2.1 T.2.2 t u else T.2.2))
  have hback := back_eq (a := T.2.2) (b := if swT T t u = 0 then a_sw T.1 T.2.1 T.2.2 t u else T.2.2) (κ := mm.2 41) hM.2.1 (fun i hi => by
    split
    · rename_i y
      exact a_sw_o hT.1 hT.2.1 (swC_0 y) hi
    · rfl)
  rw [osA_at, osA_osA, show (osA mm 1 (if swT T t u = 0 then a_sw T.1 T.2.1 T.2.2 t u else T.2.2)).2 41 = mm.2 41 from rfl, hback, ← hM.1, osA_same] at hrb
  rw [← hM.1]
  exact hrb
theorem m8_moves {σ : zS} {m : zOb} {T : T3} {z : Bool} (hT : OKT T) (e1 : m.2 1 = T.2.2) : zC M_X8_moves 7 [zR 31, zB z] (zo σ 31 m) (fun r τ' => r = some (zI (if z = false then mvN T else swN T)) ∧ ∃ m', τ' = zo σ 31 m' ∧ MQ8 m m') := by
  have h6 := hT.1.1
  have h8 := hT.1.2.1
  have hbeg := m8_begins (σ := σ) (m := oss m 0 0) (by show WFa (m.2 1); rw [e1]; exact hT.1) (by show WFr (m.2 1); rw [e1]; exact hT.2.1.wfr)
  refine zC_of (M := M_X8_moves) (ls := [some (zR 31), some (zB z), none, none, none, none]) (n := 4) (by decide) (fun ad => Nat.le_of_ble_eq_true rfl) rfl (fun x h => ?_)
  generalize hK : (fun (r : Option Value) (τ' : zS) => r = some (zI (if z = false then mvN T else swN T)) ∧ ∃ m', τ' = zo σ 31 m' ∧ MQ8 m m') = K
  have L : ∀ (mm : zOb), MS T (oss m 0 0) mm → ∀ (n : Nat) (t c : Int) (l4 l5 : Option Value), 0 ≤ t → t ≤ T.2.2 1 → T.2.2 1 - t < n → 0 ≤ c → c ≤ 48 * t → c = (if z = false then zfor (mn_t T) t 0 else zfor (sn_t T) t 0) → zW x K 13 [some (zR 31), some (zB z), some (zI c), some (zI t), l4, l5] [] (zo σ 31 mm) := by
    intro mm hM n
    have e11 : mm.2 1 1 = T.2.2 1 := by rw [hM.1]
    have e10 : mm.2 1 0 = T.2.2 0 := by rw [hM.1]
    have hwa : WFa (mm.2 1) := by rw [hM.1]; exact hT.1
    have hP : POS T.1 T.2.1 (mm.2 1) := by rw [hM.1]; exact hT.2.1
    have hi : WFi T.1 (mm.2 1) := by rw [hM.1]; exact hT.2.2
    have hKp : KPT (mm.2 1) (mm.2 41) := by rw [hM.1]; exact hM.2.1
    have hF := hM.F hT
    have ecm : ∀ t d k, mvC T.1 T.2.1 (mm.2 1) (mm.2 40) t d k = mvT T t d k := fun t d k => by rw [hM.1]; exact mvC_congr hT.1 hT.2.1 hT.2.2 hM.2.2.1 t d k
    have ecs : ∀ t u, swC T.1 T.2.1 (mm.2 1) (mm.2 40) t u = swT T t u := fun t u => by rw [hM.1]; exact swC_congr hT.1 hT.2.1 hM.2.2.1 t u
    induction n with
    | zero => intro t c l4 l5 h1 h2 h3; omega
    | succ n ih =>
      intro t c l4 l5 h1 h2 h3 c0 c1 hc
      -- the part for swaps
      have U : ∀ (n2 : Nat) (u c2 : Int) (l5 : Option Value), t < T.2.2 1 → t + 1 ≤ u → u ≤ T.2.2 1 → T.2.2 1 - u < n2 → z = true → 0 ≤ c2 → c2 ≤ 48 * t + u → c2 = zfor (sn_u T t) u (zfor (sn_t T) t 0) → zW x K 105 [some (zR 31), some (zB z), some (zI c2), some (zI t), some (zI u), l5] [] (zo σ 31 mm) := by
        intro n2
        induction n2 with
        | zero => intro u c2 l5 g0 g1 g2 g3; omega
        | succ n2 ih2 =>
          intro u c2 l5 g0 g1 g2 g3 gz gc0 gc1 gc
          have hgo := m8_changes (σ := σ) (t := t) (u := u) hwa hP hKp hF (by omega) (by omega)
          rw [ecs, hM.1] at hgo
          have hswb := swT_b T t u
          have hstep : sn_u T t u c2 = zfor (sn_u T t) (u + 1) (zfor (sn_t T) t 0) := by rw [zfor_S _ (by omega), gc]
          have hsub := sn_u_b T t u c2
          refine z_iload (pc := 105) h dX8_moves_105 rfl ?_
          refine z_aloadR_n (pc := 107) h dX8_moves_107 rfl ?_
          refine z_getA4 (pc := 108) (c := 8) (j := 1) h (by first | assumption | rfl) rfl rfl fl_X8_7 dX8_moves_108 ?_
          refine z_iconst (pc := 111) h dX8_moves_111 ?_
          refine z_ialdq (pc := 112) (c := 8) (j := 1) (L := 610) h (zo_s _ _ _) (by first | assumption | rfl) (by decide) rfl (by decide) (by omega) (by omega) dX8_moves_112 (fun g112 => ?_)
          refine z_icmp_ge (pc := 113) (tgt := 148) h (by omega) (by omega) dX8_moves_113 (by decide) (fun c113 => ?_) (fun c113 => ?_)
          · refine z_inc_3 (pc := 148) h dX8_moves_148 (by decide) rfl ?_
            refine z_goto (pc := 151) (tgt := 13) h dX8_moves_151 (by decide) ?_
            refine ih (t + 1) c2 _ _ (by omega) (by omega) (by omega) gc0 (by omega) ?_
            rw [if_neg (by rw [gz]; decide), zfor_S _ h1, gc, show u = T.2.2 1 by omega]
            rfl
          · refine z_iload_n (pc := 116) h dX8_moves_116 rfl ?_
            refine z_ifeqB (pc := 117) (tgt := 148) h dX8_moves_117 (by decide) (fun c117 => ?_) (fun c117 => ?_)
            · rw [gz] at c117; cases c117
            · refine z_iload_n (pc := 120) h dX8_moves_120 rfl ?_
              refine z_aloadR_n (pc := 121) h dX8_moves_121 rfl ?_
              refine z_iload_n (pc := 122) h dX8_moves_122 rfl ?_
              refine z_iload (pc := 123) h dX8_moves_123 rfl ?_
              refine z_rV (pc := 125) (c := 8) h (hgo) (by decide) (by first | assumption | rfl) rfl mv_X8_changes ml_X8_328 rfl dX8_moves_125 rfl (Nat.le_of_ble_eq_true rfl) ?_
              refine z_if_ne (pc := 128) (tgt := 135) h (by omega) dX8_moves_128 (by decide) (fun c128 => ?_) (fun c128 => ?_)
              · have hs : sn_u T t u c2 = c2 + 0 := by unfold sn_u; rw [if_pos (by omega), if_neg c128]; omega
                refine z_iconst (pc := 135) h dX8_moves_135 ?_
                refine z_iadd (pc := 136) h dX8_moves_136 ?_
                refine z_ist_2 (pc := 137) h dX8_moves_137 (by decide) rfl ?_
                refine z_aloadR_n (pc := 138) h dX8_moves_138 rfl ?_
                refine z_vV (pc := 139) (c := 8) h (back_sw hT hM) (by decide) (by first | assumption | rfl) rfl mv_X8_rowsBack ml_X8_312 rfl dX8_moves_139 rfl (Nat.le_of_ble_eq_true rfl) ?_
                refine z_inc_4 (pc := 142) h dX8_moves_142 (by decide) rfl ?_
                refine z_goto (pc := 145) (tgt := 105) h dX8_moves_145 (by decide) ?_
                rw [← hs]
                exact ih2 (u + 1) _ _ g0 (by omega) (by omega) (by omega) gz (by omega) (by omega) hstep
              · have hs : sn_u T t u c2 = c2 + 1 := by unfold sn_u; rw [if_pos (by omega), if_pos c128]
                refine z_iconst (pc := 131) h dX8_moves_131 ?_
                refine z_goto (pc := 132) (tgt := 136) h dX8_moves_132 (by decide) ?_
                refine z_iadd (pc := 136) h dX8_moves_136 ?_
                refine z_ist_2 (pc := 137) h dX8_moves_137 (by decide) rfl ?_
                refine z_aloadR_n (pc := 138) h dX8_moves_138 rfl ?_
                refine z_vV (pc := 139) (c := 8) h (back_sw hT hM) (by decide) (by first | assumption | rfl) rfl mv_X8_rowsBack ml_X8_312 rfl dX8_moves_139 rfl (Nat.le_of_ble_eq_true rfl) ?_
                refine z_inc_4 (pc := 142) h dX8_moves_142 (by decide) rfl ?_
                refine z_goto (pc := 145) (tgt := 105) h dX8_moves_145 (by decide) ?_
                rw [← hs]
                exact ih2 (u + 1) _ _ g0 (by omega) (by omega) (by omega) gz (by omega) (by omega) hstep
      have D : ∀ (n2 : Nat) (d c2 : Int) (l5 : Option Value), t < T.2.2 1 → 0 ≤ d → d ≤ T.2.2 0 → T.2.2 0 - d < n2 → z = false → 0 ≤ c2 → c2 ≤ 48 * t + 8 * d → c2 = zfor (mn_d T t) d (zfor (mn_t T) t 0) → zW x K 26 [some (zR 31), some (zB z), some (zI c2), some (zI t), some (zI d), l5] [] (zo σ 31 mm) := by
        intro n2
        induction n2 with
        | zero => intro d c2 l5 g0 g1 g2 g3; omega
        | succ n2 ih2 =>
          intro d c2 l5 g0 g1 g2 g3 gz gc0 gc1 gc
          have hpt := hT.2.1.rng hT.1 h1 g0
          have Q : ∀ (n3 : Nat) (k c3 : Int), d < T.2.2 0 → 0 ≤ k → k ≤ T.2.2 (65 + d) + 1 → T.2.2 (65 + d) + 1 - k < n3 → 0 ≤ c3 → c3 ≤ 48 * t + 8 * d + k → c3 = zfor (mn_k T t d) k c2 → zW x K 53 [some (zR 31), some (zB z), some (zI c3), some (zI t), some (zI d), some (zI k)] [] (zo σ 31 mm) := by
            intro n3
            induction n3 with
            | zero => intro k c3 y0 y1 y2 y3; omega
            | succ n3 ih3 =>
              intro k c3 y0 y1 y2 y3 yc0 yc1 yc
              have e65 : mm.2 1 (65 + d) = T.2.2 (65 + d) := by rw [hM.1]
              have hr := hT.2.1.1 d g1 y0
              have hgo := m8_goesTo (σ := σ) (t := t) (d := d) (k := k) hwa hP hi hKp hF (by omega) (by omega) (by omega)
              rw [ecm, hM.1] at hgo
              have hmvb := mvT_b T t d k
              have hstep : mn_k T t d k c3 = zfor (mn_k T t d) (k + 1) c2 := by rw [zfor_S _ y1, yc]
              have hsub := mn_k_b T t d k c3
              have hdb := mn_d_b T t d c2
              refine z_iload (pc := 53) h dX8_moves_53 rfl ?_
              refine z_aloadR_n (pc := 55) h dX8_moves_55 rfl ?_
              refine z_iload (pc := 56) h dX8_moves_56 rfl ?_
              refine z_pV (pc := 58) (c := 8) h (m8_rowMany (by omega)) (by decide) (by first | assumption | rfl) rfl mv_X8_rowMany ml_X8_191 rfl dX8_moves_58 rfl (Nat.le_of_ble_eq_true rfl) ?_
              refine z_icmp_gt (pc := 61) (tgt := 94) h (by omega) (by omega) dX8_moves_61 (by decide) (fun c61 => ?_) (fun c61 => ?_)
              · refine z_inc_4 (pc := 94) h dX8_moves_94 (by decide) rfl ?_
                refine z_goto (pc := 97) (tgt := 26) h dX8_moves_97 (by decide) ?_
                have hd : c3 = mn_d T t d c2 := by rw [yc, show k = T.2.2 (65 + d) + 1 by omega]; exact mn_d_eq hT g1 y0 c2
                refine ih2 (d + 1) c3 _ g0 (by omega) (by omega) (by omega) gz yc0 (by omega) ?_
                rw [zfor_S _ g1, hd, gc]
              · refine z_iload_n (pc := 64) h dX8_moves_64 rfl ?_
                refine z_aloadR_n (pc := 65) h dX8_moves_65 rfl ?_
                refine z_iload_n (pc := 66) h dX8_moves_66 rfl ?_
                refine z_iload (pc := 67) h dX8_moves_67 rfl ?_
                refine z_iload (pc := 69) h dX8_moves_69 rfl ?_
                refine z_rV (pc := 71) (c := 8) h (hgo) (by decide) (by first | assumption | rfl) rfl mv_X8_goesTo ml_X8_321 rfl dX8_moves_71 rfl (Nat.le_of_ble_eq_true rfl) ?_
                refine z_if_ne (pc := 74) (tgt := 81) h (by omega) dX8_moves_74 (by decide) (fun c74 => ?_) (fun c74 => ?_)
                · have hs : mn_k T t d k c3 = c3 + 0 := by unfold mn_k; rw [if_neg c74]; omega
                  refine z_iconst (pc := 81) h dX8_moves_81 ?_
                  refine z_iadd (pc := 82) h dX8_moves_82 ?_
                  refine z_ist_2 (pc := 83) h dX8_moves_83 (by decide) rfl ?_
                  refine z_aloadR_n (pc := 84) h dX8_moves_84 rfl ?_
                  refine z_vV (pc := 85) (c := 8) h (back_mv hT hM) (by decide) (by first | assumption | rfl) rfl mv_X8_rowsBack ml_X8_312 rfl dX8_moves_85 rfl (Nat.le_of_ble_eq_true rfl) ?_
                  refine z_inc_5 (pc := 88) h dX8_moves_88 (by decide) rfl ?_
                  refine z_goto (pc := 91) (tgt := 53) h dX8_moves_91 (by decide) ?_
                  rw [← hs]
                  exact ih3 (k + 1) _ y0 (by omega) (by omega) (by omega) (by omega) (by omega) hstep
                · have hs : mn_k T t d k c3 = c3 + 1 := by unfold mn_k; rw [if_pos c74]
                  refine z_iconst (pc := 77) h dX8_moves_77 ?_
                  refine z_goto (pc := 78) (tgt := 82) h dX8_moves_78 (by decide) ?_
                  refine z_iadd (pc := 82) h dX8_moves_82 ?_
                  refine z_ist_2 (pc := 83) h dX8_moves_83 (by decide) rfl ?_
                  refine z_aloadR_n (pc := 84) h dX8_moves_84 rfl ?_
                  refine z_vV (pc := 85) (c := 8) h (back_mv hT hM) (by decide) (by first | assumption | rfl) rfl mv_X8_rowsBack ml_X8_312 rfl dX8_moves_85 rfl (Nat.le_of_ble_eq_true rfl) ?_
                  refine z_inc_5 (pc := 88) h dX8_moves_88 (by decide) rfl ?_
                  refine z_goto (pc := 91) (tgt := 53) h dX8_moves_91 (by decide) ?_
                  rw [← hs]
                  exact ih3 (k + 1) _ y0 (by omega) (by omega) (by omega) (by omega) (by omega) hstep
          have fin : (d = T.2.2 0 ∨ T.1 t = -1) → c2 = mn_t T t (zfor (mn_t T) t 0) := by
            rintro (w | w)
            · rw [gc, w]; rfl
            · unfold mn_t
              rw [gc, mn_t_none hT w, mn_t_none hT w]
              rfl
          refine z_iload (pc := 26) h dX8_moves_26 rfl ?_
          refine z_aloadR_n (pc := 28) h dX8_moves_28 rfl ?_
          refine z_getA4 (pc := 29) (c := 8) (j := 1) h (by first | assumption | rfl) rfl rfl fl_X8_7 dX8_moves_29 ?_
          refine z_iconst (pc := 32) h dX8_moves_32 ?_
          refine z_ialdq (pc := 33) (c := 8) (j := 1) (L := 610) h (zo_s _ _ _) (by first | assumption | rfl) (by decide) rfl (by decide) (by omega) (by omega) dX8_moves_33 (fun g33 => ?_)
          refine z_icmp_ge (pc := 34) (tgt := 100) h (by omega) (by omega) dX8_moves_34 (by decide) (fun c34 => ?_) (fun c34 => ?_)
          · refine z_iload_n (pc := 100) h dX8_moves_100 rfl ?_
            refine z_iconst (pc := 101) h dX8_moves_101 ?_
            refine z_iadd (pc := 102) h dX8_moves_102 ?_
            refine z_ist_4 (pc := 103) h dX8_moves_103 (by decide) rfl ?_
            refine z_iload (pc := 105) h dX8_moves_105 rfl ?_
            refine z_aloadR_n (pc := 107) h dX8_moves_107 rfl ?_
            refine z_getA4 (pc := 108) (c := 8) (j := 1) h (by first | assumption | rfl) rfl rfl fl_X8_7 dX8_moves_108 ?_
            refine z_iconst (pc := 111) h dX8_moves_111 ?_
            refine z_ialdq (pc := 112) (c := 8) (j := 1) (L := 610) h (zo_s _ _ _) (by first | assumption | rfl) (by decide) rfl (by decide) (by omega) (by omega) dX8_moves_112 (fun g112 => ?_)
            refine z_icmp_ge (pc := 113) (tgt := 148) h (by omega) (by omega) dX8_moves_113 (by decide) (fun c113 => ?_) (fun c113 => ?_)
            · refine z_inc_3 (pc := 148) h dX8_moves_148 (by decide) rfl ?_
              refine z_goto (pc := 151) (tgt := 13) h dX8_moves_151 (by decide) ?_
              have hd := fin (by first | (left; omega) | (right; omega))
              have hgt : 48 * t + 8 * d ≤ 48 * (t + 1) := by omega
              refine ih (t + 1) c2 _ _ (by omega) (by omega) (by omega) gc0 (by omega) ?_
              rw [if_pos gz, zfor_S _ h1]
              exact hd
            · refine z_iload_n (pc := 116) h dX8_moves_116 rfl ?_
              refine z_ifeqB (pc := 117) (tgt := 148) h dX8_moves_117 (by decide) (fun c117 => ?_) (fun c117 => ?_)
              · refine z_inc_3 (pc := 148) h dX8_moves_148 (by decide) rfl ?_
                refine z_goto (pc := 151) (tgt := 13) h dX8_moves_151 (by decide) ?_
                have hd := fin (by first | (left; omega) | (right; omega))
                have hgt : 48 * t + 8 * d ≤ 48 * (t + 1) := by omega
                refine ih (t + 1) c2 _ _ (by omega) (by omega) (by omega) gc0 (by omega) ?_
                rw [if_pos gz, zfor_S _ h1]
                exact hd
              · rw [gz] at c117; cases c117
          · refine z_aloadR_n (pc := 37) h dX8_moves_37 rfl ?_
            refine z_iload_n (pc := 38) h dX8_moves_38 rfl ?_
            refine z_pV (pc := 39) (c := 8) h (m8_doorNow hwa hP (by omega) (by omega)) (by decide) (by first | assumption | rfl) rfl mv_X8_doorNow ml_X8_284 rfl dX8_moves_39 rfl (Nat.le_of_ble_eq_true rfl) ?_
            refine z_iconst (pc := 42) h dX8_moves_42 ?_
            refine z_icmp_eq (pc := 43) (tgt := 100) h (by omega) (by omega) dX8_moves_43 (by decide) (fun c43 => ?_) (fun c43 => ?_)
            · refine z_iload_n (pc := 100) h dX8_moves_100 rfl ?_
              refine z_iconst (pc := 101) h dX8_moves_101 ?_
              refine z_iadd (pc := 102) h dX8_moves_102 ?_
              refine z_ist_4 (pc := 103) h dX8_moves_103 (by decide) rfl ?_
              refine z_iload (pc := 105) h dX8_moves_105 rfl ?_
              refine z_aloadR_n (pc := 107) h dX8_moves_107 rfl ?_
              refine z_getA4 (pc := 108) (c := 8) (j := 1) h (by first | assumption | rfl) rfl rfl fl_X8_7 dX8_moves_108 ?_
              refine z_iconst (pc := 111) h dX8_moves_111 ?_
              refine z_ialdq (pc := 112) (c := 8) (j := 1) (L := 610) h (zo_s _ _ _) (by first | assumption | rfl) (by decide) rfl (by decide) (by omega) (by omega) dX8_moves_112 (fun g112 => ?_)
              refine z_icmp_ge (pc := 113) (tgt := 148) h (by omega) (by omega) dX8_moves_113 (by decide) (fun c113 => ?_) (fun c113 => ?_)
              · refine z_inc_3 (pc := 148) h dX8_moves_148 (by decide) rfl ?_
                refine z_goto (pc := 151) (tgt := 13) h dX8_moves_151 (by decide) ?_
                have hd := fin (by first | (left; omega) | (right; omega))
                have hgt : 48 * t + 8 * d ≤ 48 * (t + 1) := by omega
                refine ih (t + 1) c2 _ _ (by omega) (by omega) (by omega) gc0 (by omega) ?_
                rw [if_pos gz, zfor_S _ h1]
                exact hd
              · refine z_iload_n (pc := 116) h dX8_moves_116 rfl ?_
                refine z_ifeqB (pc := 117) (tgt := 148) h dX8_moves_117 (by decide) (fun c117 => ?_) (fun c117 => ?_)
                · refine z_inc_3 (pc := 148) h dX8_moves_148 (by decide) rfl ?_
                  refine z_goto (pc := 151) (tgt := 13) h dX8_moves_151 (by decide) ?_
                  have hd := fin (by first | (left; omega) | (right; omega))
                  have hgt : 48 * t + 8 * d ≤ 48 * (t + 1) := by omega
                  refine ih (t + 1) c2 _ _ (by omega) (by omega) (by omega) gc0 (by omega) ?_
                  rw [if_pos gz, zfor_S _ h1]
                  exact hd
                · rw [gz] at c117; cases c117
            · refine z_iload_n (pc := 46) h dX8_moves_46 rfl ?_
              refine z_ifneB (pc := 47) (tgt := 100) h dX8_moves_47 (by decide) (fun c47 => ?_) (fun c47 => ?_)
              · rw [gz] at c47; cases c47
              · refine z_iconst (pc := 50) h dX8_moves_50 ?_
                refine z_ist_5 (pc := 51) h dX8_moves_51 (by decide) rfl ?_
                have hr := hT.2.1.1 d g1 (by omega)
                exact Q (T.2.2 (65 + d) + 2).toNat 0 c2 (by omega) (by omega) (by omega) (by omega) gc0 (by omega) rfl
      refine z_iload_n (pc := 13) h dX8_moves_13 rfl ?_
      refine z_aloadR_n (pc := 14) h dX8_moves_14 rfl ?_
      refine z_getA4 (pc := 15) (c := 8) (j := 1) h (by first | assumption | rfl) rfl rfl fl_X8_7 dX8_moves_15 ?_
      refine z_iconst (pc := 18) h dX8_moves_18 ?_
      refine z_ialdq (pc := 19) (c := 8) (j := 1) (L := 610) h (zo_s _ _ _) (by first | assumption | rfl) (by decide) rfl (by decide) (by omega) (by omega) dX8_moves_19 (fun g19 => ?_)
      refine z_icmp_ge (pc := 20) (tgt := 154) h (by omega) (by omega) dX8_moves_20 (by decide) (fun c20 => ?_) (fun c20 => ?_)
      · refine z_iload_n (pc := 154) h dX8_moves_154 rfl ?_
        refine z_iret (pc := 155) h rfl dX8_moves_155 ?_
        rw [← hK]
        obtain ⟨y0, y2, y3, y4, y5, y47⟩ := hM.2.2.2.2
        refine ⟨congrArg (fun z => some (zI z)) ?_, mm, rfl, ⟨y0, y2, y3⟩, hM.1.trans e1.symm, y5, y4⟩
        rw [hc, show t = T.2.2 1 by omega]
        rfl
      · refine z_iconst (pc := 23) h dX8_moves_23 ?_
        refine z_ist_4 (pc := 24) h dX8_moves_24 (by decide) rfl ?_
        rcases (by cases z; exact Or.inl rfl; exact Or.inr rfl : z = false ∨ z = true) with gz | gz
        · exact D (T.2.2 0 + 1).toNat 0 c _ (by omega) (by omega) (by omega) (by omega) gz c0 (by omega) (by rw [hc, if_pos gz]; rfl)
        · have hpt := hT.2.1.rng hT.1 h1 (show t < T.2.2 1 by omega)
          have hcz : c = zfor (sn_t T) t 0 := by rw [hc, if_neg (by rw [gz]; decide)]
          refine z_iload (pc := 26) h dX8_moves_26 rfl ?_
          refine z_aloadR_n (pc := 28) h dX8_moves_28 rfl ?_
          refine z_getA4 (pc := 29) (c := 8) (j := 1) h (by first | assumption | rfl) rfl rfl fl_X8_7 dX8_moves_29 ?_
          refine z_iconst (pc := 32) h dX8_moves_32 ?_
          refine z_ialdq (pc := 33) (c := 8) (j := 1) (L := 610) h (zo_s _ _ _) (by first | assumption | rfl) (by decide) rfl (by decide) (by omega) (by omega) dX8_moves_33 (fun g33 => ?_)
          refine z_icmp_ge (pc := 34) (tgt := 100) h (by omega) (by omega) dX8_moves_34 (by decide) (fun c34 => ?_) (fun c34 => ?_)
          · refine z_iload_n (pc := 100) h dX8_moves_100 rfl ?_
            refine z_iconst (pc := 101) h dX8_moves_101 ?_
            refine z_iadd (pc := 102) h dX8_moves_102 ?_
            refine z_ist_4 (pc := 103) h dX8_moves_103 (by decide) rfl ?_
            exact U (T.2.2 1 + 1).toNat (t + 1) c _ (by omega) (by omega) (by omega) (by omega) gz c0 (by omega) (by rw [sn_t_0 T h1]; exact hcz)
          · refine z_aloadR_n (pc := 37) h dX8_moves_37 rfl ?_
            refine z_iload_n (pc := 38) h dX8_moves_38 rfl ?_
            refine z_pV (pc := 39) (c := 8) h (m8_doorNow hwa hP (by omega) (by omega)) (by decide) (by first | assumption | rfl) rfl mv_X8_doorNow ml_X8_284 rfl dX8_moves_39 rfl (Nat.le_of_ble_eq_true rfl) ?_
            refine z_iconst (pc := 42) h dX8_moves_42 ?_
            refine z_icmp_eq (pc := 43) (tgt := 100) h (by omega) (by omega) dX8_moves_43 (by decide) (fun c43 => ?_) (fun c43 => ?_)
            · refine z_iload_n (pc := 100) h dX8_moves_100 rfl ?_
              refine z_iconst (pc := 101) h dX8_moves_101 ?_
              refine z_iadd (pc := 102) h dX8_moves_102 ?_
              refine z_ist_4 (pc := 103) h dX8_moves_103 (by decide) rfl ?_
              exact U (T.2.2 1 + 1).toNat (t + 1) c _ (by omega) (by omega) (by omega) (by omega) gz c0 (by omega) (by rw [sn_t_0 T h1]; exact hcz)
            · refine z_iload_n (pc := 46) h dX8_moves_46 rfl ?_
              refine z_ifneB (pc := 47) (tgt := 100) h dX8_moves_47 (by decide) (fun c47 => ?_) (fun c47 => ?_)
              · refine z_iload_n (pc := 100) h dX8_moves_100 rfl ?_
                refine z_iconst (pc := 101) h dX8_moves_101 ?_
                refine z_iadd (pc := 102) h dX8_moves_102 ?_
                refine z_ist_4 (pc := 103) h dX8_moves_103 (by decide) rfl ?_
                exact U (T.2.2 1 + 1).toNat (t + 1) c _ (by omega) (by omega) (by omega) (by omega) gz c0 (by omega) (by rw [sn_t_0 T h1]; exact hcz)
              · rw [gz] at c47; cases c47
  refine z_aloadR_n (pc := 0) h dX8_moves_0 rfl ?_
  refine z_iconst (pc := 1) h dX8_moves_1 ?_
  refine z_putIo (pc := 2) (c := 8) (j := 0) h (by first | assumption | rfl) rfl rfl fl_X8_84 rfl (tyX8_ok 0 (by decide)) dX8_moves_2 (by omega) ?_
  refine z_aloadR_n (pc := 5) h dX8_moves_5 rfl ?_
  refine z_callV (pc := 6) (c := 8) h (hbeg) (by decide) (by first | assumption | rfl) rfl mv_X8_begins ml_X8_318 rfl dX8_moves_6 rfl (Nat.le_of_ble_eq_true rfl) (fun r6 τ6 q6 => ?_)
  obtain ⟨rfl, mb, rfl, b1, b42, b41, b40, b27, bK⟩ := q6
  have b1 : mb.2 1 = m.2 1 := b1
  rw [show (oss m 0 0).2 1 = T.2.2 from e1] at b42 b41 b40
  refine z_iconst (pc := 9) h dX8_moves_9 ?_
  refine z_ist_2 (pc := 10) h dX8_moves_10 (by decide) rfl ?_
  refine z_iconst (pc := 11) h dX8_moves_11 ?_
  refine z_ist_3 (pc := 12) h dX8_moves_12 (by decide) rfl ?_
  exact L mb ⟨b1.trans e1, b41, b40, b42, bK⟩ (T.2.2 1 + 1).toNat 0 0 _ _ (by omega) (by omega) (by omega) (by omega) (by omega) (by split <;> rfl)
