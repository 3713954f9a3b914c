/-! A minute of the model's run. -/
def SM (m m' : zOb) : Prop := m'.2 1 = m.2 1 ∧ m'.1 20 = m.1 20 ∧ m'.2 21 = m.2 21 ∧ m'.2 22 = m.2 22 ∧ m'.2 30 = m.2 30 ∧ m'.2 31 = m.2 31 ∧ m'.1 35 = m.1 35
theorem SM.rf (m : zOb) : SM m m := ⟨rfl, rfl, rfl, rfl, rfl, rfl, rfl⟩
theorem SM.tr {m m' m'' : zOb} (h : SM m m') (g : SM m' m'') : SM m m'' := ⟨g.1.trans h.1, g.2.1.trans h.2.1, g.2.2.1.trans h.2.2.1, g.2.2.2.1.trans h.2.2.2.1, g.2.2.2.2.1.trans h.2.2.2.2.1, g.2.2.2.2.2.1.trans h.2.2.2.2.2.1, g.2.2.2.2.2.2.trans h.2.2.2.2.2.2⟩
def s_f2 (d : Int) (m : zOb) : zOb := if m.2 1 (5 + 2 * d) = 1 ∧ m.2 33 d = 1 then s_po d m else m
def s_f3 (d : Int) (m : zOb) : zOb := if m.2 1 (5 + 2 * d) ≠ 1 ∧ m.2 33 d = 1 then s_to d m else m
def s_f4 (d : Int) (m : zOb) : zOb := if m.2 1 (5 + 2 * d) = 1 ∧ m.2 33 d = 1 ∧ s_left m (m.2 1 (17 + 6 * s_tr m d + 2)) = false then s_lv d m else m
theorem s_p1_eq (m : zOb) : s_p1 m = zfor s_dk (m.2 1 0) m := rfl
theorem s_p2_eq (m : zOb) : s_p2 m = zfor s_f2 (m.2 1 0) m := rfl
theorem s_p3_eq (m : zOb) : s_p3 m = zfor s_f3 (m.2 1 0) m := rfl
theorem s_p4_eq (m : zOb) : s_p4 m = zfor s_f4 (m.2 1 0) m := rfl
/-- a turn keeps what must be kept -/
def KP (f : Int → zOb → zOb) : Prop := ∀ (d : Int) (m : zOb), SI m → DI (-1) m → 0 ≤ d → d < m.2 1 0 → SI (f d m) ∧ DI (-1) (f d m) ∧ SM m (f d m) ∧ m.1 39 ≤ (f d m).1 39 ∧ (f d m).1 39 ≤ m.1 39 + 1
theorem KP_dk : KP s_dk := by
  intro d m hS hD h0 h1
  obtain ⟨a1, a2⟩ := DI_dk hS hD h0 h1
  refine ⟨a2, a1, ?_⟩
  unfold s_dk
  split
  · exact ⟨⟨rfl, rfl, rfl, rfl, rfl, rfl, rfl⟩, Int.le_refl _, by show m.1 39 ≤ m.1 39 + 1; omega⟩
  · exact ⟨SM.rf m, Int.le_refl _, by omega⟩
theorem s_po_39 (d : Int) (m : zOb) : SM m (s_po d m) ∧ (s_po d m).1 39 = m.1 39 := by
  unfold s_po
  split
  · exact ⟨SM.rf m, rfl⟩
  · split <;> exact ⟨⟨rfl, rfl, rfl, rfl, rfl, rfl, rfl⟩, rfl⟩
theorem s_to_39 (d : Int) (m : zOb) : SM m (s_to d m) ∧ m.1 39 ≤ (s_to d m).1 39 ∧ (s_to d m).1 39 ≤ m.1 39 + 1 := by
  unfold s_to
  split
  · exact ⟨⟨rfl, rfl, rfl, rfl, rfl, rfl, rfl⟩, by show m.1 39 ≤ m.1 39 + 1; omega, by show m.1 39 + 1 ≤ m.1 39 + 1; omega⟩
  · split <;> exact ⟨⟨rfl, rfl, rfl, rfl, rfl, rfl, rfl⟩, by show m.1 39 ≤ m.1 39; omega, by show m.1 39 ≤ m.1 39 + 1; omega⟩
theorem KP_f2 : KP s_f2 := by
  intro d m hS hD h0 h1
  unfold s_f2
  split
  · rename_i q
    obtain ⟨a1, a2⟩ := DI_po hS hD h0 h1 q.1 q.2
    have := s_po_39 d m
    exact ⟨a2, a1, this.1, by omega, by omega⟩
  · exact ⟨hS, hD, SM.rf m, by omega, by omega⟩
theorem KP_f3 : KP s_f3 := by
  intro d m hS hD h0 h1
  unfold s_f3
  split
  · rename_i q
    obtain ⟨a1, a2⟩ := DI_to hS hD h0 h1 q.1 q.2
    have := s_to_39 d m
    exact ⟨a2, a1, this.1, this.2.1, this.2.2⟩
  · exact ⟨hS, hD, SM.rf m, by omega, by omega⟩
theorem KP_f4 : KP s_f4 := by
  intro d m hS hD h0 h1
  unfold s_f4
  split
  · rename_i q
    exact ⟨hS, DI_lv hS hD h0 h1 q.2.1 (Or.inr rfl), ⟨rfl, rfl, rfl, rfl, rfl, rfl, rfl⟩, by show m.1 39 ≤ m.1 39; omega, by show m.1 39 ≤ m.1 39 + 1; omega⟩
  · exact ⟨hS, hD, SM.rf m, by omega, by omega⟩
theorem KP_for {f : Int → zOb → zOb} (hf : KP f) {m : zOb} (hS : SI m) (hD : DI (-1) m) {i : Int} (h0 : 0 ≤ i) (h1 : i ≤ m.2 1 0) : SI (zfor f i m) ∧ DI (-1) (zfor f i m) ∧ SM m (zfor f i m) ∧ m.1 39 ≤ (zfor f i m).1 39 ∧ (zfor f i m).1 39 ≤ m.1 39 + i := by
  refine zfor_ind (fun i m' => SI m' ∧ DI (-1) m' ∧ SM m m' ∧ m.1 39 ≤ m'.1 39 ∧ m'.1 39 ≤ m.1 39 + i) (n := m.2 1 0) ⟨hS, hD, SM.rf m, by omega, by omega⟩ (fun i m' g1 g2 g3 => ?_) i h0 h1
  obtain ⟨b1, b2, b3, b4, b5⟩ := g3
  obtain ⟨c1, c2, c3, c4, c5⟩ := hf i m' b1 b2 g1 (by rw [b3.1]; exact g2)
  exact ⟨c1, c2, b3.tr c3, by omega, by omega⟩
theorem m8_goes {σ : zS} {m : zOb} (hS : SI m) (hD : DI (-1) m) (hmn : m.1 35 ≤ 199) (hid : 0 ≤ m.1 39 ∧ m.1 39 ≤ 4900) : zCv M_X8_goes 4 [zR 31] (zo σ 31 m) (zo σ 31 (s_go m)) := by
  have h6 := hS.1.1
  refine zC_of (M := M_X8_goes) (ls := [some (zR 31), none]) (n := 1) (by decide) (fun ad => Nat.le_of_ble_eq_true rfl) rfl (fun x h => ?_)
  have T4 : ∀ (m4 : zOb) (a : Option Value), SI m4 → DI (-1) m4 → m4.1 35 ≤ 199 → m4.2 1 0 ≤ 6 → s_p5 (s_p4 m4) = s_go m → zW x (fun r τ' => r = none ∧ τ' = zo σ 31 (s_go m)) 103 [some (zR 31), a] [] (zo σ 31 m4) := by
    intro m4 a hS4 hD4 hm4 hd4 hg
    have L : ∀ (n : Nat) (i : Int), 0 ≤ i → i ≤ m4.2 1 0 → m4.2 1 0 - i < n → zW x (fun r τ' => r = none ∧ τ' = zo σ 31 (s_go m)) 105 [some (zR 31), some (zI i)] [] (zo σ 31 (zfor s_f4 i m4)) := by
      intro n
      induction n with
      | zero => intro i h1 h2 h3; omega
      | succ n ih =>
        intro i h1 h2 h3
        obtain ⟨k1, k2, k3, k4, k5⟩ := KP_for KP_f4 hS4 hD4 h1 h2
        have hih := ih (i + 1) (by omega)
        rw [zfor_S _ h1] at hih
        have hgo : i = m4.2 1 0 → s_p5 (zfor s_f4 i m4) = s_go m := fun e => by rw [e]; exact hg
        have e0 : (zfor s_f4 i m4).2 1 0 = m4.2 1 0 := by rw [k3.1]
        generalize zfor s_f4 i m4 = mm at hih k1 k2 k3 hgo e0 ⊢
        have hmn4 : mm.1 35 ≤ 199 := by rw [k3.2.2.2.2.2.2]; exact hm4
        have hmm := k2.2.2.2.2.2.2.2.2
        have hnc := k1.2.2.2.1
        have hstg : (0 ≤ mm.1 36 ∧ mm.1 36 ≤ 40) := by
          have z := k2.2.2.2.2.2.2.2.1
          have z2 := zcnt_b (fun c => decide (mm.2 23 c ≠ -1 ∧ mm.2 24 c = -1)) (n := mm.1 20) (by omega)
          unfold s_stg at z
          omega
        refine z_iload_n (pc := 105) h dX8_goes_105 rfl ?_
        refine z_aloadR_n (pc := 106) h dX8_goes_106 rfl ?_
        refine z_getA4 (pc := 107) (c := 8) (j := 1) h (by first | assumption | rfl) rfl rfl fl_X8_7 dX8_goes_107 ?_
        refine z_iconst (pc := 110) h dX8_goes_110 ?_
        refine z_ialdq (pc := 111) (c := 8) (j := 1) (L := 610) h (zo_s _ _ _) (by first | assumption | rfl) (by decide) rfl (by decide) (by omega) (by omega) dX8_goes_111 (fun g111 => ?_)
        refine z_icmp_ge (pc := 112) (tgt := 166) h (by omega) (by omega) dX8_goes_112 (by decide) (fun c112 => ?_) (fun c112 => ?_)
        · refine z_aloadR_n (pc := 166) h dX8_goes_166 rfl ?_
          refine z_getIq (pc := 167) (c := 8) (j := 36) h (zo_s _ _ _) (by first | assumption | rfl) rfl rfl fl_X8_217 dX8_goes_167 (fun g167 => ?_)
          refine z_aloadR_n (pc := 170) h dX8_goes_170 rfl ?_
          refine z_getIq (pc := 171) (c := 8) (j := 37) h (zo_s _ _ _) (by first | assumption | rfl) rfl rfl fl_X8_242 dX8_goes_171 (fun g171 => ?_)
          refine z_icmp_le (pc := 174) (tgt := 193) h (by omega) (by omega) dX8_goes_174 (by decide) (fun c174 => ?_) (fun c174 => ?_)
          · refine z_ret (pc := 193) h rfl dX8_goes_193 ?_
            refine ⟨rfl, ?_⟩
            rw [← hgo (by omega)]
            unfold s_p5
            first | (rw [if_neg (by omega)]; done) | (rw [if_pos (by omega)]; done)
          · refine z_aloadR_n (pc := 177) h dX8_goes_177 rfl ?_
            refine z_aloadR_n (pc := 178) h dX8_goes_178 rfl ?_
            refine z_getIq (pc := 179) (c := 8) (j := 36) h (zo_s _ _ _) (by first | assumption | rfl) rfl rfl fl_X8_217 dX8_goes_179 (fun g179 => ?_)
            refine z_putIo (pc := 182) (c := 8) (j := 37) h (by first | assumption | rfl) rfl rfl fl_X8_242 rfl (tyX8_ok 37 (by decide)) dX8_goes_182 (by omega) ?_
            refine z_aloadR_n (pc := 185) h dX8_goes_185 rfl ?_
            refine z_aloadR_n (pc := 186) h dX8_goes_186 rfl ?_
            refine z_getIq (pc := 187) (c := 8) (j := 35) h (zo_s _ _ _) (by first | assumption | rfl) rfl rfl fl_X8_208 dX8_goes_187 (fun g187 => ?_)
            try simp only [osa_1, osa_2, oss_1, oss_2, osA_1, osA_2, zup_s, reduceIte, Nat.reduceEqDiff] at g187 ⊢
            refine z_putIo (pc := 190) (c := 8) (j := 38) h (by first | assumption | rfl) rfl rfl fl_X8_245 rfl (tyX8_ok 38 (by decide)) dX8_goes_190 (by omega) ?_
            refine z_ret (pc := 193) h rfl dX8_goes_193 ?_
            refine ⟨rfl, ?_⟩
            rw [← hgo (by omega)]
            unfold s_p5
            first | (rw [if_neg (by omega)]; done) | (rw [if_pos (by omega)]; done)
        · refine z_aloadR_n (pc := 115) h dX8_goes_115 rfl ?_
          refine z_iload_n (pc := 116) h dX8_goes_116 rfl ?_
          refine z_pV (pc := 117) (c := 8) h (m8_isOutDoor (by omega)) (by decide) (by first | assumption | rfl) rfl mv_X8_isOutDoor ml_X8_187 rfl dX8_goes_117 rfl (Nat.le_of_ble_eq_true rfl) ?_
          refine z_ifeqB (pc := 120) (tgt := 160) h dX8_goes_120 (by decide) (fun c120 => ?_) (fun c120 => ?_)
          · have hkk : True := trivial
            refine z_inc_1 (pc := 160) h dX8_goes_160 (by decide) rfl ?_
            refine z_goto (pc := 163) (tgt := 105) h dX8_goes_163 (by decide) ?_
            refine Eq.mp ?_ (hih (by omega) (by omega))
            unfold s_f4
            first
            | (rw [if_pos ⟨hk1, hst, c152⟩]; done)
            | (rw [if_neg (fun z => by have z1 := z.1; have z2 := z.2.1; omega)]; done)
            | (rw [if_neg (fun z => by have z3 := z.2.2; rw [c152] at z3; cases z3)]; done)
            | (rw [if_neg (fun z => by exact absurd z.1 (of_decide_eq_false c120))]; done)
          · refine z_aloadR_n (pc := 123) h dX8_goes_123 rfl ?_
            refine z_getA6 (pc := 124) (c := 8) (j := 33) h (by first | assumption | rfl) rfl rfl fl_X8_66 dX8_goes_124 ?_
            refine z_iload_n (pc := 127) h dX8_goes_127 rfl ?_
            refine z_zaldq (pc := 128) (c := 8) (j := 33) (L := 6) h (zo_s _ _ _) (by first | assumption | rfl) (by decide) rfl (by decide) (by omega) (by omega) dX8_goes_128 (fun g128 => ?_)
            refine z_if_eq (pc := 129) (tgt := 160) h (by omega) dX8_goes_129 (by decide) (fun c129 => ?_) (fun c129 => ?_)
            · have hkk : True := trivial
              refine z_inc_1 (pc := 160) h dX8_goes_160 (by decide) rfl ?_
              refine z_goto (pc := 163) (tgt := 105) h dX8_goes_163 (by decide) ?_
              refine Eq.mp ?_ (hih (by omega) (by omega))
              unfold s_f4
              first
              | (rw [if_pos ⟨hk1, hst, c152⟩]; done)
              | (rw [if_neg (fun z => by have z1 := z.1; have z2 := z.2.1; omega)]; done)
              | (rw [if_neg (fun z => by have z3 := z.2.2; rw [c152] at z3; cases z3)]; done)
              | (rw [if_neg (fun z => by exact absurd z.1 (of_decide_eq_false c120))]; done)
            · have hst : mm.2 33 i = 1 := by omega
              have hf := run_facts k1 k2 (d := i) h1 (by omega) hst
              have htr := tr_ok k1 k2 (d := i) h1 (by omega) hst
              dsimp only [s_tr] at htr
              have hk1 : mm.2 1 (5 + 2 * i) = 1 := of_decide_eq_true c120
              have hdst := ((k1.1.2.2.2.2.2.2.1 _ htr.2.1 htr.2.2.1).2.2.1 (by omega)).1
              refine z_aloadR_n (pc := 132) h dX8_goes_132 rfl ?_
              refine z_aloadR_n (pc := 133) h dX8_goes_133 rfl ?_
              refine z_aloadR_n (pc := 134) h dX8_goes_134 rfl ?_
              refine z_iload_n (pc := 135) h dX8_goes_135 rfl ?_
              refine z_aloadR_n (pc := 136) h dX8_goes_136 rfl ?_
              refine z_getA4 (pc := 137) (c := 8) (j := 32) h (by first | assumption | rfl) rfl rfl fl_X8_63 dX8_goes_137 ?_
              refine z_iload_n (pc := 140) h dX8_goes_140 rfl ?_
              refine z_ialdq (pc := 141) (c := 8) (j := 32) (L := 6) h (zo_s _ _ _) (by first | assumption | rfl) (by decide) rfl (by decide) (by omega) (by omega) dX8_goes_141 (fun g141 => ?_)
              refine z_pV (pc := 142) (c := 8) h (m8_rowAt (by omega) (by omega)) (by decide) (by first | assumption | rfl) rfl mv_X8_rowAt ml_X8_205 rfl dX8_goes_142 rfl (Nat.le_of_ble_eq_true rfl) ?_
              refine z_iconst (pc := 145) h dX8_goes_145 ?_
              refine z_pV (pc := 146) (c := 8) h (m8_of (by omega) (by omega)) (by decide) (by first | assumption | rfl) rfl mv_X8_of ml_X8_92 rfl dX8_goes_146 rfl (Nat.le_of_ble_eq_true rfl) ?_
              refine z_pV (pc := 149) (c := 8) h (m8_isLeft (by omega) (by omega) (fun c q1 q2 => by have z := (k1.2.2.2.2.1 c q1 q2).1; omega)) (by decide) (by first | assumption | rfl) rfl mv_X8_isLeft ml_X8_239 rfl dX8_goes_149 rfl (Nat.le_of_ble_eq_true rfl) ?_
              refine z_ifneB (pc := 152) (tgt := 160) h dX8_goes_152 (by decide) (fun c152 => ?_) (fun c152 => ?_)
              · have hkk : True := trivial
                refine z_inc_1 (pc := 160) h dX8_goes_160 (by decide) rfl ?_
                refine z_goto (pc := 163) (tgt := 105) h dX8_goes_163 (by decide) ?_
                refine Eq.mp ?_ (hih (by omega) (by omega))
                unfold s_f4
                first
                | (rw [if_pos ⟨hk1, hst, c152⟩]; done)
                | (rw [if_neg (fun z => by have z1 := z.1; have z2 := z.2.1; omega)]; done)
                | (rw [if_neg (fun z => by have z3 := z.2.2; rw [c152] at z3; cases z3)]; done)
                | (rw [if_neg (fun z => by exact absurd z.1 (of_decide_eq_false c120))]; done)
              · refine z_aloadR_n (pc := 155) h dX8_goes_155 rfl ?_
                refine z_iload_n (pc := 156) h dX8_goes_156 rfl ?_
                refine z_vV (pc := 157) (c := 8) h (m8_leavesNow (by omega) (by omega) (by omega) (by omega) (by omega)) (by decide) (by first | assumption | rfl) rfl mv_X8_leavesNow ml_X8_220 rfl dX8_goes_157 rfl (Nat.le_of_ble_eq_true rfl) ?_
                have hkk : True := trivial
                refine z_inc_1 (pc := 160) h dX8_goes_160 (by decide) rfl ?_
                refine z_goto (pc := 163) (tgt := 105) h dX8_goes_163 (by decide) ?_
                refine Eq.mp ?_ (hih (by omega) (by omega))
                unfold s_f4
                first
                | (rw [if_pos ⟨hk1, hst, c152⟩]; done)
                | (rw [if_neg (fun z => by have z1 := z.1; have z2 := z.2.1; omega)]; done)
                | (rw [if_neg (fun z => by have z3 := z.2.2; rw [c152] at z3; cases z3)]; done)
                | (rw [if_neg (fun z => by exact absurd z.1 (of_decide_eq_false c120))]; done)
    refine z_iconst (pc := 103) h dX8_goes_103 ?_
    refine z_ist_1 (pc := 104) h dX8_goes_104 (by decide) rfl ?_
    exact L (m4.2 1 0 + 1).toNat 0 (by omega) (by have := hS4.1.1; omega) (by have := hS4.1.1; omega)
  have T3 : ∀ (m4 : zOb) (a : Option Value), SI m4 → DI (-1) m4 → m4.1 35 ≤ 199 → m4.2 1 0 ≤ 6 → (0 ≤ m4.1 39 ∧ m4.1 39 ≤ 4900) → s_p5 (s_p4 (s_p3 m4)) = s_go m → zW x (fun r τ' => r = none ∧ τ' = zo σ 31 (s_go m)) 63 [some (zR 31), a] [] (zo σ 31 m4) := by
    intro m4 a hS4 hD4 hm4 hd4 hid4 hg
    have L : ∀ (n : Nat) (i : Int), 0 ≤ i → i ≤ m4.2 1 0 → m4.2 1 0 - i < n → zW x (fun r τ' => r = none ∧ τ' = zo σ 31 (s_go m)) 65 [some (zR 31), some (zI i)] [] (zo σ 31 (zfor s_f3 i m4)) := by
      intro n
      induction n with
      | zero => intro i h1 h2 h3; omega
      | succ n ih =>
        intro i h1 h2 h3
        obtain ⟨k1, k2, k3, k4, k5⟩ := KP_for KP_f3 hS4 hD4 h1 h2
        have hih := ih (i + 1) (by omega)
        rw [zfor_S _ h1] at hih
        have hgo : i = m4.2 1 0 → s_p5 (s_p4 (zfor s_f3 i m4)) = s_go m := fun e => by rw [e]; exact hg
        have e0 : (zfor s_f3 i m4).2 1 0 = m4.2 1 0 := by rw [k3.1]
        generalize zfor s_f3 i m4 = mm at hih k1 k2 k3 k4 k5 hgo e0 ⊢
        have hmn4 : mm.1 35 ≤ 199 := by rw [k3.2.2.2.2.2.2]; exact hm4
        refine z_iload_n (pc := 65) h dX8_goes_65 rfl ?_
        refine z_aloadR_n (pc := 66) h dX8_goes_66 rfl ?_
        refine z_getA4 (pc := 67) (c := 8) (j := 1) h (by first | assumption | rfl) rfl rfl fl_X8_7 dX8_goes_67 ?_
        refine z_iconst (pc := 70) h dX8_goes_70 ?_
        refine z_ialdq (pc := 71) (c := 8) (j := 1) (L := 610) h (zo_s _ _ _) (by first | assumption | rfl) (by decide) rfl (by decide) (by omega) (by omega) dX8_goes_71 (fun g71 => ?_)
        refine z_icmp_ge (pc := 72) (tgt := 103) h (by omega) (by omega) dX8_goes_72 (by decide) (fun c72 => ?_) (fun c72 => ?_)
        · exact T4 mm _ k1 k2 hmn4 (by omega) (hgo (by omega))
        · refine z_aloadR_n (pc := 75) h dX8_goes_75 rfl ?_
          refine z_iload_n (pc := 76) h dX8_goes_76 rfl ?_
          refine z_pV (pc := 77) (c := 8) h (m8_isOutDoor (by omega)) (by decide) (by first | assumption | rfl) rfl mv_X8_isOutDoor ml_X8_187 rfl dX8_goes_77 rfl (Nat.le_of_ble_eq_true rfl) ?_
          refine z_ifneB (pc := 80) (tgt := 97) h dX8_goes_80 (by decide) (fun c80 => ?_) (fun c80 => ?_)
          · refine z_inc_1 (pc := 97) h dX8_goes_97 (by decide) rfl ?_
            refine z_goto (pc := 100) (tgt := 65) h dX8_goes_100 (by decide) ?_
            refine Eq.mp ?_ (hih (by omega) (by omega))
            unfold s_f3
            first
            | (rw [if_pos ⟨of_decide_eq_false c80, by omega⟩]; done)
            | (rw [if_neg (fun z => by have z2 := z.2; omega)]; done)
            | (rw [if_neg (fun z => by exact absurd (of_decide_eq_true c80) z.1)]; done)
          · refine z_aloadR_n (pc := 83) h dX8_goes_83 rfl ?_
            refine z_getA6 (pc := 84) (c := 8) (j := 33) h (by first | assumption | rfl) rfl rfl fl_X8_66 dX8_goes_84 ?_
            refine z_iload_n (pc := 87) h dX8_goes_87 rfl ?_
            refine z_zaldq (pc := 88) (c := 8) (j := 33) (L := 6) h (zo_s _ _ _) (by first | assumption | rfl) (by decide) rfl (by decide) (by omega) (by omega) dX8_goes_88 (fun g88 => ?_)
            refine z_if_eq (pc := 89) (tgt := 97) h (by omega) dX8_goes_89 (by decide) (fun c89 => ?_) (fun c89 => ?_)
            · refine z_inc_1 (pc := 97) h dX8_goes_97 (by decide) rfl ?_
              refine z_goto (pc := 100) (tgt := 65) h dX8_goes_100 (by decide) ?_
              refine Eq.mp ?_ (hih (by omega) (by omega))
              unfold s_f3
              first
              | (rw [if_pos ⟨of_decide_eq_false c80, by omega⟩]; done)
              | (rw [if_neg (fun z => by have z2 := z.2; omega)]; done)
              | (rw [if_neg (fun z => by exact absurd (of_decide_eq_true c80) z.1)]; done)
            · refine z_aloadR_n (pc := 92) h dX8_goes_92 rfl ?_
              refine z_iload_n (pc := 93) h dX8_goes_93 rfl ?_
              refine z_vV (pc := 94) (c := 8) h (m8_takesOff k1 k2 h1 (by omega) (of_decide_eq_false c80) (by omega) hmn4 (by omega)) (by decide) (by first | assumption | rfl) rfl mv_X8_takesOff ml_X8_236 rfl dX8_goes_94 rfl (Nat.le_of_ble_eq_true rfl) ?_
              refine z_inc_1 (pc := 97) h dX8_goes_97 (by decide) rfl ?_
              refine z_goto (pc := 100) (tgt := 65) h dX8_goes_100 (by decide) ?_
              refine Eq.mp ?_ (hih (by omega) (by omega))
              unfold s_f3
              first
              | (rw [if_pos ⟨of_decide_eq_false c80, by omega⟩]; done)
              | (rw [if_neg (fun z => by have z2 := z.2; omega)]; done)
              | (rw [if_neg (fun z => by exact absurd (of_decide_eq_true c80) z.1)]; done)
    refine z_iconst (pc := 63) h dX8_goes_63 ?_
    refine z_ist_1 (pc := 64) h dX8_goes_64 (by decide) rfl ?_
    exact L (m4.2 1 0 + 1).toNat 0 (by omega) (by have := hS4.1.1; omega) (by have := hS4.1.1; omega)
  have T2 : ∀ (m4 : zOb) (a : Option Value), SI m4 → DI (-1) m4 → m4.1 35 ≤ 199 → m4.2 1 0 ≤ 6 → (0 ≤ m4.1 39 ∧ m4.1 39 ≤ 4900) → s_p5 (s_p4 (s_p3 (s_p2 m4))) = s_go m → zW x (fun r τ' => r = none ∧ τ' = zo σ 31 (s_go m)) 23 [some (zR 31), a] [] (zo σ 31 m4) := by
    intro m4 a hS4 hD4 hm4 hd4 hid4 hg
    have L : ∀ (n : Nat) (i : Int), 0 ≤ i → i ≤ m4.2 1 0 → m4.2 1 0 - i < n → zW x (fun r τ' => r = none ∧ τ' = zo σ 31 (s_go m)) 25 [some (zR 31), some (zI i)] [] (zo σ 31 (zfor s_f2 i m4)) := by
      intro n
      induction n with
      | zero => intro i h1 h2 h3; omega
      | succ n ih =>
        intro i h1 h2 h3
        obtain ⟨k1, k2, k3, k4, k5⟩ := KP_for KP_f2 hS4 hD4 h1 h2
        have h39 : (zfor s_f2 i m4).1 39 = m4.1 39 := by
          refine zfor_ind (fun (_ : Int) (m' : zOb) => m'.1 39 = m4.1 39) (n := i) rfl (fun j m' q1 q2 q3 => ?_) i h1 (Int.le_refl i)
          unfold s_f2
          split
          · rw [(s_po_39 j m').2, q3]
          · exact q3
        have hih := ih (i + 1) (by omega)
        rw [zfor_S _ h1] at hih
        have hgo : i = m4.2 1 0 → s_p5 (s_p4 (s_p3 (zfor s_f2 i m4))) = s_go m := fun e => by rw [e]; exact hg
        have e0 : (zfor s_f2 i m4).2 1 0 = m4.2 1 0 := by rw [k3.1]
        generalize zfor s_f2 i m4 = mm at hih k1 k2 k3 k4 k5 hgo e0 h39 ⊢
        have hmn4 : mm.1 35 ≤ 199 := by rw [k3.2.2.2.2.2.2]; exact hm4
        refine z_iload_n (pc := 25) h dX8_goes_25 rfl ?_
        refine z_aloadR_n (pc := 26) h dX8_goes_26 rfl ?_
        refine z_getA4 (pc := 27) (c := 8) (j := 1) h (by first | assumption | rfl) rfl rfl fl_X8_7 dX8_goes_27 ?_
        refine z_iconst (pc := 30) h dX8_goes_30 ?_
        refine z_ialdq (pc := 31) (c := 8) (j := 1) (L := 610) h (zo_s _ _ _) (by first | assumption | rfl) (by decide) rfl (by decide) (by omega) (by omega) dX8_goes_31 (fun g31 => ?_)
        refine z_icmp_ge (pc := 32) (tgt := 63) h (by omega) (by omega) dX8_goes_32 (by decide) (fun c32 => ?_) (fun c32 => ?_)
        · exact T3 mm _ k1 k2 hmn4 (by omega) (by omega) (hgo (by omega))
        · refine z_aloadR_n (pc := 35) h dX8_goes_35 rfl ?_
          refine z_iload_n (pc := 36) h dX8_goes_36 rfl ?_
          refine z_pV (pc := 37) (c := 8) h (m8_isOutDoor (by omega)) (by decide) (by first | assumption | rfl) rfl mv_X8_isOutDoor ml_X8_187 rfl dX8_goes_37 rfl (Nat.le_of_ble_eq_true rfl) ?_
          refine z_ifeqB (pc := 40) (tgt := 57) h dX8_goes_40 (by decide) (fun c40 => ?_) (fun c40 => ?_)
          · refine z_inc_1 (pc := 57) h dX8_goes_57 (by decide) rfl ?_
            refine z_goto (pc := 60) (tgt := 25) h dX8_goes_60 (by decide) ?_
            refine Eq.mp ?_ (hih (by omega) (by omega))
            unfold s_f2
            first
            | (rw [if_pos ⟨of_decide_eq_true c40, by omega⟩]; done)
            | (rw [if_neg (fun z => by have z2 := z.2; omega)]; done)
            | (rw [if_neg (fun z => by exact absurd z.1 (of_decide_eq_false c40))]; done)
          · refine z_aloadR_n (pc := 43) h dX8_goes_43 rfl ?_
            refine z_getA6 (pc := 44) (c := 8) (j := 33) h (by first | assumption | rfl) rfl rfl fl_X8_66 dX8_goes_44 ?_
            refine z_iload_n (pc := 47) h dX8_goes_47 rfl ?_
            refine z_zaldq (pc := 48) (c := 8) (j := 33) (L := 6) h (zo_s _ _ _) (by first | assumption | rfl) (by decide) rfl (by decide) (by omega) (by omega) dX8_goes_48 (fun g48 => ?_)
            refine z_if_eq (pc := 49) (tgt := 57) h (by omega) dX8_goes_49 (by decide) (fun c49 => ?_) (fun c49 => ?_)
            · refine z_inc_1 (pc := 57) h dX8_goes_57 (by decide) rfl ?_
              refine z_goto (pc := 60) (tgt := 25) h dX8_goes_60 (by decide) ?_
              refine Eq.mp ?_ (hih (by omega) (by omega))
              unfold s_f2
              first
              | (rw [if_pos ⟨of_decide_eq_true c40, by omega⟩]; done)
              | (rw [if_neg (fun z => by have z2 := z.2; omega)]; done)
              | (rw [if_neg (fun z => by exact absurd z.1 (of_decide_eq_false c40))]; done)
            · refine z_aloadR_n (pc := 52) h dX8_goes_52 rfl ?_
              refine z_iload_n (pc := 53) h dX8_goes_53 rfl ?_
              refine z_vV (pc := 54) (c := 8) h (m8_putsOn k1 k2 h1 (by omega) (of_decide_eq_true c40) (by omega) hmn4) (by decide) (by first | assumption | rfl) rfl mv_X8_putsOn ml_X8_233 rfl dX8_goes_54 rfl (Nat.le_of_ble_eq_true rfl) ?_
              refine z_inc_1 (pc := 57) h dX8_goes_57 (by decide) rfl ?_
              refine z_goto (pc := 60) (tgt := 25) h dX8_goes_60 (by decide) ?_
              refine Eq.mp ?_ (hih (by omega) (by omega))
              unfold s_f2
              first
              | (rw [if_pos ⟨of_decide_eq_true c40, by omega⟩]; done)
              | (rw [if_neg (fun z => by have z2 := z.2; omega)]; done)
              | (rw [if_neg (fun z => by exact absurd z.1 (of_decide_eq_false c40))]; done)
    refine z_iconst (pc := 23) h dX8_goes_23 ?_
    refine z_ist_1 (pc := 24) h dX8_goes_24 (by decide) rfl ?_
    exact L (m4.2 1 0 + 1).toNat 0 (by omega) (by have := hS4.1.1; omega) (by have := hS4.1.1; omega)
  have L : ∀ (n : Nat) (i : Int), 0 ≤ i → i ≤ m.2 1 0 → m.2 1 0 - i < n → zW x (fun r τ' => r = none ∧ τ' = zo σ 31 (s_go m)) 2 [some (zR 31), some (zI i)] [] (zo σ 31 (zfor s_dk i m)) := by
    intro n
    induction n with
    | zero => intro i h1 h2 h3; omega
    | succ n ih =>
      intro i h1 h2 h3
      obtain ⟨k1, k2, k3, k4, k5⟩ := KP_for KP_dk hS hD h1 h2
      have h39 : (zfor s_dk i m).1 39 = m.1 39 := by
        refine zfor_ind (fun (_ : Int) (m' : zOb) => m'.1 39 = m.1 39) (n := i) rfl (fun j m' q1 q2 q3 => ?_) i h1 (Int.le_refl i)
        unfold s_dk
        split
        · exact q3
        · exact q3
      have hih := ih (i + 1) (by omega)
      rw [zfor_S _ h1] at hih
      have hgo : i = m.2 1 0 → s_p5 (s_p4 (s_p3 (s_p2 (zfor s_dk i m)))) = s_go m := fun e => by rw [e]; rfl
      have e0 : (zfor s_dk i m).2 1 0 = m.2 1 0 := by rw [k3.1]
      generalize zfor s_dk i m = mm at hih k1 k2 k3 k4 k5 hgo e0 h39 ⊢
      have hmn4 : mm.1 35 ≤ 199 := by rw [k3.2.2.2.2.2.2]; exact hmn
      have hmm := k2.2.2.2.2.2.2.2.2
      refine z_iload_n (pc := 2) h dX8_goes_2 rfl ?_
      refine z_aloadR_n (pc := 3) h dX8_goes_3 rfl ?_
      refine z_getA4 (pc := 4) (c := 8) (j := 1) h (by first | assumption | rfl) rfl rfl fl_X8_7 dX8_goes_4 ?_
      refine z_iconst (pc := 7) h dX8_goes_7 ?_
      refine z_ialdq (pc := 8) (c := 8) (j := 1) (L := 610) h (zo_s _ _ _) (by first | assumption | rfl) (by decide) rfl (by decide) (by omega) (by omega) dX8_goes_8 (fun g8 => ?_)
      refine z_icmp_ge (pc := 9) (tgt := 23) h (by omega) (by omega) dX8_goes_9 (by decide) (fun c9 => ?_) (fun c9 => ?_)
      · exact T2 mm _ k1 k2 hmn4 (by omega) (by omega) (hgo (by omega))
      · have hdd := k2.1 i h1 (by omega)
        have hrm := k1.2.1.1 i h1 (by omega)
        refine z_aloadR_n (pc := 12) h dX8_goes_12 rfl ?_
        refine z_iload_n (pc := 13) h dX8_goes_13 rfl ?_
        refine z_vV (pc := 14) (c := 8) h (m8_docksNow (by omega) (by omega) (fun q => by have z := k1.2.1.2.1 i (mm.2 32 i) h1 (by omega) (by omega) q; have z2 := k1.1.2.1; omega) (by omega)) (by decide) (by first | assumption | rfl) rfl mv_X8_docksNow ml_X8_230 rfl dX8_goes_14 rfl (Nat.le_of_ble_eq_true rfl) ?_
        refine z_inc_1 (pc := 17) h dX8_goes_17 (by decide) rfl ?_
        refine z_goto (pc := 20) (tgt := 2) h dX8_goes_20 (by decide) ?_
        exact hih (by omega) (by omega)
  refine z_iconst (pc := 0) h dX8_goes_0 ?_
  refine z_ist_1 (pc := 1) h dX8_goes_1 (by decide) rfl ?_
  exact L (m.2 1 0 + 1).toNat 0 (by omega) (by omega) (by omega)
