/-! The class: a dock and a text are copied; read. -/
theorem zkd1 {o : Nat} (h : zoc o = 1) : zkd o 5 = (4, 6) ∧ zkd o 6 = (4, 6) ∧ zkd o 7 = (4, 8) ∧ zkd o 8 = (4, 8) ∧ zkd o 9 = (4, 8) ∧ zkd o 10 = (4, 8) ∧ zkd o 11 = (4, 8) ∧ zkd o 12 = (4, 8) ∧ zkd o 13 = (4, 8) ∧ zkd o 14 = (4, 40) ∧ zkd o 15 = (4, 40) := by
  unfold zkd
  rw [h]
  exact ⟨rfl, rfl, rfl, rfl, rfl, rfl, rfl, rfl, rfl, rfl, rfl⟩
def d_cp (x y : zOb) : zOb := osA (osA (osA (osA (osA (osA (osA (osA (osA (osA (osA (oss (oss (oss (oss (oss x 0 (y.1 0)) 1 (y.1 1)) 2 (y.1 2)) 3 (y.1 3)) 4 (y.1 4)) 5 (y.2 5)) 6 (y.2 6)) 7 (y.2 7)) 8 (y.2 8)) 9 (y.2 9)) 10 (y.2 10)) 11 (y.2 11)) 12 (y.2 12)) 13 (y.2 13)) 14 (y.2 14)) 15 (y.2 15)
theorem c_copyDock {σ : zS} {o p : Nat} {X : zOb} (ho : zoc o = 1) (hp : zoc p = 1) (hpo : p ≠ o) : zCv M_X1_copyFrom 1 [zR o, zR p] (zo σ o X) (zo σ o (d_cp X (σ p))) := by
  obtain ⟨uh5, uh6, uh7, uh8, uh9, uh10, uh11, uh12, uh13, uh14, uh15⟩ := zkd1 ho
  obtain ⟨ug5, ug6, ug7, ug8, ug9, ug10, ug11, ug12, ug13, ug14, ug15⟩ := zkd1 hp
  refine zC_of (M := M_X1_copyFrom) (ls := [some (zR o), some (zR p)]) (n := 0) (by decide) (fun ad => Nat.le_of_ble_eq_true rfl) rfl (fun x h => ?_)
  refine z_aloadR_n (pc := 0) h dX1_copyFrom_0 rfl ?_
  refine z_aloadR_n (pc := 1) h dX1_copyFrom_1 rfl ?_
  refine z_getIq (pc := 2) (c := 1) (j := 0) h (zo_n hpo) (by first | assumption | rfl) rfl rfl fl_X1_52 dX1_copyFrom_2 (fun g2 => ?_)
  refine z_putI (pc := 5) (c := 1) (j := 0) h (by first | assumption | rfl) rfl rfl fl_X1_52 rfl (tyX1_ok 0 (by decide)) dX1_copyFrom_5 (by omega) ?_
  rw [zss_zo]
  refine z_aloadR_n (pc := 8) h dX1_copyFrom_8 rfl ?_
  refine z_aloadR_n (pc := 9) h dX1_copyFrom_9 rfl ?_
  refine z_getIq (pc := 10) (c := 1) (j := 1) h (zo_n hpo) (by first | assumption | rfl) rfl rfl fl_X1_55 dX1_copyFrom_10 (fun g10 => ?_)
  try simp only [osa_1, osa_2, oss_1, oss_2, osA_1, osA_2, zup_s, reduceIte, Nat.reduceEqDiff] at g10 ⊢
  refine z_putI (pc := 13) (c := 1) (j := 1) h (by first | assumption | rfl) rfl rfl fl_X1_55 rfl (tyX1_ok 1 (by decide)) dX1_copyFrom_13 (by omega) ?_
  rw [zss_zo]
  refine z_aloadR_n (pc := 16) h dX1_copyFrom_16 rfl ?_
  refine z_aloadR_n (pc := 17) h dX1_copyFrom_17 rfl ?_
  refine z_getIq (pc := 18) (c := 1) (j := 2) h (zo_n hpo) (by first | assumption | rfl) rfl rfl fl_X1_58 dX1_copyFrom_18 (fun g18 => ?_)
  try simp only [osa_1, osa_2, oss_1, oss_2, osA_1, osA_2, zup_s, reduceIte, Nat.reduceEqDiff] at g18 ⊢
  refine z_putI (pc := 21) (c := 1) (j := 2) h (by first | assumption | rfl) rfl rfl fl_X1_58 rfl (tyX1_ok 2 (by decide)) dX1_copyFrom_21 (by omega) ?_
  rw [zss_zo]
  refine z_aloadR_n (pc := 24) h dX1_copyFrom_24 rfl ?_
  refine z_aloadR_n (pc := 25) h dX1_copyFrom_25 rfl ?_
  refine z_getIq (pc := 26) (c := 1) (j := 3) h (zo_n hpo) (by first | assumption | rfl) rfl rfl fl_X1_9 dX1_copyFrom_26 (fun g26 => ?_)
  try simp only [osa_1, osa_2, oss_1, oss_2, osA_1, osA_2, zup_s, reduceIte, Nat.reduceEqDiff] at g26 ⊢
  refine z_putI (pc := 29) (c := 1) (j := 3) h (by first | assumption | rfl) rfl rfl fl_X1_9 rfl (tyX1_ok 3 (by decide)) dX1_copyFrom_29 (by omega) ?_
  rw [zss_zo]
  refine z_aloadR_n (pc := 32) h dX1_copyFrom_32 rfl ?_
  refine z_aloadR_n (pc := 33) h dX1_copyFrom_33 rfl ?_
  refine z_getIq (pc := 34) (c := 1) (j := 4) h (zo_n hpo) (by first | assumption | rfl) rfl rfl fl_X1_15 dX1_copyFrom_34 (fun g34 => ?_)
  try simp only [osa_1, osa_2, oss_1, oss_2, osA_1, osA_2, zup_s, reduceIte, Nat.reduceEqDiff] at g34 ⊢
  refine z_putI (pc := 37) (c := 1) (j := 4) h (by first | assumption | rfl) rfl rfl fl_X1_15 rfl (tyX1_ok 4 (by decide)) dX1_copyFrom_37 (by omega) ?_
  rw [zss_zo]
  refine z_aloadR_n (pc := 40) h dX1_copyFrom_40 rfl ?_
  refine z_getA4 (pc := 41) (c := 1) (j := 5) h (by first | assumption | rfl) rfl rfl fl_X1_18 dX1_copyFrom_41 ?_
  refine z_iconst (pc := 44) h dX1_copyFrom_44 ?_
  refine z_aloadR_n (pc := 45) h dX1_copyFrom_45 rfl ?_
  refine z_getA4 (pc := 46) (c := 1) (j := 5) h (by first | assumption | rfl) rfl rfl fl_X1_18 dX1_copyFrom_46 ?_
  refine z_iconst (pc := 49) h dX1_copyFrom_49 ?_
  refine z_bipush (pc := 50) h dX1_copyFrom_50 (by decide) ?_
  refine z_copy (pc := 52) (L := 6) (kd := 4) h (by omega) (by omega) (by decide) ug5 uh5 (by decide) rfl (by decide) ml_X1_61 dX1_copyFrom_52 (Nat.le_of_ble_eq_true rfl) ?_
  rw [zcp hpo]
  refine z_aloadR_n (pc := 55) h dX1_copyFrom_55 rfl ?_
  refine z_getA4 (pc := 56) (c := 1) (j := 6) h (by first | assumption | rfl) rfl rfl fl_X1_22 dX1_copyFrom_56 ?_
  refine z_iconst (pc := 59) h dX1_copyFrom_59 ?_
  refine z_aloadR_n (pc := 60) h dX1_copyFrom_60 rfl ?_
  refine z_getA4 (pc := 61) (c := 1) (j := 6) h (by first | assumption | rfl) rfl rfl fl_X1_22 dX1_copyFrom_61 ?_
  refine z_iconst (pc := 64) h dX1_copyFrom_64 ?_
  refine z_bipush (pc := 65) h dX1_copyFrom_65 (by decide) ?_
  refine z_copy (pc := 67) (L := 6) (kd := 4) h (by omega) (by omega) (by decide) ug6 uh6 (by decide) rfl (by decide) ml_X1_61 dX1_copyFrom_67 (Nat.le_of_ble_eq_true rfl) ?_
  rw [zcp hpo]
  refine z_aloadR_n (pc := 70) h dX1_copyFrom_70 rfl ?_
  refine z_getA4 (pc := 71) (c := 1) (j := 7) h (by first | assumption | rfl) rfl rfl fl_X1_25 dX1_copyFrom_71 ?_
  refine z_iconst (pc := 74) h dX1_copyFrom_74 ?_
  refine z_aloadR_n (pc := 75) h dX1_copyFrom_75 rfl ?_
  refine z_getA4 (pc := 76) (c := 1) (j := 7) h (by first | assumption | rfl) rfl rfl fl_X1_25 dX1_copyFrom_76 ?_
  refine z_iconst (pc := 79) h dX1_copyFrom_79 ?_
  refine z_bipush (pc := 80) h dX1_copyFrom_80 (by decide) ?_
  refine z_copy (pc := 82) (L := 8) (kd := 4) h (by omega) (by omega) (by decide) ug7 uh7 (by decide) rfl (by decide) ml_X1_61 dX1_copyFrom_82 (Nat.le_of_ble_eq_true rfl) ?_
  rw [zcp hpo]
  refine z_aloadR_n (pc := 85) h dX1_copyFrom_85 rfl ?_
  refine z_getA4 (pc := 86) (c := 1) (j := 8) h (by first | assumption | rfl) rfl rfl fl_X1_28 dX1_copyFrom_86 ?_
  refine z_iconst (pc := 89) h dX1_copyFrom_89 ?_
  refine z_aloadR_n (pc := 90) h dX1_copyFrom_90 rfl ?_
  refine z_getA4 (pc := 91) (c := 1) (j := 8) h (by first | assumption | rfl) rfl rfl fl_X1_28 dX1_copyFrom_91 ?_
  refine z_iconst (pc := 94) h dX1_copyFrom_94 ?_
  refine z_bipush (pc := 95) h dX1_copyFrom_95 (by decide) ?_
  refine z_copy (pc := 97) (L := 8) (kd := 4) h (by omega) (by omega) (by decide) ug8 uh8 (by decide) rfl (by decide) ml_X1_61 dX1_copyFrom_97 (Nat.le_of_ble_eq_true rfl) ?_
  rw [zcp hpo]
  refine z_aloadR_n (pc := 100) h dX1_copyFrom_100 rfl ?_
  refine z_getA4 (pc := 101) (c := 1) (j := 9) h (by first | assumption | rfl) rfl rfl fl_X1_31 dX1_copyFrom_101 ?_
  refine z_iconst (pc := 104) h dX1_copyFrom_104 ?_
  refine z_aloadR_n (pc := 105) h dX1_copyFrom_105 rfl ?_
  refine z_getA4 (pc := 106) (c := 1) (j := 9) h (by first | assumption | rfl) rfl rfl fl_X1_31 dX1_copyFrom_106 ?_
  refine z_iconst (pc := 109) h dX1_copyFrom_109 ?_
  refine z_bipush (pc := 110) h dX1_copyFrom_110 (by decide) ?_
  refine z_copy (pc := 112) (L := 8) (kd := 4) h (by omega) (by omega) (by decide) ug9 uh9 (by decide) rfl (by decide) ml_X1_61 dX1_copyFrom_112 (Nat.le_of_ble_eq_true rfl) ?_
  rw [zcp hpo]
  refine z_aloadR_n (pc := 115) h dX1_copyFrom_115 rfl ?_
  refine z_getA4 (pc := 116) (c := 1) (j := 10) h (by first | assumption | rfl) rfl rfl fl_X1_34 dX1_copyFrom_116 ?_
  refine z_iconst (pc := 119) h dX1_copyFrom_119 ?_
  refine z_aloadR_n (pc := 120) h dX1_copyFrom_120 rfl ?_
  refine z_getA4 (pc := 121) (c := 1) (j := 10) h (by first | assumption | rfl) rfl rfl fl_X1_34 dX1_copyFrom_121 ?_
  refine z_iconst (pc := 124) h dX1_copyFrom_124 ?_
  refine z_bipush (pc := 125) h dX1_copyFrom_125 (by decide) ?_
  refine z_copy (pc := 127) (L := 8) (kd := 4) h (by omega) (by omega) (by decide) ug10 uh10 (by decide) rfl (by decide) ml_X1_61 dX1_copyFrom_127 (Nat.le_of_ble_eq_true rfl) ?_
  rw [zcp hpo]
  refine z_aloadR_n (pc := 130) h dX1_copyFrom_130 rfl ?_
  refine z_getA4 (pc := 131) (c := 1) (j := 11) h (by first | assumption | rfl) rfl rfl fl_X1_37 dX1_copyFrom_131 ?_
  refine z_iconst (pc := 134) h dX1_copyFrom_134 ?_
  refine z_aloadR_n (pc := 135) h dX1_copyFrom_135 rfl ?_
  refine z_getA4 (pc := 136) (c := 1) (j := 11) h (by first | assumption | rfl) rfl rfl fl_X1_37 dX1_copyFrom_136 ?_
  refine z_iconst (pc := 139) h dX1_copyFrom_139 ?_
  refine z_bipush (pc := 140) h dX1_copyFrom_140 (by decide) ?_
  refine z_copy (pc := 142) (L := 8) (kd := 4) h (by omega) (by omega) (by decide) ug11 uh11 (by decide) rfl (by decide) ml_X1_61 dX1_copyFrom_142 (Nat.le_of_ble_eq_true rfl) ?_
  rw [zcp hpo]
  refine z_aloadR_n (pc := 145) h dX1_copyFrom_145 rfl ?_
  refine z_getA4 (pc := 146) (c := 1) (j := 12) h (by first | assumption | rfl) rfl rfl fl_X1_40 dX1_copyFrom_146 ?_
  refine z_iconst (pc := 149) h dX1_copyFrom_149 ?_
  refine z_aloadR_n (pc := 150) h dX1_copyFrom_150 rfl ?_
  refine z_getA4 (pc := 151) (c := 1) (j := 12) h (by first | assumption | rfl) rfl rfl fl_X1_40 dX1_copyFrom_151 ?_
  refine z_iconst (pc := 154) h dX1_copyFrom_154 ?_
  refine z_bipush (pc := 155) h dX1_copyFrom_155 (by decide) ?_
  refine z_copy (pc := 157) (L := 8) (kd := 4) h (by omega) (by omega) (by decide) ug12 uh12 (by decide) rfl (by decide) ml_X1_61 dX1_copyFrom_157 (Nat.le_of_ble_eq_true rfl) ?_
  rw [zcp hpo]
  refine z_aloadR_n (pc := 160) h dX1_copyFrom_160 rfl ?_
  refine z_getA4 (pc := 161) (c := 1) (j := 13) h (by first | assumption | rfl) rfl rfl fl_X1_43 dX1_copyFrom_161 ?_
  refine z_iconst (pc := 164) h dX1_copyFrom_164 ?_
  refine z_aloadR_n (pc := 165) h dX1_copyFrom_165 rfl ?_
  refine z_getA4 (pc := 166) (c := 1) (j := 13) h (by first | assumption | rfl) rfl rfl fl_X1_43 dX1_copyFrom_166 ?_
  refine z_iconst (pc := 169) h dX1_copyFrom_169 ?_
  refine z_bipush (pc := 170) h dX1_copyFrom_170 (by decide) ?_
  refine z_copy (pc := 172) (L := 8) (kd := 4) h (by omega) (by omega) (by decide) ug13 uh13 (by decide) rfl (by decide) ml_X1_61 dX1_copyFrom_172 (Nat.le_of_ble_eq_true rfl) ?_
  rw [zcp hpo]
  refine z_aloadR_n (pc := 175) h dX1_copyFrom_175 rfl ?_
  refine z_getA4 (pc := 176) (c := 1) (j := 14) h (by first | assumption | rfl) rfl rfl fl_X1_46 dX1_copyFrom_176 ?_
  refine z_iconst (pc := 179) h dX1_copyFrom_179 ?_
  refine z_aloadR_n (pc := 180) h dX1_copyFrom_180 rfl ?_
  refine z_getA4 (pc := 181) (c := 1) (j := 14) h (by first | assumption | rfl) rfl rfl fl_X1_46 dX1_copyFrom_181 ?_
  refine z_iconst (pc := 184) h dX1_copyFrom_184 ?_
  refine z_bipush (pc := 185) h dX1_copyFrom_185 (by decide) ?_
  refine z_copy (pc := 187) (L := 40) (kd := 4) h (by omega) (by omega) (by decide) ug14 uh14 (by decide) rfl (by decide) ml_X1_61 dX1_copyFrom_187 (Nat.le_of_ble_eq_true rfl) ?_
  rw [zcp hpo]
  refine z_aloadR_n (pc := 190) h dX1_copyFrom_190 rfl ?_
  refine z_getA4 (pc := 191) (c := 1) (j := 15) h (by first | assumption | rfl) rfl rfl fl_X1_49 dX1_copyFrom_191 ?_
  refine z_iconst (pc := 194) h dX1_copyFrom_194 ?_
  refine z_aloadR_n (pc := 195) h dX1_copyFrom_195 rfl ?_
  refine z_getA4 (pc := 196) (c := 1) (j := 15) h (by first | assumption | rfl) rfl rfl fl_X1_49 dX1_copyFrom_196 ?_
  refine z_iconst (pc := 199) h dX1_copyFrom_199 ?_
  refine z_bipush (pc := 200) h dX1_copyFrom_200 (by decide) ?_
  refine z_copy (pc := 202) (L := 40) (kd := 4) h (by omega) (by omega) (by decide) ug15 uh15 (by decide) rfl (by decide) ml_X1_61 dX1_copyFrom_202 (Nat.le_of_ble_eq_true rfl) ?_
  refine z_ret (pc := 205) h rfl dX1_copyFrom_205 ?_
  rw [zcp hpo]
  exact ⟨rfl, rfl⟩
theorem zkd6 {o : Nat} (h : zoc o = 6) : zkd o 0 = (5, 400) := by
  unfold zkd
  rw [h]
  rfl
def t_cp (x y : zOb) : zOb := oss (osA x 0 (y.2 0)) 1 (y.1 1)
theorem c_copyText {σ : zS} {o p : Nat} {X : zOb} (ho : zoc o = 6) (hp : zoc p = 6) (hpo : p ≠ o) : zCv M_X6_copyFrom 1 [zR o, zR p] (zo σ o X) (zo σ o (t_cp X (σ p))) := by
  refine zC_of (M := M_X6_copyFrom) (ls := [some (zR o), some (zR p)]) (n := 0) (by decide) (fun ad => Nat.le_of_ble_eq_true rfl) rfl (fun x h => ?_)
  refine z_aloadR_n (pc := 0) h dX6_copyFrom_0 rfl ?_
  refine z_getA5 (pc := 1) (c := 6) (j := 0) h (by first | assumption | rfl) rfl rfl fl_X6_9 dX6_copyFrom_1 ?_
  refine z_iconst (pc := 4) h dX6_copyFrom_4 ?_
  refine z_aloadR_n (pc := 5) h dX6_copyFrom_5 rfl ?_
  refine z_getA5 (pc := 6) (c := 6) (j := 0) h (by first | assumption | rfl) rfl rfl fl_X6_9 dX6_copyFrom_6 ?_
  refine z_iconst (pc := 9) h dX6_copyFrom_9 ?_
  refine z_sipush (pc := 10) h dX6_copyFrom_10 (by decide) ?_
  refine z_copy (pc := 13) (L := 400) (kd := 5) h (by omega) (by omega) (by decide) (zkd6 hp) (zkd6 ho) (by decide) rfl (by decide) ml_X6_23 dX6_copyFrom_13 (Nat.le_of_ble_eq_true rfl) ?_
  rw [zcp hpo]
  refine z_aloadR_n (pc := 16) h dX6_copyFrom_16 rfl ?_
  refine z_aloadR_n (pc := 17) h dX6_copyFrom_17 rfl ?_
  refine z_getIq (pc := 18) (c := 6) (j := 1) h (zo_n hpo) (by first | assumption | rfl) rfl rfl fl_X6_19 dX6_copyFrom_18 (fun g18 => ?_)
  refine z_putI (pc := 21) (c := 6) (j := 1) h (by first | assumption | rfl) rfl rfl fl_X6_19 rfl (tyX6_ok 1 (by decide)) dX6_copyFrom_21 (by omega) ?_
  refine z_ret (pc := 24) h rfl dX6_copyFrom_24 ?_
  exact ⟨rfl, by first | rfl | (rw [zss_zo]; rfl)⟩
theorem TOLD_d {a aa : Int → Int} {x y : zOb} (h : TOLD a y) (he : ∀ i, 0 ≤ i → i < 119 → aa i = a i) : TOLD aa (d_cp x y) := by
  obtain ⟨hw, hE, har, hst, h4, hr⟩ := h
  have g0 := hw.1
  have g1 := hw.2.1
  have hw' := WFa_9 hw he
  have hE' := DKE_9 hw he hE
  refine ⟨hw', hE', fun t t0 t1 => ?_, ?_, ?_, fun i i0 i1 => ?_⟩
  · have e1 := he 1 (by omega) (by omega)
    rw [he _ (by omega) (by omega)]
    exact har t t0 (by omega)
  · rw [he 2 (by omega) (by omega)]; exact hst
  · rw [he 4 (by omega) (by omega)]; exact h4
  · rw [he i (by omega) i1]; exact hr i i0 i1
theorem TOLD_FPI {a : Int → Int} {dk : zOb} (h : TOLD a dk) : FPI a 0 0 (T0 a) := by
  obtain ⟨hw, hE, har, hst, h4, hr⟩ := h
  have g0 := hw.1
  have g1 := hw.2.1
  refine ⟨hw, ?_, fun i _ => rfl, fun u u0 u1 z => ?_, fun u u0 u1 z => rfl⟩
  · refine ⟨fun e e0 e1 => ?_, fun e j e0 e1 j0 j1 => ?_, fun t _ _ => Or.inl ⟨rfl, rfl⟩⟩
    · have e1' : e < a 0 := e1
      show 0 ≤ a (65 + e) ∧ a (65 + e) ≤ 8
      rw [hr (65 + e) (by omega) (by omega)]; omega
    · have e1' : e < a 0 := e1
      have j1' : j < a (65 + e) := j1
      rw [hr (65 + e) (by omega) (by omega)] at j1'
      omega
  · have := (hw.2.2.2.2.2.2.1 u u0 u1).2.1
    have z' : a (17 + 6 * u + 1) < 0 ∨ (a (17 + 6 * u + 1) = 0 ∧ u < 0) := z
    omega
def RDC (σ : zS) (A : ST → Int → Int) (R : Sum Int ST) (rr : Option Value) (τ : zS) : Prop := τ 1 = oss (σ 1) 1 0 ∧ (∀ o, (o = 7 ∨ o = 8 ∨ o = 9 ∨ 11 ≤ o) → τ o = σ o) ∧ (match R with
  | .inl p => rr = some (zI (-1)) ∧ τ 0 = oss (oss (σ 0) 10 1) 11 p ∧ τ 4 = σ 4 ∧ τ 5 = σ 5 ∧ τ 6 = σ 6 ∧ τ 10 = σ 10
  | .inr S => if S.2.2.2.1 = 0 then rr = some (zI (S.2.1 1)) ∧ τ 0 = oss (oss (σ 0) 10 0) 11 S.2.2.2.2 ∧ TOLD (A S) (τ 4) ∧ CS (fpl (T0 (A S))) τ ∧ τ 10 = oss (σ 10) 1 0 else rr = some (zI (-1)) ∧ τ 0 = oss (oss (σ 0) 10 S.2.2.2.1) 11 S.2.2.2.2 ∧ τ 4 = σ 4 ∧ τ 5 = σ 5 ∧ τ 6 = σ 6 ∧ τ 10 = σ 10)
theorem c_read {σ : zS} {a0 : Int → Int} {A : ST → Int → Int} (hl : 0 ≤ (σ 1).1 1 ∧ (σ 1).1 1 ≤ 400) (ha : ∀ i, 0 ≤ i → i < 119 → a0 i = if i = 2 then 10 else if i = 3 then 2 else 0) (hA : ∀ S i, 0 ≤ i → i < 119 → A S i = S.2.1 i) : zC M_X7_read 9 [zR 0] σ (fun rr τ => RDC σ A (prs ((σ 1).2 0) ((σ 1).1 1) 401 (0, a0, 0, (0, -1))) rr τ) := by
  generalize hR : prs ((σ 1).2 0) ((σ 1).1 1) 401 (0, a0, 0, (0, -1)) = R
  refine zC_of (M := M_X7_read) (ls := [some (zR 0)]) (n := 0) (by decide) (fun ad => Nat.le_of_ble_eq_true rfl) rfl (fun x h => ?_)
  have G : ∀ (τ3 : zS) (S : ST) (dk : zOb), R = .inr S → S.2.2.2.1 = 0 → TOLD S.2.1 dk → τ3 3 = dk → τ3 1 = oss (σ 1) 1 0 → τ3 0 = oss (oss (σ 0) 10 0) 11 S.2.2.2.2 → (∀ o, 4 ≤ o → τ3 o = σ o) → zW x (fun rr τ => RDC σ A R rr τ) 46 [some (zR 0)] [] τ3 := by
    intro τ3 S dk eR eb hTo t3 t1 t0 to
    have hTd : TOLD (A S) (d_cp (τ3 4) (τ3 3)) := by rw [t3]; exact TOLD_d hTo (hA S)
    have hI := TOLD_FPI hTd
    have hok := fpl_ok hI
    have hT1 : (fpl (T0 (A S))).2.2 1 = S.2.1 1 := by rw [hok.2 1 (by omega), hA S 1 (by omega) (by omega)]
    have hT2 : (fpl (T0 (A S))).2.2 2 = A S 2 := hok.2 2 (by omega)
    have hg1 := hTd.1.2.1
    have hg2 := hTd.1.2.2.1
    have hg0 := hTd.1.1
    have hDf : DKE (d_cp (τ3 4) (τ3 3)) (fpl (T0 (A S))).2.2 := DKE_x hok.2.lo hg0.2 hg1.2 hTd.2.1
    generalize hTT : fpl (T0 (A S)) = TT at hok hT1 hT2 hDf
    generalize hdd : d_cp (τ3 4) (τ3 3) = dd at hTd hDf
    refine z_aloadR_n (pc := 46) h dX7_read_46 rfl ?_
    refine z_getR (pc := 47) (c := 7) (j := 2) (o2 := 4) h rfl rfl rfl rfl fl_X7_28 dX7_read_47 ?_
    refine z_aloadR_n (pc := 50) h dX7_read_50 rfl ?_
    refine z_getR (pc := 51) (c := 7) (j := 1) (o2 := 2) h rfl rfl rfl rfl fl_X7_21 dX7_read_51 ?_
    refine z_getR (pc := 54) (c := 4) (j := 1) (o2 := 3) h rfl rfl rfl rfl fl_X7_98 dX7_read_54 ?_
    refine z_apart 4 ?_
    refine z_vV (pc := 57) (c := 1) h (c_copyDock (o := 4) (p := 3) rfl rfl (by decide)) (by decide) rfl rfl mv_X1_copyFrom ml_X7_101 rfl dX7_read_57 rfl (Nat.le_of_ble_eq_true rfl) ?_
    rw [hdd]
    refine z_aloadR_n (pc := 60) h dX7_read_60 rfl ?_
    refine z_getR (pc := 61) (c := 7) (j := 3) (o2 := 5) h rfl rfl rfl rfl fl_X7_35 dX7_read_61 ?_
    refine z_aloadR_n (pc := 64) h dX7_read_64 rfl ?_
    refine z_getR (pc := 65) (c := 7) (j := 2) (o2 := 4) h rfl rfl rfl rfl fl_X7_28 dX7_read_65 ?_
    refine z_apart 5 ?_
    refine z_callV (pc := 68) (c := 3) h (c_begin (σ := zo τ3 4 dd) (T := T0 (A S)) (a0 := A S) hI rfl rfl hTd.2.2.2.2.1 (by rw [zo_s]; exact hTd.2.1) (by rw [zo_s]; exact hTd.2.1) (by rw [zo_s]; exact hTd.2.2.1)) (by decide) rfl rfl mv_X3_begin ml_X7_105 rfl dX7_read_68 rfl (Nat.le_of_ble_eq_true rfl) (fun r68 τ68 q68 => ?_)
    obtain ⟨rfl, pl, rfl, hPL⟩ := q68
    rw [hTT] at hPL
    refine z_aloadR_n (pc := 71) h dX7_read_71 rfl ?_
    refine z_getR (pc := 72) (c := 7) (j := 8) (o2 := 10) h rfl rfl rfl rfl fl_X7_60 dX7_read_72 ?_
    refine z_iconst (pc := 75) h dX7_read_75 ?_
    refine z_apart 10 ?_
    refine z_putIo (pc := 76) (c := 0) (j := 1) h rfl rfl rfl fl_X7_108 rfl (tyX0_ok 1 (by decide)) dX7_read_76 (by omega) ?_
    generalize hτ5 : zo (zo (zo τ3 4 dd) 5 pl) 10 _ = τ5
    have s4 : τ5 4 = dd := by rw [← hτ5, zo_n (by decide), zo_n (by decide), zo_s]
    have s5 : τ5 5 = pl := by rw [← hτ5, zo_n (by decide), zo_s]
    have s10 : τ5 10 = oss (σ 10) 1 0 := by rw [← hτ5, zo_s, zo_n (by decide), zo_n (by decide), to 10 (by omega)]
    have s0 : τ5 0 = oss (oss (σ 0) 10 0) 11 S.2.2.2.2 := by rw [← hτ5, zo_n (by decide), zo_n (by decide), zo_n (by decide)]; exact t0
    have s1 : τ5 1 = oss (σ 1) 1 0 := by rw [← hτ5, zo_n (by decide), zo_n (by decide), zo_n (by decide)]; exact t1
    have so : ∀ o, (o = 7 ∨ o = 8 ∨ o = 9 ∨ 11 ≤ o) → τ5 o = σ o := fun o ho => by rw [← hτ5, zo_n (by omega), zo_n (by omega), zo_n (by omega)]; exact to o (by omega)
    clear hτ5
    have hst : dd.1 3 = TT.2.2 2 := by rw [hT2]; exact hTd.2.2.2.1
    refine z_aloadR_n (pc := 79) h dX7_read_79 rfl ?_
    refine z_getR (pc := 80) (c := 7) (j := 4) (o2 := 6) h rfl rfl rfl rfl fl_X7_44 dX7_read_80 ?_
    refine z_aloadR_n (pc := 83) h dX7_read_83 rfl ?_
    refine z_getR (pc := 84) (c := 7) (j := 2) (o2 := 4) h rfl rfl rfl rfl fl_X7_28 dX7_read_84 ?_
    refine z_getIq (pc := 87) (c := 1) (j := 3) h (by first | exact s4 | exact s4') rfl rfl rfl fl_X7_111 dX7_read_87 (fun g87 => ?_)
    refine z_apart 6 ?_
    refine z_callV (pc := 90) (c := 5) h (c_play (σ := τ5) (m := ob TT.2.2) runh6 hok.1.1 hok.1.2.1.wfr (by rw [s4]; exact hDf) (by rw [s5]; exact hPL.ple hok.1) hst) (by decide) rfl rfl mv_X5_play ml_X7_114 rfl dX7_read_90 rfl (Nat.le_of_ble_eq_true rfl) (fun r90 τ90 q90 => ?_)
    obtain ⟨rfl, Y, rfl, hRES⟩ := q90
    have s4' : zo τ5 6 Y 4 = dd := by rw [zo_n (by decide)]; exact s4
    refine z_popI (pc := 93) h dX7_read_93 ?_
    refine z_aloadR_n (pc := 94) h dX7_read_94 rfl ?_
    refine z_getR (pc := 95) (c := 7) (j := 2) (o2 := 4) h rfl rfl rfl rfl fl_X7_28 dX7_read_95 ?_
    refine z_getIq (pc := 98) (c := 1) (j := 1) h (by first | exact s4 | exact s4') rfl rfl rfl fl_X7_118 dX7_read_98 (fun g98 => ?_)
    refine z_iret (pc := 101) h rfl dX7_read_101 ?_
    refine ⟨by rw [zo_n (by decide)]; exact s1, fun o ho => by rw [zo_n (by omega)]; exact so o ho, ?_⟩
    rw [eR]
    show if S.2.2.2.1 = 0 then _ else _
    rw [if_pos eb, hTT]
    refine ⟨congrArg (fun z => some (zI z)) ?_, by rw [zo_n (by decide)]; exact s0, by rw [s4']; exact hTd, ⟨?_, ?_, ?_, ?_⟩, by rw [zo_n (by decide)]; exact s10⟩
    · show dd.1 1 = _
      rw [hTd.2.1.2.1, hA S 1 (by omega) (by omega)]
    · rw [s4']; exact hDf
    · rw [s4']; exact hst
    · rw [zo_n (by decide), s5]; exact hPL
    · rw [zo_s]; exact hRES
  refine z_aloadR_n (pc := 0) h dX7_read_0 rfl ?_
  refine z_getR (pc := 1) (c := 7) (j := 1) (o2 := 2) h rfl rfl rfl rfl fl_X7_21 dX7_read_1 ?_
  refine z_apart 3 ?_
  refine z_apart 2 ?_
  refine z_callV (pc := 4) (c := 4) h (c_follow (σ := σ) rfl rfl hl.1 hl.2 ha) (by decide) rfl rfl mv_X4_follow ml_X7_89 rfl dX7_read_4 rfl (Nat.le_of_ble_eq_true rfl) (fun r4 τ4 q4 => ?_)
  obtain ⟨rfl, r', dk', rfl, hCF⟩ := q4
  rw [hR] at hCF
  generalize hτ1 : zo (zo σ 3 dk') 2 r' = τ1
  have a2 : τ1 2 = r' := by rw [← hτ1, zo_s]
  have a3 : τ1 3 = dk' := by rw [← hτ1, zo_n (by decide), zo_s]
  have ao : ∀ o, o ≠ 2 → o ≠ 3 → τ1 o = σ o := fun o h2 h3 => by rw [← hτ1, zo_n h2, zo_n h3]
  clear hτ1
  refine z_aloadR_n (pc := 7) h dX7_read_7 rfl ?_
  refine z_getR (pc := 8) (c := 7) (j := 0) (o2 := 1) h rfl rfl rfl rfl fl_X7_10 dX7_read_8 ?_
  refine z_iconst (pc := 11) h dX7_read_11 ?_
  refine z_apart 1 ?_
  refine z_putIo (pc := 12) (c := 6) (j := 1) h rfl rfl rfl fl_X7_82 rfl (tyX6_ok 1 (by decide)) dX7_read_12 (by omega) ?_
  generalize hτ2 : zo τ1 1 (oss (τ1 1) 1 0) = τ2
  have b1 : τ2 1 = oss (σ 1) 1 0 := by rw [← hτ2, zo_s, ao 1 (by decide) (by decide)]
  have b2 : τ2 2 = r' := by rw [← hτ2, zo_n (by decide)]; exact a2
  have b3 : τ2 3 = dk' := by rw [← hτ2, zo_n (by decide)]; exact a3
  have bo : ∀ o, o ≠ 1 → o ≠ 2 → o ≠ 3 → τ2 o = σ o := fun o h1 h2 h3 => by rw [← hτ2, zo_n h1]; exact ao o h2 h3
  clear hτ2
  refine z_apart 0 ?_
  refine z_aloadR_n (pc := 15) h dX7_read_15 rfl ?_
  refine z_aloadR_n (pc := 16) h dX7_read_16 rfl ?_
  refine z_getR (pc := 17) (c := 7) (j := 1) (o2 := 2) h rfl rfl rfl rfl fl_X7_21 dX7_read_17 ?_
  refine z_getIq (pc := 20) (c := 4) (j := 4) h ((zo_n (show (2 : Nat) ≠ 0 by decide)).trans b2) rfl rfl rfl fl_X7_92 dX7_read_20 (fun g20 => ?_)
  refine z_putIo (pc := 23) (c := 7) (j := 10) h rfl rfl rfl fl_X7_71 rfl (tyX7_ok 10 (by decide)) dX7_read_23 (by omega) ?_
  refine z_aloadR_n (pc := 26) h dX7_read_26 rfl ?_
  refine z_aloadR_n (pc := 27) h dX7_read_27 rfl ?_
  refine z_getR (pc := 28) (c := 7) (j := 1) (o2 := 2) h rfl rfl rfl rfl fl_X7_21 dX7_read_28 ?_
  refine z_getIq (pc := 31) (c := 4) (j := 5) h ((zo_n (show (2 : Nat) ≠ 0 by decide)).trans b2) rfl rfl rfl fl_X7_95 dX7_read_31 (fun g31 => ?_)
  refine z_putIo (pc := 34) (c := 7) (j := 11) h rfl rfl rfl fl_X7_75 rfl (tyX7_ok 11 (by decide)) dX7_read_34 (by omega) ?_
  refine z_aloadR_n (pc := 37) h dX7_read_37 rfl ?_
  refine z_getIq (pc := 38) (c := 7) (j := 10) h (zo_s _ _ _) rfl rfl rfl fl_X7_71 dX7_read_38 (fun g38 => ?_)
  try simp only [osa_1, osa_2, oss_1, oss_2, osA_1, osA_2, zup_s, reduceIte, Nat.reduceEqDiff] at g38 ⊢
  refine z_if_eq (pc := 41) (tgt := 46) h (by omega) dX7_read_41 (by decide) (fun c41 => ?_) (fun c41 => ?_)
  · have c41' : r'.1 4 = 0 := c41
    have hex : ∃ S, R = .inr S ∧ (r'.1 4, r'.1 5) = S.2.2.2 ∧ TOLD S.2.1 dk' := by
      clear hR
      cases R with
      | inl p => have e1 : r'.1 4 = 1 := hCF.1; omega
      | inr S => exact ⟨S, rfl, hCF.1, hCF.2 (by rw [← congrArg Prod.fst hCF.1]; exact c41')⟩
    obtain ⟨S, eR, eb, eT⟩ := hex
    have e1 : r'.1 4 = S.2.2.2.1 := congrArg Prod.fst eb
    have e2 : r'.1 5 = S.2.2.2.2 := congrArg Prod.snd eb
    refine G _ S dk' eR (by rw [← e1]; exact c41') eT (by rw [zo_n (by decide)]; exact b3) (by rw [zo_n (by decide)]; exact b1) ?_ (fun o ho => by rw [zo_n (by omega)]; exact bo o (by omega) (by omega) (by omega))
    rw [zo_s, bo 0 (by decide) (by decide) (by decide), e2, c41']
  · refine z_iconst (pc := 44) h dX7_read_44 ?_
    refine z_iret (pc := 45) h rfl dX7_read_45 ?_
    have c41' : r'.1 4 ≠ 0 := c41
    have z0 : ∀ X, zo τ2 0 X 0 = X := fun X => zo_s _ _ _
    refine ⟨by rw [zo_n (by decide)]; exact b1, fun o ho => by rw [zo_n (by omega)]; exact bo o (by omega) (by omega) (by omega), ?_⟩
    rw [zo_s, zo_n (show (4 : Nat) ≠ 0 by decide), zo_n (show (5 : Nat) ≠ 0 by decide), zo_n (show (6 : Nat) ≠ 0 by decide), zo_n (show (10 : Nat) ≠ 0 by decide), bo 0 (by decide) (by decide) (by decide), bo 4 (by decide) (by decide) (by decide), bo 5 (by decide) (by decide) (by decide), bo 6 (by decide) (by decide) (by decide), bo 10 (by decide) (by decide) (by decide)]
    clear hR
    cases R with
    | inl p =>
      have e1 : r'.1 4 = 1 := hCF.1
      have e2 : r'.1 5 = p := hCF.2
      rw [e1, e2]
      exact ⟨rfl, rfl, rfl, rfl, rfl, rfl⟩
    | inr S =>
      have e1 : r'.1 4 = S.2.2.2.1 := congrArg Prod.fst hCF.1
      have e2 : r'.1 5 = S.2.2.2.2 := congrArg Prod.snd hCF.1
      show if S.2.2.2.1 = 0 then _ else _
      rw [if_neg (by rw [← e1]; exact c41'), e1, e2]
      exact ⟨rfl, rfl, rfl, rfl, rfl, rfl⟩
