/-! The class: public questions. -/
def cnQ (T : T3) (n5 ln w : Int) : Int :=
  if w = 0 then T.2.2 0 else if w = 1 then T.2.2 1 else if w = 2 then (ra T.2.2).1 20 else if w = 3 then T.2.2 2 else if w = 4 then T.2.2 3 else if w = 5 then T.2.2 4 else if w = 6 then rc T.2.2 else if w = 7 then s_on (ra T.2.2) else if w = 8 then s_lc (ra T.2.2) else if w = 9 then s_far (ra T.2.2) else if w = 10 then s_ss (ra T.2.2) else if w = 11 then (ra T.2.2).1 37 else if w = 12 then (ra T.2.2).1 38 else if w = 13 then q_ll (ra T.2.2) (T.2.2 1) else if w = 14 then q_nl (ra T.2.2) else if w = 15 then zcnt (fun t => fxd ((ra T.2.2).2 27) T.2.2 t) (T.2.2 1) else if w = 16 then n5 else if w = 17 then ln else if w = 18 then (ra T.2.2).1 39 else -1
theorem cnQ_o {T : T3} {n5 ln w : Int} (h : w < 0 ∨ 18 < w) : cnQ T n5 ln w = -1 := by
  unfold cnQ
  rw [if_neg (by omega), if_neg (by omega), if_neg (by omega), if_neg (by omega), if_neg (by omega), if_neg (by omega), if_neg (by omega), if_neg (by omega), if_neg (by omega), if_neg (by omega), if_neg (by omega), if_neg (by omega), if_neg (by omega), if_neg (by omega), if_neg (by omega), if_neg (by omega), if_neg (by omega), if_neg (by omega), if_neg (by omega)]
theorem fin6 {T : T3} {σ : zS} (hT : OKT T) (hC : CS T σ) : FIN (σ 4) (σ 6) (ra T.2.2) := by
  obtain ⟨k1, k2, k3, k4⟩ := hT.run
  exact ⟨k1, k2, by rw [k3]; exact hC.1, hC.2.2.2.1, hC.2.2.2.2.1, k4⟩
theorem ra_his {T : T3} (hT : OKT T) : ((ra T.2.2).1 37, (ra T.2.2).1 38) = s_fo (fun mu => s_stA (ra T.2.2) mu (-1)) 200 ∧ (ra T.2.2).1 39 = q_id (ra T.2.2) (T.2.2 1) := by
  have h := run_his (m := ob T.2.2) hT.1 hT.2.1.wfr
  have k3 := hT.run.2.2.1
  change (ra T.2.2).2 1 = T.2.2 at k3
  change ((ra T.2.2).1 37, (ra T.2.2).1 38) = s_fo (fun mu => s_stA (ra T.2.2) mu (-1)) 200 ∧ (ra T.2.2).1 39 = q_id (ra T.2.2) ((ra T.2.2).2 1 1) at h
  rw [k3] at h
  exact h
theorem c_count {σ : zS} {T : T3} {w : Int} (hT : OKT T) (hC : CS T σ) (hw : zin w) : zCp M_X7_count 4 [zR 0, zI w] σ (zI (cnQ T ((σ 10).1 1) ((σ 1).1 1) w)) := by
  have hF := fin6 hT hC
  have hH := ra_his hT
  obtain ⟨k1, k2, k3, k4⟩ := hT.run
  have z1 := c_putOnInAll (σ := σ) runh6 hF
  have z2 := c_lateness (σ := σ) runh6 hF
  have z3 := c_travelled (σ := σ) runh6 hF
  have z4 := c_minutesStaged (σ := σ) runh6 hF
  have z5 := c_mostStaged (σ := σ) runh6 hF
  have z6 := c_firstFullest (σ := σ) runh6 hF
  have z7 := c_lastLeaving (σ := σ) runh6 hF
  have z8 := c_neverLeaving (σ := σ) runh6 hF
  have z9 := c_idleMinutes (σ := σ) runh6 hF
  rw [zo_self] at z1 z2 z3 z4 z5 z6 z7 z8 z9
  rw [k3] at z7 z9
  rw [← hH.1] at z5 z6
  rw [← hH.2] at z9
  refine zC_of (M := M_X7_count) (ls := [some (zR 0), some (zI w)]) (n := 0) (by decide) (fun ad => Nat.le_of_ble_eq_true rfl) rfl (fun x h => ?_)
  refine z_iload_n (pc := 0) h dX7_count_0 rfl ?_
  have hsw : (w < 0 ∨ 18 < w) ∨ w = 0 ∨ w = 1 ∨ w = 2 ∨ w = 3 ∨ w = 4 ∨ w = 5 ∨ w = 6 ∨ w = 7 ∨ w = 8 ∨ w = 9 ∨ w = 10 ∨ w = 11 ∨ w = 12 ∨ w = 13 ∨ w = 14 ∨ w = 15 ∨ w = 16 ∨ w = 17 ∨ w = 18 := by omega
  rcases hsw with hsw | rfl | rfl | rfl | rfl | rfl | rfl | rfl | rfl | rfl | rfl | rfl | rfl | rfl | rfl | rfl | rfl | rfl | rfl | rfl
  · refine z_tswOut (pc := 1) (tgt := 241) h dX7_count_1 (by omega) hsw (by decide) ?_
    refine z_iconst (pc := 241) h dX7_count_241 ?_
    refine z_iret (pc := 242) h rfl dX7_count_242 ?_
    rw [cnQ_o hsw]
    exact ⟨rfl, rfl⟩
  · refine z_tswIn (pc := 1) (tgt := 92) h dX7_count_1 (by omega) (by decide) (by decide) rfl (by decide) ?_
    refine z_aloadR_n (pc := 92) h dX7_count_92 rfl ?_
    refine z_getR (pc := 93) (c := 7) (j := 2) (o2 := 4) h rfl (by first | assumption | rfl) rfl rfl fl_X7_28 dX7_count_93 ?_
    refine z_getI (pc := 96) (c := 1) (j := 0) h (by first | assumption | rfl) rfl rfl fl_X7_168 dX7_count_96 (fun g96 => ?_)
    refine z_iret (pc := 99) h rfl dX7_count_99 ?_
    exact ⟨congrArg (fun z => some (zI z)) hC.1.1, rfl⟩
  · refine z_tswIn (pc := 1) (tgt := 100) h dX7_count_1 (by omega) (by decide) (by decide) rfl (by decide) ?_
    refine z_aloadR_n (pc := 100) h dX7_count_100 rfl ?_
    refine z_getR (pc := 101) (c := 7) (j := 2) (o2 := 4) h rfl (by first | assumption | rfl) rfl rfl fl_X7_28 dX7_count_101 ?_
    refine z_getI (pc := 104) (c := 1) (j := 1) h (by first | assumption | rfl) rfl rfl fl_X7_118 dX7_count_104 (fun g104 => ?_)
    refine z_iret (pc := 107) h rfl dX7_count_107 ?_
    exact ⟨congrArg (fun z => some (zI z)) hC.1.2.1, rfl⟩
  · refine z_tswIn (pc := 1) (tgt := 108) h dX7_count_1 (by omega) (by decide) (by decide) rfl (by decide) ?_
    refine z_aloadR_n (pc := 108) h dX7_count_108 rfl ?_
    refine z_getR (pc := 109) (c := 7) (j := 2) (o2 := 4) h rfl (by first | assumption | rfl) rfl rfl fl_X7_28 dX7_count_109 ?_
    refine z_getI (pc := 112) (c := 1) (j := 2) h (by first | assumption | rfl) rfl rfl fl_X7_171 dX7_count_112 (fun g112 => ?_)
    refine z_iret (pc := 115) h rfl dX7_count_115 ?_
    exact ⟨congrArg (fun z => some (zI z)) (show (σ 4).1 2 = (ra T.2.2).1 20 by rw [hC.1.2.2.1, k1.2.2.1, k3]), rfl⟩
  · refine z_tswIn (pc := 1) (tgt := 116) h dX7_count_1 (by omega) (by decide) (by decide) rfl (by decide) ?_
    refine z_aloadR_n (pc := 116) h dX7_count_116 rfl ?_
    refine z_getR (pc := 117) (c := 7) (j := 2) (o2 := 4) h rfl (by first | assumption | rfl) rfl rfl fl_X7_28 dX7_count_117 ?_
    refine z_getI (pc := 120) (c := 1) (j := 3) h (by first | assumption | rfl) rfl rfl fl_X7_111 dX7_count_120 (fun g120 => ?_)
    refine z_iret (pc := 123) h rfl dX7_count_123 ?_
    exact ⟨congrArg (fun z => some (zI z)) hC.2.1, rfl⟩
  · refine z_tswIn (pc := 1) (tgt := 124) h dX7_count_1 (by omega) (by decide) (by decide) rfl (by decide) ?_
    refine z_aloadR_n (pc := 124) h dX7_count_124 rfl ?_
    refine z_getR (pc := 125) (c := 7) (j := 2) (o2 := 4) h rfl (by first | assumption | rfl) rfl rfl fl_X7_28 dX7_count_125 ?_
    refine z_getI (pc := 128) (c := 1) (j := 4) h (by first | assumption | rfl) rfl rfl fl_X7_174 dX7_count_128 (fun g128 => ?_)
    refine z_iret (pc := 131) h rfl dX7_count_131 ?_
    exact ⟨congrArg (fun z => some (zI z)) hC.1.2.2.2.1, rfl⟩
  · refine z_tswIn (pc := 1) (tgt := 132) h dX7_count_1 (by omega) (by decide) (by decide) rfl (by decide) ?_
    refine z_aloadR_n (pc := 132) h dX7_count_132 rfl ?_
    refine z_getR (pc := 133) (c := 7) (j := 3) (o2 := 5) h rfl (by first | assumption | rfl) rfl rfl fl_X7_35 dX7_count_133 ?_
    refine z_getI (pc := 136) (c := 3) (j := 3) h (by first | assumption | rfl) rfl rfl fl_X7_153 dX7_count_136 (fun g136 => ?_)
    refine z_iret (pc := 139) h rfl dX7_count_139 ?_
    exact ⟨congrArg (fun z => some (zI z)) hC.2.2.1.2.2.2, rfl⟩
  · refine z_tswIn (pc := 1) (tgt := 140) h dX7_count_1 (by omega) (by decide) (by decide) rfl (by decide) ?_
    refine z_aloadR_n (pc := 140) h dX7_count_140 rfl ?_
    refine z_getR (pc := 141) (c := 7) (j := 4) (o2 := 6) h rfl (by first | assumption | rfl) rfl rfl fl_X7_44 dX7_count_141 ?_
    refine z_getI (pc := 144) (c := 5) (j := 18) h (by first | assumption | rfl) rfl rfl fl_X7_177 dX7_count_144 (fun g144 => ?_)
    refine z_iret (pc := 147) h rfl dX7_count_147 ?_
    exact ⟨congrArg (fun z => some (zI z)) hC.2.2.2.2.2, rfl⟩
  · refine z_tswIn (pc := 1) (tgt := 148) h dX7_count_1 (by omega) (by decide) (by decide) rfl (by decide) ?_
    refine z_aloadR_n (pc := 148) h dX7_count_148 rfl ?_
    refine z_getR (pc := 149) (c := 7) (j := 4) (o2 := 6) h rfl (by first | assumption | rfl) rfl rfl fl_X7_44 dX7_count_149 ?_
    refine z_pV (pc := 152) (c := 5) h (z1) (by decide) (by first | assumption | rfl) rfl mv_X5_putOnInAll ml_X7_180 rfl dX7_count_152 rfl (Nat.le_of_ble_eq_true rfl) ?_
    refine z_iret (pc := 155) h rfl dX7_count_155 ?_
    exact ⟨rfl, rfl⟩
  · refine z_tswIn (pc := 1) (tgt := 156) h dX7_count_1 (by omega) (by decide) (by decide) rfl (by decide) ?_
    refine z_aloadR_n (pc := 156) h dX7_count_156 rfl ?_
    refine z_getR (pc := 157) (c := 7) (j := 4) (o2 := 6) h rfl (by first | assumption | rfl) rfl rfl fl_X7_44 dX7_count_157 ?_
    refine z_pV (pc := 160) (c := 5) h (z2) (by decide) (by first | assumption | rfl) rfl mv_X5_lateness ml_X7_183 rfl dX7_count_160 rfl (Nat.le_of_ble_eq_true rfl) ?_
    refine z_iret (pc := 163) h rfl dX7_count_163 ?_
    exact ⟨rfl, rfl⟩
  · refine z_tswIn (pc := 1) (tgt := 164) h dX7_count_1 (by omega) (by decide) (by decide) rfl (by decide) ?_
    refine z_aloadR_n (pc := 164) h dX7_count_164 rfl ?_
    refine z_getR (pc := 165) (c := 7) (j := 4) (o2 := 6) h rfl (by first | assumption | rfl) rfl rfl fl_X7_44 dX7_count_165 ?_
    refine z_pV (pc := 168) (c := 5) h (z3) (by decide) (by first | assumption | rfl) rfl mv_X5_travelled ml_X7_186 rfl dX7_count_168 rfl (Nat.le_of_ble_eq_true rfl) ?_
    refine z_iret (pc := 171) h rfl dX7_count_171 ?_
    exact ⟨rfl, rfl⟩
  · refine z_tswIn (pc := 1) (tgt := 172) h dX7_count_1 (by omega) (by decide) (by decide) rfl (by decide) ?_
    refine z_aloadR_n (pc := 172) h dX7_count_172 rfl ?_
    refine z_getR (pc := 173) (c := 7) (j := 4) (o2 := 6) h rfl (by first | assumption | rfl) rfl rfl fl_X7_44 dX7_count_173 ?_
    refine z_pV (pc := 176) (c := 5) h (z4) (by decide) (by first | assumption | rfl) rfl mv_X5_minutesStaged ml_X7_189 rfl dX7_count_176 rfl (Nat.le_of_ble_eq_true rfl) ?_
    refine z_iret (pc := 179) h rfl dX7_count_179 ?_
    exact ⟨rfl, rfl⟩
  · refine z_tswIn (pc := 1) (tgt := 180) h dX7_count_1 (by omega) (by decide) (by decide) rfl (by decide) ?_
    refine z_aloadR_n (pc := 180) h dX7_count_180 rfl ?_
    refine z_getR (pc := 181) (c := 7) (j := 4) (o2 := 6) h rfl (by first | assumption | rfl) rfl rfl fl_X7_44 dX7_count_181 ?_
    refine z_pV (pc := 184) (c := 5) h (z5) (by decide) (by first | assumption | rfl) rfl mv_X5_mostStaged ml_X7_192 rfl dX7_count_184 rfl (Nat.le_of_ble_eq_true rfl) ?_
    refine z_iret (pc := 187) h rfl dX7_count_187 ?_
    exact ⟨rfl, rfl⟩
  · refine z_tswIn (pc := 1) (tgt := 188) h dX7_count_1 (by omega) (by decide) (by decide) rfl (by decide) ?_
    refine z_aloadR_n (pc := 188) h dX7_count_188 rfl ?_
    refine z_getR (pc := 189) (c := 7) (j := 4) (o2 := 6) h rfl (by first | assumption | rfl) rfl rfl fl_X7_44 dX7_count_189 ?_
    refine z_pV (pc := 192) (c := 5) h (z6) (by decide) (by first | assumption | rfl) rfl mv_X5_firstFullest ml_X7_195 rfl dX7_count_192 rfl (Nat.le_of_ble_eq_true rfl) ?_
    refine z_iret (pc := 195) h rfl dX7_count_195 ?_
    exact ⟨rfl, rfl⟩
  · refine z_tswIn (pc := 1) (tgt := 196) h dX7_count_1 (by omega) (by decide) (by decide) rfl (by decide) ?_
    refine z_aloadR_n (pc := 196) h dX7_count_196 rfl ?_
    refine z_getR (pc := 197) (c := 7) (j := 4) (o2 := 6) h rfl (by first | assumption | rfl) rfl rfl fl_X7_44 dX7_count_197 ?_
    refine z_pV (pc := 200) (c := 5) h (z7) (by decide) (by first | assumption | rfl) rfl mv_X5_lastLeaving ml_X7_198 rfl dX7_count_200 rfl (Nat.le_of_ble_eq_true rfl) ?_
    refine z_iret (pc := 203) h rfl dX7_count_203 ?_
    exact ⟨rfl, rfl⟩
  · refine z_tswIn (pc := 1) (tgt := 204) h dX7_count_1 (by omega) (by decide) (by decide) rfl (by decide) ?_
    refine z_aloadR_n (pc := 204) h dX7_count_204 rfl ?_
    refine z_getR (pc := 205) (c := 7) (j := 4) (o2 := 6) h rfl (by first | assumption | rfl) rfl rfl fl_X7_44 dX7_count_205 ?_
    refine z_pV (pc := 208) (c := 5) h (z8) (by decide) (by first | assumption | rfl) rfl mv_X5_neverLeaving ml_X7_201 rfl dX7_count_208 rfl (Nat.le_of_ble_eq_true rfl) ?_
    refine z_iret (pc := 211) h rfl dX7_count_211 ?_
    exact ⟨rfl, rfl⟩
  · refine z_tswIn (pc := 1) (tgt := 212) h dX7_count_1 (by omega) (by decide) (by decide) rfl (by decide) ?_
    refine z_aloadR_n (pc := 212) h dX7_count_212 rfl ?_
    refine z_pV (pc := 213) (c := 7) h (c_fixedInAll hT hC) (by decide) (by first | assumption | rfl) rfl mv_X7_fixedInAll ml_X7_204 rfl dX7_count_213 rfl (Nat.le_of_ble_eq_true rfl) ?_
    refine z_iret (pc := 216) h rfl dX7_count_216 ?_
    exact ⟨rfl, rfl⟩
  · refine z_tswIn (pc := 1) (tgt := 217) h dX7_count_1 (by omega) (by decide) (by decide) rfl (by decide) ?_
    refine z_aloadR_n (pc := 217) h dX7_count_217 rfl ?_
    refine z_getR (pc := 218) (c := 7) (j := 8) (o2 := 10) h rfl (by first | assumption | rfl) rfl rfl fl_X7_60 dX7_count_218 ?_
    refine z_getI (pc := 221) (c := 0) (j := 1) h (by first | assumption | rfl) rfl rfl fl_X7_108 dX7_count_221 (fun g221 => ?_)
    refine z_iret (pc := 224) h rfl dX7_count_224 ?_
    exact ⟨rfl, rfl⟩
  · refine z_tswIn (pc := 1) (tgt := 225) h dX7_count_1 (by omega) (by decide) (by decide) rfl (by decide) ?_
    refine z_aloadR_n (pc := 225) h dX7_count_225 rfl ?_
    refine z_getR (pc := 226) (c := 7) (j := 0) (o2 := 1) h rfl (by first | assumption | rfl) rfl rfl fl_X7_10 dX7_count_226 ?_
    refine z_getI (pc := 229) (c := 6) (j := 1) h (by first | assumption | rfl) rfl rfl fl_X7_82 dX7_count_229 (fun g229 => ?_)
    refine z_iret (pc := 232) h rfl dX7_count_232 ?_
    exact ⟨rfl, rfl⟩
  · refine z_tswIn (pc := 1) (tgt := 233) h dX7_count_1 (by omega) (by decide) (by decide) rfl (by decide) ?_
    refine z_aloadR_n (pc := 233) h dX7_count_233 rfl ?_
    refine z_getR (pc := 234) (c := 7) (j := 4) (o2 := 6) h rfl (by first | assumption | rfl) rfl rfl fl_X7_44 dX7_count_234 ?_
    refine z_pV (pc := 237) (c := 5) h (z9) (by decide) (by first | assumption | rfl) rfl mv_X5_idleMinutes ml_X7_207 rfl dX7_count_237 rfl (Nat.le_of_ble_eq_true rfl) ?_
    refine z_iret (pc := 240) h rfl dX7_count_240 ?_
    exact ⟨rfl, rfl⟩
def rwQ (T : T3) (d k : Int) : Int := if 0 ≤ d ∧ d < T.2.2 0 ∧ 0 ≤ k ∧ k < T.2.2 (65 + d) then T.2.2 (71 + 8 * d + k) else -1
theorem c_row {σ : zS} {T : T3} {d k : Int} (hT : OKT T) (hC : CS T σ) (hd : zin d) (hk : zin k) : zCp M_X7_row 3 [zR 0, zI d, zI k] σ (zI (rwQ T d k)) := by
  have e0 : zsc σ 4 0 = T.2.2 0 := hC.1.1
  have hP := hC.2.2.1.ple hT
  refine zC_of (M := M_X7_row) (ls := [some (zR 0), some (zI d), some (zI k)]) (n := 0) (by decide) (fun ad => Nat.le_of_ble_eq_true rfl) rfl (fun x h => ?_)
  refine z_aloadR_n (pc := 0) h dX7_row_0 rfl ?_
  refine z_getR (pc := 1) (c := 7) (j := 2) (o2 := 4) h rfl (by first | assumption | rfl) rfl rfl fl_X7_28 dX7_row_1 ?_
  refine z_iload_n (pc := 4) h dX7_row_4 rfl ?_
  refine z_pV (pc := 5) (c := 1) h (m_X1_hasDoor rfl hd) (by decide) (by first | assumption | rfl) rfl mv_X1_hasDoor ml_X7_210 rfl dX7_row_5 rfl (Nat.le_of_ble_eq_true rfl) ?_
  refine z_ifeqB (pc := 8) (tgt := 23) h dX7_row_8 (by decide) (fun c8 => ?_) (fun c8 => ?_)
  · refine z_iconst (pc := 23) h dX7_row_23 ?_
    refine z_iret (pc := 24) h rfl dX7_row_24 ?_
    unfold rwQ
    first
    | (have z := of_decide_eq_false c8; rw [e0] at z; rw [if_neg (fun y => z ⟨y.1, y.2.1⟩)]; exact ⟨rfl, rfl⟩)
    | (have z := of_decide_eq_true c8; rw [e0] at z; rw [p_at_eq hT.1 hT.2.1.wfr hP z.1 z.2]; exact ⟨congrArg (fun z => some (zI z)) (by by_cases y : 0 ≤ k ∧ k < T.2.2 (65 + d); (rw [if_pos y, if_pos ⟨z.1, z.2, y⟩]); (rw [if_neg y, if_neg (fun q => y q.2.2)])), rfl⟩)
  · refine z_aloadR_n (pc := 11) h dX7_row_11 rfl ?_
    refine z_getR (pc := 12) (c := 7) (j := 3) (o2 := 5) h rfl (by first | assumption | rfl) rfl rfl fl_X7_35 dX7_row_12 ?_
    refine z_iload_n (pc := 15) h dX7_row_15 rfl ?_
    refine z_iload_n (pc := 16) h dX7_row_16 rfl ?_
    refine z_pV (pc := 17) (c := 3) h (m_X3_truckAt rfl hd hk) (by decide) (by first | assumption | rfl) rfl mv_X3_truckAt ml_X7_237 rfl dX7_row_17 rfl (Nat.le_of_ble_eq_true rfl) ?_
    refine z_goto (pc := 20) (tgt := 24) h dX7_row_20 (by decide) ?_
    refine z_iret (pc := 24) h rfl dX7_row_24 ?_
    unfold rwQ
    first
    | (have z := of_decide_eq_false c8; rw [e0] at z; rw [if_neg (fun y => z ⟨y.1, y.2.1⟩)]; exact ⟨rfl, rfl⟩)
    | (have z := of_decide_eq_true c8; rw [e0] at z; rw [p_at_eq hT.1 hT.2.1.wfr hP z.1 z.2]; exact ⟨congrArg (fun z => some (zI z)) (by by_cases y : 0 ≤ k ∧ k < T.2.2 (65 + d); (rw [if_pos y, if_pos ⟨z.1, z.2, y⟩]); (rw [if_neg y, if_neg (fun q => y q.2.2)])), rfl⟩)
theorem c_isMinute {σ : zS} {w : Int} (hw : zin w) : zCp M_X7_isMinute 1 [zI w] σ (zB (decide (0 ≤ w ∧ w ≤ 199))) := by
  refine zC_of (M := M_X7_isMinute) (ls := [some (zI w)]) (n := 0) (by decide) (fun ad => Nat.le_of_ble_eq_true rfl) rfl (fun x h => ?_)
  refine z_iload_n (pc := 0) h dX7_isMinute_0 rfl ?_
  refine z_if_lt (pc := 1) (tgt := 15) h (by omega) dX7_isMinute_1 (by decide) (fun c1 => ?_) (fun c1 => ?_)
  · refine z_iconst (pc := 15) h dX7_isMinute_15 ?_
    refine z_zret (pc := 16) h rfl (by omega) dX7_isMinute_16 ?_
    first
    | (rw [decide_eq_true (by omega)]; exact ⟨rfl, rfl⟩)
    | (rw [decide_eq_false (by omega)]; exact ⟨rfl, rfl⟩)
  · refine z_iload_n (pc := 4) h dX7_isMinute_4 rfl ?_
    refine z_sipush (pc := 5) h dX7_isMinute_5 (by decide) ?_
    refine z_icmp_ge (pc := 8) (tgt := 15) h (by omega) (by omega) dX7_isMinute_8 (by decide) (fun c8 => ?_) (fun c8 => ?_)
    · refine z_iconst (pc := 15) h dX7_isMinute_15 ?_
      refine z_zret (pc := 16) h rfl (by omega) dX7_isMinute_16 ?_
      first
      | (rw [decide_eq_true (by omega)]; exact ⟨rfl, rfl⟩)
      | (rw [decide_eq_false (by omega)]; exact ⟨rfl, rfl⟩)
    · refine z_iconst (pc := 11) h dX7_isMinute_11 ?_
      refine z_goto (pc := 12) (tgt := 16) h dX7_isMinute_12 (by decide) ?_
      refine z_zret (pc := 16) h rfl (by omega) dX7_isMinute_16 ?_
      first
      | (rw [decide_eq_true (by omega)]; exact ⟨rfl, rfl⟩)
      | (rw [decide_eq_false (by omega)]; exact ⟨rfl, rfl⟩)
def sgQ (T : T3) (mu z : Int) : Int := if (0 ≤ mu ∧ mu ≤ 199) ∧ -1 ≤ z ∧ z ≤ 3 then s_stA (ra T.2.2) mu z else -1
theorem c_staged {σ : zS} {T : T3} {w z : Int} (hT : OKT T) (hC : CS T σ) (hw : zin w) (hz : zin z) : zCp M_X7_staged 3 [zR 0, zI w, zI z] σ (zI (sgQ T w z)) := by
  have hF := fin6 hT hC
  have z1 := fun a b => c_stagedAtEnd (σ := σ) (mu := w) (z := z) runh6 hF a b
  rw [zo_self] at z1
  unfold sgQ
  refine zC_of (M := M_X7_staged) (ls := [some (zR 0), some (zI w), some (zI z)]) (n := 0) (by decide) (fun ad => Nat.le_of_ble_eq_true rfl) rfl (fun x h => ?_)
  refine z_iload_n (pc := 0) h dX7_staged_0 rfl ?_
  refine z_pS (pc := 1) h (c_isMinute hw) (by decide) ms_X7_isMinute ml_X7_308 rfl dX7_staged_1 rfl (Nat.le_of_ble_eq_true rfl) ?_
  refine z_ifeqB (pc := 4) (tgt := 17) h dX7_staged_4 (by decide) (fun c4 => ?_) (fun c4 => ?_)
  · refine z_iconst (pc := 17) h dX7_staged_17 ?_
    refine z_iret (pc := 18) h rfl dX7_staged_18 ?_
    first
    | (have y := of_decide_eq_false c4; rw [if_neg (fun q => y q.1)]; exact ⟨rfl, rfl⟩)
    | (rw [if_neg (by omega)]; exact ⟨rfl, rfl⟩)
  · have z4 := of_decide_eq_true c4
    refine z_iload_n (pc := 7) h dX7_staged_7 rfl ?_
    refine z_iconst (pc := 8) h dX7_staged_8 ?_
    refine z_icmp_lt (pc := 9) (tgt := 17) h (by omega) (by omega) dX7_staged_9 (by decide) (fun c9 => ?_) (fun c9 => ?_)
    · refine z_iconst (pc := 17) h dX7_staged_17 ?_
      refine z_iret (pc := 18) h rfl dX7_staged_18 ?_
      first
      | (have y := of_decide_eq_false c4; rw [if_neg (fun q => y q.1)]; exact ⟨rfl, rfl⟩)
      | (rw [if_neg (by omega)]; exact ⟨rfl, rfl⟩)
    · refine z_iload_n (pc := 12) h dX7_staged_12 rfl ?_
      refine z_iconst (pc := 13) h dX7_staged_13 ?_
      refine z_icmp_lt (pc := 14) (tgt := 19) h (by omega) (by omega) dX7_staged_14 (by decide) (fun c14 => ?_) (fun c14 => ?_)
      · refine z_aloadR_n (pc := 19) h dX7_staged_19 rfl ?_
        refine z_getR (pc := 20) (c := 7) (j := 4) (o2 := 6) h rfl (by first | assumption | rfl) rfl rfl fl_X7_44 dX7_staged_20 ?_
        refine z_iload_n (pc := 23) h dX7_staged_23 rfl ?_
        refine z_iload_n (pc := 24) h dX7_staged_24 rfl ?_
        refine z_pV (pc := 25) (c := 5) h (z1 z4 (by omega)) (by decide) (by first | assumption | rfl) rfl mv_X5_stagedAtEnd ml_X7_311 rfl dX7_staged_25 rfl (Nat.le_of_ble_eq_true rfl) ?_
        refine z_iret (pc := 28) h rfl dX7_staged_28 ?_
        rw [if_pos (by omega)]
        exact ⟨rfl, rfl⟩
      · refine z_iconst (pc := 17) h dX7_staged_17 ?_
        refine z_iret (pc := 18) h rfl dX7_staged_18 ?_
        first
        | (have y := of_decide_eq_false c4; rw [if_neg (fun q => y q.1)]; exact ⟨rfl, rfl⟩)
        | (rw [if_neg (by omega)]; exact ⟨rfl, rfl⟩)
def atQ (T : T3) (d mu : Int) : Int := if (0 ≤ d ∧ d < T.2.2 0) ∧ 0 ≤ mu ∧ mu ≤ 199 then q_st T.1 (ra T.2.2) d mu else -1
theorem c_at {σ : zS} {T : T3} {d mu : Int} (hT : OKT T) (hC : CS T σ) (hd : zin d) (hw : zin mu) : zCp M_X7_at 3 [zR 0, zI d, zI mu] σ (zI (atQ T d mu)) := by
  have hF := fin6 hT hC
  have z1 := c_standingAt (σ := σ) (d := d) (mu := mu) runh6 hF hd hw
  rw [zo_self, hC.2.2.1.1] at z1
  have e0 : zsc σ 4 0 = T.2.2 0 := hC.1.1
  unfold atQ
  refine zC_of (M := M_X7_at) (ls := [some (zR 0), some (zI d), some (zI mu)]) (n := 0) (by decide) (fun ad => Nat.le_of_ble_eq_true rfl) rfl (fun x h => ?_)
  refine z_aloadR_n (pc := 0) h dX7_at_0 rfl ?_
  refine z_getR (pc := 1) (c := 7) (j := 2) (o2 := 4) h rfl (by first | assumption | rfl) rfl rfl fl_X7_28 dX7_at_1 ?_
  refine z_iload_n (pc := 4) h dX7_at_4 rfl ?_
  refine z_pV (pc := 5) (c := 1) h (m_X1_hasDoor rfl hd) (by decide) (by first | assumption | rfl) rfl mv_X1_hasDoor ml_X7_210 rfl dX7_at_5 rfl (Nat.le_of_ble_eq_true rfl) ?_
  refine z_ifeqB (pc := 8) (tgt := 18) h dX7_at_8 (by decide) (fun c8 => ?_) (fun c8 => ?_)
  · refine z_iconst (pc := 18) h dX7_at_18 ?_
    refine z_iret (pc := 19) h rfl dX7_at_19 ?_
    first
    | (have y := of_decide_eq_false c8; rw [e0] at y; rw [if_neg (fun q => y q.1)]; exact ⟨rfl, rfl⟩)
    | (have y := of_decide_eq_false c15; rw [if_neg (fun q => y q.2)]; exact ⟨rfl, rfl⟩)
  · refine z_iload_n (pc := 11) h dX7_at_11 rfl ?_
    refine z_pS (pc := 12) h (c_isMinute hw) (by decide) ms_X7_isMinute ml_X7_308 rfl dX7_at_12 rfl (Nat.le_of_ble_eq_true rfl) ?_
    refine z_ifneB (pc := 15) (tgt := 20) h dX7_at_15 (by decide) (fun c15 => ?_) (fun c15 => ?_)
    · refine z_aloadR_n (pc := 20) h dX7_at_20 rfl ?_
      refine z_getR (pc := 21) (c := 7) (j := 4) (o2 := 6) h rfl (by first | assumption | rfl) rfl rfl fl_X7_44 dX7_at_21 ?_
      refine z_iload_n (pc := 24) h dX7_at_24 rfl ?_
      refine z_iload_n (pc := 25) h dX7_at_25 rfl ?_
      refine z_pV (pc := 26) (c := 5) h (z1) (by decide) (by first | assumption | rfl) rfl mv_X5_standingAt ml_X7_314 rfl dX7_at_26 rfl (Nat.le_of_ble_eq_true rfl) ?_
      refine z_iret (pc := 29) h rfl dX7_at_29 ?_
      have y := of_decide_eq_true c8
      rw [e0] at y
      rw [if_pos ⟨y, of_decide_eq_true c15⟩]
      exact ⟨rfl, rfl⟩
    · refine z_iconst (pc := 18) h dX7_at_18 ?_
      refine z_iret (pc := 19) h rfl dX7_at_19 ?_
      first
      | (have y := of_decide_eq_false c8; rw [e0] at y; rw [if_neg (fun q => y q.1)]; exact ⟨rfl, rfl⟩)
      | (have y := of_decide_eq_false c15; rw [if_neg (fun q => y q.2)]; exact ⟨rfl, rfl⟩)
def tvQ (T : T3) (d e : Int) : Int := if (0 ≤ d ∧ d < T.2.2 0) ∧ 0 ≤ e ∧ e < T.2.2 0 then zway (T.2.2 (5 + 2 * d + 1)) (T.2.2 (5 + 2 * e + 1)) else -1
theorem c_travel {σ : zS} {T : T3} {d e : Int} (hT : OKT T) (hC : CS T σ) (hd : zin d) (he : zin e) : zCp M_X7_travel 3 [zR 0, zI d, zI e] σ (zI (tvQ T d e)) := by
  have e0 : zsc σ 4 0 = T.2.2 0 := hC.1.1
  have h6 := hT.1.1
  unfold tvQ
  refine zC_of (M := M_X7_travel) (ls := [some (zR 0), some (zI d), some (zI e)]) (n := 0) (by decide) (fun ad => Nat.le_of_ble_eq_true rfl) rfl (fun x h => ?_)
  refine z_aloadR_n (pc := 0) h dX7_travel_0 rfl ?_
  refine z_getR (pc := 1) (c := 7) (j := 2) (o2 := 4) h rfl (by first | assumption | rfl) rfl rfl fl_X7_28 dX7_travel_1 ?_
  refine z_iload_n (pc := 4) h dX7_travel_4 rfl ?_
  refine z_pV (pc := 5) (c := 1) h (m_X1_hasDoor rfl hd) (by decide) (by first | assumption | rfl) rfl mv_X1_hasDoor ml_X7_210 rfl dX7_travel_5 rfl (Nat.le_of_ble_eq_true rfl) ?_
  refine z_ifeqB (pc := 8) (tgt := 22) h dX7_travel_8 (by decide) (fun c8 => ?_) (fun c8 => ?_)
  · refine z_iconst (pc := 22) h dX7_travel_22 ?_
    refine z_iret (pc := 23) h rfl dX7_travel_23 ?_
    first
    | (have y := of_decide_eq_false c8; rw [e0] at y; rw [if_neg (fun q => y q.1)]; exact ⟨rfl, rfl⟩)
    | (have y := of_decide_eq_false c19; rw [e0] at y; rw [if_neg (fun q => y q.2)]; exact ⟨rfl, rfl⟩)
  · refine z_aloadR_n (pc := 11) h dX7_travel_11 rfl ?_
    refine z_getR (pc := 12) (c := 7) (j := 2) (o2 := 4) h rfl (by first | assumption | rfl) rfl rfl fl_X7_28 dX7_travel_12 ?_
    refine z_iload_n (pc := 15) h dX7_travel_15 rfl ?_
    refine z_pV (pc := 16) (c := 1) h (m_X1_hasDoor rfl he) (by decide) (by first | assumption | rfl) rfl mv_X1_hasDoor ml_X7_210 rfl dX7_travel_16 rfl (Nat.le_of_ble_eq_true rfl) ?_
    refine z_ifneB (pc := 19) (tgt := 24) h dX7_travel_19 (by decide) (fun c19 => ?_) (fun c19 => ?_)
    · have y := of_decide_eq_true c8
      rw [e0] at y
      have y2 := of_decide_eq_true c19
      rw [e0] at y2
      rw [if_pos ⟨y, y2⟩]
      have w1 := (hC.1.2.2.2.2.1 d y.1 y.2).2
      have w2 := (hC.1.2.2.2.2.1 e y2.1 y2.2).2
      have w3 := (hT.1.2.2.2.2.2.1 d y.1 y.2).2
      have w4 := (hT.1.2.2.2.2.2.1 e y2.1 y2.2).2
      refine z_aloadR_n (pc := 24) h dX7_travel_24 rfl ?_
      refine z_getR (pc := 25) (c := 7) (j := 2) (o2 := 4) h rfl (by first | assumption | rfl) rfl rfl fl_X7_28 dX7_travel_25 ?_
      refine z_getA4 (pc := 28) (c := 1) (j := 6) h (by first | assumption | rfl) rfl rfl fl_X7_223 dX7_travel_28 ?_
      refine z_iload_n (pc := 31) h dX7_travel_31 rfl ?_
      refine z_ialdq (pc := 32) (c := 1) (j := 6) (L := 6) h rfl (by first | assumption | rfl) (by decide) rfl (by decide) (by omega) (by omega) dX7_travel_32 (fun g32 => ?_)
      refine z_aloadR_n (pc := 33) h dX7_travel_33 rfl ?_
      refine z_getR (pc := 34) (c := 7) (j := 2) (o2 := 4) h rfl (by first | assumption | rfl) rfl rfl fl_X7_28 dX7_travel_34 ?_
      refine z_getA4 (pc := 37) (c := 1) (j := 6) h (by first | assumption | rfl) rfl rfl fl_X7_223 dX7_travel_37 ?_
      refine z_iload_n (pc := 40) h dX7_travel_40 rfl ?_
      refine z_ialdq (pc := 41) (c := 1) (j := 6) (L := 6) h rfl (by first | assumption | rfl) (by decide) rfl (by decide) (by omega) (by omega) dX7_travel_41 (fun g41 => ?_)
      rw [w1, w2]
      refine z_pS (pc := 42) h (m_X1_wayBetween (by omega) (by omega)) (by decide) ms_X1_wayBetween ml_X7_317 rfl dX7_travel_42 rfl (Nat.le_of_ble_eq_true rfl) ?_
      refine z_iret (pc := 45) h rfl dX7_travel_45 ?_
      exact ⟨rfl, rfl⟩
    · refine z_iconst (pc := 22) h dX7_travel_22 ?_
      refine z_iret (pc := 23) h rfl dX7_travel_23 ?_
      first
      | (have y := of_decide_eq_false c8; rw [e0] at y; rw [if_neg (fun q => y q.1)]; exact ⟨rfl, rfl⟩)
      | (have y := of_decide_eq_false c19; rw [e0] at y; rw [if_neg (fun q => y q.2)]; exact ⟨rfl, rfl⟩)
theorem c_fault {σ : zS} {b : Bool} : zCp M_X7_fault 1 [zR 0, zB b] σ (zI (if b = true then (σ 0).1 11 else (σ 0).1 10)) := by
  refine zC_of (M := M_X7_fault) (ls := [some (zR 0), some (zB b)]) (n := 0) (by decide) (fun ad => Nat.le_of_ble_eq_true rfl) rfl (fun x h => ?_)
  refine z_iload_n (pc := 0) h dX7_fault_0 rfl ?_
  refine z_ifeqB (pc := 1) (tgt := 11) h dX7_fault_1 (by decide) (fun c1 => ?_) (fun c1 => ?_)
  · refine z_aloadR_n (pc := 11) h dX7_fault_11 rfl ?_
    refine z_getIq (pc := 12) (c := 7) (j := 10) h rfl (by first | assumption | rfl) rfl rfl fl_X7_71 dX7_fault_12 (fun g12 => ?_)
    refine z_iret (pc := 15) h rfl dX7_fault_15 ?_
    rw [c1]
    exact ⟨rfl, rfl⟩
  · refine z_aloadR_n (pc := 4) h dX7_fault_4 rfl ?_
    refine z_getIq (pc := 5) (c := 7) (j := 11) h rfl (by first | assumption | rfl) rfl rfl fl_X7_75 dX7_fault_5 (fun g5 => ?_)
    refine z_goto (pc := 8) (tgt := 15) h dX7_fault_8 (by decide) ?_
    refine z_iret (pc := 15) h rfl dX7_fault_15 ?_
    rw [c1]
    exact ⟨rfl, rfl⟩
