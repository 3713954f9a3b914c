/-! The model: read. -/
theorem osA_1at (m : zOb) (j : Nat) (f : Int → Int) : (osA m j f).2 j = f := by rw [osA_2, if_pos rfl]
def AB (S : ST) : Prop := (0 ≤ S.2.1 0 ∧ S.2.1 0 ≤ 6) ∧ (0 ≤ S.2.1 1 ∧ S.2.1 1 ≤ 8) ∧ (0 ≤ S.2.2.1 ∧ S.2.2.1 ≤ 100 * S.2.1 1)
theorem num_i {f : Int → Int} {n q c : Int} {S S' : ST} (h : num f n q c S = .inr S') : nF f n q c = -1 ∧ S' = S := by
  unfold num at h
  split at h
  · rename_i e
    cases h
    exact ⟨e, rfl⟩
  · cases h
theorem aT_01 {a P : Int → Int} (h : 0 ≤ a 1) : aT a P 0 = a 0 ∧ aT a P 1 = a 1 + 1 := by
  refine ⟨?_, zup_s _ _ _⟩
  show zup _ 1 _ 0 = _
  rw [zup_n _ _ (by decide), if_neg (by omega)]
theorem stm_AB {f : Int → Int} {n : Int} {S S' : ST} (hA : AB S) (h : stm f n S = .inr S') : AB S' := by
  obtain ⟨h0, h1, h2⟩ := hA
  unfold stm at h
  split at h
  · unfold sDoor at h
    split at h
    · have e := (num_i h).2
      rw [e]
      unfold AB
      show (0 ≤ (if S.2.1 0 < 6 then aD S.2.1 _ _ else S.2.1) 0 ∧ (if S.2.1 0 < 6 then aD S.2.1 _ _ else S.2.1) 0 ≤ 6) ∧ (0 ≤ (if S.2.1 0 < 6 then aD S.2.1 _ _ else S.2.1) 1 ∧ (if S.2.1 0 < 6 then aD S.2.1 _ _ else S.2.1) 1 ≤ 8) ∧ (0 ≤ S.2.2.1 ∧ S.2.2.1 ≤ 100 * (if S.2.1 0 < 6 then aD S.2.1 _ _ else S.2.1) 1)
      split
      · rename_i q
        have e0 : ∀ k v, aD S.2.1 k v 0 = S.2.1 0 + 1 := fun k v => zup_s _ _ _
        have e1 : ∀ k v, aD S.2.1 k v 1 = S.2.1 1 := fun k v => by unfold aD; rw [zup_n _ _ (by decide), zup_n _ _ (by omega), zup_n _ _ (by omega)]
        rw [e0, e1]
        exact ⟨by omega, h1, h2⟩
      · exact ⟨h0, h1, h2⟩
    · cases h
  · split at h
    · unfold sIn at h
      have e := num_i h
      rw [e.2]
      unfold AB
      have w : ∀ j, 0 ≤ j → j < 5 → 0 ≤ wj (vN f n (tE f n S.1)) j ∧ wj (vN f n (tE f n S.1)) j ≤ 15 := fun j j0 j1 => wj_b (vN_b e.1 j0 j1).1
      have w1 := w 1 (by omega) (by omega)
      have w2 := w 2 (by omega) (by omega)
      have w3 := w 3 (by omega) (by omega)
      have w4 := w 4 (by omega) (by omega)
      have ee := aT_01 (a := S.2.1) (P := pIn (vN f n (tE f n S.1))) h1.1
      show (0 ≤ (if S.2.1 1 < 8 then aT S.2.1 _ else S.2.1) 0 ∧ (if S.2.1 1 < 8 then aT S.2.1 _ else S.2.1) 0 ≤ 6) ∧ (0 ≤ (if S.2.1 1 < 8 then aT S.2.1 _ else S.2.1) 1 ∧ (if S.2.1 1 < 8 then aT S.2.1 _ else S.2.1) 1 ≤ 8) ∧ (0 ≤ (if S.2.1 1 < 8 then S.2.2.1 + ldV _ else S.2.2.1) ∧ (if S.2.1 1 < 8 then S.2.2.1 + ldV _ else S.2.2.1) ≤ 100 * (if S.2.1 1 < 8 then aT S.2.1 _ else S.2.1) 1)
      by_cases q : S.2.1 1 < 8
      · rw [if_pos q, if_pos q, ee.1, ee.2]
        unfold ldV
        omega
      · rw [if_neg q, if_neg q]
        exact ⟨h0, h1, h2⟩
    · split at h
      · unfold sOut at h
        have e := num_i h
        rw [e.2]
        unfold AB
        have ee := aT_01 (a := S.2.1) (P := pOut (vN f n (tE f n S.1))) h1.1
        show (0 ≤ (if S.2.1 1 < 8 then aT S.2.1 _ else S.2.1) 0 ∧ (if S.2.1 1 < 8 then aT S.2.1 _ else S.2.1) 0 ≤ 6) ∧ (0 ≤ (if S.2.1 1 < 8 then aT S.2.1 _ else S.2.1) 1 ∧ (if S.2.1 1 < 8 then aT S.2.1 _ else S.2.1) 1 ≤ 8) ∧ (0 ≤ S.2.2.1 ∧ S.2.2.1 ≤ 100 * (if S.2.1 1 < 8 then aT S.2.1 _ else S.2.1) 1)
        by_cases q : S.2.1 1 < 8
        · rw [if_pos q, ee.1, ee.2]
          omega
        · rw [if_neg q]
          exact ⟨h0, h1, h2⟩
      · split at h
        · unfold sStg at h
          have e := num_i h
          rw [e.2]
          exact ⟨h0, h1, h2⟩
        · split at h
          · unfold sChg at h
            have e := num_i h
            rw [e.2]
            exact ⟨h0, h1, h2⟩
          · cases h
def aI (t : Int → Int) : Int → Int := zup (zup (cpf t (fun _ => 0) 0 119) 2 10) 3 2
theorem aI_v (t : Int → Int) : ∀ i, 0 ≤ i → i < 119 → aI t i = if i = 2 then 10 else if i = 3 then 2 else 0 := by
  intro i h0 h1
  unfold aI zup cpf
  by_cases e3 : i = 3
  · rw [if_pos e3, if_neg (by omega), if_pos e3]
  · rw [if_neg e3]
    by_cases e2 : i = 2
    · rw [if_pos e2, if_pos e2]
    · rw [if_neg e2, if_neg e2, if_neg e3, if_pos (by omega)]
def rdF (a : Int → Int) (x y : Int) : Int → Int := zup (zup (zup a 119 0) 120 x) 121 y
def T0 (a : Int → Int) : T3 := (fun _ => -1, fun _ => -1, a)
def RDM (m : zOb) (R : Sum Int ST) (rr : Option Value) (m' : zOb) : Prop := match R with
  | .inl p => rr = some (zI (-1)) ∧ m'.2 1 = rdF (m.2 1) 1 p ∧ m'.1 5 = m.1 5 ∧ m'.2 4 = m.2 4
  | .inr S => if S.2.2.2.1 = 0 then rr = some (zI (S.2.1 1)) ∧ m'.2 1 = (fpl (T0 (cpf (rdF (m.2 1) 0 S.2.2.2.2) S.2.1 0 119))).2.2 ∧ m'.1 5 = 0 else rr = some (zI (-1)) ∧ m'.2 1 = rdF (m.2 1) S.2.2.2.1 S.2.2.2.2 ∧ m'.1 5 = m.1 5 ∧ m'.2 4 = m.2 4
theorem m8_read {σ : zS} {m : zOb} (hl : 0 ≤ m.2 1 119 ∧ m.2 1 119 ≤ 400) (hFP : ∀ S, prs (m.2 2) (m.2 1 119) 401 (0, aI (m.2 15), 0, (0, -1)) = .inr S → S.2.2.2.1 = 0 → FPI (cpf (rdF (m.2 1) 0 S.2.2.2.2) S.2.1 0 119) 0 0 (T0 (cpf (rdF (m.2 1) 0 S.2.2.2.2) S.2.1 0 119))) : zC M_X8_read 8 [zR 31] (zo σ 31 m) (fun rr τ' => ∃ m', τ' = zo σ 31 m' ∧ MP m m' ∧ RDM m (prs (m.2 2) (m.2 1 119) 401 (0, aI (m.2 15), 0, (0, -1))) rr m') := by
  generalize hn : m.2 1 119 = n at hl hFP ⊢
  generalize hf : m.2 2 = f at hFP ⊢
  generalize hR : prs f n 401 (0, aI (m.2 15), 0, (0, -1)) = R at hFP ⊢
  refine zC_of (M := M_X8_read) (ls := [some (zR 31), none, none]) (n := 2) (by decide) (fun ad => Nat.le_of_ble_eq_true rfl) rfl (fun x h => ?_)
  -- the table is copied, the first plan is made
  have C : ∀ (S : ST) (y : zOb) (l1 : Bool), R = .inr S → S.2.2.2.1 = 0 → y.1 0 = 0 → y.2 2 = f → y.2 3 = m.2 3 → y.2 15 = S.2.1 → y.2 1 = rdF (m.2 1) 0 S.2.2.2.2 → ∀ (k : Nat) (i : Int) (w : zOb), 0 ≤ i → i ≤ 119 → 119 - i < k → w.1 = y.1 → (∀ j, j ≠ 1 → w.2 j = y.2 j) → w.2 1 = cpf (rdF (m.2 1) 0 S.2.2.2.2) S.2.1 0 i → zW x (fun rr τ' => ∃ m', τ' = zo σ 31 m' ∧ MP m m' ∧ RDM m R rr m') 185 [some (zR 31), some (zB l1), some (zI i)] [] (zo σ 31 w) := by
    intro S y l1 eR eb y0 y2 y3 y15 y1 k
    induction k with
    | zero => intro i w g1 g2 g3; omega
    | succ k ih =>
      intro i w g1 g2 g3 w1 w2 wt
      have w15 : w.2 15 = S.2.1 := by rw [w2 15 (by decide)]; exact y15
      have hI := hFP S eR eb
      have hok := fpl_ok hI
      have h119 : i = 119 → w.2 1 = (T0 (cpf (rdF (m.2 1) 0 S.2.2.2.2) S.2.1 0 119)).2.2 := fun e => by rw [wt, e]; rfl
      refine z_rgo (fun hrg => ?_)
      have hz : zin (w.2 15 i) := hrg.2 15 _
      refine z_iload_n (pc := 185) h dX8_read_185 rfl ?_
      refine z_bipush (pc := 186) h dX8_read_186 (by decide) ?_
      refine z_icmp_ge (pc := 188) (tgt := 209) h (by omega) (by omega) dX8_read_188 (by decide) (fun c188 => ?_) (fun c188 => ?_)
      · refine z_aloadR_n (pc := 209) h dX8_read_209 rfl ?_
        refine z_iconst (pc := 210) h dX8_read_210 ?_
        refine z_putIo (pc := 211) (c := 8) (j := 5) h (by first | assumption | rfl) rfl rfl fl_X8_181 rfl (tyX8_ok 5 (by decide)) dX8_read_211 (by omega) ?_
        have e1 : (oss w 5 0).2 1 = (T0 (cpf (rdF (m.2 1) 0 S.2.2.2.2) S.2.1 0 119)).2.2 := h119 (by omega)
        refine z_aloadR_n (pc := 214) h dX8_read_214 rfl ?_
        refine z_vV (pc := 215) (c := 8) h (m8_firstPlan e1 hI) (by decide) (by first | assumption | rfl) rfl mv_X8_firstPlan ml_X8_184 rfl dX8_read_215 rfl (Nat.le_of_ble_eq_true rfl) ?_
        refine z_aloadR_n (pc := 218) h dX8_read_218 rfl ?_
        refine z_getA4 (pc := 219) (c := 8) (j := 1) h (by first | assumption | rfl) rfl rfl fl_X8_7 dX8_read_219 ?_
        refine z_iconst (pc := 222) h dX8_read_222 ?_
        refine z_ialdq (pc := 223) (c := 8) (j := 1) (L := 610) h (zo_s _ _ _) (by first | assumption | rfl) (by decide) rfl (by decide) (by omega) (by omega) dX8_read_223 (fun g223 => ?_)
        try simp only [osa_1, osa_2, oss_1, oss_2, osA_1, osA_2, zup_s, reduceIte, Nat.reduceEqDiff] at g223 ⊢
        refine z_iret (pc := 224) h rfl dX8_read_224 ?_
        refine ⟨_, rfl, ⟨?_, ?_, ?_⟩, ?_⟩
        · show w.1 0 = 0; rw [w1]; exact y0
        · show w.2 2 = m.2 2; rw [w2 2 (by decide), hf]; exact y2
        · show w.2 3 = m.2 3; rw [w2 3 (by decide)]; exact y3
        · rw [eR]
          show if S.2.2.2.1 = 0 then _ else _
          rw [if_pos eb]
          refine ⟨congrArg (fun z => some (zI z)) ?_, osA_1at _ _ _, rfl⟩
          show (fpl (T0 (cpf (rdF (m.2 1) 0 S.2.2.2.2) S.2.1 0 119))).2.2 1 = S.2.1 1
          rw [hok.2 1 (by omega)]
          show (if (0 : Int) ≤ 1 ∧ (1 : Int) < 0 + 119 then S.2.1 1 else _) = _
          rw [if_pos (by omega)]
      · refine z_aloadR_n (pc := 191) h dX8_read_191 rfl ?_
        refine z_getA4 (pc := 192) (c := 8) (j := 1) h (by first | assumption | rfl) rfl rfl fl_X8_7 dX8_read_192 ?_
        refine z_iload_n (pc := 195) h dX8_read_195 rfl ?_
        refine z_aloadR_n (pc := 196) h dX8_read_196 rfl ?_
        refine z_getA4 (pc := 197) (c := 8) (j := 15) h (by first | assumption | rfl) rfl rfl fl_X8_24 dX8_read_197 ?_
        refine z_iload_n (pc := 200) h dX8_read_200 rfl ?_
        refine z_ialdq (pc := 201) (c := 8) (j := 15) (L := 119) h (zo_s _ _ _) (by first | assumption | rfl) (by decide) rfl (by decide) (by omega) (by omega) dX8_read_201 (fun g201 => ?_)
        refine z_iasto (pc := 202) (c := 8) (j := 1) (L := 610) h (by first | assumption | rfl) (by decide) rfl (by decide) (by omega) (by omega) (by omega) dX8_read_202 ?_
        refine z_inc_2 (pc := 203) h dX8_read_203 (by decide) rfl ?_
        refine z_goto (pc := 206) (tgt := 185) h dX8_read_206 (by decide) ?_
        refine ih (i + 1) _ (by omega) (by omega) (by omega) w1 (fun j hj => ?_) ?_
        · show (if j = 1 then _ else w.2 j) = _
          rw [if_neg hj]; exact w2 j hj
        · show zup (w.2 1) i (w.2 15 i) = _
          have := cpf_S (rdF (m.2 1) 0 S.2.2.2.2) S.2.1 0 g1
          rw [Int.zero_add] at this
          rw [wt, w15]; exact this
  -- the end
  have EN : ∀ (y : zOb) (fi : Bool), y.1 0 = 0 → y.2 2 = f → y.2 3 = m.2 3 → y.2 1 = zup (m.2 1) 119 0 → y.2 4 = m.2 4 → y.1 5 = m.1 5 → (fi = true → ∃ S, R = .inr S ∧ y.2 15 = S.2.1 ∧ (y.1 14, y.1 13) = S.2.2.2) → (fi = false → R = .inl (y.1 12)) → zW x (fun rr τ' => ∃ m', τ' = zo σ 31 m' ∧ MP m m' ∧ RDM m R rr m') 130 [some (zR 31), some (zB fi), none] [] (zo σ 31 y) := by
    intro y fi y0 y2 y3 y1 y4 y5 ht hff
    cases fi with
    | true =>
      obtain ⟨S, eR, y15, yb⟩ := ht rfl
      have b1 : y.1 14 = S.2.2.2.1 := congrArg Prod.fst yb
      have b2 : y.1 13 = S.2.2.2.2 := congrArg Prod.snd yb
      have hrd : ∀ v, zup (zup (y.2 1) 120 v) 121 (y.1 13) = rdF (m.2 1) v S.2.2.2.2 := fun v => by rw [y1, b2]; rfl
      have h120 : ∀ v, zup (zup (y.2 1) 120 v) 121 (y.1 13) 120 = v := fun v => by rw [zup_n _ _ (by decide), zup_s]
      refine z_aloadR_n (pc := 130) h dX8_read_130 rfl ?_
      refine z_getA4 (pc := 131) (c := 8) (j := 1) h (by first | assumption | rfl) rfl rfl fl_X8_7 dX8_read_131 ?_
      refine z_bipush (pc := 134) h dX8_read_134 (by decide) ?_
      refine z_iload_n (pc := 136) h dX8_read_136 rfl ?_
      refine z_if_eq (pc := 137) (tgt := 147) h (by omega) dX8_read_137 (by decide) (fun c137 => ?_) (fun c137 => ?_)
      · exact absurd c137 (by decide)
      · refine z_aloadR_n (pc := 140) h dX8_read_140 rfl ?_
        refine z_getIq (pc := 141) (c := 8) (j := 14) h (zo_s _ _ _) (by first | assumption | rfl) rfl rfl fl_X8_124 dX8_read_141 (fun g141 => ?_)
        refine z_goto (pc := 144) (tgt := 148) h dX8_read_144 (by decide) ?_
        refine z_iasto (pc := 148) (c := 8) (j := 1) (L := 610) h (by first | assumption | rfl) (by decide) rfl (by decide) (by omega) (by omega) (by omega) dX8_read_148 ?_
        refine z_aloadR_n (pc := 149) h dX8_read_149 rfl ?_
        refine z_getA4 (pc := 150) (c := 8) (j := 1) h (by first | assumption | rfl) rfl rfl fl_X8_7 dX8_read_150 ?_
        refine z_bipush (pc := 153) h dX8_read_153 (by decide) ?_
        refine z_iload_n (pc := 155) h dX8_read_155 rfl ?_
        refine z_if_eq (pc := 156) (tgt := 166) h (by omega) dX8_read_156 (by decide) (fun c156 => ?_) (fun c156 => ?_)
        · exact absurd c156 (by decide)
        · refine z_aloadR_n (pc := 159) h dX8_read_159 rfl ?_
          refine z_getIq (pc := 160) (c := 8) (j := 13) h (zo_s _ _ _) (by first | assumption | rfl) rfl rfl fl_X8_127 dX8_read_160 (fun g160 => ?_)
          try simp only [osa_1, osa_2, oss_1, oss_2, osA_1, osA_2, zup_s, reduceIte, Nat.reduceEqDiff] at g160 ⊢
          refine z_goto (pc := 163) (tgt := 170) h dX8_read_163 (by decide) ?_
          refine z_iasto (pc := 170) (c := 8) (j := 1) (L := 610) h (by first | assumption | rfl) (by decide) rfl (by decide) (by omega) (by omega) (by omega) dX8_read_170 ?_
          refine z_aloadR_n (pc := 171) h dX8_read_171 rfl ?_
          refine z_getA4 (pc := 172) (c := 8) (j := 1) h (by first | assumption | rfl) rfl rfl fl_X8_7 dX8_read_172 ?_
          refine z_bipush (pc := 175) h dX8_read_175 (by decide) ?_
          refine z_ialdq (pc := 177) (c := 8) (j := 1) (L := 610) h (zo_s _ _ _) (by first | assumption | rfl) (by decide) rfl (by decide) (by omega) (by omega) dX8_read_177 (fun g177 => ?_)
          try simp only [osa_1, osa_2, oss_1, oss_2, osA_1, osA_2, zup_s, reduceIte, Nat.reduceEqDiff] at g177 ⊢
          rw [h120]
          refine z_if_eq (pc := 178) (tgt := 183) h (by omega) dX8_read_178 (by decide) (fun c178 => ?_) (fun c178 => ?_)
          · refine z_iconst (pc := 183) h dX8_read_183 ?_
            refine z_ist_2 (pc := 184) h dX8_read_184 (by decide) rfl ?_
            have eb : S.2.2.2.1 = 0 := by rw [← b1]; exact c178
            have hr0 := hrd (y.1 14)
            rw [c178] at hr0
            exact C S (osa (osa y 1 120 (y.1 14)) 1 121 (y.1 13)) true eR eb y0 y2 y3 y15 (by rw [← hr0, ← c178]; rfl) 120 0 _ (by omega) (by omega) (by omega) rfl (fun _ _ => rfl) (by rw [cpf_0, ← hr0, ← c178]; rfl)
          · refine z_iconst (pc := 181) h dX8_read_181 ?_
            refine z_iret (pc := 182) h rfl dX8_read_182 ?_
            refine ⟨_, rfl, ⟨y0, by rw [hf]; exact y2, y3⟩, ?_⟩
            rw [eR]
            show if S.2.2.2.1 = 0 then _ else _
            rw [if_neg (by rw [← b1]; exact c178)]
            refine ⟨rfl, ?_, y5, y4⟩
            rw [← b1]
            exact hrd _
    | false =>
      have eR := hff rfl
      have hrd : ∀ v, zup (zup (y.2 1) 120 v) 121 (y.1 12) = rdF (m.2 1) v (y.1 12) := fun v => by rw [y1]; rfl
      have h120 : ∀ v, zup (zup (y.2 1) 120 v) 121 (y.1 12) 120 = v := fun v => by rw [zup_n _ _ (by decide), zup_s]
      refine z_aloadR_n (pc := 130) h dX8_read_130 rfl ?_
      refine z_getA4 (pc := 131) (c := 8) (j := 1) h (by first | assumption | rfl) rfl rfl fl_X8_7 dX8_read_131 ?_
      refine z_bipush (pc := 134) h dX8_read_134 (by decide) ?_
      refine z_iload_n (pc := 136) h dX8_read_136 rfl ?_
      refine z_if_eq (pc := 137) (tgt := 147) h (by omega) dX8_read_137 (by decide) (fun c137 => ?_) (fun c137 => ?_)
      · refine z_iconst (pc := 147) h dX8_read_147 ?_
        refine z_iasto (pc := 148) (c := 8) (j := 1) (L := 610) h (by first | assumption | rfl) (by decide) rfl (by decide) (by omega) (by omega) (by omega) dX8_read_148 ?_
        refine z_aloadR_n (pc := 149) h dX8_read_149 rfl ?_
        refine z_getA4 (pc := 150) (c := 8) (j := 1) h (by first | assumption | rfl) rfl rfl fl_X8_7 dX8_read_150 ?_
        refine z_bipush (pc := 153) h dX8_read_153 (by decide) ?_
        refine z_iload_n (pc := 155) h dX8_read_155 rfl ?_
        refine z_if_eq (pc := 156) (tgt := 166) h (by omega) dX8_read_156 (by decide) (fun c156 => ?_) (fun c156 => ?_)
        · refine z_aloadR_n (pc := 166) h dX8_read_166 rfl ?_
          refine z_getIq (pc := 167) (c := 8) (j := 12) h (zo_s _ _ _) (by first | assumption | rfl) rfl rfl fl_X8_121 dX8_read_167 (fun g167 => ?_)
          try simp only [osa_1, osa_2, oss_1, oss_2, osA_1, osA_2, zup_s, reduceIte, Nat.reduceEqDiff] at g167 ⊢
          refine z_iasto (pc := 170) (c := 8) (j := 1) (L := 610) h (by first | assumption | rfl) (by decide) rfl (by decide) (by omega) (by omega) (by omega) dX8_read_170 ?_
          refine z_aloadR_n (pc := 171) h dX8_read_171 rfl ?_
          refine z_getA4 (pc := 172) (c := 8) (j := 1) h (by first | assumption | rfl) rfl rfl fl_X8_7 dX8_read_172 ?_
          refine z_bipush (pc := 175) h dX8_read_175 (by decide) ?_
          refine z_ialdq (pc := 177) (c := 8) (j := 1) (L := 610) h (zo_s _ _ _) (by first | assumption | rfl) (by decide) rfl (by decide) (by omega) (by omega) dX8_read_177 (fun g177 => ?_)
          try simp only [osa_1, osa_2, oss_1, oss_2, osA_1, osA_2, zup_s, reduceIte, Nat.reduceEqDiff] at g177 ⊢
          rw [h120]
          refine z_if_eq (pc := 178) (tgt := 183) h (by omega) dX8_read_178 (by decide) (fun c178 => ?_) (fun c178 => ?_)
          · exact absurd c178 (by decide)
          · refine z_iconst (pc := 181) h dX8_read_181 ?_
            refine z_iret (pc := 182) h rfl dX8_read_182 ?_
            refine ⟨_, rfl, ⟨y0, by rw [hf]; exact y2, y3⟩, ?_⟩
            rw [eR]
            exact ⟨rfl, hrd 1, y5, y4⟩
        · exact absurd c156 (by decide)
      · exact absurd c137 (by decide)
  -- statement by statement
  have L : ∀ (k : Nat) (S : ST) (y : zOb), 401 - (k : Int) ≤ S.1 → prs f n k S = R → TOK f n S.1 y → y.2 15 = S.2.1 → y.1 16 = S.2.2.1 → (y.1 14, y.1 13) = S.2.2.2 → AB S → y.1 0 = 0 → y.2 2 = f → y.2 3 = m.2 3 → y.2 1 = zup (m.2 1) 119 0 → y.2 4 = m.2 4 → y.1 5 = m.1 5 → y.1 7 = n → zW x (fun rr τ' => ∃ m', τ' = zo σ 31 m' ∧ MP m m' ∧ RDM m R rr m') 86 [some (zR 31), some (zB true), none] [] (zo σ 31 y) := by
    intro k
    induction k with
    | zero => intro S y g1 g2 hT; have := hT.1; omega
    | succ k ih =>
      intro S y g1 hp hT y15 y16 yb hAB y0 y2 y3 y1 y4 y5 y7
      have hkk := tK_b f n S.1
      have e9 := hT.2.2.2.1
      have zkb := tk8_b (tK f n S.1)
      have h90 : tk8 (tK f n S.1) = 0 ↔ tK f n S.1 = 0 := by
        unfold tk8
        repeat' split
        all_goals omega
      have W0 : ∀ y' : zOb, KW y y' → R = .inl (y'.1 12) → zW x (fun rr τ' => ∃ m', τ' = zo σ 31 m' ∧ MP m m' ∧ RDM m R rr m') 86 [some (zR 31), some (zB false), none] [] (zo σ 31 y') := by
        intro y' kw hr
        refine z_iload_n (pc := 86) h dX8_read_86 rfl ?_
        refine z_if_eq (pc := 87) (tgt := 130) h (by omega) dX8_read_87 (by decide) (fun c87 => ?_) (fun c87 => ?_)
        · exact EN y' false ((kw.1 0 (by omega)).trans y0) ((kw.2 2 (by decide) (by decide)).trans y2) ((kw.2 3 (by decide) (by decide)).trans y3) ((kw.2 1 (by decide) (by decide)).trans y1) ((kw.2 4 (by decide) (by decide)).trans y4) ((kw.1 5 (by omega)).trans y5) (fun z => absurd z (by decide)) (fun _ => hr)
        · exact absurd c87 (by decide)
      have hstop : tK f n S.1 = 0 → R = .inr S := fun z => by rw [← hp]; show (if _ then _ else _) = _; rw [if_pos z]
      have hgo : tK f n S.1 ≠ 0 → (match stm f n S with | .inl p => Sum.inl p | .inr S' => prs f n k S') = R := fun z => by
        rw [← hp]
        show _ = if _ then _ else _
        rw [if_neg z]
        cases stm f n S <;> rfl
      have hline := m8_line (σ := σ) y2 y7 hl.2 hT yb y16 (by have := hAB.2.2; have := hAB.2.1; omega) (by rw [y15]; exact hAB.1) (by rw [y15]; exact hAB.2.1)
      rw [y15] at hline
      change zC M_X8_line 7 [zR 31] (zo σ 31 y) (fun rr τ' => ∃ m', τ' = zo σ 31 m' ∧ KW y m' ∧ ML f n (stm f n S) rr m') at hline
      have WL : ∀ (y' : zOb) (v : Bool), KW y y' → tK f n S.1 ≠ 0 → ML f n (stm f n S) (some (zB v)) y' → zW x (fun rr τ' => ∃ m', τ' = zo σ 31 m' ∧ MP m m' ∧ RDM m R rr m') 101 [some (zR 31), some (zB true), none] [zB v] (zo σ 31 y') := by
        intro y' v kw hk0 hml
        have hg := hgo hk0
        have w7 : y'.1 7 = n := (kw.1 7 (by omega)).trans y7
        have w2 : y'.2 2 = f := (kw.2 2 (by decide) (by decide)).trans y2
        have WF : v = false → R = .inl (y'.1 12) → zW x (fun rr τ' => ∃ m', τ' = zo σ 31 m' ∧ MP m m' ∧ RDM m R rr m') 101 [some (zR 31), some (zB true), none] [zB v] (zo σ 31 y') := by
          intro hv hr
          subst hv
          refine z_ist_1 (pc := 101) h dX8_read_101 (by decide) rfl ?_
          refine z_iload_n (pc := 102) h dX8_read_102 rfl ?_
          refine z_ifeqB (pc := 103) (tgt := 119) h dX8_read_103 (by decide) (fun c103 => ?_) (fun c103 => ?_)
          · refine z_iload_n (pc := 119) h dX8_read_119 rfl ?_
            refine z_ifeqB (pc := 120) (tgt := 86) h dX8_read_120 (by decide) (fun c120 => ?_) (fun c120 => ?_)
            · exact W0 y' kw hr
            · exact absurd c120 (by decide)
          · exact absurd c103 (by decide)
        rcases hml with ⟨p, e1, e2, e3⟩ | ⟨qn, c, S', hqn, hc, e1, e2, ⟨e3, e4, e5, e6, e7, e8⟩ | ⟨e3, e4, e5⟩⟩
        · rw [e1] at hg
          refine WF ?_ (by rw [e3]; exact hg.symm)
          cases v with
          | false => rfl
          | true => exact absurd e2 (by decide)
        · have hv : v = true := by
            cases v with
            | true => rfl
            | false => exact absurd e4 (by decide)
          subst hv
          have hnb := nQ_b (f := f) (k := c) hqn.1 hqn.2 (by omega)
          have z9 := e5.2.2.2.1
          have z8 := e5.2.2.1
          have z6 := e5.2.1
          have zb := tk8_b (tK f n (nQ f n qn c))
          have zk := tK_b f n (nQ f n qn c)
          have zs := tS_b (f := f) hnb.2
          have ze := tE_b (f := f) hnb.2
          have h43 : tk8 (tK f n (nQ f n qn c)) = 4 ↔ tK f n (nQ f n qn c) = 3 := by
            unfold tk8
            repeat' split
            all_goals omega
          have hnf := nF_G (f := f) (n := n) (q := qn) (c := c) (by omega)
          refine z_ist_1 (pc := 101) h dX8_read_101 (by decide) rfl ?_
          refine z_iload_n (pc := 102) h dX8_read_102 rfl ?_
          refine z_ifeqB (pc := 103) (tgt := 119) h dX8_read_103 (by decide) (fun c103 => ?_) (fun c103 => ?_)
          · exact absurd c103 (by decide)
          · refine z_aloadR_n (pc := 106) h dX8_read_106 rfl ?_
            refine z_getIq (pc := 107) (c := 8) (j := 9) h (zo_s _ _ _) (by first | assumption | rfl) rfl rfl fl_X8_115 dX8_read_107 (fun g107 => ?_)
            refine z_iconst (pc := 110) h dX8_read_110 ?_
            refine z_icmp_eq (pc := 111) (tgt := 119) h (by omega) (by omega) dX8_read_111 (by decide) (fun c111 => ?_) (fun c111 => ?_)
            · have hF := hnf.2.2 e3 (by omega)
              have eS : stm f n S = .inr S' := by rw [e1]; unfold num; rw [if_pos hF]
              rw [eS] at hg
              have hqq := stm_q hT.1.1 hT.1.2 hk0 eS
              refine z_iload_n (pc := 119) h dX8_read_119 rfl ?_
              refine z_ifeqB (pc := 120) (tgt := 86) h dX8_read_120 (by decide) (fun c120 => ?_) (fun c120 => ?_)
              · first
                | exact absurd c120 (by decide)
                | (rw [← nQ_S f n qn (by omega), ← e2] at uO
                   refine ih S' u (by omega) hg uO (by rw [uk.2]; exact e6) (by rw [uk.1 16 (by omega)]; exact e7) (by rw [uT.1 14 (by decide) (by decide) (by decide) (by decide) (by decide), uT.1 13 (by decide) (by decide) (by decide) (by decide) (by decide)]; exact e8) (stm_AB hAB eS) ?_ ?_ ?_ ?_ ?_ ?_ ?_
                   · rw [uk.1 0 (by omega), kw.1 0 (by omega)]; exact y0
                   · rw [uk.2]; exact w2
                   · rw [uk.2, kw.2 3 (by decide) (by decide)]; exact y3
                   · rw [uk.2, kw.2 1 (by decide) (by decide)]; exact y1
                   · rw [uk.2, kw.2 4 (by decide) (by decide)]; exact y4
                   · rw [uk.1 5 (by omega), kw.1 5 (by omega)]; exact y5
                   · rw [uk.1 7 (by omega)]; exact w7)
                | exact W0 (oss y' 12 (tS f n (nQ f n qn c))) ⟨fun j hj => (by rw [oss_1, if_neg (by omega)]; exact kw.1 j hj), kw.2⟩ eR
              · refine z_aloadR_n (pc := 123) h dX8_read_123 rfl ?_
                refine z_callV (pc := 124) (c := 8) h (m8_token w2 w7 z6 (by omega) (by omega) hl.2) (by decide) (by first | assumption | rfl) rfl mv_X8_token ml_X8_141 rfl dX8_read_124 rfl (Nat.le_of_ble_eq_true rfl) (fun r124 τ124 q124 => ?_)
                obtain ⟨rfl, u, rfl, uT, uO⟩ := q124
                have uk := uT.ks
                refine z_goto (pc := 127) (tgt := 86) h dX8_read_127 (by decide) ?_
                first
                | exact absurd c120 (by decide)
                | (rw [← nQ_S f n qn (by omega), ← e2] at uO
                   refine ih S' u (by omega) hg uO (by rw [uk.2]; exact e6) (by rw [uk.1 16 (by omega)]; exact e7) (by rw [uT.1 14 (by decide) (by decide) (by decide) (by decide) (by decide), uT.1 13 (by decide) (by decide) (by decide) (by decide) (by decide)]; exact e8) (stm_AB hAB eS) ?_ ?_ ?_ ?_ ?_ ?_ ?_
                   · rw [uk.1 0 (by omega), kw.1 0 (by omega)]; exact y0
                   · rw [uk.2]; exact w2
                   · rw [uk.2, kw.2 3 (by decide) (by decide)]; exact y3
                   · rw [uk.2, kw.2 1 (by decide) (by decide)]; exact y1
                   · rw [uk.2, kw.2 4 (by decide) (by decide)]; exact y4
                   · rw [uk.1 5 (by omega), kw.1 5 (by omega)]; exact y5
                   · rw [uk.1 7 (by omega)]; exact w7)
                | exact W0 (oss y' 12 (tS f n (nQ f n qn c))) ⟨fun j hj => (by rw [oss_1, if_neg (by omega)]; exact kw.1 j hj), kw.2⟩ eR
            · have hF := hnf.2.1 e3 (by omega)
              have eR : R = .inl (tS f n (nQ f n qn c)) := by rw [← hg, e1]; unfold num; rw [hF, if_neg (by omega)]
              refine z_aloadR_n (pc := 114) h dX8_read_114 rfl ?_
              refine z_rV (pc := 115) (c := 8) h (m8_fails z8 (by omega)) (by decide) (by first | assumption | rfl) rfl mv_X8_fails ml_X8_130 rfl dX8_read_115 rfl (Nat.le_of_ble_eq_true rfl) ?_
              refine z_ist_1 (pc := 118) h dX8_read_118 (by decide) rfl ?_
              refine z_iload_n (pc := 119) h dX8_read_119 rfl ?_
              refine z_ifeqB (pc := 120) (tgt := 86) h dX8_read_120 (by decide) (fun c120 => ?_) (fun c120 => ?_)
              · first
                | exact absurd c120 (by decide)
                | (rw [← nQ_S f n qn (by omega), ← e2] at uO
                   refine ih S' u (by omega) hg uO (by rw [uk.2]; exact e6) (by rw [uk.1 16 (by omega)]; exact e7) (by rw [uT.1 14 (by decide) (by decide) (by decide) (by decide) (by decide), uT.1 13 (by decide) (by decide) (by decide) (by decide) (by decide)]; exact e8) (stm_AB hAB eS) ?_ ?_ ?_ ?_ ?_ ?_ ?_
                   · rw [uk.1 0 (by omega), kw.1 0 (by omega)]; exact y0
                   · rw [uk.2]; exact w2
                   · rw [uk.2, kw.2 3 (by decide) (by decide)]; exact y3
                   · rw [uk.2, kw.2 1 (by decide) (by decide)]; exact y1
                   · rw [uk.2, kw.2 4 (by decide) (by decide)]; exact y4
                   · rw [uk.1 5 (by omega), kw.1 5 (by omega)]; exact y5
                   · rw [uk.1 7 (by omega)]; exact w7)
                | exact W0 (oss y' 12 (tS f n (nQ f n qn c))) ⟨fun j hj => (by rw [oss_1, if_neg (by omega)]; exact kw.1 j hj), kw.2⟩ eR
              · refine z_aloadR_n (pc := 123) h dX8_read_123 rfl ?_
                refine z_callV (pc := 124) (c := 8) h (m8_token w2 w7 z6 (by omega) (by omega) hl.2) (by decide) (by first | assumption | rfl) rfl mv_X8_token ml_X8_141 rfl dX8_read_124 rfl (Nat.le_of_ble_eq_true rfl) (fun r124 τ124 q124 => ?_)
                obtain ⟨rfl, u, rfl, uT, uO⟩ := q124
                have uk := uT.ks
                refine z_goto (pc := 127) (tgt := 86) h dX8_read_127 (by decide) ?_
                first
                | exact absurd c120 (by decide)
                | (rw [← nQ_S f n qn (by omega), ← e2] at uO
                   refine ih S' u (by omega) hg uO (by rw [uk.2]; exact e6) (by rw [uk.1 16 (by omega)]; exact e7) (by rw [uT.1 14 (by decide) (by decide) (by decide) (by decide) (by decide), uT.1 13 (by decide) (by decide) (by decide) (by decide) (by decide)]; exact e8) (stm_AB hAB eS) ?_ ?_ ?_ ?_ ?_ ?_ ?_
                   · rw [uk.1 0 (by omega), kw.1 0 (by omega)]; exact y0
                   · rw [uk.2]; exact w2
                   · rw [uk.2, kw.2 3 (by decide) (by decide)]; exact y3
                   · rw [uk.2, kw.2 1 (by decide) (by decide)]; exact y1
                   · rw [uk.2, kw.2 4 (by decide) (by decide)]; exact y4
                   · rw [uk.1 5 (by omega), kw.1 5 (by omega)]; exact y5
                   · rw [uk.1 7 (by omega)]; exact w7)
                | exact W0 (oss y' 12 (tS f n (nQ f n qn c))) ⟨fun j hj => (by rw [oss_1, if_neg (by omega)]; exact kw.1 j hj), kw.2⟩ eR
        · have hF := (nF_G (f := f) (n := n) (q := qn) (c := c) (by omega)).1 e3
          refine WF ?_ (by rw [← hg, e1, e5]; unfold num; rw [hF, if_neg e3])
          cases v with
          | false => rfl
          | true => exact absurd e4 (by decide)
      refine z_iload_n (pc := 86) h dX8_read_86 rfl ?_
      refine z_if_eq (pc := 87) (tgt := 130) h (by omega) dX8_read_87 (by decide) (fun c87 => ?_) (fun c87 => ?_)
      · exact absurd c87 (by decide)
      · refine z_aloadR_n (pc := 90) h dX8_read_90 rfl ?_
        refine z_getIq (pc := 91) (c := 8) (j := 9) h (zo_s _ _ _) (by first | assumption | rfl) rfl rfl fl_X8_115 dX8_read_91 (fun g91 => ?_)
        refine z_if_eq (pc := 94) (tgt := 130) h (by omega) dX8_read_94 (by decide) (fun c94 => ?_) (fun c94 => ?_)
        · exact EN y true y0 y2 y3 y1 y4 y5 (fun _ => ⟨S, hstop (by omega), y15, yb⟩) (fun z => absurd z (by decide))
        · refine z_aloadR_n (pc := 97) h dX8_read_97 rfl ?_
          refine z_callV (pc := 98) (c := 8) h (hline) (by decide) (by first | assumption | rfl) rfl mv_X8_line ml_X8_178 rfl dX8_read_98 rfl (Nat.le_of_ble_eq_true rfl) (fun r98 τ98 q98 => ?_)
          obtain ⟨y', rfl, kw, hml⟩ := q98
          obtain ⟨v, rfl⟩ := hml.v
          exact WL y' v kw (by omega) hml
  have Z : ∀ (k : Nat) (i : Int) (w : zOb), 0 ≤ i → i ≤ 119 → 119 - i < k → w.2 15 = cpf (m.2 15) (fun _ => 0) 0 i → w.1 0 = 0 → w.2 2 = f → w.2 3 = m.2 3 → w.2 1 = zup (m.2 1) 119 0 → w.2 4 = m.2 4 → w.1 5 = m.1 5 → w.1 7 = n → zW x (fun rr τ' => ∃ m', τ' = zo σ 31 m' ∧ MP m m' ∧ RDM m R rr m') 26 [some (zR 31), some (zI i), none] [] (zo σ 31 w) := by
    intro k
    induction k with
    | zero => intro i w g1 g2 g3; omega
    | succ k ih =>
      intro i w g1 g2 g3 w15 w0 w2 w3 w1 w4 w5 w7
      refine z_iload_n (pc := 26) h dX8_read_26 rfl ?_
      refine z_bipush (pc := 27) h dX8_read_27 (by decide) ?_
      refine z_icmp_ge (pc := 29) (tgt := 45) h (by omega) (by omega) dX8_read_29 (by decide) (fun c29 => ?_) (fun c29 => ?_)
      · refine z_aloadR_n (pc := 45) h dX8_read_45 rfl ?_
        refine z_getA4 (pc := 46) (c := 8) (j := 15) h (by first | assumption | rfl) rfl rfl fl_X8_24 dX8_read_46 ?_
        refine z_iconst (pc := 49) h dX8_read_49 ?_
        refine z_bipush (pc := 50) h dX8_read_50 (by decide) ?_
        refine z_iasto (pc := 52) (c := 8) (j := 15) (L := 119) h (by first | assumption | rfl) (by decide) rfl (by decide) (by omega) (by omega) (by omega) dX8_read_52 ?_
        refine z_aloadR_n (pc := 53) h dX8_read_53 rfl ?_
        refine z_getA4 (pc := 54) (c := 8) (j := 15) h (by first | assumption | rfl) rfl rfl fl_X8_24 dX8_read_54 ?_
        refine z_iconst (pc := 57) h dX8_read_57 ?_
        refine z_iconst (pc := 58) h dX8_read_58 ?_
        refine z_iasto (pc := 59) (c := 8) (j := 15) (L := 119) h (by first | assumption | rfl) (by decide) rfl (by decide) (by omega) (by omega) (by omega) dX8_read_59 ?_
        refine z_aloadR_n (pc := 60) h dX8_read_60 rfl ?_
        refine z_iconst (pc := 61) h dX8_read_61 ?_
        refine z_putIo (pc := 62) (c := 8) (j := 16) h (by first | assumption | rfl) rfl rfl fl_X8_162 rfl (tyX8_ok 16 (by decide)) dX8_read_62 (by omega) ?_
        refine z_aloadR_n (pc := 65) h dX8_read_65 rfl ?_
        refine z_iconst (pc := 66) h dX8_read_66 ?_
        refine z_putIo (pc := 67) (c := 8) (j := 14) h (by first | assumption | rfl) rfl rfl fl_X8_124 rfl (tyX8_ok 14 (by decide)) dX8_read_67 (by omega) ?_
        refine z_aloadR_n (pc := 70) h dX8_read_70 rfl ?_
        refine z_iconst (pc := 71) h dX8_read_71 ?_
        refine z_putIo (pc := 72) (c := 8) (j := 13) h (by first | assumption | rfl) rfl rfl fl_X8_127 rfl (tyX8_ok 13 (by decide)) dX8_read_72 (by omega) ?_
        refine z_aloadR_n (pc := 75) h dX8_read_75 rfl ?_
        refine z_iconst (pc := 76) h dX8_read_76 ?_
        refine z_putIo (pc := 77) (c := 8) (j := 6) h (by first | assumption | rfl) rfl rfl fl_X8_98 rfl (tyX8_ok 6 (by decide)) dX8_read_77 (by omega) ?_
        generalize hu : oss (oss (oss (oss (osa (osa w 15 2 10) 15 3 2) 16 0) 14 0) 13 (-1)) 6 0 = u
        have u15 : u.2 15 = aI (m.2 15) := by
          rw [← hu]
          show zup (zup (w.2 15) 2 10) 3 2 = _
          rw [w15, show i = 119 by omega]
          rfl
        have us : u.1 16 = 0 ∧ u.1 14 = 0 ∧ u.1 13 = -1 ∧ u.1 6 = 0 := by rw [← hu]; exact ⟨rfl, rfl, rfl, rfl⟩
        have uf : u.1 0 = 0 ∧ u.2 2 = f ∧ u.2 3 = m.2 3 ∧ u.2 1 = zup (m.2 1) 119 0 ∧ u.2 4 = m.2 4 ∧ u.1 5 = m.1 5 ∧ u.1 7 = n := by rw [← hu]; exact ⟨w0, w2, w3, w1, w4, w5, w7⟩
        clear hu
        refine z_aloadR_n (pc := 80) h dX8_read_80 rfl ?_
        refine z_callV (pc := 81) (c := 8) h (m8_token uf.2.1 uf.2.2.2.2.2.2 us.2.2.2 (by omega) (by omega) hl.2) (by decide) (by first | assumption | rfl) rfl mv_X8_token ml_X8_141 rfl dX8_read_81 rfl (Nat.le_of_ble_eq_true rfl) (fun r81 τ81 q81 => ?_)
        obtain ⟨rfl, v, rfl, vT, vO⟩ := q81
        have vk := vT.ks
        refine z_iconst (pc := 84) h dX8_read_84 ?_
        refine z_ist_1 (pc := 85) h dX8_read_85 (by decide) rfl ?_
        refine L 401 (0, aI (m.2 15), 0, (0, -1)) v (by show (401 : Int) - 401 ≤ 0; omega) hR vO (by rw [vk.2]; exact u15) (by rw [vk.1 16 (by omega)]; exact us.1) ?_ ?_ ?_ ?_ ?_ ?_ ?_ ?_ ?_
        · rw [vT.1 14 (by decide) (by decide) (by decide) (by decide) (by decide), vT.1 13 (by decide) (by decide) (by decide) (by decide) (by decide), us.2.1, us.2.2.1]
        · have a0 := aI_v (m.2 15) 0 (by omega) (by omega)
          have a1 := aI_v (m.2 15) 1 (by omega) (by omega)
          rw [if_neg (by decide), if_neg (by decide)] at a0 a1
          unfold AB
          show (0 ≤ aI (m.2 15) 0 ∧ aI (m.2 15) 0 ≤ 6) ∧ (0 ≤ aI (m.2 15) 1 ∧ aI (m.2 15) 1 ≤ 8) ∧ (0 : Int) ≤ 0 ∧ (0 : Int) ≤ 100 * aI (m.2 15) 1
          omega
        · rw [vk.1 0 (by omega)]; exact uf.1
        · rw [vk.2]; exact uf.2.1
        · rw [vk.2]; exact uf.2.2.1
        · rw [vk.2]; exact uf.2.2.2.1
        · rw [vk.2]; exact uf.2.2.2.2.1
        · rw [vk.1 5 (by omega)]; exact uf.2.2.2.2.2.1
        · rw [vk.1 7 (by omega)]; exact uf.2.2.2.2.2.2
      · refine z_aloadR_n (pc := 32) h dX8_read_32 rfl ?_
        refine z_getA4 (pc := 33) (c := 8) (j := 15) h (by first | assumption | rfl) rfl rfl fl_X8_24 dX8_read_33 ?_
        refine z_iload_n (pc := 36) h dX8_read_36 rfl ?_
        refine z_iconst (pc := 37) h dX8_read_37 ?_
        refine z_iasto (pc := 38) (c := 8) (j := 15) (L := 119) h (by first | assumption | rfl) (by decide) rfl (by decide) (by omega) (by omega) (by omega) dX8_read_38 ?_
        refine z_inc_1 (pc := 39) h dX8_read_39 (by decide) rfl ?_
        refine z_goto (pc := 42) (tgt := 26) h dX8_read_42 (by decide) ?_
        refine ih (i + 1) _ (by omega) (by omega) (by omega) ?_ w0 w2 w3 w1 w4 w5 w7
        show zup (w.2 15) i 0 = _
        have := cpf_S (m.2 15) (fun _ => 0) 0 g1
        rw [Int.zero_add] at this
        rw [w15]; exact this
  refine z_aloadR_n (pc := 0) h dX8_read_0 rfl ?_
  refine z_iconst (pc := 1) h dX8_read_1 ?_
  refine z_putIo (pc := 2) (c := 8) (j := 0) h (by first | assumption | rfl) rfl rfl fl_X8_84 rfl (tyX8_ok 0 (by decide)) dX8_read_2 (by omega) ?_
  refine z_aloadR_n (pc := 5) h dX8_read_5 rfl ?_
  refine z_aloadR_n (pc := 6) h dX8_read_6 rfl ?_
  refine z_getA4 (pc := 7) (c := 8) (j := 1) h (by first | assumption | rfl) rfl rfl fl_X8_7 dX8_read_7 ?_
  refine z_bipush (pc := 10) h dX8_read_10 (by decide) ?_
  refine z_ialdq (pc := 12) (c := 8) (j := 1) (L := 610) h (zo_s _ _ _) (by first | assumption | rfl) (by decide) rfl (by decide) (by omega) (by omega) dX8_read_12 (fun g12 => ?_)
  try simp only [osa_1, osa_2, oss_1, oss_2, osA_1, osA_2, zup_s, reduceIte, Nat.reduceEqDiff] at g12 ⊢
  refine z_putIo (pc := 13) (c := 8) (j := 7) h (by first | assumption | rfl) rfl rfl fl_X8_101 rfl (tyX8_ok 7 (by decide)) dX8_read_13 (by omega) ?_
  refine z_aloadR_n (pc := 16) h dX8_read_16 rfl ?_
  refine z_getA4 (pc := 17) (c := 8) (j := 1) h (by first | assumption | rfl) rfl rfl fl_X8_7 dX8_read_17 ?_
  refine z_bipush (pc := 20) h dX8_read_20 (by decide) ?_
  refine z_iconst (pc := 22) h dX8_read_22 ?_
  refine z_iasto (pc := 23) (c := 8) (j := 1) (L := 610) h (by first | assumption | rfl) (by decide) rfl (by decide) (by omega) (by omega) (by omega) dX8_read_23 ?_
  refine z_iconst (pc := 24) h dX8_read_24 ?_
  refine z_ist_1 (pc := 25) h dX8_read_25 (by decide) rfl ?_
  refine Z 120 0 _ (by omega) (by omega) (by omega) (by rw [cpf_0]; rfl) rfl hf rfl rfl rfl rfl ?_
  exact hn
