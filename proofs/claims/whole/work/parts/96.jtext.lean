/-! Law cases: type, read. -/
theorem A119_up {a : Int → Int} {i v : Int} (hi : 119 ≤ i) : A119 a (zup a i v) := fun j _ j1 => zup_n _ _ (by omega)
theorem CS_o {T : T3} {σ τ : zS} (h : CS T σ) (h4 : τ 4 = σ 4) (h5 : τ 5 = σ 5) (h6 : τ 6 = σ 6) : CS T τ := by
  unfold CS
  rw [h4, h5, h6]
  exact h
theorem RA_o {σ τ : zS} (h : RA σ) (h4 : τ 4 = σ 4) (h10 : ∀ o, 10 ≤ o → o ≤ 18 → τ o = σ o) (m5 : (τ 31).1 5 = (σ 31).1 5) (m4 : (τ 31).2 4 = (σ 31).2 4) : RA τ := RA_same h h4 (h10 10 (by omega) (by omega)) (fun o a b => h10 o (by omega) b) m5 m4
theorem J_type {σ : zS} {e : Int64} (h : REL σ) : J3 M_X7_type 3 [zR 0, .long e] M_X8_type 1 [zR 31, .long e] σ := by
  obtain ⟨T, hT, e1, hC⟩ := h.2.2.1
  obtain ⟨hl, hn, ht⟩ := h.1
  have hb := nb8_b e
  refine zC_mono (c_type hl) (fun r τ q => ?_)
  obtain ⟨rfl, q2⟩ := q
  refine ⟨_, rfl, ?_⟩
  have t31 : τ 31 = σ 31 := by
    rw [q2]
    split
    · rfl
    · exact zo_n (by decide)
  have hm := m8_type (σ := τ) (m := τ 31) (e := e) (by rw [t31, ← hn]; exact hl)
  rw [zo_self, t31, ← hn] at hm
  refine zC_mono hm (fun r2 τ2 q' => ?_)
  obtain ⟨rfl, q3⟩ := q'
  refine ⟨rfl, ?_⟩
  by_cases z : 400 < (σ 1).1 1 + nb8 e
  · rw [if_pos z] at q2 q3
    rw [q3, q2]
    exact R_same h hT hC e1 (CX.rf σ) ⟨rfl, rfl, rfl⟩ e1 rfl rfl
  · rw [if_neg z] at q2 q3
    have f1 : τ2 1 = txO (σ 1) e (nb8 e) := by rw [q3, zo_n (by decide), q2, zo_s]
    have fo : ∀ o, o ≠ 1 → o ≠ 31 → τ2 o = σ o := fun o a b => by rw [q3, zo_n b, q2, zo_n a]
    have f31 : τ2 31 = tyO (oss (σ 31) 0 0) e (nb8 e) := by rw [q3, zo_s]
    have g1 : (τ2 31).2 1 = zup ((σ 31).2 1) 119 ((σ 31).2 1 119 + nb8 e) := by rw [f31]; rfl
    have g2 : (τ2 31).2 2 = tx8 ((σ 31).2 2) e ((σ 31).2 1 119) (nb8 e) := by rw [f31]; rfl
    have g3 : (τ2 31).2 3 = (σ 31).2 3 := by rw [f31]; rfl
    have g4 : (τ2 31).2 4 = (σ 31).2 4 := by rw [f31]; rfl
    have g5 : (τ2 31).1 5 = (σ 31).1 5 := by rw [f31]; rfl
    have h11 : (τ2 1).1 1 = (σ 1).1 1 + nb8 e := by rw [f1]; rfl
    have h12 : (τ2 1).2 0 = tx8 ((σ 1).2 0) e ((σ 1).1 1) (nb8 e) := by rw [f1]; rfl
    refine ⟨⟨by rw [h11]; omega, by rw [h11, g1, zup_s, hn], fun j j0 j1 => ?_⟩, ?_, ⟨(T.1, T.2.1, (τ2 31).2 1), ?_, rfl, ?_⟩, RA_o h.2.2.2.1 (fo 4 (by decide) (by decide)) (fun o a b => fo o (by omega) (by omega)) g5 g4, RI_f h.2.2.2.2 (by rw [fo 0 (by decide) (by decide)]) (fun o a b => fo o (by omega) (by omega)) g3 (fun j hj => ?_) (fun i hi => ?_)⟩
    · rw [h12, g2, ← hn]
      unfold tx8
      split
      · rfl
      · exact ht j j0 j1
    · rw [fo 0 (by decide) (by decide), g1, zup_n _ _ (by decide), zup_n _ _ (by decide)]
      exact h.2.1
    · exact OKT_9 (P0 := T.1) (P1 := T.2.1) hT (by rw [g1, ← e1]; exact A119_up (by omega))
    · exact CS_o (CS_9 (P0 := T.1) (P1 := T.2.1) hT (by rw [g1, ← e1]; exact A119_up (by omega)) hC) (fo 4 (by decide) (by decide)) (fo 5 (by decide) (by decide)) (fo 6 (by decide) (by decide))
    · rw [g2]
      unfold tx8
      rw [if_neg (by omega)]
    · rw [g1, zup_n _ _ (by omega)]
theorem zEq_text {σ : zS} (ht : ∀ j, 0 ≤ j → j < 400 → (σ 1).2 0 j = (σ 31).2 2 j) : zEq σ (zo σ 1 (osA (σ 1) 0 ((σ 31).2 2))) ∧ (zRG σ → zRG (zo σ 1 (osA (σ 1) 0 ((σ 31).2 2)))) := by
  have hs : ∀ o j, zsc (zo σ 1 (osA (σ 1) 0 ((σ 31).2 2))) o j = zsc σ o j := fun o j => by
    unfold zsc
    by_cases e : o = 1
    · rw [e, zo_s]; rfl
    · rw [zo_n e]
  have ha : ∀ o j, zar (zo σ 1 (osA (σ 1) 0 ((σ 31).2 2))) o j = if o = 1 ∧ j = 0 then (σ 31).2 2 else zar σ o j := fun o j => by
    unfold zar
    by_cases e : o = 1
    · rw [e, zo_s, osA_2]
      by_cases e2 : j = 0
      · rw [if_pos e2, if_pos ⟨rfl, e2⟩, ]
      · rw [if_neg e2, if_neg (fun z => e2 z.2)]
    · rw [zo_n e, if_neg (fun z => e z.1)]
  refine ⟨⟨fun o j => (hs o j).symm, fun o j n n0 n1 => ?_⟩, fun hr => ⟨fun o j => by rw [hs]; exact hr.1 o j, fun o j n => ?_⟩⟩
  · rw [ha]
    by_cases z : o = 1 ∧ j = 0
    · rw [if_pos z]
      obtain ⟨rfl, rfl⟩ := z
      exact ht n n0 n1
    · rw [if_neg z]
  · rw [ha]
    by_cases z : o = 1 ∧ j = 0
    · rw [if_pos z]
      obtain ⟨rfl, rfl⟩ := z
      exact hr.2 31 2 n
    · rw [if_neg z]
      exact hr.2 o j n
theorem R_rd {σ τ : zS} {m' : zOb} {T' : T3} {x y : Int} (h : REL σ) (hT' : OKT T') (e' : m'.2 1 = T'.2.2) (hC' : CS T' τ) (hA' : RA (zo τ 31 m')) (hm : ∀ i, 119 ≤ i → m'.2 1 i = rdF ((σ 31).2 1) x y i) (t0 : τ 0 = oss (oss (σ 0) 10 x) 11 y) (t11 : (τ 1).1 1 = 0) (t12 : (τ 1).2 0 = (σ 31).2 2) (hi : ∀ o, 19 ≤ o → o ≤ 30 → τ o = σ o) (hMP : MP (σ 31) m') : REL (zo τ 31 m') := by
  have e31 : zo τ 31 m' 31 = m' := zo_s _ _ _
  have e1 : zo τ 31 m' 1 = τ 1 := zo_n (by decide)
  have e0 : zo τ 31 m' 0 = τ 0 := zo_n (by decide)
  have r : ∀ i, 122 ≤ i → m'.2 1 i = (σ 31).2 1 i := fun i z => by
    rw [hm i (by omega)]
    unfold rdF
    rw [zup_n _ _ (by omega), zup_n _ _ (by omega), zup_n _ _ (by omega)]
  have r119 : m'.2 1 119 = 0 := by rw [hm 119 (by omega)]; unfold rdF; rw [zup_n _ _ (by decide), zup_n _ _ (by decide), zup_s]
  have r120 : m'.2 1 120 = x := by rw [hm 120 (by omega)]; unfold rdF; rw [zup_n _ _ (by decide), zup_s]
  have r121 : m'.2 1 121 = y := by rw [hm 121 (by omega)]; unfold rdF; rw [zup_s]
  refine ⟨⟨by rw [e1, t11]; omega, by rw [e1, e31, t11, r119], fun j j0 j1 => by rw [e1, e31, t12, hMP.2.1]⟩, ?_, ⟨T', hT', by rw [e31]; exact e', CS_31 hC'⟩, hA', RI_f h.2.2.2.2 (by rw [e0, t0]; rfl) (fun o a b => by rw [zo_n (by omega)]; exact hi o a b) (by rw [e31]; exact hMP.2.2) (fun j _ => by rw [e31, hMP.2.1]) (fun i z => by rw [e31]; exact r i z)⟩
  rw [e0, e31, t0, r120, r121]
  exact ⟨rfl, rfl⟩
theorem J_read {σ : zS} (h : REL σ) : J3 M_X7_read 9 [zR 0] M_X8_read 8 [zR 31] σ := by
  obtain ⟨T, hT, e1, hC⟩ := h.2.2.1
  obtain ⟨hl, hn, ht⟩ := h.1
  obtain ⟨hq1, hq2⟩ := zEq_text ht
  refine zC_norm hq1 hq2 ?_
  have p1 : zo σ 1 (osA (σ 1) 0 ((σ 31).2 2)) 1 = osA (σ 1) 0 ((σ 31).2 2) := zo_s _ _ _
  have po : ∀ o, o ≠ 1 → zo σ 1 (osA (σ 1) 0 ((σ 31).2 2)) o = σ o := fun o a => zo_n a
  have pf : (zo σ 1 (osA (σ 1) 0 ((σ 31).2 2)) 1).2 0 = (σ 31).2 2 := by rw [p1]; exact osA_at _ _ _
  have pn : (zo σ 1 (osA (σ 1) 0 ((σ 31).2 2)) 1).1 1 = (σ 31).2 1 119 := by rw [p1]; exact hn
  have hc := c_read (σ := zo σ 1 (osA (σ 1) 0 ((σ 31).2 2))) (a0 := aI ((σ 31).2 15)) (A := fun S => cpf (rdF ((σ 31).2 1) 0 S.2.2.2.2) S.2.1 0 119) (by rw [pn, ← hn]; exact hl) (aI_v _) (fun S i i0 i1 => by show (if 0 ≤ i ∧ i < 0 + 119 then _ else _) = _; rw [if_pos (by omega)])
  rw [pf, pn] at hc
  generalize hσ' : zo σ 1 (osA (σ 1) 0 ((σ 31).2 2)) = ρ at hc p1 po pf pn
  refine zC_mono hc (fun r τ q => ?_)
  obtain ⟨t1, to, tm⟩ := q
  have t31 : τ 31 = σ 31 := by rw [to 31 (by omega)]; exact po 31 (by decide)
  have hi : ∀ o, 19 ≤ o → o ≤ 30 → τ o = σ o := fun o a b => by rw [to o (by omega)]; exact po o (by omega)
  have t11 : (τ 1).1 1 = 0 := by rw [t1]; rfl
  have t12 : (τ 1).2 0 = (σ 31).2 2 := by rw [t1]; exact pf
  have hFP : ∀ S, prs ((σ 31).2 2) ((σ 31).2 1 119) 401 (0, aI ((σ 31).2 15), 0, (0, -1)) = .inr S → S.2.2.2.1 = 0 → FPI (cpf (rdF ((σ 31).2 1) 0 S.2.2.2.2) S.2.1 0 119) 0 0 (T0 (cpf (rdF ((σ 31).2 1) 0 S.2.2.2.2) S.2.1 0 119)) := fun S eR eb => by
    rw [eR] at tm
    change (if S.2.2.2.1 = 0 then _ else _) at tm
    rw [if_pos eb] at tm
    exact TOLD_FPI tm.2.2.1
  have hm := m8_read (σ := τ) (m := σ 31) (by rw [← hn]; exact hl) hFP
  rw [← t31, zo_self, t31] at hm
  have hbad : ∀ x y, τ 0 = oss (oss (σ 0) 10 x) 11 y → τ 4 = σ 4 → τ 5 = σ 5 → τ 6 = σ 6 → τ 10 = σ 10 → ∀ m', MP (σ 31) m' → m'.2 1 = rdF ((σ 31).2 1) x y → m'.1 5 = (σ 31).1 5 → m'.2 4 = (σ 31).2 4 → REL (zo τ 31 m') := by
    intro x y t0 t4 t5 t6 t10 m' hMP em m5 m4
    have hA1 : A119 T.2.2 (m'.2 1) := fun i i0 i1 => by
      rw [em, ← e1]
      unfold rdF
      rw [zup_n _ _ (by omega), zup_n _ _ (by omega), zup_n _ _ (by omega)]
    have e31 : zo τ 31 m' 31 = m' := zo_s _ _ _
    refine R_rd (T' := (T.1, T.2.1, m'.2 1)) (x := x) (y := y) h (OKT_9 (P0 := T.1) (P1 := T.2.1) hT hA1) rfl (CS_o (CS_9 (P0 := T.1) (P1 := T.2.1) hT hA1 hC) t4 t5 t6) ?_ (fun i _ => by rw [em]) t0 t11 t12 hi hMP
    refine RA_o h.2.2.2.1 (by rw [zo_n (by decide)]; exact t4) (fun o a b => ?_) (by rw [e31]; exact m5) (by rw [e31]; exact m4)
    rw [zo_n (by omega)]
    by_cases z : o = 10
    · rw [z]; exact t10
    · rw [to o (by omega)]; exact po o (by omega)
  clear hc
  generalize hR : prs ((σ 31).2 2) ((σ 31).2 1 119) 401 (0, aI ((σ 31).2 15), 0, (0, -1)) = R at tm hm hFP
  cases R with
  | inl p =>
    obtain ⟨rfl, t0, t4, t5, t6, t10⟩ := tm
    rw [po 0 (by decide)] at t0
    refine ⟨-1, rfl, zC_mono hm (fun r2 τ2 q' => ?_)⟩
    obtain ⟨m', rfl, hMP, rfl, em, m5, m4⟩ := q'
    exact ⟨rfl, hbad 1 p t0 (t4.trans (po 4 (by decide))) (t5.trans (po 5 (by decide))) (t6.trans (po 6 (by decide))) (t10.trans (po 10 (by decide))) m' hMP em m5 m4⟩
  | inr S =>
    change (if S.2.2.2.1 = 0 then _ else _) at tm
    by_cases eb : S.2.2.2.1 = 0
    · rw [if_pos eb] at tm
      obtain ⟨rfl, t0, tT, tC, t10⟩ := tm
      rw [po 0 (by decide)] at t0
      rw [po 10 (by decide)] at t10
      refine ⟨S.2.1 1, rfl, zC_mono hm (fun r2 τ2 q' => ?_)⟩
      obtain ⟨m', rfl, hMP, q3⟩ := q'
      change (if S.2.2.2.1 = 0 then _ else _) at q3
      rw [if_pos eb] at q3
      obtain ⟨rfl, em, m5⟩ := q3
      have hok := fpl_ok (hFP S rfl eb)
      have e31 : zo τ 31 m' 31 = m' := zo_s _ _ _
      refine ⟨rfl, R_rd (x := 0) (y := S.2.2.2.2) h hok.1 em tC ?_ (fun i hi2 => ?_) t0 t11 t12 hi hMP⟩
      · have e10 : zo τ 31 m' 10 = oss (σ 10) 1 0 := by rw [zo_n (by decide)]; exact t10
        have hB : (zo τ 31 m' 10).2 0 = (σ 10).2 0 := by rw [e10]; rfl
        have hM1 : (zo τ 31 m' 10).1 1 = 0 := by rw [e10]; rfl
        exact ⟨⟨by rw [hB]; exact h.2.2.2.1.1.1, by rw [hM1]; omega⟩, by rw [e31, hM1]; exact m5, fun i i0 i1 => by rw [hM1] at i1; omega⟩
      · rw [em, hok.2 i (Or.inr hi2)]
        show (if 0 ≤ i ∧ i < 0 + 119 then _ else _) = _
        rw [if_neg (by omega)]
    · rw [if_neg eb] at tm
      obtain ⟨rfl, t0, t4, t5, t6, t10⟩ := tm
      rw [po 0 (by decide)] at t0
      refine ⟨-1, rfl, zC_mono hm (fun r2 τ2 q' => ?_)⟩
      obtain ⟨m', rfl, hMP, q3⟩ := q'
      change (if S.2.2.2.1 = 0 then _ else _) at q3
      rw [if_neg eb] at q3
      obtain ⟨rfl, em, m5, m4⟩ := q3
      exact ⟨rfl, hbad _ _ t0 (t4.trans (po 4 (by decide))) (t5.trans (po 5 (by decide))) (t6.trans (po 6 (by decide))) (t10.trans (po 10 (by decide))) m' hMP em m5 m4⟩
