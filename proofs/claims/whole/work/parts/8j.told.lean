/-! What a text has told so far: the class's dock and the model's table. -/
def TOLD (a : Int → Int) (dk : zOb) : Prop := WFa a ∧ DKE dk a ∧ (∀ t, 0 ≤ t → t < a 1 → dk.2 8 t = a (17 + 6 * t + 1)) ∧ dk.1 3 = a 2 ∧ a 4 = 0 ∧ (∀ i, 65 ≤ i → i < 119 → a i = 0)
theorem fs_same {a b : Int → Int} (h : ∀ t, 0 ≤ t → t < b 1 → ∀ k, 0 ≤ k → k ≤ 5 → b (17 + 6 * t + k) = a (17 + 6 * t + k)) {t : Int} (ht : t ≤ b 1) : a_fs b t = a_fs a t := by
  refine zfor_congr (fun i s g0 g1 => ?_)
  unfold a_load
  rw [h i g0 (by omega) 0 (by omega) (by omega), h i g0 (by omega) 2 (by omega) (by omega), h i g0 (by omega) 3 (by omega) (by omega), h i g0 (by omega) 4 (by omega) (by omega), h i g0 (by omega) 5 (by omega) (by omega)]
theorem pl_same {a b : Int → Int} {t : Int} (h : ∀ k, 0 ≤ k → k ≤ 5 → b (17 + 6 * t + k) = a (17 + 6 * t + k)) {d : Int} (hd : d ≤ 4) : a_pl b t d = a_pl a t d := by
  refine zfor_congr (fun i s g0 g1 => ?_)
  rw [h (2 + i) (by omega) (by omega)]
theorem load_same {a b : Int → Int} {t : Int} (h : ∀ k, 0 ≤ k → k ≤ 5 → b (17 + 6 * t + k) = a (17 + 6 * t + k)) : a_load b t = a_load a t := by
  unfold a_load
  rw [h 2 (by omega) (by omega), h 3 (by omega) (by omega), h 4 (by omega) (by omega), h 5 (by omega) (by omega)]
theorem TOLD_0 {a : Int → Int} {dk : zOb} (ha : ∀ i, 0 ≤ i → i < 119 → a i = if i = 2 then 10 else if i = 3 then 2 else 0) (h0 : dk.1 0 = 0) (h1 : dk.1 1 = 0) (h2 : dk.1 2 = 0) (h3 : dk.1 3 = 10) (h4 : dk.1 4 = 2) : TOLD a dk := by
  have a0 : a 0 = 0 := ha 0 (by omega) (by omega)
  have a1 : a 1 = 0 := ha 1 (by omega) (by omega)
  have a2 : a 2 = 10 := ha 2 (by omega) (by omega)
  have a3 : a 3 = 2 := ha 3 (by omega) (by omega)
  have a4 : a 4 = 0 := ha 4 (by omega) (by omega)
  have af : a_fs a (a 1) = 0 := by rw [a1]; rfl
  refine ⟨⟨by omega, by omega, by omega, by omega, by omega, fun d x y => by omega, fun t x y => by omega, by omega⟩, ⟨by omega, by omega, by rw [af]; exact h2, by omega, fun d x y => by omega, fun t x y => by omega, fun c x y => by rw [af] at y; omega⟩, fun t x y => by omega, by omega, a4, fun i x y => ?_⟩
  rw [ha i (by omega) y, if_neg (by omega), if_neg (by omega)]
/-- a door more -/
def dO (dk : zOb) (k v : Int) : zOb := oss (osa (osa dk 5 (dk.1 0) k) 6 (dk.1 0) v) 0 (dk.1 0 + 1)
def aD (a : Int → Int) (k v : Int) : Int → Int := zup (zup (zup a (5 + 2 * a 0) k) (5 + 2 * a 0 + 1) v) 0 (a 0 + 1)
theorem TOLD_door {a : Int → Int} {dk : zOb} {k v : Int} (h : TOLD a dk) (h6 : a 0 < 6) (hk : k = 0 ∨ k = 1) (hv : 0 ≤ v ∧ v ≤ 99) : TOLD (aD a k v) (dO dk k v) := by
  obtain ⟨hw, hE, har, hst, h4, hr⟩ := h
  have g0 := hw.1
  have e0 : aD a k v 0 = a 0 + 1 := zup_s _ _ _
  have eo : ∀ i, i ≠ 0 → i ≠ 5 + 2 * a 0 → i ≠ 5 + 2 * a 0 + 1 → aD a k v i = a i := fun i x y z => by unfold aD; rw [zup_n _ _ x, zup_n _ _ z, zup_n _ _ y]
  have ek : aD a k v (5 + 2 * a 0) = k := by unfold aD; rw [zup_n _ _ (by omega), zup_n _ _ (by omega), zup_s]
  have ev : aD a k v (5 + 2 * a 0 + 1) = v := by unfold aD; rw [zup_n _ _ (by omega), zup_s]
  have e1 : aD a k v 1 = a 1 := eo 1 (by omega) (by omega) (by omega)
  have g1 := hw.2.1
  have et : ∀ t, 0 ≤ t → t < aD a k v 1 → ∀ j, 0 ≤ j → j ≤ 5 → aD a k v (17 + 6 * t + j) = a (17 + 6 * t + j) := fun t x y j z w => eo _ (by omega) (by omega) (by omega)
  have et' : ∀ t, 0 ≤ t → t < a 1 → ∀ j, 0 ≤ j → j ≤ 5 → aD a k v (17 + 6 * t + j) = a (17 + 6 * t + j) := fun t x y j z w => eo _ (by omega) (by omega) (by omega)
  have ef : ∀ t, t ≤ a 1 → a_fs (aD a k v) t = a_fs a t := fun t x => fs_same et (by rw [e1]; exact x)
  have el : ∀ t, 0 ≤ t → t < a 1 → a_load (aD a k v) t = a_load a t := fun t x y => load_same (et' t x y)
  have ed : ∀ d, 0 ≤ d → d < a 0 → aD a k v (5 + 2 * d) = a (5 + 2 * d) ∧ aD a k v (5 + 2 * d + 1) = a (5 + 2 * d + 1) := fun d x y => ⟨eo _ (by omega) (by omega) (by omega), eo _ (by omega) (by omega) (by omega)⟩
  have hcd : dk.1 0 = a 0 := hE.1
  refine ⟨⟨by omega, by omega, by rw [eo 2 (by omega) (by omega) (by omega)]; exact hw.2.2.1, by rw [eo 3 (by omega) (by omega) (by omega)]; exact hw.2.2.2.1, by rw [eo 4 (by omega) (by omega) (by omega)]; exact hw.2.2.2.2.1, fun d x y => ?_, fun t x y => ?_, ?_⟩, ⟨?_, ?_, ?_, ?_, fun d x y => ?_, fun t x y => ?_, fun c x y => ?_⟩, fun t x y => ?_, ?_, ?_, fun i x y => ?_⟩
  · by_cases e : d = a 0
    · rw [e, ek, ev]; omega
    · rw [(ed d x (by omega)).1, (ed d x (by omega)).2]; exact hw.2.2.2.2.2.1 d x (by omega)
  · rw [e1] at y
    rw [et' t x y 0 (by omega) (by omega), et' t x y 1 (by omega) (by omega), et' t x y 2 (by omega) (by omega), et' t x y 3 (by omega) (by omega), et' t x y 4 (by omega) (by omega), et' t x y 5 (by omega) (by omega), el t x y]
    exact hw.2.2.2.2.2.2.1 t x y
  · rw [e1, ef _ (Int.le_refl _)]; exact hw.2.2.2.2.2.2.2
  · show dk.1 0 + 1 = _; rw [e0, hcd]
  · rw [e1]; exact hE.2.1
  · rw [e1, ef _ (Int.le_refl _)]; exact hE.2.2.1
  · rw [eo 3 (by omega) (by omega) (by omega)]; exact hE.2.2.2.1
  · show zup (dk.2 5) (dk.1 0) k d = _ ∧ zup (dk.2 6) (dk.1 0) v d = _
    rw [hcd]
    by_cases e : d = a 0
    · rw [e, zup_s, zup_s, ek, ev]; exact ⟨rfl, rfl⟩
    · rw [zup_n _ _ e, zup_n _ _ e, (ed d x (by omega)).1, (ed d x (by omega)).2]; exact hE.2.2.2.2.1 d x (by omega)
  · rw [e1] at y
    rw [et' t x y 0 (by omega) (by omega), et' t x y 2 (by omega) (by omega), et' t x y 3 (by omega) (by omega), et' t x y 4 (by omega) (by omega), et' t x y 5 (by omega) (by omega), el t x y, ef t (by omega)]
    exact hE.2.2.2.2.2.1 t x y
  · rw [e1, ef _ (Int.le_refl _)] at y
    obtain ⟨x1, x2, x3, x4, x5⟩ := hE.2.2.2.2.2.2 c x y
    show (0 ≤ dk.2 14 c ∧ dk.2 14 c < _) ∧ _
    rw [e1]
    refine ⟨x1, ?_, x3, ?_, ?_⟩
    · show aD a k v (17 + 6 * dk.2 14 c + 0) = 0
      rw [et' _ x1.1 x1.2 0 (by omega) (by omega)]; exact x2
    · show a_fs (aD a k v) (dk.2 14 c) + a_pl (aD a k v) (dk.2 14 c) (dk.2 15 c) ≤ c
      rw [ef _ (by omega), pl_same (et' _ x1.1 x1.2) (by omega)]; exact x4
    · show c < a_fs (aD a k v) (dk.2 14 c) + a_pl (aD a k v) (dk.2 14 c) (dk.2 15 c) + aD a k v (17 + 6 * dk.2 14 c + (2 + dk.2 15 c))
      rw [ef _ (by omega), pl_same (et' _ x1.1 x1.2) (by omega), et' _ x1.1 x1.2 _ (by omega) (by omega)]; exact x5
  · rw [e1] at y
    rw [et' t x y 1 (by omega) (by omega)]; exact har t x y
  · rw [eo 2 (by omega) (by omega) (by omega)]; exact hst
  · rw [eo 4 (by omega) (by omega) (by omega)]; exact h4
  · rw [eo i (by omega) (by omega) (by omega)]; exact hr i x y
/-- a truck more -/
def AP (a a' : Int → Int) (P : Int → Int) : Prop := a' 1 = a 1 + 1 ∧ (∀ k, 0 ≤ k → k ≤ 5 → a' (17 + 6 * a 1 + k) = P k) ∧ ∀ i, 0 ≤ i → i < 119 → i ≠ 1 → (i < 17 + 6 * a 1 ∨ 17 + 6 * a 1 + 5 < i) → a' i = a i
theorem AP.et {a a' P : Int → Int} (h : AP a a' P) (h8 : a 1 < 8) : ∀ t, 0 ≤ t → t < a 1 → ∀ j, 0 ≤ j → j ≤ 5 → a' (17 + 6 * t + j) = a (17 + 6 * t + j) := fun t x y j z w => h.2.2 _ (by omega) (by omega) (by omega) (by omega)
theorem AP.ef {a a' P : Int → Int} (h : AP a a' P) (h8 : a 1 < 8) {t : Int} (ht : t ≤ a 1) : a_fs a' t = a_fs a t := by
  refine zfor_congr (fun i s g0 g1 => ?_)
  have e := h.et h8 i g0 (by omega)
  unfold a_load
  rw [e 0 (by omega) (by omega), e 2 (by omega) (by omega), e 3 (by omega) (by omega), e 4 (by omega) (by omega), e 5 (by omega) (by omega)]
theorem AP.el {a a' P : Int → Int} (h : AP a a' P) : a_load a' (a 1) = P 2 + P 3 + P 4 + P 5 := by
  unfold a_load
  rw [h.2.1 2 (by omega) (by omega), h.2.1 3 (by omega) (by omega), h.2.1 4 (by omega) (by omega), h.2.1 5 (by omega) (by omega)]
theorem AP.ef1 {a a' P : Int → Int} (h : AP a a' P) (h8 : a 1 < 8) (h0 : 0 ≤ a 1) : a_fs a' (a' 1) = a_fs a (a 1) + (if P 0 = 1 then 0 else P 2 + P 3 + P 4 + P 5) := by
  rw [h.1]
  show zfor _ (a 1 + 1) 0 = _
  rw [zfor_S _ h0]
  have e := h.ef h8 (Int.le_refl _)
  have : zfor (fun u s => if a' (17 + 6 * u + 0) = 1 then s else s + a_load a' u) (a 1) 0 = a_fs a (a 1) := e
  rw [this, h.2.1 0 (by omega) (by omega), h.el]
  split <;> omega
/-- what a dock with one truck more is -/
def DP (dk dk' : zOb) (n : Int) : Prop := dk'.1 0 = dk.1 0 ∧ dk'.1 3 = dk.1 3 ∧ dk'.1 4 = dk.1 4 ∧ dk'.1 1 = n + 1 ∧ dk'.2 5 = dk.2 5 ∧ dk'.2 6 = dk.2 6 ∧ ∀ t, 0 ≤ t → t < n → dk'.2 7 t = dk.2 7 t ∧ dk'.2 8 t = dk.2 8 t ∧ dk'.2 9 t = dk.2 9 t ∧ dk'.2 10 t = dk.2 10 t ∧ dk'.2 11 t = dk.2 11 t ∧ dk'.2 12 t = dk.2 12 t ∧ dk'.2 13 t = dk.2 13 t
/-- cartons behind the first N -/
def CN (dk dk' : zOb) (N L n : Int) (P : Int → Int) : Prop := dk'.1 2 = N + L ∧ (∀ c, 0 ≤ c → c < N → dk'.2 14 c = dk.2 14 c ∧ dk'.2 15 c = dk.2 15 c) ∧ ∀ c, N ≤ c → c < N + L → dk'.2 14 c = n ∧ (0 ≤ dk'.2 15 c ∧ dk'.2 15 c ≤ 3) ∧ N + zsum (fun e => P (2 + e)) (dk'.2 15 c) ≤ c ∧ c < N + zsum (fun e => P (2 + e)) (dk'.2 15 c) + P (2 + dk'.2 15 c)
theorem AP.pl {a a' P : Int → Int} (h : AP a a' P) {z : Int} (hz : z ≤ 4) : a_pl a' (a 1) z = zsum (fun e => P (2 + e)) z := by
  refine zfor_congr (fun i s g0 g1 => ?_)
  rw [h.2.1 (2 + i) (by omega) (by omega)]
theorem TOLD_truck {a a' P : Int → Int} {dk dk' : zOb} (h : TOLD a dk) (h8 : a 1 < 8) (hA : AP a a' P) (hD : DP dk dk' (a 1)) (hP0 : P 0 = 0 ∨ P 0 = 1) (hP1 : 0 ≤ P 1 ∧ P 1 ≤ 99)
    (hin : P 0 = 0 → ((0 ≤ P 2 ∧ P 2 ≤ 15) ∧ (0 ≤ P 3 ∧ P 3 ≤ 15) ∧ (0 ≤ P 4 ∧ P 4 ≤ 15) ∧ (0 ≤ P 5 ∧ P 5 ≤ 15) ∧ 1 ≤ P 2 + P 3 + P 4 + P 5 ∧ a_fs a (a 1) + (P 2 + P 3 + P 4 + P 5) ≤ 40) ∧ dk'.2 9 (a 1) = -1 ∧ dk'.2 10 (a 1) = -1 ∧ dk'.2 11 (a 1) = P 2 + P 3 + P 4 + P 5 ∧ dk'.2 12 (a 1) = -1 ∧ dk'.2 13 (a 1) = a_fs a (a 1) ∧ CN dk dk' (a_fs a (a 1)) (P 2 + P 3 + P 4 + P 5) (a 1) P)
    (hout : P 0 = 1 → ((0 ≤ P 2 ∧ P 2 ≤ 3) ∧ (0 ≤ P 3 ∧ P 3 ≤ 199) ∧ (1 ≤ P 4 ∧ P 4 ≤ 40) ∧ (1 ≤ P 5 ∧ P 5 ≤ 9)) ∧ dk'.2 9 (a 1) = P 2 ∧ dk'.2 10 (a 1) = P 3 ∧ dk'.2 11 (a 1) = P 4 ∧ dk'.2 12 (a 1) = P 5 ∧ CN dk dk' (a_fs a (a 1)) 0 (a 1) P)
    (h7 : dk'.2 7 (a 1) = P 0) (h8' : dk'.2 8 (a 1) = P 1) : TOLD a' dk' := by
  obtain ⟨hw, hE, har, hst, h4, hr⟩ := h
  have g1 := hw.2.1
  have g0 := hw.1
  have et := hA.et h8
  have ef : ∀ t, t ≤ a 1 → a_fs a' t = a_fs a t := fun t x => hA.ef h8 x
  have el : ∀ t, 0 ≤ t → t < a 1 → a_load a' t = a_load a t := fun t x y => load_same (et t x y)
  have e1 := hA.1
  have eo : ∀ i, 0 ≤ i → i < 119 → i ≠ 1 → (i < 17 + 6 * a 1 ∨ 17 + 6 * a 1 + 5 < i) → a' i = a i := hA.2.2
  have e0 : a' 0 = a 0 := eo 0 (by omega) (by omega) (by omega) (by omega)
  have eP := hA.2.1
  have efn := hA.ef1 h8 g1.1
  have eln := hA.el
  have hfn : 0 ≤ a_fs a (a 1) := by
    rw [← hE.2.2.1]
    rcases hP0 with z | z
    · have := (hin z).2.2.2.2.2.2
      by_cases q : a 1 = 0
      · rw [hE.2.2.1, q]; exact Int.le_refl 0
      · have := (fs_step hw (t := a 1 - 1) (u := a 1) (by omega) (by omega) (Int.le_refl _))
        rw [hE.2.2.1]
        have hl : 0 ≤ (if a (17 + 6 * (a 1 - 1) + 0) = 1 then 0 else a_load a (a 1 - 1)) := by
          split
          · omega
          · rename_i hz
            have := a_load_b hw (t := a 1 - 1) (by omega) (by omega) (by have := (hw.2.2.2.2.2.2.1 (a 1 - 1) (by omega) (by omega)).1; omega)
            omega
        omega
    · by_cases q : a 1 = 0
      · rw [hE.2.2.1, q]; exact Int.le_refl 0
      · have := (fs_step hw (t := a 1 - 1) (u := a 1) (by omega) (by omega) (Int.le_refl _))
        rw [hE.2.2.1]
        have hl : 0 ≤ (if a (17 + 6 * (a 1 - 1) + 0) = 1 then 0 else a_load a (a 1 - 1)) := by
          split
          · omega
          · rename_i hz
            have := a_load_b hw (t := a 1 - 1) (by omega) (by omega) (by have := (hw.2.2.2.2.2.2.1 (a 1 - 1) (by omega) (by omega)).1; omega)
            omega
        omega
  have ed : ∀ d, 0 ≤ d → d < a 0 → a' (5 + 2 * d) = a (5 + 2 * d) ∧ a' (5 + 2 * d + 1) = a (5 + 2 * d + 1) := fun d x y => ⟨eo _ (by omega) (by omega) (by omega) (by omega), eo _ (by omega) (by omega) (by omega) (by omega)⟩
  have h40 := hw.2.2.2.2.2.2.2
  have hCN : CN dk dk' (a_fs a (a 1)) (if P 0 = 1 then 0 else P 2 + P 3 + P 4 + P 5) (a 1) P := by
    rcases hP0 with z | z
    · rw [if_neg (by omega)]; exact (hin z).2.2.2.2.2.2
    · rw [if_pos z]; exact (hout z).2.2.2.2.2
  refine ⟨⟨by omega, by omega, by rw [eo 2 (by omega) (by omega) (by omega) (by omega)]; exact hw.2.2.1, by rw [eo 3 (by omega) (by omega) (by omega) (by omega)]; exact hw.2.2.2.1, by rw [eo 4 (by omega) (by omega) (by omega) (by omega)]; exact hw.2.2.2.2.1, fun d x y => ?_, fun t x y => ?_, ?_⟩, ⟨?_, ?_, ?_, ?_, fun d x y => ?_, fun t x y => ?_, fun c x y => ?_⟩, fun t x y => ?_, ?_, ?_, fun i x y => ?_⟩
  · rw [e0] at y
    rw [(ed d x y).1, (ed d x y).2]; exact hw.2.2.2.2.2.1 d x y
  · by_cases e : t = a 1
    · rw [e, eP 0 (by omega) (by omega), eP 1 (by omega) (by omega), eP 2 (by omega) (by omega), eP 3 (by omega) (by omega), eP 4 (by omega) (by omega), eP 5 (by omega) (by omega), eln]
      refine ⟨hP0, hP1, fun z => (hout z).1, fun z => ?_⟩
      have := (hin z).1
      omega
    · have y' : t < a 1 := by omega
      rw [et t x y' 0 (by omega) (by omega), et t x y' 1 (by omega) (by omega), et t x y' 2 (by omega) (by omega), et t x y' 3 (by omega) (by omega), et t x y' 4 (by omega) (by omega), et t x y' 5 (by omega) (by omega), el t x y']
      exact hw.2.2.2.2.2.2.1 t x y'
  · rw [efn]
    rcases hP0 with z | z
    · rw [if_neg (by omega)]; exact (hin z).1.2.2.2.2.2
    · rw [if_pos z]; omega
  · rw [hD.1, e0]; exact hE.1
  · rw [hD.2.2.2.1, e1]
  · rw [efn, hCN.1]
  · rw [hD.2.2.1, eo 3 (by omega) (by omega) (by omega) (by omega)]; exact hE.2.2.2.1
  · rw [e0] at y
    rw [hD.2.2.2.2.1, hD.2.2.2.2.2.1, (ed d x y).1, (ed d x y).2]; exact hE.2.2.2.2.1 d x y
  · by_cases e : t = a 1
    · rw [e, eP 0 (by omega) (by omega), eP 2 (by omega) (by omega), eP 3 (by omega) (by omega), eP 4 (by omega) (by omega), eP 5 (by omega) (by omega), eln, ef _ (Int.le_refl _)]
      refine ⟨h7, fun z => ?_, fun z => ?_⟩
      · have := (hout z).2; exact ⟨this.1, this.2.1, this.2.2.1, this.2.2.2.1⟩
      · have := (hin z).2; exact ⟨this.1, this.2.1, this.2.2.1, this.2.2.2.1, this.2.2.2.2.1⟩
    · have y' : t < a 1 := by omega
      have dd := hD.2.2.2.2.2.2 t x y'
      rw [dd.1, dd.2.2.1, dd.2.2.2.1, dd.2.2.2.2.1, dd.2.2.2.2.2.1, dd.2.2.2.2.2.2, et t x y' 0 (by omega) (by omega), et t x y' 2 (by omega) (by omega), et t x y' 3 (by omega) (by omega), et t x y' 4 (by omega) (by omega), et t x y' 5 (by omega) (by omega), el t x y', ef t (by omega)]
      exact hE.2.2.2.2.2.1 t x y'
  · rw [efn] at y
    by_cases q : c < a_fs a (a 1)
    · have cc := hCN.2.1 c x q
      obtain ⟨x1, x2, x3, x4, x5⟩ := hE.2.2.2.2.2.2 c x q
      rw [cc.1, cc.2, e1]
      refine ⟨by omega, ?_, x3, ?_, ?_⟩
      · rw [et _ x1.1 x1.2 0 (by omega) (by omega)]; exact x2
      · rw [ef _ (by omega), pl_same (et _ x1.1 x1.2) (by omega)]; exact x4
      · rw [ef _ (by omega), pl_same (et _ x1.1 x1.2) (by omega), et _ x1.1 x1.2 _ (by omega) (by omega)]; exact x5
    · have cc := hCN.2.2 c (by omega) y
      have hz : P 0 = 0 := by
        rcases hP0 with z | z
        · exact z
        · rw [if_pos z] at y; omega
      rw [cc.1, e1, eP 0 (by omega) (by omega), ef _ (Int.le_refl _), hA.pl (by omega), eP (2 + dk'.2 15 c) (by omega) (by omega)]
      exact ⟨by omega, hz, cc.2.1, cc.2.2.1, cc.2.2.2⟩
  · by_cases e : t = a 1
    · rw [e, eP 1 (by omega) (by omega)]; exact h8'
    · have y' : t < a 1 := by omega
      rw [(hD.2.2.2.2.2.2 t x y').2.1, et t x y' 1 (by omega) (by omega)]; exact har t x y'
  · rw [hD.2.1, eo 2 (by omega) (by omega) (by omega) (by omega)]; exact hst
  · rw [eo 4 (by omega) (by omega) (by omega) (by omega)]; exact h4
  · rw [eo i (by omega) y (by omega) (by omega)]; exact hr i x y
theorem TOLD_stg {a : Int → Int} {dk : zOb} {v : Int} (h : TOLD a dk) (hv : 0 ≤ v ∧ v ≤ 40) : TOLD (zup a 2 v) (oss dk 3 v) := by
  obtain ⟨hw, hE, har, hst, h4, hr⟩ := h
  have eo : ∀ i, i ≠ 2 → zup a 2 v i = a i := fun i x => zup_n _ _ x
  have ef : ∀ t, 0 ≤ t → a_fs (zup a 2 v) t = a_fs a t := fun t _ => zfor_congr (fun i s g0 g1 => by unfold a_load; rw [eo _ (by omega), eo _ (by omega), eo _ (by omega), eo _ (by omega), eo _ (by omega)])
  have ANEh : ANE a (zup a 2 v) := fun i _ _ x _ _ => zup_n _ _ x
  have hE' := DKE_n hw ANEh hE
  have e1 : zup a 2 v 1 = a 1 := eo 1 (by omega)
  have e0 : zup a 2 v 0 = a 0 := eo 0 (by omega)
  refine ⟨⟨by rw [e0]; exact hw.1, by rw [e1]; exact hw.2.1, by rw [zup_s]; exact hv, by rw [eo 3 (by omega)]; exact hw.2.2.2.1, by rw [eo 4 (by omega)]; exact hw.2.2.2.2.1, fun d x y => ?_, fun t x y => ?_, ?_⟩, hE', fun t x y => ?_, ?_, ?_, fun i x y => ?_⟩
  · rw [eo _ (by omega), eo _ (by omega)]; rw [e0] at y; exact hw.2.2.2.2.2.1 d x y
  · rw [e1] at y
    have := hw.2.2.2.2.2.2.1 t x y
    unfold a_load at this ⊢
    rw [eo _ (by omega), eo _ (by omega), eo _ (by omega), eo _ (by omega), eo _ (by omega), eo _ (by omega)]; exact this
  · rw [e1, ef _ hw.2.1.1]; exact hw.2.2.2.2.2.2.2
  · rw [e1] at y; rw [eo _ (by omega)]; exact har t x y
  · show v = _; rw [zup_s]
  · rw [eo 4 (by omega)]; exact h4
  · rw [eo i (by omega)]; exact hr i x y
theorem TOLD_chg {a : Int → Int} {dk : zOb} {v : Int} (h : TOLD a dk) (hv : 0 ≤ v ∧ v ≤ 9) : TOLD (zup a 3 v) (oss dk 4 v) := by
  obtain ⟨hw, hE, har, hst, h4, hr⟩ := h
  have eo : ∀ i, i ≠ 3 → zup a 3 v i = a i := fun i x => zup_n _ _ x
  have ef : ∀ t, 0 ≤ t → a_fs (zup a 3 v) t = a_fs a t := fun t _ => zfor_congr (fun i s g0 g1 => by unfold a_load; rw [eo _ (by omega), eo _ (by omega), eo _ (by omega), eo _ (by omega), eo _ (by omega)])
  have ep : ∀ t d, 0 ≤ t → a_pl (zup a 3 v) t d = a_pl a t d := fun t d _ => zfor_congr (fun i s g0 g1 => by rw [eo _ (by omega)])
  have e1 : zup a 3 v 1 = a 1 := eo 1 (by omega)
  have e0 : zup a 3 v 0 = a 0 := eo 0 (by omega)
  refine ⟨⟨by rw [e0]; exact hw.1, by rw [e1]; exact hw.2.1, by rw [eo 2 (by omega)]; exact hw.2.2.1, by rw [zup_s]; exact hv, by rw [eo 4 (by omega)]; exact hw.2.2.2.2.1, fun d x y => ?_, fun t x y => ?_, ?_⟩, ⟨?_, ?_, ?_, ?_, fun d x y => ?_, fun t x y => ?_, fun c x y => ?_⟩, fun t x y => ?_, ?_, ?_, fun i x y => ?_⟩
  · rw [eo _ (by omega), eo _ (by omega)]; rw [e0] at y; exact hw.2.2.2.2.2.1 d x y
  · rw [e1] at y
    have := hw.2.2.2.2.2.2.1 t x y
    unfold a_load at this ⊢
    rw [eo _ (by omega), eo _ (by omega), eo _ (by omega), eo _ (by omega), eo _ (by omega), eo _ (by omega)]; exact this
  · rw [e1, ef _ hw.2.1.1]; exact hw.2.2.2.2.2.2.2
  · rw [e0]; exact hE.1
  · rw [e1]; exact hE.2.1
  · rw [e1, ef _ hw.2.1.1]; exact hE.2.2.1
  · show v = _; rw [zup_s]
  · rw [eo _ (by omega), eo _ (by omega)]; rw [e0] at y; exact hE.2.2.2.2.1 d x y
  · rw [e1] at y
    have := hE.2.2.2.2.2.1 t x y
    unfold a_load at this ⊢
    rw [eo _ (by omega), eo _ (by omega), eo _ (by omega), eo _ (by omega), eo _ (by omega), ef _ x]; exact this
  · rw [e1, ef _ hw.2.1.1] at y
    have := hE.2.2.2.2.2.2 c x y
    show (0 ≤ dk.2 14 c ∧ dk.2 14 c < _) ∧ _
    rw [e1]
    refine ⟨this.1, ?_, this.2.2.1, ?_, ?_⟩
    · show zup a 3 v (17 + 6 * dk.2 14 c + 0) = 0
      rw [eo _ (by omega)]; exact this.2.1
    · show a_fs (zup a 3 v) (dk.2 14 c) + a_pl (zup a 3 v) (dk.2 14 c) (dk.2 15 c) ≤ c
      rw [ef _ this.1.1, ep _ _ this.1.1]; exact this.2.2.2.1
    · show c < a_fs (zup a 3 v) (dk.2 14 c) + a_pl (zup a 3 v) (dk.2 14 c) (dk.2 15 c) + zup a 3 v (17 + 6 * dk.2 14 c + (2 + dk.2 15 c))
      rw [ef _ this.1.1, ep _ _ this.1.1, eo _ (by omega)]; exact this.2.2.2.2
  · rw [e1] at y; rw [eo _ (by omega)]; exact har t x y
  · rw [eo 2 (by omega)]; exact hst
  · rw [eo 4 (by omega)]; exact h4
  · rw [eo i (by omega)]; exact hr i x y
