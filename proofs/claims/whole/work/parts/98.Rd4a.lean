/-! a whole script is read -/
theorem eRF_1 {kd vl : Nat → Int32} {x y : Int32} (h : ¬ eRF kd vl x y = 0) : ¬ isT kd x 1 = 0 := by
  intro q
  unfold eRF at h
  rw [if_pos q] at h
  exact h rfl
theorem rdSec_in {kd vl : Nat → Int32} {y0 : Int32} {y1 : Int32} {y2 : Int32} {x : Int32} {X : ScT} (hT : InT kd x) (hT1 : InT kd (x + 1)) : InT kd (rdSec kd vl y0 y1 y2 x X).2.1 := by
  unfold rdSec
  rcases Classical.em (y0 = 4) with hf2 | ht1
  · rw [if_pos hf2]
    rcases Classical.em (((tkC X (1 : Int32)).1) = 0) with hf6 | ht5
    · rw [if_pos hf6]
      exact hT
    · rw [if_neg ht5]
      rcases Classical.em (((rdVal kd vl (x + 1) ((tkC X (1 : Int32)).2)).1) = (-1)) with hf8 | ht7
      · rw [if_pos hf8]
        exact (rdVal_in hT1)
      · rw [if_neg ht7]
        exact (rdVal_in hT1)
  · rw [if_neg ht1]
    rcases Classical.em (((rdVal kd vl (x + 1) X).1) = (-1)) with hf4 | ht3
    · rw [if_pos hf4]
      exact (rdVal_in hT1)
    · rw [if_neg ht3]
      exact (rdVal_in hT1)
theorem rdCho_in {kd vl : Nat → Int32} {y0 : Int32} {y1 : Int32} {x : Int32} {X : ScT} (hT : InT kd x) (hT1 : InT kd (x + 1)) : InT kd (rdCho kd vl y0 y1 x X).2.1 := by
  unfold rdCho
  rcases Classical.em (((tkC X (1 : Int32)).1) = 0) with hf2 | ht1
  · rw [if_pos hf2]
    exact hT
  · rw [if_neg ht1]
    rcases Classical.em (((rdVal kd vl (x + 1) ((tkC X (1 : Int32)).2)).1) = (-1)) with ht3 | hf4
    · rw [if_pos ht3]
      exact (rdVal_in hT1)
    · rw [if_neg hf4]
      rcases Classical.em ((isS kd vl ((rdVal kd vl (x + 1) ((tkC X (1 : Int32)).2)).2.1) (58 : Int32)) = 0) with hf6 | ht5
      · rw [if_pos hf6]
        exact (InT.ta (rdVal_in hT1))
      · rw [if_neg ht5]
        rcases Classical.em (((rdVal kd vl (tkA kd vl ((rdVal kd vl (x + 1) ((tkC X (1 : Int32)).2)).2.1) (58 : Int32)) ((rdVal kd vl (x + 1) ((tkC X (1 : Int32)).2)).2.2)).1) = (-1)) with hf8 | ht7
        · rw [if_pos hf8]
          exact (rdVal_in (InT.ta (rdVal_in hT1)))
        · rw [if_neg ht7]
          exact (rdVal_in (InT.ta (rdVal_in hT1)))
theorem rdOpn_in {kd vl : Nat → Int32} {x : Int32} {X : ScT} (hT : InT kd x) (hT1 : InT kd (x + 1)) : InT kd (rdOpn kd vl x X).2.1 := by
  unfold rdOpn
  rcases Classical.em (((tkO X).1) = 0) with hf2 | ht1
  · rw [if_pos hf2]
    exact hT
  · rw [if_neg ht1]
    rcases Classical.em ((isT kd (x + 1) (1 : Int32)) = 0) with hf4 | ht3
    · rw [if_pos hf4]
      exact hT1
    · rw [if_neg ht3]
      exact (InT.is hT1 ht3 (by decide))
theorem rdRow_in {kd vl : Nat → Int32} {sg : Int32} {x : Int32} {X : ScT} (hT1 : InT kd (x + 1)) : InT kd (rdRow kd vl sg x X).2.1 := by
  unfold rdRow
  rcases Classical.em ((isT kd (x + 1) (1 : Int32)) = 0) with hf2 | ht1
  · rw [if_pos hf2]
    exact hT1
  · rw [if_neg ht1]
    rcases Classical.em ((eRF kd vl ((x + 1) + 1) (vl (x + 1).toNatClampNeg)) = 0) with hf4 | ht3
    · rw [if_pos hf4]
      exact (InT.is hT1 ht1 (by decide))
    · rw [if_neg ht3]
      rcases Classical.em (sg = 0) with ht5 | hf6
      · rw [if_pos ht5]
        exact (InT.is (InT.is hT1 ht1 (by decide)) (eRF_1 ht3) (by decide))
      · rw [if_neg hf6]
        rcases Classical.em (((tkC X (((((vl (((x + 1) + 1).toNatClampNeg)) - (vl (x + 1).toNatClampNeg)) + 1) * ((((vl (((x + 1) + 1).toNatClampNeg)) - (vl (x + 1).toNatClampNeg)) + 1) - 1)) / 2)).1) = 0) with hf8 | ht7
        · rw [if_pos hf8]
          exact (InT.is hT1 ht1 (by decide))
        · rw [if_neg ht7]
          exact (InT.is (InT.is hT1 ht1 (by decide)) (eRF_1 ht3) (by decide))
theorem rdAss_in {kd vl : Nat → Int32} {x : Int32} {X : ScT} (hT1 : InT kd (x + 1)) : InT kd (rdAss kd vl x X).2.1 := by
  unfold rdAss
  rcases Classical.em ((isS kd vl (x + 1) (61 : Int32)) = 0) with hf2 | ht1
  · rw [if_pos hf2]
    exact (InT.ta hT1)
  · rw [if_neg ht1]
    rcases Classical.em (((rdVal kd vl (tkA kd vl (x + 1) (61 : Int32)) X).1) = (-1)) with hf4 | ht3
    · rw [if_pos hf4]
      exact (rdVal_in (InT.ta hT1))
    · rw [if_neg ht3]
      rcases Classical.em ((isS kd vl ((rdVal kd vl (tkA kd vl (x + 1) (61 : Int32)) X).2.1) (63 : Int32)) = 0) with ht5 | hf6
      · rw [if_pos ht5]
        rcases Classical.em ((kOS kd vl ((rdVal kd vl (tkA kd vl (x + 1) (61 : Int32)) X).2.1)) = 0) with ht7 | hf8
        · rw [if_pos ht7]
          exact (rdVal_in (InT.ta hT1))
        · rw [if_neg hf8]
          exact (rdSec_in (rdVal_in (InT.ta hT1)) (InT.ko (rdVal_in (InT.ta hT1)) hf8))
      · rw [if_neg hf6]
        exact (rdCho_in (rdVal_in (InT.ta hT1)) (InT.sg (rdVal_in (InT.ta hT1)) hf6))
theorem rdSta_in {kd vl : Nat → Int32} {x : Int32} {X : ScT} (hT : InT kd x) : InT kd (rdSta kd vl x X).2.1 := by
  unfold rdSta
  rcases Classical.em ((kd x.toNatClampNeg) = 1) with ht1 | hf2
  · rw [if_pos ht1]
    exact (rdAss_in (InT.nx hT (by rw [ht1]; decide)))
  · rw [if_neg hf2]
    rcases Classical.em ((kd x.toNatClampNeg) = 2) with ht3 | hf4
    · rw [if_pos ht3]
      exact hT
    · rw [if_neg hf4]
      rcases Classical.em ((kd x.toNatClampNeg) = 3) with ht5 | hf6
      · rw [if_pos ht5]
        exact hT
      · rw [if_neg hf6]
        rcases Classical.em ((kd x.toNatClampNeg) = 4) with ht7 | hf8
        · rw [if_pos ht7]
          exact (rdRow_in (InT.nx hT (by rw [ht7]; decide)))
        · rw [if_neg hf8]
          rcases Classical.em ((kd x.toNatClampNeg) = 5) with ht9 | hf10
          · rw [if_pos ht9]
            exact (rdRow_in (InT.nx hT (by rw [ht9]; decide)))
          · rw [if_neg hf10]
            rcases Classical.em ((kd x.toNatClampNeg) = 6) with ht11 | hf12
            · rw [if_pos ht11]
              exact (rdOpn_in hT (InT.nx hT (by rw [ht11]; decide)))
            · rw [if_neg hf12]
              exact hT
/-- what the reader keeps of the draft -/
def ClP (P : ScT → Prop) : Prop := (∀ X a t f s h, P X → P (adS X a t f s h)) ∧ (∀ X x, P X → P (tkC X x).2) ∧ (∀ X, P X → P (tkO X).2) ∧ (∀ X x, P X → P (nmS X x))
theorem ClP.ad {P : ScT → Prop} (c : ClP P) (X : ScT) (a t f s h : Int32) (hX : P X) : P (adS X a t f s h) := c.1 X a t f s h hX
theorem ClP.tc {P : ScT → Prop} (c : ClP P) (X : ScT) (x : Int32) (hX : P X) : P (tkC X x).2 := c.2.1 X x hX
theorem ClP.to {P : ScT → Prop} (c : ClP P) (X : ScT) (hX : P X) : P (tkO X).2 := c.2.2.1 X hX
theorem ClP.nm {P : ScT → Prop} (c : ClP P) (X : ScT) (x : Int32) (hX : P X) : P (nmS X x) := c.2.2.2 X x hX
theorem clp_c0 : ClP (fun X => ¬ X.2.2.2.2.2.1 < 0) := ⟨fun _ _ _ _ _ _ h => adS_c0 h, fun _ _ h => tkC_c0 h, fun _ h => tkO_c0 h, fun _ _ h => h⟩
theorem swI_P {P : ScT → Prop} (c : ClP P) : ∀ (n r : Nat) {X : ScT}, P X → P (swI n r X)
  | 0, _, _, h => h
  | n + 1, r, _, h => swI_P c n (r + 1) (c.ad _ _ _ _ _ _ h)
theorem swO_P {P : ScT → Prop} (c : ClP P) (a : Nat) : ∀ (n : Nat) {X : ScT}, P X → P (swO a n X)
  | 0, _, h => h
  | n + 1, _, h => swO_P c a n (swI_P c (n + 1) a h)
theorem smI_P {P : ScT → Prop} (c : ClP P) : ∀ (n r : Nat) {X : ScT}, P X → P (smI n r X)
  | 0, _, _, h => h
  | n + 1, r, _, h => smI_P c n (r + 1) (c.ad _ _ _ _ _ _ h)
theorem rdVal_P {P : ScT → Prop} (c : ClP P) {kd vl : Nat → Int32} {x : Int32} {X : ScT} (h : P X) : P (rdVal kd vl x X).2.2 := by
  unfold rdVal
  rcases Classical.em ((isT kd x (1 : Int32)) = 0) with ht1 | hf2
  · rw [if_pos ht1]
    rcases Classical.em ((isT kd x (2 : Int32)) = 0) with ht3 | hf4
    · rw [if_pos ht3]
      rcases Classical.em ((isS kd vl x (36 : Int32)) = 0) with ht5 | hf6
      · rw [if_pos ht5]
        exact h
      · rw [if_neg hf6]
        rcases Classical.em ((isT kd (tkA kd vl x (36 : Int32)) (2 : Int32)) = 0) with ht7 | hf8
        · rw [if_pos ht7]
          exact h
        · rw [if_neg hf8]
          rcases Classical.em ((vl ((tkA kd vl x (36 : Int32)).toNatClampNeg)) < 8) with ht9 | hf10
          · rw [if_pos ht9]
            exact (c.nm _ _ h)
          · rw [if_neg hf10]
            exact h
    · rw [if_neg hf4]
      exact h
  · rw [if_neg hf2]
    exact h
theorem rdSec_P {P : ScT → Prop} (c : ClP P) {kd vl : Nat → Int32} {y0 : Int32} {y1 : Int32} {y2 : Int32} {x : Int32} {X : ScT} (h : P X) : P (rdSec kd vl y0 y1 y2 x X).2.2 := by
  unfold rdSec
  rcases Classical.em (y0 = 4) with hf2 | ht1
  · rw [if_pos hf2]
    rcases Classical.em (((tkC X (1 : Int32)).1) = 0) with hf6 | ht5
    · rw [if_pos hf6]
      exact (c.tc _ _ h)
    · rw [if_neg ht5]
      rcases Classical.em (((rdVal kd vl (x + 1) ((tkC X (1 : Int32)).2)).1) = (-1)) with hf8 | ht7
      · rw [if_pos hf8]
        exact (rdVal_P c (c.tc _ _ h))
      · rw [if_neg ht7]
        exact (c.ad _ _ _ _ _ _ (rdVal_P c (c.tc _ _ h)))
  · rw [if_neg ht1]
    rcases Classical.em (((rdVal kd vl (x + 1) X).1) = (-1)) with hf4 | ht3
    · rw [if_pos hf4]
      exact (rdVal_P c h)
    · rw [if_neg ht3]
      exact (c.ad _ _ _ _ _ _ (rdVal_P c h))
theorem rdCho_P {P : ScT → Prop} (c : ClP P) {kd vl : Nat → Int32} {y0 : Int32} {y1 : Int32} {x : Int32} {X : ScT} (h : P X) : P (rdCho kd vl y0 y1 x X).2.2 := by
  unfold rdCho
  rcases Classical.em (((tkC X (1 : Int32)).1) = 0) with hf2 | ht1
  · rw [if_pos hf2]
    exact (c.tc _ _ h)
  · rw [if_neg ht1]
    rcases Classical.em (((rdVal kd vl (x + 1) ((tkC X (1 : Int32)).2)).1) = (-1)) with ht3 | hf4
    · rw [if_pos ht3]
      exact (rdVal_P c (c.tc _ _ h))
    · rw [if_neg hf4]
      rcases Classical.em ((isS kd vl ((rdVal kd vl (x + 1) ((tkC X (1 : Int32)).2)).2.1) (58 : Int32)) = 0) with hf6 | ht5
      · rw [if_pos hf6]
        exact (rdVal_P c (c.tc _ _ h))
      · rw [if_neg ht5]
        rcases Classical.em (((rdVal kd vl (tkA kd vl ((rdVal kd vl (x + 1) ((tkC X (1 : Int32)).2)).2.1) (58 : Int32)) ((rdVal kd vl (x + 1) ((tkC X (1 : Int32)).2)).2.2)).1) = (-1)) with hf8 | ht7
        · rw [if_pos hf8]
          exact (rdVal_P c (rdVal_P c (c.tc _ _ h)))
        · rw [if_neg ht7]
          exact (c.ad _ _ _ _ _ _ (rdVal_P c (rdVal_P c (c.tc _ _ h))))
theorem rdOpn_P {P : ScT → Prop} (c : ClP P) {kd vl : Nat → Int32} {x : Int32} {X : ScT} (h : P X) : P (rdOpn kd vl x X).2.2 := by
  unfold rdOpn
  rcases Classical.em (((tkO X).1) = 0) with hf2 | ht1
  · rw [if_pos hf2]
    exact (c.to _ h)
  · rw [if_neg ht1]
    rcases Classical.em ((isT kd (x + 1) (1 : Int32)) = 0) with hf4 | ht3
    · rw [if_pos hf4]
      exact (c.to _ h)
    · rw [if_neg ht3]
      exact (c.ad _ _ _ _ _ _ (c.to _ h))
theorem rdRow_P {P : ScT → Prop} (c : ClP P) {kd vl : Nat → Int32} {sg : Int32} {x : Int32} {X : ScT} (h : P X) : P (rdRow kd vl sg x X).2.2 := by
  unfold rdRow
  rcases Classical.em ((isT kd (x + 1) (1 : Int32)) = 0) with hf2 | ht1
  · rw [if_pos hf2]
    exact h
  · rw [if_neg ht1]
    rcases Classical.em ((eRF kd vl ((x + 1) + 1) (vl (x + 1).toNatClampNeg)) = 0) with hf4 | ht3
    · rw [if_pos hf4]
      exact h
    · rw [if_neg ht3]
      rcases Classical.em (sg = 0) with ht5 | hf6
      · rw [if_pos ht5]
        exact (smI_P c _ _ h)
      · rw [if_neg hf6]
        rcases Classical.em (((tkC X (((((vl (((x + 1) + 1).toNatClampNeg)) - (vl (x + 1).toNatClampNeg)) + 1) * ((((vl (((x + 1) + 1).toNatClampNeg)) - (vl (x + 1).toNatClampNeg)) + 1) - 1)) / 2)).1) = 0) with hf8 | ht7
        · rw [if_pos hf8]
          exact (c.tc _ _ h)
        · rw [if_neg ht7]
          exact (swO_P c _ _ (c.tc _ _ h))
theorem rdAss_P {P : ScT → Prop} (c : ClP P) {kd vl : Nat → Int32} {x : Int32} {X : ScT} (h : P X) : P (rdAss kd vl x X).2.2 := by
  unfold rdAss
  rcases Classical.em ((isS kd vl (x + 1) (61 : Int32)) = 0) with hf2 | ht1
  · rw [if_pos hf2]
    exact h
  · rw [if_neg ht1]
    rcases Classical.em (((rdVal kd vl (tkA kd vl (x + 1) (61 : Int32)) X).1) = (-1)) with hf4 | ht3
    · rw [if_pos hf4]
      exact (rdVal_P c h)
    · rw [if_neg ht3]
      rcases Classical.em ((isS kd vl ((rdVal kd vl (tkA kd vl (x + 1) (61 : Int32)) X).2.1) (63 : Int32)) = 0) with ht5 | hf6
      · rw [if_pos ht5]
        rcases Classical.em ((kOS kd vl ((rdVal kd vl (tkA kd vl (x + 1) (61 : Int32)) X).2.1)) = 0) with ht7 | hf8
        · rw [if_pos ht7]
          exact (c.ad _ _ _ _ _ _ (rdVal_P c h))
        · rw [if_neg hf8]
          exact (rdSec_P c (rdVal_P c h))
      · rw [if_neg hf6]
        exact (rdCho_P c (rdVal_P c h))
theorem rdSta_P {P : ScT → Prop} (c : ClP P) {kd vl : Nat → Int32} {x : Int32} {X : ScT} (h : P X) : P (rdSta kd vl x X).2.2 := by
  unfold rdSta
  rcases Classical.em ((kd x.toNatClampNeg) = 1) with ht1 | hf2
  · rw [if_pos ht1]
    exact (rdAss_P c h)
  · rw [if_neg hf2]
    rcases Classical.em ((kd x.toNatClampNeg) = 2) with ht3 | hf4
    · rw [if_pos ht3]
      exact h
    · rw [if_neg hf4]
      rcases Classical.em ((kd x.toNatClampNeg) = 3) with ht5 | hf6
      · rw [if_pos ht5]
        exact h
      · rw [if_neg hf6]
        rcases Classical.em ((kd x.toNatClampNeg) = 4) with ht7 | hf8
        · rw [if_pos ht7]
          exact (rdRow_P c h)
        · rw [if_neg hf8]
          rcases Classical.em ((kd x.toNatClampNeg) = 5) with ht9 | hf10
          · rw [if_pos ht9]
            exact (rdRow_P c h)
          · rw [if_neg hf10]
            rcases Classical.em ((kd x.toNatClampNeg) = 6) with ht11 | hf12
            · rw [if_pos ht11]
              exact (rdOpn_P c h)
            · rw [if_neg hf12]
              exact h
theorem rdSta_c0 {kd vl : Nat → Int32} {x : Int32} {X : ScT} (hc : ¬ X.2.2.2.2.2.1 < 0) : ¬ (rdSta kd vl x X).2.2.2.2.2.2.2.1 < 0 := rdSta_P (P := fun X => ¬ X.2.2.2.2.2.1 < 0) clp_c0 hc

