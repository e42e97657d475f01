/-! the reference counts rows: only behind a statement's first token -/
theorem mCmp_n0 {f : Nat → Int32} {mkd : Int32} {b : Nat} {ee : Nat} {mam : Int32} {fd : Nat → Int32} {fr : Nat} {mcm : Int32} {mop : Int32} {y1 : Int32} {y2 : Int32} (hy2 : ¬ y2 = 0) : ¬ (mCmp f mkd b ee mam fd fr mcm mop y1 y2).1 = 0 := by
  unfold mCmp
  rcases Classical.em ((mcm + y1) ≤ 12) with ht1 | hf2
  · rw [if_pos ht1]
    exact hy2
  · rw [if_neg hf2]
    exact (show ¬ (16 : Int32) = 0 by decide)
theorem mVal_n0 {f : Nat → Int32} {mkd : Int32} {b : Nat} {ee : Nat} {mam : Int32} {fd : Nat → Int32} {fr : Nat} {mcm : Int32} {mop : Int32} {k : Nat} {y1 : Int32} {y2 : Int32} (hy1 : ¬ y1 = 0) (hy2 : ¬ y2 = 0) : ¬ (mVal f mkd b ee mam fd fr mcm mop k y1 y2).1 = 0 := by
  unfold mVal
  rcases Classical.em ((o_Mo_isIt_r mkd b f (36 : Int32)) = 0) with ht1 | hf2
  · rw [if_pos ht1]
    rcases Classical.em ((o_Mo_isRegister_r mkd b ee) = 0) with ht3 | hf4
    · rw [if_pos ht3]
      rcases Classical.em (mkd = 2) with hf6 | ht5
      · rw [if_pos hf6]
        exact hy2
      · rw [if_neg ht5]
        exact (show ¬ (16 : Int32) = 0 by decide)
    · rw [if_neg hf4]
      exact hy2
  · rw [if_neg hf2]
    exact hy1
theorem mInp_n0 {f : Nat → Int32} {mkd : Int32} {b : Nat} {ee : Nat} {mam : Int32} {fd : Nat → Int32} {fr : Nat} {mcm : Int32} {mop : Int32} {k : Nat} {y1 : Int32} (hy1 : ¬ y1 = 0) : ¬ (mInp f mkd b ee mam fd fr mcm mop k y1).1 = 0 := by
  unfold mInp
  rcases Classical.em (mkd = 2) with hf2 | ht1
  · rw [if_pos hf2]
    rcases Classical.em (8 ≤ mam) with ht3 | hf4
    · rw [if_pos ht3]
      exact (show ¬ (16 : Int32) = 0 by decide)
    · rw [if_neg hf4]
      exact hy1
  · rw [if_neg ht1]
    exact (show ¬ (16 : Int32) = 0 by decide)
theorem mNam_n0 {f : Nat → Int32} {mkd : Int32} {b : Nat} {ee : Nat} {mam : Int32} {fd : Nat → Int32} {fr : Nat} {mcm : Int32} {mop : Int32} {y1 : Int32} (hy1 : ¬ y1 = 0) : ¬ (mNam f mkd b ee mam fd fr mcm mop y1).1 = 0 := by
  unfold mNam
  rcases Classical.em ((o_Mo_isRegister_r mkd b ee) = 0) with ht1 | hf2
  · rw [if_pos ht1]
    exact (show ¬ (16 : Int32) = 0 by decide)
  · rw [if_neg hf2]
    exact hy1
theorem mTo_n0 {f : Nat → Int32} {mkd : Int32} {b : Nat} {ee : Nat} {mam : Int32} {fd : Nat → Int32} {fr : Nat} {mcm : Int32} {mop : Int32} : ¬ (mTo f mkd b ee mam fd fr mcm mop).1 = 0 := by
  unfold mTo
  rcases Classical.em ((o_Mo_isRegister_r mkd b ee) = 0) with ht1 | hf2
  · rw [if_pos ht1]
    exact (show ¬ (16 : Int32) = 0 by decide)
  · rw [if_neg hf2]
    rcases Classical.em ((((f ((nI b).toNatClampNeg)) - 97) - (fd (((6 * (nI fr)) + 1).toNatClampNeg))) < 1) with ht3 | hf4
    · rw [if_pos ht3]
      exact (show ¬ (16 : Int32) = 0 by decide)
    · rw [if_neg hf4]
      rcases Classical.em ((((f ((nI b).toNatClampNeg)) - 97) - (fd (((6 * (nI fr)) + 1).toNatClampNeg))) ≤ 4) with ht5 | hf6
      · rw [if_pos ht5]
        rcases Classical.em (((upd fd (((6 * (nI fr)) + (5 : Int32)).toNatClampNeg) ((f ((nI b).toNatClampNeg)) - 97)) ((6 * (nI fr)).toNatClampNeg)) = 6) with hf8 | ht7
        · rw [if_pos hf8]
          exact (mCmp_n0 (show ¬ (15 : Int32) = 0 by decide))
        · rw [if_neg ht7]
          exact (mCmp_n0 (show ¬ (15 : Int32) = 0 by decide))
      · rw [if_neg hf6]
        exact (show ¬ (16 : Int32) = 0 by decide)
theorem mSta_n0 {f : Nat → Int32} {mkd : Int32} {b : Nat} {ee : Nat} {mam : Int32} {fd : Nat → Int32} {fr : Nat} {mcm : Int32} {mop : Int32} : ¬ (mSta f mkd b ee mam fd fr mcm mop).1 = 0 := by
  unfold mSta
  rcases Classical.em ((o_Mo_isRegister_r mkd b ee) = 0) with ht1 | hf2
  · rw [if_pos ht1]
    rcases Classical.em ((o_Mo_isWord_r mkd b ee f (111 : Int32) (112 : Int32) (101 : Int32) (110 : Int32)) = 0) with ht3 | hf4
    · rw [if_pos ht3]
      rcases Classical.em ((o_Mo_isWord_r mkd b ee f (115 : Int32) (111 : Int32) (114 : Int32) (116 : Int32)) = 0) with ht5 | hf6
      · rw [if_pos ht5]
        rcases Classical.em ((o_Mo_isWord_r mkd b ee f (115 : Int32) (117 : Int32) (109 : Int32) (115 : Int32)) = 0) with ht7 | hf8
        · rw [if_pos ht7]
          exact (show ¬ (16 : Int32) = 0 by decide)
        · rw [if_neg hf8]
          exact (show ¬ (12 : Int32) = 0 by decide)
      · rw [if_neg hf6]
        exact (show ¬ (12 : Int32) = 0 by decide)
    · rw [if_neg hf4]
      rcases Classical.em ((mop + 1) ≤ 16) with ht9 | hf10
      · rw [if_pos ht9]
        exact (show ¬ (14 : Int32) = 0 by decide)
      · rw [if_neg hf10]
        exact (show ¬ (16 : Int32) = 0 by decide)
  · rw [if_neg hf2]
    exact (show ¬ (1 : Int32) = 0 by decide)
theorem mAft_fr {f : Nat → Int32} {mkd : Int32} {b : Nat} {ee : Nat} {mam : Int32} {fd : Nat → Int32} {fr : Nat} {mcm : Int32} {mop : Int32} : ((mAft f mkd b ee mam fd fr mcm mop).2 = nI fr ∧ ¬ (mAft f mkd b ee mam fd fr mcm mop).1 = 0) ∨ ((mAft f mkd b ee mam fd fr mcm mop).2 = nI fr + 1 ∧ (¬ mkd = 0 → (mAft f mkd b ee mam fd fr mcm mop).1 = 0)) := by
  unfold mAft
  rcases Classical.em (mkd = 0) with ht1 | hf2
  · rw [if_pos ht1]
    exact (Or.inr ⟨rfl, fun q => absurd ht1 q⟩)
  · rw [if_neg hf2]
    rcases Classical.em ((o_Mo_isIt_r mkd b f (59 : Int32)) = 0) with ht3 | hf4
    · rw [if_pos ht3]
      exact (Or.inl ⟨rfl, (show ¬ (16 : Int32) = 0 by decide)⟩)
    · rw [if_neg hf4]
      exact (Or.inr ⟨rfl, fun _ => rfl⟩)
theorem mAF_fr {f : Nat → Int32} {mkd : Int32} {b : Nat} {ee : Nat} {mam : Int32} {fd : Nat → Int32} {fr : Nat} {mcm : Int32} {mop : Int32} : ((mAF f mkd b ee mam fd fr mcm mop).2.2.1 = nI fr ∧ ¬ (mAF f mkd b ee mam fd fr mcm mop).1 = 0) ∨ ((mAF f mkd b ee mam fd fr mcm mop).2.2.1 = nI fr + 1 ∧ (¬ mkd = 0 → (mAF f mkd b ee mam fd fr mcm mop).1 = 0)) := by
  unfold mAF
  rcases Classical.em ((o_Mo_isIt_r mkd b f (43 : Int32)) = 0) with ht1 | hf2
  · rw [if_pos ht1]
    rcases Classical.em ((o_Mo_isIt_r mkd b f (45 : Int32)) = 0) with ht3 | hf4
    · rw [if_pos ht3]
      rcases Classical.em ((o_Mo_isIt_r mkd b f (42 : Int32)) = 0) with ht5 | hf6
      · rw [if_pos ht5]
        rcases Classical.em ((o_Mo_isIt_r mkd b f (60 : Int32)) = 0) with ht7 | hf8
        · rw [if_pos ht7]
          rcases Classical.em ((o_Mo_isIt_r mkd b f (63 : Int32)) = 0) with ht9 | hf10
          · rw [if_pos ht9]
            exact (mAft_fr)
          · rw [if_neg hf10]
            exact (Or.inl ⟨rfl, (mCmp_n0 (show ¬ (7 : Int32) = 0 by decide))⟩)
        · rw [if_neg hf8]
          exact (Or.inl ⟨rfl, (mCmp_n0 (show ¬ (5 : Int32) = 0 by decide))⟩)
      · rw [if_neg hf6]
        exact (Or.inl ⟨rfl, (mCmp_n0 (show ¬ (5 : Int32) = 0 by decide))⟩)
    · rw [if_neg hf4]
      exact (Or.inl ⟨rfl, (mCmp_n0 (show ¬ (5 : Int32) = 0 by decide))⟩)
  · rw [if_neg hf2]
    exact (Or.inl ⟨rfl, (mCmp_n0 (show ¬ (5 : Int32) = 0 by decide))⟩)
theorem mNxt_fr {f : Nat → Int32} {mkd : Int32} {b : Nat} {ee : Nat} {mam : Int32} {fd : Nat → Int32} {fr : Nat} {mcm : Int32} {mop : Int32} {y1 : Int32} : ((mNxt f mkd b ee mam fd fr mcm mop y1).2.2.1 = nI fr ∧ ¬ (mNxt f mkd b ee mam fd fr mcm mop y1).1 = 0) ∨ ((mNxt f mkd b ee mam fd fr mcm mop y1).2.2.1 = nI fr + 1 ∧ ¬ y1 = 0 ∧ (¬ mkd = 0 → (mNxt f mkd b ee mam fd fr mcm mop y1).1 = 0)) := by
  unfold mNxt
  rcases Classical.em (y1 = 0) with ht1 | hf2
  · rw [if_pos ht1]
    exact (Or.inl ⟨rfl, (mSta_n0 )⟩)
  · rw [if_neg hf2]
    rcases Classical.em (y1 = 1) with ht3 | hf4
    · rw [if_pos ht3]
      rcases Classical.em ((o_Mo_isIt_r mkd b f (61 : Int32)) = 0) with ht5 | hf6
      · rw [if_pos ht5]
        exact (Or.inl ⟨rfl, (show ¬ (16 : Int32) = 0 by decide)⟩)
      · rw [if_neg hf6]
        exact (Or.inl ⟨rfl, (show ¬ (2 : Int32) = 0 by decide)⟩)
    · rw [if_neg hf4]
      rcases Classical.em (y1 = 2) with ht7 | hf8
      · rw [if_pos ht7]
        exact (Or.inl ⟨rfl, (mVal_n0 (show ¬ (3 : Int32) = 0 by decide) (show ¬ (4 : Int32) = 0 by decide))⟩)
      · rw [if_neg hf8]
        rcases Classical.em (y1 = 3) with ht9 | hf10
        · rw [if_pos ht9]
          exact (Or.inl ⟨rfl, (mInp_n0 (show ¬ (4 : Int32) = 0 by decide))⟩)
        · rw [if_neg hf10]
          rcases Classical.em (y1 = 4) with ht11 | hf12
          · rw [if_pos ht11]
            exact ((mAF_fr).imp id (fun q => ⟨q.1, (fun q0 => absurd (q0.symm.trans ht11) (by decide)), q.2⟩))
          · rw [if_neg hf12]
            rcases Classical.em (y1 = 5) with ht13 | hf14
            · rw [if_pos ht13]
              exact (Or.inl ⟨rfl, (mVal_n0 (show ¬ (6 : Int32) = 0 by decide) (show ¬ (15 : Int32) = 0 by decide))⟩)
            · rw [if_neg hf14]
              rcases Classical.em (y1 = 6) with ht15 | hf16
              · rw [if_pos ht15]
                exact (Or.inl ⟨rfl, (mInp_n0 (show ¬ (15 : Int32) = 0 by decide))⟩)
              · rw [if_neg hf16]
                rcases Classical.em (y1 = 7) with ht17 | hf18
                · rw [if_pos ht17]
                  exact (Or.inl ⟨rfl, (mVal_n0 (show ¬ (8 : Int32) = 0 by decide) (show ¬ (9 : Int32) = 0 by decide))⟩)
                · rw [if_neg hf18]
                  rcases Classical.em (y1 = 8) with ht19 | hf20
                  · rw [if_pos ht19]
                    exact (Or.inl ⟨rfl, (mInp_n0 (show ¬ (9 : Int32) = 0 by decide))⟩)
                  · rw [if_neg hf20]
                    rcases Classical.em (y1 = 9) with ht21 | hf22
                    · rw [if_pos ht21]
                      rcases Classical.em ((o_Mo_isIt_r mkd b f (58 : Int32)) = 0) with ht23 | hf24
                      · rw [if_pos ht23]
                        exact (Or.inl ⟨rfl, (show ¬ (16 : Int32) = 0 by decide)⟩)
                      · rw [if_neg hf24]
                        exact (Or.inl ⟨rfl, (show ¬ (10 : Int32) = 0 by decide)⟩)
                    · rw [if_neg hf22]
                      rcases Classical.em (y1 = 10) with ht25 | hf26
                      · rw [if_pos ht25]
                        exact (Or.inl ⟨rfl, (mVal_n0 (show ¬ (11 : Int32) = 0 by decide) (show ¬ (15 : Int32) = 0 by decide))⟩)
                      · rw [if_neg hf26]
                        rcases Classical.em (y1 = 11) with ht27 | hf28
                        · rw [if_pos ht27]
                          exact (Or.inl ⟨rfl, (mInp_n0 (show ¬ (15 : Int32) = 0 by decide))⟩)
                        · rw [if_neg hf28]
                          rcases Classical.em (y1 = 12) with ht29 | hf30
                          · rw [if_pos ht29]
                            exact (Or.inl ⟨rfl, (mNam_n0 (show ¬ (13 : Int32) = 0 by decide))⟩)
                          · rw [if_neg hf30]
                            rcases Classical.em (y1 = 13) with ht31 | hf32
                            · rw [if_pos ht31]
                              rcases Classical.em (mkd = 1) with hf34 | ht33
                              · rw [if_pos hf34]
                                exact (Or.inl ⟨rfl, (mTo_n0 )⟩)
                              · rw [if_neg ht33]
                                exact (Or.inl ⟨rfl, (show ¬ (16 : Int32) = 0 by decide)⟩)
                            · rw [if_neg hf32]
                              rcases Classical.em (y1 = 14) with ht35 | hf36
                              · rw [if_pos ht35]
                                exact (Or.inl ⟨rfl, (mNam_n0 (show ¬ (15 : Int32) = 0 by decide))⟩)
                              · rw [if_neg hf36]
                                exact ((mAft_fr).imp id (fun q => ⟨q.1, hf2, q.2⟩))
