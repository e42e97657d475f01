/-! a token as both see it -/
theorem sub_le3 {b e : Nat} (h1 : b ≤ e) (h3 : e ≤ 120) (h : nI e - nI b ≤ 3) : e ≤ b + 3 := by
  have e1 : nI e - nI b = nI (e - b) := by
    have : nI e = nI (e - b) + nI b := by rw [nI_add]; congr 1; omega
    rw [this]
    exact Int32.add_sub_cancel _ _
  rw [e1] at h
  have := (nI_leI (a := e - b) (b := 3) (by omega) (by decide)).mp h
  omega
theorem mSc_end {f : Nat → Int32} {L p : Nat} (hL : L ≤ 120) (hb : mB f L p = L) : mSc f L p = (0, L, L, 0) := by
  unfold mSc
  rw [hb, if_neg (nI_nlt (Nat.le_refl _) (by omega))]
theorem tok_tie {f : Nat → Int32} {L p : Nat} (hL : L ≤ 120) (hb : mB f L p < L) (hf : ¬ f (mB f L p) < 0 ∧ ¬ 126 < f (mB f L p)) :
    (∃ e, e = wEnd f L (mB f L p + 1) ∧ mSc f L p = (1, mB f L p, e, 0) ∧ tkT f L (mB f L p) = (e, wdK f (mB f L p) e, f (mB f L p) - 97)) ∨
    (∃ e a n, mB f L p < e ∧ e ≤ L ∧ ((nI e - nI (mB f L p) ≤ 3 ∧ a = n ∧ mSc f L p = (2, mB f L p, e, a) ∧ tkT f L (mB f L p) = (e, 2, n)) ∨ (3 < nI e - nI (mB f L p) ∧ mSc f L p = (4, mB f L p, e, a) ∧ tkT f L (mB f L p) = (e, 7, n)))) ∨
    (mSc f L p = (3, mB f L p, mB f L p + 1, 0) ∧ tkT f L (mB f L p) = (mB f L p + 1, 3, f (mB f L p))) ∨
    (mSc f L p = (4, mB f L p, mB f L p, 0) ∧ tkT f L (mB f L p) = (mB f L p + 1, 7, f (mB f L p))) := by
  have hlt : nI (mB f L p) < nI L := nI_lt hb (by omega)
  have hsee := seF_lt (f := f) hL hb
  by_cases h2 : o_Tokens_isLetter_r (f (mB f L p)) = 0
  · by_cases h3 : o_Tokens_isDecimal_r (f (mB f L p)) = 0
    · obtain ⟨j, hj, ej⟩ := nI_of hf.1
      have hj2 : j < 127 := by
        apply Nat.lt_of_not_le
        intro q
        apply hf.2
        rw [ej]
        exact nI_lt (a := 126) (by omega) hj
      have hs := sgn_eq j hj2
      rw [← ej] at hs
      by_cases h4 : o_Mo_isSign_r (f (mB f L p)) = 0
      · refine Or.inr (Or.inr (Or.inr ⟨?_, ?_⟩))
        · unfold mSc
          rw [hsee, ltr_eq, dig_eq, if_pos hlt, if_pos h2, if_pos h3, if_pos h4]
        · unfold tkT
          rw [if_pos h2, if_pos h3, if_pos (hs.mpr h4)]
      · refine Or.inr (Or.inr (Or.inl ⟨?_, ?_⟩))
        · unfold mSc
          rw [hsee, ltr_eq, dig_eq, if_pos hlt, if_pos h2, if_pos h3, if_neg h4]
        · unfold tkT
          rw [if_pos h2, if_pos h3, if_neg (fun q => h4 (hs.mp q))]
    · refine Or.inr (Or.inl ⟨(nEnd f L (mB f L p)).1, (mN f L (mB f L p)).2, (nEnd f L (mB f L p)).2, ?_⟩)
      have ht := tkT_le (f := f) (L := L) (b := mB f L p) hb
      have eT : tkT f L (mB f L p) = ((nEnd f L (mB f L p)).1, if 3 < nI (nEnd f L (mB f L p)).1 - nI (mB f L p) then 7 else 2, (nEnd f L (mB f L p)).2) := by
        unfold tkT
        rw [if_pos h2, if_neg h3]
      have eS : mSc f L p = (if nI (nEnd f L (mB f L p)).1 - nI (mB f L p) ≤ 3 then 2 else 4, mB f L p, (nEnd f L (mB f L p)).1, (mN f L (mB f L p)).2) := by
        unfold mSc
        rw [hsee, ltr_eq, dig_eq, if_pos hlt, if_pos h2, if_neg h3, mN_end hL (by omega)]
      rw [eT] at ht
      refine ⟨ht.1, ht.2, ?_⟩
      by_cases h5 : nI (nEnd f L (mB f L p)).1 - nI (mB f L p) ≤ 3
      · refine Or.inl ⟨h5, mN_val hL (by omega) (sub_le3 (Nat.le_of_lt ht.1) (by omega) h5), ?_, ?_⟩
        · rw [eS, if_pos h5]
        · rw [eT, if_neg (Int32.not_lt.mpr h5)]
      · refine Or.inr ⟨Int32.not_le.mp h5, ?_, ?_⟩
        · rw [eS, if_neg h5]
        · rw [eT, if_pos (Int32.not_le.mp h5)]
  · refine Or.inl ⟨_, rfl, ?_, ?_⟩
    · unfold mSc
      rw [hsee, ltr_eq, if_pos hlt, if_neg h2, mW_eq hL hb h2]
    · unfold tkT
      rw [if_neg h2]
