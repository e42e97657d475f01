/-! the readers: signs, and what comes behind the first value -/
theorem nx_0 {f : Nat → Int32} {fd : Nat → Int32} {fr : Nat} {cm op : Int32} (m : Int32) (b e : Nat) (a : Int32) : mNxt f m b e a fd fr cm op 0 = ((mSta f m b e a fd fr cm op).1, (mSta f m b e a fd fr cm op).2.1, nI fr, cm, (mSta f m b e a fd fr cm op).2.2) := by
  unfold mNxt
  rw [if_pos rfl]
theorem nx_1 {f : Nat → Int32} {fd : Nat → Int32} {fr : Nat} {cm op : Int32} (m : Int32) (b e : Nat) (a : Int32) : mNxt f m b e a fd fr cm op 1 = if o_Mo_isIt_r m b f 61 = 0 then (16, fd, nI fr, cm, op) else (2, fd, nI fr, cm, op) := by
  unfold mNxt
  rw [if_neg (by decide), if_pos rfl]
theorem nx_2 {f : Nat → Int32} {fd : Nat → Int32} {fr : Nat} {cm op : Int32} (m : Int32) (b e : Nat) (a : Int32) : mNxt f m b e a fd fr cm op 2 = ((mVal f m b e a fd fr cm op 2 3 4).1, (mVal f m b e a fd fr cm op 2 3 4).2, nI fr, cm, op) := by
  unfold mNxt
  rw [if_neg (by decide), if_neg (by decide), if_pos rfl]
theorem nx_3 {f : Nat → Int32} {fd : Nat → Int32} {fr : Nat} {cm op : Int32} (m : Int32) (b e : Nat) (a : Int32) : mNxt f m b e a fd fr cm op 3 = ((mInp f m b e a fd fr cm op 2 4).1, (mInp f m b e a fd fr cm op 2 4).2, nI fr, cm, op) := by
  unfold mNxt
  rw [if_neg (by decide), if_neg (by decide), if_neg (by decide), if_pos rfl]
theorem nx_4 {f : Nat → Int32} {fd : Nat → Int32} {fr : Nat} {cm op : Int32} (m : Int32) (b e : Nat) (a : Int32) : mNxt f m b e a fd fr cm op 4 = ((mAF f m b e a fd fr cm op).1, (mAF f m b e a fd fr cm op).2.1, (mAF f m b e a fd fr cm op).2.2.1, (mAF f m b e a fd fr cm op).2.2.2, op) := by
  unfold mNxt
  rw [if_neg (by decide), if_neg (by decide), if_neg (by decide), if_neg (by decide), if_pos rfl]
theorem nx_5 {f : Nat → Int32} {fd : Nat → Int32} {fr : Nat} {cm op : Int32} (m : Int32) (b e : Nat) (a : Int32) : mNxt f m b e a fd fr cm op 5 = ((mVal f m b e a fd fr cm op 3 6 15).1, (mVal f m b e a fd fr cm op 3 6 15).2, nI fr, cm, op) := by
  unfold mNxt
  rw [if_neg (by decide), if_neg (by decide), if_neg (by decide), if_neg (by decide), if_neg (by decide), if_pos rfl]
theorem nx_6 {f : Nat → Int32} {fd : Nat → Int32} {fr : Nat} {cm op : Int32} (m : Int32) (b e : Nat) (a : Int32) : mNxt f m b e a fd fr cm op 6 = ((mInp f m b e a fd fr cm op 3 15).1, (mInp f m b e a fd fr cm op 3 15).2, nI fr, cm, op) := by
  unfold mNxt
  rw [if_neg (by decide), if_neg (by decide), if_neg (by decide), if_neg (by decide), if_neg (by decide), if_neg (by decide), if_pos rfl]
theorem nx_7 {f : Nat → Int32} {fd : Nat → Int32} {fr : Nat} {cm op : Int32} (m : Int32) (b e : Nat) (a : Int32) : mNxt f m b e a fd fr cm op 7 = ((mVal f m b e a fd fr cm op 3 8 9).1, (mVal f m b e a fd fr cm op 3 8 9).2, nI fr, cm, op) := by
  unfold mNxt
  rw [if_neg (by decide), if_neg (by decide), if_neg (by decide), if_neg (by decide), if_neg (by decide), if_neg (by decide), if_neg (by decide), if_pos rfl]
theorem nx_8 {f : Nat → Int32} {fd : Nat → Int32} {fr : Nat} {cm op : Int32} (m : Int32) (b e : Nat) (a : Int32) : mNxt f m b e a fd fr cm op 8 = ((mInp f m b e a fd fr cm op 3 9).1, (mInp f m b e a fd fr cm op 3 9).2, nI fr, cm, op) := by
  unfold mNxt
  rw [if_neg (by decide), if_neg (by decide), if_neg (by decide), if_neg (by decide), if_neg (by decide), if_neg (by decide), if_neg (by decide), if_neg (by decide), if_pos rfl]
theorem nx_9 {f : Nat → Int32} {fd : Nat → Int32} {fr : Nat} {cm op : Int32} (m : Int32) (b e : Nat) (a : Int32) : mNxt f m b e a fd fr cm op 9 = if o_Mo_isIt_r m b f 58 = 0 then (16, fd, nI fr, cm, op) else (10, fd, nI fr, cm, op) := by
  unfold mNxt
  rw [if_neg (by decide), if_neg (by decide), if_neg (by decide), if_neg (by decide), if_neg (by decide), if_neg (by decide), if_neg (by decide), if_neg (by decide), if_neg (by decide), if_pos rfl]
theorem nx_10 {f : Nat → Int32} {fd : Nat → Int32} {fr : Nat} {cm op : Int32} (m : Int32) (b e : Nat) (a : Int32) : mNxt f m b e a fd fr cm op 10 = ((mVal f m b e a fd fr cm op 4 11 15).1, (mVal f m b e a fd fr cm op 4 11 15).2, nI fr, cm, op) := by
  unfold mNxt
  rw [if_neg (by decide), if_neg (by decide), if_neg (by decide), if_neg (by decide), if_neg (by decide), if_neg (by decide), if_neg (by decide), if_neg (by decide), if_neg (by decide), if_neg (by decide), if_pos rfl]
theorem nx_11 {f : Nat → Int32} {fd : Nat → Int32} {fr : Nat} {cm op : Int32} (m : Int32) (b e : Nat) (a : Int32) : mNxt f m b e a fd fr cm op 11 = ((mInp f m b e a fd fr cm op 4 15).1, (mInp f m b e a fd fr cm op 4 15).2, nI fr, cm, op) := by
  unfold mNxt
  rw [if_neg (by decide), if_neg (by decide), if_neg (by decide), if_neg (by decide), if_neg (by decide), if_neg (by decide), if_neg (by decide), if_neg (by decide), if_neg (by decide), if_neg (by decide), if_neg (by decide), if_pos rfl]
theorem nx_12 {f : Nat → Int32} {fd : Nat → Int32} {fr : Nat} {cm op : Int32} (m : Int32) (b e : Nat) (a : Int32) : mNxt f m b e a fd fr cm op 12 = ((mNam f m b e a fd fr cm op 13).1, (mNam f m b e a fd fr cm op 13).2, nI fr, cm, op) := by
  unfold mNxt
  rw [if_neg (by decide), if_neg (by decide), if_neg (by decide), if_neg (by decide), if_neg (by decide), if_neg (by decide), if_neg (by decide), if_neg (by decide), if_neg (by decide), if_neg (by decide), if_neg (by decide), if_neg (by decide), if_pos rfl]
theorem nx_13 {f : Nat → Int32} {fd : Nat → Int32} {fr : Nat} {cm op : Int32} (m : Int32) (b e : Nat) (a : Int32) : mNxt f m b e a fd fr cm op 13 = if m = 1 then ((mTo f m b e a fd fr cm op).1, (mTo f m b e a fd fr cm op).2.1, nI fr, (mTo f m b e a fd fr cm op).2.2, op) else (16, fd, nI fr, cm, op) := by
  unfold mNxt
  rw [if_neg (by decide), if_neg (by decide), if_neg (by decide), if_neg (by decide), if_neg (by decide), if_neg (by decide), if_neg (by decide), if_neg (by decide), if_neg (by decide), if_neg (by decide), if_neg (by decide), if_neg (by decide), if_neg (by decide), if_pos rfl]
theorem nx_14 {f : Nat → Int32} {fd : Nat → Int32} {fr : Nat} {cm op : Int32} (m : Int32) (b e : Nat) (a : Int32) : mNxt f m b e a fd fr cm op 14 = ((mNam f m b e a fd fr cm op 15).1, (mNam f m b e a fd fr cm op 15).2, nI fr, cm, op) := by
  unfold mNxt
  rw [if_neg (by decide), if_neg (by decide), if_neg (by decide), if_neg (by decide), if_neg (by decide), if_neg (by decide), if_neg (by decide), if_neg (by decide), if_neg (by decide), if_neg (by decide), if_neg (by decide), if_neg (by decide), if_neg (by decide), if_neg (by decide), if_pos rfl]
theorem nx_15 {f : Nat → Int32} {fd : Nat → Int32} {fr : Nat} {cm op : Int32} (m : Int32) (b e : Nat) (a : Int32) : mNxt f m b e a fd fr cm op 15 = ((mAft f m b e a fd fr cm op).1, fd, (mAft f m b e a fd fr cm op).2, cm, op) := by
  unfold mNxt
  rw [if_neg (by decide), if_neg (by decide), if_neg (by decide), if_neg (by decide), if_neg (by decide), if_neg (by decide), if_neg (by decide), if_neg (by decide), if_neg (by decide), if_neg (by decide), if_neg (by decide), if_neg (by decide), if_neg (by decide), if_neg (by decide), if_neg (by decide)]
theorem tk_sg {f : Nat → Int32} {L : Nat} {K B W : Nat → Int32} {k p : Nat} (hL : L ≤ 120) (hf : ∀ j, j < L → ¬ f j < 0 ∧ ¬ 126 < f j) (hA : At f L K B W k p) : ∃ m b e a, mSc f L p = (m, b, e, a) ∧ p ≤ b ∧ B k = (if m = 0 then nI L else nI b) ∧ ((m = 4 ∧ (∀ y, isS K W (nI k) y = 0) ∧ ¬ K k = 0) ∨ (¬ m = 4 ∧ (∀ y, o_Mo_isIt_r m b f y = isS K W (nI k) y) ∧ ((m = 0 ∧ K k = 0) ∨ (¬ m = 0 ∧ ¬ K k = 0 ∧ b < e ∧ e ≤ L ∧ At f L K B W (k + 1) e)))) := by
  have hkp := hA.kp
  obtain ⟨m, b, e, a, s, hpb, hbL, hB, hc⟩ := tk8 hL hf hA
  have hk : k < 1000 := by omega
  refine ⟨m, b, e, a, s, hpb, hB, ?_⟩
  have hn3 : ¬ m = 3 → ¬ K k = 3 → ∀ y, o_Mo_isIt_r m b f y = isS K W (nI k) y := fun q1 q2 y => by rw [isIt_n q1, isS_n hk q2]
  rcases hc with ⟨c1, c2⟩ | ⟨c1, c2⟩ | ⟨c1, c2, c3, hc⟩
  · exact Or.inr ⟨by rw [c2]; decide, hn3 (by rw [c2]; decide) (by rw [c1]; decide), Or.inl ⟨c2, c1⟩⟩
  · exact Or.inl ⟨c2, fun y => isS_n hk (by rw [c1]; decide), by rw [c1]; decide⟩
  · rcases hc with ⟨d1, d2, -⟩ | ⟨d1, d2, -⟩ | ⟨d1, d2, d3⟩ | ⟨d1, d2, -⟩ | ⟨d1, d2, -⟩ | ⟨d1, d2, -⟩ | ⟨d1, d2, -⟩
    · exact Or.inr ⟨by rw [d2]; decide, hn3 (by rw [d2]; decide) (by rw [d1]; decide), Or.inr ⟨by rw [d2]; decide, by rw [d1]; decide, c1, c2, c3⟩⟩
    · exact Or.inr ⟨by rw [d2]; decide, hn3 (by rw [d2]; decide) (by rw [d1]; decide), Or.inr ⟨by rw [d2]; decide, by rw [d1]; decide, c1, c2, c3⟩⟩
    · refine Or.inr ⟨by rw [d2]; decide, fun y => ?_, Or.inr ⟨by rw [d2]; decide, by rw [d1]; decide, c1, c2, c3⟩⟩
      rw [d2, isIt_k (by omega), isS_k hk, if_pos d1, d3]
    all_goals exact Or.inr ⟨by rw [d2]; decide, hn3 (by rw [d2]; decide) (by rw [d1]; decide), Or.inr ⟨by rw [d2]; decide, by rw [d1]; decide, c1, c2, c3⟩⟩
theorem sgn_tie {f : Nat → Int32} {L : Nat} {K B W : Nat → Int32} {k p : Nat} {fd : Nat → Int32} {fr : Nat} {cm op : Int32} (hL : L ≤ 120) (hf : ∀ j, j < L → ¬ f j < 0 ∧ ¬ 126 < f j) (hA : At f L K B W k p) (hfr : fr ≤ 60) (st st' y : Int32) (h16 : ¬ st' = 16) (hN : ∀ m b e a, mNxt f m b e a fd fr cm op st = if o_Mo_isIt_r m b f y = 0 then (16, fd, nI fr, cm, op) else (st', fd, nI fr, cm, op)) :
    (isS K W (nI k) y = 0 ∧ (mRG f L (L + 1) p st fd fr cm op).1 = B k) ∨ (¬ isS K W (nI k) y = 0 ∧ ∃ e, p < e ∧ e ≤ L ∧ At f L K B W (k + 1) e ∧ mRG f L (L + 1) p st fd fr cm op = mRG f L (L + 1) e st' fd fr cm op) := by
  have hkp := hA.kp
  obtain ⟨m, b, e, a, s, hpb, hB, hc⟩ := tk_sg hL hf hA
  by_cases hS : isS K W (nI k) y = 0
  · refine Or.inl ⟨hS, ?_⟩
    rw [MR_bad s ?_, hB]
    rcases hc with ⟨c1, -⟩ | ⟨c1, c2, -⟩
    · exact Or.inl c1
    · refine Or.inr ?_
      rw [hN, c2, if_pos hS]
  · refine Or.inr ⟨hS, ?_⟩
    rcases hc with ⟨c1, c2, -⟩ | ⟨c1, c2, ⟨d1, d2⟩ | ⟨d1, d2, d3, d4, d5⟩⟩
    · exact absurd (c2 y) hS
    · exact absurd (isS_n (by omega) (by rw [d2]; decide)) hS
    · refine ⟨e, by omega, d4, d5, MR_go hL s d1 c1 ?_ h16 (by omega) d3 d4⟩
      rw [hN, c2, if_neg hS]
theorem ix0 {fr : Nat} (h : fr ≤ 60) : (6 * nI fr + (0 : Int32)).toNatClampNeg = 6 * fr := ix6 (kk := 0) h (by decide)
theorem sS {K W : Nat → Int32} {x y z : Int32} (h : ¬ isS K W x y = 0) (hn : ¬ y = z) : isS K W x z = 0 := by
  obtain ⟨h1, h2⟩ := isS_1 h
  unfold isS
  rw [if_pos h1, if_neg (by rw [h2]; exact hn)]
theorem cmp_1 {f : Nat → Int32} {m : Int32} {b e : Nat} {a : Int32} {fd : Nat → Int32} {fr : Nat} {cm op : Int32} {y1 y2 : Int32} (h : cm + y1 ≤ 12) : mCmp f m b e a fd fr cm op y1 y2 = (y2, cm + y1) := if_pos h
theorem cmp_0 {f : Nat → Int32} {m : Int32} {b e : Nat} {a : Int32} {fd : Nat → Int32} {fr : Nat} {cm op : Int32} {y1 y2 : Int32} (h : ¬ cm + y1 ≤ 12) : mCmp f m b e a fd fr cm op y1 y2 = (16, cm + y1) := if_neg h
theorem kOS_0 {K W : Nat → Int32} {x : Int32} (h : kOS K W x = 0) : isS K W x 43 = 0 ∧ isS K W x 45 = 0 ∧ isS K W x 42 = 0 ∧ isS K W x 60 = 0 := by
  unfold kOS at h
  by_cases h1 : isS K W x 43 = 0
  · rw [if_pos h1] at h
    by_cases h2 : isS K W x 45 = 0
    · rw [if_pos h2] at h
      by_cases h3 : isS K W x 42 = 0
      · rw [if_pos h3] at h
        by_cases h4 : isS K W x 60 = 0
        · exact ⟨h1, h2, h3, h4⟩
        · rw [if_neg h4] at h; exact absurd h (by decide)
      · rw [if_neg h3] at h; exact absurd h (by decide)
    · rw [if_neg h2] at h; exact absurd h (by decide)
  · rw [if_neg h1] at h; exact absurd h (by decide)
theorem kOS_c (K W : Nat → Int32) (x : Int32) : (kOS K W x = 0) ∨ (kOS K W x = 1 ∧ ¬ isS K W x 43 = 0) ∨ (kOS K W x = 2 ∧ ¬ isS K W x 45 = 0) ∨ (kOS K W x = 3 ∧ ¬ isS K W x 42 = 0) ∨ (kOS K W x = 4 ∧ ¬ isS K W x 60 = 0) := by
  unfold kOS
  by_cases h1 : isS K W x 43 = 0
  · rw [if_pos h1]
    by_cases h2 : isS K W x 45 = 0
    · rw [if_pos h2]
      by_cases h3 : isS K W x 42 = 0
      · rw [if_pos h3]
        by_cases h4 : isS K W x 60 = 0
        · rw [if_pos h4]; exact Or.inl rfl
        · rw [if_neg h4]; exact Or.inr (Or.inr (Or.inr (Or.inr ⟨rfl, h4⟩)))
      · rw [if_neg h3]; exact Or.inr (Or.inr (Or.inr (Or.inl ⟨rfl, h3⟩)))
    · rw [if_neg h2]; exact Or.inr (Or.inr (Or.inl ⟨rfl, h2⟩))
  · rw [if_neg h1]; exact Or.inr (Or.inl ⟨rfl, h1⟩)
theorem af_tie {f : Nat → Int32} {L : Nat} {K B W : Nat → Int32} {k p : Nat} {fd : Nat → Int32} {fr : Nat} {cm op : Int32} (hL : L ≤ 120) (hf : ∀ j, j < L → ¬ f j < 0 ∧ ¬ 126 < f j) (hA : At f L K B W k p) (hfr : fr ≤ 60) (hcm : cm ≤ 12) :
    (isS K W (nI k) 63 = 0 ∧ kOS K W (nI k) = 0) ∨
    (isS K W (nI k) 63 = 0 ∧ (kOS K W (nI k) = 1 ∨ kOS K W (nI k) = 2 ∨ kOS K W (nI k) = 3) ∧ ∃ e, p < e ∧ e ≤ L ∧ At f L K B W (k + 1) e ∧ mRG f L (L + 1) p 4 fd fr cm op = mRG f L (L + 1) e 5 (upd fd (6 * fr) (kOS K W (nI k))) fr cm op) ∨
    (isS K W (nI k) 63 = 0 ∧ kOS K W (nI k) = 4 ∧ ((cm + 1 ≤ 12 ∧ ∃ e, p < e ∧ e ≤ L ∧ At f L K B W (k + 1) e ∧ mRG f L (L + 1) p 4 fd fr cm op = mRG f L (L + 1) e 5 (upd fd (6 * fr) 4) fr (cm + 1) op) ∨ (¬ cm + 1 ≤ 12 ∧ (mRG f L (L + 1) p 4 fd fr cm op).1 = B k))) ∨
    (¬ isS K W (nI k) 63 = 0 ∧ ((cm + 1 ≤ 12 ∧ ∃ e, p < e ∧ e ≤ L ∧ At f L K B W (k + 1) e ∧ mRG f L (L + 1) p 4 fd fr cm op = mRG f L (L + 1) e 7 (upd fd (6 * fr) 5) fr (cm + 1) op) ∨ (¬ cm + 1 ≤ 12 ∧ (mRG f L (L + 1) p 4 fd fr cm op).1 = B k))) := by
  have hkp := hA.kp
  have hk : k < 1000 := by omega
  obtain ⟨m, b, e, a, s, hpb, hB, hc⟩ := tk_sg hL hf hA
  have hcm0 : cm + 0 ≤ 12 := by rw [Int32.add_zero]; exact hcm
  have ex := ix0 hfr
  have key : ∀ y, ¬ isS K W (nI k) y = 0 → (¬ m = 4 ∧ (∀ y, o_Mo_isIt_r m b f y = isS K W (nI k) y) ∧ ¬ m = 0 ∧ b < e ∧ e ≤ L ∧ At f L K B W (k + 1) e) := by
    intro y hy
    rcases hc with ⟨c1, c2, -⟩ | ⟨c1, c2, ⟨d1, d2⟩ | ⟨d1, d2, d3, d4, d5⟩⟩
    · exact absurd (c2 y) hy
    · exact absurd (isS_n hk (by rw [d2]; decide)) hy
    · exact ⟨c1, c2, d1, d3, d4, d5⟩
  by_cases h63 : isS K W (nI k) 63 = 0
  · rcases kOS_c K W (nI k) with hw | ⟨hw, hs⟩ | ⟨hw, hs⟩ | ⟨hw, hs⟩ | ⟨hw, hs⟩
    · exact Or.inl ⟨h63, hw⟩
    · obtain ⟨k1, k2, k3, k4, k5, k6⟩ := key _ hs
      refine Or.inr (Or.inl ⟨h63, Or.inl hw, e, by omega, k5, k6, ?_⟩)
      rw [hw]
      refine MR_go hL s k3 k1 ?_ (by decide) (by omega) k4 k5
      rw [nx_4]
      unfold mAF
      rw [k2, if_neg hs, cmp_1 hcm0, Int32.add_zero, ex]
    · obtain ⟨k1, k2, k3, k4, k5, k6⟩ := key _ hs
      refine Or.inr (Or.inl ⟨h63, Or.inr (Or.inl hw), e, by omega, k5, k6, ?_⟩)
      rw [hw]
      refine MR_go hL s k3 k1 ?_ (by decide) (by omega) k4 k5
      rw [nx_4]
      unfold mAF
      rw [k2, if_pos (sS hs (by decide)), k2, if_neg hs, cmp_1 hcm0, Int32.add_zero, ex]
    · obtain ⟨k1, k2, k3, k4, k5, k6⟩ := key _ hs
      refine Or.inr (Or.inl ⟨h63, Or.inr (Or.inr hw), e, by omega, k5, k6, ?_⟩)
      rw [hw]
      refine MR_go hL s k3 k1 ?_ (by decide) (by omega) k4 k5
      rw [nx_4]
      unfold mAF
      rw [k2, if_pos (sS hs (by decide)), k2, if_pos (sS hs (by decide)), k2, if_neg hs, cmp_1 hcm0, Int32.add_zero, ex]
    · obtain ⟨k1, k2, k3, k4, k5, k6⟩ := key _ hs
      refine Or.inr (Or.inr (Or.inl ⟨h63, hw, ?_⟩))
      by_cases h12 : cm + 1 ≤ 12
      · refine Or.inl ⟨h12, e, by omega, k5, k6, ?_⟩
        refine MR_go hL s k3 k1 ?_ (by decide) (by omega) k4 k5
        rw [nx_4]
        unfold mAF
        rw [k2, if_pos (sS hs (by decide)), k2, if_pos (sS hs (by decide)), k2, if_pos (sS hs (by decide)), k2, if_neg hs, cmp_1 h12, ex]
      · refine Or.inr ⟨h12, ?_⟩
        rw [MR_bad s (Or.inr ?_), hB]
        rw [nx_4]
        unfold mAF
        rw [k2, if_pos (sS hs (by decide)), k2, if_pos (sS hs (by decide)), k2, if_pos (sS hs (by decide)), k2, if_neg hs, cmp_0 h12]
  · obtain ⟨k1, k2, k3, k4, k5, k6⟩ := key _ h63
    refine Or.inr (Or.inr (Or.inr ⟨h63, ?_⟩))
    by_cases h12 : cm + 1 ≤ 12
    · refine Or.inl ⟨h12, e, by omega, k5, k6, ?_⟩
      refine MR_go hL s k3 k1 ?_ (by decide) (by omega) k4 k5
      rw [nx_4]
      unfold mAF
      rw [k2, if_pos (sS h63 (by decide)), k2, if_pos (sS h63 (by decide)), k2, if_pos (sS h63 (by decide)), k2, if_pos (sS h63 (by decide)), k2, if_neg h63, cmp_1 h12, ex]
    · refine Or.inr ⟨h12, ?_⟩
      rw [MR_bad s (Or.inr ?_), hB]
      rw [nx_4]
      unfold mAF
      rw [k2, if_pos (sS h63 (by decide)), k2, if_pos (sS h63 (by decide)), k2, if_pos (sS h63 (by decide)), k2, if_pos (sS h63 (by decide)), k2, if_neg h63, cmp_0 h12]
/-- a statement is whole: what stands behind it -/
theorem wh_tie {f : Nat → Int32} {L : Nat} {K B W : Nat → Int32} {k p : Nat} {fd : Nat → Int32} {fr : Nat} {cm op : Int32} (hL : L ≤ 120) (hf : ∀ j, j < L → ¬ f j < 0 ∧ ¬ 126 < f j) (hA : At f L K B W k p) (hfr : fr ≤ 60) (st : Int32) (fd1 : Nat → Int32) (hst : (st = 15 ∧ fd1 = fd) ∨ (st = 4 ∧ isS K W (nI k) 63 = 0 ∧ kOS K W (nI k) = 0 ∧ fd1 = upd fd (6 * fr) 0)) :
    (K k = 0 ∧ ∃ q, mRG f L (L + 1) p st fd fr cm op = (-1, fd1, nI (fr + 1), cm, op, q)) ∨
    (¬ K k = 0 ∧ ¬ isS K W (nI k) 59 = 0 ∧ ∃ e, p < e ∧ e ≤ L ∧ At f L K B W (k + 1) e ∧ mRG f L (L + 1) p st fd fr cm op = mRG f L (L + 1) e 0 fd1 (fr + 1) cm op) ∨
    (¬ K k = 0 ∧ isS K W (nI k) 59 = 0 ∧ (mRG f L (L + 1) p st fd fr cm op).1 = B k) := by
  have hkp := hA.kp
  have hk : k < 1000 := by omega
  obtain ⟨m, b, e, a, s, hpb, hB, hc⟩ := tk_sg hL hf hA
  have ex := ix0 hfr
  have hN : ¬ m = 4 → mNxt f m b e a fd fr cm op st = ((mAft f m b e a fd1 fr cm op).1, fd1, (mAft f m b e a fd1 fr cm op).2, cm, op) := by
    intro h4
    rcases hst with ⟨rfl, rfl⟩ | ⟨rfl, h63, hk0, rfl⟩
    · exact nx_15 m b e a
    · obtain ⟨q1, q2, q3, q4⟩ := kOS_0 hk0
      rcases hc with ⟨c1, -⟩ | ⟨c1, c2, -⟩
      · exact absurd c1 h4
      · rw [nx_4]
        unfold mAF
        rw [c2, if_pos q1, c2, if_pos q2, c2, if_pos q3, c2, if_pos q4, c2, if_pos h63, ex]
  rcases hc with ⟨c1, c2, c3⟩ | ⟨c1, c2, ⟨d1, d2⟩ | ⟨d1, d2, d3, d4, d5⟩⟩
  · refine Or.inr (Or.inr ⟨c3, c2 59, ?_⟩)
    rw [MR_bad s (Or.inl c1), hB]
  · refine Or.inl ⟨d2, ?_⟩
    subst d1
    refine ⟨_, MR_end s ?_ (st' := 15) (by decide)⟩
    rw [hN c1]
    unfold mAft
    rw [if_pos rfl, nI_1]
  · by_cases hS : isS K W (nI k) 59 = 0
    · refine Or.inr (Or.inr ⟨d2, hS, ?_⟩)
      rw [MR_bad s (Or.inr ?_), hB]
      rw [hN c1]
      unfold mAft
      rw [if_neg d1, c2, if_pos hS]
    · refine Or.inr (Or.inl ⟨d2, hS, e, by omega, d4, d5, ?_⟩)
      refine MR_go hL s d1 c1 ?_ (by decide) (by omega) d3 d4
      rw [hN c1]
      unfold mAft
      rw [if_neg d1, c2, if_neg hS, nI_1]
