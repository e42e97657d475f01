/-! the readers: one token for both -/
theorem dec_9 {x : Int32} (h : ¬ o_Tokens_isDecimal_r x = 0) : ∃ d, d ≤ 9 ∧ x = nI (48 + d) := by
  rw [← dig_eq] at h
  unfold o_Mo_isDigit_r at h
  split at h
  · exact absurd rfl h
  · next h1 =>
    split at h
    · exact absurd rfl h
    · next h2 =>
      obtain ⟨j, hj, rfl⟩ := nI_of (fun q : x < 0 => h1 (Int32.lt_trans q (by decide)))
      have a1 : ¬ j < 48 := fun q => h1 (nI_lt (b := 48) q (by omega))
      have a2 : ¬ 57 < j := fun q => h2 (nI_lt (a := 57) q hj)
      exact ⟨j - 48, by omega, by congr 1; omega⟩
theorem nI_10 (m : Nat) : 10 * nI m = nI (10 * m) := (Int32.ofNat_mul 10 m).symm
theorem num_st (m d : Nat) : 10 * nI m + nI (48 + d) - 48 = nI (10 * m + d) := by
  have e : 10 * nI m + nI (48 + d) = nI (10 * m + d) + 48 := by
    rw [nI_10, nI_add]
    show _ = nI (10 * m + d) + nI 48
    rw [nI_add]; congr 1; omega
  rw [e, Int32.add_sub_cancel]
theorem nE_bd {f : Nat → Int32} : ∀ (u e i m : Nat), i ≤ 3 → m < 10 ^ i → (nE f u e (nI m)).1 + i ≤ e + 3 → ∃ n, n < 1000 ∧ (nE f u e (nI m)).2 = nI n
  | 0, e, i, m, hi, hm, h => ⟨m, Nat.lt_of_lt_of_le hm (Nat.pow_le_pow_right (n := 10) (by decide) hi), rfl⟩
  | u + 1, e, i, m, hi, hm, h => by
    rw [nE_s (by omega), Nat.add_sub_cancel] at h ⊢
    by_cases hd : o_Tokens_isDecimal_r (f e) = 0
    · rw [if_pos hd]
      exact ⟨m, Nat.lt_of_lt_of_le hm (Nat.pow_le_pow_right (n := 10) (by decide) hi), rfl⟩
    · rw [if_neg hd] at h ⊢
      obtain ⟨d, hd9, hfe⟩ := dec_9 hd
      rw [hfe, num_st] at h ⊢
      have hle := (nE_le (f := f) u (e + 1) (nI (10 * m + d))).1
      have hpw : (10 : Nat) ^ (i + 1) = 10 ^ i * 10 := Nat.pow_succ ..
      exact nE_bd u (e + 1) (i + 1) (10 * m + d) (by omega) (by omega) (by omega)
theorem scG_mono {f : Nat → Int32} {L : Nat} : ∀ (u p : Nat) (X : (Nat → Int32) × (Nat → Int32) × (Nat → Int32) × Nat), X.2.2.2 ≤ (scG f L u p X).2.2.2
  | 0, p, X => Nat.le_refl _
  | u + 1, p, X => by
    rw [scG_s (by omega), Nat.add_sub_cancel]
    split
    · exact Nat.le_refl _
    · split
      · exact scG_mono u _ _
      · exact Nat.le_trans (Nat.le_succ _) (scG_mono u _ (upd X.1 (nI X.2.2.2).toNatClampNeg (tkT f L p).2.1, upd X.2.1 (nI X.2.2.2).toNatClampNeg (nI p), upd X.2.2.1 (nI X.2.2.2).toNatClampNeg (tkT f L p).2.2, X.2.2.2 + 1))
theorem TkR.cn {f : Nat → Int32} {L : Nat} {F : (Nat → Int32) × (Nat → Int32) × (Nat → Int32) × Nat} {k p : Nat} (h : TkR f L F k p) : k ≤ F.2.2.2 := by
  obtain ⟨X, h1, h2, h3, h4⟩ := h
  rw [← h4, ← h1]
  exact scG_mono _ _ _
def At (f : Nat → Int32) (L : Nat) (K B W : Nat → Int32) (k p : Nat) : Prop := ∃ F : (Nat → Int32) × (Nat → Int32) × (Nat → Int32) × Nat, TkR f L F k p ∧ F.2.2.2 ≤ L ∧ K = upd F.1 (nI F.2.2.2).toNatClampNeg 0 ∧ B = upd F.2.1 (nI F.2.2.2).toNatClampNeg (nI L) ∧ W = upd F.2.2.1 (nI F.2.2.2).toNatClampNeg 0
theorem At.kp {f : Nat → Int32} {L : Nat} {K B W : Nat → Int32} {k p : Nat} (h : At f L K B W k p) : k ≤ p ∧ p ≤ L := by
  obtain ⟨F, ⟨X, h1, h2, h3, h4⟩, -⟩ := h
  exact ⟨h2, h3⟩
theorem At.start {f : Nat → Int32} {L : Nat} {k0 b0 v0 : Nat → Int32} (hL : L ≤ 120) : At f L (tKd f L k0 b0 v0) (tBg f L k0 b0 v0) (tVl f L k0 b0 v0) 0 0 := by
  exact ⟨tkX f L k0 b0 v0, TkR.start, scG_cn (L + 1) 0 _ (Nat.zero_le _) (Nat.le_refl _), rfl, rfl, rfl⟩
theorem tk_w {f : Nat → Int32} {L : Nat} {K B W : Nat → Int32} {k p : Nat} (hL : L ≤ 120) (hf : ∀ j, j < L → ¬ f j < 0 ∧ ¬ 126 < f j) (h : At f L K B W k p) : ∃ m b e a, mSc f L p = (m, b, e, a) ∧ p ≤ b ∧ B k = (if m = 0 then nI L else nI b) ∧
    ((m = 0 ∧ K k = 0) ∨ (m = 4 ∧ K k = 7) ∨ (b < e ∧ e ≤ L ∧ At f L K B W (k + 1) e ∧ ((m = 1 ∧ K k = wdK f b e ∧ W k = f b - 97 ∧ (K k = 1 → vp_in (W k) 26)) ∨ (m = 2 ∧ K k = 2 ∧ W k = a ∧ ∃ n, n < 1000 ∧ a = nI n) ∨ (m = 3 ∧ K k = 3 ∧ W k = f b)))) := by
  obtain ⟨F, hT, hc, rfl, rfl, rfl⟩ := h
  have hp : p ≤ L := by obtain ⟨X, h1, h2, h3, h4⟩ := hT; exact h3
  have hB : p ≤ mB f L p ∧ mB f L p ≤ L := mskG_le hL _ p hp
  have ec : (nI F.2.2.2).toNatClampNeg = F.2.2.2 := nI_clamp (by omega)
  rw [ec]
  by_cases hb : mB f L p < L
  · obtain ⟨t1, t2, t3, t4⟩ := TkR.tok hL hT hb
    have hlt : k < F.2.2.2 := t4.cn
    have hne : ¬ k = F.2.2.2 := by omega
    have hT' : ∀ e, (tkT f L (mB f L p)).1 = e → At f L (upd F.1 F.2.2.2 0) (upd F.2.1 F.2.2.2 (nI L)) (upd F.2.2.1 F.2.2.2 0) (k + 1) e := by
      intro e he
      rw [he] at t4
      exact ⟨F, t4, hc, by rw [ec], by rw [ec], by rw [ec]⟩
    have ht := tkT_le (f := f) (L := L) (b := mB f L p) hb
    have hrg := tkT_rg (f := f) (L := L) (b := mB f L p)
    rcases tok_tie hL hb (hf _ hb) with ⟨e, he, s1, s2⟩ | ⟨e, a, n, h1, h2, ⟨h3, h4, s1, s2⟩ | ⟨h3, s1, s2⟩⟩ | ⟨s1, s2⟩ | ⟨s1, s2⟩
    · rw [s2] at t1 t3 ht hrg
      refine ⟨1, mB f L p, e, 0, s1, hB.1, ?_, Or.inr (Or.inr ⟨ht.1, ht.2, hT' e (by rw [s2]), Or.inl ⟨rfl, ?_, ?_, ?_⟩⟩)⟩
      · rw [upd_ne hne, if_neg (by decide)]; exact t2
      · rw [upd_ne hne]; exact t1
      · rw [upd_ne hne]; exact t3
      · rw [upd_ne hne, upd_ne hne, t1, t3]; exact hrg
    · rw [s2] at t1 t3 ht
      refine ⟨2, mB f L p, e, a, s1, hB.1, ?_, Or.inr (Or.inr ⟨ht.1, ht.2, hT' e (by rw [s2]), Or.inr (Or.inl ⟨rfl, ?_, ?_, ?_⟩)⟩)⟩
      · rw [upd_ne hne, if_neg (by decide)]; exact t2
      · rw [upd_ne hne]; exact t1
      · rw [upd_ne hne, h4]; exact t3
      · have hl : o_Tokens_isLetter_r (f (mB f L p)) = 0 := by
          apply Classical.byContradiction
          intro q
          unfold tkT at s2
          rw [if_neg q] at s2
          have q2 : wdK f (mB f L p) (wEnd f L (mB f L p + 1)) = 2 := congrArg (fun z => z.2.1) s2
          unfold wdK at q2
          revert q2
          repeat' split
          all_goals decide
        have hd : ¬ o_Tokens_isDecimal_r (f (mB f L p)) = 0 := by
          intro q
          unfold tkT at s2
          rw [if_pos hl, if_pos q] at s2
          have q2 := congrArg (fun z => z.2.1) s2
          revert q2
          show (if _ then (7 : Int32) else 3) = 2 → False
          split <;> decide
        have s3 := s2
        unfold tkT at s3
        rw [if_pos hl, if_neg hd] at s3
        have e1 : (nEnd f L (mB f L p)).1 = e := congrArg (fun z => z.1) s3
        have e2 : (nEnd f L (mB f L p)).2 = n := congrArg (fun z => z.2.2) s3
        have h5 : e ≤ mB f L p + 3 := sub_le3 (Nat.le_of_lt h1) (by omega) h3
        obtain ⟨z, hz, ez⟩ := nE_bd (f := f) (L - mB f L p) (mB f L p) 0 0 (by decide) (by decide) (by
          show (nEnd f L (mB f L p)).1 + 0 ≤ _
          rw [e1]; exact h5)
        exact ⟨z, hz, by rw [h4, ← e2]; exact ez⟩
    · rw [s2] at t1
      refine ⟨4, mB f L p, e, a, s1, hB.1, ?_, Or.inr (Or.inl ⟨rfl, ?_⟩)⟩
      · rw [upd_ne hne, if_neg (by decide)]; exact t2
      · rw [upd_ne hne]; exact t1
    · rw [s2] at t1 t3 ht
      refine ⟨3, mB f L p, _, 0, s1, hB.1, ?_, Or.inr (Or.inr ⟨ht.1, ht.2, hT' _ (by rw [s2]), Or.inr (Or.inr ⟨rfl, ?_, ?_⟩)⟩)⟩
      · rw [upd_ne hne, if_neg (by decide)]; exact t2
      · rw [upd_ne hne]; exact t1
      · rw [upd_ne hne]; exact t3
    · rw [s2] at t1
      refine ⟨4, mB f L p, _, 0, s1, hB.1, ?_, Or.inr (Or.inl ⟨rfl, ?_⟩)⟩
      · rw [upd_ne hne, if_neg (by decide)]; exact t2
      · rw [upd_ne hne]; exact t1
  · have hb' : mB f L p = L := by omega
    have hk := TkR.fin hL hT hb'
    refine ⟨0, L, L, 0, mSc_end hL hb', hp, ?_, Or.inl ⟨rfl, ?_⟩⟩
    · rw [if_pos rfl, hk]; exact upd_eq
    · rw [hk]; exact upd_eq
theorem wd_4 {f : Nat → Int32} {b e : Nat} {x0 x1 x2 x3 : Int32} (h : ¬ o_Mo_isWord_r 1 b e f x0 x1 x2 x3 = 0) : nI e = nI b + 4 ∧ f (nI b).toNatClampNeg = x0 := by
  unfold o_Mo_isWord_r at h
  rw [if_pos rfl] at h
  by_cases h1 : nI e = nI b + 4
  · rw [if_pos h1] at h
    by_cases h2 : f (nI b).toNatClampNeg = x0
    · exact ⟨h1, h2⟩
    · rw [if_neg h2] at h; exact absurd rfl h
  · rw [if_neg h1] at h; exact absurd rfl h
/-- the token at hand, by what the program calls it -/
theorem tk8 {f : Nat → Int32} {L : Nat} {K B W : Nat → Int32} {k p : Nat} (hL : L ≤ 120) (hf : ∀ j, j < L → ¬ f j < 0 ∧ ¬ 126 < f j) (h : At f L K B W k p) : ∃ m b e a, mSc f L p = (m, b, e, a) ∧ p ≤ b ∧ b ≤ L ∧ B k = (if m = 0 then nI L else nI b) ∧
    ((K k = 0 ∧ m = 0) ∨ (K k = 7 ∧ m = 4) ∨ (b < e ∧ e ≤ L ∧ At f L K B W (k + 1) e ∧
      ((K k = 1 ∧ m = 1 ∧ o_Mo_isRegister_r 1 b e = 1 ∧ ∃ r, r < 26 ∧ f b - 97 = nI r ∧ W k = nI r) ∨
       (K k = 2 ∧ m = 2 ∧ ∃ n, n < 1000 ∧ a = nI n ∧ W k = nI n) ∨
       (K k = 3 ∧ m = 3 ∧ f b = W k) ∨
       (K k = 4 ∧ m = 1 ∧ o_Mo_isRegister_r 1 b e = 0 ∧ o_Mo_isWord_r 1 b e f 111 112 101 110 = 0 ∧ ¬ o_Mo_isWord_r 1 b e f 115 111 114 116 = 0) ∨
       (K k = 5 ∧ m = 1 ∧ o_Mo_isRegister_r 1 b e = 0 ∧ o_Mo_isWord_r 1 b e f 111 112 101 110 = 0 ∧ o_Mo_isWord_r 1 b e f 115 111 114 116 = 0 ∧ ¬ o_Mo_isWord_r 1 b e f 115 117 109 115 = 0 ∧ e = b + 4) ∨
       (K k = 6 ∧ m = 1 ∧ o_Mo_isRegister_r 1 b e = 0 ∧ ¬ o_Mo_isWord_r 1 b e f 111 112 101 110 = 0) ∨
       (K k = 7 ∧ m = 1 ∧ o_Mo_isRegister_r 1 b e = 0 ∧ o_Mo_isWord_r 1 b e f 111 112 101 110 = 0 ∧ o_Mo_isWord_r 1 b e f 115 111 114 116 = 0 ∧ o_Mo_isWord_r 1 b e f 115 117 109 115 = 0)))) := by
  have hkp := h.kp
  obtain ⟨m, b, e, a, h1, h2, h3, hc⟩ := tk_w hL hf h
  have hbL : b ≤ L := by
    have := mSc_ok (f := f) hL hkp.2
    rw [h1] at this
    exact Nat.le_trans this.2.1 this.2.2.1
  refine ⟨m, b, e, a, h1, h2, hbL, h3, ?_⟩
  rcases hc with ⟨c1, c2⟩ | ⟨c1, c2⟩ | ⟨c1, c2, c3, hc⟩
  · exact Or.inl ⟨c2, c1⟩
  · exact Or.inr (Or.inl ⟨c2, c1⟩)
  · refine Or.inr (Or.inr ⟨c1, c2, c3, ?_⟩)
    rcases hc with ⟨d1, d2, d3, d4⟩ | ⟨d1, d2, d3, n, d4, d5⟩ | ⟨d1, d2, d3⟩
    · unfold wdK at d2
      by_cases q1 : nI e = nI b + 1
      · rw [if_pos q1] at d2
        obtain ⟨r, hr, er⟩ := vp_in_of (d4 d2) (by decide)
        refine Or.inl ⟨d2, d1, ?_, r, hr, by rw [← d3]; exact er, er⟩
        unfold o_Mo_isRegister_r
        rw [if_pos rfl, if_pos q1]
      · have q1' : o_Mo_isRegister_r 1 b e = 0 := by
          unfold o_Mo_isRegister_r
          rw [if_pos rfl, if_neg q1]
        rw [if_neg q1, wd_sort, wd_sums, wd_opn] at d2
        by_cases q2 : o_Mo_isWord_r 1 b e f 115 111 114 116 = 0
        · rw [if_pos q2] at d2
          by_cases q3 : o_Mo_isWord_r 1 b e f 115 117 109 115 = 0
          · rw [if_pos q3] at d2
            by_cases q4 : o_Mo_isWord_r 1 b e f 111 112 101 110 = 0
            · rw [if_pos q4] at d2
              exact Or.inr (Or.inr (Or.inr (Or.inr (Or.inr (Or.inr ⟨d2, d1, q1', q4, q2, q3⟩)))))
            · rw [if_neg q4] at d2
              exact Or.inr (Or.inr (Or.inr (Or.inr (Or.inr (Or.inl ⟨d2, d1, q1', q4⟩)))))
          · rw [if_neg q3] at d2
            have e4 := (wd_4 q3).1
            have e5 : e = b + 4 := nI_inj' (by omega) (by omega) (e4.trans (nI_add b 4))
            refine Or.inr (Or.inr (Or.inr (Or.inr (Or.inl ⟨d2, d1, q1', ?_, q2, q3, e5⟩))))
            apply Classical.byContradiction
            intro q
            exact absurd ((wd_4 q).2.symm.trans (wd_4 q3).2) (by decide)
        · rw [if_neg q2] at d2
          refine Or.inr (Or.inr (Or.inr (Or.inl ⟨d2, d1, q1', ?_, q2⟩)))
          apply Classical.byContradiction
          intro q
          exact absurd ((wd_4 q).2.symm.trans (wd_4 q2).2) (by decide)
    · exact Or.inr (Or.inl ⟨d2, d1, n, d4, d5, d3.trans d5⟩)
    · exact Or.inr (Or.inr (Or.inl ⟨d2, d1, d3.symm⟩))
