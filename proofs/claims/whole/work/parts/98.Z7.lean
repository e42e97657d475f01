/-! compile by both -/
theorem wE_cg {f' f : Nat → Int32} {L : Nat} (h : ∀ j, j < L → f' j = f j) : ∀ (u e : Nat), e + u ≤ L → wE f' u e = wE f u e
  | 0, e, _ => rfl
  | u + 1, e, hu => by
    rw [wE_s (f := f') (by omega), wE_s (f := f) (u := u + 1) (by omega), Nat.add_sub_cancel, h e (by omega), wE_cg h u (e + 1) (by omega)]
theorem nE_cg {f' f : Nat → Int32} {L : Nat} (h : ∀ j, j < L → f' j = f j) : ∀ (u e : Nat) (n : Int32), e + u ≤ L → nE f' u e n = nE f u e n
  | 0, e, n, _ => rfl
  | u + 1, e, n, hu => by
    rw [nE_s (f := f') (by omega), nE_s (f := f) (u := u + 1) (by omega), Nat.add_sub_cancel, h e (by omega), nE_cg h u (e + 1) _ (by omega)]
theorem isW_cg {f' f : Nat → Int32} {L b e : Nat} {x0 x1 x2 x3 : Int32} (hL : L ≤ 120) (h : ∀ j, j < L → f' j = f j) (hb : b ≤ e) (he : e ≤ L) : o_Mo_isWord_r 1 b e f' x0 x1 x2 x3 = o_Mo_isWord_r 1 b e f x0 x1 x2 x3 := by
  unfold o_Mo_isWord_r
  rw [if_pos rfl, if_pos rfl]
  by_cases h4 : nI e = nI b + 4
  · have e4 : e = b + 4 := nI_inj' (by omega) (by omega) (h4.trans (nI_add b 4))
    have i0 : (nI b).toNatClampNeg = b := nI_clamp (by omega)
    have i1 : (nI b + 1).toNatClampNeg = b + 1 := by rw [nI_1, nI_clamp (by omega)]
    have i2 : (nI b + 2).toNatClampNeg = b + 2 := by rw [show nI b + 2 = nI (b + 2) from nI_add b 2, nI_clamp (by omega)]
    have i3 : (nI b + 3).toNatClampNeg = b + 3 := by rw [show nI b + 3 = nI (b + 3) from nI_add b 3, nI_clamp (by omega)]
    rw [if_pos h4, if_pos h4, i0, i1, i2, i3, h b (by omega), h (b + 1) (by omega), h (b + 2) (by omega), h (b + 3) (by omega)]
  · rw [if_neg h4, if_neg h4]
theorem tkT_cg {f' f : Nat → Int32} {L b : Nat} (hL : L ≤ 120) (h : ∀ j, j < L → f' j = f j) (hb : b < L) : tkT f' L b = tkT f L b := by
  have e1 : wEnd f' L (b + 1) = wEnd f L (b + 1) := wE_cg h _ _ (by omega)
  have e2 : nEnd f' L b = nEnd f L b := nE_cg h _ _ _ (by omega)
  have hw := wE_le (f := f) (L - (b + 1)) (b + 1)
  have e3 : wdK f' b (wEnd f L (b + 1)) = wdK f b (wEnd f L (b + 1)) := by
    have hle : b ≤ wEnd f L (b + 1) := by unfold wEnd; omega
    have hlL : wEnd f L (b + 1) ≤ L := by unfold wEnd; omega
    unfold wdK
    rw [wd_sort, wd_sums, wd_opn, wd_sort, wd_sums, wd_opn, isW_cg hL h hle hlL, isW_cg hL h hle hlL, isW_cg hL h hle hlL]
  unfold tkT
  rw [h b hb, e1, e2, e3]
theorem scG_cg {f' f : Nat → Int32} {L : Nat} (hL : L ≤ 120) (h : ∀ j, j < L → f' j = f j) : ∀ (u p : Nat) (X : (Nat → Int32) × (Nat → Int32) × (Nat → Int32) × Nat), scG f' L u p X = scG f L u p X
  | 0, p, X => rfl
  | u + 1, p, X => by
    rw [scG_s (by omega), scG_s (f := f) (by omega), Nat.add_sub_cancel]
    by_cases hp : L ≤ p
    · rw [if_pos hp, if_pos hp]
    · rw [if_neg hp, if_neg hp, h p (by omega), tkT_cg hL h (by omega)]
      by_cases hs : f p = 32
      · rw [if_pos hs, if_pos hs]; exact scG_cg hL h u _ _
      · rw [if_neg hs, if_neg hs]; exact scG_cg hL h u _ _
theorem tk_cg {f' f : Nat → Int32} {L : Nat} (hL : L ≤ 120) (h : ∀ j, j < L → f' j = f j) (k0 b0 v0 : Nat → Int32) : tKd f' L k0 b0 v0 = tKd f L k0 b0 v0 ∧ tBg f' L k0 b0 v0 = tBg f L k0 b0 v0 ∧ tVl f' L k0 b0 v0 = tVl f L k0 b0 v0 := by
  have e : tkX f' L k0 b0 v0 = tkX f L k0 b0 v0 := scG_cg hL h _ _ _
  unfold tKd tBg tVl
  rw [e]
  exact ⟨rfl, rfl, rfl⟩
theorem cpT_ag {fr tt f : Nat → Int32} {L : Nat} (hL : L ≤ 120) (h : ∀ j, j < L → fr j = f j) : ∀ j, j < L → cpT fr tt L j = f j := by
  intro j hj
  unfold cpT
  rw [nI_clamp (by omega), cpv_lt hj]
  exact h j hj
theorem cmp_bad {fr tt f k0 b0 v0 fd : Nat → Int32} {L : Nat} {X0 : ScT} (hL : L ≤ 120) (hf : ∀ j, j < L → ¬ f j < 0 ∧ ¬ 126 < f j) (hag : ∀ j, j < L → fr j = f j) (hX : SOk X0) (hb : ∀ j, ¬ b0 j < 0) (h : (rdG (tKd (cpT fr tt L) L k0 b0 v0) (tVl (cpT fr tt L) L k0 b0 v0) (L + 1) 0 (clS X0)).1 = 0) :
    0 ≤ (mRG f L (L + 1) 0 0 fd 0 0 0).1 ∧ (mRG f L (L + 1) 0 0 fd 0 0 0).1 = tBg (cpT fr tt L) L k0 b0 v0 ((rdG (tKd (cpT fr tt L) L k0 b0 v0) (tVl (cpT fr tt L) L k0 b0 v0) (L + 1) 0 (clS X0)).2.1).toNatClampNeg ∧ SOk (rdG (tKd (cpT fr tt L) L k0 b0 v0) (tVl (cpT fr tt L) L k0 b0 v0) (L + 1) 0 (clS X0)).2.2 := by
  obtain ⟨c1, c2, c3⟩ := tk_cg hL (cpT_ag (tt := tt) hL hag) k0 b0 v0
  rw [c1, c3] at h ⊢
  rw [c2]
  rcases read_tie (k0 := k0) (b0 := b0) (v0 := v0) hL hf X0 hX fd with ⟨k', Y, h1, h2, h3, h4⟩ | ⟨k', Y, n, m', o', fd', q, h1, -⟩
  · rw [h1]
    dsimp only
    rw [nI_clamp (by omega)]
    refine ⟨?_, h3, h4⟩
    rw [h3]
    exact Int32.not_lt.mp (tBg_p hL hb k')
  · rw [h1] at h
    exact absurd (show (1 : Int32) = 0 from h) (by decide)
theorem cmp_good {fr tt f k0 b0 v0 fd sc : Nat → Int32} {L : Nat} {X0 Z : ScT} (hL : L ≤ 120) (hf : ∀ j, j < L → ¬ f j < 0 ∧ ¬ 126 < f j) (hag : ∀ j, j < L → fr j = f j) (hX : SOk X0) (hZ : SOk Z) (hsc : SCv sc) (h : ¬ (rdG (tKd (cpT fr tt L) L k0 b0 v0) (tVl (cpT fr tt L) L k0 b0 v0) (L + 1) 0 (clS X0)).1 = 0) :
    ∃ n, n ≤ 60 ∧ (mRG f L (L + 1) 0 0 fd 0 0 0).1 = -1 ∧ (mRG f L (L + 1) 0 0 fd 0 0 0).2.2.1 = nI n ∧ (scCp (rdG (tKd (cpT fr tt L) L k0 b0 v0) (tVl (cpT fr tt L) L k0 b0 v0) (L + 1) 0 (clS X0)).2.2 Z).2.2.2.2.2.2.1 = (mRG f L (L + 1) 0 0 fd 0 0 0).2.2.2.1 ∧
      SR (scCp (rdG (tKd (cpT fr tt L) L k0 b0 v0) (tVl (cpT fr tt L) L k0 b0 v0) (L + 1) 0 (clS X0)).2.2 Z) (cpF (6 * n) (mRG f L (L + 1) 0 0 fd 0 0 0).2.1 sc) n ∧ SCv (cpF (6 * n) (mRG f L (L + 1) 0 0 fd 0 0 0).2.1 sc) ∧ SOk (rdG (tKd (cpT fr tt L) L k0 b0 v0) (tVl (cpT fr tt L) L k0 b0 v0) (L + 1) 0 (clS X0)).2.2 ∧ SOk (scCp (rdG (tKd (cpT fr tt L) L k0 b0 v0) (tVl (cpT fr tt L) L k0 b0 v0) (L + 1) 0 (clS X0)).2.2 Z) := by
  obtain ⟨c1, c2, c3⟩ := tk_cg hL (cpT_ag (tt := tt) hL hag) k0 b0 v0
  rw [c1, c3] at h ⊢
  rcases read_tie (k0 := k0) (b0 := b0) (v0 := v0) hL hf X0 hX fd with ⟨k', Y, h1, h2, h3, h4⟩ | ⟨k', Y, n, m', o', fd', q, h1, h2, h3, h4⟩
  · rw [h1] at h
    exact absurd rfl h
  · rw [h1, h2]
    dsimp only
    have hs : SR (scCp Y Z) (cpF (6 * n) fd' sc) n := SR.mk hL h3 h4
    have hY : SOk Y := h4.2.2.2.2.2.2.2.2
    exact ⟨n, h3, rfl, rfl, h4.2.1, hs, SCv.mk hs hsc, hY, hY.cp hZ⟩
/-- whether it may run, by both -/
theorem may_tie {X : ScT} {sth : Int32} {fs sc fz : Nat → Int32} {ln : Nat} (h : ¬ sth = 0 → SR X sc ln) : mMay sth fs sc fz ln = 0 ↔ (sth = 0 ∨ sdS fs = 0 ∨ nmG X.2.2.2.2.2.2.2.2 fz 8 0 = 0) := by
  unfold mMay sdS
  by_cases h0 : sth = 0
  · rw [if_pos h0]; exact ⟨fun _ => Or.inl h0, fun _ => rfl⟩
  · rw [if_neg h0]
    have hm := (h h0).may (fz := fz)
    by_cases a0 : fs 0 = 0
    · rw [if_pos a0, if_pos a0]; exact ⟨fun _ => Or.inr (Or.inl rfl), fun _ => rfl⟩
    · rw [if_neg a0, if_neg a0]
      by_cases a1 : fs 1 = 0
      · rw [if_pos a1, if_pos a1]; exact ⟨fun _ => Or.inr (Or.inl rfl), fun _ => rfl⟩
      · rw [if_neg a1, if_neg a1]
        by_cases a2 : fs 2 = 0
        · rw [if_pos a2, if_pos a2]; exact ⟨fun _ => Or.inr (Or.inl rfl), fun _ => rfl⟩
        · rw [if_neg a2, if_neg a2, hm]
          constructor
          · exact fun q => Or.inr (Or.inr q)
          · rintro (q | q | q)
            · exact absurd q h0
            · exact absurd q (by decide)
            · exact q
