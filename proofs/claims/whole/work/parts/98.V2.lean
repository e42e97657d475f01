/-! numbers and signs alike -/
theorem mW_eq {f : Nat → Int32} {L b : Nat} (hL : L ≤ 120) (hb : b < L) (hl : ¬ o_Tokens_isLetter_r (f b) = 0) : mW f L b = wEnd f L (b + 1) := by
  unfold mW wEnd
  rw [mwG_s (by omega), if_neg (by rw [seF_lt hL hb, ltr_eq]; exact hl), show L + 1 - b - 1 = L - (b + 1) + 1 by omega]
  exact mwG_wE hL _ _ (by omega)
theorem mnG_end {f : Nat → Int32} {L b : Nat} (hL : L ≤ 120) : ∀ (u e : Nat) (a n : Int32), e + u = L → (mnG f L b (u + 1) e a).1 = (nE f u e n).1
  | 0, e, a, n, h => by
    rw [mnG_s (by omega), if_pos (by rw [seF_ge (by omega) (by omega)]; exact dig_0)]
    rfl
  | u + 1, e, a, n, h => by
    rw [mnG_s (by omega), nE_s (by omega), seF_lt hL (by omega), dig_eq]
    split
    · rfl
    · simp only [Nat.add_sub_cancel]
      exact mnG_end hL u (e + 1) _ _ (by omega)
theorem sub_lt3 {b e : Nat} (h1 : b ≤ e) (h2 : e < b + 3) (h3 : e ≤ 120) : ¬ (3 : Int32) ≤ nI e - nI b := by
  have e1 : nI e - nI b = nI (e - b) := by
    have : nI e = nI (e - b) + nI b := by rw [nI_add]; congr 1; omega
    rw [this]
    exact Int32.add_sub_cancel _ _
  rw [e1]
  exact nI_ge (b := 3) (by omega) (by decide)
theorem mnG_val {f : Nat → Int32} {L b : Nat} (hL : L ≤ 120) : ∀ (u e : Nat) (a : Int32), e + u = L → b ≤ e → (nE f u e a).1 ≤ b + 3 → (mnG f L b (u + 1) e a).2 = (nE f u e a).2
  | 0, e, a, h, _, _ => by
    rw [mnG_s (by omega), if_pos (by rw [seF_ge (by omega) (by omega)]; exact dig_0)]
    rfl
  | u + 1, e, a, h, hb, h3 => by
    rw [nE_s (by omega)] at h3
    rw [mnG_s (by omega), nE_s (by omega), seF_lt hL (by omega), dig_eq]
    split
    · rfl
    · next hd =>
      rw [if_neg hd] at h3
      simp only [Nat.add_sub_cancel] at h3 ⊢
      have hle := nE_le (f := f) u (e + 1) (10 * a + f e - 48)
      rw [if_neg (sub_lt3 hb (by omega) (by omega))]
      exact mnG_val hL u (e + 1) _ (by omega) (by omega) h3
theorem mN_end {f : Nat → Int32} {L b : Nat} (hL : L ≤ 120) (hb : b ≤ L) : (mN f L b).1 = (nEnd f L b).1 := by
  unfold mN nEnd
  rw [show L + 1 - b = L - b + 1 by omega]
  exact mnG_end hL _ _ _ _ (by omega)
theorem mN_val {f : Nat → Int32} {L b : Nat} (hL : L ≤ 120) (hb : b ≤ L) (h3 : (nEnd f L b).1 ≤ b + 3) : (mN f L b).2 = (nEnd f L b).2 := by
  unfold mN
  rw [show L + 1 - b = L - b + 1 by omega]
  exact mnG_val hL _ _ _ (by omega) (Nat.le_refl _) h3
theorem sgn_eq : ∀ n : Nat, n < 127 → ((o_JStringLatin1_indexOfChar_r (nI n) < 0) ↔ o_Mo_isSign_r (nI n) = 0) := by decide +kernel
