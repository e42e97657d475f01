/-! where the reference's tokens lie -/
theorem mskG_le {f : Nat → Int32} {L : Nat} (hL : L ≤ 120) : ∀ (u p : Nat), p ≤ L → p ≤ mskG f L u p ∧ mskG f L u p ≤ L
  | 0, p, h => ⟨Nat.le_refl _, h⟩
  | u + 1, p, h => by
    rw [mskG_s (by omega)]
    split
    · next h32 =>
      have hp : p < L := seF_ne (f := f) (by omega) (by rw [h32]; decide)
      have := mskG_le (f := f) hL u (p + 1) (by omega)
      simp only [Nat.add_sub_cancel]
      omega
    · exact ⟨Nat.le_refl _, h⟩
theorem mwG_le {f : Nat → Int32} {L : Nat} (hL : L ≤ 120) : ∀ (u e : Nat), e ≤ L → e ≤ mwG f L u e ∧ mwG f L u e ≤ L
  | 0, e, h => ⟨Nat.le_refl _, h⟩
  | u + 1, e, h => by
    rw [mwG_s (by omega)]
    split
    · exact ⟨Nat.le_refl _, h⟩
    · next h0 =>
      have hp : e < L := seF_ne (f := f) (by omega) (fun q => h0 (by rw [q]; exact ltr_0))
      have := mwG_le (f := f) hL u (e + 1) (by omega)
      simp only [Nat.add_sub_cancel]
      omega
theorem mnG_le {f : Nat → Int32} {L b : Nat} (hL : L ≤ 120) : ∀ (u e : Nat) (a : Int32), e ≤ L → e ≤ (mnG f L b u e a).1 ∧ (mnG f L b u e a).1 ≤ L
  | 0, e, a, h => ⟨Nat.le_refl _, h⟩
  | u + 1, e, a, h => by
    rw [mnG_s (by omega)]
    split
    · exact ⟨Nat.le_refl _, h⟩
    · next h0 =>
      have hp : e < L := seF_ne (f := f) (by omega) (fun q => h0 (by rw [q]; exact dig_0))
      have := mnG_le (f := f) (b := b) hL u (e + 1) (if 3 ≤ nI e - nI b then 0 else 10 * a + seF f (nI L) (nI e) - 48) (by omega)
      simp only [Nat.add_sub_cancel]
      omega
/-- a token: it begins at the place or behind it; all but the end and a wrong sign go on -/
theorem mSc_ok {f : Nat → Int32} {L p : Nat} (hL : L ≤ 120) (hp : p ≤ L) : p ≤ (mSc f L p).2.1 ∧ (mSc f L p).2.1 ≤ (mSc f L p).2.2.1 ∧ (mSc f L p).2.2.1 ≤ L ∧ (¬ (mSc f L p).1 = 0 → (mSc f L p).2.1 < L) ∧ (¬ (mSc f L p).1 = 0 → ¬ (mSc f L p).1 = 4 → (mSc f L p).2.1 < (mSc f L p).2.2.1) ∧ ((mSc f L p).1 = 0 → (mSc f L p).2.1 = L) := by
  have hB : p ≤ mB f L p ∧ mB f L p ≤ L := mskG_le hL _ p hp
  unfold mSc
  by_cases h1 : nI (mB f L p) < nI L
  · have hlt : mB f L p < L := (nI_ltI (a := mB f L p) (b := L) (by omega) (by omega)).mp h1
    rw [if_pos h1]
    by_cases h2 : o_Mo_isLetter_r (seF f (nI L) (nI (mB f L p))) = 0
    · rw [if_pos h2]
      by_cases h3 : o_Mo_isDigit_r (seF f (nI L) (nI (mB f L p))) = 0
      · rw [if_pos h3]
        by_cases h4 : o_Mo_isSign_r (seF f (nI L) (nI (mB f L p))) = 0
        · rw [if_pos h4]
          exact ⟨hB.1, Nat.le_refl _, hB.2, fun _ => hlt, fun _ q => absurd rfl q, fun q => absurd (show (4 : Int32) = 0 from q) (by decide)⟩
        · rw [if_neg h4]
          exact ⟨hB.1, Nat.le_succ _, hlt, fun _ => hlt, fun _ _ => Nat.lt_succ_self _, fun q => absurd (show (3 : Int32) = 0 from q) (by decide)⟩
      · rw [if_neg h3]
        have hn : mB f L p < (mN f L (mB f L p)).1 ∧ (mN f L (mB f L p)).1 ≤ L := by
          unfold mN
          rw [mnG_s (by omega), if_neg h3]
          have := mnG_le (f := f) (b := mB f L p) hL (L + 1 - mB f L p - 1) (mB f L p + 1) (if 3 ≤ nI (mB f L p) - nI (mB f L p) then 0 else 10 * 0 + seF f (nI L) (nI (mB f L p)) - 48) (by omega)
          omega
        refine ⟨hB.1, Nat.le_of_lt hn.1, hn.2, fun _ => hlt, fun _ _ => hn.1, fun q => ?_⟩
        have q : (if nI (mN f L (mB f L p)).1 - nI (mB f L p) ≤ 3 then (2 : Int32) else 4) = 0 := q
        split at q <;> exact absurd q (by decide)
    · rw [if_neg h2]
      have hw : mB f L p < mW f L (mB f L p) ∧ mW f L (mB f L p) ≤ L := by
        unfold mW
        rw [mwG_s (by omega), if_neg h2]
        have := mwG_le (f := f) hL (L + 1 - mB f L p - 1) (mB f L p + 1) (by omega)
        omega
      exact ⟨hB.1, Nat.le_of_lt hw.1, hw.2, fun _ => hlt, fun _ _ => hw.1, fun q => absurd (show (1 : Int32) = 0 from q) (by decide)⟩
  · rw [if_neg h1]
    have he : mB f L p = L := by
      apply Nat.le_antisymm hB.2
      apply Nat.le_of_not_lt
      intro q
      exact h1 (nI_lt q (by omega))
    exact ⟨hB.1, Nat.le_refl _, hB.2, fun q => absurd rfl q, fun q => absurd rfl q, fun _ => he⟩
