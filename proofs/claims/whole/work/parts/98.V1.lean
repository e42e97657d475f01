/-! both read the same tokens -/
theorem ltr_eq (x : Int32) : o_Mo_isLetter_r x = o_Tokens_isLetter_r x := by
  unfold o_Mo_isLetter_r o_Tokens_isLetter_r
  rfl
theorem dig_eq (x : Int32) : o_Mo_isDigit_r x = o_Tokens_isDecimal_r x := by
  unfold o_Mo_isDigit_r o_Tokens_isDecimal_r
  rfl
theorem mB_end {f : Nat → Int32} {L : Nat} (hL : L ≤ 120) : mB f L L = L := by
  unfold mB
  rw [mskG_s (by omega), if_neg (by rw [seF_ge (Nat.le_refl _) (by omega)]; decide)]
theorem mB_s {f : Nat → Int32} {L p : Nat} (hL : L ≤ 120) (hp : p < L) : mB f L p = if f p = 32 then mB f L (p + 1) else p := by
  unfold mB
  rw [mskG_s (by omega), seF_lt hL hp, show L + 1 - p - 1 = L + 1 - (p + 1) by omega]
/-- spaces are passed over -/
theorem sc_skip {f : Nat → Int32} {L : Nat} (hL : L ≤ 120) : ∀ (n p : Nat) (X : (Nat → Int32) × (Nat → Int32) × (Nat → Int32) × Nat), p ≤ L → L - p ≤ n → scG f L (L + 1) p X = scG f L (L + 1) (mB f L p) X
  | n, p, X, h1, h2 => by
    by_cases hp : p = L
    · subst hp
      rw [mB_end hL]
    · rw [mB_s hL (by omega)]
      split
      · next h32 =>
        rw [scG_s (by omega), if_neg (by omega), if_pos h32]
        cases n with
        | zero => omega
        | succ n =>
          rw [scG_fuel (L + 1 - 1) (L + 1) (p + 1) X (by omega) (by omega)]
          exact sc_skip hL n (p + 1) X (by omega) (by omega)
      · rfl
/-- where no space stands, a token -/
theorem mB_ns {f : Nat → Int32} {L : Nat} (hL : L ≤ 120) : ∀ (n p : Nat), p ≤ L → L - p ≤ n → mB f L p < L → ¬ f (mB f L p) = 32
  | n, p, h1, h2 => by
    by_cases hp : p = L
    · subst hp
      rw [mB_end hL]
      intro q
      omega
    · rw [mB_s hL (by omega)]
      split
      · cases n with
        | zero => omega
        | succ n => exact mB_ns hL n (p + 1) (by omega) (by omega)
      · next h => exact fun _ => h
theorem sc_end {f : Nat → Int32} {L p : Nat} {X : (Nat → Int32) × (Nat → Int32) × (Nat → Int32) × Nat} (hL : L ≤ 120) (hp : p ≤ L) (hb : mB f L p = L) : scG f L (L + 1) p X = X := by
  rw [sc_skip hL _ p X hp (Nat.le_refl _), hb, scG_s (by omega), if_pos (Nat.le_refl _)]
theorem sc_tok {f : Nat → Int32} {L p : Nat} {X : (Nat → Int32) × (Nat → Int32) × (Nat → Int32) × Nat} (hL : L ≤ 120) (hp : p ≤ L) (hb : mB f L p < L) : scG f L (L + 1) p X = scG f L (L + 1) (tkT f L (mB f L p)).1 (upd X.1 (nI X.2.2.2).toNatClampNeg (tkT f L (mB f L p)).2.1, upd X.2.1 (nI X.2.2.2).toNatClampNeg (nI (mB f L p)), upd X.2.2.1 (nI X.2.2.2).toNatClampNeg (tkT f L (mB f L p)).2.2, X.2.2.2 + 1) := by
  rw [sc_skip hL _ p X hp (Nat.le_refl _), scG_s (by omega), if_neg (by omega), if_neg (mB_ns hL _ p hp (Nat.le_refl _) hb)]
  have ht := tkT_le (f := f) (L := L) (b := mB f L p) hb
  exact scG_fuel _ _ _ _ (by omega) (by omega)
/-- words and numbers end alike -/
theorem mwG_wE {f : Nat → Int32} {L : Nat} (hL : L ≤ 120) : ∀ (u e : Nat), e + u = L → mwG f L (u + 1) e = wE f u e
  | 0, e, h => by
    rw [mwG_s (by omega), if_pos (by rw [seF_ge (by omega) (by omega)]; exact ltr_0)]
    rfl
  | u + 1, e, h => by
    rw [mwG_s (by omega), wE_s (by omega), seF_lt hL (by omega), ltr_eq, Nat.add_sub_cancel, Nat.add_sub_cancel, mwG_wE hL u (e + 1) (by omega)]
