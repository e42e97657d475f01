
def rdG (kd vl : Nat → Int32) : Nat → Int32 → ScT → Int32 × Int32 × ScT
  | 0, x, X => (0, x, X)
  | u + 1, x, X => if (rdSta kd vl x X).1 = 0 then (0, (rdSta kd vl x X).2.1, (rdSta kd vl x X).2.2) else if isT kd (rdSta kd vl x X).2.1 0 = 0 then (if isS kd vl (rdSta kd vl x X).2.1 59 = 0 then (0, tkA kd vl (rdSta kd vl x X).2.1 59, (rdSta kd vl x X).2.2) else rdG kd vl u (tkA kd vl (rdSta kd vl x X).2.1 59) (rdSta kd vl x X).2.2) else (1, (rdSta kd vl x X).2.1, (rdSta kd vl x X).2.2)
theorem rdG_s {kd vl : Nat → Int32} {u : Nat} {x : Int32} {X : ScT} (hu : 0 < u) : rdG kd vl u x X = if (rdSta kd vl x X).1 = 0 then (0, (rdSta kd vl x X).2.1, (rdSta kd vl x X).2.2) else if isT kd (rdSta kd vl x X).2.1 0 = 0 then (if isS kd vl (rdSta kd vl x X).2.1 59 = 0 then (0, tkA kd vl (rdSta kd vl x X).2.1 59, (rdSta kd vl x X).2.2) else rdG kd vl (u - 1) (tkA kd vl (rdSta kd vl x X).2.1 59) (rdSta kd vl x X).2.2) else (1, (rdSta kd vl x X).2.1, (rdSta kd vl x X).2.2) := by
  obtain ⟨v, rfl⟩ : ∃ v, u = v + 1 := ⟨u - 1, by omega⟩
  rfl
def cpT (fr tt : Nat → Int32) (L : Nat) : Nat → Int32 := va_cpy fr tt 0 0 (nI L).toNatClampNeg
def tKd (f : Nat → Int32) (L : Nat) (kd bg vl : Nat → Int32) : Nat → Int32 := upd (tkX f L kd bg vl).1 (nI (tkX f L kd bg vl).2.2.2).toNatClampNeg 0
def tBg (f : Nat → Int32) (L : Nat) (kd bg vl : Nat → Int32) : Nat → Int32 := upd (tkX f L kd bg vl).2.1 (nI (tkX f L kd bg vl).2.2.2).toNatClampNeg (nI L)
def tVl (f : Nat → Int32) (L : Nat) (kd bg vl : Nat → Int32) : Nat → Int32 := upd (tkX f L kd bg vl).2.2.1 (nI (tkX f L kd bg vl).2.2.2).toNatClampNeg 0
def tCn (f : Nat → Int32) (L : Nat) (kd bg vl : Nat → Int32) : Int32 := nI (tkX f L kd bg vl).2.2.2 + 1
theorem scG_cn {f : Nat → Int32} {L : Nat} : ∀ (u p : Nat) (X : (Nat → Int32) × (Nat → Int32) × (Nat → Int32) × Nat), p ≤ L → X.2.2.2 ≤ p → (scG f L u p X).2.2.2 ≤ L
  | 0, p, X, h1, h2 => by show X.2.2.2 ≤ L; omega
  | u + 1, p, X, h1, h2 => by
    rw [scG_s (by omega)]
    split
    · omega
    · next hp =>
      have ht := tkT_le (f := f) (L := L) (b := p) (by omega)
      split
      · exact scG_cn u (p + 1) X (by omega) (by omega)
      · exact scG_cn u _ _ ht.2 (by show X.2.2.2 + 1 ≤ _; omega)
theorem tK_in {f : Nat → Int32} {L : Nat} {kd bg vl : Nat → Int32} (hL : L ≤ 120) : InT (tKd f L kd bg vl) 0 := by
  have h : (tkX f L kd bg vl).2.2.2 ≤ L := scG_cn (f := f) (L := L) (L + 1) 0 (kd, bg, vl, 0) (Nat.zero_le _) (Nat.le_refl _)
  refine ⟨0, (tkX f L kd bg vl).2.2.2, rfl, Nat.zero_le _, by omega, ?_⟩
  unfold tKd upd
  rw [nI_clamp (by omega), if_pos rfl]
theorem letter_26 {x : Int32} (h : ¬ o_Tokens_isLetter_r x = 0) : vp_in (x - 97) 26 := by
  unfold o_Tokens_isLetter_r at h
  split at h
  · exact absurd rfl h
  · next h1 =>
    split at h
    · exact absurd rfl h
    · next h2 =>
      have h0 : ¬ x < 0 := fun q => h1 (Int32.lt_trans q (by decide))
      obtain ⟨j, hj, rfl⟩ := nI_of h0
      have a1 : 97 ≤ j := by
        apply Nat.le_of_not_lt
        intro q
        exact h1 (nI_lt (b := 97) q (by decide))
      have a2 : j ≤ 122 := by
        apply Nat.le_of_not_lt
        intro q
        exact h2 (nI_lt (a := 122) q hj)
      have e : nI j - 97 = nI (j - 97) := by
        have : nI j = nI (j - 97) + nI 97 := by rw [nI_add]; congr 1; omega
        rw [this]
        exact Int32.add_sub_cancel _ _
      rw [e]
      exact vp_in_nI (by omega) (by decide)
theorem tkT_rg {f : Nat → Int32} {L b : Nat} (h : (tkT f L b).2.1 = 1) : vp_in (tkT f L b).2.2 26 := by
  unfold tkT at h ⊢
  by_cases h1 : o_Tokens_isLetter_r (f b) = 0
  · rw [if_pos h1] at h
    by_cases h2 : o_Tokens_isDecimal_r (f b) = 0
    · rw [if_pos h2] at h
      have h : (if o_JStringLatin1_indexOfChar_r (f b) < 0 then (7 : Int32) else 3) = 1 := h
      split at h <;> exact absurd h (by decide)
    · rw [if_neg h2] at h
      have h : (if 3 < nI (nEnd f L b).1 - nI b then (7 : Int32) else 2) = 1 := h
      split at h <;> exact absurd h (by decide)
  · rw [if_neg h1]
    exact letter_26 h1
theorem scG_rg {f : Nat → Int32} {L : Nat} : ∀ (u p : Nat) (X : (Nat → Int32) × (Nat → Int32) × (Nat → Int32) × Nat), RgT X.1 X.2.2.1 → RgT (scG f L u p X).1 (scG f L u p X).2.2.1
  | 0, p, X, h => h
  | u + 1, p, X, h => by
    rw [scG_s (by omega)]
    split
    · exact h
    · split
      · exact scG_rg u (p + 1) X h
      · refine scG_rg u _ _ (fun j hj => ?_)
        have hj : upd X.1 (nI X.2.2.2).toNatClampNeg (tkT f L p).2.1 j = 1 := hj
        show vp_in (upd X.2.2.1 (nI X.2.2.2).toNatClampNeg (tkT f L p).2.2 j) 26
        unfold upd at hj ⊢
        split
        · next q => rw [if_pos q] at hj; exact tkT_rg hj
        · next q => rw [if_neg q] at hj; exact h j hj
theorem tK_rg {f : Nat → Int32} {L : Nat} {kd bg vl : Nat → Int32} (h : RgT kd vl) : RgT (tKd f L kd bg vl) (tVl f L kd bg vl) := by
  have hs := scG_rg (f := f) (L := L) (L + 1) 0 (kd, bg, vl, 0) h
  intro j hj
  unfold tKd upd at hj
  unfold tVl upd
  split
  · next q => rw [if_pos q] at hj; exact absurd hj (by decide)
  · next q => rw [if_neg q] at hj; exact hs j hj

