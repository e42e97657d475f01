/-! the lowest bit of a sum; the bit of a comparison as a number -/
theorem low_add (x y : Int64) : bL (x + y) 0 = (bL x 0 ^^ bL y 0) := by
  unfold bL
  rw [Int64.toBitVec_add, BitVec.getLsbD_add (by decide), BitVec.carry_zero]
  simp
theorem and1 (x : Int64) : x &&& 1 = if bL x 0 = true then 1 else 0 := by
  apply bL_ext
  intro i hi
  rw [bL_and, bL_1]
  cases h : bL x 0 with
  | true =>
    rw [if_pos rfl, bL_1]
    by_cases q : i = 0
    · subst q; simp [h]
    · simp [q]
  | false =>
    rw [if_neg (by simp), bL_0]
    by_cases q : i = 0
    · subst q; simp [h]
    · simp [q]
theorem and1i (x : Int64) : x.toInt32 &&& 1 = if bL x 0 = true then 1 else 0 := by
  apply Int32.toBitVec_inj.mp
  rw [Int32.toBitVec_and, Int64.toBitVec_toInt32]
  apply BitVec.eq_of_getLsbD_eq
  intro i hi
  have h1 : ∀ i, i < 32 → (1 : Int32).toBitVec.getLsbD i = decide (i = 0) := by decide
  have h0 : ∀ i, i < 32 → (0 : Int32).toBitVec.getLsbD i = false := by decide
  rw [BitVec.getLsbD_and, BitVec.getLsbD_signExtend, if_pos (show i < 64 by omega), h1 i hi]
  by_cases q : i = 0
  · subst q
    show (decide (0 < 32) && x.toBitVec.getLsbD 0 && decide (0 = 0)) = _
    cases h : bL x 0 with
    | true =>
      rw [if_pos rfl, h1 0 (by omega)]
      have h : x.toBitVec.getLsbD 0 = true := h
      rw [h]; rfl
    | false =>
      rw [if_neg (by simp), h0 0 (by omega)]
      have h : x.toBitVec.getLsbD 0 = false := h
      rw [h]; rfl
  · cases h : bL x 0 with
    | true => rw [if_pos rfl, h1 i hi]; simp [q]
    | false => rw [if_neg (by simp), h0 i hi]; simp [q]
theorem xr_odd (t : T3) : (xr (tAnd t 1)).toInt32 = oOdd (tv t) := by
  unfold oOdd tv
  rw [xr_and, and1, and1i]
  have e : bL (xr t) 0 = bL (sm t) 0 := by
    unfold xr sm
    rw [low_add, low_add, bL_xor, bL_xor]
  rw [e]
  cases bL (sm t) 0 <;> rfl
theorem tv_jnB {pd px : Nat → Int32 → Int64} (hp : PadsOk pd px) {b : T3} (n : Int32) (h0 : isB b.1) (h1 : isB b.2.1) (h2 : isB b.2.2) : tv (jnB pd b n) = (xr b).toInt32 := by
  unfold tv
  rw [jnB_val hp n h0 h1 h2]
theorem tv_mul {pd px : Nat → Int32 → Int64} (hp : PadsOk pd px) (n : Int32) (a b : T3) : tv (sMul pd n a b) = tv a * tv b := by
  unfold tv
  rw [hp.mul, i32mul]
theorem hv0_sum (t : T3) : hv 0 t.1 + hv 0 t.2.1 + hv 0 t.2.2 = (tv t).toBitVec := by
  have e : ∀ x : Int64, hv 0 x = x.toInt32.toBitVec := by
    intro x
    rw [Int64.toBitVec_toInt32]
    apply BitVec.eq_of_getLsbD_eq
    intro i hi
    rw [hv_bit 0 x hi, Nat.zero_add, BitVec.getLsbD_signExtend, if_pos (show i < 64 by omega)]
    simp [hi, bL]
  rw [e, e, e, ← Int32.toBitVec_add, ← Int32.toBitVec_add, ← i32add, ← i32add]
  rfl
/-- the bit that a comparison ends with -/
theorem less_bit {x y : T3} {Z : Int64} (h : bL Z 31 = (hv 0 x.1 + hv 0 x.2.1 + hv 0 x.2.2).ult (hv 0 y.1 + hv 0 y.2.1 + hv 0 y.2.2)) : (jus Z 31 &&& 1).toInt32 = oLess (tv x) (tv y) := by
  rw [hv0_sum, hv0_sum] at h
  have e : bL (jus Z 31) 0 = bL Z 31 := bL_ushr 31 (by omega) Z 0
  unfold oLess
  rw [and1, e, h]
  cases (tv x).toBitVec.ult (tv y).toBitVec <;> rfl
