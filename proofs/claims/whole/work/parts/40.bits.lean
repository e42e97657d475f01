/-! bits of longs, windows of carries, three numbers added bit by bit, less -/
def bL (x : Int64) (i : Nat) : Bool := x.toBitVec.getLsbD i
theorem bL_ext {x y : Int64} (h : ∀ i, i < 64 → bL x i = bL y i) : x = y := Int64.toBitVec_inj.mp (BitVec.eq_of_getLsbD_eq (fun i hi => h i hi))
theorem bL_or (x y : Int64) (i : Nat) : bL (x ||| y) i = (bL x i || bL y i) := by unfold bL; rw [Int64.toBitVec_or, BitVec.getLsbD_or]
theorem bL_and (x y : Int64) (i : Nat) : bL (x &&& y) i = (bL x i && bL y i) := by unfold bL; rw [Int64.toBitVec_and, BitVec.getLsbD_and]
theorem bL_xor (x y : Int64) (i : Nat) : bL (x ^^^ y) i = (bL x i ^^ bL y i) := by unfold bL; rw [Int64.toBitVec_xor, BitVec.getLsbD_xor]
theorem bL_big {x : Int64} {i : Nat} (h : 64 ≤ i) : bL x i = false := BitVec.getLsbD_of_ge _ _ h
theorem bL_0 (i : Nat) : bL 0 i = false := BitVec.getLsbD_zero
theorem sL_l : ∀ n, n < 64 → (((nI n).toInt64 &&& 63).toBitVec.smod 64).toNat = n := by decide +kernel
theorem sL_u : ∀ n, n < 64 → (((nI n).toInt64.toUInt64 &&& Int64.toUInt64 63).toBitVec % 64).toNat = n := by decide +kernel
theorem bL_shl (n : Nat) (hn : n < 64) (x : Int64) {i : Nat} (hi : i < 64) : bL (x <<< ((nI n).toInt64 &&& 63)) i = (decide (n ≤ i) && bL x (i - n)) := by
  unfold bL
  rw [Int64.toBitVec_shiftLeft]
  show (x.toBitVec <<< (((nI n).toInt64 &&& 63).toBitVec.smod 64).toNat).getLsbD i = _
  rw [sL_l n hn, BitVec.getLsbD_shiftLeft]
  rcases Nat.lt_or_ge i n with h | h
  · simp [h, Nat.not_le.mpr h]
  · simp [hi, h, Nat.not_lt.mpr h]
theorem bL_ushr (n : Nat) (hn : n < 64) (x : Int64) (i : Nat) : bL ((x.toUInt64 >>> ((nI n).toInt64.toUInt64 &&& Int64.toUInt64 63)).toInt64) i = bL x (n + i) := by
  show (x.toUInt64 >>> ((nI n).toInt64.toUInt64 &&& Int64.toUInt64 63)).toBitVec.getLsbD i = x.toUInt64.toBitVec.getLsbD (n + i)
  rw [UInt64.toBitVec_shiftRight]
  show (x.toUInt64.toBitVec >>> (((nI n).toInt64.toUInt64 &&& Int64.toUInt64 63).toBitVec % 64).toNat).getLsbD i = _
  rw [sL_u n hn, BitVec.getLsbD_ushiftRight]
theorem bL_lo (i : Nat) : bL 4294967295 i = decide (i < 32) := by
  rcases Nat.lt_or_ge i 64 with h | h
  · exact (by decide +kernel : ∀ i, i < 64 → bL 4294967295 i = decide (i < 32)) i h
  · rw [bL_big h, decide_eq_false (by omega)]
theorem bL_m1 : ∀ i, i < 64 → bL (-1) i = true := by decide +kernel
theorem bL_1 (i : Nat) : bL 1 i = decide (i = 0) := by
  rcases Nat.lt_or_ge i 64 with h | h
  · exact (by decide +kernel : ∀ i, i < 64 → bL 1 i = decide (i = 0)) i h
  · rw [bL_big h, decide_eq_false (by omega)]
/-- a carry made within r places up to i; passed on through all of them -/
def ksW (g p : Nat → Bool) : Nat → Nat → Bool
  | 0, _ => false
  | _ + 1, 0 => g 0
  | r + 1, i + 1 => g (i + 1) || (p (i + 1) && ksW g p r i)
def ksP (p : Nat → Bool) : Nat → Nat → Bool
  | 0, _ => true
  | r + 1, 0 => p 0 && decide (r = 0)
  | r + 1, i + 1 => p (i + 1) && ksP p r i
theorem ksW_1 (g p : Nat → Bool) (i : Nat) : ksW g p 1 i = g i := by
  cases i <;> simp [ksW]
theorem ksP_1 (p : Nat → Bool) (i : Nat) : ksP p 1 i = p i := by
  cases i <;> simp [ksP]
theorem ksW_add (g p : Nat → Bool) (b : Nat) : ∀ a i, ksW g p (a + 1 + b) i = (ksW g p (a + 1) i || (ksP p (a + 1) i && (decide (a + 1 ≤ i) && ksW g p b (i - (a + 1)))))
  | 0, 0 => by rw [show 0 + 1 + b = b + 1 by omega]; simp [ksW]
  | 0, i + 1 => by rw [show 0 + 1 + b = b + 1 by omega]; simp [ksW, ksP]
  | a + 1, 0 => by rw [show a + 1 + 1 + b = (a + 1 + b) + 1 by omega]; simp [ksW]
  | a + 1, i + 1 => by
    rw [show a + 1 + 1 + b = (a + 1 + b) + 1 by omega]
    have e1 : decide (a + 1 + 1 ≤ i + 1) = decide (a + 1 ≤ i) := by simp
    have e2 : i + 1 - (a + 1 + 1) = i - (a + 1) := by omega
    simp only [ksW, ksP, ksW_add g p b a i, e1, e2]
    cases g (i + 1) <;> cases p (i + 1) <;> simp
theorem ksP_add (p : Nat → Bool) (b : Nat) : ∀ a i, ksP p (a + 1 + (b + 1)) i = (ksP p (a + 1) i && (decide (a + 1 ≤ i) && ksP p (b + 1) (i - (a + 1))))
  | 0, 0 => by rw [show 0 + 1 + (b + 1) = (b + 1) + 1 by omega]; simp [ksP]
  | 0, i + 1 => by rw [show 0 + 1 + (b + 1) = (b + 1) + 1 by omega]; simp [ksP]
  | a + 1, 0 => by rw [show a + 1 + 1 + (b + 1) = (a + 1 + (b + 1)) + 1 by omega]; simp [ksP]
  | a + 1, i + 1 => by
    rw [show a + 1 + 1 + (b + 1) = (a + 1 + (b + 1)) + 1 by omega]
    have e1 : decide (a + 1 + 1 ≤ i + 1) = decide (a + 1 ≤ i) := by simp
    have e2 : i + 1 - (a + 1 + 1) = i - (a + 1) := by omega
    rw [show ksP p (a + 1 + (b + 1) + 1) (i + 1) = (p (i + 1) && ksP p (a + 1 + (b + 1)) i) from rfl, ksP_add p b a i, e1, e2, show ksP p (a + 1 + 1) (i + 1) = (p (i + 1) && ksP p (a + 1) i) from rfl]
    cases p (i + 1) <;> simp
theorem ks_dis {g p : Nat → Bool} (h : ∀ i, g i = true → p i = false) : ∀ a i, ksW g p (a + 1) i = true → ksP p (a + 1) i = false
  | 0, i, hw => by rw [ksW_1] at hw; rw [ksP_1]; exact h i hw
  | a + 1, 0, hw => by simp [ksP]
  | a + 1, i + 1, hw => by
    have hw : (g (i + 1) || (p (i + 1) && ksW g p (a + 1) i)) = true := hw
    show (p (i + 1) && ksP p (a + 1) i) = false
    cases hg : g (i + 1) with
    | true => rw [h _ hg]; rfl
    | false =>
      rw [hg, Bool.false_or, Bool.and_eq_true] at hw
      rw [ks_dis h a i hw.2, Bool.and_false]
/-- one doubling of the window -/
theorem ks_two {g p : Nat → Bool} (h : ∀ i, g i = true → p i = false) (r : Nat) (hr : 0 < r) (i : Nat) : ksW g p (r + r) i = (ksW g p r i ^^ (ksP p r i && (decide (r ≤ i) && ksW g p r (i - r)))) := by
  obtain ⟨a, rfl⟩ : ∃ a, r = a + 1 := ⟨r - 1, by omega⟩
  rw [ksW_add]
  cases hw : ksW g p (a + 1) i with
  | true => rw [ks_dis h a i hw]; rfl
  | false => rw [Bool.false_or, Bool.false_xor]
theorem ks_twoP {p : Nat → Bool} (r : Nat) (hr : 0 < r) (i : Nat) : ksP p (r + r) i = (ksP p r i && (decide (r ≤ i) && ksP p r (i - r))) := by
  obtain ⟨a, rfl⟩ : ∃ a, r = a + 1 := ⟨r - 1, by omega⟩
  exact ksP_add p a a i
theorem ks_carry {w : Nat} (x y : BitVec w) : ∀ (i r : Nat), i < r → ksW (fun j => x.getLsbD j && y.getLsbD j) (fun j => x.getLsbD j ^^ y.getLsbD j) r i = BitVec.carry (i + 1) x y false
  | _, 0, h => by omega
  | 0, r + 1, _ => by
    rw [BitVec.carry_succ, BitVec.carry_zero]
    show (x.getLsbD 0 && y.getLsbD 0) = _
    cases x.getLsbD 0 <;> cases y.getLsbD 0 <;> rfl
  | i + 1, r + 1, h => by
    rw [BitVec.carry_succ, ← ks_carry x y i r (by omega)]
    show ((x.getLsbD (i + 1) && y.getLsbD (i + 1)) || ((x.getLsbD (i + 1) ^^ y.getLsbD (i + 1)) && _)) = _
    generalize ksW _ _ r i = z
    cases x.getLsbD (i + 1) <;> cases y.getLsbD (i + 1) <;> cases z <;> rfl
theorem ks_borrow {w : Nat} (x y : BitVec w) : ∀ (i r : Nat), i < r → i < w → ksW (fun j => !x.getLsbD j && y.getLsbD j) (fun j => !(x.getLsbD j ^^ y.getLsbD j)) r i = !BitVec.carry (i + 1) x (~~~y) true
  | _, 0, h, _ => by omega
  | 0, r + 1, _, hw => by
    rw [BitVec.carry_succ, BitVec.carry_zero, BitVec.getLsbD_not]
    show (!x.getLsbD 0 && y.getLsbD 0) = _
    cases x.getLsbD 0 <;> cases y.getLsbD 0 <;> simp [hw, Bool.atLeastTwo]
  | i + 1, r + 1, h, hw => by
    rw [BitVec.carry_succ, BitVec.getLsbD_not]
    have ih := ks_borrow x y i r (by omega) (by omega)
    show ((!x.getLsbD (i + 1) && y.getLsbD (i + 1)) || (!(x.getLsbD (i + 1) ^^ y.getLsbD (i + 1)) && ksW _ _ r i)) = _
    rw [ih]
    generalize BitVec.carry (i + 1) x (~~~y) true = z
    cases x.getLsbD (i + 1) <;> cases y.getLsbD (i + 1) <;> cases z <;> simp [hw, Bool.atLeastTwo]
theorem ks_ult (x y : BitVec 32) : ksW (fun j => !x.getLsbD j && y.getLsbD j) (fun j => !(x.getLsbD j ^^ y.getLsbD j)) 32 31 = x.ult y := by
  rw [ks_borrow x y 31 32 (by omega) (by omega), BitVec.ult_eq_not_carry]
theorem ks_sum (x y : BitVec 32) {j : Nat} (hj : j < 32) : (x + y).getLsbD j = ((x.getLsbD j ^^ y.getLsbD j) ^^ (decide (1 ≤ j) && ksW (fun j => x.getLsbD j && y.getLsbD j) (fun j => x.getLsbD j ^^ y.getLsbD j) 32 (j - 1))) := by
  rw [BitVec.getLsbD_add hj]
  cases j with
  | zero => simp
  | succ j =>
    rw [show j + 1 - 1 = j from rfl, ks_carry x y j 32 (by omega)]
    simp
theorem nat_add3 : ∀ (n a b c : Nat), a < 2 ^ n → b < 2 ^ n → c < 2 ^ n → a + b + c = (a ^^^ b ^^^ c) + 2 * (((a ^^^ c) &&& (b ^^^ c)) ^^^ c)
  | 0, a, b, c, ha, hb, hc => by
    have : a = 0 := by omega
    have : b = 0 := by omega
    have : c = 0 := by omega
    subst_vars
    rfl
  | n + 1, a, b, c, ha, hb, hc => by
    rw [Nat.pow_succ] at ha hb hc
    have ih := nat_add3 n (a / 2) (b / 2) (c / 2) (by omega) (by omega) (by omega)
    rw [← Nat.xor_div_two, ← Nat.xor_div_two, ← Nat.xor_div_two, ← Nat.xor_div_two, ← Nat.and_div_two, ← Nat.xor_div_two] at ih
    have k1 := @Nat.xor_mod_two_eq_one (a ^^^ b) c
    have k2 := @Nat.xor_mod_two_eq_one a b
    have k3 := @Nat.xor_mod_two_eq_one ((a ^^^ c) &&& (b ^^^ c)) c
    have k4 := @Nat.and_mod_two_eq_one (a ^^^ c) (b ^^^ c)
    have k5 := @Nat.xor_mod_two_eq_one a c
    have k6 := @Nat.xor_mod_two_eq_one b c
    generalize (a ^^^ b ^^^ c) = z1 at *
    generalize (((a ^^^ c) &&& (b ^^^ c)) ^^^ c) = z2 at *
    generalize ((a ^^^ c) &&& (b ^^^ c)) = z3 at *
    generalize (a ^^^ b) = z4 at *
    generalize (a ^^^ c) = z5 at *
    generalize (b ^^^ c) = z6 at *
    omega
theorem bv_add3 (x y z : BitVec 32) : x + y + z = (x ^^^ y ^^^ z) + ((((x ^^^ z) &&& (y ^^^ z)) ^^^ z) <<< 1) := by
  apply BitVec.eq_of_toNat_eq
  have h := nat_add3 32 x.toNat y.toNat z.toNat x.isLt y.isLt z.isLt
  rw [BitVec.toNat_add, BitVec.toNat_add, BitVec.toNat_add, BitVec.toNat_shiftLeft, BitVec.toNat_xor, BitVec.toNat_xor, BitVec.toNat_xor, BitVec.toNat_and, BitVec.toNat_xor, BitVec.toNat_xor]
  rw [Nat.shiftLeft_eq]
  omega
