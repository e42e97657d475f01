/-! Math.floorMod by a number above 0 -/
theorem fm_bmod (x : Int) (h1 : -2147483648 ≤ x) (h2 : x < 2147483648) : Int.bmod x 4294967296 = x := by
  rw [Int.bmod_def]
  split <;> omega
theorem fm_rem (a : Int32) (C : Nat) (hC : 0 < C) (hC2 : C < 2 ^ 31) : (a - a / nI C * nI C).toInt = a.toInt.tmod C := by
  have hc : (nI C).toInt = (C : Int) := nI_toInt hC2
  have ha1 := Int32.le_toInt a
  have ha2 := Int32.toInt_lt a
  have hdm : (C : Int) * a.toInt.tdiv C + a.toInt.tmod C = a.toInt := Int.mul_tdiv_add_tmod a.toInt C
  have hm1 : a.toInt.tmod C < C := Int.tmod_lt_of_pos _ (by omega)
  have hm2 : -(C : Int) < a.toInt.tmod C := by
    have h := Int.tmod_lt_of_pos (-a.toInt) (b := (C : Int)) (by omega)
    rw [Int.neg_tmod] at h
    omega
  have hq : (a / nI C).toInt = a.toInt.tdiv C := by
    rw [Int32.toInt_div, hc]
    apply fm_bmod
    · rcases Int.le_total 0 a.toInt with h | h
      · have := Int.tdiv_nonneg h (show (0 : Int) ≤ C by omega)
        omega
      · have h3 : a.toInt ≤ a.toInt.tdiv C := by
          have h4 := Int.tdiv_le_self (a := -a.toInt) (C : Int) (by omega)
          rw [Int.neg_tdiv] at h4
          omega
        omega
    · rcases Int.le_total 0 a.toInt with h | h
      · have := Int.tdiv_le_self (a := a.toInt) (C : Int) h
        omega
      · have h4 := Int.tdiv_nonneg (a := -a.toInt) (b := (C : Int)) (by omega) (by omega)
        rw [Int.neg_tdiv] at h4
        omega
  have hp : (a.toInt.tdiv C * C : Int) = a.toInt - a.toInt.tmod C := by rw [Int.mul_comm]; omega
  have hsg : (0 ≤ a.toInt → 0 ≤ a.toInt.tmod C) ∧ (a.toInt ≤ 0 → a.toInt.tmod C ≤ 0) := by
    refine ⟨fun h => Int.tmod_nonneg _ h, fun h => ?_⟩
    have := Int.tmod_nonneg (a := -a.toInt) (C : Int) (by omega)
    rw [Int.neg_tmod] at this
    omega
  have hle : (0 ≤ a.toInt → a.toInt.tmod C ≤ a.toInt) ∧ (a.toInt ≤ 0 → a.toInt ≤ a.toInt.tmod C) := by
    refine ⟨fun h => ?_, fun h => ?_⟩
    · have := Int.mul_nonneg (Int.tdiv_nonneg h (show (0 : Int) ≤ C by omega)) (show (0 : Int) ≤ C by omega)
      omega
    · have h4 := Int.tdiv_nonneg (a := -a.toInt) (b := (C : Int)) (by omega) (by omega)
      rw [Int.neg_tdiv] at h4
      have h5 := Int.mul_nonneg h4 (show (0 : Int) ≤ C by omega)
      rw [Int.neg_mul] at h5
      omega
  have hmul : (a / nI C * nI C).toInt = a.toInt - a.toInt.tmod C := by
    rw [Int32.toInt_mul, hq, hc, hp]
    apply fm_bmod
    · rcases Int.le_total 0 a.toInt with h | h
      · have := hle.1 h; omega
      · have := hsg.2 h; omega
    · rcases Int.le_total 0 a.toInt with h | h
      · have := hsg.1 h; omega
      · have := hle.2 h; omega
  rw [Int32.toInt_sub, hmul]
  have e : a.toInt - (a.toInt - a.toInt.tmod C) = a.toInt.tmod C := by omega
  rw [e]
  exact fm_bmod _ (by omega) (by omega)
theorem fm_sign (a c : Int32) (hc : 0 ≤ c) : 0 ≤ (a ^^^ c) ↔ 0 ≤ a := by
  have m : ∀ x : Int32, 0 ≤ x ↔ x.toBitVec.msb = false := by
    intro x
    rw [Int32.le_iff_toInt_le, BitVec.msb_eq_toInt]
    show (0 : Int32).toInt ≤ x.toInt ↔ decide (x.toInt < 0) = false
    have e : (0 : Int32).toInt = 0 := by decide
    rw [e]
    simp
  rw [m, m, Int32.toBitVec_xor, BitVec.msb_xor, (m c).mp hc]
  simp
theorem fm_in (a : Int32) (C : Nat) (hC : 0 < C) (hC2 : C < 2 ^ 30) : ∃ X, X < C ∧ o_JMath_floorMod_r a (nI C) = nI X := by
  have hr := fm_rem a C hC (by omega)
  have hm1 : a.toInt.tmod C < C := Int.tmod_lt_of_pos _ (by omega)
  have hm2 : -(C : Int) < a.toInt.tmod C := by
    have h := Int.tmod_lt_of_pos (-a.toInt) (b := (C : Int)) (by omega)
    rw [Int.neg_tmod] at h
    omega
  have e0 : (0 : Int32).toInt = 0 := by decide
  unfold o_JMath_floorMod_r
  by_cases hs : 0 ≤ (a ^^^ nI C)
  · rw [if_pos hs]
    have ha := (fm_sign a (nI C) (nI_pos' (by omega))).mp hs
    rw [Int32.le_iff_toInt_le, e0] at ha
    have h0 : 0 ≤ a.toInt.tmod C := Int.tmod_nonneg _ ha
    refine ⟨(a.toInt.tmod C).toNat, by omega, ?_⟩
    apply Int32.toInt_inj.mp
    rw [hr, nI_toInt (by omega)]
    omega
  · rw [if_neg hs]
    have ha : ¬ 0 ≤ a := fun h => hs ((fm_sign a (nI C) (nI_pos' (by omega))).mpr h)
    rw [Int32.le_iff_toInt_le, e0] at ha
    have h0 : a.toInt.tmod C ≤ 0 := by
      have := Int.tmod_nonneg (a := -a.toInt) (C : Int) (by omega)
      rw [Int.neg_tmod] at this
      omega
    by_cases hz : (a - a / nI C * nI C) = 0
    · rw [if_pos hz]
      exact ⟨0, hC, by rw [hz, nI_0]⟩
    · rw [if_neg hz]
      have hnz : a.toInt.tmod C ≠ 0 := fun h => hz (Int32.toInt_inj.mp (by rw [hr, h, e0]))
      refine ⟨(a.toInt.tmod C + C).toNat, by omega, ?_⟩
      apply Int32.toInt_inj.mp
      rw [Int32.toInt_add, hr, nI_toInt (by omega), nI_toInt (by omega), fm_bmod _ (by omega) (by omega)]
      omega
