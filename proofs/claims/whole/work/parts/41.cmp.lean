/-! the comparison on opened words: halves, carries, borrows -/
def rh (n : Nat) (x : Int64) : Int64 := (x <<< ((nI n).toInt64 &&& 63)) &&& ((((1 : Int64) <<< ((nI n).toInt64 &&& 63)) - 1) <<< ((nI 32).toInt64 &&& 63) ^^^ (-1))
abbrev rhK (n : Nat) : Int64 := (((1 : Int64) <<< ((nI n).toInt64 &&& 63)) - 1) <<< ((nI 32).toInt64 &&& 63) ^^^ (-1)
theorem rhK_1 : ∀ i, i < 64 → bL (rhK 1) i = !(decide (32 ≤ i) && decide (i < 32 + 1)) := by decide +kernel
theorem rhK_2 : ∀ i, i < 64 → bL (rhK 2) i = !(decide (32 ≤ i) && decide (i < 32 + 2)) := by decide +kernel
theorem rhK_4 : ∀ i, i < 64 → bL (rhK 4) i = !(decide (32 ≤ i) && decide (i < 32 + 4)) := by decide +kernel
theorem rhK_8 : ∀ i, i < 64 → bL (rhK 8) i = !(decide (32 ≤ i) && decide (i < 32 + 8)) := by decide +kernel
theorem rhK_16 : ∀ i, i < 64 → bL (rhK 16) i = !(decide (32 ≤ i) && decide (i < 32 + 16)) := by decide +kernel
def rOk (n : Nat) : Prop := 0 < n ∧ n ≤ 16 ∧ ∀ i, i < 64 → bL (rhK n) i = !(decide (32 ≤ i) && decide (i < 32 + n))
theorem rOk_1 : rOk 1 := ⟨by omega, by omega, rhK_1⟩
theorem rOk_2 : rOk 2 := ⟨by omega, by omega, rhK_2⟩
theorem rOk_4 : rOk 4 := ⟨by omega, by omega, rhK_4⟩
theorem rOk_8 : rOk 8 := ⟨by omega, by omega, rhK_8⟩
theorem rOk_16 : rOk 16 := ⟨by omega, by omega, rhK_16⟩
theorem rh_bit {n h j : Nat} (hn : rOk n) (hh : h = 0 ∨ h = 32) (hj : j < 32) (x : Int64) : bL (rh n x) (h + j) = (decide (n ≤ j) && bL x (h + (j - n))) := by
  obtain ⟨h0, h1, hk⟩ := hn
  have e : rh n x = (x <<< ((nI n).toInt64 &&& 63)) &&& rhK n := rfl
  rw [e, bL_and, bL_shl n (by omega) x (by omega), hk (h + j) (by omega)]
  rcases hh with rfl | rfl
  · have a1 : decide (32 ≤ 0 + j) = false := decide_eq_false (by omega)
    rw [a1, Nat.zero_add, Nat.zero_add]
    simp
  · have a1 : decide (32 ≤ 32 + j) = true := decide_eq_true (by omega)
    have a2 : decide (n ≤ 32 + j) = true := decide_eq_true (by omega)
    rw [a1, a2]
    rcases Nat.lt_or_ge j n with q | q
    · rw [show decide (32 + j < 32 + n) = true from decide_eq_true (by omega), show decide (n ≤ j) = false from decide_eq_false (by omega)]
      simp
    · rw [show decide (32 + j < 32 + n) = false from decide_eq_false (by omega), show decide (n ≤ j) = true from decide_eq_true (by omega), show 32 + j - n = 32 + (j - n) by omega]
      simp
/-- made and passed on within r places, in both halves -/
def ksOk (g p : Nat → Nat → Bool) (r : Nat) (M P : Int64) : Prop := ∀ h j, (h = 0 ∨ h = 32) → j < 32 → bL M (h + j) = ksW (g h) (p h) r j ∧ bL P (h + j) = ksP (p h) r j
theorem ksOk_made {g p : Nat → Nat → Bool} {r : Nat} {M P : Int64} (hr : rOk r) (hg : ∀ h i, g h i = true → p h i = false) (hk : ksOk g p r M P) {h j : Nat} (hh : h = 0 ∨ h = 32) (hj : j < 32) : bL (M ^^^ (P &&& rh r M)) (h + j) = ksW (g h) (p h) (r + r) j := by
  obtain ⟨a1, a2⟩ := hk h j hh hj
  rw [bL_xor, bL_and, rh_bit hr hh hj, a1, a2, (hk h (j - r) hh (by omega)).1, ks_two (hg h) r hr.1 j]
theorem ksOk_two {g p : Nat → Nat → Bool} {r : Nat} {M P : Int64} (hr : rOk r) (hg : ∀ h i, g h i = true → p h i = false) (hk : ksOk g p r M P) : ksOk g p (r + r) (M ^^^ (P &&& rh r M)) (P &&& rh r P) := by
  intro h j hh hj
  refine ⟨ksOk_made hr hg hk hh hj, ?_⟩
  obtain ⟨a1, a2⟩ := hk h j hh hj
  rw [bL_and, rh_bit hr hh hj, a2, (hk h (j - r) hh (by omega)).2, ks_twoP r hr.1 j]
/-- the half of a word -/
def hv (h : Nat) (x : Int64) : BitVec 32 := x.toBitVec.extractLsb' h 32
theorem hv_bit (h : Nat) (x : Int64) {j : Nat} (hj : j < 32) : (hv h x).getLsbD j = bL x (h + j) := by
  unfold hv bL
  rw [BitVec.getLsbD_extractLsb']
  simp [hj]
def cS (w0 w1 w2 : Int64) : Int64 := w0 ^^^ w1 ^^^ w2
def cM (w0 w1 w2 : Int64) : Int64 := rh 1 (((w0 ^^^ w2) &&& (w1 ^^^ w2)) ^^^ w2)
theorem hv_xor (h : Nat) (x y : Int64) : hv h (x ^^^ y) = hv h x ^^^ hv h y := by
  apply BitVec.eq_of_getLsbD_eq
  intro j hj
  rw [BitVec.getLsbD_xor, hv_bit h _ hj, hv_bit h _ hj, hv_bit h _ hj, bL_xor]
theorem hv_and (h : Nat) (x y : Int64) : hv h (x &&& y) = hv h x &&& hv h y := by
  apply BitVec.eq_of_getLsbD_eq
  intro j hj
  rw [BitVec.getLsbD_and, hv_bit h _ hj, hv_bit h _ hj, hv_bit h _ hj, bL_and]
theorem hv_rh1 {h : Nat} (hh : h = 0 ∨ h = 32) (x : Int64) : hv h (rh 1 x) = hv h x <<< 1 := by
  apply BitVec.eq_of_getLsbD_eq
  intro j hj
  rw [hv_bit h _ hj, rh_bit rOk_1 hh hj, BitVec.getLsbD_shiftLeft]
  cases j with
  | zero => simp
  | succ j =>
    have : (hv h x).getLsbD j = bL x (h + j) := hv_bit h x (by omega)
    simp [this, hj]
/-- the sum of the three parts, in both halves -/
theorem c_sum {w0 w1 w2 M1 M2 M3 M4 M5 P2 P3 P4 P5 : Int64} (e1 : M1 = cS w0 w1 w2 &&& cM w0 w1 w2) (e2 : M2 = M1 ^^^ ((cS w0 w1 w2 ^^^ cM w0 w1 w2) &&& rh 1 M1)) (f2 : P2 = (cS w0 w1 w2 ^^^ cM w0 w1 w2) &&& rh 1 (cS w0 w1 w2 ^^^ cM w0 w1 w2)) (e3 : M3 = M2 ^^^ (P2 &&& rh 2 M2)) (f3 : P3 = P2 &&& rh 2 P2) (e4 : M4 = M3 ^^^ (P3 &&& rh 4 M3)) (f4 : P4 = P3 &&& rh 4 P3) (e5 : M5 = M4 ^^^ (P4 &&& rh 8 M4)) (f5 : P5 = P4 &&& rh 8 P4)
    {h : Nat} (hh : h = 0 ∨ h = 32) : hv h ((cS w0 w1 w2 ^^^ cM w0 w1 w2) ^^^ rh 1 (M5 ^^^ (P5 &&& rh 16 M5))) = hv h w0 + hv h w1 + hv h w2 := by
  have k1 : ksOk (fun h j => (hv h (cS w0 w1 w2)).getLsbD j && (hv h (cM w0 w1 w2)).getLsbD j) (fun h j => (hv h (cS w0 w1 w2)).getLsbD j ^^ (hv h (cM w0 w1 w2)).getLsbD j) 1 M1 (cS w0 w1 w2 ^^^ cM w0 w1 w2) := by
    intro h j hh hj
    rw [ksW_1, ksP_1]
    show bL M1 (h + j) = ((hv h (cS w0 w1 w2)).getLsbD j && (hv h (cM w0 w1 w2)).getLsbD j) ∧ bL (cS w0 w1 w2 ^^^ cM w0 w1 w2) (h + j) = ((hv h (cS w0 w1 w2)).getLsbD j ^^ (hv h (cM w0 w1 w2)).getLsbD j)
    rw [hv_bit h _ hj, hv_bit h _ hj, e1, bL_and, bL_xor]
    exact ⟨rfl, rfl⟩
  have hg : ∀ h i, (fun h j => (hv h (cS w0 w1 w2)).getLsbD j && (hv h (cM w0 w1 w2)).getLsbD j) h i = true → (fun h j => (hv h (cS w0 w1 w2)).getLsbD j ^^ (hv h (cM w0 w1 w2)).getLsbD j) h i = false := by
    intro h i
    show ((hv h (cS w0 w1 w2)).getLsbD i && (hv h (cM w0 w1 w2)).getLsbD i) = true → ((hv h (cS w0 w1 w2)).getLsbD i ^^ (hv h (cM w0 w1 w2)).getLsbD i) = false
    cases (hv h (cS w0 w1 w2)).getLsbD i <;> cases (hv h (cM w0 w1 w2)).getLsbD i <;> simp
  have k2 := ksOk_two rOk_1 hg k1
  rw [← e2, ← f2] at k2
  have k3 := ksOk_two rOk_2 hg k2
  rw [← e3, ← f3] at k3
  have k4 := ksOk_two rOk_4 hg k3
  rw [← e4, ← f4] at k4
  have k5 := ksOk_two rOk_8 hg k4
  rw [← e5, ← f5] at k5
  have hs : hv h w0 + hv h w1 + hv h w2 = hv h (cS w0 w1 w2) + hv h (cM w0 w1 w2) := by
    rw [bv_add3]
    unfold cS cM
    rw [hv_rh1 hh, hv_xor, hv_xor, hv_xor, hv_and, hv_xor, hv_xor]
  rw [hs]
  apply BitVec.eq_of_getLsbD_eq
  intro j hj
  rw [hv_bit h _ hj, bL_xor, rh_bit rOk_1 hh hj, ksOk_made rOk_16 hg k5 hh (by omega), ks_sum _ _ hj, ← hv_bit h _ hj, hv_xor, BitVec.getLsbD_xor]
/-- the borrow of a difference -/
def dh (x : Int64) : Int64 := (x.toUInt64 >>> ((nI 32).toInt64.toUInt64 &&& Int64.toUInt64 63)).toInt64 ||| (x &&& (-4294967296))
def cB (n : Nat) (x : Int64) : Int64 := (x &&& 4294967295) ^^^ (dh x &&& rh n x)
theorem dh_bit {h j : Nat} (hh : h = 0 ∨ h = 32) (hj : j < 32) (x : Int64) : bL (dh x) (h + j) = bL x (32 + j) := by
  unfold dh
  have hm : ∀ i, i < 64 → bL (-4294967296) i = decide (32 ≤ i) := by decide +kernel
  rw [bL_or, bL_ushr 32 (by omega), bL_and, hm (h + j) (by omega)]
  rcases hh with rfl | rfl
  · rw [Nat.zero_add, show decide (32 ≤ j) = false from decide_eq_false (by omega)]
    simp
  · rw [bL_big (show 64 ≤ 32 + (32 + j) by omega), show decide (32 ≤ 32 + j) = true from decide_eq_true (by omega)]
    simp
def cBok (g p : Nat → Bool) (r : Nat) (x : Int64) : Prop := ∀ j, j < 32 → bL x j = ksW g p r j ∧ bL x (32 + j) = ksP p r j
theorem cB_ok {g p : Nat → Bool} {r : Nat} {x : Int64} (hr : rOk r) (hg : ∀ i, g i = true → p i = false) (hk : cBok g p r x) : cBok g p (r + r) (cB r x) := by
  intro j hj
  have r0 := rh_bit hr (Or.inl rfl) hj x
  have r1 := rh_bit hr (Or.inr rfl) hj x
  have d0 := dh_bit (Or.inl rfl) hj x
  have d1 := dh_bit (Or.inr rfl) hj x
  rw [Nat.zero_add] at r0 d0
  rw [Nat.zero_add] at r0
  unfold cB
  refine ⟨?_, ?_⟩
  · rw [bL_xor, bL_and, bL_and, bL_lo, d0, r0, (hk j hj).1, (hk j hj).2, (hk (j - r) (by omega)).1, ks_two hg r hr.1 j]
    simp [hj]
  · rw [bL_xor, bL_and, bL_and, bL_lo, d1, r1, (hk j hj).2, (hk (j - r) (by omega)).2, ks_twoP r hr.1 j, show decide (32 + j < 32) = false from decide_eq_false (by omega)]
    simp
theorem c_less {W B1 : Int64} (e : B1 = ((((W &&& 4294967295) ^^^ 4294967295) &&& (W.toUInt64 >>> ((nI 32).toInt64.toUInt64 &&& Int64.toUInt64 63)).toInt64) &&& 4294967295) ||| ((((W &&& 4294967295) ^^^ (W.toUInt64 >>> ((nI 32).toInt64.toUInt64 &&& Int64.toUInt64 63)).toInt64) ^^^ 4294967295) <<< ((nI 32).toInt64 &&& 63))) :
    bL (cB 16 (cB 8 (cB 4 (cB 2 (cB 1 B1))))) 31 = (hv 0 W).ult (hv 32 W) := by
  have k1 : cBok (fun j => !(hv 0 W).getLsbD j && (hv 32 W).getLsbD j) (fun j => !((hv 0 W).getLsbD j ^^ (hv 32 W).getLsbD j)) 1 B1 := by
    intro j hj
    have a0 : (hv 0 W).getLsbD j = bL W j := by rw [hv_bit 0 _ hj, Nat.zero_add]
    rw [ksW_1, ksP_1]
    show bL B1 j = (!(hv 0 W).getLsbD j && (hv 32 W).getLsbD j) ∧ bL B1 (32 + j) = !((hv 0 W).getLsbD j ^^ (hv 32 W).getLsbD j)
    rw [a0, hv_bit 32 _ hj, e]
    refine ⟨?_, ?_⟩
    · simp only [bL_or, bL_and, bL_xor, bL_lo, bL_ushr 32 (show 32 < 64 by omega), bL_shl 32 (show 32 < 64 by omega) _ (show j < 64 by omega)]
      simp [hj, show ¬ 32 ≤ j by omega]
    · rw [bL_or, bL_shl 32 (by omega) _ (by omega), show 32 + j - 32 = j by omega]
      simp only [bL_and, bL_xor, bL_lo, bL_ushr 32 (show 32 < 64 by omega), show decide (32 + j < 32) = false from decide_eq_false (by omega)]
      simp [hj]
  have hg : ∀ i, (fun j => !(hv 0 W).getLsbD j && (hv 32 W).getLsbD j) i = true → (fun j => !((hv 0 W).getLsbD j ^^ (hv 32 W).getLsbD j)) i = false := by
    intro i
    show (!(hv 0 W).getLsbD i && (hv 32 W).getLsbD i) = true → (!((hv 0 W).getLsbD i ^^ (hv 32 W).getLsbD i)) = false
    cases (hv 0 W).getLsbD i <;> cases (hv 32 W).getLsbD i <;> simp
  have k5 := cB_ok rOk_16 hg (cB_ok rOk_8 hg (cB_ok rOk_4 hg (cB_ok rOk_2 hg (cB_ok rOk_1 hg k1))))
  rw [(k5 31 (by omega)).1]
  exact ks_ult _ _
theorem mul3 (a b c x y z r0 r1 r2 : Int64) : (a * (x + y) + b * x + (r0 - r1)) + (b * (y + z) + c * y + (r1 - r2)) + (c * (z + x) + a * z + (r2 - r0)) = (a + b + c) * (x + y + z) := by grind
theorem and3 (a b c x y z r0 r1 r2 : Int64) : ((a &&& (x ^^^ y)) ^^^ (b &&& x) ^^^ (r0 ^^^ r1)) ^^^ ((b &&& (y ^^^ z)) ^^^ (c &&& y) ^^^ (r1 ^^^ r2)) ^^^ ((c &&& (z ^^^ x)) ^^^ (a &&& z) ^^^ (r2 ^^^ r0)) = (a ^^^ b ^^^ c) &&& (x ^^^ y ^^^ z) := by
  apply bL_ext
  intro i _
  simp only [bL_xor, bL_and]
  cases bL a i <;> cases bL b i <;> cases bL c i <;> cases bL x i <;> cases bL y i <;> cases bL z i <;> cases bL r0 i <;> cases bL r1 i <;> cases bL r2 i <;> rfl
