/-! what three parts are together: as a sum, as bits -/
def sm (t : T3) : Int64 := t.1 + t.2.1 + t.2.2
def xr (t : T3) : Int64 := t.1 ^^^ t.2.1 ^^^ t.2.2
theorem xr_xor (a b : T3) : xr (tXor a b) = xr a ^^^ xr b := by
  apply bL_ext
  intro i _
  simp only [xr, tXor, bL_xor]
  cases bL a.1 i <;> cases bL a.2.1 i <;> cases bL a.2.2 i <;> cases bL b.1 i <;> cases bL b.2.1 i <;> cases bL b.2.2 i <;> rfl
theorem xr_and (a : T3) (m : Int64) : xr (tAnd a m) = xr a &&& m := by
  apply bL_ext
  intro i _
  simp only [xr, tAnd, bL_xor, bL_and]
  cases bL a.1 i <;> cases bL a.2.1 i <;> cases bL a.2.2 i <;> cases bL m i <;> rfl
theorem xr_flip (a : T3) (m : Int64) : xr (tFlip a m) = xr a ^^^ m := by
  apply bL_ext
  intro i _
  simp only [xr, tFlip, bL_xor]
  cases bL a.1 i <;> cases bL a.2.1 i <;> cases bL a.2.2 i <;> cases bL m i <;> rfl
theorem xr_map {f : Int64 → Int64} (hf : ∀ x y, f (x ^^^ y) = f x ^^^ f y) (a : T3) : xr (tMap f a) = f (xr a) := by
  unfold xr tMap
  rw [hf, hf]
theorem jsl_xor (n : Int32) (x y : Int64) : jsl (x ^^^ y) n = jsl x n ^^^ jsl y n := by
  apply Int64.toBitVec_inj.mp
  unfold jsl
  rw [Int64.toBitVec_xor, Int64.toBitVec_shiftLeft, Int64.toBitVec_shiftLeft, Int64.toBitVec_shiftLeft, Int64.toBitVec_xor]
  exact BitVec.shiftLeft_xor_distrib _ _ _
theorem jus_xor (n : Int32) (x y : Int64) : jus (x ^^^ y) n = jus x n ^^^ jus y n := by
  apply Int64.toBitVec_inj.mp
  unfold jus
  rw [Int64.toBitVec_xor]
  show ((x ^^^ y).toUInt64 >>> _).toBitVec = (x.toUInt64 >>> _).toBitVec ^^^ (y.toUInt64 >>> _).toBitVec
  rw [UInt64.toBitVec_shiftRight, UInt64.toBitVec_shiftRight, UInt64.toBitVec_shiftRight]
  exact BitVec.ushiftRight_xor_distrib _ _ _
theorem and_xor (x y m : Int64) : (x ^^^ y) &&& m = (x &&& m) ^^^ (y &&& m) := by
  apply bL_ext
  intro i _
  simp only [bL_xor, bL_and]
  cases bL x i <;> cases bL y i <;> cases bL m i <;> rfl
theorem rhI_xor (n : Int32) (x y : Int64) : rhI n (x ^^^ y) = rhI n x ^^^ rhI n y := by
  unfold rhI
  rw [jsl_xor, and_xor]
theorem jus32_bit (x : Int64) (i : Nat) : bL (jus x 32) i = bL x (32 + i) := bL_ushr 32 (by omega) x i
theorem jsl32_bit (x : Int64) {i : Nat} (hi : i < 64) : bL (jsl x 32) i = (decide (32 ≤ i) && bL x (i - 32)) := bL_shl 32 (by omega) x hi
theorem dhI_xor (x y : Int64) : dhI (x ^^^ y) = dhI x ^^^ dhI y := by
  apply bL_ext
  intro i hi
  have hm : ∀ i, i < 64 → bL (-4294967296) i = decide (32 ≤ i) := by decide +kernel
  unfold dhI
  simp only [bL_or, bL_and, bL_xor, jus32_bit, hm i hi]
  by_cases q : 32 ≤ i
  · rw [bL_big (x := x) (show 64 ≤ 32 + i by omega), bL_big (x := y) (show 64 ≤ 32 + i by omega)]
    simp [q]
  · simp [q]
theorem hvs_xor (a b x y : Int64) : hvs (a ^^^ b) (x ^^^ y) = hvs a x ^^^ hvs b y := by
  apply bL_ext
  intro i hi
  unfold hvs
  simp only [bL_or, bL_and, bL_xor, bL_lo, jsl32_bit _ hi]
  by_cases q : 32 ≤ i
  · simp [q, show ¬ i < 32 by omega]
  · simp [q, show i < 32 by omega]
theorem xr_hv (a b : T3) : xr (tHv a b) = hvs (xr a) (xr b) := by
  unfold xr tHv
  rw [hvs_xor, hvs_xor]
theorem xr_con {px : Nat → Int32 → Int64} {r0 r1 r2 : Int64} {n : Int32} (h0 : px 0 n = r0 ^^^ r1) (h1 : px 1 n = r1 ^^^ r2) (h2 : px 2 n = r2 ^^^ r0) (L R : T3) : xr (sCon px n L R) = xr L &&& xr R := by
  unfold xr sCon
  rw [h0, h1, h2]
  exact and3 L.1 L.2.1 L.2.2 R.1 R.2.1 R.2.2 r0 r1 r2
theorem sm_mul {pd : Nat → Int32 → Int64} {r0 r1 r2 : Int64} {n : Int32} (h0 : pd 0 n = r0 - r1) (h1 : pd 1 n = r1 - r2) (h2 : pd 2 n = r2 - r0) (L R : T3) : sm (sMul pd n L R) = sm L * sm R := by
  unfold sm sMul
  rw [h0, h1, h2]
  exact mul3 L.1 L.2.1 L.2.2 R.1 R.2.1 R.2.2 r0 r1 r2
theorem sm_add (a b : T3) (t : Int64) : sm (tAdd a b t) = sm a + t * sm b := by
  unfold sm tAdd
  grind
theorem sm_known (n : Int64) : sm (tKnown n) = n := by
  unfold sm tKnown
  grind
