/-! the seventeen "and"s of a comparison -/
abbrev Cm3 : Type := T3 × T3 × T3 × Int32 × Int32
theorem xr_d1 (W : T3) : xr (tD1 W) = W.1 ^^^ W.2.2 := by
  apply bL_ext
  intro i _
  simp only [xr, tD1, bL_xor, bL_0]
  cases bL W.1 i <;> cases bL W.2.2 i <;> rfl
theorem xr_d0 (W : T3) : xr (tD0 W) = W.2.1 ^^^ W.2.2 := by
  apply bL_ext
  intro i _
  simp only [xr, tD0, bL_xor, bL_0]
  cases bL W.2.1 i <;> cases bL W.2.2 i <;> rfl
theorem xr_k2 (W : T3) : xr (tK2 W) = W.2.2 := by
  apply bL_ext
  intro i _
  simp only [xr, tK2, bL_xor, bL_0]
  cases bL W.2.2 i <;> rfl
theorem xorC (x y : Int64) : x ^^^ y = y ^^^ x := by
  apply bL_ext
  intro i _
  simp only [bL_xor]
  cases bL x i <;> cases bL y i <;> rfl
set_option maxHeartbeats 2000000 in
theorem cm_run {X Y M0 Q0 : T3} {cr0 : Int32} {P : Nat → T3} {cm : Nat → Cm3} (h0 : cm 0 = (tHv X Y, M0, Q0, 0, cr0)) (hs : ∀ k, k < 17 → cm (k + 1) = sAcc (P k) (cm k)) (hp : ∀ k, k < 17 → xr (P k) = xr (sAsk (cm k)).1 &&& xr (sAsk (cm k)).2) :
    (cm 17).2.2.2.1 = 6 ∧ (∀ k, k < 17 → (cm k).2.2.2.1 ≠ 6) ∧ bL (xr (cm 17).1) 31 = (hv 0 X.1 + hv 0 X.2.1 + hv 0 X.2.2).ult (hv 0 Y.1 + hv 0 Y.2.1 + hv 0 Y.2.2) := by
  obtain ⟨W, hW⟩ : ∃ W, W = tHv X Y := ⟨_, rfl⟩
  rw [← hW] at h0
  have c1 : cm 1 = (W, tMap (rhI 1) (tXor (tK2 W) (P 0)), tXor W (tMap (rhI 1) (tXor (tK2 W) (P 0))), 1, cr0) := by
    rw [hs 0 (by omega), h0]; rfl
  have p0 := hp 0 (by omega)
  rw [h0] at p0
  have p0 : xr (P 0) = xr (tD1 W) &&& xr (tD0 W) := p0
  obtain ⟨M1, hM1⟩ : ∃ M, M = tMap (rhI 1) (tXor (tK2 W) (P 0)) := ⟨_, rfl⟩
  rw [← hM1] at c1
  obtain ⟨Q1, hQ1⟩ : ∃ Q, Q = tXor W M1 := ⟨_, rfl⟩
  rw [← hQ1] at c1
  have c2 : cm 2 = (Q1, P 1, Q1, 2, 1) := by rw [hs 1 (by omega), c1]; rfl
  have p1 := hp 1 (by omega)
  rw [c1] at p1
  have p1 : xr (P 1) = xr W &&& xr M1 := p1
  have c3 : cm 3 = (Q1, tXor (P 1) (P 2), Q1, 3, 1) := by rw [hs 2 (by omega), c2]; rfl
  have p2 := hp 2 (by omega)
  rw [c2] at p2
  have p2 : xr (P 2) = xr Q1 &&& xr (tMap (rhI 1) (P 1)) := p2
  have c4 : cm 4 = (Q1, tXor (P 1) (P 2), P 3, 2, 2) := by rw [hs 3 (by omega), c3]; rfl
  have p3 := hp 3 (by omega)
  rw [c3] at p3
  have p3 : xr (P 3) = xr Q1 &&& xr (tMap (rhI 1) Q1) := p3
  obtain ⟨M2, hM2⟩ : ∃ M, M = tXor (P 1) (P 2) := ⟨_, rfl⟩
  rw [← hM2] at c4
  have c5 : cm 5 = (Q1, tXor M2 (P 4), P 3, 3, 2) := by rw [hs 4 (by omega), c4]; rfl
  have p4 := hp 4 (by omega)
  rw [c4] at p4
  have p4 : xr (P 4) = xr (P 3) &&& xr (tMap (rhI 2) M2) := p4
  have c6 : cm 6 = (Q1, tXor M2 (P 4), P 5, 2, 4) := by rw [hs 5 (by omega), c5]; rfl
  have p5 := hp 5 (by omega)
  rw [c5] at p5
  have p5 : xr (P 5) = xr (P 3) &&& xr (tMap (rhI 2) (P 3)) := p5
  obtain ⟨M3, hM3⟩ : ∃ M, M = tXor M2 (P 4) := ⟨_, rfl⟩
  rw [← hM3] at c6
  have c7 : cm 7 = (Q1, tXor M3 (P 6), P 5, 3, 4) := by rw [hs 6 (by omega), c6]; rfl
  have p6 := hp 6 (by omega)
  rw [c6] at p6
  have p6 : xr (P 6) = xr (P 5) &&& xr (tMap (rhI 4) M3) := p6
  have c8 : cm 8 = (Q1, tXor M3 (P 6), P 7, 2, 8) := by rw [hs 7 (by omega), c7]; rfl
  have p7 := hp 7 (by omega)
  rw [c7] at p7
  have p7 : xr (P 7) = xr (P 5) &&& xr (tMap (rhI 4) (P 5)) := p7
  obtain ⟨M4, hM4⟩ : ∃ M, M = tXor M3 (P 6) := ⟨_, rfl⟩
  rw [← hM4] at c8
  have c9 : cm 9 = (Q1, tXor M4 (P 8), P 7, 3, 8) := by rw [hs 8 (by omega), c8]; rfl
  have p8 := hp 8 (by omega)
  rw [c8] at p8
  have p8 : xr (P 8) = xr (P 7) &&& xr (tMap (rhI 8) M4) := p8
  have c10 : cm 10 = (Q1, tXor M4 (P 8), P 9, 2, 16) := by rw [hs 9 (by omega), c9]; rfl
  have p9 := hp 9 (by omega)
  rw [c9] at p9
  have p9 : xr (P 9) = xr (P 7) &&& xr (tMap (rhI 8) (P 7)) := p9
  obtain ⟨M5, hM5⟩ : ∃ M, M = tXor M4 (P 8) := ⟨_, rfl⟩
  rw [← hM5] at c10
  have c11 : cm 11 = (tXor Q1 (tMap (rhI 1) (tXor M5 (P 10))), tMap (rhI 1) (tXor M5 (P 10)), P 9, 4, 16) := by rw [hs 10 (by omega), c10]; rfl
  have p10 := hp 10 (by omega)
  rw [c10] at p10
  have p10 : xr (P 10) = xr (P 9) &&& xr (tMap (rhI 16) M5) := p10
  obtain ⟨Z, hZ⟩ : ∃ Z, Z = tXor Q1 (tMap (rhI 1) (tXor M5 (P 10))) := ⟨_, rfl⟩
  rw [← hZ] at c11
  obtain ⟨F, hF⟩ : ∃ F, F = tFlip (tXor (tAnd Z 4294967295) (tMap (fun x => jus x 32) Z)) 4294967295 := ⟨_, rfl⟩
  have c12 : cm 12 = (tHv (P 11) F, tMap (fun x => jus x 32) Z, F, 5, 1) := by rw [hs 11 (by omega), c11, hF]; rfl
  have p11 := hp 11 (by omega)
  rw [c11] at p11
  have p11 : xr (P 11) = xr (tFlip (tAnd Z 4294967295) 4294967295) &&& xr (tMap (fun x => jus x 32) Z) := p11
  obtain ⟨U, hU⟩ : ∃ U, U = tMap (fun x => jus x 32) Z := ⟨_, rfl⟩
  rw [← hU] at c12
  obtain ⟨B1, hB1⟩ : ∃ B, B = tHv (P 11) F := ⟨_, rfl⟩
  rw [← hB1] at c12
  have c13 : cm 13 = (tXor (tAnd B1 4294967295) (P 12), U, F, 5, 2) := by rw [hs 12 (by omega), c12]; rfl
  have p12 := hp 12 (by omega)
  rw [c12] at p12
  have p12 : xr (P 12) = xr (tMap dhI B1) &&& xr (tMap (rhI 1) B1) := p12
  obtain ⟨B2, hB2⟩ : ∃ B, B = tXor (tAnd B1 4294967295) (P 12) := ⟨_, rfl⟩
  rw [← hB2] at c13
  have c14 : cm 14 = (tXor (tAnd B2 4294967295) (P 13), U, F, 5, 4) := by rw [hs 13 (by omega), c13]; rfl
  have p13 := hp 13 (by omega)
  rw [c13] at p13
  have p13 : xr (P 13) = xr (tMap dhI B2) &&& xr (tMap (rhI 2) B2) := p13
  obtain ⟨B3, hB3⟩ : ∃ B, B = tXor (tAnd B2 4294967295) (P 13) := ⟨_, rfl⟩
  rw [← hB3] at c14
  have c15 : cm 15 = (tXor (tAnd B3 4294967295) (P 14), U, F, 5, 8) := by rw [hs 14 (by omega), c14]; rfl
  have p14 := hp 14 (by omega)
  rw [c14] at p14
  have p14 : xr (P 14) = xr (tMap dhI B3) &&& xr (tMap (rhI 4) B3) := p14
  obtain ⟨B4, hB4⟩ : ∃ B, B = tXor (tAnd B3 4294967295) (P 14) := ⟨_, rfl⟩
  rw [← hB4] at c15
  have c16 : cm 16 = (tXor (tAnd B4 4294967295) (P 15), U, F, 5, 16) := by rw [hs 15 (by omega), c15]; rfl
  have p15 := hp 15 (by omega)
  rw [c15] at p15
  have p15 : xr (P 15) = xr (tMap dhI B4) &&& xr (tMap (rhI 8) B4) := p15
  obtain ⟨B5, hB5⟩ : ∃ B, B = tXor (tAnd B4 4294967295) (P 15) := ⟨_, rfl⟩
  rw [← hB5] at c16
  have c17 : cm 17 = (tXor (tAnd B5 4294967295) (P 16), U, F, 6, 16) := by rw [hs 16 (by omega), c16]; rfl
  have p16 := hp 16 (by omega)
  rw [c16] at p16
  have p16 : xr (P 16) = xr (tMap dhI B5) &&& xr (tMap (rhI 16) B5) := p16
  refine ⟨by rw [c17], ?_, ?_⟩
  · intro k hk
    have hc : k = 0 ∨ k = 1 ∨ k = 2 ∨ k = 3 ∨ k = 4 ∨ k = 5 ∨ k = 6 ∨ k = 7 ∨ k = 8 ∨ k = 9 ∨ k = 10 ∨ k = 11 ∨ k = 12 ∨ k = 13 ∨ k = 14 ∨ k = 15 ∨ k = 16 := by omega
    rcases hc with rfl | rfl | rfl | rfl | rfl | rfl | rfl | rfl | rfl | rfl | rfl | rfl | rfl | rfl | rfl | rfl | rfl
    · rw [h0]; show (0 : Int32) ≠ 6; decide
    · rw [c1]; show (1 : Int32) ≠ 6; decide
    · rw [c2]; show (2 : Int32) ≠ 6; decide
    · rw [c3]; show (3 : Int32) ≠ 6; decide
    · rw [c4]; show (2 : Int32) ≠ 6; decide
    · rw [c5]; show (3 : Int32) ≠ 6; decide
    · rw [c6]; show (2 : Int32) ≠ 6; decide
    · rw [c7]; show (3 : Int32) ≠ 6; decide
    · rw [c8]; show (2 : Int32) ≠ 6; decide
    · rw [c9]; show (3 : Int32) ≠ 6; decide
    · rw [c10]; show (2 : Int32) ≠ 6; decide
    · rw [c11]; show (4 : Int32) ≠ 6; decide
    · rw [c12]; show (5 : Int32) ≠ 6; decide
    · rw [c13]; show (5 : Int32) ≠ 6; decide
    · rw [c14]; show (5 : Int32) ≠ 6; decide
    · rw [c15]; show (5 : Int32) ≠ 6; decide
    · rw [c16]; show (5 : Int32) ≠ 6; decide
  · have L1 : xr M1 = cM W.1 W.2.1 W.2.2 := by
      rw [hM1, xr_map (rhI_xor 1), xr_xor, p0, xr_k2, xr_d1, xr_d0, xorC]
      rfl
    have LQ : xr Q1 = cS W.1 W.2.1 W.2.2 ^^^ cM W.1 W.2.1 W.2.2 := by
      rw [hQ1, xr_xor, L1]
      rfl
    have e1 : xr (P 1) = cS W.1 W.2.1 W.2.2 &&& cM W.1 W.2.1 W.2.2 := by rw [p1, L1]; rfl
    have e2 : xr M2 = xr (P 1) ^^^ ((cS W.1 W.2.1 W.2.2 ^^^ cM W.1 W.2.1 W.2.2) &&& rh 1 (xr (P 1))) := by rw [hM2, xr_xor, p2, LQ, xr_map (rhI_xor 1)]; rfl
    have f2 : xr (P 3) = (cS W.1 W.2.1 W.2.2 ^^^ cM W.1 W.2.1 W.2.2) &&& rh 1 (cS W.1 W.2.1 W.2.2 ^^^ cM W.1 W.2.1 W.2.2) := by rw [p3, xr_map (rhI_xor 1), LQ]; rfl
    have e3 : xr M3 = xr M2 ^^^ (xr (P 3) &&& rh 2 (xr M2)) := by rw [hM3, xr_xor, p4, xr_map (rhI_xor 2)]; rfl
    have f3 : xr (P 5) = xr (P 3) &&& rh 2 (xr (P 3)) := by rw [p5, xr_map (rhI_xor 2)]; rfl
    have e4 : xr M4 = xr M3 ^^^ (xr (P 5) &&& rh 4 (xr M3)) := by rw [hM4, xr_xor, p6, xr_map (rhI_xor 4)]; rfl
    have f4 : xr (P 7) = xr (P 5) &&& rh 4 (xr (P 5)) := by rw [p7, xr_map (rhI_xor 4)]; rfl
    have e5 : xr M5 = xr M4 ^^^ (xr (P 7) &&& rh 8 (xr M4)) := by rw [hM5, xr_xor, p8, xr_map (rhI_xor 8)]; rfl
    have f5 : xr (P 9) = xr (P 7) &&& rh 8 (xr (P 7)) := by rw [p9, xr_map (rhI_xor 8)]; rfl
    have hZv : xr Z = (cS W.1 W.2.1 W.2.2 ^^^ cM W.1 W.2.1 W.2.2) ^^^ rh 1 (xr M5 ^^^ (xr (P 9) &&& rh 16 (xr M5))) := by
      rw [hZ, xr_xor, LQ, xr_map (rhI_xor 1), xr_xor, p10, xr_map (rhI_xor 16)]
      rfl
    have sum : ∀ h, h = 0 ∨ h = 32 → hv h (xr Z) = hv h W.1 + hv h W.2.1 + hv h W.2.2 := by
      intro h hh
      rw [hZv]
      exact c_sum e1 e2 f2 e3 f3 e4 f4 e5 f5 hh
    have hB1v : xr B1 = ((((xr Z &&& 4294967295) ^^^ 4294967295) &&& (((xr Z).toUInt64 >>> ((nI 32).toInt64.toUInt64 &&& Int64.toUInt64 63)).toInt64)) &&& 4294967295) ||| ((((xr Z &&& 4294967295) ^^^ (((xr Z).toUInt64 >>> ((nI 32).toInt64.toUInt64 &&& Int64.toUInt64 63)).toInt64)) ^^^ 4294967295) <<< ((nI 32).toInt64 &&& 63)) := by
      rw [hB1, xr_hv, p11, xr_flip, xr_and, hF, xr_flip, xr_xor, xr_and, xr_map (jus_xor 32)]
      rfl
    have b2 : xr B2 = cB 1 (xr B1) := by rw [hB2, xr_xor, xr_and, p12, xr_map dhI_xor, xr_map (rhI_xor 1)]; rfl
    have b3 : xr B3 = cB 2 (xr B2) := by rw [hB3, xr_xor, xr_and, p13, xr_map dhI_xor, xr_map (rhI_xor 2)]; rfl
    have b4 : xr B4 = cB 4 (xr B3) := by rw [hB4, xr_xor, xr_and, p14, xr_map dhI_xor, xr_map (rhI_xor 4)]; rfl
    have b5 : xr B5 = cB 8 (xr B4) := by rw [hB5, xr_xor, xr_and, p15, xr_map dhI_xor, xr_map (rhI_xor 8)]; rfl
    have b6 : xr (cm 17).1 = cB 16 (xr B5) := by
      rw [c17]
      show xr (tXor (tAnd B5 4294967295) (P 16)) = _
      rw [xr_xor, xr_and, p16, xr_map dhI_xor, xr_map (rhI_xor 16)]; rfl
    rw [b6, b5, b4, b3, b2, c_less hB1v, sum 0 (Or.inl rfl), sum 32 (Or.inr rfl)]
    have lo : ∀ x y : Int64, hv 0 (hvs x y) = hv 0 x := by
      intro x y
      apply BitVec.eq_of_getLsbD_eq
      intro j hj
      rw [hv_bit 0 _ hj, hv_bit 0 _ hj, Nat.zero_add]
      unfold hvs
      rw [bL_or, bL_and, bL_lo, jsl32_bit _ (by omega)]
      simp [hj, show ¬ 32 ≤ j by omega]
    have hi : ∀ x y : Int64, hv 32 (hvs x y) = hv 0 y := by
      intro x y
      apply BitVec.eq_of_getLsbD_eq
      intro j hj
      rw [hv_bit 32 _ hj, hv_bit 0 _ hj, Nat.zero_add]
      unfold hvs
      rw [bL_or, bL_and, bL_lo, jsl32_bit _ (by omega), show 32 + j - 32 = j by omega, show decide (32 + j < 32) = false from decide_eq_false (by omega)]
      simp
    rw [hW]
    show (hv 0 (hvs X.1 Y.1) + hv 0 (hvs X.2.1 Y.2.1) + hv 0 (hvs X.2.2 Y.2.2)).ult (hv 32 (hvs X.1 Y.1) + hv 32 (hvs X.2.1 Y.2.1) + hv 32 (hvs X.2.2 Y.2.2)) = _
    rw [lo, lo, lo, hi, hi, hi]
