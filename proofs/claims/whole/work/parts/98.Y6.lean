/-! the readers: sort, sums, what is shown; a statement -/
theorem nam_tie {f : Nat → Int32} {L : Nat} {K B W : Nat → Int32} {k p : Nat} {fd : Nat → Int32} {fr : Nat} {cm op : Int32} (hL : L ≤ 120) (hf : ∀ j, j < L → ¬ f j < 0 ∧ ¬ 126 < f j) (hA : At f L K B W k p) (hfr : fr ≤ 60) (st st' : Int32) (h16 : ¬ st' = 16) (hN : ∀ m b e a, mNxt f m b e a fd fr cm op st = ((mNam f m b e a fd fr cm op st').1, (mNam f m b e a fd fr cm op st').2, nI fr, cm, op)) :
    (isT K (nI k) 1 = 0 ∧ (mRG f L (L + 1) p st fd fr cm op).1 = B k) ∨ (¬ isT K (nI k) 1 = 0 ∧ ∃ e r, r < 26 ∧ W k = nI r ∧ p < e ∧ e ≤ L ∧ At f L K B W (k + 1) e ∧ mRG f L (L + 1) p st fd fr cm op = mRG f L (L + 1) e st' (upd fd (6 * fr + 1) (nI r)) fr cm op) := by
  have hkp := hA.kp
  have hk : k < 1000 := by omega
  obtain ⟨m, b, e, a, s, hpb, hbL, hB, hc⟩ := tk8 hL hf hA
  have e1 : (6 * nI fr + (1 : Int32)).toNatClampNeg = 6 * fr + 1 := ix6 (kk := 1) hfr (by decide)
  have hbad : ¬ K k = 1 → (m = 4 ∨ o_Mo_isRegister_r m b e = 0) → (isT K (nI k) 1 = 0 ∧ (mRG f L (L + 1) p st fd fr cm op).1 = B k) := by
    intro a1 a2
    refine ⟨isT_n hk a1, ?_⟩
    rw [MR_bad s (a2.imp id (fun q => by rw [hN]; unfold mNam; rw [if_pos q])), hB]
  rcases hc with ⟨c1, c2⟩ | ⟨c1, c2⟩ | ⟨c1, c2, c3, ⟨d1, d2, d3, r, d4, d5, d6⟩ | ⟨d1, d2, -⟩ | ⟨d1, d2, -⟩ | ⟨d1, d2, d3, -⟩ | ⟨d1, d2, d3, -⟩ | ⟨d1, d2, d3, -⟩ | ⟨d1, d2, d3, -⟩⟩
  · exact Or.inl (hbad (by rw [c1]; decide) (Or.inr (isRg_n (by rw [c2]; decide))))
  · exact Or.inl (hbad (by rw [c1]; decide) (Or.inl c2))
  · refine Or.inr ⟨isT_y hk d1, e, r, d4, d6, by omega, c2, c3, ?_⟩
    refine MR_go hL s (by rw [d2]; decide) (by rw [d2]; decide) ?_ h16 (by omega) c1 c2
    rw [hN, d2]
    unfold mNam
    rw [if_neg (by rw [d3]; decide), e1, nI_clamp (by omega), d5]
  · exact Or.inl (hbad (by rw [d1]; decide) (Or.inr (isRg_n (by rw [d2]; decide))))
  · exact Or.inl (hbad (by rw [d1]; decide) (Or.inr (isRg_n (by rw [d2]; decide))))
  all_goals exact Or.inl (hbad (by rw [d1]; decide) (Or.inr (by rw [d2]; exact d3)))
theorem far_26a : ∀ r : Nat, r < 26 → ∀ z : Nat, z < 26 → ¬ nI z - nI r < 1 → ¬ 4 < nI z - nI r → r < z ∧ z ≤ r + 4 := by decide +kernel
theorem far_26b : ∀ r : Nat, r < 26 → ∀ z : Nat, z < 26 → r < z → z ≤ r + 4 → nI z - nI r = nI (z - r) ∧ nI z - nI r ≤ 4 := by decide +kernel
theorem far_26c : ∀ r : Nat, r < 26 → ∀ z : Nat, z < 26 → r < z → z ≤ r + 4 → ((nI z - nI r) * ((nI z - nI r) + 1)) / 2 = nI ((z - r) * (z - r + 1) / 2) := by decide +kernel
theorem far_26 (r : Nat) (hr : r < 26) (z : Nat) (hz : z < 26) (h1 : ¬ nI z - nI r < 1) (h2 : ¬ 4 < nI z - nI r) : r < z ∧ z ≤ r + 4 ∧ nI z - nI r = nI (z - r) ∧ nI z - nI r ≤ 4 ∧ ((nI z - nI r) * ((nI z - nI r) + 1)) / 2 = nI ((z - r) * (z - r + 1) / 2) := by
  obtain ⟨a1, a2⟩ := far_26a r hr z hz h1 h2
  obtain ⟨b1, b2⟩ := far_26b r hr z hz a1 a2
  exact ⟨a1, a2, b1, b2, far_26c r hr z hz a1 a2⟩
theorem tri_4 {r z : Nat} (h1 : r < z) (h2 : z ≤ r + 4) : 1 ≤ (z - r) * (z - r + 1) / 2 ∧ (z - r) * (z - r + 1) / 2 ≤ 10 := by
  have h : z - r = 1 ∨ z - r = 2 ∨ z - r = 3 ∨ z - r = 4 := by omega
  rcases h with h | h | h | h <;> rw [h] <;> decide
/-- the second register of a row -/
theorem to_tie {f : Nat → Int32} {L : Nat} {K B W : Nat → Int32} {k p : Nat} {fd : Nat → Int32} {fr : Nat} {m : Nat} {op : Int32} {r : Nat} (hL : L ≤ 120) (hf : ∀ j, j < L → ¬ f j < 0 ∧ ¬ 126 < f j) (hA : At f L K B W k p) (hfr : fr ≤ 60) (hm : m ≤ 12) (hr : r < 26) (h1 : fd (6 * fr + 1) = nI r) (hw : fd (6 * fr) = 6 ∨ fd (6 * fr) = 7) :
    (eRF K W (nI k) (nI r) = 0 ∧ (mRG f L (L + 1) p 13 fd fr (nI m) op).1 = B k) ∨
    (¬ eRF K W (nI k) (nI r) = 0 ∧ ∃ e z, z < 26 ∧ W k = nI z ∧ r < z ∧ z ≤ r + 4 ∧ p < e ∧ e ≤ L ∧ At f L K B W (k + 1) e ∧
      ((fd (6 * fr) = 7 ∧ mRG f L (L + 1) p 13 fd fr (nI m) op = mRG f L (L + 1) e 15 (upd fd (6 * fr + 5) (nI z)) fr (nI m) op) ∨
       (fd (6 * fr) = 6 ∧ m + (z - r) * (z - r + 1) / 2 ≤ 12 ∧ mRG f L (L + 1) p 13 fd fr (nI m) op = mRG f L (L + 1) e 15 (upd fd (6 * fr + 5) (nI z)) fr (nI (m + (z - r) * (z - r + 1) / 2)) op) ∨
       (fd (6 * fr) = 6 ∧ 12 < m + (z - r) * (z - r + 1) / 2 ∧ (mRG f L (L + 1) p 13 fd fr (nI m) op).1 = B k))) := by
  have hkp := hA.kp
  have hk : k < 1000 := by omega
  obtain ⟨m0, b, e, a, s, hpb, hbL, hB, hc⟩ := tk8 hL hf hA
  have e1 : (6 * nI fr + (1 : Int32)).toNatClampNeg = 6 * fr + 1 := ix6 (kk := 1) hfr (by decide)
  have e5 : (6 * nI fr + (5 : Int32)).toNatClampNeg = 6 * fr + 5 := ix6 (kk := 5) hfr (by decide)
  have hbad : ¬ K k = 1 → (m0 = 4 ∨ ¬ m0 = 1 ∨ (m0 = 1 ∧ o_Mo_isRegister_r m0 b e = 0)) → (eRF K W (nI k) (nI r) = 0 ∧ (mRG f L (L + 1) p 13 fd fr (nI m) op).1 = B k) := by
    intro a1 a2
    refine ⟨by unfold eRF; rw [if_pos (isT_n hk a1)], ?_⟩
    rw [MR_bad s ?_, hB]
    rcases a2 with a2 | a2 | ⟨a2, a3⟩
    · exact Or.inl a2
    · refine Or.inr ?_
      rw [nx_13, if_neg a2]
    · refine Or.inr ?_
      rw [nx_13, if_pos a2]
      unfold mTo
      rw [if_pos a3]
  rcases hc with ⟨c1, c2⟩ | ⟨c1, c2⟩ | ⟨c1, c2, c3, ⟨d1, d2, d3, z, d4, d5, d6⟩ | ⟨d1, d2, -⟩ | ⟨d1, d2, -⟩ | ⟨d1, d2, d3, -⟩ | ⟨d1, d2, d3, -⟩ | ⟨d1, d2, d3, -⟩ | ⟨d1, d2, d3, -⟩⟩
  · exact Or.inl (hbad (by rw [c1]; decide) (Or.inr (Or.inl (by rw [c2]; decide))))
  · exact Or.inl (hbad (by rw [c1]; decide) (Or.inl c2))
  · subst d2
    have hkk : (nI k).toNatClampNeg = k := nI_clamp (by omega)
    by_cases q1 : nI z - nI r < 1
    · refine Or.inl ⟨by unfold eRF; rw [if_neg (isT_y hk d1), hkk, d6, if_pos q1], ?_⟩
      rw [MR_bad s (Or.inr ?_), hB]
      rw [nx_13, if_pos rfl]
      unfold mTo
      rw [if_neg (by rw [d3]; decide), e1, h1, nI_clamp (by omega), d5, if_pos q1]
    · by_cases q2 : 4 < nI z - nI r
      · refine Or.inl ⟨by unfold eRF; rw [if_neg (isT_y hk d1), hkk, d6, if_neg q1, if_pos q2], ?_⟩
        rw [MR_bad s (Or.inr ?_), hB]
        rw [nx_13, if_pos rfl]
        unfold mTo
        rw [if_neg (by rw [d3]; decide), e1, h1, nI_clamp (by omega), d5, if_neg q1, if_neg (Int32.not_le.mpr q2)]
      · obtain ⟨f1, f2, f3, f4, f5⟩ := far_26 r hr z d4 q1 q2
        have ht := tri_4 f1 f2
        have hTo : mTo f 1 b e a fd fr (nI m) op = (if (upd fd (6 * fr + 5) (nI z)) (6 * fr) = 6 then ((mCmp f 1 b e a (upd fd (6 * fr + 5) (nI z)) fr (nI m) op (nI ((z - r) * (z - r + 1) / 2)) 15).1, upd fd (6 * fr + 5) (nI z), (mCmp f 1 b e a (upd fd (6 * fr + 5) (nI z)) fr (nI m) op (nI ((z - r) * (z - r + 1) / 2)) 15).2) else ((mCmp f 1 b e a (upd fd (6 * fr + 5) (nI z)) fr (nI m) op 0 15).1, upd fd (6 * fr + 5) (nI z), (mCmp f 1 b e a (upd fd (6 * fr + 5) (nI z)) fr (nI m) op 0 15).2)) := by
          unfold mTo
          rw [if_neg (by rw [d3]; decide), e1, h1, nI_clamp (n := b) (by omega), d5, if_neg q1, if_pos f4, e5, ix60 hfr, f5]
        refine Or.inr ⟨by unfold eRF; rw [if_neg (isT_y hk d1), hkk, d6, if_neg q1, if_neg q2]; decide, e, z, d4, d6, f1, f2, by omega, c2, c3, ?_⟩
        have hu : upd fd (6 * fr + 5) (nI z) (6 * fr) = fd (6 * fr) := upd_ne (by omega)
        rcases hw with hw | hw
        · refine Or.inr ?_
          by_cases q3 : m + (z - r) * (z - r + 1) / 2 ≤ 12
          · refine Or.inl ⟨hw, q3, ?_⟩
            refine MR_go hL s (by decide) (by decide) ?_ (by decide) (by omega) c1 c2
            rw [nx_13, if_pos rfl, hTo, hu, if_pos hw, cmp_1 (by rw [nI_add]; exact nI_le (b := 12) q3 (by decide)), nI_add]
          · refine Or.inr ⟨hw, by omega, ?_⟩
            rw [MR_bad s (Or.inr ?_), hB]
            rw [nx_13, if_pos rfl, hTo, hu, if_pos hw, cmp_0 (by rw [nI_add]; exact nI_ge (a := 12) (by omega) (by omega))]
        · refine Or.inl ⟨hw, ?_⟩
          refine MR_go hL s (by decide) (by decide) ?_ (by decide) (by omega) c1 c2
          rw [nx_13, if_pos rfl, hTo, hu, if_neg (by rw [hw]; decide), cmp_1 (by rw [Int32.add_zero]; exact nI_le (b := 12) hm (by decide)), Int32.add_zero]
  · exact Or.inl (hbad (by rw [d1]; decide) (Or.inr (Or.inl (by rw [d2]; decide))))
  · exact Or.inl (hbad (by rw [d1]; decide) (Or.inr (Or.inl (by rw [d2]; decide))))
  all_goals exact Or.inl (hbad (by rw [d1]; decide) (Or.inr (Or.inr ⟨d2, by rw [d2]; exact d3⟩)))
theorem tie_row {f : Nat → Int32} {L : Nat} {K B W : Nat → Int32} {k p : Nat} {fd : Nat → Int32} {fr m o : Nat} {X : ScT} {e0 : Nat} {sg w : Int32} (hL : L ≤ 120) (hf : ∀ j, j < L → ¬ f j < 0 ∧ ¬ 126 < f j) (A1 : At f L K B W (k + 1) e0) (hpe : p + 4 ≤ e0) (hfr : fr ≤ 60) (hm : m ≤ 12) (ho : o ≤ 16) (hX : X.2.2.2.2.2.2.1 = nI m) (hsg : (sg = 1 ∧ w = 6) ∨ (sg = 0 ∧ w = 7)) (st0 : mRG f L (L + 1) p 0 fd fr (nI m) (nI o) = mRG f L (L + 1) e0 12 (upd (z6 fd fr) (6 * fr) w) fr (nI m) (nI o)) : StBad f L B p fd fr m o X (rdRow K W sg (nI k) X) ∨ StOk f L K B W p fd fr m o X (rdRow K W sg (nI k) X) := by
  have hA1 := A1.kp
  rcases nam_tie (fd := upd (z6 fd fr) (6 * fr) w) (cm := nI m) (op := nI o) hL hf A1 hfr 12 13 (by decide) nx_12 with ⟨q1, q2⟩ | ⟨q1, e1, r, hr, hW1, p1, p2, A2, q2⟩
  · refine Or.inl ⟨k + 1, X, ?_, by omega, by rw [st0, q2], SameA.rf X⟩
    unfold rdRow; rw [nI_1, if_pos q1]
  have hA2 := A2.kp
  have e2 : (upd (upd (z6 fd fr) (6 * fr) w) (6 * fr + 1) (nI r)) (6 * fr) = w := by rw [upd_ne (by omega), upd_eq]
  rcases to_tie (fd := upd (upd (z6 fd fr) (6 * fr) w) (6 * fr + 1) (nI r)) (op := nI o) hL hf A2 hfr hm hr upd_eq (by rw [e2]; rcases hsg with ⟨-, h⟩ | ⟨-, h⟩; exact Or.inl h; exact Or.inr h) with ⟨q3, q4⟩ | ⟨q3, e3, z, hz, hW2, h1, h2, p3, p4, A3, q4⟩
  · refine Or.inl ⟨k + 1 + 1, X, ?_, by omega, by rw [st0, q2, q4], SameA.rf X⟩
    unfold rdRow; rw [nI_1, if_neg q1, nI_clamp (n := k + 1) (by omega), hW1, nI_1, if_pos q3]
  have hA3 := A3.kp
  have ht := tri_4 h1 h2
  have hcz : (nI z).toNatClampNeg = z := nI_clamp (by omega)
  have hcr : (nI r).toNatClampNeg = r := nI_clamp (by omega)
  have hfar : ((((nI z - nI r) + 1) * (((nI z - nI r) + 1) - 1)) / 2) = nI ((z - r) * (z - r + 1) / 2) := by
    have hf2 : ∀ r : Nat, r < 26 → ∀ z : Nat, z < 26 → r < z → z ≤ r + 4 → ((((nI z - nI r) + 1) * (((nI z - nI r) + 1) - 1)) / 2) = nI ((z - r) * (z - r + 1) / 2) := by decide +kernel
    exact hf2 r hr z hz h1 h2
  have hRow : rdRow K W sg (nI k) X = if sg = 0 then (1, nI (k + 1 + 1 + 1), smI (z - r) (r + 1) X) else if (tkC X (nI ((z - r) * (z - r + 1) / 2))).1 = 0 then (0, nI (k + 1 + 1), (tkC X (nI ((z - r) * (z - r + 1) / 2))).2) else (1, nI (k + 1 + 1 + 1), swO r (z - r) (tkC X (nI ((z - r) * (z - r + 1) / 2))).2) := by
    unfold rdRow
    rw [nI_1, if_neg q1, nI_clamp (n := k + 1) (by omega), hW1, nI_1, if_neg q3, nI_1, nI_clamp (n := k + 1 + 1) (by omega), hW2, hcz, hcr, hfar]
  rw [hRow]
  rcases hsg with ⟨rfl, rfl⟩ | ⟨rfl, rfl⟩
  · rw [if_neg (by decide)]
    rcases q4 with ⟨g1, -⟩ | ⟨-, g2, g3⟩ | ⟨-, g2, g3⟩
    · exact absurd (e2.symm.trans g1) (by decide)
    · rw [if_neg (tkC_y (by rw [hX, nI_add]; exact nI_le (b := 12) g2 (by decide)))]
      refine Or.inr ⟨k + 1 + 1 + 1, e3, 15, _, 6, r, 0, 0, 0, z, by rw [rowX_6], by omega, p4, A3, by rw [rC_6, rO_6, Nat.add_zero]; exact st0.trans (q2.trans g3), Or.inl rfl, ⟨fun j hj => by (repeat rw [upd_ne (by omega)]); exact z6_n hfr hj, by (repeat (first | rw [upd_eq] | rw [upd_ne (by omega)])); try first | exact z6_v hfr (by decide) | exact z6_0 hfr, by (repeat (first | rw [upd_eq] | rw [upd_ne (by omega)])); try first | exact z6_v hfr (by decide) | exact z6_0 hfr, by (repeat (first | rw [upd_eq] | rw [upd_ne (by omega)])); try first | exact z6_v hfr (by decide) | exact z6_0 hfr, by (repeat (first | rw [upd_eq] | rw [upd_ne (by omega)])); try first | exact z6_v hfr (by decide) | exact z6_0 hfr, by (repeat (first | rw [upd_eq] | rw [upd_ne (by omega)])); try first | exact z6_v hfr (by decide) | exact z6_0 hfr, by (repeat (first | rw [upd_eq] | rw [upd_ne (by omega)])); try first | exact z6_v hfr (by decide) | exact z6_0 hfr⟩, ⟨hr, hz, OpV.z, OpV.z, OpV.z, Or.inr ⟨Or.inl rfl, h1, h2⟩, rz6⟩, by rw [rC_6]; exact g2, by rw [rO_6]; omega, by rw [rT_6, rC_6]; omega⟩
    · have h0 := tkC_n (X := X) (x := nI ((z - r) * (z - r + 1) / 2)) (by rw [hX, nI_add]; exact nI_ge (a := 12) g2 (by omega))
      rw [if_pos h0]
      exact Or.inl ⟨k + 1 + 1, _, rfl, by omega, by rw [st0, q2, g3], tkC_a _ _⟩
  · rw [if_pos rfl]
    rcases q4 with ⟨-, g3⟩ | ⟨g1, -⟩ | ⟨g1, -⟩
    · refine Or.inr ⟨k + 1 + 1 + 1, e3, 15, _, 7, r, 0, 0, 0, z, by rw [rowX_7], by omega, p4, A3, by rw [rC_7, rO_7, Nat.add_zero, Nat.add_zero]; exact st0.trans (q2.trans g3), Or.inl rfl, ⟨fun j hj => by (repeat rw [upd_ne (by omega)]); exact z6_n hfr hj, by (repeat (first | rw [upd_eq] | rw [upd_ne (by omega)])); try first | exact z6_v hfr (by decide) | exact z6_0 hfr, by (repeat (first | rw [upd_eq] | rw [upd_ne (by omega)])); try first | exact z6_v hfr (by decide) | exact z6_0 hfr, by (repeat (first | rw [upd_eq] | rw [upd_ne (by omega)])); try first | exact z6_v hfr (by decide) | exact z6_0 hfr, by (repeat (first | rw [upd_eq] | rw [upd_ne (by omega)])); try first | exact z6_v hfr (by decide) | exact z6_0 hfr, by (repeat (first | rw [upd_eq] | rw [upd_ne (by omega)])); try first | exact z6_v hfr (by decide) | exact z6_0 hfr, by (repeat (first | rw [upd_eq] | rw [upd_ne (by omega)])); try first | exact z6_v hfr (by decide) | exact z6_0 hfr⟩, ⟨hr, hz, OpV.z, OpV.z, OpV.z, Or.inr ⟨Or.inr rfl, h1, h2⟩, rz7⟩, by rw [rC_7]; omega, by rw [rO_7]; omega, by rw [rT_7, rC_7]; omega⟩
    · exact absurd (e2.symm.trans g1) (by decide)
    · exact absurd (e2.symm.trans g1) (by decide)
theorem tie_opn {f : Nat → Int32} {L : Nat} {K B W : Nat → Int32} {k p : Nat} {fd : Nat → Int32} {fr m o : Nat} {X : ScT} (hL : L ≤ 120) (hf : ∀ j, j < L → ¬ f j < 0 ∧ ¬ 126 < f j) (hA : At f L K B W k p) (hfr : fr ≤ 60) (hm : m ≤ 12) (ho : o ≤ 16) (hX : X.2.2.2.2.2.2.2.1 = nI o) {b e0 : Nat} {a : Int32} (s : mSc f L p = (1, b, e0, a)) (hB : B k = nI b) (hbe : b < e0) (heL : e0 ≤ L) (hpb : p ≤ b) (A1 : At f L K B W (k + 1) e0) (h1 : o_Mo_isRegister_r 1 b e0 = 0) (h2 : ¬ o_Mo_isWord_r 1 b e0 f 111 112 101 110 = 0) : StBad f L B p fd fr m o X (rdOpn K W (nI k) X) ∨ StOk f L K B W p fd fr m o X (rdOpn K W (nI k) X) := by
  have hkp := hA.kp
  have hA1 := A1.kp
  by_cases ho1 : o + 1 ≤ 16
  · have h3 : nI o + 1 ≤ 16 := by rw [nI_1]; exact nI_le (b := 16) ho1 (by decide)
    have st0 : mRG f L (L + 1) p 0 fd fr (nI m) (nI o) = mRG f L (L + 1) e0 14 (upd (z6 fd fr) (6 * fr) 8) fr (nI m) (nI (o + 1)) := by
      refine MR_go hL s (by decide) (by decide) ?_ (by decide) (by omega) hbe heL
      rw [nx_0, sta_opn1 hfr h1 h2 h3, nI_1]
    have hO : ¬ (tkO X).1 = 0 := tkO_y (by rw [hX]; exact nI_lt (b := 16) (by omega) (by decide))
    rcases nam_tie (fd := upd (z6 fd fr) (6 * fr) 8) (cm := nI m) (op := nI (o + 1)) hL hf A1 hfr 14 15 (by decide) nx_14 with ⟨q1, q2⟩ | ⟨q1, e1, r, hr, hW1, p1, p2, A2, q2⟩
    · refine Or.inl ⟨k + 1, (tkO X).2, ?_, by omega, by rw [st0, q2], tkO_a X⟩
      unfold rdOpn; rw [if_neg hO, nI_1, if_pos q1]
    · have hR : rdOpn K W (nI k) X = (1, nI (k + 1 + 1), adS (tkO X).2 7 0 (nI r) 0 0) := by
        unfold rdOpn; rw [if_neg hO, nI_1, if_neg q1, nI_1, nI_clamp (by omega), hW1]
      rw [hR]
      refine Or.inr ⟨k + 1 + 1, e1, 15, _, 8, r, 0, 0, 0, 0, by rw [rowX_8], by omega, p2, A2, by rw [rC_8, rO_8, Nat.add_zero]; exact st0.trans q2, Or.inl rfl, ⟨fun j hj => by (repeat rw [upd_ne (by omega)]); exact z6_n hfr hj, by (repeat (first | rw [upd_eq] | rw [upd_ne (by omega)])); try first | exact z6_v hfr (by decide) | exact z6_0 hfr, by (repeat (first | rw [upd_eq] | rw [upd_ne (by omega)])); try first | exact z6_v hfr (by decide) | exact z6_0 hfr, by (repeat (first | rw [upd_eq] | rw [upd_ne (by omega)])); try first | exact z6_v hfr (by decide) | exact z6_0 hfr, by (repeat (first | rw [upd_eq] | rw [upd_ne (by omega)])); try first | exact z6_v hfr (by decide) | exact z6_0 hfr, by (repeat (first | rw [upd_eq] | rw [upd_ne (by omega)])); try first | exact z6_v hfr (by decide) | exact z6_0 hfr, by (repeat (first | rw [upd_eq] | rw [upd_ne (by omega)])); try first | exact z6_v hfr (by decide) | exact z6_0 hfr⟩, ⟨hr, by decide, OpV.z, OpV.z, OpV.z, Or.inl (Or.inr (Or.inr (Or.inr (Or.inr (Or.inr (Or.inr rfl)))))), rz8⟩, by rw [rC_8]; omega, by rw [rO_8]; omega, by rw [rT_8, rC_8]; omega⟩
  · have h3 : ¬ nI o + 1 ≤ 16 := by rw [nI_1]; exact nI_ge (a := 16) (by omega) (by omega)
    have hO : (tkO X).1 = 0 := tkO_n (by rw [hX]; exact nI_nlt (b := 16) (by omega) (by omega))
    refine Or.inl ⟨k, (tkO X).2, ?_, by omega, ?_, tkO_a X⟩
    · unfold rdOpn; rw [if_pos hO]
    · rw [MR_bad s (Or.inr ?_), hB, if_neg (by decide)]
      rw [nx_0, sta_opn0 h1 h2 h3]
/-- a statement, by both readers -/
theorem tie_sta {f : Nat → Int32} {L : Nat} {K B W : Nat → Int32} {k p : Nat} {fd : Nat → Int32} {fr m o : Nat} {X : ScT} (hL : L ≤ 120) (hf : ∀ j, j < L → ¬ f j < 0 ∧ ¬ 126 < f j) (hA : At f L K B W k p) (hfr : fr ≤ 60) (hm : m ≤ 12) (ho : o ≤ 16) (hX : X.2.2.2.2.2.2.1 = nI m) (hX2 : X.2.2.2.2.2.2.2.1 = nI o) : StBad f L B p fd fr m o X (rdSta K W (nI k) X) ∨ StOk f L K B W p fd fr m o X (rdSta K W (nI k) X) := by
  have hkp := hA.kp
  have hk : (nI k).toNatClampNeg = k := nI_clamp (by omega)
  obtain ⟨m0, b, e0, a, s, hpb, hbL, hB, hc⟩ := tk8 hL hf hA
  have hbad : (K k = 0 ∨ K k = 2 ∨ K k = 3 ∨ K k = 7) → (m0 = 4 ∨ (mSta f m0 b e0 a fd fr (nI m) (nI o)).1 = 16) → StBad f L B p fd fr m o X (rdSta K W (nI k) X) := by
    intro a1 a2
    refine ⟨k, X, ?_, by omega, ?_, SameA.rf X⟩
    · unfold rdSta
      rw [hk]
      rcases a1 with a1 | a1 | a1 | a1 <;> rw [a1]
      · rw [if_neg (by decide), if_neg (by decide), if_neg (by decide), if_neg (by decide), if_neg (by decide), if_neg (by decide)]
      · rw [if_neg (by decide), if_pos rfl]
      · rw [if_neg (by decide), if_neg (by decide), if_pos rfl]
      · rw [if_neg (by decide), if_neg (by decide), if_neg (by decide), if_neg (by decide), if_neg (by decide), if_neg (by decide)]
    · rw [MR_bad s (a2.imp id (fun q => by rw [nx_0]; exact q)), hB]
  have hbw : ¬ m0 = 1 → (mSta f m0 b e0 a fd fr (nI m) (nI o)).1 = 16 := fun q => sta_bad (isRg_n q) (isWd_n q) (isWd_n q) (isWd_n q)
  rcases hc with ⟨c1, c2⟩ | ⟨c1, c2⟩ | ⟨c1, c2, c3, ⟨d1, d2, d3, -⟩ | ⟨d1, d2, -⟩ | ⟨d1, d2, -⟩ | ⟨d1, d2, d3, d4, d5⟩ | ⟨d1, d2, d3, d4, d5, d6, d7⟩ | ⟨d1, d2, d3, d4⟩ | ⟨d1, d2, d3, d4, d5, d6⟩⟩
  · exact Or.inl (hbad (Or.inl c1) (Or.inr (hbw (by rw [c2]; decide))))
  · exact Or.inl (hbad (Or.inr (Or.inr (Or.inr c1))) (Or.inl c2))
  · have hR : rdSta K W (nI k) X = rdAss K W (nI k) X := by
      unfold rdSta; rw [hk, if_pos d1]
    rw [hR]
    exact tie_ass hL hf hA hfr hm ho hX d1
  · exact Or.inl (hbad (Or.inr (Or.inl d1)) (Or.inr (hbw (by rw [d2]; decide))))
  · exact Or.inl (hbad (Or.inr (Or.inr (Or.inl d1))) (Or.inr (hbw (by rw [d2]; decide))))
  · subst d2
    have hR : rdSta K W (nI k) X = rdRow K W 1 (nI k) X := by
      unfold rdSta; rw [hk, d1, if_neg (by decide), if_neg (by decide), if_neg (by decide), if_pos rfl]
    rw [hR]
    have e4 : e0 = b + 4 := nI_inj' (by omega) (by omega) ((wd_4 d5).1.trans (nI_add b 4))
    refine tie_row hL hf c3 (by omega) hfr hm ho hX (Or.inl ⟨rfl, rfl⟩) ?_
    refine MR_go hL s (by decide) (by decide) ?_ (by decide) (by omega) c1 c2
    rw [nx_0, sta_sort hfr d3 d4 d5]
  · subst d2
    have hR : rdSta K W (nI k) X = rdRow K W 0 (nI k) X := by
      unfold rdSta; rw [hk, d1, if_neg (by decide), if_neg (by decide), if_neg (by decide), if_neg (by decide), if_pos rfl]
    rw [hR]
    refine tie_row hL hf c3 (by omega) hfr hm ho hX (Or.inr ⟨rfl, rfl⟩) ?_
    refine MR_go hL s (by decide) (by decide) ?_ (by decide) (by omega) c1 c2
    rw [nx_0, sta_sums hfr d3 d4 d5 d6]
  · subst d2
    have hR : rdSta K W (nI k) X = rdOpn K W (nI k) X := by
      unfold rdSta; rw [hk, d1, if_neg (by decide), if_neg (by decide), if_neg (by decide), if_neg (by decide), if_neg (by decide), if_pos rfl]
    rw [hR]
    exact tie_opn hL hf hA hfr hm ho hX2 s (by rw [hB, if_neg (by decide)]) c1 c2 hpb c3 d3 d4
  · subst d2
    exact Or.inl (hbad (Or.inr (Or.inr (Or.inr d1))) (Or.inr (sta_bad d3 d4 d5 d6)))
