/-! the readers: steps of the reference, and a value -/
theorem MR_bad {f : Nat → Int32} {L p : Nat} {st : Int32} {fd : Nat → Int32} {fr : Nat} {cm op m : Int32} {b e : Nat} {a : Int32} (hsc : mSc f L p = (m, b, e, a)) (h : m = 4 ∨ (mNxt f m b e a fd fr cm op st).1 = 16) : (mRG f L (L + 1) p st fd fr cm op).1 = (if m = 0 then nI L else nI b) := by
  rw [mRG_s (by omega), hsc]
  dsimp only
  by_cases h4 : m = 4
  · rw [if_pos h4]
  · rw [if_neg h4, if_pos (h.resolve_left h4)]
theorem MR_go {f : Nat → Int32} {L p : Nat} {st : Int32} {fd : Nat → Int32} {fr : Nat} {cm op m : Int32} {b e : Nat} {a : Int32} {st' : Int32} {fd' : Nat → Int32} {fr' : Nat} {cm' op' : Int32} (hL : L ≤ 120) (hsc : mSc f L p = (m, b, e, a)) (h0 : ¬ m = 0) (h4 : ¬ m = 4) (hN : mNxt f m b e a fd fr cm op st = (st', fd', nI fr', cm', op')) (h16 : ¬ st' = 16) (hfr : fr' < 2 ^ 31) (he : b < e) (heL : e ≤ L) : mRG f L (L + 1) p st fd fr cm op = mRG f L (L + 1) e st' fd' fr' cm' op' := by
  rw [mRG_s (by omega), hsc]
  dsimp only
  rw [hN]
  dsimp only
  rw [if_neg h4, if_neg h16, if_neg h0, nI_clamp hfr, Nat.add_sub_cancel]
  exact mRG_fuel hL _ _ e st' fd' fr' cm' op' heL (by omega) (by omega)
theorem MR_end {f : Nat → Int32} {L p : Nat} {st : Int32} {fd : Nat → Int32} {fr : Nat} {cm op : Int32} {b e : Nat} {a : Int32} {st' : Int32} {fd' : Nat → Int32} {n' cm' op' : Int32} (hsc : mSc f L p = (0, b, e, a)) (hN : mNxt f 0 b e a fd fr cm op st = (st', fd', n', cm', op')) (h16 : ¬ st' = 16) : mRG f L (L + 1) p st fd fr cm op = (-1, fd', n', cm', op', (0, b, e, a)) := by
  rw [mRG_s (by omega), hsc]
  dsimp only
  rw [hN]
  dsimp only
  rw [if_neg (by decide), if_neg h16, if_pos rfl]
theorem ix6 {fr kk : Nat} (h : fr ≤ 60) (hk : kk ≤ 5) : (6 * nI fr + nI kk).toNatClampNeg = 6 * fr + kk := by
  rw [show (6 : Int32) * nI fr = nI (6 * fr) from (Int32.ofNat_mul 6 fr).symm, nI_add, nI_clamp (by omega)]
theorem ix60 {fr : Nat} (h : fr ≤ 60) : (6 * nI fr).toNatClampNeg = 6 * fr := by
  rw [show (6 : Int32) * nI fr = nI (6 * fr) from (Int32.ofNat_mul 6 fr).symm, nI_clamp (by omega)]
theorem isT_k {K : Nat → Int32} {k : Nat} (hk : k < 1000) (y : Int32) : isT K (nI k) y = if K k = y then 1 else 0 := by
  unfold isT; rw [nI_clamp (by omega)]
theorem isS_k {K W : Nat → Int32} {k : Nat} (hk : k < 1000) (y : Int32) : isS K W (nI k) y = if K k = 3 then (if W k = y then 1 else 0) else 0 := by
  unfold isS; rw [nI_clamp (by omega)]
theorem isT_n {K : Nat → Int32} {k : Nat} {y : Int32} (hk : k < 1000) (h : ¬ K k = y) : isT K (nI k) y = 0 := by rw [isT_k hk, if_neg h]
theorem isT_y {K : Nat → Int32} {k : Nat} {y : Int32} (hk : k < 1000) (h : K k = y) : ¬ isT K (nI k) y = 0 := by rw [isT_k hk, if_pos h]; decide
theorem isS_n {K W : Nat → Int32} {k : Nat} {y : Int32} (hk : k < 1000) (h : ¬ K k = 3) : isS K W (nI k) y = 0 := by rw [isS_k hk, if_neg h]
theorem isS_n' {K W : Nat → Int32} {k : Nat} {y : Int32} (hk : k < 1000) (h : ¬ W k = y) : isS K W (nI k) y = 0 := by
  rw [isS_k hk, if_neg h]
  split <;> rfl
theorem isS_y {K W : Nat → Int32} {k : Nat} {y : Int32} (hk : k < 1000) (h : K k = 3) (h' : W k = y) : ¬ isS K W (nI k) y = 0 := by rw [isS_k hk, if_pos h, if_pos h']; decide
theorem tkA_0 {K W : Nat → Int32} {x y : Int32} (h : isS K W x y = 0) : tkA K W x y = x := if_pos h
theorem tkA_1 {K W : Nat → Int32} {x y : Int32} (h : ¬ isS K W x y = 0) : tkA K W x y = x + 1 := if_neg h
theorem isIt_n {m : Int32} {b : Nat} {f : Nat → Int32} {y : Int32} (h : ¬ m = 3) : o_Mo_isIt_r m b f y = 0 := if_neg h
theorem isIt_k {b : Nat} {f : Nat → Int32} {y : Int32} (hb : b < 1000) : o_Mo_isIt_r 3 b f y = if f b = y then 1 else 0 := by
  unfold o_Mo_isIt_r; rw [if_pos rfl, nI_clamp (by omega)]
theorem isRg_n {m : Int32} {b e : Nat} (h : ¬ m = 1) : o_Mo_isRegister_r m b e = 0 := if_neg h
def cd (v : Int32) : Int32 := if v < 100 then v else if v < 1000 then 26 + (v - 100) else 34 + (v - 1000)
def nmV (X : ScT) (v : Int32) : ScT := if v < 100 then X else if v < 1000 then nmS X (v - 100) else X
def OpV (v : Int32) : Prop := ∃ n : Nat, (n < 26 ∧ v = nI n) ∨ (n < 8 ∧ v = nI (100 + n)) ∨ (n < 1000 ∧ v = nI (1000 + n))
theorem nI_sb (x y : Nat) : nI (x + y) - nI x = nI y := by
  rw [← nI_add, Int32.add_comm, Int32.add_sub_cancel]
theorem cd_r {n : Nat} (h : n < 26) (X : ScT) : cd (nI n) = nI n ∧ nmV X (nI n) = X := by
  have e : nI n < 100 := nI_lt (b := 100) (by omega) (by decide)
  exact ⟨if_pos e, if_pos e⟩
theorem cd_i {n : Nat} (h : n < 8) (X : ScT) : cd (nI (100 + n)) = 26 + nI n ∧ nmV X (nI (100 + n)) = nmS X (nI n) := by
  have e1 : ¬ nI (100 + n) < 100 := nI_nlt (b := 100) (by omega) (by omega)
  have e2 : nI (100 + n) < 1000 := nI_lt (b := 1000) (by omega) (by decide)
  have e3 : nI (100 + n) - 100 = nI n := nI_sb 100 n
  refine ⟨?_, ?_⟩
  · unfold cd; rw [if_neg e1, if_pos e2, e3]
  · unfold nmV; rw [if_neg e1, if_pos e2, e3]
theorem cd_n {n : Nat} (h : n < 1000) (X : ScT) : cd (nI (1000 + n)) = 34 + nI n ∧ nmV X (nI (1000 + n)) = X := by
  have e1 : ¬ nI (1000 + n) < 100 := nI_nlt (b := 100) (by omega) (by omega)
  have e2 : ¬ nI (1000 + n) < 1000 := nI_nlt (b := 1000) (by omega) (by omega)
  have e3 : nI (1000 + n) - 1000 = nI n := nI_sb 1000 n
  refine ⟨?_, ?_⟩
  · unfold cd; rw [if_neg e1, if_neg e2, e3]
  · unfold nmV; rw [if_neg e1, if_neg e2]
theorem cd_nn {v : Int32} (h : OpV v) : ∃ c : Nat, c < 2000 ∧ cd v = nI c := by
  obtain ⟨n, ⟨h, rfl⟩ | ⟨h, rfl⟩ | ⟨h, rfl⟩⟩ := h
  · exact ⟨n, by omega, (cd_r h default).1⟩
  · exact ⟨26 + n, by omega, (cd_i h default).1.trans (nI_add 26 n)⟩
  · exact ⟨34 + n, by omega, (cd_n h default).1.trans (nI_add 34 n)⟩
theorem cd_m1 {v : Int32} (h : OpV v) : ¬ cd v = -1 := by
  obtain ⟨c, hc, e⟩ := cd_nn h
  intro q
  rw [e] at q
  exact nI_pos (n := c) (by omega) (by rw [q]; decide)
theorem val_tie {f : Nat → Int32} {L : Nat} {K B W : Nat → Int32} {k p : Nat} {fd : Nat → Int32} {fr : Nat} {cm op : Int32} {X : ScT} (hL : L ≤ 120) (hf : ∀ j, j < L → ¬ f j < 0 ∧ ¬ 126 < f j) (hA : At f L K B W k p) (hfr : fr ≤ 60) (kk : Nat) (hkk : kk ≤ 5) (st y1 y2 : Int32) (h1 : ¬ y1 = 16) (h2 : ¬ y2 = 16)
    (hN1 : ∀ m b e a, mNxt f m b e a fd fr cm op st = ((mVal f m b e a fd fr cm op kk y1 y2).1, (mVal f m b e a fd fr cm op kk y1 y2).2, nI fr, cm, op))
    (hN2 : ∀ m b e a, mNxt f m b e a fd fr cm op y1 = ((mInp f m b e a fd fr cm op kk y2).1, (mInp f m b e a fd fr cm op kk y2).2, nI fr, cm, op)) :
    (∃ k', rdVal K W (nI k) X = (-1, nI k', X) ∧ k' ≤ L ∧ (mRG f L (L + 1) p st fd fr cm op).1 = B k') ∨
    (∃ k' e v, rdVal K W (nI k) X = (cd v, nI k', nmV X v) ∧ OpV v ∧ p < e ∧ e ≤ L ∧ At f L K B W k' e ∧ mRG f L (L + 1) p st fd fr cm op = mRG f L (L + 1) e y2 (upd fd (6 * fr + kk) v) fr cm op) := by
  have hkp := hA.kp
  obtain ⟨m, b, e, a, s, hpb, hbL, hB, hc⟩ := tk8 hL hf hA
  have hk : k < 1000 := by omega
  have hb : b < 1000 := by omega
  have ex := ix6 hfr hkk
  have hbad : ¬ K k = 1 → ¬ K k = 2 → isS K W (nI k) 36 = 0 → (m = 4 ∨ (mVal f m b e a fd fr cm op kk y1 y2).1 = 16) → (∃ k', rdVal K W (nI k) X = (-1, nI k', X) ∧ k' ≤ L ∧ (mRG f L (L + 1) p st fd fr cm op).1 = B k') := by
    intro a1 a2 a3 a4
    refine ⟨k, ?_, by omega, ?_⟩
    · unfold rdVal; rw [if_pos (isT_n hk a1), if_pos (isT_n hk a2), if_pos a3, tkA_0 a3]
    · rw [MR_bad s (a4.imp id (fun q => by rw [hN1]; exact q)), hB]
  have hbw : ¬ m = 3 → ¬ m = 2 → o_Mo_isRegister_r m b e = 0 → (mVal f m b e a fd fr cm op kk y1 y2).1 = 16 := by
    intro a1 a2 a3
    unfold mVal
    rw [if_pos (isIt_n a1), if_pos a3, if_neg a2]
  rcases hc with ⟨c1, c2⟩ | ⟨c1, c2⟩ | ⟨c1, c2, c3, hc⟩
  · exact Or.inl (hbad (by rw [c1]; decide) (by rw [c1]; decide) (isS_n hk (by rw [c1]; decide)) (Or.inr (hbw (by rw [c2]; decide) (by rw [c2]; decide) (isRg_n (by rw [c2]; decide)))))
  · exact Or.inl (hbad (by rw [c1]; decide) (by rw [c1]; decide) (isS_n hk (by rw [c1]; decide)) (Or.inl c2))
  · have hkp3 := c3.kp
    rcases hc with ⟨d1, rfl, d3, r, d4, d5, d6⟩ | ⟨d1, rfl, n, d3, d4, d5⟩ | ⟨d1, rfl, d3⟩ | ⟨d1, rfl, d3, -⟩ | ⟨d1, rfl, d3, -⟩ | ⟨d1, rfl, d3, -⟩ | ⟨d1, rfl, d3, -⟩
    · refine Or.inr ⟨k + 1, e, nI r, ?_, ⟨r, Or.inl ⟨d4, rfl⟩⟩, by omega, c2, c3, ?_⟩
      · unfold rdVal; rw [if_neg (isT_y hk d1), nI_clamp (by omega), d6, nI_1, (cd_r d4 X).1, (cd_r d4 X).2]
      · refine MR_go hL s (by decide) (by decide) ?_ h2 (by omega) c1 c2
        rw [hN1]
        unfold mVal
        rw [if_pos (isIt_n (by decide)), if_neg (by rw [d3]; decide), ex, nI_clamp (by omega), d5]
    · refine Or.inr ⟨k + 1, e, nI (1000 + n), ?_, ⟨n, Or.inr (Or.inr ⟨d3, rfl⟩)⟩, by omega, c2, c3, ?_⟩
      · unfold rdVal; rw [if_pos (isT_n hk (by rw [d1]; decide)), if_neg (isT_y hk d1), nI_clamp (by omega), d5, nI_1, (cd_n d3 X).1, (cd_n d3 X).2]
      · refine MR_go hL s (by decide) (by decide) ?_ h2 (by omega) c1 c2
        rw [hN1]
        unfold mVal
        rw [if_pos (isIt_n (by decide)), if_pos (isRg_n (by decide)), if_pos rfl, ex, d4, show (1000 : Int32) + nI n = nI (1000 + n) from nI_add 1000 n]
    · by_cases hd : W k = 36
      · have hgo : mRG f L (L + 1) p st fd fr cm op = mRG f L (L + 1) e y1 fd fr cm op := by
          refine MR_go hL s (by decide) (by decide) ?_ h1 (by omega) c1 c2
          rw [hN1]
          unfold mVal
          rw [if_neg (by rw [isIt_k hb, d3, if_pos hd]; decide)]
        obtain ⟨m', b', e', a', s', hpb', hbL', hB', hc'⟩ := tk8 hL hf c3
        have hk' : k + 1 < 1000 := by omega
        have hbad' : ¬ K (k + 1) = 2 ∨ ¬ W (k + 1) < 8 → (m' = 4 ∨ (mInp f m' b' e' a' fd fr cm op kk y2).1 = 16) → (∃ k', rdVal K W (nI k) X = (-1, nI k', X) ∧ k' ≤ L ∧ (mRG f L (L + 1) p st fd fr cm op).1 = B k') := by
          intro a1 a4
          refine ⟨k + 1, ?_, by omega, ?_⟩
          · unfold rdVal
            rw [if_pos (isT_n hk (by rw [d1]; decide)), if_pos (isT_n hk (by rw [d1]; decide)), if_neg (isS_y hk d1 hd), tkA_1 (isS_y hk d1 hd), nI_1]
            by_cases q : K (k + 1) = 2
            · rw [if_neg (isT_y hk' q), nI_clamp (by omega), if_neg (a1.resolve_left (fun z => z q))]
            · rw [if_pos (isT_n hk' q)]
          · rw [hgo, MR_bad s' (a4.imp id (fun q => by rw [hN2]; exact q)), hB']
        have hbw' : ¬ m' = 2 → (mInp f m' b' e' a' fd fr cm op kk y2).1 = 16 := by
          intro a1
          unfold mInp
          rw [if_neg a1]
        rcases hc' with ⟨g1, g2⟩ | ⟨g1, g2⟩ | ⟨g1, g2, g3, hc'⟩
        · exact Or.inl (hbad' (Or.inl (by rw [g1]; decide)) (Or.inr (hbw' (by rw [g2]; decide))))
        · exact Or.inl (hbad' (Or.inl (by rw [g1]; decide)) (Or.inl g2))
        · rcases hc' with ⟨i1, i2, -⟩ | ⟨i1, i2, n, i3, i4, i5⟩ | ⟨i1, i2, -⟩ | ⟨i1, i2, -⟩ | ⟨i1, i2, -⟩ | ⟨i1, i2, -⟩ | ⟨i1, i2, -⟩
          · exact Or.inl (hbad' (Or.inl (by rw [i1]; decide)) (Or.inr (hbw' (by rw [i2]; decide))))
          · by_cases hn : n < 8
            · have h8 : nI n < 8 := nI_lt (b := 8) hn (by decide)
              refine Or.inr ⟨k + 1 + 1, e', nI (100 + n), ?_, ⟨n, Or.inr (Or.inl ⟨hn, rfl⟩)⟩, by omega, g2, g3, ?_⟩
              · unfold rdVal
                rw [if_pos (isT_n hk (by rw [d1]; decide)), if_pos (isT_n hk (by rw [d1]; decide)), if_neg (isS_y hk d1 hd), tkA_1 (isS_y hk d1 hd), nI_1, if_neg (isT_y hk' i1), nI_clamp (by omega), i5, if_pos h8, nI_1, (cd_i hn X).1, (cd_i hn X).2]
              · have h8' : ¬ (8 : Int32) ≤ nI n := nI_ge (b := 8) hn (by decide)
                rw [hgo]
                refine MR_go hL s' (by rw [i2]; decide) (by rw [i2]; decide) ?_ h2 (by omega) g1 g2
                rw [hN2]
                unfold mInp
                rw [if_pos i2, i4, if_neg h8', ex, show (100 : Int32) + nI n = nI (100 + n) from nI_add 100 n]
            · refine Or.inl (hbad' (Or.inr (by rw [i5]; exact nI_nlt (b := 8) (by omega) (by omega))) (Or.inr ?_))
              have h8' : (8 : Int32) ≤ nI n := nI_le (a := 8) (by omega) (by omega)
              unfold mInp
              rw [if_pos i2, i4, if_pos h8']
          · exact Or.inl (hbad' (Or.inl (by rw [i1]; decide)) (Or.inr (hbw' (by rw [i2]; decide))))
          · exact Or.inl (hbad' (Or.inl (by rw [i1]; decide)) (Or.inr (hbw' (by rw [i2]; decide))))
          · exact Or.inl (hbad' (Or.inl (by rw [i1]; decide)) (Or.inr (hbw' (by rw [i2]; decide))))
          · exact Or.inl (hbad' (Or.inl (by rw [i1]; decide)) (Or.inr (hbw' (by rw [i2]; decide))))
          · exact Or.inl (hbad' (Or.inl (by rw [i1]; decide)) (Or.inr (hbw' (by rw [i2]; decide))))
      · refine Or.inl (hbad (by rw [d1]; decide) (by rw [d1]; decide) (isS_n' hk hd) (Or.inr ?_))
        unfold mVal
        rw [if_pos (by rw [isIt_k hb, d3, if_neg hd]), if_pos (isRg_n (by decide)), if_neg (by decide)]
    all_goals exact Or.inl (hbad (by rw [d1]; decide) (by rw [d1]; decide) (isS_n hk (by rw [d1]; decide)) (Or.inr (hbw (by decide) (by decide) d3)))
