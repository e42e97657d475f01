/-! which inputs a script names; whether it may run -/
theorem nmB_bit {nm : Int32} {j : Nat} (hj : j < 8) : nmB nm j ↔ nm.toBitVec.toNat / 2 ^ j % 2 = 1 := by
  have key : ∀ (x : BitVec 32), x &&& 1#32 = 1#32 ↔ x.toNat % 2 = 1 := by
    intro x
    have h2 : (x &&& 1#32).toNat = x.toNat % 2 := by
      rw [BitVec.toNat_and]
      exact Nat.and_one_is_mod _
    constructor
    · intro h
      rw [h] at h2
      exact h2.symm
    · intro h
      exact BitVec.eq_of_toNat_eq (by rw [h2, h]; rfl)
  have hs : ∀ j, j < 8 → ((nI j).toUInt32 &&& Int32.toUInt32 31).toBitVec.toNat % 32 = j := by decide +kernel
  show ((nm.toUInt32 >>> ((nI j).toUInt32 &&& Int32.toUInt32 31)).toInt32) &&& 1 = 1 ↔ _
  rw [← Int32.toBitVec_inj, Int32.toBitVec_and]
  show ((nm.toUInt32 >>> ((nI j).toUInt32 &&& Int32.toUInt32 31)).toBitVec &&& 1#32 = 1#32) ↔ _
  rw [key, UInt32.toBitVec_shiftRight]
  rw [BitVec.ushiftRight_eq', BitVec.toNat_ushiftRight, Nat.shiftRight_eq_div_pow]
  have h3 : (((nI j).toUInt32 &&& Int32.toUInt32 31).toBitVec % 32).toNat = j := by
    rw [BitVec.toNat_umod]
    exact hs j hj
  rw [h3]
  exact Iff.rfl
theorem nmB_0 {j : Nat} (hj : j < 8) : ¬ nmB 0 j := by
  rw [nmB_bit hj]
  show ¬ 0 / 2 ^ j % 2 = 1
  rw [Nat.zero_div]
  decide
theorem nmB_or {nm : Int32} {i j : Nat} (hi : i < 8) (hj : j < 8) : nmB (nm ||| (1 <<< (nI i &&& 31))) j ↔ (nmB nm j ∨ j = i) := by
  have hb : ∀ i, i < 8 → ∀ j, j < 8 → ((1 <<< (nI i &&& 31) : Int32).toBitVec.toNat.testBit j = decide (j = i)) := by decide +kernel
  have tb : ∀ x : Nat, x / 2 ^ j % 2 = 1 ↔ x.testBit j = true := by
    intro x
    rw [Nat.testBit_eq_decide_div_mod_eq, decide_eq_true_iff]
  rw [nmB_bit hj, nmB_bit hj, tb, tb, Int32.toBitVec_or, BitVec.toNat_or, Nat.testBit_or, hb i hi j hj, Bool.or_eq_true, decide_eq_true_iff]
theorem nmV_b {X : ScT} {v : Int32} {j : Nat} (hj : j < 8) (hv : OpV v) : nmB (nmV X v).2.2.2.2.2.2.2.2 j ↔ (nmB X.2.2.2.2.2.2.2.2 j ∨ v = nI (100 + j)) := by
  obtain ⟨n, ⟨h, rfl⟩ | ⟨h, rfl⟩ | ⟨h, rfl⟩⟩ := hv
  · rw [(cd_r h X).2]
    constructor
    · exact Or.inl
    · rintro (q | q)
      · exact q
      · exact absurd ((nI_eq (by omega) (by omega)).mp q) (by omega)
  · rw [(cd_i h X).2]
    show nmB (X.2.2.2.2.2.2.2.2 ||| (1 <<< (nI n &&& 31))) j ↔ _
    rw [nmB_or h hj, nI_eq (by omega) (by omega)]
    constructor
    · rintro (q | q)
      · exact Or.inl q
      · exact Or.inr (by omega)
    · rintro (q | q)
      · exact Or.inl q
      · exact Or.inr (by omega)
  · rw [(cd_n h X).2]
    constructor
    · exact Or.inl
    · rintro (q | q)
      · exact q
      · exact absurd ((nI_eq (by omega) (by omega)).mp q) (by omega)
theorem tkC_m (X : ScT) (x : Int32) : (tkC X x).2.2.2.2.2.2.2.2.2 = X.2.2.2.2.2.2.2.2 := by
  unfold tkC
  split <;> rfl
theorem tkO_m (X : ScT) : (tkO X).2.2.2.2.2.2.2.2.2 = X.2.2.2.2.2.2.2.2 := by
  unfold tkO
  split <;> rfl
theorem adS_m (X : ScT) (a t f s h : Int32) : (adS X a t f s h).2.2.2.2.2.2.2.2 = X.2.2.2.2.2.2.2.2 := by rw [adS_c]
theorem z_ni {j : Nat} (hj : j < 8) : ¬ (0 : Int32) = nI (100 + j) := fun q => nI_ne0 (n := 100 + j) (by omega) (by omega) q.symm
theorem rowX_b {X : ScT} {w : Int32} {r : Nat} {o2 o3 o4 : Int32} {z j : Nat} (hj : j < 8) (hok : RowOk w r o2 o3 o4 z) : nmB (rowX X w r o2 o3 o4 z).2.2.2.2.2.2.2.2 j ↔ (nmB X.2.2.2.2.2.2.2.2 j ∨ o2 = nI (100 + j) ∨ o3 = nI (100 + j) ∨ o4 = nI (100 + j)) := by
  obtain ⟨hr, hz, p2, p3, p4, hw, z1, z2, z3⟩ := hok
  have hn := z_ni hj
  have no : ∀ o : Int32, o = 0 → ¬ o = nI (100 + j) := fun o h => by rw [h]; exact hn
  rcases hw with (rfl | rfl | rfl | rfl | rfl | rfl | rfl) | ⟨rfl | rfl, q1, q2⟩
  · have h3 := no _ (z2 rfl)
    have h4 := no _ (z1 (by decide))
    rw [rowX_0, adS_m, nmV_b hj p2]
    simp only [h3, h4, or_false]
  · have h4 := no _ (z1 (by decide))
    rw [rowX_1, adS_m, nmV_b hj p3, nmV_b hj p2]
    simp only [h4, or_false, or_assoc]
  · have h4 := no _ (z1 (by decide))
    rw [rowX_2, adS_m, nmV_b hj p3, nmV_b hj p2]
    simp only [h4, or_false, or_assoc]
  · have h4 := no _ (z1 (by decide))
    rw [rowX_3, adS_m, nmV_b hj p3, nmV_b hj p2]
    simp only [h4, or_false, or_assoc]
  · have h4 := no _ (z1 (by decide))
    rw [rowX_4, adS_m, nmV_b hj p3, tkC_m, nmV_b hj p2]
    simp only [h4, or_false, or_assoc]
  · rw [rowX_5, adS_m, nmV_b hj p4, nmV_b hj p3, tkC_m, nmV_b hj p2]
    simp only [or_assoc]
  · have h2 := no _ (z3 (Or.inr (Or.inr rfl))).1
    have h3 := no _ (z3 (Or.inr (Or.inr rfl))).2
    have h4 := no _ (z1 (by decide))
    rw [rowX_8, adS_m, tkO_m]
    simp only [h2, h3, h4, or_false]
  · have h2 := no _ (z3 (Or.inl rfl)).1
    have h3 := no _ (z3 (Or.inl rfl)).2
    have h4 := no _ (z1 (by decide))
    rw [rowX_6, swO_c, tkC_m]
    simp only [h2, h3, h4, or_false]
  · have h2 := no _ (z3 (Or.inr (Or.inl rfl))).1
    have h3 := no _ (z3 (Or.inr (Or.inl rfl))).2
    have h4 := no _ (z1 (by decide))
    rw [rowX_7, smI_c]
    simp only [h2, h3, h4, or_false]
/-- row k names input j -/
def Nms (sc : Nat → Int32) (k j : Nat) : Prop := sc (6 * k + 2) = nI (100 + j) ∨ sc (6 * k + 3) = nI (100 + j) ∨ sc (6 * k + 4) = nI (100 + j)
theorem bX_b {sc : Nat → Int32} {X0 : ScT} {j : Nat} (hj : j < 8) (h0 : X0.2.2.2.2.2.2.2.2 = 0) : ∀ n, RBK sc n → (nmB (bX sc X0 n).2.2.2.2.2.2.2.2 j ↔ ∃ k, k < n ∧ Nms sc k j)
  | 0, _ => by
    constructor
    · intro q
      have q' : nmB X0.2.2.2.2.2.2.2.2 j := q
      rw [h0] at q'
      exact absurd q' (nmB_0 hj)
    · rintro ⟨k, hk, -⟩
      omega
  | n + 1, hB => by
    obtain ⟨r, z, e1, e5, hok⟩ := hB n (by omega)
    have hr := hok.1
    have hz := hok.2.1
    have er : (sc (6 * n + 1)).toNatClampNeg = r := by rw [e1, nI_clamp (by omega)]
    have ez : (sc (6 * n + 5)).toNatClampNeg = z := by rw [e5, nI_clamp (by omega)]
    show nmB (rowX (bX sc X0 n) (sc (6 * n)) (sc (6 * n + 1)).toNatClampNeg (sc (6 * n + 2)) (sc (6 * n + 3)) (sc (6 * n + 4)) (sc (6 * n + 5)).toNatClampNeg).2.2.2.2.2.2.2.2 j ↔ _
    rw [er, ez, rowX_b hj hok, bX_b hj h0 n (fun k hk => hB k (by omega))]
    constructor
    · rintro (⟨k, hk, h⟩ | h)
      · exact ⟨k, by omega, h⟩
      · exact ⟨n, by omega, h⟩
    · rintro ⟨k, hk, h⟩
      by_cases e : k = n
      · rw [e] at h; exact Or.inr h
      · exact Or.inl ⟨k, by omega, h⟩
theorem nmG_0 {nm : Int32} {fs : Nat → Int32} : ∀ (u j : Nat), j + u ≤ 8 → (nmG nm fs u j = 0 ↔ ∃ i, j ≤ i ∧ i < j + u ∧ nmB nm i ∧ fs i = 0)
  | 0, j, _ => by
    constructor
    · intro q
      exact absurd (show (1 : Int32) = 0 from q) (by decide)
    · rintro ⟨i, h1, h2, -⟩
      omega
  | u + 1, j, h => by
    rw [nmG_s (by omega), Nat.add_sub_cancel, nI_clamp (by omega)]
    have ih := nmG_0 (nm := nm) (fs := fs) u (j + 1) (by omega)
    have up : (∃ i, j + 1 ≤ i ∧ i < j + 1 + u ∧ nmB nm i ∧ fs i = 0) → ∃ i, j ≤ i ∧ i < j + (u + 1) ∧ nmB nm i ∧ fs i = 0 := fun ⟨i, h1, h2, h3⟩ => ⟨i, by omega, by omega, h3⟩
    by_cases hb : nmB nm j
    · rw [if_pos hb]
      by_cases hf : fs j = 0
      · rw [if_pos hf]
        exact ⟨fun _ => ⟨j, by omega, by omega, hb, hf⟩, fun _ => rfl⟩
      · rw [if_neg hf, ih]
        refine ⟨up, ?_⟩
        rintro ⟨i, h1, h2, h3, h4⟩
        by_cases e : i = j
        · rw [e] at h4; exact absurd h4 hf
        · exact ⟨i, by omega, by omega, h3, h4⟩
    · rw [if_neg hb, ih]
      refine ⟨up, ?_⟩
      rintro ⟨i, h1, h2, h3, h4⟩
      by_cases e : i = j
      · rw [e] at h3; exact absurd h3 hb
      · exact ⟨i, by omega, by omega, h3, h4⟩
theorem lk_0 {fz : Nat → Int32} {v : Int32} (hv : OpV v) : ¬ o_Mo_lacks_r fz v = 0 ↔ ∃ i, i < 8 ∧ v = nI (100 + i) ∧ fz i = 0 := by
  unfold o_Mo_lacks_r
  obtain ⟨n, ⟨h, rfl⟩ | ⟨h, rfl⟩ | ⟨h, rfl⟩⟩ := hv
  · rw [if_pos (lt_100 (by omega))]
    refine ⟨fun q => absurd rfl q, ?_⟩
    rintro ⟨i, hi, q, -⟩
    exact absurd ((nI_eq (by omega) (by omega)).mp q) (by omega)
  · have e3 : nI (100 + n) - 100 = nI n := nI_sb 100 n
    have h1000 : ¬ (1000 : Int32) ≤ nI (100 + n) := nI_ge (b := 1000) (by omega) (by decide)
    rw [if_neg (nlt_100 (by omega) (by omega)), if_neg h1000, e3, nI_clamp (by omega)]
    by_cases hf : fz n = 0
    · rw [if_pos hf]
      exact ⟨fun _ => ⟨n, h, rfl, hf⟩, fun _ => by decide⟩
    · rw [if_neg hf]
      refine ⟨fun q => absurd rfl q, ?_⟩
      rintro ⟨i, hi, q, q2⟩
      have e : n = i := by
        have := (nI_eq (by omega) (by omega)).mp q
        omega
      rw [← e] at q2
      exact absurd q2 hf
  · have h1000 : (1000 : Int32) ≤ nI (1000 + n) := nI_le (a := 1000) (by omega) (by omega)
    rw [if_neg (nlt_100 (by omega) (by omega)), if_pos h1000]
    refine ⟨fun q => absurd rfl q, ?_⟩
    rintro ⟨i, hi, q, -⟩
    exact absurd ((nI_eq (by omega) (by omega)).mp q) (by omega)
theorem myG_0 {sc fz : Nat → Int32} {ln : Nat} (hB : RBK sc ln) (hln : ln ≤ 60) : ∀ (u k : Nat), k + u = ln → (myG sc fz u k = 0 ↔ ∃ i j, k ≤ i ∧ i < ln ∧ j < 8 ∧ Nms sc i j ∧ fz j = 0)
  | 0, k, h => by
    constructor
    · intro q
      exact absurd (show (1 : Int32) = 0 from q) (by decide)
    · rintro ⟨i, j, h1, h2, -⟩
      omega
  | u + 1, k, h => by
    rw [myG_s (by omega), Nat.add_sub_cancel]
    obtain ⟨r, z, e1, e5, hr, hz, p2, p3, p4, -⟩ := hB k (by omega)
    have ih := myG_0 (fz := fz) hB hln u (k + 1) (by omega)
    have l2 : ¬ lk sc fz k 2 = 0 ↔ ∃ i, i < 8 ∧ sc (6 * k + 2) = nI (100 + i) ∧ fz i = 0 := by
      unfold lk; rw [ix6 (by omega) (by decide)]; exact lk_0 p2
    have l3 : ¬ lk sc fz k 3 = 0 ↔ ∃ i, i < 8 ∧ sc (6 * k + 3) = nI (100 + i) ∧ fz i = 0 := by
      unfold lk; rw [ix6 (by omega) (by decide)]; exact lk_0 p3
    have l4 : ¬ lk sc fz k 4 = 0 ↔ ∃ i, i < 8 ∧ sc (6 * k + 4) = nI (100 + i) ∧ fz i = 0 := by
      unfold lk; rw [ix6 (by omega) (by decide)]; exact lk_0 p4
    by_cases c2 : lk sc fz k 2 = 0
    · rw [if_pos c2]
      by_cases c3 : lk sc fz k 3 = 0
      · rw [if_pos c3]
        by_cases c4 : lk sc fz k 4 = 0
        · rw [if_pos c4, ih]
          constructor
          · rintro ⟨i, j, h1, h2, h3⟩
            exact ⟨i, j, by omega, h2, h3⟩
          · rintro ⟨i, j, h1, h2, h3, h4, h5⟩
            by_cases e : i = k
            · subst e
              rcases h4 with h4 | h4 | h4
              · exact absurd c2 (l2.mpr ⟨j, h3, h4, h5⟩)
              · exact absurd c3 (l3.mpr ⟨j, h3, h4, h5⟩)
              · exact absurd c4 (l4.mpr ⟨j, h3, h4, h5⟩)
            · exact ⟨i, j, by omega, h2, h3, h4, h5⟩
        · rw [if_neg c4]
          obtain ⟨i, h1, h2, h3⟩ := l4.mp c4
          exact ⟨fun _ => ⟨k, i, Nat.le_refl _, by omega, h1, Or.inr (Or.inr h2), h3⟩, fun _ => rfl⟩
      · rw [if_neg c3]
        obtain ⟨i, h1, h2, h3⟩ := l3.mp c3
        exact ⟨fun _ => ⟨k, i, Nat.le_refl _, by omega, h1, Or.inr (Or.inl h2), h3⟩, fun _ => rfl⟩
    · rw [if_neg c2]
      obtain ⟨i, h1, h2, h3⟩ := l2.mp c2
      exact ⟨fun _ => ⟨k, i, Nat.le_refl _, by omega, h1, Or.inl h2, h3⟩, fun _ => rfl⟩
