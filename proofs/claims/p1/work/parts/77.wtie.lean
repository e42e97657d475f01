/-! write: the class and the reference agree -/
theorem by_bits (x : BitVec 64) (n : Nat) (hn : n ≤ 56) : (x >>> n).setWidth 32 &&& 255#32 = ((x.sshiftRight n) &&& 255#64).setWidth 32 := by
  apply BitVec.eq_of_getLsbD_eq
  intro i hi
  have e1 : (255#32).getLsbD i = decide (i < 8) := by
    have : ∀ i, i < 32 → (255#32).getLsbD i = decide (i < 8) := by decide
    exact this i hi
  have e2 : (255#64).getLsbD i = decide (i < 8) := by
    have : ∀ i, i < 32 → (255#64).getLsbD i = decide (i < 8) := by decide
    exact this i hi
  rw [BitVec.getLsbD_and, BitVec.getLsbD_setWidth, BitVec.getLsbD_setWidth, BitVec.getLsbD_and, e1, e2, BitVec.getLsbD_ushiftRight, BitVec.getLsbD_sshiftRight]
  by_cases h8 : i < 8
  · have h1 : n + i < 64 := by omega
    have h2 : ¬ 64 ≤ i := by omega
    simp [h8, h1, h2, hi]
  · simp [h8]
theorem wcd_mcd (ch : Int64) (j : Nat) (hj : j < 8) : wcd ch j = mcd_ ch j := by
  have key : ∀ (n : Nat) (u : UInt64) (v : Int64), n ≤ 56 → (u.toBitVec % 64).toNat = n → (v.toBitVec.smod 64).toNat = n → ((ch.toUInt64 >>> u).toInt64).toInt32 &&& 255 = ((ch >>> v) &&& 255).toInt32 := by
    intro n u v hn hu hv
    apply Int32.toBitVec_inj.mp
    rw [Int32.toBitVec_and, Int64.toBitVec_toInt32, Int64.toBitVec_toInt32, Int64.toBitVec_and, Int64.toBitVec_shiftRight]
    have e1 : ((ch.toUInt64 >>> u).toInt64).toBitVec = ch.toBitVec >>> n := by
      show (ch.toUInt64 >>> u).toBitVec = _
      rw [UInt64.toBitVec_shiftRight]
      show ch.toBitVec >>> (u.toBitVec % 64) = _
      rw [BitVec.ushiftRight_eq', hu]
    rw [e1]
    have e2 : ch.toBitVec.sshiftRight' (v.toBitVec.smod 64) = ch.toBitVec.sshiftRight n := by
      show ch.toBitVec.sshiftRight (v.toBitVec.smod 64).toNat = _
      rw [hv]
    rw [e2]
    rw [BitVec.signExtend_eq_setWidth_of_le _ (by decide), BitVec.signExtend_eq_setWidth_of_le _ (by decide)]
    exact by_bits ch.toBitVec n hn
  unfold wcd mcd_
  rcases (show j = 0 ∨ j = 1 ∨ j = 2 ∨ j = 3 ∨ j = 4 ∨ j = 5 ∨ j = 6 ∨ j = 7 by omega) with rfl | rfl | rfl | rfl | rfl | rfl | rfl | rfl
  · exact key 0 _ _ (by decide) (by decide) (by decide)
  · exact key 8 _ _ (by decide) (by decide) (by decide)
  · exact key 16 _ _ (by decide) (by decide) (by decide)
  · exact key 24 _ _ (by decide) (by decide) (by decide)
  · exact key 32 _ _ (by decide) (by decide) (by decide)
  · exact key 40 _ _ (by decide) (by decide) (by decide)
  · exact key 48 _ _ (by decide) (by decide) (by decide)
  · exact key 56 _ _ (by decide) (by decide) (by decide)
/-- the walk of the class from place j on, in the reference's words -/
theorem wr_tie (ch : Int64) (L : Nat) : ∀ (u j a : Nat) (f f' : Nat → Int32), u + j = 8 → a ≤ j → L + a ≤ 120 → (∀ i, i < L + a → f i = f' i) →
    (((wrG ch L u j a f).1 = 1 ∧ (∃ n, mwA ch u j a = some n ∧ L + n ≤ 120 ∧ (wrG ch L u j a f).2.1 = n ∧ (mwB ch u j (L + a) f').1 = L + n ∧ ∀ i, i < L + n → (wrG ch L u j a f).2.2 i = (mwB ch u j (L + a) f').2 i)) ∨
     ((wrG ch L u j a f).1 = 0 ∧ (mwA ch u j a = none ∨ ∃ n, mwA ch u j a = some n ∧ 120 < L + n))) ∧ (∀ i, i < L + a → (wrG ch L u j a f).2.2 i = f i) := by
  intro u
  induction u with
  | zero =>
    intro j a f f' hu ha hLa hf
    exact ⟨Or.inl ⟨rfl, a, rfl, hLa, rfl, rfl, hf⟩, fun i _ => rfl⟩
  | succ u ih =>
    intro j a f f' hu ha hLa hf
    have hw := wcd_mcd ch j (by omega)
    rw [wrG_s (n := u + 1) (Nat.succ_pos u), mwA_s (u := u + 1) (Nat.succ_pos u), mwB_s (u := u + 1) (Nat.succ_pos u), ← hw]
    simp only [Nat.add_sub_cancel]
    by_cases h0 : wcd ch j = 0
    · rw [if_pos h0, if_pos h0, if_pos h0]
      exact ih (j + 1) a f f' (by omega) (by omega) hLa hf
    · rw [if_neg h0, if_neg h0, if_neg h0]
      by_cases h1 : wcd ch j < 32
      · rw [if_pos h1, if_pos h1]
        exact ⟨Or.inr ⟨rfl, Or.inl rfl⟩, fun i _ => rfl⟩
      · rw [if_neg h1, if_neg h1]
        by_cases h2 : 126 < wcd ch j
        · rw [if_pos h2, if_neg (Int32.not_le.mpr h2)]
          exact ⟨Or.inr ⟨rfl, Or.inl rfl⟩, fun i _ => rfl⟩
        · rw [if_neg h2, if_pos (Int32.not_lt.mp h2)]
          by_cases h3 : nI L + nI a < 120
          · rw [if_pos h3]
            have h3' : L + a < 120 := by
              rw [nI_add] at h3
              exact (nI_ltI (a := L + a) (b := 120) (by omega) (by omega)).mp h3
            have ec : (nI L + nI a).toNatClampNeg = L + a := by rw [nI_add, nI_clamp (by omega)]
            have ec2 : (nI (L + a)).toNatClampNeg = L + a := nI_clamp (by omega)
            rw [ec, ec2]
            obtain ⟨r1, r2⟩ := ih (j + 1) (a + 1) (upd f (L + a) (vp_nar .char ((wcd ch j).toUInt32 % 65536).toInt32)) (upd f' (L + a) (vp_nar .char ((wcd ch j).toUInt32 % 65536).toInt32)) (by omega) (by omega) (by omega) (fun i hi => by
              by_cases q : i = L + a
              · rw [q, pk_us, pk_us]
              · rw [pk_un q, pk_un q]
                exact hf i (by omega))
            refine ⟨r1, fun i hi => ?_⟩
            rw [r2 i (by omega), pk_un (by omega)]
          · rw [if_neg h3]
            have h3' : 120 ≤ L + a := by
              apply Nat.le_of_not_lt
              intro q
              apply h3
              rw [nI_add]
              exact nI_lt (b := 120) q (by decide)
            refine ⟨Or.inr ⟨rfl, ?_⟩, fun i _ => rfl⟩
            cases hm : mwA ch u (j + 1) (a + 1) with
            | none => exact Or.inl rfl
            | some n =>
              have := mwA_C u (j + 1) (a + 1) n hm
              exact Or.inr ⟨n, rfl, by omega⟩
theorem write_tie (ch : Int64) (L : Nat) (f f' : Nat → Int32) (hL : L ≤ 120) (hf : ∀ i, i < L → f i = f' i) :
    ((wrR ch L f).1 = 1 ∧ (mwR ch L f').1 = 1 ∧ wrN L (wrR ch L f) = nI (mwR ch L f').2.1 ∧ (mwR ch L f').2.1 ≤ 120 ∧ ∀ i, i < (mwR ch L f').2.1 → (wrR ch L f).2.2 i = (mwR ch L f').2.2 i) ∨
    ((wrR ch L f).1 = 0 ∧ (mwR ch L f').1 = 0 ∧ wrN L (wrR ch L f) = nI L ∧ (mwR ch L f').2 = (L, f') ∧ ∀ i, i < L → (wrR ch L f).2.2 i = f i) := by
  obtain ⟨r1, r2⟩ := wr_tie ch L 8 0 0 f f' rfl (Nat.le_refl _) hL hf
  rcases r1 with ⟨q1, n, q2, q3, q4, q5, q6⟩ | ⟨q1, q2⟩
  · have e : mwR ch L f' = (1, mwB ch 8 0 L f') := by
      unfold mwR
      rw [q2]
      exact if_pos (by rw [nI_add]; exact nI_le (b := 120) q3 (by omega))
    refine Or.inl ⟨q1, by rw [e], ?_, ?_, ?_⟩
    · rw [e]
      show wrN L (wrG ch L 8 0 0 f) = nI (mwB ch 8 0 (L + 0) f').1
      unfold wrN
      rw [if_neg (by rw [q1]; decide), q4, q5, nI_add]
    · rw [e]
      show (mwB ch 8 0 (L + 0) f').1 ≤ 120
      omega
    · rw [e]
      show ∀ i, i < (mwB ch 8 0 (L + 0) f').1 → _
      rw [q5]
      exact q6
  · have e : mwR ch L f' = (0, L, f') := by
      unfold mwR
      rcases q2 with q2 | ⟨n, q2, q3⟩
      · rw [q2]
      · rw [q2]
        have hn : n ≤ 8 := by have h1 := mwA_C 8 0 0 n q2; have h2 := mwC_le (ch := ch) 8 0; omega
        exact if_neg (fun h => by
          rw [nI_add] at h
          have := (nI_leI (a := L + n) (b := 120) (by omega) (by omega)).mp h
          omega)
    refine Or.inr ⟨q1, by rw [e], ?_, by rw [e], r2⟩
    unfold wrN
    exact if_pos q1
theorem write_same (ch : Int64) (L : Nat) (f f' : Nat → Int32) (hL : L ≤ 120) (hf : ∀ i, i < L → f i = f' i) : (wrR ch L f).1 = (mwR ch L f').1 := by
  rcases write_tie ch L f f' hL hf with ⟨a, b, -⟩ | ⟨a, b, -⟩ <;> rw [a, b]
