/-! what the law's walk asks for between two calls -/
theorem vpI0 {i Lx : Nat} (hi : i + 4 ≤ Lx) (hL : Lx ≤ 2048) : vp_in (nI i) Lx := vp_in_nI (by omega) (by omega)
theorem vpI1 {i Lx : Nat} (hi : i + 4 ≤ Lx) (hL : Lx ≤ 2048) : vp_in (nI i + 1) Lx := by
  rw [nI_1]; exact vp_in_nI (by omega) (by omega)
theorem vpI2 {i Lx : Nat} (hi : i + 4 ≤ Lx) (hL : Lx ≤ 2048) : vp_in (nI i + 2) Lx := by
  rw [show nI i + 2 = nI (i + 2) from nI_add i 2]; exact vp_in_nI (by omega) (by omega)
theorem vpI3 {i Lx : Nat} (hi : i + 4 ≤ Lx) (hL : Lx ≤ 2048) : vp_in (nI i + 3) Lx := by
  rw [show nI i + 3 = nI (i + 3) from nI_add i 3]; exact vp_in_nI (by omega) (by omega)
theorem lg_rf (x : Int64) : lg_cmp x x = 0 := by
  unfold lg_cmp
  rw [if_neg (fun q : x > x => Int64.lt_irrefl q), if_pos rfl]
theorem lc0 {lo : Nat → Int64} {x y : Int32} (h : x = y) : lg_cmp (vp_updL lo 0 x.toInt64 0) y.toInt64 = 0 := by
  rw [h]
  exact lg_rf _
theorem out_in {oc x : Int32} {fo go : Nat → Int32} (h : ∃ ko, oc = nI ko ∧ ko ≤ 16 ∧ ∀ j, j < ko → fo j = go j) (h0 : ¬ x < 0) (h1 : x < oc) : vp_in x 16 := by
  obtain ⟨ko, rfl, hk, -⟩ := h
  obtain ⟨j, hj, rfl⟩ := nI_of h0
  have : j < ko := (nI_ltI hj (by omega)).mp h1
  exact vp_in_nI (by omega) (by decide)
theorem out_eq {oc x : Int32} {fo go : Nat → Int32} (h : ∃ ko, oc = nI ko ∧ ko ≤ 16 ∧ ∀ j, j < ko → fo j = go j) (h0 : ¬ x < 0) (h1 : x < oc) : fo x.toNatClampNeg = go x.toNatClampNeg := by
  obtain ⟨ko, rfl, hk, hf⟩ := h
  obtain ⟨j, hj, rfl⟩ := nI_of h0
  have : j < ko := (nI_ltI hj (by omega)).mp h1
  rw [nI_clamp hj]
  exact hf j this
theorem ch_127 : ∀ x : Nat, x < 127 → vp_nar .char ((nI x).toUInt32 % 65536).toInt32 = nI x := by decide +kernel
theorem nar_127 : ∀ x : Nat, x < 127 → narrow .char (.int (nI x)) = .int (nI x) := by decide +kernel
theorem mwB_ch {ch : Int64} : ∀ (u k q n a : Nat) (f : Nat → Int32), mwA ch u k a = some n → q + u ≤ 200 → (∀ j, j < q → ¬ f j < 0 ∧ ¬ 126 < f j) → (∀ j, narrow .char (.int (f j)) = .int (f j)) → (∀ j, j < (mwB ch u k q f).1 → ¬ (mwB ch u k q f).2 j < 0 ∧ ¬ 126 < (mwB ch u k q f).2 j) ∧ (∀ j, narrow .char (.int ((mwB ch u k q f).2 j)) = .int ((mwB ch u k q f).2 j))
  | 0, k, q, n, a, f, _, _, h1, h2 => ⟨h1, h2⟩
  | u + 1, k, q, n, a, f, hA, hq, h1, h2 => by
    rw [mwA_s (by omega), Nat.add_sub_cancel] at hA
    rw [mwB_s (by omega), Nat.add_sub_cancel]
    by_cases c0 : mcd_ ch k = 0
    · rw [if_pos c0] at hA
      rw [if_pos c0]
      exact mwB_ch u (k + 1) q n a f hA (by omega) h1 h2
    · rw [if_neg c0] at hA
      rw [if_neg c0]
      by_cases c1 : mcd_ ch k < 32
      · rw [if_pos c1] at hA; cases hA
      · rw [if_neg c1] at hA
        by_cases c2 : mcd_ ch k ≤ 126
        · rw [if_pos c2] at hA
          obtain ⟨x, hx, ex⟩ := nI_of (fun z : mcd_ ch k < 0 => c1 (Int32.lt_trans z (by decide)))
          have hx2 : x < 127 := by
            rw [ex] at c2
            have := (nI_leI (b := 126) hx (by decide)).mp c2
            omega
          have hv : vp_nar .char ((mcd_ ch k).toUInt32 % 65536).toInt32 = nI x := by rw [ex]; exact ch_127 x hx2
          rw [hv, nI_clamp (n := q) (by omega)]
          refine mwB_ch u (k + 1) (q + 1) n (a + 1) _ hA (by omega) (fun j hj => ?_) (fun j => ?_)
          · by_cases e : j = q
            · rw [e, upd_eq]; exact ⟨nI_pos (by omega), nI_nlt (a := 126) (by omega) (by decide)⟩
            · rw [upd_ne e]; exact h1 j (by omega)
          · by_cases e : j = q
            · rw [e, upd_eq]; exact nar_127 x hx2
            · rw [upd_ne e]; exact h2 j
        · rw [if_neg c2] at hA; cases hA
/-- write by both leaves both texts alike -/
theorem wr_inv {ch : Int64} {L : Nat} {fr f : Nat → Int32} (hL : L ≤ 120) (h1 : ∀ j, j < L → ¬ f j < 0 ∧ ¬ 126 < f j) (h2 : ∀ j, j < L → fr j = f j) (h3 : ∀ j, narrow .char (.int (f j)) = .int (f j)) :
    ∃ L', L' ≤ 120 ∧ wrN L (wrR ch L fr) = nI L' ∧ (mwR ch L f).2.1 = L' ∧ (∀ j, j < L' → ¬ (mwR ch L f).2.2 j < 0 ∧ ¬ 126 < (mwR ch L f).2.2 j) ∧ (∀ j, j < L' → (wrR ch L fr).2.2 j = (mwR ch L f).2.2 j) ∧ (∀ j, narrow .char (.int ((mwR ch L f).2.2 j)) = .int ((mwR ch L f).2.2 j)) := by
  have hm : (mwR ch L f = (0, L, f)) ∨ (∃ n, mwA ch 8 0 0 = some n ∧ mwR ch L f = (1, mwB ch 8 0 L f)) := by
    unfold mwR
    cases hA : mwA ch 8 0 0 with
    | none => exact Or.inl rfl
    | some n =>
      dsimp only
      by_cases hc : nI L + nI n ≤ 120
      · rw [if_pos hc]; exact Or.inr ⟨n, rfl, rfl⟩
      · rw [if_neg hc]; exact Or.inl rfl
  have hok : (∀ j, j < (mwR ch L f).2.1 → ¬ (mwR ch L f).2.2 j < 0 ∧ ¬ 126 < (mwR ch L f).2.2 j) ∧ (∀ j, narrow .char (.int ((mwR ch L f).2.2 j)) = .int ((mwR ch L f).2.2 j)) := by
    rcases hm with e | ⟨n, hA, e⟩
    · rw [e]; exact ⟨h1, h3⟩
    · rw [e]; exact mwB_ch 8 0 L n 0 f hA (by omega) h1 h3
  rcases write_tie ch L fr f hL h2 with ⟨-, -, w3, w4, w5⟩ | ⟨-, -, w3, w4, w5⟩
  · exact ⟨_, w4, w3, rfl, hok.1, w5, hok.2⟩
  · have e1 : (mwR ch L f).2.1 = L := by rw [w4]
    have e2 : (mwR ch L f).2.2 = f := by rw [w4]
    refine ⟨L, hL, w3, e1, ?_, ?_, hok.2⟩
    · rw [e2]; exact h1
    · rw [e2]; intro j hj; rw [w5 j hj]; exact h2 j hj
theorem SOk.sc {X Z : ScT} {k : Nat} (hX : SOk X) (hZ : SOk Z) (h1 : X.2.2.2.2.2.1 = nI k) (h2 : k ≤ 132) : ScOk (scCp X Z) k ∧ ∀ i, i < k → okK ((scCp X Z).1 i) := by
  have hs := hX.cp hZ
  exact ⟨⟨h1, h2, fun j => (hs j).1, fun j => (hs j).2.1, fun j => (hs j).2.2.1, fun j => (hs j).2.2.2.1, fun j => (hs j).2.2.2.2.1⟩, fun i _ => (hs i).2.2.2.2.2⟩
theorem SR.cq {X : ScT} {sc : Nat → Int32} {n : Nat} (h : SR X sc n) : ∃ kq, X.2.2.2.2.2.1 = nI kq ∧ kq ≤ 132 := by
  obtain ⟨h1, h2, h3, h4, X0, h5, h6, h7, h8, h9⟩ := h
  exact ⟨_, h7, h3⟩
