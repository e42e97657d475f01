/-! the readers, from the first statement to the last -/
def RI (X0 X : ScT) (fd : Nat → Int32) (fr m o p : Nat) : Prop := X = bX fd X0 fr ∧ X.2.2.2.2.2.2.1 = nI m ∧ X.2.2.2.2.2.2.2.1 = nI o ∧ m ≤ 12 ∧ o = oI fd fr ∧ o ≤ 16 ∧ cI fd fr ≤ p + m ∧ RBK fd fr ∧ SOk X
theorem RI.step {X0 X : ScT} {fd' fd : Nat → Int32} {fr m o p e : Nat} {w : Int32} {r : Nat} {o2 o3 o4 : Int32} {z : Nat} (h : RI X0 X fd fr m o p) (hd : RwD fd' fd fr w (nI r) o2 o3 o4 (nI z)) (hok : RowOk w r o2 o3 o4 z) (hm : m + rC w r z ≤ 12) (ho : o + rO w ≤ 16) (hc : p + rT w r z ≤ e + rC w r z) : RI X0 (rowX X w r o2 o3 o4 z) fd' (fr + 1) (m + rC w r z) (o + rO w) e := by
  obtain ⟨h1, h2, h3, h4, h5, h6, h7, h8, h9⟩ := h
  obtain ⟨d0, d1, d2, d3, d4, d5, d6⟩ := hd
  have hr' : (nI r).toNatClampNeg = r := nI_clamp (by have := hok.1; omega)
  have hz' : (nI z).toNatClampNeg = z := nI_clamp (by have := hok.2.1; omega)
  have hcc := rowX_c (X := X) hok h2 h3 hm ho
  refine ⟨?_, hcc.1, hcc.2, hm, ?_, ho, ?_, ?_, rowX_ok hok h9⟩
  · show _ = rowX (bX fd' X0 fr) (fd' (6 * fr)) (fd' (6 * fr + 1)).toNatClampNeg (fd' (6 * fr + 2)) (fd' (6 * fr + 3)) (fd' (6 * fr + 4)) (fd' (6 * fr + 5)).toNatClampNeg
    rw [bX_cg fr d0, d1, d2, d3, d4, d5, d6, hr', hz', ← h1]
  · show o + rO w = oI fd' fr + rO (fd' (6 * fr))
    rw [oI_cg fr d0, d1, ← h5]
  · show cI fd' fr + rT (fd' (6 * fr)) (fd' (6 * fr + 1)).toNatClampNeg (fd' (6 * fr + 5)).toNatClampNeg ≤ _
    rw [cI_cg fr d0, d1, d2, d6, hr', hz']
    omega
  · intro k hk
    by_cases hkf : k = fr
    · subst hkf
      exact ⟨r, z, d2, d6, by rw [d1, d3, d4, d5]; exact hok⟩
    · exact RBK_cg d0 h8 k (by omega)
theorem RI.wk {X0 X : ScT} {fd : Nat → Int32} {fr m o p e : Nat} (h : RI X0 X fd fr m o p) (he : p ≤ e) : RI X0 X fd fr m o e := by
  obtain ⟨h1, h2, h3, h4, h5, h6, h7, h8, h9⟩ := h
  exact ⟨h1, h2, h3, h4, h5, h6, by omega, h8, h9⟩
theorem rdG_tie {f : Nat → Int32} {L : Nat} {K B W : Nat → Int32} (hL : L ≤ 120) (hf : ∀ j, j < L → ¬ f j < 0 ∧ ¬ 126 < f j) (X0 : ScT) : ∀ (u k p : Nat) (fd : Nat → Int32) (fr m o : Nat) (X : ScT), At f L K B W k p → L < u + p → 2 * fr ≤ p → RI X0 X fd fr m o p →
    (∃ k' Y, rdG K W u (nI k) X = (0, nI k', Y) ∧ k' ≤ L ∧ (mRG f L (L + 1) p 0 fd fr (nI m) (nI o)).1 = B k' ∧ SOk Y) ∨
    (∃ k' Y n m' o' fd' q, rdG K W u (nI k) X = (1, nI k', Y) ∧ mRG f L (L + 1) p 0 fd fr (nI m) (nI o) = (-1, fd', nI n, nI m', nI o', q) ∧ n ≤ 60 ∧ RI X0 Y fd' n m' o' L)
  | 0, k, p, fd, fr, m, o, X, hA, hu, hfp, hI => by
    have := hA.kp
    omega
  | u + 1, k, p, fd, fr, m, o, X, hA, hu, hfp, hI => by
    have hkp := hA.kp
    have hfr : fr ≤ 60 := by omega
    rw [rdG_s (by omega), Nat.add_sub_cancel]
    rcases tie_sta (fd := fd) (fr := fr) hL hf hA hfr hI.2.2.2.1 hI.2.2.2.2.2.1 hI.2.1 hI.2.2.1 with ⟨k', Y, hR, hk', hB, hs⟩ | ⟨k', e, st, fd', w, r, o2, o3, o4, z, hR, hpe, heL, A2, hM, hst, hd, hok, hm, ho, hc⟩
    · refine Or.inl ⟨k', Y, ?_, hk', hB, hI.2.2.2.2.2.2.2.2.same hs⟩
      rw [hR]
      exact if_pos rfl
    · have hA2 := A2.kp
      rw [hR]
      dsimp only
      rw [if_neg (by decide)]
      have h1 : ∃ fd1, ((st = 15 ∧ fd1 = fd') ∨ (st = 4 ∧ isS K W (nI k') 63 = 0 ∧ kOS K W (nI k') = 0 ∧ fd1 = upd fd' (6 * fr) 0)) ∧ RwD fd1 fd fr w (nI r) o2 o3 o4 (nI z) := by
        rcases hst with h15 | ⟨h4, h63, hk0, hw⟩
        · exact ⟨fd', Or.inl ⟨h15, rfl⟩, hd⟩
        · obtain ⟨d0, d1, d2, d3, d4, d5, d6⟩ := hd
          refine ⟨_, Or.inr ⟨h4, h63, hk0, rfl⟩, fun j hj => ?_, ?_, ?_, ?_, ?_, ?_, ?_⟩
          · rw [upd_ne (by omega)]; exact d0 j hj
          · rw [upd_eq, hw]
          · rw [upd_ne (by omega)]; exact d2
          · rw [upd_ne (by omega)]; exact d3
          · rw [upd_ne (by omega)]; exact d4
          · rw [upd_ne (by omega)]; exact d5
          · rw [upd_ne (by omega)]; exact d6
      obtain ⟨fd1, hst1, hd1⟩ := h1
      have hI2 := hI.step hd1 hok hm ho hc
      rw [hM]
      rcases wh_tie (cm := nI (m + rC w r z)) (op := nI (o + rO w)) hL hf A2 hfr st fd1 hst1 with ⟨g1, q, g2⟩ | ⟨g1, g2, e', p1, p2, A3, g3⟩ | ⟨g1, g2, g3⟩
      · refine Or.inr ⟨k', _, fr + 1, _, _, fd1, q, ?_, g2, by omega, hI2.wk heL⟩
        rw [if_neg (isT_y (by omega) g1)]
      · rw [if_pos (isT_n (by omega) g1), if_neg g2, tkA_1 g2, nI_1, g3]
        exact rdG_tie hL hf X0 u (k' + 1) e' fd1 (fr + 1) _ _ _ A3 (by omega) (by omega) (hI2.wk (by omega))
      · refine Or.inl ⟨k', _, ?_, by omega, g3, hI2.2.2.2.2.2.2.2.2⟩
        rw [if_pos (isT_n (by omega) g1), if_pos g2, tkA_0 g2]
theorem scG_bg {f : Nat → Int32} {L : Nat} : ∀ (u p : Nat) (X : (Nat → Int32) × (Nat → Int32) × (Nat → Int32) × Nat), L ≤ 120 → (∀ j, ¬ X.2.1 j < 0) → ∀ j, ¬ (scG f L u p X).2.1 j < 0
  | 0, p, X, hL, h => h
  | u + 1, p, X, hL, h => by
    rw [scG_s (by omega), Nat.add_sub_cancel]
    split
    · exact h
    · split
      · exact scG_bg u _ _ hL h
      · refine scG_bg u _ _ hL (fun j => ?_)
        exact upd_c (P := fun v => ¬ v < 0) (nI_pos (by omega)) h j
theorem tBg_p {f : Nat → Int32} {L : Nat} {k0 b0 v0 : Nat → Int32} (hL : L ≤ 120) (h : ∀ j, ¬ b0 j < 0) (j : Nat) : ¬ tBg f L k0 b0 v0 j < 0 :=
  upd_c (P := fun v => ¬ v < 0) (nI_pos (by omega)) (scG_bg (L + 1) 0 (k0, b0, v0, 0) hL h) j
/-- both readers, over a text -/
theorem read_tie {f : Nat → Int32} {L : Nat} {k0 b0 v0 : Nat → Int32} (hL : L ≤ 120) (hf : ∀ j, j < L → ¬ f j < 0 ∧ ¬ 126 < f j) (X0 : ScT) (hX : SOk X0) (fd : Nat → Int32) :
    (∃ k' Y, rdG (tKd f L k0 b0 v0) (tVl f L k0 b0 v0) (L + 1) 0 (clS X0) = (0, nI k', Y) ∧ k' ≤ L ∧ (mRG f L (L + 1) 0 0 fd 0 0 0).1 = tBg f L k0 b0 v0 k' ∧ SOk Y) ∨
    (∃ k' Y n m' o' fd' q, rdG (tKd f L k0 b0 v0) (tVl f L k0 b0 v0) (L + 1) 0 (clS X0) = (1, nI k', Y) ∧ mRG f L (L + 1) 0 0 fd 0 0 0 = (-1, fd', nI n, nI m', nI o', q) ∧ n ≤ 60 ∧ RI (clS X0) Y fd' n m' o' L) := by
  have h := rdG_tie (f := f) (L := L) hL hf (clS X0) (L + 1) 0 0 fd 0 0 0 (clS X0) (At.start (k0 := k0) (b0 := b0) (v0 := v0) hL) (by omega) (Nat.le_refl _) ⟨rfl, rfl, rfl, by decide, rfl, by decide, Nat.zero_le _, fun k hk => absurd hk (Nat.not_lt_zero k), hX⟩
  exact h
