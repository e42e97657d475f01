/-! the k-th token -/
theorem upd_ne {f : Nat → Int32} {i j : Nat} {v : Int32} (h : ¬ j = i) : upd f i v j = f j := by
  unfold upd
  rw [if_neg h]
theorem upd_eq {f : Nat → Int32} {i : Nat} {v : Int32} : upd f i v i = v := by
  unfold upd
  rw [if_pos rfl]
theorem scG_keep {f : Nat → Int32} {L : Nat} (hL : L ≤ 120) : ∀ (u p : Nat) (X : (Nat → Int32) × (Nat → Int32) × (Nat → Int32) × Nat), p ≤ L → X.2.2.2 ≤ p → ∀ j, j < X.2.2.2 → (scG f L u p X).1 j = X.1 j ∧ (scG f L u p X).2.1 j = X.2.1 j ∧ (scG f L u p X).2.2.1 j = X.2.2.1 j
  | 0, p, X, h1, h2, j, hj => ⟨rfl, rfl, rfl⟩
  | u + 1, p, X, h1, h2, j, hj => by
    rw [scG_s (by omega)]
    split
    · exact ⟨rfl, rfl, rfl⟩
    · next hp =>
      have ht := tkT_le (f := f) (L := L) (b := p) (by omega)
      split
      · exact scG_keep hL u (p + 1) X (by omega) (by omega) j hj
      · obtain ⟨k1, k2, k3⟩ := scG_keep hL u (tkT f L p).1 (upd X.1 (nI X.2.2.2).toNatClampNeg (tkT f L p).2.1, upd X.2.1 (nI X.2.2.2).toNatClampNeg (nI p), upd X.2.2.1 (nI X.2.2.2).toNatClampNeg (tkT f L p).2.2, X.2.2.2 + 1) ht.2 (by show X.2.2.2 + 1 ≤ _; omega) j (by show j < X.2.2.2 + 1; omega)
        have hne : ¬ j = (nI X.2.2.2).toNatClampNeg := by rw [nI_clamp (by omega)]; omega
        exact ⟨k1.trans (upd_ne hne), k2.trans (upd_ne hne), k3.trans (upd_ne hne)⟩
/-- after k tokens the scan stands at place p -/
def TkR (f : Nat → Int32) (L : Nat) (F : (Nat → Int32) × (Nat → Int32) × (Nat → Int32) × Nat) (k p : Nat) : Prop := ∃ X : (Nat → Int32) × (Nat → Int32) × (Nat → Int32) × Nat, X.2.2.2 = k ∧ k ≤ p ∧ p ≤ L ∧ scG f L (L + 1) p X = F
theorem TkR.start {f : Nat → Int32} {L : Nat} {kd bg vl : Nat → Int32} : TkR f L (tkX f L kd bg vl) 0 0 := ⟨(kd, bg, vl, 0), rfl, Nat.le_refl _, Nat.zero_le _, rfl⟩
theorem TkR.fin {f : Nat → Int32} {L : Nat} {F : (Nat → Int32) × (Nat → Int32) × (Nat → Int32) × Nat} {k p : Nat} (hL : L ≤ 120) (h : TkR f L F k p) (hb : mB f L p = L) : F.2.2.2 = k := by
  obtain ⟨X, h1, h2, h3, h4⟩ := h
  rw [← h4, sc_end hL h3 hb]
  exact h1
theorem TkR.tok {f : Nat → Int32} {L : Nat} {F : (Nat → Int32) × (Nat → Int32) × (Nat → Int32) × Nat} {k p : Nat} (hL : L ≤ 120) (h : TkR f L F k p) (hb : mB f L p < L) : F.1 k = (tkT f L (mB f L p)).2.1 ∧ F.2.1 k = nI (mB f L p) ∧ F.2.2.1 k = (tkT f L (mB f L p)).2.2 ∧ TkR f L F (k + 1) (tkT f L (mB f L p)).1 := by
  obtain ⟨X, h1, h2, h3, h4⟩ := h
  have hB : p ≤ mB f L p ∧ mB f L p ≤ L := mskG_le hL _ p h3
  have ht := tkT_le (f := f) (L := L) (b := mB f L p) hb
  rw [sc_tok hL h3 hb] at h4
  obtain ⟨k1, k2, k3⟩ := scG_keep (f := f) hL (L + 1) (tkT f L (mB f L p)).1 (upd X.1 (nI X.2.2.2).toNatClampNeg (tkT f L (mB f L p)).2.1, upd X.2.1 (nI X.2.2.2).toNatClampNeg (nI (mB f L p)), upd X.2.2.1 (nI X.2.2.2).toNatClampNeg (tkT f L (mB f L p)).2.2, X.2.2.2 + 1) ht.2 (by show X.2.2.2 + 1 ≤ _; omega) k (by show k < X.2.2.2 + 1; omega)
  rw [h4] at k1 k2 k3
  have hk : (nI X.2.2.2).toNatClampNeg = k := by rw [nI_clamp (by omega)]; exact h1
  refine ⟨?_, ?_, ?_, _, ?_, by omega, ht.2, h4⟩
  · rw [k1]; show upd _ _ _ k = _; rw [hk]; exact upd_eq
  · rw [k2]; show upd _ _ _ k = _; rw [hk]; exact upd_eq
  · rw [k3]; show upd _ _ _ k = _; rw [hk]; exact upd_eq
  · show X.2.2.2 + 1 = k + 1; omega
