/-! a compiled script and its rows; a run by both -/
def SR (X : ScT) (sc : Nat → Int32) (n : Nat) : Prop := n ≤ 60 ∧ RBK sc n ∧ cI sc n ≤ 132 ∧ oI sc n ≤ 16 ∧ ∃ X0 : ScT, X0.2.2.2.2.2.1 = 0 ∧ X0.2.2.2.2.2.2.2.2 = 0 ∧ X.2.2.2.2.2.1 = nI (cI sc n) ∧ X.2.2.2.2.2.2.2.2 = (bX sc X0 n).2.2.2.2.2.2.2.2 ∧ (∀ j, j < cI sc n → X.1 j = (bX sc X0 n).1 j ∧ X.2.1 j = (bX sc X0 n).2.1 j ∧ X.2.2.1 j = (bX sc X0 n).2.2.1 j ∧ X.2.2.2.1 j = (bX sc X0 n).2.2.2.1 j ∧ X.2.2.2.2.1 j = (bX sc X0 n).2.2.2.2.1 j)
theorem bX_n {sc : Nat → Int32} {X0 : ScT} {n : Nat} (hn60 : n ≤ 60) (hB : RBK sc n) (hc : cI sc n ≤ 132) (ho : oI sc n ≤ 16) (hX0 : X0.2.2.2.2.2.1 = 0) : (bX sc X0 n).2.2.2.2.2.1 = nI (cI sc n) :=
  (rows_A (nd := fun _ => True) (fi := fun _ => 0) (fg := fun _ => 0) (fo := fun _ => 0) (v0 := fun _ => 0) (op0 := fun _ => 0) hn60 hB hc ho hX0 (fun _ _ _ _ _ _ _ => trivial) (fun _ _ => rfl) (fun _ _ _ => rfl) n (Nat.le_refl _)).1
theorem cpv_lt {f g : Nat → Int32} {n j : Nat} (hj : j < n) : va_cpy f g 0 0 n j = f j := by
  unfold va_cpy
  rw [if_pos ⟨Nat.zero_le _, by omega⟩, Nat.zero_add, Nat.sub_zero]
theorem cpv_ge {f g : Nat → Int32} {n j : Nat} (hj : ¬ j < n) : va_cpy f g 0 0 n j = g j := by
  unfold va_cpy
  rw [if_neg (by omega)]
theorem SOk.cp {X Y : ScT} (hX : SOk X) (hY : SOk Y) : SOk (scCp X Y) := by
  intro j
  unfold scCp
  dsimp only
  by_cases h : j < X.2.2.2.2.2.1.toNatClampNeg
  · rw [cpv_lt h, cpv_lt h, cpv_lt h, cpv_lt h, cpv_lt h]; exact hX j
  · rw [cpv_ge h, cpv_ge h, cpv_ge h, cpv_ge h, cpv_ge h]; exact hY j
theorem cpF_lt {n j : Nat} {dr sc : Nat → Int32} (h : j < n) : cpF n dr sc j = dr j := if_pos h
theorem cpF_ge {n j : Nat} {dr sc : Nat → Int32} (h : ¬ j < n) : cpF n dr sc j = sc j := if_neg h
theorem SR.mk {X0 Y Z : ScT} {fd sc : Nat → Int32} {n m o L : Nat} (hL : L ≤ 120) (hn : n ≤ 60) (h : RI (clS X0) Y fd n m o L) : SR (scCp Y Z) (cpF (6 * n) fd sc) n := by
  obtain ⟨h1, h2, h3, h4, h5, h6, h7, h8, h9⟩ := h
  have e : ∀ j, j < 6 * n → cpF (6 * n) fd sc j = fd j := fun j hj => cpF_lt hj
  have hc : cI (cpF (6 * n) fd sc) n = cI fd n := cI_cg n e
  have hcn : (bX fd (clS X0) n).2.2.2.2.2.1 = nI (cI fd n) := bX_n hn h8 (by omega) (by omega) rfl
  have hcY : Y.2.2.2.2.2.1.toNatClampNeg = cI fd n := by rw [h1, hcn, nI_clamp (by omega)]
  refine ⟨hn, RBK_cg e h8, by rw [hc]; omega, by rw [oI_cg n e, ← h5]; exact h6, clS X0, rfl, rfl, ?_, ?_, fun j hj => ?_⟩
  · rw [hc]
    show Y.2.2.2.2.2.1 = _
    rw [h1]; exact hcn
  · rw [bX_cg n e]
    show Y.2.2.2.2.2.2.2.2 = _
    rw [h1]
  · rw [hc] at hj
    rw [bX_cg n e, ← h1]
    unfold scCp
    dsimp only
    rw [hcY, cpv_lt hj, cpv_lt hj, cpv_lt hj, cpv_lt hj, cpv_lt hj]
    exact ⟨rfl, rfl, rfl, rfl, rfl⟩
theorem SR.ok {X Z : ScT} {sc : Nat → Int32} {n : Nat} (h : SR X sc n) (hX : SOk X) (hZ : SOk Z) : ScOk (scCp X Z) (cI sc n) ∧ ∀ i, i < cI sc n → okK ((scCp X Z).1 i) := by
  obtain ⟨h1, h2, h3, h4, X0, h5, h6, h7, h8, h9⟩ := h
  have hs := hX.cp hZ
  exact ⟨⟨h7, h3, fun j => (hs j).1, fun j => (hs j).2.1, fun j => (hs j).2.2.1, fun j => (hs j).2.2.2.1, fun j => (hs j).2.2.2.2.1⟩, fun i _ => (hs i).2.2.2.2.2⟩
theorem SR.may {X : ScT} {sc fz : Nat → Int32} {n : Nat} (h : SR X sc n) : myG sc fz n 0 = 0 ↔ nmG X.2.2.2.2.2.2.2.2 fz 8 0 = 0 := by
  obtain ⟨h1, h2, h3, h4, X0, h5, h6, h7, h8, h9⟩ := h
  rw [myG_0 h2 h1 n 0 (by omega), nmG_0 8 0 (by omega), h8]
  constructor
  · rintro ⟨i, j, a1, a2, a3, a4, a5⟩
    exact ⟨j, Nat.zero_le _, by omega, (bX_b a3 h6 n h2).mpr ⟨i, a2, a4⟩, a5⟩
  · rintro ⟨j, a1, a2, a3, a4⟩
    obtain ⟨i, b1, b2⟩ := (bX_b (by omega) h6 n h2).mp a3
    exact ⟨i, j, Nat.zero_le _, b1, by omega, b2, a4⟩
theorem vw_op (Y : SyT) : (vwC 0 Y).2.2.2.2.2.1 = Y.2.2.2.2.1 0 := by
  obtain ⟨g, ⟨L, R, P, N, B⟩, ⟨W, M, Q, cs, cr⟩, ct, op, oc⟩ := Y
  rfl
/-- what both give out -/
theorem SR.run {X Z : ScT} {sc fi fg fo : Nat → Int32} {n : Nat} {fk : Nat → Int64} {rn : Int32} {Y : SyT} (h : SR X sc n) (hX : SOk X) (hZ : SOk Z) :
    (vwC 0 (rnY (scCp X Z) fk rn (dlG X.2.2.2.2.2.2.2.2 fk fi rn 8 0 (prY Y)))).2.2.2.2.2.2 = nI (oI sc n) ∧ (rU sc fi (raF sc) (rzF sc) fg fo n).2.2 = nI (oI sc n) ∧ oI sc n ≤ 16 ∧
    (∀ j, j < oI sc n → (vwC 0 (rnY (scCp X Z) fk rn (dlG X.2.2.2.2.2.2.2.2 fk fi rn 8 0 (prY Y)))).2.2.2.2.2.1 j = (rU sc fi (raF sc) (rzF sc) fg fo n).2.1 j) := by
  obtain ⟨hS, hk⟩ := h.ok hX hZ
  have hE := (run_end (nm := X.2.2.2.2.2.2.2.2) (fk := fk) (fi := fi) (rn := rn) (Y := Y) hS hk).1
  obtain ⟨h1, h2, h3, h4, X0, h5, h6, h7, h8, h9⟩ := h
  have hg := gV_dlG X.2.2.2.2.2.2.2.2 fk fi rn 8 0 (prY Y) (by omega)
  have h2c : (dlG X.2.2.2.2.2.2.2.2 fk fi rn 8 0 (prY Y)).2 = (prY Y).2 := dlG_ct _ _ _ _ 8 0 (prY Y)
  have hop : (dlG X.2.2.2.2.2.2.2.2 fk fi rn 8 0 (prY Y)).2.2.2.2.1 0 = Y.2.2.2.2.1 0 := by rw [h2c]; rfl
  have hoc : (dlG X.2.2.2.2.2.2.2.2 fk fi rn 8 0 (prY Y)).2.2.2.2.2 = 0 := by rw [h2c]; rfl
  rw [hop, hoc] at hE
  obtain ⟨-, r2, r3, r4, r5, r6⟩ := rows_A (nd := fun i => nmB X.2.2.2.2.2.2.2.2 i) (sc := sc) (fi := fi) (fg := fg) (fo := fo) (X0 := X0) (n := n) (v0 := gV (dlG X.2.2.2.2.2.2.2.2 fk fi rn 8 0 (prY Y)).1) (op0 := Y.2.2.2.2.1 0) h1 h2 h3 h4 h5
    (fun k hk q hq i hi hs => by
      show nmB X.2.2.2.2.2.2.2.2 i
      rw [h8]
      refine (bX_b hi h6 n h2).mpr ⟨k, hk, ?_⟩
      rcases hq with rfl | rfl | rfl
      · exact Or.inl hs
      · exact Or.inr (Or.inl hs)
      · exact Or.inr (Or.inr hs))
    (fun j hj => by
      rw [hg j, if_neg (by omega)]
      show (0 : Int32) + 0 + 0 = 0
      decide)
    (fun i hi hn => by
      show gV (dlG X.2.2.2.2.2.2.2.2 fk fi rn 8 0 (prY Y)).1 (26 + i) = fi i
      rw [hg (26 + i), if_pos ⟨by omega, by omega, by rw [Nat.add_sub_cancel_left]; exact hn⟩, Nat.add_sub_cancel_left]) n (Nat.le_refl _)
  have hcn := bX_n (X0 := X0) h1 h2 h3 h4 h5
  have hXc : X.2.2.2.2.2.1.toNatClampNeg = cI sc n := by rw [h7, nI_clamp (by omega)]
  have hcv : (bX sc X0 n).2.2.2.2.2.1.toNatClampNeg = cI sc n := by rw [hcn, nI_clamp (by omega)]
  have e : oRun (scCp X Z).1 (scCp X Z).2.1 (scCp X Z).2.2.1 (scCp X Z).2.2.2.1 (scCp X Z).2.2.2.2.1 (cI sc n) 0 (gV (dlG X.2.2.2.2.2.2.2.2 fk fi rn 8 0 (prY Y)).1, (Y.2.2.2.2.1 0, 0)) = oA (bX sc X0 n) (gV (dlG X.2.2.2.2.2.2.2.2 fk fi rn 8 0 (prY Y)).1, (Y.2.2.2.2.1 0, 0)) := by
    unfold oA
    rw [hcv]
    refine oRun_cg _ 0 _ (fun i hi => ?_)
    rw [Nat.zero_add] at hi
    obtain ⟨a1, a2, a3, a4, a5⟩ := h9 i hi
    unfold scCp
    dsimp only
    rw [hXc, cpv_lt hi, cpv_lt hi, cpv_lt hi, cpv_lt hi, cpv_lt hi]
    exact ⟨a1, a2, a3, a4, a5⟩
  rw [e] at hE
  have hE1 : (rnY (scCp X Z) fk rn (dlG X.2.2.2.2.2.2.2.2 fk fi rn 8 0 (prY Y))).2.2.2.2.2 = nI (oI sc n) := (congrArg (fun z => z.2.2) hE).trans r4
  have hE2 : (rnY (scCp X Z) fk rn (dlG X.2.2.2.2.2.2.2.2 fk fi rn 8 0 (prY Y))).2.2.2.2.1 0 = (oA (bX sc X0 n) (gV (dlG X.2.2.2.2.2.2.2.2 fk fi rn 8 0 (prY Y)).1, (Y.2.2.2.2.1 0, 0))).2.1 := congrArg (fun z => z.2.1) hE
  refine ⟨?_, r5, h4, fun j hj => ?_⟩
  · rw [(vwC_ct 0 _).2.1]; exact hE1
  · rw [vw_op, hE2]; exact r6 j hj
/-- the rows are such as the reference can carry out -/
theorem SR.row {X : ScT} {sc fi fg fo : Nat → Int32} {n : Nat} (h : SR X sc n) : ∀ k, k < n → sc ((nI (6 * k)) + 1).toNatClampNeg = nI (raF sc k) ∧ raF sc k < 26 ∧ (sc (nI (6 * k)).toNatClampNeg = 6 ∨ sc (nI (6 * k)).toNatClampNeg = 7 → sc ((nI (6 * k)) + 5).toNatClampNeg = nI (rzF sc k) ∧ raF sc k ≤ rzF sc k ∧ rzF sc k < 26) ∧ (sc (nI (6 * k)).toNatClampNeg = 8 → vp_in (rU sc fi (raF sc) (rzF sc) fg fo k).2.2 16) ∧ (∀ i : Nat, i < 5 → (¬ sc (nI (6 * k) + nI i).toNatClampNeg < 100 → sc (nI (6 * k) + nI i).toNatClampNeg < 1000 → vp_in (sc (nI (6 * k) + nI i).toNatClampNeg - 100) 8) ∧ (sc (nI (6 * k) + nI i).toNatClampNeg < 100 → vp_in (sc (nI (6 * k) + nI i).toNatClampNeg) 26)) := by
  intro k hk
  obtain ⟨h1, h2, h3, h4, X0, h5, h6, h7, h8, h9⟩ := h
  obtain ⟨r, z, e1, e5, hr, hz, p2, p3, p4, hw, -⟩ := h2 k hk
  have er : raF sc k = r := by unfold raF; rw [e1, nI_clamp (by omega)]
  have ez : rzF sc k = z := by unfold rzF; rw [e5, nI_clamp (by omega)]
  have i0 : (nI (6 * k)).toNatClampNeg = 6 * k := nI_clamp (by omega)
  have i1 : (nI (6 * k) + 1).toNatClampNeg = 6 * k + 1 := by rw [nI_1, nI_clamp (by omega)]
  have i5 : (nI (6 * k) + 5).toNatClampNeg = 6 * k + 5 := by rw [show nI (6 * k) + 5 = nI (6 * k + 5) from nI_add (6 * k) 5, nI_clamp (by omega)]
  rw [i0, i1, i5, er, ez]
  have vOp : ∀ v, OpV v → (¬ v < 100 → v < 1000 → vp_in (v - 100) 8) ∧ (v < 100 → vp_in v 26) := by
    rintro v ⟨n', ⟨q, rfl⟩ | ⟨q, rfl⟩ | ⟨q, rfl⟩⟩
    · exact ⟨fun a _ => absurd (lt_100 (by omega)) a, fun _ => vp_in_nI q (by decide)⟩
    · refine ⟨fun _ _ => ?_, fun a => absurd a (nlt_100 (by omega) (by omega))⟩
      rw [show nI (100 + n') - 100 = nI n' from nI_sb 100 n']
      exact vp_in_nI q (by decide)
    · exact ⟨fun _ a => absurd a (nlt_1000 (by omega) (by omega)), fun a => absurd a (nlt_100 (by omega) (by omega))⟩
  have vNI : ∀ x, x < 26 → (¬ nI x < 100 → nI x < 1000 → vp_in (nI x - 100) 8) ∧ (nI x < 100 → vp_in (nI x) 26) := fun x hx => vOp _ ⟨x, Or.inl ⟨hx, rfl⟩⟩
  refine ⟨e1, hr, fun q => ?_, fun q => ?_, fun i hi => ?_⟩
  · rcases hw with hw | ⟨-, q1, q2⟩
    · exfalso
      rcases q with q | q <;> rcases hw with hw | hw | hw | hw | hw | hw | hw <;> exact absurd (q.symm.trans hw) (by decide)
    · exact ⟨e5, by omega, by omega⟩
  · have hlt : oI sc k < 16 := by
      have a1 : oI sc (k + 1) ≤ oI sc n := oI_le n (k + 1) (by omega)
      have a2 : oI sc (k + 1) = oI sc k + rO (sc (6 * k)) := rfl
      rw [q, rO_8] at a2
      omega
    have := (rows_A (nd := fun _ => True) (sc := sc) (fi := fi) (fg := fg) (fo := fo) (X0 := X0) (n := n) (v0 := fun j => if 26 ≤ j then fi (j - 26) else 0) (op0 := fun _ => 0) h1 h2 h3 h4 h5 (fun _ _ _ _ _ _ _ => trivial) (fun j hj => if_neg (by omega)) (fun i hi _ => by
      show (if 26 ≤ 26 + i then fi (26 + i - 26) else 0) = fi i
      rw [if_pos (by omega), Nat.add_sub_cancel_left]) k (by omega)).2.2.2.2.1
    rw [this]
    exact vp_in_nI hlt (by decide)
  · have ii : (nI (6 * k) + nI i).toNatClampNeg = 6 * k + i := by rw [nI_add, nI_clamp (by omega)]
    rw [ii]
    have hc : i = 0 ∨ i = 1 ∨ i = 2 ∨ i = 3 ∨ i = 4 := by omega
    rcases hc with rfl | rfl | rfl | rfl | rfl
    · rw [Nat.add_zero]
      have hw8 : ∃ x, x < 26 ∧ sc (6 * k) = nI x := by
        rcases hw with (hw | hw | hw | hw | hw | hw | hw) | ⟨hw | hw, -⟩
        · exact ⟨0, by decide, hw⟩
        · exact ⟨1, by decide, hw⟩
        · exact ⟨2, by decide, hw⟩
        · exact ⟨3, by decide, hw⟩
        · exact ⟨4, by decide, hw⟩
        · exact ⟨5, by decide, hw⟩
        · exact ⟨8, by decide, hw⟩
        · exact ⟨6, by decide, hw⟩
        · exact ⟨7, by decide, hw⟩
      obtain ⟨x, hx, e⟩ := hw8
      rw [e]; exact vNI x hx
    · rw [e1]; exact vNI r hr
    · exact vOp _ p2
    · exact vOp _ p3
    · exact vOp _ p4
def SCv (sc : Nat → Int32) : Prop := ∀ j, ¬ sc j < 100 → sc j < 1000 → vp_in (sc j - 100) 8
theorem SCv.mk {fd sc : Nat → Int32} {n : Nat} {X : ScT} (h : SR X (cpF (6 * n) fd sc) n) (hv : SCv sc) : SCv (cpF (6 * n) fd sc) := by
  intro j
  by_cases hj : j < 6 * n
  · obtain ⟨-, h2, -⟩ := h
    obtain ⟨r, z, e1, e5, hr, hz, p2, p3, p4, hw, -⟩ := h2 (j / 6) (by omega)
    have small : ∀ v : Int32, (∃ x, x < 26 ∧ v = nI x) → ¬ v < 100 → v < 1000 → vp_in (v - 100) 8 := by
      rintro v ⟨x, hx, rfl⟩ a _
      exact absurd (lt_100 (by omega)) a
    have vOp : ∀ v, OpV v → (¬ v < 100 → v < 1000 → vp_in (v - 100) 8) := by
      rintro v ⟨n', ⟨q, rfl⟩ | ⟨q, rfl⟩ | ⟨q, rfl⟩⟩
      · exact small _ ⟨n', q, rfl⟩
      · intro _ _
        rw [show nI (100 + n') - 100 = nI n' from nI_sb 100 n']
        exact vp_in_nI q (by decide)
      · exact fun _ a => absurd a (nlt_1000 (by omega) (by omega))
    have hc : j = 6 * (j / 6) ∨ j = 6 * (j / 6) + 1 ∨ j = 6 * (j / 6) + 2 ∨ j = 6 * (j / 6) + 3 ∨ j = 6 * (j / 6) + 4 ∨ j = 6 * (j / 6) + 5 := by omega
    generalize j / 6 = q at *
    rcases hc with rfl | rfl | rfl | rfl | rfl | rfl
    · refine small _ ?_
      rcases hw with (hw | hw | hw | hw | hw | hw | hw) | ⟨hw | hw, -⟩
      · exact ⟨0, by decide, hw⟩
      · exact ⟨1, by decide, hw⟩
      · exact ⟨2, by decide, hw⟩
      · exact ⟨3, by decide, hw⟩
      · exact ⟨4, by decide, hw⟩
      · exact ⟨5, by decide, hw⟩
      · exact ⟨8, by decide, hw⟩
      · exact ⟨6, by decide, hw⟩
      · exact ⟨7, by decide, hw⟩
    · exact small _ ⟨r, hr, e1⟩
    · exact vOp _ p2
    · exact vOp _ p3
    · exact vOp _ p4
    · exact small _ ⟨z, hz, e5⟩
  · rw [cpF_ge hj]; exact hv j
