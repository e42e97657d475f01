/-! a row of the reference against its tasks -/
def cdo (fi fg : Nat → Int32) (w o2 o3 o4 : Int32) : Int32 := if w = 0 then o_Mo_valueOf_r fi fg o2 else if w = 5 then (if o_Mo_valueOf_r fi fg o2 &&& 1 = 1 then o_Mo_valueOf_r fi fg o3 else o_Mo_valueOf_r fi fg o4) else o_Mo_reckon_r w (o_Mo_valueOf_r fi fg o2) (o_Mo_valueOf_r fi fg o3)
theorem mCar_w {sc fi : Nat → Int32} {k a z r : Nat} {fg fo : Nat → Int32} {mn w o2 o3 o4 : Int32} (hk : k ≤ 60) (h0 : sc (6 * k) = w) (h1 : sc (6 * k + 1) = nI r) (hr : r < 26) (h2 : sc (6 * k + 2) = o2) (h3 : sc (6 * k + 3) = o3) (h4 : sc (6 * k + 4) = o4) : mCar sc fi (6 * k) a z fg fo mn = if w = 6 then (iS a (z - a) (a + 1) fg, fo, mn) else if w = 7 then (uS (z - a) (a + 1) fg, fo, mn) else if w = 8 then (fg, upd fo mn.toNatClampNeg (fg r), mn + 1) else (upd fg r (cdo fi fg w o2 o3 o4), fo, mn) := by
  have e0 : (nI (6 * k)).toNatClampNeg = 6 * k := nI_clamp (by omega)
  have e1 : (nI (6 * k) + 1).toNatClampNeg = 6 * k + 1 := by rw [nI_1, nI_clamp (by omega)]
  have e2 : (nI (6 * k) + 2).toNatClampNeg = 6 * k + 2 := by rw [show nI (6 * k) + 2 = nI (6 * k + 2) from nI_add (6 * k) 2, nI_clamp (by omega)]
  have e3 : (nI (6 * k) + 3).toNatClampNeg = 6 * k + 3 := by rw [show nI (6 * k) + 3 = nI (6 * k + 3) from nI_add (6 * k) 3, nI_clamp (by omega)]
  have e4 : (nI (6 * k) + 4).toNatClampNeg = 6 * k + 4 := by rw [show nI (6 * k) + 4 = nI (6 * k + 4) from nI_add (6 * k) 4, nI_clamp (by omega)]
  unfold mCar
  rw [e0, e1, e2, e3, e4, h0, h1, h2, h3, h4, nI_clamp (n := r) (by omega)]
  rfl
theorem odd_tie (x y z : Int32) : oOdd x * (y + (-1) * z) + 1 * z = if x &&& 1 = 1 then y else z := by
  unfold oOdd
  have hb : x &&& 1 = 0 ∨ x &&& 1 = 1 := by
    have h : (x &&& 1).toBitVec = 0#32 ∨ (x &&& 1).toBitVec = 1#32 := by
      rw [Int32.toBitVec_and]
      have h2 : (x.toBitVec &&& (1 : Int32).toBitVec).toNat = x.toBitVec.toNat % 2 := by
        rw [BitVec.toNat_and]
        show x.toBitVec.toNat &&& 1 = _
        exact Nat.and_one_is_mod _
      have h3 : x.toBitVec.toNat % 2 = 0 ∨ x.toBitVec.toNat % 2 = 1 := by omega
      rcases h3 with h3 | h3
      · exact Or.inl (BitVec.eq_of_toNat_eq (by rw [h2, h3]; rfl))
      · exact Or.inr (BitVec.eq_of_toNat_eq (by rw [h2, h3]; rfl))
    rcases h with h | h
    · exact Or.inl (Int32.toBitVec_inj.mp h)
    · exact Or.inr (Int32.toBitVec_inj.mp h)
  rcases hb with hb | hb
  · rw [hb, if_neg (by decide), Int32.zero_mul, Int32.one_mul, Int32.zero_add]
  · rw [hb, if_pos rfl, Int32.one_mul, Int32.one_mul, ng1, ← Int32.sub_eq_add_neg, Int32.sub_add_cancel]
/-- what a row does to the values -/
theorem row_A {nd : Nat → Prop} {X : ScT} {c : Nat} {w : Int32} {r : Nat} {o2 o3 o4 : Int32} {z : Nat} {u : (Nat → Int32) × ((Nat → Int32) × Int32)} {fg fi fo : Nat → Int32} {oc : Nat} (hc : X.2.2.2.2.2.1 = nI c) (hT : c + rT w r z ≤ 132) (hok : RowOk w r o2 o3 o4 z) (hoc : oc + rO w ≤ 16)
    (hR : RgE (oA X u).1 fg) (hI : InE nd (oA X u).1 fi) (n2 : ∀ i, i < 8 → o2 = nI (100 + i) → nd i) (n3 : ∀ i, i < 8 → o3 = nI (100 + i) → nd i) (n4 : ∀ i, i < 8 → o4 = nI (100 + i) → nd i) (h1 : (oA X u).2.2 = nI oc) (h2 : ∀ j, j < oc → (oA X u).2.1 j = fo j) :
    (rowX X w r o2 o3 o4 z).2.2.2.2.2.1 = nI (c + rT w r z) ∧
    ∀ C, C = (if w = 6 then (iS r (z - r) (r + 1) fg, fo, nI oc) else if w = 7 then (uS (z - r) (r + 1) fg, fo, nI oc) else if w = 8 then (fg, upd fo (nI oc).toNatClampNeg (fg r), nI oc + 1) else (upd fg r (cdo fi fg w o2 o3 o4), fo, nI oc)) →
      RgE (oA (rowX X w r o2 o3 o4 z) u).1 C.1 ∧ InE nd (oA (rowX X w r o2 o3 o4 z) u).1 fi ∧ (oA (rowX X w r o2 o3 o4 z) u).2.2 = nI (oc + rO w) ∧ C.2.2 = nI (oc + rO w) ∧ (∀ j, j < oc + rO w → (oA (rowX X w r o2 o3 o4 z) u).2.1 j = C.2.1 j) := by
  obtain ⟨hr, hz, p2, p3, p4, hw, -⟩ := hok
  have hrc : (nI r).toNatClampNeg = r := nI_clamp (by omega)
  have cS : ∀ {Y : ScT}, SameA X Y → Y.2.2.2.2.2.1 = nI c := fun h => h.2.2.2.2.2.trans hc
  -- a task that stores one value
  have one : ∀ (Y : ScT) (k f s h x : Int32), SameA X Y → ¬ k = 7 → c < 132 → oTask k (nI r) f s h (oA X u).1 = upd (oA X u).1 r x → (adS Y k (nI r) f s h).2.2.2.2.2.1 = nI (c + 1) ∧ oA (adS Y k (nI r) f s h) u = (upd (oA X u).1 r x, (oA X u).2) := by
    intro Y k f s h x hS h7 hl hx
    refine ⟨adS_n (cS hS) hl, ?_⟩
    rw [oA_ad (cS hS) hl, oA_same hS, hx, opn_n h7]
  have fin : ∀ (Z : ScT) (x : Int32), oA Z u = (upd (oA X u).1 r x, (oA X u).2) → x = cdo fi fg w o2 o3 o4 → rO w = 0 → ∀ C, C = (upd fg r (cdo fi fg w o2 o3 o4), fo, nI oc) → RgE (oA Z u).1 C.1 ∧ InE nd (oA Z u).1 fi ∧ (oA Z u).2.2 = nI (oc + rO w) ∧ C.2.2 = nI (oc + rO w) ∧ (∀ j, j < oc + rO w → (oA Z u).2.1 j = C.2.1 j) := by
    intro Z x hZ hx hO C hC
    rw [hZ, hC, hO, hx]
    refine ⟨fun j hj => ?_, fun i hi hn => ?_, h1, rfl, h2⟩
    · show upd (oA X u).1 r _ j = upd fg r _ j
      by_cases e : j = r
      · rw [e, upd_eq, upd_eq]
      · rw [upd_ne e, upd_ne e]; exact hR j hj
    · show upd (oA X u).1 r _ (26 + i) = _
      rw [upd_ne (by omega)]; exact hI i hi hn
  have v2 := opv_v hR hI p2 n2
  have v3 := opv_v hR hI p3 n3
  have v4 := opv_v hR hI p4 n4
  rcases hw with (rfl | rfl | rfl | rfl | rfl | rfl | rfl) | ⟨rfl | rfl, q1, q2⟩
  · rw [rT_0] at hT ⊢
    rw [rowX_0]
    obtain ⟨g1, g2⟩ := one (nmV X o2) 0 (cd o2) 0 0 (opv (oA X u).1 (cd o2)) (nmV_a X o2) (by decide) (by omega) (by unfold oTask; rw [if_neg (by decide), if_neg (by decide), if_neg (by decide), if_neg (by decide), if_neg (by decide), if_pos rfl, hrc])
    refine ⟨g1, fun C hC => fin _ _ g2 ?_ rfl C ?_⟩
    · rw [v2]; rfl
    · rw [hC]; rfl
  · rw [rT_1] at hT ⊢
    rw [rowX_1]
    obtain ⟨g1, g2⟩ := one (nmV (nmV X o2) o3) 1 (cd o2) (cd o3) 0 (opv (oA X u).1 (cd o2) + (if (1 : Int32) = 1 then 1 else -1) * opv (oA X u).1 (cd o3)) ((nmV_a X o2).tr (nmV_a _ _)) (by decide) (by omega) (by unfold oTask; rw [if_neg (by decide), if_neg (by decide), if_neg (by decide), if_neg (by decide), if_neg (by decide), if_neg (by decide), hrc])
    refine ⟨g1, fun C hC => fin _ _ g2 ?_ rfl C ?_⟩
    · rw [v2, v3, if_pos rfl, Int32.one_mul]; rfl
    · rw [hC]; rfl
  · rw [rT_2] at hT ⊢
    rw [rowX_2]
    obtain ⟨g1, g2⟩ := one (nmV (nmV X o2) o3) 2 (cd o2) (cd o3) 0 (opv (oA X u).1 (cd o2) + (if (2 : Int32) = 1 then 1 else -1) * opv (oA X u).1 (cd o3)) ((nmV_a X o2).tr (nmV_a _ _)) (by decide) (by omega) (by unfold oTask; rw [if_neg (by decide), if_neg (by decide), if_neg (by decide), if_neg (by decide), if_neg (by decide), if_neg (by decide), hrc])
    refine ⟨g1, fun C hC => fin _ _ g2 ?_ rfl C ?_⟩
    · rw [v2, v3, if_neg (by decide), ng1, ← Int32.sub_eq_add_neg]; rfl
    · rw [hC]; rfl
  · rw [rT_3] at hT ⊢
    rw [rowX_3]
    obtain ⟨g1, g2⟩ := one (nmV (nmV X o2) o3) 3 (cd o2) (cd o3) 0 (opv (oA X u).1 (cd o2) * opv (oA X u).1 (cd o3)) ((nmV_a X o2).tr (nmV_a _ _)) (by decide) (by omega) (by unfold oTask; rw [if_pos rfl, hrc])
    refine ⟨g1, fun C hC => fin _ _ g2 ?_ rfl C ?_⟩
    · rw [v2, v3]; rfl
    · rw [hC]; rfl
  · rw [rT_4] at hT ⊢
    rw [rowX_4]
    obtain ⟨g1, g2⟩ := one (nmV (tkC (nmV X o2) 1).2 o3) 4 (cd o2) (cd o3) 0 (oLess (opv (oA X u).1 (cd o2)) (opv (oA X u).1 (cd o3))) (((nmV_a X o2).tr (tkC_a _ _)).tr (nmV_a _ _)) (by decide) (by omega) (by unfold oTask; rw [if_neg (by decide), if_pos rfl, hrc])
    refine ⟨g1, fun C hC => fin _ _ g2 ?_ rfl C ?_⟩
    · rw [v2, v3, oLess_k]
      show _ = if o_Mo_isLess_r (o_Mo_valueOf_r fi fg o2) (o_Mo_valueOf_r fi fg o3) = 0 then 0 else 1
      rw [mLess]
      split
      · rfl
      · rfl
    · rw [hC]; rfl
  · rw [rT_5] at hT ⊢
    rw [rowX_5]
    obtain ⟨g1, g2⟩ := one (nmV (nmV (tkC (nmV X o2) 1).2 o3) o4) 5 (cd o2) (cd o3) (cd o4) (oOdd (opv (oA X u).1 (cd o2)) * (opv (oA X u).1 (cd o3) + (-1) * opv (oA X u).1 (cd o4)) + 1 * opv (oA X u).1 (cd o4)) ((((nmV_a X o2).tr (tkC_a _ _)).tr (nmV_a _ _)).tr (nmV_a _ _)) (by decide) (by omega) (by unfold oTask; rw [if_neg (by decide), if_neg (by decide), if_pos rfl, hrc])
    refine ⟨g1, fun C hC => fin _ _ g2 ?_ rfl C ?_⟩
    · rw [v2, v3, v4, odd_tie]; rfl
    · rw [hC]; rfl
  · rw [rT_8] at hT ⊢
    rw [rO_8] at hoc ⊢
    rw [rowX_8]
    have hS := tkO_a X
    refine ⟨adS_n (cS hS) (by omega), fun C hC => ?_⟩
    have h16 : ¬ (16 : Int32) ≤ nI oc := nI_ge (b := 16) (by omega) (by decide)
    have e7 : oA (adS (tkO X).2 7 0 (nI r) 0 0) u = ((oA X u).1, (upd (oA X u).2.1 oc ((oA X u).1 r), nI (oc + 1))) := by
      rw [oA_ad (cS hS) (by omega), oA_same hS]
      unfold oTask oOpen
      rw [if_neg (by decide), if_neg (by decide), if_neg (by decide), if_neg (by decide), if_pos rfl, if_pos rfl, h1, if_neg h16, opv_n (by omega), nI_clamp (by omega), nI_1]
    rw [e7, hC]
    refine ⟨hR, hI, rfl, nI_1 oc, fun j hj => ?_⟩
    show upd (oA X u).2.1 oc ((oA X u).1 r) j = upd fo (nI oc).toNatClampNeg (fg r) j
    rw [nI_clamp (n := oc) (by omega)]
    by_cases e : j = oc
    · rw [e, upd_eq, upd_eq]; exact hR r hr
    · rw [upd_ne e, upd_ne e]; exact h2 j (by omega)
  · have ht := tri_e (n := z - r) (by omega)
    rw [rT_6, ht] at hT ⊢
    rw [rowX_6, ht]
    have hS := tkC_a X (nI (tri (z - r)))
    obtain ⟨g1, g2⟩ := swO_A r (z - r) (tkC X (nI (tri (z - r)))).2 c u (cS hS) hT (by omega)
    rw [oA_same hS] at g2
    refine ⟨g1, fun C hC => ?_⟩
    rw [g2, hC]
    refine ⟨fun j hj => sort_tie (by omega) hR j hj, fun i hi hn => ?_, h1, rfl, h2⟩
    show bub r (z - r) (oA X u).1 (26 + i) = _
    rw [bub_n _ _ _ (by omega)]; exact hI i hi hn
  · rw [rT_7] at hT ⊢
    rw [rowX_7]
    obtain ⟨g1, g2⟩ := smI_A (z - r) (r + 1) X c u hc hT (by omega) (by omega)
    refine ⟨g1, fun C hC => ?_⟩
    rw [g2, hC]
    refine ⟨fun j hj => sums_tie (z - r) (r + 1) _ _ (by omega) (by omega) hR j hj, fun i hi hn => ?_, h1, rfl, h2⟩
    show smV (z - r) (r + 1) (oA X u).1 (26 + i) = _
    rw [smV_n _ _ _ _ (by omega)]; exact hI i hi hn
theorem oI_le {fd : Nat → Int32} : ∀ (n k : Nat), k ≤ n → oI fd k ≤ oI fd n
  | 0, k, h => by
    have : k = 0 := by omega
    rw [this]; exact Nat.le_refl _
  | n + 1, k, h => by
    by_cases e : k = n + 1
    · rw [e]; exact Nat.le_refl _
    · exact Nat.le_trans (oI_le n k (by omega)) (Nat.le_add_right _ _)
theorem cI_le {fd : Nat → Int32} : ∀ (n k : Nat), k ≤ n → cI fd k ≤ cI fd n
  | 0, k, h => by
    have : k = 0 := by omega
    rw [this]; exact Nat.le_refl _
  | n + 1, k, h => by
    by_cases e : k = n + 1
    · rw [e]; exact Nat.le_refl _
    · exact Nat.le_trans (cI_le n k (by omega)) (Nat.le_add_right _ _)
def raF (sc : Nat → Int32) (k : Nat) : Nat := (sc (6 * k + 1)).toNatClampNeg
def rzF (sc : Nat → Int32) (k : Nat) : Nat := (sc (6 * k + 5)).toNatClampNeg
/-- all rows -/
theorem rows_A {nd : Nat → Prop} {sc fi fg fo : Nat → Int32} {X0 : ScT} {n : Nat} {v0 op0 : Nat → Int32} (hn60 : n ≤ 60) (hB : RBK sc n) (hc : cI sc n ≤ 132) (ho : oI sc n ≤ 16) (hX0 : X0.2.2.2.2.2.1 = 0) (hnd : ∀ k, k < n → ∀ q, q = 2 ∨ q = 3 ∨ q = 4 → ∀ i, i < 8 → sc (6 * k + q) = nI (100 + i) → nd i) (hv : ∀ j, j < 26 → v0 j = 0) (hI : InE nd v0 fi) :
    ∀ k, k ≤ n → (bX sc X0 k).2.2.2.2.2.1 = nI (cI sc k) ∧ RgE (oA (bX sc X0 k) (v0, (op0, 0))).1 (rU sc fi (raF sc) (rzF sc) fg fo k).1 ∧ InE nd (oA (bX sc X0 k) (v0, (op0, 0))).1 fi ∧ (oA (bX sc X0 k) (v0, (op0, 0))).2.2 = nI (oI sc k) ∧ (rU sc fi (raF sc) (rzF sc) fg fo k).2.2 = nI (oI sc k) ∧ (∀ j, j < oI sc k → (oA (bX sc X0 k) (v0, (op0, 0))).2.1 j = (rU sc fi (raF sc) (rzF sc) fg fo k).2.1 j)
  | 0, _ => by
    have e : oA (bX sc X0 0) (v0, (op0, 0)) = (v0, (op0, 0)) := by
      show oRun _ _ _ _ _ X0.2.2.2.2.2.1.toNatClampNeg 0 _ = _
      rw [hX0]
      rfl
    rw [e]
    refine ⟨hX0, fun j hj => ?_, hI, rfl, rfl, fun j hj => absurd hj (Nat.not_lt_zero j)⟩
    show v0 j = zrF 26 fg j
    unfold zrF
    rw [if_pos hj]; exact hv j hj
  | k + 1, hk => by
    obtain ⟨a1, a2, a3, a4, a5, a6⟩ := rows_A (fg := fg) (fo := fo) (op0 := op0) hn60 hB hc ho hX0 hnd hv hI k (by omega)
    obtain ⟨r, z, e1, e5, hok⟩ := hB k (by omega)
    have hr := hok.1
    have hz := hok.2.1
    have er : (sc (6 * k + 1)).toNatClampNeg = r := by rw [e1, nI_clamp (by omega)]
    have ez : (sc (6 * k + 5)).toNatClampNeg = z := by rw [e5, nI_clamp (by omega)]
    have hcc : cI sc k + rT (sc (6 * k)) r z ≤ 132 := by
      have h : cI sc (k + 1) ≤ cI sc n := cI_le n (k + 1) (by omega)
      have h' : cI sc k + rT (sc (6 * k)) (sc (6 * k + 1)).toNatClampNeg (sc (6 * k + 5)).toNatClampNeg ≤ cI sc n := h
      rw [er, ez] at h'
      omega
    have hoo : oI sc k + rO (sc (6 * k)) ≤ 16 := by
      have h : oI sc (k + 1) ≤ oI sc n := oI_le n (k + 1) (by omega)
      have h' : oI sc k + rO (sc (6 * k)) ≤ oI sc n := h
      omega
    obtain ⟨b1, b2⟩ := row_A (nd := nd) (u := (v0, (op0, 0))) (fo := (rU sc fi (raF sc) (rzF sc) fg fo k).2.1) a1 hcc hok hoo a2 a3 (hnd k (by omega) 2 (Or.inl rfl)) (hnd k (by omega) 3 (Or.inr (Or.inl rfl))) (hnd k (by omega) 4 (Or.inr (Or.inr rfl))) a4 a6
    have eb : bX sc X0 (k + 1) = rowX (bX sc X0 k) (sc (6 * k)) r (sc (6 * k + 2)) (sc (6 * k + 3)) (sc (6 * k + 4)) z := by
      show rowX (bX sc X0 k) (sc (6 * k)) (sc (6 * k + 1)).toNatClampNeg (sc (6 * k + 2)) (sc (6 * k + 3)) (sc (6 * k + 4)) (sc (6 * k + 5)).toNatClampNeg = _
      rw [er, ez]
    have ec : cI sc (k + 1) = cI sc k + rT (sc (6 * k)) r z := by
      show cI sc k + rT (sc (6 * k)) (sc (6 * k + 1)).toNatClampNeg (sc (6 * k + 5)).toNatClampNeg = _
      rw [er, ez]
    have eU : rU sc fi (raF sc) (rzF sc) fg fo (k + 1) = _ := mCar_w (sc := sc) (fi := fi) (a := raF sc k) (z := rzF sc k) (fg := (rU sc fi (raF sc) (rzF sc) fg fo k).1) (fo := (rU sc fi (raF sc) (rzF sc) fg fo k).2.1) (mn := (rU sc fi (raF sc) (rzF sc) fg fo k).2.2) (k := k) (by omega) rfl e1 hr rfl rfl rfl
    have ea : raF sc k = r := er
    have ez' : rzF sc k = z := ez
    rw [ea, ez', a5] at eU
    obtain ⟨c1, c2, c3, c4, c5⟩ := b2 _ eU
    rw [eb, ec]
    exact ⟨b1, c1, c2, c3, c4, c5⟩
