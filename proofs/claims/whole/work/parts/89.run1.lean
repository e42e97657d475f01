/-! a run of the office: from the tasks' begin to their end -/
def pqK (fk : Nat → Int64) (rn : Int32) (i : Nat) : Int64 × Int64 × Int32 := if i = 0 then (fk 0, fk 1, rn) else if i = 1 then (fk 1, fk 2, rn) else (fk 2, fk 0, rn)
def pdK (fk : Nat → Int64) (rn : Int32) (i : Nat) (k : Int32) : Int64 := o_Pads_pad_r (pqK fk rn i).1 rn k - o_Pads_pad_r (pqK fk rn i).2.1 rn k
def pxK (fk : Nat → Int64) (rn : Int32) (i : Nat) (k : Int32) : Int64 := o_Pads_pad_r (pqK fk rn i).1 rn k ^^^ o_Pads_pad_r (pqK fk rn i).2.1 rn k
theorem pqK_ok (fk : Nat → Int64) (rn : Int32) : PqOk (pqK fk rn) (pdK fk rn) (pxK fk rn) :=
  ⟨fun i hi => i3 (P := fun i => ∀ k, o_Pads_pad_r (pqK fk rn i).1 (pqK fk rn i).2.2 k - o_Pads_pad_r (pqK fk rn i).2.1 (pqK fk rn i).2.2 k = pdK fk rn i k) hi (fun _ => rfl) (fun _ => rfl) (fun _ => rfl),
   fun i hi => i3 (P := fun i => ∀ k, o_Pads_pad_r (pqK fk rn i).1 (pqK fk rn i).2.2 k ^^^ o_Pads_pad_r (pqK fk rn i).2.1 (pqK fk rn i).2.2 k = pxK fk rn i k) hi (fun _ => rfl) (fun _ => rfl) (fun _ => rfl)⟩
theorem padsK_ok (fk : Nat → Int64) (rn : Int32) : PadsOk (pdK fk rn) (pxK fk rn) := fun k =>
  ⟨⟨o_Pads_pad_r (fk 0) rn k, o_Pads_pad_r (fk 1) rn k, o_Pads_pad_r (fk 2) rn k, rfl, rfl, rfl⟩, ⟨o_Pads_pad_r (fk 0) rn k, o_Pads_pad_r (fk 1) rn k, o_Pads_pad_r (fk 2) rn k, rfl, rfl, rfl⟩⟩
/-- what comes out of a row of tasks -/
def EndP (y : ScT) (n : Nat) (Y Y' : SyT) : Prop := (gV Y'.1, (Y'.2.2.2.2.1 0, Y'.2.2.2.2.2)) = oRun y.1 y.2.1 y.2.2.1 y.2.2.2.1 y.2.2.2.2.1 n 0 (gV Y.1, (Y.2.2.2.2.1 0, Y.2.2.2.2.2)) ∧ ¬ Y'.2.2.2.2.2 < 0 ∧ ¬ 16 < Y'.2.2.2.2.2
def SqE (y : ScT) (fk : Nat → Int64) (rn : Int32) (Y : SyT) (K : Nat) : Prop := ∃ n, y.2.2.2.2.2.1 = nI n ∧ n ≤ 132 ∧ SqOk y n (pdK fk rn) (pxK fk rn) Y K ∧ EndP y n Y (stT y (pdK fk rn) (pxK fk rn) Y K)
noncomputable def rnY (y : ScT) (fk : Nat → Int64) (rn : Int32) (Y : SyT) : SyT := @dite SyT (∃ K, SqE y fk rn Y K) (Classical.propDecidable _) (fun h => stT y (pdK fk rn) (pxK fk rn) Y h.choose) (fun _ => Y)
theorem rnY_ok {y : ScT} {n : Nat} (fk : Nat → Int64) (rn : Int32) {Y : SyT} (hS : ScOk y n) (hk : ∀ i, i < n → okK (y.1 i)) (h0 : Y.2.2.2.1 = (0, 5, 0, 0)) (h1 : Y.2.2.2.2.2 = 0) : ∃ K, SqOk y n (pdK fk rn) (pxK fk rn) Y K ∧ rnY y fk rn Y = stT y (pdK fk rn) (pxK fk rn) Y K ∧ EndP y n Y (rnY y fk rn Y) := by
  have hn := hS.2.1
  have hw : Y.2.2.2.1.2.2.2 = 0 := by rw [h0]
  have hsn : Y.2.2.2.1.2.2.1 = 0 := by rw [h0]
  have hs0 : Y.2.2.2.1.1 = nI 0 := by rw [h0]; rfl
  have ho0 : ¬ Y.2.2.2.2.2 < 0 := by rw [h1]; decide
  have ho1 : ¬ 16 < Y.2.2.2.2.2 := by rw [h1]; decide
  obtain ⟨K, k1, k2, k3, k4, k5⟩ := tk_row (kd := y.1) (tg := y.2.1) (fi := y.2.2.1) (se := y.2.2.2.1) (th := y.2.2.2.2.1) (padsK_ok fk rn) n 0 Y hw hs0 (by omega) (fun i hi => hk i (by omega))
  rw [Nat.zero_add] at k2
  have hoc := seq_oc (kd := y.1) (tg := y.2.1) (fi := y.2.2.1) (se := y.2.2.2.1) (th := y.2.2.2.2.1) (pd := pdK fk rn) (px := pxK fk rn) ho0 ho1 K
  have hE : ∃ K, SqE y fk rn Y K := ⟨K, n, hS.1, hn, ⟨hw, hsn, ho0, ho1, k1, k2, k3, fun t ht => by obtain ⟨i, -, i2, i3⟩ := k5 t ht; exact ⟨i, by omega, i3⟩⟩, k4, hoc.1, hoc.2⟩
  have e : rnY y fk rn Y = stT y (pdK fk rn) (pxK fk rn) Y hE.choose := by
    unfold rnY
    rw [dif_pos hE]
  obtain ⟨n', e1, e2, e3, e4⟩ := hE.choose_spec
  have hnn : n' = n := by
    have h : nI n' = nI n := e1.symm.trans hS.1
    rw [← nI_clamp (n := n') (by omega), ← nI_clamp (n := n) (by omega), h]
  subst hnn
  exact ⟨hE.choose, e3, e, by rw [e]; exact e4⟩
def prY (Y : SyT) : SyT := (fun _ => (0, 0, 0), Y.2.1, Y.2.2.1, (0, 5, 0, 0), Y.2.2.2.2.1, 0)
theorem vw_pr (i : Nat) (hi : i < 3) (Y : SyT) : ckPr (vwC i Y) = vwC i (prY Y) := by
  obtain ⟨g, ⟨L, R, P, N, B⟩, ⟨W, M, Q, cs, cr⟩, ct, op, oc⟩ := Y
  exact i3 (P := fun i => ckPr (vwC i (g, (L, R, P, N, B), (W, M, Q, cs, cr), ct, op, oc)) = vwC i (prY (g, (L, R, P, N, B), (W, M, Q, cs, cr), ct, op, oc))) hi rfl rfl rfl
theorem dlG_ct (nm : Int32) (fk : Nat → Int64) (fi : Nat → Int32) (rn : Int32) : ∀ (u j : Nat) (Y : SyT), (dlG nm fk fi rn u j Y).2 = Y.2
  | 0, _, _ => rfl
  | u + 1, j, Y => by
    show (if nmB nm j then dlG nm fk fi rn u (j + 1) (gDl Y (26 + nI j).toNatClampNeg (dlT fk fi rn j)) else dlG nm fk fi rn u (j + 1) Y).2 = Y.2
    split
    · rw [dlG_ct]; rfl
    · rw [dlG_ct]
set_option maxRecDepth 100000 in
theorem cb_Office_carryRun (l : Launch) (G : Gt) (h0 : Nat) (kp : Nat → Nat) (h2 : Nat) (ch : Int64) (cf : Nat → Option Nat) (P : PoT) (a0 a1 a2 : Nat → Nat) (Y : SyT) (r0 r1 r2 : RsT) (y : ScT) (fk : Nat → Int64) (rn : Int32) (x : Int32) (n : Nat) (b0 b1 b2 : Nat → Int64) (hcf0 : cf 0 = some (a0 0)) (hcf1 : cf 1 = some (a1 0)) (hcf2 : cf 2 = some (a2 0))
    (hP : P.1 = 0) (hr0 : r0 = (y, (zI, b0), (fk 0, fk 1, rn))) (hr1 : r1 = (y, (zI, b1), (fk 1, fk 2, rn))) (hr2 : r2 = (y, (zI, b2), (fk 2, fk 0, rn))) (hS : ScOk y n) (hk : ∀ i, i < n → okK (y.1 i)) (hY0 : Y.2.2.2.1 = (0, 5, 0, 0)) (hY1 : Y.2.2.2.2.2 = 0) :
    Ct l G y_Office_carryOut b_Office_carryOut 4 none rm_Office_carryOut [.ref h0, .int x] (bj [[(h0, .inr (5, [.ref (kp 0), .ref h2, .long ch]))], [(h2, .inl (G.2 4, 3, .inr (.inr (.inr (.inr cf)))))], poB G kp P, ckF G a0 0 (vwC 0 Y) r0, ckF G a1 1 (vwC 1 Y) r1, ckF G a2 2 (vwC 2 Y) r2]) 0 0 (fun v w' => ∃ (ch' : Int64) (P' : PoT) (x0 x1 x2 : (Nat → Int32) × (Nat → Int64)), v = none ∧ w' = bj [[(h0, .inr (5, [.ref (kp 0), .ref h2, .long ch']))], [(h2, .inl (G.2 4, 3, .inr (.inr (.inr (.inr cf)))))], poB G kp P', ckF G a0 0 (vwC 0 (rnY y fk rn Y)) (y, x0, (fk 0, fk 1, rn)), ckF G a1 1 (vwC 1 (rnY y fk rn Y)) (y, x1, (fk 1, fk 2, rn)), ckF G a2 2 (vwC 2 (rnY y fk rn Y)) (y, x2, (fk 2, fk 0, rn))]) := by
  subst hr0 hr1 hr2
  obtain ⟨K, hQ, eY, -⟩ := rnY_ok fk rn hS hk hY0 hY1
  have hC : as_C K (wtN (sF y (pdK fk rn) (pxK fk rn)) Y) (snN (sF y (pdK fk rn) (pxK fk rn)) Y) := seq_C (kd := y.1) (tg := y.2.1) (fi := y.2.2.1) (se := y.2.2.2.1) (th := y.2.2.2.2.1) (pd := pdK fk rn) (px := pxK fk rn) hQ.1 hQ.2.2.2.2.2.2.1
  have hI : IvO y (pdK fk rn) (pxK fk rn) Y K (fun _ => 0) (fun _ => zI) (fun i => if i = 0 then b0 else if i = 1 then b1 else b2) 0 P :=
    ⟨hP, as_start hC (sq_small hS hQ K (Nat.le_refl _)) (fun _ _ _ _ => rfl)⟩
  refine (cb_Office_carryOut l G h0 kp h2 ch cf a0 a1 a2 hcf0 hcf1 hcf2 hS (pqK_ok fk rn) hQ hI x).weaken (fun v w' hp => ?_)
  obtain ⟨hv, ch', bn', bw', P', rfl⟩ := hp
  refine ⟨ch', P', (bn' 0, bw' 0), (bn' 1, bw' 1), (bn' 2, bw' 2), hv, ?_⟩
  rw [eY]
  rfl
set_option maxRecDepth 100000 in
theorem cb_Office_prepRun (l : Launch) (G : Gt) (h0 : Nat) (k : Nat → Nat) (h2 : Nat) (ch : Int64) (cf : Nat → Option Nat) (P : PoT) (a0 a1 a2 : Nat → Nat) (Y : SyT) (r0 r1 r2 : RsT) (z : Nat → Nat) (x : ScT) (h4 : Nat) (ky : Nat → Int64) (rn : Int32) (y : ScT) (hcf0 : cf 0 = some (a0 0)) (hcf1 : cf 1 = some (a1 0)) (hcf2 : cf 2 = some (a2 0)) (hc0 : ¬ x.2.2.2.2.2.1 < 0) (hc1 : x.2.2.2.2.2.1.toNatClampNeg ≤ 132) (hr0 : r0.1 = y) (hr1 : r1.1 = y) (hr2 : r2.1 = y) :
    Ct l G y_Office_prepare b_Office_prepare 5 none rm_Office_prepare [.ref h0, .ref (z 0), .ref h4, .int rn] (bj [[(h0, .inr (5, [.ref (k 0), .ref h2, .long ch]))], [(h2, .inl (G.2 4, 3, .inr (.inr (.inr (.inr cf)))))], [(h4, .inl (G.2 1, 3, .inr (.inl ky)))], poB G k P, ckF G a0 0 (vwC 0 Y) r0, ckF G a1 1 (vwC 1 Y) r1, ckF G a2 2 (vwC 2 Y) r2, scB G z x]) 0 0 (fun v w' => v = none ∧ w' = bj [[(h0, .inr (5, [.ref (k 0), .ref h2, .long ch]))], [(h2, .inl (G.2 4, 3, .inr (.inr (.inr (.inr cf)))))], [(h4, .inl (G.2 1, 3, .inr (.inl ky)))], poB G k (0, P.2), ckF G a0 0 (vwC 0 (prY Y)) (scCp x y, (zI, r0.2.1.2), (ky 0, ky 1, rn)), ckF G a1 1 (vwC 1 (prY Y)) (scCp x y, (zI, r1.2.1.2), (ky 1, ky 2, rn)), ckF G a2 2 (vwC 2 (prY Y)) (scCp x y, (zI, r2.2.1.2), (ky 2, ky 0, rn)), scB G z x]) := by
  refine (c_Office_prepare l G h0 k h2 ch cf P a0 a1 a2 (vwC 0 Y) (vwC 1 Y) (vwC 2 Y) r0 r1 r2 z x h4 ky rn hcf0 hcf1 hcf2 hc0 hc1).weaken (fun v w' hp => ?_)
  obtain ⟨hv, rfl⟩ := hp
  refine ⟨hv, ?_⟩
  rw [vw_pr 0 (by decide), vw_pr 1 (by decide), vw_pr 2 (by decide), hr0, hr1, hr2]
