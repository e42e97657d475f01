/-! the reference reads a text -/
def mRG (f : Nat → Int32) (L : Nat) : Nat → Nat → Int32 → (Nat → Int32) → Nat → Int32 → Int32 → Int32 × (Nat → Int32) × Int32 × Int32 × Int32 × (Int32 × Nat × Nat × Int32)
  | 0, _, _, fd, fr, cm, op => (0, fd, nI fr, cm, op, (0, 0, 0, 0))
  | u + 1, pp, st, fd, fr, cm, op => if (mSc f L pp).1 = 4 then (if (mSc f L pp).1 = 0 then nI L else nI (mSc f L pp).2.1, fd, nI fr, cm, op, (mSc f L pp)) else if (mNxt f (mSc f L pp).1 (mSc f L pp).2.1 (mSc f L pp).2.2.1 (mSc f L pp).2.2.2 fd fr cm op st).1 = 16 then (if (mSc f L pp).1 = 0 then nI L else nI (mSc f L pp).2.1, (mNxt f (mSc f L pp).1 (mSc f L pp).2.1 (mSc f L pp).2.2.1 (mSc f L pp).2.2.2 fd fr cm op st).2.1, (mNxt f (mSc f L pp).1 (mSc f L pp).2.1 (mSc f L pp).2.2.1 (mSc f L pp).2.2.2 fd fr cm op st).2.2.1, (mNxt f (mSc f L pp).1 (mSc f L pp).2.1 (mSc f L pp).2.2.1 (mSc f L pp).2.2.2 fd fr cm op st).2.2.2.1, (mNxt f (mSc f L pp).1 (mSc f L pp).2.1 (mSc f L pp).2.2.1 (mSc f L pp).2.2.2 fd fr cm op st).2.2.2.2, (mSc f L pp)) else if (mSc f L pp).1 = 0 then (-1, (mNxt f (mSc f L pp).1 (mSc f L pp).2.1 (mSc f L pp).2.2.1 (mSc f L pp).2.2.2 fd fr cm op st).2.1, (mNxt f (mSc f L pp).1 (mSc f L pp).2.1 (mSc f L pp).2.2.1 (mSc f L pp).2.2.2 fd fr cm op st).2.2.1, (mNxt f (mSc f L pp).1 (mSc f L pp).2.1 (mSc f L pp).2.2.1 (mSc f L pp).2.2.2 fd fr cm op st).2.2.2.1, (mNxt f (mSc f L pp).1 (mSc f L pp).2.1 (mSc f L pp).2.2.1 (mSc f L pp).2.2.2 fd fr cm op st).2.2.2.2, (mSc f L pp)) else mRG f L u (mSc f L pp).2.2.1 (mNxt f (mSc f L pp).1 (mSc f L pp).2.1 (mSc f L pp).2.2.1 (mSc f L pp).2.2.2 fd fr cm op st).1 (mNxt f (mSc f L pp).1 (mSc f L pp).2.1 (mSc f L pp).2.2.1 (mSc f L pp).2.2.2 fd fr cm op st).2.1 (mNxt f (mSc f L pp).1 (mSc f L pp).2.1 (mSc f L pp).2.2.1 (mSc f L pp).2.2.2 fd fr cm op st).2.2.1.toNatClampNeg (mNxt f (mSc f L pp).1 (mSc f L pp).2.1 (mSc f L pp).2.2.1 (mSc f L pp).2.2.2 fd fr cm op st).2.2.2.1 (mNxt f (mSc f L pp).1 (mSc f L pp).2.1 (mSc f L pp).2.2.1 (mSc f L pp).2.2.2 fd fr cm op st).2.2.2.2
theorem mRG_s {f : Nat → Int32} {L u pp : Nat} {st : Int32} {fd : Nat → Int32} {fr : Nat} {cm op : Int32} (hu : 0 < u) : mRG f L u pp st fd fr cm op = if (mSc f L pp).1 = 4 then (if (mSc f L pp).1 = 0 then nI L else nI (mSc f L pp).2.1, fd, nI fr, cm, op, (mSc f L pp)) else if (mNxt f (mSc f L pp).1 (mSc f L pp).2.1 (mSc f L pp).2.2.1 (mSc f L pp).2.2.2 fd fr cm op st).1 = 16 then (if (mSc f L pp).1 = 0 then nI L else nI (mSc f L pp).2.1, (mNxt f (mSc f L pp).1 (mSc f L pp).2.1 (mSc f L pp).2.2.1 (mSc f L pp).2.2.2 fd fr cm op st).2.1, (mNxt f (mSc f L pp).1 (mSc f L pp).2.1 (mSc f L pp).2.2.1 (mSc f L pp).2.2.2 fd fr cm op st).2.2.1, (mNxt f (mSc f L pp).1 (mSc f L pp).2.1 (mSc f L pp).2.2.1 (mSc f L pp).2.2.2 fd fr cm op st).2.2.2.1, (mNxt f (mSc f L pp).1 (mSc f L pp).2.1 (mSc f L pp).2.2.1 (mSc f L pp).2.2.2 fd fr cm op st).2.2.2.2, (mSc f L pp)) else if (mSc f L pp).1 = 0 then (-1, (mNxt f (mSc f L pp).1 (mSc f L pp).2.1 (mSc f L pp).2.2.1 (mSc f L pp).2.2.2 fd fr cm op st).2.1, (mNxt f (mSc f L pp).1 (mSc f L pp).2.1 (mSc f L pp).2.2.1 (mSc f L pp).2.2.2 fd fr cm op st).2.2.1, (mNxt f (mSc f L pp).1 (mSc f L pp).2.1 (mSc f L pp).2.2.1 (mSc f L pp).2.2.2 fd fr cm op st).2.2.2.1, (mNxt f (mSc f L pp).1 (mSc f L pp).2.1 (mSc f L pp).2.2.1 (mSc f L pp).2.2.2 fd fr cm op st).2.2.2.2, (mSc f L pp)) else mRG f L (u - 1) (mSc f L pp).2.2.1 (mNxt f (mSc f L pp).1 (mSc f L pp).2.1 (mSc f L pp).2.2.1 (mSc f L pp).2.2.2 fd fr cm op st).1 (mNxt f (mSc f L pp).1 (mSc f L pp).2.1 (mSc f L pp).2.2.1 (mSc f L pp).2.2.2 fd fr cm op st).2.1 (mNxt f (mSc f L pp).1 (mSc f L pp).2.1 (mSc f L pp).2.2.1 (mSc f L pp).2.2.2 fd fr cm op st).2.2.1.toNatClampNeg (mNxt f (mSc f L pp).1 (mSc f L pp).2.1 (mSc f L pp).2.2.1 (mSc f L pp).2.2.2 fd fr cm op st).2.2.2.1 (mNxt f (mSc f L pp).1 (mSc f L pp).2.1 (mSc f L pp).2.2.1 (mSc f L pp).2.2.2 fd fr cm op st).2.2.2.2 := by
  obtain ⟨v, rfl⟩ : ∃ v, u = v + 1 := ⟨u - 1, by omega⟩
  rfl
theorem mRG_fuel {f : Nat → Int32} {L : Nat} (hL : L ≤ 120) : ∀ (u v pp : Nat) (st : Int32) (fd : Nat → Int32) (fr : Nat) (cm op : Int32), pp ≤ L → L < u + pp → L < v + pp → mRG f L u pp st fd fr cm op = mRG f L v pp st fd fr cm op
  | 0, v, pp, st, fd, fr, cm, op, h0, h1, h2 => by omega
  | u + 1, v, pp, st, fd, fr, cm, op, h0, h1, h2 => by
    rw [mRG_s (by omega), mRG_s (u := v) (by omega)]
    have hs := mSc_ok (f := f) hL h0
    split
    · rfl
    · next a1 =>
      split
      · rfl
      · split
        · rfl
        · next a3 =>
          have := hs.2.2.2.2.1 a3 a1
          exact mRG_fuel hL u (v - 1) _ _ _ _ _ _ hs.2.2.1 (by omega) (by omega)
def mInv (st : Int32) (fr pp : Nat) : Prop := 2 * fr + (if st = 0 then 0 else 1) ≤ pp
theorem mInv_60 {st : Int32} {fr pp : Nat} (h : mInv st fr pp) (hp : pp ≤ 120) : fr ≤ 60 := by
  unfold mInv at h
  split at h <;> omega
theorem mInv_nx {f : Nat → Int32} {k : Int32} {b ee : Nat} {am : Int32} {fd : Nat → Int32} {fr : Nat} {cm op st : Int32} {pp : Nat} (h : mInv st fr pp) (hp : pp ≤ 120) (hb : pp ≤ b) (hbe : b < ee) (hk : ¬ k = 0) : mInv (mNxt f k b ee am fd fr cm op st).1 (mNxt f k b ee am fd fr cm op st).2.2.1.toNatClampNeg ee ∧ (mNxt f k b ee am fd fr cm op st).2.2.1 = nI (mNxt f k b ee am fd fr cm op st).2.2.1.toNatClampNeg := by
  have h60 := mInv_60 h hp
  rcases mNxt_fr (f := f) (mkd := k) (b := b) (ee := ee) (mam := am) (fd := fd) (fr := fr) (mcm := cm) (mop := op) (y1 := st) with ⟨e1, e2⟩ | ⟨e1, e2, e3⟩
  · rw [e1, nI_clamp (by omega)]
    refine ⟨?_, rfl⟩
    unfold mInv at h ⊢
    rw [if_neg e2]
    split at h <;> omega
  · rw [e1, ← nI_succ, nI_clamp (by omega)]
    refine ⟨?_, rfl⟩
    unfold mInv at h ⊢
    rw [if_neg e2] at h
    rw [if_pos (e3 hk)]
    omega

abbrev rm_Mo_readText : Room := { frames := 4, cells := 0, slots := 0, locals := 83 }
set_option maxHeartbeats 4000000 in
set_option maxRecDepth 100000 in
theorem c_Mo_readText (l : Launch) (G : Gt) (h0 : Nat) (mcd : Int32) (mtx : Nat) (mpl : Int32) (mth : Int32) (mln : Int32) (msc : Nat) (mfr : Int32) (mdr : Nat) (mcm : Int32) (mop : Int32) (mkd : Int32) (mbg : Int32) (mnd : Int32) (mam : Int32) (mis : Nat) (mip : Nat) (msd : Nat) (mrg : Nat) (mmn : Int32) (mou : Nat) (L : Nat) (f : Nat → Int32) (fd0 : Nat → Int32) (hL : L ≤ 120) (hch : ∀ j, narrow .char (.int (f j)) = .int (f j)) : Ct l G y_Mo_readText b_Mo_readText 3 (some .int) rm_Mo_readText [.ref h0] [(h0, .inr (1, [.int mcd, .int (nI L), .ref mtx, .int mpl, .int mth, .int mln, .ref msc, .int mfr, .ref mdr, .int mcm, .int mop, .int mkd, .int mbg, .int mnd, .int mam, .ref mis, .ref mip, .ref msd, .ref mrg, .int mmn, .ref mou])), (mtx, .inl (G.2 2, 120, .inl f)), (mdr, .inl (G.2 0, 400, .inl fd0))] 0 0 (fun v w' => v = some (.int ((mRG f L (L + 1) 0 0 fd0 0 0 0).1)) ∧ w' = [(h0, .inr (1, [.int mcd, .int (nI L), .ref mtx, .int mpl, .int mth, .int mln, .ref msc, .int ((mRG f L (L + 1) 0 0 fd0 0 0 0).2.2.1), .ref mdr, .int ((mRG f L (L + 1) 0 0 fd0 0 0 0).2.2.2.1), .int ((mRG f L (L + 1) 0 0 fd0 0 0 0).2.2.2.2.1), .int ((mRG f L (L + 1) 0 0 fd0 0 0 0).2.2.2.2.2.1), .int (nI (mRG f L (L + 1) 0 0 fd0 0 0 0).2.2.2.2.2.2.1), .int (nI (mRG f L (L + 1) 0 0 fd0 0 0 0).2.2.2.2.2.2.2.1), .int ((mRG f L (L + 1) 0 0 fd0 0 0 0).2.2.2.2.2.2.2.2), .ref mis, .ref mip, .ref msd, .ref mrg, .int mmn, .ref mou])), (mtx, .inl (G.2 2, 120, .inl f)), (mdr, .inl (G.2 0, 400, .inl ((mRG f L (L + 1) 0 0 fd0 0 0 0).2.1)))]) := by
  refine Ct.of (by decide) (Nat.le_of_ble_eq_true rfl) (fun p e s m args below meth c A ls H locs hx hb hml hr hnl hown hts hnm hK hA hl hW => ?_)
  have hl : lv_has ls 3 [(0, .ref h0)] := hl
  refine lv_aload_n hx hb d_Mo_readText_0 rfl (lv_at hl 0 rfl) ?_
  refine lv_iconst (v := 0) hx hb d_Mo_readText_1 (by decide) ?_
  refine Wd.put hx hb hts hown hK hW 0 7 in_Mo t_Mo_ok n_Mo w_fl_Mo_74 (by decide) d_Mo_readText_2 rfl rfl rfl rfl rfl (Nat.le_of_ble_eq_true rfl) (fun H locs hW => ?_)
  have hW : Wd G A s.heap [(h0, .inr (1, [.int mcd, .int (nI L), .ref mtx, .int mpl, .int mth, .int mln, .ref msc, .int 0, .ref mdr, .int mcm, .int mop, .int mkd, .int mbg, .int mnd, .int mam, .ref mis, .ref mip, .ref msd, .ref mrg, .int mmn, .ref mou])), (mtx, .inl (G.2 2, 120, .inl f)), (mdr, .inl (G.2 0, 400, .inl fd0))] H locs := hW
  refine lv_aload_n hx hb d_Mo_readText_5 rfl (lv_at hl 0 rfl) ?_
  refine lv_iconst (v := 0) hx hb d_Mo_readText_6 (by decide) ?_
  refine Wd.put hx hb hts hown hK hW 0 9 in_Mo t_Mo_ok n_Mo w_fl_Mo_95 (by decide) d_Mo_readText_7 rfl rfl rfl rfl rfl (Nat.le_of_ble_eq_true rfl) (fun H locs hW => ?_)
  have hW : Wd G A s.heap [(h0, .inr (1, [.int mcd, .int (nI L), .ref mtx, .int mpl, .int mth, .int mln, .ref msc, .int 0, .ref mdr, .int 0, .int mop, .int mkd, .int mbg, .int mnd, .int mam, .ref mis, .ref mip, .ref msd, .ref mrg, .int mmn, .ref mou])), (mtx, .inl (G.2 2, 120, .inl f)), (mdr, .inl (G.2 0, 400, .inl fd0))] H locs := hW
  refine lv_aload_n hx hb d_Mo_readText_10 rfl (lv_at hl 0 rfl) ?_
  refine lv_iconst (v := 0) hx hb d_Mo_readText_11 (by decide) ?_
  refine Wd.put hx hb hts hown hK hW 0 10 in_Mo t_Mo_ok n_Mo w_fl_Mo_89 (by decide) d_Mo_readText_12 rfl rfl rfl rfl rfl (Nat.le_of_ble_eq_true rfl) (fun H locs hW => ?_)
  have hW : Wd G A s.heap [(h0, .inr (1, [.int mcd, .int (nI L), .ref mtx, .int mpl, .int mth, .int mln, .ref msc, .int 0, .ref mdr, .int 0, .int 0, .int mkd, .int mbg, .int mnd, .int mam, .ref mis, .ref mip, .ref msd, .ref mrg, .int mmn, .ref mou])), (mtx, .inl (G.2 2, 120, .inl f)), (mdr, .inl (G.2 0, 400, .inl fd0))] H locs := hW
  refine lv_iconst (v := 0) hx hb d_Mo_readText_15 (by decide) ?_
  refine lv_istore_n (lv' := [(1, .int 0), (0, .ref h0)]) hx hb d_Mo_readText_16 rfl hl (by decide) rfl (fun ls hl => ?_)
  refine lv_iconst (v := 0) hx hb d_Mo_readText_17 (by decide) ?_
  refine lv_istore_n (lv' := [(2, .int 0), (1, .int 0), (0, .ref h0)]) hx hb d_Mo_readText_18 rfl hl (by decide) rfl (fun ls hl => ?_)
  have loop19 : ∀ (u : Nat) (pp : Nat) (st : Int32) (fd : Nat → Int32) (fr : Nat) (cm : Int32) (op : Int32) (kk : Int32) (bb : Int32) (nn : Int32) (am : Int32) (ls : Array Slot) (H : Heap) (locs : List Loc), pp ≤ L → mInv st fr pp → mRG f L (L + 1 - pp) pp st fd fr cm op = (mRG f L (L + 1) 0 0 fd0 0 0 0) → (L - pp) < u → lv_has ls 3 [(0, .ref h0), (1, .int st), (2, .int (nI pp))] → Wd G A s.heap [(h0, .inr (1, [.int mcd, .int (nI L), .ref mtx, .int mpl, .int mth, .int mln, .ref msc, .int (nI fr), .ref mdr, .int cm, .int op, .int kk, .int bb, .int nn, .int am, .ref mis, .ref mip, .ref msd, .ref mrg, .int mmn, .ref mou])), (mtx, .inl (G.2 2, 120, .inl f)), (mdr, .inl (G.2 0, 400, .inl fd))] H locs → W p l e rm_Mo_readText s m args below meth c H locs 0 0 (MQ below (Qcc G (fun v w' => v = some (.int ((mRG f L (L + 1) 0 0 fd0 0 0 0).1)) ∧ w' = [(h0, .inr (1, [.int mcd, .int (nI L), .ref mtx, .int mpl, .int mth, .int mln, .ref msc, .int ((mRG f L (L + 1) 0 0 fd0 0 0 0).2.2.1), .ref mdr, .int ((mRG f L (L + 1) 0 0 fd0 0 0 0).2.2.2.1), .int ((mRG f L (L + 1) 0 0 fd0 0 0 0).2.2.2.2.1), .int ((mRG f L (L + 1) 0 0 fd0 0 0 0).2.2.2.2.2.1), .int (nI (mRG f L (L + 1) 0 0 fd0 0 0 0).2.2.2.2.2.2.1), .int (nI (mRG f L (L + 1) 0 0 fd0 0 0 0).2.2.2.2.2.2.2.1), .int ((mRG f L (L + 1) 0 0 fd0 0 0 0).2.2.2.2.2.2.2.2), .ref mis, .ref mip, .ref msd, .ref mrg, .int mmn, .ref mou])), (mtx, .inl (G.2 2, 120, .inl f)), (mdr, .inl (G.2 0, 400, .inl ((mRG f L (L + 1) 0 0 fd0 0 0 0).2.1)))]) A) args s 0 0 A) (F0 m 19 ls []) := by
    intro u
    induction u with
    | zero => intro pp st fd fr cm op kk bb nn am ls H locs hp hiv hg hu; exact absurd hu (Nat.not_lt_zero _)
    | succ u ih19 =>
      intro pp st fd fr cm op kk bb nn am ls H locs hp hiv hg hu19 hl hW
      refine lv_aload_n hx hb d_Mo_readText_19 rfl (lv_at hl 0 rfl) ?_
      refine lv_iload_n hx hb d_Mo_readText_20 rfl (lv_at hl 2 rfl) ?_
      refine Ct.callV (As := [.int (nI pp)]) (rest := []) hx hb hml hown hts hK hA hl.1 hW (c_Mo_scan l G h0 mcd mtx mpl mth mln msc (nI fr) mdr cm op kk bb nn am mis mip msd mrg mmn mou L f pp hL hp hch) (cwV 1 hts (good_V w_ml_Mo_126 w_im_Mo_scan w_se_Mo_scan w_ini_Mo w_code_Mo_scan) rfl rfl rfl yd_Mo_scan ⟨by decide, by decide⟩) [0, 1] (by decide) rfl (ci := 1) (r := vr_Mo) rfl rfl rfl rfl rfl (Nat.le_of_ble_eq_true rfl) d_Mo_readText_21 ⟨by decide, by decide⟩ (fun v w' hp => by obtain ⟨-, rfl⟩ := hp; exact Nat.le_of_ble_eq_true rfl) (fun v w' H locs hp hW => ?_)
      obtain ⟨rfl, rfl⟩ := hp
      have hW : Wd G A s.heap [(h0, .inr (1, [.int mcd, .int (nI L), .ref mtx, .int mpl, .int mth, .int mln, .ref msc, .int (nI fr), .ref mdr, .int cm, .int op, .int ((mSc f L pp).1), .int (nI (mSc f L pp).2.1), .int (nI (mSc f L pp).2.2.1), .int ((mSc f L pp).2.2.2), .ref mis, .ref mip, .ref msd, .ref mrg, .int mmn, .ref mou])), (mtx, .inl (G.2 2, 120, .inl f)), (mdr, .inl (G.2 0, 400, .inl fd))] H locs := hW
      refine W.eq (g2 := F0 m 24 ls []) rfl ?_
      refine lv_aload_n hx hb d_Mo_readText_24 rfl (lv_at hl 0 rfl) ?_
      refine Wd.get hx hb hts hown hK hW 0 11 in_Mo w_fl_Mo_71 (by decide) d_Mo_readText_25 rfl rfl rfl ?_
      refine lv_iconst (v := 4) hx hb d_Mo_readText_28 (by decide) ?_
      refine lv_icmp_ne (tgt := 37) hx hb d_Mo_readText_29 rfl (fun ht1 => ?_) (fun hf2 => ?_)
      · have hs := mSc_ok (f := f) hL hp
        refine lv_aload_n hx hb d_Mo_readText_37 rfl (lv_at hl 0 rfl) ?_
        refine lv_iload_n hx hb d_Mo_readText_38 rfl (lv_at hl 1 rfl) ?_
        refine Ct.callV (As := [.int st]) (rest := []) hx hb hml hown hts hK hA hl.1 hW (c_Mo_next l G h0 mcd (nI L) mtx mpl mth mln msc mdr cm op ((mSc f L pp).1) ((mSc f L pp).2.2.2) mis mip msd mrg mmn mou ((mSc f L pp).2.1) ((mSc f L pp).2.2.1) fr f fd st hs.2.1 (by have := hs.2.2.1; omega) (fun q => by have := hs.2.2.2.1 q; omega) (mInv_60 hiv (by omega))) (cwV 1 hts (good_V w_ml_Mo_130 w_im_Mo_next w_se_Mo_next w_ini_Mo w_code_Mo_next) rfl rfl rfl yd_Mo_next ⟨by decide, by decide⟩) [0, 1, 2] (by decide) rfl (ci := 1) (r := vr_Mo) rfl rfl rfl rfl rfl (Nat.le_of_ble_eq_true rfl) d_Mo_readText_39 ⟨by decide, by decide⟩ (fun v w' hp => by obtain ⟨-, rfl⟩ := hp; exact Nat.le_of_ble_eq_true rfl) (fun v w' H locs hp hW => ?_)
        obtain ⟨rfl, rfl⟩ := hp
        have hW : Wd G A s.heap [(h0, .inr (1, [.int mcd, .int (nI L), .ref mtx, .int mpl, .int mth, .int mln, .ref msc, .int ((mNxt f ((mSc f L pp).1) ((mSc f L pp).2.1) ((mSc f L pp).2.2.1) ((mSc f L pp).2.2.2) fd fr cm op st).2.2.1), .ref mdr, .int ((mNxt f ((mSc f L pp).1) ((mSc f L pp).2.1) ((mSc f L pp).2.2.1) ((mSc f L pp).2.2.2) fd fr cm op st).2.2.2.1), .int ((mNxt f ((mSc f L pp).1) ((mSc f L pp).2.1) ((mSc f L pp).2.2.1) ((mSc f L pp).2.2.2) fd fr cm op st).2.2.2.2), .int ((mSc f L pp).1), .int (nI ((mSc f L pp).2.1)), .int (nI ((mSc f L pp).2.2.1)), .int ((mSc f L pp).2.2.2), .ref mis, .ref mip, .ref msd, .ref mrg, .int mmn, .ref mou])), (mtx, .inl (G.2 2, 120, .inl f)), (mdr, .inl (G.2 0, 400, .inl ((mNxt f ((mSc f L pp).1) ((mSc f L pp).2.1) ((mSc f L pp).2.2.1) ((mSc f L pp).2.2.2) fd fr cm op st).2.1)))] H locs := hW
        refine W.eq (g2 := F0 m 42 ls [.int ((mNxt f ((mSc f L pp).1) ((mSc f L pp).2.1) ((mSc f L pp).2.2.1) ((mSc f L pp).2.2.2) fd fr cm op st).1)]) rfl ?_
        refine lv_istore_n (lv' := [(1, .int ((mNxt f ((mSc f L pp).1) ((mSc f L pp).2.1) ((mSc f L pp).2.2.1) ((mSc f L pp).2.2.2) fd fr cm op st).1)), (0, .ref h0), (2, .int (nI pp))]) hx hb d_Mo_readText_42 rfl hl (by decide) rfl (fun ls hl => ?_)
        refine lv_iload_n hx hb d_Mo_readText_43 rfl (lv_at hl 0 rfl) ?_
        refine lv_bipush (v := 16) hx hb d_Mo_readText_44 (by decide) ?_
        refine lv_icmp_ne (tgt := 68) hx hb d_Mo_readText_46 rfl (fun ht3 => ?_) (fun hf4 => ?_)
        · refine lv_aload_n hx hb d_Mo_readText_68 rfl (lv_at hl 1 rfl) ?_
          refine Wd.get hx hb hts hown hK hW 0 11 in_Mo w_fl_Mo_71 (by decide) d_Mo_readText_69 rfl rfl rfl ?_
          refine lv_if_ne (tgt := 77) hx hb d_Mo_readText_72 rfl (fun ht5 => ?_) (fun hf6 => ?_)
          · refine lv_aload_n hx hb d_Mo_readText_77 rfl (lv_at hl 1 rfl) ?_
            refine Wd.get hx hb hts hown hK hW 0 13 in_Mo w_fl_Mo_55 (by decide) d_Mo_readText_78 rfl rfl rfl ?_
            refine lv_istore_n (lv' := [(2, .int (nI ((mSc f L pp).2.2.1))), (1, .int ((mNxt f ((mSc f L pp).1) ((mSc f L pp).2.1) ((mSc f L pp).2.2.1) ((mSc f L pp).2.2.2) fd fr cm op st).1)), (0, .ref h0)]) hx hb d_Mo_readText_81 rfl hl (by decide) rfl (fun ls hl => ?_)
            refine lv_goto (tgt := 19) hx hb d_Mo_readText_82 rfl ?_
            have hlt := hs.2.2.2.2.1 ht5 ht1
            have hnx := mInv_nx (f := f) (k := (mSc f L pp).1) (b := (mSc f L pp).2.1) (ee := (mSc f L pp).2.2.1) (am := (mSc f L pp).2.2.2) (fd := fd) (cm := cm) (op := op) hiv (by omega) hs.1 hlt ht5
            have hW : Wd G A s.heap [(h0, .inr (1, [.int mcd, .int (nI L), .ref mtx, .int mpl, .int mth, .int mln, .ref msc, .int (nI (mNxt f (mSc f L pp).1 (mSc f L pp).2.1 (mSc f L pp).2.2.1 (mSc f L pp).2.2.2 fd fr cm op st).2.2.1.toNatClampNeg), .ref mdr, .int ((mNxt f (mSc f L pp).1 (mSc f L pp).2.1 (mSc f L pp).2.2.1 (mSc f L pp).2.2.2 fd fr cm op st).2.2.2.1), .int ((mNxt f (mSc f L pp).1 (mSc f L pp).2.1 (mSc f L pp).2.2.1 (mSc f L pp).2.2.2 fd fr cm op st).2.2.2.2), .int ((mSc f L pp).1), .int (nI (mSc f L pp).2.1), .int (nI (mSc f L pp).2.2.1), .int ((mSc f L pp).2.2.2), .ref mis, .ref mip, .ref msd, .ref mrg, .int mmn, .ref mou])), (mtx, .inl (G.2 2, 120, .inl f)), (mdr, .inl (G.2 0, 400, .inl ((mNxt f (mSc f L pp).1 (mSc f L pp).2.1 (mSc f L pp).2.2.1 (mSc f L pp).2.2.2 fd fr cm op st).2.1)))] H locs := by
              rw [← hnx.2]
              exact hW
            exact ih19 ((mSc f L pp).2.2.1) ((mNxt f (mSc f L pp).1 (mSc f L pp).2.1 (mSc f L pp).2.2.1 (mSc f L pp).2.2.2 fd fr cm op st).1) ((mNxt f (mSc f L pp).1 (mSc f L pp).2.1 (mSc f L pp).2.2.1 (mSc f L pp).2.2.2 fd fr cm op st).2.1) ((mNxt f (mSc f L pp).1 (mSc f L pp).2.1 (mSc f L pp).2.2.1 (mSc f L pp).2.2.2 fd fr cm op st).2.2.1.toNatClampNeg) ((mNxt f (mSc f L pp).1 (mSc f L pp).2.1 (mSc f L pp).2.2.1 (mSc f L pp).2.2.2 fd fr cm op st).2.2.2.1) ((mNxt f (mSc f L pp).1 (mSc f L pp).2.1 (mSc f L pp).2.2.1 (mSc f L pp).2.2.2 fd fr cm op st).2.2.2.2) ((mSc f L pp).1) (nI (mSc f L pp).2.1) (nI (mSc f L pp).2.2.1) ((mSc f L pp).2.2.2) ls H locs hs.2.2.1 hnx.1 (by rw [mRG_s (by omega), if_neg ht1, if_neg ht3, if_neg ht5] at hg; rw [← hg]; exact mRG_fuel hL _ _ _ _ _ _ _ _ hs.2.2.1 (by omega) (by omega)) (by omega) (lv_sub hl [2, 1, 0] rfl) hW
          · refine lv_iconst (v := (-1)) hx hb d_Mo_readText_75 (by decide) ?_
            exact Ct.iret hx hb hr hnl hW (by decide) (by decide) d_Mo_readText_76 (by rw [mRG_s (by omega), if_neg ht1, if_neg ht3, if_pos hf6] at hg; rw [← hg]; exact ⟨rfl, rfl⟩)
        · refine lv_aload_n hx hb d_Mo_readText_49 rfl (lv_at hl 1 rfl) ?_
          refine Wd.get hx hb hts hown hK hW 0 11 in_Mo w_fl_Mo_71 (by decide) d_Mo_readText_50 rfl rfl rfl ?_
          refine lv_if_ne (tgt := 63) hx hb d_Mo_readText_53 rfl (fun ht7 => ?_) (fun hf8 => ?_)
          · refine lv_aload_n hx hb d_Mo_readText_63 rfl (lv_at hl 1 rfl) ?_
            refine Wd.get hx hb hts hown hK hW 0 12 in_Mo w_fl_Mo_48 (by decide) d_Mo_readText_64 rfl rfl rfl ?_
            exact Ct.iret hx hb hr hnl hW (by decide) (by decide) d_Mo_readText_67 (by rw [mRG_s (by omega), if_neg ht1, if_pos hf4, if_neg ht7] at hg; rw [← hg]; exact ⟨rfl, rfl⟩)
          · refine lv_aload_n hx hb d_Mo_readText_56 rfl (lv_at hl 1 rfl) ?_
            refine Wd.get hx hb hts hown hK hW 0 1 in_Mo w_fl_Mo_45 (by decide) d_Mo_readText_57 rfl rfl rfl ?_
            refine lv_goto (tgt := 67) hx hb d_Mo_readText_60 rfl ?_
            exact Ct.iret hx hb hr hnl hW (by decide) (by decide) d_Mo_readText_67 (by rw [mRG_s (by omega), if_neg ht1, if_pos hf4, if_pos hf8] at hg; rw [← hg]; exact ⟨rfl, rfl⟩)
      · have hs := mSc_ok (f := f) hL hp
        refine lv_bipush (v := 16) hx hb d_Mo_readText_32 (by decide) ?_
        refine lv_goto (tgt := 42) hx hb d_Mo_readText_34 rfl ?_
        refine lv_istore_n (lv' := [(1, .int 16), (0, .ref h0), (2, .int (nI pp))]) hx hb d_Mo_readText_42 rfl hl (by decide) rfl (fun ls hl => ?_)
        refine lv_iload_n hx hb d_Mo_readText_43 rfl (lv_at hl 0 rfl) ?_
        refine lv_bipush (v := 16) hx hb d_Mo_readText_44 (by decide) ?_
        refine lv_icmp_ne (tgt := 68) hx hb d_Mo_readText_46 rfl (fun hz => absurd (by decide) hz) (fun _ => ?_)
        refine lv_aload_n hx hb d_Mo_readText_49 rfl (lv_at hl 1 rfl) ?_
        refine Wd.get hx hb hts hown hK hW 0 11 in_Mo w_fl_Mo_71 (by decide) d_Mo_readText_50 rfl rfl rfl ?_
        refine lv_if_ne (tgt := 63) hx hb d_Mo_readText_53 rfl (fun ht9 => ?_) (fun hf10 => ?_)
        · refine lv_aload_n hx hb d_Mo_readText_63 rfl (lv_at hl 1 rfl) ?_
          refine Wd.get hx hb hts hown hK hW 0 12 in_Mo w_fl_Mo_48 (by decide) d_Mo_readText_64 rfl rfl rfl ?_
          exact Ct.iret hx hb hr hnl hW (by decide) (by decide) d_Mo_readText_67 (by rw [mRG_s (by omega), if_pos hf2, if_neg ht9] at hg; rw [← hg]; exact ⟨rfl, rfl⟩)
        · refine lv_aload_n hx hb d_Mo_readText_56 rfl (lv_at hl 1 rfl) ?_
          refine Wd.get hx hb hts hown hK hW 0 1 in_Mo w_fl_Mo_45 (by decide) d_Mo_readText_57 rfl rfl rfl ?_
          refine lv_goto (tgt := 67) hx hb d_Mo_readText_60 rfl ?_
          exact Ct.iret hx hb hr hnl hW (by decide) (by decide) d_Mo_readText_67 (by rw [mRG_s (by omega), if_pos hf2, if_pos hf10] at hg; rw [← hg]; exact ⟨rfl, rfl⟩)
  exact loop19 (_ + 1) 0 0 fd0 0 0 0 mkd mbg mnd mam ls H locs (Nat.zero_le _) (Nat.le_refl _) rfl (Nat.lt_succ_self _) (lv_sub hl [2, 1, 0] rfl) hW

