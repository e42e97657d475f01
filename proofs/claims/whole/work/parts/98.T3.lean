theorem put_in0 {fr : Nat} (hfr : fr ≤ 60) : vp_in (6 * nI fr) 400 := by
  have q := put_in (k := 0) hfr (by decide)
  have e : (6 : Int32) * nI fr = nI (6 * fr) := (Int32.ofNat_mul 6 fr).symm
  rw [e] at q ⊢
  rw [nI_add] at q
  exact q
theorem isReg_1 {mkd : Int32} {b ee : Nat} (h : ¬ o_Mo_isRegister_r mkd b ee = 0) : mkd = 1 := by
  unfold o_Mo_isRegister_r at h
  split at h
  · assumption
  · exact absurd rfl h

def mCmp (f : Nat → Int32) (mkd : Int32) (b : Nat) (ee : Nat) (mam : Int32) (fd : Nat → Int32) (fr : Nat) (mcm : Int32) (mop : Int32) (y1 : Int32) (y2 : Int32) : Int32 × Int32 := if (mcm + y1) ≤ 12 then (y2, mcm + y1) else (16, mcm + y1)
abbrev rm_Mo_compared : Room := { frames := 0, cells := 0, slots := 0, locals := 0 }
set_option maxHeartbeats 4000000 in
set_option maxRecDepth 100000 in
theorem c_Mo_compared (l : Launch) (G : Gt) (h0 : Nat) (mcd : Int32) (mty : Int32) (mtx : Nat) (mpl : Int32) (mth : Int32) (mln : Int32) (msc : Nat) (mdr : Nat) (mcm : Int32) (mop : Int32) (mkd : Int32) (mam : Int32) (mis : Nat) (mip : Nat) (msd : Nat) (mrg : Nat) (mmn : Int32) (mou : Nat) (b : Nat) (ee : Nat) (fr : Nat) (f : Nat → Int32) (fd : Nat → Int32) (y1 : Int32) (y2 : Int32) (hbe : b ≤ ee) (hee : ee ≤ 120) (hb0 : ¬ mkd = 0 → b < 120) (hfr : fr ≤ 60) : Ct l G y_Mo_compared b_Mo_compared 3 (some .int) rm_Mo_compared [.ref h0, .int y1, .int y2] [(h0, .inr (1, [.int mcd, .int mty, .ref mtx, .int mpl, .int mth, .int mln, .ref msc, .int (nI fr), .ref mdr, .int mcm, .int mop, .int mkd, .int (nI b), .int (nI ee), .int mam, .ref mis, .ref mip, .ref msd, .ref mrg, .int mmn, .ref mou])), (mtx, .inl (G.2 2, 120, .inl f)), (mdr, .inl (G.2 0, 400, .inl fd))] 0 0 (fun v w' => v = some (.int ((mCmp f mkd b ee mam fd fr mcm mop y1 y2).1)) ∧ w' = [(h0, .inr (1, [.int mcd, .int mty, .ref mtx, .int mpl, .int mth, .int mln, .ref msc, .int (nI fr), .ref mdr, .int ((mCmp f mkd b ee mam fd fr mcm mop y1 y2).2), .int mop, .int mkd, .int (nI b), .int (nI ee), .int mam, .ref mis, .ref mip, .ref msd, .ref mrg, .int mmn, .ref mou])), (mtx, .inl (G.2 2, 120, .inl f)), (mdr, .inl (G.2 0, 400, .inl fd))]) := by
  refine Ct.of (by decide) (Nat.le_of_ble_eq_true rfl) (fun p e s m args below meth c A ls H locs hx hb hml hr hnl hown hts hnm hK hA hl hW => ?_)
  have hl : lv_has ls 3 [(0, .ref h0), (1, .int y1), (2, .int y2)] := hl
  refine lv_aload_n hx hb d_Mo_compared_0 rfl (lv_at hl 0 rfl) ?_
  refine lv_dup hx hb d_Mo_compared_1 rfl ?_
  refine Wd.get hx hb hts hown hK hW 0 9 in_Mo w_fl_Mo_95 (by decide) d_Mo_compared_2 rfl rfl rfl ?_
  refine lv_iload_n hx hb d_Mo_compared_5 rfl (lv_at hl 1 rfl) ?_
  refine lv_iadd hx hb d_Mo_compared_6 ?_
  refine Wd.put hx hb hts hown hK hW 0 9 in_Mo t_Mo_ok n_Mo w_fl_Mo_95 (by decide) d_Mo_compared_7 rfl rfl rfl rfl rfl (Nat.le_of_ble_eq_true rfl) (fun H locs hW => ?_)
  have hW : Wd G A s.heap [(h0, .inr (1, [.int mcd, .int mty, .ref mtx, .int mpl, .int mth, .int mln, .ref msc, .int (nI fr), .ref mdr, .int (mcm + y1), .int mop, .int mkd, .int (nI b), .int (nI ee), .int mam, .ref mis, .ref mip, .ref msd, .ref mrg, .int mmn, .ref mou])), (mtx, .inl (G.2 2, 120, .inl f)), (mdr, .inl (G.2 0, 400, .inl fd))] H locs := hW
  refine lv_aload_n hx hb d_Mo_compared_10 rfl (lv_at hl 0 rfl) ?_
  refine Wd.get hx hb hts hown hK hW 0 9 in_Mo w_fl_Mo_95 (by decide) d_Mo_compared_11 rfl rfl rfl ?_
  refine lv_bipush (v := 12) hx hb d_Mo_compared_14 (by decide) ?_
  refine lv_icmp_le (tgt := 24) hx hb d_Mo_compared_16 rfl (fun ht1 => ?_) (fun hf2 => ?_)
  · refine lv_iload_n hx hb d_Mo_compared_24 rfl (lv_at hl 2 rfl) ?_
    exact Ct.iret hx hb hr hnl hW (by decide) (by decide) d_Mo_compared_25 (by
      have e : mCmp f mkd b ee mam fd fr mcm mop y1 y2 = (y2, mcm + y1) := by unfold mCmp; rw [if_pos ht1]
      rw [e]
      exact ⟨rfl, rfl⟩)
  · refine lv_bipush (v := 16) hx hb d_Mo_compared_19 (by decide) ?_
    refine lv_goto (tgt := 25) hx hb d_Mo_compared_21 rfl ?_
    exact Ct.iret hx hb hr hnl hW (by decide) (by decide) d_Mo_compared_25 (by
      have e : mCmp f mkd b ee mam fd fr mcm mop y1 y2 = (16, mcm + y1) := by unfold mCmp; rw [if_neg hf2]
      rw [e]
      exact ⟨rfl, rfl⟩)

def mAft (f : Nat → Int32) (mkd : Int32) (b : Nat) (ee : Nat) (mam : Int32) (fd : Nat → Int32) (fr : Nat) (mcm : Int32) (mop : Int32) : Int32 × Int32 := if mkd = 0 then (15, (nI fr) + 1) else if (o_Mo_isIt_r mkd b f (59 : Int32)) = 0 then (16, (nI fr)) else (0, (nI fr) + 1)
abbrev rm_Mo_after : Room := { frames := 1, cells := 0, slots := 0, locals := 21 }
set_option maxHeartbeats 4000000 in
set_option maxRecDepth 100000 in
theorem c_Mo_after (l : Launch) (G : Gt) (h0 : Nat) (mcd : Int32) (mty : Int32) (mtx : Nat) (mpl : Int32) (mth : Int32) (mln : Int32) (msc : Nat) (mdr : Nat) (mcm : Int32) (mop : Int32) (mkd : Int32) (mam : Int32) (mis : Nat) (mip : Nat) (msd : Nat) (mrg : Nat) (mmn : Int32) (mou : Nat) (b : Nat) (ee : Nat) (fr : Nat) (f : Nat → Int32) (fd : Nat → Int32) (hbe : b ≤ ee) (hee : ee ≤ 120) (hb0 : ¬ mkd = 0 → b < 120) (hfr : fr ≤ 60) : Ct l G y_Mo_after b_Mo_after 1 (some .int) rm_Mo_after [.ref h0] [(h0, .inr (1, [.int mcd, .int mty, .ref mtx, .int mpl, .int mth, .int mln, .ref msc, .int (nI fr), .ref mdr, .int mcm, .int mop, .int mkd, .int (nI b), .int (nI ee), .int mam, .ref mis, .ref mip, .ref msd, .ref mrg, .int mmn, .ref mou])), (mtx, .inl (G.2 2, 120, .inl f)), (mdr, .inl (G.2 0, 400, .inl fd))] 0 0 (fun v w' => v = some (.int ((mAft f mkd b ee mam fd fr mcm mop).1)) ∧ w' = [(h0, .inr (1, [.int mcd, .int mty, .ref mtx, .int mpl, .int mth, .int mln, .ref msc, .int ((mAft f mkd b ee mam fd fr mcm mop).2), .ref mdr, .int mcm, .int mop, .int mkd, .int (nI b), .int (nI ee), .int mam, .ref mis, .ref mip, .ref msd, .ref mrg, .int mmn, .ref mou])), (mtx, .inl (G.2 2, 120, .inl f)), (mdr, .inl (G.2 0, 400, .inl fd))]) := by
  refine Ct.of (by decide) (Nat.le_of_ble_eq_true rfl) (fun p e s m args below meth c A ls H locs hx hb hml hr hnl hown hts hnm hK hA hl hW => ?_)
  have hl : lv_has ls 1 [(0, .ref h0)] := hl
  refine lv_aload_n hx hb d_Mo_after_0 rfl (lv_at hl 0 rfl) ?_
  refine Wd.get hx hb hts hown hK hW 0 11 in_Mo w_fl_Mo_71 (by decide) d_Mo_after_1 rfl rfl rfl ?_
  refine lv_if_eq (tgt := 16) hx hb d_Mo_after_4 rfl (fun ht1 => ?_) (fun hf2 => ?_)
  · refine lv_aload_n hx hb d_Mo_after_16 rfl (lv_at hl 0 rfl) ?_
    refine lv_dup hx hb d_Mo_after_17 rfl ?_
    refine Wd.get hx hb hts hown hK hW 0 7 in_Mo w_fl_Mo_74 (by decide) d_Mo_after_18 rfl rfl rfl ?_
    refine lv_iconst (v := 1) hx hb d_Mo_after_21 (by decide) ?_
    refine lv_iadd hx hb d_Mo_after_22 ?_
    refine Wd.put hx hb hts hown hK hW 0 7 in_Mo t_Mo_ok n_Mo w_fl_Mo_74 (by decide) d_Mo_after_23 rfl rfl rfl rfl rfl (Nat.le_of_ble_eq_true rfl) (fun H locs hW => ?_)
    have hW : Wd G A s.heap [(h0, .inr (1, [.int mcd, .int mty, .ref mtx, .int mpl, .int mth, .int mln, .ref msc, .int ((nI fr) + 1), .ref mdr, .int mcm, .int mop, .int mkd, .int (nI b), .int (nI ee), .int mam, .ref mis, .ref mip, .ref msd, .ref mrg, .int mmn, .ref mou])), (mtx, .inl (G.2 2, 120, .inl f)), (mdr, .inl (G.2 0, 400, .inl fd))] H locs := hW
    refine lv_aload_n hx hb d_Mo_after_26 rfl (lv_at hl 0 rfl) ?_
    refine Wd.get hx hb hts hown hK hW 0 11 in_Mo w_fl_Mo_71 (by decide) d_Mo_after_27 rfl rfl rfl ?_
    refine lv_if_ne (tgt := 38) hx hb d_Mo_after_30 rfl (fun hz => absurd ht1 hz) (fun _ => ?_)
    refine lv_bipush (v := 15) hx hb d_Mo_after_33 (by decide) ?_
    refine lv_goto (tgt := 39) hx hb d_Mo_after_35 rfl ?_
    exact Ct.iret hx hb hr hnl hW (by decide) (by decide) d_Mo_after_39 (by
      have e : mAft f mkd b ee mam fd fr mcm mop = (15, (nI fr) + 1) := by unfold mAft; rw [if_pos ht1]
      rw [e]
      exact ⟨rfl, rfl⟩)
  · refine lv_aload_n hx hb d_Mo_after_7 rfl (lv_at hl 0 rfl) ?_
    refine lv_bipush (v := 59) hx hb d_Mo_after_8 (by decide) ?_
    refine Ct.callV (As := [.int 59]) (rest := []) hx hb hml hown hts hK hA hl.1 hW (c_Mo_isItR l G h0 mcd mty mtx mpl mth mln msc (nI fr) mdr mcm mop mkd mam mis mip msd mrg mmn mou b ee f (59 : Int32) (by first | assumption | omega | decide)) (cwV 1 hts (good_V w_ml_Mo_92 w_im_Mo_isIt w_se_Mo_isIt w_ini_Mo w_code_Mo_isIt) rfl rfl rfl yd_Mo_isIt ⟨by decide, by decide⟩) [0, 1] (by decide) rfl (ci := 1) (r := vr_Mo) rfl rfl rfl rfl rfl (Nat.le_of_ble_eq_true rfl) d_Mo_after_10 ⟨by decide, by decide⟩ (fun v w' hp => by obtain ⟨-, rfl⟩ := hp; exact Nat.le_of_ble_eq_true rfl) (fun v w' H locs hp hW => ?_)
    obtain ⟨rfl, rfl⟩ := hp
    have hW : Wd G A s.heap [(h0, .inr (1, [.int mcd, .int mty, .ref mtx, .int mpl, .int mth, .int mln, .ref msc, .int (nI fr), .ref mdr, .int mcm, .int mop, .int mkd, .int (nI b), .int (nI ee), .int mam, .ref mis, .ref mip, .ref msd, .ref mrg, .int mmn, .ref mou])), (mtx, .inl (G.2 2, 120, .inl f)), (mdr, .inl (G.2 0, 400, .inl fd))] H locs := hW
    refine W.eq (g2 := F0 m 13 ls [.int (o_Mo_isIt_r mkd b f (59 : Int32))]) rfl ?_
    refine lv_if_eq (tgt := 40) hx hb d_Mo_after_13 rfl (fun ht3 => ?_) (fun hf4 => ?_)
    · refine lv_bipush (v := 16) hx hb d_Mo_after_40 (by decide) ?_
      exact Ct.iret hx hb hr hnl hW (by decide) (by decide) d_Mo_after_42 (by
      have e : mAft f mkd b ee mam fd fr mcm mop = (16, (nI fr)) := by unfold mAft; rw [if_neg hf2, if_pos ht3]
      rw [e]
      exact ⟨rfl, rfl⟩)
    · refine lv_aload_n hx hb d_Mo_after_16 rfl (lv_at hl 0 rfl) ?_
      refine lv_dup hx hb d_Mo_after_17 rfl ?_
      refine Wd.get hx hb hts hown hK hW 0 7 in_Mo w_fl_Mo_74 (by decide) d_Mo_after_18 rfl rfl rfl ?_
      refine lv_iconst (v := 1) hx hb d_Mo_after_21 (by decide) ?_
      refine lv_iadd hx hb d_Mo_after_22 ?_
      refine Wd.put hx hb hts hown hK hW 0 7 in_Mo t_Mo_ok n_Mo w_fl_Mo_74 (by decide) d_Mo_after_23 rfl rfl rfl rfl rfl (Nat.le_of_ble_eq_true rfl) (fun H locs hW => ?_)
      have hW : Wd G A s.heap [(h0, .inr (1, [.int mcd, .int mty, .ref mtx, .int mpl, .int mth, .int mln, .ref msc, .int ((nI fr) + 1), .ref mdr, .int mcm, .int mop, .int mkd, .int (nI b), .int (nI ee), .int mam, .ref mis, .ref mip, .ref msd, .ref mrg, .int mmn, .ref mou])), (mtx, .inl (G.2 2, 120, .inl f)), (mdr, .inl (G.2 0, 400, .inl fd))] H locs := hW
      refine lv_aload_n hx hb d_Mo_after_26 rfl (lv_at hl 0 rfl) ?_
      refine Wd.get hx hb hts hown hK hW 0 11 in_Mo w_fl_Mo_71 (by decide) d_Mo_after_27 rfl rfl rfl ?_
      refine lv_if_ne (tgt := 38) hx hb d_Mo_after_30 rfl (fun _ => ?_) (fun hz => absurd hz hf2)
      refine lv_iconst (v := 0) hx hb d_Mo_after_38 (by decide) ?_
      exact Ct.iret hx hb hr hnl hW (by decide) (by decide) d_Mo_after_39 (by
      have e : mAft f mkd b ee mam fd fr mcm mop = (0, (nI fr) + 1) := by unfold mAft; rw [if_neg hf2, if_neg hf4]
      rw [e]
      exact ⟨rfl, rfl⟩)

def mVal (f : Nat → Int32) (mkd : Int32) (b : Nat) (ee : Nat) (mam : Int32) (fd : Nat → Int32) (fr : Nat) (mcm : Int32) (mop : Int32) (k : Nat) (y1 : Int32) (y2 : Int32) : Int32 × (Nat → Int32) := if (o_Mo_isIt_r mkd b f (36 : Int32)) = 0 then if (o_Mo_isRegister_r mkd b ee) = 0 then if mkd = 2 then (y2, upd fd (((6 * (nI fr)) + (nI k)).toNatClampNeg) (1000 + mam)) else (16, upd fd (((6 * (nI fr)) + (nI k)).toNatClampNeg) (1000 + mam)) else (y2, upd fd (((6 * (nI fr)) + (nI k)).toNatClampNeg) ((f ((nI b).toNatClampNeg)) - 97)) else (y1, fd)
abbrev rm_Mo_value : Room := { frames := 1, cells := 0, slots := 0, locals := 22 }
set_option maxHeartbeats 4000000 in
set_option maxRecDepth 100000 in
theorem c_Mo_value (l : Launch) (G : Gt) (h0 : Nat) (mcd : Int32) (mty : Int32) (mtx : Nat) (mpl : Int32) (mth : Int32) (mln : Int32) (msc : Nat) (mdr : Nat) (mcm : Int32) (mop : Int32) (mkd : Int32) (mam : Int32) (mis : Nat) (mip : Nat) (msd : Nat) (mrg : Nat) (mmn : Int32) (mou : Nat) (b : Nat) (ee : Nat) (fr : Nat) (f : Nat → Int32) (fd : Nat → Int32) (k : Nat) (y1 : Int32) (y2 : Int32) (hbe : b ≤ ee) (hee : ee ≤ 120) (hb0 : ¬ mkd = 0 → b < 120) (hfr : fr ≤ 60) (hk : k ≤ 5) : Ct l G y_Mo_value b_Mo_value 4 (some .int) rm_Mo_value [.ref h0, .int (nI k), .int y1, .int y2] [(h0, .inr (1, [.int mcd, .int mty, .ref mtx, .int mpl, .int mth, .int mln, .ref msc, .int (nI fr), .ref mdr, .int mcm, .int mop, .int mkd, .int (nI b), .int (nI ee), .int mam, .ref mis, .ref mip, .ref msd, .ref mrg, .int mmn, .ref mou])), (mtx, .inl (G.2 2, 120, .inl f)), (mdr, .inl (G.2 0, 400, .inl fd))] 0 0 (fun v w' => v = some (.int ((mVal f mkd b ee mam fd fr mcm mop k y1 y2).1)) ∧ w' = [(h0, .inr (1, [.int mcd, .int mty, .ref mtx, .int mpl, .int mth, .int mln, .ref msc, .int (nI fr), .ref mdr, .int mcm, .int mop, .int mkd, .int (nI b), .int (nI ee), .int mam, .ref mis, .ref mip, .ref msd, .ref mrg, .int mmn, .ref mou])), (mtx, .inl (G.2 2, 120, .inl f)), (mdr, .inl (G.2 0, 400, .inl ((mVal f mkd b ee mam fd fr mcm mop k y1 y2).2)))]) := by
  refine Ct.of (by decide) (Nat.le_of_ble_eq_true rfl) (fun p e s m args below meth c A ls H locs hx hb hml hr hnl hown hts hnm hK hA hl hW => ?_)
  have hl : lv_has ls 4 [(0, .ref h0), (1, .int (nI k)), (2, .int y1), (3, .int y2)] := hl
  refine lv_aload_n hx hb d_Mo_value_0 rfl (lv_at hl 0 rfl) ?_
  refine lv_bipush (v := 36) hx hb d_Mo_value_1 (by decide) ?_
  refine Ct.callV (As := [.int 36]) (rest := []) hx hb hml hown hts hK hA hl.1 hW (c_Mo_isItR l G h0 mcd mty mtx mpl mth mln msc (nI fr) mdr mcm mop mkd mam mis mip msd mrg mmn mou b ee f (36 : Int32) (by first | assumption | omega | decide)) (cwV 1 hts (good_V w_ml_Mo_92 w_im_Mo_isIt w_se_Mo_isIt w_ini_Mo w_code_Mo_isIt) rfl rfl rfl yd_Mo_isIt ⟨by decide, by decide⟩) [0, 1] (by decide) rfl (ci := 1) (r := vr_Mo) rfl rfl rfl rfl rfl (Nat.le_of_ble_eq_true rfl) d_Mo_value_3 ⟨by decide, by decide⟩ (fun v w' hp => by obtain ⟨-, rfl⟩ := hp; exact Nat.le_of_ble_eq_true rfl) (fun v w' H locs hp hW => ?_)
  obtain ⟨rfl, rfl⟩ := hp
  have hW : Wd G A s.heap [(h0, .inr (1, [.int mcd, .int mty, .ref mtx, .int mpl, .int mth, .int mln, .ref msc, .int (nI fr), .ref mdr, .int mcm, .int mop, .int mkd, .int (nI b), .int (nI ee), .int mam, .ref mis, .ref mip, .ref msd, .ref mrg, .int mmn, .ref mou])), (mtx, .inl (G.2 2, 120, .inl f)), (mdr, .inl (G.2 0, 400, .inl fd))] H locs := hW
  refine W.eq (g2 := F0 m 6 ls [.int (o_Mo_isIt_r mkd b f (36 : Int32))]) rfl ?_
  refine lv_if_eq (tgt := 11) hx hb d_Mo_value_6 rfl (fun ht1 => ?_) (fun hf2 => ?_)
  · refine lv_aload_n hx hb d_Mo_value_11 rfl (lv_at hl 0 rfl) ?_
    refine lv_iload_n hx hb d_Mo_value_12 rfl (lv_at hl 1 rfl) ?_
    refine lv_aload_n hx hb d_Mo_value_13 rfl (lv_at hl 0 rfl) ?_
    refine Ct.callV (As := []) (rest := [.int (nI k), .ref h0]) hx hb hml hown hts hK hA hl.1 hW (c_Mo_isRegisterR l G h0 mcd mty mtx mpl mth mln msc (nI fr) mdr mcm mop mkd mam mis mip msd mrg mmn mou b ee ) (cwV 0 hts (good_V w_ml_Mo_81 w_im_Mo_isRegister w_se_Mo_isRegister w_ini_Mo w_code_Mo_isRegister) rfl rfl rfl yd_Mo_isRegister ⟨by decide, by decide⟩) [0] (by decide) rfl (ci := 1) (r := vr_Mo) rfl rfl rfl rfl rfl (Nat.le_of_ble_eq_true rfl) d_Mo_value_14 ⟨by decide, by decide⟩ (fun v w' hp => by obtain ⟨-, rfl⟩ := hp; exact Nat.le_of_ble_eq_true rfl) (fun v w' H locs hp hW => ?_)
    obtain ⟨rfl, rfl⟩ := hp
    have hW : Wd G A s.heap [(h0, .inr (1, [.int mcd, .int mty, .ref mtx, .int mpl, .int mth, .int mln, .ref msc, .int (nI fr), .ref mdr, .int mcm, .int mop, .int mkd, .int (nI b), .int (nI ee), .int mam, .ref mis, .ref mip, .ref msd, .ref mrg, .int mmn, .ref mou])), (mtx, .inl (G.2 2, 120, .inl f)), (mdr, .inl (G.2 0, 400, .inl fd))] H locs := hW
    refine W.eq (g2 := F0 m 17 ls [.int (o_Mo_isRegister_r mkd b ee), .int (nI k), .ref h0]) rfl ?_
    refine lv_if_eq (tgt := 35) hx hb d_Mo_value_17 rfl (fun ht3 => ?_) (fun hf4 => ?_)
    · refine lv_sipush (v := 1000) hx hb d_Mo_value_35 (by decide) ?_
      refine lv_aload_n hx hb d_Mo_value_38 rfl (lv_at hl 0 rfl) ?_
      refine Wd.get hx hb hts hown hK hW 0 14 in_Mo w_fl_Mo_58 (by decide) d_Mo_value_39 rfl rfl rfl ?_
      refine lv_iadd hx hb d_Mo_value_42 ?_
      refine Ct.callV (As := [.int (nI k), .int (1000 + mam)]) (rest := []) hx hb hml hown hts hK hA hl.1 hW (c_Mo_put2 l G h0 mcd mty mtx mpl mth mln msc (nI fr) mdr mcm mop mkd (nI b) (nI ee) mam mis mip msd mrg mmn mou fd (nI k) (1000 + mam) (put_in hfr hk)) (cwV 2 hts (good_V w_ml_Mo_77 w_im_Mo_put w_se_Mo_put w_ini_Mo w_code_Mo_put) rfl rfl rfl yd_Mo_put ⟨by decide, by decide⟩) [0, 2] (by decide) rfl (ci := 1) (r := vr_Mo) rfl rfl rfl rfl rfl (Nat.le_of_ble_eq_true rfl) d_Mo_value_43 ⟨by decide, by decide⟩ (fun v w' hp => by obtain ⟨-, rfl⟩ := hp; exact Nat.le_of_ble_eq_true rfl) (fun v w' H locs hp hW => ?_)
      obtain ⟨rfl, rfl⟩ := hp
      have hW : Wd G A s.heap [(h0, .inr (1, [.int mcd, .int mty, .ref mtx, .int mpl, .int mth, .int mln, .ref msc, .int (nI fr), .ref mdr, .int mcm, .int mop, .int mkd, .int (nI b), .int (nI ee), .int mam, .ref mis, .ref mip, .ref msd, .ref mrg, .int mmn, .ref mou])), (mtx, .inl (G.2 2, 120, .inl f)), (mdr, .inl (G.2 0, 400, .inl (upd fd (((6 * (nI fr)) + (nI k)).toNatClampNeg) (1000 + mam))))] H locs := hW
      refine W.eq (g2 := F0 m 46 ls []) rfl ?_
      refine lv_aload_n hx hb d_Mo_value_46 rfl (lv_at hl 0 rfl) ?_
      refine Ct.callV (As := []) (rest := []) hx hb hml hown hts hK hA hl.1 hW (c_Mo_isRegisterR l G h0 mcd mty mtx mpl mth mln msc (nI fr) mdr mcm mop mkd mam mis mip msd mrg mmn mou b ee ) (cwV 0 hts (good_V w_ml_Mo_81 w_im_Mo_isRegister w_se_Mo_isRegister w_ini_Mo w_code_Mo_isRegister) rfl rfl rfl yd_Mo_isRegister ⟨by decide, by decide⟩) [0] (by decide) rfl (ci := 1) (r := vr_Mo) rfl rfl rfl rfl rfl (Nat.le_of_ble_eq_true rfl) d_Mo_value_47 ⟨by decide, by decide⟩ (fun v w' hp => by obtain ⟨-, rfl⟩ := hp; exact Nat.le_of_ble_eq_true rfl) (fun v w' H locs hp hW => ?_)
      obtain ⟨rfl, rfl⟩ := hp
      have hW : Wd G A s.heap [(h0, .inr (1, [.int mcd, .int mty, .ref mtx, .int mpl, .int mth, .int mln, .ref msc, .int (nI fr), .ref mdr, .int mcm, .int mop, .int mkd, .int (nI b), .int (nI ee), .int mam, .ref mis, .ref mip, .ref msd, .ref mrg, .int mmn, .ref mou])), (mtx, .inl (G.2 2, 120, .inl f)), (mdr, .inl (G.2 0, 400, .inl (upd fd (((6 * (nI fr)) + (nI k)).toNatClampNeg) (1000 + mam))))] H locs := hW
      refine W.eq (g2 := F0 m 50 ls [.int (o_Mo_isRegister_r mkd b ee)]) rfl ?_
      refine lv_if_ne (tgt := 61) hx hb d_Mo_value_50 rfl (fun hz => absurd ht3 hz) (fun _ => ?_)
      refine lv_aload_n hx hb d_Mo_value_53 rfl (lv_at hl 0 rfl) ?_
      refine Wd.get hx hb hts hown hK hW 0 11 in_Mo w_fl_Mo_71 (by decide) d_Mo_value_54 rfl rfl rfl ?_
      refine lv_iconst (v := 2) hx hb d_Mo_value_57 (by decide) ?_
      refine lv_icmp_ne (tgt := 65) hx hb d_Mo_value_58 rfl (fun ht5 => ?_) (fun hf6 => ?_)
      · refine lv_bipush (v := 16) hx hb d_Mo_value_65 (by decide) ?_
        exact Ct.iret hx hb hr hnl hW (by decide) (by decide) d_Mo_value_67 (by
      have e : mVal f mkd b ee mam fd fr mcm mop k y1 y2 = (16, upd fd (((6 * (nI fr)) + (nI k)).toNatClampNeg) (1000 + mam)) := by unfold mVal; rw [if_pos ht1, if_pos ht3, if_neg ht5]
      rw [e]
      exact ⟨rfl, rfl⟩)
      · refine lv_iload_n hx hb d_Mo_value_61 rfl (lv_at hl 3 rfl) ?_
        refine lv_goto (tgt := 67) hx hb d_Mo_value_62 rfl ?_
        exact Ct.iret hx hb hr hnl hW (by decide) (by decide) d_Mo_value_67 (by
      have e : mVal f mkd b ee mam fd fr mcm mop k y1 y2 = (y2, upd fd (((6 * (nI fr)) + (nI k)).toNatClampNeg) (1000 + mam)) := by unfold mVal; rw [if_pos ht1, if_pos ht3, if_pos hf6]
      rw [e]
      exact ⟨rfl, rfl⟩)
    · refine lv_aload_n hx hb d_Mo_value_20 rfl (lv_at hl 0 rfl) ?_
      refine Wd.get hx hb hts hown hK hW 0 2 in_Mo w_fl_Mo_7 (by decide) d_Mo_value_21 rfl rfl rfl ?_
      refine lv_aload_n hx hb d_Mo_value_24 rfl (lv_at hl 0 rfl) ?_
      refine Wd.get hx hb hts hown hK hW 0 12 in_Mo w_fl_Mo_48 (by decide) d_Mo_value_25 rfl rfl rfl ?_
      refine Wd.cald hx hb hK hW 1 d_Mo_value_28 rfl (vp_in_nI (hb0 (fun q0 => absurd (isReg_1 (mkd := mkd) (b := b) (ee := ee) (by assumption)) (by rw [q0]; decide))) (by omega)) ?_
      refine lv_bipush (v := 97) hx hb d_Mo_value_29 (by decide) ?_
      refine lv_isub hx hb d_Mo_value_31 ?_
      refine lv_goto (tgt := 43) hx hb d_Mo_value_32 rfl ?_
      refine Ct.callV (As := [.int (nI k), .int ((f ((nI b).toNatClampNeg)) - 97)]) (rest := []) hx hb hml hown hts hK hA hl.1 hW (c_Mo_put2 l G h0 mcd mty mtx mpl mth mln msc (nI fr) mdr mcm mop mkd (nI b) (nI ee) mam mis mip msd mrg mmn mou fd (nI k) ((f ((nI b).toNatClampNeg)) - 97) (put_in hfr hk)) (cwV 2 hts (good_V w_ml_Mo_77 w_im_Mo_put w_se_Mo_put w_ini_Mo w_code_Mo_put) rfl rfl rfl yd_Mo_put ⟨by decide, by decide⟩) [0, 2] (by decide) rfl (ci := 1) (r := vr_Mo) rfl rfl rfl rfl rfl (Nat.le_of_ble_eq_true rfl) d_Mo_value_43 ⟨by decide, by decide⟩ (fun v w' hp => by obtain ⟨-, rfl⟩ := hp; exact Nat.le_of_ble_eq_true rfl) (fun v w' H locs hp hW => ?_)
      obtain ⟨rfl, rfl⟩ := hp
      have hW : Wd G A s.heap [(h0, .inr (1, [.int mcd, .int mty, .ref mtx, .int mpl, .int mth, .int mln, .ref msc, .int (nI fr), .ref mdr, .int mcm, .int mop, .int mkd, .int (nI b), .int (nI ee), .int mam, .ref mis, .ref mip, .ref msd, .ref mrg, .int mmn, .ref mou])), (mtx, .inl (G.2 2, 120, .inl f)), (mdr, .inl (G.2 0, 400, .inl (upd fd (((6 * (nI fr)) + (nI k)).toNatClampNeg) ((f ((nI b).toNatClampNeg)) - 97))))] H locs := hW
      refine W.eq (g2 := F0 m 46 ls []) rfl ?_
      refine lv_aload_n hx hb d_Mo_value_46 rfl (lv_at hl 0 rfl) ?_
      refine Ct.callV (As := []) (rest := []) hx hb hml hown hts hK hA hl.1 hW (c_Mo_isRegisterR l G h0 mcd mty mtx mpl mth mln msc (nI fr) mdr mcm mop mkd mam mis mip msd mrg mmn mou b ee ) (cwV 0 hts (good_V w_ml_Mo_81 w_im_Mo_isRegister w_se_Mo_isRegister w_ini_Mo w_code_Mo_isRegister) rfl rfl rfl yd_Mo_isRegister ⟨by decide, by decide⟩) [0] (by decide) rfl (ci := 1) (r := vr_Mo) rfl rfl rfl rfl rfl (Nat.le_of_ble_eq_true rfl) d_Mo_value_47 ⟨by decide, by decide⟩ (fun v w' hp => by obtain ⟨-, rfl⟩ := hp; exact Nat.le_of_ble_eq_true rfl) (fun v w' H locs hp hW => ?_)
      obtain ⟨rfl, rfl⟩ := hp
      have hW : Wd G A s.heap [(h0, .inr (1, [.int mcd, .int mty, .ref mtx, .int mpl, .int mth, .int mln, .ref msc, .int (nI fr), .ref mdr, .int mcm, .int mop, .int mkd, .int (nI b), .int (nI ee), .int mam, .ref mis, .ref mip, .ref msd, .ref mrg, .int mmn, .ref mou])), (mtx, .inl (G.2 2, 120, .inl f)), (mdr, .inl (G.2 0, 400, .inl (upd fd (((6 * (nI fr)) + (nI k)).toNatClampNeg) ((f ((nI b).toNatClampNeg)) - 97))))] H locs := hW
      refine W.eq (g2 := F0 m 50 ls [.int (o_Mo_isRegister_r mkd b ee)]) rfl ?_
      refine lv_if_ne (tgt := 61) hx hb d_Mo_value_50 rfl (fun _ => ?_) (fun hz => absurd hz hf4)
      refine lv_iload_n hx hb d_Mo_value_61 rfl (lv_at hl 3 rfl) ?_
      refine lv_goto (tgt := 67) hx hb d_Mo_value_62 rfl ?_
      exact Ct.iret hx hb hr hnl hW (by decide) (by decide) d_Mo_value_67 (by
      have e : mVal f mkd b ee mam fd fr mcm mop k y1 y2 = (y2, upd fd (((6 * (nI fr)) + (nI k)).toNatClampNeg) ((f ((nI b).toNatClampNeg)) - 97)) := by unfold mVal; rw [if_pos ht1, if_neg hf4]
      rw [e]
      exact ⟨rfl, rfl⟩)
  · refine lv_iload_n hx hb d_Mo_value_9 rfl (lv_at hl 2 rfl) ?_
    exact Ct.iret hx hb hr hnl hW (by decide) (by decide) d_Mo_value_10 (by
      have e : mVal f mkd b ee mam fd fr mcm mop k y1 y2 = (y1, fd) := by unfold mVal; rw [if_neg hf2]
      rw [e]
      exact ⟨rfl, rfl⟩)

def mInp (f : Nat → Int32) (mkd : Int32) (b : Nat) (ee : Nat) (mam : Int32) (fd : Nat → Int32) (fr : Nat) (mcm : Int32) (mop : Int32) (k : Nat) (y1 : Int32) : Int32 × (Nat → Int32) := if mkd = 2 then if 8 ≤ mam then (16, upd fd (((6 * (nI fr)) + (nI k)).toNatClampNeg) (100 + mam)) else (y1, upd fd (((6 * (nI fr)) + (nI k)).toNatClampNeg) (100 + mam)) else (16, upd fd (((6 * (nI fr)) + (nI k)).toNatClampNeg) (100 + mam))
abbrev rm_Mo_inputOf : Room := { frames := 1, cells := 0, slots := 0, locals := 22 }
set_option maxHeartbeats 4000000 in
set_option maxRecDepth 100000 in
theorem c_Mo_inputOf (l : Launch) (G : Gt) (h0 : Nat) (mcd : Int32) (mty : Int32) (mtx : Nat) (mpl : Int32) (mth : Int32) (mln : Int32) (msc : Nat) (mdr : Nat) (mcm : Int32) (mop : Int32) (mkd : Int32) (mam : Int32) (mis : Nat) (mip : Nat) (msd : Nat) (mrg : Nat) (mmn : Int32) (mou : Nat) (b : Nat) (ee : Nat) (fr : Nat) (f : Nat → Int32) (fd : Nat → Int32) (k : Nat) (y1 : Int32) (hbe : b ≤ ee) (hee : ee ≤ 120) (hb0 : ¬ mkd = 0 → b < 120) (hfr : fr ≤ 60) (hk : k ≤ 5) : Ct l G y_Mo_inputOf b_Mo_inputOf 3 (some .int) rm_Mo_inputOf [.ref h0, .int (nI k), .int y1] [(h0, .inr (1, [.int mcd, .int mty, .ref mtx, .int mpl, .int mth, .int mln, .ref msc, .int (nI fr), .ref mdr, .int mcm, .int mop, .int mkd, .int (nI b), .int (nI ee), .int mam, .ref mis, .ref mip, .ref msd, .ref mrg, .int mmn, .ref mou])), (mtx, .inl (G.2 2, 120, .inl f)), (mdr, .inl (G.2 0, 400, .inl fd))] 0 0 (fun v w' => v = some (.int ((mInp f mkd b ee mam fd fr mcm mop k y1).1)) ∧ w' = [(h0, .inr (1, [.int mcd, .int mty, .ref mtx, .int mpl, .int mth, .int mln, .ref msc, .int (nI fr), .ref mdr, .int mcm, .int mop, .int mkd, .int (nI b), .int (nI ee), .int mam, .ref mis, .ref mip, .ref msd, .ref mrg, .int mmn, .ref mou])), (mtx, .inl (G.2 2, 120, .inl f)), (mdr, .inl (G.2 0, 400, .inl ((mInp f mkd b ee mam fd fr mcm mop k y1).2)))]) := by
  refine Ct.of (by decide) (Nat.le_of_ble_eq_true rfl) (fun p e s m args below meth c A ls H locs hx hb hml hr hnl hown hts hnm hK hA hl hW => ?_)
  have hl : lv_has ls 3 [(0, .ref h0), (1, .int (nI k)), (2, .int y1)] := hl
  refine lv_aload_n hx hb d_Mo_inputOf_0 rfl (lv_at hl 0 rfl) ?_
  refine lv_iload_n hx hb d_Mo_inputOf_1 rfl (lv_at hl 1 rfl) ?_
  refine lv_bipush (v := 100) hx hb d_Mo_inputOf_2 (by decide) ?_
  refine lv_aload_n hx hb d_Mo_inputOf_4 rfl (lv_at hl 0 rfl) ?_
  refine Wd.get hx hb hts hown hK hW 0 14 in_Mo w_fl_Mo_58 (by decide) d_Mo_inputOf_5 rfl rfl rfl ?_
  refine lv_iadd hx hb d_Mo_inputOf_8 ?_
  refine Ct.callV (As := [.int (nI k), .int (100 + mam)]) (rest := []) hx hb hml hown hts hK hA hl.1 hW (c_Mo_put2 l G h0 mcd mty mtx mpl mth mln msc (nI fr) mdr mcm mop mkd (nI b) (nI ee) mam mis mip msd mrg mmn mou fd (nI k) (100 + mam) (put_in hfr hk)) (cwV 2 hts (good_V w_ml_Mo_77 w_im_Mo_put w_se_Mo_put w_ini_Mo w_code_Mo_put) rfl rfl rfl yd_Mo_put ⟨by decide, by decide⟩) [0, 2] (by decide) rfl (ci := 1) (r := vr_Mo) rfl rfl rfl rfl rfl (Nat.le_of_ble_eq_true rfl) d_Mo_inputOf_9 ⟨by decide, by decide⟩ (fun v w' hp => by obtain ⟨-, rfl⟩ := hp; exact Nat.le_of_ble_eq_true rfl) (fun v w' H locs hp hW => ?_)
  obtain ⟨rfl, rfl⟩ := hp
  have hW : Wd G A s.heap [(h0, .inr (1, [.int mcd, .int mty, .ref mtx, .int mpl, .int mth, .int mln, .ref msc, .int (nI fr), .ref mdr, .int mcm, .int mop, .int mkd, .int (nI b), .int (nI ee), .int mam, .ref mis, .ref mip, .ref msd, .ref mrg, .int mmn, .ref mou])), (mtx, .inl (G.2 2, 120, .inl f)), (mdr, .inl (G.2 0, 400, .inl (upd fd (((6 * (nI fr)) + (nI k)).toNatClampNeg) (100 + mam))))] H locs := hW
  refine W.eq (g2 := F0 m 12 ls []) rfl ?_
  refine lv_aload_n hx hb d_Mo_inputOf_12 rfl (lv_at hl 0 rfl) ?_
  refine Wd.get hx hb hts hown hK hW 0 11 in_Mo w_fl_Mo_71 (by decide) d_Mo_inputOf_13 rfl rfl rfl ?_
  refine lv_iconst (v := 2) hx hb d_Mo_inputOf_16 (by decide) ?_
  refine lv_icmp_ne (tgt := 33) hx hb d_Mo_inputOf_17 rfl (fun ht1 => ?_) (fun hf2 => ?_)
  · refine lv_bipush (v := 16) hx hb d_Mo_inputOf_33 (by decide) ?_
    exact Ct.iret hx hb hr hnl hW (by decide) (by decide) d_Mo_inputOf_35 (by
      have e : mInp f mkd b ee mam fd fr mcm mop k y1 = (16, upd fd (((6 * (nI fr)) + (nI k)).toNatClampNeg) (100 + mam)) := by unfold mInp; rw [if_neg ht1]
      rw [e]
      exact ⟨rfl, rfl⟩)
  · refine lv_aload_n hx hb d_Mo_inputOf_20 rfl (lv_at hl 0 rfl) ?_
    refine Wd.get hx hb hts hown hK hW 0 14 in_Mo w_fl_Mo_58 (by decide) d_Mo_inputOf_21 rfl rfl rfl ?_
    refine lv_bipush (v := 8) hx hb d_Mo_inputOf_24 (by decide) ?_
    refine lv_icmp_ge (tgt := 33) hx hb d_Mo_inputOf_26 rfl (fun ht3 => ?_) (fun hf4 => ?_)
    · refine lv_bipush (v := 16) hx hb d_Mo_inputOf_33 (by decide) ?_
      exact Ct.iret hx hb hr hnl hW (by decide) (by decide) d_Mo_inputOf_35 (by
      have e : mInp f mkd b ee mam fd fr mcm mop k y1 = (16, upd fd (((6 * (nI fr)) + (nI k)).toNatClampNeg) (100 + mam)) := by unfold mInp; rw [if_pos hf2, if_pos ht3]
      rw [e]
      exact ⟨rfl, rfl⟩)
    · refine lv_iload_n hx hb d_Mo_inputOf_29 rfl (lv_at hl 2 rfl) ?_
      refine lv_goto (tgt := 35) hx hb d_Mo_inputOf_30 rfl ?_
      exact Ct.iret hx hb hr hnl hW (by decide) (by decide) d_Mo_inputOf_35 (by
      have e : mInp f mkd b ee mam fd fr mcm mop k y1 = (y1, upd fd (((6 * (nI fr)) + (nI k)).toNatClampNeg) (100 + mam)) := by unfold mInp; rw [if_pos hf2, if_neg hf4]
      rw [e]
      exact ⟨rfl, rfl⟩)

def mNam (f : Nat → Int32) (mkd : Int32) (b : Nat) (ee : Nat) (mam : Int32) (fd : Nat → Int32) (fr : Nat) (mcm : Int32) (mop : Int32) (y1 : Int32) : Int32 × (Nat → Int32) := if (o_Mo_isRegister_r mkd b ee) = 0 then (16, upd fd (((6 * (nI fr)) + (1 : Int32)).toNatClampNeg) (0 : Int32)) else (y1, upd fd (((6 * (nI fr)) + (1 : Int32)).toNatClampNeg) ((f ((nI b).toNatClampNeg)) - 97))
abbrev rm_Mo_named : Room := { frames := 1, cells := 0, slots := 0, locals := 22 }
set_option maxHeartbeats 4000000 in
set_option maxRecDepth 100000 in
theorem c_Mo_named (l : Launch) (G : Gt) (h0 : Nat) (mcd : Int32) (mty : Int32) (mtx : Nat) (mpl : Int32) (mth : Int32) (mln : Int32) (msc : Nat) (mdr : Nat) (mcm : Int32) (mop : Int32) (mkd : Int32) (mam : Int32) (mis : Nat) (mip : Nat) (msd : Nat) (mrg : Nat) (mmn : Int32) (mou : Nat) (b : Nat) (ee : Nat) (fr : Nat) (f : Nat → Int32) (fd : Nat → Int32) (y1 : Int32) (hbe : b ≤ ee) (hee : ee ≤ 120) (hb0 : ¬ mkd = 0 → b < 120) (hfr : fr ≤ 60) : Ct l G y_Mo_named b_Mo_named 2 (some .int) rm_Mo_named [.ref h0, .int y1] [(h0, .inr (1, [.int mcd, .int mty, .ref mtx, .int mpl, .int mth, .int mln, .ref msc, .int (nI fr), .ref mdr, .int mcm, .int mop, .int mkd, .int (nI b), .int (nI ee), .int mam, .ref mis, .ref mip, .ref msd, .ref mrg, .int mmn, .ref mou])), (mtx, .inl (G.2 2, 120, .inl f)), (mdr, .inl (G.2 0, 400, .inl fd))] 0 0 (fun v w' => v = some (.int ((mNam f mkd b ee mam fd fr mcm mop y1).1)) ∧ w' = [(h0, .inr (1, [.int mcd, .int mty, .ref mtx, .int mpl, .int mth, .int mln, .ref msc, .int (nI fr), .ref mdr, .int mcm, .int mop, .int mkd, .int (nI b), .int (nI ee), .int mam, .ref mis, .ref mip, .ref msd, .ref mrg, .int mmn, .ref mou])), (mtx, .inl (G.2 2, 120, .inl f)), (mdr, .inl (G.2 0, 400, .inl ((mNam f mkd b ee mam fd fr mcm mop y1).2)))]) := by
  refine Ct.of (by decide) (Nat.le_of_ble_eq_true rfl) (fun p e s m args below meth c A ls H locs hx hb hml hr hnl hown hts hnm hK hA hl hW => ?_)
  have hl : lv_has ls 2 [(0, .ref h0), (1, .int y1)] := hl
  refine lv_aload_n hx hb d_Mo_named_0 rfl (lv_at hl 0 rfl) ?_
  refine lv_iconst (v := 1) hx hb d_Mo_named_1 (by decide) ?_
  refine lv_aload_n hx hb d_Mo_named_2 rfl (lv_at hl 0 rfl) ?_
  refine Ct.callV (As := []) (rest := [.int 1, .ref h0]) hx hb hml hown hts hK hA hl.1 hW (c_Mo_isRegisterR l G h0 mcd mty mtx mpl mth mln msc (nI fr) mdr mcm mop mkd mam mis mip msd mrg mmn mou b ee ) (cwV 0 hts (good_V w_ml_Mo_81 w_im_Mo_isRegister w_se_Mo_isRegister w_ini_Mo w_code_Mo_isRegister) rfl rfl rfl yd_Mo_isRegister ⟨by decide, by decide⟩) [0] (by decide) rfl (ci := 1) (r := vr_Mo) rfl rfl rfl rfl rfl (Nat.le_of_ble_eq_true rfl) d_Mo_named_3 ⟨by decide, by decide⟩ (fun v w' hp => by obtain ⟨-, rfl⟩ := hp; exact Nat.le_of_ble_eq_true rfl) (fun v w' H locs hp hW => ?_)
  obtain ⟨rfl, rfl⟩ := hp
  have hW : Wd G A s.heap [(h0, .inr (1, [.int mcd, .int mty, .ref mtx, .int mpl, .int mth, .int mln, .ref msc, .int (nI fr), .ref mdr, .int mcm, .int mop, .int mkd, .int (nI b), .int (nI ee), .int mam, .ref mis, .ref mip, .ref msd, .ref mrg, .int mmn, .ref mou])), (mtx, .inl (G.2 2, 120, .inl f)), (mdr, .inl (G.2 0, 400, .inl fd))] H locs := hW
  refine W.eq (g2 := F0 m 6 ls [.int (o_Mo_isRegister_r mkd b ee), .int 1, .ref h0]) rfl ?_
  refine lv_if_eq (tgt := 24) hx hb d_Mo_named_6 rfl (fun ht1 => ?_) (fun hf2 => ?_)
  · refine lv_iconst (v := 0) hx hb d_Mo_named_24 (by decide) ?_
    refine Ct.callV (As := [.int 1, .int 0]) (rest := []) hx hb hml hown hts hK hA hl.1 hW (c_Mo_put2 l G h0 mcd mty mtx mpl mth mln msc (nI fr) mdr mcm mop mkd (nI b) (nI ee) mam mis mip msd mrg mmn mou fd (1 : Int32) (0 : Int32) (put_in (k := 1) hfr (by decide))) (cwV 2 hts (good_V w_ml_Mo_77 w_im_Mo_put w_se_Mo_put w_ini_Mo w_code_Mo_put) rfl rfl rfl yd_Mo_put ⟨by decide, by decide⟩) [0, 2] (by decide) rfl (ci := 1) (r := vr_Mo) rfl rfl rfl rfl rfl (Nat.le_of_ble_eq_true rfl) d_Mo_named_25 ⟨by decide, by decide⟩ (fun v w' hp => by obtain ⟨-, rfl⟩ := hp; exact Nat.le_of_ble_eq_true rfl) (fun v w' H locs hp hW => ?_)
    obtain ⟨rfl, rfl⟩ := hp
    have hW : Wd G A s.heap [(h0, .inr (1, [.int mcd, .int mty, .ref mtx, .int mpl, .int mth, .int mln, .ref msc, .int (nI fr), .ref mdr, .int mcm, .int mop, .int mkd, .int (nI b), .int (nI ee), .int mam, .ref mis, .ref mip, .ref msd, .ref mrg, .int mmn, .ref mou])), (mtx, .inl (G.2 2, 120, .inl f)), (mdr, .inl (G.2 0, 400, .inl (upd fd (((6 * (nI fr)) + (1 : Int32)).toNatClampNeg) (0 : Int32))))] H locs := hW
    refine W.eq (g2 := F0 m 28 ls []) rfl ?_
    refine lv_aload_n hx hb d_Mo_named_28 rfl (lv_at hl 0 rfl) ?_
    refine Ct.callV (As := []) (rest := []) hx hb hml hown hts hK hA hl.1 hW (c_Mo_isRegisterR l G h0 mcd mty mtx mpl mth mln msc (nI fr) mdr mcm mop mkd mam mis mip msd mrg mmn mou b ee ) (cwV 0 hts (good_V w_ml_Mo_81 w_im_Mo_isRegister w_se_Mo_isRegister w_ini_Mo w_code_Mo_isRegister) rfl rfl rfl yd_Mo_isRegister ⟨by decide, by decide⟩) [0] (by decide) rfl (ci := 1) (r := vr_Mo) rfl rfl rfl rfl rfl (Nat.le_of_ble_eq_true rfl) d_Mo_named_29 ⟨by decide, by decide⟩ (fun v w' hp => by obtain ⟨-, rfl⟩ := hp; exact Nat.le_of_ble_eq_true rfl) (fun v w' H locs hp hW => ?_)
    obtain ⟨rfl, rfl⟩ := hp
    have hW : Wd G A s.heap [(h0, .inr (1, [.int mcd, .int mty, .ref mtx, .int mpl, .int mth, .int mln, .ref msc, .int (nI fr), .ref mdr, .int mcm, .int mop, .int mkd, .int (nI b), .int (nI ee), .int mam, .ref mis, .ref mip, .ref msd, .ref mrg, .int mmn, .ref mou])), (mtx, .inl (G.2 2, 120, .inl f)), (mdr, .inl (G.2 0, 400, .inl (upd fd (((6 * (nI fr)) + (1 : Int32)).toNatClampNeg) (0 : Int32))))] H locs := hW
    refine W.eq (g2 := F0 m 32 ls [.int (o_Mo_isRegister_r mkd b ee)]) rfl ?_
    refine lv_if_eq (tgt := 39) hx hb d_Mo_named_32 rfl (fun _ => ?_) (fun hz => absurd ht1 hz)
    refine lv_bipush (v := 16) hx hb d_Mo_named_39 (by decide) ?_
    exact Ct.iret hx hb hr hnl hW (by decide) (by decide) d_Mo_named_41 (by
      have e : mNam f mkd b ee mam fd fr mcm mop y1 = (16, upd fd (((6 * (nI fr)) + (1 : Int32)).toNatClampNeg) (0 : Int32)) := by unfold mNam; rw [if_pos ht1]
      rw [e]
      exact ⟨rfl, rfl⟩)
  · refine lv_aload_n hx hb d_Mo_named_9 rfl (lv_at hl 0 rfl) ?_
    refine Wd.get hx hb hts hown hK hW 0 2 in_Mo w_fl_Mo_7 (by decide) d_Mo_named_10 rfl rfl rfl ?_
    refine lv_aload_n hx hb d_Mo_named_13 rfl (lv_at hl 0 rfl) ?_
    refine Wd.get hx hb hts hown hK hW 0 12 in_Mo w_fl_Mo_48 (by decide) d_Mo_named_14 rfl rfl rfl ?_
    refine Wd.cald hx hb hK hW 1 d_Mo_named_17 rfl (vp_in_nI (hb0 (fun q0 => absurd (isReg_1 (mkd := mkd) (b := b) (ee := ee) (by assumption)) (by rw [q0]; decide))) (by omega)) ?_
    refine lv_bipush (v := 97) hx hb d_Mo_named_18 (by decide) ?_
    refine lv_isub hx hb d_Mo_named_20 ?_
    refine lv_goto (tgt := 25) hx hb d_Mo_named_21 rfl ?_
    refine Ct.callV (As := [.int 1, .int ((f ((nI b).toNatClampNeg)) - 97)]) (rest := []) hx hb hml hown hts hK hA hl.1 hW (c_Mo_put2 l G h0 mcd mty mtx mpl mth mln msc (nI fr) mdr mcm mop mkd (nI b) (nI ee) mam mis mip msd mrg mmn mou fd (1 : Int32) ((f ((nI b).toNatClampNeg)) - 97) (put_in (k := 1) hfr (by decide))) (cwV 2 hts (good_V w_ml_Mo_77 w_im_Mo_put w_se_Mo_put w_ini_Mo w_code_Mo_put) rfl rfl rfl yd_Mo_put ⟨by decide, by decide⟩) [0, 2] (by decide) rfl (ci := 1) (r := vr_Mo) rfl rfl rfl rfl rfl (Nat.le_of_ble_eq_true rfl) d_Mo_named_25 ⟨by decide, by decide⟩ (fun v w' hp => by obtain ⟨-, rfl⟩ := hp; exact Nat.le_of_ble_eq_true rfl) (fun v w' H locs hp hW => ?_)
    obtain ⟨rfl, rfl⟩ := hp
    have hW : Wd G A s.heap [(h0, .inr (1, [.int mcd, .int mty, .ref mtx, .int mpl, .int mth, .int mln, .ref msc, .int (nI fr), .ref mdr, .int mcm, .int mop, .int mkd, .int (nI b), .int (nI ee), .int mam, .ref mis, .ref mip, .ref msd, .ref mrg, .int mmn, .ref mou])), (mtx, .inl (G.2 2, 120, .inl f)), (mdr, .inl (G.2 0, 400, .inl (upd fd (((6 * (nI fr)) + (1 : Int32)).toNatClampNeg) ((f ((nI b).toNatClampNeg)) - 97))))] H locs := hW
    refine W.eq (g2 := F0 m 28 ls []) rfl ?_
    refine lv_aload_n hx hb d_Mo_named_28 rfl (lv_at hl 0 rfl) ?_
    refine Ct.callV (As := []) (rest := []) hx hb hml hown hts hK hA hl.1 hW (c_Mo_isRegisterR l G h0 mcd mty mtx mpl mth mln msc (nI fr) mdr mcm mop mkd mam mis mip msd mrg mmn mou b ee ) (cwV 0 hts (good_V w_ml_Mo_81 w_im_Mo_isRegister w_se_Mo_isRegister w_ini_Mo w_code_Mo_isRegister) rfl rfl rfl yd_Mo_isRegister ⟨by decide, by decide⟩) [0] (by decide) rfl (ci := 1) (r := vr_Mo) rfl rfl rfl rfl rfl (Nat.le_of_ble_eq_true rfl) d_Mo_named_29 ⟨by decide, by decide⟩ (fun v w' hp => by obtain ⟨-, rfl⟩ := hp; exact Nat.le_of_ble_eq_true rfl) (fun v w' H locs hp hW => ?_)
    obtain ⟨rfl, rfl⟩ := hp
    have hW : Wd G A s.heap [(h0, .inr (1, [.int mcd, .int mty, .ref mtx, .int mpl, .int mth, .int mln, .ref msc, .int (nI fr), .ref mdr, .int mcm, .int mop, .int mkd, .int (nI b), .int (nI ee), .int mam, .ref mis, .ref mip, .ref msd, .ref mrg, .int mmn, .ref mou])), (mtx, .inl (G.2 2, 120, .inl f)), (mdr, .inl (G.2 0, 400, .inl (upd fd (((6 * (nI fr)) + (1 : Int32)).toNatClampNeg) ((f ((nI b).toNatClampNeg)) - 97))))] H locs := hW
    refine W.eq (g2 := F0 m 32 ls [.int (o_Mo_isRegister_r mkd b ee)]) rfl ?_
    refine lv_if_eq (tgt := 39) hx hb d_Mo_named_32 rfl (fun hz => absurd hz hf2) (fun _ => ?_)
    refine lv_iload_n hx hb d_Mo_named_35 rfl (lv_at hl 1 rfl) ?_
    refine lv_goto (tgt := 41) hx hb d_Mo_named_36 rfl ?_
    exact Ct.iret hx hb hr hnl hW (by decide) (by decide) d_Mo_named_41 (by
      have e : mNam f mkd b ee mam fd fr mcm mop y1 = (y1, upd fd (((6 * (nI fr)) + (1 : Int32)).toNatClampNeg) ((f ((nI b).toNatClampNeg)) - 97)) := by unfold mNam; rw [if_neg hf2]
      rw [e]
      exact ⟨rfl, rfl⟩)

def mTo (f : Nat → Int32) (mkd : Int32) (b : Nat) (ee : Nat) (mam : Int32) (fd : Nat → Int32) (fr : Nat) (mcm : Int32) (mop : Int32) : Int32 × (Nat → Int32) × Int32 := if (o_Mo_isRegister_r mkd b ee) = 0 then (16, fd, mcm) else if (((f ((nI b).toNatClampNeg)) - 97) - (fd (((6 * (nI fr)) + 1).toNatClampNeg))) < 1 then (16, fd, mcm) else if (((f ((nI b).toNatClampNeg)) - 97) - (fd (((6 * (nI fr)) + 1).toNatClampNeg))) ≤ 4 then if ((upd fd (((6 * (nI fr)) + (5 : Int32)).toNatClampNeg) ((f ((nI b).toNatClampNeg)) - 97)) ((6 * (nI fr)).toNatClampNeg)) = 6 then ((mCmp f mkd b ee mam (upd fd (((6 * (nI fr)) + (5 : Int32)).toNatClampNeg) ((f ((nI b).toNatClampNeg)) - 97)) fr mcm mop (((((f ((nI b).toNatClampNeg)) - 97) - (fd (((6 * (nI fr)) + 1).toNatClampNeg))) * ((((f ((nI b).toNatClampNeg)) - 97) - (fd (((6 * (nI fr)) + 1).toNatClampNeg))) + 1)) / 2) (15 : Int32)).1, (upd fd (((6 * (nI fr)) + (5 : Int32)).toNatClampNeg) ((f ((nI b).toNatClampNeg)) - 97)), (mCmp f mkd b ee mam (upd fd (((6 * (nI fr)) + (5 : Int32)).toNatClampNeg) ((f ((nI b).toNatClampNeg)) - 97)) fr mcm mop (((((f ((nI b).toNatClampNeg)) - 97) - (fd (((6 * (nI fr)) + 1).toNatClampNeg))) * ((((f ((nI b).toNatClampNeg)) - 97) - (fd (((6 * (nI fr)) + 1).toNatClampNeg))) + 1)) / 2) (15 : Int32)).2) else ((mCmp f mkd b ee mam (upd fd (((6 * (nI fr)) + (5 : Int32)).toNatClampNeg) ((f ((nI b).toNatClampNeg)) - 97)) fr mcm mop (0 : Int32) (15 : Int32)).1, (upd fd (((6 * (nI fr)) + (5 : Int32)).toNatClampNeg) ((f ((nI b).toNatClampNeg)) - 97)), (mCmp f mkd b ee mam (upd fd (((6 * (nI fr)) + (5 : Int32)).toNatClampNeg) ((f ((nI b).toNatClampNeg)) - 97)) fr mcm mop (0 : Int32) (15 : Int32)).2) else (16, fd, mcm)
abbrev rm_Mo_to : Room := { frames := 1, cells := 0, slots := 0, locals := 22 }
set_option maxHeartbeats 4000000 in
set_option maxRecDepth 100000 in
theorem c_Mo_to (l : Launch) (G : Gt) (h0 : Nat) (mcd : Int32) (mty : Int32) (mtx : Nat) (mpl : Int32) (mth : Int32) (mln : Int32) (msc : Nat) (mdr : Nat) (mcm : Int32) (mop : Int32) (mkd : Int32) (mam : Int32) (mis : Nat) (mip : Nat) (msd : Nat) (mrg : Nat) (mmn : Int32) (mou : Nat) (b : Nat) (ee : Nat) (fr : Nat) (f : Nat → Int32) (fd : Nat → Int32) (hbe : b ≤ ee) (hee : ee ≤ 120) (hb0 : ¬ mkd = 0 → b < 120) (hfr : fr ≤ 60) (hk1 : mkd = 1) : Ct l G y_Mo_to b_Mo_to 2 (some .int) rm_Mo_to [.ref h0] [(h0, .inr (1, [.int mcd, .int mty, .ref mtx, .int mpl, .int mth, .int mln, .ref msc, .int (nI fr), .ref mdr, .int mcm, .int mop, .int mkd, .int (nI b), .int (nI ee), .int mam, .ref mis, .ref mip, .ref msd, .ref mrg, .int mmn, .ref mou])), (mtx, .inl (G.2 2, 120, .inl f)), (mdr, .inl (G.2 0, 400, .inl fd))] 0 0 (fun v w' => v = some (.int ((mTo f mkd b ee mam fd fr mcm mop).1)) ∧ w' = [(h0, .inr (1, [.int mcd, .int mty, .ref mtx, .int mpl, .int mth, .int mln, .ref msc, .int (nI fr), .ref mdr, .int ((mTo f mkd b ee mam fd fr mcm mop).2.2), .int mop, .int mkd, .int (nI b), .int (nI ee), .int mam, .ref mis, .ref mip, .ref msd, .ref mrg, .int mmn, .ref mou])), (mtx, .inl (G.2 2, 120, .inl f)), (mdr, .inl (G.2 0, 400, .inl ((mTo f mkd b ee mam fd fr mcm mop).2.1)))]) := by
  refine Ct.of (by decide) (Nat.le_of_ble_eq_true rfl) (fun p e s m args below meth c A ls H locs hx hb hml hr hnl hown hts hnm hK hA hl hW => ?_)
  have hl : lv_has ls 2 [(0, .ref h0)] := hl
  refine lv_aload_n hx hb d_Mo_to_0 rfl (lv_at hl 0 rfl) ?_
  refine Wd.get hx hb hts hown hK hW 0 2 in_Mo w_fl_Mo_7 (by decide) d_Mo_to_1 rfl rfl rfl ?_
  refine lv_aload_n hx hb d_Mo_to_4 rfl (lv_at hl 0 rfl) ?_
  refine Wd.get hx hb hts hown hK hW 0 12 in_Mo w_fl_Mo_48 (by decide) d_Mo_to_5 rfl rfl rfl ?_
  refine Wd.cald hx hb hK hW 1 d_Mo_to_8 rfl (vp_in_nI (hb0 (by rw [hk1]; decide)) (by omega)) ?_
  refine lv_bipush (v := 97) hx hb d_Mo_to_9 (by decide) ?_
  refine lv_isub hx hb d_Mo_to_11 ?_
  refine lv_aload_n hx hb d_Mo_to_12 rfl (lv_at hl 0 rfl) ?_
  refine Wd.get hx hb hts hown hK hW 0 8 in_Mo w_fl_Mo_21 (by decide) d_Mo_to_13 rfl rfl rfl ?_
  refine lv_bipush (v := 6) hx hb d_Mo_to_16 (by decide) ?_
  refine lv_aload_n hx hb d_Mo_to_18 rfl (lv_at hl 0 rfl) ?_
  refine Wd.get hx hb hts hown hK hW 0 7 in_Mo w_fl_Mo_74 (by decide) d_Mo_to_19 rfl rfl rfl ?_
  refine lv_imul hx hb d_Mo_to_22 ?_
  refine lv_iconst (v := 1) hx hb d_Mo_to_23 (by decide) ?_
  refine lv_iadd hx hb d_Mo_to_24 ?_
  refine Wd.iald hx hb hK hW 2 d_Mo_to_25 rfl (put_in (k := 1) hfr (by decide)) ?_
  refine lv_isub hx hb d_Mo_to_26 ?_
  refine lv_istore_n (lv' := [(1, .int (((f ((nI b).toNatClampNeg)) - 97) - (fd (((6 * (nI fr)) + 1).toNatClampNeg)))), (0, .ref h0)]) hx hb d_Mo_to_27 rfl hl (by decide) rfl (fun ls hl => ?_)
  refine lv_aload_n hx hb d_Mo_to_28 rfl (lv_at hl 1 rfl) ?_
  refine Ct.callV (As := []) (rest := []) hx hb hml hown hts hK hA hl.1 hW (c_Mo_isRegisterR l G h0 mcd mty mtx mpl mth mln msc (nI fr) mdr mcm mop mkd mam mis mip msd mrg mmn mou b ee ) (cwV 0 hts (good_V w_ml_Mo_81 w_im_Mo_isRegister w_se_Mo_isRegister w_ini_Mo w_code_Mo_isRegister) rfl rfl rfl yd_Mo_isRegister ⟨by decide, by decide⟩) [0] (by decide) rfl (ci := 1) (r := vr_Mo) rfl rfl rfl rfl rfl (Nat.le_of_ble_eq_true rfl) d_Mo_to_29 ⟨by decide, by decide⟩ (fun v w' hp => by obtain ⟨-, rfl⟩ := hp; exact Nat.le_of_ble_eq_true rfl) (fun v w' H locs hp hW => ?_)
  obtain ⟨rfl, rfl⟩ := hp
  have hW : Wd G A s.heap [(h0, .inr (1, [.int mcd, .int mty, .ref mtx, .int mpl, .int mth, .int mln, .ref msc, .int (nI fr), .ref mdr, .int mcm, .int mop, .int mkd, .int (nI b), .int (nI ee), .int mam, .ref mis, .ref mip, .ref msd, .ref mrg, .int mmn, .ref mou])), (mtx, .inl (G.2 2, 120, .inl f)), (mdr, .inl (G.2 0, 400, .inl fd))] H locs := hW
  refine W.eq (g2 := F0 m 32 ls [.int (o_Mo_isRegister_r mkd b ee)]) rfl ?_
  refine lv_if_eq (tgt := 45) hx hb d_Mo_to_32 rfl (fun ht1 => ?_) (fun hf2 => ?_)
  · refine lv_bipush (v := 16) hx hb d_Mo_to_45 (by decide) ?_
    exact Ct.iret hx hb hr hnl hW (by decide) (by decide) d_Mo_to_47 (by
      have e : mTo f mkd b ee mam fd fr mcm mop = (16, fd, mcm) := by unfold mTo; rw [if_pos ht1]
      rw [e]
      exact ⟨rfl, rfl⟩)
  · refine lv_iload_n hx hb d_Mo_to_35 rfl (lv_at hl 0 rfl) ?_
    refine lv_iconst (v := 1) hx hb d_Mo_to_36 (by decide) ?_
    refine lv_icmp_lt (tgt := 45) hx hb d_Mo_to_37 rfl (fun ht3 => ?_) (fun hf4 => ?_)
    · refine lv_bipush (v := 16) hx hb d_Mo_to_45 (by decide) ?_
      exact Ct.iret hx hb hr hnl hW (by decide) (by decide) d_Mo_to_47 (by
      have e : mTo f mkd b ee mam fd fr mcm mop = (16, fd, mcm) := by unfold mTo; rw [if_neg hf2, if_pos ht3]
      rw [e]
      exact ⟨rfl, rfl⟩)
    · refine lv_iload_n hx hb d_Mo_to_40 rfl (lv_at hl 0 rfl) ?_
      refine lv_iconst (v := 4) hx hb d_Mo_to_41 (by decide) ?_
      refine lv_icmp_le (tgt := 48) hx hb d_Mo_to_42 rfl (fun ht5 => ?_) (fun hf6 => ?_)
      · refine lv_aload_n hx hb d_Mo_to_48 rfl (lv_at hl 1 rfl) ?_
        refine lv_iconst (v := 5) hx hb d_Mo_to_49 (by decide) ?_
        refine lv_aload_n hx hb d_Mo_to_50 rfl (lv_at hl 1 rfl) ?_
        refine Wd.get hx hb hts hown hK hW 0 2 in_Mo w_fl_Mo_7 (by decide) d_Mo_to_51 rfl rfl rfl ?_
        refine lv_aload_n hx hb d_Mo_to_54 rfl (lv_at hl 1 rfl) ?_
        refine Wd.get hx hb hts hown hK hW 0 12 in_Mo w_fl_Mo_48 (by decide) d_Mo_to_55 rfl rfl rfl ?_
        refine Wd.cald hx hb hK hW 1 d_Mo_to_58 rfl (vp_in_nI (hb0 (by rw [hk1]; decide)) (by omega)) ?_
        refine lv_bipush (v := 97) hx hb d_Mo_to_59 (by decide) ?_
        refine lv_isub hx hb d_Mo_to_61 ?_
        refine Ct.callV (As := [.int 5, .int ((f ((nI b).toNatClampNeg)) - 97)]) (rest := []) hx hb hml hown hts hK hA hl.1 hW (c_Mo_put2 l G h0 mcd mty mtx mpl mth mln msc (nI fr) mdr mcm mop mkd (nI b) (nI ee) mam mis mip msd mrg mmn mou fd (5 : Int32) ((f ((nI b).toNatClampNeg)) - 97) (put_in (k := 5) hfr (by decide))) (cwV 2 hts (good_V w_ml_Mo_77 w_im_Mo_put w_se_Mo_put w_ini_Mo w_code_Mo_put) rfl rfl rfl yd_Mo_put ⟨by decide, by decide⟩) [0, 2] (by decide) rfl (ci := 1) (r := vr_Mo) rfl rfl rfl rfl rfl (Nat.le_of_ble_eq_true rfl) d_Mo_to_62 ⟨by decide, by decide⟩ (fun v w' hp => by obtain ⟨-, rfl⟩ := hp; exact Nat.le_of_ble_eq_true rfl) (fun v w' H locs hp hW => ?_)
        obtain ⟨rfl, rfl⟩ := hp
        have hW : Wd G A s.heap [(h0, .inr (1, [.int mcd, .int mty, .ref mtx, .int mpl, .int mth, .int mln, .ref msc, .int (nI fr), .ref mdr, .int mcm, .int mop, .int mkd, .int (nI b), .int (nI ee), .int mam, .ref mis, .ref mip, .ref msd, .ref mrg, .int mmn, .ref mou])), (mtx, .inl (G.2 2, 120, .inl f)), (mdr, .inl (G.2 0, 400, .inl (upd fd (((6 * (nI fr)) + (5 : Int32)).toNatClampNeg) ((f ((nI b).toNatClampNeg)) - 97))))] H locs := hW
        refine W.eq (g2 := F0 m 65 ls []) rfl ?_
        refine lv_aload_n hx hb d_Mo_to_65 rfl (lv_at hl 1 rfl) ?_
        refine lv_aload_n hx hb d_Mo_to_66 rfl (lv_at hl 1 rfl) ?_
        refine Wd.get hx hb hts hown hK hW 0 8 in_Mo w_fl_Mo_21 (by decide) d_Mo_to_67 rfl rfl rfl ?_
        refine lv_bipush (v := 6) hx hb d_Mo_to_70 (by decide) ?_
        refine lv_aload_n hx hb d_Mo_to_72 rfl (lv_at hl 1 rfl) ?_
        refine Wd.get hx hb hts hown hK hW 0 7 in_Mo w_fl_Mo_74 (by decide) d_Mo_to_73 rfl rfl rfl ?_
        refine lv_imul hx hb d_Mo_to_76 ?_
        refine Wd.iald hx hb hK hW 2 d_Mo_to_77 rfl (put_in0 hfr) ?_
        refine lv_bipush (v := 6) hx hb d_Mo_to_78 (by decide) ?_
        refine lv_icmp_ne (tgt := 93) hx hb d_Mo_to_80 rfl (fun ht7 => ?_) (fun hf8 => ?_)
        · refine lv_iconst (v := 0) hx hb d_Mo_to_93 (by decide) ?_
          refine lv_bipush (v := 15) hx hb d_Mo_to_94 (by decide) ?_
          refine Ct.callV (As := [.int 0, .int 15]) (rest := []) hx hb hml hown hts hK hA hl.1 hW (c_Mo_compared l G h0 mcd mty mtx mpl mth mln msc mdr mcm mop mkd mam mis mip msd mrg mmn mou b ee fr f (upd fd (((6 * (nI fr)) + (5 : Int32)).toNatClampNeg) ((f ((nI b).toNatClampNeg)) - 97)) (0 : Int32) (15 : Int32) (by first | assumption | omega | decide) (by first | assumption | omega | decide) (by first | assumption | omega | decide) (by first | assumption | omega | decide)) (cwV 2 hts (good_V w_ml_Mo_102 w_im_Mo_compared w_se_Mo_compared w_ini_Mo w_code_Mo_compared) rfl rfl rfl yd_Mo_compared ⟨by decide, by decide⟩) [0, 1, 2] (by decide) rfl (ci := 1) (r := vr_Mo) rfl rfl rfl rfl rfl (Nat.le_of_ble_eq_true rfl) d_Mo_to_96 ⟨by decide, by decide⟩ (fun v w' hp => by obtain ⟨-, rfl⟩ := hp; exact Nat.le_of_ble_eq_true rfl) (fun v w' H locs hp hW => ?_)
          obtain ⟨rfl, rfl⟩ := hp
          have hW : Wd G A s.heap [(h0, .inr (1, [.int mcd, .int mty, .ref mtx, .int mpl, .int mth, .int mln, .ref msc, .int (nI fr), .ref mdr, .int ((mCmp f mkd b ee mam (upd fd (((6 * (nI fr)) + (5 : Int32)).toNatClampNeg) ((f ((nI b).toNatClampNeg)) - 97)) fr mcm mop (0 : Int32) (15 : Int32)).2), .int mop, .int mkd, .int (nI b), .int (nI ee), .int mam, .ref mis, .ref mip, .ref msd, .ref mrg, .int mmn, .ref mou])), (mtx, .inl (G.2 2, 120, .inl f)), (mdr, .inl (G.2 0, 400, .inl (upd fd (((6 * (nI fr)) + (5 : Int32)).toNatClampNeg) ((f ((nI b).toNatClampNeg)) - 97))))] H locs := hW
          refine W.eq (g2 := F0 m 99 ls [.int ((mCmp f mkd b ee mam (upd fd (((6 * (nI fr)) + (5 : Int32)).toNatClampNeg) ((f ((nI b).toNatClampNeg)) - 97)) fr mcm mop (0 : Int32) (15 : Int32)).1)]) rfl ?_
          exact Ct.iret hx hb hr hnl hW (by decide) (by decide) d_Mo_to_99 (by
      have e : mTo f mkd b ee mam fd fr mcm mop = ((mCmp f mkd b ee mam (upd fd (((6 * (nI fr)) + (5 : Int32)).toNatClampNeg) ((f ((nI b).toNatClampNeg)) - 97)) fr mcm mop (0 : Int32) (15 : Int32)).1, (upd fd (((6 * (nI fr)) + (5 : Int32)).toNatClampNeg) ((f ((nI b).toNatClampNeg)) - 97)), (mCmp f mkd b ee mam (upd fd (((6 * (nI fr)) + (5 : Int32)).toNatClampNeg) ((f ((nI b).toNatClampNeg)) - 97)) fr mcm mop (0 : Int32) (15 : Int32)).2) := by unfold mTo; rw [if_neg hf2, if_neg hf4, if_pos ht5, if_neg ht7]
      rw [e]
      exact ⟨rfl, rfl⟩)
        · refine lv_iload_n hx hb d_Mo_to_83 rfl (lv_at hl 0 rfl) ?_
          refine lv_iload_n hx hb d_Mo_to_84 rfl (lv_at hl 0 rfl) ?_
          refine lv_iconst (v := 1) hx hb d_Mo_to_85 (by decide) ?_
          refine lv_iadd hx hb d_Mo_to_86 ?_
          refine lv_imul hx hb d_Mo_to_87 ?_
          refine lv_iconst (v := 2) hx hb d_Mo_to_88 (by decide) ?_
          refine lv_idiv hx hb d_Mo_to_89 (by decide) ?_
          refine lv_goto (tgt := 94) hx hb d_Mo_to_90 rfl ?_
          refine lv_bipush (v := 15) hx hb d_Mo_to_94 (by decide) ?_
          refine Ct.callV (As := [.int (((((f ((nI b).toNatClampNeg)) - 97) - (fd (((6 * (nI fr)) + 1).toNatClampNeg))) * ((((f ((nI b).toNatClampNeg)) - 97) - (fd (((6 * (nI fr)) + 1).toNatClampNeg))) + 1)) / 2), .int 15]) (rest := []) hx hb hml hown hts hK hA hl.1 hW (c_Mo_compared l G h0 mcd mty mtx mpl mth mln msc mdr mcm mop mkd mam mis mip msd mrg mmn mou b ee fr f (upd fd (((6 * (nI fr)) + (5 : Int32)).toNatClampNeg) ((f ((nI b).toNatClampNeg)) - 97)) (((((f ((nI b).toNatClampNeg)) - 97) - (fd (((6 * (nI fr)) + 1).toNatClampNeg))) * ((((f ((nI b).toNatClampNeg)) - 97) - (fd (((6 * (nI fr)) + 1).toNatClampNeg))) + 1)) / 2) (15 : Int32) (by first | assumption | omega | decide) (by first | assumption | omega | decide) (by first | assumption | omega | decide) (by first | assumption | omega | decide)) (cwV 2 hts (good_V w_ml_Mo_102 w_im_Mo_compared w_se_Mo_compared w_ini_Mo w_code_Mo_compared) rfl rfl rfl yd_Mo_compared ⟨by decide, by decide⟩) [0, 1, 2] (by decide) rfl (ci := 1) (r := vr_Mo) rfl rfl rfl rfl rfl (Nat.le_of_ble_eq_true rfl) d_Mo_to_96 ⟨by decide, by decide⟩ (fun v w' hp => by obtain ⟨-, rfl⟩ := hp; exact Nat.le_of_ble_eq_true rfl) (fun v w' H locs hp hW => ?_)
          obtain ⟨rfl, rfl⟩ := hp
          have hW : Wd G A s.heap [(h0, .inr (1, [.int mcd, .int mty, .ref mtx, .int mpl, .int mth, .int mln, .ref msc, .int (nI fr), .ref mdr, .int ((mCmp f mkd b ee mam (upd fd (((6 * (nI fr)) + (5 : Int32)).toNatClampNeg) ((f ((nI b).toNatClampNeg)) - 97)) fr mcm mop (((((f ((nI b).toNatClampNeg)) - 97) - (fd (((6 * (nI fr)) + 1).toNatClampNeg))) * ((((f ((nI b).toNatClampNeg)) - 97) - (fd (((6 * (nI fr)) + 1).toNatClampNeg))) + 1)) / 2) (15 : Int32)).2), .int mop, .int mkd, .int (nI b), .int (nI ee), .int mam, .ref mis, .ref mip, .ref msd, .ref mrg, .int mmn, .ref mou])), (mtx, .inl (G.2 2, 120, .inl f)), (mdr, .inl (G.2 0, 400, .inl (upd fd (((6 * (nI fr)) + (5 : Int32)).toNatClampNeg) ((f ((nI b).toNatClampNeg)) - 97))))] H locs := hW
          refine W.eq (g2 := F0 m 99 ls [.int ((mCmp f mkd b ee mam (upd fd (((6 * (nI fr)) + (5 : Int32)).toNatClampNeg) ((f ((nI b).toNatClampNeg)) - 97)) fr mcm mop (((((f ((nI b).toNatClampNeg)) - 97) - (fd (((6 * (nI fr)) + 1).toNatClampNeg))) * ((((f ((nI b).toNatClampNeg)) - 97) - (fd (((6 * (nI fr)) + 1).toNatClampNeg))) + 1)) / 2) (15 : Int32)).1)]) rfl ?_
          exact Ct.iret hx hb hr hnl hW (by decide) (by decide) d_Mo_to_99 (by
      have e : mTo f mkd b ee mam fd fr mcm mop = ((mCmp f mkd b ee mam (upd fd (((6 * (nI fr)) + (5 : Int32)).toNatClampNeg) ((f ((nI b).toNatClampNeg)) - 97)) fr mcm mop (((((f ((nI b).toNatClampNeg)) - 97) - (fd (((6 * (nI fr)) + 1).toNatClampNeg))) * ((((f ((nI b).toNatClampNeg)) - 97) - (fd (((6 * (nI fr)) + 1).toNatClampNeg))) + 1)) / 2) (15 : Int32)).1, (upd fd (((6 * (nI fr)) + (5 : Int32)).toNatClampNeg) ((f ((nI b).toNatClampNeg)) - 97)), (mCmp f mkd b ee mam (upd fd (((6 * (nI fr)) + (5 : Int32)).toNatClampNeg) ((f ((nI b).toNatClampNeg)) - 97)) fr mcm mop (((((f ((nI b).toNatClampNeg)) - 97) - (fd (((6 * (nI fr)) + 1).toNatClampNeg))) * ((((f ((nI b).toNatClampNeg)) - 97) - (fd (((6 * (nI fr)) + 1).toNatClampNeg))) + 1)) / 2) (15 : Int32)).2) := by unfold mTo; rw [if_neg hf2, if_neg hf4, if_pos ht5, if_pos hf8]
      rw [e]
      exact ⟨rfl, rfl⟩)
      · refine lv_bipush (v := 16) hx hb d_Mo_to_45 (by decide) ?_
        exact Ct.iret hx hb hr hnl hW (by decide) (by decide) d_Mo_to_47 (by
      have e : mTo f mkd b ee mam fd fr mcm mop = (16, fd, mcm) := by unfold mTo; rw [if_neg hf2, if_neg hf4, if_neg hf6]
      rw [e]
      exact ⟨rfl, rfl⟩)

