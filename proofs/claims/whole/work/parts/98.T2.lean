/-! the reference's reader, state by state -/
theorem put_in {fr k : Nat} (hfr : fr ≤ 60) (hk : k ≤ 5) : vp_in (6 * nI fr + nI k) 400 := by
  have e : (6 : Int32) * nI fr = nI (6 * fr) := (Int32.ofNat_mul 6 fr).symm
  rw [e, nI_add]
  exact vp_in_nI (by omega) (by omega)
theorem wd_in {b ee : Nat} (k : Nat) (hk : k < 4) (h : nI ee = nI b + 4) (hee : ee ≤ 120) (hbe : b ≤ ee) : vp_in (nI b + nI k) 120 := by
  have e : ee = b + 4 := by
    have h2 : nI ee = nI (b + 4) := by rw [h, ← nI_add]; rfl
    have h3 := congrArg Int32.toNatClampNeg h2
    rw [nI_clamp (by omega), nI_clamp (by omega)] at h3
    exact h3
  rw [nI_add]
  exact vp_in_nI (by omega) (by omega)

abbrev rm_Mo_put2 : Room := { frames := 0, cells := 0, slots := 0, locals := 0 }
set_option maxHeartbeats 4000000 in
set_option maxRecDepth 100000 in
theorem c_Mo_put2 (l : Launch) (G : Gt) (h0 : Nat) (mcd : Int32) (mty : Int32) (mtx : Nat) (mpl : Int32) (mth : Int32) (mln : Int32) (msc : Nat) (mfr : Int32) (mdr : Nat) (mcm : Int32) (mop : Int32) (mkd : Int32) (mbg : Int32) (mnd : Int32) (mam : Int32) (mis : Nat) (mip : Nat) (msd : Nat) (mrg : Nat) (mmn : Int32) (mou : Nat) (fd : Nat → Int32) (x : Int32) (y : Int32) (hin : vp_in (6 * mfr + x) 400) : Ct l G y_Mo_put b_Mo_put 3 none rm_Mo_put2 [.ref h0, .int x, .int y] [(h0, .inr (1, [.int mcd, .int mty, .ref mtx, .int mpl, .int mth, .int mln, .ref msc, .int mfr, .ref mdr, .int mcm, .int mop, .int mkd, .int mbg, .int mnd, .int mam, .ref mis, .ref mip, .ref msd, .ref mrg, .int mmn, .ref mou])), (mdr, .inl (G.2 0, 400, .inl fd))] 0 0 (fun v w' => v = none ∧ w' = [(h0, .inr (1, [.int mcd, .int mty, .ref mtx, .int mpl, .int mth, .int mln, .ref msc, .int mfr, .ref mdr, .int mcm, .int mop, .int mkd, .int mbg, .int mnd, .int mam, .ref mis, .ref mip, .ref msd, .ref mrg, .int mmn, .ref mou])), (mdr, .inl (G.2 0, 400, .inl (upd fd (((6 * mfr) + x).toNatClampNeg) y)))]) := by
  refine Ct.of (by decide) (Nat.le_of_ble_eq_true rfl) (fun p e s m args below meth c A ls H locs hx hb hml hr hnl hown hts hnm hK hA hl hW => ?_)
  have hl : lv_has ls 3 [(0, .ref h0), (1, .int x), (2, .int y)] := hl
  refine lv_aload_n hx hb d_Mo_put_0 rfl (lv_at hl 0 rfl) ?_
  refine Wd.get hx hb hts hown hK hW 0 8 in_Mo w_fl_Mo_21 (by decide) d_Mo_put_1 rfl rfl rfl ?_
  refine lv_bipush (v := 6) hx hb d_Mo_put_4 (by decide) ?_
  refine lv_aload_n hx hb d_Mo_put_6 rfl (lv_at hl 0 rfl) ?_
  refine Wd.get hx hb hts hown hK hW 0 7 in_Mo w_fl_Mo_74 (by decide) d_Mo_put_7 rfl rfl rfl ?_
  refine lv_imul hx hb d_Mo_put_10 ?_
  refine lv_iload_n hx hb d_Mo_put_11 rfl (lv_at hl 1 rfl) ?_
  refine lv_iadd hx hb d_Mo_put_12 ?_
  refine lv_iload_n hx hb d_Mo_put_13 rfl (lv_at hl 2 rfl) ?_
  refine Wd.iast hx hb hK hW 1 d_Mo_put_14 rfl hin (fun H locs hW => ?_)
  have hW : Wd G A s.heap [(h0, .inr (1, [.int mcd, .int mty, .ref mtx, .int mpl, .int mth, .int mln, .ref msc, .int mfr, .ref mdr, .int mcm, .int mop, .int mkd, .int mbg, .int mnd, .int mam, .ref mis, .ref mip, .ref msd, .ref mrg, .int mmn, .ref mou])), (mdr, .inl (G.2 0, 400, .inl (upd fd (((6 * mfr) + x).toNatClampNeg) y)))] H locs := hW
  exact Ct.vret hx hb hr hnl hW (by decide) (by decide) d_Mo_put_15 ⟨rfl, rfl⟩

def o_Mo_isRegister_r (mkd : Int32) (b : Nat) (ee : Nat) : Int32 := if mkd = 1 then if (nI ee) = ((nI b) + 1) then 1 else 0 else 0
abbrev rm_Mo_isRegisterR : Room := { frames := 0, cells := 0, slots := 0, locals := 0 }
set_option maxHeartbeats 4000000 in
set_option maxRecDepth 100000 in
theorem c_Mo_isRegisterR (l : Launch) (G : Gt) (h0 : Nat) (mcd : Int32) (mty : Int32) (mtx : Nat) (mpl : Int32) (mth : Int32) (mln : Int32) (msc : Nat) (mfr : Int32) (mdr : Nat) (mcm : Int32) (mop : Int32) (mkd : Int32) (mam : Int32) (mis : Nat) (mip : Nat) (msd : Nat) (mrg : Nat) (mmn : Int32) (mou : Nat) (b : Nat) (ee : Nat) : Ct l G y_Mo_isRegister b_Mo_isRegister 1 (some .boolean) rm_Mo_isRegisterR [.ref h0] [(h0, .inr (1, [.int mcd, .int mty, .ref mtx, .int mpl, .int mth, .int mln, .ref msc, .int mfr, .ref mdr, .int mcm, .int mop, .int mkd, .int (nI b), .int (nI ee), .int mam, .ref mis, .ref mip, .ref msd, .ref mrg, .int mmn, .ref mou]))] 0 0 (fun v w' => v = some (.int (o_Mo_isRegister_r mkd b ee)) ∧ w' = [(h0, .inr (1, [.int mcd, .int mty, .ref mtx, .int mpl, .int mth, .int mln, .ref msc, .int mfr, .ref mdr, .int mcm, .int mop, .int mkd, .int (nI b), .int (nI ee), .int mam, .ref mis, .ref mip, .ref msd, .ref mrg, .int mmn, .ref mou]))]) := by
  refine Ct.of (by decide) (Nat.le_of_ble_eq_true rfl) (fun p e s m args below meth c A ls H locs hx hb hml hr hnl hown hts hnm hK hA hl hW => ?_)
  have hl : lv_has ls 1 [(0, .ref h0)] := hl
  refine lv_aload_n hx hb d_Mo_isRegister_0 rfl (lv_at hl 0 rfl) ?_
  refine Wd.get hx hb hts hown hK hW 0 11 in_Mo w_fl_Mo_71 (by decide) d_Mo_isRegister_1 rfl rfl rfl ?_
  refine lv_iconst (v := 1) hx hb d_Mo_isRegister_4 (by decide) ?_
  refine lv_icmp_ne (tgt := 25) hx hb d_Mo_isRegister_5 rfl (fun ht1 => ?_) (fun hf2 => ?_)
  · refine lv_iconst (v := 0) hx hb d_Mo_isRegister_25 (by decide) ?_
    exact Ct.zret hx hb hr hnl hW (by decide) (by decide) d_Mo_isRegister_26 (by decide) ⟨by first | rfl | (simp only [o_Mo_isRegister_r, if_neg ht1]), by first | rfl | (simp only [o_Mo_isRegister_r, if_neg ht1])⟩
  · refine lv_aload_n hx hb d_Mo_isRegister_8 rfl (lv_at hl 0 rfl) ?_
    refine Wd.get hx hb hts hown hK hW 0 13 in_Mo w_fl_Mo_55 (by decide) d_Mo_isRegister_9 rfl rfl rfl ?_
    refine lv_aload_n hx hb d_Mo_isRegister_12 rfl (lv_at hl 0 rfl) ?_
    refine Wd.get hx hb hts hown hK hW 0 12 in_Mo w_fl_Mo_48 (by decide) d_Mo_isRegister_13 rfl rfl rfl ?_
    refine lv_iconst (v := 1) hx hb d_Mo_isRegister_16 (by decide) ?_
    refine lv_iadd hx hb d_Mo_isRegister_17 ?_
    refine lv_icmp_ne (tgt := 25) hx hb d_Mo_isRegister_18 rfl (fun ht3 => ?_) (fun hf4 => ?_)
    · refine lv_iconst (v := 0) hx hb d_Mo_isRegister_25 (by decide) ?_
      exact Ct.zret hx hb hr hnl hW (by decide) (by decide) d_Mo_isRegister_26 (by decide) ⟨by first | rfl | (simp only [o_Mo_isRegister_r, if_pos hf2, if_neg ht3]), by first | rfl | (simp only [o_Mo_isRegister_r, if_pos hf2, if_neg ht3])⟩
    · refine lv_iconst (v := 1) hx hb d_Mo_isRegister_21 (by decide) ?_
      refine lv_goto (tgt := 26) hx hb d_Mo_isRegister_22 rfl ?_
      exact Ct.zret hx hb hr hnl hW (by decide) (by decide) d_Mo_isRegister_26 (by decide) ⟨by first | rfl | (simp only [o_Mo_isRegister_r, if_pos hf2, if_pos hf4]), by first | rfl | (simp only [o_Mo_isRegister_r, if_pos hf2, if_pos hf4])⟩

def o_Mo_isIt_r (mkd : Int32) (b : Nat) (f : Nat → Int32) (x : Int32) : Int32 := if mkd = 3 then if (f ((nI b).toNatClampNeg)) = x then 1 else 0 else 0
abbrev rm_Mo_isItR : Room := { frames := 0, cells := 0, slots := 0, locals := 0 }
set_option maxHeartbeats 4000000 in
set_option maxRecDepth 100000 in
theorem c_Mo_isItR (l : Launch) (G : Gt) (h0 : Nat) (mcd : Int32) (mty : Int32) (mtx : Nat) (mpl : Int32) (mth : Int32) (mln : Int32) (msc : Nat) (mfr : Int32) (mdr : Nat) (mcm : Int32) (mop : Int32) (mkd : Int32) (mam : Int32) (mis : Nat) (mip : Nat) (msd : Nat) (mrg : Nat) (mmn : Int32) (mou : Nat) (b : Nat) (ee : Nat) (f : Nat → Int32) (x : Int32) (hb0 : ¬ mkd = 0 → b < 120) : Ct l G y_Mo_isIt b_Mo_isIt 2 (some .boolean) rm_Mo_isItR [.ref h0, .int x] [(h0, .inr (1, [.int mcd, .int mty, .ref mtx, .int mpl, .int mth, .int mln, .ref msc, .int mfr, .ref mdr, .int mcm, .int mop, .int mkd, .int (nI b), .int (nI ee), .int mam, .ref mis, .ref mip, .ref msd, .ref mrg, .int mmn, .ref mou])), (mtx, .inl (G.2 2, 120, .inl f))] 0 0 (fun v w' => v = some (.int (o_Mo_isIt_r mkd b f x)) ∧ w' = [(h0, .inr (1, [.int mcd, .int mty, .ref mtx, .int mpl, .int mth, .int mln, .ref msc, .int mfr, .ref mdr, .int mcm, .int mop, .int mkd, .int (nI b), .int (nI ee), .int mam, .ref mis, .ref mip, .ref msd, .ref mrg, .int mmn, .ref mou])), (mtx, .inl (G.2 2, 120, .inl f))]) := by
  refine Ct.of (by decide) (Nat.le_of_ble_eq_true rfl) (fun p e s m args below meth c A ls H locs hx hb hml hr hnl hown hts hnm hK hA hl hW => ?_)
  have hl : lv_has ls 2 [(0, .ref h0), (1, .int x)] := hl
  refine lv_aload_n hx hb d_Mo_isIt_0 rfl (lv_at hl 0 rfl) ?_
  refine Wd.get hx hb hts hown hK hW 0 11 in_Mo w_fl_Mo_71 (by decide) d_Mo_isIt_1 rfl rfl rfl ?_
  refine lv_iconst (v := 3) hx hb d_Mo_isIt_4 (by decide) ?_
  refine lv_icmp_ne (tgt := 25) hx hb d_Mo_isIt_5 rfl (fun ht1 => ?_) (fun hf2 => ?_)
  · refine lv_iconst (v := 0) hx hb d_Mo_isIt_25 (by decide) ?_
    exact Ct.zret hx hb hr hnl hW (by decide) (by decide) d_Mo_isIt_26 (by decide) ⟨by first | rfl | (simp only [o_Mo_isIt_r, if_neg ht1]), by first | rfl | (simp only [o_Mo_isIt_r, if_neg ht1])⟩
  · refine lv_aload_n hx hb d_Mo_isIt_8 rfl (lv_at hl 0 rfl) ?_
    refine Wd.get hx hb hts hown hK hW 0 2 in_Mo w_fl_Mo_7 (by decide) d_Mo_isIt_9 rfl rfl rfl ?_
    refine lv_aload_n hx hb d_Mo_isIt_12 rfl (lv_at hl 0 rfl) ?_
    refine Wd.get hx hb hts hown hK hW 0 12 in_Mo w_fl_Mo_48 (by decide) d_Mo_isIt_13 rfl rfl rfl ?_
    refine Wd.cald hx hb hK hW 1 d_Mo_isIt_16 rfl (vp_in_nI (hb0 (by rw [‹mkd = 3›]; decide)) (by omega)) ?_
    refine lv_iload_n hx hb d_Mo_isIt_17 rfl (lv_at hl 1 rfl) ?_
    refine lv_icmp_ne (tgt := 25) hx hb d_Mo_isIt_18 rfl (fun ht3 => ?_) (fun hf4 => ?_)
    · refine lv_iconst (v := 0) hx hb d_Mo_isIt_25 (by decide) ?_
      exact Ct.zret hx hb hr hnl hW (by decide) (by decide) d_Mo_isIt_26 (by decide) ⟨by first | rfl | (simp only [o_Mo_isIt_r, if_pos hf2, if_neg ht3]), by first | rfl | (simp only [o_Mo_isIt_r, if_pos hf2, if_neg ht3])⟩
    · refine lv_iconst (v := 1) hx hb d_Mo_isIt_21 (by decide) ?_
      refine lv_goto (tgt := 26) hx hb d_Mo_isIt_22 rfl ?_
      exact Ct.zret hx hb hr hnl hW (by decide) (by decide) d_Mo_isIt_26 (by decide) ⟨by first | rfl | (simp only [o_Mo_isIt_r, if_pos hf2, if_pos hf4]), by first | rfl | (simp only [o_Mo_isIt_r, if_pos hf2, if_pos hf4])⟩

def o_Mo_isWord_r (mkd : Int32) (b : Nat) (ee : Nat) (f : Nat → Int32) (x0 : Int32) (x1 : Int32) (x2 : Int32) (x3 : Int32) : Int32 := if mkd = 1 then if (nI ee) = ((nI b) + 4) then if (f ((nI b).toNatClampNeg)) = x0 then if (f (((nI b) + 1).toNatClampNeg)) = x1 then if (f (((nI b) + 2).toNatClampNeg)) = x2 then if (f (((nI b) + 3).toNatClampNeg)) = x3 then 1 else 0 else 0 else 0 else 0 else 0 else 0
abbrev rm_Mo_isWordR : Room := { frames := 0, cells := 0, slots := 0, locals := 0 }
set_option maxHeartbeats 4000000 in
set_option maxRecDepth 100000 in
theorem c_Mo_isWordR (l : Launch) (G : Gt) (h0 : Nat) (mcd : Int32) (mty : Int32) (mtx : Nat) (mpl : Int32) (mth : Int32) (mln : Int32) (msc : Nat) (mfr : Int32) (mdr : Nat) (mcm : Int32) (mop : Int32) (mkd : Int32) (mam : Int32) (mis : Nat) (mip : Nat) (msd : Nat) (mrg : Nat) (mmn : Int32) (mou : Nat) (b : Nat) (ee : Nat) (f : Nat → Int32) (x0 : Int32) (x1 : Int32) (x2 : Int32) (x3 : Int32) (hbe : b ≤ ee) (hee : ee ≤ 120) (hb0 : ¬ mkd = 0 → b < 120) : Ct l G y_Mo_isWord b_Mo_isWord 5 (some .boolean) rm_Mo_isWordR [.ref h0, .int x0, .int x1, .int x2, .int x3] [(h0, .inr (1, [.int mcd, .int mty, .ref mtx, .int mpl, .int mth, .int mln, .ref msc, .int mfr, .ref mdr, .int mcm, .int mop, .int mkd, .int (nI b), .int (nI ee), .int mam, .ref mis, .ref mip, .ref msd, .ref mrg, .int mmn, .ref mou])), (mtx, .inl (G.2 2, 120, .inl f))] 0 0 (fun v w' => v = some (.int (o_Mo_isWord_r mkd b ee f x0 x1 x2 x3)) ∧ w' = [(h0, .inr (1, [.int mcd, .int mty, .ref mtx, .int mpl, .int mth, .int mln, .ref msc, .int mfr, .ref mdr, .int mcm, .int mop, .int mkd, .int (nI b), .int (nI ee), .int mam, .ref mis, .ref mip, .ref msd, .ref mrg, .int mmn, .ref mou])), (mtx, .inl (G.2 2, 120, .inl f))]) := by
  refine Ct.of (by decide) (Nat.le_of_ble_eq_true rfl) (fun p e s m args below meth c A ls H locs hx hb hml hr hnl hown hts hnm hK hA hl hW => ?_)
  have hl : lv_has ls 5 [(0, .ref h0), (1, .int x0), (2, .int x1), (3, .int x2), (4, .int x3)] := hl
  refine lv_aload_n hx hb d_Mo_isWord_0 rfl (lv_at hl 0 rfl) ?_
  refine Wd.get hx hb hts hown hK hW 0 11 in_Mo w_fl_Mo_71 (by decide) d_Mo_isWord_1 rfl rfl rfl ?_
  refine lv_iconst (v := 1) hx hb d_Mo_isWord_4 (by decide) ?_
  refine lv_icmp_ne (tgt := 84) hx hb d_Mo_isWord_5 rfl (fun ht1 => ?_) (fun hf2 => ?_)
  · refine lv_iconst (v := 0) hx hb d_Mo_isWord_84 (by decide) ?_
    exact Ct.zret hx hb hr hnl hW (by decide) (by decide) d_Mo_isWord_85 (by decide) ⟨by first | rfl | (simp only [o_Mo_isWord_r, if_neg ht1]), by first | rfl | (simp only [o_Mo_isWord_r, if_neg ht1])⟩
  · refine lv_aload_n hx hb d_Mo_isWord_8 rfl (lv_at hl 0 rfl) ?_
    refine Wd.get hx hb hts hown hK hW 0 13 in_Mo w_fl_Mo_55 (by decide) d_Mo_isWord_9 rfl rfl rfl ?_
    refine lv_aload_n hx hb d_Mo_isWord_12 rfl (lv_at hl 0 rfl) ?_
    refine Wd.get hx hb hts hown hK hW 0 12 in_Mo w_fl_Mo_48 (by decide) d_Mo_isWord_13 rfl rfl rfl ?_
    refine lv_iconst (v := 4) hx hb d_Mo_isWord_16 (by decide) ?_
    refine lv_iadd hx hb d_Mo_isWord_17 ?_
    refine lv_icmp_ne (tgt := 84) hx hb d_Mo_isWord_18 rfl (fun ht3 => ?_) (fun hf4 => ?_)
    · refine lv_iconst (v := 0) hx hb d_Mo_isWord_84 (by decide) ?_
      exact Ct.zret hx hb hr hnl hW (by decide) (by decide) d_Mo_isWord_85 (by decide) ⟨by first | rfl | (simp only [o_Mo_isWord_r, if_pos hf2, if_neg ht3]), by first | rfl | (simp only [o_Mo_isWord_r, if_pos hf2, if_neg ht3])⟩
    · refine lv_aload_n hx hb d_Mo_isWord_21 rfl (lv_at hl 0 rfl) ?_
      refine Wd.get hx hb hts hown hK hW 0 2 in_Mo w_fl_Mo_7 (by decide) d_Mo_isWord_22 rfl rfl rfl ?_
      refine lv_aload_n hx hb d_Mo_isWord_25 rfl (lv_at hl 0 rfl) ?_
      refine Wd.get hx hb hts hown hK hW 0 12 in_Mo w_fl_Mo_48 (by decide) d_Mo_isWord_26 rfl rfl rfl ?_
      refine Wd.cald hx hb hK hW 1 d_Mo_isWord_29 rfl (by have q := wd_in 0 (by decide) (by assumption) hee hbe; first | exact q | (rw [nI_add] at q; exact q)) ?_
      refine lv_iload_n hx hb d_Mo_isWord_30 rfl (lv_at hl 1 rfl) ?_
      refine lv_icmp_ne (tgt := 84) hx hb d_Mo_isWord_31 rfl (fun ht5 => ?_) (fun hf6 => ?_)
      · refine lv_iconst (v := 0) hx hb d_Mo_isWord_84 (by decide) ?_
        exact Ct.zret hx hb hr hnl hW (by decide) (by decide) d_Mo_isWord_85 (by decide) ⟨by first | rfl | (simp only [o_Mo_isWord_r, if_pos hf2, if_pos hf4, if_neg ht5]), by first | rfl | (simp only [o_Mo_isWord_r, if_pos hf2, if_pos hf4, if_neg ht5])⟩
      · refine lv_aload_n hx hb d_Mo_isWord_34 rfl (lv_at hl 0 rfl) ?_
        refine Wd.get hx hb hts hown hK hW 0 2 in_Mo w_fl_Mo_7 (by decide) d_Mo_isWord_35 rfl rfl rfl ?_
        refine lv_aload_n hx hb d_Mo_isWord_38 rfl (lv_at hl 0 rfl) ?_
        refine Wd.get hx hb hts hown hK hW 0 12 in_Mo w_fl_Mo_48 (by decide) d_Mo_isWord_39 rfl rfl rfl ?_
        refine lv_iconst (v := 1) hx hb d_Mo_isWord_42 (by decide) ?_
        refine lv_iadd hx hb d_Mo_isWord_43 ?_
        refine Wd.cald hx hb hK hW 1 d_Mo_isWord_44 rfl (by have q := wd_in 1 (by decide) (by assumption) hee hbe; first | exact q | (rw [nI_add] at q; exact q)) ?_
        refine lv_iload_n hx hb d_Mo_isWord_45 rfl (lv_at hl 2 rfl) ?_
        refine lv_icmp_ne (tgt := 84) hx hb d_Mo_isWord_46 rfl (fun ht7 => ?_) (fun hf8 => ?_)
        · refine lv_iconst (v := 0) hx hb d_Mo_isWord_84 (by decide) ?_
          exact Ct.zret hx hb hr hnl hW (by decide) (by decide) d_Mo_isWord_85 (by decide) ⟨by first | rfl | (simp only [o_Mo_isWord_r, if_pos hf2, if_pos hf4, if_pos hf6, if_neg ht7]), by first | rfl | (simp only [o_Mo_isWord_r, if_pos hf2, if_pos hf4, if_pos hf6, if_neg ht7])⟩
        · refine lv_aload_n hx hb d_Mo_isWord_49 rfl (lv_at hl 0 rfl) ?_
          refine Wd.get hx hb hts hown hK hW 0 2 in_Mo w_fl_Mo_7 (by decide) d_Mo_isWord_50 rfl rfl rfl ?_
          refine lv_aload_n hx hb d_Mo_isWord_53 rfl (lv_at hl 0 rfl) ?_
          refine Wd.get hx hb hts hown hK hW 0 12 in_Mo w_fl_Mo_48 (by decide) d_Mo_isWord_54 rfl rfl rfl ?_
          refine lv_iconst (v := 2) hx hb d_Mo_isWord_57 (by decide) ?_
          refine lv_iadd hx hb d_Mo_isWord_58 ?_
          refine Wd.cald hx hb hK hW 1 d_Mo_isWord_59 rfl (by have q := wd_in 2 (by decide) (by assumption) hee hbe; first | exact q | (rw [nI_add] at q; exact q)) ?_
          refine lv_iload_n hx hb d_Mo_isWord_60 rfl (lv_at hl 3 rfl) ?_
          refine lv_icmp_ne (tgt := 84) hx hb d_Mo_isWord_61 rfl (fun ht9 => ?_) (fun hf10 => ?_)
          · refine lv_iconst (v := 0) hx hb d_Mo_isWord_84 (by decide) ?_
            exact Ct.zret hx hb hr hnl hW (by decide) (by decide) d_Mo_isWord_85 (by decide) ⟨by first | rfl | (simp only [o_Mo_isWord_r, if_pos hf2, if_pos hf4, if_pos hf6, if_pos hf8, if_neg ht9]), by first | rfl | (simp only [o_Mo_isWord_r, if_pos hf2, if_pos hf4, if_pos hf6, if_pos hf8, if_neg ht9])⟩
          · refine lv_aload_n hx hb d_Mo_isWord_64 rfl (lv_at hl 0 rfl) ?_
            refine Wd.get hx hb hts hown hK hW 0 2 in_Mo w_fl_Mo_7 (by decide) d_Mo_isWord_65 rfl rfl rfl ?_
            refine lv_aload_n hx hb d_Mo_isWord_68 rfl (lv_at hl 0 rfl) ?_
            refine Wd.get hx hb hts hown hK hW 0 12 in_Mo w_fl_Mo_48 (by decide) d_Mo_isWord_69 rfl rfl rfl ?_
            refine lv_iconst (v := 3) hx hb d_Mo_isWord_72 (by decide) ?_
            refine lv_iadd hx hb d_Mo_isWord_73 ?_
            refine Wd.cald hx hb hK hW 1 d_Mo_isWord_74 rfl (by have q := wd_in 3 (by decide) (by assumption) hee hbe; first | exact q | (rw [nI_add] at q; exact q)) ?_
            refine lv_iload hx hb d_Mo_isWord_75 (lv_at hl 4 rfl) ?_
            refine lv_icmp_ne (tgt := 84) hx hb d_Mo_isWord_77 rfl (fun ht11 => ?_) (fun hf12 => ?_)
            · refine lv_iconst (v := 0) hx hb d_Mo_isWord_84 (by decide) ?_
              exact Ct.zret hx hb hr hnl hW (by decide) (by decide) d_Mo_isWord_85 (by decide) ⟨by first | rfl | (simp only [o_Mo_isWord_r, if_pos hf2, if_pos hf4, if_pos hf6, if_pos hf8, if_pos hf10, if_neg ht11]), by first | rfl | (simp only [o_Mo_isWord_r, if_pos hf2, if_pos hf4, if_pos hf6, if_pos hf8, if_pos hf10, if_neg ht11])⟩
            · refine lv_iconst (v := 1) hx hb d_Mo_isWord_80 (by decide) ?_
              refine lv_goto (tgt := 85) hx hb d_Mo_isWord_81 rfl ?_
              exact Ct.zret hx hb hr hnl hW (by decide) (by decide) d_Mo_isWord_85 (by decide) ⟨by first | rfl | (simp only [o_Mo_isWord_r, if_pos hf2, if_pos hf4, if_pos hf6, if_pos hf8, if_pos hf10, if_pos hf12]), by first | rfl | (simp only [o_Mo_isWord_r, if_pos hf2, if_pos hf4, if_pos hf6, if_pos hf8, if_pos hf10, if_pos hf12])⟩

