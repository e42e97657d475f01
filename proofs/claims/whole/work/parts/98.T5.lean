/-! the reference: values -/
def o_Mo_lacks_r (fz : Nat → Int32) (x : Int32) : Int32 := if x < 100 then 0 else if 1000 ≤ x then 0 else if (fz ((x - 100).toNatClampNeg)) = 0 then 1 else 0
abbrev rm_Mo_lacks : Room := { frames := 0, cells := 0, slots := 0, locals := 0 }
set_option maxHeartbeats 4000000 in
set_option maxRecDepth 100000 in
theorem c_Mo_lacks (l : Launch) (G : Gt) (h0 : Nat) (mcd : Int32) (mty : Int32) (mtx : Nat) (mpl : Int32) (mth : Int32) (mln : Int32) (msc : Nat) (mfr : Int32) (mdr : Nat) (mcm : Int32) (mop : Int32) (mkd : Int32) (mbg : Int32) (mnd : Int32) (mam : Int32) (mis : Nat) (mip : Nat) (msd : Nat) (mrg : Nat) (mmn : Int32) (mou : Nat) (fz : Nat → Int32) (x : Int32) (hx8 : ¬ x < 100 → x < 1000 → vp_in (x - 100) 8) : Ct l G y_Mo_lacks b_Mo_lacks 2 (some .boolean) rm_Mo_lacks [.ref h0, .int x] [(h0, .inr (1, [.int mcd, .int mty, .ref mtx, .int mpl, .int mth, .int mln, .ref msc, .int mfr, .ref mdr, .int mcm, .int mop, .int mkd, .int mbg, .int mnd, .int mam, .ref mis, .ref mip, .ref msd, .ref mrg, .int mmn, .ref mou])), (mis, .inl (G.2 3, 8, .inl fz))] 0 0 (fun v w' => v = some (.int (o_Mo_lacks_r fz x)) ∧ w' = [(h0, .inr (1, [.int mcd, .int mty, .ref mtx, .int mpl, .int mth, .int mln, .ref msc, .int mfr, .ref mdr, .int mcm, .int mop, .int mkd, .int mbg, .int mnd, .int mam, .ref mis, .ref mip, .ref msd, .ref mrg, .int mmn, .ref mou])), (mis, .inl (G.2 3, 8, .inl fz))]) := by
  refine Ct.of (by decide) (Nat.le_of_ble_eq_true rfl) (fun p e s m args below meth c A ls H locs hx hb hml hr hnl hown hts hnm hK hA hl hW => ?_)
  have hl : lv_has ls 2 [(0, .ref h0), (1, .int x)] := hl
  refine lv_iload_n hx hb d_Mo_lacks_0 rfl (lv_at hl 1 rfl) ?_
  refine lv_bipush (v := 100) hx hb d_Mo_lacks_1 (by decide) ?_
  refine lv_icmp_lt (tgt := 29) hx hb d_Mo_lacks_3 rfl (fun ht1 => ?_) (fun hf2 => ?_)
  · refine lv_iconst (v := 0) hx hb d_Mo_lacks_29 (by decide) ?_
    exact Ct.zret hx hb hr hnl hW (by decide) (by decide) d_Mo_lacks_30 (by decide) ⟨by first | rfl | (simp only [o_Mo_lacks_r, if_pos ht1]), by first | rfl | (simp only [o_Mo_lacks_r, if_pos ht1])⟩
  · refine lv_iload_n hx hb d_Mo_lacks_6 rfl (lv_at hl 1 rfl) ?_
    refine lv_sipush (v := 1000) hx hb d_Mo_lacks_7 (by decide) ?_
    refine lv_icmp_ge (tgt := 29) hx hb d_Mo_lacks_10 rfl (fun ht3 => ?_) (fun hf4 => ?_)
    · refine lv_iconst (v := 0) hx hb d_Mo_lacks_29 (by decide) ?_
      exact Ct.zret hx hb hr hnl hW (by decide) (by decide) d_Mo_lacks_30 (by decide) ⟨by first | rfl | (simp only [o_Mo_lacks_r, if_neg hf2, if_pos ht3]), by first | rfl | (simp only [o_Mo_lacks_r, if_neg hf2, if_pos ht3])⟩
    · refine lv_aload_n hx hb d_Mo_lacks_13 rfl (lv_at hl 0 rfl) ?_
      refine Wd.get hx hb hts hown hK hW 0 15 in_Mo w_fl_Mo_24 (by decide) d_Mo_lacks_14 rfl rfl rfl ?_
      refine lv_iload_n hx hb d_Mo_lacks_17 rfl (lv_at hl 1 rfl) ?_
      refine lv_bipush (v := 100) hx hb d_Mo_lacks_18 (by decide) ?_
      refine lv_isub hx hb d_Mo_lacks_20 ?_
      refine Wd.zald hx hb hK hW 1 d_Mo_lacks_21 rfl (hx8 (by assumption) (Int32.not_le.mp (by assumption))) ?_
      refine lv_if_ne (tgt := 29) hx hb d_Mo_lacks_22 rfl (fun ht5 => ?_) (fun hf6 => ?_)
      · refine lv_iconst (v := 0) hx hb d_Mo_lacks_29 (by decide) ?_
        exact Ct.zret hx hb hr hnl hW (by decide) (by decide) d_Mo_lacks_30 (by decide) ⟨by first | rfl | (simp only [o_Mo_lacks_r, if_neg hf2, if_neg hf4, if_neg ht5]), by first | rfl | (simp only [o_Mo_lacks_r, if_neg hf2, if_neg hf4, if_neg ht5])⟩
      · refine lv_iconst (v := 1) hx hb d_Mo_lacks_25 (by decide) ?_
        refine lv_goto (tgt := 30) hx hb d_Mo_lacks_26 rfl ?_
        exact Ct.zret hx hb hr hnl hW (by decide) (by decide) d_Mo_lacks_30 (by decide) ⟨by first | rfl | (simp only [o_Mo_lacks_r, if_neg hf2, if_neg hf4, if_pos hf6]), by first | rfl | (simp only [o_Mo_lacks_r, if_neg hf2, if_neg hf4, if_pos hf6])⟩

def o_Mo_valueOf_r (fi : Nat → Int32) (fg : Nat → Int32) (x : Int32) : Int32 := if x < 1000 then if x < 100 then fg x.toNatClampNeg else fi ((x - 100).toNatClampNeg) else x - 1000
abbrev rm_Mo_valueOf : Room := { frames := 0, cells := 0, slots := 0, locals := 0 }
set_option maxHeartbeats 4000000 in
set_option maxRecDepth 100000 in
theorem c_Mo_valueOf (l : Launch) (G : Gt) (h0 : Nat) (mcd : Int32) (mty : Int32) (mtx : Nat) (mpl : Int32) (mth : Int32) (mln : Int32) (msc : Nat) (mfr : Int32) (mdr : Nat) (mcm : Int32) (mop : Int32) (mkd : Int32) (mbg : Int32) (mnd : Int32) (mam : Int32) (mis : Nat) (mip : Nat) (msd : Nat) (mrg : Nat) (mmn : Int32) (mou : Nat) (fi : Nat → Int32) (fg : Nat → Int32) (x : Int32) (hx8 : ¬ x < 100 → x < 1000 → vp_in (x - 100) 8) (hx26 : x < 100 → vp_in x 26) : Ct l G y_Mo_valueOf b_Mo_valueOf 2 (some .int) rm_Mo_valueOf [.ref h0, .int x] [(h0, .inr (1, [.int mcd, .int mty, .ref mtx, .int mpl, .int mth, .int mln, .ref msc, .int mfr, .ref mdr, .int mcm, .int mop, .int mkd, .int mbg, .int mnd, .int mam, .ref mis, .ref mip, .ref msd, .ref mrg, .int mmn, .ref mou])), (mip, .inl (G.2 0, 8, .inl fi)), (mrg, .inl (G.2 0, 26, .inl fg))] 0 0 (fun v w' => v = some (.int (o_Mo_valueOf_r fi fg x)) ∧ w' = [(h0, .inr (1, [.int mcd, .int mty, .ref mtx, .int mpl, .int mth, .int mln, .ref msc, .int mfr, .ref mdr, .int mcm, .int mop, .int mkd, .int mbg, .int mnd, .int mam, .ref mis, .ref mip, .ref msd, .ref mrg, .int mmn, .ref mou])), (mip, .inl (G.2 0, 8, .inl fi)), (mrg, .inl (G.2 0, 26, .inl fg))]) := by
  refine Ct.of (by decide) (Nat.le_of_ble_eq_true rfl) (fun p e s m args below meth c A ls H locs hx hb hml hr hnl hown hts hnm hK hA hl hW => ?_)
  have hl : lv_has ls 2 [(0, .ref h0), (1, .int x)] := hl
  refine lv_iload_n hx hb d_Mo_valueOf_0 rfl (lv_at hl 1 rfl) ?_
  refine lv_sipush (v := 1000) hx hb d_Mo_valueOf_1 (by decide) ?_
  refine lv_icmp_lt (tgt := 15) hx hb d_Mo_valueOf_4 rfl (fun ht1 => ?_) (fun hf2 => ?_)
  · refine lv_iload_n hx hb d_Mo_valueOf_15 rfl (lv_at hl 1 rfl) ?_
    refine lv_bipush (v := 100) hx hb d_Mo_valueOf_16 (by decide) ?_
    refine lv_icmp_lt (tgt := 33) hx hb d_Mo_valueOf_18 rfl (fun ht3 => ?_) (fun hf4 => ?_)
    · refine lv_aload_n hx hb d_Mo_valueOf_33 rfl (lv_at hl 0 rfl) ?_
      refine Wd.get hx hb hts hown hK hW 0 18 in_Mo w_fl_Mo_34 (by decide) d_Mo_valueOf_34 rfl rfl rfl ?_
      refine lv_iload_n hx hb d_Mo_valueOf_37 rfl (lv_at hl 1 rfl) ?_
      refine Wd.iald hx hb hK hW 2 d_Mo_valueOf_38 rfl (hx26 (by assumption)) ?_
      exact Ct.iret hx hb hr hnl hW (by decide) (by decide) d_Mo_valueOf_39 ⟨by first | rfl | (simp only [o_Mo_valueOf_r, if_pos ht1, if_pos ht3]), by first | rfl | (simp only [o_Mo_valueOf_r, if_pos ht1, if_pos ht3])⟩
    · refine lv_aload_n hx hb d_Mo_valueOf_21 rfl (lv_at hl 0 rfl) ?_
      refine Wd.get hx hb hts hown hK hW 0 16 in_Mo w_fl_Mo_28 (by decide) d_Mo_valueOf_22 rfl rfl rfl ?_
      refine lv_iload_n hx hb d_Mo_valueOf_25 rfl (lv_at hl 1 rfl) ?_
      refine lv_bipush (v := 100) hx hb d_Mo_valueOf_26 (by decide) ?_
      refine lv_isub hx hb d_Mo_valueOf_28 ?_
      refine Wd.iald hx hb hK hW 1 d_Mo_valueOf_29 rfl (hx8 (by assumption) (by assumption)) ?_
      refine lv_goto (tgt := 39) hx hb d_Mo_valueOf_30 rfl ?_
      exact Ct.iret hx hb hr hnl hW (by decide) (by decide) d_Mo_valueOf_39 ⟨by first | rfl | (simp only [o_Mo_valueOf_r, if_pos ht1, if_neg hf4]), by first | rfl | (simp only [o_Mo_valueOf_r, if_pos ht1, if_neg hf4])⟩
  · refine lv_iload_n hx hb d_Mo_valueOf_7 rfl (lv_at hl 1 rfl) ?_
    refine lv_sipush (v := 1000) hx hb d_Mo_valueOf_8 (by decide) ?_
    refine lv_isub hx hb d_Mo_valueOf_11 ?_
    refine lv_goto (tgt := 39) hx hb d_Mo_valueOf_12 rfl ?_
    exact Ct.iret hx hb hr hnl hW (by decide) (by decide) d_Mo_valueOf_39 ⟨by first | rfl | (simp only [o_Mo_valueOf_r, if_neg hf2]), by first | rfl | (simp only [o_Mo_valueOf_r, if_neg hf2])⟩

def o_Mo_isLess_r (x : Int32) (y : Int32) : Int32 := if 0 ≤ (lg_cmp (x.toInt64 &&& 4294967295) (y.toInt64 &&& 4294967295)) then 0 else 1
abbrev rm_Mo_isLess : Room := { frames := 0, cells := 0, slots := 0, locals := 0 }
set_option maxHeartbeats 4000000 in
set_option maxRecDepth 100000 in
theorem c_Mo_isLess (l : Launch) (G : Gt) (x : Int32) (y : Int32) : Ct l G y_Mo_isLess b_Mo_isLess 2 (some .boolean) rm_Mo_isLess [.int x, .int y] [] 0 0 (fun v w' => v = some (.int (o_Mo_isLess_r x y)) ∧ w' = []) := by
  refine Ct.of (by decide) (Nat.le_of_ble_eq_true rfl) (fun p e s m args below meth c A ls H locs hx hb hml hr hnl hown hts hnm hK hA hl hW => ?_)
  have hl : lv_has ls 2 [(0, .int x), (1, .int y)] := hl
  refine lv_iload_n hx hb d_Mo_isLess_0 rfl (lv_at hl 0 rfl) ?_
  refine lv_i2l (v := x.toInt64) hx hb d_Mo_isLess_1 rfl ?_
  refine lv_ldc2 (v := 4294967295) hx hb hown (hts _ w_kl_Mo_147) d_Mo_isLess_2 ?_
  refine lv_land hx hb d_Mo_isLess_5 ?_
  refine lv_iload_n hx hb d_Mo_isLess_6 rfl (lv_at hl 1 rfl) ?_
  refine lv_i2l (v := y.toInt64) hx hb d_Mo_isLess_7 rfl ?_
  refine lv_ldc2 (v := 4294967295) hx hb hown (hts _ w_kl_Mo_147) d_Mo_isLess_8 ?_
  refine lv_land hx hb d_Mo_isLess_11 ?_
  refine W.lcmp hx hb d_Mo_isLess_12 ?_
  refine lv_if_ge (tgt := 20) hx hb d_Mo_isLess_13 rfl (fun ht1 => ?_) (fun hf2 => ?_)
  · refine lv_iconst (v := 0) hx hb d_Mo_isLess_20 (by decide) ?_
    exact Ct.zret hx hb hr hnl hW (by decide) (by decide) d_Mo_isLess_21 (by decide) ⟨by first | rfl | (simp only [o_Mo_isLess_r, if_pos ht1]), by first | rfl | (simp only [o_Mo_isLess_r, if_pos ht1])⟩
  · refine lv_iconst (v := 1) hx hb d_Mo_isLess_16 (by decide) ?_
    refine lv_goto (tgt := 21) hx hb d_Mo_isLess_17 rfl ?_
    exact Ct.zret hx hb hr hnl hW (by decide) (by decide) d_Mo_isLess_21 (by decide) ⟨by first | rfl | (simp only [o_Mo_isLess_r, if_neg hf2]), by first | rfl | (simp only [o_Mo_isLess_r, if_neg hf2])⟩

def o_Mo_reckon_r (z : Int32) (x : Int32) (y : Int32) : Int32 := if z = 1 then x + y else if z = 2 then x - y else if z = 3 then x * y else if (o_Mo_isLess_r x y) = 0 then 0 else 1
abbrev rm_Mo_reckon : Room := { frames := 1, cells := 0, slots := 0, locals := 21 }
set_option maxHeartbeats 4000000 in
set_option maxRecDepth 100000 in
theorem c_Mo_reckon (l : Launch) (G : Gt) (z : Int32) (x : Int32) (y : Int32) : Ct l G y_Mo_reckon b_Mo_reckon 3 (some .int) rm_Mo_reckon [.int z, .int x, .int y] [] 0 0 (fun v w' => v = some (.int (o_Mo_reckon_r z x y)) ∧ w' = []) := by
  refine Ct.of (by decide) (Nat.le_of_ble_eq_true rfl) (fun p e s m args below meth c A ls H locs hx hb hml hr hnl hown hts hnm hK hA hl hW => ?_)
  have hl : lv_has ls 3 [(0, .int z), (1, .int x), (2, .int y)] := hl
  refine lv_iload_n hx hb d_Mo_reckon_0 rfl (lv_at hl 0 rfl) ?_
  refine lv_iconst (v := 1) hx hb d_Mo_reckon_1 (by decide) ?_
  refine lv_icmp_ne (tgt := 11) hx hb d_Mo_reckon_2 rfl (fun ht1 => ?_) (fun hf2 => ?_)
  · refine lv_iload_n hx hb d_Mo_reckon_11 rfl (lv_at hl 0 rfl) ?_
    refine lv_iconst (v := 2) hx hb d_Mo_reckon_12 (by decide) ?_
    refine lv_icmp_ne (tgt := 22) hx hb d_Mo_reckon_13 rfl (fun ht3 => ?_) (fun hf4 => ?_)
    · refine lv_iload_n hx hb d_Mo_reckon_22 rfl (lv_at hl 0 rfl) ?_
      refine lv_iconst (v := 3) hx hb d_Mo_reckon_23 (by decide) ?_
      refine lv_icmp_ne (tgt := 33) hx hb d_Mo_reckon_24 rfl (fun ht5 => ?_) (fun hf6 => ?_)
      · refine lv_iload_n hx hb d_Mo_reckon_33 rfl (lv_at hl 1 rfl) ?_
        refine lv_iload_n hx hb d_Mo_reckon_34 rfl (lv_at hl 2 rfl) ?_
        refine Ct.callS (As := [.int x, .int y]) (rest := []) hx hb hml hown hts hK hA hl.1 hW (c_Mo_isLess l G x y ) (va_cwS 2 hts (good_S w_ml_Mo_149 w_st_Mo_isLess w_ini_Mo w_code_Mo_isLess) rfl rfl rfl yd_Mo_isLess.2 ⟨by decide, by decide⟩) [] (by decide) rfl rfl rfl (Nat.le_of_ble_eq_true rfl) d_Mo_reckon_35 ⟨by decide, by decide⟩ (fun v w' hp => by obtain ⟨-, rfl⟩ := hp; exact Nat.le_of_ble_eq_true rfl) (fun v w' H locs hp hW => ?_)
        obtain ⟨rfl, rfl⟩ := hp
        have hW : Wd G A s.heap [] H locs := hW
        refine W.eq (g2 := F0 m 38 ls [.int (o_Mo_isLess_r x y)]) rfl ?_
        refine lv_if_eq (tgt := 45) hx hb d_Mo_reckon_38 rfl (fun ht7 => ?_) (fun hf8 => ?_)
        · refine lv_iconst (v := 0) hx hb d_Mo_reckon_45 (by decide) ?_
          exact Ct.iret hx hb hr hnl hW (by decide) (by decide) d_Mo_reckon_46 ⟨by first | rfl | (simp only [o_Mo_reckon_r, if_neg ht1, if_neg ht3, if_neg ht5, if_pos ht7]), by first | rfl | (simp only [o_Mo_reckon_r, if_neg ht1, if_neg ht3, if_neg ht5, if_pos ht7])⟩
        · refine lv_iconst (v := 1) hx hb d_Mo_reckon_41 (by decide) ?_
          refine lv_goto (tgt := 46) hx hb d_Mo_reckon_42 rfl ?_
          exact Ct.iret hx hb hr hnl hW (by decide) (by decide) d_Mo_reckon_46 ⟨by first | rfl | (simp only [o_Mo_reckon_r, if_neg ht1, if_neg ht3, if_neg ht5, if_neg hf8]), by first | rfl | (simp only [o_Mo_reckon_r, if_neg ht1, if_neg ht3, if_neg ht5, if_neg hf8])⟩
      · refine lv_iload_n hx hb d_Mo_reckon_27 rfl (lv_at hl 1 rfl) ?_
        refine lv_iload_n hx hb d_Mo_reckon_28 rfl (lv_at hl 2 rfl) ?_
        refine lv_imul hx hb d_Mo_reckon_29 ?_
        refine lv_goto (tgt := 46) hx hb d_Mo_reckon_30 rfl ?_
        exact Ct.iret hx hb hr hnl hW (by decide) (by decide) d_Mo_reckon_46 ⟨by first | rfl | (simp only [o_Mo_reckon_r, if_neg ht1, if_neg ht3, if_pos hf6]), by first | rfl | (simp only [o_Mo_reckon_r, if_neg ht1, if_neg ht3, if_pos hf6])⟩
    · refine lv_iload_n hx hb d_Mo_reckon_16 rfl (lv_at hl 1 rfl) ?_
      refine lv_iload_n hx hb d_Mo_reckon_17 rfl (lv_at hl 2 rfl) ?_
      refine lv_isub hx hb d_Mo_reckon_18 ?_
      refine lv_goto (tgt := 46) hx hb d_Mo_reckon_19 rfl ?_
      exact Ct.iret hx hb hr hnl hW (by decide) (by decide) d_Mo_reckon_46 ⟨by first | rfl | (simp only [o_Mo_reckon_r, if_neg ht1, if_pos hf4]), by first | rfl | (simp only [o_Mo_reckon_r, if_neg ht1, if_pos hf4])⟩
  · refine lv_iload_n hx hb d_Mo_reckon_5 rfl (lv_at hl 1 rfl) ?_
    refine lv_iload_n hx hb d_Mo_reckon_6 rfl (lv_at hl 2 rfl) ?_
    refine lv_iadd hx hb d_Mo_reckon_7 ?_
    refine lv_goto (tgt := 46) hx hb d_Mo_reckon_8 rfl ?_
    exact Ct.iret hx hb hr hnl hW (by decide) (by decide) d_Mo_reckon_46 ⟨by first | rfl | (simp only [o_Mo_reckon_r, if_pos hf2]), by first | rfl | (simp only [o_Mo_reckon_r, if_pos hf2])⟩

/-! the reference sorts -/
def iI (fr : Nat) (v : Int32) : Nat → Nat → (Nat → Int32) → Nat × (Nat → Int32)
  | 0, k, fg => (k, fg)
  | u + 1, k, fg => if nI k ≤ nI fr then (k, fg) else if o_Mo_isLess_r v (fg (nI k - 1).toNatClampNeg) = 0 then (k, fg) else iI fr v u (k - 1) (upd fg (nI k).toNatClampNeg (fg (nI k - 1).toNatClampNeg))
def iS (fr : Nat) : Nat → Nat → (Nat → Int32) → (Nat → Int32)
  | 0, _, fg => fg
  | u + 1, i, fg => iS fr u (i + 1) (upd (iI fr (fg (nI i).toNatClampNeg) (i + 1) i fg).2 (nI (iI fr (fg (nI i).toNatClampNeg) (i + 1) i fg).1).toNatClampNeg (fg (nI i).toNatClampNeg))
theorem iI_s {fr u k : Nat} {v : Int32} {fg : Nat → Int32} (hu : 0 < u) : iI fr v u k fg = if nI k ≤ nI fr then (k, fg) else if o_Mo_isLess_r v (fg (nI k - 1).toNatClampNeg) = 0 then (k, fg) else iI fr v (u - 1) (k - 1) (upd fg (nI k).toNatClampNeg (fg (nI k - 1).toNatClampNeg)) := by
  obtain ⟨w, rfl⟩ : ∃ w, u = w + 1 := ⟨u - 1, by omega⟩
  rfl
theorem iS_s {fr u i : Nat} {fg : Nat → Int32} (hu : 0 < u) : iS fr u i fg = iS fr (u - 1) (i + 1) (upd (iI fr (fg (nI i).toNatClampNeg) (i + 1) i fg).2 (nI (iI fr (fg (nI i).toNatClampNeg) (i + 1) i fg).1).toNatClampNeg (fg (nI i).toNatClampNeg)) := by
  obtain ⟨w, rfl⟩ : ∃ w, u = w + 1 := ⟨u - 1, by omega⟩
  rfl
theorem nI_p1 {k : Nat} (h : 0 < k) : nI k - 1 = nI (k - 1) := by
  obtain ⟨u, rfl⟩ : ∃ u, k = u + 1 := ⟨k - 1, by omega⟩
  exact nI_pred u
abbrev rm_Mo_sort : Room := { frames := 1, cells := 0, slots := 0, locals := 21 }
set_option maxHeartbeats 4000000 in
set_option maxRecDepth 100000 in
theorem c_Mo_sort (l : Launch) (G : Gt) (h0 : Nat) (mcd : Int32) (mty : Int32) (mtx : Nat) (mpl : Int32) (mth : Int32) (mln : Int32) (msc : Nat) (mfr : Int32) (mdr : Nat) (mcm : Int32) (mop : Int32) (mkd : Int32) (mbg : Int32) (mnd : Int32) (mam : Int32) (mis : Nat) (mip : Nat) (msd : Nat) (mrg : Nat) (mmn : Int32) (mou : Nat) (fr : Nat) (to : Nat) (fg0 : Nat → Int32) (hft : fr ≤ to) (hto : to < 26) : Ct l G y_Mo_sort b_Mo_sort 6 none rm_Mo_sort [.ref h0, .int (nI fr), .int (nI to)] [(h0, .inr (1, [.int mcd, .int mty, .ref mtx, .int mpl, .int mth, .int mln, .ref msc, .int mfr, .ref mdr, .int mcm, .int mop, .int mkd, .int mbg, .int mnd, .int mam, .ref mis, .ref mip, .ref msd, .ref mrg, .int mmn, .ref mou])), (mrg, .inl (G.2 0, 26, .inl fg0))] 0 0 (fun v w' => v = none ∧ w' = [(h0, .inr (1, [.int mcd, .int mty, .ref mtx, .int mpl, .int mth, .int mln, .ref msc, .int mfr, .ref mdr, .int mcm, .int mop, .int mkd, .int mbg, .int mnd, .int mam, .ref mis, .ref mip, .ref msd, .ref mrg, .int mmn, .ref mou])), (mrg, .inl (G.2 0, 26, .inl (iS fr (to - fr) (fr + 1) fg0)))]) := by
  refine Ct.of (by decide) (Nat.le_of_ble_eq_true rfl) (fun p e s m args below meth c A ls H locs hx hb hml hr hnl hown hts hnm hK hA hl hW => ?_)
  have hl : lv_has ls 6 [(0, .ref h0), (1, .int (nI fr)), (2, .int (nI to))] := hl
  refine lv_iload_n hx hb d_Mo_sort_0 rfl (lv_at hl 1 rfl) ?_
  refine lv_iconst (v := 1) hx hb d_Mo_sort_1 (by decide) ?_
  refine lv_iadd hx hb d_Mo_sort_2 ?_
  refine lv_topi (fun cz ez => ?_)
  obtain rfl : cz = nI (fr + 1) := ez.trans (nI_succ fr).symm
  refine lv_istore_n (lv' := [(3, .int (nI (fr + 1))), (0, .ref h0), (1, .int (nI fr)), (2, .int (nI to))]) hx hb d_Mo_sort_3 rfl hl (by decide) rfl (fun ls hl => ?_)
  have loop4 : ∀ (u : Nat) (i : Nat) (fg : Nat → Int32) (ls : Array Slot) (H : Heap) (locs : List Loc), fr + 1 ≤ i → i ≤ to + 1 → iS fr (to + 1 - i) i fg = iS fr (to - fr) (fr + 1) fg0 → (to + 1 - i) < u → lv_has ls 6 [(0, .ref h0), (1, .int (nI fr)), (2, .int (nI to)), (3, .int (nI i))] → Wd G A s.heap [(h0, .inr (1, [.int mcd, .int mty, .ref mtx, .int mpl, .int mth, .int mln, .ref msc, .int mfr, .ref mdr, .int mcm, .int mop, .int mkd, .int mbg, .int mnd, .int mam, .ref mis, .ref mip, .ref msd, .ref mrg, .int mmn, .ref mou])), (mrg, .inl (G.2 0, 26, .inl fg))] H locs → W p l e rm_Mo_sort s m args below meth c H locs 0 0 (MQ below (Qcc G (fun v w' => v = none ∧ w' = [(h0, .inr (1, [.int mcd, .int mty, .ref mtx, .int mpl, .int mth, .int mln, .ref msc, .int mfr, .ref mdr, .int mcm, .int mop, .int mkd, .int mbg, .int mnd, .int mam, .ref mis, .ref mip, .ref msd, .ref mrg, .int mmn, .ref mou])), (mrg, .inl (G.2 0, 26, .inl (iS fr (to - fr) (fr + 1) fg0)))]) A) args s 0 0 A) (F0 m 4 ls []) := by
    intro u
    induction u with
    | zero => intro i fg ls H locs hi1 hi2 hg hu; exact absurd hu (Nat.not_lt_zero _)
    | succ u ih4 =>
      intro i fg ls H locs hi1 hi2 hg hu4 hl hW
      refine lv_iload_n hx hb d_Mo_sort_4 rfl (lv_at hl 3 rfl) ?_
      refine lv_iload_n hx hb d_Mo_sort_5 rfl (lv_at hl 2 rfl) ?_
      refine lv_icmp_gt (tgt := 80) hx hb d_Mo_sort_6 rfl (fun ht1 => ?_) (fun hf2 => ?_)
      · have hit : i = to + 1 := by have := (nI_ltI (a := to) (b := i) (by omega) (by omega)).mp ht1; omega
        exact Ct.vret hx hb hr hnl hW (by decide) (by decide) d_Mo_sort_80 (by subst hit; rw [← hg, Nat.sub_self]; exact ⟨rfl, rfl⟩)
      · have hit : i ≤ to := by apply Nat.le_of_not_lt; intro q; exact hf2 (nI_lt q (by omega))
        refine lv_aload_n hx hb d_Mo_sort_9 rfl (lv_at hl 0 rfl) ?_
        refine Wd.get hx hb hts hown hK hW 0 18 in_Mo w_fl_Mo_34 (by decide) d_Mo_sort_10 rfl rfl rfl ?_
        refine lv_iload_n hx hb d_Mo_sort_13 rfl (lv_at hl 3 rfl) ?_
        refine Wd.iald hx hb hK hW 1 d_Mo_sort_14 rfl (vp_in_nI (by omega) (by omega)) ?_
        refine lv_istore (lv' := [(4, .int (fg ((nI i).toNatClampNeg))), (0, .ref h0), (1, .int (nI fr)), (2, .int (nI to)), (3, .int (nI i))]) hx hb d_Mo_sort_15 hl (by decide) rfl (fun ls hl => ?_)
        refine lv_iload_n hx hb d_Mo_sort_17 rfl (lv_at hl 4 rfl) ?_
        refine lv_istore (lv' := [(5, .int (nI i)), (4, .int (fg ((nI i).toNatClampNeg))), (0, .ref h0), (1, .int (nI fr)), (2, .int (nI to)), (3, .int (nI i))]) hx hb d_Mo_sort_18 hl (by decide) rfl (fun ls hl => ?_)
        have loop20 : ∀ (u : Nat) (k : Nat) (fh : Nat → Int32) (ls : Array Slot) (H : Heap) (locs : List Loc), fr ≤ k → k ≤ i → iI fr (fg (nI i).toNatClampNeg) (k + 1) k fh = (iI fr (fg (nI i).toNatClampNeg) (i + 1) i fg) → (k) < u → lv_has ls 6 [(0, .ref h0), (1, .int (nI fr)), (2, .int (nI to)), (3, .int (nI i)), (4, .int (fg (nI i).toNatClampNeg)), (5, .int (nI k))] → Wd G A s.heap [(h0, .inr (1, [.int mcd, .int mty, .ref mtx, .int mpl, .int mth, .int mln, .ref msc, .int mfr, .ref mdr, .int mcm, .int mop, .int mkd, .int mbg, .int mnd, .int mam, .ref mis, .ref mip, .ref msd, .ref mrg, .int mmn, .ref mou])), (mrg, .inl (G.2 0, 26, .inl fh))] H locs → W p l e rm_Mo_sort s m args below meth c H locs 0 0 (MQ below (Qcc G (fun v w' => v = none ∧ w' = [(h0, .inr (1, [.int mcd, .int mty, .ref mtx, .int mpl, .int mth, .int mln, .ref msc, .int mfr, .ref mdr, .int mcm, .int mop, .int mkd, .int mbg, .int mnd, .int mam, .ref mis, .ref mip, .ref msd, .ref mrg, .int mmn, .ref mou])), (mrg, .inl (G.2 0, 26, .inl (iS fr (to - fr) (fr + 1) fg0)))]) A) args s 0 0 A) (F0 m 20 ls []) := by
          intro u
          induction u with
          | zero => intro k fh ls H locs hk1 hk2 hgi hu; exact absurd hu (Nat.not_lt_zero _)
          | succ u ih20 =>
            intro k fh ls H locs hk1 hk2 hgi hu20 hl hW
            refine lv_iload hx hb d_Mo_sort_20 (lv_at hl 5 rfl) ?_
            refine lv_iload_n hx hb d_Mo_sort_22 rfl (lv_at hl 1 rfl) ?_
            refine lv_icmp_le (tgt := 65) hx hb d_Mo_sort_23 rfl (fun ht3 => ?_) (fun hf4 => ?_)
            · have hkf : k = fr := by have := (nI_leI (a := k) (b := fr) (by omega) (by omega)).mp ht3; omega
              refine lv_aload_n hx hb d_Mo_sort_65 rfl (lv_at hl 0 rfl) ?_
              refine Wd.get hx hb hts hown hK hW 0 18 in_Mo w_fl_Mo_34 (by decide) d_Mo_sort_66 rfl rfl rfl ?_
              refine lv_iload hx hb d_Mo_sort_69 (lv_at hl 5 rfl) ?_
              refine lv_iload hx hb d_Mo_sort_71 (lv_at hl 4 rfl) ?_
              refine Wd.iast hx hb hK hW 1 d_Mo_sort_73 rfl (vp_in_nI (by omega) (by omega)) (fun H locs hW => ?_)
              have hW : Wd G A s.heap [(h0, .inr (1, [.int mcd, .int mty, .ref mtx, .int mpl, .int mth, .int mln, .ref msc, .int mfr, .ref mdr, .int mcm, .int mop, .int mkd, .int mbg, .int mnd, .int mam, .ref mis, .ref mip, .ref msd, .ref mrg, .int mmn, .ref mou])), (mrg, .inl (G.2 0, 26, .inl (upd fh ((nI k).toNatClampNeg) (fg (nI i).toNatClampNeg))))] H locs := hW
              refine lv_iinc (k := 3) (v := nI (i + 1)) (lv' := [(3, .int (nI (i + 1))), (0, .ref h0), (1, .int (nI fr)), (2, .int (nI to)), (4, .int (fg (nI i).toNatClampNeg)), (5, .int (nI k))]) hx hb d_Mo_sort_74 hl rfl (nI_succ i).symm (by decide) rfl (fun ls hl => ?_)
              refine lv_goto (tgt := 4) hx hb d_Mo_sort_77 rfl ?_
              have eI : (k, fh) = (iI fr (fg (nI i).toNatClampNeg) (i + 1) i fg) := by
                rw [← hgi, iI_s (by omega), if_pos ht3]
              exact ih4 (i + 1) (upd fh (nI k).toNatClampNeg (fg (nI i).toNatClampNeg)) ls H locs (by omega) (by omega) (by rw [iS_s (by omega), ← eI] at hg; rw [show to + 1 - (i + 1) = to + 1 - i - 1 by omega]; exact hg) (by omega) (lv_sub hl [1, 2, 3, 0] rfl) hW
            · have hkf : fr < k := by apply Nat.lt_of_not_le; intro q; exact hf4 (nI_le q (by omega))
              refine lv_iload hx hb d_Mo_sort_26 (lv_at hl 4 rfl) ?_
              refine lv_aload_n hx hb d_Mo_sort_28 rfl (lv_at hl 0 rfl) ?_
              refine Wd.get hx hb hts hown hK hW 0 18 in_Mo w_fl_Mo_34 (by decide) d_Mo_sort_29 rfl rfl rfl ?_
              refine lv_iload hx hb d_Mo_sort_32 (lv_at hl 5 rfl) ?_
              refine lv_iconst (v := 1) hx hb d_Mo_sort_34 (by decide) ?_
              refine lv_isub hx hb d_Mo_sort_35 ?_
              refine Wd.iald hx hb hK hW 1 d_Mo_sort_36 rfl (by rw [nI_p1 (by omega)]; exact vp_in_nI (by omega) (by omega)) ?_
              refine Ct.callS (As := [.int (fg (nI i).toNatClampNeg), .int (fh (((nI k) - 1).toNatClampNeg))]) (rest := []) hx hb hml hown hts hK hA hl.1 hW (c_Mo_isLess l G (fg (nI i).toNatClampNeg) (fh (((nI k) - 1).toNatClampNeg)) ) (va_cwS 2 hts (good_S w_ml_Mo_149 w_st_Mo_isLess w_ini_Mo w_code_Mo_isLess) rfl rfl rfl yd_Mo_isLess.2 ⟨by decide, by decide⟩) [] (by decide) rfl rfl rfl (Nat.le_of_ble_eq_true rfl) d_Mo_sort_37 ⟨by decide, by decide⟩ (fun v w' hp => by obtain ⟨-, rfl⟩ := hp; exact Nat.le_of_ble_eq_true rfl) (fun v w' H locs hp hW => ?_)
              obtain ⟨rfl, rfl⟩ := hp
              have hW : Wd G A s.heap [(h0, .inr (1, [.int mcd, .int mty, .ref mtx, .int mpl, .int mth, .int mln, .ref msc, .int mfr, .ref mdr, .int mcm, .int mop, .int mkd, .int mbg, .int mnd, .int mam, .ref mis, .ref mip, .ref msd, .ref mrg, .int mmn, .ref mou])), (mrg, .inl (G.2 0, 26, .inl fh))] H locs := hW
              refine W.eq (g2 := F0 m 40 ls [.int (o_Mo_isLess_r (fg (nI i).toNatClampNeg) (fh (((nI k) - 1).toNatClampNeg)))]) rfl ?_
              refine lv_if_eq (tgt := 65) hx hb d_Mo_sort_40 rfl (fun ht5 => ?_) (fun hf6 => ?_)
              · refine lv_aload_n hx hb d_Mo_sort_65 rfl (lv_at hl 0 rfl) ?_
                refine Wd.get hx hb hts hown hK hW 0 18 in_Mo w_fl_Mo_34 (by decide) d_Mo_sort_66 rfl rfl rfl ?_
                refine lv_iload hx hb d_Mo_sort_69 (lv_at hl 5 rfl) ?_
                refine lv_iload hx hb d_Mo_sort_71 (lv_at hl 4 rfl) ?_
                refine Wd.iast hx hb hK hW 1 d_Mo_sort_73 rfl (vp_in_nI (by omega) (by omega)) (fun H locs hW => ?_)
                have hW : Wd G A s.heap [(h0, .inr (1, [.int mcd, .int mty, .ref mtx, .int mpl, .int mth, .int mln, .ref msc, .int mfr, .ref mdr, .int mcm, .int mop, .int mkd, .int mbg, .int mnd, .int mam, .ref mis, .ref mip, .ref msd, .ref mrg, .int mmn, .ref mou])), (mrg, .inl (G.2 0, 26, .inl (upd fh ((nI k).toNatClampNeg) (fg (nI i).toNatClampNeg))))] H locs := hW
                refine lv_iinc (k := 3) (v := nI (i + 1)) (lv' := [(3, .int (nI (i + 1))), (0, .ref h0), (1, .int (nI fr)), (2, .int (nI to)), (4, .int (fg (nI i).toNatClampNeg)), (5, .int (nI k))]) hx hb d_Mo_sort_74 hl rfl (nI_succ i).symm (by decide) rfl (fun ls hl => ?_)
                refine lv_goto (tgt := 4) hx hb d_Mo_sort_77 rfl ?_
                have eI : (k, fh) = (iI fr (fg (nI i).toNatClampNeg) (i + 1) i fg) := by
                  rw [← hgi, iI_s (by omega), if_neg hf4, if_pos ht5]
                exact ih4 (i + 1) (upd fh (nI k).toNatClampNeg (fg (nI i).toNatClampNeg)) ls H locs (by omega) (by omega) (by rw [iS_s (by omega), ← eI] at hg; rw [show to + 1 - (i + 1) = to + 1 - i - 1 by omega]; exact hg) (by omega) (lv_sub hl [1, 2, 3, 0] rfl) hW
              · refine lv_aload_n hx hb d_Mo_sort_43 rfl (lv_at hl 0 rfl) ?_
                refine Wd.get hx hb hts hown hK hW 0 18 in_Mo w_fl_Mo_34 (by decide) d_Mo_sort_44 rfl rfl rfl ?_
                refine lv_iload hx hb d_Mo_sort_47 (lv_at hl 5 rfl) ?_
                refine lv_aload_n hx hb d_Mo_sort_49 rfl (lv_at hl 0 rfl) ?_
                refine Wd.get hx hb hts hown hK hW 0 18 in_Mo w_fl_Mo_34 (by decide) d_Mo_sort_50 rfl rfl rfl ?_
                refine lv_iload hx hb d_Mo_sort_53 (lv_at hl 5 rfl) ?_
                refine lv_iconst (v := 1) hx hb d_Mo_sort_55 (by decide) ?_
                refine lv_isub hx hb d_Mo_sort_56 ?_
                refine Wd.iald hx hb hK hW 1 d_Mo_sort_57 rfl (by rw [nI_p1 (by omega)]; exact vp_in_nI (by omega) (by omega)) ?_
                refine Wd.iast hx hb hK hW 1 d_Mo_sort_58 rfl (vp_in_nI (by omega) (by omega)) (fun H locs hW => ?_)
                have hW : Wd G A s.heap [(h0, .inr (1, [.int mcd, .int mty, .ref mtx, .int mpl, .int mth, .int mln, .ref msc, .int mfr, .ref mdr, .int mcm, .int mop, .int mkd, .int mbg, .int mnd, .int mam, .ref mis, .ref mip, .ref msd, .ref mrg, .int mmn, .ref mou])), (mrg, .inl (G.2 0, 26, .inl (upd fh ((nI k).toNatClampNeg) (fh (((nI k) - 1).toNatClampNeg)))))] H locs := hW
                refine lv_iinc (k := 5) (v := nI (k - 1)) (lv' := [(5, .int (nI (k - 1))), (0, .ref h0), (1, .int (nI fr)), (2, .int (nI to)), (3, .int (nI i)), (4, .int (fg (nI i).toNatClampNeg))]) hx hb d_Mo_sort_59 hl rfl (nI_dec (by omega)) (by decide) rfl (fun ls hl => ?_)
                refine lv_goto (tgt := 20) hx hb d_Mo_sort_62 rfl ?_
                exact ih20 (k - 1) (upd fh (nI k).toNatClampNeg (fh (nI k - 1).toNatClampNeg)) ls H locs (by omega) (by omega) (by rw [iI_s (by omega), if_neg hf4, if_neg hf6] at hgi; rw [show k - 1 + 1 = k + 1 - 1 by omega]; exact hgi) (by omega) (lv_sub hl [1, 2, 3, 4, 5, 0] rfl) hW
        exact loop20 (_ + 1) i fg ls H locs (by omega) (Nat.le_refl _) rfl (Nat.lt_succ_self _) (lv_sub hl [2, 3, 4, 5, 1, 0] rfl) hW
  exact loop4 (_ + 1) (fr + 1) fg0 ls H locs (Nat.le_refl _) (by omega) (by rw [show to + 1 - (fr + 1) = to - fr by omega]) (Nat.lt_succ_self _) (lv_sub hl [1, 2, 3, 0] rfl) hW

