/-! the reference carries a row out -/
def uS : Nat → Nat → (Nat → Int32) → (Nat → Int32)
  | 0, _, fg => fg
  | u + 1, k, fg => uS u (k + 1) (upd fg (nI k).toNatClampNeg (fg (nI k).toNatClampNeg + fg (nI k - 1).toNatClampNeg))
theorem uS_s {u k : Nat} {fg : Nat → Int32} (hu : 0 < u) : uS u k fg = uS (u - 1) (k + 1) (upd fg (nI k).toNatClampNeg (fg (nI k).toNatClampNeg + fg (nI k - 1).toNatClampNeg)) := by
  obtain ⟨w, rfl⟩ : ∃ w, u = w + 1 := ⟨u - 1, by omega⟩
  rfl
def mCar (sc fi : Nat → Int32) (t a z : Nat) (fg fo : Nat → Int32) (mmn : Int32) : (Nat → Int32) × (Nat → Int32) × Int32 :=
  if (sc (nI t).toNatClampNeg) = 6 then (iS a (z - a) (a + 1) fg, fo, mmn)
  else if (sc (nI t).toNatClampNeg) = 7 then (uS (z - a) (a + 1) fg, fo, mmn)
  else if (sc (nI t).toNatClampNeg) = 8 then (fg, upd fo mmn.toNatClampNeg (fg (sc ((nI t) + 1).toNatClampNeg).toNatClampNeg), mmn + 1)
  else (upd fg (sc ((nI t) + 1).toNatClampNeg).toNatClampNeg (if (sc (nI t).toNatClampNeg) = 0 then (o_Mo_valueOf_r fi fg (sc ((nI t) + 2).toNatClampNeg)) else if (sc (nI t).toNatClampNeg) = 5 then (if (o_Mo_valueOf_r fi fg (sc ((nI t) + 2).toNatClampNeg)) &&& 1 = 1 then (o_Mo_valueOf_r fi fg (sc ((nI t) + 3).toNatClampNeg)) else (o_Mo_valueOf_r fi fg (sc ((nI t) + 4).toNatClampNeg))) else o_Mo_reckon_r (sc (nI t).toNatClampNeg) (o_Mo_valueOf_r fi fg (sc ((nI t) + 2).toNatClampNeg)) (o_Mo_valueOf_r fi fg (sc ((nI t) + 3).toNatClampNeg))), fo, mmn)

abbrev rm_Mo_carry : Room := { frames := 2, cells := 0, slots := 0, locals := 46 }
set_option maxHeartbeats 4000000 in
set_option maxRecDepth 100000 in
theorem c_Mo_carry (l : Launch) (G : Gt) (h0 : Nat) (mcd : Int32) (mty : Int32) (mtx : Nat) (mpl : Int32) (mth : Int32) (mln : Int32) (msc : Nat) (mfr : Int32) (mdr : Nat) (mcm : Int32) (mop : Int32) (mkd : Int32) (mbg : Int32) (mnd : Int32) (mam : Int32) (mis : Nat) (mip : Nat) (msd : Nat) (mrg : Nat) (mmn : Int32) (mou : Nat) (t : Nat) (a : Nat) (z : Nat) (sc : Nat → Int32) (fi : Nat → Int32) (fg : Nat → Int32) (fo : Nat → Int32) (ht : t + 5 < 400) (hra : sc ((nI t) + 1).toNatClampNeg = nI a) (ha : a < 26) (hlz : (sc (nI t).toNatClampNeg) = 6 ∨ (sc (nI t).toNatClampNeg) = 7 → (sc ((nI t) + 5).toNatClampNeg) = nI z ∧ a ≤ z ∧ z < 26) (hmn : (sc (nI t).toNatClampNeg) = 8 → vp_in mmn 16) (hv : ∀ k : Nat, k < 5 → (¬ sc (nI t + nI k).toNatClampNeg < 100 → sc (nI t + nI k).toNatClampNeg < 1000 → vp_in (sc (nI t + nI k).toNatClampNeg - 100) 8) ∧ (sc (nI t + nI k).toNatClampNeg < 100 → vp_in (sc (nI t + nI k).toNatClampNeg) 26)) : Ct l G y_Mo_carry b_Mo_carry 8 none rm_Mo_carry [.ref h0, .int (nI t)] [(h0, .inr (1, [.int mcd, .int mty, .ref mtx, .int mpl, .int mth, .int mln, .ref msc, .int mfr, .ref mdr, .int mcm, .int mop, .int mkd, .int mbg, .int mnd, .int mam, .ref mis, .ref mip, .ref msd, .ref mrg, .int mmn, .ref mou])), (msc, .inl (G.2 0, 400, .inl sc)), (mip, .inl (G.2 0, 8, .inl fi)), (mrg, .inl (G.2 0, 26, .inl fg)), (mou, .inl (G.2 0, 16, .inl fo))] 0 0 (fun v w' => v = none ∧ w' = [(h0, .inr (1, [.int mcd, .int mty, .ref mtx, .int mpl, .int mth, .int mln, .ref msc, .int mfr, .ref mdr, .int mcm, .int mop, .int mkd, .int mbg, .int mnd, .int mam, .ref mis, .ref mip, .ref msd, .ref mrg, .int ((mCar sc fi t a z fg fo mmn).2.2), .ref mou])), (msc, .inl (G.2 0, 400, .inl sc)), (mip, .inl (G.2 0, 8, .inl fi)), (mrg, .inl (G.2 0, 26, .inl ((mCar sc fi t a z fg fo mmn).1))), (mou, .inl (G.2 0, 16, .inl ((mCar sc fi t a z fg fo mmn).2.1)))]) := by
  refine Ct.of (by decide) (Nat.le_of_ble_eq_true rfl) (fun p e s m args below meth c A ls H locs hx hb hml hr hnl hown hts hnm hK hA hl hW => ?_)
  have hl : lv_has ls 8 [(0, .ref h0), (1, .int (nI t))] := hl
  refine lv_aload_n hx hb d_Mo_carry_0 rfl (lv_at hl 0 rfl) ?_
  refine Wd.get hx hb hts hown hK hW 0 6 in_Mo w_fl_Mo_17 (by decide) d_Mo_carry_1 rfl rfl rfl ?_
  refine lv_iload_n hx hb d_Mo_carry_4 rfl (lv_at hl 1 rfl) ?_
  refine Wd.iald hx hb hK hW 1 d_Mo_carry_5 rfl (by first | exact vp_in_nI (by omega) (by omega) | (rw [show ((nI t) + 0 : Int32) = nI (t + 0) from (nI_add t 0)]; exact vp_in_nI (by omega) (by omega))) ?_
  refine lv_istore_n (lv' := [(2, .int (sc ((nI t).toNatClampNeg))), (0, .ref h0), (1, .int (nI t))]) hx hb d_Mo_carry_6 rfl hl (by decide) rfl (fun ls hl => ?_)
  refine lv_aload_n hx hb d_Mo_carry_7 rfl (lv_at hl 1 rfl) ?_
  refine Wd.get hx hb hts hown hK hW 0 6 in_Mo w_fl_Mo_17 (by decide) d_Mo_carry_8 rfl rfl rfl ?_
  refine lv_iload_n hx hb d_Mo_carry_11 rfl (lv_at hl 2 rfl) ?_
  refine lv_iconst (v := 1) hx hb d_Mo_carry_12 (by decide) ?_
  refine lv_iadd hx hb d_Mo_carry_13 ?_
  refine Wd.iald hx hb hK hW 1 d_Mo_carry_14 rfl (by first | exact vp_in_nI (by omega) (by omega) | (rw [show ((nI t) + 1 : Int32) = nI (t + 1) from (nI_add t 1)]; exact vp_in_nI (by omega) (by omega))) ?_
  refine lv_istore_n (lv' := [(3, .int (sc (((nI t) + 1).toNatClampNeg))), (2, .int (sc ((nI t).toNatClampNeg))), (0, .ref h0), (1, .int (nI t))]) hx hb d_Mo_carry_15 rfl hl (by decide) rfl (fun ls hl => ?_)
  refine lv_aload_n hx hb d_Mo_carry_16 rfl (lv_at hl 2 rfl) ?_
  refine Wd.get hx hb hts hown hK hW 0 6 in_Mo w_fl_Mo_17 (by decide) d_Mo_carry_17 rfl rfl rfl ?_
  refine lv_iload_n hx hb d_Mo_carry_20 rfl (lv_at hl 3 rfl) ?_
  refine lv_iconst (v := 5) hx hb d_Mo_carry_21 (by decide) ?_
  refine lv_iadd hx hb d_Mo_carry_22 ?_
  refine Wd.iald hx hb hK hW 1 d_Mo_carry_23 rfl (by first | exact vp_in_nI (by omega) (by omega) | (rw [show ((nI t) + 5 : Int32) = nI (t + 5) from (nI_add t 5)]; exact vp_in_nI (by omega) (by omega))) ?_
  refine lv_istore (lv' := [(4, .int (sc (((nI t) + 5).toNatClampNeg))), (3, .int (sc (((nI t) + 1).toNatClampNeg))), (2, .int (sc ((nI t).toNatClampNeg))), (0, .ref h0), (1, .int (nI t))]) hx hb d_Mo_carry_24 hl (by decide) rfl (fun ls hl => ?_)
  refine lv_iload_n hx hb d_Mo_carry_26 rfl (lv_at hl 2 rfl) ?_
  refine lv_bipush (v := 6) hx hb d_Mo_carry_27 (by decide) ?_
  refine lv_icmp_ne (tgt := 42) hx hb d_Mo_carry_29 rfl (fun ht1 => ?_) (fun hf2 => ?_)
  · refine lv_iload_n hx hb d_Mo_carry_42 rfl (lv_at hl 2 rfl) ?_
    refine lv_bipush (v := 7) hx hb d_Mo_carry_43 (by decide) ?_
    refine lv_icmp_ne (tgt := 88) hx hb d_Mo_carry_45 rfl (fun ht3 => ?_) (fun hf4 => ?_)
    · refine lv_iload_n hx hb d_Mo_carry_88 rfl (lv_at hl 2 rfl) ?_
      refine lv_bipush (v := 8) hx hb d_Mo_carry_89 (by decide) ?_
      refine lv_icmp_ne (tgt := 122) hx hb d_Mo_carry_91 rfl (fun ht5 => ?_) (fun hf6 => ?_)
      · refine lv_aload_n hx hb d_Mo_carry_122 rfl (lv_at hl 3 rfl) ?_
        refine lv_aload_n hx hb d_Mo_carry_123 rfl (lv_at hl 3 rfl) ?_
        refine Wd.get hx hb hts hown hK hW 0 6 in_Mo w_fl_Mo_17 (by decide) d_Mo_carry_124 rfl rfl rfl ?_
        refine lv_iload_n hx hb d_Mo_carry_127 rfl (lv_at hl 4 rfl) ?_
        refine lv_iconst (v := 2) hx hb d_Mo_carry_128 (by decide) ?_
        refine lv_iadd hx hb d_Mo_carry_129 ?_
        refine Wd.iald hx hb hK hW 1 d_Mo_carry_130 rfl (by first | exact vp_in_nI (by omega) (by omega) | (rw [show ((nI t) + 2 : Int32) = nI (t + 2) from (nI_add t 2)]; exact vp_in_nI (by omega) (by omega))) ?_
        refine Ct.callV (As := [.int (sc (((nI t) + 2).toNatClampNeg))]) (rest := []) hx hb hml hown hts hK hA hl.1 hW (c_Mo_valueOf l G h0 mcd mty mtx mpl mth mln msc mfr mdr mcm mop mkd mbg mnd mam mis mip msd mrg mmn mou fi fg (sc (((nI t) + 2).toNatClampNeg)) (hv 2 (by decide)).1 (hv 2 (by decide)).2) (cwV 1 hts (good_V w_ml_Mo_159 w_im_Mo_valueOf w_se_Mo_valueOf w_ini_Mo w_code_Mo_valueOf) rfl rfl rfl yd_Mo_valueOf ⟨by decide, by decide⟩) [0, 2, 3] (by decide) rfl (ci := 1) (r := vr_Mo) rfl rfl rfl rfl rfl (Nat.le_of_ble_eq_true rfl) d_Mo_carry_131 ⟨by decide, by decide⟩ (fun v w' hp => by obtain ⟨-, rfl⟩ := hp; exact Nat.le_of_ble_eq_true rfl) (fun v w' H locs hp hW => ?_)
        obtain ⟨rfl, rfl⟩ := hp
        have hW : Wd G A s.heap [(h0, .inr (1, [.int mcd, .int mty, .ref mtx, .int mpl, .int mth, .int mln, .ref msc, .int mfr, .ref mdr, .int mcm, .int mop, .int mkd, .int mbg, .int mnd, .int mam, .ref mis, .ref mip, .ref msd, .ref mrg, .int mmn, .ref mou])), (msc, .inl (G.2 0, 400, .inl sc)), (mip, .inl (G.2 0, 8, .inl fi)), (mrg, .inl (G.2 0, 26, .inl fg)), (mou, .inl (G.2 0, 16, .inl fo))] H locs := hW
        refine W.eq (g2 := F0 m 134 ls [.int (o_Mo_valueOf_r fi fg (sc (((nI t) + 2).toNatClampNeg)))]) rfl ?_
        refine lv_istore (lv' := [(5, .int (o_Mo_valueOf_r fi fg (sc (((nI t) + 2).toNatClampNeg)))), (4, .int (sc (((nI t) + 5).toNatClampNeg))), (3, .int (sc (((nI t) + 1).toNatClampNeg))), (2, .int (sc ((nI t).toNatClampNeg))), (0, .ref h0), (1, .int (nI t))]) hx hb d_Mo_carry_134 hl (by decide) rfl (fun ls hl => ?_)
        refine lv_aload_n hx hb d_Mo_carry_136 rfl (lv_at hl 4 rfl) ?_
        refine lv_aload_n hx hb d_Mo_carry_137 rfl (lv_at hl 4 rfl) ?_
        refine Wd.get hx hb hts hown hK hW 0 6 in_Mo w_fl_Mo_17 (by decide) d_Mo_carry_138 rfl rfl rfl ?_
        refine lv_iload_n hx hb d_Mo_carry_141 rfl (lv_at hl 5 rfl) ?_
        refine lv_iconst (v := 3) hx hb d_Mo_carry_142 (by decide) ?_
        refine lv_iadd hx hb d_Mo_carry_143 ?_
        refine Wd.iald hx hb hK hW 1 d_Mo_carry_144 rfl (by first | exact vp_in_nI (by omega) (by omega) | (rw [show ((nI t) + 3 : Int32) = nI (t + 3) from (nI_add t 3)]; exact vp_in_nI (by omega) (by omega))) ?_
        refine Ct.callV (As := [.int (sc (((nI t) + 3).toNatClampNeg))]) (rest := []) hx hb hml hown hts hK hA hl.1 hW (c_Mo_valueOf l G h0 mcd mty mtx mpl mth mln msc mfr mdr mcm mop mkd mbg mnd mam mis mip msd mrg mmn mou fi fg (sc (((nI t) + 3).toNatClampNeg)) (hv 3 (by decide)).1 (hv 3 (by decide)).2) (cwV 1 hts (good_V w_ml_Mo_159 w_im_Mo_valueOf w_se_Mo_valueOf w_ini_Mo w_code_Mo_valueOf) rfl rfl rfl yd_Mo_valueOf ⟨by decide, by decide⟩) [0, 2, 3] (by decide) rfl (ci := 1) (r := vr_Mo) rfl rfl rfl rfl rfl (Nat.le_of_ble_eq_true rfl) d_Mo_carry_145 ⟨by decide, by decide⟩ (fun v w' hp => by obtain ⟨-, rfl⟩ := hp; exact Nat.le_of_ble_eq_true rfl) (fun v w' H locs hp hW => ?_)
        obtain ⟨rfl, rfl⟩ := hp
        have hW : Wd G A s.heap [(h0, .inr (1, [.int mcd, .int mty, .ref mtx, .int mpl, .int mth, .int mln, .ref msc, .int mfr, .ref mdr, .int mcm, .int mop, .int mkd, .int mbg, .int mnd, .int mam, .ref mis, .ref mip, .ref msd, .ref mrg, .int mmn, .ref mou])), (msc, .inl (G.2 0, 400, .inl sc)), (mip, .inl (G.2 0, 8, .inl fi)), (mrg, .inl (G.2 0, 26, .inl fg)), (mou, .inl (G.2 0, 16, .inl fo))] H locs := hW
        refine W.eq (g2 := F0 m 148 ls [.int (o_Mo_valueOf_r fi fg (sc (((nI t) + 3).toNatClampNeg)))]) rfl ?_
        refine lv_istore (lv' := [(6, .int (o_Mo_valueOf_r fi fg (sc (((nI t) + 3).toNatClampNeg)))), (5, .int (o_Mo_valueOf_r fi fg (sc (((nI t) + 2).toNatClampNeg)))), (4, .int (sc (((nI t) + 5).toNatClampNeg))), (3, .int (sc (((nI t) + 1).toNatClampNeg))), (2, .int (sc ((nI t).toNatClampNeg))), (0, .ref h0), (1, .int (nI t))]) hx hb d_Mo_carry_148 hl (by decide) rfl (fun ls hl => ?_)
        refine lv_aload_n hx hb d_Mo_carry_150 rfl (lv_at hl 5 rfl) ?_
        refine lv_aload_n hx hb d_Mo_carry_151 rfl (lv_at hl 5 rfl) ?_
        refine Wd.get hx hb hts hown hK hW 0 6 in_Mo w_fl_Mo_17 (by decide) d_Mo_carry_152 rfl rfl rfl ?_
        refine lv_iload_n hx hb d_Mo_carry_155 rfl (lv_at hl 6 rfl) ?_
        refine lv_iconst (v := 4) hx hb d_Mo_carry_156 (by decide) ?_
        refine lv_iadd hx hb d_Mo_carry_157 ?_
        refine Wd.iald hx hb hK hW 1 d_Mo_carry_158 rfl (by first | exact vp_in_nI (by omega) (by omega) | (rw [show ((nI t) + 4 : Int32) = nI (t + 4) from (nI_add t 4)]; exact vp_in_nI (by omega) (by omega))) ?_
        refine Ct.callV (As := [.int (sc (((nI t) + 4).toNatClampNeg))]) (rest := []) hx hb hml hown hts hK hA hl.1 hW (c_Mo_valueOf l G h0 mcd mty mtx mpl mth mln msc mfr mdr mcm mop mkd mbg mnd mam mis mip msd mrg mmn mou fi fg (sc (((nI t) + 4).toNatClampNeg)) (hv 4 (by decide)).1 (hv 4 (by decide)).2) (cwV 1 hts (good_V w_ml_Mo_159 w_im_Mo_valueOf w_se_Mo_valueOf w_ini_Mo w_code_Mo_valueOf) rfl rfl rfl yd_Mo_valueOf ⟨by decide, by decide⟩) [0, 2, 3] (by decide) rfl (ci := 1) (r := vr_Mo) rfl rfl rfl rfl rfl (Nat.le_of_ble_eq_true rfl) d_Mo_carry_159 ⟨by decide, by decide⟩ (fun v w' hp => by obtain ⟨-, rfl⟩ := hp; exact Nat.le_of_ble_eq_true rfl) (fun v w' H locs hp hW => ?_)
        obtain ⟨rfl, rfl⟩ := hp
        have hW : Wd G A s.heap [(h0, .inr (1, [.int mcd, .int mty, .ref mtx, .int mpl, .int mth, .int mln, .ref msc, .int mfr, .ref mdr, .int mcm, .int mop, .int mkd, .int mbg, .int mnd, .int mam, .ref mis, .ref mip, .ref msd, .ref mrg, .int mmn, .ref mou])), (msc, .inl (G.2 0, 400, .inl sc)), (mip, .inl (G.2 0, 8, .inl fi)), (mrg, .inl (G.2 0, 26, .inl fg)), (mou, .inl (G.2 0, 16, .inl fo))] H locs := hW
        refine W.eq (g2 := F0 m 162 ls [.int (o_Mo_valueOf_r fi fg (sc (((nI t) + 4).toNatClampNeg)))]) rfl ?_
        refine lv_istore (lv' := [(7, .int (o_Mo_valueOf_r fi fg (sc (((nI t) + 4).toNatClampNeg)))), (6, .int (o_Mo_valueOf_r fi fg (sc (((nI t) + 3).toNatClampNeg)))), (5, .int (o_Mo_valueOf_r fi fg (sc (((nI t) + 2).toNatClampNeg)))), (4, .int (sc (((nI t) + 5).toNatClampNeg))), (3, .int (sc (((nI t) + 1).toNatClampNeg))), (2, .int (sc ((nI t).toNatClampNeg))), (0, .ref h0), (1, .int (nI t))]) hx hb d_Mo_carry_162 hl (by decide) rfl (fun ls hl => ?_)
        refine lv_aload_n hx hb d_Mo_carry_164 rfl (lv_at hl 6 rfl) ?_
        refine Wd.get hx hb hts hown hK hW 0 18 in_Mo w_fl_Mo_34 (by decide) d_Mo_carry_165 rfl rfl rfl ?_
        refine lv_iload_n hx hb d_Mo_carry_168 rfl (lv_at hl 4 rfl) ?_
        refine lv_iload_n hx hb d_Mo_carry_169 rfl (lv_at hl 5 rfl) ?_
        refine lv_if_ne (tgt := 178) hx hb d_Mo_carry_170 rfl (fun ht7 => ?_) (fun hf8 => ?_)
        · refine lv_iload_n hx hb d_Mo_carry_178 rfl (lv_at hl 5 rfl) ?_
          refine lv_iconst (v := 5) hx hb d_Mo_carry_179 (by decide) ?_
          refine lv_icmp_ne (tgt := 201) hx hb d_Mo_carry_180 rfl (fun ht9 => ?_) (fun hf10 => ?_)
          · refine lv_iload_n hx hb d_Mo_carry_201 rfl (lv_at hl 5 rfl) ?_
            refine lv_iload hx hb d_Mo_carry_202 (lv_at hl 2 rfl) ?_
            refine lv_iload hx hb d_Mo_carry_204 (lv_at hl 1 rfl) ?_
            refine Ct.callS (As := [.int (sc ((nI t).toNatClampNeg)), .int (o_Mo_valueOf_r fi fg (sc (((nI t) + 2).toNatClampNeg))), .int (o_Mo_valueOf_r fi fg (sc (((nI t) + 3).toNatClampNeg)))]) (rest := [.int (sc (((nI t) + 1).toNatClampNeg)), .ref mrg]) hx hb hml hown hts hK hA hl.1 hW (c_Mo_reckon l G (sc ((nI t).toNatClampNeg)) (o_Mo_valueOf_r fi fg (sc (((nI t) + 2).toNatClampNeg))) (o_Mo_valueOf_r fi fg (sc (((nI t) + 3).toNatClampNeg))) ) (va_cwS 3 hts (good_S w_ml_Mo_162 w_st_Mo_reckon w_ini_Mo w_code_Mo_reckon) rfl rfl rfl yd_Mo_reckon.2 ⟨by decide, by decide⟩) [] (by decide) rfl rfl rfl (Nat.le_of_ble_eq_true rfl) d_Mo_carry_206 ⟨by decide, by decide⟩ (fun v w' hp => by obtain ⟨-, rfl⟩ := hp; exact Nat.le_of_ble_eq_true rfl) (fun v w' H locs hp hW => ?_)
            obtain ⟨rfl, rfl⟩ := hp
            have hW : Wd G A s.heap [(h0, .inr (1, [.int mcd, .int mty, .ref mtx, .int mpl, .int mth, .int mln, .ref msc, .int mfr, .ref mdr, .int mcm, .int mop, .int mkd, .int mbg, .int mnd, .int mam, .ref mis, .ref mip, .ref msd, .ref mrg, .int mmn, .ref mou])), (msc, .inl (G.2 0, 400, .inl sc)), (mip, .inl (G.2 0, 8, .inl fi)), (mrg, .inl (G.2 0, 26, .inl fg)), (mou, .inl (G.2 0, 16, .inl fo))] H locs := hW
            refine W.eq (g2 := F0 m 209 ls [.int (o_Mo_reckon_r (sc ((nI t).toNatClampNeg)) (o_Mo_valueOf_r fi fg (sc (((nI t) + 2).toNatClampNeg))) (o_Mo_valueOf_r fi fg (sc (((nI t) + 3).toNatClampNeg)))), .int (sc (((nI t) + 1).toNatClampNeg)), .ref mrg]) rfl ?_
            refine Wd.iast hx hb hK hW 3 d_Mo_carry_209 rfl (by rw [hra]; exact vp_in_nI (by omega) (by omega)) (fun H locs hW => ?_)
            have hW : Wd G A s.heap [(h0, .inr (1, [.int mcd, .int mty, .ref mtx, .int mpl, .int mth, .int mln, .ref msc, .int mfr, .ref mdr, .int mcm, .int mop, .int mkd, .int mbg, .int mnd, .int mam, .ref mis, .ref mip, .ref msd, .ref mrg, .int mmn, .ref mou])), (msc, .inl (G.2 0, 400, .inl sc)), (mip, .inl (G.2 0, 8, .inl fi)), (mrg, .inl (G.2 0, 26, .inl (upd fg ((sc (((nI t) + 1).toNatClampNeg)).toNatClampNeg) (o_Mo_reckon_r (sc ((nI t).toNatClampNeg)) (o_Mo_valueOf_r fi fg (sc (((nI t) + 2).toNatClampNeg))) (o_Mo_valueOf_r fi fg (sc (((nI t) + 3).toNatClampNeg))))))), (mou, .inl (G.2 0, 16, .inl fo))] H locs := hW
            exact Ct.vret hx hb hr hnl hW (by decide) (by decide) d_Mo_carry_210 (by
          unfold mCar
          rw [if_neg ht1, if_neg ht3, if_neg ht5, if_neg ht7, if_neg ht9]
          exact ⟨rfl, rfl⟩)
          · refine lv_iload hx hb d_Mo_carry_183 (lv_at hl 2 rfl) ?_
            refine lv_iconst (v := 1) hx hb d_Mo_carry_185 (by decide) ?_
            refine lv_iand hx hb d_Mo_carry_186 ?_
            refine lv_iconst (v := 1) hx hb d_Mo_carry_187 (by decide) ?_
            refine lv_icmp_ne (tgt := 196) hx hb d_Mo_carry_188 rfl (fun ht11 => ?_) (fun hf12 => ?_)
            · refine lv_iload hx hb d_Mo_carry_196 (lv_at hl 0 rfl) ?_
              refine lv_goto (tgt := 209) hx hb d_Mo_carry_198 rfl ?_
              refine Wd.iast hx hb hK hW 3 d_Mo_carry_209 rfl (by rw [hra]; exact vp_in_nI (by omega) (by omega)) (fun H locs hW => ?_)
              have hW : Wd G A s.heap [(h0, .inr (1, [.int mcd, .int mty, .ref mtx, .int mpl, .int mth, .int mln, .ref msc, .int mfr, .ref mdr, .int mcm, .int mop, .int mkd, .int mbg, .int mnd, .int mam, .ref mis, .ref mip, .ref msd, .ref mrg, .int mmn, .ref mou])), (msc, .inl (G.2 0, 400, .inl sc)), (mip, .inl (G.2 0, 8, .inl fi)), (mrg, .inl (G.2 0, 26, .inl (upd fg ((sc (((nI t) + 1).toNatClampNeg)).toNatClampNeg) (o_Mo_valueOf_r fi fg (sc (((nI t) + 4).toNatClampNeg)))))), (mou, .inl (G.2 0, 16, .inl fo))] H locs := hW
              exact Ct.vret hx hb hr hnl hW (by decide) (by decide) d_Mo_carry_210 (by
          unfold mCar
          rw [if_neg ht1, if_neg ht3, if_neg ht5, if_neg ht7, if_pos hf10, if_neg ht11]
          exact ⟨rfl, rfl⟩)
            · refine lv_iload hx hb d_Mo_carry_191 (lv_at hl 1 rfl) ?_
              refine lv_goto (tgt := 209) hx hb d_Mo_carry_193 rfl ?_
              refine Wd.iast hx hb hK hW 3 d_Mo_carry_209 rfl (by rw [hra]; exact vp_in_nI (by omega) (by omega)) (fun H locs hW => ?_)
              have hW : Wd G A s.heap [(h0, .inr (1, [.int mcd, .int mty, .ref mtx, .int mpl, .int mth, .int mln, .ref msc, .int mfr, .ref mdr, .int mcm, .int mop, .int mkd, .int mbg, .int mnd, .int mam, .ref mis, .ref mip, .ref msd, .ref mrg, .int mmn, .ref mou])), (msc, .inl (G.2 0, 400, .inl sc)), (mip, .inl (G.2 0, 8, .inl fi)), (mrg, .inl (G.2 0, 26, .inl (upd fg ((sc (((nI t) + 1).toNatClampNeg)).toNatClampNeg) (o_Mo_valueOf_r fi fg (sc (((nI t) + 3).toNatClampNeg)))))), (mou, .inl (G.2 0, 16, .inl fo))] H locs := hW
              exact Ct.vret hx hb hr hnl hW (by decide) (by decide) d_Mo_carry_210 (by
          unfold mCar
          rw [if_neg ht1, if_neg ht3, if_neg ht5, if_neg ht7, if_pos hf10, if_pos hf12]
          exact ⟨rfl, rfl⟩)
        · refine lv_iload hx hb d_Mo_carry_173 (lv_at hl 2 rfl) ?_
          refine lv_goto (tgt := 209) hx hb d_Mo_carry_175 rfl ?_
          refine Wd.iast hx hb hK hW 3 d_Mo_carry_209 rfl (by rw [hra]; exact vp_in_nI (by omega) (by omega)) (fun H locs hW => ?_)
          have hW : Wd G A s.heap [(h0, .inr (1, [.int mcd, .int mty, .ref mtx, .int mpl, .int mth, .int mln, .ref msc, .int mfr, .ref mdr, .int mcm, .int mop, .int mkd, .int mbg, .int mnd, .int mam, .ref mis, .ref mip, .ref msd, .ref mrg, .int mmn, .ref mou])), (msc, .inl (G.2 0, 400, .inl sc)), (mip, .inl (G.2 0, 8, .inl fi)), (mrg, .inl (G.2 0, 26, .inl (upd fg ((sc (((nI t) + 1).toNatClampNeg)).toNatClampNeg) (o_Mo_valueOf_r fi fg (sc (((nI t) + 2).toNatClampNeg)))))), (mou, .inl (G.2 0, 16, .inl fo))] H locs := hW
          exact Ct.vret hx hb hr hnl hW (by decide) (by decide) d_Mo_carry_210 (by
          unfold mCar
          rw [if_neg ht1, if_neg ht3, if_neg ht5, if_pos hf8]
          exact ⟨rfl, rfl⟩)
      · refine lv_aload_n hx hb d_Mo_carry_94 rfl (lv_at hl 3 rfl) ?_
        refine Wd.get hx hb hts hown hK hW 0 20 in_Mo w_fl_Mo_37 (by decide) d_Mo_carry_95 rfl rfl rfl ?_
        refine lv_aload_n hx hb d_Mo_carry_98 rfl (lv_at hl 3 rfl) ?_
        refine Wd.get hx hb hts hown hK hW 0 19 in_Mo w_fl_Mo_156 (by decide) d_Mo_carry_99 rfl rfl rfl ?_
        refine lv_aload_n hx hb d_Mo_carry_102 rfl (lv_at hl 3 rfl) ?_
        refine Wd.get hx hb hts hown hK hW 0 18 in_Mo w_fl_Mo_34 (by decide) d_Mo_carry_103 rfl rfl rfl ?_
        refine lv_iload_n hx hb d_Mo_carry_106 rfl (lv_at hl 1 rfl) ?_
        refine Wd.iald hx hb hK hW 3 d_Mo_carry_107 rfl (by rw [hra]; exact vp_in_nI (by omega) (by omega)) ?_
        refine Wd.iast hx hb hK hW 4 d_Mo_carry_108 rfl (hmn (by assumption)) (fun H locs hW => ?_)
        have hW : Wd G A s.heap [(h0, .inr (1, [.int mcd, .int mty, .ref mtx, .int mpl, .int mth, .int mln, .ref msc, .int mfr, .ref mdr, .int mcm, .int mop, .int mkd, .int mbg, .int mnd, .int mam, .ref mis, .ref mip, .ref msd, .ref mrg, .int mmn, .ref mou])), (msc, .inl (G.2 0, 400, .inl sc)), (mip, .inl (G.2 0, 8, .inl fi)), (mrg, .inl (G.2 0, 26, .inl fg)), (mou, .inl (G.2 0, 16, .inl (upd fo mmn.toNatClampNeg (fg ((sc (((nI t) + 1).toNatClampNeg)).toNatClampNeg)))))] H locs := hW
        refine lv_aload_n hx hb d_Mo_carry_109 rfl (lv_at hl 3 rfl) ?_
        refine lv_dup hx hb d_Mo_carry_110 rfl ?_
        refine Wd.get hx hb hts hown hK hW 0 19 in_Mo w_fl_Mo_156 (by decide) d_Mo_carry_111 rfl rfl rfl ?_
        refine lv_iconst (v := 1) hx hb d_Mo_carry_114 (by decide) ?_
        refine lv_iadd hx hb d_Mo_carry_115 ?_
        refine Wd.put hx hb hts hown hK hW 0 19 in_Mo t_Mo_ok n_Mo w_fl_Mo_156 (by decide) d_Mo_carry_116 rfl rfl rfl rfl rfl (Nat.le_of_ble_eq_true rfl) (fun H locs hW => ?_)
        have hW : Wd G A s.heap [(h0, .inr (1, [.int mcd, .int mty, .ref mtx, .int mpl, .int mth, .int mln, .ref msc, .int mfr, .ref mdr, .int mcm, .int mop, .int mkd, .int mbg, .int mnd, .int mam, .ref mis, .ref mip, .ref msd, .ref mrg, .int (mmn + 1), .ref mou])), (msc, .inl (G.2 0, 400, .inl sc)), (mip, .inl (G.2 0, 8, .inl fi)), (mrg, .inl (G.2 0, 26, .inl fg)), (mou, .inl (G.2 0, 16, .inl (upd fo mmn.toNatClampNeg (fg ((sc (((nI t) + 1).toNatClampNeg)).toNatClampNeg)))))] H locs := hW
        refine lv_goto (tgt := 210) hx hb d_Mo_carry_119 rfl ?_
        exact Ct.vret hx hb hr hnl hW (by decide) (by decide) d_Mo_carry_210 (by
          unfold mCar
          rw [if_neg ht1, if_neg ht3, if_pos hf6]
          exact ⟨rfl, rfl⟩)
    · refine lv_iload_n hx hb d_Mo_carry_48 rfl (lv_at hl 1 rfl) ?_
      refine lv_iconst (v := 1) hx hb d_Mo_carry_49 (by decide) ?_
      refine lv_iadd hx hb d_Mo_carry_50 ?_
      refine lv_topi (fun cz ez => ?_)
      obtain rfl : cz = nI (a + 1) := ez.trans (by rw [hra, nI_succ])
      refine lv_istore (lv' := [(5, .int (nI (a + 1))), (4, .int (sc (((nI t) + 5).toNatClampNeg))), (3, .int (sc (((nI t) + 1).toNatClampNeg))), (2, .int (sc ((nI t).toNatClampNeg))), (0, .ref h0), (1, .int (nI t))]) hx hb d_Mo_carry_51 hl (by decide) rfl (fun ls hl => ?_)
      have loop53 : ∀ (u : Nat) (k : Nat) (fh : Nat → Int32) (ls : Array Slot) (H : Heap) (locs : List Loc), a + 1 ≤ k → k ≤ z + 1 → uS (z + 1 - k) k fh = uS (z - a) (a + 1) fg → (z + 1 - k) < u → lv_has ls 8 [(0, .ref h0), (4, .int (sc ((nI t) + 5).toNatClampNeg)), (5, .int (nI k))] → Wd G A s.heap [(h0, .inr (1, [.int mcd, .int mty, .ref mtx, .int mpl, .int mth, .int mln, .ref msc, .int mfr, .ref mdr, .int mcm, .int mop, .int mkd, .int mbg, .int mnd, .int mam, .ref mis, .ref mip, .ref msd, .ref mrg, .int mmn, .ref mou])), (msc, .inl (G.2 0, 400, .inl sc)), (mip, .inl (G.2 0, 8, .inl fi)), (mrg, .inl (G.2 0, 26, .inl fh)), (mou, .inl (G.2 0, 16, .inl fo))] H locs → W p l e rm_Mo_carry s m args below meth c H locs 0 0 (MQ below (Qcc G (fun v w' => v = none ∧ w' = [(h0, .inr (1, [.int mcd, .int mty, .ref mtx, .int mpl, .int mth, .int mln, .ref msc, .int mfr, .ref mdr, .int mcm, .int mop, .int mkd, .int mbg, .int mnd, .int mam, .ref mis, .ref mip, .ref msd, .ref mrg, .int ((mCar sc fi t a z fg fo mmn).2.2), .ref mou])), (msc, .inl (G.2 0, 400, .inl sc)), (mip, .inl (G.2 0, 8, .inl fi)), (mrg, .inl (G.2 0, 26, .inl ((mCar sc fi t a z fg fo mmn).1))), (mou, .inl (G.2 0, 16, .inl ((mCar sc fi t a z fg fo mmn).2.1)))]) A) args s 0 0 A) (F0 m 53 ls []) := by
        intro u
        induction u with
        | zero => intro k fh ls H locs hk1 hk2 hg hu; exact absurd hu (Nat.not_lt_zero _)
        | succ u ih53 =>
          intro k fh ls H locs hk1 hk2 hg hu53 hl hW
          refine lv_iload hx hb d_Mo_carry_53 (lv_at hl 2 rfl) ?_
          refine lv_iload hx hb d_Mo_carry_55 (lv_at hl 1 rfl) ?_
          refine lv_icmp_gt (tgt := 85) hx hb d_Mo_carry_57 rfl (fun ht13 => ?_) (fun hf14 => ?_)
          · have hz7 := (hlz (Or.inr (by assumption)))
            have hkz : k = z + 1 := by have q := ht13; rw [hz7.1] at q; have := (nI_ltI (a := z) (b := k) (by omega) (by omega)).mp q; omega
            refine lv_goto (tgt := 210) hx hb d_Mo_carry_85 rfl ?_
            exact Ct.vret hx hb hr hnl hW (by decide) (by decide) d_Mo_carry_210 (by
          have e : (mCar sc fi t a z fg fo mmn) = (uS (z - a) (a + 1) fg, fo, mmn) := by unfold mCar; rw [if_neg ht1, if_pos hf4]
          rw [e, ← hg, show z + 1 - k = 0 by omega]
          exact ⟨rfl, rfl⟩)
          · have hz7 := (hlz (Or.inr (by assumption)))
            have hkz : k ≤ z := by apply Nat.le_of_not_lt; intro q; exact hf14 (by rw [hz7.1]; exact nI_lt q (by omega))
            refine lv_aload_n hx hb d_Mo_carry_60 rfl (lv_at hl 0 rfl) ?_
            refine Wd.get hx hb hts hown hK hW 0 18 in_Mo w_fl_Mo_34 (by decide) d_Mo_carry_61 rfl rfl rfl ?_
            refine lv_iload hx hb d_Mo_carry_64 (lv_at hl 2 rfl) ?_
            refine lv_dup2_11 hx hb d_Mo_carry_66 rfl rfl ?_
            refine Wd.iald hx hb hK hW 3 d_Mo_carry_67 rfl (vp_in_nI (by omega) (by omega)) ?_
            refine lv_aload_n hx hb d_Mo_carry_68 rfl (lv_at hl 0 rfl) ?_
            refine Wd.get hx hb hts hown hK hW 0 18 in_Mo w_fl_Mo_34 (by decide) d_Mo_carry_69 rfl rfl rfl ?_
            refine lv_iload hx hb d_Mo_carry_72 (lv_at hl 2 rfl) ?_
            refine lv_iconst (v := 1) hx hb d_Mo_carry_74 (by decide) ?_
            refine lv_isub hx hb d_Mo_carry_75 ?_
            refine Wd.iald hx hb hK hW 3 d_Mo_carry_76 rfl (by rw [nI_p1 (by omega)]; exact vp_in_nI (by omega) (by omega)) ?_
            refine lv_iadd hx hb d_Mo_carry_77 ?_
            refine Wd.iast hx hb hK hW 3 d_Mo_carry_78 rfl (vp_in_nI (by omega) (by omega)) (fun H locs hW => ?_)
            have hW : Wd G A s.heap [(h0, .inr (1, [.int mcd, .int mty, .ref mtx, .int mpl, .int mth, .int mln, .ref msc, .int mfr, .ref mdr, .int mcm, .int mop, .int mkd, .int mbg, .int mnd, .int mam, .ref mis, .ref mip, .ref msd, .ref mrg, .int mmn, .ref mou])), (msc, .inl (G.2 0, 400, .inl sc)), (mip, .inl (G.2 0, 8, .inl fi)), (mrg, .inl (G.2 0, 26, .inl (upd fh ((nI k).toNatClampNeg) ((fh ((nI k).toNatClampNeg)) + (fh (((nI k) - 1).toNatClampNeg)))))), (mou, .inl (G.2 0, 16, .inl fo))] H locs := hW
            refine lv_iinc (k := 2) (v := nI (k + 1)) (lv' := [(5, .int (nI (k + 1))), (0, .ref h0), (4, .int (sc ((nI t) + 5).toNatClampNeg))]) hx hb d_Mo_carry_79 hl rfl (nI_succ k).symm (by decide) rfl (fun ls hl => ?_)
            refine lv_goto (tgt := 53) hx hb d_Mo_carry_82 rfl ?_
            exact ih53 (k + 1) (upd fh ((nI k).toNatClampNeg) ((fh ((nI k).toNatClampNeg)) + (fh (((nI k) - 1).toNatClampNeg)))) ls H locs (by omega) (by omega) (by rw [uS_s (by omega)] at hg; rw [show z + 1 - (k + 1) = z + 1 - k - 1 by omega]; exact hg) (by omega) (lv_sub hl [1, 2, 0] rfl) hW
      exact loop53 (_ + 1) (a + 1) fg ls H locs (Nat.le_refl _) (by have := (hlz (Or.inr hf4)).2.1; omega) (by rw [show z + 1 - (a + 1) = z - a by omega]) (Nat.lt_succ_self _) (lv_sub hl [4, 1, 0] rfl) hW
  · refine lv_aload_n hx hb d_Mo_carry_32 rfl (lv_at hl 3 rfl) ?_
    refine lv_iload_n hx hb d_Mo_carry_33 rfl (lv_at hl 1 rfl) ?_
    refine lv_topi (fun cz ez => ?_)
    obtain rfl : cz = nI a := ez.trans hra
    refine lv_iload hx hb d_Mo_carry_34 (lv_at hl 0 rfl) ?_
    refine lv_topi (fun cz ez => ?_)
    obtain rfl : cz = nI z := ez.trans (hlz (Or.inl (by assumption))).1
    refine Ct.callV (As := [.int (nI a), .int (nI z)]) (rest := []) hx hb hml hown hts hK hA hl.1 hW (c_Mo_sort l G h0 mcd mty mtx mpl mth mln msc mfr mdr mcm mop mkd mbg mnd mam mis mip msd mrg mmn mou a z fg (hlz (Or.inl (by assumption))).2.1 (hlz (Or.inl (by assumption))).2.2) (cwV 2 hts (good_V w_ml_Mo_153 w_im_Mo_sort w_se_Mo_sort w_ini_Mo w_code_Mo_sort) rfl rfl rfl yd_Mo_sort ⟨by decide, by decide⟩) [0, 3] (by decide) rfl (ci := 1) (r := vr_Mo) rfl rfl rfl rfl rfl (Nat.le_of_ble_eq_true rfl) d_Mo_carry_36 ⟨by decide, by decide⟩ (fun v w' hp => by obtain ⟨-, rfl⟩ := hp; exact Nat.le_of_ble_eq_true rfl) (fun v w' H locs hp hW => ?_)
    obtain ⟨rfl, rfl⟩ := hp
    have hW : Wd G A s.heap [(h0, .inr (1, [.int mcd, .int mty, .ref mtx, .int mpl, .int mth, .int mln, .ref msc, .int mfr, .ref mdr, .int mcm, .int mop, .int mkd, .int mbg, .int mnd, .int mam, .ref mis, .ref mip, .ref msd, .ref mrg, .int mmn, .ref mou])), (msc, .inl (G.2 0, 400, .inl sc)), (mip, .inl (G.2 0, 8, .inl fi)), (mrg, .inl (G.2 0, 26, .inl (iS a (z - a) (a + 1) fg))), (mou, .inl (G.2 0, 16, .inl fo))] H locs := hW
    refine W.eq (g2 := F0 m 39 ls []) rfl ?_
    refine lv_goto (tgt := 210) hx hb d_Mo_carry_39 rfl ?_
    exact Ct.vret hx hb hr hnl hW (by decide) (by decide) d_Mo_carry_210 (by
          unfold mCar
          rw [if_pos hf2]
          exact ⟨rfl, rfl⟩)

