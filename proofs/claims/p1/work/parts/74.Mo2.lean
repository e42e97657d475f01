abbrev rm_Mo_input_0 : Room := { frames := 0, cells := 0, slots := 0, locals := 0 }
set_option maxHeartbeats 4000000 in
set_option maxRecDepth 100000 in
theorem c_Mo_input_0 (l : Launch) (G : Gt) (h0 : Nat) (mcd : Int32) (mty : Int32) (mtx : Nat) (mpl : Int32) (mth : Int32) (mln : Int32) (msc : Nat) (mfr : Int32) (mdr : Nat) (mcm : Int32) (mop : Int32) (mkd : Int32) (mbg : Int32) (mnd : Int32) (mam : Int32) (mis : Nat) (mip : Nat) (msd : Nat) (mrg : Nat) (mmn : Int32) (mou : Nat) (fs : Nat → Int32) (fi : Nat → Int32) (x : Int32) (y : Int32) (hs0 : x < 0) : Ct l G y_Mo_input b_Mo_input 3 none rm_Mo_input_0 [.ref h0, .int x, .int y] [(h0, .inr (1, [.int mcd, .int mty, .ref mtx, .int mpl, .int mth, .int mln, .ref msc, .int mfr, .ref mdr, .int mcm, .int mop, .int mkd, .int mbg, .int mnd, .int mam, .ref mis, .ref mip, .ref msd, .ref mrg, .int mmn, .ref mou])), (mis, .inl (G.2 3, 8, .inl fs)), (mip, .inl (G.2 0, 8, .inl fi))] 0 0 (fun v w' => v = none ∧ w' = [(h0, .inr (1, [.int 1, .int mty, .ref mtx, .int mpl, .int mth, .int mln, .ref msc, .int mfr, .ref mdr, .int mcm, .int mop, .int mkd, .int mbg, .int mnd, .int mam, .ref mis, .ref mip, .ref msd, .ref mrg, .int mmn, .ref mou])), (mis, .inl (G.2 3, 8, .inl fs)), (mip, .inl (G.2 0, 8, .inl fi))]) := by
  refine Ct.of (by decide) (Nat.le_of_ble_eq_true rfl) (fun p e s m args below meth c A ls H locs hx hb hml hr hnl hown hts hnm hK hA hl hW => ?_)
  have hl : lv_has ls 3 [(0, .ref h0), (1, .int x), (2, .int y)] := hl
  refine lv_aload_n hx hb d_Mo_input_0 rfl (lv_at hl 0 rfl) ?_
  refine lv_iload_n hx hb d_Mo_input_1 rfl (lv_at hl 1 rfl) ?_
  refine lv_if_lt (tgt := 11) hx hb d_Mo_input_2 rfl (fun _ => ?_) (fun hz => absurd hs0 hz)
  refine lv_iconst (v := 1) hx hb d_Mo_input_11 (by decide) ?_
  refine lv_goto (tgt := 16) hx hb d_Mo_input_12 rfl ?_
  refine Wd.put hx hb hts hown hK hW 0 0 in_Mo t_Mo_ok n_Mo w_fl_Mo_40 (by decide) d_Mo_input_16 rfl rfl rfl rfl rfl (Nat.le_of_ble_eq_true rfl) (fun H locs hW => ?_)
  have hW : Wd G A s.heap [(h0, .inr (1, [.int 1, .int mty, .ref mtx, .int mpl, .int mth, .int mln, .ref msc, .int mfr, .ref mdr, .int mcm, .int mop, .int mkd, .int mbg, .int mnd, .int mam, .ref mis, .ref mip, .ref msd, .ref mrg, .int mmn, .ref mou])), (mis, .inl (G.2 3, 8, .inl fs)), (mip, .inl (G.2 0, 8, .inl fi))] H locs := hW
  refine lv_aload_n hx hb d_Mo_input_19 rfl (lv_at hl 0 rfl) ?_
  refine Wd.get hx hb hts hown hK hW 0 0 in_Mo w_fl_Mo_40 (by decide) d_Mo_input_20 rfl rfl rfl ?_
  refine lv_if_ne (tgt := 40) hx hb d_Mo_input_23 rfl (fun _ => ?_) (fun hz => absurd hz (by decide))
  exact Ct.vret hx hb hr hnl hW (by decide) (by decide) d_Mo_input_40 ⟨rfl, rfl⟩

abbrev rm_Mo_input_1 : Room := { frames := 0, cells := 0, slots := 0, locals := 0 }
set_option maxHeartbeats 4000000 in
set_option maxRecDepth 100000 in
theorem c_Mo_input_1 (l : Launch) (G : Gt) (h0 : Nat) (mcd : Int32) (mty : Int32) (mtx : Nat) (mpl : Int32) (mth : Int32) (mln : Int32) (msc : Nat) (mfr : Int32) (mdr : Nat) (mcm : Int32) (mop : Int32) (mkd : Int32) (mbg : Int32) (mnd : Int32) (mam : Int32) (mis : Nat) (mip : Nat) (msd : Nat) (mrg : Nat) (mmn : Int32) (mou : Nat) (fs : Nat → Int32) (fi : Nat → Int32) (x : Int32) (y : Int32) (hs0 : ¬ (x < 0)) (hs1 : x ≤ 7) : Ct l G y_Mo_input b_Mo_input 3 none rm_Mo_input_1 [.ref h0, .int x, .int y] [(h0, .inr (1, [.int mcd, .int mty, .ref mtx, .int mpl, .int mth, .int mln, .ref msc, .int mfr, .ref mdr, .int mcm, .int mop, .int mkd, .int mbg, .int mnd, .int mam, .ref mis, .ref mip, .ref msd, .ref mrg, .int mmn, .ref mou])), (mis, .inl (G.2 3, 8, .inl fs)), (mip, .inl (G.2 0, 8, .inl fi))] 0 0 (fun v w' => v = none ∧ w' = [(h0, .inr (1, [.int 0, .int mty, .ref mtx, .int mpl, .int mth, .int mln, .ref msc, .int mfr, .ref mdr, .int mcm, .int mop, .int mkd, .int mbg, .int mnd, .int mam, .ref mis, .ref mip, .ref msd, .ref mrg, .int mmn, .ref mou])), (mis, .inl (G.2 3, 8, .inl (upd fs x.toNatClampNeg (vp_nar .boolean 1)))), (mip, .inl (G.2 0, 8, .inl (upd fi x.toNatClampNeg y)))]) := by
  refine Ct.of (by decide) (Nat.le_of_ble_eq_true rfl) (fun p e s m args below meth c A ls H locs hx hb hml hr hnl hown hts hnm hK hA hl hW => ?_)
  have hl : lv_has ls 3 [(0, .ref h0), (1, .int x), (2, .int y)] := hl
  refine lv_aload_n hx hb d_Mo_input_0 rfl (lv_at hl 0 rfl) ?_
  refine lv_iload_n hx hb d_Mo_input_1 rfl (lv_at hl 1 rfl) ?_
  refine lv_if_lt (tgt := 11) hx hb d_Mo_input_2 rfl (fun hz => absurd hz hs0) (fun _ => ?_)
  refine lv_iload_n hx hb d_Mo_input_5 rfl (lv_at hl 1 rfl) ?_
  refine lv_bipush (v := 7) hx hb d_Mo_input_6 (by decide) ?_
  refine lv_icmp_le (tgt := 15) hx hb d_Mo_input_8 rfl (fun _ => ?_) (fun hz => absurd hs1 hz)
  refine lv_iconst (v := 0) hx hb d_Mo_input_15 (by decide) ?_
  refine Wd.put hx hb hts hown hK hW 0 0 in_Mo t_Mo_ok n_Mo w_fl_Mo_40 (by decide) d_Mo_input_16 rfl rfl rfl rfl rfl (Nat.le_of_ble_eq_true rfl) (fun H locs hW => ?_)
  have hW : Wd G A s.heap [(h0, .inr (1, [.int 0, .int mty, .ref mtx, .int mpl, .int mth, .int mln, .ref msc, .int mfr, .ref mdr, .int mcm, .int mop, .int mkd, .int mbg, .int mnd, .int mam, .ref mis, .ref mip, .ref msd, .ref mrg, .int mmn, .ref mou])), (mis, .inl (G.2 3, 8, .inl fs)), (mip, .inl (G.2 0, 8, .inl fi))] H locs := hW
  refine lv_aload_n hx hb d_Mo_input_19 rfl (lv_at hl 0 rfl) ?_
  refine Wd.get hx hb hts hown hK hW 0 0 in_Mo w_fl_Mo_40 (by decide) d_Mo_input_20 rfl rfl rfl ?_
  refine lv_if_ne (tgt := 40) hx hb d_Mo_input_23 rfl (fun hz => absurd (by decide) hz) (fun _ => ?_)
  refine lv_aload_n hx hb d_Mo_input_26 rfl (lv_at hl 0 rfl) ?_
  refine Wd.get hx hb hts hown hK hW 0 15 in_Mo w_fl_Mo_24 (by decide) d_Mo_input_27 rfl rfl rfl ?_
  refine lv_iload_n hx hb d_Mo_input_30 rfl (lv_at hl 1 rfl) ?_
  refine lv_iconst (v := 1) hx hb d_Mo_input_31 (by decide) ?_
  refine Wd.zast hx hb hK hW 1 d_Mo_input_32 rfl (vp_in_t 8 (by decide) hs0 (Int32.lt_of_le_of_lt hs1 (by decide))) (fun H locs hW => ?_)
  have hW : Wd G A s.heap [(h0, .inr (1, [.int 0, .int mty, .ref mtx, .int mpl, .int mth, .int mln, .ref msc, .int mfr, .ref mdr, .int mcm, .int mop, .int mkd, .int mbg, .int mnd, .int mam, .ref mis, .ref mip, .ref msd, .ref mrg, .int mmn, .ref mou])), (mis, .inl (G.2 3, 8, .inl (upd fs x.toNatClampNeg (vp_nar .boolean 1)))), (mip, .inl (G.2 0, 8, .inl fi))] H locs := hW
  refine lv_aload_n hx hb d_Mo_input_33 rfl (lv_at hl 0 rfl) ?_
  refine Wd.get hx hb hts hown hK hW 0 16 in_Mo w_fl_Mo_28 (by decide) d_Mo_input_34 rfl rfl rfl ?_
  refine lv_iload_n hx hb d_Mo_input_37 rfl (lv_at hl 1 rfl) ?_
  refine lv_iload_n hx hb d_Mo_input_38 rfl (lv_at hl 2 rfl) ?_
  refine Wd.iast hx hb hK hW 2 d_Mo_input_39 rfl (vp_in_t 8 (by decide) hs0 (Int32.lt_of_le_of_lt hs1 (by decide))) (fun H locs hW => ?_)
  have hW : Wd G A s.heap [(h0, .inr (1, [.int 0, .int mty, .ref mtx, .int mpl, .int mth, .int mln, .ref msc, .int mfr, .ref mdr, .int mcm, .int mop, .int mkd, .int mbg, .int mnd, .int mam, .ref mis, .ref mip, .ref msd, .ref mrg, .int mmn, .ref mou])), (mis, .inl (G.2 3, 8, .inl (upd fs x.toNatClampNeg (vp_nar .boolean 1)))), (mip, .inl (G.2 0, 8, .inl (upd fi x.toNatClampNeg y)))] H locs := hW
  exact Ct.vret hx hb hr hnl hW (by decide) (by decide) d_Mo_input_40 ⟨rfl, rfl⟩

abbrev rm_Mo_input_2 : Room := { frames := 0, cells := 0, slots := 0, locals := 0 }
set_option maxHeartbeats 4000000 in
set_option maxRecDepth 100000 in
theorem c_Mo_input_2 (l : Launch) (G : Gt) (h0 : Nat) (mcd : Int32) (mty : Int32) (mtx : Nat) (mpl : Int32) (mth : Int32) (mln : Int32) (msc : Nat) (mfr : Int32) (mdr : Nat) (mcm : Int32) (mop : Int32) (mkd : Int32) (mbg : Int32) (mnd : Int32) (mam : Int32) (mis : Nat) (mip : Nat) (msd : Nat) (mrg : Nat) (mmn : Int32) (mou : Nat) (fs : Nat → Int32) (fi : Nat → Int32) (x : Int32) (y : Int32) (hs0 : ¬ (x < 0)) (hs1 : ¬ (x ≤ 7)) : Ct l G y_Mo_input b_Mo_input 3 none rm_Mo_input_2 [.ref h0, .int x, .int y] [(h0, .inr (1, [.int mcd, .int mty, .ref mtx, .int mpl, .int mth, .int mln, .ref msc, .int mfr, .ref mdr, .int mcm, .int mop, .int mkd, .int mbg, .int mnd, .int mam, .ref mis, .ref mip, .ref msd, .ref mrg, .int mmn, .ref mou])), (mis, .inl (G.2 3, 8, .inl fs)), (mip, .inl (G.2 0, 8, .inl fi))] 0 0 (fun v w' => v = none ∧ w' = [(h0, .inr (1, [.int 1, .int mty, .ref mtx, .int mpl, .int mth, .int mln, .ref msc, .int mfr, .ref mdr, .int mcm, .int mop, .int mkd, .int mbg, .int mnd, .int mam, .ref mis, .ref mip, .ref msd, .ref mrg, .int mmn, .ref mou])), (mis, .inl (G.2 3, 8, .inl fs)), (mip, .inl (G.2 0, 8, .inl fi))]) := by
  refine Ct.of (by decide) (Nat.le_of_ble_eq_true rfl) (fun p e s m args below meth c A ls H locs hx hb hml hr hnl hown hts hnm hK hA hl hW => ?_)
  have hl : lv_has ls 3 [(0, .ref h0), (1, .int x), (2, .int y)] := hl
  refine lv_aload_n hx hb d_Mo_input_0 rfl (lv_at hl 0 rfl) ?_
  refine lv_iload_n hx hb d_Mo_input_1 rfl (lv_at hl 1 rfl) ?_
  refine lv_if_lt (tgt := 11) hx hb d_Mo_input_2 rfl (fun hz => absurd hz hs0) (fun _ => ?_)
  refine lv_iload_n hx hb d_Mo_input_5 rfl (lv_at hl 1 rfl) ?_
  refine lv_bipush (v := 7) hx hb d_Mo_input_6 (by decide) ?_
  refine lv_icmp_le (tgt := 15) hx hb d_Mo_input_8 rfl (fun hz => absurd hz hs1) (fun _ => ?_)
  refine lv_iconst (v := 1) hx hb d_Mo_input_11 (by decide) ?_
  refine lv_goto (tgt := 16) hx hb d_Mo_input_12 rfl ?_
  refine Wd.put hx hb hts hown hK hW 0 0 in_Mo t_Mo_ok n_Mo w_fl_Mo_40 (by decide) d_Mo_input_16 rfl rfl rfl rfl rfl (Nat.le_of_ble_eq_true rfl) (fun H locs hW => ?_)
  have hW : Wd G A s.heap [(h0, .inr (1, [.int 1, .int mty, .ref mtx, .int mpl, .int mth, .int mln, .ref msc, .int mfr, .ref mdr, .int mcm, .int mop, .int mkd, .int mbg, .int mnd, .int mam, .ref mis, .ref mip, .ref msd, .ref mrg, .int mmn, .ref mou])), (mis, .inl (G.2 3, 8, .inl fs)), (mip, .inl (G.2 0, 8, .inl fi))] H locs := hW
  refine lv_aload_n hx hb d_Mo_input_19 rfl (lv_at hl 0 rfl) ?_
  refine Wd.get hx hb hts hown hK hW 0 0 in_Mo w_fl_Mo_40 (by decide) d_Mo_input_20 rfl rfl rfl ?_
  refine lv_if_ne (tgt := 40) hx hb d_Mo_input_23 rfl (fun _ => ?_) (fun hz => absurd hz (by decide))
  exact Ct.vret hx hb hr hnl hW (by decide) (by decide) d_Mo_input_40 ⟨rfl, rfl⟩

abbrev rm_Mo_seed_0 : Room := { frames := 0, cells := 0, slots := 0, locals := 0 }
set_option maxHeartbeats 4000000 in
set_option maxRecDepth 100000 in
theorem c_Mo_seed_0 (l : Launch) (G : Gt) (h0 : Nat) (mcd : Int32) (mty : Int32) (mtx : Nat) (mpl : Int32) (mth : Int32) (mln : Int32) (msc : Nat) (mfr : Int32) (mdr : Nat) (mcm : Int32) (mop : Int32) (mkd : Int32) (mbg : Int32) (mnd : Int32) (mam : Int32) (mis : Nat) (mip : Nat) (msd : Nat) (mrg : Nat) (mmn : Int32) (mou : Nat) (fs : Nat → Int32) (x : Int32) (y : Int32) (z : Int32) (hs0 : x < 0) : Ct l G y_Mo_seed b_Mo_seed 4 none rm_Mo_seed_0 [.ref h0, .int x, .int y, .int z] [(h0, .inr (1, [.int mcd, .int mty, .ref mtx, .int mpl, .int mth, .int mln, .ref msc, .int mfr, .ref mdr, .int mcm, .int mop, .int mkd, .int mbg, .int mnd, .int mam, .ref mis, .ref mip, .ref msd, .ref mrg, .int mmn, .ref mou])), (msd, .inl (G.2 3, 3, .inl fs))] 0 0 (fun v w' => v = none ∧ w' = [(h0, .inr (1, [.int 1, .int mty, .ref mtx, .int mpl, .int mth, .int mln, .ref msc, .int mfr, .ref mdr, .int mcm, .int mop, .int mkd, .int mbg, .int mnd, .int mam, .ref mis, .ref mip, .ref msd, .ref mrg, .int mmn, .ref mou])), (msd, .inl (G.2 3, 3, .inl fs))]) := by
  refine Ct.of (by decide) (Nat.le_of_ble_eq_true rfl) (fun p e s m args below meth c A ls H locs hx hb hml hr hnl hown hts hnm hK hA hl hW => ?_)
  have hl : lv_has ls 4 [(0, .ref h0), (1, .int x), (2, .int y), (3, .int z)] := hl
  refine lv_aload_n hx hb d_Mo_seed_0 rfl (lv_at hl 0 rfl) ?_
  refine lv_iload_n hx hb d_Mo_seed_1 rfl (lv_at hl 1 rfl) ?_
  refine lv_if_lt (tgt := 10) hx hb d_Mo_seed_2 rfl (fun _ => ?_) (fun hz => absurd hs0 hz)
  refine lv_iconst (v := 1) hx hb d_Mo_seed_10 (by decide) ?_
  refine lv_goto (tgt := 15) hx hb d_Mo_seed_11 rfl ?_
  refine Wd.put hx hb hts hown hK hW 0 0 in_Mo t_Mo_ok n_Mo w_fl_Mo_40 (by decide) d_Mo_seed_15 rfl rfl rfl rfl rfl (Nat.le_of_ble_eq_true rfl) (fun H locs hW => ?_)
  have hW : Wd G A s.heap [(h0, .inr (1, [.int 1, .int mty, .ref mtx, .int mpl, .int mth, .int mln, .ref msc, .int mfr, .ref mdr, .int mcm, .int mop, .int mkd, .int mbg, .int mnd, .int mam, .ref mis, .ref mip, .ref msd, .ref mrg, .int mmn, .ref mou])), (msd, .inl (G.2 3, 3, .inl fs))] H locs := hW
  refine lv_aload_n hx hb d_Mo_seed_18 rfl (lv_at hl 0 rfl) ?_
  refine Wd.get hx hb hts hown hK hW 0 0 in_Mo w_fl_Mo_40 (by decide) d_Mo_seed_19 rfl rfl rfl ?_
  refine lv_if_ne (tgt := 32) hx hb d_Mo_seed_22 rfl (fun _ => ?_) (fun hz => absurd hz (by decide))
  exact Ct.vret hx hb hr hnl hW (by decide) (by decide) d_Mo_seed_32 ⟨rfl, rfl⟩

abbrev rm_Mo_seed_1 : Room := { frames := 0, cells := 0, slots := 0, locals := 0 }
set_option maxHeartbeats 4000000 in
set_option maxRecDepth 100000 in
theorem c_Mo_seed_1 (l : Launch) (G : Gt) (h0 : Nat) (mcd : Int32) (mty : Int32) (mtx : Nat) (mpl : Int32) (mth : Int32) (mln : Int32) (msc : Nat) (mfr : Int32) (mdr : Nat) (mcm : Int32) (mop : Int32) (mkd : Int32) (mbg : Int32) (mnd : Int32) (mam : Int32) (mis : Nat) (mip : Nat) (msd : Nat) (mrg : Nat) (mmn : Int32) (mou : Nat) (fs : Nat → Int32) (x : Int32) (y : Int32) (z : Int32) (hs0 : ¬ (x < 0)) (hs1 : x ≤ 2) : Ct l G y_Mo_seed b_Mo_seed 4 none rm_Mo_seed_1 [.ref h0, .int x, .int y, .int z] [(h0, .inr (1, [.int mcd, .int mty, .ref mtx, .int mpl, .int mth, .int mln, .ref msc, .int mfr, .ref mdr, .int mcm, .int mop, .int mkd, .int mbg, .int mnd, .int mam, .ref mis, .ref mip, .ref msd, .ref mrg, .int mmn, .ref mou])), (msd, .inl (G.2 3, 3, .inl fs))] 0 0 (fun v w' => v = none ∧ w' = [(h0, .inr (1, [.int 0, .int mty, .ref mtx, .int mpl, .int mth, .int mln, .ref msc, .int mfr, .ref mdr, .int mcm, .int mop, .int mkd, .int mbg, .int mnd, .int mam, .ref mis, .ref mip, .ref msd, .ref mrg, .int mmn, .ref mou])), (msd, .inl (G.2 3, 3, .inl (upd fs x.toNatClampNeg (vp_nar .boolean 1))))]) := by
  refine Ct.of (by decide) (Nat.le_of_ble_eq_true rfl) (fun p e s m args below meth c A ls H locs hx hb hml hr hnl hown hts hnm hK hA hl hW => ?_)
  have hl : lv_has ls 4 [(0, .ref h0), (1, .int x), (2, .int y), (3, .int z)] := hl
  refine lv_aload_n hx hb d_Mo_seed_0 rfl (lv_at hl 0 rfl) ?_
  refine lv_iload_n hx hb d_Mo_seed_1 rfl (lv_at hl 1 rfl) ?_
  refine lv_if_lt (tgt := 10) hx hb d_Mo_seed_2 rfl (fun hz => absurd hz hs0) (fun _ => ?_)
  refine lv_iload_n hx hb d_Mo_seed_5 rfl (lv_at hl 1 rfl) ?_
  refine lv_iconst (v := 2) hx hb d_Mo_seed_6 (by decide) ?_
  refine lv_icmp_le (tgt := 14) hx hb d_Mo_seed_7 rfl (fun _ => ?_) (fun hz => absurd hs1 hz)
  refine lv_iconst (v := 0) hx hb d_Mo_seed_14 (by decide) ?_
  refine Wd.put hx hb hts hown hK hW 0 0 in_Mo t_Mo_ok n_Mo w_fl_Mo_40 (by decide) d_Mo_seed_15 rfl rfl rfl rfl rfl (Nat.le_of_ble_eq_true rfl) (fun H locs hW => ?_)
  have hW : Wd G A s.heap [(h0, .inr (1, [.int 0, .int mty, .ref mtx, .int mpl, .int mth, .int mln, .ref msc, .int mfr, .ref mdr, .int mcm, .int mop, .int mkd, .int mbg, .int mnd, .int mam, .ref mis, .ref mip, .ref msd, .ref mrg, .int mmn, .ref mou])), (msd, .inl (G.2 3, 3, .inl fs))] H locs := hW
  refine lv_aload_n hx hb d_Mo_seed_18 rfl (lv_at hl 0 rfl) ?_
  refine Wd.get hx hb hts hown hK hW 0 0 in_Mo w_fl_Mo_40 (by decide) d_Mo_seed_19 rfl rfl rfl ?_
  refine lv_if_ne (tgt := 32) hx hb d_Mo_seed_22 rfl (fun hz => absurd (by decide) hz) (fun _ => ?_)
  refine lv_aload_n hx hb d_Mo_seed_25 rfl (lv_at hl 0 rfl) ?_
  refine Wd.get hx hb hts hown hK hW 0 17 in_Mo w_fl_Mo_31 (by decide) d_Mo_seed_26 rfl rfl rfl ?_
  refine lv_iload_n hx hb d_Mo_seed_29 rfl (lv_at hl 1 rfl) ?_
  refine lv_iconst (v := 1) hx hb d_Mo_seed_30 (by decide) ?_
  refine Wd.zast hx hb hK hW 1 d_Mo_seed_31 rfl (vp_in_t 3 (by decide) hs0 (Int32.lt_of_le_of_lt hs1 (by decide))) (fun H locs hW => ?_)
  have hW : Wd G A s.heap [(h0, .inr (1, [.int 0, .int mty, .ref mtx, .int mpl, .int mth, .int mln, .ref msc, .int mfr, .ref mdr, .int mcm, .int mop, .int mkd, .int mbg, .int mnd, .int mam, .ref mis, .ref mip, .ref msd, .ref mrg, .int mmn, .ref mou])), (msd, .inl (G.2 3, 3, .inl (upd fs x.toNatClampNeg (vp_nar .boolean 1))))] H locs := hW
  exact Ct.vret hx hb hr hnl hW (by decide) (by decide) d_Mo_seed_32 ⟨rfl, rfl⟩

abbrev rm_Mo_seed_2 : Room := { frames := 0, cells := 0, slots := 0, locals := 0 }
set_option maxHeartbeats 4000000 in
set_option maxRecDepth 100000 in
theorem c_Mo_seed_2 (l : Launch) (G : Gt) (h0 : Nat) (mcd : Int32) (mty : Int32) (mtx : Nat) (mpl : Int32) (mth : Int32) (mln : Int32) (msc : Nat) (mfr : Int32) (mdr : Nat) (mcm : Int32) (mop : Int32) (mkd : Int32) (mbg : Int32) (mnd : Int32) (mam : Int32) (mis : Nat) (mip : Nat) (msd : Nat) (mrg : Nat) (mmn : Int32) (mou : Nat) (fs : Nat → Int32) (x : Int32) (y : Int32) (z : Int32) (hs0 : ¬ (x < 0)) (hs1 : ¬ (x ≤ 2)) : Ct l G y_Mo_seed b_Mo_seed 4 none rm_Mo_seed_2 [.ref h0, .int x, .int y, .int z] [(h0, .inr (1, [.int mcd, .int mty, .ref mtx, .int mpl, .int mth, .int mln, .ref msc, .int mfr, .ref mdr, .int mcm, .int mop, .int mkd, .int mbg, .int mnd, .int mam, .ref mis, .ref mip, .ref msd, .ref mrg, .int mmn, .ref mou])), (msd, .inl (G.2 3, 3, .inl fs))] 0 0 (fun v w' => v = none ∧ w' = [(h0, .inr (1, [.int 1, .int mty, .ref mtx, .int mpl, .int mth, .int mln, .ref msc, .int mfr, .ref mdr, .int mcm, .int mop, .int mkd, .int mbg, .int mnd, .int mam, .ref mis, .ref mip, .ref msd, .ref mrg, .int mmn, .ref mou])), (msd, .inl (G.2 3, 3, .inl fs))]) := by
  refine Ct.of (by decide) (Nat.le_of_ble_eq_true rfl) (fun p e s m args below meth c A ls H locs hx hb hml hr hnl hown hts hnm hK hA hl hW => ?_)
  have hl : lv_has ls 4 [(0, .ref h0), (1, .int x), (2, .int y), (3, .int z)] := hl
  refine lv_aload_n hx hb d_Mo_seed_0 rfl (lv_at hl 0 rfl) ?_
  refine lv_iload_n hx hb d_Mo_seed_1 rfl (lv_at hl 1 rfl) ?_
  refine lv_if_lt (tgt := 10) hx hb d_Mo_seed_2 rfl (fun hz => absurd hz hs0) (fun _ => ?_)
  refine lv_iload_n hx hb d_Mo_seed_5 rfl (lv_at hl 1 rfl) ?_
  refine lv_iconst (v := 2) hx hb d_Mo_seed_6 (by decide) ?_
  refine lv_icmp_le (tgt := 14) hx hb d_Mo_seed_7 rfl (fun hz => absurd hz hs1) (fun _ => ?_)
  refine lv_iconst (v := 1) hx hb d_Mo_seed_10 (by decide) ?_
  refine lv_goto (tgt := 15) hx hb d_Mo_seed_11 rfl ?_
  refine Wd.put hx hb hts hown hK hW 0 0 in_Mo t_Mo_ok n_Mo w_fl_Mo_40 (by decide) d_Mo_seed_15 rfl rfl rfl rfl rfl (Nat.le_of_ble_eq_true rfl) (fun H locs hW => ?_)
  have hW : Wd G A s.heap [(h0, .inr (1, [.int 1, .int mty, .ref mtx, .int mpl, .int mth, .int mln, .ref msc, .int mfr, .ref mdr, .int mcm, .int mop, .int mkd, .int mbg, .int mnd, .int mam, .ref mis, .ref mip, .ref msd, .ref mrg, .int mmn, .ref mou])), (msd, .inl (G.2 3, 3, .inl fs))] H locs := hW
  refine lv_aload_n hx hb d_Mo_seed_18 rfl (lv_at hl 0 rfl) ?_
  refine Wd.get hx hb hts hown hK hW 0 0 in_Mo w_fl_Mo_40 (by decide) d_Mo_seed_19 rfl rfl rfl ?_
  refine lv_if_ne (tgt := 32) hx hb d_Mo_seed_22 rfl (fun _ => ?_) (fun hz => absurd hz (by decide))
  exact Ct.vret hx hb hr hnl hW (by decide) (by decide) d_Mo_seed_32 ⟨rfl, rfl⟩

abbrev rm_Mo_output_0 : Room := { frames := 0, cells := 0, slots := 0, locals := 0 }
set_option maxHeartbeats 4000000 in
set_option maxRecDepth 100000 in
theorem c_Mo_output_0 (l : Launch) (G : Gt) (h0 : Nat) (mcd : Int32) (mty : Int32) (mtx : Nat) (mpl : Int32) (mth : Int32) (mln : Int32) (msc : Nat) (mfr : Int32) (mdr : Nat) (mcm : Int32) (mop : Int32) (mkd : Int32) (mbg : Int32) (mnd : Int32) (mam : Int32) (mis : Nat) (mip : Nat) (msd : Nat) (mrg : Nat) (mmn : Int32) (mou : Nat) (fo : Nat → Int32) (x : Int32) (hin : ¬ x < 0 → x < mmn → vp_in x 16) (hs0 : x < 0) : Ct l G y_Mo_output b_Mo_output 2 (some .int) rm_Mo_output_0 [.ref h0, .int x] [(h0, .inr (1, [.int mcd, .int mty, .ref mtx, .int mpl, .int mth, .int mln, .ref msc, .int mfr, .ref mdr, .int mcm, .int mop, .int mkd, .int mbg, .int mnd, .int mam, .ref mis, .ref mip, .ref msd, .ref mrg, .int mmn, .ref mou])), (mou, .inl (G.2 0, 16, .inl fo))] 0 0 (fun v w' => v = some (.int 0) ∧ w' = [(h0, .inr (1, [.int 1, .int mty, .ref mtx, .int mpl, .int mth, .int mln, .ref msc, .int mfr, .ref mdr, .int mcm, .int mop, .int mkd, .int mbg, .int mnd, .int mam, .ref mis, .ref mip, .ref msd, .ref mrg, .int mmn, .ref mou])), (mou, .inl (G.2 0, 16, .inl fo))]) := by
  refine Ct.of (by decide) (Nat.le_of_ble_eq_true rfl) (fun p e s m args below meth c A ls H locs hx hb hml hr hnl hown hts hnm hK hA hl hW => ?_)
  have hl : lv_has ls 2 [(0, .ref h0), (1, .int x)] := hl
  refine lv_aload_n hx hb d_Mo_output_0 rfl (lv_at hl 0 rfl) ?_
  refine lv_iload_n hx hb d_Mo_output_1 rfl (lv_at hl 1 rfl) ?_
  refine lv_if_lt (tgt := 13) hx hb d_Mo_output_2 rfl (fun _ => ?_) (fun hz => absurd hs0 hz)
  refine lv_iconst (v := 1) hx hb d_Mo_output_13 (by decide) ?_
  refine lv_goto (tgt := 18) hx hb d_Mo_output_14 rfl ?_
  refine Wd.put hx hb hts hown hK hW 0 0 in_Mo t_Mo_ok n_Mo w_fl_Mo_40 (by decide) d_Mo_output_18 rfl rfl rfl rfl rfl (Nat.le_of_ble_eq_true rfl) (fun H locs hW => ?_)
  have hW : Wd G A s.heap [(h0, .inr (1, [.int 1, .int mty, .ref mtx, .int mpl, .int mth, .int mln, .ref msc, .int mfr, .ref mdr, .int mcm, .int mop, .int mkd, .int mbg, .int mnd, .int mam, .ref mis, .ref mip, .ref msd, .ref mrg, .int mmn, .ref mou])), (mou, .inl (G.2 0, 16, .inl fo))] H locs := hW
  refine lv_aload_n hx hb d_Mo_output_21 rfl (lv_at hl 0 rfl) ?_
  refine Wd.get hx hb hts hown hK hW 0 0 in_Mo w_fl_Mo_40 (by decide) d_Mo_output_22 rfl rfl rfl ?_
  refine lv_if_ne (tgt := 37) hx hb d_Mo_output_25 rfl (fun _ => ?_) (fun hz => absurd hz (by decide))
  refine lv_iconst (v := 0) hx hb d_Mo_output_37 (by decide) ?_
  exact Ct.iret hx hb hr hnl hW (by decide) (by decide) d_Mo_output_38 ⟨rfl, rfl⟩

abbrev rm_Mo_output_1 : Room := { frames := 0, cells := 0, slots := 0, locals := 0 }
set_option maxHeartbeats 4000000 in
set_option maxRecDepth 100000 in
theorem c_Mo_output_1 (l : Launch) (G : Gt) (h0 : Nat) (mcd : Int32) (mty : Int32) (mtx : Nat) (mpl : Int32) (mth : Int32) (mln : Int32) (msc : Nat) (mfr : Int32) (mdr : Nat) (mcm : Int32) (mop : Int32) (mkd : Int32) (mbg : Int32) (mnd : Int32) (mam : Int32) (mis : Nat) (mip : Nat) (msd : Nat) (mrg : Nat) (mmn : Int32) (mou : Nat) (fo : Nat → Int32) (x : Int32) (hin : ¬ x < 0 → x < mmn → vp_in x 16) (hs0 : ¬ (x < 0)) (hs1 : x < mmn) : Ct l G y_Mo_output b_Mo_output 2 (some .int) rm_Mo_output_1 [.ref h0, .int x] [(h0, .inr (1, [.int mcd, .int mty, .ref mtx, .int mpl, .int mth, .int mln, .ref msc, .int mfr, .ref mdr, .int mcm, .int mop, .int mkd, .int mbg, .int mnd, .int mam, .ref mis, .ref mip, .ref msd, .ref mrg, .int mmn, .ref mou])), (mou, .inl (G.2 0, 16, .inl fo))] 0 0 (fun v w' => v = some (.int (fo x.toNatClampNeg)) ∧ w' = [(h0, .inr (1, [.int 0, .int mty, .ref mtx, .int mpl, .int mth, .int mln, .ref msc, .int mfr, .ref mdr, .int mcm, .int mop, .int mkd, .int mbg, .int mnd, .int mam, .ref mis, .ref mip, .ref msd, .ref mrg, .int mmn, .ref mou])), (mou, .inl (G.2 0, 16, .inl fo))]) := by
  refine Ct.of (by decide) (Nat.le_of_ble_eq_true rfl) (fun p e s m args below meth c A ls H locs hx hb hml hr hnl hown hts hnm hK hA hl hW => ?_)
  have hl : lv_has ls 2 [(0, .ref h0), (1, .int x)] := hl
  refine lv_aload_n hx hb d_Mo_output_0 rfl (lv_at hl 0 rfl) ?_
  refine lv_iload_n hx hb d_Mo_output_1 rfl (lv_at hl 1 rfl) ?_
  refine lv_if_lt (tgt := 13) hx hb d_Mo_output_2 rfl (fun hz => absurd hz hs0) (fun _ => ?_)
  refine lv_iload_n hx hb d_Mo_output_5 rfl (lv_at hl 1 rfl) ?_
  refine lv_aload_n hx hb d_Mo_output_6 rfl (lv_at hl 0 rfl) ?_
  refine Wd.get hx hb hts hown hK hW 0 19 in_Mo w_fl_Mo_156 (by decide) d_Mo_output_7 rfl rfl rfl ?_
  refine lv_icmp_lt (tgt := 17) hx hb d_Mo_output_10 rfl (fun _ => ?_) (fun hz => absurd hs1 hz)
  refine lv_iconst (v := 0) hx hb d_Mo_output_17 (by decide) ?_
  refine Wd.put hx hb hts hown hK hW 0 0 in_Mo t_Mo_ok n_Mo w_fl_Mo_40 (by decide) d_Mo_output_18 rfl rfl rfl rfl rfl (Nat.le_of_ble_eq_true rfl) (fun H locs hW => ?_)
  have hW : Wd G A s.heap [(h0, .inr (1, [.int 0, .int mty, .ref mtx, .int mpl, .int mth, .int mln, .ref msc, .int mfr, .ref mdr, .int mcm, .int mop, .int mkd, .int mbg, .int mnd, .int mam, .ref mis, .ref mip, .ref msd, .ref mrg, .int mmn, .ref mou])), (mou, .inl (G.2 0, 16, .inl fo))] H locs := hW
  refine lv_aload_n hx hb d_Mo_output_21 rfl (lv_at hl 0 rfl) ?_
  refine Wd.get hx hb hts hown hK hW 0 0 in_Mo w_fl_Mo_40 (by decide) d_Mo_output_22 rfl rfl rfl ?_
  refine lv_if_ne (tgt := 37) hx hb d_Mo_output_25 rfl (fun hz => absurd (by decide) hz) (fun _ => ?_)
  refine lv_aload_n hx hb d_Mo_output_28 rfl (lv_at hl 0 rfl) ?_
  refine Wd.get hx hb hts hown hK hW 0 20 in_Mo w_fl_Mo_37 (by decide) d_Mo_output_29 rfl rfl rfl ?_
  refine lv_iload_n hx hb d_Mo_output_32 rfl (lv_at hl 1 rfl) ?_
  refine Wd.iald hx hb hK hW 1 d_Mo_output_33 rfl (hin hs0 hs1) ?_
  refine lv_goto (tgt := 38) hx hb d_Mo_output_34 rfl ?_
  exact Ct.iret hx hb hr hnl hW (by decide) (by decide) d_Mo_output_38 ⟨rfl, rfl⟩

abbrev rm_Mo_output_2 : Room := { frames := 0, cells := 0, slots := 0, locals := 0 }
set_option maxHeartbeats 4000000 in
set_option maxRecDepth 100000 in
theorem c_Mo_output_2 (l : Launch) (G : Gt) (h0 : Nat) (mcd : Int32) (mty : Int32) (mtx : Nat) (mpl : Int32) (mth : Int32) (mln : Int32) (msc : Nat) (mfr : Int32) (mdr : Nat) (mcm : Int32) (mop : Int32) (mkd : Int32) (mbg : Int32) (mnd : Int32) (mam : Int32) (mis : Nat) (mip : Nat) (msd : Nat) (mrg : Nat) (mmn : Int32) (mou : Nat) (fo : Nat → Int32) (x : Int32) (hin : ¬ x < 0 → x < mmn → vp_in x 16) (hs0 : ¬ (x < 0)) (hs1 : ¬ (x < mmn)) : Ct l G y_Mo_output b_Mo_output 2 (some .int) rm_Mo_output_2 [.ref h0, .int x] [(h0, .inr (1, [.int mcd, .int mty, .ref mtx, .int mpl, .int mth, .int mln, .ref msc, .int mfr, .ref mdr, .int mcm, .int mop, .int mkd, .int mbg, .int mnd, .int mam, .ref mis, .ref mip, .ref msd, .ref mrg, .int mmn, .ref mou])), (mou, .inl (G.2 0, 16, .inl fo))] 0 0 (fun v w' => v = some (.int 0) ∧ w' = [(h0, .inr (1, [.int 1, .int mty, .ref mtx, .int mpl, .int mth, .int mln, .ref msc, .int mfr, .ref mdr, .int mcm, .int mop, .int mkd, .int mbg, .int mnd, .int mam, .ref mis, .ref mip, .ref msd, .ref mrg, .int mmn, .ref mou])), (mou, .inl (G.2 0, 16, .inl fo))]) := by
  refine Ct.of (by decide) (Nat.le_of_ble_eq_true rfl) (fun p e s m args below meth c A ls H locs hx hb hml hr hnl hown hts hnm hK hA hl hW => ?_)
  have hl : lv_has ls 2 [(0, .ref h0), (1, .int x)] := hl
  refine lv_aload_n hx hb d_Mo_output_0 rfl (lv_at hl 0 rfl) ?_
  refine lv_iload_n hx hb d_Mo_output_1 rfl (lv_at hl 1 rfl) ?_
  refine lv_if_lt (tgt := 13) hx hb d_Mo_output_2 rfl (fun hz => absurd hz hs0) (fun _ => ?_)
  refine lv_iload_n hx hb d_Mo_output_5 rfl (lv_at hl 1 rfl) ?_
  refine lv_aload_n hx hb d_Mo_output_6 rfl (lv_at hl 0 rfl) ?_
  refine Wd.get hx hb hts hown hK hW 0 19 in_Mo w_fl_Mo_156 (by decide) d_Mo_output_7 rfl rfl rfl ?_
  refine lv_icmp_lt (tgt := 17) hx hb d_Mo_output_10 rfl (fun hz => absurd hz hs1) (fun _ => ?_)
  refine lv_iconst (v := 1) hx hb d_Mo_output_13 (by decide) ?_
  refine lv_goto (tgt := 18) hx hb d_Mo_output_14 rfl ?_
  refine Wd.put hx hb hts hown hK hW 0 0 in_Mo t_Mo_ok n_Mo w_fl_Mo_40 (by decide) d_Mo_output_18 rfl rfl rfl rfl rfl (Nat.le_of_ble_eq_true rfl) (fun H locs hW => ?_)
  have hW : Wd G A s.heap [(h0, .inr (1, [.int 1, .int mty, .ref mtx, .int mpl, .int mth, .int mln, .ref msc, .int mfr, .ref mdr, .int mcm, .int mop, .int mkd, .int mbg, .int mnd, .int mam, .ref mis, .ref mip, .ref msd, .ref mrg, .int mmn, .ref mou])), (mou, .inl (G.2 0, 16, .inl fo))] H locs := hW
  refine lv_aload_n hx hb d_Mo_output_21 rfl (lv_at hl 0 rfl) ?_
  refine Wd.get hx hb hts hown hK hW 0 0 in_Mo w_fl_Mo_40 (by decide) d_Mo_output_22 rfl rfl rfl ?_
  refine lv_if_ne (tgt := 37) hx hb d_Mo_output_25 rfl (fun _ => ?_) (fun hz => absurd hz (by decide))
  refine lv_iconst (v := 0) hx hb d_Mo_output_37 (by decide) ?_
  exact Ct.iret hx hb hr hnl hW (by decide) (by decide) d_Mo_output_38 ⟨rfl, rfl⟩

