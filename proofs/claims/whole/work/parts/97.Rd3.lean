/-! the reader: rows, statements, scripts -/
def rdRow (kd vl : Nat → Int32) (sg : Int32) (x : Int32) (X : ScT) : Int32 × Int32 × ScT := if (isT kd (x + 1) (1 : Int32)) = 0 then (0, (x + 1), X) else if (eRF kd vl ((x + 1) + 1) (vl (x + 1).toNatClampNeg)) = 0 then (0, ((x + 1) + 1), X) else if sg = 0 then (1, ((x + 1) + 1) + 1, (smI ((vl ((x + 1) + 1).toNatClampNeg).toNatClampNeg - (vl (x + 1).toNatClampNeg).toNatClampNeg) ((vl (x + 1).toNatClampNeg).toNatClampNeg + 1) X)) else if ((tkC X (((((vl (((x + 1) + 1).toNatClampNeg)) - (vl (x + 1).toNatClampNeg)) + 1) * ((((vl (((x + 1) + 1).toNatClampNeg)) - (vl (x + 1).toNatClampNeg)) + 1) - 1)) / 2)).1) = 0 then (0, ((x + 1) + 1), ((tkC X (((((vl (((x + 1) + 1).toNatClampNeg)) - (vl (x + 1).toNatClampNeg)) + 1) * ((((vl (((x + 1) + 1).toNatClampNeg)) - (vl (x + 1).toNatClampNeg)) + 1) - 1)) / 2)).2)) else (1, ((x + 1) + 1) + 1, (swO (vl (x + 1).toNatClampNeg).toNatClampNeg ((vl ((x + 1) + 1).toNatClampNeg).toNatClampNeg - (vl (x + 1).toNatClampNeg).toNatClampNeg) ((tkC X (((((vl (((x + 1) + 1).toNatClampNeg)) - (vl (x + 1).toNatClampNeg)) + 1) * ((((vl (((x + 1) + 1).toNatClampNeg)) - (vl (x + 1).toNatClampNeg)) + 1) - 1)) / 2)).2)))
abbrev rm_Reader_readRow : Room := { frames := 2, cells := 0, slots := 0, locals := 49 }
set_option maxHeartbeats 4000000 in
set_option maxRecDepth 100000 in
theorem c_Reader_readRow (l : Launch) (G : Gt) (h0 : Nat) (ht : Nat) (d : Nat → Nat) (htt : Nat) (htk : Nat) (htb : Nat) (htv : Nat) (ct : Int32) (kd : Nat → Int32) (vl : Nat → Int32) (x : Int32) (X : ScT) (sg : Int32) (hT1 : InT kd (x + 1)) (hc0 : ¬ X.2.2.2.2.2.1 < 0) (hreg : RgT kd vl) : Ct l G y_Reader_readRow b_Reader_readRow 5 (some .boolean) rm_Reader_readRow [.ref h0, .int sg] (bj [[(h0, .inr (9, [.ref ht, .ref (d 0), .int x]))], [(ht, .inr (11, [.ref htt, .ref htk, .ref htb, .ref htv, .int ct]))], [(htk, .inl (G.2 0, 121, .inl kd))], [(htv, .inl (G.2 0, 121, .inl vl))], scB G d X]) 0 0 (fun v w' => v = some (.int ((rdRow kd vl sg x X).1)) ∧ w' = (bj [[(h0, .inr (9, [.ref ht, .ref (d 0), .int ((rdRow kd vl sg x X).2.1)]))], [(ht, .inr (11, [.ref htt, .ref htk, .ref htb, .ref htv, .int ct]))], [(htk, .inl (G.2 0, 121, .inl kd))], [(htv, .inl (G.2 0, 121, .inl vl))], scB G d ((rdRow kd vl sg x X).2.2)])) := by
  refine Ct.of (by decide) (Nat.le_of_ble_eq_true rfl) (fun p e s m args below meth c A ls H locs hx hb hml hr hnl hown hts hnm hK hA hl hW => ?_)
  have hl : lv_has ls 5 [(0, .ref h0), (1, .int sg)] := hl
  refine lv_aload_n hx hb d_Reader_readRow_0 rfl (lv_at hl 0 rfl) ?_
  refine lv_dup hx hb d_Reader_readRow_1 rfl ?_
  refine Wd.get hx hb hts hown hK hW 0 2 in_Reader w_fl_Reader_29 (by decide) d_Reader_readRow_2 rfl rfl rfl ?_
  refine lv_iconst (v := 1) hx hb d_Reader_readRow_5 (by decide) ?_
  refine lv_iadd hx hb d_Reader_readRow_6 ?_
  refine Wd.put (v := .int (x + 1)) hx hb hts hown hK hW 0 2 in_Reader t_Reader_ok n_Reader w_fl_Reader_29 (by decide) d_Reader_readRow_7 rfl rfl rfl rfl rfl (Nat.le_of_ble_eq_true rfl) (fun H locs hW => ?_)
  have hW : Wd G A s.heap (bj [[(h0, .inr (9, [.ref ht, .ref (d 0), .int (x + 1)]))], [(ht, .inr (11, [.ref htt, .ref htk, .ref htb, .ref htv, .int ct]))], [(htk, .inl (G.2 0, 121, .inl kd))], [(htv, .inl (G.2 0, 121, .inl vl))], scB G d X]) H locs := hW
  refine lv_aload_n hx hb d_Reader_readRow_10 rfl (lv_at hl 0 rfl) ?_
  refine lv_iconst (v := 1) hx hb d_Reader_readRow_11 (by decide) ?_
  refine Ct.callVB (As := [.int 1]) (rest := []) (wr := bj [[(htv, .inl (G.2 0, 121, .inl vl))], scB G d X]) hx hb hml hown hts hK hA hl.1 hW (bl_pick (bs := [[(h0, .inr (9, [.ref ht, .ref (d 0), .int (x + 1)]))], [(ht, .inr (11, [.ref htt, .ref htk, .ref htb, .ref htv, .int ct]))], [(htk, .inl (G.2 0, 121, .inl kd))]]) (rs := [[(htv, .inl (G.2 0, 121, .inl vl))], scB G d X]) (Bs := [[(h0, .inr (9, [.ref ht, .ref (d 0), .int (x + 1)]))], [(ht, .inr (11, [.ref htt, .ref htk, .ref htb, .ref htv, .int ct]))], [(htk, .inl (G.2 0, 121, .inl kd))], [(htv, .inl (G.2 0, 121, .inl vl))], scB G d X]) [0, 1, 2, 3, 4] (show ([0, 1, 2, 3, 4] : List Nat).Perm (List.range 5) by decide) rfl) (c_Reader_is l G h0 ht d htt htk htb htv ct kd (x + 1) (1 : Int32) (hT1).in) (cwV 1 hts (good_V w_ml_Reader_44 w_im_Reader_is w_se_Reader_is w_ini_Reader w_code_Reader_is) rfl rfl rfl yd_Reader_is ⟨by decide, by decide⟩) (ci := 9) (r := vr_Reader) rfl rfl rfl rfl rfl (Nat.le_of_ble_eq_true rfl) d_Reader_readRow_12 ⟨by decide, by decide⟩ (fun v w' hp => by obtain ⟨-, rfl⟩ := hp; exact Nat.le_of_ble_eq_true rfl) (fun v w' H locs hp hW => ?_)
  obtain ⟨rfl, rfl⟩ := hp
  have hW := Wd.blk (rs := [[(htv, .inl (G.2 0, 121, .inl vl))], scB G d X]) (bs := [[(h0, .inr (9, [.ref ht, .ref (d 0), .int (x + 1)]))], [(ht, .inr (11, [.ref htt, .ref htk, .ref htb, .ref htv, .int ct]))], [(htk, .inl (G.2 0, 121, .inl kd))]]) (Bs := [[(h0, .inr (9, [.ref ht, .ref (d 0), .int (x + 1)]))], [(ht, .inr (11, [.ref htt, .ref htk, .ref htb, .ref htv, .int ct]))], [(htk, .inl (G.2 0, 121, .inl kd))], [(htv, .inl (G.2 0, 121, .inl vl))], scB G d X]) hW [2, 3, 4, 0, 1] (show ([2, 3, 4, 0, 1] : List Nat).Perm (List.range 5) by decide) rfl
  refine W.eq (g2 := F0 m 15 ls [.int (isT kd (x + 1) (1 : Int32))]) rfl ?_
  refine lv_if_ne (tgt := 20) hx hb d_Reader_readRow_15 rfl (fun ht1 => ?_) (fun hf2 => ?_)
  · refine lv_aload_n hx hb d_Reader_readRow_20 rfl (lv_at hl 0 rfl) ?_
    refine Ct.callVB (As := []) (rest := []) (wr := bj [[(htk, .inl (G.2 0, 121, .inl kd))], scB G d X]) hx hb hml hown hts hK hA hl.1 hW (bl_pick (bs := [[(h0, .inr (9, [.ref ht, .ref (d 0), .int (x + 1)]))], [(ht, .inr (11, [.ref htt, .ref htk, .ref htb, .ref htv, .int ct]))], [(htv, .inl (G.2 0, 121, .inl vl))]]) (rs := [[(htk, .inl (G.2 0, 121, .inl kd))], scB G d X]) (Bs := [[(h0, .inr (9, [.ref ht, .ref (d 0), .int (x + 1)]))], [(ht, .inr (11, [.ref htt, .ref htk, .ref htb, .ref htv, .int ct]))], [(htk, .inl (G.2 0, 121, .inl kd))], [(htv, .inl (G.2 0, 121, .inl vl))], scB G d X]) [0, 1, 3, 2, 4] (show ([0, 1, 3, 2, 4] : List Nat).Perm (List.range 5) by decide) rfl) (c_Reader_take l G h0 ht d htt htk htb htv ct vl (x + 1) (hT1).in) (cwV 0 hts (good_V w_ml_Reader_65 w_im_Reader_take w_se_Reader_take w_ini_Reader w_code_Reader_take) rfl rfl rfl yd_Reader_take ⟨by decide, by decide⟩) (ci := 9) (r := vr_Reader) rfl rfl rfl rfl rfl (Nat.le_of_ble_eq_true rfl) d_Reader_readRow_21 ⟨by decide, by decide⟩ (fun v w' hp => by obtain ⟨-, rfl⟩ := hp; exact Nat.le_of_ble_eq_true rfl) (fun v w' H locs hp hW => ?_)
    obtain ⟨rfl, rfl⟩ := hp
    have hW := Wd.blk (rs := [[(htk, .inl (G.2 0, 121, .inl kd))], scB G d X]) (bs := [[(h0, .inr (9, [.ref ht, .ref (d 0), .int ((x + 1) + 1)]))], [(ht, .inr (11, [.ref htt, .ref htk, .ref htb, .ref htv, .int ct]))], [(htv, .inl (G.2 0, 121, .inl vl))]]) (Bs := [[(h0, .inr (9, [.ref ht, .ref (d 0), .int ((x + 1) + 1)]))], [(ht, .inr (11, [.ref htt, .ref htk, .ref htb, .ref htv, .int ct]))], [(htk, .inl (G.2 0, 121, .inl kd))], [(htv, .inl (G.2 0, 121, .inl vl))], scB G d X]) hW [2, 3, 0, 4, 1] (show ([2, 3, 0, 4, 1] : List Nat).Perm (List.range 5) by decide) rfl
    refine W.eq (g2 := F0 m 24 ls [.int (vl (x + 1).toNatClampNeg)]) rfl ?_
    refine lv_istore_n (lv' := [(2, .int (vl (x + 1).toNatClampNeg)), (0, .ref h0), (1, .int sg)]) hx hb d_Reader_readRow_24 rfl hl (by decide) rfl (fun ls hl => ?_)
    refine lv_aload_n hx hb d_Reader_readRow_25 rfl (lv_at hl 1 rfl) ?_
    refine lv_iload_n hx hb d_Reader_readRow_26 rfl (lv_at hl 0 rfl) ?_
    refine Ct.callVB (As := [.int (vl (x + 1).toNatClampNeg)]) (rest := []) (wr := bj [scB G d X]) hx hb hml hown hts hK hA hl.1 hW (bl_pick (bs := [[(h0, .inr (9, [.ref ht, .ref (d 0), .int ((x + 1) + 1)]))], [(ht, .inr (11, [.ref htt, .ref htk, .ref htb, .ref htv, .int ct]))], [(htk, .inl (G.2 0, 121, .inl kd))], [(htv, .inl (G.2 0, 121, .inl vl))]]) (rs := [scB G d X]) (Bs := [[(h0, .inr (9, [.ref ht, .ref (d 0), .int ((x + 1) + 1)]))], [(ht, .inr (11, [.ref htt, .ref htk, .ref htb, .ref htv, .int ct]))], [(htk, .inl (G.2 0, 121, .inl kd))], [(htv, .inl (G.2 0, 121, .inl vl))], scB G d X]) [0, 1, 2, 3, 4] (show ([0, 1, 2, 3, 4] : List Nat).Perm (List.range 5) by decide) rfl) (c_Reader_endsRowFrom l G h0 ht d htt htk htb htv ct kd vl ((x + 1) + 1) (vl (x + 1).toNatClampNeg) ((InT.is hT1 ht1 (by decide))).in) (cwV 1 hts (good_V w_ml_Reader_69 w_im_Reader_endsRowFrom w_se_Reader_endsRowFrom w_ini_Reader w_code_Reader_endsRowFrom) rfl rfl rfl yd_Reader_endsRowFrom ⟨by decide, by decide⟩) (ci := 9) (r := vr_Reader) rfl rfl rfl rfl rfl (Nat.le_of_ble_eq_true rfl) d_Reader_readRow_27 ⟨by decide, by decide⟩ (fun v w' hp => by obtain ⟨-, rfl⟩ := hp; exact Nat.le_of_ble_eq_true rfl) (fun v w' H locs hp hW => ?_)
    obtain ⟨rfl, rfl⟩ := hp
    have hW := Wd.blk (rs := [scB G d X]) (bs := [[(h0, .inr (9, [.ref ht, .ref (d 0), .int ((x + 1) + 1)]))], [(ht, .inr (11, [.ref htt, .ref htk, .ref htb, .ref htv, .int ct]))], [(htk, .inl (G.2 0, 121, .inl kd))], [(htv, .inl (G.2 0, 121, .inl vl))]]) (Bs := [[(h0, .inr (9, [.ref ht, .ref (d 0), .int ((x + 1) + 1)]))], [(ht, .inr (11, [.ref htt, .ref htk, .ref htb, .ref htv, .int ct]))], [(htk, .inl (G.2 0, 121, .inl kd))], [(htv, .inl (G.2 0, 121, .inl vl))], scB G d X]) hW [1, 2, 3, 4, 0] (show ([1, 2, 3, 4, 0] : List Nat).Perm (List.range 5) by decide) rfl
    refine W.eq (g2 := F0 m 30 ls [.int (eRF kd vl ((x + 1) + 1) (vl (x + 1).toNatClampNeg))]) rfl ?_
    refine lv_if_ne (tgt := 35) hx hb d_Reader_readRow_30 rfl (fun ht3 => ?_) (fun hf4 => ?_)
    · refine lv_aload_n hx hb d_Reader_readRow_35 rfl (lv_at hl 1 rfl) ?_
      refine Wd.get hx hb hts hown hK hW 0 0 in_Reader w_fl_Reader_12 (by decide) d_Reader_readRow_36 rfl rfl rfl ?_
      refine Wd.get hx hb hts hown hK hW 1 3 in_Tokens w_fl_Reader_72 (by decide) d_Reader_readRow_39 rfl rfl rfl ?_
      refine lv_aload_n hx hb d_Reader_readRow_42 rfl (lv_at hl 1 rfl) ?_
      refine Wd.get hx hb hts hown hK hW 0 2 in_Reader w_fl_Reader_29 (by decide) d_Reader_readRow_43 rfl rfl rfl ?_
      refine Wd.iald hx hb hK hW 3 d_Reader_readRow_46 rfl (InT.is hT1 (by assumption) (by decide)).in ?_
      refine lv_iload_n hx hb d_Reader_readRow_47 rfl (lv_at hl 0 rfl) ?_
      refine lv_isub hx hb d_Reader_readRow_48 ?_
      refine lv_iconst (v := 1) hx hb d_Reader_readRow_49 (by decide) ?_
      refine lv_iadd hx hb d_Reader_readRow_50 ?_
      refine lv_istore_n (lv' := [(3, .int (((vl (((x + 1) + 1).toNatClampNeg)) - (vl (x + 1).toNatClampNeg)) + 1)), (2, .int (vl (x + 1).toNatClampNeg)), (0, .ref h0), (1, .int sg)]) hx hb d_Reader_readRow_51 rfl hl (by decide) rfl (fun ls hl => ?_)
      refine lv_iload_n hx hb d_Reader_readRow_52 rfl (lv_at hl 3 rfl) ?_
      refine lv_if_eq (tgt := 75) hx hb d_Reader_readRow_53 rfl (fun ht5 => ?_) (fun hf6 => ?_)
      · refine lv_aload_n hx hb d_Reader_readRow_75 rfl (lv_at hl 2 rfl) ?_
        refine Ct.callVB (As := []) (rest := []) (wr := bj [[(htk, .inl (G.2 0, 121, .inl kd))], scB G d X]) hx hb hml hown hts hK hA hl.1 hW (bl_pick (bs := [[(h0, .inr (9, [.ref ht, .ref (d 0), .int ((x + 1) + 1)]))], [(ht, .inr (11, [.ref htt, .ref htk, .ref htb, .ref htv, .int ct]))], [(htv, .inl (G.2 0, 121, .inl vl))]]) (rs := [[(htk, .inl (G.2 0, 121, .inl kd))], scB G d X]) (Bs := [[(h0, .inr (9, [.ref ht, .ref (d 0), .int ((x + 1) + 1)]))], [(ht, .inr (11, [.ref htt, .ref htk, .ref htb, .ref htv, .int ct]))], [(htk, .inl (G.2 0, 121, .inl kd))], [(htv, .inl (G.2 0, 121, .inl vl))], scB G d X]) [0, 1, 3, 2, 4] (show ([0, 1, 3, 2, 4] : List Nat).Perm (List.range 5) by decide) rfl) (c_Reader_take l G h0 ht d htt htk htb htv ct vl ((x + 1) + 1) ((InT.is hT1 ht1 (by decide))).in) (cwV 0 hts (good_V w_ml_Reader_65 w_im_Reader_take w_se_Reader_take w_ini_Reader w_code_Reader_take) rfl rfl rfl yd_Reader_take ⟨by decide, by decide⟩) (ci := 9) (r := vr_Reader) rfl rfl rfl rfl rfl (Nat.le_of_ble_eq_true rfl) d_Reader_readRow_76 ⟨by decide, by decide⟩ (fun v w' hp => by obtain ⟨-, rfl⟩ := hp; exact Nat.le_of_ble_eq_true rfl) (fun v w' H locs hp hW => ?_)
        obtain ⟨rfl, rfl⟩ := hp
        have hW := Wd.blk (rs := [[(htk, .inl (G.2 0, 121, .inl kd))], scB G d X]) (bs := [[(h0, .inr (9, [.ref ht, .ref (d 0), .int (((x + 1) + 1) + 1)]))], [(ht, .inr (11, [.ref htt, .ref htk, .ref htb, .ref htv, .int ct]))], [(htv, .inl (G.2 0, 121, .inl vl))]]) (Bs := [[(h0, .inr (9, [.ref ht, .ref (d 0), .int (((x + 1) + 1) + 1)]))], [(ht, .inr (11, [.ref htt, .ref htk, .ref htb, .ref htv, .int ct]))], [(htk, .inl (G.2 0, 121, .inl kd))], [(htv, .inl (G.2 0, 121, .inl vl))], scB G d X]) hW [2, 3, 0, 4, 1] (show ([2, 3, 0, 4, 1] : List Nat).Perm (List.range 5) by decide) rfl
        refine W.eq (g2 := F0 m 79 ls [.int (vl ((x + 1) + 1).toNatClampNeg)]) rfl ?_
        refine lv_istore (lv' := [(4, .int (vl ((x + 1) + 1).toNatClampNeg)), (3, .int (((vl (((x + 1) + 1).toNatClampNeg)) - (vl (x + 1).toNatClampNeg)) + 1)), (2, .int (vl (x + 1).toNatClampNeg)), (0, .ref h0), (1, .int sg)]) hx hb d_Reader_readRow_79 hl (by decide) rfl (fun ls hl => ?_)
        refine lv_iload_n hx hb d_Reader_readRow_81 rfl (lv_at hl 4 rfl) ?_
        refine lv_if_eq (tgt := 98) hx hb d_Reader_readRow_82 rfl (fun _ => ?_) (fun hz => absurd ht5 hz)
        refine lv_aload_n hx hb d_Reader_readRow_98 rfl (lv_at hl 3 rfl) ?_
        refine Wd.get hx hb hts hown hK hW 0 1 in_Reader w_fl_Reader_21 (by decide) d_Reader_readRow_99 rfl rfl rfl ?_
        refine lv_iload_n hx hb d_Reader_readRow_102 rfl (lv_at hl 2 rfl) ?_
        refine lv_iload hx hb d_Reader_readRow_103 (lv_at hl 0 rfl) ?_
        refine Ct.callVB (As := [.int (vl (x + 1).toNatClampNeg), .int (vl ((x + 1) + 1).toNatClampNeg)]) (rest := []) (wr := bj [[(h0, .inr (9, [.ref ht, .ref (d 0), .int (((x + 1) + 1) + 1)]))], [(ht, .inr (11, [.ref htt, .ref htk, .ref htb, .ref htv, .int ct]))], [(htk, .inl (G.2 0, 121, .inl kd))], [(htv, .inl (G.2 0, 121, .inl vl))]]) hx hb hml hown hts hK hA hl.1 hW (bl_pick (bs := [scB G d X]) (rs := [[(h0, .inr (9, [.ref ht, .ref (d 0), .int (((x + 1) + 1) + 1)]))], [(ht, .inr (11, [.ref htt, .ref htk, .ref htb, .ref htv, .int ct]))], [(htk, .inl (G.2 0, 121, .inl kd))], [(htv, .inl (G.2 0, 121, .inl vl))]]) (Bs := [[(h0, .inr (9, [.ref ht, .ref (d 0), .int (((x + 1) + 1) + 1)]))], [(ht, .inr (11, [.ref htt, .ref htk, .ref htb, .ref htv, .int ct]))], [(htk, .inl (G.2 0, 121, .inl kd))], [(htv, .inl (G.2 0, 121, .inl vl))], scB G d X]) [4, 0, 1, 2, 3] (show ([4, 0, 1, 2, 3] : List Nat).Perm (List.range 5) by decide) rfl) (adI_sums l G d X (vl (x + 1).toNatClampNeg) (vl ((x + 1) + 1).toNatClampNeg) (row_ok hreg ht1 ht3).1 (row_ok hreg ht1 ht3).2.1 (row_ok hreg ht1 ht3).2.2.1 (row_ok hreg ht1 ht3).2.2.2 hc0) (cwV 2 hts (good_V w_ml_Reader_82 w_im_Script_addSums w_se_Script_addSums w_ini_Script w_code_Script_addSums) rfl rfl rfl yd_Script_addSums ⟨by decide, by decide⟩) (ci := 10) (r := vr_Script) rfl rfl rfl rfl rfl (Nat.le_of_ble_eq_true rfl) d_Reader_readRow_105 ⟨by decide, by decide⟩ (fun v w' hp => by obtain ⟨-, rfl⟩ := hp; exact Nat.le_of_ble_eq_true rfl) (fun v w' H locs hp hW => ?_)
        obtain ⟨rfl, rfl⟩ := hp
        have hW := Wd.blk (rs := [[(h0, .inr (9, [.ref ht, .ref (d 0), .int (((x + 1) + 1) + 1)]))], [(ht, .inr (11, [.ref htt, .ref htk, .ref htb, .ref htv, .int ct]))], [(htk, .inl (G.2 0, 121, .inl kd))], [(htv, .inl (G.2 0, 121, .inl vl))]]) (bs := [scB G d (smI ((vl ((x + 1) + 1).toNatClampNeg).toNatClampNeg - (vl (x + 1).toNatClampNeg).toNatClampNeg) ((vl (x + 1).toNatClampNeg).toNatClampNeg + 1) X)]) (Bs := [[(h0, .inr (9, [.ref ht, .ref (d 0), .int (((x + 1) + 1) + 1)]))], [(ht, .inr (11, [.ref htt, .ref htk, .ref htb, .ref htv, .int ct]))], [(htk, .inl (G.2 0, 121, .inl kd))], [(htv, .inl (G.2 0, 121, .inl vl))], scB G d (smI ((vl ((x + 1) + 1).toNatClampNeg).toNatClampNeg - (vl (x + 1).toNatClampNeg).toNatClampNeg) ((vl (x + 1).toNatClampNeg).toNatClampNeg + 1) X)]) hW [0, 1, 2, 3, 4] (show ([0, 1, 2, 3, 4] : List Nat).Perm (List.range 5) by decide) rfl
        refine W.eq (g2 := F0 m 108 ls []) rfl ?_
        refine lv_iconst (v := 1) hx hb d_Reader_readRow_108 (by decide) ?_
        exact Ct.zret hx hb hr hnl hW (by decide) (by decide) d_Reader_readRow_109 (by decide) (by
      have e : rdRow kd vl sg x X = (1, ((x + 1) + 1) + 1, (smI ((vl ((x + 1) + 1).toNatClampNeg).toNatClampNeg - (vl (x + 1).toNatClampNeg).toNatClampNeg) ((vl (x + 1).toNatClampNeg).toNatClampNeg + 1) X)) := by unfold rdRow; rw [if_neg ht1, if_neg ht3, if_pos ht5]
      rw [e]
      exact ⟨rfl, rfl⟩)
      · refine lv_aload_n hx hb d_Reader_readRow_56 rfl (lv_at hl 2 rfl) ?_
        refine Wd.get hx hb hts hown hK hW 0 1 in_Reader w_fl_Reader_21 (by decide) d_Reader_readRow_57 rfl rfl rfl ?_
        refine lv_iload_n hx hb d_Reader_readRow_60 rfl (lv_at hl 0 rfl) ?_
        refine lv_iload_n hx hb d_Reader_readRow_61 rfl (lv_at hl 0 rfl) ?_
        refine lv_iconst (v := 1) hx hb d_Reader_readRow_62 (by decide) ?_
        refine lv_isub hx hb d_Reader_readRow_63 ?_
        refine lv_imul hx hb d_Reader_readRow_64 ?_
        refine lv_iconst (v := 2) hx hb d_Reader_readRow_65 (by decide) ?_
        refine lv_idiv hx hb d_Reader_readRow_66 (by decide) ?_
        refine Ct.callVB (As := [.int (((((vl (((x + 1) + 1).toNatClampNeg)) - (vl (x + 1).toNatClampNeg)) + 1) * ((((vl (((x + 1) + 1).toNatClampNeg)) - (vl (x + 1).toNatClampNeg)) + 1) - 1)) / 2)]) (rest := []) (wr := bj [[(h0, .inr (9, [.ref ht, .ref (d 0), .int ((x + 1) + 1)]))], [(ht, .inr (11, [.ref htt, .ref htk, .ref htb, .ref htv, .int ct]))], [(htk, .inl (G.2 0, 121, .inl kd))], [(htv, .inl (G.2 0, 121, .inl vl))]]) hx hb hml hown hts hK hA hl.1 hW (bl_pick (bs := [scB G d X]) (rs := [[(h0, .inr (9, [.ref ht, .ref (d 0), .int ((x + 1) + 1)]))], [(ht, .inr (11, [.ref htt, .ref htk, .ref htb, .ref htv, .int ct]))], [(htk, .inl (G.2 0, 121, .inl kd))], [(htv, .inl (G.2 0, 121, .inl vl))]]) (Bs := [[(h0, .inr (9, [.ref ht, .ref (d 0), .int ((x + 1) + 1)]))], [(ht, .inr (11, [.ref htt, .ref htk, .ref htb, .ref htv, .int ct]))], [(htk, .inl (G.2 0, 121, .inl kd))], [(htv, .inl (G.2 0, 121, .inl vl))], scB G d X]) [4, 0, 1, 2, 3] (show ([4, 0, 1, 2, 3] : List Nat).Perm (List.range 5) by decide) rfl) (cb_Script_takeComparisons l G d X (((((vl (((x + 1) + 1).toNatClampNeg)) - (vl (x + 1).toNatClampNeg)) + 1) * ((((vl (((x + 1) + 1).toNatClampNeg)) - (vl (x + 1).toNatClampNeg)) + 1) - 1)) / 2) ) (cwV 1 hts (good_V w_ml_Reader_75 w_im_Script_takeComparisons w_se_Script_takeComparisons w_ini_Script w_code_Script_takeComparisons) rfl rfl rfl yd_Script_takeComparisons ⟨by decide, by decide⟩) (ci := 10) (r := vr_Script) rfl rfl rfl rfl rfl (Nat.le_of_ble_eq_true rfl) d_Reader_readRow_67 ⟨by decide, by decide⟩ (fun v w' hp => by obtain ⟨-, rfl⟩ := hp; exact Nat.le_of_ble_eq_true rfl) (fun v w' H locs hp hW => ?_)
        obtain ⟨rfl, rfl⟩ := hp
        have hW := Wd.blk (rs := [[(h0, .inr (9, [.ref ht, .ref (d 0), .int ((x + 1) + 1)]))], [(ht, .inr (11, [.ref htt, .ref htk, .ref htb, .ref htv, .int ct]))], [(htk, .inl (G.2 0, 121, .inl kd))], [(htv, .inl (G.2 0, 121, .inl vl))]]) (bs := [scB G d ((tkC X (((((vl (((x + 1) + 1).toNatClampNeg)) - (vl (x + 1).toNatClampNeg)) + 1) * ((((vl (((x + 1) + 1).toNatClampNeg)) - (vl (x + 1).toNatClampNeg)) + 1) - 1)) / 2)).2)]) (Bs := [[(h0, .inr (9, [.ref ht, .ref (d 0), .int ((x + 1) + 1)]))], [(ht, .inr (11, [.ref htt, .ref htk, .ref htb, .ref htv, .int ct]))], [(htk, .inl (G.2 0, 121, .inl kd))], [(htv, .inl (G.2 0, 121, .inl vl))], scB G d ((tkC X (((((vl (((x + 1) + 1).toNatClampNeg)) - (vl (x + 1).toNatClampNeg)) + 1) * ((((vl (((x + 1) + 1).toNatClampNeg)) - (vl (x + 1).toNatClampNeg)) + 1) - 1)) / 2)).2)]) hW [0, 1, 2, 3, 4] (show ([0, 1, 2, 3, 4] : List Nat).Perm (List.range 5) by decide) rfl
        refine W.eq (g2 := F0 m 70 ls [.int ((tkC X (((((vl (((x + 1) + 1).toNatClampNeg)) - (vl (x + 1).toNatClampNeg)) + 1) * ((((vl (((x + 1) + 1).toNatClampNeg)) - (vl (x + 1).toNatClampNeg)) + 1) - 1)) / 2)).1)]) rfl ?_
        refine lv_if_ne (tgt := 75) hx hb d_Reader_readRow_70 rfl (fun ht7 => ?_) (fun hf8 => ?_)
        · refine lv_aload_n hx hb d_Reader_readRow_75 rfl (lv_at hl 2 rfl) ?_
          refine Ct.callVB (As := []) (rest := []) (wr := bj [[(htk, .inl (G.2 0, 121, .inl kd))], scB G d ((tkC X (((((vl (((x + 1) + 1).toNatClampNeg)) - (vl (x + 1).toNatClampNeg)) + 1) * ((((vl (((x + 1) + 1).toNatClampNeg)) - (vl (x + 1).toNatClampNeg)) + 1) - 1)) / 2)).2)]) hx hb hml hown hts hK hA hl.1 hW (bl_pick (bs := [[(h0, .inr (9, [.ref ht, .ref (d 0), .int ((x + 1) + 1)]))], [(ht, .inr (11, [.ref htt, .ref htk, .ref htb, .ref htv, .int ct]))], [(htv, .inl (G.2 0, 121, .inl vl))]]) (rs := [[(htk, .inl (G.2 0, 121, .inl kd))], scB G d ((tkC X (((((vl (((x + 1) + 1).toNatClampNeg)) - (vl (x + 1).toNatClampNeg)) + 1) * ((((vl (((x + 1) + 1).toNatClampNeg)) - (vl (x + 1).toNatClampNeg)) + 1) - 1)) / 2)).2)]) (Bs := [[(h0, .inr (9, [.ref ht, .ref (d 0), .int ((x + 1) + 1)]))], [(ht, .inr (11, [.ref htt, .ref htk, .ref htb, .ref htv, .int ct]))], [(htk, .inl (G.2 0, 121, .inl kd))], [(htv, .inl (G.2 0, 121, .inl vl))], scB G d ((tkC X (((((vl (((x + 1) + 1).toNatClampNeg)) - (vl (x + 1).toNatClampNeg)) + 1) * ((((vl (((x + 1) + 1).toNatClampNeg)) - (vl (x + 1).toNatClampNeg)) + 1) - 1)) / 2)).2)]) [0, 1, 3, 2, 4] (show ([0, 1, 3, 2, 4] : List Nat).Perm (List.range 5) by decide) rfl) (c_Reader_take l G h0 ht d htt htk htb htv ct vl ((x + 1) + 1) ((InT.is hT1 ht1 (by decide))).in) (cwV 0 hts (good_V w_ml_Reader_65 w_im_Reader_take w_se_Reader_take w_ini_Reader w_code_Reader_take) rfl rfl rfl yd_Reader_take ⟨by decide, by decide⟩) (ci := 9) (r := vr_Reader) rfl rfl rfl rfl rfl (Nat.le_of_ble_eq_true rfl) d_Reader_readRow_76 ⟨by decide, by decide⟩ (fun v w' hp => by obtain ⟨-, rfl⟩ := hp; exact Nat.le_of_ble_eq_true rfl) (fun v w' H locs hp hW => ?_)
          obtain ⟨rfl, rfl⟩ := hp
          have hW := Wd.blk (rs := [[(htk, .inl (G.2 0, 121, .inl kd))], scB G d ((tkC X (((((vl (((x + 1) + 1).toNatClampNeg)) - (vl (x + 1).toNatClampNeg)) + 1) * ((((vl (((x + 1) + 1).toNatClampNeg)) - (vl (x + 1).toNatClampNeg)) + 1) - 1)) / 2)).2)]) (bs := [[(h0, .inr (9, [.ref ht, .ref (d 0), .int (((x + 1) + 1) + 1)]))], [(ht, .inr (11, [.ref htt, .ref htk, .ref htb, .ref htv, .int ct]))], [(htv, .inl (G.2 0, 121, .inl vl))]]) (Bs := [[(h0, .inr (9, [.ref ht, .ref (d 0), .int (((x + 1) + 1) + 1)]))], [(ht, .inr (11, [.ref htt, .ref htk, .ref htb, .ref htv, .int ct]))], [(htk, .inl (G.2 0, 121, .inl kd))], [(htv, .inl (G.2 0, 121, .inl vl))], scB G d ((tkC X (((((vl (((x + 1) + 1).toNatClampNeg)) - (vl (x + 1).toNatClampNeg)) + 1) * ((((vl (((x + 1) + 1).toNatClampNeg)) - (vl (x + 1).toNatClampNeg)) + 1) - 1)) / 2)).2)]) hW [2, 3, 0, 4, 1] (show ([2, 3, 0, 4, 1] : List Nat).Perm (List.range 5) by decide) rfl
          refine W.eq (g2 := F0 m 79 ls [.int (vl ((x + 1) + 1).toNatClampNeg)]) rfl ?_
          refine lv_istore (lv' := [(4, .int (vl ((x + 1) + 1).toNatClampNeg)), (3, .int (((vl (((x + 1) + 1).toNatClampNeg)) - (vl (x + 1).toNatClampNeg)) + 1)), (2, .int (vl (x + 1).toNatClampNeg)), (0, .ref h0), (1, .int sg)]) hx hb d_Reader_readRow_79 hl (by decide) rfl (fun ls hl => ?_)
          refine lv_iload_n hx hb d_Reader_readRow_81 rfl (lv_at hl 4 rfl) ?_
          refine lv_if_eq (tgt := 98) hx hb d_Reader_readRow_82 rfl (fun hz => absurd hz hf6) (fun _ => ?_)
          refine lv_aload_n hx hb d_Reader_readRow_85 rfl (lv_at hl 3 rfl) ?_
          refine Wd.get hx hb hts hown hK hW 0 1 in_Reader w_fl_Reader_21 (by decide) d_Reader_readRow_86 rfl rfl rfl ?_
          refine lv_iload_n hx hb d_Reader_readRow_89 rfl (lv_at hl 2 rfl) ?_
          refine lv_iload hx hb d_Reader_readRow_90 (lv_at hl 0 rfl) ?_
          refine Ct.callVB (As := [.int (vl (x + 1).toNatClampNeg), .int (vl ((x + 1) + 1).toNatClampNeg)]) (rest := []) (wr := bj [[(h0, .inr (9, [.ref ht, .ref (d 0), .int (((x + 1) + 1) + 1)]))], [(ht, .inr (11, [.ref htt, .ref htk, .ref htb, .ref htv, .int ct]))], [(htk, .inl (G.2 0, 121, .inl kd))], [(htv, .inl (G.2 0, 121, .inl vl))]]) hx hb hml hown hts hK hA hl.1 hW (bl_pick (bs := [scB G d ((tkC X (((((vl (((x + 1) + 1).toNatClampNeg)) - (vl (x + 1).toNatClampNeg)) + 1) * ((((vl (((x + 1) + 1).toNatClampNeg)) - (vl (x + 1).toNatClampNeg)) + 1) - 1)) / 2)).2)]) (rs := [[(h0, .inr (9, [.ref ht, .ref (d 0), .int (((x + 1) + 1) + 1)]))], [(ht, .inr (11, [.ref htt, .ref htk, .ref htb, .ref htv, .int ct]))], [(htk, .inl (G.2 0, 121, .inl kd))], [(htv, .inl (G.2 0, 121, .inl vl))]]) (Bs := [[(h0, .inr (9, [.ref ht, .ref (d 0), .int (((x + 1) + 1) + 1)]))], [(ht, .inr (11, [.ref htt, .ref htk, .ref htb, .ref htv, .int ct]))], [(htk, .inl (G.2 0, 121, .inl kd))], [(htv, .inl (G.2 0, 121, .inl vl))], scB G d ((tkC X (((((vl (((x + 1) + 1).toNatClampNeg)) - (vl (x + 1).toNatClampNeg)) + 1) * ((((vl (((x + 1) + 1).toNatClampNeg)) - (vl (x + 1).toNatClampNeg)) + 1) - 1)) / 2)).2)]) [4, 0, 1, 2, 3] (show ([4, 0, 1, 2, 3] : List Nat).Perm (List.range 5) by decide) rfl) (adI_sort l G d ((tkC X (((((vl (((x + 1) + 1).toNatClampNeg)) - (vl (x + 1).toNatClampNeg)) + 1) * ((((vl (((x + 1) + 1).toNatClampNeg)) - (vl (x + 1).toNatClampNeg)) + 1) - 1)) / 2)).2) (vl (x + 1).toNatClampNeg) (vl ((x + 1) + 1).toNatClampNeg) (row_ok hreg ht1 ht3).1 (row_ok hreg ht1 ht3).2.1 (row_ok hreg ht1 ht3).2.2.1 (row_ok hreg ht1 ht3).2.2.2 (tkC_c0 hc0)) (cwV 2 hts (good_V w_ml_Reader_78 w_im_Script_addSort w_se_Script_addSort w_ini_Script w_code_Script_addSort) rfl rfl rfl yd_Script_addSort ⟨by decide, by decide⟩) (ci := 10) (r := vr_Script) rfl rfl rfl rfl rfl (Nat.le_of_ble_eq_true rfl) d_Reader_readRow_92 ⟨by decide, by decide⟩ (fun v w' hp => by obtain ⟨-, rfl⟩ := hp; exact Nat.le_of_ble_eq_true rfl) (fun v w' H locs hp hW => ?_)
          obtain ⟨rfl, rfl⟩ := hp
          have hW := Wd.blk (rs := [[(h0, .inr (9, [.ref ht, .ref (d 0), .int (((x + 1) + 1) + 1)]))], [(ht, .inr (11, [.ref htt, .ref htk, .ref htb, .ref htv, .int ct]))], [(htk, .inl (G.2 0, 121, .inl kd))], [(htv, .inl (G.2 0, 121, .inl vl))]]) (bs := [scB G d (swO (vl (x + 1).toNatClampNeg).toNatClampNeg ((vl ((x + 1) + 1).toNatClampNeg).toNatClampNeg - (vl (x + 1).toNatClampNeg).toNatClampNeg) ((tkC X (((((vl (((x + 1) + 1).toNatClampNeg)) - (vl (x + 1).toNatClampNeg)) + 1) * ((((vl (((x + 1) + 1).toNatClampNeg)) - (vl (x + 1).toNatClampNeg)) + 1) - 1)) / 2)).2))]) (Bs := [[(h0, .inr (9, [.ref ht, .ref (d 0), .int (((x + 1) + 1) + 1)]))], [(ht, .inr (11, [.ref htt, .ref htk, .ref htb, .ref htv, .int ct]))], [(htk, .inl (G.2 0, 121, .inl kd))], [(htv, .inl (G.2 0, 121, .inl vl))], scB G d (swO (vl (x + 1).toNatClampNeg).toNatClampNeg ((vl ((x + 1) + 1).toNatClampNeg).toNatClampNeg - (vl (x + 1).toNatClampNeg).toNatClampNeg) ((tkC X (((((vl (((x + 1) + 1).toNatClampNeg)) - (vl (x + 1).toNatClampNeg)) + 1) * ((((vl (((x + 1) + 1).toNatClampNeg)) - (vl (x + 1).toNatClampNeg)) + 1) - 1)) / 2)).2))]) hW [0, 1, 2, 3, 4] (show ([0, 1, 2, 3, 4] : List Nat).Perm (List.range 5) by decide) rfl
          refine W.eq (g2 := F0 m 95 ls []) rfl ?_
          refine lv_goto (tgt := 108) hx hb d_Reader_readRow_95 rfl ?_
          refine lv_iconst (v := 1) hx hb d_Reader_readRow_108 (by decide) ?_
          exact Ct.zret hx hb hr hnl hW (by decide) (by decide) d_Reader_readRow_109 (by decide) (by
      have e : rdRow kd vl sg x X = (1, ((x + 1) + 1) + 1, (swO (vl (x + 1).toNatClampNeg).toNatClampNeg ((vl ((x + 1) + 1).toNatClampNeg).toNatClampNeg - (vl (x + 1).toNatClampNeg).toNatClampNeg) ((tkC X (((((vl (((x + 1) + 1).toNatClampNeg)) - (vl (x + 1).toNatClampNeg)) + 1) * ((((vl (((x + 1) + 1).toNatClampNeg)) - (vl (x + 1).toNatClampNeg)) + 1) - 1)) / 2)).2))) := by unfold rdRow; rw [if_neg ht1, if_neg ht3, if_neg hf6, if_neg ht7]
      rw [e]
      exact ⟨rfl, rfl⟩)
        · refine lv_iconst (v := 0) hx hb d_Reader_readRow_73 (by decide) ?_
          exact Ct.zret hx hb hr hnl hW (by decide) (by decide) d_Reader_readRow_74 (by decide) (by
      have e : rdRow kd vl sg x X = (0, ((x + 1) + 1), ((tkC X (((((vl (((x + 1) + 1).toNatClampNeg)) - (vl (x + 1).toNatClampNeg)) + 1) * ((((vl (((x + 1) + 1).toNatClampNeg)) - (vl (x + 1).toNatClampNeg)) + 1) - 1)) / 2)).2)) := by unfold rdRow; rw [if_neg ht1, if_neg ht3, if_neg hf6, if_pos hf8]
      rw [e]
      exact ⟨rfl, rfl⟩)
    · refine lv_iconst (v := 0) hx hb d_Reader_readRow_33 (by decide) ?_
      exact Ct.zret hx hb hr hnl hW (by decide) (by decide) d_Reader_readRow_34 (by decide) (by
      have e : rdRow kd vl sg x X = (0, ((x + 1) + 1), X) := by unfold rdRow; rw [if_neg ht1, if_pos hf4]
      rw [e]
      exact ⟨rfl, rfl⟩)
  · refine lv_iconst (v := 0) hx hb d_Reader_readRow_18 (by decide) ?_
    exact Ct.zret hx hb hr hnl hW (by decide) (by decide) d_Reader_readRow_19 (by decide) (by
      have e : rdRow kd vl sg x X = (0, (x + 1), X) := by unfold rdRow; rw [if_pos hf2]
      rw [e]
      exact ⟨rfl, rfl⟩)

theorem rdOpn_b (kd vl : Nat → Int32) (x : Int32) (X : ScT) : (rdOpn kd vl x X).1 = 0 ∨ (rdOpn kd vl x X).1 = 1 := by
  unfold rdOpn
  rcases Classical.em (((tkO X).1) = 0) with hf2 | ht1
  · rw [if_pos hf2]
    exact (Or.inl rfl)
  · rw [if_neg ht1]
    rcases Classical.em ((isT kd (x + 1) (1 : Int32)) = 0) with hf4 | ht3
    · rw [if_pos hf4]
      exact (Or.inl rfl)
    · rw [if_neg ht3]
      exact (Or.inr rfl)
theorem rdRow_b (kd vl : Nat → Int32) (sg : Int32) (x : Int32) (X : ScT) : (rdRow kd vl sg x X).1 = 0 ∨ (rdRow kd vl sg x X).1 = 1 := by
  unfold rdRow
  rcases Classical.em ((isT kd (x + 1) (1 : Int32)) = 0) with hf2 | ht1
  · rw [if_pos hf2]
    exact (Or.inl rfl)
  · rw [if_neg ht1]
    rcases Classical.em ((eRF kd vl ((x + 1) + 1) (vl (x + 1).toNatClampNeg)) = 0) with hf4 | ht3
    · rw [if_pos hf4]
      exact (Or.inl rfl)
    · rw [if_neg ht3]
      rcases Classical.em (sg = 0) with ht5 | hf6
      · rw [if_pos ht5]
        exact (Or.inr rfl)
      · rw [if_neg hf6]
        rcases Classical.em (((tkC X (((((vl (((x + 1) + 1).toNatClampNeg)) - (vl (x + 1).toNatClampNeg)) + 1) * ((((vl (((x + 1) + 1).toNatClampNeg)) - (vl (x + 1).toNatClampNeg)) + 1) - 1)) / 2)).1) = 0) with hf8 | ht7
        · rw [if_pos hf8]
          exact (Or.inl rfl)
        · rw [if_neg ht7]
          exact (Or.inr rfl)
theorem rdAss_b (kd vl : Nat → Int32) (x : Int32) (X : ScT) : (rdAss kd vl x X).1 = 0 ∨ (rdAss kd vl x X).1 = 1 := by
  unfold rdAss
  rcases Classical.em ((isS kd vl (x + 1) (61 : Int32)) = 0) with hf2 | ht1
  · rw [if_pos hf2]
    exact (Or.inl rfl)
  · rw [if_neg ht1]
    rcases Classical.em (((rdVal kd vl (tkA kd vl (x + 1) (61 : Int32)) X).1) = (-1)) with hf4 | ht3
    · rw [if_pos hf4]
      exact (Or.inl rfl)
    · rw [if_neg ht3]
      rcases Classical.em ((isS kd vl ((rdVal kd vl (tkA kd vl (x + 1) (61 : Int32)) X).2.1) (63 : Int32)) = 0) with ht5 | hf6
      · rw [if_pos ht5]
        rcases Classical.em ((kOS kd vl ((rdVal kd vl (tkA kd vl (x + 1) (61 : Int32)) X).2.1)) = 0) with ht7 | hf8
        · rw [if_pos ht7]
          exact (Or.inr rfl)
        · rw [if_neg hf8]
          exact (rdSec_b _ _ _ _ _ _ _)
      · rw [if_neg hf6]
        exact (rdCho_b _ _ _ _ _ _)
def rdSta (kd vl : Nat → Int32) (x : Int32) (X : ScT) : Int32 × Int32 × ScT := if (kd x.toNatClampNeg) = 1 then ((rdAss kd vl x X).1, (rdAss kd vl x X).2.1, (rdAss kd vl x X).2.2) else if (kd x.toNatClampNeg) = 2 then (0, x, X) else if (kd x.toNatClampNeg) = 3 then (0, x, X) else if (kd x.toNatClampNeg) = 4 then ((rdRow kd vl (1 : Int32) x X).1, (rdRow kd vl (1 : Int32) x X).2.1, (rdRow kd vl (1 : Int32) x X).2.2) else if (kd x.toNatClampNeg) = 5 then ((rdRow kd vl (0 : Int32) x X).1, (rdRow kd vl (0 : Int32) x X).2.1, (rdRow kd vl (0 : Int32) x X).2.2) else if (kd x.toNatClampNeg) = 6 then ((rdOpn kd vl x X).1, (rdOpn kd vl x X).2.1, (rdOpn kd vl x X).2.2) else (0, x, X)
abbrev rm_Reader_readStatement : Room := { frames := 5, cells := 0, slots := 0, locals := 110 }
set_option maxHeartbeats 4000000 in
set_option maxRecDepth 100000 in
theorem c_Reader_readStatement (l : Launch) (G : Gt) (h0 : Nat) (ht : Nat) (d : Nat → Nat) (htt : Nat) (htk : Nat) (htb : Nat) (htv : Nat) (ct : Int32) (kd : Nat → Int32) (vl : Nat → Int32) (x : Int32) (X : ScT) (hT : InT kd x) (hc0 : ¬ X.2.2.2.2.2.1 < 0) (hreg : RgT kd vl) : Ct l G y_Reader_readStatement b_Reader_readStatement 1 (some .boolean) rm_Reader_readStatement [.ref h0] (bj [[(h0, .inr (9, [.ref ht, .ref (d 0), .int x]))], [(ht, .inr (11, [.ref htt, .ref htk, .ref htb, .ref htv, .int ct]))], [(htk, .inl (G.2 0, 121, .inl kd))], [(htv, .inl (G.2 0, 121, .inl vl))], scB G d X]) 0 0 (fun v w' => v = some (.int ((rdSta kd vl x X).1)) ∧ w' = (bj [[(h0, .inr (9, [.ref ht, .ref (d 0), .int ((rdSta kd vl x X).2.1)]))], [(ht, .inr (11, [.ref htt, .ref htk, .ref htb, .ref htv, .int ct]))], [(htk, .inl (G.2 0, 121, .inl kd))], [(htv, .inl (G.2 0, 121, .inl vl))], scB G d ((rdSta kd vl x X).2.2)])) := by
  refine Ct.of (by decide) (Nat.le_of_ble_eq_true rfl) (fun p e s m args below meth c A ls H locs hx hb hml hr hnl hown hts hnm hK hA hl hW => ?_)
  have hl : lv_has ls 1 [(0, .ref h0)] := hl
  refine lv_aload_n hx hb d_Reader_readStatement_0 rfl (lv_at hl 0 rfl) ?_
  refine Wd.get hx hb hts hown hK hW 0 0 in_Reader w_fl_Reader_12 (by decide) d_Reader_readStatement_1 rfl rfl rfl ?_
  refine Wd.get hx hb hts hown hK hW 1 1 in_Tokens w_fl_Reader_52 (by decide) d_Reader_readStatement_4 rfl rfl rfl ?_
  refine lv_aload_n hx hb d_Reader_readStatement_7 rfl (lv_at hl 0 rfl) ?_
  refine Wd.get hx hb hts hown hK hW 0 2 in_Reader w_fl_Reader_29 (by decide) d_Reader_readStatement_8 rfl rfl rfl ?_
  refine Wd.iald hx hb hK hW 2 d_Reader_readStatement_11 rfl (by first | exact hT.in | exact hT1.in | exact (InT.ta hT).in) ?_
  by_cases ht1 : (kd x.toNatClampNeg) = 1
  · refine lv_tableIn (tgt := 69) hx hb d_Reader_readStatement_12 (by rw [ht1]; decide) (by rw [ht1]; decide) (by rw [ht1]; rfl) rfl ?_
    refine lv_aload_n hx hb d_Reader_readStatement_69 rfl (lv_at hl 0 rfl) ?_
    refine Ct.callVB (As := []) (rest := []) (wr := bj []) hx hb hml hown hts hK hA hl.1 hW (bl_pick (bs := [[(h0, .inr (9, [.ref ht, .ref (d 0), .int x]))], [(ht, .inr (11, [.ref htt, .ref htk, .ref htb, .ref htv, .int ct]))], [(htk, .inl (G.2 0, 121, .inl kd))], [(htv, .inl (G.2 0, 121, .inl vl))], scB G d X]) (rs := []) (Bs := [[(h0, .inr (9, [.ref ht, .ref (d 0), .int x]))], [(ht, .inr (11, [.ref htt, .ref htk, .ref htb, .ref htv, .int ct]))], [(htk, .inl (G.2 0, 121, .inl kd))], [(htv, .inl (G.2 0, 121, .inl vl))], scB G d X]) [0, 1, 2, 3, 4] (show ([0, 1, 2, 3, 4] : List Nat).Perm (List.range 5) by decide) rfl) (c_Reader_readAssignment l G h0 ht d htt htk htb htv ct kd vl x X hT (InT.nx hT (by rw [ht1]; decide)) hc0) (cwV 0 hts (good_V w_ml_Reader_62 w_im_Reader_readAssignment w_se_Reader_readAssignment w_ini_Reader w_code_Reader_readAssignment) rfl rfl rfl yd_Reader_readAssignment ⟨by decide, by decide⟩) (ci := 9) (r := vr_Reader) rfl rfl rfl rfl rfl (Nat.le_of_ble_eq_true rfl) d_Reader_readStatement_70 ⟨by decide, by decide⟩ (fun v w' hp => by obtain ⟨-, rfl⟩ := hp; exact Nat.le_of_ble_eq_true rfl) (fun v w' H locs hp hW => ?_)
    obtain ⟨rfl, rfl⟩ := hp
    have hW := Wd.blk (rs := []) (bs := [[(h0, .inr (9, [.ref ht, .ref (d 0), .int ((rdAss kd vl x X).2.1)]))], [(ht, .inr (11, [.ref htt, .ref htk, .ref htb, .ref htv, .int ct]))], [(htk, .inl (G.2 0, 121, .inl kd))], [(htv, .inl (G.2 0, 121, .inl vl))], scB G d ((rdAss kd vl x X).2.2)]) (Bs := [[(h0, .inr (9, [.ref ht, .ref (d 0), .int ((rdAss kd vl x X).2.1)]))], [(ht, .inr (11, [.ref htt, .ref htk, .ref htb, .ref htv, .int ct]))], [(htk, .inl (G.2 0, 121, .inl kd))], [(htv, .inl (G.2 0, 121, .inl vl))], scB G d ((rdAss kd vl x X).2.2)]) hW [0, 1, 2, 3, 4] (show ([0, 1, 2, 3, 4] : List Nat).Perm (List.range 5) by decide) rfl
    refine W.eq (g2 := F0 m 73 ls [.int ((rdAss kd vl x X).1)]) rfl ?_
    exact Ct.zret hx hb hr hnl hW (by decide) (by decide) d_Reader_readStatement_73 (by exact nb01 (by first | exact rdRow_b _ _ _ _ _ | exact rdOpn_b _ _ _ _ | exact rdAss_b _ _ _ _)) (by
      have e : rdSta kd vl x X = ((rdAss kd vl x X).1, (rdAss kd vl x X).2.1, (rdAss kd vl x X).2.2) := by unfold rdSta; rw [if_pos ht1]
      rw [e]
      exact ⟨rfl, rfl⟩)
  have hf2 := ht1
  by_cases ht3 : (kd x.toNatClampNeg) = 2
  · refine lv_tableIn (tgt := 74) hx hb d_Reader_readStatement_12 (by rw [ht3]; decide) (by rw [ht3]; decide) (by rw [ht3]; rfl) rfl ?_
    refine lv_iconst (v := 0) hx hb d_Reader_readStatement_74 (by decide) ?_
    exact Ct.zret hx hb hr hnl hW (by decide) (by decide) d_Reader_readStatement_75 (by decide) (by
      have e : rdSta kd vl x X = (0, x, X) := by unfold rdSta; rw [if_neg hf2, if_pos ht3]
      rw [e]
      exact ⟨rfl, rfl⟩)
  have hf4 := ht3
  by_cases ht5 : (kd x.toNatClampNeg) = 3
  · refine lv_tableIn (tgt := 74) hx hb d_Reader_readStatement_12 (by rw [ht5]; decide) (by rw [ht5]; decide) (by rw [ht5]; rfl) rfl ?_
    refine lv_iconst (v := 0) hx hb d_Reader_readStatement_74 (by decide) ?_
    exact Ct.zret hx hb hr hnl hW (by decide) (by decide) d_Reader_readStatement_75 (by decide) (by
      have e : rdSta kd vl x X = (0, x, X) := by unfold rdSta; rw [if_neg hf2, if_neg hf4, if_pos ht5]
      rw [e]
      exact ⟨rfl, rfl⟩)
  have hf6 := ht5
  by_cases ht7 : (kd x.toNatClampNeg) = 4
  · refine lv_tableIn (tgt := 52) hx hb d_Reader_readStatement_12 (by rw [ht7]; decide) (by rw [ht7]; decide) (by rw [ht7]; rfl) rfl ?_
    refine lv_aload_n hx hb d_Reader_readStatement_52 rfl (lv_at hl 0 rfl) ?_
    refine lv_iconst (v := 1) hx hb d_Reader_readStatement_53 (by decide) ?_
    refine Ct.callVB (As := [.int 1]) (rest := []) (wr := bj []) hx hb hml hown hts hK hA hl.1 hW (bl_pick (bs := [[(h0, .inr (9, [.ref ht, .ref (d 0), .int x]))], [(ht, .inr (11, [.ref htt, .ref htk, .ref htb, .ref htv, .int ct]))], [(htk, .inl (G.2 0, 121, .inl kd))], [(htv, .inl (G.2 0, 121, .inl vl))], scB G d X]) (rs := []) (Bs := [[(h0, .inr (9, [.ref ht, .ref (d 0), .int x]))], [(ht, .inr (11, [.ref htt, .ref htk, .ref htb, .ref htv, .int ct]))], [(htk, .inl (G.2 0, 121, .inl kd))], [(htv, .inl (G.2 0, 121, .inl vl))], scB G d X]) [0, 1, 2, 3, 4] (show ([0, 1, 2, 3, 4] : List Nat).Perm (List.range 5) by decide) rfl) (c_Reader_readRow l G h0 ht d htt htk htb htv ct kd vl x X (1 : Int32) (InT.nx hT (by rw [ht7]; decide)) hc0 hreg) (cwV 1 hts (good_V w_ml_Reader_55 w_im_Reader_readRow w_se_Reader_readRow w_ini_Reader w_code_Reader_readRow) rfl rfl rfl yd_Reader_readRow ⟨by decide, by decide⟩) (ci := 9) (r := vr_Reader) rfl rfl rfl rfl rfl (Nat.le_of_ble_eq_true rfl) d_Reader_readStatement_54 ⟨by decide, by decide⟩ (fun v w' hp => by obtain ⟨-, rfl⟩ := hp; exact Nat.le_of_ble_eq_true rfl) (fun v w' H locs hp hW => ?_)
    obtain ⟨rfl, rfl⟩ := hp
    have hW := Wd.blk (rs := []) (bs := [[(h0, .inr (9, [.ref ht, .ref (d 0), .int ((rdRow kd vl (1 : Int32) x X).2.1)]))], [(ht, .inr (11, [.ref htt, .ref htk, .ref htb, .ref htv, .int ct]))], [(htk, .inl (G.2 0, 121, .inl kd))], [(htv, .inl (G.2 0, 121, .inl vl))], scB G d ((rdRow kd vl (1 : Int32) x X).2.2)]) (Bs := [[(h0, .inr (9, [.ref ht, .ref (d 0), .int ((rdRow kd vl (1 : Int32) x X).2.1)]))], [(ht, .inr (11, [.ref htt, .ref htk, .ref htb, .ref htv, .int ct]))], [(htk, .inl (G.2 0, 121, .inl kd))], [(htv, .inl (G.2 0, 121, .inl vl))], scB G d ((rdRow kd vl (1 : Int32) x X).2.2)]) hW [0, 1, 2, 3, 4] (show ([0, 1, 2, 3, 4] : List Nat).Perm (List.range 5) by decide) rfl
    refine W.eq (g2 := F0 m 57 ls [.int ((rdRow kd vl (1 : Int32) x X).1)]) rfl ?_
    exact Ct.zret hx hb hr hnl hW (by decide) (by decide) d_Reader_readStatement_57 (by exact nb01 (by first | exact rdRow_b _ _ _ _ _ | exact rdOpn_b _ _ _ _ | exact rdAss_b _ _ _ _)) (by
      have e : rdSta kd vl x X = ((rdRow kd vl (1 : Int32) x X).1, (rdRow kd vl (1 : Int32) x X).2.1, (rdRow kd vl (1 : Int32) x X).2.2) := by unfold rdSta; rw [if_neg hf2, if_neg hf4, if_neg hf6, if_pos ht7]
      rw [e]
      exact ⟨rfl, rfl⟩)
  have hf8 := ht7
  by_cases ht9 : (kd x.toNatClampNeg) = 5
  · refine lv_tableIn (tgt := 58) hx hb d_Reader_readStatement_12 (by rw [ht9]; decide) (by rw [ht9]; decide) (by rw [ht9]; rfl) rfl ?_
    refine lv_aload_n hx hb d_Reader_readStatement_58 rfl (lv_at hl 0 rfl) ?_
    refine lv_iconst (v := 0) hx hb d_Reader_readStatement_59 (by decide) ?_
    refine Ct.callVB (As := [.int 0]) (rest := []) (wr := bj []) hx hb hml hown hts hK hA hl.1 hW (bl_pick (bs := [[(h0, .inr (9, [.ref ht, .ref (d 0), .int x]))], [(ht, .inr (11, [.ref htt, .ref htk, .ref htb, .ref htv, .int ct]))], [(htk, .inl (G.2 0, 121, .inl kd))], [(htv, .inl (G.2 0, 121, .inl vl))], scB G d X]) (rs := []) (Bs := [[(h0, .inr (9, [.ref ht, .ref (d 0), .int x]))], [(ht, .inr (11, [.ref htt, .ref htk, .ref htb, .ref htv, .int ct]))], [(htk, .inl (G.2 0, 121, .inl kd))], [(htv, .inl (G.2 0, 121, .inl vl))], scB G d X]) [0, 1, 2, 3, 4] (show ([0, 1, 2, 3, 4] : List Nat).Perm (List.range 5) by decide) rfl) (c_Reader_readRow l G h0 ht d htt htk htb htv ct kd vl x X (0 : Int32) (InT.nx hT (by rw [ht9]; decide)) hc0 hreg) (cwV 1 hts (good_V w_ml_Reader_55 w_im_Reader_readRow w_se_Reader_readRow w_ini_Reader w_code_Reader_readRow) rfl rfl rfl yd_Reader_readRow ⟨by decide, by decide⟩) (ci := 9) (r := vr_Reader) rfl rfl rfl rfl rfl (Nat.le_of_ble_eq_true rfl) d_Reader_readStatement_60 ⟨by decide, by decide⟩ (fun v w' hp => by obtain ⟨-, rfl⟩ := hp; exact Nat.le_of_ble_eq_true rfl) (fun v w' H locs hp hW => ?_)
    obtain ⟨rfl, rfl⟩ := hp
    have hW := Wd.blk (rs := []) (bs := [[(h0, .inr (9, [.ref ht, .ref (d 0), .int ((rdRow kd vl (0 : Int32) x X).2.1)]))], [(ht, .inr (11, [.ref htt, .ref htk, .ref htb, .ref htv, .int ct]))], [(htk, .inl (G.2 0, 121, .inl kd))], [(htv, .inl (G.2 0, 121, .inl vl))], scB G d ((rdRow kd vl (0 : Int32) x X).2.2)]) (Bs := [[(h0, .inr (9, [.ref ht, .ref (d 0), .int ((rdRow kd vl (0 : Int32) x X).2.1)]))], [(ht, .inr (11, [.ref htt, .ref htk, .ref htb, .ref htv, .int ct]))], [(htk, .inl (G.2 0, 121, .inl kd))], [(htv, .inl (G.2 0, 121, .inl vl))], scB G d ((rdRow kd vl (0 : Int32) x X).2.2)]) hW [0, 1, 2, 3, 4] (show ([0, 1, 2, 3, 4] : List Nat).Perm (List.range 5) by decide) rfl
    refine W.eq (g2 := F0 m 63 ls [.int ((rdRow kd vl (0 : Int32) x X).1)]) rfl ?_
    exact Ct.zret hx hb hr hnl hW (by decide) (by decide) d_Reader_readStatement_63 (by exact nb01 (by first | exact rdRow_b _ _ _ _ _ | exact rdOpn_b _ _ _ _ | exact rdAss_b _ _ _ _)) (by
      have e : rdSta kd vl x X = ((rdRow kd vl (0 : Int32) x X).1, (rdRow kd vl (0 : Int32) x X).2.1, (rdRow kd vl (0 : Int32) x X).2.2) := by unfold rdSta; rw [if_neg hf2, if_neg hf4, if_neg hf6, if_neg hf8, if_pos ht9]
      rw [e]
      exact ⟨rfl, rfl⟩)
  have hf10 := ht9
  by_cases ht11 : (kd x.toNatClampNeg) = 6
  · refine lv_tableIn (tgt := 64) hx hb d_Reader_readStatement_12 (by rw [ht11]; decide) (by rw [ht11]; decide) (by rw [ht11]; rfl) rfl ?_
    refine lv_aload_n hx hb d_Reader_readStatement_64 rfl (lv_at hl 0 rfl) ?_
    refine Ct.callVB (As := []) (rest := []) (wr := bj []) hx hb hml hown hts hK hA hl.1 hW (bl_pick (bs := [[(h0, .inr (9, [.ref ht, .ref (d 0), .int x]))], [(ht, .inr (11, [.ref htt, .ref htk, .ref htb, .ref htv, .int ct]))], [(htk, .inl (G.2 0, 121, .inl kd))], [(htv, .inl (G.2 0, 121, .inl vl))], scB G d X]) (rs := []) (Bs := [[(h0, .inr (9, [.ref ht, .ref (d 0), .int x]))], [(ht, .inr (11, [.ref htt, .ref htk, .ref htb, .ref htv, .int ct]))], [(htk, .inl (G.2 0, 121, .inl kd))], [(htv, .inl (G.2 0, 121, .inl vl))], scB G d X]) [0, 1, 2, 3, 4] (show ([0, 1, 2, 3, 4] : List Nat).Perm (List.range 5) by decide) rfl) (c_Reader_readOpen l G h0 ht d htt htk htb htv ct kd vl x X hT (InT.nx hT (by rw [ht11]; decide)) hc0) (cwV 0 hts (good_V w_ml_Reader_59 w_im_Reader_readOpen w_se_Reader_readOpen w_ini_Reader w_code_Reader_readOpen) rfl rfl rfl yd_Reader_readOpen ⟨by decide, by decide⟩) (ci := 9) (r := vr_Reader) rfl rfl rfl rfl rfl (Nat.le_of_ble_eq_true rfl) d_Reader_readStatement_65 ⟨by decide, by decide⟩ (fun v w' hp => by obtain ⟨-, rfl⟩ := hp; exact Nat.le_of_ble_eq_true rfl) (fun v w' H locs hp hW => ?_)
    obtain ⟨rfl, rfl⟩ := hp
    have hW := Wd.blk (rs := []) (bs := [[(h0, .inr (9, [.ref ht, .ref (d 0), .int ((rdOpn kd vl x X).2.1)]))], [(ht, .inr (11, [.ref htt, .ref htk, .ref htb, .ref htv, .int ct]))], [(htk, .inl (G.2 0, 121, .inl kd))], [(htv, .inl (G.2 0, 121, .inl vl))], scB G d ((rdOpn kd vl x X).2.2)]) (Bs := [[(h0, .inr (9, [.ref ht, .ref (d 0), .int ((rdOpn kd vl x X).2.1)]))], [(ht, .inr (11, [.ref htt, .ref htk, .ref htb, .ref htv, .int ct]))], [(htk, .inl (G.2 0, 121, .inl kd))], [(htv, .inl (G.2 0, 121, .inl vl))], scB G d ((rdOpn kd vl x X).2.2)]) hW [0, 1, 2, 3, 4] (show ([0, 1, 2, 3, 4] : List Nat).Perm (List.range 5) by decide) rfl
    refine W.eq (g2 := F0 m 68 ls [.int ((rdOpn kd vl x X).1)]) rfl ?_
    exact Ct.zret hx hb hr hnl hW (by decide) (by decide) d_Reader_readStatement_68 (by exact nb01 (by first | exact rdRow_b _ _ _ _ _ | exact rdOpn_b _ _ _ _ | exact rdAss_b _ _ _ _)) (by
      have e : rdSta kd vl x X = ((rdOpn kd vl x X).1, (rdOpn kd vl x X).2.1, (rdOpn kd vl x X).2.2) := by unfold rdSta; rw [if_neg hf2, if_neg hf4, if_neg hf6, if_neg hf8, if_neg hf10, if_pos ht11]
      rw [e]
      exact ⟨rfl, rfl⟩)
  have hf12 := ht11
  refine lv_tableOut (tgt := 74) hx hb d_Reader_readStatement_12 (by have n0 := lv_neT hf2 (a := 1) (by decide); have n1 := lv_neT hf4 (a := 2) (by decide); have n2 := lv_neT hf6 (a := 3) (by decide); have n3 := lv_neT hf8 (a := 4) (by decide); have n4 := lv_neT hf10 (a := 5) (by decide); have n5 := lv_neT hf12 (a := 6) (by decide); omega) rfl ?_
  refine lv_iconst (v := 0) hx hb d_Reader_readStatement_74 (by decide) ?_
  exact Ct.zret hx hb hr hnl hW (by decide) (by decide) d_Reader_readStatement_75 (by decide) (by
      have e : rdSta kd vl x X = (0, x, X) := by unfold rdSta; rw [if_neg hf2, if_neg hf4, if_neg hf6, if_neg hf8, if_neg hf10, if_neg hf12]
      rw [e]
      exact ⟨rfl, rfl⟩)

