abbrev rm_Tokens_add : Room := { frames := 0, cells := 0, slots := 0, locals := 0 }
set_option maxHeartbeats 4000000 in
set_option maxRecDepth 100000 in
theorem c_Tokens_add (l : Launch) (G : Gt) (h0 : Nat) (h0t : Nat) (h0k : Nat) (h0b : Nat) (h0v : Nat) (ct : Int32) (kd : Nat → Int32) (bg : Nat → Int32) (vl : Nat → Int32) (x : Int32) (y : Int32) (z : Int32) (hc0 : ¬ ct < 0) (hc1 : ¬ 121 ≤ ct) : Ct l G y_Tokens_add b_Tokens_add 4 none rm_Tokens_add [.ref h0, .int x, .int y, .int z] [(h0, .inr (11, [.ref h0t, .ref h0k, .ref h0b, .ref h0v, .int ct])), (h0k, .inl (G.2 0, 121, .inl kd)), (h0b, .inl (G.2 0, 121, .inl bg)), (h0v, .inl (G.2 0, 121, .inl vl))] 0 0 (fun v w' => v = none ∧ w' = [(h0, .inr (11, [.ref h0t, .ref h0k, .ref h0b, .ref h0v, .int (ct + 1)])), (h0k, .inl (G.2 0, 121, .inl (upd kd ct.toNatClampNeg x))), (h0b, .inl (G.2 0, 121, .inl (upd bg ct.toNatClampNeg y))), (h0v, .inl (G.2 0, 121, .inl (upd vl ct.toNatClampNeg z)))]) := by
  refine Ct.of (by decide) (Nat.le_of_ble_eq_true rfl) (fun p e s m args below meth c A ls H locs hx hb hml hr hnl hown hts hnm hK hA hl hW => ?_)
  have hl : lv_has ls 4 [(0, .ref h0), (1, .int x), (2, .int y), (3, .int z)] := hl
  refine lv_aload_n hx hb d_Tokens_add_0 rfl (lv_at hl 0 rfl) ?_
  refine Wd.get hx hb hts hown hK hW 0 4 in_Tokens w_fl_Tokens_31 (by decide) d_Tokens_add_1 rfl rfl rfl ?_
  refine lv_aload_n hx hb d_Tokens_add_4 rfl (lv_at hl 0 rfl) ?_
  refine Wd.get hx hb hts hown hK hW 0 1 in_Tokens w_fl_Tokens_15 (by decide) d_Tokens_add_5 rfl rfl rfl ?_
  refine Wd.alen (v := 121) hx hb hK hW 1 0 d_Tokens_add_8 rfl rfl (by first | rfl | decide) ?_
  refine lv_icmp_ge (tgt := 52) hx hb d_Tokens_add_9 rfl (fun hz => absurd hz hc1) (fun _ => ?_)
  refine lv_aload_n hx hb d_Tokens_add_12 rfl (lv_at hl 0 rfl) ?_
  refine Wd.get hx hb hts hown hK hW 0 1 in_Tokens w_fl_Tokens_15 (by decide) d_Tokens_add_13 rfl rfl rfl ?_
  refine lv_aload_n hx hb d_Tokens_add_16 rfl (lv_at hl 0 rfl) ?_
  refine Wd.get hx hb hts hown hK hW 0 4 in_Tokens w_fl_Tokens_31 (by decide) d_Tokens_add_17 rfl rfl rfl ?_
  refine lv_iload_n hx hb d_Tokens_add_20 rfl (lv_at hl 1 rfl) ?_
  refine Wd.iast hx hb hK hW 1 d_Tokens_add_21 rfl (vp_in_c 121 (by decide) hc0 hc1) (fun H locs hW => ?_)
  have hW : Wd G A s.heap [(h0, .inr (11, [.ref h0t, .ref h0k, .ref h0b, .ref h0v, .int ct])), (h0k, .inl (G.2 0, 121, .inl (upd kd ct.toNatClampNeg x))), (h0b, .inl (G.2 0, 121, .inl bg)), (h0v, .inl (G.2 0, 121, .inl vl))] H locs := hW
  refine lv_aload_n hx hb d_Tokens_add_22 rfl (lv_at hl 0 rfl) ?_
  refine Wd.get hx hb hts hown hK hW 0 2 in_Tokens w_fl_Tokens_19 (by decide) d_Tokens_add_23 rfl rfl rfl ?_
  refine lv_aload_n hx hb d_Tokens_add_26 rfl (lv_at hl 0 rfl) ?_
  refine Wd.get hx hb hts hown hK hW 0 4 in_Tokens w_fl_Tokens_31 (by decide) d_Tokens_add_27 rfl rfl rfl ?_
  refine lv_iload_n hx hb d_Tokens_add_30 rfl (lv_at hl 2 rfl) ?_
  refine Wd.iast hx hb hK hW 2 d_Tokens_add_31 rfl (vp_in_c 121 (by decide) hc0 hc1) (fun H locs hW => ?_)
  have hW : Wd G A s.heap [(h0, .inr (11, [.ref h0t, .ref h0k, .ref h0b, .ref h0v, .int ct])), (h0k, .inl (G.2 0, 121, .inl (upd kd ct.toNatClampNeg x))), (h0b, .inl (G.2 0, 121, .inl (upd bg ct.toNatClampNeg y))), (h0v, .inl (G.2 0, 121, .inl vl))] H locs := hW
  refine lv_aload_n hx hb d_Tokens_add_32 rfl (lv_at hl 0 rfl) ?_
  refine Wd.get hx hb hts hown hK hW 0 3 in_Tokens w_fl_Tokens_22 (by decide) d_Tokens_add_33 rfl rfl rfl ?_
  refine lv_aload_n hx hb d_Tokens_add_36 rfl (lv_at hl 0 rfl) ?_
  refine Wd.get hx hb hts hown hK hW 0 4 in_Tokens w_fl_Tokens_31 (by decide) d_Tokens_add_37 rfl rfl rfl ?_
  refine lv_iload_n hx hb d_Tokens_add_40 rfl (lv_at hl 3 rfl) ?_
  refine Wd.iast hx hb hK hW 3 d_Tokens_add_41 rfl (vp_in_c 121 (by decide) hc0 hc1) (fun H locs hW => ?_)
  have hW : Wd G A s.heap [(h0, .inr (11, [.ref h0t, .ref h0k, .ref h0b, .ref h0v, .int ct])), (h0k, .inl (G.2 0, 121, .inl (upd kd ct.toNatClampNeg x))), (h0b, .inl (G.2 0, 121, .inl (upd bg ct.toNatClampNeg y))), (h0v, .inl (G.2 0, 121, .inl (upd vl ct.toNatClampNeg z)))] H locs := hW
  refine lv_aload_n hx hb d_Tokens_add_42 rfl (lv_at hl 0 rfl) ?_
  refine lv_dup hx hb d_Tokens_add_43 rfl ?_
  refine Wd.get hx hb hts hown hK hW 0 4 in_Tokens w_fl_Tokens_31 (by decide) d_Tokens_add_44 rfl rfl rfl ?_
  refine lv_iconst (v := 1) hx hb d_Tokens_add_47 (by decide) ?_
  refine lv_iadd hx hb d_Tokens_add_48 ?_
  refine Wd.put hx hb hts hown hK hW 0 4 in_Tokens t_Tokens_ok n_Tokens w_fl_Tokens_31 (by decide) d_Tokens_add_49 rfl rfl rfl rfl rfl (Nat.le_of_ble_eq_true rfl) (fun H locs hW => ?_)
  have hW : Wd G A s.heap [(h0, .inr (11, [.ref h0t, .ref h0k, .ref h0b, .ref h0v, .int (ct + 1)])), (h0k, .inl (G.2 0, 121, .inl (upd kd ct.toNatClampNeg x))), (h0b, .inl (G.2 0, 121, .inl (upd bg ct.toNatClampNeg y))), (h0v, .inl (G.2 0, 121, .inl (upd vl ct.toNatClampNeg z)))] H locs := hW
  exact Ct.vret hx hb hr hnl hW (by decide) (by decide) d_Tokens_add_52 ⟨rfl, rfl⟩

abbrev rm_Tokens_scan0 : Room := { frames := 1, cells := 0, slots := 0, locals := 23 }
set_option maxHeartbeats 4000000 in
set_option maxRecDepth 100000 in
theorem c_Tokens_scan0 (l : Launch) (G : Gt) (h0 : Nat) (h0t : Nat) (h0k : Nat) (h0b : Nat) (h0v : Nat) (ct : Int32) (kd : Nat → Int32) (bg : Nat → Int32) (vl : Nat → Int32) (tt : Nat → Int32) (h1 : Nat) (fr : Nat → Int32) : Ct l G y_Tokens_scan b_Tokens_scan 5 none rm_Tokens_scan0 [.ref h0, .ref h1, .int 0] [(h0, .inr (11, [.ref h0t, .ref h0k, .ref h0b, .ref h0v, .int ct])), (h0t, .inl (G.2 2, 120, .inl tt)), (h0k, .inl (G.2 0, 121, .inl kd)), (h0b, .inl (G.2 0, 121, .inl bg)), (h0v, .inl (G.2 0, 121, .inl vl)), (h1, .inl (G.2 2, 120, .inl fr))] 0 0 (fun v w' => v = none ∧ w' = [(h0, .inr (11, [.ref h0t, .ref h0k, .ref h0b, .ref h0v, .int ((0 : Int32) + 1)])), (h0t, .inl (G.2 2, 120, .inl (va_cpy fr tt 0 0 0))), (h0k, .inl (G.2 0, 121, .inl (upd kd (0 : Int32).toNatClampNeg (0 : Int32)))), (h0b, .inl (G.2 0, 121, .inl (upd bg (0 : Int32).toNatClampNeg (0 : Int32)))), (h0v, .inl (G.2 0, 121, .inl (upd vl (0 : Int32).toNatClampNeg (0 : Int32)))), (h1, .inl (G.2 2, 120, .inl fr))]) := by
  refine Ct.of (by decide) (Nat.le_of_ble_eq_true rfl) (fun p e s m args below meth c A ls H locs hx hb hml hr hnl hown hts hnm hK hA hl hW => ?_)
  have hl : lv_has ls 5 [(0, .ref h0), (1, .ref h1), (2, .int 0)] := hl
  refine lv_aload_n hx hb d_Tokens_scan_0 rfl (lv_at hl 1 rfl) ?_
  refine lv_iconst (v := 0) hx hb d_Tokens_scan_1 (by decide) ?_
  refine lv_aload_n hx hb d_Tokens_scan_2 rfl (lv_at hl 0 rfl) ?_
  refine Wd.get hx hb hts hown hK hW 0 0 in_Tokens w_fl_Tokens_9 (by decide) d_Tokens_scan_3 rfl rfl rfl ?_
  refine lv_iconst (v := 0) hx hb d_Tokens_scan_6 (by decide) ?_
  refine lv_iload_n hx hb d_Tokens_scan_7 rfl (lv_at hl 2 rfl) ?_
  refine Wd.copyi (sp := 0) (dp := 0) hx hb (hml.trans hl.1.symm) hts hown hK hW 5 1 2 w_ml_Tokens_25 d_Tokens_scan_8 rfl rfl rfl rfl (by decide) (by decide) (by decide) (Nat.le_of_ble_eq_true rfl) (Nat.le_of_ble_eq_true rfl) (fun i hi => absurd hi (Nat.not_lt_zero i)) (by decide) (Nat.le_of_ble_eq_true rfl) (fun H locs hW => ?_)
  have hW : Wd G A s.heap [(h0, .inr (11, [.ref h0t, .ref h0k, .ref h0b, .ref h0v, .int ct])), (h0t, .inl (G.2 2, 120, .inl (va_cpy fr tt 0 0 0))), (h0k, .inl (G.2 0, 121, .inl kd)), (h0b, .inl (G.2 0, 121, .inl bg)), (h0v, .inl (G.2 0, 121, .inl vl)), (h1, .inl (G.2 2, 120, .inl fr))] H locs := hW
  refine lv_aload_n hx hb d_Tokens_scan_11 rfl (lv_at hl 0 rfl) ?_
  refine lv_iconst (v := 0) hx hb d_Tokens_scan_12 (by decide) ?_
  refine Wd.put hx hb hts hown hK hW 0 4 in_Tokens t_Tokens_ok n_Tokens w_fl_Tokens_31 (by decide) d_Tokens_scan_13 rfl rfl rfl rfl rfl (Nat.le_of_ble_eq_true rfl) (fun H locs hW => ?_)
  have hW : Wd G A s.heap [(h0, .inr (11, [.ref h0t, .ref h0k, .ref h0b, .ref h0v, .int 0])), (h0t, .inl (G.2 2, 120, .inl (va_cpy fr tt 0 0 0))), (h0k, .inl (G.2 0, 121, .inl kd)), (h0b, .inl (G.2 0, 121, .inl bg)), (h0v, .inl (G.2 0, 121, .inl vl)), (h1, .inl (G.2 2, 120, .inl fr))] H locs := hW
  refine lv_iconst (v := 0) hx hb d_Tokens_scan_16 (by decide) ?_
  refine lv_istore_n (lv' := [(3, .int 0), (0, .ref h0), (1, .ref h1), (2, .int 0)]) hx hb d_Tokens_scan_17 rfl hl (by decide) rfl (fun ls hl => ?_)
  refine lv_iload_n hx hb d_Tokens_scan_18 rfl (lv_at hl 0 rfl) ?_
  refine lv_iload_n hx hb d_Tokens_scan_19 rfl (lv_at hl 3 rfl) ?_
  refine lv_icmp_ge (tgt := 60) hx hb d_Tokens_scan_20 rfl (fun _ => ?_) (fun hz => absurd (by decide) hz)
  refine lv_aload_n hx hb d_Tokens_scan_60 rfl (lv_at hl 1 rfl) ?_
  refine lv_iconst (v := 0) hx hb d_Tokens_scan_61 (by decide) ?_
  refine lv_iload_n hx hb d_Tokens_scan_62 rfl (lv_at hl 3 rfl) ?_
  refine lv_iconst (v := 0) hx hb d_Tokens_scan_63 (by decide) ?_
  refine Ct.callV (As := [.int 0, .int 0, .int 0]) (rest := []) hx hb hml hown hts hK hA hl.1 hW (c_Tokens_add l G h0 h0t h0k h0b h0v (0 : Int32) kd bg vl (0 : Int32) (0 : Int32) (0 : Int32) (by decide) (by decide)) (cwV 3 hts (good_V w_ml_Tokens_44 w_im_Tokens_add w_se_Tokens_add w_ini_Tokens w_code_Tokens_add) rfl rfl rfl yd_Tokens_add ⟨by decide, by decide⟩) [0, 2, 3, 4] (by decide) rfl (ci := 11) (r := vr_Tokens) rfl rfl rfl rfl rfl (Nat.le_of_ble_eq_true rfl) d_Tokens_scan_64 ⟨by decide, by decide⟩ (fun v w' hp => by obtain ⟨-, rfl⟩ := hp; exact Nat.le_of_ble_eq_true rfl) (fun v w' H locs hp hW => ?_)
  obtain ⟨rfl, rfl⟩ := hp
  have hW : Wd G A s.heap [(h0, .inr (11, [.ref h0t, .ref h0k, .ref h0b, .ref h0v, .int ((0 : Int32) + 1)])), (h0t, .inl (G.2 2, 120, .inl (va_cpy fr tt 0 0 0))), (h0k, .inl (G.2 0, 121, .inl (upd kd (0 : Int32).toNatClampNeg (0 : Int32)))), (h0b, .inl (G.2 0, 121, .inl (upd bg (0 : Int32).toNatClampNeg (0 : Int32)))), (h0v, .inl (G.2 0, 121, .inl (upd vl (0 : Int32).toNatClampNeg (0 : Int32)))), (h1, .inl (G.2 2, 120, .inl fr))] H locs := hW
  refine W.eq (g2 := F0 m 67 ls []) rfl ?_
  exact Ct.vret hx hb hr hnl hW (by decide) (by decide) d_Tokens_scan_67 ⟨rfl, rfl⟩

abbrev rm_Reader_readStatement0 : Room := { frames := 0, cells := 0, slots := 0, locals := 0 }
set_option maxHeartbeats 4000000 in
set_option maxRecDepth 100000 in
theorem c_Reader_readStatement0 (l : Launch) (G : Gt) (h0 : Nat) (ht : Nat) (hd : Nat) (htt : Nat) (htk : Nat) (htb : Nat) (htv : Nat) (ct : Int32) (kd : Nat → Int32) (hke : kd 0 = 0) : Ct l G y_Reader_readStatement b_Reader_readStatement 1 (some .boolean) rm_Reader_readStatement0 [.ref h0] [(h0, .inr (9, [.ref ht, .ref hd, .int 0])), (ht, .inr (11, [.ref htt, .ref htk, .ref htb, .ref htv, .int ct])), (htk, .inl (G.2 0, 121, .inl kd))] 0 0 (fun v w' => v = some (.int 0) ∧ w' = [(h0, .inr (9, [.ref ht, .ref hd, .int 0])), (ht, .inr (11, [.ref htt, .ref htk, .ref htb, .ref htv, .int ct])), (htk, .inl (G.2 0, 121, .inl kd))]) := by
  refine Ct.of (by decide) (Nat.le_of_ble_eq_true rfl) (fun p e s m args below meth c A ls H locs hx hb hml hr hnl hown hts hnm hK hA hl hW => ?_)
  have hl : lv_has ls 1 [(0, .ref h0)] := hl
  refine lv_aload_n hx hb d_Reader_readStatement_0 rfl (lv_at hl 0 rfl) ?_
  refine Wd.get hx hb hts hown hK hW 0 0 in_Reader w_fl_Reader_12 (by decide) d_Reader_readStatement_1 rfl rfl rfl ?_
  refine Wd.get hx hb hts hown hK hW 1 1 in_Tokens w_fl_Reader_52 (by decide) d_Reader_readStatement_4 rfl rfl rfl ?_
  refine lv_aload_n hx hb d_Reader_readStatement_7 rfl (lv_at hl 0 rfl) ?_
  refine Wd.get hx hb hts hown hK hW 0 2 in_Reader w_fl_Reader_29 (by decide) d_Reader_readStatement_8 rfl rfl rfl ?_
  refine Wd.iald hx hb hK hW 2 d_Reader_readStatement_11 rfl (by unfold vp_in; decide) ?_
  refine lv_topi (fun cz ez => ?_)
  obtain rfl : cz = 0 := ez.trans hke
  refine lv_tableOut (tgt := 74) hx hb d_Reader_readStatement_12 (by decide) rfl ?_
  refine lv_iconst (v := 0) hx hb d_Reader_readStatement_74 (by decide) ?_
  exact Ct.zret hx hb hr hnl hW (by decide) (by decide) d_Reader_readStatement_75 (by decide) ⟨rfl, rfl⟩

abbrev rm_Reader_tokenBegin : Room := { frames := 0, cells := 0, slots := 0, locals := 0 }
set_option maxHeartbeats 4000000 in
set_option maxRecDepth 100000 in
theorem c_Reader_tokenBegin (l : Launch) (G : Gt) (h0 : Nat) (ht : Nat) (hd : Nat) (htt : Nat) (htk : Nat) (htb : Nat) (htv : Nat) (ct : Int32) (bg : Nat → Int32) (x : Int32) (hx0 : vp_in x 121) : Ct l G y_Reader_tokenBegin b_Reader_tokenBegin 1 (some .int) rm_Reader_tokenBegin [.ref h0] [(h0, .inr (9, [.ref ht, .ref hd, .int x])), (ht, .inr (11, [.ref htt, .ref htk, .ref htb, .ref htv, .int ct])), (htb, .inl (G.2 0, 121, .inl bg))] 0 0 (fun v w' => v = some (.int (bg x.toNatClampNeg)) ∧ w' = [(h0, .inr (9, [.ref ht, .ref hd, .int x])), (ht, .inr (11, [.ref htt, .ref htk, .ref htb, .ref htv, .int ct])), (htb, .inl (G.2 0, 121, .inl bg))]) := by
  refine Ct.of (by decide) (Nat.le_of_ble_eq_true rfl) (fun p e s m args below meth c A ls H locs hx hb hml hr hnl hown hts hnm hK hA hl hW => ?_)
  have hl : lv_has ls 1 [(0, .ref h0)] := hl
  refine lv_aload_n hx hb d_Reader_tokenBegin_0 rfl (lv_at hl 0 rfl) ?_
  refine Wd.get hx hb hts hown hK hW 0 0 in_Reader w_fl_Reader_12 (by decide) d_Reader_tokenBegin_1 rfl rfl rfl ?_
  refine Wd.get hx hb hts hown hK hW 1 2 in_Tokens w_fl_Reader_25 (by decide) d_Reader_tokenBegin_4 rfl rfl rfl ?_
  refine lv_aload_n hx hb d_Reader_tokenBegin_7 rfl (lv_at hl 0 rfl) ?_
  refine Wd.get hx hb hts hown hK hW 0 2 in_Reader w_fl_Reader_29 (by decide) d_Reader_tokenBegin_8 rfl rfl rfl ?_
  refine Wd.iald hx hb hK hW 2 d_Reader_tokenBegin_11 rfl hx0 ?_
  exact Ct.iret hx hb hr hnl hW (by decide) (by decide) d_Reader_tokenBegin_12 ⟨rfl, rfl⟩

abbrev rm_Reader_readScript0 : Room := { frames := 2, cells := 0, slots := 0, locals := 47 }
set_option maxHeartbeats 4000000 in
set_option maxRecDepth 100000 in
theorem c_Reader_readScript0 (l : Launch) (G : Gt) (h0 : Nat) (ht : Nat) (hd : Nat) (htt : Nat) (htk : Nat) (htb : Nat) (htv : Nat) (ct : Int32) (tt : Nat → Int32) (kd : Nat → Int32) (bg : Nat → Int32) (vl : Nat → Int32) (x : Int32) (hdk : Nat) (hdt : Nat) (hdf : Nat) (hds : Nat) (hdh : Nat) (cts : Int32) (cp : Int32) (on : Int32) (nm : Int32) (h1 : Nat) (fr : Nat → Int32) : Ct l G y_Reader_readScript b_Reader_readScript 4 (some .boolean) rm_Reader_readScript0 [.ref h0, .ref h1, .int 0] [(h0, .inr (9, [.ref ht, .ref hd, .int x])), (ht, .inr (11, [.ref htt, .ref htk, .ref htb, .ref htv, .int ct])), (htt, .inl (G.2 2, 120, .inl tt)), (htk, .inl (G.2 0, 121, .inl kd)), (htb, .inl (G.2 0, 121, .inl bg)), (htv, .inl (G.2 0, 121, .inl vl)), (hd, .inr (10, [.ref hdk, .ref hdt, .ref hdf, .ref hds, .ref hdh, .int cts, .int cp, .int on, .int nm])), (h1, .inl (G.2 2, 120, .inl fr))] 0 0 (fun v w' => v = some (.int 0) ∧ w' = [(h0, .inr (9, [.ref ht, .ref hd, .int 0])), (ht, .inr (11, [.ref htt, .ref htk, .ref htb, .ref htv, .int ((0 : Int32) + 1)])), (htt, .inl (G.2 2, 120, .inl (va_cpy fr tt 0 0 0))), (htk, .inl (G.2 0, 121, .inl (upd kd (0 : Int32).toNatClampNeg (0 : Int32)))), (htb, .inl (G.2 0, 121, .inl (upd bg (0 : Int32).toNatClampNeg (0 : Int32)))), (htv, .inl (G.2 0, 121, .inl (upd vl (0 : Int32).toNatClampNeg (0 : Int32)))), (hd, .inr (10, [.ref hdk, .ref hdt, .ref hdf, .ref hds, .ref hdh, .int 0, .int 0, .int 0, .int 0])), (h1, .inl (G.2 2, 120, .inl fr))]) := by
  refine Ct.of (by decide) (Nat.le_of_ble_eq_true rfl) (fun p e s m args below meth c A ls H locs hx hb hml hr hnl hown hts hnm hK hA hl hW => ?_)
  have hl : lv_has ls 4 [(0, .ref h0), (1, .ref h1), (2, .int 0)] := hl
  refine lv_aload_n hx hb d_Reader_readScript_0 rfl (lv_at hl 0 rfl) ?_
  refine Wd.get hx hb hts hown hK hW 0 0 in_Reader w_fl_Reader_12 (by decide) d_Reader_readScript_1 rfl rfl rfl ?_
  refine lv_aload_n hx hb d_Reader_readScript_4 rfl (lv_at hl 1 rfl) ?_
  refine lv_iload_n hx hb d_Reader_readScript_5 rfl (lv_at hl 2 rfl) ?_
  refine Ct.callV (As := [.ref h1, .int 0]) (rest := []) hx hb hml hown hts hK hA hl.1 hW (c_Tokens_scan0 l G ht htt htk htb htv ct kd bg vl tt h1 fr ) (cwV 2 hts (good_V w_ml_Reader_33 w_im_Tokens_scan w_se_Tokens_scan w_ini_Tokens w_code_Tokens_scan) rfl rfl rfl yd_Tokens_scan ⟨by decide, by decide⟩) [1, 2, 3, 4, 5, 7] (by decide) rfl (ci := 11) (r := vr_Tokens) rfl rfl rfl rfl rfl (Nat.le_of_ble_eq_true rfl) d_Reader_readScript_6 ⟨by decide, by decide⟩ (fun v w' hp => by obtain ⟨-, rfl⟩ := hp; exact Nat.le_of_ble_eq_true rfl) (fun v w' H locs hp hW => ?_)
  obtain ⟨rfl, rfl⟩ := hp
  have hW : Wd G A s.heap [(h0, .inr (9, [.ref ht, .ref hd, .int x])), (ht, .inr (11, [.ref htt, .ref htk, .ref htb, .ref htv, .int ((0 : Int32) + 1)])), (htt, .inl (G.2 2, 120, .inl (va_cpy fr tt 0 0 0))), (htk, .inl (G.2 0, 121, .inl (upd kd (0 : Int32).toNatClampNeg (0 : Int32)))), (htb, .inl (G.2 0, 121, .inl (upd bg (0 : Int32).toNatClampNeg (0 : Int32)))), (htv, .inl (G.2 0, 121, .inl (upd vl (0 : Int32).toNatClampNeg (0 : Int32)))), (hd, .inr (10, [.ref hdk, .ref hdt, .ref hdf, .ref hds, .ref hdh, .int cts, .int cp, .int on, .int nm])), (h1, .inl (G.2 2, 120, .inl fr))] H locs := hW
  refine W.eq (g2 := F0 m 9 ls []) rfl ?_
  refine lv_aload_n hx hb d_Reader_readScript_9 rfl (lv_at hl 0 rfl) ?_
  refine Wd.get hx hb hts hown hK hW 0 1 in_Reader w_fl_Reader_21 (by decide) d_Reader_readScript_10 rfl rfl rfl ?_
  refine Ct.callV (As := []) (rest := []) hx hb hml hown hts hK hA hl.1 hW (c_Script_clear l G hd hdk hdt hdf hds hdh cts cp on nm ) (cwV 0 hts (good_V w_ml_Reader_37 w_im_Script_clear w_se_Script_clear w_ini_Script w_code_Script_clear) rfl rfl rfl yd_Script_clear ⟨by decide, by decide⟩) [6] (by decide) rfl (ci := 10) (r := vr_Script) rfl rfl rfl rfl rfl (Nat.le_of_ble_eq_true rfl) d_Reader_readScript_13 ⟨by decide, by decide⟩ (fun v w' hp => by obtain ⟨-, rfl⟩ := hp; exact Nat.le_of_ble_eq_true rfl) (fun v w' H locs hp hW => ?_)
  obtain ⟨rfl, rfl⟩ := hp
  have hW : Wd G A s.heap [(h0, .inr (9, [.ref ht, .ref hd, .int x])), (ht, .inr (11, [.ref htt, .ref htk, .ref htb, .ref htv, .int ((0 : Int32) + 1)])), (htt, .inl (G.2 2, 120, .inl (va_cpy fr tt 0 0 0))), (htk, .inl (G.2 0, 121, .inl (upd kd (0 : Int32).toNatClampNeg (0 : Int32)))), (htb, .inl (G.2 0, 121, .inl (upd bg (0 : Int32).toNatClampNeg (0 : Int32)))), (htv, .inl (G.2 0, 121, .inl (upd vl (0 : Int32).toNatClampNeg (0 : Int32)))), (hd, .inr (10, [.ref hdk, .ref hdt, .ref hdf, .ref hds, .ref hdh, .int 0, .int 0, .int 0, .int 0])), (h1, .inl (G.2 2, 120, .inl fr))] H locs := hW
  refine W.eq (g2 := F0 m 16 ls []) rfl ?_
  refine lv_aload_n hx hb d_Reader_readScript_16 rfl (lv_at hl 0 rfl) ?_
  refine lv_iconst (v := 0) hx hb d_Reader_readScript_17 (by decide) ?_
  refine Wd.put hx hb hts hown hK hW 0 2 in_Reader t_Reader_ok n_Reader w_fl_Reader_29 (by decide) d_Reader_readScript_18 rfl rfl rfl rfl rfl (Nat.le_of_ble_eq_true rfl) (fun H locs hW => ?_)
  have hW : Wd G A s.heap [(h0, .inr (9, [.ref ht, .ref hd, .int 0])), (ht, .inr (11, [.ref htt, .ref htk, .ref htb, .ref htv, .int ((0 : Int32) + 1)])), (htt, .inl (G.2 2, 120, .inl (va_cpy fr tt 0 0 0))), (htk, .inl (G.2 0, 121, .inl (upd kd (0 : Int32).toNatClampNeg (0 : Int32)))), (htb, .inl (G.2 0, 121, .inl (upd bg (0 : Int32).toNatClampNeg (0 : Int32)))), (htv, .inl (G.2 0, 121, .inl (upd vl (0 : Int32).toNatClampNeg (0 : Int32)))), (hd, .inr (10, [.ref hdk, .ref hdt, .ref hdf, .ref hds, .ref hdh, .int 0, .int 0, .int 0, .int 0])), (h1, .inl (G.2 2, 120, .inl fr))] H locs := hW
  refine lv_iconst (v := 0) hx hb d_Reader_readScript_21 (by decide) ?_
  refine lv_istore_n (lv' := [(3, .int 0), (0, .ref h0), (1, .ref h1), (2, .int 0)]) hx hb d_Reader_readScript_22 rfl hl (by decide) rfl (fun ls hl => ?_)
  refine lv_iload_n hx hb d_Reader_readScript_23 rfl (lv_at hl 0 rfl) ?_
  refine lv_iload_n hx hb d_Reader_readScript_24 rfl (lv_at hl 3 rfl) ?_
  refine lv_icmp_gt (tgt := 64) hx hb d_Reader_readScript_25 rfl (fun hz => absurd hz (by decide)) (fun _ => ?_)
  refine lv_aload_n hx hb d_Reader_readScript_28 rfl (lv_at hl 1 rfl) ?_
  refine Ct.callV (As := []) (rest := []) hx hb hml hown hts hK hA hl.1 hW (c_Reader_readStatement0 l G h0 ht hd htt htk htb htv ((0 : Int32) + 1) (upd kd (0 : Int32).toNatClampNeg (0 : Int32)) (by simp [upd])) (cwV 0 hts (good_V w_ml_Reader_40 w_im_Reader_readStatement w_se_Reader_readStatement w_ini_Reader w_code_Reader_readStatement) rfl rfl rfl yd_Reader_readStatement ⟨by decide, by decide⟩) [0, 1, 3] (by decide) rfl (ci := 9) (r := vr_Reader) rfl rfl rfl rfl rfl (Nat.le_of_ble_eq_true rfl) d_Reader_readScript_29 ⟨by decide, by decide⟩ (fun v w' hp => by obtain ⟨-, rfl⟩ := hp; exact Nat.le_of_ble_eq_true rfl) (fun v w' H locs hp hW => ?_)
  obtain ⟨rfl, rfl⟩ := hp
  have hW : Wd G A s.heap [(h0, .inr (9, [.ref ht, .ref hd, .int 0])), (ht, .inr (11, [.ref htt, .ref htk, .ref htb, .ref htv, .int ((0 : Int32) + 1)])), (htt, .inl (G.2 2, 120, .inl (va_cpy fr tt 0 0 0))), (htk, .inl (G.2 0, 121, .inl (upd kd (0 : Int32).toNatClampNeg (0 : Int32)))), (htb, .inl (G.2 0, 121, .inl (upd bg (0 : Int32).toNatClampNeg (0 : Int32)))), (htv, .inl (G.2 0, 121, .inl (upd vl (0 : Int32).toNatClampNeg (0 : Int32)))), (hd, .inr (10, [.ref hdk, .ref hdt, .ref hdf, .ref hds, .ref hdh, .int 0, .int 0, .int 0, .int 0])), (h1, .inl (G.2 2, 120, .inl fr))] H locs := hW
  refine W.eq (g2 := F0 m 32 ls [.int 0]) rfl ?_
  refine lv_if_ne (tgt := 37) hx hb d_Reader_readScript_32 rfl (fun hz => absurd (by decide) hz) (fun _ => ?_)
  refine lv_iconst (v := 0) hx hb d_Reader_readScript_35 (by decide) ?_
  exact Ct.zret hx hb hr hnl hW (by decide) (by decide) d_Reader_readScript_36 (by decide) ⟨rfl, rfl⟩

abbrev rm__TC_compile0 : Room := { frames := 6, cells := 1, slots := 6, locals := 82 }
set_option maxHeartbeats 4000000 in
set_option maxRecDepth 100000 in
theorem cx_TC_compile0 (l : Launch) (G : Gt) (V : Ev) (hfl : l.flags = flags0) (h0 : Nat) (tx : Nat) (rd : Nat) (sc : Nat) (sth : Int32) (wa : Int32) (ip : Nat) (is_ : Nat) (ky : Nat) (ks : Nat) (of_ : Nat) (ou : Nat) (oc : Int32) (rn : Int32) (ht : Nat) (hd : Nat) (htt : Nat) (htk : Nat) (htb : Nat) (htv : Nat) (ct : Int32) (tt : Nat → Int32) (kd : Nat → Int32) (bg : Nat → Int32) (vl : Nat → Int32) (x : Int32) (hdk : Nat) (hdt : Nat) (hdf : Nat) (hds : Nat) (hdh : Nat) (cts : Int32) (cp : Int32) (on : Int32) (nm : Int32) (fr : Nat → Int32) : CtX l G V y_TC_compile (.code y_TC_compile b_TC_compile 1 (some .int)) rm__TC_compile0 [.ref h0] [(h0, .inr (0, [.ref tx, .int 0, .ref rd, .ref sc, .int sth, .int wa, .ref ip, .ref is_, .ref ky, .ref ks, .ref of_, .ref ou, .int oc, .int rn])), (tx, .inl (G.2 2, 120, .inl fr)), (rd, .inr (9, [.ref ht, .ref hd, .int x])), (ht, .inr (11, [.ref htt, .ref htk, .ref htb, .ref htv, .int ct])), (htt, .inl (G.2 2, 120, .inl tt)), (htk, .inl (G.2 0, 121, .inl kd)), (htb, .inl (G.2 0, 121, .inl bg)), (htv, .inl (G.2 0, 121, .inl vl)), (hd, .inr (10, [.ref hdk, .ref hdt, .ref hdf, .ref hds, .ref hdh, .int cts, .int cp, .int on, .int nm]))] 1 6 (fun o w' => o = .inr "java/lang/IllegalArgumentException" ∧ w' = [(h0, .inr (0, [.ref tx, .int 0, .ref rd, .ref sc, .int sth, .int ((upd bg (0 : Int32).toNatClampNeg (0 : Int32)) (0 : Int32).toNatClampNeg), .ref ip, .ref is_, .ref ky, .ref ks, .ref of_, .ref ou, .int oc, .int rn])), (tx, .inl (G.2 2, 120, .inl fr)), (rd, .inr (9, [.ref ht, .ref hd, .int 0])), (ht, .inr (11, [.ref htt, .ref htk, .ref htb, .ref htv, .int ((0 : Int32) + 1)])), (htt, .inl (G.2 2, 120, .inl (va_cpy fr tt 0 0 0))), (htk, .inl (G.2 0, 121, .inl (upd kd (0 : Int32).toNatClampNeg (0 : Int32)))), (htb, .inl (G.2 0, 121, .inl (upd bg (0 : Int32).toNatClampNeg (0 : Int32)))), (htv, .inl (G.2 0, 121, .inl (upd vl (0 : Int32).toNatClampNeg (0 : Int32)))), (hd, .inr (10, [.ref hdk, .ref hdt, .ref hdf, .ref hds, .ref hdh, .int 0, .int 0, .int 0, .int 0]))]) := by
  refine CtX.of HdOf.code (by decide) (Nat.le_of_ble_eq_true rfl) (fun p e s m args below meth c A ls H locs hx hb hml hr hnl hown hts hnm hK hA hl hW hE htab => ?_)
  have hl : lv_has ls 1 [(0, .ref h0)] := hl
  refine lv_aload_n hx hb d_TC_compile_0 rfl (lv_at hl 0 rfl) ?_
  refine Wd.get hx hb hts hown hK hW 0 2 in_TC w_fl_TC_16 (by decide) d_TC_compile_1 rfl rfl rfl ?_
  refine lv_aload_n hx hb d_TC_compile_4 rfl (lv_at hl 0 rfl) ?_
  refine Wd.get hx hb hts hown hK hW 0 0 in_TC w_fl_TC_9 (by decide) d_TC_compile_5 rfl rfl rfl ?_
  refine lv_aload_n hx hb d_TC_compile_8 rfl (lv_at hl 0 rfl) ?_
  refine Wd.get hx hb hts hown hK hW 0 1 in_TC w_fl_TC_56 (by decide) d_TC_compile_9 rfl rfl rfl ?_
  refine Ct.callV (As := [.ref tx, .int 0]) (rest := []) hx hb hml hown hts hK hA hl.1 hW (c_Reader_readScript0 l G rd ht hd htt htk htb htv ct tt kd bg vl x hdk hdt hdf hds hdh cts cp on nm tx fr ) (cwV 2 hts (good_V w_ml_TC_59 w_im_Reader_readScript w_se_Reader_readScript w_ini_Reader w_code_Reader_readScript) rfl rfl rfl yd_Reader_readScript ⟨by decide, by decide⟩) [2, 3, 4, 5, 6, 7, 8, 1] (by decide) rfl (ci := 9) (r := vr_Reader) rfl rfl rfl rfl rfl (Nat.le_of_ble_eq_true rfl) d_TC_compile_12 ⟨by decide, by decide⟩ (fun v w' hp => by obtain ⟨-, rfl⟩ := hp; exact Nat.le_of_ble_eq_true rfl) (fun v w' H locs hp hW => ?_)
  obtain ⟨rfl, rfl⟩ := hp
  have hW : Wd G A s.heap [(h0, .inr (0, [.ref tx, .int 0, .ref rd, .ref sc, .int sth, .int wa, .ref ip, .ref is_, .ref ky, .ref ks, .ref of_, .ref ou, .int oc, .int rn])), (tx, .inl (G.2 2, 120, .inl fr)), (rd, .inr (9, [.ref ht, .ref hd, .int 0])), (ht, .inr (11, [.ref htt, .ref htk, .ref htb, .ref htv, .int ((0 : Int32) + 1)])), (htt, .inl (G.2 2, 120, .inl (va_cpy fr tt 0 0 0))), (htk, .inl (G.2 0, 121, .inl (upd kd (0 : Int32).toNatClampNeg (0 : Int32)))), (htb, .inl (G.2 0, 121, .inl (upd bg (0 : Int32).toNatClampNeg (0 : Int32)))), (htv, .inl (G.2 0, 121, .inl (upd vl (0 : Int32).toNatClampNeg (0 : Int32)))), (hd, .inr (10, [.ref hdk, .ref hdt, .ref hdf, .ref hds, .ref hdh, .int 0, .int 0, .int 0, .int 0]))] H locs := hW
  refine W.eq (g2 := F0 m 15 ls [.int 0]) rfl ?_
  refine lv_if_ne (tgt := 39) hx hb d_TC_compile_15 rfl (fun hz => absurd (by decide) hz) (fun _ => ?_)
  refine lv_aload_n hx hb d_TC_compile_18 rfl (lv_at hl 0 rfl) ?_
  refine lv_aload_n hx hb d_TC_compile_19 rfl (lv_at hl 0 rfl) ?_
  refine Wd.get hx hb hts hown hK hW 0 2 in_TC w_fl_TC_16 (by decide) d_TC_compile_20 rfl rfl rfl ?_
  refine Ct.callV (As := []) (rest := [.ref h0]) hx hb hml hown hts hK hA hl.1 hW (c_Reader_tokenBegin l G rd ht hd htt htk htb htv ((0 : Int32) + 1) (upd bg (0 : Int32).toNatClampNeg (0 : Int32)) (0 : Int32) (by unfold vp_in; decide)) (cwV 0 hts (good_V w_ml_TC_63 w_im_Reader_tokenBegin w_se_Reader_tokenBegin w_ini_Reader w_code_Reader_tokenBegin) rfl rfl rfl yd_Reader_tokenBegin ⟨by decide, by decide⟩) [2, 3, 6] (by decide) rfl (ci := 9) (r := vr_Reader) rfl rfl rfl rfl rfl (Nat.le_of_ble_eq_true rfl) d_TC_compile_23 ⟨by decide, by decide⟩ (fun v w' hp => by obtain ⟨-, rfl⟩ := hp; exact Nat.le_of_ble_eq_true rfl) (fun v w' H locs hp hW => ?_)
  obtain ⟨rfl, rfl⟩ := hp
  have hW : Wd G A s.heap [(h0, .inr (0, [.ref tx, .int 0, .ref rd, .ref sc, .int sth, .int wa, .ref ip, .ref is_, .ref ky, .ref ks, .ref of_, .ref ou, .int oc, .int rn])), (tx, .inl (G.2 2, 120, .inl fr)), (rd, .inr (9, [.ref ht, .ref hd, .int 0])), (ht, .inr (11, [.ref htt, .ref htk, .ref htb, .ref htv, .int ((0 : Int32) + 1)])), (htt, .inl (G.2 2, 120, .inl (va_cpy fr tt 0 0 0))), (htk, .inl (G.2 0, 121, .inl (upd kd (0 : Int32).toNatClampNeg (0 : Int32)))), (htb, .inl (G.2 0, 121, .inl (upd bg (0 : Int32).toNatClampNeg (0 : Int32)))), (htv, .inl (G.2 0, 121, .inl (upd vl (0 : Int32).toNatClampNeg (0 : Int32)))), (hd, .inr (10, [.ref hdk, .ref hdt, .ref hdf, .ref hds, .ref hdh, .int 0, .int 0, .int 0, .int 0]))] H locs := hW
  refine W.eq (g2 := F0 m 26 ls [.int ((upd bg (0 : Int32).toNatClampNeg (0 : Int32)) (0 : Int32).toNatClampNeg), .ref h0]) rfl ?_
  refine Wd.put hx hb hts hown hK hW 0 5 in_TC t_TC_ok n_TC w_fl_TC_27 (by decide) d_TC_compile_26 rfl rfl rfl rfl rfl (Nat.le_of_ble_eq_true rfl) (fun H locs hW => ?_)
  have hW : Wd G A s.heap [(h0, .inr (0, [.ref tx, .int 0, .ref rd, .ref sc, .int sth, .int ((upd bg (0 : Int32).toNatClampNeg (0 : Int32)) (0 : Int32).toNatClampNeg), .ref ip, .ref is_, .ref ky, .ref ks, .ref of_, .ref ou, .int oc, .int rn])), (tx, .inl (G.2 2, 120, .inl fr)), (rd, .inr (9, [.ref ht, .ref hd, .int 0])), (ht, .inr (11, [.ref htt, .ref htk, .ref htb, .ref htv, .int ((0 : Int32) + 1)])), (htt, .inl (G.2 2, 120, .inl (va_cpy fr tt 0 0 0))), (htk, .inl (G.2 0, 121, .inl (upd kd (0 : Int32).toNatClampNeg (0 : Int32)))), (htb, .inl (G.2 0, 121, .inl (upd bg (0 : Int32).toNatClampNeg (0 : Int32)))), (htv, .inl (G.2 0, 121, .inl (upd vl (0 : Int32).toNatClampNeg (0 : Int32)))), (hd, .inr (10, [.ref hdk, .ref hdt, .ref hdf, .ref hds, .ref hdh, .int 0, .int 0, .int 0, .int 0]))] H locs := hW
  exact CtX.throw (ix := 67) (ic := 71) (i := 4) (X := "java/lang/IllegalArgumentException") hx hb hml hl.1 hnl htab hfl hown hts hA hW hE (by decide) (by decide +kernel) w_cl_TC_67 w_ini_JIllegalArgumentException (by decide) rfl d_TC_compile_29 d_TC_compile_32 d_TC_compile_33 d_TC_compile_35 d_TC_compile_38 (by decide) (by decide) (by decide) (by decide) (by decide) (by decide) ⟨rfl, rfl⟩

abbrev rm__TC_run0 : Room := { frames := 6, cells := 1, slots := 6, locals := 82 }
set_option maxHeartbeats 4000000 in
set_option maxRecDepth 100000 in
theorem cx_TC_run0 (l : Launch) (G : Gt) (V : Ev) (hfl : l.flags = flags0) (h0 : Nat) (tx : Nat) (rd : Nat) (sc : Nat) (wa : Int32) (ip : Nat) (is_ : Nat) (ky : Nat) (ks : Nat) (of_ : Nat) (ou : Nat) (oc : Int32) (rn : Int32) (ln : Int32) (x : Int32) : CtX l G V y_TC_run (.code y_TC_run b_TC_run 2 (some .int)) rm__TC_run0 [.ref h0, .int x] [(h0, .inr (0, [.ref tx, .int ln, .ref rd, .ref sc, .int 0, .int wa, .ref ip, .ref is_, .ref ky, .ref ks, .ref of_, .ref ou, .int oc, .int rn]))] 1 6 (fun o w' => o = .inr "java/lang/IllegalStateException" ∧ w' = [(h0, .inr (0, [.ref tx, .int ln, .ref rd, .ref sc, .int 0, .int wa, .ref ip, .ref is_, .ref ky, .ref ks, .ref of_, .ref ou, .int oc, .int rn]))]) := by
  refine CtX.of HdOf.code (by decide) (Nat.le_of_ble_eq_true rfl) (fun p e s m args below meth c A ls H locs hx hb hml hr hnl hown hts hnm hK hA hl hW hE htab => ?_)
  have hl : lv_has ls 2 [(0, .ref h0), (1, .int x)] := hl
  refine lv_aload_n hx hb d_TC_run_0 rfl (lv_at hl 0 rfl) ?_
  refine Wd.get hx hb hts hown hK hW 0 4 in_TC w_fl_TC_82 (by decide) d_TC_run_1 rfl rfl rfl ?_
  refine lv_if_eq (tgt := 21) hx hb d_TC_run_4 rfl (fun _ => ?_) (fun hz => absurd (by decide) hz)
  exact CtX.throw (ix := 106) (ic := 110) (i := 7) (X := "java/lang/IllegalStateException") hx hb hml hl.1 hnl htab hfl hown hts hA hW hE (by decide) (by decide +kernel) w_cl_TC_106 w_ini_JIllegalStateException (by decide) rfl d_TC_run_21 d_TC_run_24 d_TC_run_25 d_TC_run_27 d_TC_run_30 (by decide) (by decide) (by decide) (by decide) (by decide) (by decide) ⟨rfl, rfl⟩

