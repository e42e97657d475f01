abbrev rm__TC_input_0 : Room := { frames := 6, cells := 1, slots := 6, locals := 82 }
set_option maxHeartbeats 4000000 in
set_option maxRecDepth 100000 in
theorem cx_TC_input_0 (l : Launch) (G : Gt) (V : Ev) (hfl : l.flags = flags0) (h0 : Nat) (tx : Nat) (rd : Nat) (sc : Nat) (sth : Int32) (wa : Int32) (ip : Nat) (is_ : Nat) (ky : Nat) (ks : Nat) (of_ : Nat) (ou : Nat) (oc : Int32) (rn : Int32) (ln : Int32) (fi : Nat → Int32) (fs : Nat → Int32) (x : Int32) (y : Int32) (hs0 : x < 0) : CtX l G V y_TC_input (.code y_TC_input b_TC_input 3 none) rm__TC_input_0 [.ref h0, .int x, .int y] [(h0, .inr (0, [.ref tx, .int ln, .ref rd, .ref sc, .int sth, .int wa, .ref ip, .ref is_, .ref ky, .ref ks, .ref of_, .ref ou, .int oc, .int rn])), (ip, .inl (G.2 0, 8, .inl fi)), (is_, .inl (G.2 3, 8, .inl fs))] 1 6 (fun o w' => o = .inr "java/lang/IllegalArgumentException" ∧ w' = [(h0, .inr (0, [.ref tx, .int ln, .ref rd, .ref sc, .int sth, .int wa, .ref ip, .ref is_, .ref ky, .ref ks, .ref of_, .ref ou, .int oc, .int rn])), (ip, .inl (G.2 0, 8, .inl fi)), (is_, .inl (G.2 3, 8, .inl fs))]) := by
  refine CtX.of HdOf.code (by decide) (Nat.le_of_ble_eq_true rfl) (fun p e s m args below meth c A ls H locs hx hb hml hr hnl hown hts hnm hK hA hl hW hE htab => ?_)
  have hl : lv_has ls 3 [(0, .ref h0), (1, .int x), (2, .int y)] := hl
  refine lv_iload_n hx hb d_TC_input_0 rfl (lv_at hl 1 rfl) ?_
  refine lv_if_lt (tgt := 10) hx hb d_TC_input_1 rfl (fun _ => ?_) (fun hz => absurd hs0 hz)
  exact CtX.throw (ix := 67) (ic := 71) (i := 5) (X := "java/lang/IllegalArgumentException") hx hb hml hl.1 hnl htab hfl hown hts hA hW hE (by decide) (by decide +kernel) w_cl_TC_67 w_ini_JIllegalArgumentException (by decide) rfl d_TC_input_10 d_TC_input_13 d_TC_input_14 d_TC_input_16 d_TC_input_19 (by decide) (by decide) (by decide) (by decide) (by decide) (by decide) ⟨rfl, rfl⟩

abbrev rm__TC_input_1 : Room := { frames := 0, cells := 0, slots := 0, locals := 0 }
set_option maxHeartbeats 4000000 in
set_option maxRecDepth 100000 in
theorem cx_TC_input_1 (l : Launch) (G : Gt) (V : Ev) (hfl : l.flags = flags0) (h0 : Nat) (tx : Nat) (rd : Nat) (sc : Nat) (sth : Int32) (wa : Int32) (ip : Nat) (is_ : Nat) (ky : Nat) (ks : Nat) (of_ : Nat) (ou : Nat) (oc : Int32) (rn : Int32) (ln : Int32) (fi : Nat → Int32) (fs : Nat → Int32) (x : Int32) (y : Int32) (hs0 : ¬ (x < 0)) (hs1 : x < 8) : CtX l G V y_TC_input (.code y_TC_input b_TC_input 3 none) rm__TC_input_1 [.ref h0, .int x, .int y] [(h0, .inr (0, [.ref tx, .int ln, .ref rd, .ref sc, .int sth, .int wa, .ref ip, .ref is_, .ref ky, .ref ks, .ref of_, .ref ou, .int oc, .int rn])), (ip, .inl (G.2 0, 8, .inl fi)), (is_, .inl (G.2 3, 8, .inl fs))] 0 0 (fun o w' => o = .inl none ∧ w' = [(h0, .inr (0, [.ref tx, .int ln, .ref rd, .ref sc, .int sth, .int wa, .ref ip, .ref is_, .ref ky, .ref ks, .ref of_, .ref ou, .int oc, .int rn])), (ip, .inl (G.2 0, 8, .inl (upd fi x.toNatClampNeg y))), (is_, .inl (G.2 3, 8, .inl (upd fs x.toNatClampNeg (vp_nar .boolean 1))))]) := by
  refine CtX.of HdOf.code (by decide) (Nat.le_of_ble_eq_true rfl) (fun p e s m args below meth c A ls H locs hx hb hml hr hnl hown hts hnm hK hA hl hW hE htab => ?_)
  have hl : lv_has ls 3 [(0, .ref h0), (1, .int x), (2, .int y)] := hl
  refine lv_iload_n hx hb d_TC_input_0 rfl (lv_at hl 1 rfl) ?_
  refine lv_if_lt (tgt := 10) hx hb d_TC_input_1 rfl (fun hz => absurd hz hs0) (fun _ => ?_)
  refine lv_iload_n hx hb d_TC_input_4 rfl (lv_at hl 1 rfl) ?_
  refine lv_bipush (v := 8) hx hb d_TC_input_5 (by decide) ?_
  refine lv_icmp_lt (tgt := 20) hx hb d_TC_input_7 rfl (fun _ => ?_) (fun hz => absurd hs1 hz)
  refine lv_aload_n hx hb d_TC_input_20 rfl (lv_at hl 0 rfl) ?_
  refine Wd.get hx hb hts hown hK hW 0 6 in_TC w_fl_TC_31 (by decide) d_TC_input_21 rfl rfl rfl ?_
  refine lv_iload_n hx hb d_TC_input_24 rfl (lv_at hl 1 rfl) ?_
  refine lv_iload_n hx hb d_TC_input_25 rfl (lv_at hl 2 rfl) ?_
  refine Wd.iast hx hb hK hW 1 d_TC_input_26 rfl (vp_in_t 8 (by decide) hs0 hs1) (fun H locs hW => ?_)
  have hW : Wd G A s.heap [(h0, .inr (0, [.ref tx, .int ln, .ref rd, .ref sc, .int sth, .int wa, .ref ip, .ref is_, .ref ky, .ref ks, .ref of_, .ref ou, .int oc, .int rn])), (ip, .inl (G.2 0, 8, .inl (upd fi x.toNatClampNeg y))), (is_, .inl (G.2 3, 8, .inl fs))] H locs := hW
  refine lv_aload_n hx hb d_TC_input_27 rfl (lv_at hl 0 rfl) ?_
  refine Wd.get hx hb hts hown hK hW 0 7 in_TC w_fl_TC_35 (by decide) d_TC_input_28 rfl rfl rfl ?_
  refine lv_iload_n hx hb d_TC_input_31 rfl (lv_at hl 1 rfl) ?_
  refine lv_iconst (v := 1) hx hb d_TC_input_32 (by decide) ?_
  refine Wd.zast hx hb hK hW 2 d_TC_input_33 rfl (vp_in_t 8 (by decide) hs0 hs1) (fun H locs hW => ?_)
  have hW : Wd G A s.heap [(h0, .inr (0, [.ref tx, .int ln, .ref rd, .ref sc, .int sth, .int wa, .ref ip, .ref is_, .ref ky, .ref ks, .ref of_, .ref ou, .int oc, .int rn])), (ip, .inl (G.2 0, 8, .inl (upd fi x.toNatClampNeg y))), (is_, .inl (G.2 3, 8, .inl (upd fs x.toNatClampNeg (vp_nar .boolean 1))))] H locs := hW
  exact CtX.vret hx hb hr hnl hW (by decide) (by decide) d_TC_input_34 ⟨rfl, rfl⟩

abbrev rm__TC_input_2 : Room := { frames := 6, cells := 1, slots := 6, locals := 82 }
set_option maxHeartbeats 4000000 in
set_option maxRecDepth 100000 in
theorem cx_TC_input_2 (l : Launch) (G : Gt) (V : Ev) (hfl : l.flags = flags0) (h0 : Nat) (tx : Nat) (rd : Nat) (sc : Nat) (sth : Int32) (wa : Int32) (ip : Nat) (is_ : Nat) (ky : Nat) (ks : Nat) (of_ : Nat) (ou : Nat) (oc : Int32) (rn : Int32) (ln : Int32) (fi : Nat → Int32) (fs : Nat → Int32) (x : Int32) (y : Int32) (hs0 : ¬ (x < 0)) (hs1 : ¬ (x < 8)) : CtX l G V y_TC_input (.code y_TC_input b_TC_input 3 none) rm__TC_input_2 [.ref h0, .int x, .int y] [(h0, .inr (0, [.ref tx, .int ln, .ref rd, .ref sc, .int sth, .int wa, .ref ip, .ref is_, .ref ky, .ref ks, .ref of_, .ref ou, .int oc, .int rn])), (ip, .inl (G.2 0, 8, .inl fi)), (is_, .inl (G.2 3, 8, .inl fs))] 1 6 (fun o w' => o = .inr "java/lang/IllegalArgumentException" ∧ w' = [(h0, .inr (0, [.ref tx, .int ln, .ref rd, .ref sc, .int sth, .int wa, .ref ip, .ref is_, .ref ky, .ref ks, .ref of_, .ref ou, .int oc, .int rn])), (ip, .inl (G.2 0, 8, .inl fi)), (is_, .inl (G.2 3, 8, .inl fs))]) := by
  refine CtX.of HdOf.code (by decide) (Nat.le_of_ble_eq_true rfl) (fun p e s m args below meth c A ls H locs hx hb hml hr hnl hown hts hnm hK hA hl hW hE htab => ?_)
  have hl : lv_has ls 3 [(0, .ref h0), (1, .int x), (2, .int y)] := hl
  refine lv_iload_n hx hb d_TC_input_0 rfl (lv_at hl 1 rfl) ?_
  refine lv_if_lt (tgt := 10) hx hb d_TC_input_1 rfl (fun hz => absurd hz hs0) (fun _ => ?_)
  refine lv_iload_n hx hb d_TC_input_4 rfl (lv_at hl 1 rfl) ?_
  refine lv_bipush (v := 8) hx hb d_TC_input_5 (by decide) ?_
  refine lv_icmp_lt (tgt := 20) hx hb d_TC_input_7 rfl (fun hz => absurd hz hs1) (fun _ => ?_)
  exact CtX.throw (ix := 67) (ic := 71) (i := 5) (X := "java/lang/IllegalArgumentException") hx hb hml hl.1 hnl htab hfl hown hts hA hW hE (by decide) (by decide +kernel) w_cl_TC_67 w_ini_JIllegalArgumentException (by decide) rfl d_TC_input_10 d_TC_input_13 d_TC_input_14 d_TC_input_16 d_TC_input_19 (by decide) (by decide) (by decide) (by decide) (by decide) (by decide) ⟨rfl, rfl⟩

abbrev rm__TC_seed_0 : Room := { frames := 6, cells := 1, slots := 6, locals := 82 }
set_option maxHeartbeats 4000000 in
set_option maxRecDepth 100000 in
theorem cx_TC_seed_0 (l : Launch) (G : Gt) (V : Ev) (hfl : l.flags = flags0) (h0 : Nat) (tx : Nat) (rd : Nat) (sc : Nat) (sth : Int32) (wa : Int32) (ip : Nat) (is_ : Nat) (ky : Nat) (ks : Nat) (of_ : Nat) (ou : Nat) (oc : Int32) (rn : Int32) (ln : Int32) (fk : Nat → Int64) (fs : Nat → Int32) (x : Int32) (y : Int32) (z : Int32) (hs0 : x < 0) : CtX l G V y_TC_seed (.code y_TC_seed b_TC_seed 4 none) rm__TC_seed_0 [.ref h0, .int x, .int y, .int z] [(h0, .inr (0, [.ref tx, .int ln, .ref rd, .ref sc, .int sth, .int wa, .ref ip, .ref is_, .ref ky, .ref ks, .ref of_, .ref ou, .int oc, .int rn])), (ky, .inl (G.2 1, 3, .inr (.inl fk))), (ks, .inl (G.2 3, 3, .inl fs))] 1 6 (fun o w' => o = .inr "java/lang/IllegalArgumentException" ∧ w' = [(h0, .inr (0, [.ref tx, .int ln, .ref rd, .ref sc, .int sth, .int wa, .ref ip, .ref is_, .ref ky, .ref ks, .ref of_, .ref ou, .int oc, .int rn])), (ky, .inl (G.2 1, 3, .inr (.inl fk))), (ks, .inl (G.2 3, 3, .inl fs))]) := by
  refine CtX.of HdOf.code (by decide) (Nat.le_of_ble_eq_true rfl) (fun p e s m args below meth c A ls H locs hx hb hml hr hnl hown hts hnm hK hA hl hW hE htab => ?_)
  have hl : lv_has ls 4 [(0, .ref h0), (1, .int x), (2, .int y), (3, .int z)] := hl
  refine lv_iload_n hx hb d_TC_seed_0 rfl (lv_at hl 1 rfl) ?_
  refine lv_if_lt (tgt := 9) hx hb d_TC_seed_1 rfl (fun _ => ?_) (fun hz => absurd hs0 hz)
  exact CtX.throw (ix := 67) (ic := 71) (i := 6) (X := "java/lang/IllegalArgumentException") hx hb hml hl.1 hnl htab hfl hown hts hA hW hE (by decide) (by decide +kernel) w_cl_TC_67 w_ini_JIllegalArgumentException (by decide) rfl d_TC_seed_9 d_TC_seed_12 d_TC_seed_13 d_TC_seed_15 d_TC_seed_18 (by decide) (by decide) (by decide) (by decide) (by decide) (by decide) ⟨rfl, rfl⟩

abbrev rm__TC_seed_1 : Room := { frames := 1, cells := 0, slots := 0, locals := 22 }
set_option maxHeartbeats 4000000 in
set_option maxRecDepth 100000 in
theorem cx_TC_seed_1 (l : Launch) (G : Gt) (V : Ev) (hfl : l.flags = flags0) (h0 : Nat) (tx : Nat) (rd : Nat) (sc : Nat) (sth : Int32) (wa : Int32) (ip : Nat) (is_ : Nat) (ky : Nat) (ks : Nat) (of_ : Nat) (ou : Nat) (oc : Int32) (rn : Int32) (ln : Int32) (fk : Nat → Int64) (fs : Nat → Int32) (x : Int32) (y : Int32) (z : Int32) (hs0 : ¬ (x < 0)) (hs1 : x < 3) : CtX l G V y_TC_seed (.code y_TC_seed b_TC_seed 4 none) rm__TC_seed_1 [.ref h0, .int x, .int y, .int z] [(h0, .inr (0, [.ref tx, .int ln, .ref rd, .ref sc, .int sth, .int wa, .ref ip, .ref is_, .ref ky, .ref ks, .ref of_, .ref ou, .int oc, .int rn])), (ky, .inl (G.2 1, 3, .inr (.inl fk))), (ks, .inl (G.2 3, 3, .inl fs))] 0 0 (fun o w' => o = .inl none ∧ w' = [(h0, .inr (0, [.ref tx, .int ln, .ref rd, .ref sc, .int sth, .int wa, .ref ip, .ref is_, .ref ky, .ref ks, .ref of_, .ref ou, .int oc, .int rn])), (ky, .inl (G.2 1, 3, .inr (.inl (vp_updL fk x.toNatClampNeg (o_Pads_key_r x y z))))), (ks, .inl (G.2 3, 3, .inl (upd fs x.toNatClampNeg (vp_nar .boolean 1))))]) := by
  refine CtX.of HdOf.code (by decide) (Nat.le_of_ble_eq_true rfl) (fun p e s m args below meth c A ls H locs hx hb hml hr hnl hown hts hnm hK hA hl hW hE htab => ?_)
  have hl : lv_has ls 4 [(0, .ref h0), (1, .int x), (2, .int y), (3, .int z)] := hl
  refine lv_iload_n hx hb d_TC_seed_0 rfl (lv_at hl 1 rfl) ?_
  refine lv_if_lt (tgt := 9) hx hb d_TC_seed_1 rfl (fun hz => absurd hz hs0) (fun _ => ?_)
  refine lv_iload_n hx hb d_TC_seed_4 rfl (lv_at hl 1 rfl) ?_
  refine lv_iconst (v := 3) hx hb d_TC_seed_5 (by decide) ?_
  refine lv_icmp_lt (tgt := 19) hx hb d_TC_seed_6 rfl (fun _ => ?_) (fun hz => absurd hs1 hz)
  refine lv_aload_n hx hb d_TC_seed_19 rfl (lv_at hl 0 rfl) ?_
  refine Wd.get hx hb hts hown hK hW 0 8 in_TC w_fl_TC_39 (by decide) d_TC_seed_20 rfl rfl rfl ?_
  refine lv_iload_n hx hb d_TC_seed_23 rfl (lv_at hl 1 rfl) ?_
  refine lv_iload_n hx hb d_TC_seed_24 rfl (lv_at hl 1 rfl) ?_
  refine lv_iload_n hx hb d_TC_seed_25 rfl (lv_at hl 2 rfl) ?_
  refine lv_iload_n hx hb d_TC_seed_26 rfl (lv_at hl 3 rfl) ?_
  refine Ct.callS (As := [.int x, .int y, .int z]) (rest := [.int x, .ref ky]) hx hb hml hown hts hK hA hl.1 hW (c_Pads_key l G x y z ) (va_cwS 3 hts (good_S w_ml_TC_93 w_st_Pads_key w_ini_Pads w_code_Pads_key) rfl rfl rfl yd_Pads_key.2 ⟨by decide, by decide⟩) [] (by decide) rfl rfl rfl (Nat.le_of_ble_eq_true rfl) d_TC_seed_27 ⟨by decide, by decide⟩ (fun v w' hp => by obtain ⟨-, rfl⟩ := hp; exact Nat.le_of_ble_eq_true rfl) (fun v w' H locs hp hW => ?_)
  obtain ⟨rfl, rfl⟩ := hp
  have hW : Wd G A s.heap [(h0, .inr (0, [.ref tx, .int ln, .ref rd, .ref sc, .int sth, .int wa, .ref ip, .ref is_, .ref ky, .ref ks, .ref of_, .ref ou, .int oc, .int rn])), (ky, .inl (G.2 1, 3, .inr (.inl fk))), (ks, .inl (G.2 3, 3, .inl fs))] H locs := hW
  refine W.eq (g2 := F0 m 30 ls [.long (o_Pads_key_r x y z), .int x, .ref ky]) rfl ?_
  refine Wd.last hx hb hK hW 1 d_TC_seed_30 rfl (vp_in_t 3 (by decide) hs0 hs1) (fun H locs hW => ?_)
  have hW : Wd G A s.heap [(h0, .inr (0, [.ref tx, .int ln, .ref rd, .ref sc, .int sth, .int wa, .ref ip, .ref is_, .ref ky, .ref ks, .ref of_, .ref ou, .int oc, .int rn])), (ky, .inl (G.2 1, 3, .inr (.inl (vp_updL fk x.toNatClampNeg (o_Pads_key_r x y z))))), (ks, .inl (G.2 3, 3, .inl fs))] H locs := hW
  refine lv_aload_n hx hb d_TC_seed_31 rfl (lv_at hl 0 rfl) ?_
  refine Wd.get hx hb hts hown hK hW 0 9 in_TC w_fl_TC_43 (by decide) d_TC_seed_32 rfl rfl rfl ?_
  refine lv_iload_n hx hb d_TC_seed_35 rfl (lv_at hl 1 rfl) ?_
  refine lv_iconst (v := 1) hx hb d_TC_seed_36 (by decide) ?_
  refine Wd.zast hx hb hK hW 2 d_TC_seed_37 rfl (vp_in_t 3 (by decide) hs0 hs1) (fun H locs hW => ?_)
  have hW : Wd G A s.heap [(h0, .inr (0, [.ref tx, .int ln, .ref rd, .ref sc, .int sth, .int wa, .ref ip, .ref is_, .ref ky, .ref ks, .ref of_, .ref ou, .int oc, .int rn])), (ky, .inl (G.2 1, 3, .inr (.inl (vp_updL fk x.toNatClampNeg (o_Pads_key_r x y z))))), (ks, .inl (G.2 3, 3, .inl (upd fs x.toNatClampNeg (vp_nar .boolean 1))))] H locs := hW
  exact CtX.vret hx hb hr hnl hW (by decide) (by decide) d_TC_seed_38 ⟨rfl, rfl⟩

abbrev rm__TC_seed_2 : Room := { frames := 6, cells := 1, slots := 6, locals := 82 }
set_option maxHeartbeats 4000000 in
set_option maxRecDepth 100000 in
theorem cx_TC_seed_2 (l : Launch) (G : Gt) (V : Ev) (hfl : l.flags = flags0) (h0 : Nat) (tx : Nat) (rd : Nat) (sc : Nat) (sth : Int32) (wa : Int32) (ip : Nat) (is_ : Nat) (ky : Nat) (ks : Nat) (of_ : Nat) (ou : Nat) (oc : Int32) (rn : Int32) (ln : Int32) (fk : Nat → Int64) (fs : Nat → Int32) (x : Int32) (y : Int32) (z : Int32) (hs0 : ¬ (x < 0)) (hs1 : ¬ (x < 3)) : CtX l G V y_TC_seed (.code y_TC_seed b_TC_seed 4 none) rm__TC_seed_2 [.ref h0, .int x, .int y, .int z] [(h0, .inr (0, [.ref tx, .int ln, .ref rd, .ref sc, .int sth, .int wa, .ref ip, .ref is_, .ref ky, .ref ks, .ref of_, .ref ou, .int oc, .int rn])), (ky, .inl (G.2 1, 3, .inr (.inl fk))), (ks, .inl (G.2 3, 3, .inl fs))] 1 6 (fun o w' => o = .inr "java/lang/IllegalArgumentException" ∧ w' = [(h0, .inr (0, [.ref tx, .int ln, .ref rd, .ref sc, .int sth, .int wa, .ref ip, .ref is_, .ref ky, .ref ks, .ref of_, .ref ou, .int oc, .int rn])), (ky, .inl (G.2 1, 3, .inr (.inl fk))), (ks, .inl (G.2 3, 3, .inl fs))]) := by
  refine CtX.of HdOf.code (by decide) (Nat.le_of_ble_eq_true rfl) (fun p e s m args below meth c A ls H locs hx hb hml hr hnl hown hts hnm hK hA hl hW hE htab => ?_)
  have hl : lv_has ls 4 [(0, .ref h0), (1, .int x), (2, .int y), (3, .int z)] := hl
  refine lv_iload_n hx hb d_TC_seed_0 rfl (lv_at hl 1 rfl) ?_
  refine lv_if_lt (tgt := 9) hx hb d_TC_seed_1 rfl (fun hz => absurd hz hs0) (fun _ => ?_)
  refine lv_iload_n hx hb d_TC_seed_4 rfl (lv_at hl 1 rfl) ?_
  refine lv_iconst (v := 3) hx hb d_TC_seed_5 (by decide) ?_
  refine lv_icmp_lt (tgt := 19) hx hb d_TC_seed_6 rfl (fun hz => absurd hz hs1) (fun _ => ?_)
  exact CtX.throw (ix := 67) (ic := 71) (i := 6) (X := "java/lang/IllegalArgumentException") hx hb hml hl.1 hnl htab hfl hown hts hA hW hE (by decide) (by decide +kernel) w_cl_TC_67 w_ini_JIllegalArgumentException (by decide) rfl d_TC_seed_9 d_TC_seed_12 d_TC_seed_13 d_TC_seed_15 d_TC_seed_18 (by decide) (by decide) (by decide) (by decide) (by decide) (by decide) ⟨rfl, rfl⟩

abbrev rm__TC_output_0 : Room := { frames := 6, cells := 1, slots := 6, locals := 82 }
set_option maxHeartbeats 4000000 in
set_option maxRecDepth 100000 in
theorem cx_TC_output_0 (l : Launch) (G : Gt) (V : Ev) (hfl : l.flags = flags0) (h0 : Nat) (tx : Nat) (rd : Nat) (sc : Nat) (sth : Int32) (wa : Int32) (ip : Nat) (is_ : Nat) (ky : Nat) (ks : Nat) (of_ : Nat) (ou : Nat) (oc : Int32) (rn : Int32) (ln : Int32) (fo : Nat → Int32) (x : Int32) (hin : ¬ x < 0 → x < oc → vp_in x 16) (hs0 : x < 0) : CtX l G V y_TC_output (.code y_TC_output b_TC_output 2 (some .int)) rm__TC_output_0 [.ref h0, .int x] [(h0, .inr (0, [.ref tx, .int ln, .ref rd, .ref sc, .int sth, .int wa, .ref ip, .ref is_, .ref ky, .ref ks, .ref of_, .ref ou, .int oc, .int rn])), (ou, .inl (G.2 0, 16, .inl fo))] 1 6 (fun o w' => o = .inr "java/lang/IndexOutOfBoundsException" ∧ w' = [(h0, .inr (0, [.ref tx, .int ln, .ref rd, .ref sc, .int sth, .int wa, .ref ip, .ref is_, .ref ky, .ref ks, .ref of_, .ref ou, .int oc, .int rn])), (ou, .inl (G.2 0, 16, .inl fo))]) := by
  refine CtX.of HdOf.code (by decide) (Nat.le_of_ble_eq_true rfl) (fun p e s m args below meth c A ls H locs hx hb hml hr hnl hown hts hnm hK hA hl hW hE htab => ?_)
  have hl : lv_has ls 2 [(0, .ref h0), (1, .int x)] := hl
  refine lv_iload_n hx hb d_TC_output_0 rfl (lv_at hl 1 rfl) ?_
  refine lv_if_lt (tgt := 12) hx hb d_TC_output_1 rfl (fun _ => ?_) (fun hz => absurd hs0 hz)
  exact CtX.throw (ix := 132) (ic := 136) (i := 8) (X := "java/lang/IndexOutOfBoundsException") hx hb hml hl.1 hnl htab hfl hown hts hA hW hE (by decide) (by decide +kernel) w_cl_TC_132 w_ini_JIndexOutOfBoundsException (by decide) rfl d_TC_output_12 d_TC_output_15 d_TC_output_16 d_TC_output_18 d_TC_output_21 (by decide) (by decide) (by decide) (by decide) (by decide) (by decide) ⟨rfl, rfl⟩

abbrev rm__TC_output_1 : Room := { frames := 0, cells := 0, slots := 0, locals := 0 }
set_option maxHeartbeats 4000000 in
set_option maxRecDepth 100000 in
theorem cx_TC_output_1 (l : Launch) (G : Gt) (V : Ev) (hfl : l.flags = flags0) (h0 : Nat) (tx : Nat) (rd : Nat) (sc : Nat) (sth : Int32) (wa : Int32) (ip : Nat) (is_ : Nat) (ky : Nat) (ks : Nat) (of_ : Nat) (ou : Nat) (oc : Int32) (rn : Int32) (ln : Int32) (fo : Nat → Int32) (x : Int32) (hin : ¬ x < 0 → x < oc → vp_in x 16) (hs0 : ¬ (x < 0)) (hs1 : x < oc) : CtX l G V y_TC_output (.code y_TC_output b_TC_output 2 (some .int)) rm__TC_output_1 [.ref h0, .int x] [(h0, .inr (0, [.ref tx, .int ln, .ref rd, .ref sc, .int sth, .int wa, .ref ip, .ref is_, .ref ky, .ref ks, .ref of_, .ref ou, .int oc, .int rn])), (ou, .inl (G.2 0, 16, .inl fo))] 0 0 (fun o w' => o = .inl (some (.int (fo x.toNatClampNeg))) ∧ w' = [(h0, .inr (0, [.ref tx, .int ln, .ref rd, .ref sc, .int sth, .int wa, .ref ip, .ref is_, .ref ky, .ref ks, .ref of_, .ref ou, .int oc, .int rn])), (ou, .inl (G.2 0, 16, .inl fo))]) := by
  refine CtX.of HdOf.code (by decide) (Nat.le_of_ble_eq_true rfl) (fun p e s m args below meth c A ls H locs hx hb hml hr hnl hown hts hnm hK hA hl hW hE htab => ?_)
  have hl : lv_has ls 2 [(0, .ref h0), (1, .int x)] := hl
  refine lv_iload_n hx hb d_TC_output_0 rfl (lv_at hl 1 rfl) ?_
  refine lv_if_lt (tgt := 12) hx hb d_TC_output_1 rfl (fun hz => absurd hz hs0) (fun _ => ?_)
  refine lv_iload_n hx hb d_TC_output_4 rfl (lv_at hl 1 rfl) ?_
  refine lv_aload_n hx hb d_TC_output_5 rfl (lv_at hl 0 rfl) ?_
  refine Wd.get hx hb hts hown hK hW 0 12 in_TC w_fl_TC_129 (by decide) d_TC_output_6 rfl rfl rfl ?_
  refine lv_icmp_lt (tgt := 22) hx hb d_TC_output_9 rfl (fun _ => ?_) (fun hz => absurd hs1 hz)
  refine lv_aload_n hx hb d_TC_output_22 rfl (lv_at hl 0 rfl) ?_
  refine Wd.get hx hb hts hown hK hW 0 11 in_TC w_fl_TC_53 (by decide) d_TC_output_23 rfl rfl rfl ?_
  refine lv_iload_n hx hb d_TC_output_26 rfl (lv_at hl 1 rfl) ?_
  refine Wd.iald hx hb hK hW 1 d_TC_output_27 rfl (hin hs0 hs1) ?_
  exact CtX.iret hx hb hr hnl hW (by decide) (by decide) d_TC_output_28 ⟨rfl, rfl⟩

abbrev rm__TC_output_2 : Room := { frames := 6, cells := 1, slots := 6, locals := 82 }
set_option maxHeartbeats 4000000 in
set_option maxRecDepth 100000 in
theorem cx_TC_output_2 (l : Launch) (G : Gt) (V : Ev) (hfl : l.flags = flags0) (h0 : Nat) (tx : Nat) (rd : Nat) (sc : Nat) (sth : Int32) (wa : Int32) (ip : Nat) (is_ : Nat) (ky : Nat) (ks : Nat) (of_ : Nat) (ou : Nat) (oc : Int32) (rn : Int32) (ln : Int32) (fo : Nat → Int32) (x : Int32) (hin : ¬ x < 0 → x < oc → vp_in x 16) (hs0 : ¬ (x < 0)) (hs1 : ¬ (x < oc)) : CtX l G V y_TC_output (.code y_TC_output b_TC_output 2 (some .int)) rm__TC_output_2 [.ref h0, .int x] [(h0, .inr (0, [.ref tx, .int ln, .ref rd, .ref sc, .int sth, .int wa, .ref ip, .ref is_, .ref ky, .ref ks, .ref of_, .ref ou, .int oc, .int rn])), (ou, .inl (G.2 0, 16, .inl fo))] 1 6 (fun o w' => o = .inr "java/lang/IndexOutOfBoundsException" ∧ w' = [(h0, .inr (0, [.ref tx, .int ln, .ref rd, .ref sc, .int sth, .int wa, .ref ip, .ref is_, .ref ky, .ref ks, .ref of_, .ref ou, .int oc, .int rn])), (ou, .inl (G.2 0, 16, .inl fo))]) := by
  refine CtX.of HdOf.code (by decide) (Nat.le_of_ble_eq_true rfl) (fun p e s m args below meth c A ls H locs hx hb hml hr hnl hown hts hnm hK hA hl hW hE htab => ?_)
  have hl : lv_has ls 2 [(0, .ref h0), (1, .int x)] := hl
  refine lv_iload_n hx hb d_TC_output_0 rfl (lv_at hl 1 rfl) ?_
  refine lv_if_lt (tgt := 12) hx hb d_TC_output_1 rfl (fun hz => absurd hz hs0) (fun _ => ?_)
  refine lv_iload_n hx hb d_TC_output_4 rfl (lv_at hl 1 rfl) ?_
  refine lv_aload_n hx hb d_TC_output_5 rfl (lv_at hl 0 rfl) ?_
  refine Wd.get hx hb hts hown hK hW 0 12 in_TC w_fl_TC_129 (by decide) d_TC_output_6 rfl rfl rfl ?_
  refine lv_icmp_lt (tgt := 22) hx hb d_TC_output_9 rfl (fun hz => absurd hz hs1) (fun _ => ?_)
  exact CtX.throw (ix := 132) (ic := 136) (i := 8) (X := "java/lang/IndexOutOfBoundsException") hx hb hml hl.1 hnl htab hfl hown hts hA hW hE (by decide) (by decide +kernel) w_cl_TC_132 w_ini_JIndexOutOfBoundsException (by decide) rfl d_TC_output_12 d_TC_output_15 d_TC_output_16 d_TC_output_18 d_TC_output_21 (by decide) (by decide) (by decide) (by decide) (by decide) (by decide) ⟨rfl, rfl⟩

