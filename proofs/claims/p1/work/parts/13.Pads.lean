def o_JLong_rotateLeft_r (x : Int64) (k : Int32) : Int64 := (x <<< (k.toInt64 &&& 63)) ||| ((x.toUInt64 >>> ((-k).toInt64.toUInt64 &&& Int64.toUInt64 63)).toInt64)
abbrev rm_JLong_rotateLeft : Room := { frames := 0, cells := 0, slots := 0, locals := 0 }
set_option maxHeartbeats 4000000 in
set_option maxRecDepth 100000 in
theorem c_JLong_rotateLeft (l : Launch) (G : Gt) (x : Int64) (k : Int32) : Ct l G y_JLong_rotateLeft b_JLong_rotateLeft 3 (some .long) rm_JLong_rotateLeft [.long x, .int k] [] 0 0 (fun v w' => v = some (.long (o_JLong_rotateLeft_r x k)) ∧ w' = []) := by
  refine Ct.of (by decide) (Nat.le_of_ble_eq_true rfl) (fun p e s m args below meth c A ls H locs hx hb hml hr hnl hown hts hnm hK hA hl hW => ?_)
  have hl : lv_has ls 3 [(0, .long x), (2, .int k)] := hl
  refine lv_lload_n hx hb d_JLong_rotateLeft_0 rfl (lv_at hl 0 rfl) ?_
  refine lv_iload_n hx hb d_JLong_rotateLeft_1 rfl (lv_at hl 1 rfl) ?_
  refine lv_lshl (v := x <<< (k.toInt64 &&& 63)) hx hb d_JLong_rotateLeft_2 rfl ?_
  refine lv_lload_n hx hb d_JLong_rotateLeft_3 rfl (lv_at hl 0 rfl) ?_
  refine lv_iload_n hx hb d_JLong_rotateLeft_4 rfl (lv_at hl 1 rfl) ?_
  refine lv_ineg hx hb d_JLong_rotateLeft_5 ?_
  refine lv_lushr (v := (x.toUInt64 >>> ((-k).toInt64.toUInt64 &&& Int64.toUInt64 63)).toInt64) hx hb d_JLong_rotateLeft_6 rfl ?_
  refine lv_lor hx hb d_JLong_rotateLeft_7 ?_
  exact Ct.lret hx hb hr hnl hW (by decide) (by decide) d_JLong_rotateLeft_8 ⟨rfl, rfl⟩

def o_Pads_mix_r (x : Int64) : Int64 := ((((x ^^^ ((x.toUInt64 >>> ((30 : Int32).toInt64.toUInt64 &&& Int64.toUInt64 63)).toInt64)) * (-4658895280553007687)) ^^^ ((((x ^^^ ((x.toUInt64 >>> ((30 : Int32).toInt64.toUInt64 &&& Int64.toUInt64 63)).toInt64)) * (-4658895280553007687)).toUInt64 >>> ((27 : Int32).toInt64.toUInt64 &&& Int64.toUInt64 63)).toInt64)) * (-7723592293110705685)) ^^^ ((((((x ^^^ ((x.toUInt64 >>> ((30 : Int32).toInt64.toUInt64 &&& Int64.toUInt64 63)).toInt64)) * (-4658895280553007687)) ^^^ ((((x ^^^ ((x.toUInt64 >>> ((30 : Int32).toInt64.toUInt64 &&& Int64.toUInt64 63)).toInt64)) * (-4658895280553007687)).toUInt64 >>> ((27 : Int32).toInt64.toUInt64 &&& Int64.toUInt64 63)).toInt64)) * (-7723592293110705685)).toUInt64 >>> ((31 : Int32).toInt64.toUInt64 &&& Int64.toUInt64 63)).toInt64)
abbrev rm_Pads_mix : Room := { frames := 0, cells := 0, slots := 0, locals := 0 }
set_option maxHeartbeats 4000000 in
set_option maxRecDepth 100000 in
theorem c_Pads_mix (l : Launch) (G : Gt) (x : Int64) : Ct l G y_Pads_mix b_Pads_mix 4 (some .long) rm_Pads_mix [.long x] [] 0 0 (fun v w' => v = some (.long (o_Pads_mix_r x)) ∧ w' = []) := by
  refine Ct.of (by decide) (Nat.le_of_ble_eq_true rfl) (fun p e s m args below meth c A ls H locs hx hb hml hr hnl hown hts hnm hK hA hl hW => ?_)
  have hl : lv_has ls 4 [(0, .long x)] := hl
  refine lv_lload_n hx hb d_Pads_mix_0 rfl (lv_at hl 0 rfl) ?_
  refine lv_lload_n hx hb d_Pads_mix_1 rfl (lv_at hl 0 rfl) ?_
  refine lv_bipush (v := 30) hx hb d_Pads_mix_2 (by decide) ?_
  refine lv_lushr (v := (x.toUInt64 >>> ((30 : Int32).toInt64.toUInt64 &&& Int64.toUInt64 63)).toInt64) hx hb d_Pads_mix_4 rfl ?_
  refine lv_lxor hx hb d_Pads_mix_5 ?_
  refine lv_ldc2 (v := (-4658895280553007687)) hx hb hown (hts _ w_kl_Pads_40) d_Pads_mix_6 ?_
  refine lv_lmul hx hb d_Pads_mix_9 ?_
  refine lv_lstore_n (lv' := [(2, .long ((x ^^^ ((x.toUInt64 >>> ((30 : Int32).toInt64.toUInt64 &&& Int64.toUInt64 63)).toInt64)) * (-4658895280553007687))), (0, .long x)]) hx hb d_Pads_mix_10 rfl hl (by decide) rfl (fun ls hl => ?_)
  refine lv_lload_n hx hb d_Pads_mix_11 rfl (lv_at hl 0 rfl) ?_
  refine lv_lload_n hx hb d_Pads_mix_12 rfl (lv_at hl 0 rfl) ?_
  refine lv_bipush (v := 27) hx hb d_Pads_mix_13 (by decide) ?_
  refine lv_lushr (v := (((x ^^^ ((x.toUInt64 >>> ((30 : Int32).toInt64.toUInt64 &&& Int64.toUInt64 63)).toInt64)) * (-4658895280553007687)).toUInt64 >>> ((27 : Int32).toInt64.toUInt64 &&& Int64.toUInt64 63)).toInt64) hx hb d_Pads_mix_15 rfl ?_
  refine lv_lxor hx hb d_Pads_mix_16 ?_
  refine lv_ldc2 (v := (-7723592293110705685)) hx hb hown (hts _ w_kl_Pads_42) d_Pads_mix_17 ?_
  refine lv_lmul hx hb d_Pads_mix_20 ?_
  refine lv_lstore_n (lv' := [(2, .long ((((x ^^^ ((x.toUInt64 >>> ((30 : Int32).toInt64.toUInt64 &&& Int64.toUInt64 63)).toInt64)) * (-4658895280553007687)) ^^^ ((((x ^^^ ((x.toUInt64 >>> ((30 : Int32).toInt64.toUInt64 &&& Int64.toUInt64 63)).toInt64)) * (-4658895280553007687)).toUInt64 >>> ((27 : Int32).toInt64.toUInt64 &&& Int64.toUInt64 63)).toInt64)) * (-7723592293110705685))), (0, .long x)]) hx hb d_Pads_mix_21 rfl hl (by decide) rfl (fun ls hl => ?_)
  refine lv_lload_n hx hb d_Pads_mix_22 rfl (lv_at hl 0 rfl) ?_
  refine lv_lload_n hx hb d_Pads_mix_23 rfl (lv_at hl 0 rfl) ?_
  refine lv_bipush (v := 31) hx hb d_Pads_mix_24 (by decide) ?_
  refine lv_lushr (v := (((((x ^^^ ((x.toUInt64 >>> ((30 : Int32).toInt64.toUInt64 &&& Int64.toUInt64 63)).toInt64)) * (-4658895280553007687)) ^^^ ((((x ^^^ ((x.toUInt64 >>> ((30 : Int32).toInt64.toUInt64 &&& Int64.toUInt64 63)).toInt64)) * (-4658895280553007687)).toUInt64 >>> ((27 : Int32).toInt64.toUInt64 &&& Int64.toUInt64 63)).toInt64)) * (-7723592293110705685)).toUInt64 >>> ((31 : Int32).toInt64.toUInt64 &&& Int64.toUInt64 63)).toInt64) hx hb d_Pads_mix_26 rfl ?_
  refine lv_lxor hx hb d_Pads_mix_27 ?_
  exact Ct.lret hx hb hr hnl hW (by decide) (by decide) d_Pads_mix_28 ⟨rfl, rfl⟩

def o_Pads_pad_r (x : Int64) (r : Int32) (n : Int32) : Int64 := (o_Pads_mix_r ((o_Pads_mix_r (((r.toInt64 <<< ((32 : Int32).toInt64 &&& 63)) ||| n.toInt64) ^^^ x)) + (o_JLong_rotateLeft_r x (29 : Int32)))) ^^^ (o_JLong_rotateLeft_r x (47 : Int32))
abbrev rm_Pads_pad : Room := { frames := 1, cells := 0, slots := 0, locals := 23 }
set_option maxHeartbeats 4000000 in
set_option maxRecDepth 100000 in
theorem c_Pads_pad (l : Launch) (G : Gt) (x : Int64) (r : Int32) (n : Int32) : Ct l G y_Pads_pad b_Pads_pad 6 (some .long) rm_Pads_pad [.long x, .int r, .int n] [] 0 0 (fun v w' => v = some (.long (o_Pads_pad_r x r n)) ∧ w' = []) := by
  refine Ct.of (by decide) (Nat.le_of_ble_eq_true rfl) (fun p e s m args below meth c A ls H locs hx hb hml hr hnl hown hts hnm hK hA hl hW => ?_)
  have hl : lv_has ls 6 [(0, .long x), (2, .int r), (3, .int n)] := hl
  refine lv_iload_n hx hb d_Pads_pad_0 rfl (lv_at hl 1 rfl) ?_
  refine lv_i2l (v := r.toInt64) hx hb d_Pads_pad_1 rfl ?_
  refine lv_bipush (v := 32) hx hb d_Pads_pad_2 (by decide) ?_
  refine lv_lshl (v := r.toInt64 <<< ((32 : Int32).toInt64 &&& 63)) hx hb d_Pads_pad_4 rfl ?_
  refine lv_iload_n hx hb d_Pads_pad_5 rfl (lv_at hl 2 rfl) ?_
  refine lv_i2l (v := n.toInt64) hx hb d_Pads_pad_6 rfl ?_
  refine lv_lor hx hb d_Pads_pad_7 ?_
  refine lv_lstore (lv' := [(4, .long ((r.toInt64 <<< ((32 : Int32).toInt64 &&& 63)) ||| n.toInt64)), (0, .long x), (2, .int r), (3, .int n)]) hx hb d_Pads_pad_8 hl (by decide) rfl (fun ls hl => ?_)
  refine lv_lload hx hb d_Pads_pad_10 (lv_at hl 0 rfl) ?_
  refine lv_lload_n hx hb d_Pads_pad_12 rfl (lv_at hl 1 rfl) ?_
  refine lv_lxor hx hb d_Pads_pad_13 ?_
  refine Ct.callS (As := [.long (((r.toInt64 <<< ((32 : Int32).toInt64 &&& 63)) ||| n.toInt64) ^^^ x)]) (rest := []) hx hb hml hown hts hK hA hl.1 hW (c_Pads_mix l G (((r.toInt64 <<< ((32 : Int32).toInt64 &&& 63)) ||| n.toInt64) ^^^ x) ) (va_cwS 1 hts (good_S w_ml_Pads_30 w_st_Pads_mix w_ini_Pads w_code_Pads_mix) rfl rfl rfl yd_Pads_mix.2 ⟨by decide, by decide⟩) [] (by decide) rfl rfl rfl (Nat.le_of_ble_eq_true rfl) d_Pads_pad_14 ⟨by decide, by decide⟩ (fun v w' hp => by obtain ⟨-, rfl⟩ := hp; exact Nat.le_of_ble_eq_true rfl) (fun v w' H locs hp hW => ?_)
  obtain ⟨rfl, rfl⟩ := hp
  have hW : Wd G A s.heap [] H locs := hW
  refine W.eq (g2 := F0 m 17 ls [.long (o_Pads_mix_r (((r.toInt64 <<< ((32 : Int32).toInt64 &&& 63)) ||| n.toInt64) ^^^ x))]) rfl ?_
  refine lv_lload_n hx hb d_Pads_pad_17 rfl (lv_at hl 1 rfl) ?_
  refine lv_bipush (v := 29) hx hb d_Pads_pad_18 (by decide) ?_
  refine Ct.callS (As := [.long x, .int 29]) (rest := [.long (o_Pads_mix_r (((r.toInt64 <<< ((32 : Int32).toInt64 &&& 63)) ||| n.toInt64) ^^^ x))]) hx hb hml hown hts hK hA hl.1 hW (c_JLong_rotateLeft l G x (29 : Int32) ) (va_cwS 2 hts (good_S w_ml_Pads_34 w_st_JLong_rotateLeft w_ini_JLong w_code_JLong_rotateLeft) rfl rfl rfl yd_JLong_rotateLeft.2 ⟨by decide, by decide⟩) [] (by decide) rfl rfl rfl (Nat.le_of_ble_eq_true rfl) d_Pads_pad_20 ⟨by decide, by decide⟩ (fun v w' hp => by obtain ⟨-, rfl⟩ := hp; exact Nat.le_of_ble_eq_true rfl) (fun v w' H locs hp hW => ?_)
  obtain ⟨rfl, rfl⟩ := hp
  have hW : Wd G A s.heap [] H locs := hW
  refine W.eq (g2 := F0 m 23 ls [.long (o_JLong_rotateLeft_r x (29 : Int32)), .long (o_Pads_mix_r (((r.toInt64 <<< ((32 : Int32).toInt64 &&& 63)) ||| n.toInt64) ^^^ x))]) rfl ?_
  refine lv_ladd hx hb d_Pads_pad_23 ?_
  refine Ct.callS (As := [.long ((o_Pads_mix_r (((r.toInt64 <<< ((32 : Int32).toInt64 &&& 63)) ||| n.toInt64) ^^^ x)) + (o_JLong_rotateLeft_r x (29 : Int32)))]) (rest := []) hx hb hml hown hts hK hA hl.1 hW (c_Pads_mix l G ((o_Pads_mix_r (((r.toInt64 <<< ((32 : Int32).toInt64 &&& 63)) ||| n.toInt64) ^^^ x)) + (o_JLong_rotateLeft_r x (29 : Int32))) ) (va_cwS 1 hts (good_S w_ml_Pads_30 w_st_Pads_mix w_ini_Pads w_code_Pads_mix) rfl rfl rfl yd_Pads_mix.2 ⟨by decide, by decide⟩) [] (by decide) rfl rfl rfl (Nat.le_of_ble_eq_true rfl) d_Pads_pad_24 ⟨by decide, by decide⟩ (fun v w' hp => by obtain ⟨-, rfl⟩ := hp; exact Nat.le_of_ble_eq_true rfl) (fun v w' H locs hp hW => ?_)
  obtain ⟨rfl, rfl⟩ := hp
  have hW : Wd G A s.heap [] H locs := hW
  refine W.eq (g2 := F0 m 27 ls [.long (o_Pads_mix_r ((o_Pads_mix_r (((r.toInt64 <<< ((32 : Int32).toInt64 &&& 63)) ||| n.toInt64) ^^^ x)) + (o_JLong_rotateLeft_r x (29 : Int32))))]) rfl ?_
  refine lv_lload_n hx hb d_Pads_pad_27 rfl (lv_at hl 1 rfl) ?_
  refine lv_bipush (v := 47) hx hb d_Pads_pad_28 (by decide) ?_
  refine Ct.callS (As := [.long x, .int 47]) (rest := [.long (o_Pads_mix_r ((o_Pads_mix_r (((r.toInt64 <<< ((32 : Int32).toInt64 &&& 63)) ||| n.toInt64) ^^^ x)) + (o_JLong_rotateLeft_r x (29 : Int32))))]) hx hb hml hown hts hK hA hl.1 hW (c_JLong_rotateLeft l G x (47 : Int32) ) (va_cwS 2 hts (good_S w_ml_Pads_34 w_st_JLong_rotateLeft w_ini_JLong w_code_JLong_rotateLeft) rfl rfl rfl yd_JLong_rotateLeft.2 ⟨by decide, by decide⟩) [] (by decide) rfl rfl rfl (Nat.le_of_ble_eq_true rfl) d_Pads_pad_30 ⟨by decide, by decide⟩ (fun v w' hp => by obtain ⟨-, rfl⟩ := hp; exact Nat.le_of_ble_eq_true rfl) (fun v w' H locs hp hW => ?_)
  obtain ⟨rfl, rfl⟩ := hp
  have hW : Wd G A s.heap [] H locs := hW
  refine W.eq (g2 := F0 m 33 ls [.long (o_JLong_rotateLeft_r x (47 : Int32)), .long (o_Pads_mix_r ((o_Pads_mix_r (((r.toInt64 <<< ((32 : Int32).toInt64 &&& 63)) ||| n.toInt64) ^^^ x)) + (o_JLong_rotateLeft_r x (29 : Int32))))]) rfl ?_
  refine lv_lxor hx hb d_Pads_pad_33 ?_
  exact Ct.lret hx hb hr hnl hW (by decide) (by decide) d_Pads_pad_34 ⟨rfl, rfl⟩

def o_Pads_key_r (i : Int32) (a : Int32) (b : Int32) : Int64 := ((a.toInt64 <<< ((32 : Int32).toInt64 &&& 63)) ||| (b.toInt64 &&& 4294967295)) + (i.toInt64 * (-7046029254386353131))
abbrev rm_Pads_key : Room := { frames := 0, cells := 0, slots := 0, locals := 0 }
set_option maxHeartbeats 4000000 in
set_option maxRecDepth 100000 in
theorem c_Pads_key (l : Launch) (G : Gt) (i : Int32) (a : Int32) (b : Int32) : Ct l G y_Pads_key b_Pads_key 3 (some .long) rm_Pads_key [.int i, .int a, .int b] [] 0 0 (fun v w' => v = some (.long (o_Pads_key_r i a b)) ∧ w' = []) := by
  refine Ct.of (by decide) (Nat.le_of_ble_eq_true rfl) (fun p e s m args below meth c A ls H locs hx hb hml hr hnl hown hts hnm hK hA hl hW => ?_)
  have hl : lv_has ls 3 [(0, .int i), (1, .int a), (2, .int b)] := hl
  refine lv_iload_n hx hb d_Pads_key_0 rfl (lv_at hl 1 rfl) ?_
  refine lv_i2l (v := a.toInt64) hx hb d_Pads_key_1 rfl ?_
  refine lv_bipush (v := 32) hx hb d_Pads_key_2 (by decide) ?_
  refine lv_lshl (v := a.toInt64 <<< ((32 : Int32).toInt64 &&& 63)) hx hb d_Pads_key_4 rfl ?_
  refine lv_iload_n hx hb d_Pads_key_5 rfl (lv_at hl 2 rfl) ?_
  refine lv_i2l (v := b.toInt64) hx hb d_Pads_key_6 rfl ?_
  refine lv_ldc2 (v := 4294967295) hx hb hown (hts _ w_kl_Pads_26) d_Pads_key_7 ?_
  refine lv_land hx hb d_Pads_key_10 ?_
  refine lv_lor hx hb d_Pads_key_11 ?_
  refine lv_iload_n hx hb d_Pads_key_12 rfl (lv_at hl 0 rfl) ?_
  refine lv_i2l (v := i.toInt64) hx hb d_Pads_key_13 rfl ?_
  refine lv_ldc2 (v := (-7046029254386353131)) hx hb hown (hts _ w_kl_Pads_28) d_Pads_key_14 ?_
  refine lv_lmul hx hb d_Pads_key_17 ?_
  refine lv_ladd hx hb d_Pads_key_18 ?_
  exact Ct.lret hx hb hr hnl hW (by decide) (by decide) d_Pads_key_19 ⟨rfl, rfl⟩

abbrev rm_Pads_init : Room := { frames := 1, cells := 0, slots := 0, locals := 12 }
set_option maxHeartbeats 4000000 in
set_option maxRecDepth 100000 in
theorem c_Pads_init (l : Launch) (G : Gt) (h0 : Nat) : Ct l G y_Pads_init b_Pads_init 1 none rm_Pads_init [.ref h0] [(h0, .inr (6, [.long 0, .long 0, .int 0]))] 0 0 (fun v w' => v = none ∧ w' = [(h0, .inr (6, [.long 0, .long 0, .int 0]))]) := by
  refine Ct.of (by decide) (Nat.le_of_ble_eq_true rfl) (fun p e s m args below meth c A ls H locs hx hb hml hr hnl hown hts hnm hK hA hl hW => ?_)
  have hl : lv_has ls 1 [(0, .ref h0)] := hl
  refine lv_aload_n hx hb d_Pads_init_0 rfl (lv_at hl 0 rfl) ?_
  refine W.objInit hx hb hown (hts _ w_ml_Pads_3) (hts _ w_oi_im) (hts _ w_oi_code) rfl (by rw [hml]; exact hl.1) rfl d_Pads_init_1 (Nat.le_of_ble_eq_true rfl) (Nat.le_of_ble_eq_true rfl) ?_
  refine W.eq (g2 := F0 m 4 ls []) rfl ?_
  exact Ct.vret hx hb hr hnl hW (by decide) (by decide) d_Pads_init_4 ⟨rfl, rfl⟩

abbrev rm_Pads_set : Room := { frames := 0, cells := 0, slots := 0, locals := 0 }
set_option maxHeartbeats 4000000 in
set_option maxRecDepth 100000 in
theorem c_Pads_set (l : Launch) (G : Gt) (h0 : Nat) (ko : Int64) (kn : Int64) (r : Int32) (x : Int64) (y : Int64) (n : Int32) : Ct l G y_Pads_set b_Pads_set 6 none rm_Pads_set [.ref h0, .long x, .long y, .int n] [(h0, .inr (6, [.long ko, .long kn, .int r]))] 0 0 (fun v w' => v = none ∧ w' = [(h0, .inr (6, [.long x, .long y, .int n]))]) := by
  refine Ct.of (by decide) (Nat.le_of_ble_eq_true rfl) (fun p e s m args below meth c A ls H locs hx hb hml hr hnl hown hts hnm hK hA hl hW => ?_)
  have hl : lv_has ls 6 [(0, .ref h0), (1, .long x), (3, .long y), (5, .int n)] := hl
  refine lv_aload_n hx hb d_Pads_set_0 rfl (lv_at hl 0 rfl) ?_
  refine lv_lload_n hx hb d_Pads_set_1 rfl (lv_at hl 1 rfl) ?_
  refine Wd.put hx hb hts hown hK hW 0 0 in_Pads t_Pads_ok n_Pads w_fl_Pads_9 (by decide) d_Pads_set_2 rfl rfl rfl rfl rfl (Nat.le_of_ble_eq_true rfl) (fun H locs hW => ?_)
  have hW : Wd G A s.heap [(h0, .inr (6, [.long x, .long kn, .int r]))] H locs := hW
  refine lv_aload_n hx hb d_Pads_set_5 rfl (lv_at hl 0 rfl) ?_
  refine lv_lload_n hx hb d_Pads_set_6 rfl (lv_at hl 2 rfl) ?_
  refine Wd.put hx hb hts hown hK hW 0 1 in_Pads t_Pads_ok n_Pads w_fl_Pads_15 (by decide) d_Pads_set_7 rfl rfl rfl rfl rfl (Nat.le_of_ble_eq_true rfl) (fun H locs hW => ?_)
  have hW : Wd G A s.heap [(h0, .inr (6, [.long x, .long y, .int r]))] H locs := hW
  refine lv_aload_n hx hb d_Pads_set_10 rfl (lv_at hl 0 rfl) ?_
  refine lv_iload hx hb d_Pads_set_11 (lv_at hl 3 rfl) ?_
  refine Wd.put hx hb hts hown hK hW 0 2 in_Pads t_Pads_ok n_Pads w_fl_Pads_18 (by decide) d_Pads_set_13 rfl rfl rfl rfl rfl (Nat.le_of_ble_eq_true rfl) (fun H locs hW => ?_)
  have hW : Wd G A s.heap [(h0, .inr (6, [.long x, .long y, .int n]))] H locs := hW
  exact Ct.vret hx hb hr hnl hW (by decide) (by decide) d_Pads_set_16 ⟨rfl, rfl⟩

abbrev rm_Pads_difference : Room := { frames := 2, cells := 0, slots := 0, locals := 48 }
set_option maxHeartbeats 4000000 in
set_option maxRecDepth 100000 in
theorem c_Pads_difference (l : Launch) (G : Gt) (h0 : Nat) (ko : Int64) (kn : Int64) (r : Int32) (n : Int32) : Ct l G y_Pads_difference b_Pads_difference 2 (some .long) rm_Pads_difference [.ref h0, .int n] [(h0, .inr (6, [.long ko, .long kn, .int r]))] 0 0 (fun v w' => v = some (.long ((o_Pads_pad_r ko r n) - (o_Pads_pad_r kn r n))) ∧ w' = [(h0, .inr (6, [.long ko, .long kn, .int r]))]) := by
  refine Ct.of (by decide) (Nat.le_of_ble_eq_true rfl) (fun p e s m args below meth c A ls H locs hx hb hml hr hnl hown hts hnm hK hA hl hW => ?_)
  have hl : lv_has ls 2 [(0, .ref h0), (1, .int n)] := hl
  refine lv_aload_n hx hb d_Pads_difference_0 rfl (lv_at hl 0 rfl) ?_
  refine Wd.get hx hb hts hown hK hW 0 0 in_Pads w_fl_Pads_9 (by decide) d_Pads_difference_1 rfl rfl rfl ?_
  refine lv_aload_n hx hb d_Pads_difference_4 rfl (lv_at hl 0 rfl) ?_
  refine Wd.get hx hb hts hown hK hW 0 2 in_Pads w_fl_Pads_18 (by decide) d_Pads_difference_5 rfl rfl rfl ?_
  refine lv_iload_n hx hb d_Pads_difference_8 rfl (lv_at hl 1 rfl) ?_
  refine Ct.callS (As := [.long ko, .int r, .int n]) (rest := []) hx hb hml hown hts hK hA hl.1 hW (c_Pads_pad l G ko r n ) (va_cwS 3 hts (good_S w_ml_Pads_22 w_st_Pads_pad w_ini_Pads w_code_Pads_pad) rfl rfl rfl yd_Pads_pad.2 ⟨by decide, by decide⟩) [] (by decide) rfl rfl rfl (Nat.le_of_ble_eq_true rfl) d_Pads_difference_9 ⟨by decide, by decide⟩ (fun v w' hp => by obtain ⟨-, rfl⟩ := hp; exact Nat.le_of_ble_eq_true rfl) (fun v w' H locs hp hW => ?_)
  obtain ⟨rfl, rfl⟩ := hp
  have hW : Wd G A s.heap [(h0, .inr (6, [.long ko, .long kn, .int r]))] H locs := hW
  refine W.eq (g2 := F0 m 12 ls [.long (o_Pads_pad_r ko r n)]) rfl ?_
  refine lv_aload_n hx hb d_Pads_difference_12 rfl (lv_at hl 0 rfl) ?_
  refine Wd.get hx hb hts hown hK hW 0 1 in_Pads w_fl_Pads_15 (by decide) d_Pads_difference_13 rfl rfl rfl ?_
  refine lv_aload_n hx hb d_Pads_difference_16 rfl (lv_at hl 0 rfl) ?_
  refine Wd.get hx hb hts hown hK hW 0 2 in_Pads w_fl_Pads_18 (by decide) d_Pads_difference_17 rfl rfl rfl ?_
  refine lv_iload_n hx hb d_Pads_difference_20 rfl (lv_at hl 1 rfl) ?_
  refine Ct.callS (As := [.long kn, .int r, .int n]) (rest := [.long (o_Pads_pad_r ko r n)]) hx hb hml hown hts hK hA hl.1 hW (c_Pads_pad l G kn r n ) (va_cwS 3 hts (good_S w_ml_Pads_22 w_st_Pads_pad w_ini_Pads w_code_Pads_pad) rfl rfl rfl yd_Pads_pad.2 ⟨by decide, by decide⟩) [] (by decide) rfl rfl rfl (Nat.le_of_ble_eq_true rfl) d_Pads_difference_21 ⟨by decide, by decide⟩ (fun v w' hp => by obtain ⟨-, rfl⟩ := hp; exact Nat.le_of_ble_eq_true rfl) (fun v w' H locs hp hW => ?_)
  obtain ⟨rfl, rfl⟩ := hp
  have hW : Wd G A s.heap [(h0, .inr (6, [.long ko, .long kn, .int r]))] H locs := hW
  refine W.eq (g2 := F0 m 24 ls [.long (o_Pads_pad_r kn r n), .long (o_Pads_pad_r ko r n)]) rfl ?_
  refine lv_lsub hx hb d_Pads_difference_24 ?_
  exact Ct.lret hx hb hr hnl hW (by decide) (by decide) d_Pads_difference_25 ⟨rfl, rfl⟩

abbrev rm_Pads_xor : Room := { frames := 2, cells := 0, slots := 0, locals := 48 }
set_option maxHeartbeats 4000000 in
set_option maxRecDepth 100000 in
theorem c_Pads_xor (l : Launch) (G : Gt) (h0 : Nat) (ko : Int64) (kn : Int64) (r : Int32) (n : Int32) : Ct l G y_Pads_xor b_Pads_xor 2 (some .long) rm_Pads_xor [.ref h0, .int n] [(h0, .inr (6, [.long ko, .long kn, .int r]))] 0 0 (fun v w' => v = some (.long ((o_Pads_pad_r ko r n) ^^^ (o_Pads_pad_r kn r n))) ∧ w' = [(h0, .inr (6, [.long ko, .long kn, .int r]))]) := by
  refine Ct.of (by decide) (Nat.le_of_ble_eq_true rfl) (fun p e s m args below meth c A ls H locs hx hb hml hr hnl hown hts hnm hK hA hl hW => ?_)
  have hl : lv_has ls 2 [(0, .ref h0), (1, .int n)] := hl
  refine lv_aload_n hx hb d_Pads_xor_0 rfl (lv_at hl 0 rfl) ?_
  refine Wd.get hx hb hts hown hK hW 0 0 in_Pads w_fl_Pads_9 (by decide) d_Pads_xor_1 rfl rfl rfl ?_
  refine lv_aload_n hx hb d_Pads_xor_4 rfl (lv_at hl 0 rfl) ?_
  refine Wd.get hx hb hts hown hK hW 0 2 in_Pads w_fl_Pads_18 (by decide) d_Pads_xor_5 rfl rfl rfl ?_
  refine lv_iload_n hx hb d_Pads_xor_8 rfl (lv_at hl 1 rfl) ?_
  refine Ct.callS (As := [.long ko, .int r, .int n]) (rest := []) hx hb hml hown hts hK hA hl.1 hW (c_Pads_pad l G ko r n ) (va_cwS 3 hts (good_S w_ml_Pads_22 w_st_Pads_pad w_ini_Pads w_code_Pads_pad) rfl rfl rfl yd_Pads_pad.2 ⟨by decide, by decide⟩) [] (by decide) rfl rfl rfl (Nat.le_of_ble_eq_true rfl) d_Pads_xor_9 ⟨by decide, by decide⟩ (fun v w' hp => by obtain ⟨-, rfl⟩ := hp; exact Nat.le_of_ble_eq_true rfl) (fun v w' H locs hp hW => ?_)
  obtain ⟨rfl, rfl⟩ := hp
  have hW : Wd G A s.heap [(h0, .inr (6, [.long ko, .long kn, .int r]))] H locs := hW
  refine W.eq (g2 := F0 m 12 ls [.long (o_Pads_pad_r ko r n)]) rfl ?_
  refine lv_aload_n hx hb d_Pads_xor_12 rfl (lv_at hl 0 rfl) ?_
  refine Wd.get hx hb hts hown hK hW 0 1 in_Pads w_fl_Pads_15 (by decide) d_Pads_xor_13 rfl rfl rfl ?_
  refine lv_aload_n hx hb d_Pads_xor_16 rfl (lv_at hl 0 rfl) ?_
  refine Wd.get hx hb hts hown hK hW 0 2 in_Pads w_fl_Pads_18 (by decide) d_Pads_xor_17 rfl rfl rfl ?_
  refine lv_iload_n hx hb d_Pads_xor_20 rfl (lv_at hl 1 rfl) ?_
  refine Ct.callS (As := [.long kn, .int r, .int n]) (rest := [.long (o_Pads_pad_r ko r n)]) hx hb hml hown hts hK hA hl.1 hW (c_Pads_pad l G kn r n ) (va_cwS 3 hts (good_S w_ml_Pads_22 w_st_Pads_pad w_ini_Pads w_code_Pads_pad) rfl rfl rfl yd_Pads_pad.2 ⟨by decide, by decide⟩) [] (by decide) rfl rfl rfl (Nat.le_of_ble_eq_true rfl) d_Pads_xor_21 ⟨by decide, by decide⟩ (fun v w' hp => by obtain ⟨-, rfl⟩ := hp; exact Nat.le_of_ble_eq_true rfl) (fun v w' H locs hp hW => ?_)
  obtain ⟨rfl, rfl⟩ := hp
  have hW : Wd G A s.heap [(h0, .inr (6, [.long ko, .long kn, .int r]))] H locs := hW
  refine W.eq (g2 := F0 m 24 ls [.long (o_Pads_pad_r kn r n), .long (o_Pads_pad_r ko r n)]) rfl ?_
  refine lv_lxor hx hb d_Pads_xor_24 ?_
  exact Ct.lret hx hb hr hnl hW (by decide) (by decide) d_Pads_xor_25 ⟨rfl, rfl⟩

abbrev rm_Box_init : Room := { frames := 1, cells := 2, slots := 16, locals := 12 }
set_option maxHeartbeats 4000000 in
set_option maxRecDepth 100000 in
theorem c_Box_init (l : Launch) (G : Gt) (h0 : Nat) : Ct l G y_Box_init b_Box_init 1 none rm_Box_init [.ref h0] [(h0, .inr (2, [.null, .null]))] 2 16 (fun v w' => ∃ q1 q2 : Nat, v = none ∧ w' = [(h0, .inr (2, [.ref q1, .ref q2])), (q1, .inl (G.2 0, 8, .inl (fun _ => 0))), (q2, .inl (G.2 1, 8, .inr (.inl (fun _ => 0))))]) := by
  refine Ct.of (by decide) (Nat.le_of_ble_eq_true rfl) (fun p e s m args below meth c A ls H locs hx hb hml hr hnl hown hts hnm hK hA hl hW => ?_)
  have hl : lv_has ls 1 [(0, .ref h0)] := hl
  refine lv_aload_n hx hb d_Box_init_0 rfl (lv_at hl 0 rfl) ?_
  refine W.objInit hx hb hown (hts _ w_ml_Box_1) (hts _ w_oi_im) (hts _ w_oi_code) rfl (by rw [hml]; exact hl.1) rfl d_Box_init_1 (Nat.le_of_ble_eq_true rfl) (Nat.le_of_ble_eq_true rfl) ?_
  refine W.eq (g2 := F0 m 4 ls []) rfl ?_
  refine lv_aload_n hx hb d_Box_init_4 rfl (lv_at hl 0 rfl) ?_
  refine lv_bipush (v := 8) hx hb d_Box_init_5 (by decide) ?_
  refine Wd.newa (ty := .int) (N' := 8) (a0 := (8, .inl (fun _ => 0))) hx hb hts hK hA hW 0 w_arr_int d_Box_init_7 rfl rfl (fun _ _ h => h) (fun _ => rfl) (by decide) (by decide) (by decide) (by decide) (by decide) (fun q1 H hW => ?_)
  have hW : Wd G A s.heap [(h0, .inr (2, [.null, .null])), (q1, .inl (G.2 0, 8, .inl (fun _ => 0)))] H locs := hW
  refine W.widen (k := 1) (n := 8) (by decide) (by decide) ?_
  refine Wd.putF hx hb hts hown hK hW 0 0 in_Box t_Box_ok n_Box w_fl_Box_9 (by decide) d_Box_init_9 rfl rfl rfl hnm rfl rfl rfl (Nat.le_of_ble_eq_true rfl) (fun H locs hW => ?_)
  have hW : Wd G A s.heap [(h0, .inr (2, [.ref q1, .null])), (q1, .inl (G.2 0, 8, .inl (fun _ => 0)))] H locs := hW
  refine lv_aload_n hx hb d_Box_init_12 rfl (lv_at hl 0 rfl) ?_
  refine lv_bipush (v := 8) hx hb d_Box_init_13 (by decide) ?_
  refine Wd.newa (ty := .long) (N' := 8) (a0 := (8, .inr (.inl (fun _ => 0)))) hx hb hts hK hA hW 1 w_arr_long d_Box_init_15 rfl rfl (fun _ _ h => h) (fun _ => rfl) (by decide) (by decide) (by decide) (by decide) (by decide) (fun q2 H hW => ?_)
  have hW : Wd G A s.heap [(h0, .inr (2, [.ref q1, .null])), (q1, .inl (G.2 0, 8, .inl (fun _ => 0))), (q2, .inl (G.2 1, 8, .inr (.inl (fun _ => 0))))] H locs := hW
  refine W.widen (k := 2) (n := 16) (by decide) (by decide) ?_
  refine Wd.putF hx hb hts hown hK hW 0 1 in_Box t_Box_ok n_Box w_fl_Box_13 (by decide) d_Box_init_17 rfl rfl rfl hnm rfl rfl rfl (Nat.le_of_ble_eq_true rfl) (fun H locs hW => ?_)
  have hW : Wd G A s.heap [(h0, .inr (2, [.ref q1, .ref q2])), (q1, .inl (G.2 0, 8, .inl (fun _ => 0))), (q2, .inl (G.2 1, 8, .inr (.inl (fun _ => 0))))] H locs := hW
  exact Ct.vret hx hb hr hnl hW (by decide) (by decide) d_Box_init_20 ⟨q1, q2, rfl, rfl⟩

abbrev rm_Box_lay : Room := { frames := 0, cells := 0, slots := 0, locals := 0 }
set_option maxHeartbeats 4000000 in
set_option maxRecDepth 100000 in
theorem c_Box_lay (l : Launch) (G : Gt) (h0 : Nat) (h0n : Nat) (h0w : Nat) (bn : Nat → Int32) (bw : Nat → Int64) (n : Int32) (x : Int64) : Ct l G y_Box_lay b_Box_lay 4 none rm_Box_lay [.ref h0, .int n, .long x] [(h0, .inr (2, [.ref h0n, .ref h0w])), (h0n, .inl (G.2 0, 8, .inl bn)), (h0w, .inl (G.2 1, 8, .inr (.inl bw)))] 0 0 (fun v w' => v = none ∧ w' = [(h0, .inr (2, [.ref h0n, .ref h0w])), (h0n, .inl (G.2 0, 8, .inl (upd bn ((n &&& 7).toNatClampNeg) n))), (h0w, .inl (G.2 1, 8, .inr (.inl (vp_updL bw ((n &&& 7).toNatClampNeg) x))))]) := by
  refine Ct.of (by decide) (Nat.le_of_ble_eq_true rfl) (fun p e s m args below meth c A ls H locs hx hb hml hr hnl hown hts hnm hK hA hl hW => ?_)
  have hl : lv_has ls 4 [(0, .ref h0), (1, .int n), (2, .long x)] := hl
  refine lv_aload_n hx hb d_Box_lay_0 rfl (lv_at hl 0 rfl) ?_
  refine Wd.get hx hb hts hown hK hW 0 0 in_Box w_fl_Box_9 (by decide) d_Box_lay_1 rfl rfl rfl ?_
  refine lv_iload_n hx hb d_Box_lay_4 rfl (lv_at hl 1 rfl) ?_
  refine lv_bipush (v := 7) hx hb d_Box_lay_5 (by decide) ?_
  refine lv_iand hx hb d_Box_lay_7 ?_
  refine lv_iload_n hx hb d_Box_lay_8 rfl (lv_at hl 1 rfl) ?_
  refine Wd.iast hx hb hK hW 1 d_Box_lay_9 rfl (pk_andIn _ 3 (by decide) (by decide)) (fun H locs hW => ?_)
  have hW : Wd G A s.heap [(h0, .inr (2, [.ref h0n, .ref h0w])), (h0n, .inl (G.2 0, 8, .inl (upd bn ((n &&& 7).toNatClampNeg) n))), (h0w, .inl (G.2 1, 8, .inr (.inl bw)))] H locs := hW
  refine lv_aload_n hx hb d_Box_lay_10 rfl (lv_at hl 0 rfl) ?_
  refine Wd.get hx hb hts hown hK hW 0 1 in_Box w_fl_Box_13 (by decide) d_Box_lay_11 rfl rfl rfl ?_
  refine lv_iload_n hx hb d_Box_lay_14 rfl (lv_at hl 1 rfl) ?_
  refine lv_bipush (v := 7) hx hb d_Box_lay_15 (by decide) ?_
  refine lv_iand hx hb d_Box_lay_17 ?_
  refine lv_lload_n hx hb d_Box_lay_18 rfl (lv_at hl 2 rfl) ?_
  refine Wd.last hx hb hK hW 2 d_Box_lay_19 rfl (pk_andIn _ 3 (by decide) (by decide)) (fun H locs hW => ?_)
  have hW : Wd G A s.heap [(h0, .inr (2, [.ref h0n, .ref h0w])), (h0n, .inl (G.2 0, 8, .inl (upd bn ((n &&& 7).toNatClampNeg) n))), (h0w, .inl (G.2 1, 8, .inr (.inl (vp_updL bw ((n &&& 7).toNatClampNeg) x))))] H locs := hW
  exact Ct.vret hx hb hr hnl hW (by decide) (by decide) d_Box_lay_20 ⟨rfl, rfl⟩

abbrev rm_Box_has_0 : Room := { frames := 0, cells := 0, slots := 0, locals := 0 }
set_option maxHeartbeats 4000000 in
set_option maxRecDepth 100000 in
theorem c_Box_has_0 (l : Launch) (G : Gt) (h0 : Nat) (h0n : Nat) (h0w : Nat) (bn : Nat → Int32) (n : Int32) (hs0 : ¬ ((bn ((n &&& 7).toNatClampNeg)) = n)) : Ct l G y_Box_has b_Box_has 2 (some .boolean) rm_Box_has_0 [.ref h0, .int n] [(h0, .inr (2, [.ref h0n, .ref h0w])), (h0n, .inl (G.2 0, 8, .inl bn))] 0 0 (fun v w' => v = some (.int 0) ∧ w' = [(h0, .inr (2, [.ref h0n, .ref h0w])), (h0n, .inl (G.2 0, 8, .inl bn))]) := by
  refine Ct.of (by decide) (Nat.le_of_ble_eq_true rfl) (fun p e s m args below meth c A ls H locs hx hb hml hr hnl hown hts hnm hK hA hl hW => ?_)
  have hl : lv_has ls 2 [(0, .ref h0), (1, .int n)] := hl
  refine lv_aload_n hx hb d_Box_has_0 rfl (lv_at hl 0 rfl) ?_
  refine Wd.get hx hb hts hown hK hW 0 0 in_Box w_fl_Box_9 (by decide) d_Box_has_1 rfl rfl rfl ?_
  refine lv_iload_n hx hb d_Box_has_4 rfl (lv_at hl 1 rfl) ?_
  refine lv_bipush (v := 7) hx hb d_Box_has_5 (by decide) ?_
  refine lv_iand hx hb d_Box_has_7 ?_
  refine Wd.iald hx hb hK hW 1 d_Box_has_8 rfl (pk_andIn _ 3 (by decide) (by decide)) ?_
  refine lv_iload_n hx hb d_Box_has_9 rfl (lv_at hl 1 rfl) ?_
  refine lv_icmp_ne (tgt := 17) hx hb d_Box_has_10 rfl (fun _ => ?_) (fun hz => absurd hz hs0)
  refine lv_iconst (v := 0) hx hb d_Box_has_17 (by decide) ?_
  exact Ct.zret hx hb hr hnl hW (by decide) (by decide) d_Box_has_18 (by decide) ⟨rfl, rfl⟩

abbrev rm_Box_has_1 : Room := { frames := 0, cells := 0, slots := 0, locals := 0 }
set_option maxHeartbeats 4000000 in
set_option maxRecDepth 100000 in
theorem c_Box_has_1 (l : Launch) (G : Gt) (h0 : Nat) (h0n : Nat) (h0w : Nat) (bn : Nat → Int32) (n : Int32) (hs0 : (bn ((n &&& 7).toNatClampNeg)) = n) : Ct l G y_Box_has b_Box_has 2 (some .boolean) rm_Box_has_1 [.ref h0, .int n] [(h0, .inr (2, [.ref h0n, .ref h0w])), (h0n, .inl (G.2 0, 8, .inl bn))] 0 0 (fun v w' => v = some (.int 1) ∧ w' = [(h0, .inr (2, [.ref h0n, .ref h0w])), (h0n, .inl (G.2 0, 8, .inl bn))]) := by
  refine Ct.of (by decide) (Nat.le_of_ble_eq_true rfl) (fun p e s m args below meth c A ls H locs hx hb hml hr hnl hown hts hnm hK hA hl hW => ?_)
  have hl : lv_has ls 2 [(0, .ref h0), (1, .int n)] := hl
  refine lv_aload_n hx hb d_Box_has_0 rfl (lv_at hl 0 rfl) ?_
  refine Wd.get hx hb hts hown hK hW 0 0 in_Box w_fl_Box_9 (by decide) d_Box_has_1 rfl rfl rfl ?_
  refine lv_iload_n hx hb d_Box_has_4 rfl (lv_at hl 1 rfl) ?_
  refine lv_bipush (v := 7) hx hb d_Box_has_5 (by decide) ?_
  refine lv_iand hx hb d_Box_has_7 ?_
  refine Wd.iald hx hb hK hW 1 d_Box_has_8 rfl (pk_andIn _ 3 (by decide) (by decide)) ?_
  refine lv_iload_n hx hb d_Box_has_9 rfl (lv_at hl 1 rfl) ?_
  refine lv_icmp_ne (tgt := 17) hx hb d_Box_has_10 rfl (fun hz => absurd hs0 hz) (fun _ => ?_)
  refine lv_iconst (v := 1) hx hb d_Box_has_13 (by decide) ?_
  refine lv_goto (tgt := 18) hx hb d_Box_has_14 rfl ?_
  exact Ct.zret hx hb hr hnl hW (by decide) (by decide) d_Box_has_18 (by decide) ⟨rfl, rfl⟩

abbrev rm_Box_at : Room := { frames := 0, cells := 0, slots := 0, locals := 0 }
set_option maxHeartbeats 4000000 in
set_option maxRecDepth 100000 in
theorem c_Box_at (l : Launch) (G : Gt) (h0 : Nat) (h0w : Nat) (h0n : Nat) (bw : Nat → Int64) (n : Int32) : Ct l G y_Box_at b_Box_at 2 (some .long) rm_Box_at [.ref h0, .int n] [(h0, .inr (2, [.ref h0n, .ref h0w])), (h0w, .inl (G.2 1, 8, .inr (.inl bw)))] 0 0 (fun v w' => v = some (.long (bw ((n &&& 7).toNatClampNeg))) ∧ w' = [(h0, .inr (2, [.ref h0n, .ref h0w])), (h0w, .inl (G.2 1, 8, .inr (.inl bw)))]) := by
  refine Ct.of (by decide) (Nat.le_of_ble_eq_true rfl) (fun p e s m args below meth c A ls H locs hx hb hml hr hnl hown hts hnm hK hA hl hW => ?_)
  have hl : lv_has ls 2 [(0, .ref h0), (1, .int n)] := hl
  refine lv_aload_n hx hb d_Box_at_0 rfl (lv_at hl 0 rfl) ?_
  refine Wd.get hx hb hts hown hK hW 0 1 in_Box w_fl_Box_13 (by decide) d_Box_at_1 rfl rfl rfl ?_
  refine lv_iload_n hx hb d_Box_at_4 rfl (lv_at hl 1 rfl) ?_
  refine lv_bipush (v := 7) hx hb d_Box_at_5 (by decide) ?_
  refine lv_iand hx hb d_Box_at_7 ?_
  refine Wd.lald hx hb hK hW 1 d_Box_at_8 rfl (pk_andIn _ 3 (by decide) (by decide)) ?_
  exact Ct.lret hx hb hr hnl hW (by decide) (by decide) d_Box_at_9 ⟨rfl, rfl⟩

