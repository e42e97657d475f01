abbrev rm_Script_init : Room := { frames := 1, cells := 5, slots := 660, locals := 12 }
set_option maxHeartbeats 4000000 in
set_option maxRecDepth 100000 in
theorem c_Script_init (l : Launch) (G : Gt) (h0 : Nat) : Ct l G y_Script_init b_Script_init 1 none rm_Script_init [.ref h0] [(h0, .inr (10, [.null, .null, .null, .null, .null, .int 0, .int 0, .int 0, .int 0]))] 5 660 (fun v w' => ∃ q1 q2 q3 q4 q5 : Nat, v = none ∧ w' = [(h0, .inr (10, [.ref q1, .ref q2, .ref q3, .ref q4, .ref q5, .int 0, .int 0, .int 0, .int 0])), (q1, .inl (G.2 0, 132, .inl (fun _ => 0))), (q2, .inl (G.2 0, 132, .inl (fun _ => 0))), (q3, .inl (G.2 0, 132, .inl (fun _ => 0))), (q4, .inl (G.2 0, 132, .inl (fun _ => 0))), (q5, .inl (G.2 0, 132, .inl (fun _ => 0)))]) := by
  refine Ct.of (by decide) (Nat.le_of_ble_eq_true rfl) (fun p e s m args below meth c A ls H locs hx hb hml hr hnl hown hts hnm hK hA hl hW => ?_)
  have hl : lv_has ls 1 [(0, .ref h0)] := hl
  refine lv_aload_n hx hb d_Script_init_0 rfl (lv_at hl 0 rfl) ?_
  refine W.objInit hx hb hown (hts _ w_ml_Script_3) (hts _ w_oi_im) (hts _ w_oi_code) rfl (by rw [hml]; exact hl.1) rfl d_Script_init_1 (Nat.le_of_ble_eq_true rfl) (Nat.le_of_ble_eq_true rfl) ?_
  refine W.eq (g2 := F0 m 4 ls []) rfl ?_
  refine lv_aload_n hx hb d_Script_init_4 rfl (lv_at hl 0 rfl) ?_
  refine lv_sipush (v := 132) hx hb d_Script_init_5 (by decide) ?_
  refine Wd.newa (ty := .int) (N' := 132) (a0 := (132, .inl (fun _ => 0))) hx hb hts hK hA hW 0 w_arr_int d_Script_init_8 rfl rfl (fun _ _ h => h) (fun _ => rfl) (by decide) (by decide) (by decide) (by decide) (by decide) (fun q1 H hW => ?_)
  have hW : Wd G A s.heap [(h0, .inr (10, [.null, .null, .null, .null, .null, .int 0, .int 0, .int 0, .int 0])), (q1, .inl (G.2 0, 132, .inl (fun _ => 0)))] H locs := hW
  refine W.widen (k := 1) (n := 132) (by decide) (by decide) ?_
  refine Wd.putF hx hb hts hown hK hW 0 0 in_Script t_Script_ok n_Script w_fl_Script_11 (by decide) d_Script_init_10 rfl rfl rfl hnm rfl rfl rfl (Nat.le_of_ble_eq_true rfl) (fun H locs hW => ?_)
  have hW : Wd G A s.heap [(h0, .inr (10, [.ref q1, .null, .null, .null, .null, .int 0, .int 0, .int 0, .int 0])), (q1, .inl (G.2 0, 132, .inl (fun _ => 0)))] H locs := hW
  refine lv_aload_n hx hb d_Script_init_13 rfl (lv_at hl 0 rfl) ?_
  refine lv_sipush (v := 132) hx hb d_Script_init_14 (by decide) ?_
  refine Wd.newa (ty := .int) (N' := 132) (a0 := (132, .inl (fun _ => 0))) hx hb hts hK hA hW 0 w_arr_int d_Script_init_17 rfl rfl (fun _ _ h => h) (fun _ => rfl) (by decide) (by decide) (by decide) (by decide) (by decide) (fun q2 H hW => ?_)
  have hW : Wd G A s.heap [(h0, .inr (10, [.ref q1, .null, .null, .null, .null, .int 0, .int 0, .int 0, .int 0])), (q1, .inl (G.2 0, 132, .inl (fun _ => 0))), (q2, .inl (G.2 0, 132, .inl (fun _ => 0)))] H locs := hW
  refine W.widen (k := 2) (n := 264) (by decide) (by decide) ?_
  refine Wd.putF hx hb hts hown hK hW 0 1 in_Script t_Script_ok n_Script w_fl_Script_15 (by decide) d_Script_init_19 rfl rfl rfl hnm rfl rfl rfl (Nat.le_of_ble_eq_true rfl) (fun H locs hW => ?_)
  have hW : Wd G A s.heap [(h0, .inr (10, [.ref q1, .ref q2, .null, .null, .null, .int 0, .int 0, .int 0, .int 0])), (q1, .inl (G.2 0, 132, .inl (fun _ => 0))), (q2, .inl (G.2 0, 132, .inl (fun _ => 0)))] H locs := hW
  refine lv_aload_n hx hb d_Script_init_22 rfl (lv_at hl 0 rfl) ?_
  refine lv_sipush (v := 132) hx hb d_Script_init_23 (by decide) ?_
  refine Wd.newa (ty := .int) (N' := 132) (a0 := (132, .inl (fun _ => 0))) hx hb hts hK hA hW 0 w_arr_int d_Script_init_26 rfl rfl (fun _ _ h => h) (fun _ => rfl) (by decide) (by decide) (by decide) (by decide) (by decide) (fun q3 H hW => ?_)
  have hW : Wd G A s.heap [(h0, .inr (10, [.ref q1, .ref q2, .null, .null, .null, .int 0, .int 0, .int 0, .int 0])), (q1, .inl (G.2 0, 132, .inl (fun _ => 0))), (q2, .inl (G.2 0, 132, .inl (fun _ => 0))), (q3, .inl (G.2 0, 132, .inl (fun _ => 0)))] H locs := hW
  refine W.widen (k := 3) (n := 396) (by decide) (by decide) ?_
  refine Wd.putF hx hb hts hown hK hW 0 2 in_Script t_Script_ok n_Script w_fl_Script_18 (by decide) d_Script_init_28 rfl rfl rfl hnm rfl rfl rfl (Nat.le_of_ble_eq_true rfl) (fun H locs hW => ?_)
  have hW : Wd G A s.heap [(h0, .inr (10, [.ref q1, .ref q2, .ref q3, .null, .null, .int 0, .int 0, .int 0, .int 0])), (q1, .inl (G.2 0, 132, .inl (fun _ => 0))), (q2, .inl (G.2 0, 132, .inl (fun _ => 0))), (q3, .inl (G.2 0, 132, .inl (fun _ => 0)))] H locs := hW
  refine lv_aload_n hx hb d_Script_init_31 rfl (lv_at hl 0 rfl) ?_
  refine lv_sipush (v := 132) hx hb d_Script_init_32 (by decide) ?_
  refine Wd.newa (ty := .int) (N' := 132) (a0 := (132, .inl (fun _ => 0))) hx hb hts hK hA hW 0 w_arr_int d_Script_init_35 rfl rfl (fun _ _ h => h) (fun _ => rfl) (by decide) (by decide) (by decide) (by decide) (by decide) (fun q4 H hW => ?_)
  have hW : Wd G A s.heap [(h0, .inr (10, [.ref q1, .ref q2, .ref q3, .null, .null, .int 0, .int 0, .int 0, .int 0])), (q1, .inl (G.2 0, 132, .inl (fun _ => 0))), (q2, .inl (G.2 0, 132, .inl (fun _ => 0))), (q3, .inl (G.2 0, 132, .inl (fun _ => 0))), (q4, .inl (G.2 0, 132, .inl (fun _ => 0)))] H locs := hW
  refine W.widen (k := 4) (n := 528) (by decide) (by decide) ?_
  refine Wd.putF hx hb hts hown hK hW 0 3 in_Script t_Script_ok n_Script w_fl_Script_21 (by decide) d_Script_init_37 rfl rfl rfl hnm rfl rfl rfl (Nat.le_of_ble_eq_true rfl) (fun H locs hW => ?_)
  have hW : Wd G A s.heap [(h0, .inr (10, [.ref q1, .ref q2, .ref q3, .ref q4, .null, .int 0, .int 0, .int 0, .int 0])), (q1, .inl (G.2 0, 132, .inl (fun _ => 0))), (q2, .inl (G.2 0, 132, .inl (fun _ => 0))), (q3, .inl (G.2 0, 132, .inl (fun _ => 0))), (q4, .inl (G.2 0, 132, .inl (fun _ => 0)))] H locs := hW
  refine lv_aload_n hx hb d_Script_init_40 rfl (lv_at hl 0 rfl) ?_
  refine lv_sipush (v := 132) hx hb d_Script_init_41 (by decide) ?_
  refine Wd.newa (ty := .int) (N' := 132) (a0 := (132, .inl (fun _ => 0))) hx hb hts hK hA hW 0 w_arr_int d_Script_init_44 rfl rfl (fun _ _ h => h) (fun _ => rfl) (by decide) (by decide) (by decide) (by decide) (by decide) (fun q5 H hW => ?_)
  have hW : Wd G A s.heap [(h0, .inr (10, [.ref q1, .ref q2, .ref q3, .ref q4, .null, .int 0, .int 0, .int 0, .int 0])), (q1, .inl (G.2 0, 132, .inl (fun _ => 0))), (q2, .inl (G.2 0, 132, .inl (fun _ => 0))), (q3, .inl (G.2 0, 132, .inl (fun _ => 0))), (q4, .inl (G.2 0, 132, .inl (fun _ => 0))), (q5, .inl (G.2 0, 132, .inl (fun _ => 0)))] H locs := hW
  refine W.widen (k := 5) (n := 660) (by decide) (by decide) ?_
  refine Wd.putF hx hb hts hown hK hW 0 4 in_Script t_Script_ok n_Script w_fl_Script_24 (by decide) d_Script_init_46 rfl rfl rfl hnm rfl rfl rfl (Nat.le_of_ble_eq_true rfl) (fun H locs hW => ?_)
  have hW : Wd G A s.heap [(h0, .inr (10, [.ref q1, .ref q2, .ref q3, .ref q4, .ref q5, .int 0, .int 0, .int 0, .int 0])), (q1, .inl (G.2 0, 132, .inl (fun _ => 0))), (q2, .inl (G.2 0, 132, .inl (fun _ => 0))), (q3, .inl (G.2 0, 132, .inl (fun _ => 0))), (q4, .inl (G.2 0, 132, .inl (fun _ => 0))), (q5, .inl (G.2 0, 132, .inl (fun _ => 0)))] H locs := hW
  exact Ct.vret hx hb hr hnl hW (by decide) (by decide) d_Script_init_49 ⟨q1, q2, q3, q4, q5, rfl, rfl⟩

abbrev rm_Script_clear : Room := { frames := 0, cells := 0, slots := 0, locals := 0 }
set_option maxHeartbeats 4000000 in
set_option maxRecDepth 100000 in
theorem c_Script_clear (l : Launch) (G : Gt) (h0 : Nat) (h0k : Nat) (h0t : Nat) (h0f : Nat) (h0s : Nat) (h0h : Nat) (ct : Int32) (cp : Int32) (on : Int32) (nm : Int32) : Ct l G y_Script_clear b_Script_clear 1 none rm_Script_clear [.ref h0] [(h0, .inr (10, [.ref h0k, .ref h0t, .ref h0f, .ref h0s, .ref h0h, .int ct, .int cp, .int on, .int nm]))] 0 0 (fun v w' => v = none ∧ w' = [(h0, .inr (10, [.ref h0k, .ref h0t, .ref h0f, .ref h0s, .ref h0h, .int 0, .int 0, .int 0, .int 0]))]) := by
  refine Ct.of (by decide) (Nat.le_of_ble_eq_true rfl) (fun p e s m args below meth c A ls H locs hx hb hml hr hnl hown hts hnm hK hA hl hW => ?_)
  have hl : lv_has ls 1 [(0, .ref h0)] := hl
  refine lv_aload_n hx hb d_Script_clear_0 rfl (lv_at hl 0 rfl) ?_
  refine lv_iconst (v := 0) hx hb d_Script_clear_1 (by decide) ?_
  refine Wd.put hx hb hts hown hK hW 0 5 in_Script t_Script_ok n_Script w_fl_Script_27 (by decide) d_Script_clear_2 rfl rfl rfl rfl rfl (Nat.le_of_ble_eq_true rfl) (fun H locs hW => ?_)
  have hW : Wd G A s.heap [(h0, .inr (10, [.ref h0k, .ref h0t, .ref h0f, .ref h0s, .ref h0h, .int 0, .int cp, .int on, .int nm]))] H locs := hW
  refine lv_aload_n hx hb d_Script_clear_5 rfl (lv_at hl 0 rfl) ?_
  refine lv_iconst (v := 0) hx hb d_Script_clear_6 (by decide) ?_
  refine Wd.put hx hb hts hown hK hW 0 6 in_Script t_Script_ok n_Script w_fl_Script_31 (by decide) d_Script_clear_7 rfl rfl rfl rfl rfl (Nat.le_of_ble_eq_true rfl) (fun H locs hW => ?_)
  have hW : Wd G A s.heap [(h0, .inr (10, [.ref h0k, .ref h0t, .ref h0f, .ref h0s, .ref h0h, .int 0, .int 0, .int on, .int nm]))] H locs := hW
  refine lv_aload_n hx hb d_Script_clear_10 rfl (lv_at hl 0 rfl) ?_
  refine lv_iconst (v := 0) hx hb d_Script_clear_11 (by decide) ?_
  refine Wd.put hx hb hts hown hK hW 0 7 in_Script t_Script_ok n_Script w_fl_Script_34 (by decide) d_Script_clear_12 rfl rfl rfl rfl rfl (Nat.le_of_ble_eq_true rfl) (fun H locs hW => ?_)
  have hW : Wd G A s.heap [(h0, .inr (10, [.ref h0k, .ref h0t, .ref h0f, .ref h0s, .ref h0h, .int 0, .int 0, .int 0, .int nm]))] H locs := hW
  refine lv_aload_n hx hb d_Script_clear_15 rfl (lv_at hl 0 rfl) ?_
  refine lv_iconst (v := 0) hx hb d_Script_clear_16 (by decide) ?_
  refine Wd.put hx hb hts hown hK hW 0 8 in_Script t_Script_ok n_Script w_fl_Script_37 (by decide) d_Script_clear_17 rfl rfl rfl rfl rfl (Nat.le_of_ble_eq_true rfl) (fun H locs hW => ?_)
  have hW : Wd G A s.heap [(h0, .inr (10, [.ref h0k, .ref h0t, .ref h0f, .ref h0s, .ref h0h, .int 0, .int 0, .int 0, .int 0]))] H locs := hW
  exact Ct.vret hx hb hr hnl hW (by decide) (by decide) d_Script_clear_20 ⟨rfl, rfl⟩

abbrev rm_Script_copy : Room := { frames := 1, cells := 0, slots := 0, locals := 18 }
set_option maxHeartbeats 4000000 in
set_option maxRecDepth 100000 in
theorem c_Script_copy (l : Launch) (G : Gt) (h0 : Nat) (h0k : Nat) (h0t : Nat) (h0f : Nat) (h0s : Nat) (h0h : Nat) (h1 : Nat) (h1k : Nat) (h1t : Nat) (h1f : Nat) (h1s : Nat) (h1h : Nat) (ct : Int32) (cp : Int32) (on : Int32) (nm : Int32) (kd : Nat → Int32) (tg : Nat → Int32) (fi : Nat → Int32) (se : Nat → Int32) (th : Nat → Int32) (ct1 : Int32) (cp1 : Int32) (on1 : Int32) (nm1 : Int32) (kd1 : Nat → Int32) (tg1 : Nat → Int32) (fi1 : Nat → Int32) (se1 : Nat → Int32) (th1 : Nat → Int32) (hc0 : ¬ ct1 < 0) (hc1 : ct1.toNatClampNeg ≤ 132) : Ct l G y_Script_copy b_Script_copy 2 none rm_Script_copy [.ref h0, .ref h1] [(h0, .inr (10, [.ref h0k, .ref h0t, .ref h0f, .ref h0s, .ref h0h, .int ct, .int cp, .int on, .int nm])), (h0k, .inl (G.2 0, 132, .inl kd)), (h0t, .inl (G.2 0, 132, .inl tg)), (h0f, .inl (G.2 0, 132, .inl fi)), (h0s, .inl (G.2 0, 132, .inl se)), (h0h, .inl (G.2 0, 132, .inl th)), (h1, .inr (10, [.ref h1k, .ref h1t, .ref h1f, .ref h1s, .ref h1h, .int ct1, .int cp1, .int on1, .int nm1])), (h1k, .inl (G.2 0, 132, .inl kd1)), (h1t, .inl (G.2 0, 132, .inl tg1)), (h1f, .inl (G.2 0, 132, .inl fi1)), (h1s, .inl (G.2 0, 132, .inl se1)), (h1h, .inl (G.2 0, 132, .inl th1))] 0 0 (fun v w' => v = none ∧ w' = [(h0, .inr (10, [.ref h0k, .ref h0t, .ref h0f, .ref h0s, .ref h0h, .int ct1, .int cp1, .int on1, .int nm1])), (h0k, .inl (G.2 0, 132, .inl (va_cpy kd1 kd 0 0 ct1.toNatClampNeg))), (h0t, .inl (G.2 0, 132, .inl (va_cpy tg1 tg 0 0 ct1.toNatClampNeg))), (h0f, .inl (G.2 0, 132, .inl (va_cpy fi1 fi 0 0 ct1.toNatClampNeg))), (h0s, .inl (G.2 0, 132, .inl (va_cpy se1 se 0 0 ct1.toNatClampNeg))), (h0h, .inl (G.2 0, 132, .inl (va_cpy th1 th 0 0 ct1.toNatClampNeg))), (h1, .inr (10, [.ref h1k, .ref h1t, .ref h1f, .ref h1s, .ref h1h, .int ct1, .int cp1, .int on1, .int nm1])), (h1k, .inl (G.2 0, 132, .inl kd1)), (h1t, .inl (G.2 0, 132, .inl tg1)), (h1f, .inl (G.2 0, 132, .inl fi1)), (h1s, .inl (G.2 0, 132, .inl se1)), (h1h, .inl (G.2 0, 132, .inl th1))]) := by
  refine Ct.of (by decide) (Nat.le_of_ble_eq_true rfl) (fun p e s m args below meth c A ls H locs hx hb hml hr hnl hown hts hnm hK hA hl hW => ?_)
  have hl : lv_has ls 2 [(0, .ref h0), (1, .ref h1)] := hl
  refine lv_aload_n hx hb d_Script_copy_0 rfl (lv_at hl 0 rfl) ?_
  refine lv_aload_n hx hb d_Script_copy_1 rfl (lv_at hl 1 rfl) ?_
  refine Wd.get hx hb hts hown hK hW 6 5 in_Script w_fl_Script_27 (by decide) d_Script_copy_2 rfl rfl rfl ?_
  refine Wd.put hx hb hts hown hK hW 0 5 in_Script t_Script_ok n_Script w_fl_Script_27 (by decide) d_Script_copy_5 rfl rfl rfl rfl rfl (Nat.le_of_ble_eq_true rfl) (fun H locs hW => ?_)
  have hW : Wd G A s.heap [(h0, .inr (10, [.ref h0k, .ref h0t, .ref h0f, .ref h0s, .ref h0h, .int ct1, .int cp, .int on, .int nm])), (h0k, .inl (G.2 0, 132, .inl kd)), (h0t, .inl (G.2 0, 132, .inl tg)), (h0f, .inl (G.2 0, 132, .inl fi)), (h0s, .inl (G.2 0, 132, .inl se)), (h0h, .inl (G.2 0, 132, .inl th)), (h1, .inr (10, [.ref h1k, .ref h1t, .ref h1f, .ref h1s, .ref h1h, .int ct1, .int cp1, .int on1, .int nm1])), (h1k, .inl (G.2 0, 132, .inl kd1)), (h1t, .inl (G.2 0, 132, .inl tg1)), (h1f, .inl (G.2 0, 132, .inl fi1)), (h1s, .inl (G.2 0, 132, .inl se1)), (h1h, .inl (G.2 0, 132, .inl th1))] H locs := hW
  refine lv_aload_n hx hb d_Script_copy_8 rfl (lv_at hl 0 rfl) ?_
  refine lv_aload_n hx hb d_Script_copy_9 rfl (lv_at hl 1 rfl) ?_
  refine Wd.get hx hb hts hown hK hW 6 6 in_Script w_fl_Script_31 (by decide) d_Script_copy_10 rfl rfl rfl ?_
  refine Wd.put hx hb hts hown hK hW 0 6 in_Script t_Script_ok n_Script w_fl_Script_31 (by decide) d_Script_copy_13 rfl rfl rfl rfl rfl (Nat.le_of_ble_eq_true rfl) (fun H locs hW => ?_)
  have hW : Wd G A s.heap [(h0, .inr (10, [.ref h0k, .ref h0t, .ref h0f, .ref h0s, .ref h0h, .int ct1, .int cp1, .int on, .int nm])), (h0k, .inl (G.2 0, 132, .inl kd)), (h0t, .inl (G.2 0, 132, .inl tg)), (h0f, .inl (G.2 0, 132, .inl fi)), (h0s, .inl (G.2 0, 132, .inl se)), (h0h, .inl (G.2 0, 132, .inl th)), (h1, .inr (10, [.ref h1k, .ref h1t, .ref h1f, .ref h1s, .ref h1h, .int ct1, .int cp1, .int on1, .int nm1])), (h1k, .inl (G.2 0, 132, .inl kd1)), (h1t, .inl (G.2 0, 132, .inl tg1)), (h1f, .inl (G.2 0, 132, .inl fi1)), (h1s, .inl (G.2 0, 132, .inl se1)), (h1h, .inl (G.2 0, 132, .inl th1))] H locs := hW
  refine lv_aload_n hx hb d_Script_copy_16 rfl (lv_at hl 0 rfl) ?_
  refine lv_aload_n hx hb d_Script_copy_17 rfl (lv_at hl 1 rfl) ?_
  refine Wd.get hx hb hts hown hK hW 6 7 in_Script w_fl_Script_34 (by decide) d_Script_copy_18 rfl rfl rfl ?_
  refine Wd.put hx hb hts hown hK hW 0 7 in_Script t_Script_ok n_Script w_fl_Script_34 (by decide) d_Script_copy_21 rfl rfl rfl rfl rfl (Nat.le_of_ble_eq_true rfl) (fun H locs hW => ?_)
  have hW : Wd G A s.heap [(h0, .inr (10, [.ref h0k, .ref h0t, .ref h0f, .ref h0s, .ref h0h, .int ct1, .int cp1, .int on1, .int nm])), (h0k, .inl (G.2 0, 132, .inl kd)), (h0t, .inl (G.2 0, 132, .inl tg)), (h0f, .inl (G.2 0, 132, .inl fi)), (h0s, .inl (G.2 0, 132, .inl se)), (h0h, .inl (G.2 0, 132, .inl th)), (h1, .inr (10, [.ref h1k, .ref h1t, .ref h1f, .ref h1s, .ref h1h, .int ct1, .int cp1, .int on1, .int nm1])), (h1k, .inl (G.2 0, 132, .inl kd1)), (h1t, .inl (G.2 0, 132, .inl tg1)), (h1f, .inl (G.2 0, 132, .inl fi1)), (h1s, .inl (G.2 0, 132, .inl se1)), (h1h, .inl (G.2 0, 132, .inl th1))] H locs := hW
  refine lv_aload_n hx hb d_Script_copy_24 rfl (lv_at hl 0 rfl) ?_
  refine lv_aload_n hx hb d_Script_copy_25 rfl (lv_at hl 1 rfl) ?_
  refine Wd.get hx hb hts hown hK hW 6 8 in_Script w_fl_Script_37 (by decide) d_Script_copy_26 rfl rfl rfl ?_
  refine Wd.put hx hb hts hown hK hW 0 8 in_Script t_Script_ok n_Script w_fl_Script_37 (by decide) d_Script_copy_29 rfl rfl rfl rfl rfl (Nat.le_of_ble_eq_true rfl) (fun H locs hW => ?_)
  have hW : Wd G A s.heap [(h0, .inr (10, [.ref h0k, .ref h0t, .ref h0f, .ref h0s, .ref h0h, .int ct1, .int cp1, .int on1, .int nm1])), (h0k, .inl (G.2 0, 132, .inl kd)), (h0t, .inl (G.2 0, 132, .inl tg)), (h0f, .inl (G.2 0, 132, .inl fi)), (h0s, .inl (G.2 0, 132, .inl se)), (h0h, .inl (G.2 0, 132, .inl th)), (h1, .inr (10, [.ref h1k, .ref h1t, .ref h1f, .ref h1s, .ref h1h, .int ct1, .int cp1, .int on1, .int nm1])), (h1k, .inl (G.2 0, 132, .inl kd1)), (h1t, .inl (G.2 0, 132, .inl tg1)), (h1f, .inl (G.2 0, 132, .inl fi1)), (h1s, .inl (G.2 0, 132, .inl se1)), (h1h, .inl (G.2 0, 132, .inl th1))] H locs := hW
  refine lv_aload_n hx hb d_Script_copy_32 rfl (lv_at hl 1 rfl) ?_
  refine Wd.get hx hb hts hown hK hW 6 0 in_Script w_fl_Script_11 (by decide) d_Script_copy_33 rfl rfl rfl ?_
  refine lv_iconst (v := 0) hx hb d_Script_copy_36 (by decide) ?_
  refine lv_aload_n hx hb d_Script_copy_37 rfl (lv_at hl 0 rfl) ?_
  refine Wd.get hx hb hts hown hK hW 0 0 in_Script w_fl_Script_11 (by decide) d_Script_copy_38 rfl rfl rfl ?_
  refine lv_iconst (v := 0) hx hb d_Script_copy_41 (by decide) ?_
  refine lv_aload_n hx hb d_Script_copy_42 rfl (lv_at hl 0 rfl) ?_
  refine Wd.get hx hb hts hown hK hW 0 5 in_Script w_fl_Script_27 (by decide) d_Script_copy_43 rfl rfl rfl ?_
  refine Wd.copyi (sp := 0) (dp := 0) hx hb (hml.trans hl.1.symm) hts hown hK hW 7 1 0 w_ml_Script_40 d_Script_copy_46 rfl rfl rfl rfl (by decide) (by decide) hc0 (Nat.le_trans (Nat.le_of_eq (Nat.zero_add _)) hc1) (Nat.le_trans (Nat.le_of_eq (Nat.zero_add _)) hc1) (fun _ _ => rfl) (by decide) (Nat.le_of_ble_eq_true rfl) (fun H locs hW => ?_)
  have hW : Wd G A s.heap [(h0, .inr (10, [.ref h0k, .ref h0t, .ref h0f, .ref h0s, .ref h0h, .int ct1, .int cp1, .int on1, .int nm1])), (h0k, .inl (G.2 0, 132, .inl (va_cpy kd1 kd 0 0 ct1.toNatClampNeg))), (h0t, .inl (G.2 0, 132, .inl tg)), (h0f, .inl (G.2 0, 132, .inl fi)), (h0s, .inl (G.2 0, 132, .inl se)), (h0h, .inl (G.2 0, 132, .inl th)), (h1, .inr (10, [.ref h1k, .ref h1t, .ref h1f, .ref h1s, .ref h1h, .int ct1, .int cp1, .int on1, .int nm1])), (h1k, .inl (G.2 0, 132, .inl kd1)), (h1t, .inl (G.2 0, 132, .inl tg1)), (h1f, .inl (G.2 0, 132, .inl fi1)), (h1s, .inl (G.2 0, 132, .inl se1)), (h1h, .inl (G.2 0, 132, .inl th1))] H locs := hW
  refine lv_aload_n hx hb d_Script_copy_49 rfl (lv_at hl 1 rfl) ?_
  refine Wd.get hx hb hts hown hK hW 6 1 in_Script w_fl_Script_15 (by decide) d_Script_copy_50 rfl rfl rfl ?_
  refine lv_iconst (v := 0) hx hb d_Script_copy_53 (by decide) ?_
  refine lv_aload_n hx hb d_Script_copy_54 rfl (lv_at hl 0 rfl) ?_
  refine Wd.get hx hb hts hown hK hW 0 1 in_Script w_fl_Script_15 (by decide) d_Script_copy_55 rfl rfl rfl ?_
  refine lv_iconst (v := 0) hx hb d_Script_copy_58 (by decide) ?_
  refine lv_aload_n hx hb d_Script_copy_59 rfl (lv_at hl 0 rfl) ?_
  refine Wd.get hx hb hts hown hK hW 0 5 in_Script w_fl_Script_27 (by decide) d_Script_copy_60 rfl rfl rfl ?_
  refine Wd.copyi (sp := 0) (dp := 0) hx hb (hml.trans hl.1.symm) hts hown hK hW 8 2 0 w_ml_Script_40 d_Script_copy_63 rfl rfl rfl rfl (by decide) (by decide) hc0 (Nat.le_trans (Nat.le_of_eq (Nat.zero_add _)) hc1) (Nat.le_trans (Nat.le_of_eq (Nat.zero_add _)) hc1) (fun _ _ => rfl) (by decide) (Nat.le_of_ble_eq_true rfl) (fun H locs hW => ?_)
  have hW : Wd G A s.heap [(h0, .inr (10, [.ref h0k, .ref h0t, .ref h0f, .ref h0s, .ref h0h, .int ct1, .int cp1, .int on1, .int nm1])), (h0k, .inl (G.2 0, 132, .inl (va_cpy kd1 kd 0 0 ct1.toNatClampNeg))), (h0t, .inl (G.2 0, 132, .inl (va_cpy tg1 tg 0 0 ct1.toNatClampNeg))), (h0f, .inl (G.2 0, 132, .inl fi)), (h0s, .inl (G.2 0, 132, .inl se)), (h0h, .inl (G.2 0, 132, .inl th)), (h1, .inr (10, [.ref h1k, .ref h1t, .ref h1f, .ref h1s, .ref h1h, .int ct1, .int cp1, .int on1, .int nm1])), (h1k, .inl (G.2 0, 132, .inl kd1)), (h1t, .inl (G.2 0, 132, .inl tg1)), (h1f, .inl (G.2 0, 132, .inl fi1)), (h1s, .inl (G.2 0, 132, .inl se1)), (h1h, .inl (G.2 0, 132, .inl th1))] H locs := hW
  refine lv_aload_n hx hb d_Script_copy_66 rfl (lv_at hl 1 rfl) ?_
  refine Wd.get hx hb hts hown hK hW 6 2 in_Script w_fl_Script_18 (by decide) d_Script_copy_67 rfl rfl rfl ?_
  refine lv_iconst (v := 0) hx hb d_Script_copy_70 (by decide) ?_
  refine lv_aload_n hx hb d_Script_copy_71 rfl (lv_at hl 0 rfl) ?_
  refine Wd.get hx hb hts hown hK hW 0 2 in_Script w_fl_Script_18 (by decide) d_Script_copy_72 rfl rfl rfl ?_
  refine lv_iconst (v := 0) hx hb d_Script_copy_75 (by decide) ?_
  refine lv_aload_n hx hb d_Script_copy_76 rfl (lv_at hl 0 rfl) ?_
  refine Wd.get hx hb hts hown hK hW 0 5 in_Script w_fl_Script_27 (by decide) d_Script_copy_77 rfl rfl rfl ?_
  refine Wd.copyi (sp := 0) (dp := 0) hx hb (hml.trans hl.1.symm) hts hown hK hW 9 3 0 w_ml_Script_40 d_Script_copy_80 rfl rfl rfl rfl (by decide) (by decide) hc0 (Nat.le_trans (Nat.le_of_eq (Nat.zero_add _)) hc1) (Nat.le_trans (Nat.le_of_eq (Nat.zero_add _)) hc1) (fun _ _ => rfl) (by decide) (Nat.le_of_ble_eq_true rfl) (fun H locs hW => ?_)
  have hW : Wd G A s.heap [(h0, .inr (10, [.ref h0k, .ref h0t, .ref h0f, .ref h0s, .ref h0h, .int ct1, .int cp1, .int on1, .int nm1])), (h0k, .inl (G.2 0, 132, .inl (va_cpy kd1 kd 0 0 ct1.toNatClampNeg))), (h0t, .inl (G.2 0, 132, .inl (va_cpy tg1 tg 0 0 ct1.toNatClampNeg))), (h0f, .inl (G.2 0, 132, .inl (va_cpy fi1 fi 0 0 ct1.toNatClampNeg))), (h0s, .inl (G.2 0, 132, .inl se)), (h0h, .inl (G.2 0, 132, .inl th)), (h1, .inr (10, [.ref h1k, .ref h1t, .ref h1f, .ref h1s, .ref h1h, .int ct1, .int cp1, .int on1, .int nm1])), (h1k, .inl (G.2 0, 132, .inl kd1)), (h1t, .inl (G.2 0, 132, .inl tg1)), (h1f, .inl (G.2 0, 132, .inl fi1)), (h1s, .inl (G.2 0, 132, .inl se1)), (h1h, .inl (G.2 0, 132, .inl th1))] H locs := hW
  refine lv_aload_n hx hb d_Script_copy_83 rfl (lv_at hl 1 rfl) ?_
  refine Wd.get hx hb hts hown hK hW 6 3 in_Script w_fl_Script_21 (by decide) d_Script_copy_84 rfl rfl rfl ?_
  refine lv_iconst (v := 0) hx hb d_Script_copy_87 (by decide) ?_
  refine lv_aload_n hx hb d_Script_copy_88 rfl (lv_at hl 0 rfl) ?_
  refine Wd.get hx hb hts hown hK hW 0 3 in_Script w_fl_Script_21 (by decide) d_Script_copy_89 rfl rfl rfl ?_
  refine lv_iconst (v := 0) hx hb d_Script_copy_92 (by decide) ?_
  refine lv_aload_n hx hb d_Script_copy_93 rfl (lv_at hl 0 rfl) ?_
  refine Wd.get hx hb hts hown hK hW 0 5 in_Script w_fl_Script_27 (by decide) d_Script_copy_94 rfl rfl rfl ?_
  refine Wd.copyi (sp := 0) (dp := 0) hx hb (hml.trans hl.1.symm) hts hown hK hW 10 4 0 w_ml_Script_40 d_Script_copy_97 rfl rfl rfl rfl (by decide) (by decide) hc0 (Nat.le_trans (Nat.le_of_eq (Nat.zero_add _)) hc1) (Nat.le_trans (Nat.le_of_eq (Nat.zero_add _)) hc1) (fun _ _ => rfl) (by decide) (Nat.le_of_ble_eq_true rfl) (fun H locs hW => ?_)
  have hW : Wd G A s.heap [(h0, .inr (10, [.ref h0k, .ref h0t, .ref h0f, .ref h0s, .ref h0h, .int ct1, .int cp1, .int on1, .int nm1])), (h0k, .inl (G.2 0, 132, .inl (va_cpy kd1 kd 0 0 ct1.toNatClampNeg))), (h0t, .inl (G.2 0, 132, .inl (va_cpy tg1 tg 0 0 ct1.toNatClampNeg))), (h0f, .inl (G.2 0, 132, .inl (va_cpy fi1 fi 0 0 ct1.toNatClampNeg))), (h0s, .inl (G.2 0, 132, .inl (va_cpy se1 se 0 0 ct1.toNatClampNeg))), (h0h, .inl (G.2 0, 132, .inl th)), (h1, .inr (10, [.ref h1k, .ref h1t, .ref h1f, .ref h1s, .ref h1h, .int ct1, .int cp1, .int on1, .int nm1])), (h1k, .inl (G.2 0, 132, .inl kd1)), (h1t, .inl (G.2 0, 132, .inl tg1)), (h1f, .inl (G.2 0, 132, .inl fi1)), (h1s, .inl (G.2 0, 132, .inl se1)), (h1h, .inl (G.2 0, 132, .inl th1))] H locs := hW
  refine lv_aload_n hx hb d_Script_copy_100 rfl (lv_at hl 1 rfl) ?_
  refine Wd.get hx hb hts hown hK hW 6 4 in_Script w_fl_Script_24 (by decide) d_Script_copy_101 rfl rfl rfl ?_
  refine lv_iconst (v := 0) hx hb d_Script_copy_104 (by decide) ?_
  refine lv_aload_n hx hb d_Script_copy_105 rfl (lv_at hl 0 rfl) ?_
  refine Wd.get hx hb hts hown hK hW 0 4 in_Script w_fl_Script_24 (by decide) d_Script_copy_106 rfl rfl rfl ?_
  refine lv_iconst (v := 0) hx hb d_Script_copy_109 (by decide) ?_
  refine lv_aload_n hx hb d_Script_copy_110 rfl (lv_at hl 0 rfl) ?_
  refine Wd.get hx hb hts hown hK hW 0 5 in_Script w_fl_Script_27 (by decide) d_Script_copy_111 rfl rfl rfl ?_
  refine Wd.copyi (sp := 0) (dp := 0) hx hb (hml.trans hl.1.symm) hts hown hK hW 11 5 0 w_ml_Script_40 d_Script_copy_114 rfl rfl rfl rfl (by decide) (by decide) hc0 (Nat.le_trans (Nat.le_of_eq (Nat.zero_add _)) hc1) (Nat.le_trans (Nat.le_of_eq (Nat.zero_add _)) hc1) (fun _ _ => rfl) (by decide) (Nat.le_of_ble_eq_true rfl) (fun H locs hW => ?_)
  have hW : Wd G A s.heap [(h0, .inr (10, [.ref h0k, .ref h0t, .ref h0f, .ref h0s, .ref h0h, .int ct1, .int cp1, .int on1, .int nm1])), (h0k, .inl (G.2 0, 132, .inl (va_cpy kd1 kd 0 0 ct1.toNatClampNeg))), (h0t, .inl (G.2 0, 132, .inl (va_cpy tg1 tg 0 0 ct1.toNatClampNeg))), (h0f, .inl (G.2 0, 132, .inl (va_cpy fi1 fi 0 0 ct1.toNatClampNeg))), (h0s, .inl (G.2 0, 132, .inl (va_cpy se1 se 0 0 ct1.toNatClampNeg))), (h0h, .inl (G.2 0, 132, .inl (va_cpy th1 th 0 0 ct1.toNatClampNeg))), (h1, .inr (10, [.ref h1k, .ref h1t, .ref h1f, .ref h1s, .ref h1h, .int ct1, .int cp1, .int on1, .int nm1])), (h1k, .inl (G.2 0, 132, .inl kd1)), (h1t, .inl (G.2 0, 132, .inl tg1)), (h1f, .inl (G.2 0, 132, .inl fi1)), (h1s, .inl (G.2 0, 132, .inl se1)), (h1h, .inl (G.2 0, 132, .inl th1))] H locs := hW
  exact Ct.vret hx hb hr hnl hW (by decide) (by decide) d_Script_copy_117 ⟨rfl, rfl⟩

abbrev rm_Script_add : Room := { frames := 0, cells := 0, slots := 0, locals := 0 }
set_option maxHeartbeats 4000000 in
set_option maxRecDepth 100000 in
theorem c_Script_add (l : Launch) (G : Gt) (h0 : Nat) (h0k : Nat) (h0t : Nat) (h0f : Nat) (h0s : Nat) (h0h : Nat) (ct : Int32) (cp : Int32) (on : Int32) (nm : Int32) (kd : Nat → Int32) (tg : Nat → Int32) (fi : Nat → Int32) (se : Nat → Int32) (th : Nat → Int32) (x0 : Int32) (x1 : Int32) (x2 : Int32) (x3 : Int32) (x4 : Int32) (hc0 : ¬ ct < 0) (hc1 : ¬ 132 ≤ ct) : Ct l G y_Script_add b_Script_add 6 none rm_Script_add [.ref h0, .int x0, .int x1, .int x2, .int x3, .int x4] [(h0, .inr (10, [.ref h0k, .ref h0t, .ref h0f, .ref h0s, .ref h0h, .int ct, .int cp, .int on, .int nm])), (h0k, .inl (G.2 0, 132, .inl kd)), (h0t, .inl (G.2 0, 132, .inl tg)), (h0f, .inl (G.2 0, 132, .inl fi)), (h0s, .inl (G.2 0, 132, .inl se)), (h0h, .inl (G.2 0, 132, .inl th))] 0 0 (fun v w' => v = none ∧ w' = [(h0, .inr (10, [.ref h0k, .ref h0t, .ref h0f, .ref h0s, .ref h0h, .int (ct + 1), .int cp, .int on, .int nm])), (h0k, .inl (G.2 0, 132, .inl (upd kd ct.toNatClampNeg x0))), (h0t, .inl (G.2 0, 132, .inl (upd tg ct.toNatClampNeg x1))), (h0f, .inl (G.2 0, 132, .inl (upd fi ct.toNatClampNeg x2))), (h0s, .inl (G.2 0, 132, .inl (upd se ct.toNatClampNeg x3))), (h0h, .inl (G.2 0, 132, .inl (upd th ct.toNatClampNeg x4)))]) := by
  refine Ct.of (by decide) (Nat.le_of_ble_eq_true rfl) (fun p e s m args below meth c A ls H locs hx hb hml hr hnl hown hts hnm hK hA hl hW => ?_)
  have hl : lv_has ls 6 [(0, .ref h0), (1, .int x0), (2, .int x1), (3, .int x2), (4, .int x3), (5, .int x4)] := hl
  refine lv_aload_n hx hb d_Script_add_0 rfl (lv_at hl 0 rfl) ?_
  refine Wd.get hx hb hts hown hK hW 0 5 in_Script w_fl_Script_27 (by decide) d_Script_add_1 rfl rfl rfl ?_
  refine lv_sipush (v := 132) hx hb d_Script_add_4 (by decide) ?_
  refine lv_icmp_lt (tgt := 11) hx hb d_Script_add_7 rfl (fun _ => ?_) (fun hz => absurd (Int32.not_le.mp hc1) hz)
  refine lv_aload_n hx hb d_Script_add_11 rfl (lv_at hl 0 rfl) ?_
  refine Wd.get hx hb hts hown hK hW 0 0 in_Script w_fl_Script_11 (by decide) d_Script_add_12 rfl rfl rfl ?_
  refine lv_aload_n hx hb d_Script_add_15 rfl (lv_at hl 0 rfl) ?_
  refine Wd.get hx hb hts hown hK hW 0 5 in_Script w_fl_Script_27 (by decide) d_Script_add_16 rfl rfl rfl ?_
  refine lv_iload_n hx hb d_Script_add_19 rfl (lv_at hl 1 rfl) ?_
  refine Wd.iast hx hb hK hW 1 d_Script_add_20 rfl (vp_in_c 132 (by decide) hc0 hc1) (fun H locs hW => ?_)
  have hW : Wd G A s.heap [(h0, .inr (10, [.ref h0k, .ref h0t, .ref h0f, .ref h0s, .ref h0h, .int ct, .int cp, .int on, .int nm])), (h0k, .inl (G.2 0, 132, .inl (upd kd ct.toNatClampNeg x0))), (h0t, .inl (G.2 0, 132, .inl tg)), (h0f, .inl (G.2 0, 132, .inl fi)), (h0s, .inl (G.2 0, 132, .inl se)), (h0h, .inl (G.2 0, 132, .inl th))] H locs := hW
  refine lv_aload_n hx hb d_Script_add_21 rfl (lv_at hl 0 rfl) ?_
  refine Wd.get hx hb hts hown hK hW 0 1 in_Script w_fl_Script_15 (by decide) d_Script_add_22 rfl rfl rfl ?_
  refine lv_aload_n hx hb d_Script_add_25 rfl (lv_at hl 0 rfl) ?_
  refine Wd.get hx hb hts hown hK hW 0 5 in_Script w_fl_Script_27 (by decide) d_Script_add_26 rfl rfl rfl ?_
  refine lv_iload_n hx hb d_Script_add_29 rfl (lv_at hl 2 rfl) ?_
  refine Wd.iast hx hb hK hW 2 d_Script_add_30 rfl (vp_in_c 132 (by decide) hc0 hc1) (fun H locs hW => ?_)
  have hW : Wd G A s.heap [(h0, .inr (10, [.ref h0k, .ref h0t, .ref h0f, .ref h0s, .ref h0h, .int ct, .int cp, .int on, .int nm])), (h0k, .inl (G.2 0, 132, .inl (upd kd ct.toNatClampNeg x0))), (h0t, .inl (G.2 0, 132, .inl (upd tg ct.toNatClampNeg x1))), (h0f, .inl (G.2 0, 132, .inl fi)), (h0s, .inl (G.2 0, 132, .inl se)), (h0h, .inl (G.2 0, 132, .inl th))] H locs := hW
  refine lv_aload_n hx hb d_Script_add_31 rfl (lv_at hl 0 rfl) ?_
  refine Wd.get hx hb hts hown hK hW 0 2 in_Script w_fl_Script_18 (by decide) d_Script_add_32 rfl rfl rfl ?_
  refine lv_aload_n hx hb d_Script_add_35 rfl (lv_at hl 0 rfl) ?_
  refine Wd.get hx hb hts hown hK hW 0 5 in_Script w_fl_Script_27 (by decide) d_Script_add_36 rfl rfl rfl ?_
  refine lv_iload_n hx hb d_Script_add_39 rfl (lv_at hl 3 rfl) ?_
  refine Wd.iast hx hb hK hW 3 d_Script_add_40 rfl (vp_in_c 132 (by decide) hc0 hc1) (fun H locs hW => ?_)
  have hW : Wd G A s.heap [(h0, .inr (10, [.ref h0k, .ref h0t, .ref h0f, .ref h0s, .ref h0h, .int ct, .int cp, .int on, .int nm])), (h0k, .inl (G.2 0, 132, .inl (upd kd ct.toNatClampNeg x0))), (h0t, .inl (G.2 0, 132, .inl (upd tg ct.toNatClampNeg x1))), (h0f, .inl (G.2 0, 132, .inl (upd fi ct.toNatClampNeg x2))), (h0s, .inl (G.2 0, 132, .inl se)), (h0h, .inl (G.2 0, 132, .inl th))] H locs := hW
  refine lv_aload_n hx hb d_Script_add_41 rfl (lv_at hl 0 rfl) ?_
  refine Wd.get hx hb hts hown hK hW 0 3 in_Script w_fl_Script_21 (by decide) d_Script_add_42 rfl rfl rfl ?_
  refine lv_aload_n hx hb d_Script_add_45 rfl (lv_at hl 0 rfl) ?_
  refine Wd.get hx hb hts hown hK hW 0 5 in_Script w_fl_Script_27 (by decide) d_Script_add_46 rfl rfl rfl ?_
  refine lv_iload hx hb d_Script_add_49 (lv_at hl 4 rfl) ?_
  refine Wd.iast hx hb hK hW 4 d_Script_add_51 rfl (vp_in_c 132 (by decide) hc0 hc1) (fun H locs hW => ?_)
  have hW : Wd G A s.heap [(h0, .inr (10, [.ref h0k, .ref h0t, .ref h0f, .ref h0s, .ref h0h, .int ct, .int cp, .int on, .int nm])), (h0k, .inl (G.2 0, 132, .inl (upd kd ct.toNatClampNeg x0))), (h0t, .inl (G.2 0, 132, .inl (upd tg ct.toNatClampNeg x1))), (h0f, .inl (G.2 0, 132, .inl (upd fi ct.toNatClampNeg x2))), (h0s, .inl (G.2 0, 132, .inl (upd se ct.toNatClampNeg x3))), (h0h, .inl (G.2 0, 132, .inl th))] H locs := hW
  refine lv_aload_n hx hb d_Script_add_52 rfl (lv_at hl 0 rfl) ?_
  refine Wd.get hx hb hts hown hK hW 0 4 in_Script w_fl_Script_24 (by decide) d_Script_add_53 rfl rfl rfl ?_
  refine lv_aload_n hx hb d_Script_add_56 rfl (lv_at hl 0 rfl) ?_
  refine Wd.get hx hb hts hown hK hW 0 5 in_Script w_fl_Script_27 (by decide) d_Script_add_57 rfl rfl rfl ?_
  refine lv_iload hx hb d_Script_add_60 (lv_at hl 5 rfl) ?_
  refine Wd.iast hx hb hK hW 5 d_Script_add_62 rfl (vp_in_c 132 (by decide) hc0 hc1) (fun H locs hW => ?_)
  have hW : Wd G A s.heap [(h0, .inr (10, [.ref h0k, .ref h0t, .ref h0f, .ref h0s, .ref h0h, .int ct, .int cp, .int on, .int nm])), (h0k, .inl (G.2 0, 132, .inl (upd kd ct.toNatClampNeg x0))), (h0t, .inl (G.2 0, 132, .inl (upd tg ct.toNatClampNeg x1))), (h0f, .inl (G.2 0, 132, .inl (upd fi ct.toNatClampNeg x2))), (h0s, .inl (G.2 0, 132, .inl (upd se ct.toNatClampNeg x3))), (h0h, .inl (G.2 0, 132, .inl (upd th ct.toNatClampNeg x4)))] H locs := hW
  refine lv_aload_n hx hb d_Script_add_63 rfl (lv_at hl 0 rfl) ?_
  refine lv_dup hx hb d_Script_add_64 rfl ?_
  refine Wd.get hx hb hts hown hK hW 0 5 in_Script w_fl_Script_27 (by decide) d_Script_add_65 rfl rfl rfl ?_
  refine lv_iconst (v := 1) hx hb d_Script_add_68 (by decide) ?_
  refine lv_iadd hx hb d_Script_add_69 ?_
  refine Wd.put hx hb hts hown hK hW 0 5 in_Script t_Script_ok n_Script w_fl_Script_27 (by decide) d_Script_add_70 rfl rfl rfl rfl rfl (Nat.le_of_ble_eq_true rfl) (fun H locs hW => ?_)
  have hW : Wd G A s.heap [(h0, .inr (10, [.ref h0k, .ref h0t, .ref h0f, .ref h0s, .ref h0h, .int (ct + 1), .int cp, .int on, .int nm])), (h0k, .inl (G.2 0, 132, .inl (upd kd ct.toNatClampNeg x0))), (h0t, .inl (G.2 0, 132, .inl (upd tg ct.toNatClampNeg x1))), (h0f, .inl (G.2 0, 132, .inl (upd fi ct.toNatClampNeg x2))), (h0s, .inl (G.2 0, 132, .inl (upd se ct.toNatClampNeg x3))), (h0h, .inl (G.2 0, 132, .inl (upd th ct.toNatClampNeg x4)))] H locs := hW
  exact Ct.vret hx hb hr hnl hW (by decide) (by decide) d_Script_add_73 ⟨rfl, rfl⟩

abbrev rm_Script_name : Room := { frames := 0, cells := 0, slots := 0, locals := 0 }
set_option maxHeartbeats 4000000 in
set_option maxRecDepth 100000 in
theorem c_Script_name (l : Launch) (G : Gt) (h0 : Nat) (h0k : Nat) (h0t : Nat) (h0f : Nat) (h0s : Nat) (h0h : Nat) (ct : Int32) (cp : Int32) (on : Int32) (nm : Int32) (x : Int32) : Ct l G y_Script_name b_Script_name 2 none rm_Script_name [.ref h0, .int x] [(h0, .inr (10, [.ref h0k, .ref h0t, .ref h0f, .ref h0s, .ref h0h, .int ct, .int cp, .int on, .int nm]))] 0 0 (fun v w' => v = none ∧ w' = [(h0, .inr (10, [.ref h0k, .ref h0t, .ref h0f, .ref h0s, .ref h0h, .int ct, .int cp, .int on, .int (nm ||| (1 <<< (x &&& 31)))]))]) := by
  refine Ct.of (by decide) (Nat.le_of_ble_eq_true rfl) (fun p e s m args below meth c A ls H locs hx hb hml hr hnl hown hts hnm hK hA hl hW => ?_)
  have hl : lv_has ls 2 [(0, .ref h0), (1, .int x)] := hl
  refine lv_aload_n hx hb d_Script_name_0 rfl (lv_at hl 0 rfl) ?_
  refine lv_dup hx hb d_Script_name_1 rfl ?_
  refine Wd.get hx hb hts hown hK hW 0 8 in_Script w_fl_Script_37 (by decide) d_Script_name_2 rfl rfl rfl ?_
  refine lv_iconst (v := 1) hx hb d_Script_name_5 (by decide) ?_
  refine lv_iload_n hx hb d_Script_name_6 rfl (lv_at hl 1 rfl) ?_
  refine lv_ishl hx hb d_Script_name_7 ?_
  refine lv_ior hx hb d_Script_name_8 ?_
  refine Wd.put hx hb hts hown hK hW 0 8 in_Script t_Script_ok n_Script w_fl_Script_37 (by decide) d_Script_name_9 rfl rfl rfl rfl rfl (Nat.le_of_ble_eq_true rfl) (fun H locs hW => ?_)
  have hW : Wd G A s.heap [(h0, .inr (10, [.ref h0k, .ref h0t, .ref h0f, .ref h0s, .ref h0h, .int ct, .int cp, .int on, .int (nm ||| (1 <<< (x &&& 31)))]))] H locs := hW
  exact Ct.vret hx hb hr hnl hW (by decide) (by decide) d_Script_name_12 ⟨rfl, rfl⟩

abbrev rm_Script_names_0 : Room := { frames := 0, cells := 0, slots := 0, locals := 0 }
set_option maxHeartbeats 4000000 in
set_option maxRecDepth 100000 in
theorem c_Script_names_0 (l : Launch) (G : Gt) (h0 : Nat) (h0k : Nat) (h0t : Nat) (h0f : Nat) (h0s : Nat) (h0h : Nat) (ct : Int32) (cp : Int32) (on : Int32) (nm : Int32) (x : Int32) (hs0 : ¬ ((((nm.toUInt32 >>> (x.toUInt32 &&& Int32.toUInt32 31)).toInt32) &&& 1) = 1)) : Ct l G y_Script_names b_Script_names 2 (some .boolean) rm_Script_names_0 [.ref h0, .int x] [(h0, .inr (10, [.ref h0k, .ref h0t, .ref h0f, .ref h0s, .ref h0h, .int ct, .int cp, .int on, .int nm]))] 0 0 (fun v w' => v = some (.int 0) ∧ w' = [(h0, .inr (10, [.ref h0k, .ref h0t, .ref h0f, .ref h0s, .ref h0h, .int ct, .int cp, .int on, .int nm]))]) := by
  refine Ct.of (by decide) (Nat.le_of_ble_eq_true rfl) (fun p e s m args below meth c A ls H locs hx hb hml hr hnl hown hts hnm hK hA hl hW => ?_)
  have hl : lv_has ls 2 [(0, .ref h0), (1, .int x)] := hl
  refine lv_aload_n hx hb d_Script_names_0 rfl (lv_at hl 0 rfl) ?_
  refine Wd.get hx hb hts hown hK hW 0 8 in_Script w_fl_Script_37 (by decide) d_Script_names_1 rfl rfl rfl ?_
  refine lv_iload_n hx hb d_Script_names_4 rfl (lv_at hl 1 rfl) ?_
  refine lv_iushr (v := (nm.toUInt32 >>> (x.toUInt32 &&& Int32.toUInt32 31)).toInt32) hx hb d_Script_names_5 rfl ?_
  refine lv_iconst (v := 1) hx hb d_Script_names_6 (by decide) ?_
  refine lv_iand hx hb d_Script_names_7 ?_
  refine lv_iconst (v := 1) hx hb d_Script_names_8 (by decide) ?_
  refine lv_icmp_ne (tgt := 16) hx hb d_Script_names_9 rfl (fun _ => ?_) (fun hz => absurd hz hs0)
  refine lv_iconst (v := 0) hx hb d_Script_names_16 (by decide) ?_
  exact Ct.zret hx hb hr hnl hW (by decide) (by decide) d_Script_names_17 (by decide) ⟨rfl, rfl⟩

abbrev rm_Script_names_1 : Room := { frames := 0, cells := 0, slots := 0, locals := 0 }
set_option maxHeartbeats 4000000 in
set_option maxRecDepth 100000 in
theorem c_Script_names_1 (l : Launch) (G : Gt) (h0 : Nat) (h0k : Nat) (h0t : Nat) (h0f : Nat) (h0s : Nat) (h0h : Nat) (ct : Int32) (cp : Int32) (on : Int32) (nm : Int32) (x : Int32) (hs0 : (((nm.toUInt32 >>> (x.toUInt32 &&& Int32.toUInt32 31)).toInt32) &&& 1) = 1) : Ct l G y_Script_names b_Script_names 2 (some .boolean) rm_Script_names_1 [.ref h0, .int x] [(h0, .inr (10, [.ref h0k, .ref h0t, .ref h0f, .ref h0s, .ref h0h, .int ct, .int cp, .int on, .int nm]))] 0 0 (fun v w' => v = some (.int 1) ∧ w' = [(h0, .inr (10, [.ref h0k, .ref h0t, .ref h0f, .ref h0s, .ref h0h, .int ct, .int cp, .int on, .int nm]))]) := by
  refine Ct.of (by decide) (Nat.le_of_ble_eq_true rfl) (fun p e s m args below meth c A ls H locs hx hb hml hr hnl hown hts hnm hK hA hl hW => ?_)
  have hl : lv_has ls 2 [(0, .ref h0), (1, .int x)] := hl
  refine lv_aload_n hx hb d_Script_names_0 rfl (lv_at hl 0 rfl) ?_
  refine Wd.get hx hb hts hown hK hW 0 8 in_Script w_fl_Script_37 (by decide) d_Script_names_1 rfl rfl rfl ?_
  refine lv_iload_n hx hb d_Script_names_4 rfl (lv_at hl 1 rfl) ?_
  refine lv_iushr (v := (nm.toUInt32 >>> (x.toUInt32 &&& Int32.toUInt32 31)).toInt32) hx hb d_Script_names_5 rfl ?_
  refine lv_iconst (v := 1) hx hb d_Script_names_6 (by decide) ?_
  refine lv_iand hx hb d_Script_names_7 ?_
  refine lv_iconst (v := 1) hx hb d_Script_names_8 (by decide) ?_
  refine lv_icmp_ne (tgt := 16) hx hb d_Script_names_9 rfl (fun hz => absurd hs0 hz) (fun _ => ?_)
  refine lv_iconst (v := 1) hx hb d_Script_names_12 (by decide) ?_
  refine lv_goto (tgt := 17) hx hb d_Script_names_13 rfl ?_
  exact Ct.zret hx hb hr hnl hW (by decide) (by decide) d_Script_names_17 (by decide) ⟨rfl, rfl⟩

abbrev rm_Script_takeComparisons_0 : Room := { frames := 0, cells := 0, slots := 0, locals := 0 }
set_option maxHeartbeats 4000000 in
set_option maxRecDepth 100000 in
theorem c_Script_takeComparisons_0 (l : Launch) (G : Gt) (h0 : Nat) (h0k : Nat) (h0t : Nat) (h0f : Nat) (h0s : Nat) (h0h : Nat) (ct : Int32) (cp : Int32) (on : Int32) (nm : Int32) (x : Int32) (hs0 : (cp + x) ≤ 12) : Ct l G y_Script_takeComparisons b_Script_takeComparisons 2 (some .boolean) rm_Script_takeComparisons_0 [.ref h0, .int x] [(h0, .inr (10, [.ref h0k, .ref h0t, .ref h0f, .ref h0s, .ref h0h, .int ct, .int cp, .int on, .int nm]))] 0 0 (fun v w' => v = some (.int 1) ∧ w' = [(h0, .inr (10, [.ref h0k, .ref h0t, .ref h0f, .ref h0s, .ref h0h, .int ct, .int (cp + x), .int on, .int nm]))]) := by
  refine Ct.of (by decide) (Nat.le_of_ble_eq_true rfl) (fun p e s m args below meth c A ls H locs hx hb hml hr hnl hown hts hnm hK hA hl hW => ?_)
  have hl : lv_has ls 2 [(0, .ref h0), (1, .int x)] := hl
  refine lv_aload_n hx hb d_Script_takeComparisons_0 rfl (lv_at hl 0 rfl) ?_
  refine Wd.get hx hb hts hown hK hW 0 6 in_Script w_fl_Script_31 (by decide) d_Script_takeComparisons_1 rfl rfl rfl ?_
  refine lv_iload_n hx hb d_Script_takeComparisons_4 rfl (lv_at hl 1 rfl) ?_
  refine lv_iadd hx hb d_Script_takeComparisons_5 ?_
  refine lv_bipush (v := 12) hx hb d_Script_takeComparisons_6 (by decide) ?_
  refine lv_icmp_le (tgt := 13) hx hb d_Script_takeComparisons_8 rfl (fun _ => ?_) (fun hz => absurd hs0 hz)
  refine lv_aload_n hx hb d_Script_takeComparisons_13 rfl (lv_at hl 0 rfl) ?_
  refine lv_dup hx hb d_Script_takeComparisons_14 rfl ?_
  refine Wd.get hx hb hts hown hK hW 0 6 in_Script w_fl_Script_31 (by decide) d_Script_takeComparisons_15 rfl rfl rfl ?_
  refine lv_iload_n hx hb d_Script_takeComparisons_18 rfl (lv_at hl 1 rfl) ?_
  refine lv_iadd hx hb d_Script_takeComparisons_19 ?_
  refine Wd.put hx hb hts hown hK hW 0 6 in_Script t_Script_ok n_Script w_fl_Script_31 (by decide) d_Script_takeComparisons_20 rfl rfl rfl rfl rfl (Nat.le_of_ble_eq_true rfl) (fun H locs hW => ?_)
  have hW : Wd G A s.heap [(h0, .inr (10, [.ref h0k, .ref h0t, .ref h0f, .ref h0s, .ref h0h, .int ct, .int (cp + x), .int on, .int nm]))] H locs := hW
  refine lv_iconst (v := 1) hx hb d_Script_takeComparisons_23 (by decide) ?_
  exact Ct.zret hx hb hr hnl hW (by decide) (by decide) d_Script_takeComparisons_24 (by decide) ⟨rfl, rfl⟩

abbrev rm_Script_takeComparisons_1 : Room := { frames := 0, cells := 0, slots := 0, locals := 0 }
set_option maxHeartbeats 4000000 in
set_option maxRecDepth 100000 in
theorem c_Script_takeComparisons_1 (l : Launch) (G : Gt) (h0 : Nat) (h0k : Nat) (h0t : Nat) (h0f : Nat) (h0s : Nat) (h0h : Nat) (ct : Int32) (cp : Int32) (on : Int32) (nm : Int32) (x : Int32) (hs0 : ¬ ((cp + x) ≤ 12)) : Ct l G y_Script_takeComparisons b_Script_takeComparisons 2 (some .boolean) rm_Script_takeComparisons_1 [.ref h0, .int x] [(h0, .inr (10, [.ref h0k, .ref h0t, .ref h0f, .ref h0s, .ref h0h, .int ct, .int cp, .int on, .int nm]))] 0 0 (fun v w' => v = some (.int 0) ∧ w' = [(h0, .inr (10, [.ref h0k, .ref h0t, .ref h0f, .ref h0s, .ref h0h, .int ct, .int cp, .int on, .int nm]))]) := by
  refine Ct.of (by decide) (Nat.le_of_ble_eq_true rfl) (fun p e s m args below meth c A ls H locs hx hb hml hr hnl hown hts hnm hK hA hl hW => ?_)
  have hl : lv_has ls 2 [(0, .ref h0), (1, .int x)] := hl
  refine lv_aload_n hx hb d_Script_takeComparisons_0 rfl (lv_at hl 0 rfl) ?_
  refine Wd.get hx hb hts hown hK hW 0 6 in_Script w_fl_Script_31 (by decide) d_Script_takeComparisons_1 rfl rfl rfl ?_
  refine lv_iload_n hx hb d_Script_takeComparisons_4 rfl (lv_at hl 1 rfl) ?_
  refine lv_iadd hx hb d_Script_takeComparisons_5 ?_
  refine lv_bipush (v := 12) hx hb d_Script_takeComparisons_6 (by decide) ?_
  refine lv_icmp_le (tgt := 13) hx hb d_Script_takeComparisons_8 rfl (fun hz => absurd hz hs0) (fun _ => ?_)
  refine lv_iconst (v := 0) hx hb d_Script_takeComparisons_11 (by decide) ?_
  exact Ct.zret hx hb hr hnl hW (by decide) (by decide) d_Script_takeComparisons_12 (by decide) ⟨rfl, rfl⟩

abbrev rm_Script_takeOpen_0 : Room := { frames := 0, cells := 0, slots := 0, locals := 0 }
set_option maxHeartbeats 4000000 in
set_option maxRecDepth 100000 in
theorem c_Script_takeOpen_0 (l : Launch) (G : Gt) (h0 : Nat) (h0k : Nat) (h0t : Nat) (h0f : Nat) (h0s : Nat) (h0h : Nat) (ct : Int32) (cp : Int32) (on : Int32) (nm : Int32) (hs0 : on < 16) : Ct l G y_Script_takeOpen b_Script_takeOpen 1 (some .boolean) rm_Script_takeOpen_0 [.ref h0] [(h0, .inr (10, [.ref h0k, .ref h0t, .ref h0f, .ref h0s, .ref h0h, .int ct, .int cp, .int on, .int nm]))] 0 0 (fun v w' => v = some (.int 1) ∧ w' = [(h0, .inr (10, [.ref h0k, .ref h0t, .ref h0f, .ref h0s, .ref h0h, .int ct, .int cp, .int (on + 1), .int nm]))]) := by
  refine Ct.of (by decide) (Nat.le_of_ble_eq_true rfl) (fun p e s m args below meth c A ls H locs hx hb hml hr hnl hown hts hnm hK hA hl hW => ?_)
  have hl : lv_has ls 1 [(0, .ref h0)] := hl
  refine lv_aload_n hx hb d_Script_takeOpen_0 rfl (lv_at hl 0 rfl) ?_
  refine Wd.get hx hb hts hown hK hW 0 7 in_Script w_fl_Script_34 (by decide) d_Script_takeOpen_1 rfl rfl rfl ?_
  refine lv_bipush (v := 16) hx hb d_Script_takeOpen_4 (by decide) ?_
  refine lv_icmp_lt (tgt := 11) hx hb d_Script_takeOpen_6 rfl (fun _ => ?_) (fun hz => absurd hs0 hz)
  refine lv_aload_n hx hb d_Script_takeOpen_11 rfl (lv_at hl 0 rfl) ?_
  refine lv_dup hx hb d_Script_takeOpen_12 rfl ?_
  refine Wd.get hx hb hts hown hK hW 0 7 in_Script w_fl_Script_34 (by decide) d_Script_takeOpen_13 rfl rfl rfl ?_
  refine lv_iconst (v := 1) hx hb d_Script_takeOpen_16 (by decide) ?_
  refine lv_iadd hx hb d_Script_takeOpen_17 ?_
  refine Wd.put hx hb hts hown hK hW 0 7 in_Script t_Script_ok n_Script w_fl_Script_34 (by decide) d_Script_takeOpen_18 rfl rfl rfl rfl rfl (Nat.le_of_ble_eq_true rfl) (fun H locs hW => ?_)
  have hW : Wd G A s.heap [(h0, .inr (10, [.ref h0k, .ref h0t, .ref h0f, .ref h0s, .ref h0h, .int ct, .int cp, .int (on + 1), .int nm]))] H locs := hW
  refine lv_iconst (v := 1) hx hb d_Script_takeOpen_21 (by decide) ?_
  exact Ct.zret hx hb hr hnl hW (by decide) (by decide) d_Script_takeOpen_22 (by decide) ⟨rfl, rfl⟩

abbrev rm_Script_takeOpen_1 : Room := { frames := 0, cells := 0, slots := 0, locals := 0 }
set_option maxHeartbeats 4000000 in
set_option maxRecDepth 100000 in
theorem c_Script_takeOpen_1 (l : Launch) (G : Gt) (h0 : Nat) (h0k : Nat) (h0t : Nat) (h0f : Nat) (h0s : Nat) (h0h : Nat) (ct : Int32) (cp : Int32) (on : Int32) (nm : Int32) (hs0 : ¬ (on < 16)) : Ct l G y_Script_takeOpen b_Script_takeOpen 1 (some .boolean) rm_Script_takeOpen_1 [.ref h0] [(h0, .inr (10, [.ref h0k, .ref h0t, .ref h0f, .ref h0s, .ref h0h, .int ct, .int cp, .int on, .int nm]))] 0 0 (fun v w' => v = some (.int 0) ∧ w' = [(h0, .inr (10, [.ref h0k, .ref h0t, .ref h0f, .ref h0s, .ref h0h, .int ct, .int cp, .int on, .int nm]))]) := by
  refine Ct.of (by decide) (Nat.le_of_ble_eq_true rfl) (fun p e s m args below meth c A ls H locs hx hb hml hr hnl hown hts hnm hK hA hl hW => ?_)
  have hl : lv_has ls 1 [(0, .ref h0)] := hl
  refine lv_aload_n hx hb d_Script_takeOpen_0 rfl (lv_at hl 0 rfl) ?_
  refine Wd.get hx hb hts hown hK hW 0 7 in_Script w_fl_Script_34 (by decide) d_Script_takeOpen_1 rfl rfl rfl ?_
  refine lv_bipush (v := 16) hx hb d_Script_takeOpen_4 (by decide) ?_
  refine lv_icmp_lt (tgt := 11) hx hb d_Script_takeOpen_6 rfl (fun hz => absurd hz hs0) (fun _ => ?_)
  refine lv_iconst (v := 0) hx hb d_Script_takeOpen_9 (by decide) ?_
  exact Ct.zret hx hb hr hnl hW (by decide) (by decide) d_Script_takeOpen_10 (by decide) ⟨rfl, rfl⟩

abbrev rm_Post_init : Room := { frames := 1, cells := 3, slots := 48, locals := 12 }
set_option maxHeartbeats 4000000 in
set_option maxRecDepth 100000 in
theorem c_Post_init (l : Launch) (G : Gt) (h0 : Nat) : Ct l G y_Post_init b_Post_init 1 none rm_Post_init [.ref h0] [(h0, .inr (8, [.null, .null, .null, .int 0]))] 3 48 (fun v w' => ∃ q1 q2 q3 : Nat, v = none ∧ w' = [(h0, .inr (8, [.ref q1, .ref q2, .ref q3, .int 0])), (q1, .inl (G.2 0, 16, .inl (fun _ => 0))), (q2, .inl (G.2 0, 16, .inl (fun _ => 0))), (q3, .inl (G.2 1, 16, .inr (.inl (fun _ => 0))))]) := by
  refine Ct.of (by decide) (Nat.le_of_ble_eq_true rfl) (fun p e s m args below meth c A ls H locs hx hb hml hr hnl hown hts hnm hK hA hl hW => ?_)
  have hl : lv_has ls 1 [(0, .ref h0)] := hl
  refine lv_aload_n hx hb d_Post_init_0 rfl (lv_at hl 0 rfl) ?_
  refine W.objInit hx hb hown (hts _ w_ml_Post_1) (hts _ w_oi_im) (hts _ w_oi_code) rfl (by rw [hml]; exact hl.1) rfl d_Post_init_1 (Nat.le_of_ble_eq_true rfl) (Nat.le_of_ble_eq_true rfl) ?_
  refine W.eq (g2 := F0 m 4 ls []) rfl ?_
  refine lv_aload_n hx hb d_Post_init_4 rfl (lv_at hl 0 rfl) ?_
  refine lv_bipush (v := 16) hx hb d_Post_init_5 (by decide) ?_
  refine Wd.newa (ty := .int) (N' := 16) (a0 := (16, .inl (fun _ => 0))) hx hb hts hK hA hW 0 w_arr_int d_Post_init_7 rfl rfl (fun _ _ h => h) (fun _ => rfl) (by decide) (by decide) (by decide) (by decide) (by decide) (fun q1 H hW => ?_)
  have hW : Wd G A s.heap [(h0, .inr (8, [.null, .null, .null, .int 0])), (q1, .inl (G.2 0, 16, .inl (fun _ => 0)))] H locs := hW
  refine W.widen (k := 1) (n := 16) (by decide) (by decide) ?_
  refine Wd.putF hx hb hts hown hK hW 0 0 in_Post t_Post_ok n_Post w_fl_Post_9 (by decide) d_Post_init_9 rfl rfl rfl hnm rfl rfl rfl (Nat.le_of_ble_eq_true rfl) (fun H locs hW => ?_)
  have hW : Wd G A s.heap [(h0, .inr (8, [.ref q1, .null, .null, .int 0])), (q1, .inl (G.2 0, 16, .inl (fun _ => 0)))] H locs := hW
  refine lv_aload_n hx hb d_Post_init_12 rfl (lv_at hl 0 rfl) ?_
  refine lv_bipush (v := 16) hx hb d_Post_init_13 (by decide) ?_
  refine Wd.newa (ty := .int) (N' := 16) (a0 := (16, .inl (fun _ => 0))) hx hb hts hK hA hW 0 w_arr_int d_Post_init_15 rfl rfl (fun _ _ h => h) (fun _ => rfl) (by decide) (by decide) (by decide) (by decide) (by decide) (fun q2 H hW => ?_)
  have hW : Wd G A s.heap [(h0, .inr (8, [.ref q1, .null, .null, .int 0])), (q1, .inl (G.2 0, 16, .inl (fun _ => 0))), (q2, .inl (G.2 0, 16, .inl (fun _ => 0)))] H locs := hW
  refine W.widen (k := 2) (n := 32) (by decide) (by decide) ?_
  refine Wd.putF hx hb hts hown hK hW 0 1 in_Post t_Post_ok n_Post w_fl_Post_13 (by decide) d_Post_init_17 rfl rfl rfl hnm rfl rfl rfl (Nat.le_of_ble_eq_true rfl) (fun H locs hW => ?_)
  have hW : Wd G A s.heap [(h0, .inr (8, [.ref q1, .ref q2, .null, .int 0])), (q1, .inl (G.2 0, 16, .inl (fun _ => 0))), (q2, .inl (G.2 0, 16, .inl (fun _ => 0)))] H locs := hW
  refine lv_aload_n hx hb d_Post_init_20 rfl (lv_at hl 0 rfl) ?_
  refine lv_bipush (v := 16) hx hb d_Post_init_21 (by decide) ?_
  refine Wd.newa (ty := .long) (N' := 16) (a0 := (16, .inr (.inl (fun _ => 0)))) hx hb hts hK hA hW 1 w_arr_long d_Post_init_23 rfl rfl (fun _ _ h => h) (fun _ => rfl) (by decide) (by decide) (by decide) (by decide) (by decide) (fun q3 H hW => ?_)
  have hW : Wd G A s.heap [(h0, .inr (8, [.ref q1, .ref q2, .null, .int 0])), (q1, .inl (G.2 0, 16, .inl (fun _ => 0))), (q2, .inl (G.2 0, 16, .inl (fun _ => 0))), (q3, .inl (G.2 1, 16, .inr (.inl (fun _ => 0))))] H locs := hW
  refine W.widen (k := 3) (n := 48) (by decide) (by decide) ?_
  refine Wd.putF hx hb hts hown hK hW 0 2 in_Post t_Post_ok n_Post w_fl_Post_16 (by decide) d_Post_init_25 rfl rfl rfl hnm rfl rfl rfl (Nat.le_of_ble_eq_true rfl) (fun H locs hW => ?_)
  have hW : Wd G A s.heap [(h0, .inr (8, [.ref q1, .ref q2, .ref q3, .int 0])), (q1, .inl (G.2 0, 16, .inl (fun _ => 0))), (q2, .inl (G.2 0, 16, .inl (fun _ => 0))), (q3, .inl (G.2 1, 16, .inr (.inl (fun _ => 0))))] H locs := hW
  exact Ct.vret hx hb hr hnl hW (by decide) (by decide) d_Post_init_28 ⟨q1, q2, q3, rfl, rfl⟩

abbrev rm_Post_clear : Room := { frames := 0, cells := 0, slots := 0, locals := 0 }
set_option maxHeartbeats 4000000 in
set_option maxRecDepth 100000 in
theorem c_Post_clear (l : Launch) (G : Gt) (h0 : Nat) (h0r : Nat) (h0n : Nat) (h0w : Nat) (pc : Int32) : Ct l G y_Post_clear b_Post_clear 1 none rm_Post_clear [.ref h0] [(h0, .inr (8, [.ref h0r, .ref h0n, .ref h0w, .int pc]))] 0 0 (fun v w' => v = none ∧ w' = [(h0, .inr (8, [.ref h0r, .ref h0n, .ref h0w, .int 0]))]) := by
  refine Ct.of (by decide) (Nat.le_of_ble_eq_true rfl) (fun p e s m args below meth c A ls H locs hx hb hml hr hnl hown hts hnm hK hA hl hW => ?_)
  have hl : lv_has ls 1 [(0, .ref h0)] := hl
  refine lv_aload_n hx hb d_Post_clear_0 rfl (lv_at hl 0 rfl) ?_
  refine lv_iconst (v := 0) hx hb d_Post_clear_1 (by decide) ?_
  refine Wd.put hx hb hts hown hK hW 0 3 in_Post t_Post_ok n_Post w_fl_Post_20 (by decide) d_Post_clear_2 rfl rfl rfl rfl rfl (Nat.le_of_ble_eq_true rfl) (fun H locs hW => ?_)
  have hW : Wd G A s.heap [(h0, .inr (8, [.ref h0r, .ref h0n, .ref h0w, .int 0]))] H locs := hW
  exact Ct.vret hx hb hr hnl hW (by decide) (by decide) d_Post_clear_5 ⟨rfl, rfl⟩

abbrev rm_Post_size : Room := { frames := 0, cells := 0, slots := 0, locals := 0 }
set_option maxHeartbeats 4000000 in
set_option maxRecDepth 100000 in
theorem c_Post_size (l : Launch) (G : Gt) (h0 : Nat) (h0r : Nat) (h0n : Nat) (h0w : Nat) (pc : Int32) : Ct l G y_Post_size b_Post_size 1 (some .int) rm_Post_size [.ref h0] [(h0, .inr (8, [.ref h0r, .ref h0n, .ref h0w, .int pc]))] 0 0 (fun v w' => v = some (.int pc) ∧ w' = [(h0, .inr (8, [.ref h0r, .ref h0n, .ref h0w, .int pc]))]) := by
  refine Ct.of (by decide) (Nat.le_of_ble_eq_true rfl) (fun p e s m args below meth c A ls H locs hx hb hml hr hnl hown hts hnm hK hA hl hW => ?_)
  have hl : lv_has ls 1 [(0, .ref h0)] := hl
  refine lv_aload_n hx hb d_Post_size_0 rfl (lv_at hl 0 rfl) ?_
  refine Wd.get hx hb hts hown hK hW 0 3 in_Post w_fl_Post_20 (by decide) d_Post_size_1 rfl rfl rfl ?_
  exact Ct.iret hx hb hr hnl hW (by decide) (by decide) d_Post_size_4 ⟨rfl, rfl⟩

abbrev rm_Post_send : Room := { frames := 0, cells := 0, slots := 0, locals := 0 }
set_option maxHeartbeats 4000000 in
set_option maxRecDepth 100000 in
theorem c_Post_send (l : Launch) (G : Gt) (h0 : Nat) (h0r : Nat) (h0n : Nat) (h0w : Nat) (pc : Int32) (pr : Nat → Int32) (pn : Nat → Int32) (pw : Nat → Int64) (x : Int32) (y : Int32) (z : Int64) (hc0 : ¬ pc < 0) (hc1 : ¬ 16 ≤ pc) : Ct l G y_Post_send b_Post_send 5 none rm_Post_send [.ref h0, .int x, .int y, .long z] [(h0, .inr (8, [.ref h0r, .ref h0n, .ref h0w, .int pc])), (h0r, .inl (G.2 0, 16, .inl pr)), (h0n, .inl (G.2 0, 16, .inl pn)), (h0w, .inl (G.2 1, 16, .inr (.inl pw)))] 0 0 (fun v w' => v = none ∧ w' = [(h0, .inr (8, [.ref h0r, .ref h0n, .ref h0w, .int (pc + 1)])), (h0r, .inl (G.2 0, 16, .inl (upd pr pc.toNatClampNeg x))), (h0n, .inl (G.2 0, 16, .inl (upd pn pc.toNatClampNeg y))), (h0w, .inl (G.2 1, 16, .inr (.inl (vp_updL pw pc.toNatClampNeg z))))]) := by
  refine Ct.of (by decide) (Nat.le_of_ble_eq_true rfl) (fun p e s m args below meth c A ls H locs hx hb hml hr hnl hown hts hnm hK hA hl hW => ?_)
  have hl : lv_has ls 5 [(0, .ref h0), (1, .int x), (2, .int y), (3, .long z)] := hl
  refine lv_aload_n hx hb d_Post_send_0 rfl (lv_at hl 0 rfl) ?_
  refine Wd.get hx hb hts hown hK hW 0 3 in_Post w_fl_Post_20 (by decide) d_Post_send_1 rfl rfl rfl ?_
  refine lv_bipush (v := 16) hx hb d_Post_send_4 (by decide) ?_
  refine lv_icmp_lt (tgt := 10) hx hb d_Post_send_6 rfl (fun _ => ?_) (fun hz => absurd (Int32.not_le.mp hc1) hz)
  refine lv_aload_n hx hb d_Post_send_10 rfl (lv_at hl 0 rfl) ?_
  refine Wd.get hx hb hts hown hK hW 0 0 in_Post w_fl_Post_9 (by decide) d_Post_send_11 rfl rfl rfl ?_
  refine lv_aload_n hx hb d_Post_send_14 rfl (lv_at hl 0 rfl) ?_
  refine Wd.get hx hb hts hown hK hW 0 3 in_Post w_fl_Post_20 (by decide) d_Post_send_15 rfl rfl rfl ?_
  refine lv_iload_n hx hb d_Post_send_18 rfl (lv_at hl 1 rfl) ?_
  refine Wd.iast hx hb hK hW 1 d_Post_send_19 rfl (vp_in_c 16 (by decide) hc0 hc1) (fun H locs hW => ?_)
  have hW : Wd G A s.heap [(h0, .inr (8, [.ref h0r, .ref h0n, .ref h0w, .int pc])), (h0r, .inl (G.2 0, 16, .inl (upd pr pc.toNatClampNeg x))), (h0n, .inl (G.2 0, 16, .inl pn)), (h0w, .inl (G.2 1, 16, .inr (.inl pw)))] H locs := hW
  refine lv_aload_n hx hb d_Post_send_20 rfl (lv_at hl 0 rfl) ?_
  refine Wd.get hx hb hts hown hK hW 0 1 in_Post w_fl_Post_13 (by decide) d_Post_send_21 rfl rfl rfl ?_
  refine lv_aload_n hx hb d_Post_send_24 rfl (lv_at hl 0 rfl) ?_
  refine Wd.get hx hb hts hown hK hW 0 3 in_Post w_fl_Post_20 (by decide) d_Post_send_25 rfl rfl rfl ?_
  refine lv_iload_n hx hb d_Post_send_28 rfl (lv_at hl 2 rfl) ?_
  refine Wd.iast hx hb hK hW 2 d_Post_send_29 rfl (vp_in_c 16 (by decide) hc0 hc1) (fun H locs hW => ?_)
  have hW : Wd G A s.heap [(h0, .inr (8, [.ref h0r, .ref h0n, .ref h0w, .int pc])), (h0r, .inl (G.2 0, 16, .inl (upd pr pc.toNatClampNeg x))), (h0n, .inl (G.2 0, 16, .inl (upd pn pc.toNatClampNeg y))), (h0w, .inl (G.2 1, 16, .inr (.inl pw)))] H locs := hW
  refine lv_aload_n hx hb d_Post_send_30 rfl (lv_at hl 0 rfl) ?_
  refine Wd.get hx hb hts hown hK hW 0 2 in_Post w_fl_Post_16 (by decide) d_Post_send_31 rfl rfl rfl ?_
  refine lv_aload_n hx hb d_Post_send_34 rfl (lv_at hl 0 rfl) ?_
  refine Wd.get hx hb hts hown hK hW 0 3 in_Post w_fl_Post_20 (by decide) d_Post_send_35 rfl rfl rfl ?_
  refine lv_lload_n hx hb d_Post_send_38 rfl (lv_at hl 3 rfl) ?_
  refine Wd.last hx hb hK hW 3 d_Post_send_39 rfl (vp_in_c 16 (by decide) hc0 hc1) (fun H locs hW => ?_)
  have hW : Wd G A s.heap [(h0, .inr (8, [.ref h0r, .ref h0n, .ref h0w, .int pc])), (h0r, .inl (G.2 0, 16, .inl (upd pr pc.toNatClampNeg x))), (h0n, .inl (G.2 0, 16, .inl (upd pn pc.toNatClampNeg y))), (h0w, .inl (G.2 1, 16, .inr (.inl (vp_updL pw pc.toNatClampNeg z))))] H locs := hW
  refine lv_aload_n hx hb d_Post_send_40 rfl (lv_at hl 0 rfl) ?_
  refine lv_dup hx hb d_Post_send_41 rfl ?_
  refine Wd.get hx hb hts hown hK hW 0 3 in_Post w_fl_Post_20 (by decide) d_Post_send_42 rfl rfl rfl ?_
  refine lv_iconst (v := 1) hx hb d_Post_send_45 (by decide) ?_
  refine lv_iadd hx hb d_Post_send_46 ?_
  refine Wd.put hx hb hts hown hK hW 0 3 in_Post t_Post_ok n_Post w_fl_Post_20 (by decide) d_Post_send_47 rfl rfl rfl rfl rfl (Nat.le_of_ble_eq_true rfl) (fun H locs hW => ?_)
  have hW : Wd G A s.heap [(h0, .inr (8, [.ref h0r, .ref h0n, .ref h0w, .int (pc + 1)])), (h0r, .inl (G.2 0, 16, .inl (upd pr pc.toNatClampNeg x))), (h0n, .inl (G.2 0, 16, .inl (upd pn pc.toNatClampNeg y))), (h0w, .inl (G.2 1, 16, .inr (.inl (vp_updL pw pc.toNatClampNeg z))))] H locs := hW
  exact Ct.vret hx hb hr hnl hW (by decide) (by decide) d_Post_send_50 ⟨rfl, rfl⟩

