abbrev rm_Comparison_init : Room := { frames := 2, cells := 3, slots := 9, locals := 33 }
set_option maxHeartbeats 4000000 in
set_option maxRecDepth 100000 in
theorem c_Comparison_init (l : Launch) (G : Gt) (h0 : Nat) (w : Int32) : Ct l G y_Comparison_init b_Comparison_init 2 none rm_Comparison_init [.ref h0, .int w] [(h0, .inr (4, [.null, .null, .null, .int 0, .int 0]))] 3 9 (fun v w' => ∃ q1 q2 q3 : Nat, v = none ∧ w' = [(h0, .inr (4, [.ref q1, .ref q2, .ref q3, .int 6, .int 0])), (q1, .inr (7, [.int w, .long 0, .long 0])), (q2, .inr (7, [.int w, .long 0, .long 0])), (q3, .inr (7, [.int w, .long 0, .long 0]))]) := by
  refine Ct.of (by decide) (Nat.le_of_ble_eq_true rfl) (fun p e s m args below meth c A ls H locs hx hb hml hr hnl hown hts hnm hK hA hl hW => ?_)
  have hl : lv_has ls 2 [(0, .ref h0), (1, .int w)] := hl
  refine lv_aload_n hx hb d_Comparison_init_0 rfl (lv_at hl 0 rfl) ?_
  refine W.objInit hx hb hown (hts _ w_ml_Comparison_3) (hts _ w_oi_im) (hts _ w_oi_code) rfl (by rw [hml]; exact hl.1) rfl d_Comparison_init_1 (Nat.le_of_ble_eq_true rfl) (Nat.le_of_ble_eq_true rfl) ?_
  refine W.eq (g2 := F0 m 4 ls []) rfl ?_
  refine lv_aload_n hx hb d_Comparison_init_4 rfl (lv_at hl 0 rfl) ?_
  refine lv_bipush (v := 6) hx hb d_Comparison_init_5 (by decide) ?_
  refine Wd.put hx hb hts hown hK hW 0 3 in_Comparison t_Comparison_ok n_Comparison w_fl_Comparison_11 (by decide) d_Comparison_init_7 rfl rfl rfl rfl rfl (Nat.le_of_ble_eq_true rfl) (fun H locs hW => ?_)
  have hW : Wd G A s.heap [(h0, .inr (4, [.null, .null, .null, .int 6, .int 0]))] H locs := hW
  refine lv_aload_n hx hb d_Comparison_init_10 rfl (lv_at hl 0 rfl) ?_
  refine Wd.new (ci := 7) (fs := [.int 0, .long 0, .long 0]) (ty0 := t_Parts) hx hb hts hown hK hA hW in_Parts t_Parts_ok w_cl_Comparison_15 w_nb_Parts w_ini_Parts d_Comparison_init_11 rfl z_Parts (by decide) (by decide) (fun q1 H hW => ?_)
  have hW : Wd G A s.heap [(h0, .inr (4, [.null, .null, .null, .int 6, .int 0])), (q1, .inr (7, [.int 0, .long 0, .long 0]))] H locs := hW
  refine W.widen (k := 1) (n := 3) (by decide) (by decide) ?_
  refine lv_dup hx hb d_Comparison_init_14 rfl ?_
  refine lv_iload_n hx hb d_Comparison_init_15 rfl (lv_at hl 1 rfl) ?_
  refine Ct.callI (As := [.int w]) (rest := [.ref q1, .ref h0]) hx hb hml hown hts hK hA hl.1 hW (c_Parts_init l G q1 w ) (cwI 1 hts (good_C w_code_Parts_init) rfl rfl rfl (hts _ w_ini_Parts) (hts _ w_ml_Comparison_17) (hts _ w_im_Parts_init) rfl yd_Parts_init ⟨by decide, by decide⟩) [1] (by decide) rfl rfl rfl (Nat.le_of_ble_eq_true rfl) d_Comparison_init_16 ⟨by decide, by decide⟩ (fun v w' hp => by obtain ⟨-, rfl⟩ := hp; exact Nat.le_of_ble_eq_true rfl) (fun v w' H locs hp hW => ?_)
  obtain ⟨rfl, rfl⟩ := hp
  have hW : Wd G A s.heap [(h0, .inr (4, [.null, .null, .null, .int 6, .int 0])), (q1, .inr (7, [.int w, .long 0, .long 0]))] H locs := hW
  refine W.eq (g2 := F0 m 19 ls [.ref q1, .ref h0]) rfl ?_
  refine Wd.putF hx hb hts hown hK hW 0 0 in_Comparison t_Comparison_ok n_Comparison w_fl_Comparison_20 (by decide) d_Comparison_init_19 rfl rfl rfl hnm rfl rfl rfl (Nat.le_of_ble_eq_true rfl) (fun H locs hW => ?_)
  have hW : Wd G A s.heap [(h0, .inr (4, [.ref q1, .null, .null, .int 6, .int 0])), (q1, .inr (7, [.int w, .long 0, .long 0]))] H locs := hW
  refine lv_aload_n hx hb d_Comparison_init_22 rfl (lv_at hl 0 rfl) ?_
  refine Wd.new (ci := 7) (fs := [.int 0, .long 0, .long 0]) (ty0 := t_Parts) hx hb hts hown hK hA hW in_Parts t_Parts_ok w_cl_Comparison_15 w_nb_Parts w_ini_Parts d_Comparison_init_23 rfl z_Parts (by decide) (by decide) (fun q2 H hW => ?_)
  have hW : Wd G A s.heap [(h0, .inr (4, [.ref q1, .null, .null, .int 6, .int 0])), (q1, .inr (7, [.int w, .long 0, .long 0])), (q2, .inr (7, [.int 0, .long 0, .long 0]))] H locs := hW
  refine W.widen (k := 2) (n := 6) (by decide) (by decide) ?_
  refine lv_dup hx hb d_Comparison_init_26 rfl ?_
  refine lv_iload_n hx hb d_Comparison_init_27 rfl (lv_at hl 1 rfl) ?_
  refine Ct.callI (As := [.int w]) (rest := [.ref q2, .ref h0]) hx hb hml hown hts hK hA hl.1 hW (c_Parts_init l G q2 w ) (cwI 1 hts (good_C w_code_Parts_init) rfl rfl rfl (hts _ w_ini_Parts) (hts _ w_ml_Comparison_17) (hts _ w_im_Parts_init) rfl yd_Parts_init ⟨by decide, by decide⟩) [2] (by decide) rfl rfl rfl (Nat.le_of_ble_eq_true rfl) d_Comparison_init_28 ⟨by decide, by decide⟩ (fun v w' hp => by obtain ⟨-, rfl⟩ := hp; exact Nat.le_of_ble_eq_true rfl) (fun v w' H locs hp hW => ?_)
  obtain ⟨rfl, rfl⟩ := hp
  have hW : Wd G A s.heap [(h0, .inr (4, [.ref q1, .null, .null, .int 6, .int 0])), (q1, .inr (7, [.int w, .long 0, .long 0])), (q2, .inr (7, [.int w, .long 0, .long 0]))] H locs := hW
  refine W.eq (g2 := F0 m 31 ls [.ref q2, .ref h0]) rfl ?_
  refine Wd.putF hx hb hts hown hK hW 0 1 in_Comparison t_Comparison_ok n_Comparison w_fl_Comparison_24 (by decide) d_Comparison_init_31 rfl rfl rfl hnm rfl rfl rfl (Nat.le_of_ble_eq_true rfl) (fun H locs hW => ?_)
  have hW : Wd G A s.heap [(h0, .inr (4, [.ref q1, .ref q2, .null, .int 6, .int 0])), (q1, .inr (7, [.int w, .long 0, .long 0])), (q2, .inr (7, [.int w, .long 0, .long 0]))] H locs := hW
  refine lv_aload_n hx hb d_Comparison_init_34 rfl (lv_at hl 0 rfl) ?_
  refine Wd.new (ci := 7) (fs := [.int 0, .long 0, .long 0]) (ty0 := t_Parts) hx hb hts hown hK hA hW in_Parts t_Parts_ok w_cl_Comparison_15 w_nb_Parts w_ini_Parts d_Comparison_init_35 rfl z_Parts (by decide) (by decide) (fun q3 H hW => ?_)
  have hW : Wd G A s.heap [(h0, .inr (4, [.ref q1, .ref q2, .null, .int 6, .int 0])), (q1, .inr (7, [.int w, .long 0, .long 0])), (q2, .inr (7, [.int w, .long 0, .long 0])), (q3, .inr (7, [.int 0, .long 0, .long 0]))] H locs := hW
  refine W.widen (k := 3) (n := 9) (by decide) (by decide) ?_
  refine lv_dup hx hb d_Comparison_init_38 rfl ?_
  refine lv_iload_n hx hb d_Comparison_init_39 rfl (lv_at hl 1 rfl) ?_
  refine Ct.callI (As := [.int w]) (rest := [.ref q3, .ref h0]) hx hb hml hown hts hK hA hl.1 hW (c_Parts_init l G q3 w ) (cwI 1 hts (good_C w_code_Parts_init) rfl rfl rfl (hts _ w_ini_Parts) (hts _ w_ml_Comparison_17) (hts _ w_im_Parts_init) rfl yd_Parts_init ⟨by decide, by decide⟩) [3] (by decide) rfl rfl rfl (Nat.le_of_ble_eq_true rfl) d_Comparison_init_40 ⟨by decide, by decide⟩ (fun v w' hp => by obtain ⟨-, rfl⟩ := hp; exact Nat.le_of_ble_eq_true rfl) (fun v w' H locs hp hW => ?_)
  obtain ⟨rfl, rfl⟩ := hp
  have hW : Wd G A s.heap [(h0, .inr (4, [.ref q1, .ref q2, .null, .int 6, .int 0])), (q1, .inr (7, [.int w, .long 0, .long 0])), (q2, .inr (7, [.int w, .long 0, .long 0])), (q3, .inr (7, [.int w, .long 0, .long 0]))] H locs := hW
  refine W.eq (g2 := F0 m 43 ls [.ref q3, .ref h0]) rfl ?_
  refine Wd.putF hx hb hts hown hK hW 0 2 in_Comparison t_Comparison_ok n_Comparison w_fl_Comparison_27 (by decide) d_Comparison_init_43 rfl rfl rfl hnm rfl rfl rfl (Nat.le_of_ble_eq_true rfl) (fun H locs hW => ?_)
  have hW : Wd G A s.heap [(h0, .inr (4, [.ref q1, .ref q2, .ref q3, .int 6, .int 0])), (q1, .inr (7, [.int w, .long 0, .long 0])), (q2, .inr (7, [.int w, .long 0, .long 0])), (q3, .inr (7, [.int w, .long 0, .long 0]))] H locs := hW
  exact Ct.vret hx hb hr hnl hW (by decide) (by decide) d_Comparison_init_46 ⟨q1, q2, q3, rfl, rfl⟩

abbrev rm_Comparison_halves : Room := { frames := 0, cells := 0, slots := 0, locals := 0 }
set_option maxHeartbeats 4000000 in
set_option maxRecDepth 100000 in
theorem c_Comparison_halves (l : Launch) (G : Gt) (x : Int64) (y : Int64) : Ct l G y_Comparison_halves b_Comparison_halves 4 (some .long) rm_Comparison_halves [.long x, .long y] [] 0 0 (fun v w' => v = some (.long (hvs x y)) ∧ w' = []) := by
  refine Ct.of (by decide) (Nat.le_of_ble_eq_true rfl) (fun p e s m args below meth c A ls H locs hx hb hml hr hnl hown hts hnm hK hA hl hW => ?_)
  have hl : lv_has ls 4 [(0, .long x), (2, .long y)] := hl
  refine lv_lload_n hx hb d_Comparison_halves_0 rfl (lv_at hl 0 rfl) ?_
  refine lv_ldc2 (v := 4294967295) hx hb hown (hts _ w_kl_Comparison_45) d_Comparison_halves_1 ?_
  refine lv_land hx hb d_Comparison_halves_4 ?_
  refine lv_lload_n hx hb d_Comparison_halves_5 rfl (lv_at hl 1 rfl) ?_
  refine lv_bipush (v := 32) hx hb d_Comparison_halves_6 (by decide) ?_
  refine lv_lshl (v := y <<< ((32 : Int32).toInt64 &&& 63)) hx hb d_Comparison_halves_8 rfl ?_
  refine lv_lor hx hb d_Comparison_halves_9 ?_
  exact Ct.lret hx hb hr hnl hW (by decide) (by decide) d_Comparison_halves_10 ⟨rfl, rfl⟩

abbrev rm_Comparison_begin : Room := { frames := 1, cells := 0, slots := 0, locals := 24 }
set_option maxHeartbeats 4000000 in
set_option maxRecDepth 100000 in
theorem c_Comparison_begin (l : Launch) (G : Gt) (h0 : Nat) (h0w : Nat) (h0m : Nat) (h0p : Nat) (w : Int32) (q : CmT) (h1 : Nat) (w1 : Int32) (a : PT) (h2 : Nat) (w2 : Int32) (b : PT) : Ct l G y_Comparison_begin b_Comparison_begin 3 none rm_Comparison_begin [.ref h0, .ref h1, .ref h2] [(h0, .inr (4, [.ref h0w, .ref h0m, .ref h0p, .int q.2.2.2.1, .int q.2.2.2.2])), (h0w, .inr (7, [.int w, .long q.1.1, .long q.1.2])), (h0m, .inr (7, [.int w, .long q.2.1.1, .long q.2.1.2])), (h0p, .inr (7, [.int w, .long q.2.2.1.1, .long q.2.2.1.2])), (h1, .inr (7, [.int w1, .long a.1, .long a.2])), (h2, .inr (7, [.int w2, .long b.1, .long b.2]))] 0 0 (fun v w' => v = none ∧ w' = [(h0, .inr (4, [.ref h0w, .ref h0m, .ref h0p, .int 0, .int q.2.2.2.2])), (h0w, .inr (7, [.int w, .long ((pHv a b).1), .long ((pHv a b).2)])), (h0m, .inr (7, [.int w, .long q.2.1.1, .long q.2.1.2])), (h0p, .inr (7, [.int w, .long q.2.2.1.1, .long q.2.2.1.2])), (h1, .inr (7, [.int w1, .long a.1, .long a.2])), (h2, .inr (7, [.int w2, .long b.1, .long b.2]))]) := by
  refine Ct.of (by decide) (Nat.le_of_ble_eq_true rfl) (fun p e s m args below meth c A ls H locs hx hb hml hr hnl hown hts hnm hK hA hl hW => ?_)
  have hl : lv_has ls 3 [(0, .ref h0), (1, .ref h1), (2, .ref h2)] := hl
  refine lv_aload_n hx hb d_Comparison_begin_0 rfl (lv_at hl 0 rfl) ?_
  refine Wd.get hx hb hts hown hK hW 0 0 in_Comparison w_fl_Comparison_20 (by decide) d_Comparison_begin_1 rfl rfl rfl ?_
  refine lv_aload_n hx hb d_Comparison_begin_4 rfl (lv_at hl 1 rfl) ?_
  refine Wd.get hx hb hts hown hK hW 4 1 in_Parts w_fl_Comparison_30 (by decide) d_Comparison_begin_5 rfl rfl rfl ?_
  refine lv_aload_n hx hb d_Comparison_begin_8 rfl (lv_at hl 2 rfl) ?_
  refine Wd.get hx hb hts hown hK hW 5 1 in_Parts w_fl_Comparison_30 (by decide) d_Comparison_begin_9 rfl rfl rfl ?_
  refine Ct.callS (As := [.long a.1, .long b.1]) (rest := [.ref h0w]) hx hb hml hown hts hK hA hl.1 hW (c_Comparison_halves l G a.1 b.1 ) (va_cwS 2 hts (good_S w_ml_Comparison_34 w_st_Comparison_halves w_ini_Comparison w_code_Comparison_halves) rfl rfl rfl yd_Comparison_halves.2 ⟨by decide, by decide⟩) [] (by decide) rfl rfl rfl (Nat.le_of_ble_eq_true rfl) d_Comparison_begin_12 ⟨by decide, by decide⟩ (fun v w' hp => by obtain ⟨-, rfl⟩ := hp; exact Nat.le_of_ble_eq_true rfl) (fun v w' H locs hp hW => ?_)
  obtain ⟨rfl, rfl⟩ := hp
  have hW : Wd G A s.heap [(h0, .inr (4, [.ref h0w, .ref h0m, .ref h0p, .int q.2.2.2.1, .int q.2.2.2.2])), (h0w, .inr (7, [.int w, .long q.1.1, .long q.1.2])), (h0m, .inr (7, [.int w, .long q.2.1.1, .long q.2.1.2])), (h0p, .inr (7, [.int w, .long q.2.2.1.1, .long q.2.2.1.2])), (h1, .inr (7, [.int w1, .long a.1, .long a.2])), (h2, .inr (7, [.int w2, .long b.1, .long b.2]))] H locs := hW
  refine W.eq (g2 := F0 m 15 ls [.long (hvs a.1 b.1), .ref h0w]) rfl ?_
  refine lv_aload_n hx hb d_Comparison_begin_15 rfl (lv_at hl 1 rfl) ?_
  refine Wd.get hx hb hts hown hK hW 4 2 in_Parts w_fl_Comparison_38 (by decide) d_Comparison_begin_16 rfl rfl rfl ?_
  refine lv_aload_n hx hb d_Comparison_begin_19 rfl (lv_at hl 2 rfl) ?_
  refine Wd.get hx hb hts hown hK hW 5 2 in_Parts w_fl_Comparison_38 (by decide) d_Comparison_begin_20 rfl rfl rfl ?_
  refine Ct.callS (As := [.long a.2, .long b.2]) (rest := [.long (hvs a.1 b.1), .ref h0w]) hx hb hml hown hts hK hA hl.1 hW (c_Comparison_halves l G a.2 b.2 ) (va_cwS 2 hts (good_S w_ml_Comparison_34 w_st_Comparison_halves w_ini_Comparison w_code_Comparison_halves) rfl rfl rfl yd_Comparison_halves.2 ⟨by decide, by decide⟩) [] (by decide) rfl rfl rfl (Nat.le_of_ble_eq_true rfl) d_Comparison_begin_23 ⟨by decide, by decide⟩ (fun v w' hp => by obtain ⟨-, rfl⟩ := hp; exact Nat.le_of_ble_eq_true rfl) (fun v w' H locs hp hW => ?_)
  obtain ⟨rfl, rfl⟩ := hp
  have hW : Wd G A s.heap [(h0, .inr (4, [.ref h0w, .ref h0m, .ref h0p, .int q.2.2.2.1, .int q.2.2.2.2])), (h0w, .inr (7, [.int w, .long q.1.1, .long q.1.2])), (h0m, .inr (7, [.int w, .long q.2.1.1, .long q.2.1.2])), (h0p, .inr (7, [.int w, .long q.2.2.1.1, .long q.2.2.1.2])), (h1, .inr (7, [.int w1, .long a.1, .long a.2])), (h2, .inr (7, [.int w2, .long b.1, .long b.2]))] H locs := hW
  refine W.eq (g2 := F0 m 26 ls [.long (hvs a.2 b.2), .long (hvs a.1 b.1), .ref h0w]) rfl ?_
  refine Ct.callV (As := [.long (hvs a.1 b.1), .long (hvs a.2 b.2)]) (rest := []) hx hb hml hown hts hK hA hl.1 hW (c_Parts_set l G h0w w q.1 (hvs a.1 b.1) (hvs a.2 b.2) ) (cwV 2 hts (good_V w_ml_Comparison_41 w_im_Parts_set w_se_Parts_set w_ini_Parts w_code_Parts_set) rfl rfl rfl yd_Parts_set ⟨by decide, by decide⟩) [1] (by decide) rfl (ci := 7) (r := vr_Parts) rfl rfl rfl rfl rfl (Nat.le_of_ble_eq_true rfl) d_Comparison_begin_26 ⟨by decide, by decide⟩ (fun v w' hp => by obtain ⟨-, rfl⟩ := hp; exact Nat.le_of_ble_eq_true rfl) (fun v w' H locs hp hW => ?_)
  obtain ⟨rfl, rfl⟩ := hp
  have hW : Wd G A s.heap [(h0, .inr (4, [.ref h0w, .ref h0m, .ref h0p, .int q.2.2.2.1, .int q.2.2.2.2])), (h0w, .inr (7, [.int w, .long (((hvs a.1 b.1), (hvs a.2 b.2)).1), .long (((hvs a.1 b.1), (hvs a.2 b.2)).2)])), (h0m, .inr (7, [.int w, .long q.2.1.1, .long q.2.1.2])), (h0p, .inr (7, [.int w, .long q.2.2.1.1, .long q.2.2.1.2])), (h1, .inr (7, [.int w1, .long a.1, .long a.2])), (h2, .inr (7, [.int w2, .long b.1, .long b.2]))] H locs := hW
  refine W.eq (g2 := F0 m 29 ls []) rfl ?_
  refine lv_aload_n hx hb d_Comparison_begin_29 rfl (lv_at hl 0 rfl) ?_
  refine lv_iconst (v := 0) hx hb d_Comparison_begin_30 (by decide) ?_
  refine Wd.put hx hb hts hown hK hW 0 3 in_Comparison t_Comparison_ok n_Comparison w_fl_Comparison_11 (by decide) d_Comparison_begin_31 rfl rfl rfl rfl rfl (Nat.le_of_ble_eq_true rfl) (fun H locs hW => ?_)
  have hW : Wd G A s.heap [(h0, .inr (4, [.ref h0w, .ref h0m, .ref h0p, .int 0, .int q.2.2.2.2])), (h0w, .inr (7, [.int w, .long (((hvs a.1 b.1), (hvs a.2 b.2)).1), .long (((hvs a.1 b.1), (hvs a.2 b.2)).2)])), (h0m, .inr (7, [.int w, .long q.2.1.1, .long q.2.1.2])), (h0p, .inr (7, [.int w, .long q.2.2.1.1, .long q.2.2.1.2])), (h1, .inr (7, [.int w1, .long a.1, .long a.2])), (h2, .inr (7, [.int w2, .long b.1, .long b.2]))] H locs := hW
  exact Ct.vret hx hb hr hnl hW (by decide) (by decide) d_Comparison_begin_34 ⟨rfl, rfl⟩

abbrev rm_Comparison_isDone_0 : Room := { frames := 0, cells := 0, slots := 0, locals := 0 }
set_option maxHeartbeats 4000000 in
set_option maxRecDepth 100000 in
theorem c_Comparison_isDone_0 (l : Launch) (G : Gt) (h0 : Nat) (h0w : Nat) (h0m : Nat) (h0p : Nat) (x : Int32) (y : Int32) (hs0 : ¬ (x = 6)) : Ct l G y_Comparison_isDone b_Comparison_isDone 1 (some .boolean) rm_Comparison_isDone_0 [.ref h0] [(h0, .inr (4, [.ref h0w, .ref h0m, .ref h0p, .int x, .int y]))] 0 0 (fun v w' => v = some (.int 0) ∧ w' = [(h0, .inr (4, [.ref h0w, .ref h0m, .ref h0p, .int x, .int y]))]) := by
  refine Ct.of (by decide) (Nat.le_of_ble_eq_true rfl) (fun p e s m args below meth c A ls H locs hx hb hml hr hnl hown hts hnm hK hA hl hW => ?_)
  have hl : lv_has ls 1 [(0, .ref h0)] := hl
  refine lv_aload_n hx hb d_Comparison_isDone_0 rfl (lv_at hl 0 rfl) ?_
  refine Wd.get hx hb hts hown hK hW 0 3 in_Comparison w_fl_Comparison_11 (by decide) d_Comparison_isDone_1 rfl rfl rfl ?_
  refine lv_bipush (v := 6) hx hb d_Comparison_isDone_4 (by decide) ?_
  refine lv_icmp_ne (tgt := 13) hx hb d_Comparison_isDone_6 rfl (fun _ => ?_) (fun hz => absurd hz hs0)
  refine lv_iconst (v := 0) hx hb d_Comparison_isDone_13 (by decide) ?_
  exact Ct.zret hx hb hr hnl hW (by decide) (by decide) d_Comparison_isDone_14 (by decide) ⟨rfl, rfl⟩

abbrev rm_Comparison_isDone_1 : Room := { frames := 0, cells := 0, slots := 0, locals := 0 }
set_option maxHeartbeats 4000000 in
set_option maxRecDepth 100000 in
theorem c_Comparison_isDone_1 (l : Launch) (G : Gt) (h0 : Nat) (h0w : Nat) (h0m : Nat) (h0p : Nat) (x : Int32) (y : Int32) (hs0 : x = 6) : Ct l G y_Comparison_isDone b_Comparison_isDone 1 (some .boolean) rm_Comparison_isDone_1 [.ref h0] [(h0, .inr (4, [.ref h0w, .ref h0m, .ref h0p, .int x, .int y]))] 0 0 (fun v w' => v = some (.int 1) ∧ w' = [(h0, .inr (4, [.ref h0w, .ref h0m, .ref h0p, .int x, .int y]))]) := by
  refine Ct.of (by decide) (Nat.le_of_ble_eq_true rfl) (fun p e s m args below meth c A ls H locs hx hb hml hr hnl hown hts hnm hK hA hl hW => ?_)
  have hl : lv_has ls 1 [(0, .ref h0)] := hl
  refine lv_aload_n hx hb d_Comparison_isDone_0 rfl (lv_at hl 0 rfl) ?_
  refine Wd.get hx hb hts hown hK hW 0 3 in_Comparison w_fl_Comparison_11 (by decide) d_Comparison_isDone_1 rfl rfl rfl ?_
  refine lv_bipush (v := 6) hx hb d_Comparison_isDone_4 (by decide) ?_
  refine lv_icmp_ne (tgt := 13) hx hb d_Comparison_isDone_6 rfl (fun hz => absurd hs0 hz) (fun _ => ?_)
  refine lv_iconst (v := 1) hx hb d_Comparison_isDone_9 (by decide) ?_
  refine lv_goto (tgt := 14) hx hb d_Comparison_isDone_10 rfl ?_
  exact Ct.zret hx hb hr hnl hW (by decide) (by decide) d_Comparison_isDone_14 (by decide) ⟨rfl, rfl⟩

abbrev rm_Comparison_giveResult : Room := { frames := 1, cells := 0, slots := 0, locals := 22 }
set_option maxHeartbeats 4000000 in
set_option maxRecDepth 100000 in
theorem c_Comparison_giveResult (l : Launch) (G : Gt) (h0 : Nat) (h0w : Nat) (h0m : Nat) (h0p : Nat) (x : Int32) (y : Int32) (w : Int32) (a : PT) (h1 : Nat) (w1 : Int32) (b : PT) : Ct l G y_Comparison_giveResult b_Comparison_giveResult 2 none rm_Comparison_giveResult [.ref h0, .ref h1] [(h0, .inr (4, [.ref h0w, .ref h0m, .ref h0p, .int x, .int y])), (h0w, .inr (7, [.int w, .long a.1, .long a.2])), (h1, .inr (7, [.int w1, .long b.1, .long b.2]))] 0 0 (fun v w' => v = none ∧ w' = [(h0, .inr (4, [.ref h0w, .ref h0m, .ref h0p, .int x, .int y])), (h0w, .inr (7, [.int w, .long a.1, .long a.2])), (h1, .inr (7, [.int w1, .long ((pAnd (pSh a 31) 1).1), .long ((pAnd (pSh a 31) 1).2)]))]) := by
  refine Ct.of (by decide) (Nat.le_of_ble_eq_true rfl) (fun p e s m args below meth c A ls H locs hx hb hml hr hnl hown hts hnm hK hA hl hW => ?_)
  have hl : lv_has ls 2 [(0, .ref h0), (1, .ref h1)] := hl
  refine lv_aload_n hx hb d_Comparison_giveResult_0 rfl (lv_at hl 1 rfl) ?_
  refine lv_aload_n hx hb d_Comparison_giveResult_1 rfl (lv_at hl 0 rfl) ?_
  refine Wd.get hx hb hts hown hK hW 0 0 in_Comparison w_fl_Comparison_20 (by decide) d_Comparison_giveResult_2 rfl rfl rfl ?_
  refine Ct.callV (As := [.ref h0w]) (rest := []) hx hb hml hown hts hK hA hl.1 hW (c_Parts_copy l G h1 h0w w1 b w a ) (cwV 1 hts (good_V w_ml_Comparison_47 w_im_Parts_copy w_se_Parts_copy w_ini_Parts w_code_Parts_copy) rfl rfl rfl yd_Parts_copy ⟨by decide, by decide⟩) [2, 1] (by decide) rfl (ci := 7) (r := vr_Parts) rfl rfl rfl rfl rfl (Nat.le_of_ble_eq_true rfl) d_Comparison_giveResult_5 ⟨by decide, by decide⟩ (fun v w' hp => by obtain ⟨-, rfl⟩ := hp; exact Nat.le_of_ble_eq_true rfl) (fun v w' H locs hp hW => ?_)
  obtain ⟨rfl, rfl⟩ := hp
  have hW : Wd G A s.heap [(h0, .inr (4, [.ref h0w, .ref h0m, .ref h0p, .int x, .int y])), (h0w, .inr (7, [.int w, .long a.1, .long a.2])), (h1, .inr (7, [.int w1, .long ((a).1), .long ((a).2)]))] H locs := hW
  refine W.eq (g2 := F0 m 8 ls []) rfl ?_
  refine lv_aload_n hx hb d_Comparison_giveResult_8 rfl (lv_at hl 1 rfl) ?_
  refine lv_bipush (v := 31) hx hb d_Comparison_giveResult_9 (by decide) ?_
  refine Ct.callV (As := [.int 31]) (rest := []) hx hb hml hown hts hK hA hl.1 hW (c_Parts_shiftDown l G h1 w1 (a) (31 : Int32) ) (cwV 1 hts (good_V w_ml_Comparison_51 w_im_Parts_shiftDown w_se_Parts_shiftDown w_ini_Parts w_code_Parts_shiftDown) rfl rfl rfl yd_Parts_shiftDown ⟨by decide, by decide⟩) [2] (by decide) rfl (ci := 7) (r := vr_Parts) rfl rfl rfl rfl rfl (Nat.le_of_ble_eq_true rfl) d_Comparison_giveResult_11 ⟨by decide, by decide⟩ (fun v w' hp => by obtain ⟨-, rfl⟩ := hp; exact Nat.le_of_ble_eq_true rfl) (fun v w' H locs hp hW => ?_)
  obtain ⟨rfl, rfl⟩ := hp
  have hW : Wd G A s.heap [(h0, .inr (4, [.ref h0w, .ref h0m, .ref h0p, .int x, .int y])), (h0w, .inr (7, [.int w, .long a.1, .long a.2])), (h1, .inr (7, [.int w1, .long ((pSh (a) (31 : Int32)).1), .long ((pSh (a) (31 : Int32)).2)]))] H locs := hW
  refine W.eq (g2 := F0 m 14 ls []) rfl ?_
  refine lv_aload_n hx hb d_Comparison_giveResult_14 rfl (lv_at hl 1 rfl) ?_
  refine lv_lconst (v := 1) hx hb d_Comparison_giveResult_15 (by decide) ?_
  refine Ct.callV (As := [.long 1]) (rest := []) hx hb hml hown hts hK hA hl.1 hW (c_Parts_and l G h1 w1 (pSh (a) (31 : Int32)) (1 : Int64) ) (cwV 1 hts (good_V w_ml_Comparison_54 w_im_Parts_and w_se_Parts_and w_ini_Parts w_code_Parts_and) rfl rfl rfl yd_Parts_and ⟨by decide, by decide⟩) [2] (by decide) rfl (ci := 7) (r := vr_Parts) rfl rfl rfl rfl rfl (Nat.le_of_ble_eq_true rfl) d_Comparison_giveResult_16 ⟨by decide, by decide⟩ (fun v w' hp => by obtain ⟨-, rfl⟩ := hp; exact Nat.le_of_ble_eq_true rfl) (fun v w' H locs hp hW => ?_)
  obtain ⟨rfl, rfl⟩ := hp
  have hW : Wd G A s.heap [(h0, .inr (4, [.ref h0w, .ref h0m, .ref h0p, .int x, .int y])), (h0w, .inr (7, [.int w, .long a.1, .long a.2])), (h1, .inr (7, [.int w1, .long ((pAnd (pSh (a) (31 : Int32)) (1 : Int64)).1), .long ((pAnd (pSh (a) (31 : Int32)) (1 : Int64)).2)]))] H locs := hW
  refine W.eq (g2 := F0 m 19 ls []) rfl ?_
  exact Ct.vret hx hb hr hnl hW (by decide) (by decide) d_Comparison_giveResult_19 ⟨rfl, rfl⟩

abbrev rm_Comparison_acceptCarry : Room := { frames := 1, cells := 0, slots := 0, locals := 23 }
set_option maxHeartbeats 4000000 in
set_option maxRecDepth 100000 in
theorem c_Comparison_acceptCarry (l : Launch) (G : Gt) (h0 : Nat) (h0w : Nat) (h0m : Nat) (h0p : Nat) (w : Int32) (q : CmT) (h1 : Nat) (a : PT) : Ct l G y_Comparison_acceptCarry b_Comparison_acceptCarry 2 none rm_Comparison_acceptCarry [.ref h0, .ref h1] [(h0, .inr (4, [.ref h0w, .ref h0m, .ref h0p, .int q.2.2.2.1, .int q.2.2.2.2])), (h0w, .inr (7, [.int w, .long q.1.1, .long q.1.2])), (h0m, .inr (7, [.int w, .long q.2.1.1, .long q.2.1.2])), (h0p, .inr (7, [.int w, .long q.2.2.1.1, .long q.2.2.1.2])), (h1, .inr (7, [.int w, .long a.1, .long a.2]))] 0 0 (fun v w' => v = none ∧ w' = [(h0, .inr (4, [.ref h0w, .ref h0m, .ref h0p, .int 1, .int q.2.2.2.2])), (h0w, .inr (7, [.int w, .long q.1.1, .long q.1.2])), (h0m, .inr (7, [.int w, .long ((pRh (pXor (pKeep w (2 : Int32) (q.1)) a) (1 : Int32)).1), .long ((pRh (pXor (pKeep w (2 : Int32) (q.1)) a) (1 : Int32)).2)])), (h0p, .inr (7, [.int w, .long ((pXor (q.1) (pRh (pXor (pKeep w (2 : Int32) (q.1)) a) (1 : Int32))).1), .long ((pXor (q.1) (pRh (pXor (pKeep w (2 : Int32) (q.1)) a) (1 : Int32))).2)])), (h1, .inr (7, [.int w, .long a.1, .long a.2]))]) := by
  refine Ct.of (by decide) (Nat.le_of_ble_eq_true rfl) (fun p e s m args below meth c A ls H locs hx hb hml hr hnl hown hts hnm hK hA hl hW => ?_)
  have hl : lv_has ls 2 [(0, .ref h0), (1, .ref h1)] := hl
  refine lv_aload_n hx hb d_Comparison_acceptCarry_0 rfl (lv_at hl 0 rfl) ?_
  refine Wd.get hx hb hts hown hK hW 0 1 in_Comparison w_fl_Comparison_24 (by decide) d_Comparison_acceptCarry_1 rfl rfl rfl ?_
  refine lv_aload_n hx hb d_Comparison_acceptCarry_4 rfl (lv_at hl 0 rfl) ?_
  refine Wd.get hx hb hts hown hK hW 0 0 in_Comparison w_fl_Comparison_20 (by decide) d_Comparison_acceptCarry_5 rfl rfl rfl ?_
  refine Ct.callV (As := [.ref h0w]) (rest := []) hx hb hml hown hts hK hA hl.1 hW (c_Parts_copy l G h0m h0w w q.2.1 w q.1 ) (cwV 1 hts (good_V w_ml_Comparison_47 w_im_Parts_copy w_se_Parts_copy w_ini_Parts w_code_Parts_copy) rfl rfl rfl yd_Parts_copy ⟨by decide, by decide⟩) [2, 1] (by decide) rfl (ci := 7) (r := vr_Parts) rfl rfl rfl rfl rfl (Nat.le_of_ble_eq_true rfl) d_Comparison_acceptCarry_8 ⟨by decide, by decide⟩ (fun v w' hp => by obtain ⟨-, rfl⟩ := hp; exact Nat.le_of_ble_eq_true rfl) (fun v w' H locs hp hW => ?_)
  obtain ⟨rfl, rfl⟩ := hp
  have hW : Wd G A s.heap [(h0, .inr (4, [.ref h0w, .ref h0m, .ref h0p, .int q.2.2.2.1, .int q.2.2.2.2])), (h0w, .inr (7, [.int w, .long q.1.1, .long q.1.2])), (h0m, .inr (7, [.int w, .long ((q.1).1), .long ((q.1).2)])), (h0p, .inr (7, [.int w, .long q.2.2.1.1, .long q.2.2.1.2])), (h1, .inr (7, [.int w, .long a.1, .long a.2]))] H locs := hW
  refine W.eq (g2 := F0 m 11 ls []) rfl ?_
  refine lv_aload_n hx hb d_Comparison_acceptCarry_11 rfl (lv_at hl 0 rfl) ?_
  refine Wd.get hx hb hts hown hK hW 0 1 in_Comparison w_fl_Comparison_24 (by decide) d_Comparison_acceptCarry_12 rfl rfl rfl ?_
  refine lv_iconst (v := 2) hx hb d_Comparison_acceptCarry_15 (by decide) ?_
  refine Ct.callV (As := [.int 2]) (rest := []) hx hb hml hown hts hK hA hl.1 hW (c_Parts_keep l G h0m w (q.1) (2 : Int32) ) (cwV 1 hts (good_V w_ml_Comparison_85 w_im_Parts_keep w_se_Parts_keep w_ini_Parts w_code_Parts_keep) rfl rfl rfl yd_Parts_keep ⟨by decide, by decide⟩) [2] (by decide) rfl (ci := 7) (r := vr_Parts) rfl rfl rfl rfl rfl (Nat.le_of_ble_eq_true rfl) d_Comparison_acceptCarry_16 ⟨by decide, by decide⟩ (fun v w' hp => by obtain ⟨-, rfl⟩ := hp; exact Nat.le_of_ble_eq_true rfl) (fun v w' H locs hp hW => ?_)
  obtain ⟨rfl, rfl⟩ := hp
  have hW : Wd G A s.heap [(h0, .inr (4, [.ref h0w, .ref h0m, .ref h0p, .int q.2.2.2.1, .int q.2.2.2.2])), (h0w, .inr (7, [.int w, .long q.1.1, .long q.1.2])), (h0m, .inr (7, [.int w, .long ((pKeep w (2 : Int32) (q.1)).1), .long ((pKeep w (2 : Int32) (q.1)).2)])), (h0p, .inr (7, [.int w, .long q.2.2.1.1, .long q.2.2.1.2])), (h1, .inr (7, [.int w, .long a.1, .long a.2]))] H locs := hW
  refine W.eq (g2 := F0 m 19 ls []) rfl ?_
  refine lv_aload_n hx hb d_Comparison_acceptCarry_19 rfl (lv_at hl 0 rfl) ?_
  refine Wd.get hx hb hts hown hK hW 0 1 in_Comparison w_fl_Comparison_24 (by decide) d_Comparison_acceptCarry_20 rfl rfl rfl ?_
  refine lv_aload_n hx hb d_Comparison_acceptCarry_23 rfl (lv_at hl 1 rfl) ?_
  refine Ct.callV (As := [.ref h1]) (rest := []) hx hb hml hown hts hK hA hl.1 hW (c_Parts_xor l G h0m h1 w (pKeep w (2 : Int32) (q.1)) w a ) (cwV 1 hts (good_V w_ml_Comparison_88 w_im_Parts_xor w_se_Parts_xor w_ini_Parts w_code_Parts_xor) rfl rfl rfl yd_Parts_xor ⟨by decide, by decide⟩) [2, 4] (by decide) rfl (ci := 7) (r := vr_Parts) rfl rfl rfl rfl rfl (Nat.le_of_ble_eq_true rfl) d_Comparison_acceptCarry_24 ⟨by decide, by decide⟩ (fun v w' hp => by obtain ⟨-, rfl⟩ := hp; exact Nat.le_of_ble_eq_true rfl) (fun v w' H locs hp hW => ?_)
  obtain ⟨rfl, rfl⟩ := hp
  have hW : Wd G A s.heap [(h0, .inr (4, [.ref h0w, .ref h0m, .ref h0p, .int q.2.2.2.1, .int q.2.2.2.2])), (h0w, .inr (7, [.int w, .long q.1.1, .long q.1.2])), (h0m, .inr (7, [.int w, .long ((pXor (pKeep w (2 : Int32) (q.1)) a).1), .long ((pXor (pKeep w (2 : Int32) (q.1)) a).2)])), (h0p, .inr (7, [.int w, .long q.2.2.1.1, .long q.2.2.1.2])), (h1, .inr (7, [.int w, .long a.1, .long a.2]))] H locs := hW
  refine W.eq (g2 := F0 m 27 ls []) rfl ?_
  refine lv_aload_n hx hb d_Comparison_acceptCarry_27 rfl (lv_at hl 0 rfl) ?_
  refine Wd.get hx hb hts hown hK hW 0 1 in_Comparison w_fl_Comparison_24 (by decide) d_Comparison_acceptCarry_28 rfl rfl rfl ?_
  refine lv_iconst (v := 1) hx hb d_Comparison_acceptCarry_31 (by decide) ?_
  refine Ct.callV (As := [.int 1]) (rest := []) hx hb hml hown hts hK hA hl.1 hW (c_Parts_raiseHalves l G h0m w (pXor (pKeep w (2 : Int32) (q.1)) a) (1 : Int32) ) (cwV 1 hts (good_V w_ml_Comparison_64 w_im_Parts_raiseHalves w_se_Parts_raiseHalves w_ini_Parts w_code_Parts_raiseHalves) rfl rfl rfl yd_Parts_raiseHalves ⟨by decide, by decide⟩) [2] (by decide) rfl (ci := 7) (r := vr_Parts) rfl rfl rfl rfl rfl (Nat.le_of_ble_eq_true rfl) d_Comparison_acceptCarry_32 ⟨by decide, by decide⟩ (fun v w' hp => by obtain ⟨-, rfl⟩ := hp; exact Nat.le_of_ble_eq_true rfl) (fun v w' H locs hp hW => ?_)
  obtain ⟨rfl, rfl⟩ := hp
  have hW : Wd G A s.heap [(h0, .inr (4, [.ref h0w, .ref h0m, .ref h0p, .int q.2.2.2.1, .int q.2.2.2.2])), (h0w, .inr (7, [.int w, .long q.1.1, .long q.1.2])), (h0m, .inr (7, [.int w, .long ((pRh (pXor (pKeep w (2 : Int32) (q.1)) a) (1 : Int32)).1), .long ((pRh (pXor (pKeep w (2 : Int32) (q.1)) a) (1 : Int32)).2)])), (h0p, .inr (7, [.int w, .long q.2.2.1.1, .long q.2.2.1.2])), (h1, .inr (7, [.int w, .long a.1, .long a.2]))] H locs := hW
  refine W.eq (g2 := F0 m 35 ls []) rfl ?_
  refine lv_aload_n hx hb d_Comparison_acceptCarry_35 rfl (lv_at hl 0 rfl) ?_
  refine Wd.get hx hb hts hown hK hW 0 2 in_Comparison w_fl_Comparison_27 (by decide) d_Comparison_acceptCarry_36 rfl rfl rfl ?_
  refine lv_aload_n hx hb d_Comparison_acceptCarry_39 rfl (lv_at hl 0 rfl) ?_
  refine Wd.get hx hb hts hown hK hW 0 0 in_Comparison w_fl_Comparison_20 (by decide) d_Comparison_acceptCarry_40 rfl rfl rfl ?_
  refine Ct.callV (As := [.ref h0w]) (rest := []) hx hb hml hown hts hK hA hl.1 hW (c_Parts_copy l G h0p h0w w q.2.2.1 w q.1 ) (cwV 1 hts (good_V w_ml_Comparison_47 w_im_Parts_copy w_se_Parts_copy w_ini_Parts w_code_Parts_copy) rfl rfl rfl yd_Parts_copy ⟨by decide, by decide⟩) [3, 1] (by decide) rfl (ci := 7) (r := vr_Parts) rfl rfl rfl rfl rfl (Nat.le_of_ble_eq_true rfl) d_Comparison_acceptCarry_43 ⟨by decide, by decide⟩ (fun v w' hp => by obtain ⟨-, rfl⟩ := hp; exact Nat.le_of_ble_eq_true rfl) (fun v w' H locs hp hW => ?_)
  obtain ⟨rfl, rfl⟩ := hp
  have hW : Wd G A s.heap [(h0, .inr (4, [.ref h0w, .ref h0m, .ref h0p, .int q.2.2.2.1, .int q.2.2.2.2])), (h0w, .inr (7, [.int w, .long q.1.1, .long q.1.2])), (h0m, .inr (7, [.int w, .long ((pRh (pXor (pKeep w (2 : Int32) (q.1)) a) (1 : Int32)).1), .long ((pRh (pXor (pKeep w (2 : Int32) (q.1)) a) (1 : Int32)).2)])), (h0p, .inr (7, [.int w, .long ((q.1).1), .long ((q.1).2)])), (h1, .inr (7, [.int w, .long a.1, .long a.2]))] H locs := hW
  refine W.eq (g2 := F0 m 46 ls []) rfl ?_
  refine lv_aload_n hx hb d_Comparison_acceptCarry_46 rfl (lv_at hl 0 rfl) ?_
  refine Wd.get hx hb hts hown hK hW 0 2 in_Comparison w_fl_Comparison_27 (by decide) d_Comparison_acceptCarry_47 rfl rfl rfl ?_
  refine lv_aload_n hx hb d_Comparison_acceptCarry_50 rfl (lv_at hl 0 rfl) ?_
  refine Wd.get hx hb hts hown hK hW 0 1 in_Comparison w_fl_Comparison_24 (by decide) d_Comparison_acceptCarry_51 rfl rfl rfl ?_
  refine Ct.callV (As := [.ref h0m]) (rest := []) hx hb hml hown hts hK hA hl.1 hW (c_Parts_xor l G h0p h0m w (q.1) w (pRh (pXor (pKeep w (2 : Int32) (q.1)) a) (1 : Int32)) ) (cwV 1 hts (good_V w_ml_Comparison_88 w_im_Parts_xor w_se_Parts_xor w_ini_Parts w_code_Parts_xor) rfl rfl rfl yd_Parts_xor ⟨by decide, by decide⟩) [3, 2] (by decide) rfl (ci := 7) (r := vr_Parts) rfl rfl rfl rfl rfl (Nat.le_of_ble_eq_true rfl) d_Comparison_acceptCarry_54 ⟨by decide, by decide⟩ (fun v w' hp => by obtain ⟨-, rfl⟩ := hp; exact Nat.le_of_ble_eq_true rfl) (fun v w' H locs hp hW => ?_)
  obtain ⟨rfl, rfl⟩ := hp
  have hW : Wd G A s.heap [(h0, .inr (4, [.ref h0w, .ref h0m, .ref h0p, .int q.2.2.2.1, .int q.2.2.2.2])), (h0w, .inr (7, [.int w, .long q.1.1, .long q.1.2])), (h0m, .inr (7, [.int w, .long ((pRh (pXor (pKeep w (2 : Int32) (q.1)) a) (1 : Int32)).1), .long ((pRh (pXor (pKeep w (2 : Int32) (q.1)) a) (1 : Int32)).2)])), (h0p, .inr (7, [.int w, .long ((pXor (q.1) (pRh (pXor (pKeep w (2 : Int32) (q.1)) a) (1 : Int32))).1), .long ((pXor (q.1) (pRh (pXor (pKeep w (2 : Int32) (q.1)) a) (1 : Int32))).2)])), (h1, .inr (7, [.int w, .long a.1, .long a.2]))] H locs := hW
  refine W.eq (g2 := F0 m 57 ls []) rfl ?_
  refine lv_aload_n hx hb d_Comparison_acceptCarry_57 rfl (lv_at hl 0 rfl) ?_
  refine lv_iconst (v := 1) hx hb d_Comparison_acceptCarry_58 (by decide) ?_
  refine Wd.put hx hb hts hown hK hW 0 3 in_Comparison t_Comparison_ok n_Comparison w_fl_Comparison_11 (by decide) d_Comparison_acceptCarry_59 rfl rfl rfl rfl rfl (Nat.le_of_ble_eq_true rfl) (fun H locs hW => ?_)
  have hW : Wd G A s.heap [(h0, .inr (4, [.ref h0w, .ref h0m, .ref h0p, .int 1, .int q.2.2.2.2])), (h0w, .inr (7, [.int w, .long q.1.1, .long q.1.2])), (h0m, .inr (7, [.int w, .long ((pRh (pXor (pKeep w (2 : Int32) (q.1)) a) (1 : Int32)).1), .long ((pRh (pXor (pKeep w (2 : Int32) (q.1)) a) (1 : Int32)).2)])), (h0p, .inr (7, [.int w, .long ((pXor (q.1) (pRh (pXor (pKeep w (2 : Int32) (q.1)) a) (1 : Int32))).1), .long ((pXor (q.1) (pRh (pXor (pKeep w (2 : Int32) (q.1)) a) (1 : Int32))).2)])), (h1, .inr (7, [.int w, .long a.1, .long a.2]))] H locs := hW
  exact Ct.vret hx hb hr hnl hW (by decide) (by decide) d_Comparison_acceptCarry_62 ⟨rfl, rfl⟩

def o_Comparison_acceptMade_0_stage (q : CmT) : Int32 := if 16 ≤ q.2.2.2.2 then 4 else 3
def o_Comparison_acceptMade_1_own (q : CmT) (a : PT) : Int64 := if 16 ≤ q.2.2.2.2 then (pXor q.1 (pRh (pXor q.2.1 a) (1 : Int32))).1 else q.1.1
def o_Comparison_acceptMade_1_next (q : CmT) (a : PT) : Int64 := if 16 ≤ q.2.2.2.2 then (pXor q.1 (pRh (pXor q.2.1 a) (1 : Int32))).2 else q.1.2
def o_Comparison_acceptMade_2_own (q : CmT) (a : PT) : Int64 := if 16 ≤ q.2.2.2.2 then (pRh (pXor q.2.1 a) (1 : Int32)).1 else (pXor q.2.1 a).1
def o_Comparison_acceptMade_2_next (q : CmT) (a : PT) : Int64 := if 16 ≤ q.2.2.2.2 then (pRh (pXor q.2.1 a) (1 : Int32)).2 else (pXor q.2.1 a).2
abbrev rm_Comparison_acceptMade : Room := { frames := 1, cells := 0, slots := 0, locals := 23 }
set_option maxHeartbeats 4000000 in
set_option maxRecDepth 100000 in
theorem c_Comparison_acceptMade (l : Launch) (G : Gt) (h0 : Nat) (h0w : Nat) (h0m : Nat) (h0p : Nat) (w : Int32) (q : CmT) (h1 : Nat) (a : PT) : Ct l G y_Comparison_acceptMade b_Comparison_acceptMade 2 none rm_Comparison_acceptMade [.ref h0, .ref h1] [(h0, .inr (4, [.ref h0w, .ref h0m, .ref h0p, .int q.2.2.2.1, .int q.2.2.2.2])), (h0w, .inr (7, [.int w, .long q.1.1, .long q.1.2])), (h0m, .inr (7, [.int w, .long q.2.1.1, .long q.2.1.2])), (h0p, .inr (7, [.int w, .long q.2.2.1.1, .long q.2.2.1.2])), (h1, .inr (7, [.int w, .long a.1, .long a.2]))] 0 0 (fun v w' => v = none ∧ w' = [(h0, .inr (4, [.ref h0w, .ref h0m, .ref h0p, .int (o_Comparison_acceptMade_0_stage q), .int q.2.2.2.2])), (h0w, .inr (7, [.int w, .long (o_Comparison_acceptMade_1_own q a), .long (o_Comparison_acceptMade_1_next q a)])), (h0m, .inr (7, [.int w, .long (o_Comparison_acceptMade_2_own q a), .long (o_Comparison_acceptMade_2_next q a)])), (h0p, .inr (7, [.int w, .long q.2.2.1.1, .long q.2.2.1.2])), (h1, .inr (7, [.int w, .long a.1, .long a.2]))]) := by
  refine Ct.of (by decide) (Nat.le_of_ble_eq_true rfl) (fun p e s m args below meth c A ls H locs hx hb hml hr hnl hown hts hnm hK hA hl hW => ?_)
  have hl : lv_has ls 2 [(0, .ref h0), (1, .ref h1)] := hl
  refine lv_aload_n hx hb d_Comparison_acceptMade_0 rfl (lv_at hl 0 rfl) ?_
  refine Wd.get hx hb hts hown hK hW 0 1 in_Comparison w_fl_Comparison_24 (by decide) d_Comparison_acceptMade_1 rfl rfl rfl ?_
  refine lv_aload_n hx hb d_Comparison_acceptMade_4 rfl (lv_at hl 1 rfl) ?_
  refine Ct.callV (As := [.ref h1]) (rest := []) hx hb hml hown hts hK hA hl.1 hW (c_Parts_xor l G h0m h1 w q.2.1 w a ) (cwV 1 hts (good_V w_ml_Comparison_88 w_im_Parts_xor w_se_Parts_xor w_ini_Parts w_code_Parts_xor) rfl rfl rfl yd_Parts_xor ⟨by decide, by decide⟩) [2, 4] (by decide) rfl (ci := 7) (r := vr_Parts) rfl rfl rfl rfl rfl (Nat.le_of_ble_eq_true rfl) d_Comparison_acceptMade_5 ⟨by decide, by decide⟩ (fun v w' hp => by obtain ⟨-, rfl⟩ := hp; exact Nat.le_of_ble_eq_true rfl) (fun v w' H locs hp hW => ?_)
  obtain ⟨rfl, rfl⟩ := hp
  have hW : Wd G A s.heap [(h0, .inr (4, [.ref h0w, .ref h0m, .ref h0p, .int q.2.2.2.1, .int q.2.2.2.2])), (h0w, .inr (7, [.int w, .long q.1.1, .long q.1.2])), (h0m, .inr (7, [.int w, .long ((pXor q.2.1 a).1), .long ((pXor q.2.1 a).2)])), (h0p, .inr (7, [.int w, .long q.2.2.1.1, .long q.2.2.1.2])), (h1, .inr (7, [.int w, .long a.1, .long a.2]))] H locs := hW
  refine W.eq (g2 := F0 m 8 ls []) rfl ?_
  refine lv_aload_n hx hb d_Comparison_acceptMade_8 rfl (lv_at hl 0 rfl) ?_
  refine Wd.get hx hb hts hown hK hW 0 4 in_Comparison w_fl_Comparison_61 (by decide) d_Comparison_acceptMade_9 rfl rfl rfl ?_
  refine lv_bipush (v := 16) hx hb d_Comparison_acceptMade_12 (by decide) ?_
  refine lv_icmp_ge (tgt := 23) hx hb d_Comparison_acceptMade_14 rfl (fun ht1 => ?_) (fun hf2 => ?_)
  · refine lv_aload_n hx hb d_Comparison_acceptMade_23 rfl (lv_at hl 0 rfl) ?_
    refine Wd.get hx hb hts hown hK hW 0 1 in_Comparison w_fl_Comparison_24 (by decide) d_Comparison_acceptMade_24 rfl rfl rfl ?_
    refine lv_iconst (v := 1) hx hb d_Comparison_acceptMade_27 (by decide) ?_
    refine Ct.callV (As := [.int 1]) (rest := []) hx hb hml hown hts hK hA hl.1 hW (c_Parts_raiseHalves l G h0m w (pXor q.2.1 a) (1 : Int32) ) (cwV 1 hts (good_V w_ml_Comparison_64 w_im_Parts_raiseHalves w_se_Parts_raiseHalves w_ini_Parts w_code_Parts_raiseHalves) rfl rfl rfl yd_Parts_raiseHalves ⟨by decide, by decide⟩) [2] (by decide) rfl (ci := 7) (r := vr_Parts) rfl rfl rfl rfl rfl (Nat.le_of_ble_eq_true rfl) d_Comparison_acceptMade_28 ⟨by decide, by decide⟩ (fun v w' hp => by obtain ⟨-, rfl⟩ := hp; exact Nat.le_of_ble_eq_true rfl) (fun v w' H locs hp hW => ?_)
    obtain ⟨rfl, rfl⟩ := hp
    have hW : Wd G A s.heap [(h0, .inr (4, [.ref h0w, .ref h0m, .ref h0p, .int q.2.2.2.1, .int q.2.2.2.2])), (h0w, .inr (7, [.int w, .long q.1.1, .long q.1.2])), (h0m, .inr (7, [.int w, .long ((pRh (pXor q.2.1 a) (1 : Int32)).1), .long ((pRh (pXor q.2.1 a) (1 : Int32)).2)])), (h0p, .inr (7, [.int w, .long q.2.2.1.1, .long q.2.2.1.2])), (h1, .inr (7, [.int w, .long a.1, .long a.2]))] H locs := hW
    refine W.eq (g2 := F0 m 31 ls []) rfl ?_
    refine lv_aload_n hx hb d_Comparison_acceptMade_31 rfl (lv_at hl 0 rfl) ?_
    refine Wd.get hx hb hts hown hK hW 0 0 in_Comparison w_fl_Comparison_20 (by decide) d_Comparison_acceptMade_32 rfl rfl rfl ?_
    refine lv_aload_n hx hb d_Comparison_acceptMade_35 rfl (lv_at hl 0 rfl) ?_
    refine Wd.get hx hb hts hown hK hW 0 1 in_Comparison w_fl_Comparison_24 (by decide) d_Comparison_acceptMade_36 rfl rfl rfl ?_
    refine Ct.callV (As := [.ref h0m]) (rest := []) hx hb hml hown hts hK hA hl.1 hW (c_Parts_xor l G h0w h0m w q.1 w (pRh (pXor q.2.1 a) (1 : Int32)) ) (cwV 1 hts (good_V w_ml_Comparison_88 w_im_Parts_xor w_se_Parts_xor w_ini_Parts w_code_Parts_xor) rfl rfl rfl yd_Parts_xor ⟨by decide, by decide⟩) [1, 2] (by decide) rfl (ci := 7) (r := vr_Parts) rfl rfl rfl rfl rfl (Nat.le_of_ble_eq_true rfl) d_Comparison_acceptMade_39 ⟨by decide, by decide⟩ (fun v w' hp => by obtain ⟨-, rfl⟩ := hp; exact Nat.le_of_ble_eq_true rfl) (fun v w' H locs hp hW => ?_)
    obtain ⟨rfl, rfl⟩ := hp
    have hW : Wd G A s.heap [(h0, .inr (4, [.ref h0w, .ref h0m, .ref h0p, .int q.2.2.2.1, .int q.2.2.2.2])), (h0w, .inr (7, [.int w, .long ((pXor q.1 (pRh (pXor q.2.1 a) (1 : Int32))).1), .long ((pXor q.1 (pRh (pXor q.2.1 a) (1 : Int32))).2)])), (h0m, .inr (7, [.int w, .long ((pRh (pXor q.2.1 a) (1 : Int32)).1), .long ((pRh (pXor q.2.1 a) (1 : Int32)).2)])), (h0p, .inr (7, [.int w, .long q.2.2.1.1, .long q.2.2.1.2])), (h1, .inr (7, [.int w, .long a.1, .long a.2]))] H locs := hW
    refine W.eq (g2 := F0 m 42 ls []) rfl ?_
    refine lv_aload_n hx hb d_Comparison_acceptMade_42 rfl (lv_at hl 0 rfl) ?_
    refine lv_iconst (v := 4) hx hb d_Comparison_acceptMade_43 (by decide) ?_
    refine Wd.put hx hb hts hown hK hW 0 3 in_Comparison t_Comparison_ok n_Comparison w_fl_Comparison_11 (by decide) d_Comparison_acceptMade_44 rfl rfl rfl rfl rfl (Nat.le_of_ble_eq_true rfl) (fun H locs hW => ?_)
    have hW : Wd G A s.heap [(h0, .inr (4, [.ref h0w, .ref h0m, .ref h0p, .int 4, .int q.2.2.2.2])), (h0w, .inr (7, [.int w, .long ((pXor q.1 (pRh (pXor q.2.1 a) (1 : Int32))).1), .long ((pXor q.1 (pRh (pXor q.2.1 a) (1 : Int32))).2)])), (h0m, .inr (7, [.int w, .long ((pRh (pXor q.2.1 a) (1 : Int32)).1), .long ((pRh (pXor q.2.1 a) (1 : Int32)).2)])), (h0p, .inr (7, [.int w, .long q.2.2.1.1, .long q.2.2.1.2])), (h1, .inr (7, [.int w, .long a.1, .long a.2]))] H locs := hW
    exact Ct.vret hx hb hr hnl hW (by decide) (by decide) d_Comparison_acceptMade_47 ⟨by first | rfl | (simp only [o_Comparison_acceptMade_0_stage, o_Comparison_acceptMade_1_own, o_Comparison_acceptMade_1_next, o_Comparison_acceptMade_2_own, o_Comparison_acceptMade_2_next, if_pos ht1]), by first | rfl | (simp only [o_Comparison_acceptMade_0_stage, o_Comparison_acceptMade_1_own, o_Comparison_acceptMade_1_next, o_Comparison_acceptMade_2_own, o_Comparison_acceptMade_2_next, if_pos ht1])⟩
  · refine lv_aload_n hx hb d_Comparison_acceptMade_17 rfl (lv_at hl 0 rfl) ?_
    refine lv_iconst (v := 3) hx hb d_Comparison_acceptMade_18 (by decide) ?_
    refine Wd.put hx hb hts hown hK hW 0 3 in_Comparison t_Comparison_ok n_Comparison w_fl_Comparison_11 (by decide) d_Comparison_acceptMade_19 rfl rfl rfl rfl rfl (Nat.le_of_ble_eq_true rfl) (fun H locs hW => ?_)
    have hW : Wd G A s.heap [(h0, .inr (4, [.ref h0w, .ref h0m, .ref h0p, .int 3, .int q.2.2.2.2])), (h0w, .inr (7, [.int w, .long q.1.1, .long q.1.2])), (h0m, .inr (7, [.int w, .long ((pXor q.2.1 a).1), .long ((pXor q.2.1 a).2)])), (h0p, .inr (7, [.int w, .long q.2.2.1.1, .long q.2.2.1.2])), (h1, .inr (7, [.int w, .long a.1, .long a.2]))] H locs := hW
    exact Ct.vret hx hb hr hnl hW (by decide) (by decide) d_Comparison_acceptMade_22 ⟨by first | rfl | (simp only [o_Comparison_acceptMade_0_stage, o_Comparison_acceptMade_1_own, o_Comparison_acceptMade_1_next, o_Comparison_acceptMade_2_own, o_Comparison_acceptMade_2_next, if_neg hf2]), by first | rfl | (simp only [o_Comparison_acceptMade_0_stage, o_Comparison_acceptMade_1_own, o_Comparison_acceptMade_1_next, o_Comparison_acceptMade_2_own, o_Comparison_acceptMade_2_next, if_neg hf2])⟩

abbrev rm_Comparison_acceptBorrow : Room := { frames := 1, cells := 0, slots := 0, locals := 24 }
set_option maxHeartbeats 4000000 in
set_option maxRecDepth 100000 in
theorem c_Comparison_acceptBorrow (l : Launch) (G : Gt) (h0 : Nat) (h0w : Nat) (h0m : Nat) (h0p : Nat) (w : Int32) (q : CmT) (h1 : Nat) (a : PT) : Ct l G y_Comparison_acceptBorrow b_Comparison_acceptBorrow 2 none rm_Comparison_acceptBorrow [.ref h0, .ref h1] [(h0, .inr (4, [.ref h0w, .ref h0m, .ref h0p, .int q.2.2.2.1, .int q.2.2.2.2])), (h0w, .inr (7, [.int w, .long q.1.1, .long q.1.2])), (h0m, .inr (7, [.int w, .long q.2.1.1, .long q.2.1.2])), (h0p, .inr (7, [.int w, .long q.2.2.1.1, .long q.2.2.1.2])), (h1, .inr (7, [.int w, .long a.1, .long a.2]))] 0 0 (fun v w' => v = none ∧ w' = [(h0, .inr (4, [.ref h0w, .ref h0m, .ref h0p, .int 5, .int 1])), (h0w, .inr (7, [.int w, .long (((hvs a.1 ((pFlip w (pXor (pAnd (q.1) (4294967295 : Int64)) (pSh (q.1) (32 : Int32))) (4294967295 : Int64)).1)), (hvs a.2 ((pFlip w (pXor (pAnd (q.1) (4294967295 : Int64)) (pSh (q.1) (32 : Int32))) (4294967295 : Int64)).2))).1), .long (((hvs a.1 ((pFlip w (pXor (pAnd (q.1) (4294967295 : Int64)) (pSh (q.1) (32 : Int32))) (4294967295 : Int64)).1)), (hvs a.2 ((pFlip w (pXor (pAnd (q.1) (4294967295 : Int64)) (pSh (q.1) (32 : Int32))) (4294967295 : Int64)).2))).2)])), (h0m, .inr (7, [.int w, .long ((pSh (q.1) (32 : Int32)).1), .long ((pSh (q.1) (32 : Int32)).2)])), (h0p, .inr (7, [.int w, .long ((pFlip w (pXor (pAnd (q.1) (4294967295 : Int64)) (pSh (q.1) (32 : Int32))) (4294967295 : Int64)).1), .long ((pFlip w (pXor (pAnd (q.1) (4294967295 : Int64)) (pSh (q.1) (32 : Int32))) (4294967295 : Int64)).2)])), (h1, .inr (7, [.int w, .long a.1, .long a.2]))]) := by
  refine Ct.of (by decide) (Nat.le_of_ble_eq_true rfl) (fun p e s m args below meth c A ls H locs hx hb hml hr hnl hown hts hnm hK hA hl hW => ?_)
  have hl : lv_has ls 2 [(0, .ref h0), (1, .ref h1)] := hl
  refine lv_aload_n hx hb d_Comparison_acceptBorrow_0 rfl (lv_at hl 0 rfl) ?_
  refine Wd.get hx hb hts hown hK hW 0 2 in_Comparison w_fl_Comparison_27 (by decide) d_Comparison_acceptBorrow_1 rfl rfl rfl ?_
  refine lv_aload_n hx hb d_Comparison_acceptBorrow_4 rfl (lv_at hl 0 rfl) ?_
  refine Wd.get hx hb hts hown hK hW 0 0 in_Comparison w_fl_Comparison_20 (by decide) d_Comparison_acceptBorrow_5 rfl rfl rfl ?_
  refine Ct.callV (As := [.ref h0w]) (rest := []) hx hb hml hown hts hK hA hl.1 hW (c_Parts_copy l G h0p h0w w q.2.2.1 w q.1 ) (cwV 1 hts (good_V w_ml_Comparison_47 w_im_Parts_copy w_se_Parts_copy w_ini_Parts w_code_Parts_copy) rfl rfl rfl yd_Parts_copy ⟨by decide, by decide⟩) [3, 1] (by decide) rfl (ci := 7) (r := vr_Parts) rfl rfl rfl rfl rfl (Nat.le_of_ble_eq_true rfl) d_Comparison_acceptBorrow_8 ⟨by decide, by decide⟩ (fun v w' hp => by obtain ⟨-, rfl⟩ := hp; exact Nat.le_of_ble_eq_true rfl) (fun v w' H locs hp hW => ?_)
  obtain ⟨rfl, rfl⟩ := hp
  have hW : Wd G A s.heap [(h0, .inr (4, [.ref h0w, .ref h0m, .ref h0p, .int q.2.2.2.1, .int q.2.2.2.2])), (h0w, .inr (7, [.int w, .long q.1.1, .long q.1.2])), (h0m, .inr (7, [.int w, .long q.2.1.1, .long q.2.1.2])), (h0p, .inr (7, [.int w, .long ((q.1).1), .long ((q.1).2)])), (h1, .inr (7, [.int w, .long a.1, .long a.2]))] H locs := hW
  refine W.eq (g2 := F0 m 11 ls []) rfl ?_
  refine lv_aload_n hx hb d_Comparison_acceptBorrow_11 rfl (lv_at hl 0 rfl) ?_
  refine Wd.get hx hb hts hown hK hW 0 2 in_Comparison w_fl_Comparison_27 (by decide) d_Comparison_acceptBorrow_12 rfl rfl rfl ?_
  refine lv_ldc2 (v := 4294967295) hx hb hown (hts _ w_kl_Comparison_45) d_Comparison_acceptBorrow_15 ?_
  refine Ct.callV (As := [.long 4294967295]) (rest := []) hx hb hml hown hts hK hA hl.1 hW (c_Parts_and l G h0p w (q.1) (4294967295 : Int64) ) (cwV 1 hts (good_V w_ml_Comparison_54 w_im_Parts_and w_se_Parts_and w_ini_Parts w_code_Parts_and) rfl rfl rfl yd_Parts_and ⟨by decide, by decide⟩) [3] (by decide) rfl (ci := 7) (r := vr_Parts) rfl rfl rfl rfl rfl (Nat.le_of_ble_eq_true rfl) d_Comparison_acceptBorrow_18 ⟨by decide, by decide⟩ (fun v w' hp => by obtain ⟨-, rfl⟩ := hp; exact Nat.le_of_ble_eq_true rfl) (fun v w' H locs hp hW => ?_)
  obtain ⟨rfl, rfl⟩ := hp
  have hW : Wd G A s.heap [(h0, .inr (4, [.ref h0w, .ref h0m, .ref h0p, .int q.2.2.2.1, .int q.2.2.2.2])), (h0w, .inr (7, [.int w, .long q.1.1, .long q.1.2])), (h0m, .inr (7, [.int w, .long q.2.1.1, .long q.2.1.2])), (h0p, .inr (7, [.int w, .long ((pAnd (q.1) (4294967295 : Int64)).1), .long ((pAnd (q.1) (4294967295 : Int64)).2)])), (h1, .inr (7, [.int w, .long a.1, .long a.2]))] H locs := hW
  refine W.eq (g2 := F0 m 21 ls []) rfl ?_
  refine lv_aload_n hx hb d_Comparison_acceptBorrow_21 rfl (lv_at hl 0 rfl) ?_
  refine Wd.get hx hb hts hown hK hW 0 1 in_Comparison w_fl_Comparison_24 (by decide) d_Comparison_acceptBorrow_22 rfl rfl rfl ?_
  refine lv_aload_n hx hb d_Comparison_acceptBorrow_25 rfl (lv_at hl 0 rfl) ?_
  refine Wd.get hx hb hts hown hK hW 0 0 in_Comparison w_fl_Comparison_20 (by decide) d_Comparison_acceptBorrow_26 rfl rfl rfl ?_
  refine Ct.callV (As := [.ref h0w]) (rest := []) hx hb hml hown hts hK hA hl.1 hW (c_Parts_copy l G h0m h0w w q.2.1 w q.1 ) (cwV 1 hts (good_V w_ml_Comparison_47 w_im_Parts_copy w_se_Parts_copy w_ini_Parts w_code_Parts_copy) rfl rfl rfl yd_Parts_copy ⟨by decide, by decide⟩) [2, 1] (by decide) rfl (ci := 7) (r := vr_Parts) rfl rfl rfl rfl rfl (Nat.le_of_ble_eq_true rfl) d_Comparison_acceptBorrow_29 ⟨by decide, by decide⟩ (fun v w' hp => by obtain ⟨-, rfl⟩ := hp; exact Nat.le_of_ble_eq_true rfl) (fun v w' H locs hp hW => ?_)
  obtain ⟨rfl, rfl⟩ := hp
  have hW : Wd G A s.heap [(h0, .inr (4, [.ref h0w, .ref h0m, .ref h0p, .int q.2.2.2.1, .int q.2.2.2.2])), (h0w, .inr (7, [.int w, .long q.1.1, .long q.1.2])), (h0m, .inr (7, [.int w, .long ((q.1).1), .long ((q.1).2)])), (h0p, .inr (7, [.int w, .long ((pAnd (q.1) (4294967295 : Int64)).1), .long ((pAnd (q.1) (4294967295 : Int64)).2)])), (h1, .inr (7, [.int w, .long a.1, .long a.2]))] H locs := hW
  refine W.eq (g2 := F0 m 32 ls []) rfl ?_
  refine lv_aload_n hx hb d_Comparison_acceptBorrow_32 rfl (lv_at hl 0 rfl) ?_
  refine Wd.get hx hb hts hown hK hW 0 1 in_Comparison w_fl_Comparison_24 (by decide) d_Comparison_acceptBorrow_33 rfl rfl rfl ?_
  refine lv_bipush (v := 32) hx hb d_Comparison_acceptBorrow_36 (by decide) ?_
  refine Ct.callV (As := [.int 32]) (rest := []) hx hb hml hown hts hK hA hl.1 hW (c_Parts_shiftDown l G h0m w (q.1) (32 : Int32) ) (cwV 1 hts (good_V w_ml_Comparison_51 w_im_Parts_shiftDown w_se_Parts_shiftDown w_ini_Parts w_code_Parts_shiftDown) rfl rfl rfl yd_Parts_shiftDown ⟨by decide, by decide⟩) [2] (by decide) rfl (ci := 7) (r := vr_Parts) rfl rfl rfl rfl rfl (Nat.le_of_ble_eq_true rfl) d_Comparison_acceptBorrow_38 ⟨by decide, by decide⟩ (fun v w' hp => by obtain ⟨-, rfl⟩ := hp; exact Nat.le_of_ble_eq_true rfl) (fun v w' H locs hp hW => ?_)
  obtain ⟨rfl, rfl⟩ := hp
  have hW : Wd G A s.heap [(h0, .inr (4, [.ref h0w, .ref h0m, .ref h0p, .int q.2.2.2.1, .int q.2.2.2.2])), (h0w, .inr (7, [.int w, .long q.1.1, .long q.1.2])), (h0m, .inr (7, [.int w, .long ((pSh (q.1) (32 : Int32)).1), .long ((pSh (q.1) (32 : Int32)).2)])), (h0p, .inr (7, [.int w, .long ((pAnd (q.1) (4294967295 : Int64)).1), .long ((pAnd (q.1) (4294967295 : Int64)).2)])), (h1, .inr (7, [.int w, .long a.1, .long a.2]))] H locs := hW
  refine W.eq (g2 := F0 m 41 ls []) rfl ?_
  refine lv_aload_n hx hb d_Comparison_acceptBorrow_41 rfl (lv_at hl 0 rfl) ?_
  refine Wd.get hx hb hts hown hK hW 0 2 in_Comparison w_fl_Comparison_27 (by decide) d_Comparison_acceptBorrow_42 rfl rfl rfl ?_
  refine lv_aload_n hx hb d_Comparison_acceptBorrow_45 rfl (lv_at hl 0 rfl) ?_
  refine Wd.get hx hb hts hown hK hW 0 1 in_Comparison w_fl_Comparison_24 (by decide) d_Comparison_acceptBorrow_46 rfl rfl rfl ?_
  refine Ct.callV (As := [.ref h0m]) (rest := []) hx hb hml hown hts hK hA hl.1 hW (c_Parts_xor l G h0p h0m w (pAnd (q.1) (4294967295 : Int64)) w (pSh (q.1) (32 : Int32)) ) (cwV 1 hts (good_V w_ml_Comparison_88 w_im_Parts_xor w_se_Parts_xor w_ini_Parts w_code_Parts_xor) rfl rfl rfl yd_Parts_xor ⟨by decide, by decide⟩) [3, 2] (by decide) rfl (ci := 7) (r := vr_Parts) rfl rfl rfl rfl rfl (Nat.le_of_ble_eq_true rfl) d_Comparison_acceptBorrow_49 ⟨by decide, by decide⟩ (fun v w' hp => by obtain ⟨-, rfl⟩ := hp; exact Nat.le_of_ble_eq_true rfl) (fun v w' H locs hp hW => ?_)
  obtain ⟨rfl, rfl⟩ := hp
  have hW : Wd G A s.heap [(h0, .inr (4, [.ref h0w, .ref h0m, .ref h0p, .int q.2.2.2.1, .int q.2.2.2.2])), (h0w, .inr (7, [.int w, .long q.1.1, .long q.1.2])), (h0m, .inr (7, [.int w, .long ((pSh (q.1) (32 : Int32)).1), .long ((pSh (q.1) (32 : Int32)).2)])), (h0p, .inr (7, [.int w, .long ((pXor (pAnd (q.1) (4294967295 : Int64)) (pSh (q.1) (32 : Int32))).1), .long ((pXor (pAnd (q.1) (4294967295 : Int64)) (pSh (q.1) (32 : Int32))).2)])), (h1, .inr (7, [.int w, .long a.1, .long a.2]))] H locs := hW
  refine W.eq (g2 := F0 m 52 ls []) rfl ?_
  refine lv_aload_n hx hb d_Comparison_acceptBorrow_52 rfl (lv_at hl 0 rfl) ?_
  refine Wd.get hx hb hts hown hK hW 0 2 in_Comparison w_fl_Comparison_27 (by decide) d_Comparison_acceptBorrow_53 rfl rfl rfl ?_
  refine lv_ldc2 (v := 4294967295) hx hb hown (hts _ w_kl_Comparison_45) d_Comparison_acceptBorrow_56 ?_
  refine Ct.callV (As := [.long 4294967295]) (rest := []) hx hb hml hown hts hK hA hl.1 hW (c_Parts_flip l G h0p w (pXor (pAnd (q.1) (4294967295 : Int64)) (pSh (q.1) (32 : Int32))) (4294967295 : Int64) ) (cwV 1 hts (good_V w_ml_Comparison_67 w_im_Parts_flip w_se_Parts_flip w_ini_Parts w_code_Parts_flip) rfl rfl rfl yd_Parts_flip ⟨by decide, by decide⟩) [3] (by decide) rfl (ci := 7) (r := vr_Parts) rfl rfl rfl rfl rfl (Nat.le_of_ble_eq_true rfl) d_Comparison_acceptBorrow_59 ⟨by decide, by decide⟩ (fun v w' hp => by obtain ⟨-, rfl⟩ := hp; exact Nat.le_of_ble_eq_true rfl) (fun v w' H locs hp hW => ?_)
  obtain ⟨rfl, rfl⟩ := hp
  have hW : Wd G A s.heap [(h0, .inr (4, [.ref h0w, .ref h0m, .ref h0p, .int q.2.2.2.1, .int q.2.2.2.2])), (h0w, .inr (7, [.int w, .long q.1.1, .long q.1.2])), (h0m, .inr (7, [.int w, .long ((pSh (q.1) (32 : Int32)).1), .long ((pSh (q.1) (32 : Int32)).2)])), (h0p, .inr (7, [.int w, .long ((pFlip w (pXor (pAnd (q.1) (4294967295 : Int64)) (pSh (q.1) (32 : Int32))) (4294967295 : Int64)).1), .long ((pFlip w (pXor (pAnd (q.1) (4294967295 : Int64)) (pSh (q.1) (32 : Int32))) (4294967295 : Int64)).2)])), (h1, .inr (7, [.int w, .long a.1, .long a.2]))] H locs := hW
  refine W.eq (g2 := F0 m 62 ls []) rfl ?_
  refine lv_aload_n hx hb d_Comparison_acceptBorrow_62 rfl (lv_at hl 0 rfl) ?_
  refine Wd.get hx hb hts hown hK hW 0 0 in_Comparison w_fl_Comparison_20 (by decide) d_Comparison_acceptBorrow_63 rfl rfl rfl ?_
  refine lv_aload_n hx hb d_Comparison_acceptBorrow_66 rfl (lv_at hl 1 rfl) ?_
  refine Wd.get hx hb hts hown hK hW 4 1 in_Parts w_fl_Comparison_30 (by decide) d_Comparison_acceptBorrow_67 rfl rfl rfl ?_
  refine lv_aload_n hx hb d_Comparison_acceptBorrow_70 rfl (lv_at hl 0 rfl) ?_
  refine Wd.get hx hb hts hown hK hW 0 2 in_Comparison w_fl_Comparison_27 (by decide) d_Comparison_acceptBorrow_71 rfl rfl rfl ?_
  refine Wd.get hx hb hts hown hK hW 3 1 in_Parts w_fl_Comparison_30 (by decide) d_Comparison_acceptBorrow_74 rfl rfl rfl ?_
  refine Ct.callS (As := [.long a.1, .long ((pFlip w (pXor (pAnd (q.1) (4294967295 : Int64)) (pSh (q.1) (32 : Int32))) (4294967295 : Int64)).1)]) (rest := [.ref h0w]) hx hb hml hown hts hK hA hl.1 hW (c_Comparison_halves l G a.1 ((pFlip w (pXor (pAnd (q.1) (4294967295 : Int64)) (pSh (q.1) (32 : Int32))) (4294967295 : Int64)).1) ) (va_cwS 2 hts (good_S w_ml_Comparison_34 w_st_Comparison_halves w_ini_Comparison w_code_Comparison_halves) rfl rfl rfl yd_Comparison_halves.2 ⟨by decide, by decide⟩) [] (by decide) rfl rfl rfl (Nat.le_of_ble_eq_true rfl) d_Comparison_acceptBorrow_77 ⟨by decide, by decide⟩ (fun v w' hp => by obtain ⟨-, rfl⟩ := hp; exact Nat.le_of_ble_eq_true rfl) (fun v w' H locs hp hW => ?_)
  obtain ⟨rfl, rfl⟩ := hp
  have hW : Wd G A s.heap [(h0, .inr (4, [.ref h0w, .ref h0m, .ref h0p, .int q.2.2.2.1, .int q.2.2.2.2])), (h0w, .inr (7, [.int w, .long q.1.1, .long q.1.2])), (h0m, .inr (7, [.int w, .long ((pSh (q.1) (32 : Int32)).1), .long ((pSh (q.1) (32 : Int32)).2)])), (h0p, .inr (7, [.int w, .long ((pFlip w (pXor (pAnd (q.1) (4294967295 : Int64)) (pSh (q.1) (32 : Int32))) (4294967295 : Int64)).1), .long ((pFlip w (pXor (pAnd (q.1) (4294967295 : Int64)) (pSh (q.1) (32 : Int32))) (4294967295 : Int64)).2)])), (h1, .inr (7, [.int w, .long a.1, .long a.2]))] H locs := hW
  refine W.eq (g2 := F0 m 80 ls [.long (hvs a.1 ((pFlip w (pXor (pAnd (q.1) (4294967295 : Int64)) (pSh (q.1) (32 : Int32))) (4294967295 : Int64)).1)), .ref h0w]) rfl ?_
  refine lv_aload_n hx hb d_Comparison_acceptBorrow_80 rfl (lv_at hl 1 rfl) ?_
  refine Wd.get hx hb hts hown hK hW 4 2 in_Parts w_fl_Comparison_38 (by decide) d_Comparison_acceptBorrow_81 rfl rfl rfl ?_
  refine lv_aload_n hx hb d_Comparison_acceptBorrow_84 rfl (lv_at hl 0 rfl) ?_
  refine Wd.get hx hb hts hown hK hW 0 2 in_Comparison w_fl_Comparison_27 (by decide) d_Comparison_acceptBorrow_85 rfl rfl rfl ?_
  refine Wd.get hx hb hts hown hK hW 3 2 in_Parts w_fl_Comparison_38 (by decide) d_Comparison_acceptBorrow_88 rfl rfl rfl ?_
  refine Ct.callS (As := [.long a.2, .long ((pFlip w (pXor (pAnd (q.1) (4294967295 : Int64)) (pSh (q.1) (32 : Int32))) (4294967295 : Int64)).2)]) (rest := [.long (hvs a.1 ((pFlip w (pXor (pAnd (q.1) (4294967295 : Int64)) (pSh (q.1) (32 : Int32))) (4294967295 : Int64)).1)), .ref h0w]) hx hb hml hown hts hK hA hl.1 hW (c_Comparison_halves l G a.2 ((pFlip w (pXor (pAnd (q.1) (4294967295 : Int64)) (pSh (q.1) (32 : Int32))) (4294967295 : Int64)).2) ) (va_cwS 2 hts (good_S w_ml_Comparison_34 w_st_Comparison_halves w_ini_Comparison w_code_Comparison_halves) rfl rfl rfl yd_Comparison_halves.2 ⟨by decide, by decide⟩) [] (by decide) rfl rfl rfl (Nat.le_of_ble_eq_true rfl) d_Comparison_acceptBorrow_91 ⟨by decide, by decide⟩ (fun v w' hp => by obtain ⟨-, rfl⟩ := hp; exact Nat.le_of_ble_eq_true rfl) (fun v w' H locs hp hW => ?_)
  obtain ⟨rfl, rfl⟩ := hp
  have hW : Wd G A s.heap [(h0, .inr (4, [.ref h0w, .ref h0m, .ref h0p, .int q.2.2.2.1, .int q.2.2.2.2])), (h0w, .inr (7, [.int w, .long q.1.1, .long q.1.2])), (h0m, .inr (7, [.int w, .long ((pSh (q.1) (32 : Int32)).1), .long ((pSh (q.1) (32 : Int32)).2)])), (h0p, .inr (7, [.int w, .long ((pFlip w (pXor (pAnd (q.1) (4294967295 : Int64)) (pSh (q.1) (32 : Int32))) (4294967295 : Int64)).1), .long ((pFlip w (pXor (pAnd (q.1) (4294967295 : Int64)) (pSh (q.1) (32 : Int32))) (4294967295 : Int64)).2)])), (h1, .inr (7, [.int w, .long a.1, .long a.2]))] H locs := hW
  refine W.eq (g2 := F0 m 94 ls [.long (hvs a.2 ((pFlip w (pXor (pAnd (q.1) (4294967295 : Int64)) (pSh (q.1) (32 : Int32))) (4294967295 : Int64)).2)), .long (hvs a.1 ((pFlip w (pXor (pAnd (q.1) (4294967295 : Int64)) (pSh (q.1) (32 : Int32))) (4294967295 : Int64)).1)), .ref h0w]) rfl ?_
  refine Ct.callV (As := [.long (hvs a.1 ((pFlip w (pXor (pAnd (q.1) (4294967295 : Int64)) (pSh (q.1) (32 : Int32))) (4294967295 : Int64)).1)), .long (hvs a.2 ((pFlip w (pXor (pAnd (q.1) (4294967295 : Int64)) (pSh (q.1) (32 : Int32))) (4294967295 : Int64)).2))]) (rest := []) hx hb hml hown hts hK hA hl.1 hW (c_Parts_set l G h0w w q.1 (hvs a.1 ((pFlip w (pXor (pAnd (q.1) (4294967295 : Int64)) (pSh (q.1) (32 : Int32))) (4294967295 : Int64)).1)) (hvs a.2 ((pFlip w (pXor (pAnd (q.1) (4294967295 : Int64)) (pSh (q.1) (32 : Int32))) (4294967295 : Int64)).2)) ) (cwV 2 hts (good_V w_ml_Comparison_41 w_im_Parts_set w_se_Parts_set w_ini_Parts w_code_Parts_set) rfl rfl rfl yd_Parts_set ⟨by decide, by decide⟩) [1] (by decide) rfl (ci := 7) (r := vr_Parts) rfl rfl rfl rfl rfl (Nat.le_of_ble_eq_true rfl) d_Comparison_acceptBorrow_94 ⟨by decide, by decide⟩ (fun v w' hp => by obtain ⟨-, rfl⟩ := hp; exact Nat.le_of_ble_eq_true rfl) (fun v w' H locs hp hW => ?_)
  obtain ⟨rfl, rfl⟩ := hp
  have hW : Wd G A s.heap [(h0, .inr (4, [.ref h0w, .ref h0m, .ref h0p, .int q.2.2.2.1, .int q.2.2.2.2])), (h0w, .inr (7, [.int w, .long (((hvs a.1 ((pFlip w (pXor (pAnd (q.1) (4294967295 : Int64)) (pSh (q.1) (32 : Int32))) (4294967295 : Int64)).1)), (hvs a.2 ((pFlip w (pXor (pAnd (q.1) (4294967295 : Int64)) (pSh (q.1) (32 : Int32))) (4294967295 : Int64)).2))).1), .long (((hvs a.1 ((pFlip w (pXor (pAnd (q.1) (4294967295 : Int64)) (pSh (q.1) (32 : Int32))) (4294967295 : Int64)).1)), (hvs a.2 ((pFlip w (pXor (pAnd (q.1) (4294967295 : Int64)) (pSh (q.1) (32 : Int32))) (4294967295 : Int64)).2))).2)])), (h0m, .inr (7, [.int w, .long ((pSh (q.1) (32 : Int32)).1), .long ((pSh (q.1) (32 : Int32)).2)])), (h0p, .inr (7, [.int w, .long ((pFlip w (pXor (pAnd (q.1) (4294967295 : Int64)) (pSh (q.1) (32 : Int32))) (4294967295 : Int64)).1), .long ((pFlip w (pXor (pAnd (q.1) (4294967295 : Int64)) (pSh (q.1) (32 : Int32))) (4294967295 : Int64)).2)])), (h1, .inr (7, [.int w, .long a.1, .long a.2]))] H locs := hW
  refine W.eq (g2 := F0 m 97 ls []) rfl ?_
  refine lv_aload_n hx hb d_Comparison_acceptBorrow_97 rfl (lv_at hl 0 rfl) ?_
  refine lv_iconst (v := 1) hx hb d_Comparison_acceptBorrow_98 (by decide) ?_
  refine Wd.put hx hb hts hown hK hW 0 4 in_Comparison t_Comparison_ok n_Comparison w_fl_Comparison_61 (by decide) d_Comparison_acceptBorrow_99 rfl rfl rfl rfl rfl (Nat.le_of_ble_eq_true rfl) (fun H locs hW => ?_)
  have hW : Wd G A s.heap [(h0, .inr (4, [.ref h0w, .ref h0m, .ref h0p, .int q.2.2.2.1, .int 1])), (h0w, .inr (7, [.int w, .long (((hvs a.1 ((pFlip w (pXor (pAnd (q.1) (4294967295 : Int64)) (pSh (q.1) (32 : Int32))) (4294967295 : Int64)).1)), (hvs a.2 ((pFlip w (pXor (pAnd (q.1) (4294967295 : Int64)) (pSh (q.1) (32 : Int32))) (4294967295 : Int64)).2))).1), .long (((hvs a.1 ((pFlip w (pXor (pAnd (q.1) (4294967295 : Int64)) (pSh (q.1) (32 : Int32))) (4294967295 : Int64)).1)), (hvs a.2 ((pFlip w (pXor (pAnd (q.1) (4294967295 : Int64)) (pSh (q.1) (32 : Int32))) (4294967295 : Int64)).2))).2)])), (h0m, .inr (7, [.int w, .long ((pSh (q.1) (32 : Int32)).1), .long ((pSh (q.1) (32 : Int32)).2)])), (h0p, .inr (7, [.int w, .long ((pFlip w (pXor (pAnd (q.1) (4294967295 : Int64)) (pSh (q.1) (32 : Int32))) (4294967295 : Int64)).1), .long ((pFlip w (pXor (pAnd (q.1) (4294967295 : Int64)) (pSh (q.1) (32 : Int32))) (4294967295 : Int64)).2)])), (h1, .inr (7, [.int w, .long a.1, .long a.2]))] H locs := hW
  refine lv_aload_n hx hb d_Comparison_acceptBorrow_102 rfl (lv_at hl 0 rfl) ?_
  refine lv_iconst (v := 5) hx hb d_Comparison_acceptBorrow_103 (by decide) ?_
  refine Wd.put hx hb hts hown hK hW 0 3 in_Comparison t_Comparison_ok n_Comparison w_fl_Comparison_11 (by decide) d_Comparison_acceptBorrow_104 rfl rfl rfl rfl rfl (Nat.le_of_ble_eq_true rfl) (fun H locs hW => ?_)
  have hW : Wd G A s.heap [(h0, .inr (4, [.ref h0w, .ref h0m, .ref h0p, .int 5, .int 1])), (h0w, .inr (7, [.int w, .long (((hvs a.1 ((pFlip w (pXor (pAnd (q.1) (4294967295 : Int64)) (pSh (q.1) (32 : Int32))) (4294967295 : Int64)).1)), (hvs a.2 ((pFlip w (pXor (pAnd (q.1) (4294967295 : Int64)) (pSh (q.1) (32 : Int32))) (4294967295 : Int64)).2))).1), .long (((hvs a.1 ((pFlip w (pXor (pAnd (q.1) (4294967295 : Int64)) (pSh (q.1) (32 : Int32))) (4294967295 : Int64)).1)), (hvs a.2 ((pFlip w (pXor (pAnd (q.1) (4294967295 : Int64)) (pSh (q.1) (32 : Int32))) (4294967295 : Int64)).2))).2)])), (h0m, .inr (7, [.int w, .long ((pSh (q.1) (32 : Int32)).1), .long ((pSh (q.1) (32 : Int32)).2)])), (h0p, .inr (7, [.int w, .long ((pFlip w (pXor (pAnd (q.1) (4294967295 : Int64)) (pSh (q.1) (32 : Int32))) (4294967295 : Int64)).1), .long ((pFlip w (pXor (pAnd (q.1) (4294967295 : Int64)) (pSh (q.1) (32 : Int32))) (4294967295 : Int64)).2)])), (h1, .inr (7, [.int w, .long a.1, .long a.2]))] H locs := hW
  exact Ct.vret hx hb hr hnl hW (by decide) (by decide) d_Comparison_acceptBorrow_107 ⟨rfl, rfl⟩

def o_Comparison_acceptBorrowSpread_0_stage (q : CmT) : Int32 := if 16 ≤ q.2.2.2.2 then 6 else q.2.2.2.1
def o_Comparison_acceptBorrowSpread_0_reach (q : CmT) : Int32 := if 16 ≤ q.2.2.2.2 then q.2.2.2.2 else q.2.2.2.2 * 2
abbrev rm_Comparison_acceptBorrowSpread : Room := { frames := 1, cells := 0, slots := 0, locals := 22 }
set_option maxHeartbeats 4000000 in
set_option maxRecDepth 100000 in
theorem c_Comparison_acceptBorrowSpread (l : Launch) (G : Gt) (h0 : Nat) (h0w : Nat) (h0m : Nat) (h0p : Nat) (w : Int32) (q : CmT) (h1 : Nat) (a : PT) : Ct l G y_Comparison_acceptBorrowSpread b_Comparison_acceptBorrowSpread 2 none rm_Comparison_acceptBorrowSpread [.ref h0, .ref h1] [(h0, .inr (4, [.ref h0w, .ref h0m, .ref h0p, .int q.2.2.2.1, .int q.2.2.2.2])), (h0w, .inr (7, [.int w, .long q.1.1, .long q.1.2])), (h0m, .inr (7, [.int w, .long q.2.1.1, .long q.2.1.2])), (h0p, .inr (7, [.int w, .long q.2.2.1.1, .long q.2.2.1.2])), (h1, .inr (7, [.int w, .long a.1, .long a.2]))] 0 0 (fun v w' => v = none ∧ w' = [(h0, .inr (4, [.ref h0w, .ref h0m, .ref h0p, .int (o_Comparison_acceptBorrowSpread_0_stage q), .int (o_Comparison_acceptBorrowSpread_0_reach q)])), (h0w, .inr (7, [.int w, .long ((pXor (pAnd q.1 (4294967295 : Int64)) a).1), .long ((pXor (pAnd q.1 (4294967295 : Int64)) a).2)])), (h0m, .inr (7, [.int w, .long q.2.1.1, .long q.2.1.2])), (h0p, .inr (7, [.int w, .long q.2.2.1.1, .long q.2.2.1.2])), (h1, .inr (7, [.int w, .long a.1, .long a.2]))]) := by
  refine Ct.of (by decide) (Nat.le_of_ble_eq_true rfl) (fun p e s m args below meth c A ls H locs hx hb hml hr hnl hown hts hnm hK hA hl hW => ?_)
  have hl : lv_has ls 2 [(0, .ref h0), (1, .ref h1)] := hl
  refine lv_aload_n hx hb d_Comparison_acceptBorrowSpread_0 rfl (lv_at hl 0 rfl) ?_
  refine Wd.get hx hb hts hown hK hW 0 0 in_Comparison w_fl_Comparison_20 (by decide) d_Comparison_acceptBorrowSpread_1 rfl rfl rfl ?_
  refine lv_ldc2 (v := 4294967295) hx hb hown (hts _ w_kl_Comparison_45) d_Comparison_acceptBorrowSpread_4 ?_
  refine Ct.callV (As := [.long 4294967295]) (rest := []) hx hb hml hown hts hK hA hl.1 hW (c_Parts_and l G h0w w q.1 (4294967295 : Int64) ) (cwV 1 hts (good_V w_ml_Comparison_54 w_im_Parts_and w_se_Parts_and w_ini_Parts w_code_Parts_and) rfl rfl rfl yd_Parts_and ⟨by decide, by decide⟩) [1] (by decide) rfl (ci := 7) (r := vr_Parts) rfl rfl rfl rfl rfl (Nat.le_of_ble_eq_true rfl) d_Comparison_acceptBorrowSpread_7 ⟨by decide, by decide⟩ (fun v w' hp => by obtain ⟨-, rfl⟩ := hp; exact Nat.le_of_ble_eq_true rfl) (fun v w' H locs hp hW => ?_)
  obtain ⟨rfl, rfl⟩ := hp
  have hW : Wd G A s.heap [(h0, .inr (4, [.ref h0w, .ref h0m, .ref h0p, .int q.2.2.2.1, .int q.2.2.2.2])), (h0w, .inr (7, [.int w, .long ((pAnd q.1 (4294967295 : Int64)).1), .long ((pAnd q.1 (4294967295 : Int64)).2)])), (h0m, .inr (7, [.int w, .long q.2.1.1, .long q.2.1.2])), (h0p, .inr (7, [.int w, .long q.2.2.1.1, .long q.2.2.1.2])), (h1, .inr (7, [.int w, .long a.1, .long a.2]))] H locs := hW
  refine W.eq (g2 := F0 m 10 ls []) rfl ?_
  refine lv_aload_n hx hb d_Comparison_acceptBorrowSpread_10 rfl (lv_at hl 0 rfl) ?_
  refine Wd.get hx hb hts hown hK hW 0 0 in_Comparison w_fl_Comparison_20 (by decide) d_Comparison_acceptBorrowSpread_11 rfl rfl rfl ?_
  refine lv_aload_n hx hb d_Comparison_acceptBorrowSpread_14 rfl (lv_at hl 1 rfl) ?_
  refine Ct.callV (As := [.ref h1]) (rest := []) hx hb hml hown hts hK hA hl.1 hW (c_Parts_xor l G h0w h1 w (pAnd q.1 (4294967295 : Int64)) w a ) (cwV 1 hts (good_V w_ml_Comparison_88 w_im_Parts_xor w_se_Parts_xor w_ini_Parts w_code_Parts_xor) rfl rfl rfl yd_Parts_xor ⟨by decide, by decide⟩) [1, 4] (by decide) rfl (ci := 7) (r := vr_Parts) rfl rfl rfl rfl rfl (Nat.le_of_ble_eq_true rfl) d_Comparison_acceptBorrowSpread_15 ⟨by decide, by decide⟩ (fun v w' hp => by obtain ⟨-, rfl⟩ := hp; exact Nat.le_of_ble_eq_true rfl) (fun v w' H locs hp hW => ?_)
  obtain ⟨rfl, rfl⟩ := hp
  have hW : Wd G A s.heap [(h0, .inr (4, [.ref h0w, .ref h0m, .ref h0p, .int q.2.2.2.1, .int q.2.2.2.2])), (h0w, .inr (7, [.int w, .long ((pXor (pAnd q.1 (4294967295 : Int64)) a).1), .long ((pXor (pAnd q.1 (4294967295 : Int64)) a).2)])), (h0m, .inr (7, [.int w, .long q.2.1.1, .long q.2.1.2])), (h0p, .inr (7, [.int w, .long q.2.2.1.1, .long q.2.2.1.2])), (h1, .inr (7, [.int w, .long a.1, .long a.2]))] H locs := hW
  refine W.eq (g2 := F0 m 18 ls []) rfl ?_
  refine lv_aload_n hx hb d_Comparison_acceptBorrowSpread_18 rfl (lv_at hl 0 rfl) ?_
  refine Wd.get hx hb hts hown hK hW 0 4 in_Comparison w_fl_Comparison_61 (by decide) d_Comparison_acceptBorrowSpread_19 rfl rfl rfl ?_
  refine lv_bipush (v := 16) hx hb d_Comparison_acceptBorrowSpread_22 (by decide) ?_
  refine lv_icmp_ge (tgt := 40) hx hb d_Comparison_acceptBorrowSpread_24 rfl (fun ht1 => ?_) (fun hf2 => ?_)
  · refine lv_aload_n hx hb d_Comparison_acceptBorrowSpread_40 rfl (lv_at hl 0 rfl) ?_
    refine lv_bipush (v := 6) hx hb d_Comparison_acceptBorrowSpread_41 (by decide) ?_
    refine Wd.put hx hb hts hown hK hW 0 3 in_Comparison t_Comparison_ok n_Comparison w_fl_Comparison_11 (by decide) d_Comparison_acceptBorrowSpread_43 rfl rfl rfl rfl rfl (Nat.le_of_ble_eq_true rfl) (fun H locs hW => ?_)
    have hW : Wd G A s.heap [(h0, .inr (4, [.ref h0w, .ref h0m, .ref h0p, .int 6, .int q.2.2.2.2])), (h0w, .inr (7, [.int w, .long ((pXor (pAnd q.1 (4294967295 : Int64)) a).1), .long ((pXor (pAnd q.1 (4294967295 : Int64)) a).2)])), (h0m, .inr (7, [.int w, .long q.2.1.1, .long q.2.1.2])), (h0p, .inr (7, [.int w, .long q.2.2.1.1, .long q.2.2.1.2])), (h1, .inr (7, [.int w, .long a.1, .long a.2]))] H locs := hW
    exact Ct.vret hx hb hr hnl hW (by decide) (by decide) d_Comparison_acceptBorrowSpread_46 ⟨by first | rfl | (simp only [o_Comparison_acceptBorrowSpread_0_stage, o_Comparison_acceptBorrowSpread_0_reach, if_pos ht1]), by first | rfl | (simp only [o_Comparison_acceptBorrowSpread_0_stage, o_Comparison_acceptBorrowSpread_0_reach, if_pos ht1])⟩
  · refine lv_aload_n hx hb d_Comparison_acceptBorrowSpread_27 rfl (lv_at hl 0 rfl) ?_
    refine lv_dup hx hb d_Comparison_acceptBorrowSpread_28 rfl ?_
    refine Wd.get hx hb hts hown hK hW 0 4 in_Comparison w_fl_Comparison_61 (by decide) d_Comparison_acceptBorrowSpread_29 rfl rfl rfl ?_
    refine lv_iconst (v := 2) hx hb d_Comparison_acceptBorrowSpread_32 (by decide) ?_
    refine lv_imul hx hb d_Comparison_acceptBorrowSpread_33 ?_
    refine Wd.put hx hb hts hown hK hW 0 4 in_Comparison t_Comparison_ok n_Comparison w_fl_Comparison_61 (by decide) d_Comparison_acceptBorrowSpread_34 rfl rfl rfl rfl rfl (Nat.le_of_ble_eq_true rfl) (fun H locs hW => ?_)
    have hW : Wd G A s.heap [(h0, .inr (4, [.ref h0w, .ref h0m, .ref h0p, .int q.2.2.2.1, .int (q.2.2.2.2 * 2)])), (h0w, .inr (7, [.int w, .long ((pXor (pAnd q.1 (4294967295 : Int64)) a).1), .long ((pXor (pAnd q.1 (4294967295 : Int64)) a).2)])), (h0m, .inr (7, [.int w, .long q.2.1.1, .long q.2.1.2])), (h0p, .inr (7, [.int w, .long q.2.2.1.1, .long q.2.2.1.2])), (h1, .inr (7, [.int w, .long a.1, .long a.2]))] H locs := hW
    refine lv_goto (tgt := 46) hx hb d_Comparison_acceptBorrowSpread_37 rfl ?_
    exact Ct.vret hx hb hr hnl hW (by decide) (by decide) d_Comparison_acceptBorrowSpread_46 ⟨by first | rfl | (simp only [o_Comparison_acceptBorrowSpread_0_stage, o_Comparison_acceptBorrowSpread_0_reach, if_neg hf2]), by first | rfl | (simp only [o_Comparison_acceptBorrowSpread_0_stage, o_Comparison_acceptBorrowSpread_0_reach, if_neg hf2])⟩

abbrev rm_Comparison_accept : Room := { frames := 2, cells := 0, slots := 0, locals := 45 }
set_option maxHeartbeats 4000000 in
set_option maxRecDepth 100000 in
theorem c_Comparison_accept (l : Launch) (G : Gt) (h0 : Nat) (h0w : Nat) (h0m : Nat) (h0p : Nat) (w : Int32) (q : CmT) (h1 : Nat) (a : PT) : Ct l G y_Comparison_accept b_Comparison_accept 2 none rm_Comparison_accept [.ref h0, .ref h1] [(h0, .inr (4, [.ref h0w, .ref h0m, .ref h0p, .int q.2.2.2.1, .int q.2.2.2.2])), (h0w, .inr (7, [.int w, .long q.1.1, .long q.1.2])), (h0m, .inr (7, [.int w, .long q.2.1.1, .long q.2.1.2])), (h0p, .inr (7, [.int w, .long q.2.2.1.1, .long q.2.2.1.2])), (h1, .inr (7, [.int w, .long a.1, .long a.2]))] 0 0 (fun v w' => v = none ∧ w' = [(h0, .inr (4, [.ref h0w, .ref h0m, .ref h0p, .int ((cmAcc w q a).2.2.2.1), .int ((cmAcc w q a).2.2.2.2)])), (h0w, .inr (7, [.int w, .long ((cmAcc w q a).1.1), .long ((cmAcc w q a).1.2)])), (h0m, .inr (7, [.int w, .long ((cmAcc w q a).2.1.1), .long ((cmAcc w q a).2.1.2)])), (h0p, .inr (7, [.int w, .long ((cmAcc w q a).2.2.1.1), .long ((cmAcc w q a).2.2.1.2)])), (h1, .inr (7, [.int w, .long a.1, .long a.2]))]) := by
  refine Ct.of (by decide) (Nat.le_of_ble_eq_true rfl) (fun p e s m args below meth c A ls H locs hx hb hml hr hnl hown hts hnm hK hA hl hW => ?_)
  have hl : lv_has ls 2 [(0, .ref h0), (1, .ref h1)] := hl
  refine lv_aload_n hx hb d_Comparison_accept_0 rfl (lv_at hl 0 rfl) ?_
  refine Wd.get hx hb hts hown hK hW 0 3 in_Comparison w_fl_Comparison_11 (by decide) d_Comparison_accept_1 rfl rfl rfl ?_
  by_cases ht1 : q.2.2.2.1 = 0
  · refine lv_tableIn (tgt := 40) hx hb d_Comparison_accept_4 (by rw [ht1]; decide) (by rw [ht1]; decide) (by rw [ht1]; rfl) rfl ?_
    refine lv_aload_n hx hb d_Comparison_accept_40 rfl (lv_at hl 0 rfl) ?_
    refine lv_aload_n hx hb d_Comparison_accept_41 rfl (lv_at hl 1 rfl) ?_
    refine Ct.callV (As := [.ref h1]) (rest := []) hx hb hml hown hts hK hA hl.1 hW (c_Comparison_acceptCarry l G h0 h0w h0m h0p w q h1 a ) (cwV 1 hts (good_V w_ml_Comparison_73 w_im_Comparison_acceptCarry w_se_Comparison_acceptCarry w_ini_Comparison w_code_Comparison_acceptCarry) rfl rfl rfl yd_Comparison_acceptCarry ⟨by decide, by decide⟩) [0, 1, 2, 3, 4] (by decide) rfl (ci := 4) (r := vr_Comparison) rfl rfl rfl rfl rfl (Nat.le_of_ble_eq_true rfl) d_Comparison_accept_42 ⟨by decide, by decide⟩ (fun v w' hp => by obtain ⟨-, rfl⟩ := hp; exact Nat.le_of_ble_eq_true rfl) (fun v w' H locs hp hW => ?_)
    obtain ⟨rfl, rfl⟩ := hp
    have hW : Wd G A s.heap [(h0, .inr (4, [.ref h0w, .ref h0m, .ref h0p, .int 1, .int q.2.2.2.2])), (h0w, .inr (7, [.int w, .long q.1.1, .long q.1.2])), (h0m, .inr (7, [.int w, .long ((pRh (pXor (pKeep w (2 : Int32) (q.1)) a) (1 : Int32)).1), .long ((pRh (pXor (pKeep w (2 : Int32) (q.1)) a) (1 : Int32)).2)])), (h0p, .inr (7, [.int w, .long ((pXor (q.1) (pRh (pXor (pKeep w (2 : Int32) (q.1)) a) (1 : Int32))).1), .long ((pXor (q.1) (pRh (pXor (pKeep w (2 : Int32) (q.1)) a) (1 : Int32))).2)])), (h1, .inr (7, [.int w, .long a.1, .long a.2]))] H locs := hW
    refine W.eq (g2 := F0 m 45 ls []) rfl ?_
    refine lv_goto (tgt := 127) hx hb d_Comparison_accept_45 rfl ?_
    exact Ct.vret hx hb hr hnl hW (by decide) (by decide) d_Comparison_accept_127 ⟨by first | rfl | (simp only [cmAcc, if_pos ht1]; done) | (simp only [cmAcc, if_pos ht1]; rfl) | (rcases Classical.em (16 ≤ q.2.2.2.2) with hz | hz; simp only [cmAcc, o_Comparison_acceptMade_0_stage, o_Comparison_acceptMade_1_own, o_Comparison_acceptMade_1_next, o_Comparison_acceptMade_2_own, o_Comparison_acceptMade_2_next, o_Comparison_acceptBorrowSpread_0_stage, o_Comparison_acceptBorrowSpread_0_reach, if_pos ht1, if_pos hz]; simp only [cmAcc, o_Comparison_acceptMade_0_stage, o_Comparison_acceptMade_1_own, o_Comparison_acceptMade_1_next, o_Comparison_acceptMade_2_own, o_Comparison_acceptMade_2_next, o_Comparison_acceptBorrowSpread_0_stage, o_Comparison_acceptBorrowSpread_0_reach, if_pos ht1, if_neg hz]), by first | rfl | (simp only [cmAcc, if_pos ht1]; done) | (simp only [cmAcc, if_pos ht1]; rfl) | (rcases Classical.em (16 ≤ q.2.2.2.2) with hz | hz; simp only [cmAcc, o_Comparison_acceptMade_0_stage, o_Comparison_acceptMade_1_own, o_Comparison_acceptMade_1_next, o_Comparison_acceptMade_2_own, o_Comparison_acceptMade_2_next, o_Comparison_acceptBorrowSpread_0_stage, o_Comparison_acceptBorrowSpread_0_reach, if_pos ht1, if_pos hz]; simp only [cmAcc, o_Comparison_acceptMade_0_stage, o_Comparison_acceptMade_1_own, o_Comparison_acceptMade_1_next, o_Comparison_acceptMade_2_own, o_Comparison_acceptMade_2_next, o_Comparison_acceptBorrowSpread_0_stage, o_Comparison_acceptBorrowSpread_0_reach, if_pos ht1, if_neg hz])⟩
  have hf2 := ht1
  by_cases ht3 : q.2.2.2.1 = 1
  · refine lv_tableIn (tgt := 48) hx hb d_Comparison_accept_4 (by rw [ht3]; decide) (by rw [ht3]; decide) (by rw [ht3]; rfl) rfl ?_
    refine lv_aload_n hx hb d_Comparison_accept_48 rfl (lv_at hl 0 rfl) ?_
    refine Wd.get hx hb hts hown hK hW 0 1 in_Comparison w_fl_Comparison_24 (by decide) d_Comparison_accept_49 rfl rfl rfl ?_
    refine lv_aload_n hx hb d_Comparison_accept_52 rfl (lv_at hl 1 rfl) ?_
    refine Ct.callV (As := [.ref h1]) (rest := []) hx hb hml hown hts hK hA hl.1 hW (c_Parts_copy l G h0m h1 w q.2.1 w a ) (cwV 1 hts (good_V w_ml_Comparison_47 w_im_Parts_copy w_se_Parts_copy w_ini_Parts w_code_Parts_copy) rfl rfl rfl yd_Parts_copy ⟨by decide, by decide⟩) [2, 4] (by decide) rfl (ci := 7) (r := vr_Parts) rfl rfl rfl rfl rfl (Nat.le_of_ble_eq_true rfl) d_Comparison_accept_53 ⟨by decide, by decide⟩ (fun v w' hp => by obtain ⟨-, rfl⟩ := hp; exact Nat.le_of_ble_eq_true rfl) (fun v w' H locs hp hW => ?_)
    obtain ⟨rfl, rfl⟩ := hp
    have hW : Wd G A s.heap [(h0, .inr (4, [.ref h0w, .ref h0m, .ref h0p, .int q.2.2.2.1, .int q.2.2.2.2])), (h0w, .inr (7, [.int w, .long q.1.1, .long q.1.2])), (h0m, .inr (7, [.int w, .long ((a).1), .long ((a).2)])), (h0p, .inr (7, [.int w, .long q.2.2.1.1, .long q.2.2.1.2])), (h1, .inr (7, [.int w, .long a.1, .long a.2]))] H locs := hW
    refine W.eq (g2 := F0 m 56 ls []) rfl ?_
    refine lv_aload_n hx hb d_Comparison_accept_56 rfl (lv_at hl 0 rfl) ?_
    refine Wd.get hx hb hts hown hK hW 0 0 in_Comparison w_fl_Comparison_20 (by decide) d_Comparison_accept_57 rfl rfl rfl ?_
    refine lv_aload_n hx hb d_Comparison_accept_60 rfl (lv_at hl 0 rfl) ?_
    refine Wd.get hx hb hts hown hK hW 0 2 in_Comparison w_fl_Comparison_27 (by decide) d_Comparison_accept_61 rfl rfl rfl ?_
    refine Ct.callV (As := [.ref h0p]) (rest := []) hx hb hml hown hts hK hA hl.1 hW (c_Parts_copy l G h0w h0p w q.1 w q.2.2.1 ) (cwV 1 hts (good_V w_ml_Comparison_47 w_im_Parts_copy w_se_Parts_copy w_ini_Parts w_code_Parts_copy) rfl rfl rfl yd_Parts_copy ⟨by decide, by decide⟩) [1, 3] (by decide) rfl (ci := 7) (r := vr_Parts) rfl rfl rfl rfl rfl (Nat.le_of_ble_eq_true rfl) d_Comparison_accept_64 ⟨by decide, by decide⟩ (fun v w' hp => by obtain ⟨-, rfl⟩ := hp; exact Nat.le_of_ble_eq_true rfl) (fun v w' H locs hp hW => ?_)
    obtain ⟨rfl, rfl⟩ := hp
    have hW : Wd G A s.heap [(h0, .inr (4, [.ref h0w, .ref h0m, .ref h0p, .int q.2.2.2.1, .int q.2.2.2.2])), (h0w, .inr (7, [.int w, .long ((q.2.2.1).1), .long ((q.2.2.1).2)])), (h0m, .inr (7, [.int w, .long ((a).1), .long ((a).2)])), (h0p, .inr (7, [.int w, .long q.2.2.1.1, .long q.2.2.1.2])), (h1, .inr (7, [.int w, .long a.1, .long a.2]))] H locs := hW
    refine W.eq (g2 := F0 m 67 ls []) rfl ?_
    refine lv_aload_n hx hb d_Comparison_accept_67 rfl (lv_at hl 0 rfl) ?_
    refine lv_iconst (v := 1) hx hb d_Comparison_accept_68 (by decide) ?_
    refine Wd.put hx hb hts hown hK hW 0 4 in_Comparison t_Comparison_ok n_Comparison w_fl_Comparison_61 (by decide) d_Comparison_accept_69 rfl rfl rfl rfl rfl (Nat.le_of_ble_eq_true rfl) (fun H locs hW => ?_)
    have hW : Wd G A s.heap [(h0, .inr (4, [.ref h0w, .ref h0m, .ref h0p, .int q.2.2.2.1, .int 1])), (h0w, .inr (7, [.int w, .long ((q.2.2.1).1), .long ((q.2.2.1).2)])), (h0m, .inr (7, [.int w, .long ((a).1), .long ((a).2)])), (h0p, .inr (7, [.int w, .long q.2.2.1.1, .long q.2.2.1.2])), (h1, .inr (7, [.int w, .long a.1, .long a.2]))] H locs := hW
    refine lv_aload_n hx hb d_Comparison_accept_72 rfl (lv_at hl 0 rfl) ?_
    refine lv_iconst (v := 2) hx hb d_Comparison_accept_73 (by decide) ?_
    refine Wd.put hx hb hts hown hK hW 0 3 in_Comparison t_Comparison_ok n_Comparison w_fl_Comparison_11 (by decide) d_Comparison_accept_74 rfl rfl rfl rfl rfl (Nat.le_of_ble_eq_true rfl) (fun H locs hW => ?_)
    have hW : Wd G A s.heap [(h0, .inr (4, [.ref h0w, .ref h0m, .ref h0p, .int 2, .int 1])), (h0w, .inr (7, [.int w, .long ((q.2.2.1).1), .long ((q.2.2.1).2)])), (h0m, .inr (7, [.int w, .long ((a).1), .long ((a).2)])), (h0p, .inr (7, [.int w, .long q.2.2.1.1, .long q.2.2.1.2])), (h1, .inr (7, [.int w, .long a.1, .long a.2]))] H locs := hW
    refine lv_goto (tgt := 127) hx hb d_Comparison_accept_77 rfl ?_
    exact Ct.vret hx hb hr hnl hW (by decide) (by decide) d_Comparison_accept_127 ⟨by first | rfl | (simp only [cmAcc, if_neg hf2, if_pos ht3]; done) | (simp only [cmAcc, if_neg hf2, if_pos ht3]; rfl) | (rcases Classical.em (16 ≤ q.2.2.2.2) with hz | hz; simp only [cmAcc, o_Comparison_acceptMade_0_stage, o_Comparison_acceptMade_1_own, o_Comparison_acceptMade_1_next, o_Comparison_acceptMade_2_own, o_Comparison_acceptMade_2_next, o_Comparison_acceptBorrowSpread_0_stage, o_Comparison_acceptBorrowSpread_0_reach, if_neg hf2, if_pos ht3, if_pos hz]; simp only [cmAcc, o_Comparison_acceptMade_0_stage, o_Comparison_acceptMade_1_own, o_Comparison_acceptMade_1_next, o_Comparison_acceptMade_2_own, o_Comparison_acceptMade_2_next, o_Comparison_acceptBorrowSpread_0_stage, o_Comparison_acceptBorrowSpread_0_reach, if_neg hf2, if_pos ht3, if_neg hz]), by first | rfl | (simp only [cmAcc, if_neg hf2, if_pos ht3]; done) | (simp only [cmAcc, if_neg hf2, if_pos ht3]; rfl) | (rcases Classical.em (16 ≤ q.2.2.2.2) with hz | hz; simp only [cmAcc, o_Comparison_acceptMade_0_stage, o_Comparison_acceptMade_1_own, o_Comparison_acceptMade_1_next, o_Comparison_acceptMade_2_own, o_Comparison_acceptMade_2_next, o_Comparison_acceptBorrowSpread_0_stage, o_Comparison_acceptBorrowSpread_0_reach, if_neg hf2, if_pos ht3, if_pos hz]; simp only [cmAcc, o_Comparison_acceptMade_0_stage, o_Comparison_acceptMade_1_own, o_Comparison_acceptMade_1_next, o_Comparison_acceptMade_2_own, o_Comparison_acceptMade_2_next, o_Comparison_acceptBorrowSpread_0_stage, o_Comparison_acceptBorrowSpread_0_reach, if_neg hf2, if_pos ht3, if_neg hz])⟩
  have hf4 := ht3
  by_cases ht5 : q.2.2.2.1 = 2
  · refine lv_tableIn (tgt := 80) hx hb d_Comparison_accept_4 (by rw [ht5]; decide) (by rw [ht5]; decide) (by rw [ht5]; rfl) rfl ?_
    refine lv_aload_n hx hb d_Comparison_accept_80 rfl (lv_at hl 0 rfl) ?_
    refine lv_aload_n hx hb d_Comparison_accept_81 rfl (lv_at hl 1 rfl) ?_
    refine Ct.callV (As := [.ref h1]) (rest := []) hx hb hml hown hts hK hA hl.1 hW (c_Comparison_acceptMade l G h0 h0w h0m h0p w q h1 a ) (cwV 1 hts (good_V w_ml_Comparison_76 w_im_Comparison_acceptMade w_se_Comparison_acceptMade w_ini_Comparison w_code_Comparison_acceptMade) rfl rfl rfl yd_Comparison_acceptMade ⟨by decide, by decide⟩) [0, 1, 2, 3, 4] (by decide) rfl (ci := 4) (r := vr_Comparison) rfl rfl rfl rfl rfl (Nat.le_of_ble_eq_true rfl) d_Comparison_accept_82 ⟨by decide, by decide⟩ (fun v w' hp => by obtain ⟨-, rfl⟩ := hp; exact Nat.le_of_ble_eq_true rfl) (fun v w' H locs hp hW => ?_)
    obtain ⟨rfl, rfl⟩ := hp
    have hW : Wd G A s.heap [(h0, .inr (4, [.ref h0w, .ref h0m, .ref h0p, .int (o_Comparison_acceptMade_0_stage q), .int q.2.2.2.2])), (h0w, .inr (7, [.int w, .long (o_Comparison_acceptMade_1_own q a), .long (o_Comparison_acceptMade_1_next q a)])), (h0m, .inr (7, [.int w, .long (o_Comparison_acceptMade_2_own q a), .long (o_Comparison_acceptMade_2_next q a)])), (h0p, .inr (7, [.int w, .long q.2.2.1.1, .long q.2.2.1.2])), (h1, .inr (7, [.int w, .long a.1, .long a.2]))] H locs := hW
    refine W.eq (g2 := F0 m 85 ls []) rfl ?_
    refine lv_goto (tgt := 127) hx hb d_Comparison_accept_85 rfl ?_
    exact Ct.vret hx hb hr hnl hW (by decide) (by decide) d_Comparison_accept_127 ⟨by first | rfl | (simp only [cmAcc, if_neg hf2, if_neg hf4, if_pos ht5]; done) | (simp only [cmAcc, if_neg hf2, if_neg hf4, if_pos ht5]; rfl) | (rcases Classical.em (16 ≤ q.2.2.2.2) with hz | hz; simp only [cmAcc, o_Comparison_acceptMade_0_stage, o_Comparison_acceptMade_1_own, o_Comparison_acceptMade_1_next, o_Comparison_acceptMade_2_own, o_Comparison_acceptMade_2_next, o_Comparison_acceptBorrowSpread_0_stage, o_Comparison_acceptBorrowSpread_0_reach, if_neg hf2, if_neg hf4, if_pos ht5, if_pos hz]; simp only [cmAcc, o_Comparison_acceptMade_0_stage, o_Comparison_acceptMade_1_own, o_Comparison_acceptMade_1_next, o_Comparison_acceptMade_2_own, o_Comparison_acceptMade_2_next, o_Comparison_acceptBorrowSpread_0_stage, o_Comparison_acceptBorrowSpread_0_reach, if_neg hf2, if_neg hf4, if_pos ht5, if_neg hz]), by first | rfl | (simp only [cmAcc, if_neg hf2, if_neg hf4, if_pos ht5]; done) | (simp only [cmAcc, if_neg hf2, if_neg hf4, if_pos ht5]; rfl) | (rcases Classical.em (16 ≤ q.2.2.2.2) with hz | hz; simp only [cmAcc, o_Comparison_acceptMade_0_stage, o_Comparison_acceptMade_1_own, o_Comparison_acceptMade_1_next, o_Comparison_acceptMade_2_own, o_Comparison_acceptMade_2_next, o_Comparison_acceptBorrowSpread_0_stage, o_Comparison_acceptBorrowSpread_0_reach, if_neg hf2, if_neg hf4, if_pos ht5, if_pos hz]; simp only [cmAcc, o_Comparison_acceptMade_0_stage, o_Comparison_acceptMade_1_own, o_Comparison_acceptMade_1_next, o_Comparison_acceptMade_2_own, o_Comparison_acceptMade_2_next, o_Comparison_acceptBorrowSpread_0_stage, o_Comparison_acceptBorrowSpread_0_reach, if_neg hf2, if_neg hf4, if_pos ht5, if_neg hz])⟩
  have hf6 := ht5
  by_cases ht7 : q.2.2.2.1 = 3
  · refine lv_tableIn (tgt := 88) hx hb d_Comparison_accept_4 (by rw [ht7]; decide) (by rw [ht7]; decide) (by rw [ht7]; rfl) rfl ?_
    refine lv_aload_n hx hb d_Comparison_accept_88 rfl (lv_at hl 0 rfl) ?_
    refine Wd.get hx hb hts hown hK hW 0 2 in_Comparison w_fl_Comparison_27 (by decide) d_Comparison_accept_89 rfl rfl rfl ?_
    refine lv_aload_n hx hb d_Comparison_accept_92 rfl (lv_at hl 1 rfl) ?_
    refine Ct.callV (As := [.ref h1]) (rest := []) hx hb hml hown hts hK hA hl.1 hW (c_Parts_copy l G h0p h1 w q.2.2.1 w a ) (cwV 1 hts (good_V w_ml_Comparison_47 w_im_Parts_copy w_se_Parts_copy w_ini_Parts w_code_Parts_copy) rfl rfl rfl yd_Parts_copy ⟨by decide, by decide⟩) [3, 4] (by decide) rfl (ci := 7) (r := vr_Parts) rfl rfl rfl rfl rfl (Nat.le_of_ble_eq_true rfl) d_Comparison_accept_93 ⟨by decide, by decide⟩ (fun v w' hp => by obtain ⟨-, rfl⟩ := hp; exact Nat.le_of_ble_eq_true rfl) (fun v w' H locs hp hW => ?_)
    obtain ⟨rfl, rfl⟩ := hp
    have hW : Wd G A s.heap [(h0, .inr (4, [.ref h0w, .ref h0m, .ref h0p, .int q.2.2.2.1, .int q.2.2.2.2])), (h0w, .inr (7, [.int w, .long q.1.1, .long q.1.2])), (h0m, .inr (7, [.int w, .long q.2.1.1, .long q.2.1.2])), (h0p, .inr (7, [.int w, .long ((a).1), .long ((a).2)])), (h1, .inr (7, [.int w, .long a.1, .long a.2]))] H locs := hW
    refine W.eq (g2 := F0 m 96 ls []) rfl ?_
    refine lv_aload_n hx hb d_Comparison_accept_96 rfl (lv_at hl 0 rfl) ?_
    refine lv_dup hx hb d_Comparison_accept_97 rfl ?_
    refine Wd.get hx hb hts hown hK hW 0 4 in_Comparison w_fl_Comparison_61 (by decide) d_Comparison_accept_98 rfl rfl rfl ?_
    refine lv_iconst (v := 2) hx hb d_Comparison_accept_101 (by decide) ?_
    refine lv_imul hx hb d_Comparison_accept_102 ?_
    refine Wd.put hx hb hts hown hK hW 0 4 in_Comparison t_Comparison_ok n_Comparison w_fl_Comparison_61 (by decide) d_Comparison_accept_103 rfl rfl rfl rfl rfl (Nat.le_of_ble_eq_true rfl) (fun H locs hW => ?_)
    have hW : Wd G A s.heap [(h0, .inr (4, [.ref h0w, .ref h0m, .ref h0p, .int q.2.2.2.1, .int (q.2.2.2.2 * 2)])), (h0w, .inr (7, [.int w, .long q.1.1, .long q.1.2])), (h0m, .inr (7, [.int w, .long q.2.1.1, .long q.2.1.2])), (h0p, .inr (7, [.int w, .long ((a).1), .long ((a).2)])), (h1, .inr (7, [.int w, .long a.1, .long a.2]))] H locs := hW
    refine lv_aload_n hx hb d_Comparison_accept_106 rfl (lv_at hl 0 rfl) ?_
    refine lv_iconst (v := 2) hx hb d_Comparison_accept_107 (by decide) ?_
    refine Wd.put hx hb hts hown hK hW 0 3 in_Comparison t_Comparison_ok n_Comparison w_fl_Comparison_11 (by decide) d_Comparison_accept_108 rfl rfl rfl rfl rfl (Nat.le_of_ble_eq_true rfl) (fun H locs hW => ?_)
    have hW : Wd G A s.heap [(h0, .inr (4, [.ref h0w, .ref h0m, .ref h0p, .int 2, .int (q.2.2.2.2 * 2)])), (h0w, .inr (7, [.int w, .long q.1.1, .long q.1.2])), (h0m, .inr (7, [.int w, .long q.2.1.1, .long q.2.1.2])), (h0p, .inr (7, [.int w, .long ((a).1), .long ((a).2)])), (h1, .inr (7, [.int w, .long a.1, .long a.2]))] H locs := hW
    refine lv_goto (tgt := 127) hx hb d_Comparison_accept_111 rfl ?_
    exact Ct.vret hx hb hr hnl hW (by decide) (by decide) d_Comparison_accept_127 ⟨by first | rfl | (simp only [cmAcc, if_neg hf2, if_neg hf4, if_neg hf6, if_pos ht7]; done) | (simp only [cmAcc, if_neg hf2, if_neg hf4, if_neg hf6, if_pos ht7]; rfl) | (rcases Classical.em (16 ≤ q.2.2.2.2) with hz | hz; simp only [cmAcc, o_Comparison_acceptMade_0_stage, o_Comparison_acceptMade_1_own, o_Comparison_acceptMade_1_next, o_Comparison_acceptMade_2_own, o_Comparison_acceptMade_2_next, o_Comparison_acceptBorrowSpread_0_stage, o_Comparison_acceptBorrowSpread_0_reach, if_neg hf2, if_neg hf4, if_neg hf6, if_pos ht7, if_pos hz]; simp only [cmAcc, o_Comparison_acceptMade_0_stage, o_Comparison_acceptMade_1_own, o_Comparison_acceptMade_1_next, o_Comparison_acceptMade_2_own, o_Comparison_acceptMade_2_next, o_Comparison_acceptBorrowSpread_0_stage, o_Comparison_acceptBorrowSpread_0_reach, if_neg hf2, if_neg hf4, if_neg hf6, if_pos ht7, if_neg hz]), by first | rfl | (simp only [cmAcc, if_neg hf2, if_neg hf4, if_neg hf6, if_pos ht7]; done) | (simp only [cmAcc, if_neg hf2, if_neg hf4, if_neg hf6, if_pos ht7]; rfl) | (rcases Classical.em (16 ≤ q.2.2.2.2) with hz | hz; simp only [cmAcc, o_Comparison_acceptMade_0_stage, o_Comparison_acceptMade_1_own, o_Comparison_acceptMade_1_next, o_Comparison_acceptMade_2_own, o_Comparison_acceptMade_2_next, o_Comparison_acceptBorrowSpread_0_stage, o_Comparison_acceptBorrowSpread_0_reach, if_neg hf2, if_neg hf4, if_neg hf6, if_pos ht7, if_pos hz]; simp only [cmAcc, o_Comparison_acceptMade_0_stage, o_Comparison_acceptMade_1_own, o_Comparison_acceptMade_1_next, o_Comparison_acceptMade_2_own, o_Comparison_acceptMade_2_next, o_Comparison_acceptBorrowSpread_0_stage, o_Comparison_acceptBorrowSpread_0_reach, if_neg hf2, if_neg hf4, if_neg hf6, if_pos ht7, if_neg hz])⟩
  have hf8 := ht7
  by_cases ht9 : q.2.2.2.1 = 4
  · refine lv_tableIn (tgt := 114) hx hb d_Comparison_accept_4 (by rw [ht9]; decide) (by rw [ht9]; decide) (by rw [ht9]; rfl) rfl ?_
    refine lv_aload_n hx hb d_Comparison_accept_114 rfl (lv_at hl 0 rfl) ?_
    refine lv_aload_n hx hb d_Comparison_accept_115 rfl (lv_at hl 1 rfl) ?_
    refine Ct.callV (As := [.ref h1]) (rest := []) hx hb hml hown hts hK hA hl.1 hW (c_Comparison_acceptBorrow l G h0 h0w h0m h0p w q h1 a ) (cwV 1 hts (good_V w_ml_Comparison_79 w_im_Comparison_acceptBorrow w_se_Comparison_acceptBorrow w_ini_Comparison w_code_Comparison_acceptBorrow) rfl rfl rfl yd_Comparison_acceptBorrow ⟨by decide, by decide⟩) [0, 1, 2, 3, 4] (by decide) rfl (ci := 4) (r := vr_Comparison) rfl rfl rfl rfl rfl (Nat.le_of_ble_eq_true rfl) d_Comparison_accept_116 ⟨by decide, by decide⟩ (fun v w' hp => by obtain ⟨-, rfl⟩ := hp; exact Nat.le_of_ble_eq_true rfl) (fun v w' H locs hp hW => ?_)
    obtain ⟨rfl, rfl⟩ := hp
    have hW : Wd G A s.heap [(h0, .inr (4, [.ref h0w, .ref h0m, .ref h0p, .int 5, .int 1])), (h0w, .inr (7, [.int w, .long (((hvs a.1 ((pFlip w (pXor (pAnd (q.1) (4294967295 : Int64)) (pSh (q.1) (32 : Int32))) (4294967295 : Int64)).1)), (hvs a.2 ((pFlip w (pXor (pAnd (q.1) (4294967295 : Int64)) (pSh (q.1) (32 : Int32))) (4294967295 : Int64)).2))).1), .long (((hvs a.1 ((pFlip w (pXor (pAnd (q.1) (4294967295 : Int64)) (pSh (q.1) (32 : Int32))) (4294967295 : Int64)).1)), (hvs a.2 ((pFlip w (pXor (pAnd (q.1) (4294967295 : Int64)) (pSh (q.1) (32 : Int32))) (4294967295 : Int64)).2))).2)])), (h0m, .inr (7, [.int w, .long ((pSh (q.1) (32 : Int32)).1), .long ((pSh (q.1) (32 : Int32)).2)])), (h0p, .inr (7, [.int w, .long ((pFlip w (pXor (pAnd (q.1) (4294967295 : Int64)) (pSh (q.1) (32 : Int32))) (4294967295 : Int64)).1), .long ((pFlip w (pXor (pAnd (q.1) (4294967295 : Int64)) (pSh (q.1) (32 : Int32))) (4294967295 : Int64)).2)])), (h1, .inr (7, [.int w, .long a.1, .long a.2]))] H locs := hW
    refine W.eq (g2 := F0 m 119 ls []) rfl ?_
    refine lv_goto (tgt := 127) hx hb d_Comparison_accept_119 rfl ?_
    exact Ct.vret hx hb hr hnl hW (by decide) (by decide) d_Comparison_accept_127 ⟨by first | rfl | (simp only [cmAcc, if_neg hf2, if_neg hf4, if_neg hf6, if_neg hf8, if_pos ht9]; done) | (simp only [cmAcc, if_neg hf2, if_neg hf4, if_neg hf6, if_neg hf8, if_pos ht9]; rfl) | (rcases Classical.em (16 ≤ q.2.2.2.2) with hz | hz; simp only [cmAcc, o_Comparison_acceptMade_0_stage, o_Comparison_acceptMade_1_own, o_Comparison_acceptMade_1_next, o_Comparison_acceptMade_2_own, o_Comparison_acceptMade_2_next, o_Comparison_acceptBorrowSpread_0_stage, o_Comparison_acceptBorrowSpread_0_reach, if_neg hf2, if_neg hf4, if_neg hf6, if_neg hf8, if_pos ht9, if_pos hz]; simp only [cmAcc, o_Comparison_acceptMade_0_stage, o_Comparison_acceptMade_1_own, o_Comparison_acceptMade_1_next, o_Comparison_acceptMade_2_own, o_Comparison_acceptMade_2_next, o_Comparison_acceptBorrowSpread_0_stage, o_Comparison_acceptBorrowSpread_0_reach, if_neg hf2, if_neg hf4, if_neg hf6, if_neg hf8, if_pos ht9, if_neg hz]), by first | rfl | (simp only [cmAcc, if_neg hf2, if_neg hf4, if_neg hf6, if_neg hf8, if_pos ht9]; done) | (simp only [cmAcc, if_neg hf2, if_neg hf4, if_neg hf6, if_neg hf8, if_pos ht9]; rfl) | (rcases Classical.em (16 ≤ q.2.2.2.2) with hz | hz; simp only [cmAcc, o_Comparison_acceptMade_0_stage, o_Comparison_acceptMade_1_own, o_Comparison_acceptMade_1_next, o_Comparison_acceptMade_2_own, o_Comparison_acceptMade_2_next, o_Comparison_acceptBorrowSpread_0_stage, o_Comparison_acceptBorrowSpread_0_reach, if_neg hf2, if_neg hf4, if_neg hf6, if_neg hf8, if_pos ht9, if_pos hz]; simp only [cmAcc, o_Comparison_acceptMade_0_stage, o_Comparison_acceptMade_1_own, o_Comparison_acceptMade_1_next, o_Comparison_acceptMade_2_own, o_Comparison_acceptMade_2_next, o_Comparison_acceptBorrowSpread_0_stage, o_Comparison_acceptBorrowSpread_0_reach, if_neg hf2, if_neg hf4, if_neg hf6, if_neg hf8, if_pos ht9, if_neg hz])⟩
  have hf10 := ht9
  refine lv_tableOut (tgt := 122) hx hb d_Comparison_accept_4 (by have n0 := lv_neT hf2 (a := 0) (by decide); have n1 := lv_neT hf4 (a := 1) (by decide); have n2 := lv_neT hf6 (a := 2) (by decide); have n3 := lv_neT hf8 (a := 3) (by decide); have n4 := lv_neT hf10 (a := 4) (by decide); omega) rfl ?_
  refine lv_aload_n hx hb d_Comparison_accept_122 rfl (lv_at hl 0 rfl) ?_
  refine lv_aload_n hx hb d_Comparison_accept_123 rfl (lv_at hl 1 rfl) ?_
  refine Ct.callV (As := [.ref h1]) (rest := []) hx hb hml hown hts hK hA hl.1 hW (c_Comparison_acceptBorrowSpread l G h0 h0w h0m h0p w q h1 a ) (cwV 1 hts (good_V w_ml_Comparison_82 w_im_Comparison_acceptBorrowSpread w_se_Comparison_acceptBorrowSpread w_ini_Comparison w_code_Comparison_acceptBorrowSpread) rfl rfl rfl yd_Comparison_acceptBorrowSpread ⟨by decide, by decide⟩) [0, 1, 2, 3, 4] (by decide) rfl (ci := 4) (r := vr_Comparison) rfl rfl rfl rfl rfl (Nat.le_of_ble_eq_true rfl) d_Comparison_accept_124 ⟨by decide, by decide⟩ (fun v w' hp => by obtain ⟨-, rfl⟩ := hp; exact Nat.le_of_ble_eq_true rfl) (fun v w' H locs hp hW => ?_)
  obtain ⟨rfl, rfl⟩ := hp
  have hW : Wd G A s.heap [(h0, .inr (4, [.ref h0w, .ref h0m, .ref h0p, .int (o_Comparison_acceptBorrowSpread_0_stage q), .int (o_Comparison_acceptBorrowSpread_0_reach q)])), (h0w, .inr (7, [.int w, .long ((pXor (pAnd q.1 (4294967295 : Int64)) a).1), .long ((pXor (pAnd q.1 (4294967295 : Int64)) a).2)])), (h0m, .inr (7, [.int w, .long q.2.1.1, .long q.2.1.2])), (h0p, .inr (7, [.int w, .long q.2.2.1.1, .long q.2.2.1.2])), (h1, .inr (7, [.int w, .long a.1, .long a.2]))] H locs := hW
  refine W.eq (g2 := F0 m 127 ls []) rfl ?_
  exact Ct.vret hx hb hr hnl hW (by decide) (by decide) d_Comparison_accept_127 ⟨by first | rfl | (simp only [cmAcc, if_neg hf2, if_neg hf4, if_neg hf6, if_neg hf8, if_neg hf10]; done) | (simp only [cmAcc, if_neg hf2, if_neg hf4, if_neg hf6, if_neg hf8, if_neg hf10]; rfl) | (rcases Classical.em (16 ≤ q.2.2.2.2) with hz | hz; simp only [cmAcc, o_Comparison_acceptMade_0_stage, o_Comparison_acceptMade_1_own, o_Comparison_acceptMade_1_next, o_Comparison_acceptMade_2_own, o_Comparison_acceptMade_2_next, o_Comparison_acceptBorrowSpread_0_stage, o_Comparison_acceptBorrowSpread_0_reach, if_neg hf2, if_neg hf4, if_neg hf6, if_neg hf8, if_neg hf10, if_pos hz]; simp only [cmAcc, o_Comparison_acceptMade_0_stage, o_Comparison_acceptMade_1_own, o_Comparison_acceptMade_1_next, o_Comparison_acceptMade_2_own, o_Comparison_acceptMade_2_next, o_Comparison_acceptBorrowSpread_0_stage, o_Comparison_acceptBorrowSpread_0_reach, if_neg hf2, if_neg hf4, if_neg hf6, if_neg hf8, if_neg hf10, if_neg hz]), by first | rfl | (simp only [cmAcc, if_neg hf2, if_neg hf4, if_neg hf6, if_neg hf8, if_neg hf10]; done) | (simp only [cmAcc, if_neg hf2, if_neg hf4, if_neg hf6, if_neg hf8, if_neg hf10]; rfl) | (rcases Classical.em (16 ≤ q.2.2.2.2) with hz | hz; simp only [cmAcc, o_Comparison_acceptMade_0_stage, o_Comparison_acceptMade_1_own, o_Comparison_acceptMade_1_next, o_Comparison_acceptMade_2_own, o_Comparison_acceptMade_2_next, o_Comparison_acceptBorrowSpread_0_stage, o_Comparison_acceptBorrowSpread_0_reach, if_neg hf2, if_neg hf4, if_neg hf6, if_neg hf8, if_neg hf10, if_pos hz]; simp only [cmAcc, o_Comparison_acceptMade_0_stage, o_Comparison_acceptMade_1_own, o_Comparison_acceptMade_1_next, o_Comparison_acceptMade_2_own, o_Comparison_acceptMade_2_next, o_Comparison_acceptBorrowSpread_0_stage, o_Comparison_acceptBorrowSpread_0_reach, if_neg hf2, if_neg hf4, if_neg hf6, if_neg hf8, if_neg hf10, if_neg hz])⟩

abbrev rm_Comparison_ask : Room := { frames := 1, cells := 0, slots := 0, locals := 23 }
set_option maxHeartbeats 4000000 in
set_option maxRecDepth 100000 in
theorem c_Comparison_ask (l : Launch) (G : Gt) (h0 : Nat) (h0w : Nat) (h0m : Nat) (h0p : Nat) (w : Int32) (q : CmT) (h1 : Nat) (a : PT) (h2 : Nat) (b : PT) : Ct l G y_Comparison_ask b_Comparison_ask 3 none rm_Comparison_ask [.ref h0, .ref h1, .ref h2] [(h0, .inr (4, [.ref h0w, .ref h0m, .ref h0p, .int q.2.2.2.1, .int q.2.2.2.2])), (h0w, .inr (7, [.int w, .long q.1.1, .long q.1.2])), (h0m, .inr (7, [.int w, .long q.2.1.1, .long q.2.1.2])), (h0p, .inr (7, [.int w, .long q.2.2.1.1, .long q.2.2.1.2])), (h1, .inr (7, [.int w, .long a.1, .long a.2])), (h2, .inr (7, [.int w, .long b.1, .long b.2]))] 0 0 (fun v w' => v = none ∧ w' = [(h0, .inr (4, [.ref h0w, .ref h0m, .ref h0p, .int q.2.2.2.1, .int q.2.2.2.2])), (h0w, .inr (7, [.int w, .long q.1.1, .long q.1.2])), (h0m, .inr (7, [.int w, .long q.2.1.1, .long q.2.1.2])), (h0p, .inr (7, [.int w, .long q.2.2.1.1, .long q.2.2.1.2])), (h1, .inr (7, [.int w, .long ((cmAsk w q).1.1), .long ((cmAsk w q).1.2)])), (h2, .inr (7, [.int w, .long ((cmAsk w q).2.1), .long ((cmAsk w q).2.2)]))]) := by
  refine Ct.of (by decide) (Nat.le_of_ble_eq_true rfl) (fun p e s m args below meth c A ls H locs hx hb hml hr hnl hown hts hnm hK hA hl hW => ?_)
  have hl : lv_has ls 3 [(0, .ref h0), (1, .ref h1), (2, .ref h2)] := hl
  refine lv_aload_n hx hb d_Comparison_ask_0 rfl (lv_at hl 0 rfl) ?_
  refine Wd.get hx hb hts hown hK hW 0 3 in_Comparison w_fl_Comparison_11 (by decide) d_Comparison_ask_1 rfl rfl rfl ?_
  by_cases ht1 : q.2.2.2.1 = 0
  · refine lv_tableIn (tgt := 40) hx hb d_Comparison_ask_4 (by rw [ht1]; decide) (by rw [ht1]; decide) (by rw [ht1]; rfl) rfl ?_
    refine lv_aload_n hx hb d_Comparison_ask_40 rfl (lv_at hl 1 rfl) ?_
    refine lv_aload_n hx hb d_Comparison_ask_41 rfl (lv_at hl 0 rfl) ?_
    refine Wd.get hx hb hts hown hK hW 0 0 in_Comparison w_fl_Comparison_20 (by decide) d_Comparison_ask_42 rfl rfl rfl ?_
    refine Ct.callV (As := [.ref h0w]) (rest := []) hx hb hml hown hts hK hA hl.1 hW (c_Parts_copy l G h1 h0w w a w q.1 ) (cwV 1 hts (good_V w_ml_Comparison_47 w_im_Parts_copy w_se_Parts_copy w_ini_Parts w_code_Parts_copy) rfl rfl rfl yd_Parts_copy ⟨by decide, by decide⟩) [4, 1] (by decide) rfl (ci := 7) (r := vr_Parts) rfl rfl rfl rfl rfl (Nat.le_of_ble_eq_true rfl) d_Comparison_ask_45 ⟨by decide, by decide⟩ (fun v w' hp => by obtain ⟨-, rfl⟩ := hp; exact Nat.le_of_ble_eq_true rfl) (fun v w' H locs hp hW => ?_)
    obtain ⟨rfl, rfl⟩ := hp
    have hW : Wd G A s.heap [(h0, .inr (4, [.ref h0w, .ref h0m, .ref h0p, .int q.2.2.2.1, .int q.2.2.2.2])), (h0w, .inr (7, [.int w, .long q.1.1, .long q.1.2])), (h0m, .inr (7, [.int w, .long q.2.1.1, .long q.2.1.2])), (h0p, .inr (7, [.int w, .long q.2.2.1.1, .long q.2.2.1.2])), (h1, .inr (7, [.int w, .long ((q.1).1), .long ((q.1).2)])), (h2, .inr (7, [.int w, .long b.1, .long b.2]))] H locs := hW
    refine W.eq (g2 := F0 m 48 ls []) rfl ?_
    refine lv_aload_n hx hb d_Comparison_ask_48 rfl (lv_at hl 1 rfl) ?_
    refine lv_iconst (v := 1) hx hb d_Comparison_ask_49 (by decide) ?_
    refine Ct.callV (As := [.int 1]) (rest := []) hx hb hml hown hts hK hA hl.1 hW (c_Parts_drop l G h1 w (q.1) (1 : Int32) ) (cwV 1 hts (good_V w_ml_Comparison_58 w_im_Parts_drop w_se_Parts_drop w_ini_Parts w_code_Parts_drop) rfl rfl rfl yd_Parts_drop ⟨by decide, by decide⟩) [4] (by decide) rfl (ci := 7) (r := vr_Parts) rfl rfl rfl rfl rfl (Nat.le_of_ble_eq_true rfl) d_Comparison_ask_50 ⟨by decide, by decide⟩ (fun v w' hp => by obtain ⟨-, rfl⟩ := hp; exact Nat.le_of_ble_eq_true rfl) (fun v w' H locs hp hW => ?_)
    obtain ⟨rfl, rfl⟩ := hp
    have hW : Wd G A s.heap [(h0, .inr (4, [.ref h0w, .ref h0m, .ref h0p, .int q.2.2.2.1, .int q.2.2.2.2])), (h0w, .inr (7, [.int w, .long q.1.1, .long q.1.2])), (h0m, .inr (7, [.int w, .long q.2.1.1, .long q.2.1.2])), (h0p, .inr (7, [.int w, .long q.2.2.1.1, .long q.2.2.1.2])), (h1, .inr (7, [.int w, .long ((pDrop w (1 : Int32) (q.1)).1), .long ((pDrop w (1 : Int32) (q.1)).2)])), (h2, .inr (7, [.int w, .long b.1, .long b.2]))] H locs := hW
    refine W.eq (g2 := F0 m 53 ls []) rfl ?_
    refine lv_aload_n hx hb d_Comparison_ask_53 rfl (lv_at hl 2 rfl) ?_
    refine lv_aload_n hx hb d_Comparison_ask_54 rfl (lv_at hl 0 rfl) ?_
    refine Wd.get hx hb hts hown hK hW 0 0 in_Comparison w_fl_Comparison_20 (by decide) d_Comparison_ask_55 rfl rfl rfl ?_
    refine Ct.callV (As := [.ref h0w]) (rest := []) hx hb hml hown hts hK hA hl.1 hW (c_Parts_copy l G h2 h0w w b w q.1 ) (cwV 1 hts (good_V w_ml_Comparison_47 w_im_Parts_copy w_se_Parts_copy w_ini_Parts w_code_Parts_copy) rfl rfl rfl yd_Parts_copy ⟨by decide, by decide⟩) [5, 1] (by decide) rfl (ci := 7) (r := vr_Parts) rfl rfl rfl rfl rfl (Nat.le_of_ble_eq_true rfl) d_Comparison_ask_58 ⟨by decide, by decide⟩ (fun v w' hp => by obtain ⟨-, rfl⟩ := hp; exact Nat.le_of_ble_eq_true rfl) (fun v w' H locs hp hW => ?_)
    obtain ⟨rfl, rfl⟩ := hp
    have hW : Wd G A s.heap [(h0, .inr (4, [.ref h0w, .ref h0m, .ref h0p, .int q.2.2.2.1, .int q.2.2.2.2])), (h0w, .inr (7, [.int w, .long q.1.1, .long q.1.2])), (h0m, .inr (7, [.int w, .long q.2.1.1, .long q.2.1.2])), (h0p, .inr (7, [.int w, .long q.2.2.1.1, .long q.2.2.1.2])), (h1, .inr (7, [.int w, .long ((pDrop w (1 : Int32) (q.1)).1), .long ((pDrop w (1 : Int32) (q.1)).2)])), (h2, .inr (7, [.int w, .long ((q.1).1), .long ((q.1).2)]))] H locs := hW
    refine W.eq (g2 := F0 m 61 ls []) rfl ?_
    refine lv_aload_n hx hb d_Comparison_ask_61 rfl (lv_at hl 2 rfl) ?_
    refine lv_iconst (v := 0) hx hb d_Comparison_ask_62 (by decide) ?_
    refine Ct.callV (As := [.int 0]) (rest := []) hx hb hml hown hts hK hA hl.1 hW (c_Parts_drop l G h2 w (q.1) (0 : Int32) ) (cwV 1 hts (good_V w_ml_Comparison_58 w_im_Parts_drop w_se_Parts_drop w_ini_Parts w_code_Parts_drop) rfl rfl rfl yd_Parts_drop ⟨by decide, by decide⟩) [5] (by decide) rfl (ci := 7) (r := vr_Parts) rfl rfl rfl rfl rfl (Nat.le_of_ble_eq_true rfl) d_Comparison_ask_63 ⟨by decide, by decide⟩ (fun v w' hp => by obtain ⟨-, rfl⟩ := hp; exact Nat.le_of_ble_eq_true rfl) (fun v w' H locs hp hW => ?_)
    obtain ⟨rfl, rfl⟩ := hp
    have hW : Wd G A s.heap [(h0, .inr (4, [.ref h0w, .ref h0m, .ref h0p, .int q.2.2.2.1, .int q.2.2.2.2])), (h0w, .inr (7, [.int w, .long q.1.1, .long q.1.2])), (h0m, .inr (7, [.int w, .long q.2.1.1, .long q.2.1.2])), (h0p, .inr (7, [.int w, .long q.2.2.1.1, .long q.2.2.1.2])), (h1, .inr (7, [.int w, .long ((pDrop w (1 : Int32) (q.1)).1), .long ((pDrop w (1 : Int32) (q.1)).2)])), (h2, .inr (7, [.int w, .long ((pDrop w (0 : Int32) (q.1)).1), .long ((pDrop w (0 : Int32) (q.1)).2)]))] H locs := hW
    refine W.eq (g2 := F0 m 66 ls []) rfl ?_
    refine lv_goto (tgt := 209) hx hb d_Comparison_ask_66 rfl ?_
    exact Ct.vret hx hb hr hnl hW (by decide) (by decide) d_Comparison_ask_209 ⟨by first | rfl | (simp only [cmAsk, if_pos ht1]; done) | (simp only [cmAsk, if_pos ht1]; rfl), by first | rfl | (simp only [cmAsk, if_pos ht1]; done) | (simp only [cmAsk, if_pos ht1]; rfl)⟩
  have hf2 := ht1
  by_cases ht3 : q.2.2.2.1 = 1
  · refine lv_tableIn (tgt := 69) hx hb d_Comparison_ask_4 (by rw [ht3]; decide) (by rw [ht3]; decide) (by rw [ht3]; rfl) rfl ?_
    refine lv_aload_n hx hb d_Comparison_ask_69 rfl (lv_at hl 1 rfl) ?_
    refine lv_aload_n hx hb d_Comparison_ask_70 rfl (lv_at hl 0 rfl) ?_
    refine Wd.get hx hb hts hown hK hW 0 0 in_Comparison w_fl_Comparison_20 (by decide) d_Comparison_ask_71 rfl rfl rfl ?_
    refine Ct.callV (As := [.ref h0w]) (rest := []) hx hb hml hown hts hK hA hl.1 hW (c_Parts_copy l G h1 h0w w a w q.1 ) (cwV 1 hts (good_V w_ml_Comparison_47 w_im_Parts_copy w_se_Parts_copy w_ini_Parts w_code_Parts_copy) rfl rfl rfl yd_Parts_copy ⟨by decide, by decide⟩) [4, 1] (by decide) rfl (ci := 7) (r := vr_Parts) rfl rfl rfl rfl rfl (Nat.le_of_ble_eq_true rfl) d_Comparison_ask_74 ⟨by decide, by decide⟩ (fun v w' hp => by obtain ⟨-, rfl⟩ := hp; exact Nat.le_of_ble_eq_true rfl) (fun v w' H locs hp hW => ?_)
    obtain ⟨rfl, rfl⟩ := hp
    have hW : Wd G A s.heap [(h0, .inr (4, [.ref h0w, .ref h0m, .ref h0p, .int q.2.2.2.1, .int q.2.2.2.2])), (h0w, .inr (7, [.int w, .long q.1.1, .long q.1.2])), (h0m, .inr (7, [.int w, .long q.2.1.1, .long q.2.1.2])), (h0p, .inr (7, [.int w, .long q.2.2.1.1, .long q.2.2.1.2])), (h1, .inr (7, [.int w, .long ((q.1).1), .long ((q.1).2)])), (h2, .inr (7, [.int w, .long b.1, .long b.2]))] H locs := hW
    refine W.eq (g2 := F0 m 77 ls []) rfl ?_
    refine lv_aload_n hx hb d_Comparison_ask_77 rfl (lv_at hl 2 rfl) ?_
    refine lv_aload_n hx hb d_Comparison_ask_78 rfl (lv_at hl 0 rfl) ?_
    refine Wd.get hx hb hts hown hK hW 0 1 in_Comparison w_fl_Comparison_24 (by decide) d_Comparison_ask_79 rfl rfl rfl ?_
    refine Ct.callV (As := [.ref h0m]) (rest := []) hx hb hml hown hts hK hA hl.1 hW (c_Parts_copy l G h2 h0m w b w q.2.1 ) (cwV 1 hts (good_V w_ml_Comparison_47 w_im_Parts_copy w_se_Parts_copy w_ini_Parts w_code_Parts_copy) rfl rfl rfl yd_Parts_copy ⟨by decide, by decide⟩) [5, 2] (by decide) rfl (ci := 7) (r := vr_Parts) rfl rfl rfl rfl rfl (Nat.le_of_ble_eq_true rfl) d_Comparison_ask_82 ⟨by decide, by decide⟩ (fun v w' hp => by obtain ⟨-, rfl⟩ := hp; exact Nat.le_of_ble_eq_true rfl) (fun v w' H locs hp hW => ?_)
    obtain ⟨rfl, rfl⟩ := hp
    have hW : Wd G A s.heap [(h0, .inr (4, [.ref h0w, .ref h0m, .ref h0p, .int q.2.2.2.1, .int q.2.2.2.2])), (h0w, .inr (7, [.int w, .long q.1.1, .long q.1.2])), (h0m, .inr (7, [.int w, .long q.2.1.1, .long q.2.1.2])), (h0p, .inr (7, [.int w, .long q.2.2.1.1, .long q.2.2.1.2])), (h1, .inr (7, [.int w, .long ((q.1).1), .long ((q.1).2)])), (h2, .inr (7, [.int w, .long ((q.2.1).1), .long ((q.2.1).2)]))] H locs := hW
    refine W.eq (g2 := F0 m 85 ls []) rfl ?_
    refine lv_goto (tgt := 209) hx hb d_Comparison_ask_85 rfl ?_
    exact Ct.vret hx hb hr hnl hW (by decide) (by decide) d_Comparison_ask_209 ⟨by first | rfl | (simp only [cmAsk, if_neg hf2, if_pos ht3]; done) | (simp only [cmAsk, if_neg hf2, if_pos ht3]; rfl), by first | rfl | (simp only [cmAsk, if_neg hf2, if_pos ht3]; done) | (simp only [cmAsk, if_neg hf2, if_pos ht3]; rfl)⟩
  have hf4 := ht3
  by_cases ht5 : q.2.2.2.1 = 2
  · refine lv_tableIn (tgt := 88) hx hb d_Comparison_ask_4 (by rw [ht5]; decide) (by rw [ht5]; decide) (by rw [ht5]; rfl) rfl ?_
    refine lv_aload_n hx hb d_Comparison_ask_88 rfl (lv_at hl 1 rfl) ?_
    refine lv_aload_n hx hb d_Comparison_ask_89 rfl (lv_at hl 0 rfl) ?_
    refine Wd.get hx hb hts hown hK hW 0 2 in_Comparison w_fl_Comparison_27 (by decide) d_Comparison_ask_90 rfl rfl rfl ?_
    refine Ct.callV (As := [.ref h0p]) (rest := []) hx hb hml hown hts hK hA hl.1 hW (c_Parts_copy l G h1 h0p w a w q.2.2.1 ) (cwV 1 hts (good_V w_ml_Comparison_47 w_im_Parts_copy w_se_Parts_copy w_ini_Parts w_code_Parts_copy) rfl rfl rfl yd_Parts_copy ⟨by decide, by decide⟩) [4, 3] (by decide) rfl (ci := 7) (r := vr_Parts) rfl rfl rfl rfl rfl (Nat.le_of_ble_eq_true rfl) d_Comparison_ask_93 ⟨by decide, by decide⟩ (fun v w' hp => by obtain ⟨-, rfl⟩ := hp; exact Nat.le_of_ble_eq_true rfl) (fun v w' H locs hp hW => ?_)
    obtain ⟨rfl, rfl⟩ := hp
    have hW : Wd G A s.heap [(h0, .inr (4, [.ref h0w, .ref h0m, .ref h0p, .int q.2.2.2.1, .int q.2.2.2.2])), (h0w, .inr (7, [.int w, .long q.1.1, .long q.1.2])), (h0m, .inr (7, [.int w, .long q.2.1.1, .long q.2.1.2])), (h0p, .inr (7, [.int w, .long q.2.2.1.1, .long q.2.2.1.2])), (h1, .inr (7, [.int w, .long ((q.2.2.1).1), .long ((q.2.2.1).2)])), (h2, .inr (7, [.int w, .long b.1, .long b.2]))] H locs := hW
    refine W.eq (g2 := F0 m 96 ls []) rfl ?_
    refine lv_aload_n hx hb d_Comparison_ask_96 rfl (lv_at hl 2 rfl) ?_
    refine lv_aload_n hx hb d_Comparison_ask_97 rfl (lv_at hl 0 rfl) ?_
    refine Wd.get hx hb hts hown hK hW 0 1 in_Comparison w_fl_Comparison_24 (by decide) d_Comparison_ask_98 rfl rfl rfl ?_
    refine Ct.callV (As := [.ref h0m]) (rest := []) hx hb hml hown hts hK hA hl.1 hW (c_Parts_copy l G h2 h0m w b w q.2.1 ) (cwV 1 hts (good_V w_ml_Comparison_47 w_im_Parts_copy w_se_Parts_copy w_ini_Parts w_code_Parts_copy) rfl rfl rfl yd_Parts_copy ⟨by decide, by decide⟩) [5, 2] (by decide) rfl (ci := 7) (r := vr_Parts) rfl rfl rfl rfl rfl (Nat.le_of_ble_eq_true rfl) d_Comparison_ask_101 ⟨by decide, by decide⟩ (fun v w' hp => by obtain ⟨-, rfl⟩ := hp; exact Nat.le_of_ble_eq_true rfl) (fun v w' H locs hp hW => ?_)
    obtain ⟨rfl, rfl⟩ := hp
    have hW : Wd G A s.heap [(h0, .inr (4, [.ref h0w, .ref h0m, .ref h0p, .int q.2.2.2.1, .int q.2.2.2.2])), (h0w, .inr (7, [.int w, .long q.1.1, .long q.1.2])), (h0m, .inr (7, [.int w, .long q.2.1.1, .long q.2.1.2])), (h0p, .inr (7, [.int w, .long q.2.2.1.1, .long q.2.2.1.2])), (h1, .inr (7, [.int w, .long ((q.2.2.1).1), .long ((q.2.2.1).2)])), (h2, .inr (7, [.int w, .long ((q.2.1).1), .long ((q.2.1).2)]))] H locs := hW
    refine W.eq (g2 := F0 m 104 ls []) rfl ?_
    refine lv_aload_n hx hb d_Comparison_ask_104 rfl (lv_at hl 2 rfl) ?_
    refine lv_aload_n hx hb d_Comparison_ask_105 rfl (lv_at hl 0 rfl) ?_
    refine Wd.get hx hb hts hown hK hW 0 4 in_Comparison w_fl_Comparison_61 (by decide) d_Comparison_ask_106 rfl rfl rfl ?_
    refine Ct.callV (As := [.int q.2.2.2.2]) (rest := []) hx hb hml hown hts hK hA hl.1 hW (c_Parts_raiseHalves l G h2 w (q.2.1) q.2.2.2.2 ) (cwV 1 hts (good_V w_ml_Comparison_64 w_im_Parts_raiseHalves w_se_Parts_raiseHalves w_ini_Parts w_code_Parts_raiseHalves) rfl rfl rfl yd_Parts_raiseHalves ⟨by decide, by decide⟩) [5] (by decide) rfl (ci := 7) (r := vr_Parts) rfl rfl rfl rfl rfl (Nat.le_of_ble_eq_true rfl) d_Comparison_ask_109 ⟨by decide, by decide⟩ (fun v w' hp => by obtain ⟨-, rfl⟩ := hp; exact Nat.le_of_ble_eq_true rfl) (fun v w' H locs hp hW => ?_)
    obtain ⟨rfl, rfl⟩ := hp
    have hW : Wd G A s.heap [(h0, .inr (4, [.ref h0w, .ref h0m, .ref h0p, .int q.2.2.2.1, .int q.2.2.2.2])), (h0w, .inr (7, [.int w, .long q.1.1, .long q.1.2])), (h0m, .inr (7, [.int w, .long q.2.1.1, .long q.2.1.2])), (h0p, .inr (7, [.int w, .long q.2.2.1.1, .long q.2.2.1.2])), (h1, .inr (7, [.int w, .long ((q.2.2.1).1), .long ((q.2.2.1).2)])), (h2, .inr (7, [.int w, .long ((pRh (q.2.1) q.2.2.2.2).1), .long ((pRh (q.2.1) q.2.2.2.2).2)]))] H locs := hW
    refine W.eq (g2 := F0 m 112 ls []) rfl ?_
    refine lv_goto (tgt := 209) hx hb d_Comparison_ask_112 rfl ?_
    exact Ct.vret hx hb hr hnl hW (by decide) (by decide) d_Comparison_ask_209 ⟨by first | rfl | (simp only [cmAsk, if_neg hf2, if_neg hf4, if_pos ht5]; done) | (simp only [cmAsk, if_neg hf2, if_neg hf4, if_pos ht5]; rfl), by first | rfl | (simp only [cmAsk, if_neg hf2, if_neg hf4, if_pos ht5]; done) | (simp only [cmAsk, if_neg hf2, if_neg hf4, if_pos ht5]; rfl)⟩
  have hf6 := ht5
  by_cases ht7 : q.2.2.2.1 = 3
  · refine lv_tableIn (tgt := 115) hx hb d_Comparison_ask_4 (by rw [ht7]; decide) (by rw [ht7]; decide) (by rw [ht7]; rfl) rfl ?_
    refine lv_aload_n hx hb d_Comparison_ask_115 rfl (lv_at hl 1 rfl) ?_
    refine lv_aload_n hx hb d_Comparison_ask_116 rfl (lv_at hl 0 rfl) ?_
    refine Wd.get hx hb hts hown hK hW 0 2 in_Comparison w_fl_Comparison_27 (by decide) d_Comparison_ask_117 rfl rfl rfl ?_
    refine Ct.callV (As := [.ref h0p]) (rest := []) hx hb hml hown hts hK hA hl.1 hW (c_Parts_copy l G h1 h0p w a w q.2.2.1 ) (cwV 1 hts (good_V w_ml_Comparison_47 w_im_Parts_copy w_se_Parts_copy w_ini_Parts w_code_Parts_copy) rfl rfl rfl yd_Parts_copy ⟨by decide, by decide⟩) [4, 3] (by decide) rfl (ci := 7) (r := vr_Parts) rfl rfl rfl rfl rfl (Nat.le_of_ble_eq_true rfl) d_Comparison_ask_120 ⟨by decide, by decide⟩ (fun v w' hp => by obtain ⟨-, rfl⟩ := hp; exact Nat.le_of_ble_eq_true rfl) (fun v w' H locs hp hW => ?_)
    obtain ⟨rfl, rfl⟩ := hp
    have hW : Wd G A s.heap [(h0, .inr (4, [.ref h0w, .ref h0m, .ref h0p, .int q.2.2.2.1, .int q.2.2.2.2])), (h0w, .inr (7, [.int w, .long q.1.1, .long q.1.2])), (h0m, .inr (7, [.int w, .long q.2.1.1, .long q.2.1.2])), (h0p, .inr (7, [.int w, .long q.2.2.1.1, .long q.2.2.1.2])), (h1, .inr (7, [.int w, .long ((q.2.2.1).1), .long ((q.2.2.1).2)])), (h2, .inr (7, [.int w, .long b.1, .long b.2]))] H locs := hW
    refine W.eq (g2 := F0 m 123 ls []) rfl ?_
    refine lv_aload_n hx hb d_Comparison_ask_123 rfl (lv_at hl 2 rfl) ?_
    refine lv_aload_n hx hb d_Comparison_ask_124 rfl (lv_at hl 0 rfl) ?_
    refine Wd.get hx hb hts hown hK hW 0 2 in_Comparison w_fl_Comparison_27 (by decide) d_Comparison_ask_125 rfl rfl rfl ?_
    refine Ct.callV (As := [.ref h0p]) (rest := []) hx hb hml hown hts hK hA hl.1 hW (c_Parts_copy l G h2 h0p w b w q.2.2.1 ) (cwV 1 hts (good_V w_ml_Comparison_47 w_im_Parts_copy w_se_Parts_copy w_ini_Parts w_code_Parts_copy) rfl rfl rfl yd_Parts_copy ⟨by decide, by decide⟩) [5, 3] (by decide) rfl (ci := 7) (r := vr_Parts) rfl rfl rfl rfl rfl (Nat.le_of_ble_eq_true rfl) d_Comparison_ask_128 ⟨by decide, by decide⟩ (fun v w' hp => by obtain ⟨-, rfl⟩ := hp; exact Nat.le_of_ble_eq_true rfl) (fun v w' H locs hp hW => ?_)
    obtain ⟨rfl, rfl⟩ := hp
    have hW : Wd G A s.heap [(h0, .inr (4, [.ref h0w, .ref h0m, .ref h0p, .int q.2.2.2.1, .int q.2.2.2.2])), (h0w, .inr (7, [.int w, .long q.1.1, .long q.1.2])), (h0m, .inr (7, [.int w, .long q.2.1.1, .long q.2.1.2])), (h0p, .inr (7, [.int w, .long q.2.2.1.1, .long q.2.2.1.2])), (h1, .inr (7, [.int w, .long ((q.2.2.1).1), .long ((q.2.2.1).2)])), (h2, .inr (7, [.int w, .long ((q.2.2.1).1), .long ((q.2.2.1).2)]))] H locs := hW
    refine W.eq (g2 := F0 m 131 ls []) rfl ?_
    refine lv_aload_n hx hb d_Comparison_ask_131 rfl (lv_at hl 2 rfl) ?_
    refine lv_aload_n hx hb d_Comparison_ask_132 rfl (lv_at hl 0 rfl) ?_
    refine Wd.get hx hb hts hown hK hW 0 4 in_Comparison w_fl_Comparison_61 (by decide) d_Comparison_ask_133 rfl rfl rfl ?_
    refine Ct.callV (As := [.int q.2.2.2.2]) (rest := []) hx hb hml hown hts hK hA hl.1 hW (c_Parts_raiseHalves l G h2 w (q.2.2.1) q.2.2.2.2 ) (cwV 1 hts (good_V w_ml_Comparison_64 w_im_Parts_raiseHalves w_se_Parts_raiseHalves w_ini_Parts w_code_Parts_raiseHalves) rfl rfl rfl yd_Parts_raiseHalves ⟨by decide, by decide⟩) [5] (by decide) rfl (ci := 7) (r := vr_Parts) rfl rfl rfl rfl rfl (Nat.le_of_ble_eq_true rfl) d_Comparison_ask_136 ⟨by decide, by decide⟩ (fun v w' hp => by obtain ⟨-, rfl⟩ := hp; exact Nat.le_of_ble_eq_true rfl) (fun v w' H locs hp hW => ?_)
    obtain ⟨rfl, rfl⟩ := hp
    have hW : Wd G A s.heap [(h0, .inr (4, [.ref h0w, .ref h0m, .ref h0p, .int q.2.2.2.1, .int q.2.2.2.2])), (h0w, .inr (7, [.int w, .long q.1.1, .long q.1.2])), (h0m, .inr (7, [.int w, .long q.2.1.1, .long q.2.1.2])), (h0p, .inr (7, [.int w, .long q.2.2.1.1, .long q.2.2.1.2])), (h1, .inr (7, [.int w, .long ((q.2.2.1).1), .long ((q.2.2.1).2)])), (h2, .inr (7, [.int w, .long ((pRh (q.2.2.1) q.2.2.2.2).1), .long ((pRh (q.2.2.1) q.2.2.2.2).2)]))] H locs := hW
    refine W.eq (g2 := F0 m 139 ls []) rfl ?_
    refine lv_goto (tgt := 209) hx hb d_Comparison_ask_139 rfl ?_
    exact Ct.vret hx hb hr hnl hW (by decide) (by decide) d_Comparison_ask_209 ⟨by first | rfl | (simp only [cmAsk, if_neg hf2, if_neg hf4, if_neg hf6, if_pos ht7]; done) | (simp only [cmAsk, if_neg hf2, if_neg hf4, if_neg hf6, if_pos ht7]; rfl), by first | rfl | (simp only [cmAsk, if_neg hf2, if_neg hf4, if_neg hf6, if_pos ht7]; done) | (simp only [cmAsk, if_neg hf2, if_neg hf4, if_neg hf6, if_pos ht7]; rfl)⟩
  have hf8 := ht7
  by_cases ht9 : q.2.2.2.1 = 4
  · refine lv_tableIn (tgt := 142) hx hb d_Comparison_ask_4 (by rw [ht9]; decide) (by rw [ht9]; decide) (by rw [ht9]; rfl) rfl ?_
    refine lv_aload_n hx hb d_Comparison_ask_142 rfl (lv_at hl 1 rfl) ?_
    refine lv_aload_n hx hb d_Comparison_ask_143 rfl (lv_at hl 0 rfl) ?_
    refine Wd.get hx hb hts hown hK hW 0 0 in_Comparison w_fl_Comparison_20 (by decide) d_Comparison_ask_144 rfl rfl rfl ?_
    refine Ct.callV (As := [.ref h0w]) (rest := []) hx hb hml hown hts hK hA hl.1 hW (c_Parts_copy l G h1 h0w w a w q.1 ) (cwV 1 hts (good_V w_ml_Comparison_47 w_im_Parts_copy w_se_Parts_copy w_ini_Parts w_code_Parts_copy) rfl rfl rfl yd_Parts_copy ⟨by decide, by decide⟩) [4, 1] (by decide) rfl (ci := 7) (r := vr_Parts) rfl rfl rfl rfl rfl (Nat.le_of_ble_eq_true rfl) d_Comparison_ask_147 ⟨by decide, by decide⟩ (fun v w' hp => by obtain ⟨-, rfl⟩ := hp; exact Nat.le_of_ble_eq_true rfl) (fun v w' H locs hp hW => ?_)
    obtain ⟨rfl, rfl⟩ := hp
    have hW : Wd G A s.heap [(h0, .inr (4, [.ref h0w, .ref h0m, .ref h0p, .int q.2.2.2.1, .int q.2.2.2.2])), (h0w, .inr (7, [.int w, .long q.1.1, .long q.1.2])), (h0m, .inr (7, [.int w, .long q.2.1.1, .long q.2.1.2])), (h0p, .inr (7, [.int w, .long q.2.2.1.1, .long q.2.2.1.2])), (h1, .inr (7, [.int w, .long ((q.1).1), .long ((q.1).2)])), (h2, .inr (7, [.int w, .long b.1, .long b.2]))] H locs := hW
    refine W.eq (g2 := F0 m 150 ls []) rfl ?_
    refine lv_aload_n hx hb d_Comparison_ask_150 rfl (lv_at hl 1 rfl) ?_
    refine lv_ldc2 (v := 4294967295) hx hb hown (hts _ w_kl_Comparison_45) d_Comparison_ask_151 ?_
    refine Ct.callV (As := [.long 4294967295]) (rest := []) hx hb hml hown hts hK hA hl.1 hW (c_Parts_and l G h1 w (q.1) (4294967295 : Int64) ) (cwV 1 hts (good_V w_ml_Comparison_54 w_im_Parts_and w_se_Parts_and w_ini_Parts w_code_Parts_and) rfl rfl rfl yd_Parts_and ⟨by decide, by decide⟩) [4] (by decide) rfl (ci := 7) (r := vr_Parts) rfl rfl rfl rfl rfl (Nat.le_of_ble_eq_true rfl) d_Comparison_ask_154 ⟨by decide, by decide⟩ (fun v w' hp => by obtain ⟨-, rfl⟩ := hp; exact Nat.le_of_ble_eq_true rfl) (fun v w' H locs hp hW => ?_)
    obtain ⟨rfl, rfl⟩ := hp
    have hW : Wd G A s.heap [(h0, .inr (4, [.ref h0w, .ref h0m, .ref h0p, .int q.2.2.2.1, .int q.2.2.2.2])), (h0w, .inr (7, [.int w, .long q.1.1, .long q.1.2])), (h0m, .inr (7, [.int w, .long q.2.1.1, .long q.2.1.2])), (h0p, .inr (7, [.int w, .long q.2.2.1.1, .long q.2.2.1.2])), (h1, .inr (7, [.int w, .long ((pAnd (q.1) (4294967295 : Int64)).1), .long ((pAnd (q.1) (4294967295 : Int64)).2)])), (h2, .inr (7, [.int w, .long b.1, .long b.2]))] H locs := hW
    refine W.eq (g2 := F0 m 157 ls []) rfl ?_
    refine lv_aload_n hx hb d_Comparison_ask_157 rfl (lv_at hl 1 rfl) ?_
    refine lv_ldc2 (v := 4294967295) hx hb hown (hts _ w_kl_Comparison_45) d_Comparison_ask_158 ?_
    refine Ct.callV (As := [.long 4294967295]) (rest := []) hx hb hml hown hts hK hA hl.1 hW (c_Parts_flip l G h1 w (pAnd (q.1) (4294967295 : Int64)) (4294967295 : Int64) ) (cwV 1 hts (good_V w_ml_Comparison_67 w_im_Parts_flip w_se_Parts_flip w_ini_Parts w_code_Parts_flip) rfl rfl rfl yd_Parts_flip ⟨by decide, by decide⟩) [4] (by decide) rfl (ci := 7) (r := vr_Parts) rfl rfl rfl rfl rfl (Nat.le_of_ble_eq_true rfl) d_Comparison_ask_161 ⟨by decide, by decide⟩ (fun v w' hp => by obtain ⟨-, rfl⟩ := hp; exact Nat.le_of_ble_eq_true rfl) (fun v w' H locs hp hW => ?_)
    obtain ⟨rfl, rfl⟩ := hp
    have hW : Wd G A s.heap [(h0, .inr (4, [.ref h0w, .ref h0m, .ref h0p, .int q.2.2.2.1, .int q.2.2.2.2])), (h0w, .inr (7, [.int w, .long q.1.1, .long q.1.2])), (h0m, .inr (7, [.int w, .long q.2.1.1, .long q.2.1.2])), (h0p, .inr (7, [.int w, .long q.2.2.1.1, .long q.2.2.1.2])), (h1, .inr (7, [.int w, .long ((pFlip w (pAnd (q.1) (4294967295 : Int64)) (4294967295 : Int64)).1), .long ((pFlip w (pAnd (q.1) (4294967295 : Int64)) (4294967295 : Int64)).2)])), (h2, .inr (7, [.int w, .long b.1, .long b.2]))] H locs := hW
    refine W.eq (g2 := F0 m 164 ls []) rfl ?_
    refine lv_aload_n hx hb d_Comparison_ask_164 rfl (lv_at hl 2 rfl) ?_
    refine lv_aload_n hx hb d_Comparison_ask_165 rfl (lv_at hl 0 rfl) ?_
    refine Wd.get hx hb hts hown hK hW 0 0 in_Comparison w_fl_Comparison_20 (by decide) d_Comparison_ask_166 rfl rfl rfl ?_
    refine Ct.callV (As := [.ref h0w]) (rest := []) hx hb hml hown hts hK hA hl.1 hW (c_Parts_copy l G h2 h0w w b w q.1 ) (cwV 1 hts (good_V w_ml_Comparison_47 w_im_Parts_copy w_se_Parts_copy w_ini_Parts w_code_Parts_copy) rfl rfl rfl yd_Parts_copy ⟨by decide, by decide⟩) [5, 1] (by decide) rfl (ci := 7) (r := vr_Parts) rfl rfl rfl rfl rfl (Nat.le_of_ble_eq_true rfl) d_Comparison_ask_169 ⟨by decide, by decide⟩ (fun v w' hp => by obtain ⟨-, rfl⟩ := hp; exact Nat.le_of_ble_eq_true rfl) (fun v w' H locs hp hW => ?_)
    obtain ⟨rfl, rfl⟩ := hp
    have hW : Wd G A s.heap [(h0, .inr (4, [.ref h0w, .ref h0m, .ref h0p, .int q.2.2.2.1, .int q.2.2.2.2])), (h0w, .inr (7, [.int w, .long q.1.1, .long q.1.2])), (h0m, .inr (7, [.int w, .long q.2.1.1, .long q.2.1.2])), (h0p, .inr (7, [.int w, .long q.2.2.1.1, .long q.2.2.1.2])), (h1, .inr (7, [.int w, .long ((pFlip w (pAnd (q.1) (4294967295 : Int64)) (4294967295 : Int64)).1), .long ((pFlip w (pAnd (q.1) (4294967295 : Int64)) (4294967295 : Int64)).2)])), (h2, .inr (7, [.int w, .long ((q.1).1), .long ((q.1).2)]))] H locs := hW
    refine W.eq (g2 := F0 m 172 ls []) rfl ?_
    refine lv_aload_n hx hb d_Comparison_ask_172 rfl (lv_at hl 2 rfl) ?_
    refine lv_bipush (v := 32) hx hb d_Comparison_ask_173 (by decide) ?_
    refine Ct.callV (As := [.int 32]) (rest := []) hx hb hml hown hts hK hA hl.1 hW (c_Parts_shiftDown l G h2 w (q.1) (32 : Int32) ) (cwV 1 hts (good_V w_ml_Comparison_51 w_im_Parts_shiftDown w_se_Parts_shiftDown w_ini_Parts w_code_Parts_shiftDown) rfl rfl rfl yd_Parts_shiftDown ⟨by decide, by decide⟩) [5] (by decide) rfl (ci := 7) (r := vr_Parts) rfl rfl rfl rfl rfl (Nat.le_of_ble_eq_true rfl) d_Comparison_ask_175 ⟨by decide, by decide⟩ (fun v w' hp => by obtain ⟨-, rfl⟩ := hp; exact Nat.le_of_ble_eq_true rfl) (fun v w' H locs hp hW => ?_)
    obtain ⟨rfl, rfl⟩ := hp
    have hW : Wd G A s.heap [(h0, .inr (4, [.ref h0w, .ref h0m, .ref h0p, .int q.2.2.2.1, .int q.2.2.2.2])), (h0w, .inr (7, [.int w, .long q.1.1, .long q.1.2])), (h0m, .inr (7, [.int w, .long q.2.1.1, .long q.2.1.2])), (h0p, .inr (7, [.int w, .long q.2.2.1.1, .long q.2.2.1.2])), (h1, .inr (7, [.int w, .long ((pFlip w (pAnd (q.1) (4294967295 : Int64)) (4294967295 : Int64)).1), .long ((pFlip w (pAnd (q.1) (4294967295 : Int64)) (4294967295 : Int64)).2)])), (h2, .inr (7, [.int w, .long ((pSh (q.1) (32 : Int32)).1), .long ((pSh (q.1) (32 : Int32)).2)]))] H locs := hW
    refine W.eq (g2 := F0 m 178 ls []) rfl ?_
    refine lv_goto (tgt := 209) hx hb d_Comparison_ask_178 rfl ?_
    exact Ct.vret hx hb hr hnl hW (by decide) (by decide) d_Comparison_ask_209 ⟨by first | rfl | (simp only [cmAsk, if_neg hf2, if_neg hf4, if_neg hf6, if_neg hf8, if_pos ht9]; done) | (simp only [cmAsk, if_neg hf2, if_neg hf4, if_neg hf6, if_neg hf8, if_pos ht9]; rfl), by first | rfl | (simp only [cmAsk, if_neg hf2, if_neg hf4, if_neg hf6, if_neg hf8, if_pos ht9]; done) | (simp only [cmAsk, if_neg hf2, if_neg hf4, if_neg hf6, if_neg hf8, if_pos ht9]; rfl)⟩
  have hf10 := ht9
  refine lv_tableOut (tgt := 181) hx hb d_Comparison_ask_4 (by have n0 := lv_neT hf2 (a := 0) (by decide); have n1 := lv_neT hf4 (a := 1) (by decide); have n2 := lv_neT hf6 (a := 2) (by decide); have n3 := lv_neT hf8 (a := 3) (by decide); have n4 := lv_neT hf10 (a := 4) (by decide); omega) rfl ?_
  refine lv_aload_n hx hb d_Comparison_ask_181 rfl (lv_at hl 1 rfl) ?_
  refine lv_aload_n hx hb d_Comparison_ask_182 rfl (lv_at hl 0 rfl) ?_
  refine Wd.get hx hb hts hown hK hW 0 0 in_Comparison w_fl_Comparison_20 (by decide) d_Comparison_ask_183 rfl rfl rfl ?_
  refine Ct.callV (As := [.ref h0w]) (rest := []) hx hb hml hown hts hK hA hl.1 hW (c_Parts_copy l G h1 h0w w a w q.1 ) (cwV 1 hts (good_V w_ml_Comparison_47 w_im_Parts_copy w_se_Parts_copy w_ini_Parts w_code_Parts_copy) rfl rfl rfl yd_Parts_copy ⟨by decide, by decide⟩) [4, 1] (by decide) rfl (ci := 7) (r := vr_Parts) rfl rfl rfl rfl rfl (Nat.le_of_ble_eq_true rfl) d_Comparison_ask_186 ⟨by decide, by decide⟩ (fun v w' hp => by obtain ⟨-, rfl⟩ := hp; exact Nat.le_of_ble_eq_true rfl) (fun v w' H locs hp hW => ?_)
  obtain ⟨rfl, rfl⟩ := hp
  have hW : Wd G A s.heap [(h0, .inr (4, [.ref h0w, .ref h0m, .ref h0p, .int q.2.2.2.1, .int q.2.2.2.2])), (h0w, .inr (7, [.int w, .long q.1.1, .long q.1.2])), (h0m, .inr (7, [.int w, .long q.2.1.1, .long q.2.1.2])), (h0p, .inr (7, [.int w, .long q.2.2.1.1, .long q.2.2.1.2])), (h1, .inr (7, [.int w, .long ((q.1).1), .long ((q.1).2)])), (h2, .inr (7, [.int w, .long b.1, .long b.2]))] H locs := hW
  refine W.eq (g2 := F0 m 189 ls []) rfl ?_
  refine lv_aload_n hx hb d_Comparison_ask_189 rfl (lv_at hl 1 rfl) ?_
  refine Ct.callV (As := []) (rest := []) hx hb hml hown hts hK hA hl.1 hW (c_Parts_doubleHighHalf l G h1 w (q.1) ) (cwV 0 hts (good_V w_ml_Comparison_70 w_im_Parts_doubleHighHalf w_se_Parts_doubleHighHalf w_ini_Parts w_code_Parts_doubleHighHalf) rfl rfl rfl yd_Parts_doubleHighHalf ⟨by decide, by decide⟩) [4] (by decide) rfl (ci := 7) (r := vr_Parts) rfl rfl rfl rfl rfl (Nat.le_of_ble_eq_true rfl) d_Comparison_ask_190 ⟨by decide, by decide⟩ (fun v w' hp => by obtain ⟨-, rfl⟩ := hp; exact Nat.le_of_ble_eq_true rfl) (fun v w' H locs hp hW => ?_)
  obtain ⟨rfl, rfl⟩ := hp
  have hW : Wd G A s.heap [(h0, .inr (4, [.ref h0w, .ref h0m, .ref h0p, .int q.2.2.2.1, .int q.2.2.2.2])), (h0w, .inr (7, [.int w, .long q.1.1, .long q.1.2])), (h0m, .inr (7, [.int w, .long q.2.1.1, .long q.2.1.2])), (h0p, .inr (7, [.int w, .long q.2.2.1.1, .long q.2.2.1.2])), (h1, .inr (7, [.int w, .long ((pDh (q.1)).1), .long ((pDh (q.1)).2)])), (h2, .inr (7, [.int w, .long b.1, .long b.2]))] H locs := hW
  refine W.eq (g2 := F0 m 193 ls []) rfl ?_
  refine lv_aload_n hx hb d_Comparison_ask_193 rfl (lv_at hl 2 rfl) ?_
  refine lv_aload_n hx hb d_Comparison_ask_194 rfl (lv_at hl 0 rfl) ?_
  refine Wd.get hx hb hts hown hK hW 0 0 in_Comparison w_fl_Comparison_20 (by decide) d_Comparison_ask_195 rfl rfl rfl ?_
  refine Ct.callV (As := [.ref h0w]) (rest := []) hx hb hml hown hts hK hA hl.1 hW (c_Parts_copy l G h2 h0w w b w q.1 ) (cwV 1 hts (good_V w_ml_Comparison_47 w_im_Parts_copy w_se_Parts_copy w_ini_Parts w_code_Parts_copy) rfl rfl rfl yd_Parts_copy ⟨by decide, by decide⟩) [5, 1] (by decide) rfl (ci := 7) (r := vr_Parts) rfl rfl rfl rfl rfl (Nat.le_of_ble_eq_true rfl) d_Comparison_ask_198 ⟨by decide, by decide⟩ (fun v w' hp => by obtain ⟨-, rfl⟩ := hp; exact Nat.le_of_ble_eq_true rfl) (fun v w' H locs hp hW => ?_)
  obtain ⟨rfl, rfl⟩ := hp
  have hW : Wd G A s.heap [(h0, .inr (4, [.ref h0w, .ref h0m, .ref h0p, .int q.2.2.2.1, .int q.2.2.2.2])), (h0w, .inr (7, [.int w, .long q.1.1, .long q.1.2])), (h0m, .inr (7, [.int w, .long q.2.1.1, .long q.2.1.2])), (h0p, .inr (7, [.int w, .long q.2.2.1.1, .long q.2.2.1.2])), (h1, .inr (7, [.int w, .long ((pDh (q.1)).1), .long ((pDh (q.1)).2)])), (h2, .inr (7, [.int w, .long ((q.1).1), .long ((q.1).2)]))] H locs := hW
  refine W.eq (g2 := F0 m 201 ls []) rfl ?_
  refine lv_aload_n hx hb d_Comparison_ask_201 rfl (lv_at hl 2 rfl) ?_
  refine lv_aload_n hx hb d_Comparison_ask_202 rfl (lv_at hl 0 rfl) ?_
  refine Wd.get hx hb hts hown hK hW 0 4 in_Comparison w_fl_Comparison_61 (by decide) d_Comparison_ask_203 rfl rfl rfl ?_
  refine Ct.callV (As := [.int q.2.2.2.2]) (rest := []) hx hb hml hown hts hK hA hl.1 hW (c_Parts_raiseHalves l G h2 w (q.1) q.2.2.2.2 ) (cwV 1 hts (good_V w_ml_Comparison_64 w_im_Parts_raiseHalves w_se_Parts_raiseHalves w_ini_Parts w_code_Parts_raiseHalves) rfl rfl rfl yd_Parts_raiseHalves ⟨by decide, by decide⟩) [5] (by decide) rfl (ci := 7) (r := vr_Parts) rfl rfl rfl rfl rfl (Nat.le_of_ble_eq_true rfl) d_Comparison_ask_206 ⟨by decide, by decide⟩ (fun v w' hp => by obtain ⟨-, rfl⟩ := hp; exact Nat.le_of_ble_eq_true rfl) (fun v w' H locs hp hW => ?_)
  obtain ⟨rfl, rfl⟩ := hp
  have hW : Wd G A s.heap [(h0, .inr (4, [.ref h0w, .ref h0m, .ref h0p, .int q.2.2.2.1, .int q.2.2.2.2])), (h0w, .inr (7, [.int w, .long q.1.1, .long q.1.2])), (h0m, .inr (7, [.int w, .long q.2.1.1, .long q.2.1.2])), (h0p, .inr (7, [.int w, .long q.2.2.1.1, .long q.2.2.1.2])), (h1, .inr (7, [.int w, .long ((pDh (q.1)).1), .long ((pDh (q.1)).2)])), (h2, .inr (7, [.int w, .long ((pRh (q.1) q.2.2.2.2).1), .long ((pRh (q.1) q.2.2.2.2).2)]))] H locs := hW
  refine W.eq (g2 := F0 m 209 ls []) rfl ?_
  exact Ct.vret hx hb hr hnl hW (by decide) (by decide) d_Comparison_ask_209 ⟨by first | rfl | (simp only [cmAsk, if_neg hf2, if_neg hf4, if_neg hf6, if_neg hf8, if_neg hf10]; done) | (simp only [cmAsk, if_neg hf2, if_neg hf4, if_neg hf6, if_neg hf8, if_neg hf10]; rfl), by first | rfl | (simp only [cmAsk, if_neg hf2, if_neg hf4, if_neg hf6, if_neg hf8, if_neg hf10]; done) | (simp only [cmAsk, if_neg hf2, if_neg hf4, if_neg hf6, if_neg hf8, if_neg hf10]; rfl)⟩

