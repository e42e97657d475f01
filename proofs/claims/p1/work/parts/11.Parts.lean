abbrev rm_Parts_init : Room := { frames := 1, cells := 0, slots := 0, locals := 12 }
set_option maxHeartbeats 4000000 in
set_option maxRecDepth 100000 in
theorem c_Parts_init (l : Launch) (G : Gt) (h0 : Nat) (w : Int32) : Ct l G y_Parts_init b_Parts_init 2 none rm_Parts_init [.ref h0, .int w] [(h0, .inr (7, [.int 0, .long 0, .long 0]))] 0 0 (fun v w' => v = none ∧ w' = [(h0, .inr (7, [.int w, .long 0, .long 0]))]) := by
  refine Ct.of (by decide) (Nat.le_of_ble_eq_true rfl) (fun p e s m args below meth c A ls H locs hx hb hml hr hnl hown hts hnm hK hA hl hW => ?_)
  have hl : lv_has ls 2 [(0, .ref h0), (1, .int w)] := hl
  refine lv_aload_n hx hb d_Parts_init_0 rfl (lv_at hl 0 rfl) ?_
  refine W.objInit hx hb hown (hts _ w_ml_Parts_3) (hts _ w_oi_im) (hts _ w_oi_code) rfl (by rw [hml]; exact hl.1) rfl d_Parts_init_1 (Nat.le_of_ble_eq_true rfl) (Nat.le_of_ble_eq_true rfl) ?_
  refine W.eq (g2 := F0 m 4 ls []) rfl ?_
  refine lv_aload_n hx hb d_Parts_init_4 rfl (lv_at hl 0 rfl) ?_
  refine lv_iload_n hx hb d_Parts_init_5 rfl (lv_at hl 1 rfl) ?_
  refine Wd.putF hx hb hts hown hK hW 0 0 in_Parts t_Parts_ok n_Parts w_fl_Parts_9 (by decide) d_Parts_init_6 rfl rfl rfl hnm rfl rfl rfl (Nat.le_of_ble_eq_true rfl) (fun H locs hW => ?_)
  have hW : Wd G A s.heap [(h0, .inr (7, [.int w, .long 0, .long 0]))] H locs := hW
  exact Ct.vret hx hb hr hnl hW (by decide) (by decide) d_Parts_init_9 ⟨rfl, rfl⟩

abbrev rm_Parts_set : Room := { frames := 0, cells := 0, slots := 0, locals := 0 }
set_option maxHeartbeats 4000000 in
set_option maxRecDepth 100000 in
theorem c_Parts_set (l : Launch) (G : Gt) (h0 : Nat) (w : Int32) (a : PT) (x : Int64) (y : Int64) : Ct l G y_Parts_set b_Parts_set 5 none rm_Parts_set [.ref h0, .long x, .long y] [(h0, .inr (7, [.int w, .long a.1, .long a.2]))] 0 0 (fun v w' => v = none ∧ w' = [(h0, .inr (7, [.int w, .long ((x, y).1), .long ((x, y).2)]))]) := by
  refine Ct.of (by decide) (Nat.le_of_ble_eq_true rfl) (fun p e s m args below meth c A ls H locs hx hb hml hr hnl hown hts hnm hK hA hl hW => ?_)
  have hl : lv_has ls 5 [(0, .ref h0), (1, .long x), (3, .long y)] := hl
  refine lv_aload_n hx hb d_Parts_set_0 rfl (lv_at hl 0 rfl) ?_
  refine lv_lload_n hx hb d_Parts_set_1 rfl (lv_at hl 1 rfl) ?_
  refine Wd.put hx hb hts hown hK hW 0 1 in_Parts t_Parts_ok n_Parts w_fl_Parts_15 (by decide) d_Parts_set_2 rfl rfl rfl rfl rfl (Nat.le_of_ble_eq_true rfl) (fun H locs hW => ?_)
  have hW : Wd G A s.heap [(h0, .inr (7, [.int w, .long x, .long a.2]))] H locs := hW
  refine lv_aload_n hx hb d_Parts_set_5 rfl (lv_at hl 0 rfl) ?_
  refine lv_lload_n hx hb d_Parts_set_6 rfl (lv_at hl 2 rfl) ?_
  refine Wd.put hx hb hts hown hK hW 0 2 in_Parts t_Parts_ok n_Parts w_fl_Parts_19 (by decide) d_Parts_set_7 rfl rfl rfl rfl rfl (Nat.le_of_ble_eq_true rfl) (fun H locs hW => ?_)
  have hW : Wd G A s.heap [(h0, .inr (7, [.int w, .long x, .long y]))] H locs := hW
  exact Ct.vret hx hb hr hnl hW (by decide) (by decide) d_Parts_set_10 ⟨rfl, rfl⟩

abbrev rm_Parts_copy : Room := { frames := 0, cells := 0, slots := 0, locals := 0 }
set_option maxHeartbeats 4000000 in
set_option maxRecDepth 100000 in
theorem c_Parts_copy (l : Launch) (G : Gt) (h0 : Nat) (h1 : Nat) (w : Int32) (a : PT) (w1 : Int32) (b : PT) : Ct l G y_Parts_copy b_Parts_copy 2 none rm_Parts_copy [.ref h0, .ref h1] [(h0, .inr (7, [.int w, .long a.1, .long a.2])), (h1, .inr (7, [.int w1, .long b.1, .long b.2]))] 0 0 (fun v w' => v = none ∧ w' = [(h0, .inr (7, [.int w, .long ((b).1), .long ((b).2)])), (h1, .inr (7, [.int w1, .long b.1, .long b.2]))]) := by
  refine Ct.of (by decide) (Nat.le_of_ble_eq_true rfl) (fun p e s m args below meth c A ls H locs hx hb hml hr hnl hown hts hnm hK hA hl hW => ?_)
  have hl : lv_has ls 2 [(0, .ref h0), (1, .ref h1)] := hl
  refine lv_aload_n hx hb d_Parts_copy_0 rfl (lv_at hl 0 rfl) ?_
  refine lv_aload_n hx hb d_Parts_copy_1 rfl (lv_at hl 1 rfl) ?_
  refine Wd.get hx hb hts hown hK hW 1 1 in_Parts w_fl_Parts_15 (by decide) d_Parts_copy_2 rfl rfl rfl ?_
  refine Wd.put hx hb hts hown hK hW 0 1 in_Parts t_Parts_ok n_Parts w_fl_Parts_15 (by decide) d_Parts_copy_5 rfl rfl rfl rfl rfl (Nat.le_of_ble_eq_true rfl) (fun H locs hW => ?_)
  have hW : Wd G A s.heap [(h0, .inr (7, [.int w, .long b.1, .long a.2])), (h1, .inr (7, [.int w1, .long b.1, .long b.2]))] H locs := hW
  refine lv_aload_n hx hb d_Parts_copy_8 rfl (lv_at hl 0 rfl) ?_
  refine lv_aload_n hx hb d_Parts_copy_9 rfl (lv_at hl 1 rfl) ?_
  refine Wd.get hx hb hts hown hK hW 1 2 in_Parts w_fl_Parts_19 (by decide) d_Parts_copy_10 rfl rfl rfl ?_
  refine Wd.put hx hb hts hown hK hW 0 2 in_Parts t_Parts_ok n_Parts w_fl_Parts_19 (by decide) d_Parts_copy_13 rfl rfl rfl rfl rfl (Nat.le_of_ble_eq_true rfl) (fun H locs hW => ?_)
  have hW : Wd G A s.heap [(h0, .inr (7, [.int w, .long b.1, .long b.2])), (h1, .inr (7, [.int w1, .long b.1, .long b.2]))] H locs := hW
  exact Ct.vret hx hb hr hnl hW (by decide) (by decide) d_Parts_copy_16 ⟨rfl, rfl⟩

abbrev rm_Parts_setKnown : Room := { frames := 0, cells := 0, slots := 0, locals := 0 }
set_option maxHeartbeats 4000000 in
set_option maxRecDepth 100000 in
theorem c_Parts_setKnown (l : Launch) (G : Gt) (h0 : Nat) (w : Int32) (a : PT) (x : Int64) : Ct l G y_Parts_setKnown b_Parts_setKnown 3 none rm_Parts_setKnown [.ref h0, .long x] [(h0, .inr (7, [.int w, .long a.1, .long a.2]))] 0 0 (fun v w' => v = none ∧ w' = [(h0, .inr (7, [.int w, .long ((pKnown w x).1), .long ((pKnown w x).2)]))]) := by
  refine Ct.of (by decide) (Nat.le_of_ble_eq_true rfl) (fun p e s m args below meth c A ls H locs hx hb hml hr hnl hown hts hnm hK hA hl hW => ?_)
  have hl : lv_has ls 3 [(0, .ref h0), (1, .long x)] := hl
  refine lv_aload_n hx hb d_Parts_setKnown_0 rfl (lv_at hl 0 rfl) ?_
  refine lv_aload_n hx hb d_Parts_setKnown_1 rfl (lv_at hl 0 rfl) ?_
  refine Wd.get hx hb hts hown hK hW 0 0 in_Parts w_fl_Parts_9 (by decide) d_Parts_setKnown_2 rfl rfl rfl ?_
  refine lv_if_ne (tgt := 12) hx hb d_Parts_setKnown_5 rfl (fun ht1 => ?_) (fun hf2 => ?_)
  · refine lv_lconst (v := 0) hx hb d_Parts_setKnown_12 (by decide) ?_
    refine Wd.put hx hb hts hown hK hW 0 1 in_Parts t_Parts_ok n_Parts w_fl_Parts_15 (by decide) d_Parts_setKnown_13 rfl rfl rfl rfl rfl (Nat.le_of_ble_eq_true rfl) (fun H locs hW => ?_)
    have hW : Wd G A s.heap [(h0, .inr (7, [.int w, .long 0, .long a.2]))] H locs := hW
    refine lv_aload_n hx hb d_Parts_setKnown_16 rfl (lv_at hl 0 rfl) ?_
    refine lv_aload_n hx hb d_Parts_setKnown_17 rfl (lv_at hl 0 rfl) ?_
    refine Wd.get hx hb hts hown hK hW 0 0 in_Parts w_fl_Parts_9 (by decide) d_Parts_setKnown_18 rfl rfl rfl ?_
    refine lv_iconst (v := 2) hx hb d_Parts_setKnown_21 (by decide) ?_
    refine lv_icmp_ne (tgt := 29) hx hb d_Parts_setKnown_22 rfl (fun ht3 => ?_) (fun hf4 => ?_)
    · refine lv_lconst (v := 0) hx hb d_Parts_setKnown_29 (by decide) ?_
      refine Wd.put hx hb hts hown hK hW 0 2 in_Parts t_Parts_ok n_Parts w_fl_Parts_19 (by decide) d_Parts_setKnown_30 rfl rfl rfl rfl rfl (Nat.le_of_ble_eq_true rfl) (fun H locs hW => ?_)
      have hW : Wd G A s.heap [(h0, .inr (7, [.int w, .long 0, .long 0]))] H locs := hW
      exact Ct.vret hx hb hr hnl hW (by decide) (by decide) d_Parts_setKnown_33 ⟨by first | rfl | (simp only [pKnown, if_neg ht1, if_neg ht3]; done) | (simp only [pKnown, if_neg ht1, if_neg ht3]; rfl), by first | rfl | (simp only [pKnown, if_neg ht1, if_neg ht3]; done) | (simp only [pKnown, if_neg ht1, if_neg ht3]; rfl)⟩
    · refine lv_lload_n hx hb d_Parts_setKnown_25 rfl (lv_at hl 1 rfl) ?_
      refine lv_goto (tgt := 30) hx hb d_Parts_setKnown_26 rfl ?_
      refine Wd.put hx hb hts hown hK hW 0 2 in_Parts t_Parts_ok n_Parts w_fl_Parts_19 (by decide) d_Parts_setKnown_30 rfl rfl rfl rfl rfl (Nat.le_of_ble_eq_true rfl) (fun H locs hW => ?_)
      have hW : Wd G A s.heap [(h0, .inr (7, [.int w, .long 0, .long x]))] H locs := hW
      exact Ct.vret hx hb hr hnl hW (by decide) (by decide) d_Parts_setKnown_33 ⟨by first | rfl | (simp only [pKnown, if_neg ht1, if_pos hf4]; done) | (simp only [pKnown, if_neg ht1, if_pos hf4]; rfl), by first | rfl | (simp only [pKnown, if_neg ht1, if_pos hf4]; done) | (simp only [pKnown, if_neg ht1, if_pos hf4]; rfl)⟩
  · refine lv_lload_n hx hb d_Parts_setKnown_8 rfl (lv_at hl 1 rfl) ?_
    refine lv_goto (tgt := 13) hx hb d_Parts_setKnown_9 rfl ?_
    refine Wd.put hx hb hts hown hK hW 0 1 in_Parts t_Parts_ok n_Parts w_fl_Parts_15 (by decide) d_Parts_setKnown_13 rfl rfl rfl rfl rfl (Nat.le_of_ble_eq_true rfl) (fun H locs hW => ?_)
    have hW : Wd G A s.heap [(h0, .inr (7, [.int w, .long x, .long a.2]))] H locs := hW
    refine lv_aload_n hx hb d_Parts_setKnown_16 rfl (lv_at hl 0 rfl) ?_
    refine lv_aload_n hx hb d_Parts_setKnown_17 rfl (lv_at hl 0 rfl) ?_
    refine Wd.get hx hb hts hown hK hW 0 0 in_Parts w_fl_Parts_9 (by decide) d_Parts_setKnown_18 rfl rfl rfl ?_
    refine lv_iconst (v := 2) hx hb d_Parts_setKnown_21 (by decide) ?_
    refine lv_icmp_ne (tgt := 29) hx hb d_Parts_setKnown_22 rfl (fun ht5 => ?_) (fun hf6 => ?_)
    · refine lv_lconst (v := 0) hx hb d_Parts_setKnown_29 (by decide) ?_
      refine Wd.put hx hb hts hown hK hW 0 2 in_Parts t_Parts_ok n_Parts w_fl_Parts_19 (by decide) d_Parts_setKnown_30 rfl rfl rfl rfl rfl (Nat.le_of_ble_eq_true rfl) (fun H locs hW => ?_)
      have hW : Wd G A s.heap [(h0, .inr (7, [.int w, .long x, .long 0]))] H locs := hW
      exact Ct.vret hx hb hr hnl hW (by decide) (by decide) d_Parts_setKnown_33 ⟨by first | rfl | (simp only [pKnown, if_pos hf2, if_neg ht5]; done) | (simp only [pKnown, if_pos hf2, if_neg ht5]; rfl), by first | rfl | (simp only [pKnown, if_pos hf2, if_neg ht5]; done) | (simp only [pKnown, if_pos hf2, if_neg ht5]; rfl)⟩
    · refine lv_lload_n hx hb d_Parts_setKnown_25 rfl (lv_at hl 1 rfl) ?_
      refine lv_goto (tgt := 30) hx hb d_Parts_setKnown_26 rfl ?_
      refine Wd.put hx hb hts hown hK hW 0 2 in_Parts t_Parts_ok n_Parts w_fl_Parts_19 (by decide) d_Parts_setKnown_30 rfl rfl rfl rfl rfl (Nat.le_of_ble_eq_true rfl) (fun H locs hW => ?_)
      have hW : Wd G A s.heap [(h0, .inr (7, [.int w, .long x, .long x]))] H locs := hW
      exact Ct.vret hx hb hr hnl hW (by decide) (by decide) d_Parts_setKnown_33 ⟨by first | rfl | (simp only [pKnown, if_pos hf2, if_pos hf6]; done) | (simp only [pKnown, if_pos hf2, if_pos hf6]; rfl), by first | rfl | (simp only [pKnown, if_pos hf2, if_pos hf6]; done) | (simp only [pKnown, if_pos hf2, if_pos hf6]; rfl)⟩

abbrev rm_Parts_add : Room := { frames := 0, cells := 0, slots := 0, locals := 0 }
set_option maxHeartbeats 4000000 in
set_option maxRecDepth 100000 in
theorem c_Parts_add (l : Launch) (G : Gt) (h0 : Nat) (h1 : Nat) (w : Int32) (a : PT) (w1 : Int32) (b : PT) (x : Int64) : Ct l G y_Parts_add b_Parts_add 4 none rm_Parts_add [.ref h0, .ref h1, .long x] [(h0, .inr (7, [.int w, .long a.1, .long a.2])), (h1, .inr (7, [.int w1, .long b.1, .long b.2]))] 0 0 (fun v w' => v = none ∧ w' = [(h0, .inr (7, [.int w, .long ((pAdd a b x).1), .long ((pAdd a b x).2)])), (h1, .inr (7, [.int w1, .long b.1, .long b.2]))]) := by
  refine Ct.of (by decide) (Nat.le_of_ble_eq_true rfl) (fun p e s m args below meth c A ls H locs hx hb hml hr hnl hown hts hnm hK hA hl hW => ?_)
  have hl : lv_has ls 4 [(0, .ref h0), (1, .ref h1), (2, .long x)] := hl
  refine lv_aload_n hx hb d_Parts_add_0 rfl (lv_at hl 0 rfl) ?_
  refine lv_dup hx hb d_Parts_add_1 rfl ?_
  refine Wd.get hx hb hts hown hK hW 0 1 in_Parts w_fl_Parts_15 (by decide) d_Parts_add_2 rfl rfl rfl ?_
  refine lv_lload_n hx hb d_Parts_add_5 rfl (lv_at hl 2 rfl) ?_
  refine lv_aload_n hx hb d_Parts_add_6 rfl (lv_at hl 1 rfl) ?_
  refine Wd.get hx hb hts hown hK hW 1 1 in_Parts w_fl_Parts_15 (by decide) d_Parts_add_7 rfl rfl rfl ?_
  refine lv_lmul hx hb d_Parts_add_10 ?_
  refine lv_ladd hx hb d_Parts_add_11 ?_
  refine Wd.put hx hb hts hown hK hW 0 1 in_Parts t_Parts_ok n_Parts w_fl_Parts_15 (by decide) d_Parts_add_12 rfl rfl rfl rfl rfl (Nat.le_of_ble_eq_true rfl) (fun H locs hW => ?_)
  have hW : Wd G A s.heap [(h0, .inr (7, [.int w, .long (a.1 + (x * b.1)), .long a.2])), (h1, .inr (7, [.int w1, .long b.1, .long b.2]))] H locs := hW
  refine lv_aload_n hx hb d_Parts_add_15 rfl (lv_at hl 0 rfl) ?_
  refine lv_dup hx hb d_Parts_add_16 rfl ?_
  refine Wd.get hx hb hts hown hK hW 0 2 in_Parts w_fl_Parts_19 (by decide) d_Parts_add_17 rfl rfl rfl ?_
  refine lv_lload_n hx hb d_Parts_add_20 rfl (lv_at hl 2 rfl) ?_
  refine lv_aload_n hx hb d_Parts_add_21 rfl (lv_at hl 1 rfl) ?_
  refine Wd.get hx hb hts hown hK hW 1 2 in_Parts w_fl_Parts_19 (by decide) d_Parts_add_22 rfl rfl rfl ?_
  refine lv_lmul hx hb d_Parts_add_25 ?_
  refine lv_ladd hx hb d_Parts_add_26 ?_
  refine Wd.put hx hb hts hown hK hW 0 2 in_Parts t_Parts_ok n_Parts w_fl_Parts_19 (by decide) d_Parts_add_27 rfl rfl rfl rfl rfl (Nat.le_of_ble_eq_true rfl) (fun H locs hW => ?_)
  have hW : Wd G A s.heap [(h0, .inr (7, [.int w, .long (a.1 + (x * b.1)), .long (a.2 + (x * b.2))])), (h1, .inr (7, [.int w1, .long b.1, .long b.2]))] H locs := hW
  exact Ct.vret hx hb hr hnl hW (by decide) (by decide) d_Parts_add_30 ⟨rfl, rfl⟩

abbrev rm_Parts_xor : Room := { frames := 0, cells := 0, slots := 0, locals := 0 }
set_option maxHeartbeats 4000000 in
set_option maxRecDepth 100000 in
theorem c_Parts_xor (l : Launch) (G : Gt) (h0 : Nat) (h1 : Nat) (w : Int32) (a : PT) (w1 : Int32) (b : PT) : Ct l G y_Parts_xor b_Parts_xor 2 none rm_Parts_xor [.ref h0, .ref h1] [(h0, .inr (7, [.int w, .long a.1, .long a.2])), (h1, .inr (7, [.int w1, .long b.1, .long b.2]))] 0 0 (fun v w' => v = none ∧ w' = [(h0, .inr (7, [.int w, .long ((pXor a b).1), .long ((pXor a b).2)])), (h1, .inr (7, [.int w1, .long b.1, .long b.2]))]) := by
  refine Ct.of (by decide) (Nat.le_of_ble_eq_true rfl) (fun p e s m args below meth c A ls H locs hx hb hml hr hnl hown hts hnm hK hA hl hW => ?_)
  have hl : lv_has ls 2 [(0, .ref h0), (1, .ref h1)] := hl
  refine lv_aload_n hx hb d_Parts_xor_0 rfl (lv_at hl 0 rfl) ?_
  refine lv_dup hx hb d_Parts_xor_1 rfl ?_
  refine Wd.get hx hb hts hown hK hW 0 1 in_Parts w_fl_Parts_15 (by decide) d_Parts_xor_2 rfl rfl rfl ?_
  refine lv_aload_n hx hb d_Parts_xor_5 rfl (lv_at hl 1 rfl) ?_
  refine Wd.get hx hb hts hown hK hW 1 1 in_Parts w_fl_Parts_15 (by decide) d_Parts_xor_6 rfl rfl rfl ?_
  refine lv_lxor hx hb d_Parts_xor_9 ?_
  refine Wd.put hx hb hts hown hK hW 0 1 in_Parts t_Parts_ok n_Parts w_fl_Parts_15 (by decide) d_Parts_xor_10 rfl rfl rfl rfl rfl (Nat.le_of_ble_eq_true rfl) (fun H locs hW => ?_)
  have hW : Wd G A s.heap [(h0, .inr (7, [.int w, .long (a.1 ^^^ b.1), .long a.2])), (h1, .inr (7, [.int w1, .long b.1, .long b.2]))] H locs := hW
  refine lv_aload_n hx hb d_Parts_xor_13 rfl (lv_at hl 0 rfl) ?_
  refine lv_dup hx hb d_Parts_xor_14 rfl ?_
  refine Wd.get hx hb hts hown hK hW 0 2 in_Parts w_fl_Parts_19 (by decide) d_Parts_xor_15 rfl rfl rfl ?_
  refine lv_aload_n hx hb d_Parts_xor_18 rfl (lv_at hl 1 rfl) ?_
  refine Wd.get hx hb hts hown hK hW 1 2 in_Parts w_fl_Parts_19 (by decide) d_Parts_xor_19 rfl rfl rfl ?_
  refine lv_lxor hx hb d_Parts_xor_22 ?_
  refine Wd.put hx hb hts hown hK hW 0 2 in_Parts t_Parts_ok n_Parts w_fl_Parts_19 (by decide) d_Parts_xor_23 rfl rfl rfl rfl rfl (Nat.le_of_ble_eq_true rfl) (fun H locs hW => ?_)
  have hW : Wd G A s.heap [(h0, .inr (7, [.int w, .long (a.1 ^^^ b.1), .long (a.2 ^^^ b.2)])), (h1, .inr (7, [.int w1, .long b.1, .long b.2]))] H locs := hW
  exact Ct.vret hx hb hr hnl hW (by decide) (by decide) d_Parts_xor_26 ⟨rfl, rfl⟩

abbrev rm_Parts_and : Room := { frames := 0, cells := 0, slots := 0, locals := 0 }
set_option maxHeartbeats 4000000 in
set_option maxRecDepth 100000 in
theorem c_Parts_and (l : Launch) (G : Gt) (h0 : Nat) (w : Int32) (a : PT) (x : Int64) : Ct l G y_Parts_and b_Parts_and 3 none rm_Parts_and [.ref h0, .long x] [(h0, .inr (7, [.int w, .long a.1, .long a.2]))] 0 0 (fun v w' => v = none ∧ w' = [(h0, .inr (7, [.int w, .long ((pAnd a x).1), .long ((pAnd a x).2)]))]) := by
  refine Ct.of (by decide) (Nat.le_of_ble_eq_true rfl) (fun p e s m args below meth c A ls H locs hx hb hml hr hnl hown hts hnm hK hA hl hW => ?_)
  have hl : lv_has ls 3 [(0, .ref h0), (1, .long x)] := hl
  refine lv_aload_n hx hb d_Parts_and_0 rfl (lv_at hl 0 rfl) ?_
  refine lv_dup hx hb d_Parts_and_1 rfl ?_
  refine Wd.get hx hb hts hown hK hW 0 1 in_Parts w_fl_Parts_15 (by decide) d_Parts_and_2 rfl rfl rfl ?_
  refine lv_lload_n hx hb d_Parts_and_5 rfl (lv_at hl 1 rfl) ?_
  refine lv_land hx hb d_Parts_and_6 ?_
  refine Wd.put hx hb hts hown hK hW 0 1 in_Parts t_Parts_ok n_Parts w_fl_Parts_15 (by decide) d_Parts_and_7 rfl rfl rfl rfl rfl (Nat.le_of_ble_eq_true rfl) (fun H locs hW => ?_)
  have hW : Wd G A s.heap [(h0, .inr (7, [.int w, .long (a.1 &&& x), .long a.2]))] H locs := hW
  refine lv_aload_n hx hb d_Parts_and_10 rfl (lv_at hl 0 rfl) ?_
  refine lv_dup hx hb d_Parts_and_11 rfl ?_
  refine Wd.get hx hb hts hown hK hW 0 2 in_Parts w_fl_Parts_19 (by decide) d_Parts_and_12 rfl rfl rfl ?_
  refine lv_lload_n hx hb d_Parts_and_15 rfl (lv_at hl 1 rfl) ?_
  refine lv_land hx hb d_Parts_and_16 ?_
  refine Wd.put hx hb hts hown hK hW 0 2 in_Parts t_Parts_ok n_Parts w_fl_Parts_19 (by decide) d_Parts_and_17 rfl rfl rfl rfl rfl (Nat.le_of_ble_eq_true rfl) (fun H locs hW => ?_)
  have hW : Wd G A s.heap [(h0, .inr (7, [.int w, .long (a.1 &&& x), .long (a.2 &&& x)]))] H locs := hW
  exact Ct.vret hx hb hr hnl hW (by decide) (by decide) d_Parts_and_20 ⟨rfl, rfl⟩

abbrev rm_Parts_flip : Room := { frames := 0, cells := 0, slots := 0, locals := 0 }
set_option maxHeartbeats 4000000 in
set_option maxRecDepth 100000 in
theorem c_Parts_flip (l : Launch) (G : Gt) (h0 : Nat) (w : Int32) (a : PT) (x : Int64) : Ct l G y_Parts_flip b_Parts_flip 3 none rm_Parts_flip [.ref h0, .long x] [(h0, .inr (7, [.int w, .long a.1, .long a.2]))] 0 0 (fun v w' => v = none ∧ w' = [(h0, .inr (7, [.int w, .long ((pFlip w a x).1), .long ((pFlip w a x).2)]))]) := by
  refine Ct.of (by decide) (Nat.le_of_ble_eq_true rfl) (fun p e s m args below meth c A ls H locs hx hb hml hr hnl hown hts hnm hK hA hl hW => ?_)
  have hl : lv_has ls 3 [(0, .ref h0), (1, .long x)] := hl
  refine lv_aload_n hx hb d_Parts_flip_0 rfl (lv_at hl 0 rfl) ?_
  refine Wd.get hx hb hts hown hK hW 0 0 in_Parts w_fl_Parts_9 (by decide) d_Parts_flip_1 rfl rfl rfl ?_
  refine lv_if_ne (tgt := 17) hx hb d_Parts_flip_4 rfl (fun ht1 => ?_) (fun hf2 => ?_)
  · refine lv_aload_n hx hb d_Parts_flip_17 rfl (lv_at hl 0 rfl) ?_
    refine Wd.get hx hb hts hown hK hW 0 0 in_Parts w_fl_Parts_9 (by decide) d_Parts_flip_18 rfl rfl rfl ?_
    refine lv_iconst (v := 2) hx hb d_Parts_flip_21 (by decide) ?_
    refine lv_icmp_ne (tgt := 35) hx hb d_Parts_flip_22 rfl (fun ht3 => ?_) (fun hf4 => ?_)
    · exact Ct.vret hx hb hr hnl hW (by decide) (by decide) d_Parts_flip_35 ⟨by first | rfl | (simp only [pFlip, if_neg ht1, if_neg ht3]; done) | (simp only [pFlip, if_neg ht1, if_neg ht3]; rfl), by first | rfl | (simp only [pFlip, if_neg ht1, if_neg ht3]; done) | (simp only [pFlip, if_neg ht1, if_neg ht3]; rfl)⟩
    · refine lv_aload_n hx hb d_Parts_flip_25 rfl (lv_at hl 0 rfl) ?_
      refine lv_dup hx hb d_Parts_flip_26 rfl ?_
      refine Wd.get hx hb hts hown hK hW 0 2 in_Parts w_fl_Parts_19 (by decide) d_Parts_flip_27 rfl rfl rfl ?_
      refine lv_lload_n hx hb d_Parts_flip_30 rfl (lv_at hl 1 rfl) ?_
      refine lv_lxor hx hb d_Parts_flip_31 ?_
      refine Wd.put hx hb hts hown hK hW 0 2 in_Parts t_Parts_ok n_Parts w_fl_Parts_19 (by decide) d_Parts_flip_32 rfl rfl rfl rfl rfl (Nat.le_of_ble_eq_true rfl) (fun H locs hW => ?_)
      have hW : Wd G A s.heap [(h0, .inr (7, [.int w, .long a.1, .long (a.2 ^^^ x)]))] H locs := hW
      exact Ct.vret hx hb hr hnl hW (by decide) (by decide) d_Parts_flip_35 ⟨by first | rfl | (simp only [pFlip, if_neg ht1, if_pos hf4]; done) | (simp only [pFlip, if_neg ht1, if_pos hf4]; rfl), by first | rfl | (simp only [pFlip, if_neg ht1, if_pos hf4]; done) | (simp only [pFlip, if_neg ht1, if_pos hf4]; rfl)⟩
  · refine lv_aload_n hx hb d_Parts_flip_7 rfl (lv_at hl 0 rfl) ?_
    refine lv_dup hx hb d_Parts_flip_8 rfl ?_
    refine Wd.get hx hb hts hown hK hW 0 1 in_Parts w_fl_Parts_15 (by decide) d_Parts_flip_9 rfl rfl rfl ?_
    refine lv_lload_n hx hb d_Parts_flip_12 rfl (lv_at hl 1 rfl) ?_
    refine lv_lxor hx hb d_Parts_flip_13 ?_
    refine Wd.put hx hb hts hown hK hW 0 1 in_Parts t_Parts_ok n_Parts w_fl_Parts_15 (by decide) d_Parts_flip_14 rfl rfl rfl rfl rfl (Nat.le_of_ble_eq_true rfl) (fun H locs hW => ?_)
    have hW : Wd G A s.heap [(h0, .inr (7, [.int w, .long (a.1 ^^^ x), .long a.2]))] H locs := hW
    refine lv_aload_n hx hb d_Parts_flip_17 rfl (lv_at hl 0 rfl) ?_
    refine Wd.get hx hb hts hown hK hW 0 0 in_Parts w_fl_Parts_9 (by decide) d_Parts_flip_18 rfl rfl rfl ?_
    refine lv_iconst (v := 2) hx hb d_Parts_flip_21 (by decide) ?_
    refine lv_icmp_ne (tgt := 35) hx hb d_Parts_flip_22 rfl (fun ht5 => ?_) (fun hf6 => ?_)
    · exact Ct.vret hx hb hr hnl hW (by decide) (by decide) d_Parts_flip_35 ⟨by first | rfl | (simp only [pFlip, if_pos hf2, if_neg ht5]; done) | (simp only [pFlip, if_pos hf2, if_neg ht5]; rfl), by first | rfl | (simp only [pFlip, if_pos hf2, if_neg ht5]; done) | (simp only [pFlip, if_pos hf2, if_neg ht5]; rfl)⟩
    · refine lv_aload_n hx hb d_Parts_flip_25 rfl (lv_at hl 0 rfl) ?_
      refine lv_dup hx hb d_Parts_flip_26 rfl ?_
      refine Wd.get hx hb hts hown hK hW 0 2 in_Parts w_fl_Parts_19 (by decide) d_Parts_flip_27 rfl rfl rfl ?_
      refine lv_lload_n hx hb d_Parts_flip_30 rfl (lv_at hl 1 rfl) ?_
      refine lv_lxor hx hb d_Parts_flip_31 ?_
      refine Wd.put hx hb hts hown hK hW 0 2 in_Parts t_Parts_ok n_Parts w_fl_Parts_19 (by decide) d_Parts_flip_32 rfl rfl rfl rfl rfl (Nat.le_of_ble_eq_true rfl) (fun H locs hW => ?_)
      have hW : Wd G A s.heap [(h0, .inr (7, [.int w, .long (a.1 ^^^ x), .long (a.2 ^^^ x)]))] H locs := hW
      exact Ct.vret hx hb hr hnl hW (by decide) (by decide) d_Parts_flip_35 ⟨by first | rfl | (simp only [pFlip, if_pos hf2, if_pos hf6]; done) | (simp only [pFlip, if_pos hf2, if_pos hf6]; rfl), by first | rfl | (simp only [pFlip, if_pos hf2, if_pos hf6]; done) | (simp only [pFlip, if_pos hf2, if_pos hf6]; rfl)⟩

abbrev rm_Parts_keep : Room := { frames := 0, cells := 0, slots := 0, locals := 0 }
set_option maxHeartbeats 4000000 in
set_option maxRecDepth 100000 in
theorem c_Parts_keep (l : Launch) (G : Gt) (h0 : Nat) (w : Int32) (a : PT) (k : Int32) : Ct l G y_Parts_keep b_Parts_keep 2 none rm_Parts_keep [.ref h0, .int k] [(h0, .inr (7, [.int w, .long a.1, .long a.2]))] 0 0 (fun v w' => v = none ∧ w' = [(h0, .inr (7, [.int w, .long ((pKeep w k a).1), .long ((pKeep w k a).2)]))]) := by
  refine Ct.of (by decide) (Nat.le_of_ble_eq_true rfl) (fun p e s m args below meth c A ls H locs hx hb hml hr hnl hown hts hnm hK hA hl hW => ?_)
  have hl : lv_has ls 2 [(0, .ref h0), (1, .int k)] := hl
  refine lv_aload_n hx hb d_Parts_keep_0 rfl (lv_at hl 0 rfl) ?_
  refine Wd.get hx hb hts hown hK hW 0 0 in_Parts w_fl_Parts_9 (by decide) d_Parts_keep_1 rfl rfl rfl ?_
  refine lv_iload_n hx hb d_Parts_keep_4 rfl (lv_at hl 1 rfl) ?_
  refine lv_icmp_eq (tgt := 13) hx hb d_Parts_keep_5 rfl (fun ht1 => ?_) (fun hf2 => ?_)
  · refine lv_aload_n hx hb d_Parts_keep_13 rfl (lv_at hl 0 rfl) ?_
    refine Wd.get hx hb hts hown hK hW 0 0 in_Parts w_fl_Parts_9 (by decide) d_Parts_keep_14 rfl rfl rfl ?_
    refine lv_iconst (v := 1) hx hb d_Parts_keep_17 (by decide) ?_
    refine lv_iadd hx hb d_Parts_keep_18 ?_
    refine lv_iconst (v := 3) hx hb d_Parts_keep_19 (by decide) ?_
    refine lv_irem hx hb d_Parts_keep_20 (by decide) ?_
    refine lv_iload_n hx hb d_Parts_keep_21 rfl (lv_at hl 1 rfl) ?_
    refine lv_icmp_eq (tgt := 30) hx hb d_Parts_keep_22 rfl (fun ht3 => ?_) (fun hf4 => ?_)
    · exact Ct.vret hx hb hr hnl hW (by decide) (by decide) d_Parts_keep_30 ⟨by first | rfl | (simp only [pKeep, q3, if_pos ht1, if_pos ht3]; done) | (simp only [pKeep, q3, if_pos ht1, if_pos ht3]; rfl), by first | rfl | (simp only [pKeep, q3, if_pos ht1, if_pos ht3]; done) | (simp only [pKeep, q3, if_pos ht1, if_pos ht3]; rfl)⟩
    · refine lv_aload_n hx hb d_Parts_keep_25 rfl (lv_at hl 0 rfl) ?_
      refine lv_lconst (v := 0) hx hb d_Parts_keep_26 (by decide) ?_
      refine Wd.put hx hb hts hown hK hW 0 2 in_Parts t_Parts_ok n_Parts w_fl_Parts_19 (by decide) d_Parts_keep_27 rfl rfl rfl rfl rfl (Nat.le_of_ble_eq_true rfl) (fun H locs hW => ?_)
      have hW : Wd G A s.heap [(h0, .inr (7, [.int w, .long a.1, .long 0]))] H locs := hW
      exact Ct.vret hx hb hr hnl hW (by decide) (by decide) d_Parts_keep_30 ⟨by first | rfl | (simp only [pKeep, q3, if_pos ht1, if_neg hf4]; done) | (simp only [pKeep, q3, if_pos ht1, if_neg hf4]; rfl), by first | rfl | (simp only [pKeep, q3, if_pos ht1, if_neg hf4]; done) | (simp only [pKeep, q3, if_pos ht1, if_neg hf4]; rfl)⟩
  · refine lv_aload_n hx hb d_Parts_keep_8 rfl (lv_at hl 0 rfl) ?_
    refine lv_lconst (v := 0) hx hb d_Parts_keep_9 (by decide) ?_
    refine Wd.put hx hb hts hown hK hW 0 1 in_Parts t_Parts_ok n_Parts w_fl_Parts_15 (by decide) d_Parts_keep_10 rfl rfl rfl rfl rfl (Nat.le_of_ble_eq_true rfl) (fun H locs hW => ?_)
    have hW : Wd G A s.heap [(h0, .inr (7, [.int w, .long 0, .long a.2]))] H locs := hW
    refine lv_aload_n hx hb d_Parts_keep_13 rfl (lv_at hl 0 rfl) ?_
    refine Wd.get hx hb hts hown hK hW 0 0 in_Parts w_fl_Parts_9 (by decide) d_Parts_keep_14 rfl rfl rfl ?_
    refine lv_iconst (v := 1) hx hb d_Parts_keep_17 (by decide) ?_
    refine lv_iadd hx hb d_Parts_keep_18 ?_
    refine lv_iconst (v := 3) hx hb d_Parts_keep_19 (by decide) ?_
    refine lv_irem hx hb d_Parts_keep_20 (by decide) ?_
    refine lv_iload_n hx hb d_Parts_keep_21 rfl (lv_at hl 1 rfl) ?_
    refine lv_icmp_eq (tgt := 30) hx hb d_Parts_keep_22 rfl (fun ht5 => ?_) (fun hf6 => ?_)
    · exact Ct.vret hx hb hr hnl hW (by decide) (by decide) d_Parts_keep_30 ⟨by first | rfl | (simp only [pKeep, q3, if_neg hf2, if_pos ht5]; done) | (simp only [pKeep, q3, if_neg hf2, if_pos ht5]; rfl), by first | rfl | (simp only [pKeep, q3, if_neg hf2, if_pos ht5]; done) | (simp only [pKeep, q3, if_neg hf2, if_pos ht5]; rfl)⟩
    · refine lv_aload_n hx hb d_Parts_keep_25 rfl (lv_at hl 0 rfl) ?_
      refine lv_lconst (v := 0) hx hb d_Parts_keep_26 (by decide) ?_
      refine Wd.put hx hb hts hown hK hW 0 2 in_Parts t_Parts_ok n_Parts w_fl_Parts_19 (by decide) d_Parts_keep_27 rfl rfl rfl rfl rfl (Nat.le_of_ble_eq_true rfl) (fun H locs hW => ?_)
      have hW : Wd G A s.heap [(h0, .inr (7, [.int w, .long 0, .long 0]))] H locs := hW
      exact Ct.vret hx hb hr hnl hW (by decide) (by decide) d_Parts_keep_30 ⟨by first | rfl | (simp only [pKeep, q3, if_neg hf2, if_neg hf6]; done) | (simp only [pKeep, q3, if_neg hf2, if_neg hf6]; rfl), by first | rfl | (simp only [pKeep, q3, if_neg hf2, if_neg hf6]; done) | (simp only [pKeep, q3, if_neg hf2, if_neg hf6]; rfl)⟩

abbrev rm_Parts_drop : Room := { frames := 0, cells := 0, slots := 0, locals := 0 }
set_option maxHeartbeats 4000000 in
set_option maxRecDepth 100000 in
theorem c_Parts_drop (l : Launch) (G : Gt) (h0 : Nat) (w : Int32) (a : PT) (k : Int32) : Ct l G y_Parts_drop b_Parts_drop 2 none rm_Parts_drop [.ref h0, .int k] [(h0, .inr (7, [.int w, .long a.1, .long a.2]))] 0 0 (fun v w' => v = none ∧ w' = [(h0, .inr (7, [.int w, .long ((pDrop w k a).1), .long ((pDrop w k a).2)]))]) := by
  refine Ct.of (by decide) (Nat.le_of_ble_eq_true rfl) (fun p e s m args below meth c A ls H locs hx hb hml hr hnl hown hts hnm hK hA hl hW => ?_)
  have hl : lv_has ls 2 [(0, .ref h0), (1, .int k)] := hl
  refine lv_aload_n hx hb d_Parts_drop_0 rfl (lv_at hl 0 rfl) ?_
  refine Wd.get hx hb hts hown hK hW 0 0 in_Parts w_fl_Parts_9 (by decide) d_Parts_drop_1 rfl rfl rfl ?_
  refine lv_iload_n hx hb d_Parts_drop_4 rfl (lv_at hl 1 rfl) ?_
  refine lv_icmp_ne (tgt := 13) hx hb d_Parts_drop_5 rfl (fun ht1 => ?_) (fun hf2 => ?_)
  · refine lv_aload_n hx hb d_Parts_drop_13 rfl (lv_at hl 0 rfl) ?_
    refine Wd.get hx hb hts hown hK hW 0 0 in_Parts w_fl_Parts_9 (by decide) d_Parts_drop_14 rfl rfl rfl ?_
    refine lv_iconst (v := 1) hx hb d_Parts_drop_17 (by decide) ?_
    refine lv_iadd hx hb d_Parts_drop_18 ?_
    refine lv_iconst (v := 3) hx hb d_Parts_drop_19 (by decide) ?_
    refine lv_irem hx hb d_Parts_drop_20 (by decide) ?_
    refine lv_iload_n hx hb d_Parts_drop_21 rfl (lv_at hl 1 rfl) ?_
    refine lv_icmp_ne (tgt := 30) hx hb d_Parts_drop_22 rfl (fun ht3 => ?_) (fun hf4 => ?_)
    · exact Ct.vret hx hb hr hnl hW (by decide) (by decide) d_Parts_drop_30 ⟨by first | rfl | (simp only [pDrop, q3, if_neg ht1, if_neg ht3]; done) | (simp only [pDrop, q3, if_neg ht1, if_neg ht3]; rfl), by first | rfl | (simp only [pDrop, q3, if_neg ht1, if_neg ht3]; done) | (simp only [pDrop, q3, if_neg ht1, if_neg ht3]; rfl)⟩
    · refine lv_aload_n hx hb d_Parts_drop_25 rfl (lv_at hl 0 rfl) ?_
      refine lv_lconst (v := 0) hx hb d_Parts_drop_26 (by decide) ?_
      refine Wd.put hx hb hts hown hK hW 0 2 in_Parts t_Parts_ok n_Parts w_fl_Parts_19 (by decide) d_Parts_drop_27 rfl rfl rfl rfl rfl (Nat.le_of_ble_eq_true rfl) (fun H locs hW => ?_)
      have hW : Wd G A s.heap [(h0, .inr (7, [.int w, .long a.1, .long 0]))] H locs := hW
      exact Ct.vret hx hb hr hnl hW (by decide) (by decide) d_Parts_drop_30 ⟨by first | rfl | (simp only [pDrop, q3, if_neg ht1, if_pos hf4]; done) | (simp only [pDrop, q3, if_neg ht1, if_pos hf4]; rfl), by first | rfl | (simp only [pDrop, q3, if_neg ht1, if_pos hf4]; done) | (simp only [pDrop, q3, if_neg ht1, if_pos hf4]; rfl)⟩
  · refine lv_aload_n hx hb d_Parts_drop_8 rfl (lv_at hl 0 rfl) ?_
    refine lv_lconst (v := 0) hx hb d_Parts_drop_9 (by decide) ?_
    refine Wd.put hx hb hts hown hK hW 0 1 in_Parts t_Parts_ok n_Parts w_fl_Parts_15 (by decide) d_Parts_drop_10 rfl rfl rfl rfl rfl (Nat.le_of_ble_eq_true rfl) (fun H locs hW => ?_)
    have hW : Wd G A s.heap [(h0, .inr (7, [.int w, .long 0, .long a.2]))] H locs := hW
    refine lv_aload_n hx hb d_Parts_drop_13 rfl (lv_at hl 0 rfl) ?_
    refine Wd.get hx hb hts hown hK hW 0 0 in_Parts w_fl_Parts_9 (by decide) d_Parts_drop_14 rfl rfl rfl ?_
    refine lv_iconst (v := 1) hx hb d_Parts_drop_17 (by decide) ?_
    refine lv_iadd hx hb d_Parts_drop_18 ?_
    refine lv_iconst (v := 3) hx hb d_Parts_drop_19 (by decide) ?_
    refine lv_irem hx hb d_Parts_drop_20 (by decide) ?_
    refine lv_iload_n hx hb d_Parts_drop_21 rfl (lv_at hl 1 rfl) ?_
    refine lv_icmp_ne (tgt := 30) hx hb d_Parts_drop_22 rfl (fun ht5 => ?_) (fun hf6 => ?_)
    · exact Ct.vret hx hb hr hnl hW (by decide) (by decide) d_Parts_drop_30 ⟨by first | rfl | (simp only [pDrop, q3, if_pos hf2, if_neg ht5]; done) | (simp only [pDrop, q3, if_pos hf2, if_neg ht5]; rfl), by first | rfl | (simp only [pDrop, q3, if_pos hf2, if_neg ht5]; done) | (simp only [pDrop, q3, if_pos hf2, if_neg ht5]; rfl)⟩
    · refine lv_aload_n hx hb d_Parts_drop_25 rfl (lv_at hl 0 rfl) ?_
      refine lv_lconst (v := 0) hx hb d_Parts_drop_26 (by decide) ?_
      refine Wd.put hx hb hts hown hK hW 0 2 in_Parts t_Parts_ok n_Parts w_fl_Parts_19 (by decide) d_Parts_drop_27 rfl rfl rfl rfl rfl (Nat.le_of_ble_eq_true rfl) (fun H locs hW => ?_)
      have hW : Wd G A s.heap [(h0, .inr (7, [.int w, .long 0, .long 0]))] H locs := hW
      exact Ct.vret hx hb hr hnl hW (by decide) (by decide) d_Parts_drop_30 ⟨by first | rfl | (simp only [pDrop, q3, if_pos hf2, if_pos hf6]; done) | (simp only [pDrop, q3, if_pos hf2, if_pos hf6]; rfl), by first | rfl | (simp only [pDrop, q3, if_pos hf2, if_pos hf6]; done) | (simp only [pDrop, q3, if_pos hf2, if_pos hf6]; rfl)⟩

abbrev rm_Parts_shiftDown : Room := { frames := 0, cells := 0, slots := 0, locals := 0 }
set_option maxHeartbeats 4000000 in
set_option maxRecDepth 100000 in
theorem c_Parts_shiftDown (l : Launch) (G : Gt) (h0 : Nat) (w : Int32) (a : PT) (k : Int32) : Ct l G y_Parts_shiftDown b_Parts_shiftDown 2 none rm_Parts_shiftDown [.ref h0, .int k] [(h0, .inr (7, [.int w, .long a.1, .long a.2]))] 0 0 (fun v w' => v = none ∧ w' = [(h0, .inr (7, [.int w, .long ((pSh a k).1), .long ((pSh a k).2)]))]) := by
  refine Ct.of (by decide) (Nat.le_of_ble_eq_true rfl) (fun p e s m args below meth c A ls H locs hx hb hml hr hnl hown hts hnm hK hA hl hW => ?_)
  have hl : lv_has ls 2 [(0, .ref h0), (1, .int k)] := hl
  refine lv_aload_n hx hb d_Parts_shiftDown_0 rfl (lv_at hl 0 rfl) ?_
  refine lv_dup hx hb d_Parts_shiftDown_1 rfl ?_
  refine Wd.get hx hb hts hown hK hW 0 1 in_Parts w_fl_Parts_15 (by decide) d_Parts_shiftDown_2 rfl rfl rfl ?_
  refine lv_iload_n hx hb d_Parts_shiftDown_5 rfl (lv_at hl 1 rfl) ?_
  refine lv_lushr (v := (a.1.toUInt64 >>> (k.toInt64.toUInt64 &&& Int64.toUInt64 63)).toInt64) hx hb d_Parts_shiftDown_6 rfl ?_
  refine Wd.put hx hb hts hown hK hW 0 1 in_Parts t_Parts_ok n_Parts w_fl_Parts_15 (by decide) d_Parts_shiftDown_7 rfl rfl rfl rfl rfl (Nat.le_of_ble_eq_true rfl) (fun H locs hW => ?_)
  have hW : Wd G A s.heap [(h0, .inr (7, [.int w, .long ((a.1.toUInt64 >>> (k.toInt64.toUInt64 &&& Int64.toUInt64 63)).toInt64), .long a.2]))] H locs := hW
  refine lv_aload_n hx hb d_Parts_shiftDown_10 rfl (lv_at hl 0 rfl) ?_
  refine lv_dup hx hb d_Parts_shiftDown_11 rfl ?_
  refine Wd.get hx hb hts hown hK hW 0 2 in_Parts w_fl_Parts_19 (by decide) d_Parts_shiftDown_12 rfl rfl rfl ?_
  refine lv_iload_n hx hb d_Parts_shiftDown_15 rfl (lv_at hl 1 rfl) ?_
  refine lv_lushr (v := (a.2.toUInt64 >>> (k.toInt64.toUInt64 &&& Int64.toUInt64 63)).toInt64) hx hb d_Parts_shiftDown_16 rfl ?_
  refine Wd.put hx hb hts hown hK hW 0 2 in_Parts t_Parts_ok n_Parts w_fl_Parts_19 (by decide) d_Parts_shiftDown_17 rfl rfl rfl rfl rfl (Nat.le_of_ble_eq_true rfl) (fun H locs hW => ?_)
  have hW : Wd G A s.heap [(h0, .inr (7, [.int w, .long ((a.1.toUInt64 >>> (k.toInt64.toUInt64 &&& Int64.toUInt64 63)).toInt64), .long ((a.2.toUInt64 >>> (k.toInt64.toUInt64 &&& Int64.toUInt64 63)).toInt64)]))] H locs := hW
  exact Ct.vret hx hb hr hnl hW (by decide) (by decide) d_Parts_shiftDown_20 ⟨rfl, rfl⟩

abbrev rm_Parts_raiseHalves : Room := { frames := 0, cells := 0, slots := 0, locals := 0 }
set_option maxHeartbeats 4000000 in
set_option maxRecDepth 100000 in
theorem c_Parts_raiseHalves (l : Launch) (G : Gt) (h0 : Nat) (w : Int32) (a : PT) (k : Int32) : Ct l G y_Parts_raiseHalves b_Parts_raiseHalves 4 none rm_Parts_raiseHalves [.ref h0, .int k] [(h0, .inr (7, [.int w, .long a.1, .long a.2]))] 0 0 (fun v w' => v = none ∧ w' = [(h0, .inr (7, [.int w, .long ((pRh a k).1), .long ((pRh a k).2)]))]) := by
  refine Ct.of (by decide) (Nat.le_of_ble_eq_true rfl) (fun p e s m args below meth c A ls H locs hx hb hml hr hnl hown hts hnm hK hA hl hW => ?_)
  have hl : lv_has ls 4 [(0, .ref h0), (1, .int k)] := hl
  refine lv_lconst (v := 1) hx hb d_Parts_raiseHalves_0 (by decide) ?_
  refine lv_iload_n hx hb d_Parts_raiseHalves_1 rfl (lv_at hl 1 rfl) ?_
  refine lv_lshl (v := (1 : Int64) <<< (k.toInt64 &&& 63)) hx hb d_Parts_raiseHalves_2 rfl ?_
  refine lv_lconst (v := 1) hx hb d_Parts_raiseHalves_3 (by decide) ?_
  refine lv_lsub hx hb d_Parts_raiseHalves_4 ?_
  refine lv_bipush (v := 32) hx hb d_Parts_raiseHalves_5 (by decide) ?_
  refine lv_lshl (v := (((1 : Int64) <<< (k.toInt64 &&& 63)) - 1) <<< ((32 : Int32).toInt64 &&& 63)) hx hb d_Parts_raiseHalves_7 rfl ?_
  refine lv_ldc2 (v := (-1)) hx hb hown (hts _ w_kl_Parts_22) d_Parts_raiseHalves_8 ?_
  refine lv_lxor hx hb d_Parts_raiseHalves_11 ?_
  refine lv_lstore_n (lv' := [(2, .long (((((1 : Int64) <<< (k.toInt64 &&& 63)) - 1) <<< ((32 : Int32).toInt64 &&& 63)) ^^^ (-1))), (0, .ref h0), (1, .int k)]) hx hb d_Parts_raiseHalves_12 rfl hl (by decide) rfl (fun ls hl => ?_)
  refine lv_aload_n hx hb d_Parts_raiseHalves_13 rfl (lv_at hl 1 rfl) ?_
  refine lv_aload_n hx hb d_Parts_raiseHalves_14 rfl (lv_at hl 1 rfl) ?_
  refine Wd.get hx hb hts hown hK hW 0 1 in_Parts w_fl_Parts_15 (by decide) d_Parts_raiseHalves_15 rfl rfl rfl ?_
  refine lv_iload_n hx hb d_Parts_raiseHalves_18 rfl (lv_at hl 2 rfl) ?_
  refine lv_lshl (v := a.1 <<< (k.toInt64 &&& 63)) hx hb d_Parts_raiseHalves_19 rfl ?_
  refine lv_lload_n hx hb d_Parts_raiseHalves_20 rfl (lv_at hl 0 rfl) ?_
  refine lv_land hx hb d_Parts_raiseHalves_21 ?_
  refine Wd.put hx hb hts hown hK hW 0 1 in_Parts t_Parts_ok n_Parts w_fl_Parts_15 (by decide) d_Parts_raiseHalves_22 rfl rfl rfl rfl rfl (Nat.le_of_ble_eq_true rfl) (fun H locs hW => ?_)
  have hW : Wd G A s.heap [(h0, .inr (7, [.int w, .long ((a.1 <<< (k.toInt64 &&& 63)) &&& (((((1 : Int64) <<< (k.toInt64 &&& 63)) - 1) <<< ((32 : Int32).toInt64 &&& 63)) ^^^ (-1))), .long a.2]))] H locs := hW
  refine lv_aload_n hx hb d_Parts_raiseHalves_25 rfl (lv_at hl 1 rfl) ?_
  refine lv_aload_n hx hb d_Parts_raiseHalves_26 rfl (lv_at hl 1 rfl) ?_
  refine Wd.get hx hb hts hown hK hW 0 2 in_Parts w_fl_Parts_19 (by decide) d_Parts_raiseHalves_27 rfl rfl rfl ?_
  refine lv_iload_n hx hb d_Parts_raiseHalves_30 rfl (lv_at hl 2 rfl) ?_
  refine lv_lshl (v := a.2 <<< (k.toInt64 &&& 63)) hx hb d_Parts_raiseHalves_31 rfl ?_
  refine lv_lload_n hx hb d_Parts_raiseHalves_32 rfl (lv_at hl 0 rfl) ?_
  refine lv_land hx hb d_Parts_raiseHalves_33 ?_
  refine Wd.put hx hb hts hown hK hW 0 2 in_Parts t_Parts_ok n_Parts w_fl_Parts_19 (by decide) d_Parts_raiseHalves_34 rfl rfl rfl rfl rfl (Nat.le_of_ble_eq_true rfl) (fun H locs hW => ?_)
  have hW : Wd G A s.heap [(h0, .inr (7, [.int w, .long ((a.1 <<< (k.toInt64 &&& 63)) &&& (((((1 : Int64) <<< (k.toInt64 &&& 63)) - 1) <<< ((32 : Int32).toInt64 &&& 63)) ^^^ (-1))), .long ((a.2 <<< (k.toInt64 &&& 63)) &&& (((((1 : Int64) <<< (k.toInt64 &&& 63)) - 1) <<< ((32 : Int32).toInt64 &&& 63)) ^^^ (-1)))]))] H locs := hW
  exact Ct.vret hx hb hr hnl hW (by decide) (by decide) d_Parts_raiseHalves_37 ⟨rfl, rfl⟩

abbrev rm_Parts_doubleHighHalf : Room := { frames := 0, cells := 0, slots := 0, locals := 0 }
set_option maxHeartbeats 4000000 in
set_option maxRecDepth 100000 in
theorem c_Parts_doubleHighHalf (l : Launch) (G : Gt) (h0 : Nat) (w : Int32) (a : PT) : Ct l G y_Parts_doubleHighHalf b_Parts_doubleHighHalf 1 none rm_Parts_doubleHighHalf [.ref h0] [(h0, .inr (7, [.int w, .long a.1, .long a.2]))] 0 0 (fun v w' => v = none ∧ w' = [(h0, .inr (7, [.int w, .long ((pDh a).1), .long ((pDh a).2)]))]) := by
  refine Ct.of (by decide) (Nat.le_of_ble_eq_true rfl) (fun p e s m args below meth c A ls H locs hx hb hml hr hnl hown hts hnm hK hA hl hW => ?_)
  have hl : lv_has ls 1 [(0, .ref h0)] := hl
  refine lv_aload_n hx hb d_Parts_doubleHighHalf_0 rfl (lv_at hl 0 rfl) ?_
  refine lv_aload_n hx hb d_Parts_doubleHighHalf_1 rfl (lv_at hl 0 rfl) ?_
  refine Wd.get hx hb hts hown hK hW 0 1 in_Parts w_fl_Parts_15 (by decide) d_Parts_doubleHighHalf_2 rfl rfl rfl ?_
  refine lv_bipush (v := 32) hx hb d_Parts_doubleHighHalf_5 (by decide) ?_
  refine lv_lushr (v := (a.1.toUInt64 >>> ((32 : Int32).toInt64.toUInt64 &&& Int64.toUInt64 63)).toInt64) hx hb d_Parts_doubleHighHalf_7 rfl ?_
  refine lv_aload_n hx hb d_Parts_doubleHighHalf_8 rfl (lv_at hl 0 rfl) ?_
  refine Wd.get hx hb hts hown hK hW 0 1 in_Parts w_fl_Parts_15 (by decide) d_Parts_doubleHighHalf_9 rfl rfl rfl ?_
  refine lv_ldc2 (v := (-4294967296)) hx hb hown (hts _ w_kl_Parts_24) d_Parts_doubleHighHalf_12 ?_
  refine lv_land hx hb d_Parts_doubleHighHalf_15 ?_
  refine lv_lor hx hb d_Parts_doubleHighHalf_16 ?_
  refine Wd.put hx hb hts hown hK hW 0 1 in_Parts t_Parts_ok n_Parts w_fl_Parts_15 (by decide) d_Parts_doubleHighHalf_17 rfl rfl rfl rfl rfl (Nat.le_of_ble_eq_true rfl) (fun H locs hW => ?_)
  have hW : Wd G A s.heap [(h0, .inr (7, [.int w, .long (((a.1.toUInt64 >>> ((32 : Int32).toInt64.toUInt64 &&& Int64.toUInt64 63)).toInt64) ||| (a.1 &&& (-4294967296))), .long a.2]))] H locs := hW
  refine lv_aload_n hx hb d_Parts_doubleHighHalf_20 rfl (lv_at hl 0 rfl) ?_
  refine lv_aload_n hx hb d_Parts_doubleHighHalf_21 rfl (lv_at hl 0 rfl) ?_
  refine Wd.get hx hb hts hown hK hW 0 2 in_Parts w_fl_Parts_19 (by decide) d_Parts_doubleHighHalf_22 rfl rfl rfl ?_
  refine lv_bipush (v := 32) hx hb d_Parts_doubleHighHalf_25 (by decide) ?_
  refine lv_lushr (v := (a.2.toUInt64 >>> ((32 : Int32).toInt64.toUInt64 &&& Int64.toUInt64 63)).toInt64) hx hb d_Parts_doubleHighHalf_27 rfl ?_
  refine lv_aload_n hx hb d_Parts_doubleHighHalf_28 rfl (lv_at hl 0 rfl) ?_
  refine Wd.get hx hb hts hown hK hW 0 2 in_Parts w_fl_Parts_19 (by decide) d_Parts_doubleHighHalf_29 rfl rfl rfl ?_
  refine lv_ldc2 (v := (-4294967296)) hx hb hown (hts _ w_kl_Parts_24) d_Parts_doubleHighHalf_32 ?_
  refine lv_land hx hb d_Parts_doubleHighHalf_35 ?_
  refine lv_lor hx hb d_Parts_doubleHighHalf_36 ?_
  refine Wd.put hx hb hts hown hK hW 0 2 in_Parts t_Parts_ok n_Parts w_fl_Parts_19 (by decide) d_Parts_doubleHighHalf_37 rfl rfl rfl rfl rfl (Nat.le_of_ble_eq_true rfl) (fun H locs hW => ?_)
  have hW : Wd G A s.heap [(h0, .inr (7, [.int w, .long (((a.1.toUInt64 >>> ((32 : Int32).toInt64.toUInt64 &&& Int64.toUInt64 63)).toInt64) ||| (a.1 &&& (-4294967296))), .long (((a.2.toUInt64 >>> ((32 : Int32).toInt64.toUInt64 &&& Int64.toUInt64 63)).toInt64) ||| (a.2 &&& (-4294967296)))]))] H locs := hW
  exact Ct.vret hx hb hr hnl hW (by decide) (by decide) d_Parts_doubleHighHalf_40 ⟨rfl, rfl⟩

