abbrev rm_Office_init : Room := { frames := 4, cells := 71, slots := 2506, locals := 75 }
set_option maxHeartbeats 4000000 in
set_option maxRecDepth 100000 in
theorem c_Office_init (l : Launch) (G : Gt) (h0 : Nat) : Ct l G y_Office_init b_Office_init 2 none rm_Office_init [.ref h0] (bj [[(h0, .inr (5, [.null, .null, .long 0]))]]) 71 2506 (fun v w' => ∃ (q4 : Nat) (q12 : Nat → Nat) (q9 : Nat → Nat) (q6 : Nat → Nat) (q2 : Nat → Nat), v = none ∧ w' = (bj [[(h0, .inr (5, [.ref (q2 0), .ref q4, .long 0]))], [(q4, .inl (G.2 4, 3, .inr (.inr (.inr (.inr (va_up (va_up (va_up (fun _ => none) 0 (some (q6 0))) 1 (some (q9 0))) 2 (some (q12 0))))))))], ckF G q12 (2 : Int32) ckZ0 rsZ, ckF G q9 (1 : Int32) ckZ0 rsZ, ckF G q6 (0 : Int32) ckZ0 rsZ, poB G q2 poZ])) := by
  refine Ct.of (by decide) (Nat.le_of_ble_eq_true rfl) (fun p e s m args below meth c A ls H locs hx hb hml hr hnl hown hts hnm hK hA hl hW => ?_)
  have hl : lv_has ls 2 [(0, .ref h0)] := hl
  refine lv_aload_n hx hb d_Office_init_0 rfl (lv_at hl 0 rfl) ?_
  refine W.objInit hx hb hown (hts _ w_ml_Office_3) (hts _ w_oi_im) (hts _ w_oi_code) rfl (by rw [hml]; exact hl.1) rfl d_Office_init_1 (Nat.le_of_ble_eq_true rfl) (Nat.le_of_ble_eq_true rfl) ?_
  refine W.eq (g2 := F0 m 4 ls []) rfl ?_
  refine lv_aload_n hx hb d_Office_init_4 rfl (lv_at hl 0 rfl) ?_
  refine Wd.new (ci := 8) (fs := [.null, .null, .null, .int 0]) (ty0 := t_Post) hx hb hts hown hK hA hW in_Post t_Post_ok w_cl_Office_9 w_nb_Post w_ini_Post d_Office_init_5 rfl z_Post (by decide) (by decide) (fun q1 H hW => ?_)
  have hW := Wd.blk (rs := [[(h0, .inr (5, [.null, .null, .long 0]))]]) (bs := [[(q1, .inr (8, [.null, .null, .null, .int 0]))]]) (Bs := [[(h0, .inr (5, [.null, .null, .long 0]))], [(q1, .inr (8, [.null, .null, .null, .int 0]))]]) hW [0, 1] (show ([0, 1] : List Nat).Perm (List.range 2) by decide) rfl
  have hW : Wd G A s.heap (bj [[(h0, .inr (5, [.null, .null, .long 0]))], [(q1, .inr (8, [.null, .null, .null, .int 0]))]]) H locs := hW
  refine W.widen (k := 1) (n := 4) (by decide) (by decide) ?_
  refine lv_dup hx hb d_Office_init_8 rfl ?_
  refine Ct.callINB (As := []) (rest := [.ref q1, .ref h0]) (wr := bj [[(h0, .inr (5, [.null, .null, .long 0]))]]) hx hb hml hown hts hK hA hl.1 hW (bl_pick (bs := [[(q1, .inr (8, [.null, .null, .null, .int 0]))]]) (rs := [[(h0, .inr (5, [.null, .null, .long 0]))]]) (Bs := [[(h0, .inr (5, [.null, .null, .long 0]))], [(q1, .inr (8, [.null, .null, .null, .int 0]))]]) [1, 0] (show ([1, 0] : List Nat).Perm (List.range 2) by decide) rfl) (cb_Post_init l G q1 ) ⟨va_cnB 0 hts (good_C w_code_Post_init) rfl rfl rfl (hK.2.1 _ (List.mem_of_getElem? (i := 4) rfl)) (hts _ w_ini_Post) yd_Post_init ⟨by decide, by decide⟩, rfl, hts _ w_im_Post_init⟩ rfl rfl (Nat.le_of_ble_eq_true rfl) d_Office_init_9 ⟨by decide, by decide⟩ (fun v w' hp => by obtain ⟨-, -, -, rfl⟩ := hp; exact Nat.le_of_ble_eq_true rfl) (fun v w' H locs hp hW => ?_)
  obtain ⟨q2, eq3, rfl, rfl⟩ := hp
  have hW := Wd.blk (rs := [[(h0, .inr (5, [.null, .null, .long 0]))]]) (bs := [poB G q2 poZ]) (Bs := [[(h0, .inr (5, [.null, .null, .long 0]))], poB G q2 poZ]) hW [0, 1] (show ([0, 1] : List Nat).Perm (List.range 2) by decide) rfl
  have eq3 : q2 0 = q1 := eq3
  have hWz := hW
  subst eq3
  have hW := hWz
  refine W.widen (k := 4) (n := 52) (by decide) (by decide) ?_
  refine W.eq (g2 := F0 m 12 ls [.ref (q2 0), .ref h0]) rfl ?_
  refine Wd.putF (v := .ref (q2 0)) hx hb hts hown hK hW 0 0 in_Office t_Office_ok n_Office w_fl_Office_12 (by decide) d_Office_init_12 rfl rfl rfl hnm rfl rfl rfl (Nat.le_of_ble_eq_true rfl) (fun H locs hW => ?_)
  have hW : Wd G A s.heap (bj [[(h0, .inr (5, [.ref (q2 0), .null, .long 0]))], poB G q2 poZ]) H locs := hW
  refine lv_aload_n hx hb d_Office_init_15 rfl (lv_at hl 0 rfl) ?_
  refine lv_iconst (v := 3) hx hb d_Office_init_16 (by decide) ?_
  refine Wd.newq (N' := 3) hx hb hts hown hK hA hW 4 w_cl_Office_18 hK.2.2 d_Office_init_17 rfl (by decide) (by decide) (by decide) (by decide) (by decide) (fun q4 H hW => ?_)
  have hW := Wd.blk (rs := [[(h0, .inr (5, [.ref (q2 0), .null, .long 0]))], poB G q2 poZ]) (bs := [[(q4, .inl (G.2 4, 3, .inr (.inr (.inr (.inr (fun _ => none))))))]]) (Bs := [[(h0, .inr (5, [.ref (q2 0), .null, .long 0]))], [(q4, .inl (G.2 4, 3, .inr (.inr (.inr (.inr (fun _ => none))))))], poB G q2 poZ]) hW [0, 2, 1] (show ([0, 2, 1] : List Nat).Perm (List.range 3) by decide) rfl
  have hW : Wd G A s.heap (bj [[(h0, .inr (5, [.ref (q2 0), .null, .long 0]))], [(q4, .inl (G.2 4, 3, .inr (.inr (.inr (.inr (fun _ => none))))))], poB G q2 poZ]) H locs := hW
  refine W.widen (k := 5) (n := 55) (by decide) (by decide) ?_
  refine Wd.putF (v := .ref q4) hx hb hts hown hK hW 0 1 in_Office t_Office_ok n_Office w_fl_Office_20 (by decide) d_Office_init_20 rfl rfl rfl hnm rfl rfl rfl (Nat.le_of_ble_eq_true rfl) (fun H locs hW => ?_)
  have hW : Wd G A s.heap (bj [[(h0, .inr (5, [.ref (q2 0), .ref q4, .long 0]))], [(q4, .inl (G.2 4, 3, .inr (.inr (.inr (.inr (fun _ => none))))))], poB G q2 poZ]) H locs := hW
  refine lv_iconst (v := 0) hx hb d_Office_init_23 (by decide) ?_
  refine lv_istore_n (lv' := [(1, .int 0), (0, .ref h0)]) hx hb d_Office_init_24 rfl hl (by decide) rfl (fun ls hl => ?_)
  refine lv_iload_n hx hb d_Office_init_25 rfl (lv_at hl 0 rfl) ?_
  refine lv_iconst (v := 3) hx hb d_Office_init_26 (by decide) ?_
  refine lv_icmp_ge (tgt := 50) hx hb d_Office_init_27 rfl (fun hz => absurd hz (by decide)) (fun _ => ?_)
  refine lv_aload_n hx hb d_Office_init_30 rfl (lv_at hl 1 rfl) ?_
  refine Wd.get hx hb hts hown hK hW 0 1 in_Office w_fl_Office_20 (by decide) d_Office_init_31 rfl rfl rfl ?_
  refine lv_iload_n hx hb d_Office_init_34 rfl (lv_at hl 0 rfl) ?_
  refine Wd.new (ci := 3) (fs := [.int 0, .null, .null, .null, .null, .null, .null, .null, .null, .null, .null, .int 0, .int 0, .int 0, .int 0, .null, .int 0]) (ty0 := t_Clerk) hx hb hts hown hK hA hW in_Clerk t_Clerk_ok w_cl_Office_18 w_nb_Clerk w_ini_Clerk d_Office_init_35 rfl z_Clerk (by decide) (by decide) (fun q5 H hW => ?_)
  have hW := Wd.blk (rs := [[(h0, .inr (5, [.ref (q2 0), .ref q4, .long 0]))], [(q4, .inl (G.2 4, 3, .inr (.inr (.inr (.inr (fun _ => none))))))], poB G q2 poZ]) (bs := [[(q5, .inr (3, [.int 0, .null, .null, .null, .null, .null, .null, .null, .null, .null, .null, .int 0, .int 0, .int 0, .int 0, .null, .int 0]))]]) (Bs := [[(h0, .inr (5, [.ref (q2 0), .ref q4, .long 0]))], [(q4, .inl (G.2 4, 3, .inr (.inr (.inr (.inr (fun _ => none))))))], [(q5, .inr (3, [.int 0, .null, .null, .null, .null, .null, .null, .null, .null, .null, .null, .int 0, .int 0, .int 0, .int 0, .null, .int 0]))], poB G q2 poZ]) hW [0, 1, 3, 2] (show ([0, 1, 3, 2] : List Nat).Perm (List.range 4) by decide) rfl
  have hW : Wd G A s.heap (bj [[(h0, .inr (5, [.ref (q2 0), .ref q4, .long 0]))], [(q4, .inl (G.2 4, 3, .inr (.inr (.inr (.inr (fun _ => none))))))], [(q5, .inr (3, [.int 0, .null, .null, .null, .null, .null, .null, .null, .null, .null, .null, .int 0, .int 0, .int 0, .int 0, .null, .int 0]))], poB G q2 poZ]) H locs := hW
  refine W.widen (k := 6) (n := 72) (by decide) (by decide) ?_
  refine lv_dup hx hb d_Office_init_38 rfl ?_
  refine lv_iload_n hx hb d_Office_init_39 rfl (lv_at hl 0 rfl) ?_
  refine Ct.callIB (As := [.int 0]) (rest := [.ref q5, .int 0, .ref q4]) (wr := bj [[(h0, .inr (5, [.ref (q2 0), .ref q4, .long 0]))], [(q4, .inl (G.2 4, 3, .inr (.inr (.inr (.inr (fun _ => none))))))], poB G q2 poZ]) hx hb hml hown hts hK hA hl.1 hW (bl_pick (bs := [[(q5, .inr (3, [.int 0, .null, .null, .null, .null, .null, .null, .null, .null, .null, .null, .int 0, .int 0, .int 0, .int 0, .null, .int 0]))]]) (rs := [[(h0, .inr (5, [.ref (q2 0), .ref q4, .long 0]))], [(q4, .inl (G.2 4, 3, .inr (.inr (.inr (.inr (fun _ => none))))))], poB G q2 poZ]) (Bs := [[(h0, .inr (5, [.ref (q2 0), .ref q4, .long 0]))], [(q4, .inl (G.2 4, 3, .inr (.inr (.inr (.inr (fun _ => none))))))], [(q5, .inr (3, [.int 0, .null, .null, .null, .null, .null, .null, .null, .null, .null, .null, .int 0, .int 0, .int 0, .int 0, .null, .int 0]))], poB G q2 poZ]) [2, 0, 1, 3] (show ([2, 0, 1, 3] : List Nat).Perm (List.range 4) by decide) rfl) (cb_Clerk_init l G q5 (0 : Int32) ) (cwI 1 hts (good_C w_code_Clerk_init) rfl rfl rfl (hts _ w_ini_Clerk) (hts _ w_ml_Office_24) (hts _ w_im_Clerk_init) rfl yd_Clerk_init ⟨by decide, by decide⟩) rfl rfl (Nat.le_of_ble_eq_true rfl) d_Office_init_40 ⟨by decide, by decide⟩ (fun v w' hp => by obtain ⟨-, -, -, rfl⟩ := hp; exact Nat.le_of_ble_eq_true rfl) (fun v w' H locs hp hW => ?_)
  obtain ⟨q6, eq7, rfl, rfl⟩ := hp
  have hW := Wd.blk (rs := [[(h0, .inr (5, [.ref (q2 0), .ref q4, .long 0]))], [(q4, .inl (G.2 4, 3, .inr (.inr (.inr (.inr (fun _ => none))))))], poB G q2 poZ]) (bs := [ckF G q6 (0 : Int32) ckZ0 rsZ]) (Bs := [[(h0, .inr (5, [.ref (q2 0), .ref q4, .long 0]))], [(q4, .inl (G.2 4, 3, .inr (.inr (.inr (.inr (fun _ => none))))))], ckF G q6 (0 : Int32) ckZ0 rsZ, poB G q2 poZ]) hW [0, 1, 3, 2] (show ([0, 1, 3, 2] : List Nat).Perm (List.range 4) by decide) rfl
  have eq7 : q6 0 = q5 := eq7
  have hWz := hW
  subst eq7
  have hW := hWz
  refine W.widen (k := 27) (n := 872) (by decide) (by decide) ?_
  refine W.eq (g2 := F0 m 43 ls [.ref (q6 0), .int 0, .ref q4]) rfl ?_
  refine Wd.aast (r := vr_Clerk) hx hb hK hW 1 4 2 3 d_Office_init_43 rfl rfl rfl rfl (by unfold vp_in; decide) (fun H locs hW => ?_)
  have hW : Wd G A s.heap (bj [[(h0, .inr (5, [.ref (q2 0), .ref q4, .long 0]))], [(q4, .inl (G.2 4, 3, .inr (.inr (.inr (.inr (va_up (fun _ => none) 0 (some (q6 0))))))))], ckF G q6 (0 : Int32) ckZ0 rsZ, poB G q2 poZ]) H locs := hW
  refine lv_iinc (k := 0) (v := 1) (lv' := [(1, .int 1), (0, .ref h0)]) hx hb d_Office_init_44 hl rfl (by decide) (by decide) rfl (fun ls hl => ?_)
  refine lv_goto (tgt := 25) hx hb d_Office_init_47 rfl ?_
  refine lv_iload_n hx hb d_Office_init_25 rfl (lv_at hl 0 rfl) ?_
  refine lv_iconst (v := 3) hx hb d_Office_init_26 (by decide) ?_
  refine lv_icmp_ge (tgt := 50) hx hb d_Office_init_27 rfl (fun hz => absurd hz (by decide)) (fun _ => ?_)
  refine lv_aload_n hx hb d_Office_init_30 rfl (lv_at hl 1 rfl) ?_
  refine Wd.get hx hb hts hown hK hW 0 1 in_Office w_fl_Office_20 (by decide) d_Office_init_31 rfl rfl rfl ?_
  refine lv_iload_n hx hb d_Office_init_34 rfl (lv_at hl 0 rfl) ?_
  refine Wd.new (ci := 3) (fs := [.int 0, .null, .null, .null, .null, .null, .null, .null, .null, .null, .null, .int 0, .int 0, .int 0, .int 0, .null, .int 0]) (ty0 := t_Clerk) hx hb hts hown hK hA hW in_Clerk t_Clerk_ok w_cl_Office_18 w_nb_Clerk w_ini_Clerk d_Office_init_35 rfl z_Clerk (by decide) (by decide) (fun q8 H hW => ?_)
  have hW := Wd.blk (rs := [[(h0, .inr (5, [.ref (q2 0), .ref q4, .long 0]))], [(q4, .inl (G.2 4, 3, .inr (.inr (.inr (.inr (va_up (fun _ => none) 0 (some (q6 0))))))))], ckF G q6 (0 : Int32) ckZ0 rsZ, poB G q2 poZ]) (bs := [[(q8, .inr (3, [.int 0, .null, .null, .null, .null, .null, .null, .null, .null, .null, .null, .int 0, .int 0, .int 0, .int 0, .null, .int 0]))]]) (Bs := [[(h0, .inr (5, [.ref (q2 0), .ref q4, .long 0]))], [(q4, .inl (G.2 4, 3, .inr (.inr (.inr (.inr (va_up (fun _ => none) 0 (some (q6 0))))))))], [(q8, .inr (3, [.int 0, .null, .null, .null, .null, .null, .null, .null, .null, .null, .null, .int 0, .int 0, .int 0, .int 0, .null, .int 0]))], ckF G q6 (0 : Int32) ckZ0 rsZ, poB G q2 poZ]) hW [0, 1, 4, 2, 3] (show ([0, 1, 4, 2, 3] : List Nat).Perm (List.range 5) by decide) rfl
  have hW : Wd G A s.heap (bj [[(h0, .inr (5, [.ref (q2 0), .ref q4, .long 0]))], [(q4, .inl (G.2 4, 3, .inr (.inr (.inr (.inr (va_up (fun _ => none) 0 (some (q6 0))))))))], [(q8, .inr (3, [.int 0, .null, .null, .null, .null, .null, .null, .null, .null, .null, .null, .int 0, .int 0, .int 0, .int 0, .null, .int 0]))], ckF G q6 (0 : Int32) ckZ0 rsZ, poB G q2 poZ]) H locs := hW
  refine W.widen (k := 28) (n := 889) (by decide) (by decide) ?_
  refine lv_dup hx hb d_Office_init_38 rfl ?_
  refine lv_iload_n hx hb d_Office_init_39 rfl (lv_at hl 0 rfl) ?_
  refine Ct.callIB (As := [.int 1]) (rest := [.ref q8, .int 1, .ref q4]) (wr := bj [[(h0, .inr (5, [.ref (q2 0), .ref q4, .long 0]))], [(q4, .inl (G.2 4, 3, .inr (.inr (.inr (.inr (va_up (fun _ => none) 0 (some (q6 0))))))))], ckF G q6 (0 : Int32) ckZ0 rsZ, poB G q2 poZ]) hx hb hml hown hts hK hA hl.1 hW (bl_pick (bs := [[(q8, .inr (3, [.int 0, .null, .null, .null, .null, .null, .null, .null, .null, .null, .null, .int 0, .int 0, .int 0, .int 0, .null, .int 0]))]]) (rs := [[(h0, .inr (5, [.ref (q2 0), .ref q4, .long 0]))], [(q4, .inl (G.2 4, 3, .inr (.inr (.inr (.inr (va_up (fun _ => none) 0 (some (q6 0))))))))], ckF G q6 (0 : Int32) ckZ0 rsZ, poB G q2 poZ]) (Bs := [[(h0, .inr (5, [.ref (q2 0), .ref q4, .long 0]))], [(q4, .inl (G.2 4, 3, .inr (.inr (.inr (.inr (va_up (fun _ => none) 0 (some (q6 0))))))))], [(q8, .inr (3, [.int 0, .null, .null, .null, .null, .null, .null, .null, .null, .null, .null, .int 0, .int 0, .int 0, .int 0, .null, .int 0]))], ckF G q6 (0 : Int32) ckZ0 rsZ, poB G q2 poZ]) [2, 0, 1, 3, 4] (show ([2, 0, 1, 3, 4] : List Nat).Perm (List.range 5) by decide) rfl) (cb_Clerk_init l G q8 (1 : Int32) ) (cwI 1 hts (good_C w_code_Clerk_init) rfl rfl rfl (hts _ w_ini_Clerk) (hts _ w_ml_Office_24) (hts _ w_im_Clerk_init) rfl yd_Clerk_init ⟨by decide, by decide⟩) rfl rfl (Nat.le_of_ble_eq_true rfl) d_Office_init_40 ⟨by decide, by decide⟩ (fun v w' hp => by obtain ⟨-, -, -, rfl⟩ := hp; exact Nat.le_of_ble_eq_true rfl) (fun v w' H locs hp hW => ?_)
  obtain ⟨q9, eq10, rfl, rfl⟩ := hp
  have hW := Wd.blk (rs := [[(h0, .inr (5, [.ref (q2 0), .ref q4, .long 0]))], [(q4, .inl (G.2 4, 3, .inr (.inr (.inr (.inr (va_up (fun _ => none) 0 (some (q6 0))))))))], ckF G q6 (0 : Int32) ckZ0 rsZ, poB G q2 poZ]) (bs := [ckF G q9 (1 : Int32) ckZ0 rsZ]) (Bs := [[(h0, .inr (5, [.ref (q2 0), .ref q4, .long 0]))], [(q4, .inl (G.2 4, 3, .inr (.inr (.inr (.inr (va_up (fun _ => none) 0 (some (q6 0))))))))], ckF G q9 (1 : Int32) ckZ0 rsZ, ckF G q6 (0 : Int32) ckZ0 rsZ, poB G q2 poZ]) hW [0, 1, 4, 2, 3] (show ([0, 1, 4, 2, 3] : List Nat).Perm (List.range 5) by decide) rfl
  have eq10 : q9 0 = q8 := eq10
  have hWz := hW
  subst eq10
  have hW := hWz
  refine W.widen (k := 49) (n := 1689) (by decide) (by decide) ?_
  refine W.eq (g2 := F0 m 43 ls [.ref (q9 0), .int 1, .ref q4]) rfl ?_
  refine Wd.aast (r := vr_Clerk) hx hb hK hW 1 4 2 3 d_Office_init_43 rfl rfl rfl rfl (by unfold vp_in; decide) (fun H locs hW => ?_)
  have hW : Wd G A s.heap (bj [[(h0, .inr (5, [.ref (q2 0), .ref q4, .long 0]))], [(q4, .inl (G.2 4, 3, .inr (.inr (.inr (.inr (va_up (va_up (fun _ => none) 0 (some (q6 0))) 1 (some (q9 0))))))))], ckF G q9 (1 : Int32) ckZ0 rsZ, ckF G q6 (0 : Int32) ckZ0 rsZ, poB G q2 poZ]) H locs := hW
  refine lv_iinc (k := 0) (v := 2) (lv' := [(1, .int 2), (0, .ref h0)]) hx hb d_Office_init_44 hl rfl (by decide) (by decide) rfl (fun ls hl => ?_)
  refine lv_goto (tgt := 25) hx hb d_Office_init_47 rfl ?_
  refine lv_iload_n hx hb d_Office_init_25 rfl (lv_at hl 0 rfl) ?_
  refine lv_iconst (v := 3) hx hb d_Office_init_26 (by decide) ?_
  refine lv_icmp_ge (tgt := 50) hx hb d_Office_init_27 rfl (fun hz => absurd hz (by decide)) (fun _ => ?_)
  refine lv_aload_n hx hb d_Office_init_30 rfl (lv_at hl 1 rfl) ?_
  refine Wd.get hx hb hts hown hK hW 0 1 in_Office w_fl_Office_20 (by decide) d_Office_init_31 rfl rfl rfl ?_
  refine lv_iload_n hx hb d_Office_init_34 rfl (lv_at hl 0 rfl) ?_
  refine Wd.new (ci := 3) (fs := [.int 0, .null, .null, .null, .null, .null, .null, .null, .null, .null, .null, .int 0, .int 0, .int 0, .int 0, .null, .int 0]) (ty0 := t_Clerk) hx hb hts hown hK hA hW in_Clerk t_Clerk_ok w_cl_Office_18 w_nb_Clerk w_ini_Clerk d_Office_init_35 rfl z_Clerk (by decide) (by decide) (fun q11 H hW => ?_)
  have hW := Wd.blk (rs := [[(h0, .inr (5, [.ref (q2 0), .ref q4, .long 0]))], [(q4, .inl (G.2 4, 3, .inr (.inr (.inr (.inr (va_up (va_up (fun _ => none) 0 (some (q6 0))) 1 (some (q9 0))))))))], ckF G q9 (1 : Int32) ckZ0 rsZ, ckF G q6 (0 : Int32) ckZ0 rsZ, poB G q2 poZ]) (bs := [[(q11, .inr (3, [.int 0, .null, .null, .null, .null, .null, .null, .null, .null, .null, .null, .int 0, .int 0, .int 0, .int 0, .null, .int 0]))]]) (Bs := [[(h0, .inr (5, [.ref (q2 0), .ref q4, .long 0]))], [(q4, .inl (G.2 4, 3, .inr (.inr (.inr (.inr (va_up (va_up (fun _ => none) 0 (some (q6 0))) 1 (some (q9 0))))))))], [(q11, .inr (3, [.int 0, .null, .null, .null, .null, .null, .null, .null, .null, .null, .null, .int 0, .int 0, .int 0, .int 0, .null, .int 0]))], ckF G q9 (1 : Int32) ckZ0 rsZ, ckF G q6 (0 : Int32) ckZ0 rsZ, poB G q2 poZ]) hW [0, 1, 5, 2, 3, 4] (show ([0, 1, 5, 2, 3, 4] : List Nat).Perm (List.range 6) by decide) rfl
  have hW : Wd G A s.heap (bj [[(h0, .inr (5, [.ref (q2 0), .ref q4, .long 0]))], [(q4, .inl (G.2 4, 3, .inr (.inr (.inr (.inr (va_up (va_up (fun _ => none) 0 (some (q6 0))) 1 (some (q9 0))))))))], [(q11, .inr (3, [.int 0, .null, .null, .null, .null, .null, .null, .null, .null, .null, .null, .int 0, .int 0, .int 0, .int 0, .null, .int 0]))], ckF G q9 (1 : Int32) ckZ0 rsZ, ckF G q6 (0 : Int32) ckZ0 rsZ, poB G q2 poZ]) H locs := hW
  refine W.widen (k := 50) (n := 1706) (by decide) (by decide) ?_
  refine lv_dup hx hb d_Office_init_38 rfl ?_
  refine lv_iload_n hx hb d_Office_init_39 rfl (lv_at hl 0 rfl) ?_
  refine Ct.callIB (As := [.int 2]) (rest := [.ref q11, .int 2, .ref q4]) (wr := bj [[(h0, .inr (5, [.ref (q2 0), .ref q4, .long 0]))], [(q4, .inl (G.2 4, 3, .inr (.inr (.inr (.inr (va_up (va_up (fun _ => none) 0 (some (q6 0))) 1 (some (q9 0))))))))], ckF G q9 (1 : Int32) ckZ0 rsZ, ckF G q6 (0 : Int32) ckZ0 rsZ, poB G q2 poZ]) hx hb hml hown hts hK hA hl.1 hW (bl_pick (bs := [[(q11, .inr (3, [.int 0, .null, .null, .null, .null, .null, .null, .null, .null, .null, .null, .int 0, .int 0, .int 0, .int 0, .null, .int 0]))]]) (rs := [[(h0, .inr (5, [.ref (q2 0), .ref q4, .long 0]))], [(q4, .inl (G.2 4, 3, .inr (.inr (.inr (.inr (va_up (va_up (fun _ => none) 0 (some (q6 0))) 1 (some (q9 0))))))))], ckF G q9 (1 : Int32) ckZ0 rsZ, ckF G q6 (0 : Int32) ckZ0 rsZ, poB G q2 poZ]) (Bs := [[(h0, .inr (5, [.ref (q2 0), .ref q4, .long 0]))], [(q4, .inl (G.2 4, 3, .inr (.inr (.inr (.inr (va_up (va_up (fun _ => none) 0 (some (q6 0))) 1 (some (q9 0))))))))], [(q11, .inr (3, [.int 0, .null, .null, .null, .null, .null, .null, .null, .null, .null, .null, .int 0, .int 0, .int 0, .int 0, .null, .int 0]))], ckF G q9 (1 : Int32) ckZ0 rsZ, ckF G q6 (0 : Int32) ckZ0 rsZ, poB G q2 poZ]) [2, 0, 1, 3, 4, 5] (show ([2, 0, 1, 3, 4, 5] : List Nat).Perm (List.range 6) by decide) rfl) (cb_Clerk_init l G q11 (2 : Int32) ) (cwI 1 hts (good_C w_code_Clerk_init) rfl rfl rfl (hts _ w_ini_Clerk) (hts _ w_ml_Office_24) (hts _ w_im_Clerk_init) rfl yd_Clerk_init ⟨by decide, by decide⟩) rfl rfl (Nat.le_of_ble_eq_true rfl) d_Office_init_40 ⟨by decide, by decide⟩ (fun v w' hp => by obtain ⟨-, -, -, rfl⟩ := hp; exact Nat.le_of_ble_eq_true rfl) (fun v w' H locs hp hW => ?_)
  obtain ⟨q12, eq13, rfl, rfl⟩ := hp
  have hW := Wd.blk (rs := [[(h0, .inr (5, [.ref (q2 0), .ref q4, .long 0]))], [(q4, .inl (G.2 4, 3, .inr (.inr (.inr (.inr (va_up (va_up (fun _ => none) 0 (some (q6 0))) 1 (some (q9 0))))))))], ckF G q9 (1 : Int32) ckZ0 rsZ, ckF G q6 (0 : Int32) ckZ0 rsZ, poB G q2 poZ]) (bs := [ckF G q12 (2 : Int32) ckZ0 rsZ]) (Bs := [[(h0, .inr (5, [.ref (q2 0), .ref q4, .long 0]))], [(q4, .inl (G.2 4, 3, .inr (.inr (.inr (.inr (va_up (va_up (fun _ => none) 0 (some (q6 0))) 1 (some (q9 0))))))))], ckF G q12 (2 : Int32) ckZ0 rsZ, ckF G q9 (1 : Int32) ckZ0 rsZ, ckF G q6 (0 : Int32) ckZ0 rsZ, poB G q2 poZ]) hW [0, 1, 5, 2, 3, 4] (show ([0, 1, 5, 2, 3, 4] : List Nat).Perm (List.range 6) by decide) rfl
  have eq13 : q12 0 = q11 := eq13
  have hWz := hW
  subst eq13
  have hW := hWz
  refine W.widen (k := 71) (n := 2506) (by decide) (by decide) ?_
  refine W.eq (g2 := F0 m 43 ls [.ref (q12 0), .int 2, .ref q4]) rfl ?_
  refine Wd.aast (r := vr_Clerk) hx hb hK hW 1 4 2 3 d_Office_init_43 rfl rfl rfl rfl (by unfold vp_in; decide) (fun H locs hW => ?_)
  have hW : Wd G A s.heap (bj [[(h0, .inr (5, [.ref (q2 0), .ref q4, .long 0]))], [(q4, .inl (G.2 4, 3, .inr (.inr (.inr (.inr (va_up (va_up (va_up (fun _ => none) 0 (some (q6 0))) 1 (some (q9 0))) 2 (some (q12 0))))))))], ckF G q12 (2 : Int32) ckZ0 rsZ, ckF G q9 (1 : Int32) ckZ0 rsZ, ckF G q6 (0 : Int32) ckZ0 rsZ, poB G q2 poZ]) H locs := hW
  refine lv_iinc (k := 0) (v := 3) (lv' := [(1, .int 3), (0, .ref h0)]) hx hb d_Office_init_44 hl rfl (by decide) (by decide) rfl (fun ls hl => ?_)
  refine lv_goto (tgt := 25) hx hb d_Office_init_47 rfl ?_
  refine lv_iload_n hx hb d_Office_init_25 rfl (lv_at hl 0 rfl) ?_
  refine lv_iconst (v := 3) hx hb d_Office_init_26 (by decide) ?_
  refine lv_icmp_ge (tgt := 50) hx hb d_Office_init_27 rfl (fun _ => ?_) (fun hz => absurd (by decide) hz)
  exact Ct.vret hx hb hr hnl hW (by decide) (by decide) d_Office_init_50 ⟨q4, q12, q9, q6, q2, rfl, rfl⟩

abbrev rm_Office_prepare : Room := { frames := 3, cells := 0, slots := 0, locals := 69 }
set_option maxHeartbeats 4000000 in
set_option maxRecDepth 100000 in
theorem c_Office_prepare (l : Launch) (G : Gt) (h0 : Nat) (k : Nat → Nat) (h2 : Nat) (ch : Int64) (cf : Nat → Option Nat) (P : PoT) (a0 : Nat → Nat) (a1 : Nat → Nat) (a2 : Nat → Nat) (S0 : CkT) (S1 : CkT) (S2 : CkT) (r0 : RsT) (r1 : RsT) (r2 : RsT) (z : Nat → Nat) (x : ScT) (h4 : Nat) (ky : Nat → Int64) (rn : Int32) (hcf0 : cf 0 = some (a0 0)) (hcf1 : cf 1 = some (a1 0)) (hcf2 : cf 2 = some (a2 0)) (hc0 : ¬ x.2.2.2.2.2.1 < 0) (hc1 : x.2.2.2.2.2.1.toNatClampNeg ≤ 132) : Ct l G y_Office_prepare b_Office_prepare 5 none rm_Office_prepare [.ref h0, .ref (z 0), .ref h4, .int rn] (bj [[(h0, .inr (5, [.ref (k 0), .ref h2, .long ch]))], [(h2, .inl (G.2 4, 3, .inr (.inr (.inr (.inr cf)))))], [(h4, .inl (G.2 1, 3, .inr (.inl ky)))], poB G k P, ckF G a0 0 S0 r0, ckF G a1 1 S1 r1, ckF G a2 2 S2 r2, scB G z x]) 0 0 (fun v w' => v = none ∧ w' = (bj [[(h0, .inr (5, [.ref (k 0), .ref h2, .long ch]))], [(h2, .inl (G.2 4, 3, .inr (.inr (.inr (.inr cf)))))], [(h4, .inl (G.2 1, 3, .inr (.inl ky)))], poB G k (0, P.2), ckF G a0 0 (ckPr S0) (scCp x r0.1, (zI, r0.2.1.2), ((ky 0), (ky 1), rn)), ckF G a1 1 (ckPr S1) (scCp x r1.1, (zI, r1.2.1.2), ((ky 1), (ky 2), rn)), ckF G a2 2 (ckPr S2) (scCp x r2.1, (zI, r2.2.1.2), ((ky 2), (ky 0), rn)), scB G z x])) := by
  refine Ct.of (by decide) (Nat.le_of_ble_eq_true rfl) (fun p e s m args below meth c A ls H locs hx hb hml hr hnl hown hts hnm hK hA hl hW => ?_)
  have hl : lv_has ls 5 [(0, .ref h0), (1, .ref (z 0)), (2, .ref h4), (3, .int rn)] := hl
  refine lv_aload_n hx hb d_Office_prepare_0 rfl (lv_at hl 0 rfl) ?_
  refine Wd.get hx hb hts hown hK hW 0 0 in_Office w_fl_Office_12 (by decide) d_Office_prepare_1 rfl rfl rfl ?_
  refine Ct.callVB (As := []) (rest := []) (wr := bj [[(h0, .inr (5, [.ref (k 0), .ref h2, .long ch]))], [(h2, .inl (G.2 4, 3, .inr (.inr (.inr (.inr cf)))))], [(h4, .inl (G.2 1, 3, .inr (.inl ky)))], ckF G a0 0 S0 r0, ckF G a1 1 S1 r1, ckF G a2 2 S2 r2, scB G z x]) hx hb hml hown hts hK hA hl.1 hW (bl_pick (bs := [poB G k P]) (rs := [[(h0, .inr (5, [.ref (k 0), .ref h2, .long ch]))], [(h2, .inl (G.2 4, 3, .inr (.inr (.inr (.inr cf)))))], [(h4, .inl (G.2 1, 3, .inr (.inl ky)))], ckF G a0 0 S0 r0, ckF G a1 1 S1 r1, ckF G a2 2 S2 r2, scB G z x]) (Bs := [[(h0, .inr (5, [.ref (k 0), .ref h2, .long ch]))], [(h2, .inl (G.2 4, 3, .inr (.inr (.inr (.inr cf)))))], [(h4, .inl (G.2 1, 3, .inr (.inl ky)))], poB G k P, ckF G a0 0 S0 r0, ckF G a1 1 S1 r1, ckF G a2 2 S2 r2, scB G z x]) [3, 0, 1, 2, 4, 5, 6, 7] (show ([3, 0, 1, 2, 4, 5, 6, 7] : List Nat).Perm (List.range 8) by decide) rfl) (cb_Post_clear l G k P ) (cwV 0 hts (good_V w_ml_Office_27 w_im_Post_clear w_se_Post_clear w_ini_Post w_code_Post_clear) rfl rfl rfl yd_Post_clear ⟨by decide, by decide⟩) (ci := 8) (r := vr_Post) rfl rfl rfl rfl rfl (Nat.le_of_ble_eq_true rfl) d_Office_prepare_4 ⟨by decide, by decide⟩ (fun v w' hp => by obtain ⟨-, rfl⟩ := hp; exact Nat.le_of_ble_eq_true rfl) (fun v w' H locs hp hW => ?_)
  obtain ⟨rfl, rfl⟩ := hp
  have hW := Wd.blk (rs := [[(h0, .inr (5, [.ref (k 0), .ref h2, .long ch]))], [(h2, .inl (G.2 4, 3, .inr (.inr (.inr (.inr cf)))))], [(h4, .inl (G.2 1, 3, .inr (.inl ky)))], ckF G a0 0 S0 r0, ckF G a1 1 S1 r1, ckF G a2 2 S2 r2, scB G z x]) (bs := [poB G k (0, P.2)]) (Bs := [[(h0, .inr (5, [.ref (k 0), .ref h2, .long ch]))], [(h2, .inl (G.2 4, 3, .inr (.inr (.inr (.inr cf)))))], [(h4, .inl (G.2 1, 3, .inr (.inl ky)))], poB G k (0, P.2), ckF G a0 0 S0 r0, ckF G a1 1 S1 r1, ckF G a2 2 S2 r2, scB G z x]) hW [0, 1, 2, 7, 3, 4, 5, 6] (show ([0, 1, 2, 7, 3, 4, 5, 6] : List Nat).Perm (List.range 8) by decide) rfl
  refine W.eq (g2 := F0 m 7 ls []) rfl ?_
  refine lv_iconst (v := 0) hx hb d_Office_prepare_7 (by decide) ?_
  refine lv_istore (lv' := [(4, .int 0), (0, .ref h0), (1, .ref (z 0)), (2, .ref h4), (3, .int rn)]) hx hb d_Office_prepare_8 hl (by decide) rfl (fun ls hl => ?_)
  refine lv_iload hx hb d_Office_prepare_10 (lv_at hl 0 rfl) ?_
  refine lv_iconst (v := 3) hx hb d_Office_prepare_12 (by decide) ?_
  refine lv_icmp_ge (tgt := 46) hx hb d_Office_prepare_13 rfl (fun hz => absurd hz (by decide)) (fun _ => ?_)
  refine lv_aload_n hx hb d_Office_prepare_16 rfl (lv_at hl 1 rfl) ?_
  refine Wd.get hx hb hts hown hK hW 0 1 in_Office w_fl_Office_20 (by decide) d_Office_prepare_17 rfl rfl rfl ?_
  refine lv_iload hx hb d_Office_prepare_20 (lv_at hl 0 rfl) ?_
  refine Wd.aald hx hb hK hW 1 4 d_Office_prepare_22 rfl rfl (by unfold vp_in; decide) hcf0 ?_
  refine lv_aload_n hx hb d_Office_prepare_23 rfl (lv_at hl 2 rfl) ?_
  refine lv_aload_n hx hb d_Office_prepare_24 rfl (lv_at hl 3 rfl) ?_
  refine lv_iload hx hb d_Office_prepare_25 (lv_at hl 0 rfl) ?_
  refine Wd.lald hx hb hK hW 2 d_Office_prepare_27 rfl (by unfold vp_in; decide) ?_
  refine lv_aload_n hx hb d_Office_prepare_28 rfl (lv_at hl 3 rfl) ?_
  refine lv_iload hx hb d_Office_prepare_29 (lv_at hl 0 rfl) ?_
  refine lv_iconst (v := 1) hx hb d_Office_prepare_31 (by decide) ?_
  refine lv_iadd hx hb d_Office_prepare_32 ?_
  refine lv_topi (fun cz ez => ?_)
  obtain rfl : cz = 1 := ez.trans (by decide)
  refine lv_iconst (v := 3) hx hb d_Office_prepare_33 (by decide) ?_
  refine lv_irem hx hb d_Office_prepare_34 (by decide) ?_
  refine lv_topi (fun cz ez => ?_)
  obtain rfl : cz = 1 := ez.trans (by decide)
  refine Wd.lald hx hb hK hW 2 d_Office_prepare_35 rfl (by unfold vp_in; decide) ?_
  refine lv_iload_n hx hb d_Office_prepare_36 rfl (lv_at hl 4 rfl) ?_
  refine Ct.callVB (As := [.ref (z 0), .long (ky 0), .long (ky 1), .int rn]) (rest := []) (wr := bj [[(h0, .inr (5, [.ref (k 0), .ref h2, .long ch]))], [(h2, .inl (G.2 4, 3, .inr (.inr (.inr (.inr cf)))))], [(h4, .inl (G.2 1, 3, .inr (.inl ky)))], poB G k (0, P.2), ckF G a1 1 S1 r1, ckF G a2 2 S2 r2]) hx hb hml hown hts hK hA hl.1 hW (bl_pick (bs := [ckF G a0 0 S0 r0, scB G z x]) (rs := [[(h0, .inr (5, [.ref (k 0), .ref h2, .long ch]))], [(h2, .inl (G.2 4, 3, .inr (.inr (.inr (.inr cf)))))], [(h4, .inl (G.2 1, 3, .inr (.inl ky)))], poB G k (0, P.2), ckF G a1 1 S1 r1, ckF G a2 2 S2 r2]) (Bs := [[(h0, .inr (5, [.ref (k 0), .ref h2, .long ch]))], [(h2, .inl (G.2 4, 3, .inr (.inr (.inr (.inr cf)))))], [(h4, .inl (G.2 1, 3, .inr (.inl ky)))], poB G k (0, P.2), ckF G a0 0 S0 r0, ckF G a1 1 S1 r1, ckF G a2 2 S2 r2, scB G z x]) [4, 7, 0, 1, 2, 3, 5, 6] (show ([4, 7, 0, 1, 2, 3, 5, 6] : List Nat).Perm (List.range 8) by decide) rfl) (cb_Clerk_prepare l G a0 0 S0 r0 z x (ky 0) (ky 1) rn (by first | assumption | omega | decide) (by first | assumption | omega | decide)) (cwV 4 hts (good_V w_ml_Office_30 w_im_Clerk_prepare w_se_Clerk_prepare w_ini_Clerk w_code_Clerk_prepare) rfl rfl rfl yd_Clerk_prepare ⟨by decide, by decide⟩) (ci := 3) (r := vr_Clerk) rfl rfl rfl rfl rfl (Nat.le_of_ble_eq_true rfl) d_Office_prepare_37 ⟨by decide, by decide⟩ (fun v w' hp => by obtain ⟨-, rfl⟩ := hp; exact Nat.le_of_ble_eq_true rfl) (fun v w' H locs hp hW => ?_)
  obtain ⟨rfl, rfl⟩ := hp
  have hW := Wd.blk (rs := [[(h0, .inr (5, [.ref (k 0), .ref h2, .long ch]))], [(h2, .inl (G.2 4, 3, .inr (.inr (.inr (.inr cf)))))], [(h4, .inl (G.2 1, 3, .inr (.inl ky)))], poB G k (0, P.2), ckF G a1 1 S1 r1, ckF G a2 2 S2 r2]) (bs := [ckF G a0 0 (ckPr S0) (scCp x r0.1, (zI, r0.2.1.2), ((ky 0), (ky 1), rn)), scB G z x]) (Bs := [[(h0, .inr (5, [.ref (k 0), .ref h2, .long ch]))], [(h2, .inl (G.2 4, 3, .inr (.inr (.inr (.inr cf)))))], [(h4, .inl (G.2 1, 3, .inr (.inl ky)))], poB G k (0, P.2), ckF G a0 0 (ckPr S0) (scCp x r0.1, (zI, r0.2.1.2), ((ky 0), (ky 1), rn)), ckF G a1 1 S1 r1, ckF G a2 2 S2 r2, scB G z x]) hW [0, 1, 2, 3, 6, 4, 5, 7] (show ([0, 1, 2, 3, 6, 4, 5, 7] : List Nat).Perm (List.range 8) by decide) rfl
  refine W.eq (g2 := F0 m 40 ls []) rfl ?_
  refine lv_iinc (k := 0) (v := 1) (lv' := [(4, .int 1), (0, .ref h0), (1, .ref (z 0)), (2, .ref h4), (3, .int rn)]) hx hb d_Office_prepare_40 hl rfl (by decide) (by decide) rfl (fun ls hl => ?_)
  refine lv_goto (tgt := 10) hx hb d_Office_prepare_43 rfl ?_
  refine lv_iload hx hb d_Office_prepare_10 (lv_at hl 0 rfl) ?_
  refine lv_iconst (v := 3) hx hb d_Office_prepare_12 (by decide) ?_
  refine lv_icmp_ge (tgt := 46) hx hb d_Office_prepare_13 rfl (fun hz => absurd hz (by decide)) (fun _ => ?_)
  refine lv_aload_n hx hb d_Office_prepare_16 rfl (lv_at hl 1 rfl) ?_
  refine Wd.get hx hb hts hown hK hW 0 1 in_Office w_fl_Office_20 (by decide) d_Office_prepare_17 rfl rfl rfl ?_
  refine lv_iload hx hb d_Office_prepare_20 (lv_at hl 0 rfl) ?_
  refine Wd.aald hx hb hK hW 1 4 d_Office_prepare_22 rfl rfl (by unfold vp_in; decide) hcf1 ?_
  refine lv_aload_n hx hb d_Office_prepare_23 rfl (lv_at hl 2 rfl) ?_
  refine lv_aload_n hx hb d_Office_prepare_24 rfl (lv_at hl 3 rfl) ?_
  refine lv_iload hx hb d_Office_prepare_25 (lv_at hl 0 rfl) ?_
  refine Wd.lald hx hb hK hW 2 d_Office_prepare_27 rfl (by unfold vp_in; decide) ?_
  refine lv_aload_n hx hb d_Office_prepare_28 rfl (lv_at hl 3 rfl) ?_
  refine lv_iload hx hb d_Office_prepare_29 (lv_at hl 0 rfl) ?_
  refine lv_iconst (v := 1) hx hb d_Office_prepare_31 (by decide) ?_
  refine lv_iadd hx hb d_Office_prepare_32 ?_
  refine lv_topi (fun cz ez => ?_)
  obtain rfl : cz = 2 := ez.trans (by decide)
  refine lv_iconst (v := 3) hx hb d_Office_prepare_33 (by decide) ?_
  refine lv_irem hx hb d_Office_prepare_34 (by decide) ?_
  refine lv_topi (fun cz ez => ?_)
  obtain rfl : cz = 2 := ez.trans (by decide)
  refine Wd.lald hx hb hK hW 2 d_Office_prepare_35 rfl (by unfold vp_in; decide) ?_
  refine lv_iload_n hx hb d_Office_prepare_36 rfl (lv_at hl 4 rfl) ?_
  refine Ct.callVB (As := [.ref (z 0), .long (ky 1), .long (ky 2), .int rn]) (rest := []) (wr := bj [[(h0, .inr (5, [.ref (k 0), .ref h2, .long ch]))], [(h2, .inl (G.2 4, 3, .inr (.inr (.inr (.inr cf)))))], [(h4, .inl (G.2 1, 3, .inr (.inl ky)))], poB G k (0, P.2), ckF G a0 0 (ckPr S0) (scCp x r0.1, (zI, r0.2.1.2), ((ky 0), (ky 1), rn)), ckF G a2 2 S2 r2]) hx hb hml hown hts hK hA hl.1 hW (bl_pick (bs := [ckF G a1 1 S1 r1, scB G z x]) (rs := [[(h0, .inr (5, [.ref (k 0), .ref h2, .long ch]))], [(h2, .inl (G.2 4, 3, .inr (.inr (.inr (.inr cf)))))], [(h4, .inl (G.2 1, 3, .inr (.inl ky)))], poB G k (0, P.2), ckF G a0 0 (ckPr S0) (scCp x r0.1, (zI, r0.2.1.2), ((ky 0), (ky 1), rn)), ckF G a2 2 S2 r2]) (Bs := [[(h0, .inr (5, [.ref (k 0), .ref h2, .long ch]))], [(h2, .inl (G.2 4, 3, .inr (.inr (.inr (.inr cf)))))], [(h4, .inl (G.2 1, 3, .inr (.inl ky)))], poB G k (0, P.2), ckF G a0 0 (ckPr S0) (scCp x r0.1, (zI, r0.2.1.2), ((ky 0), (ky 1), rn)), ckF G a1 1 S1 r1, ckF G a2 2 S2 r2, scB G z x]) [5, 7, 0, 1, 2, 3, 4, 6] (show ([5, 7, 0, 1, 2, 3, 4, 6] : List Nat).Perm (List.range 8) by decide) rfl) (cb_Clerk_prepare l G a1 1 S1 r1 z x (ky 1) (ky 2) rn (by first | assumption | omega | decide) (by first | assumption | omega | decide)) (cwV 4 hts (good_V w_ml_Office_30 w_im_Clerk_prepare w_se_Clerk_prepare w_ini_Clerk w_code_Clerk_prepare) rfl rfl rfl yd_Clerk_prepare ⟨by decide, by decide⟩) (ci := 3) (r := vr_Clerk) rfl rfl rfl rfl rfl (Nat.le_of_ble_eq_true rfl) d_Office_prepare_37 ⟨by decide, by decide⟩ (fun v w' hp => by obtain ⟨-, rfl⟩ := hp; exact Nat.le_of_ble_eq_true rfl) (fun v w' H locs hp hW => ?_)
  obtain ⟨rfl, rfl⟩ := hp
  have hW := Wd.blk (rs := [[(h0, .inr (5, [.ref (k 0), .ref h2, .long ch]))], [(h2, .inl (G.2 4, 3, .inr (.inr (.inr (.inr cf)))))], [(h4, .inl (G.2 1, 3, .inr (.inl ky)))], poB G k (0, P.2), ckF G a0 0 (ckPr S0) (scCp x r0.1, (zI, r0.2.1.2), ((ky 0), (ky 1), rn)), ckF G a2 2 S2 r2]) (bs := [ckF G a1 1 (ckPr S1) (scCp x r1.1, (zI, r1.2.1.2), ((ky 1), (ky 2), rn)), scB G z x]) (Bs := [[(h0, .inr (5, [.ref (k 0), .ref h2, .long ch]))], [(h2, .inl (G.2 4, 3, .inr (.inr (.inr (.inr cf)))))], [(h4, .inl (G.2 1, 3, .inr (.inl ky)))], poB G k (0, P.2), ckF G a0 0 (ckPr S0) (scCp x r0.1, (zI, r0.2.1.2), ((ky 0), (ky 1), rn)), ckF G a1 1 (ckPr S1) (scCp x r1.1, (zI, r1.2.1.2), ((ky 1), (ky 2), rn)), ckF G a2 2 S2 r2, scB G z x]) hW [0, 1, 2, 3, 4, 6, 5, 7] (show ([0, 1, 2, 3, 4, 6, 5, 7] : List Nat).Perm (List.range 8) by decide) rfl
  refine W.eq (g2 := F0 m 40 ls []) rfl ?_
  refine lv_iinc (k := 0) (v := 2) (lv' := [(4, .int 2), (0, .ref h0), (1, .ref (z 0)), (2, .ref h4), (3, .int rn)]) hx hb d_Office_prepare_40 hl rfl (by decide) (by decide) rfl (fun ls hl => ?_)
  refine lv_goto (tgt := 10) hx hb d_Office_prepare_43 rfl ?_
  refine lv_iload hx hb d_Office_prepare_10 (lv_at hl 0 rfl) ?_
  refine lv_iconst (v := 3) hx hb d_Office_prepare_12 (by decide) ?_
  refine lv_icmp_ge (tgt := 46) hx hb d_Office_prepare_13 rfl (fun hz => absurd hz (by decide)) (fun _ => ?_)
  refine lv_aload_n hx hb d_Office_prepare_16 rfl (lv_at hl 1 rfl) ?_
  refine Wd.get hx hb hts hown hK hW 0 1 in_Office w_fl_Office_20 (by decide) d_Office_prepare_17 rfl rfl rfl ?_
  refine lv_iload hx hb d_Office_prepare_20 (lv_at hl 0 rfl) ?_
  refine Wd.aald hx hb hK hW 1 4 d_Office_prepare_22 rfl rfl (by unfold vp_in; decide) hcf2 ?_
  refine lv_aload_n hx hb d_Office_prepare_23 rfl (lv_at hl 2 rfl) ?_
  refine lv_aload_n hx hb d_Office_prepare_24 rfl (lv_at hl 3 rfl) ?_
  refine lv_iload hx hb d_Office_prepare_25 (lv_at hl 0 rfl) ?_
  refine Wd.lald hx hb hK hW 2 d_Office_prepare_27 rfl (by unfold vp_in; decide) ?_
  refine lv_aload_n hx hb d_Office_prepare_28 rfl (lv_at hl 3 rfl) ?_
  refine lv_iload hx hb d_Office_prepare_29 (lv_at hl 0 rfl) ?_
  refine lv_iconst (v := 1) hx hb d_Office_prepare_31 (by decide) ?_
  refine lv_iadd hx hb d_Office_prepare_32 ?_
  refine lv_topi (fun cz ez => ?_)
  obtain rfl : cz = 3 := ez.trans (by decide)
  refine lv_iconst (v := 3) hx hb d_Office_prepare_33 (by decide) ?_
  refine lv_irem hx hb d_Office_prepare_34 (by decide) ?_
  refine lv_topi (fun cz ez => ?_)
  obtain rfl : cz = 0 := ez.trans (by decide)
  refine Wd.lald hx hb hK hW 2 d_Office_prepare_35 rfl (by unfold vp_in; decide) ?_
  refine lv_iload_n hx hb d_Office_prepare_36 rfl (lv_at hl 4 rfl) ?_
  refine Ct.callVB (As := [.ref (z 0), .long (ky 2), .long (ky 0), .int rn]) (rest := []) (wr := bj [[(h0, .inr (5, [.ref (k 0), .ref h2, .long ch]))], [(h2, .inl (G.2 4, 3, .inr (.inr (.inr (.inr cf)))))], [(h4, .inl (G.2 1, 3, .inr (.inl ky)))], poB G k (0, P.2), ckF G a0 0 (ckPr S0) (scCp x r0.1, (zI, r0.2.1.2), ((ky 0), (ky 1), rn)), ckF G a1 1 (ckPr S1) (scCp x r1.1, (zI, r1.2.1.2), ((ky 1), (ky 2), rn))]) hx hb hml hown hts hK hA hl.1 hW (bl_pick (bs := [ckF G a2 2 S2 r2, scB G z x]) (rs := [[(h0, .inr (5, [.ref (k 0), .ref h2, .long ch]))], [(h2, .inl (G.2 4, 3, .inr (.inr (.inr (.inr cf)))))], [(h4, .inl (G.2 1, 3, .inr (.inl ky)))], poB G k (0, P.2), ckF G a0 0 (ckPr S0) (scCp x r0.1, (zI, r0.2.1.2), ((ky 0), (ky 1), rn)), ckF G a1 1 (ckPr S1) (scCp x r1.1, (zI, r1.2.1.2), ((ky 1), (ky 2), rn))]) (Bs := [[(h0, .inr (5, [.ref (k 0), .ref h2, .long ch]))], [(h2, .inl (G.2 4, 3, .inr (.inr (.inr (.inr cf)))))], [(h4, .inl (G.2 1, 3, .inr (.inl ky)))], poB G k (0, P.2), ckF G a0 0 (ckPr S0) (scCp x r0.1, (zI, r0.2.1.2), ((ky 0), (ky 1), rn)), ckF G a1 1 (ckPr S1) (scCp x r1.1, (zI, r1.2.1.2), ((ky 1), (ky 2), rn)), ckF G a2 2 S2 r2, scB G z x]) [6, 7, 0, 1, 2, 3, 4, 5] (show ([6, 7, 0, 1, 2, 3, 4, 5] : List Nat).Perm (List.range 8) by decide) rfl) (cb_Clerk_prepare l G a2 2 S2 r2 z x (ky 2) (ky 0) rn (by first | assumption | omega | decide) (by first | assumption | omega | decide)) (cwV 4 hts (good_V w_ml_Office_30 w_im_Clerk_prepare w_se_Clerk_prepare w_ini_Clerk w_code_Clerk_prepare) rfl rfl rfl yd_Clerk_prepare ⟨by decide, by decide⟩) (ci := 3) (r := vr_Clerk) rfl rfl rfl rfl rfl (Nat.le_of_ble_eq_true rfl) d_Office_prepare_37 ⟨by decide, by decide⟩ (fun v w' hp => by obtain ⟨-, rfl⟩ := hp; exact Nat.le_of_ble_eq_true rfl) (fun v w' H locs hp hW => ?_)
  obtain ⟨rfl, rfl⟩ := hp
  have hW := Wd.blk (rs := [[(h0, .inr (5, [.ref (k 0), .ref h2, .long ch]))], [(h2, .inl (G.2 4, 3, .inr (.inr (.inr (.inr cf)))))], [(h4, .inl (G.2 1, 3, .inr (.inl ky)))], poB G k (0, P.2), ckF G a0 0 (ckPr S0) (scCp x r0.1, (zI, r0.2.1.2), ((ky 0), (ky 1), rn)), ckF G a1 1 (ckPr S1) (scCp x r1.1, (zI, r1.2.1.2), ((ky 1), (ky 2), rn))]) (bs := [ckF G a2 2 (ckPr S2) (scCp x r2.1, (zI, r2.2.1.2), ((ky 2), (ky 0), rn)), scB G z x]) (Bs := [[(h0, .inr (5, [.ref (k 0), .ref h2, .long ch]))], [(h2, .inl (G.2 4, 3, .inr (.inr (.inr (.inr cf)))))], [(h4, .inl (G.2 1, 3, .inr (.inl ky)))], poB G k (0, P.2), ckF G a0 0 (ckPr S0) (scCp x r0.1, (zI, r0.2.1.2), ((ky 0), (ky 1), rn)), ckF G a1 1 (ckPr S1) (scCp x r1.1, (zI, r1.2.1.2), ((ky 1), (ky 2), rn)), ckF G a2 2 (ckPr S2) (scCp x r2.1, (zI, r2.2.1.2), ((ky 2), (ky 0), rn)), scB G z x]) hW [0, 1, 2, 3, 4, 5, 6, 7] (show ([0, 1, 2, 3, 4, 5, 6, 7] : List Nat).Perm (List.range 8) by decide) rfl
  refine W.eq (g2 := F0 m 40 ls []) rfl ?_
  refine lv_iinc (k := 0) (v := 3) (lv' := [(4, .int 3), (0, .ref h0), (1, .ref (z 0)), (2, .ref h4), (3, .int rn)]) hx hb d_Office_prepare_40 hl rfl (by decide) (by decide) rfl (fun ls hl => ?_)
  refine lv_goto (tgt := 10) hx hb d_Office_prepare_43 rfl ?_
  refine lv_iload hx hb d_Office_prepare_10 (lv_at hl 0 rfl) ?_
  refine lv_iconst (v := 3) hx hb d_Office_prepare_12 (by decide) ?_
  refine lv_icmp_ge (tgt := 46) hx hb d_Office_prepare_13 rfl (fun _ => ?_) (fun hz => absurd (by decide) hz)
  exact Ct.vret hx hb hr hnl hW (by decide) (by decide) d_Office_prepare_46 ⟨rfl, rfl⟩

abbrev rm__Office_countReady : Room := { frames := 2, cells := 0, slots := 0, locals := 41 }
set_option maxHeartbeats 4000000 in
set_option maxRecDepth 100000 in
theorem cb_Office_countReady (l : Launch) (G : Gt) (h0 : Nat) (k : Nat → Nat) (h2 : Nat) (ch : Int64) (cf : Nat → Option Nat) (a0 : Nat → Nat) (a1 : Nat → Nat) (a2 : Nat → Nat) (S0 : CkT) (S1 : CkT) (S2 : CkT) (r0 : RsT) (r1 : RsT) (r2 : RsT) (hcf0 : cf 0 = some (a0 0)) (hcf1 : cf 1 = some (a1 0)) (hcf2 : cf 2 = some (a2 0)) : Ct l G y_Office_countReady b_Office_countReady 3 (some .int) rm__Office_countReady [.ref h0] (bj [[(h0, .inr (5, [.ref (k 0), .ref h2, .long ch]))], [(h2, .inl (G.2 4, 3, .inr (.inr (.inr (.inr cf)))))], ckF G a0 0 S0 r0, ckF G a1 1 S1 r1, ckF G a2 2 S2 r2]) 0 0 (fun v w' => v = some (.int (rd (cnS S0 r0) + rd (cnS S1 r1) + rd (cnS S2 r2))) ∧ w' = (bj [[(h0, .inr (5, [.ref (k 0), .ref h2, .long ch]))], [(h2, .inl (G.2 4, 3, .inr (.inr (.inr (.inr cf)))))], ckF G a0 0 S0 r0, ckF G a1 1 S1 r1, ckF G a2 2 S2 r2])) := by
  refine Ct.of (by decide) (Nat.le_of_ble_eq_true rfl) (fun p e s m args below meth c A ls H locs hx hb hml hr hnl hown hts hnm hK hA hl hW => ?_)
  have hl : lv_has ls 3 [(0, .ref h0)] := hl
  refine lv_iconst (v := 0) hx hb d_Office_countReady_0 (by decide) ?_
  refine lv_istore_n (lv' := [(1, .int 0), (0, .ref h0)]) hx hb d_Office_countReady_1 rfl hl (by decide) rfl (fun ls hl => ?_)
  refine lv_iconst (v := 0) hx hb d_Office_countReady_2 (by decide) ?_
  refine lv_istore_n (lv' := [(2, .int 0), (1, .int 0), (0, .ref h0)]) hx hb d_Office_countReady_3 rfl hl (by decide) rfl (fun ls hl => ?_)
  refine lv_iload_n hx hb d_Office_countReady_4 rfl (lv_at hl 0 rfl) ?_
  refine lv_iconst (v := 3) hx hb d_Office_countReady_5 (by decide) ?_
  refine lv_icmp_ge (tgt := 30) hx hb d_Office_countReady_6 rfl (fun hz => absurd hz (by decide)) (fun _ => ?_)
  refine lv_aload_n hx hb d_Office_countReady_9 rfl (lv_at hl 2 rfl) ?_
  refine Wd.get hx hb hts hown hK hW 0 1 in_Office w_fl_Office_20 (by decide) d_Office_countReady_10 rfl rfl rfl ?_
  refine lv_iload_n hx hb d_Office_countReady_13 rfl (lv_at hl 0 rfl) ?_
  refine Wd.aald hx hb hK hW 1 4 d_Office_countReady_14 rfl rfl (by unfold vp_in; decide) hcf0 ?_
  refine Ct.callVB (As := []) (rest := []) (wr := bj [[(h0, .inr (5, [.ref (k 0), .ref h2, .long ch]))], [(h2, .inl (G.2 4, 3, .inr (.inr (.inr (.inr cf)))))], ckF G a1 1 S1 r1, ckF G a2 2 S2 r2]) hx hb hml hown hts hK hA hl.1 hW (bl_pick (bs := [ckF G a0 0 S0 r0]) (rs := [[(h0, .inr (5, [.ref (k 0), .ref h2, .long ch]))], [(h2, .inl (G.2 4, 3, .inr (.inr (.inr (.inr cf)))))], ckF G a1 1 S1 r1, ckF G a2 2 S2 r2]) (Bs := [[(h0, .inr (5, [.ref (k 0), .ref h2, .long ch]))], [(h2, .inl (G.2 4, 3, .inr (.inr (.inr (.inr cf)))))], ckF G a0 0 S0 r0, ckF G a1 1 S1 r1, ckF G a2 2 S2 r2]) [2, 0, 1, 3, 4] (show ([2, 0, 1, 3, 4] : List Nat).Perm (List.range 5) by decide) rfl) (cb_Clerk_canStep l G a0 0 S0 r0 ) (cwV 0 hts (good_V w_ml_Office_57 w_im_Clerk_canStep w_se_Clerk_canStep w_ini_Clerk w_code_Clerk_canStep) rfl rfl rfl yd_Clerk_canStep ⟨by decide, by decide⟩) (ci := 3) (r := vr_Clerk) rfl rfl rfl rfl rfl (Nat.le_of_ble_eq_true rfl) d_Office_countReady_15 ⟨by decide, by decide⟩ (fun v w' hp => by obtain ⟨-, rfl⟩ := hp; exact Nat.le_of_ble_eq_true rfl) (fun v w' H locs hp hW => ?_)
  obtain ⟨rfl, rfl⟩ := hp
  have hW := Wd.blk (rs := [[(h0, .inr (5, [.ref (k 0), .ref h2, .long ch]))], [(h2, .inl (G.2 4, 3, .inr (.inr (.inr (.inr cf)))))], ckF G a1 1 S1 r1, ckF G a2 2 S2 r2]) (bs := [ckF G a0 0 S0 r0]) (Bs := [[(h0, .inr (5, [.ref (k 0), .ref h2, .long ch]))], [(h2, .inl (G.2 4, 3, .inr (.inr (.inr (.inr cf)))))], ckF G a0 0 S0 r0, ckF G a1 1 S1 r1, ckF G a2 2 S2 r2]) hW [0, 1, 4, 2, 3] (show ([0, 1, 4, 2, 3] : List Nat).Perm (List.range 5) by decide) rfl
  refine W.eq (g2 := F0 m 18 ls [.int (cnS S0 r0)]) rfl ?_
  refine lv_if_eq (tgt := 24) hx hb d_Office_countReady_18 rfl (fun ht1 => ?_) (fun hf2 => ?_)
  · refine lv_iinc (k := 0) (v := 1) (lv' := [(2, .int 1), (1, .int 0), (0, .ref h0)]) hx hb d_Office_countReady_24 hl rfl (by decide) (by decide) rfl (fun ls hl => ?_)
    refine lv_goto (tgt := 4) hx hb d_Office_countReady_27 rfl ?_
    refine lv_iload_n hx hb d_Office_countReady_4 rfl (lv_at hl 0 rfl) ?_
    refine lv_iconst (v := 3) hx hb d_Office_countReady_5 (by decide) ?_
    refine lv_icmp_ge (tgt := 30) hx hb d_Office_countReady_6 rfl (fun hz => absurd hz (by decide)) (fun _ => ?_)
    refine lv_aload_n hx hb d_Office_countReady_9 rfl (lv_at hl 2 rfl) ?_
    refine Wd.get hx hb hts hown hK hW 0 1 in_Office w_fl_Office_20 (by decide) d_Office_countReady_10 rfl rfl rfl ?_
    refine lv_iload_n hx hb d_Office_countReady_13 rfl (lv_at hl 0 rfl) ?_
    refine Wd.aald hx hb hK hW 1 4 d_Office_countReady_14 rfl rfl (by unfold vp_in; decide) hcf1 ?_
    refine Ct.callVB (As := []) (rest := []) (wr := bj [[(h0, .inr (5, [.ref (k 0), .ref h2, .long ch]))], [(h2, .inl (G.2 4, 3, .inr (.inr (.inr (.inr cf)))))], ckF G a0 0 S0 r0, ckF G a2 2 S2 r2]) hx hb hml hown hts hK hA hl.1 hW (bl_pick (bs := [ckF G a1 1 S1 r1]) (rs := [[(h0, .inr (5, [.ref (k 0), .ref h2, .long ch]))], [(h2, .inl (G.2 4, 3, .inr (.inr (.inr (.inr cf)))))], ckF G a0 0 S0 r0, ckF G a2 2 S2 r2]) (Bs := [[(h0, .inr (5, [.ref (k 0), .ref h2, .long ch]))], [(h2, .inl (G.2 4, 3, .inr (.inr (.inr (.inr cf)))))], ckF G a0 0 S0 r0, ckF G a1 1 S1 r1, ckF G a2 2 S2 r2]) [3, 0, 1, 2, 4] (show ([3, 0, 1, 2, 4] : List Nat).Perm (List.range 5) by decide) rfl) (cb_Clerk_canStep l G a1 1 S1 r1 ) (cwV 0 hts (good_V w_ml_Office_57 w_im_Clerk_canStep w_se_Clerk_canStep w_ini_Clerk w_code_Clerk_canStep) rfl rfl rfl yd_Clerk_canStep ⟨by decide, by decide⟩) (ci := 3) (r := vr_Clerk) rfl rfl rfl rfl rfl (Nat.le_of_ble_eq_true rfl) d_Office_countReady_15 ⟨by decide, by decide⟩ (fun v w' hp => by obtain ⟨-, rfl⟩ := hp; exact Nat.le_of_ble_eq_true rfl) (fun v w' H locs hp hW => ?_)
    obtain ⟨rfl, rfl⟩ := hp
    have hW := Wd.blk (rs := [[(h0, .inr (5, [.ref (k 0), .ref h2, .long ch]))], [(h2, .inl (G.2 4, 3, .inr (.inr (.inr (.inr cf)))))], ckF G a0 0 S0 r0, ckF G a2 2 S2 r2]) (bs := [ckF G a1 1 S1 r1]) (Bs := [[(h0, .inr (5, [.ref (k 0), .ref h2, .long ch]))], [(h2, .inl (G.2 4, 3, .inr (.inr (.inr (.inr cf)))))], ckF G a0 0 S0 r0, ckF G a1 1 S1 r1, ckF G a2 2 S2 r2]) hW [0, 1, 2, 4, 3] (show ([0, 1, 2, 4, 3] : List Nat).Perm (List.range 5) by decide) rfl
    refine W.eq (g2 := F0 m 18 ls [.int (cnS S1 r1)]) rfl ?_
    refine lv_if_eq (tgt := 24) hx hb d_Office_countReady_18 rfl (fun ht3 => ?_) (fun hf4 => ?_)
    · refine lv_iinc (k := 0) (v := 2) (lv' := [(2, .int 2), (1, .int 0), (0, .ref h0)]) hx hb d_Office_countReady_24 hl rfl (by decide) (by decide) rfl (fun ls hl => ?_)
      refine lv_goto (tgt := 4) hx hb d_Office_countReady_27 rfl ?_
      refine lv_iload_n hx hb d_Office_countReady_4 rfl (lv_at hl 0 rfl) ?_
      refine lv_iconst (v := 3) hx hb d_Office_countReady_5 (by decide) ?_
      refine lv_icmp_ge (tgt := 30) hx hb d_Office_countReady_6 rfl (fun hz => absurd hz (by decide)) (fun _ => ?_)
      refine lv_aload_n hx hb d_Office_countReady_9 rfl (lv_at hl 2 rfl) ?_
      refine Wd.get hx hb hts hown hK hW 0 1 in_Office w_fl_Office_20 (by decide) d_Office_countReady_10 rfl rfl rfl ?_
      refine lv_iload_n hx hb d_Office_countReady_13 rfl (lv_at hl 0 rfl) ?_
      refine Wd.aald hx hb hK hW 1 4 d_Office_countReady_14 rfl rfl (by unfold vp_in; decide) hcf2 ?_
      refine Ct.callVB (As := []) (rest := []) (wr := bj [[(h0, .inr (5, [.ref (k 0), .ref h2, .long ch]))], [(h2, .inl (G.2 4, 3, .inr (.inr (.inr (.inr cf)))))], ckF G a0 0 S0 r0, ckF G a1 1 S1 r1]) hx hb hml hown hts hK hA hl.1 hW (bl_pick (bs := [ckF G a2 2 S2 r2]) (rs := [[(h0, .inr (5, [.ref (k 0), .ref h2, .long ch]))], [(h2, .inl (G.2 4, 3, .inr (.inr (.inr (.inr cf)))))], ckF G a0 0 S0 r0, ckF G a1 1 S1 r1]) (Bs := [[(h0, .inr (5, [.ref (k 0), .ref h2, .long ch]))], [(h2, .inl (G.2 4, 3, .inr (.inr (.inr (.inr cf)))))], ckF G a0 0 S0 r0, ckF G a1 1 S1 r1, ckF G a2 2 S2 r2]) [4, 0, 1, 2, 3] (show ([4, 0, 1, 2, 3] : List Nat).Perm (List.range 5) by decide) rfl) (cb_Clerk_canStep l G a2 2 S2 r2 ) (cwV 0 hts (good_V w_ml_Office_57 w_im_Clerk_canStep w_se_Clerk_canStep w_ini_Clerk w_code_Clerk_canStep) rfl rfl rfl yd_Clerk_canStep ⟨by decide, by decide⟩) (ci := 3) (r := vr_Clerk) rfl rfl rfl rfl rfl (Nat.le_of_ble_eq_true rfl) d_Office_countReady_15 ⟨by decide, by decide⟩ (fun v w' hp => by obtain ⟨-, rfl⟩ := hp; exact Nat.le_of_ble_eq_true rfl) (fun v w' H locs hp hW => ?_)
      obtain ⟨rfl, rfl⟩ := hp
      have hW := Wd.blk (rs := [[(h0, .inr (5, [.ref (k 0), .ref h2, .long ch]))], [(h2, .inl (G.2 4, 3, .inr (.inr (.inr (.inr cf)))))], ckF G a0 0 S0 r0, ckF G a1 1 S1 r1]) (bs := [ckF G a2 2 S2 r2]) (Bs := [[(h0, .inr (5, [.ref (k 0), .ref h2, .long ch]))], [(h2, .inl (G.2 4, 3, .inr (.inr (.inr (.inr cf)))))], ckF G a0 0 S0 r0, ckF G a1 1 S1 r1, ckF G a2 2 S2 r2]) hW [0, 1, 2, 3, 4] (show ([0, 1, 2, 3, 4] : List Nat).Perm (List.range 5) by decide) rfl
      refine W.eq (g2 := F0 m 18 ls [.int (cnS S2 r2)]) rfl ?_
      refine lv_if_eq (tgt := 24) hx hb d_Office_countReady_18 rfl (fun ht5 => ?_) (fun hf6 => ?_)
      · refine lv_iinc (k := 0) (v := 3) (lv' := [(2, .int 3), (1, .int 0), (0, .ref h0)]) hx hb d_Office_countReady_24 hl rfl (by decide) (by decide) rfl (fun ls hl => ?_)
        refine lv_goto (tgt := 4) hx hb d_Office_countReady_27 rfl ?_
        refine lv_iload_n hx hb d_Office_countReady_4 rfl (lv_at hl 0 rfl) ?_
        refine lv_iconst (v := 3) hx hb d_Office_countReady_5 (by decide) ?_
        refine lv_icmp_ge (tgt := 30) hx hb d_Office_countReady_6 rfl (fun _ => ?_) (fun hz => absurd (by decide) hz)
        refine lv_iload_n hx hb d_Office_countReady_30 rfl (lv_at hl 1 rfl) ?_
        exact Ct.iret hx hb hr hnl hW (by decide) (by decide) d_Office_countReady_31 ⟨by first | rfl | (simp only [rd, if_pos ht1, if_pos ht3, if_pos ht5]; done) | (simp only [rd, if_pos ht1, if_pos ht3, if_pos ht5]; rfl), by first | rfl | (simp only [rd, if_pos ht1, if_pos ht3, if_pos ht5]; done) | (simp only [rd, if_pos ht1, if_pos ht3, if_pos ht5]; rfl)⟩
      · refine lv_iinc (k := 1) (v := 1) (lv' := [(1, .int 1), (2, .int 2), (0, .ref h0)]) hx hb d_Office_countReady_21 hl rfl (by decide) (by decide) rfl (fun ls hl => ?_)
        refine lv_iinc (k := 1) (v := 3) (lv' := [(2, .int 3), (1, .int 1), (0, .ref h0)]) hx hb d_Office_countReady_24 hl rfl (by decide) (by decide) rfl (fun ls hl => ?_)
        refine lv_goto (tgt := 4) hx hb d_Office_countReady_27 rfl ?_
        refine lv_iload_n hx hb d_Office_countReady_4 rfl (lv_at hl 0 rfl) ?_
        refine lv_iconst (v := 3) hx hb d_Office_countReady_5 (by decide) ?_
        refine lv_icmp_ge (tgt := 30) hx hb d_Office_countReady_6 rfl (fun _ => ?_) (fun hz => absurd (by decide) hz)
        refine lv_iload_n hx hb d_Office_countReady_30 rfl (lv_at hl 1 rfl) ?_
        exact Ct.iret hx hb hr hnl hW (by decide) (by decide) d_Office_countReady_31 ⟨by first | rfl | (simp only [rd, if_pos ht1, if_pos ht3, if_neg hf6]; done) | (simp only [rd, if_pos ht1, if_pos ht3, if_neg hf6]; rfl), by first | rfl | (simp only [rd, if_pos ht1, if_pos ht3, if_neg hf6]; done) | (simp only [rd, if_pos ht1, if_pos ht3, if_neg hf6]; rfl)⟩
    · refine lv_iinc (k := 1) (v := 1) (lv' := [(1, .int 1), (2, .int 1), (0, .ref h0)]) hx hb d_Office_countReady_21 hl rfl (by decide) (by decide) rfl (fun ls hl => ?_)
      refine lv_iinc (k := 1) (v := 2) (lv' := [(2, .int 2), (1, .int 1), (0, .ref h0)]) hx hb d_Office_countReady_24 hl rfl (by decide) (by decide) rfl (fun ls hl => ?_)
      refine lv_goto (tgt := 4) hx hb d_Office_countReady_27 rfl ?_
      refine lv_iload_n hx hb d_Office_countReady_4 rfl (lv_at hl 0 rfl) ?_
      refine lv_iconst (v := 3) hx hb d_Office_countReady_5 (by decide) ?_
      refine lv_icmp_ge (tgt := 30) hx hb d_Office_countReady_6 rfl (fun hz => absurd hz (by decide)) (fun _ => ?_)
      refine lv_aload_n hx hb d_Office_countReady_9 rfl (lv_at hl 2 rfl) ?_
      refine Wd.get hx hb hts hown hK hW 0 1 in_Office w_fl_Office_20 (by decide) d_Office_countReady_10 rfl rfl rfl ?_
      refine lv_iload_n hx hb d_Office_countReady_13 rfl (lv_at hl 0 rfl) ?_
      refine Wd.aald hx hb hK hW 1 4 d_Office_countReady_14 rfl rfl (by unfold vp_in; decide) hcf2 ?_
      refine Ct.callVB (As := []) (rest := []) (wr := bj [[(h0, .inr (5, [.ref (k 0), .ref h2, .long ch]))], [(h2, .inl (G.2 4, 3, .inr (.inr (.inr (.inr cf)))))], ckF G a0 0 S0 r0, ckF G a1 1 S1 r1]) hx hb hml hown hts hK hA hl.1 hW (bl_pick (bs := [ckF G a2 2 S2 r2]) (rs := [[(h0, .inr (5, [.ref (k 0), .ref h2, .long ch]))], [(h2, .inl (G.2 4, 3, .inr (.inr (.inr (.inr cf)))))], ckF G a0 0 S0 r0, ckF G a1 1 S1 r1]) (Bs := [[(h0, .inr (5, [.ref (k 0), .ref h2, .long ch]))], [(h2, .inl (G.2 4, 3, .inr (.inr (.inr (.inr cf)))))], ckF G a0 0 S0 r0, ckF G a1 1 S1 r1, ckF G a2 2 S2 r2]) [4, 0, 1, 2, 3] (show ([4, 0, 1, 2, 3] : List Nat).Perm (List.range 5) by decide) rfl) (cb_Clerk_canStep l G a2 2 S2 r2 ) (cwV 0 hts (good_V w_ml_Office_57 w_im_Clerk_canStep w_se_Clerk_canStep w_ini_Clerk w_code_Clerk_canStep) rfl rfl rfl yd_Clerk_canStep ⟨by decide, by decide⟩) (ci := 3) (r := vr_Clerk) rfl rfl rfl rfl rfl (Nat.le_of_ble_eq_true rfl) d_Office_countReady_15 ⟨by decide, by decide⟩ (fun v w' hp => by obtain ⟨-, rfl⟩ := hp; exact Nat.le_of_ble_eq_true rfl) (fun v w' H locs hp hW => ?_)
      obtain ⟨rfl, rfl⟩ := hp
      have hW := Wd.blk (rs := [[(h0, .inr (5, [.ref (k 0), .ref h2, .long ch]))], [(h2, .inl (G.2 4, 3, .inr (.inr (.inr (.inr cf)))))], ckF G a0 0 S0 r0, ckF G a1 1 S1 r1]) (bs := [ckF G a2 2 S2 r2]) (Bs := [[(h0, .inr (5, [.ref (k 0), .ref h2, .long ch]))], [(h2, .inl (G.2 4, 3, .inr (.inr (.inr (.inr cf)))))], ckF G a0 0 S0 r0, ckF G a1 1 S1 r1, ckF G a2 2 S2 r2]) hW [0, 1, 2, 3, 4] (show ([0, 1, 2, 3, 4] : List Nat).Perm (List.range 5) by decide) rfl
      refine W.eq (g2 := F0 m 18 ls [.int (cnS S2 r2)]) rfl ?_
      refine lv_if_eq (tgt := 24) hx hb d_Office_countReady_18 rfl (fun ht7 => ?_) (fun hf8 => ?_)
      · refine lv_iinc (k := 0) (v := 3) (lv' := [(2, .int 3), (1, .int 1), (0, .ref h0)]) hx hb d_Office_countReady_24 hl rfl (by decide) (by decide) rfl (fun ls hl => ?_)
        refine lv_goto (tgt := 4) hx hb d_Office_countReady_27 rfl ?_
        refine lv_iload_n hx hb d_Office_countReady_4 rfl (lv_at hl 0 rfl) ?_
        refine lv_iconst (v := 3) hx hb d_Office_countReady_5 (by decide) ?_
        refine lv_icmp_ge (tgt := 30) hx hb d_Office_countReady_6 rfl (fun _ => ?_) (fun hz => absurd (by decide) hz)
        refine lv_iload_n hx hb d_Office_countReady_30 rfl (lv_at hl 1 rfl) ?_
        exact Ct.iret hx hb hr hnl hW (by decide) (by decide) d_Office_countReady_31 ⟨by first | rfl | (simp only [rd, if_pos ht1, if_neg hf4, if_pos ht7]; done) | (simp only [rd, if_pos ht1, if_neg hf4, if_pos ht7]; rfl), by first | rfl | (simp only [rd, if_pos ht1, if_neg hf4, if_pos ht7]; done) | (simp only [rd, if_pos ht1, if_neg hf4, if_pos ht7]; rfl)⟩
      · refine lv_iinc (k := 1) (v := 2) (lv' := [(1, .int 2), (2, .int 2), (0, .ref h0)]) hx hb d_Office_countReady_21 hl rfl (by decide) (by decide) rfl (fun ls hl => ?_)
        refine lv_iinc (k := 1) (v := 3) (lv' := [(2, .int 3), (1, .int 2), (0, .ref h0)]) hx hb d_Office_countReady_24 hl rfl (by decide) (by decide) rfl (fun ls hl => ?_)
        refine lv_goto (tgt := 4) hx hb d_Office_countReady_27 rfl ?_
        refine lv_iload_n hx hb d_Office_countReady_4 rfl (lv_at hl 0 rfl) ?_
        refine lv_iconst (v := 3) hx hb d_Office_countReady_5 (by decide) ?_
        refine lv_icmp_ge (tgt := 30) hx hb d_Office_countReady_6 rfl (fun _ => ?_) (fun hz => absurd (by decide) hz)
        refine lv_iload_n hx hb d_Office_countReady_30 rfl (lv_at hl 1 rfl) ?_
        exact Ct.iret hx hb hr hnl hW (by decide) (by decide) d_Office_countReady_31 ⟨by first | rfl | (simp only [rd, if_pos ht1, if_neg hf4, if_neg hf8]; done) | (simp only [rd, if_pos ht1, if_neg hf4, if_neg hf8]; rfl), by first | rfl | (simp only [rd, if_pos ht1, if_neg hf4, if_neg hf8]; done) | (simp only [rd, if_pos ht1, if_neg hf4, if_neg hf8]; rfl)⟩
  · refine lv_iinc (k := 1) (v := 1) (lv' := [(1, .int 1), (2, .int 0), (0, .ref h0)]) hx hb d_Office_countReady_21 hl rfl (by decide) (by decide) rfl (fun ls hl => ?_)
    refine lv_iinc (k := 1) (v := 1) (lv' := [(2, .int 1), (1, .int 1), (0, .ref h0)]) hx hb d_Office_countReady_24 hl rfl (by decide) (by decide) rfl (fun ls hl => ?_)
    refine lv_goto (tgt := 4) hx hb d_Office_countReady_27 rfl ?_
    refine lv_iload_n hx hb d_Office_countReady_4 rfl (lv_at hl 0 rfl) ?_
    refine lv_iconst (v := 3) hx hb d_Office_countReady_5 (by decide) ?_
    refine lv_icmp_ge (tgt := 30) hx hb d_Office_countReady_6 rfl (fun hz => absurd hz (by decide)) (fun _ => ?_)
    refine lv_aload_n hx hb d_Office_countReady_9 rfl (lv_at hl 2 rfl) ?_
    refine Wd.get hx hb hts hown hK hW 0 1 in_Office w_fl_Office_20 (by decide) d_Office_countReady_10 rfl rfl rfl ?_
    refine lv_iload_n hx hb d_Office_countReady_13 rfl (lv_at hl 0 rfl) ?_
    refine Wd.aald hx hb hK hW 1 4 d_Office_countReady_14 rfl rfl (by unfold vp_in; decide) hcf1 ?_
    refine Ct.callVB (As := []) (rest := []) (wr := bj [[(h0, .inr (5, [.ref (k 0), .ref h2, .long ch]))], [(h2, .inl (G.2 4, 3, .inr (.inr (.inr (.inr cf)))))], ckF G a0 0 S0 r0, ckF G a2 2 S2 r2]) hx hb hml hown hts hK hA hl.1 hW (bl_pick (bs := [ckF G a1 1 S1 r1]) (rs := [[(h0, .inr (5, [.ref (k 0), .ref h2, .long ch]))], [(h2, .inl (G.2 4, 3, .inr (.inr (.inr (.inr cf)))))], ckF G a0 0 S0 r0, ckF G a2 2 S2 r2]) (Bs := [[(h0, .inr (5, [.ref (k 0), .ref h2, .long ch]))], [(h2, .inl (G.2 4, 3, .inr (.inr (.inr (.inr cf)))))], ckF G a0 0 S0 r0, ckF G a1 1 S1 r1, ckF G a2 2 S2 r2]) [3, 0, 1, 2, 4] (show ([3, 0, 1, 2, 4] : List Nat).Perm (List.range 5) by decide) rfl) (cb_Clerk_canStep l G a1 1 S1 r1 ) (cwV 0 hts (good_V w_ml_Office_57 w_im_Clerk_canStep w_se_Clerk_canStep w_ini_Clerk w_code_Clerk_canStep) rfl rfl rfl yd_Clerk_canStep ⟨by decide, by decide⟩) (ci := 3) (r := vr_Clerk) rfl rfl rfl rfl rfl (Nat.le_of_ble_eq_true rfl) d_Office_countReady_15 ⟨by decide, by decide⟩ (fun v w' hp => by obtain ⟨-, rfl⟩ := hp; exact Nat.le_of_ble_eq_true rfl) (fun v w' H locs hp hW => ?_)
    obtain ⟨rfl, rfl⟩ := hp
    have hW := Wd.blk (rs := [[(h0, .inr (5, [.ref (k 0), .ref h2, .long ch]))], [(h2, .inl (G.2 4, 3, .inr (.inr (.inr (.inr cf)))))], ckF G a0 0 S0 r0, ckF G a2 2 S2 r2]) (bs := [ckF G a1 1 S1 r1]) (Bs := [[(h0, .inr (5, [.ref (k 0), .ref h2, .long ch]))], [(h2, .inl (G.2 4, 3, .inr (.inr (.inr (.inr cf)))))], ckF G a0 0 S0 r0, ckF G a1 1 S1 r1, ckF G a2 2 S2 r2]) hW [0, 1, 2, 4, 3] (show ([0, 1, 2, 4, 3] : List Nat).Perm (List.range 5) by decide) rfl
    refine W.eq (g2 := F0 m 18 ls [.int (cnS S1 r1)]) rfl ?_
    refine lv_if_eq (tgt := 24) hx hb d_Office_countReady_18 rfl (fun ht9 => ?_) (fun hf10 => ?_)
    · refine lv_iinc (k := 0) (v := 2) (lv' := [(2, .int 2), (1, .int 1), (0, .ref h0)]) hx hb d_Office_countReady_24 hl rfl (by decide) (by decide) rfl (fun ls hl => ?_)
      refine lv_goto (tgt := 4) hx hb d_Office_countReady_27 rfl ?_
      refine lv_iload_n hx hb d_Office_countReady_4 rfl (lv_at hl 0 rfl) ?_
      refine lv_iconst (v := 3) hx hb d_Office_countReady_5 (by decide) ?_
      refine lv_icmp_ge (tgt := 30) hx hb d_Office_countReady_6 rfl (fun hz => absurd hz (by decide)) (fun _ => ?_)
      refine lv_aload_n hx hb d_Office_countReady_9 rfl (lv_at hl 2 rfl) ?_
      refine Wd.get hx hb hts hown hK hW 0 1 in_Office w_fl_Office_20 (by decide) d_Office_countReady_10 rfl rfl rfl ?_
      refine lv_iload_n hx hb d_Office_countReady_13 rfl (lv_at hl 0 rfl) ?_
      refine Wd.aald hx hb hK hW 1 4 d_Office_countReady_14 rfl rfl (by unfold vp_in; decide) hcf2 ?_
      refine Ct.callVB (As := []) (rest := []) (wr := bj [[(h0, .inr (5, [.ref (k 0), .ref h2, .long ch]))], [(h2, .inl (G.2 4, 3, .inr (.inr (.inr (.inr cf)))))], ckF G a0 0 S0 r0, ckF G a1 1 S1 r1]) hx hb hml hown hts hK hA hl.1 hW (bl_pick (bs := [ckF G a2 2 S2 r2]) (rs := [[(h0, .inr (5, [.ref (k 0), .ref h2, .long ch]))], [(h2, .inl (G.2 4, 3, .inr (.inr (.inr (.inr cf)))))], ckF G a0 0 S0 r0, ckF G a1 1 S1 r1]) (Bs := [[(h0, .inr (5, [.ref (k 0), .ref h2, .long ch]))], [(h2, .inl (G.2 4, 3, .inr (.inr (.inr (.inr cf)))))], ckF G a0 0 S0 r0, ckF G a1 1 S1 r1, ckF G a2 2 S2 r2]) [4, 0, 1, 2, 3] (show ([4, 0, 1, 2, 3] : List Nat).Perm (List.range 5) by decide) rfl) (cb_Clerk_canStep l G a2 2 S2 r2 ) (cwV 0 hts (good_V w_ml_Office_57 w_im_Clerk_canStep w_se_Clerk_canStep w_ini_Clerk w_code_Clerk_canStep) rfl rfl rfl yd_Clerk_canStep ⟨by decide, by decide⟩) (ci := 3) (r := vr_Clerk) rfl rfl rfl rfl rfl (Nat.le_of_ble_eq_true rfl) d_Office_countReady_15 ⟨by decide, by decide⟩ (fun v w' hp => by obtain ⟨-, rfl⟩ := hp; exact Nat.le_of_ble_eq_true rfl) (fun v w' H locs hp hW => ?_)
      obtain ⟨rfl, rfl⟩ := hp
      have hW := Wd.blk (rs := [[(h0, .inr (5, [.ref (k 0), .ref h2, .long ch]))], [(h2, .inl (G.2 4, 3, .inr (.inr (.inr (.inr cf)))))], ckF G a0 0 S0 r0, ckF G a1 1 S1 r1]) (bs := [ckF G a2 2 S2 r2]) (Bs := [[(h0, .inr (5, [.ref (k 0), .ref h2, .long ch]))], [(h2, .inl (G.2 4, 3, .inr (.inr (.inr (.inr cf)))))], ckF G a0 0 S0 r0, ckF G a1 1 S1 r1, ckF G a2 2 S2 r2]) hW [0, 1, 2, 3, 4] (show ([0, 1, 2, 3, 4] : List Nat).Perm (List.range 5) by decide) rfl
      refine W.eq (g2 := F0 m 18 ls [.int (cnS S2 r2)]) rfl ?_
      refine lv_if_eq (tgt := 24) hx hb d_Office_countReady_18 rfl (fun ht11 => ?_) (fun hf12 => ?_)
      · refine lv_iinc (k := 0) (v := 3) (lv' := [(2, .int 3), (1, .int 1), (0, .ref h0)]) hx hb d_Office_countReady_24 hl rfl (by decide) (by decide) rfl (fun ls hl => ?_)
        refine lv_goto (tgt := 4) hx hb d_Office_countReady_27 rfl ?_
        refine lv_iload_n hx hb d_Office_countReady_4 rfl (lv_at hl 0 rfl) ?_
        refine lv_iconst (v := 3) hx hb d_Office_countReady_5 (by decide) ?_
        refine lv_icmp_ge (tgt := 30) hx hb d_Office_countReady_6 rfl (fun _ => ?_) (fun hz => absurd (by decide) hz)
        refine lv_iload_n hx hb d_Office_countReady_30 rfl (lv_at hl 1 rfl) ?_
        exact Ct.iret hx hb hr hnl hW (by decide) (by decide) d_Office_countReady_31 ⟨by first | rfl | (simp only [rd, if_neg hf2, if_pos ht9, if_pos ht11]; done) | (simp only [rd, if_neg hf2, if_pos ht9, if_pos ht11]; rfl), by first | rfl | (simp only [rd, if_neg hf2, if_pos ht9, if_pos ht11]; done) | (simp only [rd, if_neg hf2, if_pos ht9, if_pos ht11]; rfl)⟩
      · refine lv_iinc (k := 1) (v := 2) (lv' := [(1, .int 2), (2, .int 2), (0, .ref h0)]) hx hb d_Office_countReady_21 hl rfl (by decide) (by decide) rfl (fun ls hl => ?_)
        refine lv_iinc (k := 1) (v := 3) (lv' := [(2, .int 3), (1, .int 2), (0, .ref h0)]) hx hb d_Office_countReady_24 hl rfl (by decide) (by decide) rfl (fun ls hl => ?_)
        refine lv_goto (tgt := 4) hx hb d_Office_countReady_27 rfl ?_
        refine lv_iload_n hx hb d_Office_countReady_4 rfl (lv_at hl 0 rfl) ?_
        refine lv_iconst (v := 3) hx hb d_Office_countReady_5 (by decide) ?_
        refine lv_icmp_ge (tgt := 30) hx hb d_Office_countReady_6 rfl (fun _ => ?_) (fun hz => absurd (by decide) hz)
        refine lv_iload_n hx hb d_Office_countReady_30 rfl (lv_at hl 1 rfl) ?_
        exact Ct.iret hx hb hr hnl hW (by decide) (by decide) d_Office_countReady_31 ⟨by first | rfl | (simp only [rd, if_neg hf2, if_pos ht9, if_neg hf12]; done) | (simp only [rd, if_neg hf2, if_pos ht9, if_neg hf12]; rfl), by first | rfl | (simp only [rd, if_neg hf2, if_pos ht9, if_neg hf12]; done) | (simp only [rd, if_neg hf2, if_pos ht9, if_neg hf12]; rfl)⟩
    · refine lv_iinc (k := 1) (v := 2) (lv' := [(1, .int 2), (2, .int 1), (0, .ref h0)]) hx hb d_Office_countReady_21 hl rfl (by decide) (by decide) rfl (fun ls hl => ?_)
      refine lv_iinc (k := 1) (v := 2) (lv' := [(2, .int 2), (1, .int 2), (0, .ref h0)]) hx hb d_Office_countReady_24 hl rfl (by decide) (by decide) rfl (fun ls hl => ?_)
      refine lv_goto (tgt := 4) hx hb d_Office_countReady_27 rfl ?_
      refine lv_iload_n hx hb d_Office_countReady_4 rfl (lv_at hl 0 rfl) ?_
      refine lv_iconst (v := 3) hx hb d_Office_countReady_5 (by decide) ?_
      refine lv_icmp_ge (tgt := 30) hx hb d_Office_countReady_6 rfl (fun hz => absurd hz (by decide)) (fun _ => ?_)
      refine lv_aload_n hx hb d_Office_countReady_9 rfl (lv_at hl 2 rfl) ?_
      refine Wd.get hx hb hts hown hK hW 0 1 in_Office w_fl_Office_20 (by decide) d_Office_countReady_10 rfl rfl rfl ?_
      refine lv_iload_n hx hb d_Office_countReady_13 rfl (lv_at hl 0 rfl) ?_
      refine Wd.aald hx hb hK hW 1 4 d_Office_countReady_14 rfl rfl (by unfold vp_in; decide) hcf2 ?_
      refine Ct.callVB (As := []) (rest := []) (wr := bj [[(h0, .inr (5, [.ref (k 0), .ref h2, .long ch]))], [(h2, .inl (G.2 4, 3, .inr (.inr (.inr (.inr cf)))))], ckF G a0 0 S0 r0, ckF G a1 1 S1 r1]) hx hb hml hown hts hK hA hl.1 hW (bl_pick (bs := [ckF G a2 2 S2 r2]) (rs := [[(h0, .inr (5, [.ref (k 0), .ref h2, .long ch]))], [(h2, .inl (G.2 4, 3, .inr (.inr (.inr (.inr cf)))))], ckF G a0 0 S0 r0, ckF G a1 1 S1 r1]) (Bs := [[(h0, .inr (5, [.ref (k 0), .ref h2, .long ch]))], [(h2, .inl (G.2 4, 3, .inr (.inr (.inr (.inr cf)))))], ckF G a0 0 S0 r0, ckF G a1 1 S1 r1, ckF G a2 2 S2 r2]) [4, 0, 1, 2, 3] (show ([4, 0, 1, 2, 3] : List Nat).Perm (List.range 5) by decide) rfl) (cb_Clerk_canStep l G a2 2 S2 r2 ) (cwV 0 hts (good_V w_ml_Office_57 w_im_Clerk_canStep w_se_Clerk_canStep w_ini_Clerk w_code_Clerk_canStep) rfl rfl rfl yd_Clerk_canStep ⟨by decide, by decide⟩) (ci := 3) (r := vr_Clerk) rfl rfl rfl rfl rfl (Nat.le_of_ble_eq_true rfl) d_Office_countReady_15 ⟨by decide, by decide⟩ (fun v w' hp => by obtain ⟨-, rfl⟩ := hp; exact Nat.le_of_ble_eq_true rfl) (fun v w' H locs hp hW => ?_)
      obtain ⟨rfl, rfl⟩ := hp
      have hW := Wd.blk (rs := [[(h0, .inr (5, [.ref (k 0), .ref h2, .long ch]))], [(h2, .inl (G.2 4, 3, .inr (.inr (.inr (.inr cf)))))], ckF G a0 0 S0 r0, ckF G a1 1 S1 r1]) (bs := [ckF G a2 2 S2 r2]) (Bs := [[(h0, .inr (5, [.ref (k 0), .ref h2, .long ch]))], [(h2, .inl (G.2 4, 3, .inr (.inr (.inr (.inr cf)))))], ckF G a0 0 S0 r0, ckF G a1 1 S1 r1, ckF G a2 2 S2 r2]) hW [0, 1, 2, 3, 4] (show ([0, 1, 2, 3, 4] : List Nat).Perm (List.range 5) by decide) rfl
      refine W.eq (g2 := F0 m 18 ls [.int (cnS S2 r2)]) rfl ?_
      refine lv_if_eq (tgt := 24) hx hb d_Office_countReady_18 rfl (fun ht13 => ?_) (fun hf14 => ?_)
      · refine lv_iinc (k := 0) (v := 3) (lv' := [(2, .int 3), (1, .int 2), (0, .ref h0)]) hx hb d_Office_countReady_24 hl rfl (by decide) (by decide) rfl (fun ls hl => ?_)
        refine lv_goto (tgt := 4) hx hb d_Office_countReady_27 rfl ?_
        refine lv_iload_n hx hb d_Office_countReady_4 rfl (lv_at hl 0 rfl) ?_
        refine lv_iconst (v := 3) hx hb d_Office_countReady_5 (by decide) ?_
        refine lv_icmp_ge (tgt := 30) hx hb d_Office_countReady_6 rfl (fun _ => ?_) (fun hz => absurd (by decide) hz)
        refine lv_iload_n hx hb d_Office_countReady_30 rfl (lv_at hl 1 rfl) ?_
        exact Ct.iret hx hb hr hnl hW (by decide) (by decide) d_Office_countReady_31 ⟨by first | rfl | (simp only [rd, if_neg hf2, if_neg hf10, if_pos ht13]; done) | (simp only [rd, if_neg hf2, if_neg hf10, if_pos ht13]; rfl), by first | rfl | (simp only [rd, if_neg hf2, if_neg hf10, if_pos ht13]; done) | (simp only [rd, if_neg hf2, if_neg hf10, if_pos ht13]; rfl)⟩
      · refine lv_iinc (k := 1) (v := 3) (lv' := [(1, .int 3), (2, .int 2), (0, .ref h0)]) hx hb d_Office_countReady_21 hl rfl (by decide) (by decide) rfl (fun ls hl => ?_)
        refine lv_iinc (k := 1) (v := 3) (lv' := [(2, .int 3), (1, .int 3), (0, .ref h0)]) hx hb d_Office_countReady_24 hl rfl (by decide) (by decide) rfl (fun ls hl => ?_)
        refine lv_goto (tgt := 4) hx hb d_Office_countReady_27 rfl ?_
        refine lv_iload_n hx hb d_Office_countReady_4 rfl (lv_at hl 0 rfl) ?_
        refine lv_iconst (v := 3) hx hb d_Office_countReady_5 (by decide) ?_
        refine lv_icmp_ge (tgt := 30) hx hb d_Office_countReady_6 rfl (fun _ => ?_) (fun hz => absurd (by decide) hz)
        refine lv_iload_n hx hb d_Office_countReady_30 rfl (lv_at hl 1 rfl) ?_
        exact Ct.iret hx hb hr hnl hW (by decide) (by decide) d_Office_countReady_31 ⟨by first | rfl | (simp only [rd, if_neg hf2, if_neg hf10, if_neg hf14]; done) | (simp only [rd, if_neg hf2, if_neg hf10, if_neg hf14]; rfl), by first | rfl | (simp only [rd, if_neg hf2, if_neg hf10, if_neg hf14]; done) | (simp only [rd, if_neg hf2, if_neg hf10, if_neg hf14]; rfl)⟩

