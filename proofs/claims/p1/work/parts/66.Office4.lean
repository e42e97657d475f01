theorem d_Office_init_0 : decode b_Office_init 0 = .ok (.aload_n 0, 1) := by decide +kernel
theorem d_Office_init_1 : decode b_Office_init 1 = .ok (.invokespecial 3, 3) := by decide +kernel
theorem d_Office_init_4 : decode b_Office_init 4 = .ok (.aload_n 0, 1) := by decide +kernel
theorem d_Office_init_5 : decode b_Office_init 5 = .ok (.new 9, 3) := by decide +kernel
theorem d_Office_init_8 : decode b_Office_init 8 = .ok (.dup, 1) := by decide +kernel
theorem d_Office_init_9 : decode b_Office_init 9 = .ok (.invokespecial 11, 3) := by decide +kernel
theorem d_Office_init_12 : decode b_Office_init 12 = .ok (.putfield 12, 3) := by decide +kernel
theorem d_Office_init_15 : decode b_Office_init 15 = .ok (.aload_n 0, 1) := by decide +kernel
theorem d_Office_init_16 : decode b_Office_init 16 = .ok (.iconst 3, 1) := by decide +kernel
theorem d_Office_init_17 : decode b_Office_init 17 = .ok (.anewarray 18, 3) := by decide +kernel
theorem d_Office_init_20 : decode b_Office_init 20 = .ok (.putfield 20, 3) := by decide +kernel
theorem d_Office_init_23 : decode b_Office_init 23 = .ok (.iconst 0, 1) := by decide +kernel
theorem d_Office_init_24 : decode b_Office_init 24 = .ok (.istore_n 1, 1) := by decide +kernel
theorem d_Office_init_25 : decode b_Office_init 25 = .ok (.iload_n 1, 1) := by decide +kernel
theorem d_Office_init_26 : decode b_Office_init 26 = .ok (.iconst 3, 1) := by decide +kernel
theorem d_Office_init_27 : decode b_Office_init 27 = .ok (.if_icmp .ge 23, 3) := by decide +kernel
theorem d_Office_init_30 : decode b_Office_init 30 = .ok (.aload_n 0, 1) := by decide +kernel
theorem d_Office_init_31 : decode b_Office_init 31 = .ok (.getfield 20, 3) := by decide +kernel
theorem d_Office_init_34 : decode b_Office_init 34 = .ok (.iload_n 1, 1) := by decide +kernel
theorem d_Office_init_35 : decode b_Office_init 35 = .ok (.new 18, 3) := by decide +kernel
theorem d_Office_init_38 : decode b_Office_init 38 = .ok (.dup, 1) := by decide +kernel
theorem d_Office_init_39 : decode b_Office_init 39 = .ok (.iload_n 1, 1) := by decide +kernel
theorem d_Office_init_40 : decode b_Office_init 40 = .ok (.invokespecial 24, 3) := by decide +kernel
theorem d_Office_init_43 : decode b_Office_init 43 = .ok (.aastore, 1) := by decide +kernel
theorem d_Office_init_44 : decode b_Office_init 44 = .ok (.iinc 1 1, 3) := by decide +kernel
theorem d_Office_init_47 : decode b_Office_init 47 = .ok (.goto (-22), 3) := by decide +kernel
theorem d_Office_init_50 : decode b_Office_init 50 = .ok (.return_, 1) := by decide +kernel
theorem d_Office_prepare_0 : decode b_Office_prepare 0 = .ok (.aload_n 0, 1) := by decide +kernel
theorem d_Office_prepare_1 : decode b_Office_prepare 1 = .ok (.getfield 12, 3) := by decide +kernel
theorem d_Office_prepare_4 : decode b_Office_prepare 4 = .ok (.invokevirtual 27, 3) := by decide +kernel
theorem d_Office_prepare_7 : decode b_Office_prepare 7 = .ok (.iconst 0, 1) := by decide +kernel
theorem d_Office_prepare_8 : decode b_Office_prepare 8 = .ok (.istore 4, 2) := by decide +kernel
theorem d_Office_prepare_10 : decode b_Office_prepare 10 = .ok (.iload 4, 2) := by decide +kernel
theorem d_Office_prepare_12 : decode b_Office_prepare 12 = .ok (.iconst 3, 1) := by decide +kernel
theorem d_Office_prepare_13 : decode b_Office_prepare 13 = .ok (.if_icmp .ge 33, 3) := by decide +kernel
theorem d_Office_prepare_16 : decode b_Office_prepare 16 = .ok (.aload_n 0, 1) := by decide +kernel
theorem d_Office_prepare_17 : decode b_Office_prepare 17 = .ok (.getfield 20, 3) := by decide +kernel
theorem d_Office_prepare_20 : decode b_Office_prepare 20 = .ok (.iload 4, 2) := by decide +kernel
theorem d_Office_prepare_22 : decode b_Office_prepare 22 = .ok (.aaload, 1) := by decide +kernel
theorem d_Office_prepare_23 : decode b_Office_prepare 23 = .ok (.aload_n 1, 1) := by decide +kernel
theorem d_Office_prepare_24 : decode b_Office_prepare 24 = .ok (.aload_n 2, 1) := by decide +kernel
theorem d_Office_prepare_25 : decode b_Office_prepare 25 = .ok (.iload 4, 2) := by decide +kernel
theorem d_Office_prepare_27 : decode b_Office_prepare 27 = .ok (.laload, 1) := by decide +kernel
theorem d_Office_prepare_28 : decode b_Office_prepare 28 = .ok (.aload_n 2, 1) := by decide +kernel
theorem d_Office_prepare_29 : decode b_Office_prepare 29 = .ok (.iload 4, 2) := by decide +kernel
theorem d_Office_prepare_31 : decode b_Office_prepare 31 = .ok (.iconst 1, 1) := by decide +kernel
theorem d_Office_prepare_32 : decode b_Office_prepare 32 = .ok (.iadd, 1) := by decide +kernel
theorem d_Office_prepare_33 : decode b_Office_prepare 33 = .ok (.iconst 3, 1) := by decide +kernel
theorem d_Office_prepare_34 : decode b_Office_prepare 34 = .ok (.irem, 1) := by decide +kernel
theorem d_Office_prepare_35 : decode b_Office_prepare 35 = .ok (.laload, 1) := by decide +kernel
theorem d_Office_prepare_36 : decode b_Office_prepare 36 = .ok (.iload_n 3, 1) := by decide +kernel
theorem d_Office_prepare_37 : decode b_Office_prepare 37 = .ok (.invokevirtual 30, 3) := by decide +kernel
theorem d_Office_prepare_40 : decode b_Office_prepare 40 = .ok (.iinc 4 1, 3) := by decide +kernel
theorem d_Office_prepare_43 : decode b_Office_prepare 43 = .ok (.goto (-33), 3) := by decide +kernel
theorem d_Office_prepare_46 : decode b_Office_prepare 46 = .ok (.return_, 1) := by decide +kernel
theorem d_Office_deal_0 : decode b_Office_deal 0 = .ok (.aload_n 0, 1) := by decide +kernel
theorem d_Office_deal_1 : decode b_Office_deal 1 = .ok (.getfield 20, 3) := by decide +kernel
theorem d_Office_deal_4 : decode b_Office_deal 4 = .ok (.iconst 0, 1) := by decide +kernel
theorem d_Office_deal_5 : decode b_Office_deal 5 = .ok (.aaload, 1) := by decide +kernel
theorem d_Office_deal_6 : decode b_Office_deal 6 = .ok (.iload_n 1, 1) := by decide +kernel
theorem d_Office_deal_7 : decode b_Office_deal 7 = .ok (.iload_n 2, 1) := by decide +kernel
theorem d_Office_deal_8 : decode b_Office_deal 8 = .ok (.iload_n 3, 1) := by decide +kernel
theorem d_Office_deal_9 : decode b_Office_deal 9 = .ok (.invokevirtual 34, 3) := by decide +kernel
theorem d_Office_deal_12 : decode b_Office_deal 12 = .ok (.aload_n 0, 1) := by decide +kernel
theorem d_Office_deal_13 : decode b_Office_deal 13 = .ok (.getfield 20, 3) := by decide +kernel
theorem d_Office_deal_16 : decode b_Office_deal 16 = .ok (.iconst 1, 1) := by decide +kernel
theorem d_Office_deal_17 : decode b_Office_deal 17 = .ok (.aaload, 1) := by decide +kernel
theorem d_Office_deal_18 : decode b_Office_deal 18 = .ok (.iload_n 1, 1) := by decide +kernel
theorem d_Office_deal_19 : decode b_Office_deal 19 = .ok (.iload_n 3, 1) := by decide +kernel
theorem d_Office_deal_20 : decode b_Office_deal 20 = .ok (.iload 4, 2) := by decide +kernel
theorem d_Office_deal_22 : decode b_Office_deal 22 = .ok (.invokevirtual 34, 3) := by decide +kernel
theorem d_Office_deal_25 : decode b_Office_deal 25 = .ok (.aload_n 0, 1) := by decide +kernel
theorem d_Office_deal_26 : decode b_Office_deal 26 = .ok (.getfield 20, 3) := by decide +kernel
theorem d_Office_deal_29 : decode b_Office_deal 29 = .ok (.iconst 2, 1) := by decide +kernel
theorem d_Office_deal_30 : decode b_Office_deal 30 = .ok (.aaload, 1) := by decide +kernel
theorem d_Office_deal_31 : decode b_Office_deal 31 = .ok (.iload_n 1, 1) := by decide +kernel
theorem d_Office_deal_32 : decode b_Office_deal 32 = .ok (.iload 4, 2) := by decide +kernel
theorem d_Office_deal_34 : decode b_Office_deal 34 = .ok (.iload_n 2, 1) := by decide +kernel
theorem d_Office_deal_35 : decode b_Office_deal 35 = .ok (.invokevirtual 34, 3) := by decide +kernel
theorem d_Office_deal_38 : decode b_Office_deal 38 = .ok (.return_, 1) := by decide +kernel
theorem d_Office_carryOut_0 : decode b_Office_carryOut 0 = .ok (.aload_n 0, 1) := by decide +kernel
theorem d_Office_carryOut_1 : decode b_Office_carryOut 1 = .ok (.iload_n 1, 1) := by decide +kernel
theorem d_Office_carryOut_2 : decode b_Office_carryOut 2 = .ok (.i2l, 1) := by decide +kernel
theorem d_Office_carryOut_3 : decode b_Office_carryOut 3 = .ok (.putfield 38, 3) := by decide +kernel
theorem d_Office_carryOut_6 : decode b_Office_carryOut 6 = .ok (.iconst 0, 1) := by decide +kernel
theorem d_Office_carryOut_7 : decode b_Office_carryOut 7 = .ok (.istore_n 2, 1) := by decide +kernel
theorem d_Office_carryOut_8 : decode b_Office_carryOut 8 = .ok (.iload_n 2, 1) := by decide +kernel
theorem d_Office_carryOut_9 : decode b_Office_carryOut 9 = .ok (.ldc 42, 2) := by decide +kernel
theorem d_Office_carryOut_11 : decode b_Office_carryOut 11 = .ok (.if_icmp .ge 36, 3) := by decide +kernel
theorem d_Office_carryOut_14 : decode b_Office_carryOut 14 = .ok (.aload_n 0, 1) := by decide +kernel
theorem d_Office_carryOut_15 : decode b_Office_carryOut 15 = .ok (.getfield 12, 3) := by decide +kernel
theorem d_Office_carryOut_18 : decode b_Office_carryOut 18 = .ok (.invokevirtual 43, 3) := by decide +kernel
theorem d_Office_carryOut_21 : decode b_Office_carryOut 21 = .ok (.aload_n 0, 1) := by decide +kernel
theorem d_Office_carryOut_22 : decode b_Office_carryOut 22 = .ok (.invokevirtual 47, 3) := by decide +kernel
theorem d_Office_carryOut_25 : decode b_Office_carryOut 25 = .ok (.iadd, 1) := by decide +kernel
theorem d_Office_carryOut_26 : decode b_Office_carryOut 26 = .ok (.istore_n 3, 1) := by decide +kernel
theorem d_Office_carryOut_27 : decode b_Office_carryOut 27 = .ok (.iload_n 3, 1) := by decide +kernel
theorem d_Office_carryOut_28 : decode b_Office_carryOut 28 = .ok (.ifCond .gt 4, 3) := by decide +kernel
theorem d_Office_carryOut_31 : decode b_Office_carryOut 31 = .ok (.return_, 1) := by decide +kernel
theorem d_Office_carryOut_32 : decode b_Office_carryOut 32 = .ok (.aload_n 0, 1) := by decide +kernel
theorem d_Office_carryOut_33 : decode b_Office_carryOut 33 = .ok (.aload_n 0, 1) := by decide +kernel
theorem d_Office_carryOut_34 : decode b_Office_carryOut 34 = .ok (.iload_n 3, 1) := by decide +kernel
theorem d_Office_carryOut_35 : decode b_Office_carryOut 35 = .ok (.invokevirtual 50, 3) := by decide +kernel
theorem d_Office_carryOut_38 : decode b_Office_carryOut 38 = .ok (.invokevirtual 54, 3) := by decide +kernel
theorem d_Office_carryOut_41 : decode b_Office_carryOut 41 = .ok (.iinc 2 1, 3) := by decide +kernel
theorem d_Office_carryOut_44 : decode b_Office_carryOut 44 = .ok (.goto (-36), 3) := by decide +kernel
theorem d_Office_carryOut_47 : decode b_Office_carryOut 47 = .ok (.return_, 1) := by decide +kernel
theorem d_Office_countReady_0 : decode b_Office_countReady 0 = .ok (.iconst 0, 1) := by decide +kernel
theorem d_Office_countReady_1 : decode b_Office_countReady 1 = .ok (.istore_n 1, 1) := by decide +kernel
theorem d_Office_countReady_2 : decode b_Office_countReady 2 = .ok (.iconst 0, 1) := by decide +kernel
theorem d_Office_countReady_3 : decode b_Office_countReady 3 = .ok (.istore_n 2, 1) := by decide +kernel
theorem d_Office_countReady_4 : decode b_Office_countReady 4 = .ok (.iload_n 2, 1) := by decide +kernel
theorem d_Office_countReady_5 : decode b_Office_countReady 5 = .ok (.iconst 3, 1) := by decide +kernel
theorem d_Office_countReady_6 : decode b_Office_countReady 6 = .ok (.if_icmp .ge 24, 3) := by decide +kernel
theorem d_Office_countReady_9 : decode b_Office_countReady 9 = .ok (.aload_n 0, 1) := by decide +kernel
theorem d_Office_countReady_10 : decode b_Office_countReady 10 = .ok (.getfield 20, 3) := by decide +kernel
theorem d_Office_countReady_13 : decode b_Office_countReady 13 = .ok (.iload_n 2, 1) := by decide +kernel
theorem d_Office_countReady_14 : decode b_Office_countReady 14 = .ok (.aaload, 1) := by decide +kernel
theorem d_Office_countReady_15 : decode b_Office_countReady 15 = .ok (.invokevirtual 57, 3) := by decide +kernel
theorem d_Office_countReady_18 : decode b_Office_countReady 18 = .ok (.ifCond .eq 6, 3) := by decide +kernel
theorem d_Office_countReady_21 : decode b_Office_countReady 21 = .ok (.iinc 1 1, 3) := by decide +kernel
theorem d_Office_countReady_24 : decode b_Office_countReady 24 = .ok (.iinc 2 1, 3) := by decide +kernel
theorem d_Office_countReady_27 : decode b_Office_countReady 27 = .ok (.goto (-23), 3) := by decide +kernel
theorem d_Office_countReady_30 : decode b_Office_countReady 30 = .ok (.iload_n 1, 1) := by decide +kernel
theorem d_Office_countReady_31 : decode b_Office_countReady 31 = .ok (.ireturn, 1) := by decide +kernel
theorem d_Office_makeMove_0 : decode b_Office_makeMove 0 = .ok (.iload_n 1, 1) := by decide +kernel
theorem d_Office_makeMove_1 : decode b_Office_makeMove 1 = .ok (.aload_n 0, 1) := by decide +kernel
theorem d_Office_makeMove_2 : decode b_Office_makeMove 2 = .ok (.getfield 12, 3) := by decide +kernel
theorem d_Office_makeMove_5 : decode b_Office_makeMove 5 = .ok (.invokevirtual 43, 3) := by decide +kernel
theorem d_Office_makeMove_8 : decode b_Office_makeMove 8 = .ok (.if_icmp .ge 16, 3) := by decide +kernel
theorem d_Office_makeMove_11 : decode b_Office_makeMove 11 = .ok (.aload_n 0, 1) := by decide +kernel
theorem d_Office_makeMove_12 : decode b_Office_makeMove 12 = .ok (.getfield 12, 3) := by decide +kernel
theorem d_Office_makeMove_15 : decode b_Office_makeMove 15 = .ok (.iload_n 1, 1) := by decide +kernel
theorem d_Office_makeMove_16 : decode b_Office_makeMove 16 = .ok (.aload_n 0, 1) := by decide +kernel
theorem d_Office_makeMove_17 : decode b_Office_makeMove 17 = .ok (.getfield 20, 3) := by decide +kernel
theorem d_Office_makeMove_20 : decode b_Office_makeMove 20 = .ok (.invokevirtual 61, 3) := by decide +kernel
theorem d_Office_makeMove_23 : decode b_Office_makeMove 23 = .ok (.return_, 1) := by decide +kernel
theorem d_Office_makeMove_24 : decode b_Office_makeMove 24 = .ok (.aload_n 0, 1) := by decide +kernel
theorem d_Office_makeMove_25 : decode b_Office_makeMove 25 = .ok (.getfield 12, 3) := by decide +kernel
theorem d_Office_makeMove_28 : decode b_Office_makeMove 28 = .ok (.invokevirtual 43, 3) := by decide +kernel
theorem d_Office_makeMove_31 : decode b_Office_makeMove 31 = .ok (.istore_n 2, 1) := by decide +kernel
theorem d_Office_makeMove_32 : decode b_Office_makeMove 32 = .ok (.iconst 0, 1) := by decide +kernel
theorem d_Office_makeMove_33 : decode b_Office_makeMove 33 = .ok (.istore_n 3, 1) := by decide +kernel
theorem d_Office_makeMove_34 : decode b_Office_makeMove 34 = .ok (.iload_n 3, 1) := by decide +kernel
theorem d_Office_makeMove_35 : decode b_Office_makeMove 35 = .ok (.iconst 3, 1) := by decide +kernel
theorem d_Office_makeMove_36 : decode b_Office_makeMove 36 = .ok (.if_icmp .ge 43, 3) := by decide +kernel
theorem d_Office_makeMove_39 : decode b_Office_makeMove 39 = .ok (.aload_n 0, 1) := by decide +kernel
theorem d_Office_makeMove_40 : decode b_Office_makeMove 40 = .ok (.getfield 20, 3) := by decide +kernel
theorem d_Office_makeMove_43 : decode b_Office_makeMove 43 = .ok (.iload_n 3, 1) := by decide +kernel
theorem d_Office_makeMove_44 : decode b_Office_makeMove 44 = .ok (.aaload, 1) := by decide +kernel
theorem d_Office_makeMove_45 : decode b_Office_makeMove 45 = .ok (.invokevirtual 57, 3) := by decide +kernel
theorem d_Office_makeMove_48 : decode b_Office_makeMove 48 = .ok (.ifCond .eq 25, 3) := by decide +kernel
theorem d_Office_makeMove_51 : decode b_Office_makeMove 51 = .ok (.iload_n 2, 1) := by decide +kernel
theorem d_Office_makeMove_52 : decode b_Office_makeMove 52 = .ok (.iload_n 1, 1) := by decide +kernel
theorem d_Office_makeMove_53 : decode b_Office_makeMove 53 = .ok (.if_icmp .ne 17, 3) := by decide +kernel
theorem d_Office_makeMove_56 : decode b_Office_makeMove 56 = .ok (.aload_n 0, 1) := by decide +kernel
theorem d_Office_makeMove_57 : decode b_Office_makeMove 57 = .ok (.getfield 20, 3) := by decide +kernel
theorem d_Office_makeMove_60 : decode b_Office_makeMove 60 = .ok (.iload_n 3, 1) := by decide +kernel
theorem d_Office_makeMove_61 : decode b_Office_makeMove 61 = .ok (.aaload, 1) := by decide +kernel
theorem d_Office_makeMove_62 : decode b_Office_makeMove 62 = .ok (.aload_n 0, 1) := by decide +kernel
theorem d_Office_makeMove_63 : decode b_Office_makeMove 63 = .ok (.getfield 12, 3) := by decide +kernel
theorem d_Office_makeMove_66 : decode b_Office_makeMove 66 = .ok (.invokevirtual 65, 3) := by decide +kernel
theorem d_Office_makeMove_69 : decode b_Office_makeMove 69 = .ok (.return_, 1) := by decide +kernel
theorem d_Office_makeMove_70 : decode b_Office_makeMove 70 = .ok (.iinc 2 1, 3) := by decide +kernel
theorem d_Office_makeMove_73 : decode b_Office_makeMove 73 = .ok (.iinc 3 1, 3) := by decide +kernel
theorem d_Office_makeMove_76 : decode b_Office_makeMove 76 = .ok (.goto (-42), 3) := by decide +kernel
theorem d_Office_makeMove_79 : decode b_Office_makeMove 79 = .ok (.return_, 1) := by decide +kernel
theorem d_Office_draw_0 : decode b_Office_draw 0 = .ok (.aload_n 0, 1) := by decide +kernel
theorem d_Office_draw_1 : decode b_Office_draw 1 = .ok (.aload_n 0, 1) := by decide +kernel
theorem d_Office_draw_2 : decode b_Office_draw 2 = .ok (.getfield 38, 3) := by decide +kernel
theorem d_Office_draw_5 : decode b_Office_draw 5 = .ok (.ldc2_w 69, 3) := by decide +kernel
theorem d_Office_draw_8 : decode b_Office_draw 8 = .ok (.lmul, 1) := by decide +kernel
theorem d_Office_draw_9 : decode b_Office_draw 9 = .ok (.ldc2_w 71, 3) := by decide +kernel
theorem d_Office_draw_12 : decode b_Office_draw 12 = .ok (.ladd, 1) := by decide +kernel
theorem d_Office_draw_13 : decode b_Office_draw 13 = .ok (.putfield 38, 3) := by decide +kernel
theorem d_Office_draw_16 : decode b_Office_draw 16 = .ok (.aload_n 0, 1) := by decide +kernel
theorem d_Office_draw_17 : decode b_Office_draw 17 = .ok (.getfield 38, 3) := by decide +kernel
theorem d_Office_draw_20 : decode b_Office_draw 20 = .ok (.bipush 32, 2) := by decide +kernel
theorem d_Office_draw_22 : decode b_Office_draw 22 = .ok (.lushr, 1) := by decide +kernel
theorem d_Office_draw_23 : decode b_Office_draw 23 = .ok (.l2i, 1) := by decide +kernel
theorem d_Office_draw_24 : decode b_Office_draw 24 = .ok (.iload_n 1, 1) := by decide +kernel
theorem d_Office_draw_25 : decode b_Office_draw 25 = .ok (.invokestatic 73, 3) := by decide +kernel
theorem d_Office_draw_28 : decode b_Office_draw 28 = .ok (.ireturn, 1) := by decide +kernel
theorem d_Office_copyOpened_0 : decode b_Office_copyOpened 0 = .ok (.aload_n 0, 1) := by decide +kernel
theorem d_Office_copyOpened_1 : decode b_Office_copyOpened 1 = .ok (.getfield 20, 3) := by decide +kernel
theorem d_Office_copyOpened_4 : decode b_Office_copyOpened 4 = .ok (.iconst 0, 1) := by decide +kernel
theorem d_Office_copyOpened_5 : decode b_Office_copyOpened 5 = .ok (.aaload, 1) := by decide +kernel
theorem d_Office_copyOpened_6 : decode b_Office_copyOpened 6 = .ok (.aload_n 1, 1) := by decide +kernel
theorem d_Office_copyOpened_7 : decode b_Office_copyOpened 7 = .ok (.invokevirtual 79, 3) := by decide +kernel
theorem d_Office_copyOpened_10 : decode b_Office_copyOpened 10 = .ok (.ireturn, 1) := by decide +kernel
abbrev rm_Office_init : Room := { frames := 4, cells := 71, slots := 2506, locals := 75 }
set_option maxHeartbeats 4000000 in
set_option maxRecDepth 100000 in
theorem c_Office_init (l : Launch) (G : Gt) (h0 : Nat) : Ct l G y_Office_init b_Office_init 2 none rm_Office_init [.ref h0] (bj [[(h0, .inr (5, [.null, .null, .long 0]))]]) 71 2506 (fun v w' => ∃ (q4 : Nat) (q12 : Nat → Nat) (q9 : Nat → Nat) (q6 : Nat → Nat) (q2 : Nat → Nat), v = none ∧ w' = (bj [[(h0, .inr (5, [.ref (q2 0), .ref q4, .long 0]))], [(q4, .inl (G.2 4, 3, .inr (.inr (.inr (.inr (va_up (va_up (va_up (fun _ => none) 0 (some (q6 0))) 1 (some (q9 0))) 2 (some (q12 0))))))))], ckF G q12 (2 : Int32) ckZ0 rsZ, ckF G q9 (1 : Int32) ckZ0 rsZ, ckF G q6 (0 : Int32) ckZ0 rsZ, poB G q2 poZ])) := by
  refine Ct.of (by decide) (Nat.le_of_ble_eq_true rfl) (fun p e s m args below meth c A ls H locs hx hb hml hr hnl hown hts hnm hK hA hl hW => ?_)
  have hl : lv_has ls 2 [(0, .ref h0)] := hl
  refine lv_aload_n hx hb d_Office_init_0 rfl (lv_at hl 0 rfl) ?_
  refine W.objInit hx hb hown (hts _ w_ml_Office_3) (hts _ w_oi_im) (hts _ w_oi_code) rfl (by rw [hml]; exact hl.1) rfl d_Office_init_1 (Nat.le_of_ble_eq_true rfl) (Nat.le_of_ble_eq_true rfl) ?_
  refine W.eq (g2 := F0 m 4 ls []) rfl ?_
  refine lv_aload_n hx hb d_Office_init_4 rfl (lv_at hl 0 rfl) ?_
  refine Wd.new (ci := 8) (fs := [.null, .null, .null, .int 0]) (ty0 := t_Post) hx hb hts hown hK hA hW in_Post t_Post_ok w_cl_Office_9 w_nb_Post w_ini_Post d_Office_init_5 rfl z_Post (by decide) (by decide) (fun q1 H hW => ?_)
  have hW := Wd.blk (rs := [[(h0, .inr (5, [.null, .null, .long 0]))]]) (bs := [[(q1, .inr (8, [.null, .null, .null, .int 0]))]]) (Bs := [[(h0, .inr (5, [.null, .null, .long 0]))], [(q1, .inr (8, [.null, .null, .null, .int 0]))]]) hW [0, 1] (show ([0, 1] : List Nat).Perm (List.range 2) by decide) rfl
  have hW : Wd G A s.heap (bj [[(h0, .inr (5, [.null, .null, .long 0]))], [(q1, .inr (8, [.null, .null, .null, .int 0]))]]) H locs := hW
  refine W.widen (k := 1) (n := 4) (by decide) (by decide) ?_
  refine lv_dup hx hb d_Office_init_8 rfl ?_
  refine Ct.callINB (As := []) (rest := [.ref q1, .ref h0]) (wr := bj [[(h0, .inr (5, [.null, .null, .long 0]))]]) hx hb hml hown hts hK hA hl.1 hW (bl_pick (bs := [[(q1, .inr (8, [.null, .null, .null, .int 0]))]]) (rs := [[(h0, .inr (5, [.null, .null, .long 0]))]]) (Bs := [[(h0, .inr (5, [.null, .null, .long 0]))], [(q1, .inr (8, [.null, .null, .null, .int 0]))]]) [1, 0] (show ([1, 0] : List Nat).Perm (List.range 2) by decide) rfl) (cb_Post_init l G q1 ) ⟨va_cnB 0 hts (good_C w_code_Post_init) rfl rfl rfl (hK.2.1 _ (List.mem_of_getElem? (i := 4) rfl)) (hts _ w_ini_Post) yd_Post_init ⟨by decide, by decide⟩, rfl, hts _ w_im_Post_init⟩ rfl rfl (Nat.le_of_ble_eq_true rfl) d_Office_init_9 ⟨by decide, by decide⟩ (fun v w' hp => by obtain ⟨-, -, -, rfl⟩ := hp; exact Nat.le_of_ble_eq_true rfl) (fun v w' H locs hp hW => ?_)
  obtain ⟨q2, eq3, rfl, rfl⟩ := hp
  have hW := Wd.blk (rs := [[(h0, .inr (5, [.null, .null, .long 0]))]]) (bs := [poB G q2 poZ]) (Bs := [[(h0, .inr (5, [.null, .null, .long 0]))], poB G q2 poZ]) hW [0, 1] (show ([0, 1] : List Nat).Perm (List.range 2) by decide) rfl
  have eq3 : q2 0 = q1 := eq3
  have hWz := hW
  subst eq3
  have hW := hWz
  refine W.widen (k := 4) (n := 52) (by decide) (by decide) ?_
  refine W.eq (g2 := F0 m 12 ls [.ref (q2 0), .ref h0]) rfl ?_
  refine Wd.putF (v := .ref (q2 0)) hx hb hts hown hK hW 0 0 in_Office t_Office_ok n_Office w_fl_Office_12 (by decide) d_Office_init_12 rfl rfl rfl hnm rfl rfl rfl (Nat.le_of_ble_eq_true rfl) (fun H locs hW => ?_)
  have hW : Wd G A s.heap (bj [[(h0, .inr (5, [.ref (q2 0), .null, .long 0]))], poB G q2 poZ]) H locs := hW
  refine lv_aload_n hx hb d_Office_init_15 rfl (lv_at hl 0 rfl) ?_
  refine lv_iconst (v := 3) hx hb d_Office_init_16 (by decide) ?_
  refine Wd.newq (N' := 3) hx hb hts hown hK hA hW 4 w_cl_Office_18 hK.2.2 d_Office_init_17 rfl (by decide) (by decide) (by decide) (by decide) (by decide) (fun q4 H hW => ?_)
  have hW := Wd.blk (rs := [[(h0, .inr (5, [.ref (q2 0), .null, .long 0]))], poB G q2 poZ]) (bs := [[(q4, .inl (G.2 4, 3, .inr (.inr (.inr (.inr (fun _ => none))))))]]) (Bs := [[(h0, .inr (5, [.ref (q2 0), .null, .long 0]))], [(q4, .inl (G.2 4, 3, .inr (.inr (.inr (.inr (fun _ => none))))))], poB G q2 poZ]) hW [0, 2, 1] (show ([0, 2, 1] : List Nat).Perm (List.range 3) by decide) rfl
  have hW : Wd G A s.heap (bj [[(h0, .inr (5, [.ref (q2 0), .null, .long 0]))], [(q4, .inl (G.2 4, 3, .inr (.inr (.inr (.inr (fun _ => none))))))], poB G q2 poZ]) H locs := hW
  refine W.widen (k := 5) (n := 55) (by decide) (by decide) ?_
  refine Wd.putF (v := .ref q4) hx hb hts hown hK hW 0 1 in_Office t_Office_ok n_Office w_fl_Office_20 (by decide) d_Office_init_20 rfl rfl rfl hnm rfl rfl rfl (Nat.le_of_ble_eq_true rfl) (fun H locs hW => ?_)
  have hW : Wd G A s.heap (bj [[(h0, .inr (5, [.ref (q2 0), .ref q4, .long 0]))], [(q4, .inl (G.2 4, 3, .inr (.inr (.inr (.inr (fun _ => none))))))], poB G q2 poZ]) H locs := hW
  refine lv_iconst (v := 0) hx hb d_Office_init_23 (by decide) ?_
  refine lv_istore_n (lv' := [(1, .int 0), (0, .ref h0)]) hx hb d_Office_init_24 rfl hl (by decide) rfl (fun ls hl => ?_)
  refine lv_iload_n hx hb d_Office_init_25 rfl (lv_at hl 0 rfl) ?_
  refine lv_iconst (v := 3) hx hb d_Office_init_26 (by decide) ?_
  refine lv_icmp_ge (tgt := 50) hx hb d_Office_init_27 rfl (fun hz => absurd hz (by decide)) (fun _ => ?_)
  refine lv_aload_n hx hb d_Office_init_30 rfl (lv_at hl 1 rfl) ?_
  refine Wd.get hx hb hts hown hK hW 0 1 in_Office w_fl_Office_20 (by decide) d_Office_init_31 rfl rfl rfl ?_
  refine lv_iload_n hx hb d_Office_init_34 rfl (lv_at hl 0 rfl) ?_
  refine Wd.new (ci := 3) (fs := [.int 0, .null, .null, .null, .null, .null, .null, .null, .null, .null, .null, .int 0, .int 0, .int 0, .int 0, .null, .int 0]) (ty0 := t_Clerk) hx hb hts hown hK hA hW in_Clerk t_Clerk_ok w_cl_Office_18 w_nb_Clerk w_ini_Clerk d_Office_init_35 rfl z_Clerk (by decide) (by decide) (fun q5 H hW => ?_)
  have hW := Wd.blk (rs := [[(h0, .inr (5, [.ref (q2 0), .ref q4, .long 0]))], [(q4, .inl (G.2 4, 3, .inr (.inr (.inr (.inr (fun _ => none))))))], poB G q2 poZ]) (bs := [[(q5, .inr (3, [.int 0, .null, .null, .null, .null, .null, .null, .null, .null, .null, .null, .int 0, .int 0, .int 0, .int 0, .null, .int 0]))]]) (Bs := [[(h0, .inr (5, [.ref (q2 0), .ref q4, .long 0]))], [(q4, .inl (G.2 4, 3, .inr (.inr (.inr (.inr (fun _ => none))))))], [(q5, .inr (3, [.int 0, .null, .null, .null, .null, .null, .null, .null, .null, .null, .null, .int 0, .int 0, .int 0, .int 0, .null, .int 0]))], poB G q2 poZ]) hW [0, 1, 3, 2] (show ([0, 1, 3, 2] : List Nat).Perm (List.range 4) by decide) rfl
  have hW : Wd G A s.heap (bj [[(h0, .inr (5, [.ref (q2 0), .ref q4, .long 0]))], [(q4, .inl (G.2 4, 3, .inr (.inr (.inr (.inr (fun _ => none))))))], [(q5, .inr (3, [.int 0, .null, .null, .null, .null, .null, .null, .null, .null, .null, .null, .int 0, .int 0, .int 0, .int 0, .null, .int 0]))], poB G q2 poZ]) H locs := hW
  refine W.widen (k := 6) (n := 72) (by decide) (by decide) ?_
  refine lv_dup hx hb d_Office_init_38 rfl ?_
  refine lv_iload_n hx hb d_Office_init_39 rfl (lv_at hl 0 rfl) ?_
  refine Ct.callIB (As := [.int 0]) (rest := [.ref q5, .int 0, .ref q4]) (wr := bj [[(h0, .inr (5, [.ref (q2 0), .ref q4, .long 0]))], [(q4, .inl (G.2 4, 3, .inr (.inr (.inr (.inr (fun _ => none))))))], poB G q2 poZ]) hx hb hml hown hts hK hA hl.1 hW (bl_pick (bs := [[(q5, .inr (3, [.int 0, .null, .null, .null, .null, .null, .null, .null, .null, .null, .null, .int 0, .int 0, .int 0, .int 0, .null, .int 0]))]]) (rs := [[(h0, .inr (5, [.ref (q2 0), .ref q4, .long 0]))], [(q4, .inl (G.2 4, 3, .inr (.inr (.inr (.inr (fun _ => none))))))], poB G q2 poZ]) (Bs := [[(h0, .inr (5, [.ref (q2 0), .ref q4, .long 0]))], [(q4, .inl (G.2 4, 3, .inr (.inr (.inr (.inr (fun _ => none))))))], [(q5, .inr (3, [.int 0, .null, .null, .null, .null, .null, .null, .null, .null, .null, .null, .int 0, .int 0, .int 0, .int 0, .null, .int 0]))], poB G q2 poZ]) [2, 0, 1, 3] (show ([2, 0, 1, 3] : List Nat).Perm (List.range 4) by decide) rfl) (cb_Clerk_init l G q5 (0 : Int32) ) (cwI 1 hts (good_C w_code_Clerk_init) rfl rfl rfl (hts _ w_ini_Clerk) (hts _ w_ml_Office_24) (hts _ w_im_Clerk_init) rfl yd_Clerk_init ⟨by decide, by decide⟩) rfl rfl (Nat.le_of_ble_eq_true rfl) d_Office_init_40 ⟨by decide, by decide⟩ (fun v w' hp => by obtain ⟨-, -, -, rfl⟩ := hp; exact Nat.le_of_ble_eq_true rfl) (fun v w' H locs hp hW => ?_)
  obtain ⟨q6, eq7, rfl, rfl⟩ := hp
  have hW := Wd.blk (rs := [[(h0, .inr (5, [.ref (q2 0), .ref q4, .long 0]))], [(q4, .inl (G.2 4, 3, .inr (.inr (.inr (.inr (fun _ => none))))))], poB G q2 poZ]) (bs := [ckF G q6 (0 : Int32) ckZ0 rsZ]) (Bs := [[(h0, .inr (5, [.ref (q2 0), .ref q4, .long 0]))], [(q4, .inl (G.2 4, 3, .inr (.inr (.inr (.inr (fun _ => none))))))], ckF G q6 (0 : Int32) ckZ0 rsZ, poB G q2 poZ]) hW [0, 1, 3, 2] (show ([0, 1, 3, 2] : List Nat).Perm (List.range 4) by decide) rfl
  have eq7 : q6 0 = q5 := eq7
  have hWz := hW
  subst eq7
  have hW := hWz
  refine W.widen (k := 27) (n := 872) (by decide) (by decide) ?_
  refine W.eq (g2 := F0 m 43 ls [.ref (q6 0), .int 0, .ref q4]) rfl ?_
  refine Wd.aast (r := vr_Clerk) hx hb hK hW 1 4 2 3 d_Office_init_43 rfl rfl rfl rfl (by unfold vp_in; decide) (fun H locs hW => ?_)
  have hW : Wd G A s.heap (bj [[(h0, .inr (5, [.ref (q2 0), .ref q4, .long 0]))], [(q4, .inl (G.2 4, 3, .inr (.inr (.inr (.inr (va_up (fun _ => none) 0 (some (q6 0))))))))], ckF G q6 (0 : Int32) ckZ0 rsZ, poB G q2 poZ]) H locs := hW
  refine lv_iinc (k := 0) (v := 1) (lv' := [(1, .int 1), (0, .ref h0)]) hx hb d_Office_init_44 hl rfl (by decide) (by decide) rfl (fun ls hl => ?_)
  refine lv_goto (tgt := 25) hx hb d_Office_init_47 rfl ?_
  refine lv_iload_n hx hb d_Office_init_25 rfl (lv_at hl 0 rfl) ?_
  refine lv_iconst (v := 3) hx hb d_Office_init_26 (by decide) ?_
  refine lv_icmp_ge (tgt := 50) hx hb d_Office_init_27 rfl (fun hz => absurd hz (by decide)) (fun _ => ?_)
  refine lv_aload_n hx hb d_Office_init_30 rfl (lv_at hl 1 rfl) ?_
  refine Wd.get hx hb hts hown hK hW 0 1 in_Office w_fl_Office_20 (by decide) d_Office_init_31 rfl rfl rfl ?_
  refine lv_iload_n hx hb d_Office_init_34 rfl (lv_at hl 0 rfl) ?_
  refine Wd.new (ci := 3) (fs := [.int 0, .null, .null, .null, .null, .null, .null, .null, .null, .null, .null, .int 0, .int 0, .int 0, .int 0, .null, .int 0]) (ty0 := t_Clerk) hx hb hts hown hK hA hW in_Clerk t_Clerk_ok w_cl_Office_18 w_nb_Clerk w_ini_Clerk d_Office_init_35 rfl z_Clerk (by decide) (by decide) (fun q8 H hW => ?_)
  have hW := Wd.blk (rs := [[(h0, .inr (5, [.ref (q2 0), .ref q4, .long 0]))], [(q4, .inl (G.2 4, 3, .inr (.inr (.inr (.inr (va_up (fun _ => none) 0 (some (q6 0))))))))], ckF G q6 (0 : Int32) ckZ0 rsZ, poB G q2 poZ]) (bs := [[(q8, .inr (3, [.int 0, .null, .null, .null, .null, .null, .null, .null, .null, .null, .null, .int 0, .int 0, .int 0, .int 0, .null, .int 0]))]]) (Bs := [[(h0, .inr (5, [.ref (q2 0), .ref q4, .long 0]))], [(q4, .inl (G.2 4, 3, .inr (.inr (.inr (.inr (va_up (fun _ => none) 0 (some (q6 0))))))))], [(q8, .inr (3, [.int 0, .null, .null, .null, .null, .null, .null, .null, .null, .null, .null, .int 0, .int 0, .int 0, .int 0, .null, .int 0]))], ckF G q6 (0 : Int32) ckZ0 rsZ, poB G q2 poZ]) hW [0, 1, 4, 2, 3] (show ([0, 1, 4, 2, 3] : List Nat).Perm (List.range 5) by decide) rfl
  have hW : Wd G A s.heap (bj [[(h0, .inr (5, [.ref (q2 0), .ref q4, .long 0]))], [(q4, .inl (G.2 4, 3, .inr (.inr (.inr (.inr (va_up (fun _ => none) 0 (some (q6 0))))))))], [(q8, .inr (3, [.int 0, .null, .null, .null, .null, .null, .null, .null, .null, .null, .null, .int 0, .int 0, .int 0, .int 0, .null, .int 0]))], ckF G q6 (0 : Int32) ckZ0 rsZ, poB G q2 poZ]) H locs := hW
  refine W.widen (k := 28) (n := 889) (by decide) (by decide) ?_
  refine lv_dup hx hb d_Office_init_38 rfl ?_
  refine lv_iload_n hx hb d_Office_init_39 rfl (lv_at hl 0 rfl) ?_
  refine Ct.callIB (As := [.int 1]) (rest := [.ref q8, .int 1, .ref q4]) (wr := bj [[(h0, .inr (5, [.ref (q2 0), .ref q4, .long 0]))], [(q4, .inl (G.2 4, 3, .inr (.inr (.inr (.inr (va_up (fun _ => none) 0 (some (q6 0))))))))], ckF G q6 (0 : Int32) ckZ0 rsZ, poB G q2 poZ]) hx hb hml hown hts hK hA hl.1 hW (bl_pick (bs := [[(q8, .inr (3, [.int 0, .null, .null, .null, .null, .null, .null, .null, .null, .null, .null, .int 0, .int 0, .int 0, .int 0, .null, .int 0]))]]) (rs := [[(h0, .inr (5, [.ref (q2 0), .ref q4, .long 0]))], [(q4, .inl (G.2 4, 3, .inr (.inr (.inr (.inr (va_up (fun _ => none) 0 (some (q6 0))))))))], ckF G q6 (0 : Int32) ckZ0 rsZ, poB G q2 poZ]) (Bs := [[(h0, .inr (5, [.ref (q2 0), .ref q4, .long 0]))], [(q4, .inl (G.2 4, 3, .inr (.inr (.inr (.inr (va_up (fun _ => none) 0 (some (q6 0))))))))], [(q8, .inr (3, [.int 0, .null, .null, .null, .null, .null, .null, .null, .null, .null, .null, .int 0, .int 0, .int 0, .int 0, .null, .int 0]))], ckF G q6 (0 : Int32) ckZ0 rsZ, poB G q2 poZ]) [2, 0, 1, 3, 4] (show ([2, 0, 1, 3, 4] : List Nat).Perm (List.range 5) by decide) rfl) (cb_Clerk_init l G q8 (1 : Int32) ) (cwI 1 hts (good_C w_code_Clerk_init) rfl rfl rfl (hts _ w_ini_Clerk) (hts _ w_ml_Office_24) (hts _ w_im_Clerk_init) rfl yd_Clerk_init ⟨by decide, by decide⟩) rfl rfl (Nat.le_of_ble_eq_true rfl) d_Office_init_40 ⟨by decide, by decide⟩ (fun v w' hp => by obtain ⟨-, -, -, rfl⟩ := hp; exact Nat.le_of_ble_eq_true rfl) (fun v w' H locs hp hW => ?_)
  obtain ⟨q9, eq10, rfl, rfl⟩ := hp
  have hW := Wd.blk (rs := [[(h0, .inr (5, [.ref (q2 0), .ref q4, .long 0]))], [(q4, .inl (G.2 4, 3, .inr (.inr (.inr (.inr (va_up (fun _ => none) 0 (some (q6 0))))))))], ckF G q6 (0 : Int32) ckZ0 rsZ, poB G q2 poZ]) (bs := [ckF G q9 (1 : Int32) ckZ0 rsZ]) (Bs := [[(h0, .inr (5, [.ref (q2 0), .ref q4, .long 0]))], [(q4, .inl (G.2 4, 3, .inr (.inr (.inr (.inr (va_up (fun _ => none) 0 (some (q6 0))))))))], ckF G q9 (1 : Int32) ckZ0 rsZ, ckF G q6 (0 : Int32) ckZ0 rsZ, poB G q2 poZ]) hW [0, 1, 4, 2, 3] (show ([0, 1, 4, 2, 3] : List Nat).Perm (List.range 5) by decide) rfl
  have eq10 : q9 0 = q8 := eq10
  have hWz := hW
  subst eq10
  have hW := hWz
  refine W.widen (k := 49) (n := 1689) (by decide) (by decide) ?_
  refine W.eq (g2 := F0 m 43 ls [.ref (q9 0), .int 1, .ref q4]) rfl ?_
  refine Wd.aast (r := vr_Clerk) hx hb hK hW 1 4 2 3 d_Office_init_43 rfl rfl rfl rfl (by unfold vp_in; decide) (fun H locs hW => ?_)
  have hW : Wd G A s.heap (bj [[(h0, .inr (5, [.ref (q2 0), .ref q4, .long 0]))], [(q4, .inl (G.2 4, 3, .inr (.inr (.inr (.inr (va_up (va_up (fun _ => none) 0 (some (q6 0))) 1 (some (q9 0))))))))], ckF G q9 (1 : Int32) ckZ0 rsZ, ckF G q6 (0 : Int32) ckZ0 rsZ, poB G q2 poZ]) H locs := hW
  refine lv_iinc (k := 0) (v := 2) (lv' := [(1, .int 2), (0, .ref h0)]) hx hb d_Office_init_44 hl rfl (by decide) (by decide) rfl (fun ls hl => ?_)
  refine lv_goto (tgt := 25) hx hb d_Office_init_47 rfl ?_
  refine lv_iload_n hx hb d_Office_init_25 rfl (lv_at hl 0 rfl) ?_
  refine lv_iconst (v := 3) hx hb d_Office_init_26 (by decide) ?_
  refine lv_icmp_ge (tgt := 50) hx hb d_Office_init_27 rfl (fun hz => absurd hz (by decide)) (fun _ => ?_)
  refine lv_aload_n hx hb d_Office_init_30 rfl (lv_at hl 1 rfl) ?_
  refine Wd.get hx hb hts hown hK hW 0 1 in_Office w_fl_Office_20 (by decide) d_Office_init_31 rfl rfl rfl ?_
  refine lv_iload_n hx hb d_Office_init_34 rfl (lv_at hl 0 rfl) ?_
  refine Wd.new (ci := 3) (fs := [.int 0, .null, .null, .null, .null, .null, .null, .null, .null, .null, .null, .int 0, .int 0, .int 0, .int 0, .null, .int 0]) (ty0 := t_Clerk) hx hb hts hown hK hA hW in_Clerk t_Clerk_ok w_cl_Office_18 w_nb_Clerk w_ini_Clerk d_Office_init_35 rfl z_Clerk (by decide) (by decide) (fun q11 H hW => ?_)
  have hW := Wd.blk (rs := [[(h0, .inr (5, [.ref (q2 0), .ref q4, .long 0]))], [(q4, .inl (G.2 4, 3, .inr (.inr (.inr (.inr (va_up (va_up (fun _ => none) 0 (some (q6 0))) 1 (some (q9 0))))))))], ckF G q9 (1 : Int32) ckZ0 rsZ, ckF G q6 (0 : Int32) ckZ0 rsZ, poB G q2 poZ]) (bs := [[(q11, .inr (3, [.int 0, .null, .null, .null, .null, .null, .null, .null, .null, .null, .null, .int 0, .int 0, .int 0, .int 0, .null, .int 0]))]]) (Bs := [[(h0, .inr (5, [.ref (q2 0), .ref q4, .long 0]))], [(q4, .inl (G.2 4, 3, .inr (.inr (.inr (.inr (va_up (va_up (fun _ => none) 0 (some (q6 0))) 1 (some (q9 0))))))))], [(q11, .inr (3, [.int 0, .null, .null, .null, .null, .null, .null, .null, .null, .null, .null, .int 0, .int 0, .int 0, .int 0, .null, .int 0]))], ckF G q9 (1 : Int32) ckZ0 rsZ, ckF G q6 (0 : Int32) ckZ0 rsZ, poB G q2 poZ]) hW [0, 1, 5, 2, 3, 4] (show ([0, 1, 5, 2, 3, 4] : List Nat).Perm (List.range 6) by decide) rfl
  have hW : Wd G A s.heap (bj [[(h0, .inr (5, [.ref (q2 0), .ref q4, .long 0]))], [(q4, .inl (G.2 4, 3, .inr (.inr (.inr (.inr (va_up (va_up (fun _ => none) 0 (some (q6 0))) 1 (some (q9 0))))))))], [(q11, .inr (3, [.int 0, .null, .null, .null, .null, .null, .null, .null, .null, .null, .null, .int 0, .int 0, .int 0, .int 0, .null, .int 0]))], ckF G q9 (1 : Int32) ckZ0 rsZ, ckF G q6 (0 : Int32) ckZ0 rsZ, poB G q2 poZ]) H locs := hW
  refine W.widen (k := 50) (n := 1706) (by decide) (by decide) ?_
  refine lv_dup hx hb d_Office_init_38 rfl ?_
  refine lv_iload_n hx hb d_Office_init_39 rfl (lv_at hl 0 rfl) ?_
  refine Ct.callIB (As := [.int 2]) (rest := [.ref q11, .int 2, .ref q4]) (wr := bj [[(h0, .inr (5, [.ref (q2 0), .ref q4, .long 0]))], [(q4, .inl (G.2 4, 3, .inr (.inr (.inr (.inr (va_up (va_up (fun _ => none) 0 (some (q6 0))) 1 (some (q9 0))))))))], ckF G q9 (1 : Int32) ckZ0 rsZ, ckF G q6 (0 : Int32) ckZ0 rsZ, poB G q2 poZ]) hx hb hml hown hts hK hA hl.1 hW (bl_pick (bs := [[(q11, .inr (3, [.int 0, .null, .null, .null, .null, .null, .null, .null, .null, .null, .null, .int 0, .int 0, .int 0, .int 0, .null, .int 0]))]]) (rs := [[(h0, .inr (5, [.ref (q2 0), .ref q4, .long 0]))], [(q4, .inl (G.2 4, 3, .inr (.inr (.inr (.inr (va_up (va_up (fun _ => none) 0 (some (q6 0))) 1 (some (q9 0))))))))], ckF G q9 (1 : Int32) ckZ0 rsZ, ckF G q6 (0 : Int32) ckZ0 rsZ, poB G q2 poZ]) (Bs := [[(h0, .inr (5, [.ref (q2 0), .ref q4, .long 0]))], [(q4, .inl (G.2 4, 3, .inr (.inr (.inr (.inr (va_up (va_up (fun _ => none) 0 (some (q6 0))) 1 (some (q9 0))))))))], [(q11, .inr (3, [.int 0, .null, .null, .null, .null, .null, .null, .null, .null, .null, .null, .int 0, .int 0, .int 0, .int 0, .null, .int 0]))], ckF G q9 (1 : Int32) ckZ0 rsZ, ckF G q6 (0 : Int32) ckZ0 rsZ, poB G q2 poZ]) [2, 0, 1, 3, 4, 5] (show ([2, 0, 1, 3, 4, 5] : List Nat).Perm (List.range 6) by decide) rfl) (cb_Clerk_init l G q11 (2 : Int32) ) (cwI 1 hts (good_C w_code_Clerk_init) rfl rfl rfl (hts _ w_ini_Clerk) (hts _ w_ml_Office_24) (hts _ w_im_Clerk_init) rfl yd_Clerk_init ⟨by decide, by decide⟩) rfl rfl (Nat.le_of_ble_eq_true rfl) d_Office_init_40 ⟨by decide, by decide⟩ (fun v w' hp => by obtain ⟨-, -, -, rfl⟩ := hp; exact Nat.le_of_ble_eq_true rfl) (fun v w' H locs hp hW => ?_)
  obtain ⟨q12, eq13, rfl, rfl⟩ := hp
  have hW := Wd.blk (rs := [[(h0, .inr (5, [.ref (q2 0), .ref q4, .long 0]))], [(q4, .inl (G.2 4, 3, .inr (.inr (.inr (.inr (va_up (va_up (fun _ => none) 0 (some (q6 0))) 1 (some (q9 0))))))))], ckF G q9 (1 : Int32) ckZ0 rsZ, ckF G q6 (0 : Int32) ckZ0 rsZ, poB G q2 poZ]) (bs := [ckF G q12 (2 : Int32) ckZ0 rsZ]) (Bs := [[(h0, .inr (5, [.ref (q2 0), .ref q4, .long 0]))], [(q4, .inl (G.2 4, 3, .inr (.inr (.inr (.inr (va_up (va_up (fun _ => none) 0 (some (q6 0))) 1 (some (q9 0))))))))], ckF G q12 (2 : Int32) ckZ0 rsZ, ckF G q9 (1 : Int32) ckZ0 rsZ, ckF G q6 (0 : Int32) ckZ0 rsZ, poB G q2 poZ]) hW [0, 1, 5, 2, 3, 4] (show ([0, 1, 5, 2, 3, 4] : List Nat).Perm (List.range 6) by decide) rfl
  have eq13 : q12 0 = q11 := eq13
  have hWz := hW
  subst eq13
  have hW := hWz
  refine W.widen (k := 71) (n := 2506) (by decide) (by decide) ?_
  refine W.eq (g2 := F0 m 43 ls [.ref (q12 0), .int 2, .ref q4]) rfl ?_
  refine Wd.aast (r := vr_Clerk) hx hb hK hW 1 4 2 3 d_Office_init_43 rfl rfl rfl rfl (by unfold vp_in; decide) (fun H locs hW => ?_)
  have hW : Wd G A s.heap (bj [[(h0, .inr (5, [.ref (q2 0), .ref q4, .long 0]))], [(q4, .inl (G.2 4, 3, .inr (.inr (.inr (.inr (va_up (va_up (va_up (fun _ => none) 0 (some (q6 0))) 1 (some (q9 0))) 2 (some (q12 0))))))))], ckF G q12 (2 : Int32) ckZ0 rsZ, ckF G q9 (1 : Int32) ckZ0 rsZ, ckF G q6 (0 : Int32) ckZ0 rsZ, poB G q2 poZ]) H locs := hW
  refine lv_iinc (k := 0) (v := 3) (lv' := [(1, .int 3), (0, .ref h0)]) hx hb d_Office_init_44 hl rfl (by decide) (by decide) rfl (fun ls hl => ?_)
  refine lv_goto (tgt := 25) hx hb d_Office_init_47 rfl ?_
  refine lv_iload_n hx hb d_Office_init_25 rfl (lv_at hl 0 rfl) ?_
  refine lv_iconst (v := 3) hx hb d_Office_init_26 (by decide) ?_
  refine lv_icmp_ge (tgt := 50) hx hb d_Office_init_27 rfl (fun _ => ?_) (fun hz => absurd (by decide) hz)
  exact Ct.vret hx hb hr hnl hW (by decide) (by decide) d_Office_init_50 ⟨q4, q12, q9, q6, q2, rfl, rfl⟩

