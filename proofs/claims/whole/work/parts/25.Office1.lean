theorem d_Office_init_0 : decode b_Office_init 0 = .ok (.aload_n 0, 1) := by decide +kernel
theorem d_Office_init_1 : decode b_Office_init 1 = .ok (.invokespecial 3, 3) := by decide +kernel
theorem d_Office_init_4 : decode b_Office_init 4 = .ok (.aload_n 0, 1) := by decide +kernel
theorem d_Office_init_5 : decode b_Office_init 5 = .ok (.new 9, 3) := by decide +kernel
theorem d_Office_init_8 : decode b_Office_init 8 = .ok (.dup, 1) := by decide +kernel
theorem d_Office_init_9 : decode b_Office_init 9 = .ok (.invokespecial 11, 3) := by decide +kernel
theorem d_Office_init_12 : decode b_Office_init 12 = .ok (.putfield 12, 3) := by decide +kernel
theorem d_Office_init_15 : decode b_Office_init 15 = .ok (.aload_n 0, 1) := by decide +kernel
theorem d_Office_init_16 : decode b_Office_init 16 = .ok (.iconst 3, 1) := by decide +kernel
theorem d_Office_init_17 : decode b_Office_init 17 = .ok (.anewarray 18, 3) := by decide +kernel
theorem d_Office_init_20 : decode b_Office_init 20 = .ok (.putfield 20, 3) := by decide +kernel
theorem d_Office_init_23 : decode b_Office_init 23 = .ok (.iconst 0, 1) := by decide +kernel
theorem d_Office_init_24 : decode b_Office_init 24 = .ok (.istore_n 1, 1) := by decide +kernel
theorem d_Office_init_25 : decode b_Office_init 25 = .ok (.iload_n 1, 1) := by decide +kernel
theorem d_Office_init_26 : decode b_Office_init 26 = .ok (.iconst 3, 1) := by decide +kernel
theorem d_Office_init_27 : decode b_Office_init 27 = .ok (.if_icmp .ge 23, 3) := by decide +kernel
theorem d_Office_init_30 : decode b_Office_init 30 = .ok (.aload_n 0, 1) := by decide +kernel
theorem d_Office_init_31 : decode b_Office_init 31 = .ok (.getfield 20, 3) := by decide +kernel
theorem d_Office_init_34 : decode b_Office_init 34 = .ok (.iload_n 1, 1) := by decide +kernel
theorem d_Office_init_35 : decode b_Office_init 35 = .ok (.new 18, 3) := by decide +kernel
theorem d_Office_init_38 : decode b_Office_init 38 = .ok (.dup, 1) := by decide +kernel
theorem d_Office_init_39 : decode b_Office_init 39 = .ok (.iload_n 1, 1) := by decide +kernel
theorem d_Office_init_40 : decode b_Office_init 40 = .ok (.invokespecial 24, 3) := by decide +kernel
theorem d_Office_init_43 : decode b_Office_init 43 = .ok (.aastore, 1) := by decide +kernel
theorem d_Office_init_44 : decode b_Office_init 44 = .ok (.iinc 1 1, 3) := by decide +kernel
theorem d_Office_init_47 : decode b_Office_init 47 = .ok (.goto (-22), 3) := by decide +kernel
theorem d_Office_init_50 : decode b_Office_init 50 = .ok (.return_, 1) := by decide +kernel
theorem d_Office_prepare_0 : decode b_Office_prepare 0 = .ok (.aload_n 0, 1) := by decide +kernel
theorem d_Office_prepare_1 : decode b_Office_prepare 1 = .ok (.getfield 12, 3) := by decide +kernel
theorem d_Office_prepare_4 : decode b_Office_prepare 4 = .ok (.invokevirtual 27, 3) := by decide +kernel
theorem d_Office_prepare_7 : decode b_Office_prepare 7 = .ok (.iconst 0, 1) := by decide +kernel
theorem d_Office_prepare_8 : decode b_Office_prepare 8 = .ok (.istore 4, 2) := by decide +kernel
theorem d_Office_prepare_10 : decode b_Office_prepare 10 = .ok (.iload 4, 2) := by decide +kernel
theorem d_Office_prepare_12 : decode b_Office_prepare 12 = .ok (.iconst 3, 1) := by decide +kernel
theorem d_Office_prepare_13 : decode b_Office_prepare 13 = .ok (.if_icmp .ge 33, 3) := by decide +kernel
theorem d_Office_prepare_16 : decode b_Office_prepare 16 = .ok (.aload_n 0, 1) := by decide +kernel
theorem d_Office_prepare_17 : decode b_Office_prepare 17 = .ok (.getfield 20, 3) := by decide +kernel
theorem d_Office_prepare_20 : decode b_Office_prepare 20 = .ok (.iload 4, 2) := by decide +kernel
theorem d_Office_prepare_22 : decode b_Office_prepare 22 = .ok (.aaload, 1) := by decide +kernel
theorem d_Office_prepare_23 : decode b_Office_prepare 23 = .ok (.aload_n 1, 1) := by decide +kernel
theorem d_Office_prepare_24 : decode b_Office_prepare 24 = .ok (.aload_n 2, 1) := by decide +kernel
theorem d_Office_prepare_25 : decode b_Office_prepare 25 = .ok (.iload 4, 2) := by decide +kernel
theorem d_Office_prepare_27 : decode b_Office_prepare 27 = .ok (.laload, 1) := by decide +kernel
theorem d_Office_prepare_28 : decode b_Office_prepare 28 = .ok (.aload_n 2, 1) := by decide +kernel
theorem d_Office_prepare_29 : decode b_Office_prepare 29 = .ok (.iload 4, 2) := by decide +kernel
theorem d_Office_prepare_31 : decode b_Office_prepare 31 = .ok (.iconst 1, 1) := by decide +kernel
theorem d_Office_prepare_32 : decode b_Office_prepare 32 = .ok (.iadd, 1) := by decide +kernel
theorem d_Office_prepare_33 : decode b_Office_prepare 33 = .ok (.iconst 3, 1) := by decide +kernel
theorem d_Office_prepare_34 : decode b_Office_prepare 34 = .ok (.irem, 1) := by decide +kernel
theorem d_Office_prepare_35 : decode b_Office_prepare 35 = .ok (.laload, 1) := by decide +kernel
theorem d_Office_prepare_36 : decode b_Office_prepare 36 = .ok (.iload_n 3, 1) := by decide +kernel
theorem d_Office_prepare_37 : decode b_Office_prepare 37 = .ok (.invokevirtual 30, 3) := by decide +kernel
theorem d_Office_prepare_40 : decode b_Office_prepare 40 = .ok (.iinc 4 1, 3) := by decide +kernel
theorem d_Office_prepare_43 : decode b_Office_prepare 43 = .ok (.goto (-33), 3) := by decide +kernel
theorem d_Office_prepare_46 : decode b_Office_prepare 46 = .ok (.return_, 1) := by decide +kernel
theorem d_Office_deal_0 : decode b_Office_deal 0 = .ok (.aload_n 0, 1) := by decide +kernel
theorem d_Office_deal_1 : decode b_Office_deal 1 = .ok (.getfield 20, 3) := by decide +kernel
theorem d_Office_deal_4 : decode b_Office_deal 4 = .ok (.iconst 0, 1) := by decide +kernel
theorem d_Office_deal_5 : decode b_Office_deal 5 = .ok (.aaload, 1) := by decide +kernel
theorem d_Office_deal_6 : decode b_Office_deal 6 = .ok (.iload_n 1, 1) := by decide +kernel
theorem d_Office_deal_7 : decode b_Office_deal 7 = .ok (.iload_n 2, 1) := by decide +kernel
theorem d_Office_deal_8 : decode b_Office_deal 8 = .ok (.iload_n 3, 1) := by decide +kernel
theorem d_Office_deal_9 : decode b_Office_deal 9 = .ok (.invokevirtual 34, 3) := by decide +kernel
theorem d_Office_deal_12 : decode b_Office_deal 12 = .ok (.aload_n 0, 1) := by decide +kernel
theorem d_Office_deal_13 : decode b_Office_deal 13 = .ok (.getfield 20, 3) := by decide +kernel
theorem d_Office_deal_16 : decode b_Office_deal 16 = .ok (.iconst 1, 1) := by decide +kernel
theorem d_Office_deal_17 : decode b_Office_deal 17 = .ok (.aaload, 1) := by decide +kernel
theorem d_Office_deal_18 : decode b_Office_deal 18 = .ok (.iload_n 1, 1) := by decide +kernel
theorem d_Office_deal_19 : decode b_Office_deal 19 = .ok (.iload_n 3, 1) := by decide +kernel
theorem d_Office_deal_20 : decode b_Office_deal 20 = .ok (.iload 4, 2) := by decide +kernel
theorem d_Office_deal_22 : decode b_Office_deal 22 = .ok (.invokevirtual 34, 3) := by decide +kernel
theorem d_Office_deal_25 : decode b_Office_deal 25 = .ok (.aload_n 0, 1) := by decide +kernel
theorem d_Office_deal_26 : decode b_Office_deal 26 = .ok (.getfield 20, 3) := by decide +kernel
theorem d_Office_deal_29 : decode b_Office_deal 29 = .ok (.iconst 2, 1) := by decide +kernel
theorem d_Office_deal_30 : decode b_Office_deal 30 = .ok (.aaload, 1) := by decide +kernel
theorem d_Office_deal_31 : decode b_Office_deal 31 = .ok (.iload_n 1, 1) := by decide +kernel
theorem d_Office_deal_32 : decode b_Office_deal 32 = .ok (.iload 4, 2) := by decide +kernel
theorem d_Office_deal_34 : decode b_Office_deal 34 = .ok (.iload_n 2, 1) := by decide +kernel
theorem d_Office_deal_35 : decode b_Office_deal 35 = .ok (.invokevirtual 34, 3) := by decide +kernel
theorem d_Office_deal_38 : decode b_Office_deal 38 = .ok (.return_, 1) := by decide +kernel
theorem d_Office_carryOut_0 : decode b_Office_carryOut 0 = .ok (.aload_n 0, 1) := by decide +kernel
theorem d_Office_carryOut_1 : decode b_Office_carryOut 1 = .ok (.iload_n 1, 1) := by decide +kernel
theorem d_Office_carryOut_2 : decode b_Office_carryOut 2 = .ok (.i2l, 1) := by decide +kernel
theorem d_Office_carryOut_3 : decode b_Office_carryOut 3 = .ok (.putfield 38, 3) := by decide +kernel
theorem d_Office_carryOut_6 : decode b_Office_carryOut 6 = .ok (.iconst 0, 1) := by decide +kernel
theorem d_Office_carryOut_7 : decode b_Office_carryOut 7 = .ok (.istore_n 2, 1) := by decide +kernel
theorem d_Office_carryOut_8 : decode b_Office_carryOut 8 = .ok (.iload_n 2, 1) := by decide +kernel
theorem d_Office_carryOut_9 : decode b_Office_carryOut 9 = .ok (.ldc 42, 2) := by decide +kernel
theorem d_Office_carryOut_11 : decode b_Office_carryOut 11 = .ok (.if_icmp .ge 36, 3) := by decide +kernel
theorem d_Office_carryOut_14 : decode b_Office_carryOut 14 = .ok (.aload_n 0, 1) := by decide +kernel
theorem d_Office_carryOut_15 : decode b_Office_carryOut 15 = .ok (.getfield 12, 3) := by decide +kernel
theorem d_Office_carryOut_18 : decode b_Office_carryOut 18 = .ok (.invokevirtual 43, 3) := by decide +kernel
theorem d_Office_carryOut_21 : decode b_Office_carryOut 21 = .ok (.aload_n 0, 1) := by decide +kernel
theorem d_Office_carryOut_22 : decode b_Office_carryOut 22 = .ok (.invokevirtual 47, 3) := by decide +kernel
theorem d_Office_carryOut_25 : decode b_Office_carryOut 25 = .ok (.iadd, 1) := by decide +kernel
theorem d_Office_carryOut_26 : decode b_Office_carryOut 26 = .ok (.istore_n 3, 1) := by decide +kernel
theorem d_Office_carryOut_27 : decode b_Office_carryOut 27 = .ok (.iload_n 3, 1) := by decide +kernel
theorem d_Office_carryOut_28 : decode b_Office_carryOut 28 = .ok (.ifCond .gt 4, 3) := by decide +kernel
theorem d_Office_carryOut_31 : decode b_Office_carryOut 31 = .ok (.return_, 1) := by decide +kernel
theorem d_Office_carryOut_32 : decode b_Office_carryOut 32 = .ok (.aload_n 0, 1) := by decide +kernel
theorem d_Office_carryOut_33 : decode b_Office_carryOut 33 = .ok (.aload_n 0, 1) := by decide +kernel
theorem d_Office_carryOut_34 : decode b_Office_carryOut 34 = .ok (.iload_n 3, 1) := by decide +kernel
theorem d_Office_carryOut_35 : decode b_Office_carryOut 35 = .ok (.invokevirtual 50, 3) := by decide +kernel
theorem d_Office_carryOut_38 : decode b_Office_carryOut 38 = .ok (.invokevirtual 54, 3) := by decide +kernel
theorem d_Office_carryOut_41 : decode b_Office_carryOut 41 = .ok (.iinc 2 1, 3) := by decide +kernel
theorem d_Office_carryOut_44 : decode b_Office_carryOut 44 = .ok (.goto (-36), 3) := by decide +kernel
theorem d_Office_carryOut_47 : decode b_Office_carryOut 47 = .ok (.return_, 1) := by decide +kernel
theorem d_Office_countReady_0 : decode b_Office_countReady 0 = .ok (.iconst 0, 1) := by decide +kernel
theorem d_Office_countReady_1 : decode b_Office_countReady 1 = .ok (.istore_n 1, 1) := by decide +kernel
theorem d_Office_countReady_2 : decode b_Office_countReady 2 = .ok (.iconst 0, 1) := by decide +kernel
theorem d_Office_countReady_3 : decode b_Office_countReady 3 = .ok (.istore_n 2, 1) := by decide +kernel
theorem d_Office_countReady_4 : decode b_Office_countReady 4 = .ok (.iload_n 2, 1) := by decide +kernel
theorem d_Office_countReady_5 : decode b_Office_countReady 5 = .ok (.iconst 3, 1) := by decide +kernel
theorem d_Office_countReady_6 : decode b_Office_countReady 6 = .ok (.if_icmp .ge 24, 3) := by decide +kernel
theorem d_Office_countReady_9 : decode b_Office_countReady 9 = .ok (.aload_n 0, 1) := by decide +kernel
theorem d_Office_countReady_10 : decode b_Office_countReady 10 = .ok (.getfield 20, 3) := by decide +kernel
theorem d_Office_countReady_13 : decode b_Office_countReady 13 = .ok (.iload_n 2, 1) := by decide +kernel
theorem d_Office_countReady_14 : decode b_Office_countReady 14 = .ok (.aaload, 1) := by decide +kernel
theorem d_Office_countReady_15 : decode b_Office_countReady 15 = .ok (.invokevirtual 57, 3) := by decide +kernel
theorem d_Office_countReady_18 : decode b_Office_countReady 18 = .ok (.ifCond .eq 6, 3) := by decide +kernel
theorem d_Office_countReady_21 : decode b_Office_countReady 21 = .ok (.iinc 1 1, 3) := by decide +kernel
theorem d_Office_countReady_24 : decode b_Office_countReady 24 = .ok (.iinc 2 1, 3) := by decide +kernel
theorem d_Office_countReady_27 : decode b_Office_countReady 27 = .ok (.goto (-23), 3) := by decide +kernel
theorem d_Office_countReady_30 : decode b_Office_countReady 30 = .ok (.iload_n 1, 1) := by decide +kernel
theorem d_Office_countReady_31 : decode b_Office_countReady 31 = .ok (.ireturn, 1) := by decide +kernel
theorem d_Office_makeMove_0 : decode b_Office_makeMove 0 = .ok (.iload_n 1, 1) := by decide +kernel
theorem d_Office_makeMove_1 : decode b_Office_makeMove 1 = .ok (.aload_n 0, 1) := by decide +kernel
theorem d_Office_makeMove_2 : decode b_Office_makeMove 2 = .ok (.getfield 12, 3) := by decide +kernel
theorem d_Office_makeMove_5 : decode b_Office_makeMove 5 = .ok (.invokevirtual 43, 3) := by decide +kernel
theorem d_Office_makeMove_8 : decode b_Office_makeMove 8 = .ok (.if_icmp .ge 16, 3) := by decide +kernel
theorem d_Office_makeMove_11 : decode b_Office_makeMove 11 = .ok (.aload_n 0, 1) := by decide +kernel
theorem d_Office_makeMove_12 : decode b_Office_makeMove 12 = .ok (.getfield 12, 3) := by decide +kernel
theorem d_Office_makeMove_15 : decode b_Office_makeMove 15 = .ok (.iload_n 1, 1) := by decide +kernel
theorem d_Office_makeMove_16 : decode b_Office_makeMove 16 = .ok (.aload_n 0, 1) := by decide +kernel
theorem d_Office_makeMove_17 : decode b_Office_makeMove 17 = .ok (.getfield 20, 3) := by decide +kernel
theorem d_Office_makeMove_20 : decode b_Office_makeMove 20 = .ok (.invokevirtual 61, 3) := by decide +kernel
theorem d_Office_makeMove_23 : decode b_Office_makeMove 23 = .ok (.return_, 1) := by decide +kernel
theorem d_Office_makeMove_24 : decode b_Office_makeMove 24 = .ok (.aload_n 0, 1) := by decide +kernel
theorem d_Office_makeMove_25 : decode b_Office_makeMove 25 = .ok (.getfield 12, 3) := by decide +kernel
theorem d_Office_makeMove_28 : decode b_Office_makeMove 28 = .ok (.invokevirtual 43, 3) := by decide +kernel
theorem d_Office_makeMove_31 : decode b_Office_makeMove 31 = .ok (.istore_n 2, 1) := by decide +kernel
theorem d_Office_makeMove_32 : decode b_Office_makeMove 32 = .ok (.iconst 0, 1) := by decide +kernel
theorem d_Office_makeMove_33 : decode b_Office_makeMove 33 = .ok (.istore_n 3, 1) := by decide +kernel
theorem d_Office_makeMove_34 : decode b_Office_makeMove 34 = .ok (.iload_n 3, 1) := by decide +kernel
theorem d_Office_makeMove_35 : decode b_Office_makeMove 35 = .ok (.iconst 3, 1) := by decide +kernel
theorem d_Office_makeMove_36 : decode b_Office_makeMove 36 = .ok (.if_icmp .ge 43, 3) := by decide +kernel
theorem d_Office_makeMove_39 : decode b_Office_makeMove 39 = .ok (.aload_n 0, 1) := by decide +kernel
theorem d_Office_makeMove_40 : decode b_Office_makeMove 40 = .ok (.getfield 20, 3) := by decide +kernel
theorem d_Office_makeMove_43 : decode b_Office_makeMove 43 = .ok (.iload_n 3, 1) := by decide +kernel
theorem d_Office_makeMove_44 : decode b_Office_makeMove 44 = .ok (.aaload, 1) := by decide +kernel
theorem d_Office_makeMove_45 : decode b_Office_makeMove 45 = .ok (.invokevirtual 57, 3) := by decide +kernel
theorem d_Office_makeMove_48 : decode b_Office_makeMove 48 = .ok (.ifCond .eq 25, 3) := by decide +kernel
theorem d_Office_makeMove_51 : decode b_Office_makeMove 51 = .ok (.iload_n 2, 1) := by decide +kernel
theorem d_Office_makeMove_52 : decode b_Office_makeMove 52 = .ok (.iload_n 1, 1) := by decide +kernel
theorem d_Office_makeMove_53 : decode b_Office_makeMove 53 = .ok (.if_icmp .ne 17, 3) := by decide +kernel
theorem d_Office_makeMove_56 : decode b_Office_makeMove 56 = .ok (.aload_n 0, 1) := by decide +kernel
theorem d_Office_makeMove_57 : decode b_Office_makeMove 57 = .ok (.getfield 20, 3) := by decide +kernel
theorem d_Office_makeMove_60 : decode b_Office_makeMove 60 = .ok (.iload_n 3, 1) := by decide +kernel
theorem d_Office_makeMove_61 : decode b_Office_makeMove 61 = .ok (.aaload, 1) := by decide +kernel
theorem d_Office_makeMove_62 : decode b_Office_makeMove 62 = .ok (.aload_n 0, 1) := by decide +kernel
theorem d_Office_makeMove_63 : decode b_Office_makeMove 63 = .ok (.getfield 12, 3) := by decide +kernel
theorem d_Office_makeMove_66 : decode b_Office_makeMove 66 = .ok (.invokevirtual 65, 3) := by decide +kernel
theorem d_Office_makeMove_69 : decode b_Office_makeMove 69 = .ok (.return_, 1) := by decide +kernel
theorem d_Office_makeMove_70 : decode b_Office_makeMove 70 = .ok (.iinc 2 1, 3) := by decide +kernel
theorem d_Office_makeMove_73 : decode b_Office_makeMove 73 = .ok (.iinc 3 1, 3) := by decide +kernel
theorem d_Office_makeMove_76 : decode b_Office_makeMove 76 = .ok (.goto (-42), 3) := by decide +kernel
theorem d_Office_makeMove_79 : decode b_Office_makeMove 79 = .ok (.return_, 1) := by decide +kernel
theorem d_Office_draw_0 : decode b_Office_draw 0 = .ok (.aload_n 0, 1) := by decide +kernel
theorem d_Office_draw_1 : decode b_Office_draw 1 = .ok (.aload_n 0, 1) := by decide +kernel
theorem d_Office_draw_2 : decode b_Office_draw 2 = .ok (.getfield 38, 3) := by decide +kernel
theorem d_Office_draw_5 : decode b_Office_draw 5 = .ok (.ldc2_w 69, 3) := by decide +kernel
theorem d_Office_draw_8 : decode b_Office_draw 8 = .ok (.lmul, 1) := by decide +kernel
theorem d_Office_draw_9 : decode b_Office_draw 9 = .ok (.ldc2_w 71, 3) := by decide +kernel
theorem d_Office_draw_12 : decode b_Office_draw 12 = .ok (.ladd, 1) := by decide +kernel
theorem d_Office_draw_13 : decode b_Office_draw 13 = .ok (.putfield 38, 3) := by decide +kernel
theorem d_Office_draw_16 : decode b_Office_draw 16 = .ok (.aload_n 0, 1) := by decide +kernel
theorem d_Office_draw_17 : decode b_Office_draw 17 = .ok (.getfield 38, 3) := by decide +kernel
theorem d_Office_draw_20 : decode b_Office_draw 20 = .ok (.bipush 32, 2) := by decide +kernel
theorem d_Office_draw_22 : decode b_Office_draw 22 = .ok (.lushr, 1) := by decide +kernel
theorem d_Office_draw_23 : decode b_Office_draw 23 = .ok (.l2i, 1) := by decide +kernel
theorem d_Office_draw_24 : decode b_Office_draw 24 = .ok (.iload_n 1, 1) := by decide +kernel
theorem d_Office_draw_25 : decode b_Office_draw 25 = .ok (.invokestatic 73, 3) := by decide +kernel
theorem d_Office_draw_28 : decode b_Office_draw 28 = .ok (.ireturn, 1) := by decide +kernel
theorem d_Office_copyOpened_0 : decode b_Office_copyOpened 0 = .ok (.aload_n 0, 1) := by decide +kernel
theorem d_Office_copyOpened_1 : decode b_Office_copyOpened 1 = .ok (.getfield 20, 3) := by decide +kernel
theorem d_Office_copyOpened_4 : decode b_Office_copyOpened 4 = .ok (.iconst 0, 1) := by decide +kernel
theorem d_Office_copyOpened_5 : decode b_Office_copyOpened 5 = .ok (.aaload, 1) := by decide +kernel
theorem d_Office_copyOpened_6 : decode b_Office_copyOpened 6 = .ok (.aload_n 1, 1) := by decide +kernel
theorem d_Office_copyOpened_7 : decode b_Office_copyOpened 7 = .ok (.invokevirtual 79, 3) := by decide +kernel
theorem d_Office_copyOpened_10 : decode b_Office_copyOpened 10 = .ok (.ireturn, 1) := by decide +kernel
def rd (x : Int32) : Int32 := if x = 0 then 0 else 1
def o_Clerk_canStep_r (tk : Int32) (sn : Int32) (wa : Int32) (ct : Int32) (bn : Nat → Int32) : Int32 := if ct ≤ tk then 0 else if wa = 0 then 1 else if (bn ((sn &&& 7).toNatClampNeg)) = sn then 1 else 0
abbrev rm_Clerk_canStepR : Room := { frames := 1, cells := 0, slots := 0, locals := 21 }
set_option maxHeartbeats 4000000 in
set_option maxRecDepth 100000 in
theorem c_Clerk_canStepR (l : Launch) (G : Gt) (h0 : Nat) (h0s : Nat) (h0b : Nat) (h0p : Nat) (h0o : Nat) (h0n : Nat) (h0c : Nat) (h0l : Nat) (h0r : Nat) (h0x : Nat) (h0i : Nat) (h0q : Nat) (w : Int32) (tk : Int32) (sg : Int32) (sn : Int32) (wa : Int32) (oc : Int32) (h0sk : Nat) (h0st : Nat) (h0sf : Nat) (h0ss : Nat) (h0sh : Nat) (ct : Int32) (cp : Int32) (on : Int32) (nm : Int32) (h0bn : Nat) (h0bw : Nat) (bn : Nat → Int32) : Ct l G y_Clerk_canStep b_Clerk_canStep 1 (some .boolean) rm_Clerk_canStepR [.ref h0] [(h0, .inr (3, [.int w, .ref h0s, .ref h0b, .ref h0p, .ref h0o, .ref h0n, .ref h0c, .ref h0l, .ref h0r, .ref h0x, .ref h0i, .int tk, .int sg, .int sn, .int wa, .ref h0q, .int oc])), (h0s, .inr (10, [.ref h0sk, .ref h0st, .ref h0sf, .ref h0ss, .ref h0sh, .int ct, .int cp, .int on, .int nm])), (h0b, .inr (2, [.ref h0bn, .ref h0bw])), (h0bn, .inl (G.2 0, 8, .inl bn))] 0 0 (fun v w' => v = some (.int (o_Clerk_canStep_r tk sn wa ct bn)) ∧ w' = [(h0, .inr (3, [.int w, .ref h0s, .ref h0b, .ref h0p, .ref h0o, .ref h0n, .ref h0c, .ref h0l, .ref h0r, .ref h0x, .ref h0i, .int tk, .int sg, .int sn, .int wa, .ref h0q, .int oc])), (h0s, .inr (10, [.ref h0sk, .ref h0st, .ref h0sf, .ref h0ss, .ref h0sh, .int ct, .int cp, .int on, .int nm])), (h0b, .inr (2, [.ref h0bn, .ref h0bw])), (h0bn, .inl (G.2 0, 8, .inl bn))]) := by
  refine Ct.of (by decide) (Nat.le_of_ble_eq_true rfl) (fun p e s m args below meth c A ls H locs hx hb hml hr hnl hown hts hnm hK hA hl hW => ?_)
  have hl : lv_has ls 1 [(0, .ref h0)] := hl
  refine lv_aload_n hx hb d_Clerk_canStep_0 rfl (lv_at hl 0 rfl) ?_
  refine Wd.get hx hb hts hown hK hW 0 11 in_Clerk w_fl_Clerk_88 (by decide) d_Clerk_canStep_1 rfl rfl rfl ?_
  refine lv_aload_n hx hb d_Clerk_canStep_4 rfl (lv_at hl 0 rfl) ?_
  refine Wd.get hx hb hts hown hK hW 0 1 in_Clerk w_fl_Clerk_12 (by decide) d_Clerk_canStep_5 rfl rfl rfl ?_
  refine Wd.get hx hb hts hown hK hW 1 5 in_Script w_fl_Clerk_120 (by decide) d_Clerk_canStep_8 rfl rfl rfl ?_
  refine lv_icmp_ge (tgt := 39) hx hb d_Clerk_canStep_11 rfl (fun ht1 => ?_) (fun hf2 => ?_)
  · refine lv_iconst (v := 0) hx hb d_Clerk_canStep_39 (by decide) ?_
    exact Ct.zret hx hb hr hnl hW (by decide) (by decide) d_Clerk_canStep_40 (by decide) ⟨by first | rfl | (simp only [o_Clerk_canStep_r, if_pos ht1]), by first | rfl | (simp only [o_Clerk_canStep_r, if_pos ht1])⟩
  · refine lv_aload_n hx hb d_Clerk_canStep_14 rfl (lv_at hl 0 rfl) ?_
    refine Wd.get hx hb hts hown hK hW 0 14 in_Clerk w_fl_Clerk_97 (by decide) d_Clerk_canStep_15 rfl rfl rfl ?_
    refine lv_if_eq (tgt := 35) hx hb d_Clerk_canStep_18 rfl (fun ht3 => ?_) (fun hf4 => ?_)
    · refine lv_iconst (v := 1) hx hb d_Clerk_canStep_35 (by decide) ?_
      refine lv_goto (tgt := 40) hx hb d_Clerk_canStep_36 rfl ?_
      exact Ct.zret hx hb hr hnl hW (by decide) (by decide) d_Clerk_canStep_40 (by decide) ⟨by first | rfl | (simp only [o_Clerk_canStep_r, if_neg hf2, if_pos ht3]), by first | rfl | (simp only [o_Clerk_canStep_r, if_neg hf2, if_pos ht3])⟩
    · refine lv_aload_n hx hb d_Clerk_canStep_21 rfl (lv_at hl 0 rfl) ?_
      refine Wd.get hx hb hts hown hK hW 0 2 in_Clerk w_fl_Clerk_21 (by decide) d_Clerk_canStep_22 rfl rfl rfl ?_
      refine lv_aload_n hx hb d_Clerk_canStep_25 rfl (lv_at hl 0 rfl) ?_
      refine Wd.get hx hb hts hown hK hW 0 13 in_Clerk w_fl_Clerk_94 (by decide) d_Clerk_canStep_26 rfl rfl rfl ?_
      rcases Classical.em ((bn ((sn &&& 7).toNatClampNeg)) = sn) with ht5 | hf6
      · refine Ct.callV (As := [.int sn]) (rest := []) hx hb hml hown hts hK hA hl.1 hW (c_Box_has_1 l G h0b h0bn h0bw bn sn ht5) (cwV 1 hts (good_V w_ml_Clerk_123 w_im_Box_has w_se_Box_has w_ini_Box w_code_Box_has) rfl rfl rfl yd_Box_has ⟨by decide, by decide⟩) [2, 3] (by decide) rfl (ci := 2) (r := vr_Box) rfl rfl rfl rfl rfl (Nat.le_of_ble_eq_true rfl) d_Clerk_canStep_29 ⟨by decide, by decide⟩ (fun v w' hp => by obtain ⟨-, rfl⟩ := hp; exact Nat.le_of_ble_eq_true rfl) (fun v w' H locs hp hW => ?_)
        obtain ⟨rfl, rfl⟩ := hp
        have hW : Wd G A s.heap [(h0, .inr (3, [.int w, .ref h0s, .ref h0b, .ref h0p, .ref h0o, .ref h0n, .ref h0c, .ref h0l, .ref h0r, .ref h0x, .ref h0i, .int tk, .int sg, .int sn, .int wa, .ref h0q, .int oc])), (h0s, .inr (10, [.ref h0sk, .ref h0st, .ref h0sf, .ref h0ss, .ref h0sh, .int ct, .int cp, .int on, .int nm])), (h0b, .inr (2, [.ref h0bn, .ref h0bw])), (h0bn, .inl (G.2 0, 8, .inl bn))] H locs := hW
        refine W.eq (g2 := F0 m 32 ls [.int 1]) rfl ?_
        refine lv_if_eq (tgt := 39) hx hb d_Clerk_canStep_32 rfl (fun hz => absurd hz (by decide)) (fun _ => ?_)
        refine lv_iconst (v := 1) hx hb d_Clerk_canStep_35 (by decide) ?_
        refine lv_goto (tgt := 40) hx hb d_Clerk_canStep_36 rfl ?_
        exact Ct.zret hx hb hr hnl hW (by decide) (by decide) d_Clerk_canStep_40 (by decide) ⟨by first | rfl | (simp only [o_Clerk_canStep_r, if_neg hf2, if_neg hf4, if_pos ht5]), by first | rfl | (simp only [o_Clerk_canStep_r, if_neg hf2, if_neg hf4, if_pos ht5])⟩
      · refine Ct.callV (As := [.int sn]) (rest := []) hx hb hml hown hts hK hA hl.1 hW (c_Box_has_0 l G h0b h0bn h0bw bn sn hf6) (cwV 1 hts (good_V w_ml_Clerk_123 w_im_Box_has w_se_Box_has w_ini_Box w_code_Box_has) rfl rfl rfl yd_Box_has ⟨by decide, by decide⟩) [2, 3] (by decide) rfl (ci := 2) (r := vr_Box) rfl rfl rfl rfl rfl (Nat.le_of_ble_eq_true rfl) d_Clerk_canStep_29 ⟨by decide, by decide⟩ (fun v w' hp => by obtain ⟨-, rfl⟩ := hp; exact Nat.le_of_ble_eq_true rfl) (fun v w' H locs hp hW => ?_)
        obtain ⟨rfl, rfl⟩ := hp
        have hW : Wd G A s.heap [(h0, .inr (3, [.int w, .ref h0s, .ref h0b, .ref h0p, .ref h0o, .ref h0n, .ref h0c, .ref h0l, .ref h0r, .ref h0x, .ref h0i, .int tk, .int sg, .int sn, .int wa, .ref h0q, .int oc])), (h0s, .inr (10, [.ref h0sk, .ref h0st, .ref h0sf, .ref h0ss, .ref h0sh, .int ct, .int cp, .int on, .int nm])), (h0b, .inr (2, [.ref h0bn, .ref h0bw])), (h0bn, .inl (G.2 0, 8, .inl bn))] H locs := hW
        refine W.eq (g2 := F0 m 32 ls [.int 0]) rfl ?_
        refine lv_if_eq (tgt := 39) hx hb d_Clerk_canStep_32 rfl (fun _ => ?_) (fun hz => absurd (by decide) hz)
        refine lv_iconst (v := 0) hx hb d_Clerk_canStep_39 (by decide) ?_
        exact Ct.zret hx hb hr hnl hW (by decide) (by decide) d_Clerk_canStep_40 (by decide) ⟨by first | rfl | (simp only [o_Clerk_canStep_r, if_neg hf2, if_neg hf4, if_neg hf6]), by first | rfl | (simp only [o_Clerk_canStep_r, if_neg hf2, if_neg hf4, if_neg hf6])⟩

abbrev rm_Office_countReady : Room := { frames := 2, cells := 0, slots := 0, locals := 41 }
set_option maxHeartbeats 4000000 in
set_option maxRecDepth 100000 in
theorem c_Office_countReady (l : Launch) (G : Gt) (h0 : Nat) (h1 : Nat) (h2 : Nat) (cf : Nat → Option Nat) (ch : Int64) (c0 : Nat) (c0s : Nat) (c0b : Nat) (c0p : Nat) (c0o : Nat) (c0n : Nat) (c0c : Nat) (c0l : Nat) (c0r : Nat) (c0x : Nat) (c0i : Nat) (c0q : Nat) (S0 : CkT) (c0sk : Nat) (c0st : Nat) (c0sf : Nat) (c0ss : Nat) (c0sh : Nat) (c0bn : Nat) (c0bw : Nat) (bn0 : Nat → Int32) (c1 : Nat) (c1s : Nat) (c1b : Nat) (c1p : Nat) (c1o : Nat) (c1n : Nat) (c1c : Nat) (c1l : Nat) (c1r : Nat) (c1x : Nat) (c1i : Nat) (c1q : Nat) (S1 : CkT) (c1sk : Nat) (c1st : Nat) (c1sf : Nat) (c1ss : Nat) (c1sh : Nat) (c1bn : Nat) (c1bw : Nat) (bn1 : Nat → Int32) (c2 : Nat) (c2s : Nat) (c2b : Nat) (c2p : Nat) (c2o : Nat) (c2n : Nat) (c2c : Nat) (c2l : Nat) (c2r : Nat) (c2x : Nat) (c2i : Nat) (c2q : Nat) (S2 : CkT) (c2sk : Nat) (c2st : Nat) (c2sf : Nat) (c2ss : Nat) (c2sh : Nat) (c2bn : Nat) (c2bw : Nat) (bn2 : Nat → Int32) (ct : Int32) (cp : Int32) (on : Int32) (nm : Int32) (hcf0 : cf 0 = some c0) (hcf1 : cf 1 = some c1) (hcf2 : cf 2 = some c2) : Ct l G y_Office_countReady b_Office_countReady 3 (some .int) rm_Office_countReady [.ref h0] [(h0, .inr (5, [.ref h1, .ref h2, .long ch])), (h2, .inl (G.2 4, 3, .inr (.inr (.inr (.inr cf))))), (c0, .inr (3, [.int 0, .ref c0s, .ref c0b, .ref c0p, .ref c0o, .ref c0n, .ref c0c, .ref c0l, .ref c0r, .ref c0x, .ref c0i, .int S0.2.2.2.2.1.1, .int S0.2.2.2.2.1.2.1, .int S0.2.2.2.2.1.2.2.1, .int S0.2.2.2.2.1.2.2.2, .ref c0q, .int S0.2.2.2.2.2.2])), (c0s, .inr (10, [.ref c0sk, .ref c0st, .ref c0sf, .ref c0ss, .ref c0sh, .int ct, .int cp, .int on, .int nm])), (c0b, .inr (2, [.ref c0bn, .ref c0bw])), (c0bn, .inl (G.2 0, 8, .inl bn0)), (c1, .inr (3, [.int 1, .ref c1s, .ref c1b, .ref c1p, .ref c1o, .ref c1n, .ref c1c, .ref c1l, .ref c1r, .ref c1x, .ref c1i, .int S1.2.2.2.2.1.1, .int S1.2.2.2.2.1.2.1, .int S1.2.2.2.2.1.2.2.1, .int S1.2.2.2.2.1.2.2.2, .ref c1q, .int S1.2.2.2.2.2.2])), (c1s, .inr (10, [.ref c1sk, .ref c1st, .ref c1sf, .ref c1ss, .ref c1sh, .int ct, .int cp, .int on, .int nm])), (c1b, .inr (2, [.ref c1bn, .ref c1bw])), (c1bn, .inl (G.2 0, 8, .inl bn1)), (c2, .inr (3, [.int 2, .ref c2s, .ref c2b, .ref c2p, .ref c2o, .ref c2n, .ref c2c, .ref c2l, .ref c2r, .ref c2x, .ref c2i, .int S2.2.2.2.2.1.1, .int S2.2.2.2.2.1.2.1, .int S2.2.2.2.2.1.2.2.1, .int S2.2.2.2.2.1.2.2.2, .ref c2q, .int S2.2.2.2.2.2.2])), (c2s, .inr (10, [.ref c2sk, .ref c2st, .ref c2sf, .ref c2ss, .ref c2sh, .int ct, .int cp, .int on, .int nm])), (c2b, .inr (2, [.ref c2bn, .ref c2bw])), (c2bn, .inl (G.2 0, 8, .inl bn2))] 0 0 (fun v w' => v = some (.int (rd (o_Clerk_canStep_r S0.2.2.2.2.1.1 S0.2.2.2.2.1.2.2.1 S0.2.2.2.2.1.2.2.2 ct bn0) + rd (o_Clerk_canStep_r S1.2.2.2.2.1.1 S1.2.2.2.2.1.2.2.1 S1.2.2.2.2.1.2.2.2 ct bn1) + rd (o_Clerk_canStep_r S2.2.2.2.2.1.1 S2.2.2.2.2.1.2.2.1 S2.2.2.2.2.1.2.2.2 ct bn2))) ∧ w' = [(h0, .inr (5, [.ref h1, .ref h2, .long ch])), (h2, .inl (G.2 4, 3, .inr (.inr (.inr (.inr cf))))), (c0, .inr (3, [.int 0, .ref c0s, .ref c0b, .ref c0p, .ref c0o, .ref c0n, .ref c0c, .ref c0l, .ref c0r, .ref c0x, .ref c0i, .int S0.2.2.2.2.1.1, .int S0.2.2.2.2.1.2.1, .int S0.2.2.2.2.1.2.2.1, .int S0.2.2.2.2.1.2.2.2, .ref c0q, .int S0.2.2.2.2.2.2])), (c0s, .inr (10, [.ref c0sk, .ref c0st, .ref c0sf, .ref c0ss, .ref c0sh, .int ct, .int cp, .int on, .int nm])), (c0b, .inr (2, [.ref c0bn, .ref c0bw])), (c0bn, .inl (G.2 0, 8, .inl bn0)), (c1, .inr (3, [.int 1, .ref c1s, .ref c1b, .ref c1p, .ref c1o, .ref c1n, .ref c1c, .ref c1l, .ref c1r, .ref c1x, .ref c1i, .int S1.2.2.2.2.1.1, .int S1.2.2.2.2.1.2.1, .int S1.2.2.2.2.1.2.2.1, .int S1.2.2.2.2.1.2.2.2, .ref c1q, .int S1.2.2.2.2.2.2])), (c1s, .inr (10, [.ref c1sk, .ref c1st, .ref c1sf, .ref c1ss, .ref c1sh, .int ct, .int cp, .int on, .int nm])), (c1b, .inr (2, [.ref c1bn, .ref c1bw])), (c1bn, .inl (G.2 0, 8, .inl bn1)), (c2, .inr (3, [.int 2, .ref c2s, .ref c2b, .ref c2p, .ref c2o, .ref c2n, .ref c2c, .ref c2l, .ref c2r, .ref c2x, .ref c2i, .int S2.2.2.2.2.1.1, .int S2.2.2.2.2.1.2.1, .int S2.2.2.2.2.1.2.2.1, .int S2.2.2.2.2.1.2.2.2, .ref c2q, .int S2.2.2.2.2.2.2])), (c2s, .inr (10, [.ref c2sk, .ref c2st, .ref c2sf, .ref c2ss, .ref c2sh, .int ct, .int cp, .int on, .int nm])), (c2b, .inr (2, [.ref c2bn, .ref c2bw])), (c2bn, .inl (G.2 0, 8, .inl bn2))]) := by
  refine Ct.of (by decide) (Nat.le_of_ble_eq_true rfl) (fun p e s m args below meth c A ls H locs hx hb hml hr hnl hown hts hnm hK hA hl hW => ?_)
  have hl : lv_has ls 3 [(0, .ref h0)] := hl
  refine lv_iconst (v := 0) hx hb d_Office_countReady_0 (by decide) ?_
  refine lv_istore_n (lv' := [(1, .int 0), (0, .ref h0)]) hx hb d_Office_countReady_1 rfl hl (by decide) rfl (fun ls hl => ?_)
  refine lv_iconst (v := 0) hx hb d_Office_countReady_2 (by decide) ?_
  refine lv_istore_n (lv' := [(2, .int 0), (1, .int 0), (0, .ref h0)]) hx hb d_Office_countReady_3 rfl hl (by decide) rfl (fun ls hl => ?_)
  refine lv_iload_n hx hb d_Office_countReady_4 rfl (lv_at hl 0 rfl) ?_
  refine lv_iconst (v := 3) hx hb d_Office_countReady_5 (by decide) ?_
  refine lv_icmp_ge (tgt := 30) hx hb d_Office_countReady_6 rfl (fun hz => absurd hz (by decide)) (fun _ => ?_)
  refine lv_aload_n hx hb d_Office_countReady_9 rfl (lv_at hl 2 rfl) ?_
  refine Wd.get hx hb hts hown hK hW 0 1 in_Office w_fl_Office_20 (by decide) d_Office_countReady_10 rfl rfl rfl ?_
  refine lv_iload_n hx hb d_Office_countReady_13 rfl (lv_at hl 0 rfl) ?_
  refine Wd.aald hx hb hK hW 1 4 d_Office_countReady_14 rfl rfl (by unfold vp_in; decide) hcf0 ?_
  refine Ct.callV (As := []) (rest := []) hx hb hml hown hts hK hA hl.1 hW (c_Clerk_canStepR l G c0 c0s c0b c0p c0o c0n c0c c0l c0r c0x c0i c0q (0 : Int32) S0.2.2.2.2.1.1 S0.2.2.2.2.1.2.1 S0.2.2.2.2.1.2.2.1 S0.2.2.2.2.1.2.2.2 S0.2.2.2.2.2.2 c0sk c0st c0sf c0ss c0sh ct cp on nm c0bn c0bw bn0 ) (cwV 0 hts (good_V w_ml_Office_57 w_im_Clerk_canStep w_se_Clerk_canStep w_ini_Clerk w_code_Clerk_canStep) rfl rfl rfl yd_Clerk_canStep ⟨by decide, by decide⟩) [2, 3, 4, 5] (by decide) rfl (ci := 3) (r := vr_Clerk) rfl rfl rfl rfl rfl (Nat.le_of_ble_eq_true rfl) d_Office_countReady_15 ⟨by decide, by decide⟩ (fun v w' hp => by obtain ⟨-, rfl⟩ := hp; exact Nat.le_of_ble_eq_true rfl) (fun v w' H locs hp hW => ?_)
  obtain ⟨rfl, rfl⟩ := hp
  have hW : Wd G A s.heap [(h0, .inr (5, [.ref h1, .ref h2, .long ch])), (h2, .inl (G.2 4, 3, .inr (.inr (.inr (.inr cf))))), (c0, .inr (3, [.int 0, .ref c0s, .ref c0b, .ref c0p, .ref c0o, .ref c0n, .ref c0c, .ref c0l, .ref c0r, .ref c0x, .ref c0i, .int S0.2.2.2.2.1.1, .int S0.2.2.2.2.1.2.1, .int S0.2.2.2.2.1.2.2.1, .int S0.2.2.2.2.1.2.2.2, .ref c0q, .int S0.2.2.2.2.2.2])), (c0s, .inr (10, [.ref c0sk, .ref c0st, .ref c0sf, .ref c0ss, .ref c0sh, .int ct, .int cp, .int on, .int nm])), (c0b, .inr (2, [.ref c0bn, .ref c0bw])), (c0bn, .inl (G.2 0, 8, .inl bn0)), (c1, .inr (3, [.int 1, .ref c1s, .ref c1b, .ref c1p, .ref c1o, .ref c1n, .ref c1c, .ref c1l, .ref c1r, .ref c1x, .ref c1i, .int S1.2.2.2.2.1.1, .int S1.2.2.2.2.1.2.1, .int S1.2.2.2.2.1.2.2.1, .int S1.2.2.2.2.1.2.2.2, .ref c1q, .int S1.2.2.2.2.2.2])), (c1s, .inr (10, [.ref c1sk, .ref c1st, .ref c1sf, .ref c1ss, .ref c1sh, .int ct, .int cp, .int on, .int nm])), (c1b, .inr (2, [.ref c1bn, .ref c1bw])), (c1bn, .inl (G.2 0, 8, .inl bn1)), (c2, .inr (3, [.int 2, .ref c2s, .ref c2b, .ref c2p, .ref c2o, .ref c2n, .ref c2c, .ref c2l, .ref c2r, .ref c2x, .ref c2i, .int S2.2.2.2.2.1.1, .int S2.2.2.2.2.1.2.1, .int S2.2.2.2.2.1.2.2.1, .int S2.2.2.2.2.1.2.2.2, .ref c2q, .int S2.2.2.2.2.2.2])), (c2s, .inr (10, [.ref c2sk, .ref c2st, .ref c2sf, .ref c2ss, .ref c2sh, .int ct, .int cp, .int on, .int nm])), (c2b, .inr (2, [.ref c2bn, .ref c2bw])), (c2bn, .inl (G.2 0, 8, .inl bn2))] H locs := hW
  refine W.eq (g2 := F0 m 18 ls [.int (o_Clerk_canStep_r S0.2.2.2.2.1.1 S0.2.2.2.2.1.2.2.1 S0.2.2.2.2.1.2.2.2 ct bn0)]) rfl ?_
  refine lv_if_eq (tgt := 24) hx hb d_Office_countReady_18 rfl (fun ht1 => ?_) (fun hf2 => ?_)
  · refine lv_iinc (k := 0) (v := 1) (lv' := [(2, .int 1), (1, .int 0), (0, .ref h0)]) hx hb d_Office_countReady_24 hl rfl (by decide) (by decide) rfl (fun ls hl => ?_)
    refine lv_goto (tgt := 4) hx hb d_Office_countReady_27 rfl ?_
    refine lv_iload_n hx hb d_Office_countReady_4 rfl (lv_at hl 0 rfl) ?_
    refine lv_iconst (v := 3) hx hb d_Office_countReady_5 (by decide) ?_
    refine lv_icmp_ge (tgt := 30) hx hb d_Office_countReady_6 rfl (fun hz => absurd hz (by decide)) (fun _ => ?_)
    refine lv_aload_n hx hb d_Office_countReady_9 rfl (lv_at hl 2 rfl) ?_
    refine Wd.get hx hb hts hown hK hW 0 1 in_Office w_fl_Office_20 (by decide) d_Office_countReady_10 rfl rfl rfl ?_
    refine lv_iload_n hx hb d_Office_countReady_13 rfl (lv_at hl 0 rfl) ?_
    refine Wd.aald hx hb hK hW 1 4 d_Office_countReady_14 rfl rfl (by unfold vp_in; decide) hcf1 ?_
    refine Ct.callV (As := []) (rest := []) hx hb hml hown hts hK hA hl.1 hW (c_Clerk_canStepR l G c1 c1s c1b c1p c1o c1n c1c c1l c1r c1x c1i c1q (1 : Int32) S1.2.2.2.2.1.1 S1.2.2.2.2.1.2.1 S1.2.2.2.2.1.2.2.1 S1.2.2.2.2.1.2.2.2 S1.2.2.2.2.2.2 c1sk c1st c1sf c1ss c1sh ct cp on nm c1bn c1bw bn1 ) (cwV 0 hts (good_V w_ml_Office_57 w_im_Clerk_canStep w_se_Clerk_canStep w_ini_Clerk w_code_Clerk_canStep) rfl rfl rfl yd_Clerk_canStep ⟨by decide, by decide⟩) [6, 7, 8, 9] (by decide) rfl (ci := 3) (r := vr_Clerk) rfl rfl rfl rfl rfl (Nat.le_of_ble_eq_true rfl) d_Office_countReady_15 ⟨by decide, by decide⟩ (fun v w' hp => by obtain ⟨-, rfl⟩ := hp; exact Nat.le_of_ble_eq_true rfl) (fun v w' H locs hp hW => ?_)
    obtain ⟨rfl, rfl⟩ := hp
    have hW : Wd G A s.heap [(h0, .inr (5, [.ref h1, .ref h2, .long ch])), (h2, .inl (G.2 4, 3, .inr (.inr (.inr (.inr cf))))), (c0, .inr (3, [.int 0, .ref c0s, .ref c0b, .ref c0p, .ref c0o, .ref c0n, .ref c0c, .ref c0l, .ref c0r, .ref c0x, .ref c0i, .int S0.2.2.2.2.1.1, .int S0.2.2.2.2.1.2.1, .int S0.2.2.2.2.1.2.2.1, .int S0.2.2.2.2.1.2.2.2, .ref c0q, .int S0.2.2.2.2.2.2])), (c0s, .inr (10, [.ref c0sk, .ref c0st, .ref c0sf, .ref c0ss, .ref c0sh, .int ct, .int cp, .int on, .int nm])), (c0b, .inr (2, [.ref c0bn, .ref c0bw])), (c0bn, .inl (G.2 0, 8, .inl bn0)), (c1, .inr (3, [.int 1, .ref c1s, .ref c1b, .ref c1p, .ref c1o, .ref c1n, .ref c1c, .ref c1l, .ref c1r, .ref c1x, .ref c1i, .int S1.2.2.2.2.1.1, .int S1.2.2.2.2.1.2.1, .int S1.2.2.2.2.1.2.2.1, .int S1.2.2.2.2.1.2.2.2, .ref c1q, .int S1.2.2.2.2.2.2])), (c1s, .inr (10, [.ref c1sk, .ref c1st, .ref c1sf, .ref c1ss, .ref c1sh, .int ct, .int cp, .int on, .int nm])), (c1b, .inr (2, [.ref c1bn, .ref c1bw])), (c1bn, .inl (G.2 0, 8, .inl bn1)), (c2, .inr (3, [.int 2, .ref c2s, .ref c2b, .ref c2p, .ref c2o, .ref c2n, .ref c2c, .ref c2l, .ref c2r, .ref c2x, .ref c2i, .int S2.2.2.2.2.1.1, .int S2.2.2.2.2.1.2.1, .int S2.2.2.2.2.1.2.2.1, .int S2.2.2.2.2.1.2.2.2, .ref c2q, .int S2.2.2.2.2.2.2])), (c2s, .inr (10, [.ref c2sk, .ref c2st, .ref c2sf, .ref c2ss, .ref c2sh, .int ct, .int cp, .int on, .int nm])), (c2b, .inr (2, [.ref c2bn, .ref c2bw])), (c2bn, .inl (G.2 0, 8, .inl bn2))] H locs := hW
    refine W.eq (g2 := F0 m 18 ls [.int (o_Clerk_canStep_r S1.2.2.2.2.1.1 S1.2.2.2.2.1.2.2.1 S1.2.2.2.2.1.2.2.2 ct bn1)]) rfl ?_
    refine lv_if_eq (tgt := 24) hx hb d_Office_countReady_18 rfl (fun ht3 => ?_) (fun hf4 => ?_)
    · refine lv_iinc (k := 0) (v := 2) (lv' := [(2, .int 2), (1, .int 0), (0, .ref h0)]) hx hb d_Office_countReady_24 hl rfl (by decide) (by decide) rfl (fun ls hl => ?_)
      refine lv_goto (tgt := 4) hx hb d_Office_countReady_27 rfl ?_
      refine lv_iload_n hx hb d_Office_countReady_4 rfl (lv_at hl 0 rfl) ?_
      refine lv_iconst (v := 3) hx hb d_Office_countReady_5 (by decide) ?_
      refine lv_icmp_ge (tgt := 30) hx hb d_Office_countReady_6 rfl (fun hz => absurd hz (by decide)) (fun _ => ?_)
      refine lv_aload_n hx hb d_Office_countReady_9 rfl (lv_at hl 2 rfl) ?_
      refine Wd.get hx hb hts hown hK hW 0 1 in_Office w_fl_Office_20 (by decide) d_Office_countReady_10 rfl rfl rfl ?_
      refine lv_iload_n hx hb d_Office_countReady_13 rfl (lv_at hl 0 rfl) ?_
      refine Wd.aald hx hb hK hW 1 4 d_Office_countReady_14 rfl rfl (by unfold vp_in; decide) hcf2 ?_
      refine Ct.callV (As := []) (rest := []) hx hb hml hown hts hK hA hl.1 hW (c_Clerk_canStepR l G c2 c2s c2b c2p c2o c2n c2c c2l c2r c2x c2i c2q (2 : Int32) S2.2.2.2.2.1.1 S2.2.2.2.2.1.2.1 S2.2.2.2.2.1.2.2.1 S2.2.2.2.2.1.2.2.2 S2.2.2.2.2.2.2 c2sk c2st c2sf c2ss c2sh ct cp on nm c2bn c2bw bn2 ) (cwV 0 hts (good_V w_ml_Office_57 w_im_Clerk_canStep w_se_Clerk_canStep w_ini_Clerk w_code_Clerk_canStep) rfl rfl rfl yd_Clerk_canStep ⟨by decide, by decide⟩) [10, 11, 12, 13] (by decide) rfl (ci := 3) (r := vr_Clerk) rfl rfl rfl rfl rfl (Nat.le_of_ble_eq_true rfl) d_Office_countReady_15 ⟨by decide, by decide⟩ (fun v w' hp => by obtain ⟨-, rfl⟩ := hp; exact Nat.le_of_ble_eq_true rfl) (fun v w' H locs hp hW => ?_)
      obtain ⟨rfl, rfl⟩ := hp
      have hW : Wd G A s.heap [(h0, .inr (5, [.ref h1, .ref h2, .long ch])), (h2, .inl (G.2 4, 3, .inr (.inr (.inr (.inr cf))))), (c0, .inr (3, [.int 0, .ref c0s, .ref c0b, .ref c0p, .ref c0o, .ref c0n, .ref c0c, .ref c0l, .ref c0r, .ref c0x, .ref c0i, .int S0.2.2.2.2.1.1, .int S0.2.2.2.2.1.2.1, .int S0.2.2.2.2.1.2.2.1, .int S0.2.2.2.2.1.2.2.2, .ref c0q, .int S0.2.2.2.2.2.2])), (c0s, .inr (10, [.ref c0sk, .ref c0st, .ref c0sf, .ref c0ss, .ref c0sh, .int ct, .int cp, .int on, .int nm])), (c0b, .inr (2, [.ref c0bn, .ref c0bw])), (c0bn, .inl (G.2 0, 8, .inl bn0)), (c1, .inr (3, [.int 1, .ref c1s, .ref c1b, .ref c1p, .ref c1o, .ref c1n, .ref c1c, .ref c1l, .ref c1r, .ref c1x, .ref c1i, .int S1.2.2.2.2.1.1, .int S1.2.2.2.2.1.2.1, .int S1.2.2.2.2.1.2.2.1, .int S1.2.2.2.2.1.2.2.2, .ref c1q, .int S1.2.2.2.2.2.2])), (c1s, .inr (10, [.ref c1sk, .ref c1st, .ref c1sf, .ref c1ss, .ref c1sh, .int ct, .int cp, .int on, .int nm])), (c1b, .inr (2, [.ref c1bn, .ref c1bw])), (c1bn, .inl (G.2 0, 8, .inl bn1)), (c2, .inr (3, [.int 2, .ref c2s, .ref c2b, .ref c2p, .ref c2o, .ref c2n, .ref c2c, .ref c2l, .ref c2r, .ref c2x, .ref c2i, .int S2.2.2.2.2.1.1, .int S2.2.2.2.2.1.2.1, .int S2.2.2.2.2.1.2.2.1, .int S2.2.2.2.2.1.2.2.2, .ref c2q, .int S2.2.2.2.2.2.2])), (c2s, .inr (10, [.ref c2sk, .ref c2st, .ref c2sf, .ref c2ss, .ref c2sh, .int ct, .int cp, .int on, .int nm])), (c2b, .inr (2, [.ref c2bn, .ref c2bw])), (c2bn, .inl (G.2 0, 8, .inl bn2))] H locs := hW
      refine W.eq (g2 := F0 m 18 ls [.int (o_Clerk_canStep_r S2.2.2.2.2.1.1 S2.2.2.2.2.1.2.2.1 S2.2.2.2.2.1.2.2.2 ct bn2)]) rfl ?_
      refine lv_if_eq (tgt := 24) hx hb d_Office_countReady_18 rfl (fun ht5 => ?_) (fun hf6 => ?_)
      · refine lv_iinc (k := 0) (v := 3) (lv' := [(2, .int 3), (1, .int 0), (0, .ref h0)]) hx hb d_Office_countReady_24 hl rfl (by decide) (by decide) rfl (fun ls hl => ?_)
        refine lv_goto (tgt := 4) hx hb d_Office_countReady_27 rfl ?_
        refine lv_iload_n hx hb d_Office_countReady_4 rfl (lv_at hl 0 rfl) ?_
        refine lv_iconst (v := 3) hx hb d_Office_countReady_5 (by decide) ?_
        refine lv_icmp_ge (tgt := 30) hx hb d_Office_countReady_6 rfl (fun _ => ?_) (fun hz => absurd (by decide) hz)
        refine lv_iload_n hx hb d_Office_countReady_30 rfl (lv_at hl 1 rfl) ?_
        exact Ct.iret hx hb hr hnl hW (by decide) (by decide) d_Office_countReady_31 ⟨by first | rfl | (simp only [rd, if_pos ht1, if_pos ht3, if_pos ht5]; done) | (simp only [rd, if_pos ht1, if_pos ht3, if_pos ht5]; rfl), by first | rfl | (simp only [rd, if_pos ht1, if_pos ht3, if_pos ht5]; done) | (simp only [rd, if_pos ht1, if_pos ht3, if_pos ht5]; rfl)⟩
      · refine lv_iinc (k := 1) (v := 1) (lv' := [(1, .int 1), (2, .int 2), (0, .ref h0)]) hx hb d_Office_countReady_21 hl rfl (by decide) (by decide) rfl (fun ls hl => ?_)
        refine lv_iinc (k := 1) (v := 3) (lv' := [(2, .int 3), (1, .int 1), (0, .ref h0)]) hx hb d_Office_countReady_24 hl rfl (by decide) (by decide) rfl (fun ls hl => ?_)
        refine lv_goto (tgt := 4) hx hb d_Office_countReady_27 rfl ?_
        refine lv_iload_n hx hb d_Office_countReady_4 rfl (lv_at hl 0 rfl) ?_
        refine lv_iconst (v := 3) hx hb d_Office_countReady_5 (by decide) ?_
        refine lv_icmp_ge (tgt := 30) hx hb d_Office_countReady_6 rfl (fun _ => ?_) (fun hz => absurd (by decide) hz)
        refine lv_iload_n hx hb d_Office_countReady_30 rfl (lv_at hl 1 rfl) ?_
        exact Ct.iret hx hb hr hnl hW (by decide) (by decide) d_Office_countReady_31 ⟨by first | rfl | (simp only [rd, if_pos ht1, if_pos ht3, if_neg hf6]; done) | (simp only [rd, if_pos ht1, if_pos ht3, if_neg hf6]; rfl), by first | rfl | (simp only [rd, if_pos ht1, if_pos ht3, if_neg hf6]; done) | (simp only [rd, if_pos ht1, if_pos ht3, if_neg hf6]; rfl)⟩
    · refine lv_iinc (k := 1) (v := 1) (lv' := [(1, .int 1), (2, .int 1), (0, .ref h0)]) hx hb d_Office_countReady_21 hl rfl (by decide) (by decide) rfl (fun ls hl => ?_)
      refine lv_iinc (k := 1) (v := 2) (lv' := [(2, .int 2), (1, .int 1), (0, .ref h0)]) hx hb d_Office_countReady_24 hl rfl (by decide) (by decide) rfl (fun ls hl => ?_)
      refine lv_goto (tgt := 4) hx hb d_Office_countReady_27 rfl ?_
      refine lv_iload_n hx hb d_Office_countReady_4 rfl (lv_at hl 0 rfl) ?_
      refine lv_iconst (v := 3) hx hb d_Office_countReady_5 (by decide) ?_
      refine lv_icmp_ge (tgt := 30) hx hb d_Office_countReady_6 rfl (fun hz => absurd hz (by decide)) (fun _ => ?_)
      refine lv_aload_n hx hb d_Office_countReady_9 rfl (lv_at hl 2 rfl) ?_
      refine Wd.get hx hb hts hown hK hW 0 1 in_Office w_fl_Office_20 (by decide) d_Office_countReady_10 rfl rfl rfl ?_
      refine lv_iload_n hx hb d_Office_countReady_13 rfl (lv_at hl 0 rfl) ?_
      refine Wd.aald hx hb hK hW 1 4 d_Office_countReady_14 rfl rfl (by unfold vp_in; decide) hcf2 ?_
      refine Ct.callV (As := []) (rest := []) hx hb hml hown hts hK hA hl.1 hW (c_Clerk_canStepR l G c2 c2s c2b c2p c2o c2n c2c c2l c2r c2x c2i c2q (2 : Int32) S2.2.2.2.2.1.1 S2.2.2.2.2.1.2.1 S2.2.2.2.2.1.2.2.1 S2.2.2.2.2.1.2.2.2 S2.2.2.2.2.2.2 c2sk c2st c2sf c2ss c2sh ct cp on nm c2bn c2bw bn2 ) (cwV 0 hts (good_V w_ml_Office_57 w_im_Clerk_canStep w_se_Clerk_canStep w_ini_Clerk w_code_Clerk_canStep) rfl rfl rfl yd_Clerk_canStep ⟨by decide, by decide⟩) [10, 11, 12, 13] (by decide) rfl (ci := 3) (r := vr_Clerk) rfl rfl rfl rfl rfl (Nat.le_of_ble_eq_true rfl) d_Office_countReady_15 ⟨by decide, by decide⟩ (fun v w' hp => by obtain ⟨-, rfl⟩ := hp; exact Nat.le_of_ble_eq_true rfl) (fun v w' H locs hp hW => ?_)
      obtain ⟨rfl, rfl⟩ := hp
      have hW : Wd G A s.heap [(h0, .inr (5, [.ref h1, .ref h2, .long ch])), (h2, .inl (G.2 4, 3, .inr (.inr (.inr (.inr cf))))), (c0, .inr (3, [.int 0, .ref c0s, .ref c0b, .ref c0p, .ref c0o, .ref c0n, .ref c0c, .ref c0l, .ref c0r, .ref c0x, .ref c0i, .int S0.2.2.2.2.1.1, .int S0.2.2.2.2.1.2.1, .int S0.2.2.2.2.1.2.2.1, .int S0.2.2.2.2.1.2.2.2, .ref c0q, .int S0.2.2.2.2.2.2])), (c0s, .inr (10, [.ref c0sk, .ref c0st, .ref c0sf, .ref c0ss, .ref c0sh, .int ct, .int cp, .int on, .int nm])), (c0b, .inr (2, [.ref c0bn, .ref c0bw])), (c0bn, .inl (G.2 0, 8, .inl bn0)), (c1, .inr (3, [.int 1, .ref c1s, .ref c1b, .ref c1p, .ref c1o, .ref c1n, .ref c1c, .ref c1l, .ref c1r, .ref c1x, .ref c1i, .int S1.2.2.2.2.1.1, .int S1.2.2.2.2.1.2.1, .int S1.2.2.2.2.1.2.2.1, .int S1.2.2.2.2.1.2.2.2, .ref c1q, .int S1.2.2.2.2.2.2])), (c1s, .inr (10, [.ref c1sk, .ref c1st, .ref c1sf, .ref c1ss, .ref c1sh, .int ct, .int cp, .int on, .int nm])), (c1b, .inr (2, [.ref c1bn, .ref c1bw])), (c1bn, .inl (G.2 0, 8, .inl bn1)), (c2, .inr (3, [.int 2, .ref c2s, .ref c2b, .ref c2p, .ref c2o, .ref c2n, .ref c2c, .ref c2l, .ref c2r, .ref c2x, .ref c2i, .int S2.2.2.2.2.1.1, .int S2.2.2.2.2.1.2.1, .int S2.2.2.2.2.1.2.2.1, .int S2.2.2.2.2.1.2.2.2, .ref c2q, .int S2.2.2.2.2.2.2])), (c2s, .inr (10, [.ref c2sk, .ref c2st, .ref c2sf, .ref c2ss, .ref c2sh, .int ct, .int cp, .int on, .int nm])), (c2b, .inr (2, [.ref c2bn, .ref c2bw])), (c2bn, .inl (G.2 0, 8, .inl bn2))] H locs := hW
      refine W.eq (g2 := F0 m 18 ls [.int (o_Clerk_canStep_r S2.2.2.2.2.1.1 S2.2.2.2.2.1.2.2.1 S2.2.2.2.2.1.2.2.2 ct bn2)]) rfl ?_
      refine lv_if_eq (tgt := 24) hx hb d_Office_countReady_18 rfl (fun ht7 => ?_) (fun hf8 => ?_)
      · refine lv_iinc (k := 0) (v := 3) (lv' := [(2, .int 3), (1, .int 1), (0, .ref h0)]) hx hb d_Office_countReady_24 hl rfl (by decide) (by decide) rfl (fun ls hl => ?_)
        refine lv_goto (tgt := 4) hx hb d_Office_countReady_27 rfl ?_
        refine lv_iload_n hx hb d_Office_countReady_4 rfl (lv_at hl 0 rfl) ?_
        refine lv_iconst (v := 3) hx hb d_Office_countReady_5 (by decide) ?_
        refine lv_icmp_ge (tgt := 30) hx hb d_Office_countReady_6 rfl (fun _ => ?_) (fun hz => absurd (by decide) hz)
        refine lv_iload_n hx hb d_Office_countReady_30 rfl (lv_at hl 1 rfl) ?_
        exact Ct.iret hx hb hr hnl hW (by decide) (by decide) d_Office_countReady_31 ⟨by first | rfl | (simp only [rd, if_pos ht1, if_neg hf4, if_pos ht7]; done) | (simp only [rd, if_pos ht1, if_neg hf4, if_pos ht7]; rfl), by first | rfl | (simp only [rd, if_pos ht1, if_neg hf4, if_pos ht7]; done) | (simp only [rd, if_pos ht1, if_neg hf4, if_pos ht7]; rfl)⟩
      · refine lv_iinc (k := 1) (v := 2) (lv' := [(1, .int 2), (2, .int 2), (0, .ref h0)]) hx hb d_Office_countReady_21 hl rfl (by decide) (by decide) rfl (fun ls hl => ?_)
        refine lv_iinc (k := 1) (v := 3) (lv' := [(2, .int 3), (1, .int 2), (0, .ref h0)]) hx hb d_Office_countReady_24 hl rfl (by decide) (by decide) rfl (fun ls hl => ?_)
        refine lv_goto (tgt := 4) hx hb d_Office_countReady_27 rfl ?_
        refine lv_iload_n hx hb d_Office_countReady_4 rfl (lv_at hl 0 rfl) ?_
        refine lv_iconst (v := 3) hx hb d_Office_countReady_5 (by decide) ?_
        refine lv_icmp_ge (tgt := 30) hx hb d_Office_countReady_6 rfl (fun _ => ?_) (fun hz => absurd (by decide) hz)
        refine lv_iload_n hx hb d_Office_countReady_30 rfl (lv_at hl 1 rfl) ?_
        exact Ct.iret hx hb hr hnl hW (by decide) (by decide) d_Office_countReady_31 ⟨by first | rfl | (simp only [rd, if_pos ht1, if_neg hf4, if_neg hf8]; done) | (simp only [rd, if_pos ht1, if_neg hf4, if_neg hf8]; rfl), by first | rfl | (simp only [rd, if_pos ht1, if_neg hf4, if_neg hf8]; done) | (simp only [rd, if_pos ht1, if_neg hf4, if_neg hf8]; rfl)⟩
  · refine lv_iinc (k := 1) (v := 1) (lv' := [(1, .int 1), (2, .int 0), (0, .ref h0)]) hx hb d_Office_countReady_21 hl rfl (by decide) (by decide) rfl (fun ls hl => ?_)
    refine lv_iinc (k := 1) (v := 1) (lv' := [(2, .int 1), (1, .int 1), (0, .ref h0)]) hx hb d_Office_countReady_24 hl rfl (by decide) (by decide) rfl (fun ls hl => ?_)
    refine lv_goto (tgt := 4) hx hb d_Office_countReady_27 rfl ?_
    refine lv_iload_n hx hb d_Office_countReady_4 rfl (lv_at hl 0 rfl) ?_
    refine lv_iconst (v := 3) hx hb d_Office_countReady_5 (by decide) ?_
    refine lv_icmp_ge (tgt := 30) hx hb d_Office_countReady_6 rfl (fun hz => absurd hz (by decide)) (fun _ => ?_)
    refine lv_aload_n hx hb d_Office_countReady_9 rfl (lv_at hl 2 rfl) ?_
    refine Wd.get hx hb hts hown hK hW 0 1 in_Office w_fl_Office_20 (by decide) d_Office_countReady_10 rfl rfl rfl ?_
    refine lv_iload_n hx hb d_Office_countReady_13 rfl (lv_at hl 0 rfl) ?_
    refine Wd.aald hx hb hK hW 1 4 d_Office_countReady_14 rfl rfl (by unfold vp_in; decide) hcf1 ?_
    refine Ct.callV (As := []) (rest := []) hx hb hml hown hts hK hA hl.1 hW (c_Clerk_canStepR l G c1 c1s c1b c1p c1o c1n c1c c1l c1r c1x c1i c1q (1 : Int32) S1.2.2.2.2.1.1 S1.2.2.2.2.1.2.1 S1.2.2.2.2.1.2.2.1 S1.2.2.2.2.1.2.2.2 S1.2.2.2.2.2.2 c1sk c1st c1sf c1ss c1sh ct cp on nm c1bn c1bw bn1 ) (cwV 0 hts (good_V w_ml_Office_57 w_im_Clerk_canStep w_se_Clerk_canStep w_ini_Clerk w_code_Clerk_canStep) rfl rfl rfl yd_Clerk_canStep ⟨by decide, by decide⟩) [6, 7, 8, 9] (by decide) rfl (ci := 3) (r := vr_Clerk) rfl rfl rfl rfl rfl (Nat.le_of_ble_eq_true rfl) d_Office_countReady_15 ⟨by decide, by decide⟩ (fun v w' hp => by obtain ⟨-, rfl⟩ := hp; exact Nat.le_of_ble_eq_true rfl) (fun v w' H locs hp hW => ?_)
    obtain ⟨rfl, rfl⟩ := hp
    have hW : Wd G A s.heap [(h0, .inr (5, [.ref h1, .ref h2, .long ch])), (h2, .inl (G.2 4, 3, .inr (.inr (.inr (.inr cf))))), (c0, .inr (3, [.int 0, .ref c0s, .ref c0b, .ref c0p, .ref c0o, .ref c0n, .ref c0c, .ref c0l, .ref c0r, .ref c0x, .ref c0i, .int S0.2.2.2.2.1.1, .int S0.2.2.2.2.1.2.1, .int S0.2.2.2.2.1.2.2.1, .int S0.2.2.2.2.1.2.2.2, .ref c0q, .int S0.2.2.2.2.2.2])), (c0s, .inr (10, [.ref c0sk, .ref c0st, .ref c0sf, .ref c0ss, .ref c0sh, .int ct, .int cp, .int on, .int nm])), (c0b, .inr (2, [.ref c0bn, .ref c0bw])), (c0bn, .inl (G.2 0, 8, .inl bn0)), (c1, .inr (3, [.int 1, .ref c1s, .ref c1b, .ref c1p, .ref c1o, .ref c1n, .ref c1c, .ref c1l, .ref c1r, .ref c1x, .ref c1i, .int S1.2.2.2.2.1.1, .int S1.2.2.2.2.1.2.1, .int S1.2.2.2.2.1.2.2.1, .int S1.2.2.2.2.1.2.2.2, .ref c1q, .int S1.2.2.2.2.2.2])), (c1s, .inr (10, [.ref c1sk, .ref c1st, .ref c1sf, .ref c1ss, .ref c1sh, .int ct, .int cp, .int on, .int nm])), (c1b, .inr (2, [.ref c1bn, .ref c1bw])), (c1bn, .inl (G.2 0, 8, .inl bn1)), (c2, .inr (3, [.int 2, .ref c2s, .ref c2b, .ref c2p, .ref c2o, .ref c2n, .ref c2c, .ref c2l, .ref c2r, .ref c2x, .ref c2i, .int S2.2.2.2.2.1.1, .int S2.2.2.2.2.1.2.1, .int S2.2.2.2.2.1.2.2.1, .int S2.2.2.2.2.1.2.2.2, .ref c2q, .int S2.2.2.2.2.2.2])), (c2s, .inr (10, [.ref c2sk, .ref c2st, .ref c2sf, .ref c2ss, .ref c2sh, .int ct, .int cp, .int on, .int nm])), (c2b, .inr (2, [.ref c2bn, .ref c2bw])), (c2bn, .inl (G.2 0, 8, .inl bn2))] H locs := hW
    refine W.eq (g2 := F0 m 18 ls [.int (o_Clerk_canStep_r S1.2.2.2.2.1.1 S1.2.2.2.2.1.2.2.1 S1.2.2.2.2.1.2.2.2 ct bn1)]) rfl ?_
    refine lv_if_eq (tgt := 24) hx hb d_Office_countReady_18 rfl (fun ht9 => ?_) (fun hf10 => ?_)
    · refine lv_iinc (k := 0) (v := 2) (lv' := [(2, .int 2), (1, .int 1), (0, .ref h0)]) hx hb d_Office_countReady_24 hl rfl (by decide) (by decide) rfl (fun ls hl => ?_)
      refine lv_goto (tgt := 4) hx hb d_Office_countReady_27 rfl ?_
      refine lv_iload_n hx hb d_Office_countReady_4 rfl (lv_at hl 0 rfl) ?_
      refine lv_iconst (v := 3) hx hb d_Office_countReady_5 (by decide) ?_
      refine lv_icmp_ge (tgt := 30) hx hb d_Office_countReady_6 rfl (fun hz => absurd hz (by decide)) (fun _ => ?_)
      refine lv_aload_n hx hb d_Office_countReady_9 rfl (lv_at hl 2 rfl) ?_
      refine Wd.get hx hb hts hown hK hW 0 1 in_Office w_fl_Office_20 (by decide) d_Office_countReady_10 rfl rfl rfl ?_
      refine lv_iload_n hx hb d_Office_countReady_13 rfl (lv_at hl 0 rfl) ?_
      refine Wd.aald hx hb hK hW 1 4 d_Office_countReady_14 rfl rfl (by unfold vp_in; decide) hcf2 ?_
      refine Ct.callV (As := []) (rest := []) hx hb hml hown hts hK hA hl.1 hW (c_Clerk_canStepR l G c2 c2s c2b c2p c2o c2n c2c c2l c2r c2x c2i c2q (2 : Int32) S2.2.2.2.2.1.1 S2.2.2.2.2.1.2.1 S2.2.2.2.2.1.2.2.1 S2.2.2.2.2.1.2.2.2 S2.2.2.2.2.2.2 c2sk c2st c2sf c2ss c2sh ct cp on nm c2bn c2bw bn2 ) (cwV 0 hts (good_V w_ml_Office_57 w_im_Clerk_canStep w_se_Clerk_canStep w_ini_Clerk w_code_Clerk_canStep) rfl rfl rfl yd_Clerk_canStep ⟨by decide, by decide⟩) [10, 11, 12, 13] (by decide) rfl (ci := 3) (r := vr_Clerk) rfl rfl rfl rfl rfl (Nat.le_of_ble_eq_true rfl) d_Office_countReady_15 ⟨by decide, by decide⟩ (fun v w' hp => by obtain ⟨-, rfl⟩ := hp; exact Nat.le_of_ble_eq_true rfl) (fun v w' H locs hp hW => ?_)
      obtain ⟨rfl, rfl⟩ := hp
      have hW : Wd G A s.heap [(h0, .inr (5, [.ref h1, .ref h2, .long ch])), (h2, .inl (G.2 4, 3, .inr (.inr (.inr (.inr cf))))), (c0, .inr (3, [.int 0, .ref c0s, .ref c0b, .ref c0p, .ref c0o, .ref c0n, .ref c0c, .ref c0l, .ref c0r, .ref c0x, .ref c0i, .int S0.2.2.2.2.1.1, .int S0.2.2.2.2.1.2.1, .int S0.2.2.2.2.1.2.2.1, .int S0.2.2.2.2.1.2.2.2, .ref c0q, .int S0.2.2.2.2.2.2])), (c0s, .inr (10, [.ref c0sk, .ref c0st, .ref c0sf, .ref c0ss, .ref c0sh, .int ct, .int cp, .int on, .int nm])), (c0b, .inr (2, [.ref c0bn, .ref c0bw])), (c0bn, .inl (G.2 0, 8, .inl bn0)), (c1, .inr (3, [.int 1, .ref c1s, .ref c1b, .ref c1p, .ref c1o, .ref c1n, .ref c1c, .ref c1l, .ref c1r, .ref c1x, .ref c1i, .int S1.2.2.2.2.1.1, .int S1.2.2.2.2.1.2.1, .int S1.2.2.2.2.1.2.2.1, .int S1.2.2.2.2.1.2.2.2, .ref c1q, .int S1.2.2.2.2.2.2])), (c1s, .inr (10, [.ref c1sk, .ref c1st, .ref c1sf, .ref c1ss, .ref c1sh, .int ct, .int cp, .int on, .int nm])), (c1b, .inr (2, [.ref c1bn, .ref c1bw])), (c1bn, .inl (G.2 0, 8, .inl bn1)), (c2, .inr (3, [.int 2, .ref c2s, .ref c2b, .ref c2p, .ref c2o, .ref c2n, .ref c2c, .ref c2l, .ref c2r, .ref c2x, .ref c2i, .int S2.2.2.2.2.1.1, .int S2.2.2.2.2.1.2.1, .int S2.2.2.2.2.1.2.2.1, .int S2.2.2.2.2.1.2.2.2, .ref c2q, .int S2.2.2.2.2.2.2])), (c2s, .inr (10, [.ref c2sk, .ref c2st, .ref c2sf, .ref c2ss, .ref c2sh, .int ct, .int cp, .int on, .int nm])), (c2b, .inr (2, [.ref c2bn, .ref c2bw])), (c2bn, .inl (G.2 0, 8, .inl bn2))] H locs := hW
      refine W.eq (g2 := F0 m 18 ls [.int (o_Clerk_canStep_r S2.2.2.2.2.1.1 S2.2.2.2.2.1.2.2.1 S2.2.2.2.2.1.2.2.2 ct bn2)]) rfl ?_
      refine lv_if_eq (tgt := 24) hx hb d_Office_countReady_18 rfl (fun ht11 => ?_) (fun hf12 => ?_)
      · refine lv_iinc (k := 0) (v := 3) (lv' := [(2, .int 3), (1, .int 1), (0, .ref h0)]) hx hb d_Office_countReady_24 hl rfl (by decide) (by decide) rfl (fun ls hl => ?_)
        refine lv_goto (tgt := 4) hx hb d_Office_countReady_27 rfl ?_
        refine lv_iload_n hx hb d_Office_countReady_4 rfl (lv_at hl 0 rfl) ?_
        refine lv_iconst (v := 3) hx hb d_Office_countReady_5 (by decide) ?_
        refine lv_icmp_ge (tgt := 30) hx hb d_Office_countReady_6 rfl (fun _ => ?_) (fun hz => absurd (by decide) hz)
        refine lv_iload_n hx hb d_Office_countReady_30 rfl (lv_at hl 1 rfl) ?_
        exact Ct.iret hx hb hr hnl hW (by decide) (by decide) d_Office_countReady_31 ⟨by first | rfl | (simp only [rd, if_neg hf2, if_pos ht9, if_pos ht11]; done) | (simp only [rd, if_neg hf2, if_pos ht9, if_pos ht11]; rfl), by first | rfl | (simp only [rd, if_neg hf2, if_pos ht9, if_pos ht11]; done) | (simp only [rd, if_neg hf2, if_pos ht9, if_pos ht11]; rfl)⟩
      · refine lv_iinc (k := 1) (v := 2) (lv' := [(1, .int 2), (2, .int 2), (0, .ref h0)]) hx hb d_Office_countReady_21 hl rfl (by decide) (by decide) rfl (fun ls hl => ?_)
        refine lv_iinc (k := 1) (v := 3) (lv' := [(2, .int 3), (1, .int 2), (0, .ref h0)]) hx hb d_Office_countReady_24 hl rfl (by decide) (by decide) rfl (fun ls hl => ?_)
        refine lv_goto (tgt := 4) hx hb d_Office_countReady_27 rfl ?_
        refine lv_iload_n hx hb d_Office_countReady_4 rfl (lv_at hl 0 rfl) ?_
        refine lv_iconst (v := 3) hx hb d_Office_countReady_5 (by decide) ?_
        refine lv_icmp_ge (tgt := 30) hx hb d_Office_countReady_6 rfl (fun _ => ?_) (fun hz => absurd (by decide) hz)
        refine lv_iload_n hx hb d_Office_countReady_30 rfl (lv_at hl 1 rfl) ?_
        exact Ct.iret hx hb hr hnl hW (by decide) (by decide) d_Office_countReady_31 ⟨by first | rfl | (simp only [rd, if_neg hf2, if_pos ht9, if_neg hf12]; done) | (simp only [rd, if_neg hf2, if_pos ht9, if_neg hf12]; rfl), by first | rfl | (simp only [rd, if_neg hf2, if_pos ht9, if_neg hf12]; done) | (simp only [rd, if_neg hf2, if_pos ht9, if_neg hf12]; rfl)⟩
    · refine lv_iinc (k := 1) (v := 2) (lv' := [(1, .int 2), (2, .int 1), (0, .ref h0)]) hx hb d_Office_countReady_21 hl rfl (by decide) (by decide) rfl (fun ls hl => ?_)
      refine lv_iinc (k := 1) (v := 2) (lv' := [(2, .int 2), (1, .int 2), (0, .ref h0)]) hx hb d_Office_countReady_24 hl rfl (by decide) (by decide) rfl (fun ls hl => ?_)
      refine lv_goto (tgt := 4) hx hb d_Office_countReady_27 rfl ?_
      refine lv_iload_n hx hb d_Office_countReady_4 rfl (lv_at hl 0 rfl) ?_
      refine lv_iconst (v := 3) hx hb d_Office_countReady_5 (by decide) ?_
      refine lv_icmp_ge (tgt := 30) hx hb d_Office_countReady_6 rfl (fun hz => absurd hz (by decide)) (fun _ => ?_)
      refine lv_aload_n hx hb d_Office_countReady_9 rfl (lv_at hl 2 rfl) ?_
      refine Wd.get hx hb hts hown hK hW 0 1 in_Office w_fl_Office_20 (by decide) d_Office_countReady_10 rfl rfl rfl ?_
      refine lv_iload_n hx hb d_Office_countReady_13 rfl (lv_at hl 0 rfl) ?_
      refine Wd.aald hx hb hK hW 1 4 d_Office_countReady_14 rfl rfl (by unfold vp_in; decide) hcf2 ?_
      refine Ct.callV (As := []) (rest := []) hx hb hml hown hts hK hA hl.1 hW (c_Clerk_canStepR l G c2 c2s c2b c2p c2o c2n c2c c2l c2r c2x c2i c2q (2 : Int32) S2.2.2.2.2.1.1 S2.2.2.2.2.1.2.1 S2.2.2.2.2.1.2.2.1 S2.2.2.2.2.1.2.2.2 S2.2.2.2.2.2.2 c2sk c2st c2sf c2ss c2sh ct cp on nm c2bn c2bw bn2 ) (cwV 0 hts (good_V w_ml_Office_57 w_im_Clerk_canStep w_se_Clerk_canStep w_ini_Clerk w_code_Clerk_canStep) rfl rfl rfl yd_Clerk_canStep ⟨by decide, by decide⟩) [10, 11, 12, 13] (by decide) rfl (ci := 3) (r := vr_Clerk) rfl rfl rfl rfl rfl (Nat.le_of_ble_eq_true rfl) d_Office_countReady_15 ⟨by decide, by decide⟩ (fun v w' hp => by obtain ⟨-, rfl⟩ := hp; exact Nat.le_of_ble_eq_true rfl) (fun v w' H locs hp hW => ?_)
      obtain ⟨rfl, rfl⟩ := hp
      have hW : Wd G A s.heap [(h0, .inr (5, [.ref h1, .ref h2, .long ch])), (h2, .inl (G.2 4, 3, .inr (.inr (.inr (.inr cf))))), (c0, .inr (3, [.int 0, .ref c0s, .ref c0b, .ref c0p, .ref c0o, .ref c0n, .ref c0c, .ref c0l, .ref c0r, .ref c0x, .ref c0i, .int S0.2.2.2.2.1.1, .int S0.2.2.2.2.1.2.1, .int S0.2.2.2.2.1.2.2.1, .int S0.2.2.2.2.1.2.2.2, .ref c0q, .int S0.2.2.2.2.2.2])), (c0s, .inr (10, [.ref c0sk, .ref c0st, .ref c0sf, .ref c0ss, .ref c0sh, .int ct, .int cp, .int on, .int nm])), (c0b, .inr (2, [.ref c0bn, .ref c0bw])), (c0bn, .inl (G.2 0, 8, .inl bn0)), (c1, .inr (3, [.int 1, .ref c1s, .ref c1b, .ref c1p, .ref c1o, .ref c1n, .ref c1c, .ref c1l, .ref c1r, .ref c1x, .ref c1i, .int S1.2.2.2.2.1.1, .int S1.2.2.2.2.1.2.1, .int S1.2.2.2.2.1.2.2.1, .int S1.2.2.2.2.1.2.2.2, .ref c1q, .int S1.2.2.2.2.2.2])), (c1s, .inr (10, [.ref c1sk, .ref c1st, .ref c1sf, .ref c1ss, .ref c1sh, .int ct, .int cp, .int on, .int nm])), (c1b, .inr (2, [.ref c1bn, .ref c1bw])), (c1bn, .inl (G.2 0, 8, .inl bn1)), (c2, .inr (3, [.int 2, .ref c2s, .ref c2b, .ref c2p, .ref c2o, .ref c2n, .ref c2c, .ref c2l, .ref c2r, .ref c2x, .ref c2i, .int S2.2.2.2.2.1.1, .int S2.2.2.2.2.1.2.1, .int S2.2.2.2.2.1.2.2.1, .int S2.2.2.2.2.1.2.2.2, .ref c2q, .int S2.2.2.2.2.2.2])), (c2s, .inr (10, [.ref c2sk, .ref c2st, .ref c2sf, .ref c2ss, .ref c2sh, .int ct, .int cp, .int on, .int nm])), (c2b, .inr (2, [.ref c2bn, .ref c2bw])), (c2bn, .inl (G.2 0, 8, .inl bn2))] H locs := hW
      refine W.eq (g2 := F0 m 18 ls [.int (o_Clerk_canStep_r S2.2.2.2.2.1.1 S2.2.2.2.2.1.2.2.1 S2.2.2.2.2.1.2.2.2 ct bn2)]) rfl ?_
      refine lv_if_eq (tgt := 24) hx hb d_Office_countReady_18 rfl (fun ht13 => ?_) (fun hf14 => ?_)
      · refine lv_iinc (k := 0) (v := 3) (lv' := [(2, .int 3), (1, .int 2), (0, .ref h0)]) hx hb d_Office_countReady_24 hl rfl (by decide) (by decide) rfl (fun ls hl => ?_)
        refine lv_goto (tgt := 4) hx hb d_Office_countReady_27 rfl ?_
        refine lv_iload_n hx hb d_Office_countReady_4 rfl (lv_at hl 0 rfl) ?_
        refine lv_iconst (v := 3) hx hb d_Office_countReady_5 (by decide) ?_
        refine lv_icmp_ge (tgt := 30) hx hb d_Office_countReady_6 rfl (fun _ => ?_) (fun hz => absurd (by decide) hz)
        refine lv_iload_n hx hb d_Office_countReady_30 rfl (lv_at hl 1 rfl) ?_
        exact Ct.iret hx hb hr hnl hW (by decide) (by decide) d_Office_countReady_31 ⟨by first | rfl | (simp only [rd, if_neg hf2, if_neg hf10, if_pos ht13]; done) | (simp only [rd, if_neg hf2, if_neg hf10, if_pos ht13]; rfl), by first | rfl | (simp only [rd, if_neg hf2, if_neg hf10, if_pos ht13]; done) | (simp only [rd, if_neg hf2, if_neg hf10, if_pos ht13]; rfl)⟩
      · refine lv_iinc (k := 1) (v := 3) (lv' := [(1, .int 3), (2, .int 2), (0, .ref h0)]) hx hb d_Office_countReady_21 hl rfl (by decide) (by decide) rfl (fun ls hl => ?_)
        refine lv_iinc (k := 1) (v := 3) (lv' := [(2, .int 3), (1, .int 3), (0, .ref h0)]) hx hb d_Office_countReady_24 hl rfl (by decide) (by decide) rfl (fun ls hl => ?_)
        refine lv_goto (tgt := 4) hx hb d_Office_countReady_27 rfl ?_
        refine lv_iload_n hx hb d_Office_countReady_4 rfl (lv_at hl 0 rfl) ?_
        refine lv_iconst (v := 3) hx hb d_Office_countReady_5 (by decide) ?_
        refine lv_icmp_ge (tgt := 30) hx hb d_Office_countReady_6 rfl (fun _ => ?_) (fun hz => absurd (by decide) hz)
        refine lv_iload_n hx hb d_Office_countReady_30 rfl (lv_at hl 1 rfl) ?_
        exact Ct.iret hx hb hr hnl hW (by decide) (by decide) d_Office_countReady_31 ⟨by first | rfl | (simp only [rd, if_neg hf2, if_neg hf10, if_neg hf14]; done) | (simp only [rd, if_neg hf2, if_neg hf10, if_neg hf14]; rfl), by first | rfl | (simp only [rd, if_neg hf2, if_neg hf10, if_neg hf14]; done) | (simp only [rd, if_neg hf2, if_neg hf10, if_neg hf14]; rfl)⟩

