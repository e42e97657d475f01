theorem d_Clerk_init_0 : decode b_Clerk_init 0 = .ok (.aload_n 0, 1) := by decide +kernel
theorem d_Clerk_init_1 : decode b_Clerk_init 1 = .ok (.invokespecial 3, 3) := by decide +kernel
theorem d_Clerk_init_4 : decode b_Clerk_init 4 = .ok (.aload_n 0, 1) := by decide +kernel
theorem d_Clerk_init_5 : decode b_Clerk_init 5 = .ok (.new 9, 3) := by decide +kernel
theorem d_Clerk_init_8 : decode b_Clerk_init 8 = .ok (.dup, 1) := by decide +kernel
theorem d_Clerk_init_9 : decode b_Clerk_init 9 = .ok (.invokespecial 11, 3) := by decide +kernel
theorem d_Clerk_init_12 : decode b_Clerk_init 12 = .ok (.putfield 12, 3) := by decide +kernel
theorem d_Clerk_init_15 : decode b_Clerk_init 15 = .ok (.aload_n 0, 1) := by decide +kernel
theorem d_Clerk_init_16 : decode b_Clerk_init 16 = .ok (.new 18, 3) := by decide +kernel
theorem d_Clerk_init_19 : decode b_Clerk_init 19 = .ok (.dup, 1) := by decide +kernel
theorem d_Clerk_init_20 : decode b_Clerk_init 20 = .ok (.invokespecial 20, 3) := by decide +kernel
theorem d_Clerk_init_23 : decode b_Clerk_init 23 = .ok (.putfield 21, 3) := by decide +kernel
theorem d_Clerk_init_26 : decode b_Clerk_init 26 = .ok (.aload_n 0, 1) := by decide +kernel
theorem d_Clerk_init_27 : decode b_Clerk_init 27 = .ok (.new 25, 3) := by decide +kernel
theorem d_Clerk_init_30 : decode b_Clerk_init 30 = .ok (.dup, 1) := by decide +kernel
theorem d_Clerk_init_31 : decode b_Clerk_init 31 = .ok (.invokespecial 27, 3) := by decide +kernel
theorem d_Clerk_init_34 : decode b_Clerk_init 34 = .ok (.putfield 28, 3) := by decide +kernel
theorem d_Clerk_init_37 : decode b_Clerk_init 37 = .ok (.aload_n 0, 1) := by decide +kernel
theorem d_Clerk_init_38 : decode b_Clerk_init 38 = .ok (.bipush 34, 2) := by decide +kernel
theorem d_Clerk_init_40 : decode b_Clerk_init 40 = .ok (.newarray .int, 2) := by decide +kernel
theorem d_Clerk_init_42 : decode b_Clerk_init 42 = .ok (.putfield 32, 3) := by decide +kernel
theorem d_Clerk_init_45 : decode b_Clerk_init 45 = .ok (.aload_n 0, 1) := by decide +kernel
theorem d_Clerk_init_46 : decode b_Clerk_init 46 = .ok (.bipush 34, 2) := by decide +kernel
theorem d_Clerk_init_48 : decode b_Clerk_init 48 = .ok (.newarray .int, 2) := by decide +kernel
theorem d_Clerk_init_50 : decode b_Clerk_init 50 = .ok (.putfield 36, 3) := by decide +kernel
theorem d_Clerk_init_53 : decode b_Clerk_init 53 = .ok (.aload_n 0, 1) := by decide +kernel
theorem d_Clerk_init_54 : decode b_Clerk_init 54 = .ok (.bipush 16, 2) := by decide +kernel
theorem d_Clerk_init_56 : decode b_Clerk_init 56 = .ok (.newarray .int, 2) := by decide +kernel
theorem d_Clerk_init_58 : decode b_Clerk_init 58 = .ok (.putfield 39, 3) := by decide +kernel
theorem d_Clerk_init_61 : decode b_Clerk_init 61 = .ok (.aload_n 0, 1) := by decide +kernel
theorem d_Clerk_init_62 : decode b_Clerk_init 62 = .ok (.iload_n 1, 1) := by decide +kernel
theorem d_Clerk_init_63 : decode b_Clerk_init 63 = .ok (.putfield 42, 3) := by decide +kernel
theorem d_Clerk_init_66 : decode b_Clerk_init 66 = .ok (.aload_n 0, 1) := by decide +kernel
theorem d_Clerk_init_67 : decode b_Clerk_init 67 = .ok (.new 46, 3) := by decide +kernel
theorem d_Clerk_init_70 : decode b_Clerk_init 70 = .ok (.dup, 1) := by decide +kernel
theorem d_Clerk_init_71 : decode b_Clerk_init 71 = .ok (.iload_n 1, 1) := by decide +kernel
theorem d_Clerk_init_72 : decode b_Clerk_init 72 = .ok (.invokespecial 48, 3) := by decide +kernel
theorem d_Clerk_init_75 : decode b_Clerk_init 75 = .ok (.putfield 51, 3) := by decide +kernel
theorem d_Clerk_init_78 : decode b_Clerk_init 78 = .ok (.aload_n 0, 1) := by decide +kernel
theorem d_Clerk_init_79 : decode b_Clerk_init 79 = .ok (.new 55, 3) := by decide +kernel
theorem d_Clerk_init_82 : decode b_Clerk_init 82 = .ok (.dup, 1) := by decide +kernel
theorem d_Clerk_init_83 : decode b_Clerk_init 83 = .ok (.iload_n 1, 1) := by decide +kernel
theorem d_Clerk_init_84 : decode b_Clerk_init 84 = .ok (.invokespecial 57, 3) := by decide +kernel
theorem d_Clerk_init_87 : decode b_Clerk_init 87 = .ok (.putfield 58, 3) := by decide +kernel
theorem d_Clerk_init_90 : decode b_Clerk_init 90 = .ok (.aload_n 0, 1) := by decide +kernel
theorem d_Clerk_init_91 : decode b_Clerk_init 91 = .ok (.new 55, 3) := by decide +kernel
theorem d_Clerk_init_94 : decode b_Clerk_init 94 = .ok (.dup, 1) := by decide +kernel
theorem d_Clerk_init_95 : decode b_Clerk_init 95 = .ok (.iload_n 1, 1) := by decide +kernel
theorem d_Clerk_init_96 : decode b_Clerk_init 96 = .ok (.invokespecial 57, 3) := by decide +kernel
theorem d_Clerk_init_99 : decode b_Clerk_init 99 = .ok (.putfield 62, 3) := by decide +kernel
theorem d_Clerk_init_102 : decode b_Clerk_init 102 = .ok (.aload_n 0, 1) := by decide +kernel
theorem d_Clerk_init_103 : decode b_Clerk_init 103 = .ok (.new 55, 3) := by decide +kernel
theorem d_Clerk_init_106 : decode b_Clerk_init 106 = .ok (.dup, 1) := by decide +kernel
theorem d_Clerk_init_107 : decode b_Clerk_init 107 = .ok (.iload_n 1, 1) := by decide +kernel
theorem d_Clerk_init_108 : decode b_Clerk_init 108 = .ok (.invokespecial 57, 3) := by decide +kernel
theorem d_Clerk_init_111 : decode b_Clerk_init 111 = .ok (.putfield 65, 3) := by decide +kernel
theorem d_Clerk_init_114 : decode b_Clerk_init 114 = .ok (.aload_n 0, 1) := by decide +kernel
theorem d_Clerk_init_115 : decode b_Clerk_init 115 = .ok (.new 55, 3) := by decide +kernel
theorem d_Clerk_init_118 : decode b_Clerk_init 118 = .ok (.dup, 1) := by decide +kernel
theorem d_Clerk_init_119 : decode b_Clerk_init 119 = .ok (.iload_n 1, 1) := by decide +kernel
theorem d_Clerk_init_120 : decode b_Clerk_init 120 = .ok (.invokespecial 57, 3) := by decide +kernel
theorem d_Clerk_init_123 : decode b_Clerk_init 123 = .ok (.putfield 68, 3) := by decide +kernel
theorem d_Clerk_init_126 : decode b_Clerk_init 126 = .ok (.return_, 1) := by decide +kernel
theorem d_Clerk_prepare_0 : decode b_Clerk_prepare 0 = .ok (.aload_n 0, 1) := by decide +kernel
theorem d_Clerk_prepare_1 : decode b_Clerk_prepare 1 = .ok (.getfield 12, 3) := by decide +kernel
theorem d_Clerk_prepare_4 : decode b_Clerk_prepare 4 = .ok (.aload_n 1, 1) := by decide +kernel
theorem d_Clerk_prepare_5 : decode b_Clerk_prepare 5 = .ok (.invokevirtual 71, 3) := by decide +kernel
theorem d_Clerk_prepare_8 : decode b_Clerk_prepare 8 = .ok (.aload_n 0, 1) := by decide +kernel
theorem d_Clerk_prepare_9 : decode b_Clerk_prepare 9 = .ok (.getfield 28, 3) := by decide +kernel
theorem d_Clerk_prepare_12 : decode b_Clerk_prepare 12 = .ok (.lload_n 2, 1) := by decide +kernel
theorem d_Clerk_prepare_13 : decode b_Clerk_prepare 13 = .ok (.lload 4, 2) := by decide +kernel
theorem d_Clerk_prepare_15 : decode b_Clerk_prepare 15 = .ok (.iload 6, 2) := by decide +kernel
theorem d_Clerk_prepare_17 : decode b_Clerk_prepare 17 = .ok (.invokevirtual 75, 3) := by decide +kernel
theorem d_Clerk_prepare_20 : decode b_Clerk_prepare 20 = .ok (.aload_n 0, 1) := by decide +kernel
theorem d_Clerk_prepare_21 : decode b_Clerk_prepare 21 = .ok (.getfield 21, 3) := by decide +kernel
theorem d_Clerk_prepare_24 : decode b_Clerk_prepare 24 = .ok (.invokevirtual 79, 3) := by decide +kernel
theorem d_Clerk_prepare_27 : decode b_Clerk_prepare 27 = .ok (.aload_n 0, 1) := by decide +kernel
theorem d_Clerk_prepare_28 : decode b_Clerk_prepare 28 = .ok (.getfield 32, 3) := by decide +kernel
theorem d_Clerk_prepare_31 : decode b_Clerk_prepare 31 = .ok (.iconst 0, 1) := by decide +kernel
theorem d_Clerk_prepare_32 : decode b_Clerk_prepare 32 = .ok (.invokestatic 82, 3) := by decide +kernel
theorem d_Clerk_prepare_35 : decode b_Clerk_prepare 35 = .ok (.aload_n 0, 1) := by decide +kernel
theorem d_Clerk_prepare_36 : decode b_Clerk_prepare 36 = .ok (.getfield 36, 3) := by decide +kernel
theorem d_Clerk_prepare_39 : decode b_Clerk_prepare 39 = .ok (.iconst 0, 1) := by decide +kernel
theorem d_Clerk_prepare_40 : decode b_Clerk_prepare 40 = .ok (.invokestatic 82, 3) := by decide +kernel
theorem d_Clerk_prepare_43 : decode b_Clerk_prepare 43 = .ok (.aload_n 0, 1) := by decide +kernel
theorem d_Clerk_prepare_44 : decode b_Clerk_prepare 44 = .ok (.iconst 0, 1) := by decide +kernel
theorem d_Clerk_prepare_45 : decode b_Clerk_prepare 45 = .ok (.putfield 88, 3) := by decide +kernel
theorem d_Clerk_prepare_48 : decode b_Clerk_prepare 48 = .ok (.aload_n 0, 1) := by decide +kernel
theorem d_Clerk_prepare_49 : decode b_Clerk_prepare 49 = .ok (.iconst 5, 1) := by decide +kernel
theorem d_Clerk_prepare_50 : decode b_Clerk_prepare 50 = .ok (.putfield 91, 3) := by decide +kernel
theorem d_Clerk_prepare_53 : decode b_Clerk_prepare 53 = .ok (.aload_n 0, 1) := by decide +kernel
theorem d_Clerk_prepare_54 : decode b_Clerk_prepare 54 = .ok (.iconst 0, 1) := by decide +kernel
theorem d_Clerk_prepare_55 : decode b_Clerk_prepare 55 = .ok (.putfield 94, 3) := by decide +kernel
theorem d_Clerk_prepare_58 : decode b_Clerk_prepare 58 = .ok (.aload_n 0, 1) := by decide +kernel
theorem d_Clerk_prepare_59 : decode b_Clerk_prepare 59 = .ok (.iconst 0, 1) := by decide +kernel
theorem d_Clerk_prepare_60 : decode b_Clerk_prepare 60 = .ok (.putfield 97, 3) := by decide +kernel
theorem d_Clerk_prepare_63 : decode b_Clerk_prepare 63 = .ok (.aload_n 0, 1) := by decide +kernel
theorem d_Clerk_prepare_64 : decode b_Clerk_prepare 64 = .ok (.iconst 0, 1) := by decide +kernel
theorem d_Clerk_prepare_65 : decode b_Clerk_prepare 65 = .ok (.putfield 101, 3) := by decide +kernel
theorem d_Clerk_prepare_68 : decode b_Clerk_prepare 68 = .ok (.return_, 1) := by decide +kernel
theorem d_Clerk_hold_0 : decode b_Clerk_hold 0 = .ok (.aload_n 0, 1) := by decide +kernel
theorem d_Clerk_hold_1 : decode b_Clerk_hold 1 = .ok (.getfield 32, 3) := by decide +kernel
theorem d_Clerk_hold_4 : decode b_Clerk_hold 4 = .ok (.iload_n 1, 1) := by decide +kernel
theorem d_Clerk_hold_5 : decode b_Clerk_hold 5 = .ok (.iload_n 2, 1) := by decide +kernel
theorem d_Clerk_hold_6 : decode b_Clerk_hold 6 = .ok (.iastore, 1) := by decide +kernel
theorem d_Clerk_hold_7 : decode b_Clerk_hold 7 = .ok (.aload_n 0, 1) := by decide +kernel
theorem d_Clerk_hold_8 : decode b_Clerk_hold 8 = .ok (.getfield 36, 3) := by decide +kernel
theorem d_Clerk_hold_11 : decode b_Clerk_hold 11 = .ok (.iload_n 1, 1) := by decide +kernel
theorem d_Clerk_hold_12 : decode b_Clerk_hold 12 = .ok (.iload_n 3, 1) := by decide +kernel
theorem d_Clerk_hold_13 : decode b_Clerk_hold 13 = .ok (.iastore, 1) := by decide +kernel
theorem d_Clerk_hold_14 : decode b_Clerk_hold 14 = .ok (.return_, 1) := by decide +kernel
theorem d_Clerk_receive_0 : decode b_Clerk_receive 0 = .ok (.aload_n 0, 1) := by decide +kernel
theorem d_Clerk_receive_1 : decode b_Clerk_receive 1 = .ok (.getfield 21, 3) := by decide +kernel
theorem d_Clerk_receive_4 : decode b_Clerk_receive 4 = .ok (.iload_n 1, 1) := by decide +kernel
theorem d_Clerk_receive_5 : decode b_Clerk_receive 5 = .ok (.lload_n 2, 1) := by decide +kernel
theorem d_Clerk_receive_6 : decode b_Clerk_receive 6 = .ok (.invokevirtual 104, 3) := by decide +kernel
theorem d_Clerk_receive_9 : decode b_Clerk_receive 9 = .ok (.return_, 1) := by decide +kernel
theorem d_Clerk_copyOpened_0 : decode b_Clerk_copyOpened 0 = .ok (.aload_n 0, 1) := by decide +kernel
theorem d_Clerk_copyOpened_1 : decode b_Clerk_copyOpened 1 = .ok (.getfield 39, 3) := by decide +kernel
theorem d_Clerk_copyOpened_4 : decode b_Clerk_copyOpened 4 = .ok (.iconst 0, 1) := by decide +kernel
theorem d_Clerk_copyOpened_5 : decode b_Clerk_copyOpened 5 = .ok (.aload_n 1, 1) := by decide +kernel
theorem d_Clerk_copyOpened_6 : decode b_Clerk_copyOpened 6 = .ok (.iconst 0, 1) := by decide +kernel
theorem d_Clerk_copyOpened_7 : decode b_Clerk_copyOpened 7 = .ok (.aload_n 0, 1) := by decide +kernel
theorem d_Clerk_copyOpened_8 : decode b_Clerk_copyOpened 8 = .ok (.getfield 101, 3) := by decide +kernel
theorem d_Clerk_copyOpened_11 : decode b_Clerk_copyOpened 11 = .ok (.aload_n 1, 1) := by decide +kernel
theorem d_Clerk_copyOpened_12 : decode b_Clerk_copyOpened 12 = .ok (.arraylength, 1) := by decide +kernel
theorem d_Clerk_copyOpened_13 : decode b_Clerk_copyOpened 13 = .ok (.invokestatic 108, 3) := by decide +kernel
theorem d_Clerk_copyOpened_16 : decode b_Clerk_copyOpened 16 = .ok (.invokestatic 114, 3) := by decide +kernel
theorem d_Clerk_copyOpened_19 : decode b_Clerk_copyOpened 19 = .ok (.aload_n 0, 1) := by decide +kernel
theorem d_Clerk_copyOpened_20 : decode b_Clerk_copyOpened 20 = .ok (.getfield 101, 3) := by decide +kernel
theorem d_Clerk_copyOpened_23 : decode b_Clerk_copyOpened 23 = .ok (.aload_n 1, 1) := by decide +kernel
theorem d_Clerk_copyOpened_24 : decode b_Clerk_copyOpened 24 = .ok (.arraylength, 1) := by decide +kernel
theorem d_Clerk_copyOpened_25 : decode b_Clerk_copyOpened 25 = .ok (.invokestatic 108, 3) := by decide +kernel
theorem d_Clerk_copyOpened_28 : decode b_Clerk_copyOpened 28 = .ok (.ireturn, 1) := by decide +kernel
theorem d_Clerk_canStep_0 : decode b_Clerk_canStep 0 = .ok (.aload_n 0, 1) := by decide +kernel
theorem d_Clerk_canStep_1 : decode b_Clerk_canStep 1 = .ok (.getfield 88, 3) := by decide +kernel
theorem d_Clerk_canStep_4 : decode b_Clerk_canStep 4 = .ok (.aload_n 0, 1) := by decide +kernel
theorem d_Clerk_canStep_5 : decode b_Clerk_canStep 5 = .ok (.getfield 12, 3) := by decide +kernel
theorem d_Clerk_canStep_8 : decode b_Clerk_canStep 8 = .ok (.getfield 120, 3) := by decide +kernel
theorem d_Clerk_canStep_11 : decode b_Clerk_canStep 11 = .ok (.if_icmp .ge 28, 3) := by decide +kernel
theorem d_Clerk_canStep_14 : decode b_Clerk_canStep 14 = .ok (.aload_n 0, 1) := by decide +kernel
theorem d_Clerk_canStep_15 : decode b_Clerk_canStep 15 = .ok (.getfield 97, 3) := by decide +kernel
theorem d_Clerk_canStep_18 : decode b_Clerk_canStep 18 = .ok (.ifCond .eq 17, 3) := by decide +kernel
theorem d_Clerk_canStep_21 : decode b_Clerk_canStep 21 = .ok (.aload_n 0, 1) := by decide +kernel
theorem d_Clerk_canStep_22 : decode b_Clerk_canStep 22 = .ok (.getfield 21, 3) := by decide +kernel
theorem d_Clerk_canStep_25 : decode b_Clerk_canStep 25 = .ok (.aload_n 0, 1) := by decide +kernel
theorem d_Clerk_canStep_26 : decode b_Clerk_canStep 26 = .ok (.getfield 94, 3) := by decide +kernel
theorem d_Clerk_canStep_29 : decode b_Clerk_canStep 29 = .ok (.invokevirtual 123, 3) := by decide +kernel
theorem d_Clerk_canStep_32 : decode b_Clerk_canStep 32 = .ok (.ifCond .eq 7, 3) := by decide +kernel
theorem d_Clerk_canStep_35 : decode b_Clerk_canStep 35 = .ok (.iconst 1, 1) := by decide +kernel
theorem d_Clerk_canStep_36 : decode b_Clerk_canStep 36 = .ok (.goto 4, 3) := by decide +kernel
theorem d_Clerk_canStep_39 : decode b_Clerk_canStep 39 = .ok (.iconst 0, 1) := by decide +kernel
theorem d_Clerk_canStep_40 : decode b_Clerk_canStep 40 = .ok (.ireturn, 1) := by decide +kernel
theorem d_Clerk_step_0 : decode b_Clerk_step 0 = .ok (.aload_n 0, 1) := by decide +kernel
theorem d_Clerk_step_1 : decode b_Clerk_step 1 = .ok (.getfield 97, 3) := by decide +kernel
theorem d_Clerk_step_4 : decode b_Clerk_step 4 = .ok (.ifCond .eq 28, 3) := by decide +kernel
theorem d_Clerk_step_7 : decode b_Clerk_step 7 = .ok (.aload_n 0, 1) := by decide +kernel
theorem d_Clerk_step_8 : decode b_Clerk_step 8 = .ok (.getfield 65, 3) := by decide +kernel
theorem d_Clerk_step_11 : decode b_Clerk_step 11 = .ok (.aload_n 0, 1) := by decide +kernel
theorem d_Clerk_step_12 : decode b_Clerk_step 12 = .ok (.getfield 21, 3) := by decide +kernel
theorem d_Clerk_step_15 : decode b_Clerk_step 15 = .ok (.aload_n 0, 1) := by decide +kernel
theorem d_Clerk_step_16 : decode b_Clerk_step 16 = .ok (.getfield 94, 3) := by decide +kernel
theorem d_Clerk_step_19 : decode b_Clerk_step 19 = .ok (.invokevirtual 127, 3) := by decide +kernel
theorem d_Clerk_step_22 : decode b_Clerk_step 22 = .ok (.putfield 131, 3) := by decide +kernel
theorem d_Clerk_step_25 : decode b_Clerk_step 25 = .ok (.aload_n 0, 1) := by decide +kernel
theorem d_Clerk_step_26 : decode b_Clerk_step 26 = .ok (.invokevirtual 134, 3) := by decide +kernel
theorem d_Clerk_step_29 : decode b_Clerk_step 29 = .ok (.goto 7, 3) := by decide +kernel
theorem d_Clerk_step_32 : decode b_Clerk_step 32 = .ok (.aload_n 0, 1) := by decide +kernel
theorem d_Clerk_step_33 : decode b_Clerk_step 33 = .ok (.invokevirtual 137, 3) := by decide +kernel
theorem d_Clerk_step_36 : decode b_Clerk_step 36 = .ok (.aload_n 0, 1) := by decide +kernel
theorem d_Clerk_step_37 : decode b_Clerk_step 37 = .ok (.aload_n 0, 1) := by decide +kernel
theorem d_Clerk_step_38 : decode b_Clerk_step 38 = .ok (.getfield 91, 3) := by decide +kernel
theorem d_Clerk_step_41 : decode b_Clerk_step 41 = .ok (.iconst 5, 1) := by decide +kernel
theorem d_Clerk_step_42 : decode b_Clerk_step 42 = .ok (.if_icmp .eq 7, 3) := by decide +kernel
theorem d_Clerk_step_45 : decode b_Clerk_step 45 = .ok (.iconst 1, 1) := by decide +kernel
theorem d_Clerk_step_46 : decode b_Clerk_step 46 = .ok (.goto 4, 3) := by decide +kernel
theorem d_Clerk_step_49 : decode b_Clerk_step 49 = .ok (.iconst 0, 1) := by decide +kernel
theorem d_Clerk_step_50 : decode b_Clerk_step 50 = .ok (.putfield 97, 3) := by decide +kernel
theorem d_Clerk_step_53 : decode b_Clerk_step 53 = .ok (.aload_n 0, 1) := by decide +kernel
theorem d_Clerk_step_54 : decode b_Clerk_step 54 = .ok (.getfield 97, 3) := by decide +kernel
theorem d_Clerk_step_57 : decode b_Clerk_step 57 = .ok (.ifCond .eq 11, 3) := by decide +kernel
theorem d_Clerk_step_60 : decode b_Clerk_step 60 = .ok (.aload_n 0, 1) := by decide +kernel
theorem d_Clerk_step_61 : decode b_Clerk_step 61 = .ok (.aload_n 1, 1) := by decide +kernel
theorem d_Clerk_step_62 : decode b_Clerk_step 62 = .ok (.invokevirtual 140, 3) := by decide +kernel
theorem d_Clerk_step_65 : decode b_Clerk_step 65 = .ok (.goto 13, 3) := by decide +kernel
theorem d_Clerk_step_68 : decode b_Clerk_step 68 = .ok (.aload_n 0, 1) := by decide +kernel
theorem d_Clerk_step_69 : decode b_Clerk_step 69 = .ok (.dup, 1) := by decide +kernel
theorem d_Clerk_step_70 : decode b_Clerk_step 70 = .ok (.getfield 88, 3) := by decide +kernel
theorem d_Clerk_step_73 : decode b_Clerk_step 73 = .ok (.iconst 1, 1) := by decide +kernel
theorem d_Clerk_step_74 : decode b_Clerk_step 74 = .ok (.iadd, 1) := by decide +kernel
theorem d_Clerk_step_75 : decode b_Clerk_step 75 = .ok (.putfield 88, 3) := by decide +kernel
theorem d_Clerk_step_78 : decode b_Clerk_step 78 = .ok (.return_, 1) := by decide +kernel
theorem d_Clerk_beginTask_0 : decode b_Clerk_beginTask 0 = .ok (.aload_n 0, 1) := by decide +kernel
theorem d_Clerk_beginTask_1 : decode b_Clerk_beginTask 1 = .ok (.getfield 12, 3) := by decide +kernel
theorem d_Clerk_beginTask_4 : decode b_Clerk_beginTask 4 = .ok (.getfield 144, 3) := by decide +kernel
theorem d_Clerk_beginTask_7 : decode b_Clerk_beginTask 7 = .ok (.aload_n 0, 1) := by decide +kernel
theorem d_Clerk_beginTask_8 : decode b_Clerk_beginTask 8 = .ok (.getfield 88, 3) := by decide +kernel
theorem d_Clerk_beginTask_11 : decode b_Clerk_beginTask 11 = .ok (.iaload, 1) := by decide +kernel
theorem d_Clerk_beginTask_12 : decode b_Clerk_beginTask 12 = .ok (.istore_n 1, 1) := by decide +kernel
theorem d_Clerk_beginTask_13 : decode b_Clerk_beginTask 13 = .ok (.aload_n 0, 1) := by decide +kernel
theorem d_Clerk_beginTask_14 : decode b_Clerk_beginTask 14 = .ok (.getfield 12, 3) := by decide +kernel
theorem d_Clerk_beginTask_17 : decode b_Clerk_beginTask 17 = .ok (.getfield 147, 3) := by decide +kernel
theorem d_Clerk_beginTask_20 : decode b_Clerk_beginTask 20 = .ok (.aload_n 0, 1) := by decide +kernel
theorem d_Clerk_beginTask_21 : decode b_Clerk_beginTask 21 = .ok (.getfield 88, 3) := by decide +kernel
theorem d_Clerk_beginTask_24 : decode b_Clerk_beginTask 24 = .ok (.iaload, 1) := by decide +kernel
theorem d_Clerk_beginTask_25 : decode b_Clerk_beginTask 25 = .ok (.istore_n 2, 1) := by decide +kernel
theorem d_Clerk_beginTask_26 : decode b_Clerk_beginTask 26 = .ok (.aload_n 0, 1) := by decide +kernel
theorem d_Clerk_beginTask_27 : decode b_Clerk_beginTask 27 = .ok (.getfield 12, 3) := by decide +kernel
theorem d_Clerk_beginTask_30 : decode b_Clerk_beginTask 30 = .ok (.getfield 150, 3) := by decide +kernel
theorem d_Clerk_beginTask_33 : decode b_Clerk_beginTask 33 = .ok (.aload_n 0, 1) := by decide +kernel
theorem d_Clerk_beginTask_34 : decode b_Clerk_beginTask 34 = .ok (.getfield 88, 3) := by decide +kernel
theorem d_Clerk_beginTask_37 : decode b_Clerk_beginTask 37 = .ok (.iaload, 1) := by decide +kernel
theorem d_Clerk_beginTask_38 : decode b_Clerk_beginTask 38 = .ok (.tableswitch 119 3 7 #[34, 60, 78, 69, 102], 34) := by decide +kernel
theorem d_Clerk_beginTask_72 : decode b_Clerk_beginTask 72 = .ok (.aload_n 0, 1) := by decide +kernel
theorem d_Clerk_beginTask_73 : decode b_Clerk_beginTask 73 = .ok (.aload_n 0, 1) := by decide +kernel
theorem d_Clerk_beginTask_74 : decode b_Clerk_beginTask 74 = .ok (.getfield 58, 3) := by decide +kernel
theorem d_Clerk_beginTask_77 : decode b_Clerk_beginTask 77 = .ok (.iload_n 1, 1) := by decide +kernel
theorem d_Clerk_beginTask_78 : decode b_Clerk_beginTask 78 = .ok (.invokevirtual 153, 3) := by decide +kernel
theorem d_Clerk_beginTask_81 : decode b_Clerk_beginTask 81 = .ok (.aload_n 0, 1) := by decide +kernel
theorem d_Clerk_beginTask_82 : decode b_Clerk_beginTask 82 = .ok (.aload_n 0, 1) := by decide +kernel
theorem d_Clerk_beginTask_83 : decode b_Clerk_beginTask 83 = .ok (.getfield 62, 3) := by decide +kernel
theorem d_Clerk_beginTask_86 : decode b_Clerk_beginTask 86 = .ok (.iload_n 2, 1) := by decide +kernel
theorem d_Clerk_beginTask_87 : decode b_Clerk_beginTask 87 = .ok (.invokevirtual 153, 3) := by decide +kernel
theorem d_Clerk_beginTask_90 : decode b_Clerk_beginTask 90 = .ok (.aload_n 0, 1) := by decide +kernel
theorem d_Clerk_beginTask_91 : decode b_Clerk_beginTask 91 = .ok (.iconst 3, 1) := by decide +kernel
theorem d_Clerk_beginTask_92 : decode b_Clerk_beginTask 92 = .ok (.putfield 91, 3) := by decide +kernel
theorem d_Clerk_beginTask_95 : decode b_Clerk_beginTask 95 = .ok (.goto 68, 3) := by decide +kernel
theorem d_Clerk_beginTask_98 : decode b_Clerk_beginTask 98 = .ok (.aload_n 0, 1) := by decide +kernel
theorem d_Clerk_beginTask_99 : decode b_Clerk_beginTask 99 = .ok (.iload_n 1, 1) := by decide +kernel
theorem d_Clerk_beginTask_100 : decode b_Clerk_beginTask 100 = .ok (.iload_n 2, 1) := by decide +kernel
theorem d_Clerk_beginTask_101 : decode b_Clerk_beginTask 101 = .ok (.invokevirtual 157, 3) := by decide +kernel
theorem d_Clerk_beginTask_104 : decode b_Clerk_beginTask 104 = .ok (.goto 59, 3) := by decide +kernel
theorem d_Clerk_beginTask_107 : decode b_Clerk_beginTask 107 = .ok (.aload_n 0, 1) := by decide +kernel
theorem d_Clerk_beginTask_108 : decode b_Clerk_beginTask 108 = .ok (.iload_n 2, 1) := by decide +kernel
theorem d_Clerk_beginTask_109 : decode b_Clerk_beginTask 109 = .ok (.iload_n 1, 1) := by decide +kernel
theorem d_Clerk_beginTask_110 : decode b_Clerk_beginTask 110 = .ok (.invokevirtual 157, 3) := by decide +kernel
theorem d_Clerk_beginTask_113 : decode b_Clerk_beginTask 113 = .ok (.goto 50, 3) := by decide +kernel
theorem d_Clerk_beginTask_116 : decode b_Clerk_beginTask 116 = .ok (.aload_n 0, 1) := by decide +kernel
theorem d_Clerk_beginTask_117 : decode b_Clerk_beginTask 117 = .ok (.aload_n 0, 1) := by decide +kernel
theorem d_Clerk_beginTask_118 : decode b_Clerk_beginTask 118 = .ok (.getfield 68, 3) := by decide +kernel
theorem d_Clerk_beginTask_121 : decode b_Clerk_beginTask 121 = .ok (.iload_n 1, 1) := by decide +kernel
theorem d_Clerk_beginTask_122 : decode b_Clerk_beginTask 122 = .ok (.invokevirtual 153, 3) := by decide +kernel
theorem d_Clerk_beginTask_125 : decode b_Clerk_beginTask 125 = .ok (.aload_n 0, 1) := by decide +kernel
theorem d_Clerk_beginTask_126 : decode b_Clerk_beginTask 126 = .ok (.getfield 68, 3) := by decide +kernel
theorem d_Clerk_beginTask_129 : decode b_Clerk_beginTask 129 = .ok (.lconst 1, 1) := by decide +kernel
theorem d_Clerk_beginTask_130 : decode b_Clerk_beginTask 130 = .ok (.invokevirtual 161, 3) := by decide +kernel
theorem d_Clerk_beginTask_133 : decode b_Clerk_beginTask 133 = .ok (.aload_n 0, 1) := by decide +kernel
theorem d_Clerk_beginTask_134 : decode b_Clerk_beginTask 134 = .ok (.invokevirtual 165, 3) := by decide +kernel
theorem d_Clerk_beginTask_137 : decode b_Clerk_beginTask 137 = .ok (.goto 26, 3) := by decide +kernel
theorem d_Clerk_beginTask_140 : decode b_Clerk_beginTask 140 = .ok (.aload_n 0, 1) := by decide +kernel
theorem d_Clerk_beginTask_141 : decode b_Clerk_beginTask 141 = .ok (.aload_n 0, 1) := by decide +kernel
theorem d_Clerk_beginTask_142 : decode b_Clerk_beginTask 142 = .ok (.getfield 58, 3) := by decide +kernel
theorem d_Clerk_beginTask_145 : decode b_Clerk_beginTask 145 = .ok (.iload_n 1, 1) := by decide +kernel
theorem d_Clerk_beginTask_146 : decode b_Clerk_beginTask 146 = .ok (.invokevirtual 153, 3) := by decide +kernel
theorem d_Clerk_beginTask_149 : decode b_Clerk_beginTask 149 = .ok (.aload_n 0, 1) := by decide +kernel
theorem d_Clerk_beginTask_150 : decode b_Clerk_beginTask 150 = .ok (.iconst 4, 1) := by decide +kernel
theorem d_Clerk_beginTask_151 : decode b_Clerk_beginTask 151 = .ok (.putfield 91, 3) := by decide +kernel
theorem d_Clerk_beginTask_154 : decode b_Clerk_beginTask 154 = .ok (.goto 9, 3) := by decide +kernel
theorem d_Clerk_beginTask_157 : decode b_Clerk_beginTask 157 = .ok (.aload_n 0, 1) := by decide +kernel
theorem d_Clerk_beginTask_158 : decode b_Clerk_beginTask 158 = .ok (.iload_n 1, 1) := by decide +kernel
theorem d_Clerk_beginTask_159 : decode b_Clerk_beginTask 159 = .ok (.iload_n 2, 1) := by decide +kernel
theorem d_Clerk_beginTask_160 : decode b_Clerk_beginTask 160 = .ok (.invokevirtual 168, 3) := by decide +kernel
theorem d_Clerk_beginTask_163 : decode b_Clerk_beginTask 163 = .ok (.return_, 1) := by decide +kernel
theorem d_Clerk_takeAnswer_0 : decode b_Clerk_takeAnswer 0 = .ok (.aload_n 0, 1) := by decide +kernel
theorem d_Clerk_takeAnswer_1 : decode b_Clerk_takeAnswer 1 = .ok (.getfield 91, 3) := by decide +kernel
theorem d_Clerk_takeAnswer_4 : decode b_Clerk_takeAnswer 4 = .ok (.tableswitch 92 0 3 #[32, 71, 78, 85], 32) := by decide +kernel
theorem d_Clerk_takeAnswer_36 : decode b_Clerk_takeAnswer 36 = .ok (.aload_n 0, 1) := by decide +kernel
theorem d_Clerk_takeAnswer_37 : decode b_Clerk_takeAnswer 37 = .ok (.getfield 51, 3) := by decide +kernel
theorem d_Clerk_takeAnswer_40 : decode b_Clerk_takeAnswer 40 = .ok (.aload_n 0, 1) := by decide +kernel
theorem d_Clerk_takeAnswer_41 : decode b_Clerk_takeAnswer 41 = .ok (.getfield 65, 3) := by decide +kernel
theorem d_Clerk_takeAnswer_44 : decode b_Clerk_takeAnswer 44 = .ok (.invokevirtual 171, 3) := by decide +kernel
theorem d_Clerk_takeAnswer_47 : decode b_Clerk_takeAnswer 47 = .ok (.aload_n 0, 1) := by decide +kernel
theorem d_Clerk_takeAnswer_48 : decode b_Clerk_takeAnswer 48 = .ok (.getfield 51, 3) := by decide +kernel
theorem d_Clerk_takeAnswer_51 : decode b_Clerk_takeAnswer 51 = .ok (.invokevirtual 175, 3) := by decide +kernel
theorem d_Clerk_takeAnswer_54 : decode b_Clerk_takeAnswer 54 = .ok (.ifCond .eq 46, 3) := by decide +kernel
theorem d_Clerk_takeAnswer_57 : decode b_Clerk_takeAnswer 57 = .ok (.aload_n 0, 1) := by decide +kernel
theorem d_Clerk_takeAnswer_58 : decode b_Clerk_takeAnswer 58 = .ok (.getfield 51, 3) := by decide +kernel
theorem d_Clerk_takeAnswer_61 : decode b_Clerk_takeAnswer 61 = .ok (.aload_n 0, 1) := by decide +kernel
theorem d_Clerk_takeAnswer_62 : decode b_Clerk_takeAnswer 62 = .ok (.getfield 68, 3) := by decide +kernel
theorem d_Clerk_takeAnswer_65 : decode b_Clerk_takeAnswer 65 = .ok (.invokevirtual 179, 3) := by decide +kernel
theorem d_Clerk_takeAnswer_68 : decode b_Clerk_takeAnswer 68 = .ok (.aload_n 0, 1) := by decide +kernel
theorem d_Clerk_takeAnswer_69 : decode b_Clerk_takeAnswer 69 = .ok (.invokevirtual 165, 3) := by decide +kernel
theorem d_Clerk_takeAnswer_72 : decode b_Clerk_takeAnswer 72 = .ok (.goto 28, 3) := by decide +kernel
theorem d_Clerk_takeAnswer_75 : decode b_Clerk_takeAnswer 75 = .ok (.aload_n 0, 1) := by decide +kernel
theorem d_Clerk_takeAnswer_76 : decode b_Clerk_takeAnswer 76 = .ok (.invokevirtual 182, 3) := by decide +kernel
theorem d_Clerk_takeAnswer_79 : decode b_Clerk_takeAnswer 79 = .ok (.goto 21, 3) := by decide +kernel
theorem d_Clerk_takeAnswer_82 : decode b_Clerk_takeAnswer 82 = .ok (.aload_n 0, 1) := by decide +kernel
theorem d_Clerk_takeAnswer_83 : decode b_Clerk_takeAnswer 83 = .ok (.invokevirtual 185, 3) := by decide +kernel
theorem d_Clerk_takeAnswer_86 : decode b_Clerk_takeAnswer 86 = .ok (.goto 14, 3) := by decide +kernel
theorem d_Clerk_takeAnswer_89 : decode b_Clerk_takeAnswer 89 = .ok (.aload_n 0, 1) := by decide +kernel
theorem d_Clerk_takeAnswer_90 : decode b_Clerk_takeAnswer 90 = .ok (.invokevirtual 188, 3) := by decide +kernel
theorem d_Clerk_takeAnswer_93 : decode b_Clerk_takeAnswer 93 = .ok (.goto 7, 3) := by decide +kernel
theorem d_Clerk_takeAnswer_96 : decode b_Clerk_takeAnswer 96 = .ok (.aload_n 0, 1) := by decide +kernel
theorem d_Clerk_takeAnswer_97 : decode b_Clerk_takeAnswer 97 = .ok (.invokevirtual 191, 3) := by decide +kernel
theorem d_Clerk_takeAnswer_100 : decode b_Clerk_takeAnswer 100 = .ok (.return_, 1) := by decide +kernel
theorem d_Clerk_sendPiece_0 : decode b_Clerk_sendPiece 0 = .ok (.aload_n 0, 1) := by decide +kernel
theorem d_Clerk_sendPiece_1 : decode b_Clerk_sendPiece 1 = .ok (.dup, 1) := by decide +kernel
theorem d_Clerk_sendPiece_2 : decode b_Clerk_sendPiece 2 = .ok (.getfield 94, 3) := by decide +kernel
theorem d_Clerk_sendPiece_5 : decode b_Clerk_sendPiece 5 = .ok (.iconst 1, 1) := by decide +kernel
theorem d_Clerk_sendPiece_6 : decode b_Clerk_sendPiece 6 = .ok (.iadd, 1) := by decide +kernel
theorem d_Clerk_sendPiece_7 : decode b_Clerk_sendPiece 7 = .ok (.putfield 94, 3) := by decide +kernel
theorem d_Clerk_sendPiece_10 : decode b_Clerk_sendPiece 10 = .ok (.aload_n 0, 1) := by decide +kernel
theorem d_Clerk_sendPiece_11 : decode b_Clerk_sendPiece 11 = .ok (.getfield 91, 3) := by decide +kernel
theorem d_Clerk_sendPiece_14 : decode b_Clerk_sendPiece 14 = .ok (.ifCond .ne 79, 3) := by decide +kernel
theorem d_Clerk_sendPiece_17 : decode b_Clerk_sendPiece 17 = .ok (.aload_n 0, 1) := by decide +kernel
theorem d_Clerk_sendPiece_18 : decode b_Clerk_sendPiece 18 = .ok (.getfield 51, 3) := by decide +kernel
theorem d_Clerk_sendPiece_21 : decode b_Clerk_sendPiece 21 = .ok (.aload_n 0, 1) := by decide +kernel
theorem d_Clerk_sendPiece_22 : decode b_Clerk_sendPiece 22 = .ok (.getfield 58, 3) := by decide +kernel
theorem d_Clerk_sendPiece_25 : decode b_Clerk_sendPiece 25 = .ok (.aload_n 0, 1) := by decide +kernel
theorem d_Clerk_sendPiece_26 : decode b_Clerk_sendPiece 26 = .ok (.getfield 62, 3) := by decide +kernel
theorem d_Clerk_sendPiece_29 : decode b_Clerk_sendPiece 29 = .ok (.invokevirtual 194, 3) := by decide +kernel
theorem d_Clerk_sendPiece_32 : decode b_Clerk_sendPiece 32 = .ok (.aload_n 0, 1) := by decide +kernel
theorem d_Clerk_sendPiece_33 : decode b_Clerk_sendPiece 33 = .ok (.getfield 65, 3) := by decide +kernel
theorem d_Clerk_sendPiece_36 : decode b_Clerk_sendPiece 36 = .ok (.aload_n 0, 1) := by decide +kernel
theorem d_Clerk_sendPiece_37 : decode b_Clerk_sendPiece 37 = .ok (.getfield 58, 3) := by decide +kernel
theorem d_Clerk_sendPiece_40 : decode b_Clerk_sendPiece 40 = .ok (.getfield 198, 3) := by decide +kernel
theorem d_Clerk_sendPiece_43 : decode b_Clerk_sendPiece 43 = .ok (.aload_n 0, 1) := by decide +kernel
theorem d_Clerk_sendPiece_44 : decode b_Clerk_sendPiece 44 = .ok (.getfield 62, 3) := by decide +kernel
theorem d_Clerk_sendPiece_47 : decode b_Clerk_sendPiece 47 = .ok (.getfield 198, 3) := by decide +kernel
theorem d_Clerk_sendPiece_50 : decode b_Clerk_sendPiece 50 = .ok (.aload_n 0, 1) := by decide +kernel
theorem d_Clerk_sendPiece_51 : decode b_Clerk_sendPiece 51 = .ok (.getfield 62, 3) := by decide +kernel
theorem d_Clerk_sendPiece_54 : decode b_Clerk_sendPiece 54 = .ok (.getfield 131, 3) := by decide +kernel
theorem d_Clerk_sendPiece_57 : decode b_Clerk_sendPiece 57 = .ok (.lxor, 1) := by decide +kernel
theorem d_Clerk_sendPiece_58 : decode b_Clerk_sendPiece 58 = .ok (.land, 1) := by decide +kernel
theorem d_Clerk_sendPiece_59 : decode b_Clerk_sendPiece 59 = .ok (.aload_n 0, 1) := by decide +kernel
theorem d_Clerk_sendPiece_60 : decode b_Clerk_sendPiece 60 = .ok (.getfield 58, 3) := by decide +kernel
theorem d_Clerk_sendPiece_63 : decode b_Clerk_sendPiece 63 = .ok (.getfield 131, 3) := by decide +kernel
theorem d_Clerk_sendPiece_66 : decode b_Clerk_sendPiece 66 = .ok (.aload_n 0, 1) := by decide +kernel
theorem d_Clerk_sendPiece_67 : decode b_Clerk_sendPiece 67 = .ok (.getfield 62, 3) := by decide +kernel
theorem d_Clerk_sendPiece_70 : decode b_Clerk_sendPiece 70 = .ok (.getfield 198, 3) := by decide +kernel
theorem d_Clerk_sendPiece_73 : decode b_Clerk_sendPiece 73 = .ok (.land, 1) := by decide +kernel
theorem d_Clerk_sendPiece_74 : decode b_Clerk_sendPiece 74 = .ok (.lxor, 1) := by decide +kernel
theorem d_Clerk_sendPiece_75 : decode b_Clerk_sendPiece 75 = .ok (.aload_n 0, 1) := by decide +kernel
theorem d_Clerk_sendPiece_76 : decode b_Clerk_sendPiece 76 = .ok (.getfield 28, 3) := by decide +kernel
theorem d_Clerk_sendPiece_79 : decode b_Clerk_sendPiece 79 = .ok (.aload_n 0, 1) := by decide +kernel
theorem d_Clerk_sendPiece_80 : decode b_Clerk_sendPiece 80 = .ok (.getfield 94, 3) := by decide +kernel
theorem d_Clerk_sendPiece_83 : decode b_Clerk_sendPiece 83 = .ok (.invokevirtual 200, 3) := by decide +kernel
theorem d_Clerk_sendPiece_86 : decode b_Clerk_sendPiece 86 = .ok (.lxor, 1) := by decide +kernel
theorem d_Clerk_sendPiece_87 : decode b_Clerk_sendPiece 87 = .ok (.putfield 198, 3) := by decide +kernel
theorem d_Clerk_sendPiece_90 : decode b_Clerk_sendPiece 90 = .ok (.goto 86, 3) := by decide +kernel
theorem d_Clerk_sendPiece_93 : decode b_Clerk_sendPiece 93 = .ok (.aload_n 0, 1) := by decide +kernel
theorem d_Clerk_sendPiece_94 : decode b_Clerk_sendPiece 94 = .ok (.getfield 91, 3) := by decide +kernel
theorem d_Clerk_sendPiece_97 : decode b_Clerk_sendPiece 97 = .ok (.iconst 4, 1) := by decide +kernel
theorem d_Clerk_sendPiece_98 : decode b_Clerk_sendPiece 98 = .ok (.if_icmp .ne 20, 3) := by decide +kernel
theorem d_Clerk_sendPiece_101 : decode b_Clerk_sendPiece 101 = .ok (.aload_n 0, 1) := by decide +kernel
theorem d_Clerk_sendPiece_102 : decode b_Clerk_sendPiece 102 = .ok (.getfield 65, 3) := by decide +kernel
theorem d_Clerk_sendPiece_105 : decode b_Clerk_sendPiece 105 = .ok (.aload_n 0, 1) := by decide +kernel
theorem d_Clerk_sendPiece_106 : decode b_Clerk_sendPiece 106 = .ok (.getfield 58, 3) := by decide +kernel
theorem d_Clerk_sendPiece_109 : decode b_Clerk_sendPiece 109 = .ok (.getfield 131, 3) := by decide +kernel
theorem d_Clerk_sendPiece_112 : decode b_Clerk_sendPiece 112 = .ok (.putfield 198, 3) := by decide +kernel
theorem d_Clerk_sendPiece_115 : decode b_Clerk_sendPiece 115 = .ok (.goto 61, 3) := by decide +kernel
theorem d_Clerk_sendPiece_118 : decode b_Clerk_sendPiece 118 = .ok (.aload_n 0, 1) := by decide +kernel
theorem d_Clerk_sendPiece_119 : decode b_Clerk_sendPiece 119 = .ok (.getfield 65, 3) := by decide +kernel
theorem d_Clerk_sendPiece_122 : decode b_Clerk_sendPiece 122 = .ok (.aload_n 0, 1) := by decide +kernel
theorem d_Clerk_sendPiece_123 : decode b_Clerk_sendPiece 123 = .ok (.getfield 58, 3) := by decide +kernel
theorem d_Clerk_sendPiece_126 : decode b_Clerk_sendPiece 126 = .ok (.getfield 198, 3) := by decide +kernel
theorem d_Clerk_sendPiece_129 : decode b_Clerk_sendPiece 129 = .ok (.aload_n 0, 1) := by decide +kernel
theorem d_Clerk_sendPiece_130 : decode b_Clerk_sendPiece 130 = .ok (.getfield 62, 3) := by decide +kernel
theorem d_Clerk_sendPiece_133 : decode b_Clerk_sendPiece 133 = .ok (.getfield 198, 3) := by decide +kernel
theorem d_Clerk_sendPiece_136 : decode b_Clerk_sendPiece 136 = .ok (.aload_n 0, 1) := by decide +kernel
theorem d_Clerk_sendPiece_137 : decode b_Clerk_sendPiece 137 = .ok (.getfield 62, 3) := by decide +kernel
theorem d_Clerk_sendPiece_140 : decode b_Clerk_sendPiece 140 = .ok (.getfield 131, 3) := by decide +kernel
theorem d_Clerk_sendPiece_143 : decode b_Clerk_sendPiece 143 = .ok (.ladd, 1) := by decide +kernel
theorem d_Clerk_sendPiece_144 : decode b_Clerk_sendPiece 144 = .ok (.lmul, 1) := by decide +kernel
theorem d_Clerk_sendPiece_145 : decode b_Clerk_sendPiece 145 = .ok (.aload_n 0, 1) := by decide +kernel
theorem d_Clerk_sendPiece_146 : decode b_Clerk_sendPiece 146 = .ok (.getfield 58, 3) := by decide +kernel
theorem d_Clerk_sendPiece_149 : decode b_Clerk_sendPiece 149 = .ok (.getfield 131, 3) := by decide +kernel
theorem d_Clerk_sendPiece_152 : decode b_Clerk_sendPiece 152 = .ok (.aload_n 0, 1) := by decide +kernel
theorem d_Clerk_sendPiece_153 : decode b_Clerk_sendPiece 153 = .ok (.getfield 62, 3) := by decide +kernel
theorem d_Clerk_sendPiece_156 : decode b_Clerk_sendPiece 156 = .ok (.getfield 198, 3) := by decide +kernel
theorem d_Clerk_sendPiece_159 : decode b_Clerk_sendPiece 159 = .ok (.lmul, 1) := by decide +kernel
theorem d_Clerk_sendPiece_160 : decode b_Clerk_sendPiece 160 = .ok (.ladd, 1) := by decide +kernel
theorem d_Clerk_sendPiece_161 : decode b_Clerk_sendPiece 161 = .ok (.aload_n 0, 1) := by decide +kernel
theorem d_Clerk_sendPiece_162 : decode b_Clerk_sendPiece 162 = .ok (.getfield 28, 3) := by decide +kernel
theorem d_Clerk_sendPiece_165 : decode b_Clerk_sendPiece 165 = .ok (.aload_n 0, 1) := by decide +kernel
theorem d_Clerk_sendPiece_166 : decode b_Clerk_sendPiece 166 = .ok (.getfield 94, 3) := by decide +kernel
theorem d_Clerk_sendPiece_169 : decode b_Clerk_sendPiece 169 = .ok (.invokevirtual 203, 3) := by decide +kernel
theorem d_Clerk_sendPiece_172 : decode b_Clerk_sendPiece 172 = .ok (.ladd, 1) := by decide +kernel
theorem d_Clerk_sendPiece_173 : decode b_Clerk_sendPiece 173 = .ok (.putfield 198, 3) := by decide +kernel
theorem d_Clerk_sendPiece_176 : decode b_Clerk_sendPiece 176 = .ok (.aload_n 1, 1) := by decide +kernel
theorem d_Clerk_sendPiece_177 : decode b_Clerk_sendPiece 177 = .ok (.aload_n 0, 1) := by decide +kernel
theorem d_Clerk_sendPiece_178 : decode b_Clerk_sendPiece 178 = .ok (.getfield 42, 3) := by decide +kernel
theorem d_Clerk_sendPiece_181 : decode b_Clerk_sendPiece 181 = .ok (.iconst 3, 1) := by decide +kernel
theorem d_Clerk_sendPiece_182 : decode b_Clerk_sendPiece 182 = .ok (.iadd, 1) := by decide +kernel
theorem d_Clerk_sendPiece_183 : decode b_Clerk_sendPiece 183 = .ok (.iconst 1, 1) := by decide +kernel
theorem d_Clerk_sendPiece_184 : decode b_Clerk_sendPiece 184 = .ok (.isub, 1) := by decide +kernel
theorem d_Clerk_sendPiece_185 : decode b_Clerk_sendPiece 185 = .ok (.iconst 3, 1) := by decide +kernel
theorem d_Clerk_sendPiece_186 : decode b_Clerk_sendPiece 186 = .ok (.irem, 1) := by decide +kernel
theorem d_Clerk_sendPiece_187 : decode b_Clerk_sendPiece 187 = .ok (.aload_n 0, 1) := by decide +kernel
theorem d_Clerk_sendPiece_188 : decode b_Clerk_sendPiece 188 = .ok (.getfield 94, 3) := by decide +kernel
theorem d_Clerk_sendPiece_191 : decode b_Clerk_sendPiece 191 = .ok (.aload_n 0, 1) := by decide +kernel
theorem d_Clerk_sendPiece_192 : decode b_Clerk_sendPiece 192 = .ok (.getfield 65, 3) := by decide +kernel
theorem d_Clerk_sendPiece_195 : decode b_Clerk_sendPiece 195 = .ok (.getfield 198, 3) := by decide +kernel
theorem d_Clerk_sendPiece_198 : decode b_Clerk_sendPiece 198 = .ok (.invokevirtual 206, 3) := by decide +kernel
theorem d_Clerk_sendPiece_201 : decode b_Clerk_sendPiece 201 = .ok (.return_, 1) := by decide +kernel
theorem d_Clerk_reckonAlone_0 : decode b_Clerk_reckonAlone 0 = .ok (.aload_n 0, 1) := by decide +kernel
theorem d_Clerk_reckonAlone_1 : decode b_Clerk_reckonAlone 1 = .ok (.aload_n 0, 1) := by decide +kernel
theorem d_Clerk_reckonAlone_2 : decode b_Clerk_reckonAlone 2 = .ok (.getfield 58, 3) := by decide +kernel
theorem d_Clerk_reckonAlone_5 : decode b_Clerk_reckonAlone 5 = .ok (.iload_n 1, 1) := by decide +kernel
theorem d_Clerk_reckonAlone_6 : decode b_Clerk_reckonAlone 6 = .ok (.invokevirtual 153, 3) := by decide +kernel
theorem d_Clerk_reckonAlone_9 : decode b_Clerk_reckonAlone 9 = .ok (.aload_n 0, 1) := by decide +kernel
theorem d_Clerk_reckonAlone_10 : decode b_Clerk_reckonAlone 10 = .ok (.getfield 12, 3) := by decide +kernel
theorem d_Clerk_reckonAlone_13 : decode b_Clerk_reckonAlone 13 = .ok (.getfield 150, 3) := by decide +kernel
theorem d_Clerk_reckonAlone_16 : decode b_Clerk_reckonAlone 16 = .ok (.aload_n 0, 1) := by decide +kernel
theorem d_Clerk_reckonAlone_17 : decode b_Clerk_reckonAlone 17 = .ok (.getfield 88, 3) := by decide +kernel
theorem d_Clerk_reckonAlone_20 : decode b_Clerk_reckonAlone 20 = .ok (.iaload, 1) := by decide +kernel
theorem d_Clerk_reckonAlone_21 : decode b_Clerk_reckonAlone 21 = .ok (.ifCond .eq 46, 3) := by decide +kernel
theorem d_Clerk_reckonAlone_24 : decode b_Clerk_reckonAlone 24 = .ok (.aload_n 0, 1) := by decide +kernel
theorem d_Clerk_reckonAlone_25 : decode b_Clerk_reckonAlone 25 = .ok (.aload_n 0, 1) := by decide +kernel
theorem d_Clerk_reckonAlone_26 : decode b_Clerk_reckonAlone 26 = .ok (.getfield 62, 3) := by decide +kernel
theorem d_Clerk_reckonAlone_29 : decode b_Clerk_reckonAlone 29 = .ok (.iload_n 2, 1) := by decide +kernel
theorem d_Clerk_reckonAlone_30 : decode b_Clerk_reckonAlone 30 = .ok (.invokevirtual 153, 3) := by decide +kernel
theorem d_Clerk_reckonAlone_33 : decode b_Clerk_reckonAlone 33 = .ok (.aload_n 0, 1) := by decide +kernel
theorem d_Clerk_reckonAlone_34 : decode b_Clerk_reckonAlone 34 = .ok (.getfield 58, 3) := by decide +kernel
theorem d_Clerk_reckonAlone_37 : decode b_Clerk_reckonAlone 37 = .ok (.aload_n 0, 1) := by decide +kernel
theorem d_Clerk_reckonAlone_38 : decode b_Clerk_reckonAlone 38 = .ok (.getfield 62, 3) := by decide +kernel
theorem d_Clerk_reckonAlone_41 : decode b_Clerk_reckonAlone 41 = .ok (.aload_n 0, 1) := by decide +kernel
theorem d_Clerk_reckonAlone_42 : decode b_Clerk_reckonAlone 42 = .ok (.getfield 12, 3) := by decide +kernel
theorem d_Clerk_reckonAlone_45 : decode b_Clerk_reckonAlone 45 = .ok (.getfield 150, 3) := by decide +kernel
theorem d_Clerk_reckonAlone_48 : decode b_Clerk_reckonAlone 48 = .ok (.aload_n 0, 1) := by decide +kernel
theorem d_Clerk_reckonAlone_49 : decode b_Clerk_reckonAlone 49 = .ok (.getfield 88, 3) := by decide +kernel
theorem d_Clerk_reckonAlone_52 : decode b_Clerk_reckonAlone 52 = .ok (.iaload, 1) := by decide +kernel
theorem d_Clerk_reckonAlone_53 : decode b_Clerk_reckonAlone 53 = .ok (.iconst 1, 1) := by decide +kernel
theorem d_Clerk_reckonAlone_54 : decode b_Clerk_reckonAlone 54 = .ok (.if_icmp .ne 7, 3) := by decide +kernel
theorem d_Clerk_reckonAlone_57 : decode b_Clerk_reckonAlone 57 = .ok (.lconst 1, 1) := by decide +kernel
theorem d_Clerk_reckonAlone_58 : decode b_Clerk_reckonAlone 58 = .ok (.goto 6, 3) := by decide +kernel
theorem d_Clerk_reckonAlone_61 : decode b_Clerk_reckonAlone 61 = .ok (.ldc2_w 212, 3) := by decide +kernel
theorem d_Clerk_reckonAlone_64 : decode b_Clerk_reckonAlone 64 = .ok (.invokevirtual 214, 3) := by decide +kernel
theorem d_Clerk_reckonAlone_67 : decode b_Clerk_reckonAlone 67 = .ok (.aload_n 0, 1) := by decide +kernel
theorem d_Clerk_reckonAlone_68 : decode b_Clerk_reckonAlone 68 = .ok (.aload_n 0, 1) := by decide +kernel
theorem d_Clerk_reckonAlone_69 : decode b_Clerk_reckonAlone 69 = .ok (.getfield 12, 3) := by decide +kernel
theorem d_Clerk_reckonAlone_72 : decode b_Clerk_reckonAlone 72 = .ok (.getfield 218, 3) := by decide +kernel
theorem d_Clerk_reckonAlone_75 : decode b_Clerk_reckonAlone 75 = .ok (.aload_n 0, 1) := by decide +kernel
theorem d_Clerk_reckonAlone_76 : decode b_Clerk_reckonAlone 76 = .ok (.getfield 88, 3) := by decide +kernel
theorem d_Clerk_reckonAlone_79 : decode b_Clerk_reckonAlone 79 = .ok (.iaload, 1) := by decide +kernel
theorem d_Clerk_reckonAlone_80 : decode b_Clerk_reckonAlone 80 = .ok (.aload_n 0, 1) := by decide +kernel
theorem d_Clerk_reckonAlone_81 : decode b_Clerk_reckonAlone 81 = .ok (.getfield 58, 3) := by decide +kernel
theorem d_Clerk_reckonAlone_84 : decode b_Clerk_reckonAlone 84 = .ok (.invokevirtual 221, 3) := by decide +kernel
theorem d_Clerk_reckonAlone_87 : decode b_Clerk_reckonAlone 87 = .ok (.aload_n 0, 1) := by decide +kernel
theorem d_Clerk_reckonAlone_88 : decode b_Clerk_reckonAlone 88 = .ok (.iconst 5, 1) := by decide +kernel
theorem d_Clerk_reckonAlone_89 : decode b_Clerk_reckonAlone 89 = .ok (.putfield 91, 3) := by decide +kernel
theorem d_Clerk_reckonAlone_92 : decode b_Clerk_reckonAlone 92 = .ok (.return_, 1) := by decide +kernel
theorem d_Clerk_beginComparison_0 : decode b_Clerk_beginComparison 0 = .ok (.aload_n 0, 1) := by decide +kernel
theorem d_Clerk_beginComparison_1 : decode b_Clerk_beginComparison 1 = .ok (.aload_n 0, 1) := by decide +kernel
theorem d_Clerk_beginComparison_2 : decode b_Clerk_beginComparison 2 = .ok (.getfield 58, 3) := by decide +kernel
theorem d_Clerk_beginComparison_5 : decode b_Clerk_beginComparison 5 = .ok (.iload_n 1, 1) := by decide +kernel
theorem d_Clerk_beginComparison_6 : decode b_Clerk_beginComparison 6 = .ok (.invokevirtual 153, 3) := by decide +kernel
theorem d_Clerk_beginComparison_9 : decode b_Clerk_beginComparison 9 = .ok (.aload_n 0, 1) := by decide +kernel
theorem d_Clerk_beginComparison_10 : decode b_Clerk_beginComparison 10 = .ok (.aload_n 0, 1) := by decide +kernel
theorem d_Clerk_beginComparison_11 : decode b_Clerk_beginComparison 11 = .ok (.getfield 62, 3) := by decide +kernel
theorem d_Clerk_beginComparison_14 : decode b_Clerk_beginComparison 14 = .ok (.iload_n 2, 1) := by decide +kernel
theorem d_Clerk_beginComparison_15 : decode b_Clerk_beginComparison 15 = .ok (.invokevirtual 153, 3) := by decide +kernel
theorem d_Clerk_beginComparison_18 : decode b_Clerk_beginComparison 18 = .ok (.aload_n 0, 1) := by decide +kernel
theorem d_Clerk_beginComparison_19 : decode b_Clerk_beginComparison 19 = .ok (.getfield 51, 3) := by decide +kernel
theorem d_Clerk_beginComparison_22 : decode b_Clerk_beginComparison 22 = .ok (.aload_n 0, 1) := by decide +kernel
theorem d_Clerk_beginComparison_23 : decode b_Clerk_beginComparison 23 = .ok (.getfield 58, 3) := by decide +kernel
theorem d_Clerk_beginComparison_26 : decode b_Clerk_beginComparison 26 = .ok (.aload_n 0, 1) := by decide +kernel
theorem d_Clerk_beginComparison_27 : decode b_Clerk_beginComparison 27 = .ok (.getfield 62, 3) := by decide +kernel
theorem d_Clerk_beginComparison_30 : decode b_Clerk_beginComparison 30 = .ok (.invokevirtual 225, 3) := by decide +kernel
theorem d_Clerk_beginComparison_33 : decode b_Clerk_beginComparison 33 = .ok (.aload_n 0, 1) := by decide +kernel
theorem d_Clerk_beginComparison_34 : decode b_Clerk_beginComparison 34 = .ok (.iconst 0, 1) := by decide +kernel
theorem d_Clerk_beginComparison_35 : decode b_Clerk_beginComparison 35 = .ok (.putfield 91, 3) := by decide +kernel
theorem d_Clerk_beginComparison_38 : decode b_Clerk_beginComparison 38 = .ok (.return_, 1) := by decide +kernel
theorem d_Clerk_joinTwo_0 : decode b_Clerk_joinTwo 0 = .ok (.aload_n 0, 1) := by decide +kernel
theorem d_Clerk_joinTwo_1 : decode b_Clerk_joinTwo 1 = .ok (.getfield 58, 3) := by decide +kernel
theorem d_Clerk_joinTwo_4 : decode b_Clerk_joinTwo 4 = .ok (.aload_n 0, 1) := by decide +kernel
theorem d_Clerk_joinTwo_5 : decode b_Clerk_joinTwo 5 = .ok (.getfield 68, 3) := by decide +kernel
theorem d_Clerk_joinTwo_8 : decode b_Clerk_joinTwo 8 = .ok (.invokevirtual 228, 3) := by decide +kernel
theorem d_Clerk_joinTwo_11 : decode b_Clerk_joinTwo 11 = .ok (.aload_n 0, 1) := by decide +kernel
theorem d_Clerk_joinTwo_12 : decode b_Clerk_joinTwo 12 = .ok (.getfield 58, 3) := by decide +kernel
theorem d_Clerk_joinTwo_15 : decode b_Clerk_joinTwo 15 = .ok (.iconst 0, 1) := by decide +kernel
theorem d_Clerk_joinTwo_16 : decode b_Clerk_joinTwo 16 = .ok (.invokevirtual 230, 3) := by decide +kernel
theorem d_Clerk_joinTwo_19 : decode b_Clerk_joinTwo 19 = .ok (.aload_n 0, 1) := by decide +kernel
theorem d_Clerk_joinTwo_20 : decode b_Clerk_joinTwo 20 = .ok (.getfield 62, 3) := by decide +kernel
theorem d_Clerk_joinTwo_23 : decode b_Clerk_joinTwo 23 = .ok (.aload_n 0, 1) := by decide +kernel
theorem d_Clerk_joinTwo_24 : decode b_Clerk_joinTwo 24 = .ok (.getfield 68, 3) := by decide +kernel
theorem d_Clerk_joinTwo_27 : decode b_Clerk_joinTwo 27 = .ok (.invokevirtual 228, 3) := by decide +kernel
theorem d_Clerk_joinTwo_30 : decode b_Clerk_joinTwo 30 = .ok (.aload_n 0, 1) := by decide +kernel
theorem d_Clerk_joinTwo_31 : decode b_Clerk_joinTwo 31 = .ok (.getfield 62, 3) := by decide +kernel
theorem d_Clerk_joinTwo_34 : decode b_Clerk_joinTwo 34 = .ok (.iconst 1, 1) := by decide +kernel
theorem d_Clerk_joinTwo_35 : decode b_Clerk_joinTwo 35 = .ok (.invokevirtual 230, 3) := by decide +kernel
theorem d_Clerk_joinTwo_38 : decode b_Clerk_joinTwo 38 = .ok (.aload_n 0, 1) := by decide +kernel
theorem d_Clerk_joinTwo_39 : decode b_Clerk_joinTwo 39 = .ok (.iconst 1, 1) := by decide +kernel
theorem d_Clerk_joinTwo_40 : decode b_Clerk_joinTwo 40 = .ok (.putfield 91, 3) := by decide +kernel
theorem d_Clerk_joinTwo_43 : decode b_Clerk_joinTwo 43 = .ok (.return_, 1) := by decide +kernel
theorem d_Clerk_joinAll_0 : decode b_Clerk_joinAll 0 = .ok (.aload_n 0, 1) := by decide +kernel
theorem d_Clerk_joinAll_1 : decode b_Clerk_joinAll 1 = .ok (.getfield 58, 3) := by decide +kernel
theorem d_Clerk_joinAll_4 : decode b_Clerk_joinAll 4 = .ok (.aload_n 0, 1) := by decide +kernel
theorem d_Clerk_joinAll_5 : decode b_Clerk_joinAll 5 = .ok (.getfield 62, 3) := by decide +kernel
theorem d_Clerk_joinAll_8 : decode b_Clerk_joinAll 8 = .ok (.lconst 1, 1) := by decide +kernel
theorem d_Clerk_joinAll_9 : decode b_Clerk_joinAll 9 = .ok (.invokevirtual 214, 3) := by decide +kernel
theorem d_Clerk_joinAll_12 : decode b_Clerk_joinAll 12 = .ok (.aload_n 0, 1) := by decide +kernel
theorem d_Clerk_joinAll_13 : decode b_Clerk_joinAll 13 = .ok (.getfield 58, 3) := by decide +kernel
theorem d_Clerk_joinAll_16 : decode b_Clerk_joinAll 16 = .ok (.aload_n 0, 1) := by decide +kernel
theorem d_Clerk_joinAll_17 : decode b_Clerk_joinAll 17 = .ok (.getfield 65, 3) := by decide +kernel
theorem d_Clerk_joinAll_20 : decode b_Clerk_joinAll 20 = .ok (.ldc2_w 233, 3) := by decide +kernel
theorem d_Clerk_joinAll_23 : decode b_Clerk_joinAll 23 = .ok (.invokevirtual 214, 3) := by decide +kernel
theorem d_Clerk_joinAll_26 : decode b_Clerk_joinAll 26 = .ok (.aload_n 0, 1) := by decide +kernel
theorem d_Clerk_joinAll_27 : decode b_Clerk_joinAll 27 = .ok (.getfield 62, 3) := by decide +kernel
theorem d_Clerk_joinAll_30 : decode b_Clerk_joinAll 30 = .ok (.aload_n 0, 1) := by decide +kernel
theorem d_Clerk_joinAll_31 : decode b_Clerk_joinAll 31 = .ok (.getfield 68, 3) := by decide +kernel
theorem d_Clerk_joinAll_34 : decode b_Clerk_joinAll 34 = .ok (.invokevirtual 228, 3) := by decide +kernel
theorem d_Clerk_joinAll_37 : decode b_Clerk_joinAll 37 = .ok (.aload_n 0, 1) := by decide +kernel
theorem d_Clerk_joinAll_38 : decode b_Clerk_joinAll 38 = .ok (.getfield 62, 3) := by decide +kernel
theorem d_Clerk_joinAll_41 : decode b_Clerk_joinAll 41 = .ok (.iconst 2, 1) := by decide +kernel
theorem d_Clerk_joinAll_42 : decode b_Clerk_joinAll 42 = .ok (.invokevirtual 230, 3) := by decide +kernel
theorem d_Clerk_joinAll_45 : decode b_Clerk_joinAll 45 = .ok (.aload_n 0, 1) := by decide +kernel
theorem d_Clerk_joinAll_46 : decode b_Clerk_joinAll 46 = .ok (.iconst 2, 1) := by decide +kernel
theorem d_Clerk_joinAll_47 : decode b_Clerk_joinAll 47 = .ok (.putfield 91, 3) := by decide +kernel
theorem d_Clerk_joinAll_50 : decode b_Clerk_joinAll 50 = .ok (.return_, 1) := by decide +kernel
theorem d_Clerk_takeBit_0 : decode b_Clerk_takeBit 0 = .ok (.aload_n 0, 1) := by decide +kernel
theorem d_Clerk_takeBit_1 : decode b_Clerk_takeBit 1 = .ok (.getfield 68, 3) := by decide +kernel
theorem d_Clerk_takeBit_4 : decode b_Clerk_takeBit 4 = .ok (.aload_n 0, 1) := by decide +kernel
theorem d_Clerk_takeBit_5 : decode b_Clerk_takeBit 5 = .ok (.getfield 58, 3) := by decide +kernel
theorem d_Clerk_takeBit_8 : decode b_Clerk_takeBit 8 = .ok (.invokevirtual 228, 3) := by decide +kernel
theorem d_Clerk_takeBit_11 : decode b_Clerk_takeBit 11 = .ok (.aload_n 0, 1) := by decide +kernel
theorem d_Clerk_takeBit_12 : decode b_Clerk_takeBit 12 = .ok (.getfield 68, 3) := by decide +kernel
theorem d_Clerk_takeBit_15 : decode b_Clerk_takeBit 15 = .ok (.aload_n 0, 1) := by decide +kernel
theorem d_Clerk_takeBit_16 : decode b_Clerk_takeBit 16 = .ok (.getfield 62, 3) := by decide +kernel
theorem d_Clerk_takeBit_19 : decode b_Clerk_takeBit 19 = .ok (.lconst 1, 1) := by decide +kernel
theorem d_Clerk_takeBit_20 : decode b_Clerk_takeBit 20 = .ok (.invokevirtual 214, 3) := by decide +kernel
theorem d_Clerk_takeBit_23 : decode b_Clerk_takeBit 23 = .ok (.aload_n 0, 1) := by decide +kernel
theorem d_Clerk_takeBit_24 : decode b_Clerk_takeBit 24 = .ok (.getfield 68, 3) := by decide +kernel
theorem d_Clerk_takeBit_27 : decode b_Clerk_takeBit 27 = .ok (.aload_n 0, 1) := by decide +kernel
theorem d_Clerk_takeBit_28 : decode b_Clerk_takeBit 28 = .ok (.getfield 65, 3) := by decide +kernel
theorem d_Clerk_takeBit_31 : decode b_Clerk_takeBit 31 = .ok (.ldc2_w 233, 3) := by decide +kernel
theorem d_Clerk_takeBit_34 : decode b_Clerk_takeBit 34 = .ok (.invokevirtual 214, 3) := by decide +kernel
theorem d_Clerk_takeBit_37 : decode b_Clerk_takeBit 37 = .ok (.aload_n 0, 1) := by decide +kernel
theorem d_Clerk_takeBit_38 : decode b_Clerk_takeBit 38 = .ok (.getfield 12, 3) := by decide +kernel
theorem d_Clerk_takeBit_41 : decode b_Clerk_takeBit 41 = .ok (.getfield 150, 3) := by decide +kernel
theorem d_Clerk_takeBit_44 : decode b_Clerk_takeBit 44 = .ok (.aload_n 0, 1) := by decide +kernel
theorem d_Clerk_takeBit_45 : decode b_Clerk_takeBit 45 = .ok (.getfield 88, 3) := by decide +kernel
theorem d_Clerk_takeBit_48 : decode b_Clerk_takeBit 48 = .ok (.iaload, 1) := by decide +kernel
theorem d_Clerk_takeBit_49 : decode b_Clerk_takeBit 49 = .ok (.istore_n 1, 1) := by decide +kernel
theorem d_Clerk_takeBit_50 : decode b_Clerk_takeBit 50 = .ok (.iload_n 1, 1) := by decide +kernel
theorem d_Clerk_takeBit_51 : decode b_Clerk_takeBit 51 = .ok (.iconst 4, 1) := by decide +kernel
theorem d_Clerk_takeBit_52 : decode b_Clerk_takeBit 52 = .ok (.if_icmp .ne 29, 3) := by decide +kernel
theorem d_Clerk_takeBit_55 : decode b_Clerk_takeBit 55 = .ok (.aload_n 0, 1) := by decide +kernel
theorem d_Clerk_takeBit_56 : decode b_Clerk_takeBit 56 = .ok (.aload_n 0, 1) := by decide +kernel
theorem d_Clerk_takeBit_57 : decode b_Clerk_takeBit 57 = .ok (.getfield 12, 3) := by decide +kernel
theorem d_Clerk_takeBit_60 : decode b_Clerk_takeBit 60 = .ok (.getfield 218, 3) := by decide +kernel
theorem d_Clerk_takeBit_63 : decode b_Clerk_takeBit 63 = .ok (.aload_n 0, 1) := by decide +kernel
theorem d_Clerk_takeBit_64 : decode b_Clerk_takeBit 64 = .ok (.getfield 88, 3) := by decide +kernel
theorem d_Clerk_takeBit_67 : decode b_Clerk_takeBit 67 = .ok (.iaload, 1) := by decide +kernel
theorem d_Clerk_takeBit_68 : decode b_Clerk_takeBit 68 = .ok (.aload_n 0, 1) := by decide +kernel
theorem d_Clerk_takeBit_69 : decode b_Clerk_takeBit 69 = .ok (.getfield 68, 3) := by decide +kernel
theorem d_Clerk_takeBit_72 : decode b_Clerk_takeBit 72 = .ok (.invokevirtual 221, 3) := by decide +kernel
theorem d_Clerk_takeBit_75 : decode b_Clerk_takeBit 75 = .ok (.aload_n 0, 1) := by decide +kernel
theorem d_Clerk_takeBit_76 : decode b_Clerk_takeBit 76 = .ok (.iconst 5, 1) := by decide +kernel
theorem d_Clerk_takeBit_77 : decode b_Clerk_takeBit 77 = .ok (.putfield 91, 3) := by decide +kernel
theorem d_Clerk_takeBit_80 : decode b_Clerk_takeBit 80 = .ok (.return_, 1) := by decide +kernel
theorem d_Clerk_takeBit_81 : decode b_Clerk_takeBit 81 = .ok (.aload_n 0, 1) := by decide +kernel
theorem d_Clerk_takeBit_82 : decode b_Clerk_takeBit 82 = .ok (.aload_n 0, 1) := by decide +kernel
theorem d_Clerk_takeBit_83 : decode b_Clerk_takeBit 83 = .ok (.getfield 62, 3) := by decide +kernel
theorem d_Clerk_takeBit_86 : decode b_Clerk_takeBit 86 = .ok (.aload_n 0, 1) := by decide +kernel
theorem d_Clerk_takeBit_87 : decode b_Clerk_takeBit 87 = .ok (.getfield 12, 3) := by decide +kernel
theorem d_Clerk_takeBit_90 : decode b_Clerk_takeBit 90 = .ok (.getfield 147, 3) := by decide +kernel
theorem d_Clerk_takeBit_93 : decode b_Clerk_takeBit 93 = .ok (.aload_n 0, 1) := by decide +kernel
theorem d_Clerk_takeBit_94 : decode b_Clerk_takeBit 94 = .ok (.getfield 88, 3) := by decide +kernel
theorem d_Clerk_takeBit_97 : decode b_Clerk_takeBit 97 = .ok (.iaload, 1) := by decide +kernel
theorem d_Clerk_takeBit_98 : decode b_Clerk_takeBit 98 = .ok (.invokevirtual 153, 3) := by decide +kernel
theorem d_Clerk_takeBit_101 : decode b_Clerk_takeBit 101 = .ok (.aload_n 0, 1) := by decide +kernel
theorem d_Clerk_takeBit_102 : decode b_Clerk_takeBit 102 = .ok (.aload_n 0, 1) := by decide +kernel
theorem d_Clerk_takeBit_103 : decode b_Clerk_takeBit 103 = .ok (.getfield 58, 3) := by decide +kernel
theorem d_Clerk_takeBit_106 : decode b_Clerk_takeBit 106 = .ok (.iload_n 1, 1) := by decide +kernel
theorem d_Clerk_takeBit_107 : decode b_Clerk_takeBit 107 = .ok (.bipush 6, 2) := by decide +kernel
theorem d_Clerk_takeBit_109 : decode b_Clerk_takeBit 109 = .ok (.if_icmp .ne 18, 3) := by decide +kernel
theorem d_Clerk_takeBit_112 : decode b_Clerk_takeBit 112 = .ok (.aload_n 0, 1) := by decide +kernel
theorem d_Clerk_takeBit_113 : decode b_Clerk_takeBit 113 = .ok (.getfield 12, 3) := by decide +kernel
theorem d_Clerk_takeBit_116 : decode b_Clerk_takeBit 116 = .ok (.getfield 144, 3) := by decide +kernel
theorem d_Clerk_takeBit_119 : decode b_Clerk_takeBit 119 = .ok (.aload_n 0, 1) := by decide +kernel
theorem d_Clerk_takeBit_120 : decode b_Clerk_takeBit 120 = .ok (.getfield 88, 3) := by decide +kernel
theorem d_Clerk_takeBit_123 : decode b_Clerk_takeBit 123 = .ok (.iaload, 1) := by decide +kernel
theorem d_Clerk_takeBit_124 : decode b_Clerk_takeBit 124 = .ok (.goto 15, 3) := by decide +kernel
theorem d_Clerk_takeBit_127 : decode b_Clerk_takeBit 127 = .ok (.aload_n 0, 1) := by decide +kernel
theorem d_Clerk_takeBit_128 : decode b_Clerk_takeBit 128 = .ok (.getfield 12, 3) := by decide +kernel
theorem d_Clerk_takeBit_131 : decode b_Clerk_takeBit 131 = .ok (.getfield 235, 3) := by decide +kernel
theorem d_Clerk_takeBit_134 : decode b_Clerk_takeBit 134 = .ok (.aload_n 0, 1) := by decide +kernel
theorem d_Clerk_takeBit_135 : decode b_Clerk_takeBit 135 = .ok (.getfield 88, 3) := by decide +kernel
theorem d_Clerk_takeBit_138 : decode b_Clerk_takeBit 138 = .ok (.iaload, 1) := by decide +kernel
theorem d_Clerk_takeBit_139 : decode b_Clerk_takeBit 139 = .ok (.invokevirtual 153, 3) := by decide +kernel
theorem d_Clerk_takeBit_142 : decode b_Clerk_takeBit 142 = .ok (.aload_n 0, 1) := by decide +kernel
theorem d_Clerk_takeBit_143 : decode b_Clerk_takeBit 143 = .ok (.getfield 62, 3) := by decide +kernel
theorem d_Clerk_takeBit_146 : decode b_Clerk_takeBit 146 = .ok (.aload_n 0, 1) := by decide +kernel
theorem d_Clerk_takeBit_147 : decode b_Clerk_takeBit 147 = .ok (.getfield 58, 3) := by decide +kernel
theorem d_Clerk_takeBit_150 : decode b_Clerk_takeBit 150 = .ok (.ldc2_w 212, 3) := by decide +kernel
theorem d_Clerk_takeBit_153 : decode b_Clerk_takeBit 153 = .ok (.invokevirtual 214, 3) := by decide +kernel
theorem d_Clerk_takeBit_156 : decode b_Clerk_takeBit 156 = .ok (.aload_n 0, 1) := by decide +kernel
theorem d_Clerk_takeBit_157 : decode b_Clerk_takeBit 157 = .ok (.getfield 58, 3) := by decide +kernel
theorem d_Clerk_takeBit_160 : decode b_Clerk_takeBit 160 = .ok (.aload_n 0, 1) := by decide +kernel
theorem d_Clerk_takeBit_161 : decode b_Clerk_takeBit 161 = .ok (.getfield 68, 3) := by decide +kernel
theorem d_Clerk_takeBit_164 : decode b_Clerk_takeBit 164 = .ok (.invokevirtual 228, 3) := by decide +kernel
theorem d_Clerk_takeBit_167 : decode b_Clerk_takeBit 167 = .ok (.aload_n 0, 1) := by decide +kernel
theorem d_Clerk_takeBit_168 : decode b_Clerk_takeBit 168 = .ok (.iconst 3, 1) := by decide +kernel
theorem d_Clerk_takeBit_169 : decode b_Clerk_takeBit 169 = .ok (.putfield 91, 3) := by decide +kernel
theorem d_Clerk_takeBit_172 : decode b_Clerk_takeBit 172 = .ok (.return_, 1) := by decide +kernel
theorem d_Clerk_takeLastProduct_0 : decode b_Clerk_takeLastProduct 0 = .ok (.aload_n 0, 1) := by decide +kernel
theorem d_Clerk_takeLastProduct_1 : decode b_Clerk_takeLastProduct 1 = .ok (.getfield 12, 3) := by decide +kernel
theorem d_Clerk_takeLastProduct_4 : decode b_Clerk_takeLastProduct 4 = .ok (.getfield 150, 3) := by decide +kernel
theorem d_Clerk_takeLastProduct_7 : decode b_Clerk_takeLastProduct 7 = .ok (.aload_n 0, 1) := by decide +kernel
theorem d_Clerk_takeLastProduct_8 : decode b_Clerk_takeLastProduct 8 = .ok (.getfield 88, 3) := by decide +kernel
theorem d_Clerk_takeLastProduct_11 : decode b_Clerk_takeLastProduct 11 = .ok (.iaload, 1) := by decide +kernel
theorem d_Clerk_takeLastProduct_12 : decode b_Clerk_takeLastProduct 12 = .ok (.istore_n 1, 1) := by decide +kernel
theorem d_Clerk_takeLastProduct_13 : decode b_Clerk_takeLastProduct 13 = .ok (.iload_n 1, 1) := by decide +kernel
theorem d_Clerk_takeLastProduct_14 : decode b_Clerk_takeLastProduct 14 = .ok (.iconst 5, 1) := by decide +kernel
theorem d_Clerk_takeLastProduct_15 : decode b_Clerk_takeLastProduct 15 = .ok (.if_icmp .ne 38, 3) := by decide +kernel
theorem d_Clerk_takeLastProduct_18 : decode b_Clerk_takeLastProduct 18 = .ok (.aload_n 0, 1) := by decide +kernel
theorem d_Clerk_takeLastProduct_19 : decode b_Clerk_takeLastProduct 19 = .ok (.aload_n 0, 1) := by decide +kernel
theorem d_Clerk_takeLastProduct_20 : decode b_Clerk_takeLastProduct 20 = .ok (.getfield 58, 3) := by decide +kernel
theorem d_Clerk_takeLastProduct_23 : decode b_Clerk_takeLastProduct 23 = .ok (.aload_n 0, 1) := by decide +kernel
theorem d_Clerk_takeLastProduct_24 : decode b_Clerk_takeLastProduct 24 = .ok (.getfield 12, 3) := by decide +kernel
theorem d_Clerk_takeLastProduct_27 : decode b_Clerk_takeLastProduct 27 = .ok (.getfield 235, 3) := by decide +kernel
theorem d_Clerk_takeLastProduct_30 : decode b_Clerk_takeLastProduct 30 = .ok (.aload_n 0, 1) := by decide +kernel
theorem d_Clerk_takeLastProduct_31 : decode b_Clerk_takeLastProduct 31 = .ok (.getfield 88, 3) := by decide +kernel
theorem d_Clerk_takeLastProduct_34 : decode b_Clerk_takeLastProduct 34 = .ok (.iaload, 1) := by decide +kernel
theorem d_Clerk_takeLastProduct_35 : decode b_Clerk_takeLastProduct 35 = .ok (.invokevirtual 153, 3) := by decide +kernel
theorem d_Clerk_takeLastProduct_38 : decode b_Clerk_takeLastProduct 38 = .ok (.aload_n 0, 1) := by decide +kernel
theorem d_Clerk_takeLastProduct_39 : decode b_Clerk_takeLastProduct 39 = .ok (.getfield 65, 3) := by decide +kernel
theorem d_Clerk_takeLastProduct_42 : decode b_Clerk_takeLastProduct 42 = .ok (.aload_n 0, 1) := by decide +kernel
theorem d_Clerk_takeLastProduct_43 : decode b_Clerk_takeLastProduct 43 = .ok (.getfield 58, 3) := by decide +kernel
theorem d_Clerk_takeLastProduct_46 : decode b_Clerk_takeLastProduct 46 = .ok (.lconst 1, 1) := by decide +kernel
theorem d_Clerk_takeLastProduct_47 : decode b_Clerk_takeLastProduct 47 = .ok (.invokevirtual 214, 3) := by decide +kernel
theorem d_Clerk_takeLastProduct_50 : decode b_Clerk_takeLastProduct 50 = .ok (.goto 95, 3) := by decide +kernel
theorem d_Clerk_takeLastProduct_53 : decode b_Clerk_takeLastProduct 53 = .ok (.iload_n 1, 1) := by decide +kernel
theorem d_Clerk_takeLastProduct_54 : decode b_Clerk_takeLastProduct 54 = .ok (.bipush 6, 2) := by decide +kernel
theorem d_Clerk_takeLastProduct_56 : decode b_Clerk_takeLastProduct 56 = .ok (.if_icmp .ne 89, 3) := by decide +kernel
theorem d_Clerk_takeLastProduct_59 : decode b_Clerk_takeLastProduct 59 = .ok (.aload_n 0, 1) := by decide +kernel
theorem d_Clerk_takeLastProduct_60 : decode b_Clerk_takeLastProduct 60 = .ok (.aload_n 0, 1) := by decide +kernel
theorem d_Clerk_takeLastProduct_61 : decode b_Clerk_takeLastProduct 61 = .ok (.getfield 62, 3) := by decide +kernel
theorem d_Clerk_takeLastProduct_64 : decode b_Clerk_takeLastProduct 64 = .ok (.aload_n 0, 1) := by decide +kernel
theorem d_Clerk_takeLastProduct_65 : decode b_Clerk_takeLastProduct 65 = .ok (.getfield 12, 3) := by decide +kernel
theorem d_Clerk_takeLastProduct_68 : decode b_Clerk_takeLastProduct 68 = .ok (.getfield 147, 3) := by decide +kernel
theorem d_Clerk_takeLastProduct_71 : decode b_Clerk_takeLastProduct 71 = .ok (.aload_n 0, 1) := by decide +kernel
theorem d_Clerk_takeLastProduct_72 : decode b_Clerk_takeLastProduct 72 = .ok (.getfield 88, 3) := by decide +kernel
theorem d_Clerk_takeLastProduct_75 : decode b_Clerk_takeLastProduct 75 = .ok (.iaload, 1) := by decide +kernel
theorem d_Clerk_takeLastProduct_76 : decode b_Clerk_takeLastProduct 76 = .ok (.invokevirtual 153, 3) := by decide +kernel
theorem d_Clerk_takeLastProduct_79 : decode b_Clerk_takeLastProduct 79 = .ok (.aload_n 0, 1) := by decide +kernel
theorem d_Clerk_takeLastProduct_80 : decode b_Clerk_takeLastProduct 80 = .ok (.getfield 62, 3) := by decide +kernel
theorem d_Clerk_takeLastProduct_83 : decode b_Clerk_takeLastProduct 83 = .ok (.aload_n 0, 1) := by decide +kernel
theorem d_Clerk_takeLastProduct_84 : decode b_Clerk_takeLastProduct 84 = .ok (.getfield 65, 3) := by decide +kernel
theorem d_Clerk_takeLastProduct_87 : decode b_Clerk_takeLastProduct 87 = .ok (.ldc2_w 212, 3) := by decide +kernel
theorem d_Clerk_takeLastProduct_90 : decode b_Clerk_takeLastProduct 90 = .ok (.invokevirtual 214, 3) := by decide +kernel
theorem d_Clerk_takeLastProduct_93 : decode b_Clerk_takeLastProduct 93 = .ok (.aload_n 0, 1) := by decide +kernel
theorem d_Clerk_takeLastProduct_94 : decode b_Clerk_takeLastProduct 94 = .ok (.aload_n 0, 1) := by decide +kernel
theorem d_Clerk_takeLastProduct_95 : decode b_Clerk_takeLastProduct 95 = .ok (.getfield 12, 3) := by decide +kernel
theorem d_Clerk_takeLastProduct_98 : decode b_Clerk_takeLastProduct 98 = .ok (.getfield 147, 3) := by decide +kernel
theorem d_Clerk_takeLastProduct_101 : decode b_Clerk_takeLastProduct 101 = .ok (.aload_n 0, 1) := by decide +kernel
theorem d_Clerk_takeLastProduct_102 : decode b_Clerk_takeLastProduct 102 = .ok (.getfield 88, 3) := by decide +kernel
theorem d_Clerk_takeLastProduct_105 : decode b_Clerk_takeLastProduct 105 = .ok (.iaload, 1) := by decide +kernel
theorem d_Clerk_takeLastProduct_106 : decode b_Clerk_takeLastProduct 106 = .ok (.aload_n 0, 1) := by decide +kernel
theorem d_Clerk_takeLastProduct_107 : decode b_Clerk_takeLastProduct 107 = .ok (.getfield 62, 3) := by decide +kernel
theorem d_Clerk_takeLastProduct_110 : decode b_Clerk_takeLastProduct 110 = .ok (.invokevirtual 221, 3) := by decide +kernel
theorem d_Clerk_takeLastProduct_113 : decode b_Clerk_takeLastProduct 113 = .ok (.aload_n 0, 1) := by decide +kernel
theorem d_Clerk_takeLastProduct_114 : decode b_Clerk_takeLastProduct 114 = .ok (.aload_n 0, 1) := by decide +kernel
theorem d_Clerk_takeLastProduct_115 : decode b_Clerk_takeLastProduct 115 = .ok (.getfield 58, 3) := by decide +kernel
theorem d_Clerk_takeLastProduct_118 : decode b_Clerk_takeLastProduct 118 = .ok (.aload_n 0, 1) := by decide +kernel
theorem d_Clerk_takeLastProduct_119 : decode b_Clerk_takeLastProduct 119 = .ok (.getfield 12, 3) := by decide +kernel
theorem d_Clerk_takeLastProduct_122 : decode b_Clerk_takeLastProduct 122 = .ok (.getfield 144, 3) := by decide +kernel
theorem d_Clerk_takeLastProduct_125 : decode b_Clerk_takeLastProduct 125 = .ok (.aload_n 0, 1) := by decide +kernel
theorem d_Clerk_takeLastProduct_126 : decode b_Clerk_takeLastProduct 126 = .ok (.getfield 88, 3) := by decide +kernel
theorem d_Clerk_takeLastProduct_129 : decode b_Clerk_takeLastProduct 129 = .ok (.iaload, 1) := by decide +kernel
theorem d_Clerk_takeLastProduct_130 : decode b_Clerk_takeLastProduct 130 = .ok (.invokevirtual 153, 3) := by decide +kernel
theorem d_Clerk_takeLastProduct_133 : decode b_Clerk_takeLastProduct 133 = .ok (.aload_n 0, 1) := by decide +kernel
theorem d_Clerk_takeLastProduct_134 : decode b_Clerk_takeLastProduct 134 = .ok (.getfield 65, 3) := by decide +kernel
theorem d_Clerk_takeLastProduct_137 : decode b_Clerk_takeLastProduct 137 = .ok (.aload_n 0, 1) := by decide +kernel
theorem d_Clerk_takeLastProduct_138 : decode b_Clerk_takeLastProduct 138 = .ok (.getfield 58, 3) := by decide +kernel
theorem d_Clerk_takeLastProduct_141 : decode b_Clerk_takeLastProduct 141 = .ok (.lconst 1, 1) := by decide +kernel
theorem d_Clerk_takeLastProduct_142 : decode b_Clerk_takeLastProduct 142 = .ok (.invokevirtual 214, 3) := by decide +kernel
theorem d_Clerk_takeLastProduct_145 : decode b_Clerk_takeLastProduct 145 = .ok (.aload_n 0, 1) := by decide +kernel
theorem d_Clerk_takeLastProduct_146 : decode b_Clerk_takeLastProduct 146 = .ok (.aload_n 0, 1) := by decide +kernel
theorem d_Clerk_takeLastProduct_147 : decode b_Clerk_takeLastProduct 147 = .ok (.getfield 12, 3) := by decide +kernel
theorem d_Clerk_takeLastProduct_150 : decode b_Clerk_takeLastProduct 150 = .ok (.getfield 218, 3) := by decide +kernel
theorem d_Clerk_takeLastProduct_153 : decode b_Clerk_takeLastProduct 153 = .ok (.aload_n 0, 1) := by decide +kernel
theorem d_Clerk_takeLastProduct_154 : decode b_Clerk_takeLastProduct 154 = .ok (.getfield 88, 3) := by decide +kernel
theorem d_Clerk_takeLastProduct_157 : decode b_Clerk_takeLastProduct 157 = .ok (.iaload, 1) := by decide +kernel
theorem d_Clerk_takeLastProduct_158 : decode b_Clerk_takeLastProduct 158 = .ok (.aload_n 0, 1) := by decide +kernel
theorem d_Clerk_takeLastProduct_159 : decode b_Clerk_takeLastProduct 159 = .ok (.getfield 65, 3) := by decide +kernel
theorem d_Clerk_takeLastProduct_162 : decode b_Clerk_takeLastProduct 162 = .ok (.invokevirtual 221, 3) := by decide +kernel
theorem d_Clerk_takeLastProduct_165 : decode b_Clerk_takeLastProduct 165 = .ok (.aload_n 0, 1) := by decide +kernel
theorem d_Clerk_takeLastProduct_166 : decode b_Clerk_takeLastProduct 166 = .ok (.iconst 5, 1) := by decide +kernel
theorem d_Clerk_takeLastProduct_167 : decode b_Clerk_takeLastProduct 167 = .ok (.putfield 91, 3) := by decide +kernel
theorem d_Clerk_takeLastProduct_170 : decode b_Clerk_takeLastProduct 170 = .ok (.return_, 1) := by decide +kernel
theorem d_Clerk_takeOpened_0 : decode b_Clerk_takeOpened 0 = .ok (.aload_n 0, 1) := by decide +kernel
theorem d_Clerk_takeOpened_1 : decode b_Clerk_takeOpened 1 = .ok (.getfield 101, 3) := by decide +kernel
theorem d_Clerk_takeOpened_4 : decode b_Clerk_takeOpened 4 = .ok (.aload_n 0, 1) := by decide +kernel
theorem d_Clerk_takeOpened_5 : decode b_Clerk_takeOpened 5 = .ok (.getfield 39, 3) := by decide +kernel
theorem d_Clerk_takeOpened_8 : decode b_Clerk_takeOpened 8 = .ok (.arraylength, 1) := by decide +kernel
theorem d_Clerk_takeOpened_9 : decode b_Clerk_takeOpened 9 = .ok (.if_icmp .ge 46, 3) := by decide +kernel
theorem d_Clerk_takeOpened_12 : decode b_Clerk_takeOpened 12 = .ok (.aload_n 0, 1) := by decide +kernel
theorem d_Clerk_takeOpened_13 : decode b_Clerk_takeOpened 13 = .ok (.getfield 39, 3) := by decide +kernel
theorem d_Clerk_takeOpened_16 : decode b_Clerk_takeOpened 16 = .ok (.aload_n 0, 1) := by decide +kernel
theorem d_Clerk_takeOpened_17 : decode b_Clerk_takeOpened 17 = .ok (.getfield 101, 3) := by decide +kernel
theorem d_Clerk_takeOpened_20 : decode b_Clerk_takeOpened 20 = .ok (.aload_n 0, 1) := by decide +kernel
theorem d_Clerk_takeOpened_21 : decode b_Clerk_takeOpened 21 = .ok (.getfield 58, 3) := by decide +kernel
theorem d_Clerk_takeOpened_24 : decode b_Clerk_takeOpened 24 = .ok (.getfield 198, 3) := by decide +kernel
theorem d_Clerk_takeOpened_27 : decode b_Clerk_takeOpened 27 = .ok (.aload_n 0, 1) := by decide +kernel
theorem d_Clerk_takeOpened_28 : decode b_Clerk_takeOpened 28 = .ok (.getfield 58, 3) := by decide +kernel
theorem d_Clerk_takeOpened_31 : decode b_Clerk_takeOpened 31 = .ok (.getfield 131, 3) := by decide +kernel
theorem d_Clerk_takeOpened_34 : decode b_Clerk_takeOpened 34 = .ok (.ladd, 1) := by decide +kernel
theorem d_Clerk_takeOpened_35 : decode b_Clerk_takeOpened 35 = .ok (.aload_n 0, 1) := by decide +kernel
theorem d_Clerk_takeOpened_36 : decode b_Clerk_takeOpened 36 = .ok (.getfield 65, 3) := by decide +kernel
theorem d_Clerk_takeOpened_39 : decode b_Clerk_takeOpened 39 = .ok (.getfield 131, 3) := by decide +kernel
theorem d_Clerk_takeOpened_42 : decode b_Clerk_takeOpened 42 = .ok (.ladd, 1) := by decide +kernel
theorem d_Clerk_takeOpened_43 : decode b_Clerk_takeOpened 43 = .ok (.l2i, 1) := by decide +kernel
theorem d_Clerk_takeOpened_44 : decode b_Clerk_takeOpened 44 = .ok (.iastore, 1) := by decide +kernel
theorem d_Clerk_takeOpened_45 : decode b_Clerk_takeOpened 45 = .ok (.aload_n 0, 1) := by decide +kernel
theorem d_Clerk_takeOpened_46 : decode b_Clerk_takeOpened 46 = .ok (.dup, 1) := by decide +kernel
theorem d_Clerk_takeOpened_47 : decode b_Clerk_takeOpened 47 = .ok (.getfield 101, 3) := by decide +kernel
theorem d_Clerk_takeOpened_50 : decode b_Clerk_takeOpened 50 = .ok (.iconst 1, 1) := by decide +kernel
theorem d_Clerk_takeOpened_51 : decode b_Clerk_takeOpened 51 = .ok (.iadd, 1) := by decide +kernel
theorem d_Clerk_takeOpened_52 : decode b_Clerk_takeOpened 52 = .ok (.putfield 101, 3) := by decide +kernel
theorem d_Clerk_takeOpened_55 : decode b_Clerk_takeOpened 55 = .ok (.aload_n 0, 1) := by decide +kernel
theorem d_Clerk_takeOpened_56 : decode b_Clerk_takeOpened 56 = .ok (.iconst 5, 1) := by decide +kernel
theorem d_Clerk_takeOpened_57 : decode b_Clerk_takeOpened 57 = .ok (.putfield 91, 3) := by decide +kernel
theorem d_Clerk_takeOpened_60 : decode b_Clerk_takeOpened 60 = .ok (.return_, 1) := by decide +kernel
theorem d_Clerk_load_0 : decode b_Clerk_load 0 = .ok (.iload_n 2, 1) := by decide +kernel
theorem d_Clerk_load_1 : decode b_Clerk_load 1 = .ok (.bipush 34, 2) := by decide +kernel
theorem d_Clerk_load_3 : decode b_Clerk_load 3 = .ok (.if_icmp .lt 15, 3) := by decide +kernel
theorem d_Clerk_load_6 : decode b_Clerk_load 6 = .ok (.aload_n 1, 1) := by decide +kernel
theorem d_Clerk_load_7 : decode b_Clerk_load 7 = .ok (.iload_n 2, 1) := by decide +kernel
theorem d_Clerk_load_8 : decode b_Clerk_load 8 = .ok (.bipush 34, 2) := by decide +kernel
theorem d_Clerk_load_10 : decode b_Clerk_load 10 = .ok (.isub, 1) := by decide +kernel
theorem d_Clerk_load_11 : decode b_Clerk_load 11 = .ok (.i2l, 1) := by decide +kernel
theorem d_Clerk_load_12 : decode b_Clerk_load 12 = .ok (.invokevirtual 238, 3) := by decide +kernel
theorem d_Clerk_load_15 : decode b_Clerk_load 15 = .ok (.goto 21, 3) := by decide +kernel
theorem d_Clerk_load_18 : decode b_Clerk_load 18 = .ok (.aload_n 1, 1) := by decide +kernel
theorem d_Clerk_load_19 : decode b_Clerk_load 19 = .ok (.aload_n 0, 1) := by decide +kernel
theorem d_Clerk_load_20 : decode b_Clerk_load 20 = .ok (.getfield 32, 3) := by decide +kernel
theorem d_Clerk_load_23 : decode b_Clerk_load 23 = .ok (.iload_n 2, 1) := by decide +kernel
theorem d_Clerk_load_24 : decode b_Clerk_load 24 = .ok (.iaload, 1) := by decide +kernel
theorem d_Clerk_load_25 : decode b_Clerk_load 25 = .ok (.i2l, 1) := by decide +kernel
theorem d_Clerk_load_26 : decode b_Clerk_load 26 = .ok (.aload_n 0, 1) := by decide +kernel
theorem d_Clerk_load_27 : decode b_Clerk_load 27 = .ok (.getfield 36, 3) := by decide +kernel
theorem d_Clerk_load_30 : decode b_Clerk_load 30 = .ok (.iload_n 2, 1) := by decide +kernel
theorem d_Clerk_load_31 : decode b_Clerk_load 31 = .ok (.iaload, 1) := by decide +kernel
theorem d_Clerk_load_32 : decode b_Clerk_load 32 = .ok (.i2l, 1) := by decide +kernel
theorem d_Clerk_load_33 : decode b_Clerk_load 33 = .ok (.invokevirtual 241, 3) := by decide +kernel
theorem d_Clerk_load_36 : decode b_Clerk_load 36 = .ok (.return_, 1) := by decide +kernel
theorem d_Clerk_store_0 : decode b_Clerk_store 0 = .ok (.aload_n 0, 1) := by decide +kernel
theorem d_Clerk_store_1 : decode b_Clerk_store 1 = .ok (.getfield 32, 3) := by decide +kernel
theorem d_Clerk_store_4 : decode b_Clerk_store 4 = .ok (.iload_n 1, 1) := by decide +kernel
theorem d_Clerk_store_5 : decode b_Clerk_store 5 = .ok (.aload_n 2, 1) := by decide +kernel
theorem d_Clerk_store_6 : decode b_Clerk_store 6 = .ok (.getfield 198, 3) := by decide +kernel
theorem d_Clerk_store_9 : decode b_Clerk_store 9 = .ok (.l2i, 1) := by decide +kernel
theorem d_Clerk_store_10 : decode b_Clerk_store 10 = .ok (.iastore, 1) := by decide +kernel
theorem d_Clerk_store_11 : decode b_Clerk_store 11 = .ok (.aload_n 0, 1) := by decide +kernel
theorem d_Clerk_store_12 : decode b_Clerk_store 12 = .ok (.getfield 36, 3) := by decide +kernel
theorem d_Clerk_store_15 : decode b_Clerk_store 15 = .ok (.iload_n 1, 1) := by decide +kernel
theorem d_Clerk_store_16 : decode b_Clerk_store 16 = .ok (.aload_n 2, 1) := by decide +kernel
theorem d_Clerk_store_17 : decode b_Clerk_store 17 = .ok (.getfield 131, 3) := by decide +kernel
theorem d_Clerk_store_20 : decode b_Clerk_store 20 = .ok (.l2i, 1) := by decide +kernel
theorem d_Clerk_store_21 : decode b_Clerk_store 21 = .ok (.iastore, 1) := by decide +kernel
theorem d_Clerk_store_22 : decode b_Clerk_store 22 = .ok (.return_, 1) := by decide +kernel
