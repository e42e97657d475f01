abbrev TkT : Type := (Nat → Int32) × (Nat → Int32) × (Nat → Int32) × (Nat → Int32) × Int32
def tkB (G : Gt) (h : Nat → Nat) (T : TkT) : va_W := [(h 0, .inr (11, [.ref (h 1), .ref (h 2), .ref (h 3), .ref (h 4), .int T.2.2.2.2])), (h 1, .inl (G.2 2, 120, .inl T.1)), (h 2, .inl (G.2 0, 121, .inl T.2.1)), (h 3, .inl (G.2 0, 121, .inl T.2.2.1)), (h 4, .inl (G.2 0, 121, .inl T.2.2.2.1))]
def tkZ : TkT := (zI, zI, zI, zI, 0)
set_option maxRecDepth 100000 in
set_option maxHeartbeats 4000000 in
theorem cb_Reader_init (l : Launch) (G : Gt) (h0 : Nat) : Ct l G y_Reader_init b_Reader_init 1 none rm_Reader_init [.ref h0] ([(h0, .inr (9, [.null, .null, .int 0]))]) 11 1157 (fun v w' => ∃ (t d : Nat → Nat), v = none ∧ w' = bj [[(h0, .inr (9, [.ref (t 0), .ref (d 0), .int 0]))], tkB G t tkZ, scB G d scZ]) := by
  refine (c_Reader_init l G h0).weaken (fun v w' hp => ?_)
  obtain ⟨q1, q2, q3, q4, q5, q6, q7, q8, q9, q10, q11, h1, rfl⟩ := hp
  exact ⟨fun i => ([q1, q2, q3, q4, q5] : List Nat).getD i 0, fun i => ([q6, q7, q8, q9, q10, q11] : List Nat).getD i 0, h1, rfl⟩
theorem d_TC_init_0 : decode b_TC_init 0 = .ok (.aload_n 0, 1) := by decide +kernel
theorem d_TC_init_1 : decode b_TC_init 1 = .ok (.invokespecial 3, 3) := by decide +kernel
theorem d_TC_init_4 : decode b_TC_init 4 = .ok (.aload_n 0, 1) := by decide +kernel
theorem d_TC_init_5 : decode b_TC_init 5 = .ok (.bipush 120, 2) := by decide +kernel
theorem d_TC_init_7 : decode b_TC_init 7 = .ok (.newarray .char, 2) := by decide +kernel
theorem d_TC_init_9 : decode b_TC_init 9 = .ok (.putfield 9, 3) := by decide +kernel
theorem d_TC_init_12 : decode b_TC_init 12 = .ok (.aload_n 0, 1) := by decide +kernel
theorem d_TC_init_13 : decode b_TC_init 13 = .ok (.new 13, 3) := by decide +kernel
theorem d_TC_init_16 : decode b_TC_init 16 = .ok (.dup, 1) := by decide +kernel
theorem d_TC_init_17 : decode b_TC_init 17 = .ok (.invokespecial 15, 3) := by decide +kernel
theorem d_TC_init_20 : decode b_TC_init 20 = .ok (.putfield 16, 3) := by decide +kernel
theorem d_TC_init_23 : decode b_TC_init 23 = .ok (.aload_n 0, 1) := by decide +kernel
theorem d_TC_init_24 : decode b_TC_init 24 = .ok (.new 20, 3) := by decide +kernel
theorem d_TC_init_27 : decode b_TC_init 27 = .ok (.dup, 1) := by decide +kernel
theorem d_TC_init_28 : decode b_TC_init 28 = .ok (.invokespecial 22, 3) := by decide +kernel
theorem d_TC_init_31 : decode b_TC_init 31 = .ok (.putfield 23, 3) := by decide +kernel
theorem d_TC_init_34 : decode b_TC_init 34 = .ok (.aload_n 0, 1) := by decide +kernel
theorem d_TC_init_35 : decode b_TC_init 35 = .ok (.iconst (-1), 1) := by decide +kernel
theorem d_TC_init_36 : decode b_TC_init 36 = .ok (.putfield 27, 3) := by decide +kernel
theorem d_TC_init_39 : decode b_TC_init 39 = .ok (.aload_n 0, 1) := by decide +kernel
theorem d_TC_init_40 : decode b_TC_init 40 = .ok (.bipush 8, 2) := by decide +kernel
theorem d_TC_init_42 : decode b_TC_init 42 = .ok (.newarray .int, 2) := by decide +kernel
theorem d_TC_init_44 : decode b_TC_init 44 = .ok (.putfield 31, 3) := by decide +kernel
theorem d_TC_init_47 : decode b_TC_init 47 = .ok (.aload_n 0, 1) := by decide +kernel
theorem d_TC_init_48 : decode b_TC_init 48 = .ok (.bipush 8, 2) := by decide +kernel
theorem d_TC_init_50 : decode b_TC_init 50 = .ok (.newarray .boolean, 2) := by decide +kernel
theorem d_TC_init_52 : decode b_TC_init 52 = .ok (.putfield 35, 3) := by decide +kernel
theorem d_TC_init_55 : decode b_TC_init 55 = .ok (.aload_n 0, 1) := by decide +kernel
theorem d_TC_init_56 : decode b_TC_init 56 = .ok (.iconst 3, 1) := by decide +kernel
theorem d_TC_init_57 : decode b_TC_init 57 = .ok (.newarray .long, 2) := by decide +kernel
theorem d_TC_init_59 : decode b_TC_init 59 = .ok (.putfield 39, 3) := by decide +kernel
theorem d_TC_init_62 : decode b_TC_init 62 = .ok (.aload_n 0, 1) := by decide +kernel
theorem d_TC_init_63 : decode b_TC_init 63 = .ok (.iconst 3, 1) := by decide +kernel
theorem d_TC_init_64 : decode b_TC_init 64 = .ok (.newarray .boolean, 2) := by decide +kernel
theorem d_TC_init_66 : decode b_TC_init 66 = .ok (.putfield 43, 3) := by decide +kernel
theorem d_TC_init_69 : decode b_TC_init 69 = .ok (.aload_n 0, 1) := by decide +kernel
theorem d_TC_init_70 : decode b_TC_init 70 = .ok (.new 46, 3) := by decide +kernel
theorem d_TC_init_73 : decode b_TC_init 73 = .ok (.dup, 1) := by decide +kernel
theorem d_TC_init_74 : decode b_TC_init 74 = .ok (.invokespecial 48, 3) := by decide +kernel
theorem d_TC_init_77 : decode b_TC_init 77 = .ok (.putfield 49, 3) := by decide +kernel
theorem d_TC_init_80 : decode b_TC_init 80 = .ok (.aload_n 0, 1) := by decide +kernel
theorem d_TC_init_81 : decode b_TC_init 81 = .ok (.bipush 16, 2) := by decide +kernel
theorem d_TC_init_83 : decode b_TC_init 83 = .ok (.newarray .int, 2) := by decide +kernel
theorem d_TC_init_85 : decode b_TC_init 85 = .ok (.putfield 53, 3) := by decide +kernel
theorem d_TC_init_88 : decode b_TC_init 88 = .ok (.return_, 1) := by decide +kernel
theorem d_TC_write_0 : decode b_TC_write 0 = .ok (.iconst 0, 1) := by decide +kernel
theorem d_TC_write_1 : decode b_TC_write 1 = .ok (.istore_n 3, 1) := by decide +kernel
theorem d_TC_write_2 : decode b_TC_write 2 = .ok (.iconst 0, 1) := by decide +kernel
theorem d_TC_write_3 : decode b_TC_write 3 = .ok (.istore 4, 2) := by decide +kernel
theorem d_TC_write_5 : decode b_TC_write 5 = .ok (.iload 4, 2) := by decide +kernel
theorem d_TC_write_7 : decode b_TC_write 7 = .ok (.bipush 8, 2) := by decide +kernel
theorem d_TC_write_9 : decode b_TC_write 9 = .ok (.if_icmp .ge 75, 3) := by decide +kernel
theorem d_TC_write_12 : decode b_TC_write 12 = .ok (.lload_n 1, 1) := by decide +kernel
theorem d_TC_write_13 : decode b_TC_write 13 = .ok (.bipush 8, 2) := by decide +kernel
theorem d_TC_write_15 : decode b_TC_write 15 = .ok (.iload 4, 2) := by decide +kernel
theorem d_TC_write_17 : decode b_TC_write 17 = .ok (.imul, 1) := by decide +kernel
theorem d_TC_write_18 : decode b_TC_write 18 = .ok (.lushr, 1) := by decide +kernel
theorem d_TC_write_19 : decode b_TC_write 19 = .ok (.l2i, 1) := by decide +kernel
theorem d_TC_write_20 : decode b_TC_write 20 = .ok (.sipush 255, 3) := by decide +kernel
theorem d_TC_write_23 : decode b_TC_write 23 = .ok (.iand, 1) := by decide +kernel
theorem d_TC_write_24 : decode b_TC_write 24 = .ok (.istore 5, 2) := by decide +kernel
theorem d_TC_write_26 : decode b_TC_write 26 = .ok (.iload 5, 2) := by decide +kernel
theorem d_TC_write_28 : decode b_TC_write 28 = .ok (.ifCond .ne 6, 3) := by decide +kernel
theorem d_TC_write_31 : decode b_TC_write 31 = .ok (.goto 47, 3) := by decide +kernel
theorem d_TC_write_34 : decode b_TC_write 34 = .ok (.iload 5, 2) := by decide +kernel
theorem d_TC_write_36 : decode b_TC_write 36 = .ok (.bipush 32, 2) := by decide +kernel
theorem d_TC_write_38 : decode b_TC_write 38 = .ok (.if_icmp .lt 21, 3) := by decide +kernel
theorem d_TC_write_41 : decode b_TC_write 41 = .ok (.iload 5, 2) := by decide +kernel
theorem d_TC_write_43 : decode b_TC_write 43 = .ok (.bipush 126, 2) := by decide +kernel
theorem d_TC_write_45 : decode b_TC_write 45 = .ok (.if_icmp .gt 14, 3) := by decide +kernel
theorem d_TC_write_48 : decode b_TC_write 48 = .ok (.aload_n 0, 1) := by decide +kernel
theorem d_TC_write_49 : decode b_TC_write 49 = .ok (.getfield 56, 3) := by decide +kernel
theorem d_TC_write_52 : decode b_TC_write 52 = .ok (.iload_n 3, 1) := by decide +kernel
theorem d_TC_write_53 : decode b_TC_write 53 = .ok (.iadd, 1) := by decide +kernel
theorem d_TC_write_54 : decode b_TC_write 54 = .ok (.bipush 120, 2) := by decide +kernel
theorem d_TC_write_56 : decode b_TC_write 56 = .ok (.if_icmp .lt 5, 3) := by decide +kernel
theorem d_TC_write_59 : decode b_TC_write 59 = .ok (.iconst 0, 1) := by decide +kernel
theorem d_TC_write_60 : decode b_TC_write 60 = .ok (.ireturn, 1) := by decide +kernel
theorem d_TC_write_61 : decode b_TC_write 61 = .ok (.aload_n 0, 1) := by decide +kernel
theorem d_TC_write_62 : decode b_TC_write 62 = .ok (.getfield 9, 3) := by decide +kernel
theorem d_TC_write_65 : decode b_TC_write 65 = .ok (.aload_n 0, 1) := by decide +kernel
theorem d_TC_write_66 : decode b_TC_write 66 = .ok (.getfield 56, 3) := by decide +kernel
theorem d_TC_write_69 : decode b_TC_write 69 = .ok (.iload_n 3, 1) := by decide +kernel
theorem d_TC_write_70 : decode b_TC_write 70 = .ok (.iadd, 1) := by decide +kernel
theorem d_TC_write_71 : decode b_TC_write 71 = .ok (.iload 5, 2) := by decide +kernel
theorem d_TC_write_73 : decode b_TC_write 73 = .ok (.i2c, 1) := by decide +kernel
theorem d_TC_write_74 : decode b_TC_write 74 = .ok (.castore, 1) := by decide +kernel
theorem d_TC_write_75 : decode b_TC_write 75 = .ok (.iinc 3 1, 3) := by decide +kernel
theorem d_TC_write_78 : decode b_TC_write 78 = .ok (.iinc 4 1, 3) := by decide +kernel
theorem d_TC_write_81 : decode b_TC_write 81 = .ok (.goto (-76), 3) := by decide +kernel
theorem d_TC_write_84 : decode b_TC_write 84 = .ok (.aload_n 0, 1) := by decide +kernel
theorem d_TC_write_85 : decode b_TC_write 85 = .ok (.dup, 1) := by decide +kernel
theorem d_TC_write_86 : decode b_TC_write 86 = .ok (.getfield 56, 3) := by decide +kernel
theorem d_TC_write_89 : decode b_TC_write 89 = .ok (.iload_n 3, 1) := by decide +kernel
theorem d_TC_write_90 : decode b_TC_write 90 = .ok (.iadd, 1) := by decide +kernel
theorem d_TC_write_91 : decode b_TC_write 91 = .ok (.putfield 56, 3) := by decide +kernel
theorem d_TC_write_94 : decode b_TC_write 94 = .ok (.iconst 1, 1) := by decide +kernel
theorem d_TC_write_95 : decode b_TC_write 95 = .ok (.ireturn, 1) := by decide +kernel
theorem d_TC_wipe_0 : decode b_TC_wipe 0 = .ok (.aload_n 0, 1) := by decide +kernel
theorem d_TC_wipe_1 : decode b_TC_wipe 1 = .ok (.getfield 56, 3) := by decide +kernel
theorem d_TC_wipe_4 : decode b_TC_wipe 4 = .ok (.istore_n 1, 1) := by decide +kernel
theorem d_TC_wipe_5 : decode b_TC_wipe 5 = .ok (.aload_n 0, 1) := by decide +kernel
theorem d_TC_wipe_6 : decode b_TC_wipe 6 = .ok (.iconst 0, 1) := by decide +kernel
theorem d_TC_wipe_7 : decode b_TC_wipe 7 = .ok (.putfield 56, 3) := by decide +kernel
theorem d_TC_wipe_10 : decode b_TC_wipe 10 = .ok (.iload_n 1, 1) := by decide +kernel
theorem d_TC_wipe_11 : decode b_TC_wipe 11 = .ok (.ireturn, 1) := by decide +kernel
theorem d_TC_compile_0 : decode b_TC_compile 0 = .ok (.aload_n 0, 1) := by decide +kernel
theorem d_TC_compile_1 : decode b_TC_compile 1 = .ok (.getfield 16, 3) := by decide +kernel
theorem d_TC_compile_4 : decode b_TC_compile 4 = .ok (.aload_n 0, 1) := by decide +kernel
theorem d_TC_compile_5 : decode b_TC_compile 5 = .ok (.getfield 9, 3) := by decide +kernel
theorem d_TC_compile_8 : decode b_TC_compile 8 = .ok (.aload_n 0, 1) := by decide +kernel
theorem d_TC_compile_9 : decode b_TC_compile 9 = .ok (.getfield 56, 3) := by decide +kernel
theorem d_TC_compile_12 : decode b_TC_compile 12 = .ok (.invokevirtual 59, 3) := by decide +kernel
theorem d_TC_compile_15 : decode b_TC_compile 15 = .ok (.ifCond .ne 24, 3) := by decide +kernel
theorem d_TC_compile_18 : decode b_TC_compile 18 = .ok (.aload_n 0, 1) := by decide +kernel
theorem d_TC_compile_19 : decode b_TC_compile 19 = .ok (.aload_n 0, 1) := by decide +kernel
theorem d_TC_compile_20 : decode b_TC_compile 20 = .ok (.getfield 16, 3) := by decide +kernel
theorem d_TC_compile_23 : decode b_TC_compile 23 = .ok (.invokevirtual 63, 3) := by decide +kernel
theorem d_TC_compile_26 : decode b_TC_compile 26 = .ok (.putfield 27, 3) := by decide +kernel
theorem d_TC_compile_29 : decode b_TC_compile 29 = .ok (.new 67, 3) := by decide +kernel
theorem d_TC_compile_32 : decode b_TC_compile 32 = .ok (.dup, 1) := by decide +kernel
theorem d_TC_compile_33 : decode b_TC_compile 33 = .ok (.ldc 69, 2) := by decide +kernel
theorem d_TC_compile_35 : decode b_TC_compile 35 = .ok (.invokespecial 71, 3) := by decide +kernel
theorem d_TC_compile_38 : decode b_TC_compile 38 = .ok (.athrow, 1) := by decide +kernel
theorem d_TC_compile_39 : decode b_TC_compile 39 = .ok (.aload_n 0, 1) := by decide +kernel
theorem d_TC_compile_40 : decode b_TC_compile 40 = .ok (.getfield 23, 3) := by decide +kernel
theorem d_TC_compile_43 : decode b_TC_compile 43 = .ok (.aload_n 0, 1) := by decide +kernel
theorem d_TC_compile_44 : decode b_TC_compile 44 = .ok (.getfield 16, 3) := by decide +kernel
theorem d_TC_compile_47 : decode b_TC_compile 47 = .ok (.invokevirtual 74, 3) := by decide +kernel
theorem d_TC_compile_50 : decode b_TC_compile 50 = .ok (.invokevirtual 78, 3) := by decide +kernel
theorem d_TC_compile_53 : decode b_TC_compile 53 = .ok (.aload_n 0, 1) := by decide +kernel
theorem d_TC_compile_54 : decode b_TC_compile 54 = .ok (.iconst 1, 1) := by decide +kernel
theorem d_TC_compile_55 : decode b_TC_compile 55 = .ok (.putfield 82, 3) := by decide +kernel
theorem d_TC_compile_58 : decode b_TC_compile 58 = .ok (.aload_n 0, 1) := by decide +kernel
theorem d_TC_compile_59 : decode b_TC_compile 59 = .ok (.iconst (-1), 1) := by decide +kernel
theorem d_TC_compile_60 : decode b_TC_compile 60 = .ok (.putfield 27, 3) := by decide +kernel
theorem d_TC_compile_63 : decode b_TC_compile 63 = .ok (.aload_n 0, 1) := by decide +kernel
theorem d_TC_compile_64 : decode b_TC_compile 64 = .ok (.iconst 0, 1) := by decide +kernel
theorem d_TC_compile_65 : decode b_TC_compile 65 = .ok (.putfield 56, 3) := by decide +kernel
theorem d_TC_compile_68 : decode b_TC_compile 68 = .ok (.aload_n 0, 1) := by decide +kernel
theorem d_TC_compile_69 : decode b_TC_compile 69 = .ok (.getfield 23, 3) := by decide +kernel
theorem d_TC_compile_72 : decode b_TC_compile 72 = .ok (.getfield 86, 3) := by decide +kernel
theorem d_TC_compile_75 : decode b_TC_compile 75 = .ok (.ireturn, 1) := by decide +kernel
theorem d_TC_place_0 : decode b_TC_place 0 = .ok (.aload_n 0, 1) := by decide +kernel
theorem d_TC_place_1 : decode b_TC_place 1 = .ok (.getfield 27, 3) := by decide +kernel
theorem d_TC_place_4 : decode b_TC_place 4 = .ok (.ireturn, 1) := by decide +kernel
theorem d_TC_input_0 : decode b_TC_input 0 = .ok (.iload_n 1, 1) := by decide +kernel
theorem d_TC_input_1 : decode b_TC_input 1 = .ok (.ifCond .lt 9, 3) := by decide +kernel
theorem d_TC_input_4 : decode b_TC_input 4 = .ok (.iload_n 1, 1) := by decide +kernel
theorem d_TC_input_5 : decode b_TC_input 5 = .ok (.bipush 8, 2) := by decide +kernel
theorem d_TC_input_7 : decode b_TC_input 7 = .ok (.if_icmp .lt 13, 3) := by decide +kernel
theorem d_TC_input_10 : decode b_TC_input 10 = .ok (.new 67, 3) := by decide +kernel
theorem d_TC_input_13 : decode b_TC_input 13 = .ok (.dup, 1) := by decide +kernel
theorem d_TC_input_14 : decode b_TC_input 14 = .ok (.ldc 89, 2) := by decide +kernel
theorem d_TC_input_16 : decode b_TC_input 16 = .ok (.invokespecial 71, 3) := by decide +kernel
theorem d_TC_input_19 : decode b_TC_input 19 = .ok (.athrow, 1) := by decide +kernel
theorem d_TC_input_20 : decode b_TC_input 20 = .ok (.aload_n 0, 1) := by decide +kernel
theorem d_TC_input_21 : decode b_TC_input 21 = .ok (.getfield 31, 3) := by decide +kernel
theorem d_TC_input_24 : decode b_TC_input 24 = .ok (.iload_n 1, 1) := by decide +kernel
theorem d_TC_input_25 : decode b_TC_input 25 = .ok (.iload_n 2, 1) := by decide +kernel
theorem d_TC_input_26 : decode b_TC_input 26 = .ok (.iastore, 1) := by decide +kernel
theorem d_TC_input_27 : decode b_TC_input 27 = .ok (.aload_n 0, 1) := by decide +kernel
theorem d_TC_input_28 : decode b_TC_input 28 = .ok (.getfield 35, 3) := by decide +kernel
theorem d_TC_input_31 : decode b_TC_input 31 = .ok (.iload_n 1, 1) := by decide +kernel
theorem d_TC_input_32 : decode b_TC_input 32 = .ok (.iconst 1, 1) := by decide +kernel
theorem d_TC_input_33 : decode b_TC_input 33 = .ok (.bastore, 1) := by decide +kernel
theorem d_TC_input_34 : decode b_TC_input 34 = .ok (.return_, 1) := by decide +kernel
theorem d_TC_seed_0 : decode b_TC_seed 0 = .ok (.iload_n 1, 1) := by decide +kernel
theorem d_TC_seed_1 : decode b_TC_seed 1 = .ok (.ifCond .lt 8, 3) := by decide +kernel
theorem d_TC_seed_4 : decode b_TC_seed 4 = .ok (.iload_n 1, 1) := by decide +kernel
theorem d_TC_seed_5 : decode b_TC_seed 5 = .ok (.iconst 3, 1) := by decide +kernel
theorem d_TC_seed_6 : decode b_TC_seed 6 = .ok (.if_icmp .lt 13, 3) := by decide +kernel
theorem d_TC_seed_9 : decode b_TC_seed 9 = .ok (.new 67, 3) := by decide +kernel
theorem d_TC_seed_12 : decode b_TC_seed 12 = .ok (.dup, 1) := by decide +kernel
theorem d_TC_seed_13 : decode b_TC_seed 13 = .ok (.ldc 91, 2) := by decide +kernel
theorem d_TC_seed_15 : decode b_TC_seed 15 = .ok (.invokespecial 71, 3) := by decide +kernel
theorem d_TC_seed_18 : decode b_TC_seed 18 = .ok (.athrow, 1) := by decide +kernel
theorem d_TC_seed_19 : decode b_TC_seed 19 = .ok (.aload_n 0, 1) := by decide +kernel
theorem d_TC_seed_20 : decode b_TC_seed 20 = .ok (.getfield 39, 3) := by decide +kernel
theorem d_TC_seed_23 : decode b_TC_seed 23 = .ok (.iload_n 1, 1) := by decide +kernel
theorem d_TC_seed_24 : decode b_TC_seed 24 = .ok (.iload_n 1, 1) := by decide +kernel
theorem d_TC_seed_25 : decode b_TC_seed 25 = .ok (.iload_n 2, 1) := by decide +kernel
theorem d_TC_seed_26 : decode b_TC_seed 26 = .ok (.iload_n 3, 1) := by decide +kernel
theorem d_TC_seed_27 : decode b_TC_seed 27 = .ok (.invokestatic 93, 3) := by decide +kernel
theorem d_TC_seed_30 : decode b_TC_seed 30 = .ok (.lastore, 1) := by decide +kernel
theorem d_TC_seed_31 : decode b_TC_seed 31 = .ok (.aload_n 0, 1) := by decide +kernel
theorem d_TC_seed_32 : decode b_TC_seed 32 = .ok (.getfield 43, 3) := by decide +kernel
theorem d_TC_seed_35 : decode b_TC_seed 35 = .ok (.iload_n 1, 1) := by decide +kernel
theorem d_TC_seed_36 : decode b_TC_seed 36 = .ok (.iconst 1, 1) := by decide +kernel
theorem d_TC_seed_37 : decode b_TC_seed 37 = .ok (.bastore, 1) := by decide +kernel
theorem d_TC_seed_38 : decode b_TC_seed 38 = .ok (.return_, 1) := by decide +kernel
theorem d_TC_run_0 : decode b_TC_run 0 = .ok (.aload_n 0, 1) := by decide +kernel
theorem d_TC_run_1 : decode b_TC_run 1 = .ok (.getfield 82, 3) := by decide +kernel
theorem d_TC_run_4 : decode b_TC_run 4 = .ok (.ifCond .eq 17, 3) := by decide +kernel
theorem d_TC_run_7 : decode b_TC_run 7 = .ok (.aload_n 0, 1) := by decide +kernel
theorem d_TC_run_8 : decode b_TC_run 8 = .ok (.invokevirtual 99, 3) := by decide +kernel
theorem d_TC_run_11 : decode b_TC_run 11 = .ok (.ifCond .eq 10, 3) := by decide +kernel
theorem d_TC_run_14 : decode b_TC_run 14 = .ok (.aload_n 0, 1) := by decide +kernel
theorem d_TC_run_15 : decode b_TC_run 15 = .ok (.invokevirtual 103, 3) := by decide +kernel
theorem d_TC_run_18 : decode b_TC_run 18 = .ok (.ifCond .ne 13, 3) := by decide +kernel
theorem d_TC_run_21 : decode b_TC_run 21 = .ok (.new 106, 3) := by decide +kernel
theorem d_TC_run_24 : decode b_TC_run 24 = .ok (.dup, 1) := by decide +kernel
theorem d_TC_run_25 : decode b_TC_run 25 = .ok (.ldc 108, 2) := by decide +kernel
theorem d_TC_run_27 : decode b_TC_run 27 = .ok (.invokespecial 110, 3) := by decide +kernel
theorem d_TC_run_30 : decode b_TC_run 30 = .ok (.athrow, 1) := by decide +kernel
theorem d_TC_run_31 : decode b_TC_run 31 = .ok (.aload_n 0, 1) := by decide +kernel
theorem d_TC_run_32 : decode b_TC_run 32 = .ok (.dup, 1) := by decide +kernel
theorem d_TC_run_33 : decode b_TC_run 33 = .ok (.getfield 111, 3) := by decide +kernel
theorem d_TC_run_36 : decode b_TC_run 36 = .ok (.iconst 1, 1) := by decide +kernel
theorem d_TC_run_37 : decode b_TC_run 37 = .ok (.iadd, 1) := by decide +kernel
theorem d_TC_run_38 : decode b_TC_run 38 = .ok (.putfield 111, 3) := by decide +kernel
theorem d_TC_run_41 : decode b_TC_run 41 = .ok (.aload_n 0, 1) := by decide +kernel
theorem d_TC_run_42 : decode b_TC_run 42 = .ok (.getfield 49, 3) := by decide +kernel
theorem d_TC_run_45 : decode b_TC_run 45 = .ok (.aload_n 0, 1) := by decide +kernel
theorem d_TC_run_46 : decode b_TC_run 46 = .ok (.getfield 23, 3) := by decide +kernel
theorem d_TC_run_49 : decode b_TC_run 49 = .ok (.aload_n 0, 1) := by decide +kernel
theorem d_TC_run_50 : decode b_TC_run 50 = .ok (.getfield 39, 3) := by decide +kernel
theorem d_TC_run_53 : decode b_TC_run 53 = .ok (.aload_n 0, 1) := by decide +kernel
theorem d_TC_run_54 : decode b_TC_run 54 = .ok (.getfield 111, 3) := by decide +kernel
theorem d_TC_run_57 : decode b_TC_run 57 = .ok (.invokevirtual 114, 3) := by decide +kernel
theorem d_TC_run_60 : decode b_TC_run 60 = .ok (.aload_n 0, 1) := by decide +kernel
theorem d_TC_run_61 : decode b_TC_run 61 = .ok (.invokevirtual 118, 3) := by decide +kernel
theorem d_TC_run_64 : decode b_TC_run 64 = .ok (.aload_n 0, 1) := by decide +kernel
theorem d_TC_run_65 : decode b_TC_run 65 = .ok (.getfield 49, 3) := by decide +kernel
theorem d_TC_run_68 : decode b_TC_run 68 = .ok (.iload_n 1, 1) := by decide +kernel
theorem d_TC_run_69 : decode b_TC_run 69 = .ok (.invokevirtual 121, 3) := by decide +kernel
theorem d_TC_run_72 : decode b_TC_run 72 = .ok (.aload_n 0, 1) := by decide +kernel
theorem d_TC_run_73 : decode b_TC_run 73 = .ok (.aload_n 0, 1) := by decide +kernel
theorem d_TC_run_74 : decode b_TC_run 74 = .ok (.getfield 49, 3) := by decide +kernel
theorem d_TC_run_77 : decode b_TC_run 77 = .ok (.aload_n 0, 1) := by decide +kernel
theorem d_TC_run_78 : decode b_TC_run 78 = .ok (.getfield 53, 3) := by decide +kernel
theorem d_TC_run_81 : decode b_TC_run 81 = .ok (.invokevirtual 125, 3) := by decide +kernel
theorem d_TC_run_84 : decode b_TC_run 84 = .ok (.putfield 129, 3) := by decide +kernel
theorem d_TC_run_87 : decode b_TC_run 87 = .ok (.aload_n 0, 1) := by decide +kernel
theorem d_TC_run_88 : decode b_TC_run 88 = .ok (.getfield 129, 3) := by decide +kernel
theorem d_TC_run_91 : decode b_TC_run 91 = .ok (.ireturn, 1) := by decide +kernel
theorem d_TC_output_0 : decode b_TC_output 0 = .ok (.iload_n 1, 1) := by decide +kernel
theorem d_TC_output_1 : decode b_TC_output 1 = .ok (.ifCond .lt 11, 3) := by decide +kernel
theorem d_TC_output_4 : decode b_TC_output 4 = .ok (.iload_n 1, 1) := by decide +kernel
theorem d_TC_output_5 : decode b_TC_output 5 = .ok (.aload_n 0, 1) := by decide +kernel
theorem d_TC_output_6 : decode b_TC_output 6 = .ok (.getfield 129, 3) := by decide +kernel
theorem d_TC_output_9 : decode b_TC_output 9 = .ok (.if_icmp .lt 13, 3) := by decide +kernel
theorem d_TC_output_12 : decode b_TC_output 12 = .ok (.new 132, 3) := by decide +kernel
theorem d_TC_output_15 : decode b_TC_output 15 = .ok (.dup, 1) := by decide +kernel
theorem d_TC_output_16 : decode b_TC_output 16 = .ok (.ldc 134, 2) := by decide +kernel
theorem d_TC_output_18 : decode b_TC_output 18 = .ok (.invokespecial 136, 3) := by decide +kernel
theorem d_TC_output_21 : decode b_TC_output 21 = .ok (.athrow, 1) := by decide +kernel
theorem d_TC_output_22 : decode b_TC_output 22 = .ok (.aload_n 0, 1) := by decide +kernel
theorem d_TC_output_23 : decode b_TC_output 23 = .ok (.getfield 53, 3) := by decide +kernel
theorem d_TC_output_26 : decode b_TC_output 26 = .ok (.iload_n 1, 1) := by decide +kernel
theorem d_TC_output_27 : decode b_TC_output 27 = .ok (.iaload, 1) := by decide +kernel
theorem d_TC_output_28 : decode b_TC_output 28 = .ok (.ireturn, 1) := by decide +kernel
theorem d_TC_seedsSet_0 : decode b_TC_seedsSet 0 = .ok (.iconst 0, 1) := by decide +kernel
theorem d_TC_seedsSet_1 : decode b_TC_seedsSet 1 = .ok (.istore_n 1, 1) := by decide +kernel
theorem d_TC_seedsSet_2 : decode b_TC_seedsSet 2 = .ok (.iload_n 1, 1) := by decide +kernel
theorem d_TC_seedsSet_3 : decode b_TC_seedsSet 3 = .ok (.iconst 3, 1) := by decide +kernel
theorem d_TC_seedsSet_4 : decode b_TC_seedsSet 4 = .ok (.if_icmp .ge 20, 3) := by decide +kernel
theorem d_TC_seedsSet_7 : decode b_TC_seedsSet 7 = .ok (.aload_n 0, 1) := by decide +kernel
theorem d_TC_seedsSet_8 : decode b_TC_seedsSet 8 = .ok (.getfield 43, 3) := by decide +kernel
theorem d_TC_seedsSet_11 : decode b_TC_seedsSet 11 = .ok (.iload_n 1, 1) := by decide +kernel
theorem d_TC_seedsSet_12 : decode b_TC_seedsSet 12 = .ok (.baload, 1) := by decide +kernel
theorem d_TC_seedsSet_13 : decode b_TC_seedsSet 13 = .ok (.ifCond .ne 5, 3) := by decide +kernel
theorem d_TC_seedsSet_16 : decode b_TC_seedsSet 16 = .ok (.iconst 0, 1) := by decide +kernel
theorem d_TC_seedsSet_17 : decode b_TC_seedsSet 17 = .ok (.ireturn, 1) := by decide +kernel
theorem d_TC_seedsSet_18 : decode b_TC_seedsSet 18 = .ok (.iinc 1 1, 3) := by decide +kernel
theorem d_TC_seedsSet_21 : decode b_TC_seedsSet 21 = .ok (.goto (-19), 3) := by decide +kernel
theorem d_TC_seedsSet_24 : decode b_TC_seedsSet 24 = .ok (.iconst 1, 1) := by decide +kernel
theorem d_TC_seedsSet_25 : decode b_TC_seedsSet 25 = .ok (.ireturn, 1) := by decide +kernel
theorem d_TC_namedInputsSet_0 : decode b_TC_namedInputsSet 0 = .ok (.iconst 0, 1) := by decide +kernel
theorem d_TC_namedInputsSet_1 : decode b_TC_namedInputsSet 1 = .ok (.istore_n 1, 1) := by decide +kernel
theorem d_TC_namedInputsSet_2 : decode b_TC_namedInputsSet 2 = .ok (.iload_n 1, 1) := by decide +kernel
theorem d_TC_namedInputsSet_3 : decode b_TC_namedInputsSet 3 = .ok (.bipush 8, 2) := by decide +kernel
theorem d_TC_namedInputsSet_5 : decode b_TC_namedInputsSet 5 = .ok (.if_icmp .ge 31, 3) := by decide +kernel
theorem d_TC_namedInputsSet_8 : decode b_TC_namedInputsSet 8 = .ok (.aload_n 0, 1) := by decide +kernel
theorem d_TC_namedInputsSet_9 : decode b_TC_namedInputsSet 9 = .ok (.getfield 23, 3) := by decide +kernel
theorem d_TC_namedInputsSet_12 : decode b_TC_namedInputsSet 12 = .ok (.iload_n 1, 1) := by decide +kernel
theorem d_TC_namedInputsSet_13 : decode b_TC_namedInputsSet 13 = .ok (.invokevirtual 137, 3) := by decide +kernel
theorem d_TC_namedInputsSet_16 : decode b_TC_namedInputsSet 16 = .ok (.ifCond .eq 14, 3) := by decide +kernel
theorem d_TC_namedInputsSet_19 : decode b_TC_namedInputsSet 19 = .ok (.aload_n 0, 1) := by decide +kernel
theorem d_TC_namedInputsSet_20 : decode b_TC_namedInputsSet 20 = .ok (.getfield 35, 3) := by decide +kernel
theorem d_TC_namedInputsSet_23 : decode b_TC_namedInputsSet 23 = .ok (.iload_n 1, 1) := by decide +kernel
theorem d_TC_namedInputsSet_24 : decode b_TC_namedInputsSet 24 = .ok (.baload, 1) := by decide +kernel
theorem d_TC_namedInputsSet_25 : decode b_TC_namedInputsSet 25 = .ok (.ifCond .ne 5, 3) := by decide +kernel
theorem d_TC_namedInputsSet_28 : decode b_TC_namedInputsSet 28 = .ok (.iconst 0, 1) := by decide +kernel
theorem d_TC_namedInputsSet_29 : decode b_TC_namedInputsSet 29 = .ok (.ireturn, 1) := by decide +kernel
theorem d_TC_namedInputsSet_30 : decode b_TC_namedInputsSet 30 = .ok (.iinc 1 1, 3) := by decide +kernel
theorem d_TC_namedInputsSet_33 : decode b_TC_namedInputsSet 33 = .ok (.goto (-31), 3) := by decide +kernel
theorem d_TC_namedInputsSet_36 : decode b_TC_namedInputsSet 36 = .ok (.iconst 1, 1) := by decide +kernel
theorem d_TC_namedInputsSet_37 : decode b_TC_namedInputsSet 37 = .ok (.ireturn, 1) := by decide +kernel
theorem d_TC_dealInputs_0 : decode b_TC_dealInputs 0 = .ok (.iconst 0, 1) := by decide +kernel
theorem d_TC_dealInputs_1 : decode b_TC_dealInputs 1 = .ok (.istore_n 1, 1) := by decide +kernel
theorem d_TC_dealInputs_2 : decode b_TC_dealInputs 2 = .ok (.iload_n 1, 1) := by decide +kernel
theorem d_TC_dealInputs_3 : decode b_TC_dealInputs 3 = .ok (.bipush 8, 2) := by decide +kernel
theorem d_TC_dealInputs_5 : decode b_TC_dealInputs 5 = .ok (.if_icmp .ge 81, 3) := by decide +kernel
theorem d_TC_dealInputs_8 : decode b_TC_dealInputs 8 = .ok (.aload_n 0, 1) := by decide +kernel
theorem d_TC_dealInputs_9 : decode b_TC_dealInputs 9 = .ok (.getfield 23, 3) := by decide +kernel
theorem d_TC_dealInputs_12 : decode b_TC_dealInputs 12 = .ok (.iload_n 1, 1) := by decide +kernel
theorem d_TC_dealInputs_13 : decode b_TC_dealInputs 13 = .ok (.invokevirtual 137, 3) := by decide +kernel
theorem d_TC_dealInputs_16 : decode b_TC_dealInputs 16 = .ok (.ifCond .eq 64, 3) := by decide +kernel
theorem d_TC_dealInputs_19 : decode b_TC_dealInputs 19 = .ok (.aload_n 0, 1) := by decide +kernel
theorem d_TC_dealInputs_20 : decode b_TC_dealInputs 20 = .ok (.getfield 39, 3) := by decide +kernel
theorem d_TC_dealInputs_23 : decode b_TC_dealInputs 23 = .ok (.iconst 0, 1) := by decide +kernel
theorem d_TC_dealInputs_24 : decode b_TC_dealInputs 24 = .ok (.laload, 1) := by decide +kernel
theorem d_TC_dealInputs_25 : decode b_TC_dealInputs 25 = .ok (.aload_n 0, 1) := by decide +kernel
theorem d_TC_dealInputs_26 : decode b_TC_dealInputs 26 = .ok (.getfield 111, 3) := by decide +kernel
theorem d_TC_dealInputs_29 : decode b_TC_dealInputs 29 = .ok (.ldc 141, 2) := by decide +kernel
theorem d_TC_dealInputs_31 : decode b_TC_dealInputs 31 = .ok (.iload_n 1, 1) := by decide +kernel
theorem d_TC_dealInputs_32 : decode b_TC_dealInputs 32 = .ok (.iadd, 1) := by decide +kernel
theorem d_TC_dealInputs_33 : decode b_TC_dealInputs 33 = .ok (.invokestatic 142, 3) := by decide +kernel
theorem d_TC_dealInputs_36 : decode b_TC_dealInputs 36 = .ok (.l2i, 1) := by decide +kernel
theorem d_TC_dealInputs_37 : decode b_TC_dealInputs 37 = .ok (.istore_n 2, 1) := by decide +kernel
theorem d_TC_dealInputs_38 : decode b_TC_dealInputs 38 = .ok (.aload_n 0, 1) := by decide +kernel
theorem d_TC_dealInputs_39 : decode b_TC_dealInputs 39 = .ok (.getfield 39, 3) := by decide +kernel
theorem d_TC_dealInputs_42 : decode b_TC_dealInputs 42 = .ok (.iconst 1, 1) := by decide +kernel
theorem d_TC_dealInputs_43 : decode b_TC_dealInputs 43 = .ok (.laload, 1) := by decide +kernel
theorem d_TC_dealInputs_44 : decode b_TC_dealInputs 44 = .ok (.aload_n 0, 1) := by decide +kernel
theorem d_TC_dealInputs_45 : decode b_TC_dealInputs 45 = .ok (.getfield 111, 3) := by decide +kernel
theorem d_TC_dealInputs_48 : decode b_TC_dealInputs 48 = .ok (.ldc 141, 2) := by decide +kernel
theorem d_TC_dealInputs_50 : decode b_TC_dealInputs 50 = .ok (.iload_n 1, 1) := by decide +kernel
theorem d_TC_dealInputs_51 : decode b_TC_dealInputs 51 = .ok (.iadd, 1) := by decide +kernel
theorem d_TC_dealInputs_52 : decode b_TC_dealInputs 52 = .ok (.invokestatic 142, 3) := by decide +kernel
theorem d_TC_dealInputs_55 : decode b_TC_dealInputs 55 = .ok (.l2i, 1) := by decide +kernel
theorem d_TC_dealInputs_56 : decode b_TC_dealInputs 56 = .ok (.istore_n 3, 1) := by decide +kernel
theorem d_TC_dealInputs_57 : decode b_TC_dealInputs 57 = .ok (.aload_n 0, 1) := by decide +kernel
theorem d_TC_dealInputs_58 : decode b_TC_dealInputs 58 = .ok (.getfield 49, 3) := by decide +kernel
theorem d_TC_dealInputs_61 : decode b_TC_dealInputs 61 = .ok (.bipush 26, 2) := by decide +kernel
theorem d_TC_dealInputs_63 : decode b_TC_dealInputs 63 = .ok (.iload_n 1, 1) := by decide +kernel
theorem d_TC_dealInputs_64 : decode b_TC_dealInputs 64 = .ok (.iadd, 1) := by decide +kernel
theorem d_TC_dealInputs_65 : decode b_TC_dealInputs 65 = .ok (.iload_n 2, 1) := by decide +kernel
theorem d_TC_dealInputs_66 : decode b_TC_dealInputs 66 = .ok (.iload_n 3, 1) := by decide +kernel
theorem d_TC_dealInputs_67 : decode b_TC_dealInputs 67 = .ok (.aload_n 0, 1) := by decide +kernel
theorem d_TC_dealInputs_68 : decode b_TC_dealInputs 68 = .ok (.getfield 31, 3) := by decide +kernel
theorem d_TC_dealInputs_71 : decode b_TC_dealInputs 71 = .ok (.iload_n 1, 1) := by decide +kernel
theorem d_TC_dealInputs_72 : decode b_TC_dealInputs 72 = .ok (.iaload, 1) := by decide +kernel
theorem d_TC_dealInputs_73 : decode b_TC_dealInputs 73 = .ok (.iload_n 2, 1) := by decide +kernel
theorem d_TC_dealInputs_74 : decode b_TC_dealInputs 74 = .ok (.isub, 1) := by decide +kernel
theorem d_TC_dealInputs_75 : decode b_TC_dealInputs 75 = .ok (.iload_n 3, 1) := by decide +kernel
theorem d_TC_dealInputs_76 : decode b_TC_dealInputs 76 = .ok (.isub, 1) := by decide +kernel
theorem d_TC_dealInputs_77 : decode b_TC_dealInputs 77 = .ok (.invokevirtual 146, 3) := by decide +kernel
theorem d_TC_dealInputs_80 : decode b_TC_dealInputs 80 = .ok (.iinc 1 1, 3) := by decide +kernel
theorem d_TC_dealInputs_83 : decode b_TC_dealInputs 83 = .ok (.goto (-81), 3) := by decide +kernel
theorem d_TC_dealInputs_86 : decode b_TC_dealInputs 86 = .ok (.return_, 1) := by decide +kernel
abbrev rm_TC_init : Room := { frames := 5, cells := 96, slots := 4496, locals := 96 }
set_option maxHeartbeats 4000000 in
set_option maxRecDepth 100000 in
theorem c_TC_init (l : Launch) (G : Gt) (h0 : Nat) : Ct l G y_TC_init b_TC_init 1 none rm_TC_init [.ref h0] (bj [[(h0, .inr (0, [.null, .int 0, .null, .null, .int 0, .int 0, .null, .null, .null, .null, .null, .null, .int 0, .int 0]))]]) 96 4496 (fun v w' => ∃ (q1 : Nat) (q2 : Nat) (q8 : Nat) (q9 : Nat) (q10 : Nat) (q11 : Nat) (q12 : Nat) (q13 : Nat) (q18 : Nat) (q6 : Nat → Nat) (q3 : Nat → Nat) (q4 : Nat → Nat) (q14 : Nat → Nat) (q15 : Nat → Nat) (q16 : Nat → Nat) (q17 : Nat → Nat), v = none ∧ w' = (bj [[(h0, .inr (0, [.ref q1, .int 0, .ref q2, .ref (q6 0), .int 0, .int (-1), .ref q8, .ref q9, .ref q10, .ref q11, .ref q12, .ref q18, .int 0, .int 0]))], [(q1, .inl (G.2 2, 120, .inl (fun _ => 0)))], [(q2, .inr (9, [.ref (q3 0), .ref (q4 0), .int 0]))], [(q8, .inl (G.2 0, 8, .inl (fun _ => 0)))], [(q9, .inl (G.2 3, 8, .inl (fun _ => 0)))], [(q10, .inl (G.2 1, 3, .inr (.inl (fun _ => 0))))], [(q11, .inl (G.2 3, 3, .inl (fun _ => 0)))], [(q12, .inr (5, [.ref (q17 0), .ref q13, .long 0]))], [(q13, .inl (G.2 4, 3, .inr (.inr (.inr (.inr (va_up (va_up (va_up (fun _ => none) 0 (some (q16 0))) 1 (some (q15 0))) 2 (some (q14 0))))))))], [(q18, .inl (G.2 0, 16, .inl (fun _ => 0)))], scB G q6 scZ, tkB G q3 tkZ, scB G q4 scZ, ckF G q14 (2 : Int32) ckZ0 rsZ, ckF G q15 (1 : Int32) ckZ0 rsZ, ckF G q16 (0 : Int32) ckZ0 rsZ, poB G q17 poZ])) := by
  refine Ct.of (by decide) (Nat.le_of_ble_eq_true rfl) (fun p e s m args below meth c A ls H locs hx hb hml hr hnl hown hts hnm hK hA hl hW => ?_)
  have hl : lv_has ls 1 [(0, .ref h0)] := hl
  refine lv_aload_n hx hb d_TC_init_0 rfl (lv_at hl 0 rfl) ?_
  refine W.objInit hx hb hown (hts _ w_ml_TC_3) (hts _ w_oi_im) (hts _ w_oi_code) rfl (by rw [hml]; exact hl.1) rfl d_TC_init_1 (Nat.le_of_ble_eq_true rfl) (Nat.le_of_ble_eq_true rfl) ?_
  refine W.eq (g2 := F0 m 4 ls []) rfl ?_
  refine lv_aload_n hx hb d_TC_init_4 rfl (lv_at hl 0 rfl) ?_
  refine lv_bipush (v := 120) hx hb d_TC_init_5 (by decide) ?_
  refine Wd.newa (ty := .char) (N' := 120) (a0 := (120, .inl (fun _ => 0))) hx hb hts hK hA hW 2 w_arr_char d_TC_init_7 rfl rfl (fun _ _ h => h) (fun _ => rfl) (by decide) (by decide) (by decide) (by decide) (by decide) (fun q1 H hW => ?_)
  have hW := Wd.blk (rs := [[(h0, .inr (0, [.null, .int 0, .null, .null, .int 0, .int 0, .null, .null, .null, .null, .null, .null, .int 0, .int 0]))]]) (bs := [[(q1, .inl (G.2 2, 120, .inl (fun _ => 0)))]]) (Bs := [[(h0, .inr (0, [.null, .int 0, .null, .null, .int 0, .int 0, .null, .null, .null, .null, .null, .null, .int 0, .int 0]))], [(q1, .inl (G.2 2, 120, .inl (fun _ => 0)))]]) hW [0, 1] (show ([0, 1] : List Nat).Perm (List.range 2) by decide) rfl
  have hW : Wd G A s.heap (bj [[(h0, .inr (0, [.null, .int 0, .null, .null, .int 0, .int 0, .null, .null, .null, .null, .null, .null, .int 0, .int 0]))], [(q1, .inl (G.2 2, 120, .inl (fun _ => 0)))]]) H locs := hW
  refine W.widen (k := 1) (n := 120) (by decide) (by decide) ?_
  refine Wd.putF (v := .ref q1) hx hb hts hown hK hW 0 0 in_TC t_TC_ok n_TC w_fl_TC_9 (by decide) d_TC_init_9 rfl rfl rfl hnm rfl rfl rfl (Nat.le_of_ble_eq_true rfl) (fun H locs hW => ?_)
  have hW : Wd G A s.heap (bj [[(h0, .inr (0, [.ref q1, .int 0, .null, .null, .int 0, .int 0, .null, .null, .null, .null, .null, .null, .int 0, .int 0]))], [(q1, .inl (G.2 2, 120, .inl (fun _ => 0)))]]) H locs := hW
  refine lv_aload_n hx hb d_TC_init_12 rfl (lv_at hl 0 rfl) ?_
  refine Wd.new (ci := 9) (fs := [.null, .null, .int 0]) (ty0 := t_Reader) hx hb hts hown hK hA hW in_Reader t_Reader_ok w_cl_TC_13 w_nb_Reader w_ini_Reader d_TC_init_13 rfl z_Reader (by decide) (by decide) (fun q2 H hW => ?_)
  have hW := Wd.blk (rs := [[(h0, .inr (0, [.ref q1, .int 0, .null, .null, .int 0, .int 0, .null, .null, .null, .null, .null, .null, .int 0, .int 0]))], [(q1, .inl (G.2 2, 120, .inl (fun _ => 0)))]]) (bs := [[(q2, .inr (9, [.null, .null, .int 0]))]]) (Bs := [[(h0, .inr (0, [.ref q1, .int 0, .null, .null, .int 0, .int 0, .null, .null, .null, .null, .null, .null, .int 0, .int 0]))], [(q1, .inl (G.2 2, 120, .inl (fun _ => 0)))], [(q2, .inr (9, [.null, .null, .int 0]))]]) hW [0, 1, 2] (show ([0, 1, 2] : List Nat).Perm (List.range 3) by decide) rfl
  have hW : Wd G A s.heap (bj [[(h0, .inr (0, [.ref q1, .int 0, .null, .null, .int 0, .int 0, .null, .null, .null, .null, .null, .null, .int 0, .int 0]))], [(q1, .inl (G.2 2, 120, .inl (fun _ => 0)))], [(q2, .inr (9, [.null, .null, .int 0]))]]) H locs := hW
  refine W.widen (k := 2) (n := 123) (by decide) (by decide) ?_
  refine lv_dup hx hb d_TC_init_16 rfl ?_
  refine Ct.callINB (As := []) (rest := [.ref q2, .ref h0]) (wr := bj [[(h0, .inr (0, [.ref q1, .int 0, .null, .null, .int 0, .int 0, .null, .null, .null, .null, .null, .null, .int 0, .int 0]))], [(q1, .inl (G.2 2, 120, .inl (fun _ => 0)))]]) hx hb hml hown hts hK hA hl.1 hW (bl_pick (bs := [[(q2, .inr (9, [.null, .null, .int 0]))]]) (rs := [[(h0, .inr (0, [.ref q1, .int 0, .null, .null, .int 0, .int 0, .null, .null, .null, .null, .null, .null, .int 0, .int 0]))], [(q1, .inl (G.2 2, 120, .inl (fun _ => 0)))]]) (Bs := [[(h0, .inr (0, [.ref q1, .int 0, .null, .null, .int 0, .int 0, .null, .null, .null, .null, .null, .null, .int 0, .int 0]))], [(q1, .inl (G.2 2, 120, .inl (fun _ => 0)))], [(q2, .inr (9, [.null, .null, .int 0]))]]) [2, 0, 1] (show ([2, 0, 1] : List Nat).Perm (List.range 3) by decide) rfl) (cb_Reader_init l G q2 ) ⟨va_cnB 0 hts (good_C w_code_Reader_init) rfl rfl rfl (hK.2.1 _ (List.mem_of_getElem? (i := 0) rfl)) (hts _ w_ini_Reader) yd_Reader_init ⟨by decide, by decide⟩, rfl, hts _ w_im_Reader_init⟩ rfl rfl (Nat.le_of_ble_eq_true rfl) d_TC_init_17 ⟨by decide, by decide⟩ (fun v w' hp => by obtain ⟨-, -, -, rfl⟩ := hp; exact Nat.le_of_ble_eq_true rfl) (fun v w' H locs hp hW => ?_)
  obtain ⟨q3, q4, rfl, rfl⟩ := hp
  have hW := Wd.blk (rs := [[(h0, .inr (0, [.ref q1, .int 0, .null, .null, .int 0, .int 0, .null, .null, .null, .null, .null, .null, .int 0, .int 0]))], [(q1, .inl (G.2 2, 120, .inl (fun _ => 0)))]]) (bs := [[(q2, .inr (9, [.ref (q3 0), .ref (q4 0), .int 0]))], tkB G q3 tkZ, scB G q4 scZ]) (Bs := [[(h0, .inr (0, [.ref q1, .int 0, .null, .null, .int 0, .int 0, .null, .null, .null, .null, .null, .null, .int 0, .int 0]))], [(q1, .inl (G.2 2, 120, .inl (fun _ => 0)))], [(q2, .inr (9, [.ref (q3 0), .ref (q4 0), .int 0]))], tkB G q3 tkZ, scB G q4 scZ]) hW [0, 1, 2, 3, 4] (show ([0, 1, 2, 3, 4] : List Nat).Perm (List.range 5) by decide) rfl
  refine W.widen (k := 13) (n := 1280) (by decide) (by decide) ?_
  refine W.eq (g2 := F0 m 20 ls [.ref q2, .ref h0]) rfl ?_
  refine Wd.putF (v := .ref q2) hx hb hts hown hK hW 0 2 in_TC t_TC_ok n_TC w_fl_TC_16 (by decide) d_TC_init_20 rfl rfl rfl hnm rfl rfl rfl (Nat.le_of_ble_eq_true rfl) (fun H locs hW => ?_)
  have hW : Wd G A s.heap (bj [[(h0, .inr (0, [.ref q1, .int 0, .ref q2, .null, .int 0, .int 0, .null, .null, .null, .null, .null, .null, .int 0, .int 0]))], [(q1, .inl (G.2 2, 120, .inl (fun _ => 0)))], [(q2, .inr (9, [.ref (q3 0), .ref (q4 0), .int 0]))], tkB G q3 tkZ, scB G q4 scZ]) H locs := hW
  refine lv_aload_n hx hb d_TC_init_23 rfl (lv_at hl 0 rfl) ?_
  refine Wd.new (ci := 10) (fs := [.null, .null, .null, .null, .null, .int 0, .int 0, .int 0, .int 0]) (ty0 := t_Script) hx hb hts hown hK hA hW in_Script t_Script_ok w_cl_TC_20 w_nb_Script w_ini_Script d_TC_init_24 rfl z_Script (by decide) (by decide) (fun q5 H hW => ?_)
  have hW := Wd.blk (rs := [[(h0, .inr (0, [.ref q1, .int 0, .ref q2, .null, .int 0, .int 0, .null, .null, .null, .null, .null, .null, .int 0, .int 0]))], [(q1, .inl (G.2 2, 120, .inl (fun _ => 0)))], [(q2, .inr (9, [.ref (q3 0), .ref (q4 0), .int 0]))], tkB G q3 tkZ, scB G q4 scZ]) (bs := [[(q5, .inr (10, [.null, .null, .null, .null, .null, .int 0, .int 0, .int 0, .int 0]))]]) (Bs := [[(h0, .inr (0, [.ref q1, .int 0, .ref q2, .null, .int 0, .int 0, .null, .null, .null, .null, .null, .null, .int 0, .int 0]))], [(q1, .inl (G.2 2, 120, .inl (fun _ => 0)))], [(q2, .inr (9, [.ref (q3 0), .ref (q4 0), .int 0]))], [(q5, .inr (10, [.null, .null, .null, .null, .null, .int 0, .int 0, .int 0, .int 0]))], tkB G q3 tkZ, scB G q4 scZ]) hW [0, 1, 2, 5, 3, 4] (show ([0, 1, 2, 5, 3, 4] : List Nat).Perm (List.range 6) by decide) rfl
  have hW : Wd G A s.heap (bj [[(h0, .inr (0, [.ref q1, .int 0, .ref q2, .null, .int 0, .int 0, .null, .null, .null, .null, .null, .null, .int 0, .int 0]))], [(q1, .inl (G.2 2, 120, .inl (fun _ => 0)))], [(q2, .inr (9, [.ref (q3 0), .ref (q4 0), .int 0]))], [(q5, .inr (10, [.null, .null, .null, .null, .null, .int 0, .int 0, .int 0, .int 0]))], tkB G q3 tkZ, scB G q4 scZ]) H locs := hW
  refine W.widen (k := 14) (n := 1289) (by decide) (by decide) ?_
  refine lv_dup hx hb d_TC_init_27 rfl ?_
  refine Ct.callINB (As := []) (rest := [.ref q5, .ref h0]) (wr := bj [[(h0, .inr (0, [.ref q1, .int 0, .ref q2, .null, .int 0, .int 0, .null, .null, .null, .null, .null, .null, .int 0, .int 0]))], [(q1, .inl (G.2 2, 120, .inl (fun _ => 0)))], [(q2, .inr (9, [.ref (q3 0), .ref (q4 0), .int 0]))], tkB G q3 tkZ, scB G q4 scZ]) hx hb hml hown hts hK hA hl.1 hW (bl_pick (bs := [[(q5, .inr (10, [.null, .null, .null, .null, .null, .int 0, .int 0, .int 0, .int 0]))]]) (rs := [[(h0, .inr (0, [.ref q1, .int 0, .ref q2, .null, .int 0, .int 0, .null, .null, .null, .null, .null, .null, .int 0, .int 0]))], [(q1, .inl (G.2 2, 120, .inl (fun _ => 0)))], [(q2, .inr (9, [.ref (q3 0), .ref (q4 0), .int 0]))], tkB G q3 tkZ, scB G q4 scZ]) (Bs := [[(h0, .inr (0, [.ref q1, .int 0, .ref q2, .null, .int 0, .int 0, .null, .null, .null, .null, .null, .null, .int 0, .int 0]))], [(q1, .inl (G.2 2, 120, .inl (fun _ => 0)))], [(q2, .inr (9, [.ref (q3 0), .ref (q4 0), .int 0]))], [(q5, .inr (10, [.null, .null, .null, .null, .null, .int 0, .int 0, .int 0, .int 0]))], tkB G q3 tkZ, scB G q4 scZ]) [3, 0, 1, 2, 4, 5] (show ([3, 0, 1, 2, 4, 5] : List Nat).Perm (List.range 6) by decide) rfl) (cb_Script_init l G q5 ) ⟨va_cnB 0 hts (good_C w_code_Script_init) rfl rfl rfl (hK.2.1 _ (List.mem_of_getElem? (i := 3) rfl)) (hts _ w_ini_Script) yd_Script_init ⟨by decide, by decide⟩, rfl, hts _ w_im_Script_init⟩ rfl rfl (Nat.le_of_ble_eq_true rfl) d_TC_init_28 ⟨by decide, by decide⟩ (fun v w' hp => by obtain ⟨-, -, -, rfl⟩ := hp; exact Nat.le_of_ble_eq_true rfl) (fun v w' H locs hp hW => ?_)
  obtain ⟨q6, eq7, rfl, rfl⟩ := hp
  have hW := Wd.blk (rs := [[(h0, .inr (0, [.ref q1, .int 0, .ref q2, .null, .int 0, .int 0, .null, .null, .null, .null, .null, .null, .int 0, .int 0]))], [(q1, .inl (G.2 2, 120, .inl (fun _ => 0)))], [(q2, .inr (9, [.ref (q3 0), .ref (q4 0), .int 0]))], tkB G q3 tkZ, scB G q4 scZ]) (bs := [scB G q6 scZ]) (Bs := [[(h0, .inr (0, [.ref q1, .int 0, .ref q2, .null, .int 0, .int 0, .null, .null, .null, .null, .null, .null, .int 0, .int 0]))], [(q1, .inl (G.2 2, 120, .inl (fun _ => 0)))], [(q2, .inr (9, [.ref (q3 0), .ref (q4 0), .int 0]))], scB G q6 scZ, tkB G q3 tkZ, scB G q4 scZ]) hW [0, 1, 2, 5, 3, 4] (show ([0, 1, 2, 5, 3, 4] : List Nat).Perm (List.range 6) by decide) rfl
  have eq7 : q6 0 = q5 := eq7
  have hWz := hW
  subst eq7
  have hW := hWz
  refine W.widen (k := 19) (n := 1949) (by decide) (by decide) ?_
  refine W.eq (g2 := F0 m 31 ls [.ref (q6 0), .ref h0]) rfl ?_
  refine Wd.putF (v := .ref (q6 0)) hx hb hts hown hK hW 0 3 in_TC t_TC_ok n_TC w_fl_TC_23 (by decide) d_TC_init_31 rfl rfl rfl hnm rfl rfl rfl (Nat.le_of_ble_eq_true rfl) (fun H locs hW => ?_)
  have hW : Wd G A s.heap (bj [[(h0, .inr (0, [.ref q1, .int 0, .ref q2, .ref (q6 0), .int 0, .int 0, .null, .null, .null, .null, .null, .null, .int 0, .int 0]))], [(q1, .inl (G.2 2, 120, .inl (fun _ => 0)))], [(q2, .inr (9, [.ref (q3 0), .ref (q4 0), .int 0]))], scB G q6 scZ, tkB G q3 tkZ, scB G q4 scZ]) H locs := hW
  refine lv_aload_n hx hb d_TC_init_34 rfl (lv_at hl 0 rfl) ?_
  refine lv_iconst (v := (-1)) hx hb d_TC_init_35 (by decide) ?_
  refine Wd.put (v := .int (-1)) hx hb hts hown hK hW 0 5 in_TC t_TC_ok n_TC w_fl_TC_27 (by decide) d_TC_init_36 rfl rfl rfl rfl rfl (Nat.le_of_ble_eq_true rfl) (fun H locs hW => ?_)
  have hW : Wd G A s.heap (bj [[(h0, .inr (0, [.ref q1, .int 0, .ref q2, .ref (q6 0), .int 0, .int (-1), .null, .null, .null, .null, .null, .null, .int 0, .int 0]))], [(q1, .inl (G.2 2, 120, .inl (fun _ => 0)))], [(q2, .inr (9, [.ref (q3 0), .ref (q4 0), .int 0]))], scB G q6 scZ, tkB G q3 tkZ, scB G q4 scZ]) H locs := hW
  refine lv_aload_n hx hb d_TC_init_39 rfl (lv_at hl 0 rfl) ?_
  refine lv_bipush (v := 8) hx hb d_TC_init_40 (by decide) ?_
  refine Wd.newa (ty := .int) (N' := 8) (a0 := (8, .inl (fun _ => 0))) hx hb hts hK hA hW 0 w_arr_int d_TC_init_42 rfl rfl (fun _ _ h => h) (fun _ => rfl) (by decide) (by decide) (by decide) (by decide) (by decide) (fun q8 H hW => ?_)
  have hW := Wd.blk (rs := [[(h0, .inr (0, [.ref q1, .int 0, .ref q2, .ref (q6 0), .int 0, .int (-1), .null, .null, .null, .null, .null, .null, .int 0, .int 0]))], [(q1, .inl (G.2 2, 120, .inl (fun _ => 0)))], [(q2, .inr (9, [.ref (q3 0), .ref (q4 0), .int 0]))], scB G q6 scZ, tkB G q3 tkZ, scB G q4 scZ]) (bs := [[(q8, .inl (G.2 0, 8, .inl (fun _ => 0)))]]) (Bs := [[(h0, .inr (0, [.ref q1, .int 0, .ref q2, .ref (q6 0), .int 0, .int (-1), .null, .null, .null, .null, .null, .null, .int 0, .int 0]))], [(q1, .inl (G.2 2, 120, .inl (fun _ => 0)))], [(q2, .inr (9, [.ref (q3 0), .ref (q4 0), .int 0]))], [(q8, .inl (G.2 0, 8, .inl (fun _ => 0)))], scB G q6 scZ, tkB G q3 tkZ, scB G q4 scZ]) hW [0, 1, 2, 6, 3, 4, 5] (show ([0, 1, 2, 6, 3, 4, 5] : List Nat).Perm (List.range 7) by decide) rfl
  have hW : Wd G A s.heap (bj [[(h0, .inr (0, [.ref q1, .int 0, .ref q2, .ref (q6 0), .int 0, .int (-1), .null, .null, .null, .null, .null, .null, .int 0, .int 0]))], [(q1, .inl (G.2 2, 120, .inl (fun _ => 0)))], [(q2, .inr (9, [.ref (q3 0), .ref (q4 0), .int 0]))], [(q8, .inl (G.2 0, 8, .inl (fun _ => 0)))], scB G q6 scZ, tkB G q3 tkZ, scB G q4 scZ]) H locs := hW
  refine W.widen (k := 20) (n := 1957) (by decide) (by decide) ?_
  refine Wd.putF (v := .ref q8) hx hb hts hown hK hW 0 6 in_TC t_TC_ok n_TC w_fl_TC_31 (by decide) d_TC_init_44 rfl rfl rfl hnm rfl rfl rfl (Nat.le_of_ble_eq_true rfl) (fun H locs hW => ?_)
  have hW : Wd G A s.heap (bj [[(h0, .inr (0, [.ref q1, .int 0, .ref q2, .ref (q6 0), .int 0, .int (-1), .ref q8, .null, .null, .null, .null, .null, .int 0, .int 0]))], [(q1, .inl (G.2 2, 120, .inl (fun _ => 0)))], [(q2, .inr (9, [.ref (q3 0), .ref (q4 0), .int 0]))], [(q8, .inl (G.2 0, 8, .inl (fun _ => 0)))], scB G q6 scZ, tkB G q3 tkZ, scB G q4 scZ]) H locs := hW
  refine lv_aload_n hx hb d_TC_init_47 rfl (lv_at hl 0 rfl) ?_
  refine lv_bipush (v := 8) hx hb d_TC_init_48 (by decide) ?_
  refine Wd.newa (ty := .boolean) (N' := 8) (a0 := (8, .inl (fun _ => 0))) hx hb hts hK hA hW 3 w_arr_boolean d_TC_init_50 rfl rfl (fun _ _ h => h) (fun _ => rfl) (by decide) (by decide) (by decide) (by decide) (by decide) (fun q9 H hW => ?_)
  have hW := Wd.blk (rs := [[(h0, .inr (0, [.ref q1, .int 0, .ref q2, .ref (q6 0), .int 0, .int (-1), .ref q8, .null, .null, .null, .null, .null, .int 0, .int 0]))], [(q1, .inl (G.2 2, 120, .inl (fun _ => 0)))], [(q2, .inr (9, [.ref (q3 0), .ref (q4 0), .int 0]))], [(q8, .inl (G.2 0, 8, .inl (fun _ => 0)))], scB G q6 scZ, tkB G q3 tkZ, scB G q4 scZ]) (bs := [[(q9, .inl (G.2 3, 8, .inl (fun _ => 0)))]]) (Bs := [[(h0, .inr (0, [.ref q1, .int 0, .ref q2, .ref (q6 0), .int 0, .int (-1), .ref q8, .null, .null, .null, .null, .null, .int 0, .int 0]))], [(q1, .inl (G.2 2, 120, .inl (fun _ => 0)))], [(q2, .inr (9, [.ref (q3 0), .ref (q4 0), .int 0]))], [(q8, .inl (G.2 0, 8, .inl (fun _ => 0)))], [(q9, .inl (G.2 3, 8, .inl (fun _ => 0)))], scB G q6 scZ, tkB G q3 tkZ, scB G q4 scZ]) hW [0, 1, 2, 3, 7, 4, 5, 6] (show ([0, 1, 2, 3, 7, 4, 5, 6] : List Nat).Perm (List.range 8) by decide) rfl
  have hW : Wd G A s.heap (bj [[(h0, .inr (0, [.ref q1, .int 0, .ref q2, .ref (q6 0), .int 0, .int (-1), .ref q8, .null, .null, .null, .null, .null, .int 0, .int 0]))], [(q1, .inl (G.2 2, 120, .inl (fun _ => 0)))], [(q2, .inr (9, [.ref (q3 0), .ref (q4 0), .int 0]))], [(q8, .inl (G.2 0, 8, .inl (fun _ => 0)))], [(q9, .inl (G.2 3, 8, .inl (fun _ => 0)))], scB G q6 scZ, tkB G q3 tkZ, scB G q4 scZ]) H locs := hW
  refine W.widen (k := 21) (n := 1965) (by decide) (by decide) ?_
  refine Wd.putF (v := .ref q9) hx hb hts hown hK hW 0 7 in_TC t_TC_ok n_TC w_fl_TC_35 (by decide) d_TC_init_52 rfl rfl rfl hnm rfl rfl rfl (Nat.le_of_ble_eq_true rfl) (fun H locs hW => ?_)
  have hW : Wd G A s.heap (bj [[(h0, .inr (0, [.ref q1, .int 0, .ref q2, .ref (q6 0), .int 0, .int (-1), .ref q8, .ref q9, .null, .null, .null, .null, .int 0, .int 0]))], [(q1, .inl (G.2 2, 120, .inl (fun _ => 0)))], [(q2, .inr (9, [.ref (q3 0), .ref (q4 0), .int 0]))], [(q8, .inl (G.2 0, 8, .inl (fun _ => 0)))], [(q9, .inl (G.2 3, 8, .inl (fun _ => 0)))], scB G q6 scZ, tkB G q3 tkZ, scB G q4 scZ]) H locs := hW
  refine lv_aload_n hx hb d_TC_init_55 rfl (lv_at hl 0 rfl) ?_
  refine lv_iconst (v := 3) hx hb d_TC_init_56 (by decide) ?_
  refine Wd.newa (ty := .long) (N' := 3) (a0 := (3, .inr (.inl (fun _ => 0)))) hx hb hts hK hA hW 1 w_arr_long d_TC_init_57 rfl rfl (fun _ _ h => h) (fun _ => rfl) (by decide) (by decide) (by decide) (by decide) (by decide) (fun q10 H hW => ?_)
  have hW := Wd.blk (rs := [[(h0, .inr (0, [.ref q1, .int 0, .ref q2, .ref (q6 0), .int 0, .int (-1), .ref q8, .ref q9, .null, .null, .null, .null, .int 0, .int 0]))], [(q1, .inl (G.2 2, 120, .inl (fun _ => 0)))], [(q2, .inr (9, [.ref (q3 0), .ref (q4 0), .int 0]))], [(q8, .inl (G.2 0, 8, .inl (fun _ => 0)))], [(q9, .inl (G.2 3, 8, .inl (fun _ => 0)))], scB G q6 scZ, tkB G q3 tkZ, scB G q4 scZ]) (bs := [[(q10, .inl (G.2 1, 3, .inr (.inl (fun _ => 0))))]]) (Bs := [[(h0, .inr (0, [.ref q1, .int 0, .ref q2, .ref (q6 0), .int 0, .int (-1), .ref q8, .ref q9, .null, .null, .null, .null, .int 0, .int 0]))], [(q1, .inl (G.2 2, 120, .inl (fun _ => 0)))], [(q2, .inr (9, [.ref (q3 0), .ref (q4 0), .int 0]))], [(q8, .inl (G.2 0, 8, .inl (fun _ => 0)))], [(q9, .inl (G.2 3, 8, .inl (fun _ => 0)))], [(q10, .inl (G.2 1, 3, .inr (.inl (fun _ => 0))))], scB G q6 scZ, tkB G q3 tkZ, scB G q4 scZ]) hW [0, 1, 2, 3, 4, 8, 5, 6, 7] (show ([0, 1, 2, 3, 4, 8, 5, 6, 7] : List Nat).Perm (List.range 9) by decide) rfl
  have hW : Wd G A s.heap (bj [[(h0, .inr (0, [.ref q1, .int 0, .ref q2, .ref (q6 0), .int 0, .int (-1), .ref q8, .ref q9, .null, .null, .null, .null, .int 0, .int 0]))], [(q1, .inl (G.2 2, 120, .inl (fun _ => 0)))], [(q2, .inr (9, [.ref (q3 0), .ref (q4 0), .int 0]))], [(q8, .inl (G.2 0, 8, .inl (fun _ => 0)))], [(q9, .inl (G.2 3, 8, .inl (fun _ => 0)))], [(q10, .inl (G.2 1, 3, .inr (.inl (fun _ => 0))))], scB G q6 scZ, tkB G q3 tkZ, scB G q4 scZ]) H locs := hW
  refine W.widen (k := 22) (n := 1968) (by decide) (by decide) ?_
  refine Wd.putF (v := .ref q10) hx hb hts hown hK hW 0 8 in_TC t_TC_ok n_TC w_fl_TC_39 (by decide) d_TC_init_59 rfl rfl rfl hnm rfl rfl rfl (Nat.le_of_ble_eq_true rfl) (fun H locs hW => ?_)
  have hW : Wd G A s.heap (bj [[(h0, .inr (0, [.ref q1, .int 0, .ref q2, .ref (q6 0), .int 0, .int (-1), .ref q8, .ref q9, .ref q10, .null, .null, .null, .int 0, .int 0]))], [(q1, .inl (G.2 2, 120, .inl (fun _ => 0)))], [(q2, .inr (9, [.ref (q3 0), .ref (q4 0), .int 0]))], [(q8, .inl (G.2 0, 8, .inl (fun _ => 0)))], [(q9, .inl (G.2 3, 8, .inl (fun _ => 0)))], [(q10, .inl (G.2 1, 3, .inr (.inl (fun _ => 0))))], scB G q6 scZ, tkB G q3 tkZ, scB G q4 scZ]) H locs := hW
  refine lv_aload_n hx hb d_TC_init_62 rfl (lv_at hl 0 rfl) ?_
  refine lv_iconst (v := 3) hx hb d_TC_init_63 (by decide) ?_
  refine Wd.newa (ty := .boolean) (N' := 3) (a0 := (3, .inl (fun _ => 0))) hx hb hts hK hA hW 3 w_arr_boolean d_TC_init_64 rfl rfl (fun _ _ h => h) (fun _ => rfl) (by decide) (by decide) (by decide) (by decide) (by decide) (fun q11 H hW => ?_)
  have hW := Wd.blk (rs := [[(h0, .inr (0, [.ref q1, .int 0, .ref q2, .ref (q6 0), .int 0, .int (-1), .ref q8, .ref q9, .ref q10, .null, .null, .null, .int 0, .int 0]))], [(q1, .inl (G.2 2, 120, .inl (fun _ => 0)))], [(q2, .inr (9, [.ref (q3 0), .ref (q4 0), .int 0]))], [(q8, .inl (G.2 0, 8, .inl (fun _ => 0)))], [(q9, .inl (G.2 3, 8, .inl (fun _ => 0)))], [(q10, .inl (G.2 1, 3, .inr (.inl (fun _ => 0))))], scB G q6 scZ, tkB G q3 tkZ, scB G q4 scZ]) (bs := [[(q11, .inl (G.2 3, 3, .inl (fun _ => 0)))]]) (Bs := [[(h0, .inr (0, [.ref q1, .int 0, .ref q2, .ref (q6 0), .int 0, .int (-1), .ref q8, .ref q9, .ref q10, .null, .null, .null, .int 0, .int 0]))], [(q1, .inl (G.2 2, 120, .inl (fun _ => 0)))], [(q2, .inr (9, [.ref (q3 0), .ref (q4 0), .int 0]))], [(q8, .inl (G.2 0, 8, .inl (fun _ => 0)))], [(q9, .inl (G.2 3, 8, .inl (fun _ => 0)))], [(q10, .inl (G.2 1, 3, .inr (.inl (fun _ => 0))))], [(q11, .inl (G.2 3, 3, .inl (fun _ => 0)))], scB G q6 scZ, tkB G q3 tkZ, scB G q4 scZ]) hW [0, 1, 2, 3, 4, 5, 9, 6, 7, 8] (show ([0, 1, 2, 3, 4, 5, 9, 6, 7, 8] : List Nat).Perm (List.range 10) by decide) rfl
  have hW : Wd G A s.heap (bj [[(h0, .inr (0, [.ref q1, .int 0, .ref q2, .ref (q6 0), .int 0, .int (-1), .ref q8, .ref q9, .ref q10, .null, .null, .null, .int 0, .int 0]))], [(q1, .inl (G.2 2, 120, .inl (fun _ => 0)))], [(q2, .inr (9, [.ref (q3 0), .ref (q4 0), .int 0]))], [(q8, .inl (G.2 0, 8, .inl (fun _ => 0)))], [(q9, .inl (G.2 3, 8, .inl (fun _ => 0)))], [(q10, .inl (G.2 1, 3, .inr (.inl (fun _ => 0))))], [(q11, .inl (G.2 3, 3, .inl (fun _ => 0)))], scB G q6 scZ, tkB G q3 tkZ, scB G q4 scZ]) H locs := hW
  refine W.widen (k := 23) (n := 1971) (by decide) (by decide) ?_
  refine Wd.putF (v := .ref q11) hx hb hts hown hK hW 0 9 in_TC t_TC_ok n_TC w_fl_TC_43 (by decide) d_TC_init_66 rfl rfl rfl hnm rfl rfl rfl (Nat.le_of_ble_eq_true rfl) (fun H locs hW => ?_)
  have hW : Wd G A s.heap (bj [[(h0, .inr (0, [.ref q1, .int 0, .ref q2, .ref (q6 0), .int 0, .int (-1), .ref q8, .ref q9, .ref q10, .ref q11, .null, .null, .int 0, .int 0]))], [(q1, .inl (G.2 2, 120, .inl (fun _ => 0)))], [(q2, .inr (9, [.ref (q3 0), .ref (q4 0), .int 0]))], [(q8, .inl (G.2 0, 8, .inl (fun _ => 0)))], [(q9, .inl (G.2 3, 8, .inl (fun _ => 0)))], [(q10, .inl (G.2 1, 3, .inr (.inl (fun _ => 0))))], [(q11, .inl (G.2 3, 3, .inl (fun _ => 0)))], scB G q6 scZ, tkB G q3 tkZ, scB G q4 scZ]) H locs := hW
  refine lv_aload_n hx hb d_TC_init_69 rfl (lv_at hl 0 rfl) ?_
  refine Wd.new (ci := 5) (fs := [.null, .null, .long 0]) (ty0 := t_Office) hx hb hts hown hK hA hW in_Office t_Office_ok w_cl_TC_46 w_nb_Office w_ini_Office d_TC_init_70 rfl z_Office (by decide) (by decide) (fun q12 H hW => ?_)
  have hW := Wd.blk (rs := [[(h0, .inr (0, [.ref q1, .int 0, .ref q2, .ref (q6 0), .int 0, .int (-1), .ref q8, .ref q9, .ref q10, .ref q11, .null, .null, .int 0, .int 0]))], [(q1, .inl (G.2 2, 120, .inl (fun _ => 0)))], [(q2, .inr (9, [.ref (q3 0), .ref (q4 0), .int 0]))], [(q8, .inl (G.2 0, 8, .inl (fun _ => 0)))], [(q9, .inl (G.2 3, 8, .inl (fun _ => 0)))], [(q10, .inl (G.2 1, 3, .inr (.inl (fun _ => 0))))], [(q11, .inl (G.2 3, 3, .inl (fun _ => 0)))], scB G q6 scZ, tkB G q3 tkZ, scB G q4 scZ]) (bs := [[(q12, .inr (5, [.null, .null, .long 0]))]]) (Bs := [[(h0, .inr (0, [.ref q1, .int 0, .ref q2, .ref (q6 0), .int 0, .int (-1), .ref q8, .ref q9, .ref q10, .ref q11, .null, .null, .int 0, .int 0]))], [(q1, .inl (G.2 2, 120, .inl (fun _ => 0)))], [(q2, .inr (9, [.ref (q3 0), .ref (q4 0), .int 0]))], [(q8, .inl (G.2 0, 8, .inl (fun _ => 0)))], [(q9, .inl (G.2 3, 8, .inl (fun _ => 0)))], [(q10, .inl (G.2 1, 3, .inr (.inl (fun _ => 0))))], [(q11, .inl (G.2 3, 3, .inl (fun _ => 0)))], [(q12, .inr (5, [.null, .null, .long 0]))], scB G q6 scZ, tkB G q3 tkZ, scB G q4 scZ]) hW [0, 1, 2, 3, 4, 5, 6, 10, 7, 8, 9] (show ([0, 1, 2, 3, 4, 5, 6, 10, 7, 8, 9] : List Nat).Perm (List.range 11) by decide) rfl
  have hW : Wd G A s.heap (bj [[(h0, .inr (0, [.ref q1, .int 0, .ref q2, .ref (q6 0), .int 0, .int (-1), .ref q8, .ref q9, .ref q10, .ref q11, .null, .null, .int 0, .int 0]))], [(q1, .inl (G.2 2, 120, .inl (fun _ => 0)))], [(q2, .inr (9, [.ref (q3 0), .ref (q4 0), .int 0]))], [(q8, .inl (G.2 0, 8, .inl (fun _ => 0)))], [(q9, .inl (G.2 3, 8, .inl (fun _ => 0)))], [(q10, .inl (G.2 1, 3, .inr (.inl (fun _ => 0))))], [(q11, .inl (G.2 3, 3, .inl (fun _ => 0)))], [(q12, .inr (5, [.null, .null, .long 0]))], scB G q6 scZ, tkB G q3 tkZ, scB G q4 scZ]) H locs := hW
  refine W.widen (k := 24) (n := 1974) (by decide) (by decide) ?_
  refine lv_dup hx hb d_TC_init_73 rfl ?_
  refine Ct.callIB (As := []) (rest := [.ref q12, .ref h0]) (wr := bj [[(h0, .inr (0, [.ref q1, .int 0, .ref q2, .ref (q6 0), .int 0, .int (-1), .ref q8, .ref q9, .ref q10, .ref q11, .null, .null, .int 0, .int 0]))], [(q1, .inl (G.2 2, 120, .inl (fun _ => 0)))], [(q2, .inr (9, [.ref (q3 0), .ref (q4 0), .int 0]))], [(q8, .inl (G.2 0, 8, .inl (fun _ => 0)))], [(q9, .inl (G.2 3, 8, .inl (fun _ => 0)))], [(q10, .inl (G.2 1, 3, .inr (.inl (fun _ => 0))))], [(q11, .inl (G.2 3, 3, .inl (fun _ => 0)))], scB G q6 scZ, tkB G q3 tkZ, scB G q4 scZ]) hx hb hml hown hts hK hA hl.1 hW (bl_pick (bs := [[(q12, .inr (5, [.null, .null, .long 0]))]]) (rs := [[(h0, .inr (0, [.ref q1, .int 0, .ref q2, .ref (q6 0), .int 0, .int (-1), .ref q8, .ref q9, .ref q10, .ref q11, .null, .null, .int 0, .int 0]))], [(q1, .inl (G.2 2, 120, .inl (fun _ => 0)))], [(q2, .inr (9, [.ref (q3 0), .ref (q4 0), .int 0]))], [(q8, .inl (G.2 0, 8, .inl (fun _ => 0)))], [(q9, .inl (G.2 3, 8, .inl (fun _ => 0)))], [(q10, .inl (G.2 1, 3, .inr (.inl (fun _ => 0))))], [(q11, .inl (G.2 3, 3, .inl (fun _ => 0)))], scB G q6 scZ, tkB G q3 tkZ, scB G q4 scZ]) (Bs := [[(h0, .inr (0, [.ref q1, .int 0, .ref q2, .ref (q6 0), .int 0, .int (-1), .ref q8, .ref q9, .ref q10, .ref q11, .null, .null, .int 0, .int 0]))], [(q1, .inl (G.2 2, 120, .inl (fun _ => 0)))], [(q2, .inr (9, [.ref (q3 0), .ref (q4 0), .int 0]))], [(q8, .inl (G.2 0, 8, .inl (fun _ => 0)))], [(q9, .inl (G.2 3, 8, .inl (fun _ => 0)))], [(q10, .inl (G.2 1, 3, .inr (.inl (fun _ => 0))))], [(q11, .inl (G.2 3, 3, .inl (fun _ => 0)))], [(q12, .inr (5, [.null, .null, .long 0]))], scB G q6 scZ, tkB G q3 tkZ, scB G q4 scZ]) [7, 0, 1, 2, 3, 4, 5, 6, 8, 9, 10] (show ([7, 0, 1, 2, 3, 4, 5, 6, 8, 9, 10] : List Nat).Perm (List.range 11) by decide) rfl) (c_Office_init l G q12 ) (cwI 0 hts (good_C w_code_Office_init) rfl rfl rfl (hts _ w_ini_Office) (hts _ w_ml_TC_48) (hts _ w_im_Office_init) rfl yd_Office_init ⟨by decide, by decide⟩) rfl rfl (Nat.le_of_ble_eq_true rfl) d_TC_init_74 ⟨by decide, by decide⟩ (fun v w' hp => by obtain ⟨-, -, -, -, -, -, rfl⟩ := hp; exact Nat.le_of_ble_eq_true rfl) (fun v w' H locs hp hW => ?_)
  obtain ⟨q13, q14, q15, q16, q17, rfl, rfl⟩ := hp
  have hW := Wd.blk (rs := [[(h0, .inr (0, [.ref q1, .int 0, .ref q2, .ref (q6 0), .int 0, .int (-1), .ref q8, .ref q9, .ref q10, .ref q11, .null, .null, .int 0, .int 0]))], [(q1, .inl (G.2 2, 120, .inl (fun _ => 0)))], [(q2, .inr (9, [.ref (q3 0), .ref (q4 0), .int 0]))], [(q8, .inl (G.2 0, 8, .inl (fun _ => 0)))], [(q9, .inl (G.2 3, 8, .inl (fun _ => 0)))], [(q10, .inl (G.2 1, 3, .inr (.inl (fun _ => 0))))], [(q11, .inl (G.2 3, 3, .inl (fun _ => 0)))], scB G q6 scZ, tkB G q3 tkZ, scB G q4 scZ]) (bs := [[(q12, .inr (5, [.ref (q17 0), .ref q13, .long 0]))], [(q13, .inl (G.2 4, 3, .inr (.inr (.inr (.inr (va_up (va_up (va_up (fun _ => none) 0 (some (q16 0))) 1 (some (q15 0))) 2 (some (q14 0))))))))], ckF G q14 (2 : Int32) ckZ0 rsZ, ckF G q15 (1 : Int32) ckZ0 rsZ, ckF G q16 (0 : Int32) ckZ0 rsZ, poB G q17 poZ]) (Bs := [[(h0, .inr (0, [.ref q1, .int 0, .ref q2, .ref (q6 0), .int 0, .int (-1), .ref q8, .ref q9, .ref q10, .ref q11, .null, .null, .int 0, .int 0]))], [(q1, .inl (G.2 2, 120, .inl (fun _ => 0)))], [(q2, .inr (9, [.ref (q3 0), .ref (q4 0), .int 0]))], [(q8, .inl (G.2 0, 8, .inl (fun _ => 0)))], [(q9, .inl (G.2 3, 8, .inl (fun _ => 0)))], [(q10, .inl (G.2 1, 3, .inr (.inl (fun _ => 0))))], [(q11, .inl (G.2 3, 3, .inl (fun _ => 0)))], [(q12, .inr (5, [.ref (q17 0), .ref q13, .long 0]))], [(q13, .inl (G.2 4, 3, .inr (.inr (.inr (.inr (va_up (va_up (va_up (fun _ => none) 0 (some (q16 0))) 1 (some (q15 0))) 2 (some (q14 0))))))))], scB G q6 scZ, tkB G q3 tkZ, scB G q4 scZ, ckF G q14 (2 : Int32) ckZ0 rsZ, ckF G q15 (1 : Int32) ckZ0 rsZ, ckF G q16 (0 : Int32) ckZ0 rsZ, poB G q17 poZ]) hW [0, 1, 2, 3, 4, 5, 6, 10, 11, 7, 8, 9, 12, 13, 14, 15] (show ([0, 1, 2, 3, 4, 5, 6, 10, 11, 7, 8, 9, 12, 13, 14, 15] : List Nat).Perm (List.range 16) by decide) rfl
  refine W.widen (k := 95) (n := 4480) (by decide) (by decide) ?_
  refine W.eq (g2 := F0 m 77 ls [.ref q12, .ref h0]) rfl ?_
  refine Wd.putF (v := .ref q12) hx hb hts hown hK hW 0 10 in_TC t_TC_ok n_TC w_fl_TC_49 (by decide) d_TC_init_77 rfl rfl rfl hnm rfl rfl rfl (Nat.le_of_ble_eq_true rfl) (fun H locs hW => ?_)
  have hW : Wd G A s.heap (bj [[(h0, .inr (0, [.ref q1, .int 0, .ref q2, .ref (q6 0), .int 0, .int (-1), .ref q8, .ref q9, .ref q10, .ref q11, .ref q12, .null, .int 0, .int 0]))], [(q1, .inl (G.2 2, 120, .inl (fun _ => 0)))], [(q2, .inr (9, [.ref (q3 0), .ref (q4 0), .int 0]))], [(q8, .inl (G.2 0, 8, .inl (fun _ => 0)))], [(q9, .inl (G.2 3, 8, .inl (fun _ => 0)))], [(q10, .inl (G.2 1, 3, .inr (.inl (fun _ => 0))))], [(q11, .inl (G.2 3, 3, .inl (fun _ => 0)))], [(q12, .inr (5, [.ref (q17 0), .ref q13, .long 0]))], [(q13, .inl (G.2 4, 3, .inr (.inr (.inr (.inr (va_up (va_up (va_up (fun _ => none) 0 (some (q16 0))) 1 (some (q15 0))) 2 (some (q14 0))))))))], scB G q6 scZ, tkB G q3 tkZ, scB G q4 scZ, ckF G q14 (2 : Int32) ckZ0 rsZ, ckF G q15 (1 : Int32) ckZ0 rsZ, ckF G q16 (0 : Int32) ckZ0 rsZ, poB G q17 poZ]) H locs := hW
  refine lv_aload_n hx hb d_TC_init_80 rfl (lv_at hl 0 rfl) ?_
  refine lv_bipush (v := 16) hx hb d_TC_init_81 (by decide) ?_
  refine Wd.newa (ty := .int) (N' := 16) (a0 := (16, .inl (fun _ => 0))) hx hb hts hK hA hW 0 w_arr_int d_TC_init_83 rfl rfl (fun _ _ h => h) (fun _ => rfl) (by decide) (by decide) (by decide) (by decide) (by decide) (fun q18 H hW => ?_)
  have hW := Wd.blk (rs := [[(h0, .inr (0, [.ref q1, .int 0, .ref q2, .ref (q6 0), .int 0, .int (-1), .ref q8, .ref q9, .ref q10, .ref q11, .ref q12, .null, .int 0, .int 0]))], [(q1, .inl (G.2 2, 120, .inl (fun _ => 0)))], [(q2, .inr (9, [.ref (q3 0), .ref (q4 0), .int 0]))], [(q8, .inl (G.2 0, 8, .inl (fun _ => 0)))], [(q9, .inl (G.2 3, 8, .inl (fun _ => 0)))], [(q10, .inl (G.2 1, 3, .inr (.inl (fun _ => 0))))], [(q11, .inl (G.2 3, 3, .inl (fun _ => 0)))], [(q12, .inr (5, [.ref (q17 0), .ref q13, .long 0]))], [(q13, .inl (G.2 4, 3, .inr (.inr (.inr (.inr (va_up (va_up (va_up (fun _ => none) 0 (some (q16 0))) 1 (some (q15 0))) 2 (some (q14 0))))))))], scB G q6 scZ, tkB G q3 tkZ, scB G q4 scZ, ckF G q14 (2 : Int32) ckZ0 rsZ, ckF G q15 (1 : Int32) ckZ0 rsZ, ckF G q16 (0 : Int32) ckZ0 rsZ, poB G q17 poZ]) (bs := [[(q18, .inl (G.2 0, 16, .inl (fun _ => 0)))]]) (Bs := [[(h0, .inr (0, [.ref q1, .int 0, .ref q2, .ref (q6 0), .int 0, .int (-1), .ref q8, .ref q9, .ref q10, .ref q11, .ref q12, .null, .int 0, .int 0]))], [(q1, .inl (G.2 2, 120, .inl (fun _ => 0)))], [(q2, .inr (9, [.ref (q3 0), .ref (q4 0), .int 0]))], [(q8, .inl (G.2 0, 8, .inl (fun _ => 0)))], [(q9, .inl (G.2 3, 8, .inl (fun _ => 0)))], [(q10, .inl (G.2 1, 3, .inr (.inl (fun _ => 0))))], [(q11, .inl (G.2 3, 3, .inl (fun _ => 0)))], [(q12, .inr (5, [.ref (q17 0), .ref q13, .long 0]))], [(q13, .inl (G.2 4, 3, .inr (.inr (.inr (.inr (va_up (va_up (va_up (fun _ => none) 0 (some (q16 0))) 1 (some (q15 0))) 2 (some (q14 0))))))))], [(q18, .inl (G.2 0, 16, .inl (fun _ => 0)))], scB G q6 scZ, tkB G q3 tkZ, scB G q4 scZ, ckF G q14 (2 : Int32) ckZ0 rsZ, ckF G q15 (1 : Int32) ckZ0 rsZ, ckF G q16 (0 : Int32) ckZ0 rsZ, poB G q17 poZ]) hW [0, 1, 2, 3, 4, 5, 6, 7, 8, 16, 9, 10, 11, 12, 13, 14, 15] (show ([0, 1, 2, 3, 4, 5, 6, 7, 8, 16, 9, 10, 11, 12, 13, 14, 15] : List Nat).Perm (List.range 17) by decide) rfl
  have hW : Wd G A s.heap (bj [[(h0, .inr (0, [.ref q1, .int 0, .ref q2, .ref (q6 0), .int 0, .int (-1), .ref q8, .ref q9, .ref q10, .ref q11, .ref q12, .null, .int 0, .int 0]))], [(q1, .inl (G.2 2, 120, .inl (fun _ => 0)))], [(q2, .inr (9, [.ref (q3 0), .ref (q4 0), .int 0]))], [(q8, .inl (G.2 0, 8, .inl (fun _ => 0)))], [(q9, .inl (G.2 3, 8, .inl (fun _ => 0)))], [(q10, .inl (G.2 1, 3, .inr (.inl (fun _ => 0))))], [(q11, .inl (G.2 3, 3, .inl (fun _ => 0)))], [(q12, .inr (5, [.ref (q17 0), .ref q13, .long 0]))], [(q13, .inl (G.2 4, 3, .inr (.inr (.inr (.inr (va_up (va_up (va_up (fun _ => none) 0 (some (q16 0))) 1 (some (q15 0))) 2 (some (q14 0))))))))], [(q18, .inl (G.2 0, 16, .inl (fun _ => 0)))], scB G q6 scZ, tkB G q3 tkZ, scB G q4 scZ, ckF G q14 (2 : Int32) ckZ0 rsZ, ckF G q15 (1 : Int32) ckZ0 rsZ, ckF G q16 (0 : Int32) ckZ0 rsZ, poB G q17 poZ]) H locs := hW
  refine W.widen (k := 96) (n := 4496) (by decide) (by decide) ?_
  refine Wd.putF (v := .ref q18) hx hb hts hown hK hW 0 11 in_TC t_TC_ok n_TC w_fl_TC_53 (by decide) d_TC_init_85 rfl rfl rfl hnm rfl rfl rfl (Nat.le_of_ble_eq_true rfl) (fun H locs hW => ?_)
  have hW : Wd G A s.heap (bj [[(h0, .inr (0, [.ref q1, .int 0, .ref q2, .ref (q6 0), .int 0, .int (-1), .ref q8, .ref q9, .ref q10, .ref q11, .ref q12, .ref q18, .int 0, .int 0]))], [(q1, .inl (G.2 2, 120, .inl (fun _ => 0)))], [(q2, .inr (9, [.ref (q3 0), .ref (q4 0), .int 0]))], [(q8, .inl (G.2 0, 8, .inl (fun _ => 0)))], [(q9, .inl (G.2 3, 8, .inl (fun _ => 0)))], [(q10, .inl (G.2 1, 3, .inr (.inl (fun _ => 0))))], [(q11, .inl (G.2 3, 3, .inl (fun _ => 0)))], [(q12, .inr (5, [.ref (q17 0), .ref q13, .long 0]))], [(q13, .inl (G.2 4, 3, .inr (.inr (.inr (.inr (va_up (va_up (va_up (fun _ => none) 0 (some (q16 0))) 1 (some (q15 0))) 2 (some (q14 0))))))))], [(q18, .inl (G.2 0, 16, .inl (fun _ => 0)))], scB G q6 scZ, tkB G q3 tkZ, scB G q4 scZ, ckF G q14 (2 : Int32) ckZ0 rsZ, ckF G q15 (1 : Int32) ckZ0 rsZ, ckF G q16 (0 : Int32) ckZ0 rsZ, poB G q17 poZ]) H locs := hW
  exact Ct.vret hx hb hr hnl hW (by decide) (by decide) d_TC_init_88 ⟨q1, q2, q8, q9, q10, q11, q12, q13, q18, q6, q3, q4, q14, q15, q16, q17, rfl, rfl⟩

