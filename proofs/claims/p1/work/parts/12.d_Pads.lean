theorem d_Pads_init_0 : decode b_Pads_init 0 = .ok (.aload_n 0, 1) := by decide +kernel
theorem d_Pads_init_1 : decode b_Pads_init 1 = .ok (.invokespecial 3, 3) := by decide +kernel
theorem d_Pads_init_4 : decode b_Pads_init 4 = .ok (.return_, 1) := by decide +kernel
theorem d_Pads_set_0 : decode b_Pads_set 0 = .ok (.aload_n 0, 1) := by decide +kernel
theorem d_Pads_set_1 : decode b_Pads_set 1 = .ok (.lload_n 1, 1) := by decide +kernel
theorem d_Pads_set_2 : decode b_Pads_set 2 = .ok (.putfield 9, 3) := by decide +kernel
theorem d_Pads_set_5 : decode b_Pads_set 5 = .ok (.aload_n 0, 1) := by decide +kernel
theorem d_Pads_set_6 : decode b_Pads_set 6 = .ok (.lload_n 3, 1) := by decide +kernel
theorem d_Pads_set_7 : decode b_Pads_set 7 = .ok (.putfield 15, 3) := by decide +kernel
theorem d_Pads_set_10 : decode b_Pads_set 10 = .ok (.aload_n 0, 1) := by decide +kernel
theorem d_Pads_set_11 : decode b_Pads_set 11 = .ok (.iload 5, 2) := by decide +kernel
theorem d_Pads_set_13 : decode b_Pads_set 13 = .ok (.putfield 18, 3) := by decide +kernel
theorem d_Pads_set_16 : decode b_Pads_set 16 = .ok (.return_, 1) := by decide +kernel
theorem d_Pads_difference_0 : decode b_Pads_difference 0 = .ok (.aload_n 0, 1) := by decide +kernel
theorem d_Pads_difference_1 : decode b_Pads_difference 1 = .ok (.getfield 9, 3) := by decide +kernel
theorem d_Pads_difference_4 : decode b_Pads_difference 4 = .ok (.aload_n 0, 1) := by decide +kernel
theorem d_Pads_difference_5 : decode b_Pads_difference 5 = .ok (.getfield 18, 3) := by decide +kernel
theorem d_Pads_difference_8 : decode b_Pads_difference 8 = .ok (.iload_n 1, 1) := by decide +kernel
theorem d_Pads_difference_9 : decode b_Pads_difference 9 = .ok (.invokestatic 22, 3) := by decide +kernel
theorem d_Pads_difference_12 : decode b_Pads_difference 12 = .ok (.aload_n 0, 1) := by decide +kernel
theorem d_Pads_difference_13 : decode b_Pads_difference 13 = .ok (.getfield 15, 3) := by decide +kernel
theorem d_Pads_difference_16 : decode b_Pads_difference 16 = .ok (.aload_n 0, 1) := by decide +kernel
theorem d_Pads_difference_17 : decode b_Pads_difference 17 = .ok (.getfield 18, 3) := by decide +kernel
theorem d_Pads_difference_20 : decode b_Pads_difference 20 = .ok (.iload_n 1, 1) := by decide +kernel
theorem d_Pads_difference_21 : decode b_Pads_difference 21 = .ok (.invokestatic 22, 3) := by decide +kernel
theorem d_Pads_difference_24 : decode b_Pads_difference 24 = .ok (.lsub, 1) := by decide +kernel
theorem d_Pads_difference_25 : decode b_Pads_difference 25 = .ok (.lreturn, 1) := by decide +kernel
theorem d_Pads_xor_0 : decode b_Pads_xor 0 = .ok (.aload_n 0, 1) := by decide +kernel
theorem d_Pads_xor_1 : decode b_Pads_xor 1 = .ok (.getfield 9, 3) := by decide +kernel
theorem d_Pads_xor_4 : decode b_Pads_xor 4 = .ok (.aload_n 0, 1) := by decide +kernel
theorem d_Pads_xor_5 : decode b_Pads_xor 5 = .ok (.getfield 18, 3) := by decide +kernel
theorem d_Pads_xor_8 : decode b_Pads_xor 8 = .ok (.iload_n 1, 1) := by decide +kernel
theorem d_Pads_xor_9 : decode b_Pads_xor 9 = .ok (.invokestatic 22, 3) := by decide +kernel
theorem d_Pads_xor_12 : decode b_Pads_xor 12 = .ok (.aload_n 0, 1) := by decide +kernel
theorem d_Pads_xor_13 : decode b_Pads_xor 13 = .ok (.getfield 15, 3) := by decide +kernel
theorem d_Pads_xor_16 : decode b_Pads_xor 16 = .ok (.aload_n 0, 1) := by decide +kernel
theorem d_Pads_xor_17 : decode b_Pads_xor 17 = .ok (.getfield 18, 3) := by decide +kernel
theorem d_Pads_xor_20 : decode b_Pads_xor 20 = .ok (.iload_n 1, 1) := by decide +kernel
theorem d_Pads_xor_21 : decode b_Pads_xor 21 = .ok (.invokestatic 22, 3) := by decide +kernel
theorem d_Pads_xor_24 : decode b_Pads_xor 24 = .ok (.lxor, 1) := by decide +kernel
theorem d_Pads_xor_25 : decode b_Pads_xor 25 = .ok (.lreturn, 1) := by decide +kernel
theorem d_Pads_key_0 : decode b_Pads_key 0 = .ok (.iload_n 1, 1) := by decide +kernel
theorem d_Pads_key_1 : decode b_Pads_key 1 = .ok (.i2l, 1) := by decide +kernel
theorem d_Pads_key_2 : decode b_Pads_key 2 = .ok (.bipush 32, 2) := by decide +kernel
theorem d_Pads_key_4 : decode b_Pads_key 4 = .ok (.lshl, 1) := by decide +kernel
theorem d_Pads_key_5 : decode b_Pads_key 5 = .ok (.iload_n 2, 1) := by decide +kernel
theorem d_Pads_key_6 : decode b_Pads_key 6 = .ok (.i2l, 1) := by decide +kernel
theorem d_Pads_key_7 : decode b_Pads_key 7 = .ok (.ldc2_w 26, 3) := by decide +kernel
theorem d_Pads_key_10 : decode b_Pads_key 10 = .ok (.land, 1) := by decide +kernel
theorem d_Pads_key_11 : decode b_Pads_key 11 = .ok (.lor, 1) := by decide +kernel
theorem d_Pads_key_12 : decode b_Pads_key 12 = .ok (.iload_n 0, 1) := by decide +kernel
theorem d_Pads_key_13 : decode b_Pads_key 13 = .ok (.i2l, 1) := by decide +kernel
theorem d_Pads_key_14 : decode b_Pads_key 14 = .ok (.ldc2_w 28, 3) := by decide +kernel
theorem d_Pads_key_17 : decode b_Pads_key 17 = .ok (.lmul, 1) := by decide +kernel
theorem d_Pads_key_18 : decode b_Pads_key 18 = .ok (.ladd, 1) := by decide +kernel
theorem d_Pads_key_19 : decode b_Pads_key 19 = .ok (.lreturn, 1) := by decide +kernel
theorem d_Pads_pad_0 : decode b_Pads_pad 0 = .ok (.iload_n 2, 1) := by decide +kernel
theorem d_Pads_pad_1 : decode b_Pads_pad 1 = .ok (.i2l, 1) := by decide +kernel
theorem d_Pads_pad_2 : decode b_Pads_pad 2 = .ok (.bipush 32, 2) := by decide +kernel
theorem d_Pads_pad_4 : decode b_Pads_pad 4 = .ok (.lshl, 1) := by decide +kernel
theorem d_Pads_pad_5 : decode b_Pads_pad 5 = .ok (.iload_n 3, 1) := by decide +kernel
theorem d_Pads_pad_6 : decode b_Pads_pad 6 = .ok (.i2l, 1) := by decide +kernel
theorem d_Pads_pad_7 : decode b_Pads_pad 7 = .ok (.lor, 1) := by decide +kernel
theorem d_Pads_pad_8 : decode b_Pads_pad 8 = .ok (.lstore 4, 2) := by decide +kernel
theorem d_Pads_pad_10 : decode b_Pads_pad 10 = .ok (.lload 4, 2) := by decide +kernel
theorem d_Pads_pad_12 : decode b_Pads_pad 12 = .ok (.lload_n 0, 1) := by decide +kernel
theorem d_Pads_pad_13 : decode b_Pads_pad 13 = .ok (.lxor, 1) := by decide +kernel
theorem d_Pads_pad_14 : decode b_Pads_pad 14 = .ok (.invokestatic 30, 3) := by decide +kernel
theorem d_Pads_pad_17 : decode b_Pads_pad 17 = .ok (.lload_n 0, 1) := by decide +kernel
theorem d_Pads_pad_18 : decode b_Pads_pad 18 = .ok (.bipush 29, 2) := by decide +kernel
theorem d_Pads_pad_20 : decode b_Pads_pad 20 = .ok (.invokestatic 34, 3) := by decide +kernel
theorem d_Pads_pad_23 : decode b_Pads_pad 23 = .ok (.ladd, 1) := by decide +kernel
theorem d_Pads_pad_24 : decode b_Pads_pad 24 = .ok (.invokestatic 30, 3) := by decide +kernel
theorem d_Pads_pad_27 : decode b_Pads_pad 27 = .ok (.lload_n 0, 1) := by decide +kernel
theorem d_Pads_pad_28 : decode b_Pads_pad 28 = .ok (.bipush 47, 2) := by decide +kernel
theorem d_Pads_pad_30 : decode b_Pads_pad 30 = .ok (.invokestatic 34, 3) := by decide +kernel
theorem d_Pads_pad_33 : decode b_Pads_pad 33 = .ok (.lxor, 1) := by decide +kernel
theorem d_Pads_pad_34 : decode b_Pads_pad 34 = .ok (.lreturn, 1) := by decide +kernel
theorem d_Pads_mix_0 : decode b_Pads_mix 0 = .ok (.lload_n 0, 1) := by decide +kernel
theorem d_Pads_mix_1 : decode b_Pads_mix 1 = .ok (.lload_n 0, 1) := by decide +kernel
theorem d_Pads_mix_2 : decode b_Pads_mix 2 = .ok (.bipush 30, 2) := by decide +kernel
theorem d_Pads_mix_4 : decode b_Pads_mix 4 = .ok (.lushr, 1) := by decide +kernel
theorem d_Pads_mix_5 : decode b_Pads_mix 5 = .ok (.lxor, 1) := by decide +kernel
theorem d_Pads_mix_6 : decode b_Pads_mix 6 = .ok (.ldc2_w 40, 3) := by decide +kernel
theorem d_Pads_mix_9 : decode b_Pads_mix 9 = .ok (.lmul, 1) := by decide +kernel
theorem d_Pads_mix_10 : decode b_Pads_mix 10 = .ok (.lstore_n 2, 1) := by decide +kernel
theorem d_Pads_mix_11 : decode b_Pads_mix 11 = .ok (.lload_n 2, 1) := by decide +kernel
theorem d_Pads_mix_12 : decode b_Pads_mix 12 = .ok (.lload_n 2, 1) := by decide +kernel
theorem d_Pads_mix_13 : decode b_Pads_mix 13 = .ok (.bipush 27, 2) := by decide +kernel
theorem d_Pads_mix_15 : decode b_Pads_mix 15 = .ok (.lushr, 1) := by decide +kernel
theorem d_Pads_mix_16 : decode b_Pads_mix 16 = .ok (.lxor, 1) := by decide +kernel
theorem d_Pads_mix_17 : decode b_Pads_mix 17 = .ok (.ldc2_w 42, 3) := by decide +kernel
theorem d_Pads_mix_20 : decode b_Pads_mix 20 = .ok (.lmul, 1) := by decide +kernel
theorem d_Pads_mix_21 : decode b_Pads_mix 21 = .ok (.lstore_n 2, 1) := by decide +kernel
theorem d_Pads_mix_22 : decode b_Pads_mix 22 = .ok (.lload_n 2, 1) := by decide +kernel
theorem d_Pads_mix_23 : decode b_Pads_mix 23 = .ok (.lload_n 2, 1) := by decide +kernel
theorem d_Pads_mix_24 : decode b_Pads_mix 24 = .ok (.bipush 31, 2) := by decide +kernel
theorem d_Pads_mix_26 : decode b_Pads_mix 26 = .ok (.lushr, 1) := by decide +kernel
theorem d_Pads_mix_27 : decode b_Pads_mix 27 = .ok (.lxor, 1) := by decide +kernel
theorem d_Pads_mix_28 : decode b_Pads_mix 28 = .ok (.lreturn, 1) := by decide +kernel
theorem d_JLong_rotateLeft_0 : decode b_JLong_rotateLeft 0 = .ok (.lload_n 0, 1) := by decide +kernel
theorem d_JLong_rotateLeft_1 : decode b_JLong_rotateLeft 1 = .ok (.iload_n 2, 1) := by decide +kernel
theorem d_JLong_rotateLeft_2 : decode b_JLong_rotateLeft 2 = .ok (.lshl, 1) := by decide +kernel
theorem d_JLong_rotateLeft_3 : decode b_JLong_rotateLeft 3 = .ok (.lload_n 0, 1) := by decide +kernel
theorem d_JLong_rotateLeft_4 : decode b_JLong_rotateLeft 4 = .ok (.iload_n 2, 1) := by decide +kernel
theorem d_JLong_rotateLeft_5 : decode b_JLong_rotateLeft 5 = .ok (.ineg, 1) := by decide +kernel
theorem d_JLong_rotateLeft_6 : decode b_JLong_rotateLeft 6 = .ok (.lushr, 1) := by decide +kernel
theorem d_JLong_rotateLeft_7 : decode b_JLong_rotateLeft 7 = .ok (.lor, 1) := by decide +kernel
theorem d_JLong_rotateLeft_8 : decode b_JLong_rotateLeft 8 = .ok (.lreturn, 1) := by decide +kernel
theorem d_Box_init_0 : decode b_Box_init 0 = .ok (.aload_n 0, 1) := by decide +kernel
theorem d_Box_init_1 : decode b_Box_init 1 = .ok (.invokespecial 1, 3) := by decide +kernel
theorem d_Box_init_4 : decode b_Box_init 4 = .ok (.aload_n 0, 1) := by decide +kernel
theorem d_Box_init_5 : decode b_Box_init 5 = .ok (.bipush 8, 2) := by decide +kernel
theorem d_Box_init_7 : decode b_Box_init 7 = .ok (.newarray .int, 2) := by decide +kernel
theorem d_Box_init_9 : decode b_Box_init 9 = .ok (.putfield 9, 3) := by decide +kernel
theorem d_Box_init_12 : decode b_Box_init 12 = .ok (.aload_n 0, 1) := by decide +kernel
theorem d_Box_init_13 : decode b_Box_init 13 = .ok (.bipush 8, 2) := by decide +kernel
theorem d_Box_init_15 : decode b_Box_init 15 = .ok (.newarray .long, 2) := by decide +kernel
theorem d_Box_init_17 : decode b_Box_init 17 = .ok (.putfield 13, 3) := by decide +kernel
theorem d_Box_init_20 : decode b_Box_init 20 = .ok (.return_, 1) := by decide +kernel
theorem d_Box_clear_0 : decode b_Box_clear 0 = .ok (.aload_n 0, 1) := by decide +kernel
theorem d_Box_clear_1 : decode b_Box_clear 1 = .ok (.getfield 9, 3) := by decide +kernel
theorem d_Box_clear_4 : decode b_Box_clear 4 = .ok (.iconst 0, 1) := by decide +kernel
theorem d_Box_clear_5 : decode b_Box_clear 5 = .ok (.invokestatic 17, 3) := by decide +kernel
theorem d_Box_clear_8 : decode b_Box_clear 8 = .ok (.return_, 1) := by decide +kernel
theorem d_Box_lay_0 : decode b_Box_lay 0 = .ok (.aload_n 0, 1) := by decide +kernel
theorem d_Box_lay_1 : decode b_Box_lay 1 = .ok (.getfield 9, 3) := by decide +kernel
theorem d_Box_lay_4 : decode b_Box_lay 4 = .ok (.iload_n 1, 1) := by decide +kernel
theorem d_Box_lay_5 : decode b_Box_lay 5 = .ok (.bipush 7, 2) := by decide +kernel
theorem d_Box_lay_7 : decode b_Box_lay 7 = .ok (.iand, 1) := by decide +kernel
theorem d_Box_lay_8 : decode b_Box_lay 8 = .ok (.iload_n 1, 1) := by decide +kernel
theorem d_Box_lay_9 : decode b_Box_lay 9 = .ok (.iastore, 1) := by decide +kernel
theorem d_Box_lay_10 : decode b_Box_lay 10 = .ok (.aload_n 0, 1) := by decide +kernel
theorem d_Box_lay_11 : decode b_Box_lay 11 = .ok (.getfield 13, 3) := by decide +kernel
theorem d_Box_lay_14 : decode b_Box_lay 14 = .ok (.iload_n 1, 1) := by decide +kernel
theorem d_Box_lay_15 : decode b_Box_lay 15 = .ok (.bipush 7, 2) := by decide +kernel
theorem d_Box_lay_17 : decode b_Box_lay 17 = .ok (.iand, 1) := by decide +kernel
theorem d_Box_lay_18 : decode b_Box_lay 18 = .ok (.lload_n 2, 1) := by decide +kernel
theorem d_Box_lay_19 : decode b_Box_lay 19 = .ok (.lastore, 1) := by decide +kernel
theorem d_Box_lay_20 : decode b_Box_lay 20 = .ok (.return_, 1) := by decide +kernel
theorem d_Box_has_0 : decode b_Box_has 0 = .ok (.aload_n 0, 1) := by decide +kernel
theorem d_Box_has_1 : decode b_Box_has 1 = .ok (.getfield 9, 3) := by decide +kernel
theorem d_Box_has_4 : decode b_Box_has 4 = .ok (.iload_n 1, 1) := by decide +kernel
theorem d_Box_has_5 : decode b_Box_has 5 = .ok (.bipush 7, 2) := by decide +kernel
theorem d_Box_has_7 : decode b_Box_has 7 = .ok (.iand, 1) := by decide +kernel
theorem d_Box_has_8 : decode b_Box_has 8 = .ok (.iaload, 1) := by decide +kernel
theorem d_Box_has_9 : decode b_Box_has 9 = .ok (.iload_n 1, 1) := by decide +kernel
theorem d_Box_has_10 : decode b_Box_has 10 = .ok (.if_icmp .ne 7, 3) := by decide +kernel
theorem d_Box_has_13 : decode b_Box_has 13 = .ok (.iconst 1, 1) := by decide +kernel
theorem d_Box_has_14 : decode b_Box_has 14 = .ok (.goto 4, 3) := by decide +kernel
theorem d_Box_has_17 : decode b_Box_has 17 = .ok (.iconst 0, 1) := by decide +kernel
theorem d_Box_has_18 : decode b_Box_has 18 = .ok (.ireturn, 1) := by decide +kernel
theorem d_Box_at_0 : decode b_Box_at 0 = .ok (.aload_n 0, 1) := by decide +kernel
theorem d_Box_at_1 : decode b_Box_at 1 = .ok (.getfield 13, 3) := by decide +kernel
theorem d_Box_at_4 : decode b_Box_at 4 = .ok (.iload_n 1, 1) := by decide +kernel
theorem d_Box_at_5 : decode b_Box_at 5 = .ok (.bipush 7, 2) := by decide +kernel
theorem d_Box_at_7 : decode b_Box_at 7 = .ok (.iand, 1) := by decide +kernel
theorem d_Box_at_8 : decode b_Box_at 8 = .ok (.laload, 1) := by decide +kernel
theorem d_Box_at_9 : decode b_Box_at 9 = .ok (.lreturn, 1) := by decide +kernel
