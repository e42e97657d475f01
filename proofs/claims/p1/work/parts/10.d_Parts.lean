theorem d_Parts_init_0 : decode b_Parts_init 0 = .ok (.aload_n 0, 1) := by decide +kernel
theorem d_Parts_init_1 : decode b_Parts_init 1 = .ok (.invokespecial 3, 3) := by decide +kernel
theorem d_Parts_init_4 : decode b_Parts_init 4 = .ok (.aload_n 0, 1) := by decide +kernel
theorem d_Parts_init_5 : decode b_Parts_init 5 = .ok (.iload_n 1, 1) := by decide +kernel
theorem d_Parts_init_6 : decode b_Parts_init 6 = .ok (.putfield 9, 3) := by decide +kernel
theorem d_Parts_init_9 : decode b_Parts_init 9 = .ok (.return_, 1) := by decide +kernel
theorem d_Parts_set_0 : decode b_Parts_set 0 = .ok (.aload_n 0, 1) := by decide +kernel
theorem d_Parts_set_1 : decode b_Parts_set 1 = .ok (.lload_n 1, 1) := by decide +kernel
theorem d_Parts_set_2 : decode b_Parts_set 2 = .ok (.putfield 15, 3) := by decide +kernel
theorem d_Parts_set_5 : decode b_Parts_set 5 = .ok (.aload_n 0, 1) := by decide +kernel
theorem d_Parts_set_6 : decode b_Parts_set 6 = .ok (.lload_n 3, 1) := by decide +kernel
theorem d_Parts_set_7 : decode b_Parts_set 7 = .ok (.putfield 19, 3) := by decide +kernel
theorem d_Parts_set_10 : decode b_Parts_set 10 = .ok (.return_, 1) := by decide +kernel
theorem d_Parts_copy_0 : decode b_Parts_copy 0 = .ok (.aload_n 0, 1) := by decide +kernel
theorem d_Parts_copy_1 : decode b_Parts_copy 1 = .ok (.aload_n 1, 1) := by decide +kernel
theorem d_Parts_copy_2 : decode b_Parts_copy 2 = .ok (.getfield 15, 3) := by decide +kernel
theorem d_Parts_copy_5 : decode b_Parts_copy 5 = .ok (.putfield 15, 3) := by decide +kernel
theorem d_Parts_copy_8 : decode b_Parts_copy 8 = .ok (.aload_n 0, 1) := by decide +kernel
theorem d_Parts_copy_9 : decode b_Parts_copy 9 = .ok (.aload_n 1, 1) := by decide +kernel
theorem d_Parts_copy_10 : decode b_Parts_copy 10 = .ok (.getfield 19, 3) := by decide +kernel
theorem d_Parts_copy_13 : decode b_Parts_copy 13 = .ok (.putfield 19, 3) := by decide +kernel
theorem d_Parts_copy_16 : decode b_Parts_copy 16 = .ok (.return_, 1) := by decide +kernel
theorem d_Parts_setKnown_0 : decode b_Parts_setKnown 0 = .ok (.aload_n 0, 1) := by decide +kernel
theorem d_Parts_setKnown_1 : decode b_Parts_setKnown 1 = .ok (.aload_n 0, 1) := by decide +kernel
theorem d_Parts_setKnown_2 : decode b_Parts_setKnown 2 = .ok (.getfield 9, 3) := by decide +kernel
theorem d_Parts_setKnown_5 : decode b_Parts_setKnown 5 = .ok (.ifCond .ne 7, 3) := by decide +kernel
theorem d_Parts_setKnown_8 : decode b_Parts_setKnown 8 = .ok (.lload_n 1, 1) := by decide +kernel
theorem d_Parts_setKnown_9 : decode b_Parts_setKnown 9 = .ok (.goto 4, 3) := by decide +kernel
theorem d_Parts_setKnown_12 : decode b_Parts_setKnown 12 = .ok (.lconst 0, 1) := by decide +kernel
theorem d_Parts_setKnown_13 : decode b_Parts_setKnown 13 = .ok (.putfield 15, 3) := by decide +kernel
theorem d_Parts_setKnown_16 : decode b_Parts_setKnown 16 = .ok (.aload_n 0, 1) := by decide +kernel
theorem d_Parts_setKnown_17 : decode b_Parts_setKnown 17 = .ok (.aload_n 0, 1) := by decide +kernel
theorem d_Parts_setKnown_18 : decode b_Parts_setKnown 18 = .ok (.getfield 9, 3) := by decide +kernel
theorem d_Parts_setKnown_21 : decode b_Parts_setKnown 21 = .ok (.iconst 2, 1) := by decide +kernel
theorem d_Parts_setKnown_22 : decode b_Parts_setKnown 22 = .ok (.if_icmp .ne 7, 3) := by decide +kernel
theorem d_Parts_setKnown_25 : decode b_Parts_setKnown 25 = .ok (.lload_n 1, 1) := by decide +kernel
theorem d_Parts_setKnown_26 : decode b_Parts_setKnown 26 = .ok (.goto 4, 3) := by decide +kernel
theorem d_Parts_setKnown_29 : decode b_Parts_setKnown 29 = .ok (.lconst 0, 1) := by decide +kernel
theorem d_Parts_setKnown_30 : decode b_Parts_setKnown 30 = .ok (.putfield 19, 3) := by decide +kernel
theorem d_Parts_setKnown_33 : decode b_Parts_setKnown 33 = .ok (.return_, 1) := by decide +kernel
theorem d_Parts_add_0 : decode b_Parts_add 0 = .ok (.aload_n 0, 1) := by decide +kernel
theorem d_Parts_add_1 : decode b_Parts_add 1 = .ok (.dup, 1) := by decide +kernel
theorem d_Parts_add_2 : decode b_Parts_add 2 = .ok (.getfield 15, 3) := by decide +kernel
theorem d_Parts_add_5 : decode b_Parts_add 5 = .ok (.lload_n 2, 1) := by decide +kernel
theorem d_Parts_add_6 : decode b_Parts_add 6 = .ok (.aload_n 1, 1) := by decide +kernel
theorem d_Parts_add_7 : decode b_Parts_add 7 = .ok (.getfield 15, 3) := by decide +kernel
theorem d_Parts_add_10 : decode b_Parts_add 10 = .ok (.lmul, 1) := by decide +kernel
theorem d_Parts_add_11 : decode b_Parts_add 11 = .ok (.ladd, 1) := by decide +kernel
theorem d_Parts_add_12 : decode b_Parts_add 12 = .ok (.putfield 15, 3) := by decide +kernel
theorem d_Parts_add_15 : decode b_Parts_add 15 = .ok (.aload_n 0, 1) := by decide +kernel
theorem d_Parts_add_16 : decode b_Parts_add 16 = .ok (.dup, 1) := by decide +kernel
theorem d_Parts_add_17 : decode b_Parts_add 17 = .ok (.getfield 19, 3) := by decide +kernel
theorem d_Parts_add_20 : decode b_Parts_add 20 = .ok (.lload_n 2, 1) := by decide +kernel
theorem d_Parts_add_21 : decode b_Parts_add 21 = .ok (.aload_n 1, 1) := by decide +kernel
theorem d_Parts_add_22 : decode b_Parts_add 22 = .ok (.getfield 19, 3) := by decide +kernel
theorem d_Parts_add_25 : decode b_Parts_add 25 = .ok (.lmul, 1) := by decide +kernel
theorem d_Parts_add_26 : decode b_Parts_add 26 = .ok (.ladd, 1) := by decide +kernel
theorem d_Parts_add_27 : decode b_Parts_add 27 = .ok (.putfield 19, 3) := by decide +kernel
theorem d_Parts_add_30 : decode b_Parts_add 30 = .ok (.return_, 1) := by decide +kernel
theorem d_Parts_xor_0 : decode b_Parts_xor 0 = .ok (.aload_n 0, 1) := by decide +kernel
theorem d_Parts_xor_1 : decode b_Parts_xor 1 = .ok (.dup, 1) := by decide +kernel
theorem d_Parts_xor_2 : decode b_Parts_xor 2 = .ok (.getfield 15, 3) := by decide +kernel
theorem d_Parts_xor_5 : decode b_Parts_xor 5 = .ok (.aload_n 1, 1) := by decide +kernel
theorem d_Parts_xor_6 : decode b_Parts_xor 6 = .ok (.getfield 15, 3) := by decide +kernel
theorem d_Parts_xor_9 : decode b_Parts_xor 9 = .ok (.lxor, 1) := by decide +kernel
theorem d_Parts_xor_10 : decode b_Parts_xor 10 = .ok (.putfield 15, 3) := by decide +kernel
theorem d_Parts_xor_13 : decode b_Parts_xor 13 = .ok (.aload_n 0, 1) := by decide +kernel
theorem d_Parts_xor_14 : decode b_Parts_xor 14 = .ok (.dup, 1) := by decide +kernel
theorem d_Parts_xor_15 : decode b_Parts_xor 15 = .ok (.getfield 19, 3) := by decide +kernel
theorem d_Parts_xor_18 : decode b_Parts_xor 18 = .ok (.aload_n 1, 1) := by decide +kernel
theorem d_Parts_xor_19 : decode b_Parts_xor 19 = .ok (.getfield 19, 3) := by decide +kernel
theorem d_Parts_xor_22 : decode b_Parts_xor 22 = .ok (.lxor, 1) := by decide +kernel
theorem d_Parts_xor_23 : decode b_Parts_xor 23 = .ok (.putfield 19, 3) := by decide +kernel
theorem d_Parts_xor_26 : decode b_Parts_xor 26 = .ok (.return_, 1) := by decide +kernel
theorem d_Parts_and_0 : decode b_Parts_and 0 = .ok (.aload_n 0, 1) := by decide +kernel
theorem d_Parts_and_1 : decode b_Parts_and 1 = .ok (.dup, 1) := by decide +kernel
theorem d_Parts_and_2 : decode b_Parts_and 2 = .ok (.getfield 15, 3) := by decide +kernel
theorem d_Parts_and_5 : decode b_Parts_and 5 = .ok (.lload_n 1, 1) := by decide +kernel
theorem d_Parts_and_6 : decode b_Parts_and 6 = .ok (.land, 1) := by decide +kernel
theorem d_Parts_and_7 : decode b_Parts_and 7 = .ok (.putfield 15, 3) := by decide +kernel
theorem d_Parts_and_10 : decode b_Parts_and 10 = .ok (.aload_n 0, 1) := by decide +kernel
theorem d_Parts_and_11 : decode b_Parts_and 11 = .ok (.dup, 1) := by decide +kernel
theorem d_Parts_and_12 : decode b_Parts_and 12 = .ok (.getfield 19, 3) := by decide +kernel
theorem d_Parts_and_15 : decode b_Parts_and 15 = .ok (.lload_n 1, 1) := by decide +kernel
theorem d_Parts_and_16 : decode b_Parts_and 16 = .ok (.land, 1) := by decide +kernel
theorem d_Parts_and_17 : decode b_Parts_and 17 = .ok (.putfield 19, 3) := by decide +kernel
theorem d_Parts_and_20 : decode b_Parts_and 20 = .ok (.return_, 1) := by decide +kernel
theorem d_Parts_flip_0 : decode b_Parts_flip 0 = .ok (.aload_n 0, 1) := by decide +kernel
theorem d_Parts_flip_1 : decode b_Parts_flip 1 = .ok (.getfield 9, 3) := by decide +kernel
theorem d_Parts_flip_4 : decode b_Parts_flip 4 = .ok (.ifCond .ne 13, 3) := by decide +kernel
theorem d_Parts_flip_7 : decode b_Parts_flip 7 = .ok (.aload_n 0, 1) := by decide +kernel
theorem d_Parts_flip_8 : decode b_Parts_flip 8 = .ok (.dup, 1) := by decide +kernel
theorem d_Parts_flip_9 : decode b_Parts_flip 9 = .ok (.getfield 15, 3) := by decide +kernel
theorem d_Parts_flip_12 : decode b_Parts_flip 12 = .ok (.lload_n 1, 1) := by decide +kernel
theorem d_Parts_flip_13 : decode b_Parts_flip 13 = .ok (.lxor, 1) := by decide +kernel
theorem d_Parts_flip_14 : decode b_Parts_flip 14 = .ok (.putfield 15, 3) := by decide +kernel
theorem d_Parts_flip_17 : decode b_Parts_flip 17 = .ok (.aload_n 0, 1) := by decide +kernel
theorem d_Parts_flip_18 : decode b_Parts_flip 18 = .ok (.getfield 9, 3) := by decide +kernel
theorem d_Parts_flip_21 : decode b_Parts_flip 21 = .ok (.iconst 2, 1) := by decide +kernel
theorem d_Parts_flip_22 : decode b_Parts_flip 22 = .ok (.if_icmp .ne 13, 3) := by decide +kernel
theorem d_Parts_flip_25 : decode b_Parts_flip 25 = .ok (.aload_n 0, 1) := by decide +kernel
theorem d_Parts_flip_26 : decode b_Parts_flip 26 = .ok (.dup, 1) := by decide +kernel
theorem d_Parts_flip_27 : decode b_Parts_flip 27 = .ok (.getfield 19, 3) := by decide +kernel
theorem d_Parts_flip_30 : decode b_Parts_flip 30 = .ok (.lload_n 1, 1) := by decide +kernel
theorem d_Parts_flip_31 : decode b_Parts_flip 31 = .ok (.lxor, 1) := by decide +kernel
theorem d_Parts_flip_32 : decode b_Parts_flip 32 = .ok (.putfield 19, 3) := by decide +kernel
theorem d_Parts_flip_35 : decode b_Parts_flip 35 = .ok (.return_, 1) := by decide +kernel
theorem d_Parts_keep_0 : decode b_Parts_keep 0 = .ok (.aload_n 0, 1) := by decide +kernel
theorem d_Parts_keep_1 : decode b_Parts_keep 1 = .ok (.getfield 9, 3) := by decide +kernel
theorem d_Parts_keep_4 : decode b_Parts_keep 4 = .ok (.iload_n 1, 1) := by decide +kernel
theorem d_Parts_keep_5 : decode b_Parts_keep 5 = .ok (.if_icmp .eq 8, 3) := by decide +kernel
theorem d_Parts_keep_8 : decode b_Parts_keep 8 = .ok (.aload_n 0, 1) := by decide +kernel
theorem d_Parts_keep_9 : decode b_Parts_keep 9 = .ok (.lconst 0, 1) := by decide +kernel
theorem d_Parts_keep_10 : decode b_Parts_keep 10 = .ok (.putfield 15, 3) := by decide +kernel
theorem d_Parts_keep_13 : decode b_Parts_keep 13 = .ok (.aload_n 0, 1) := by decide +kernel
theorem d_Parts_keep_14 : decode b_Parts_keep 14 = .ok (.getfield 9, 3) := by decide +kernel
theorem d_Parts_keep_17 : decode b_Parts_keep 17 = .ok (.iconst 1, 1) := by decide +kernel
theorem d_Parts_keep_18 : decode b_Parts_keep 18 = .ok (.iadd, 1) := by decide +kernel
theorem d_Parts_keep_19 : decode b_Parts_keep 19 = .ok (.iconst 3, 1) := by decide +kernel
theorem d_Parts_keep_20 : decode b_Parts_keep 20 = .ok (.irem, 1) := by decide +kernel
theorem d_Parts_keep_21 : decode b_Parts_keep 21 = .ok (.iload_n 1, 1) := by decide +kernel
theorem d_Parts_keep_22 : decode b_Parts_keep 22 = .ok (.if_icmp .eq 8, 3) := by decide +kernel
theorem d_Parts_keep_25 : decode b_Parts_keep 25 = .ok (.aload_n 0, 1) := by decide +kernel
theorem d_Parts_keep_26 : decode b_Parts_keep 26 = .ok (.lconst 0, 1) := by decide +kernel
theorem d_Parts_keep_27 : decode b_Parts_keep 27 = .ok (.putfield 19, 3) := by decide +kernel
theorem d_Parts_keep_30 : decode b_Parts_keep 30 = .ok (.return_, 1) := by decide +kernel
theorem d_Parts_drop_0 : decode b_Parts_drop 0 = .ok (.aload_n 0, 1) := by decide +kernel
theorem d_Parts_drop_1 : decode b_Parts_drop 1 = .ok (.getfield 9, 3) := by decide +kernel
theorem d_Parts_drop_4 : decode b_Parts_drop 4 = .ok (.iload_n 1, 1) := by decide +kernel
theorem d_Parts_drop_5 : decode b_Parts_drop 5 = .ok (.if_icmp .ne 8, 3) := by decide +kernel
theorem d_Parts_drop_8 : decode b_Parts_drop 8 = .ok (.aload_n 0, 1) := by decide +kernel
theorem d_Parts_drop_9 : decode b_Parts_drop 9 = .ok (.lconst 0, 1) := by decide +kernel
theorem d_Parts_drop_10 : decode b_Parts_drop 10 = .ok (.putfield 15, 3) := by decide +kernel
theorem d_Parts_drop_13 : decode b_Parts_drop 13 = .ok (.aload_n 0, 1) := by decide +kernel
theorem d_Parts_drop_14 : decode b_Parts_drop 14 = .ok (.getfield 9, 3) := by decide +kernel
theorem d_Parts_drop_17 : decode b_Parts_drop 17 = .ok (.iconst 1, 1) := by decide +kernel
theorem d_Parts_drop_18 : decode b_Parts_drop 18 = .ok (.iadd, 1) := by decide +kernel
theorem d_Parts_drop_19 : decode b_Parts_drop 19 = .ok (.iconst 3, 1) := by decide +kernel
theorem d_Parts_drop_20 : decode b_Parts_drop 20 = .ok (.irem, 1) := by decide +kernel
theorem d_Parts_drop_21 : decode b_Parts_drop 21 = .ok (.iload_n 1, 1) := by decide +kernel
theorem d_Parts_drop_22 : decode b_Parts_drop 22 = .ok (.if_icmp .ne 8, 3) := by decide +kernel
theorem d_Parts_drop_25 : decode b_Parts_drop 25 = .ok (.aload_n 0, 1) := by decide +kernel
theorem d_Parts_drop_26 : decode b_Parts_drop 26 = .ok (.lconst 0, 1) := by decide +kernel
theorem d_Parts_drop_27 : decode b_Parts_drop 27 = .ok (.putfield 19, 3) := by decide +kernel
theorem d_Parts_drop_30 : decode b_Parts_drop 30 = .ok (.return_, 1) := by decide +kernel
theorem d_Parts_shiftDown_0 : decode b_Parts_shiftDown 0 = .ok (.aload_n 0, 1) := by decide +kernel
theorem d_Parts_shiftDown_1 : decode b_Parts_shiftDown 1 = .ok (.dup, 1) := by decide +kernel
theorem d_Parts_shiftDown_2 : decode b_Parts_shiftDown 2 = .ok (.getfield 15, 3) := by decide +kernel
theorem d_Parts_shiftDown_5 : decode b_Parts_shiftDown 5 = .ok (.iload_n 1, 1) := by decide +kernel
theorem d_Parts_shiftDown_6 : decode b_Parts_shiftDown 6 = .ok (.lushr, 1) := by decide +kernel
theorem d_Parts_shiftDown_7 : decode b_Parts_shiftDown 7 = .ok (.putfield 15, 3) := by decide +kernel
theorem d_Parts_shiftDown_10 : decode b_Parts_shiftDown 10 = .ok (.aload_n 0, 1) := by decide +kernel
theorem d_Parts_shiftDown_11 : decode b_Parts_shiftDown 11 = .ok (.dup, 1) := by decide +kernel
theorem d_Parts_shiftDown_12 : decode b_Parts_shiftDown 12 = .ok (.getfield 19, 3) := by decide +kernel
theorem d_Parts_shiftDown_15 : decode b_Parts_shiftDown 15 = .ok (.iload_n 1, 1) := by decide +kernel
theorem d_Parts_shiftDown_16 : decode b_Parts_shiftDown 16 = .ok (.lushr, 1) := by decide +kernel
theorem d_Parts_shiftDown_17 : decode b_Parts_shiftDown 17 = .ok (.putfield 19, 3) := by decide +kernel
theorem d_Parts_shiftDown_20 : decode b_Parts_shiftDown 20 = .ok (.return_, 1) := by decide +kernel
theorem d_Parts_raiseHalves_0 : decode b_Parts_raiseHalves 0 = .ok (.lconst 1, 1) := by decide +kernel
theorem d_Parts_raiseHalves_1 : decode b_Parts_raiseHalves 1 = .ok (.iload_n 1, 1) := by decide +kernel
theorem d_Parts_raiseHalves_2 : decode b_Parts_raiseHalves 2 = .ok (.lshl, 1) := by decide +kernel
theorem d_Parts_raiseHalves_3 : decode b_Parts_raiseHalves 3 = .ok (.lconst 1, 1) := by decide +kernel
theorem d_Parts_raiseHalves_4 : decode b_Parts_raiseHalves 4 = .ok (.lsub, 1) := by decide +kernel
theorem d_Parts_raiseHalves_5 : decode b_Parts_raiseHalves 5 = .ok (.bipush 32, 2) := by decide +kernel
theorem d_Parts_raiseHalves_7 : decode b_Parts_raiseHalves 7 = .ok (.lshl, 1) := by decide +kernel
theorem d_Parts_raiseHalves_8 : decode b_Parts_raiseHalves 8 = .ok (.ldc2_w 22, 3) := by decide +kernel
theorem d_Parts_raiseHalves_11 : decode b_Parts_raiseHalves 11 = .ok (.lxor, 1) := by decide +kernel
theorem d_Parts_raiseHalves_12 : decode b_Parts_raiseHalves 12 = .ok (.lstore_n 2, 1) := by decide +kernel
theorem d_Parts_raiseHalves_13 : decode b_Parts_raiseHalves 13 = .ok (.aload_n 0, 1) := by decide +kernel
theorem d_Parts_raiseHalves_14 : decode b_Parts_raiseHalves 14 = .ok (.aload_n 0, 1) := by decide +kernel
theorem d_Parts_raiseHalves_15 : decode b_Parts_raiseHalves 15 = .ok (.getfield 15, 3) := by decide +kernel
theorem d_Parts_raiseHalves_18 : decode b_Parts_raiseHalves 18 = .ok (.iload_n 1, 1) := by decide +kernel
theorem d_Parts_raiseHalves_19 : decode b_Parts_raiseHalves 19 = .ok (.lshl, 1) := by decide +kernel
theorem d_Parts_raiseHalves_20 : decode b_Parts_raiseHalves 20 = .ok (.lload_n 2, 1) := by decide +kernel
theorem d_Parts_raiseHalves_21 : decode b_Parts_raiseHalves 21 = .ok (.land, 1) := by decide +kernel
theorem d_Parts_raiseHalves_22 : decode b_Parts_raiseHalves 22 = .ok (.putfield 15, 3) := by decide +kernel
theorem d_Parts_raiseHalves_25 : decode b_Parts_raiseHalves 25 = .ok (.aload_n 0, 1) := by decide +kernel
theorem d_Parts_raiseHalves_26 : decode b_Parts_raiseHalves 26 = .ok (.aload_n 0, 1) := by decide +kernel
theorem d_Parts_raiseHalves_27 : decode b_Parts_raiseHalves 27 = .ok (.getfield 19, 3) := by decide +kernel
theorem d_Parts_raiseHalves_30 : decode b_Parts_raiseHalves 30 = .ok (.iload_n 1, 1) := by decide +kernel
theorem d_Parts_raiseHalves_31 : decode b_Parts_raiseHalves 31 = .ok (.lshl, 1) := by decide +kernel
theorem d_Parts_raiseHalves_32 : decode b_Parts_raiseHalves 32 = .ok (.lload_n 2, 1) := by decide +kernel
theorem d_Parts_raiseHalves_33 : decode b_Parts_raiseHalves 33 = .ok (.land, 1) := by decide +kernel
theorem d_Parts_raiseHalves_34 : decode b_Parts_raiseHalves 34 = .ok (.putfield 19, 3) := by decide +kernel
theorem d_Parts_raiseHalves_37 : decode b_Parts_raiseHalves 37 = .ok (.return_, 1) := by decide +kernel
theorem d_Parts_doubleHighHalf_0 : decode b_Parts_doubleHighHalf 0 = .ok (.aload_n 0, 1) := by decide +kernel
theorem d_Parts_doubleHighHalf_1 : decode b_Parts_doubleHighHalf 1 = .ok (.aload_n 0, 1) := by decide +kernel
theorem d_Parts_doubleHighHalf_2 : decode b_Parts_doubleHighHalf 2 = .ok (.getfield 15, 3) := by decide +kernel
theorem d_Parts_doubleHighHalf_5 : decode b_Parts_doubleHighHalf 5 = .ok (.bipush 32, 2) := by decide +kernel
theorem d_Parts_doubleHighHalf_7 : decode b_Parts_doubleHighHalf 7 = .ok (.lushr, 1) := by decide +kernel
theorem d_Parts_doubleHighHalf_8 : decode b_Parts_doubleHighHalf 8 = .ok (.aload_n 0, 1) := by decide +kernel
theorem d_Parts_doubleHighHalf_9 : decode b_Parts_doubleHighHalf 9 = .ok (.getfield 15, 3) := by decide +kernel
theorem d_Parts_doubleHighHalf_12 : decode b_Parts_doubleHighHalf 12 = .ok (.ldc2_w 24, 3) := by decide +kernel
theorem d_Parts_doubleHighHalf_15 : decode b_Parts_doubleHighHalf 15 = .ok (.land, 1) := by decide +kernel
theorem d_Parts_doubleHighHalf_16 : decode b_Parts_doubleHighHalf 16 = .ok (.lor, 1) := by decide +kernel
theorem d_Parts_doubleHighHalf_17 : decode b_Parts_doubleHighHalf 17 = .ok (.putfield 15, 3) := by decide +kernel
theorem d_Parts_doubleHighHalf_20 : decode b_Parts_doubleHighHalf 20 = .ok (.aload_n 0, 1) := by decide +kernel
theorem d_Parts_doubleHighHalf_21 : decode b_Parts_doubleHighHalf 21 = .ok (.aload_n 0, 1) := by decide +kernel
theorem d_Parts_doubleHighHalf_22 : decode b_Parts_doubleHighHalf 22 = .ok (.getfield 19, 3) := by decide +kernel
theorem d_Parts_doubleHighHalf_25 : decode b_Parts_doubleHighHalf 25 = .ok (.bipush 32, 2) := by decide +kernel
theorem d_Parts_doubleHighHalf_27 : decode b_Parts_doubleHighHalf 27 = .ok (.lushr, 1) := by decide +kernel
theorem d_Parts_doubleHighHalf_28 : decode b_Parts_doubleHighHalf 28 = .ok (.aload_n 0, 1) := by decide +kernel
theorem d_Parts_doubleHighHalf_29 : decode b_Parts_doubleHighHalf 29 = .ok (.getfield 19, 3) := by decide +kernel
theorem d_Parts_doubleHighHalf_32 : decode b_Parts_doubleHighHalf 32 = .ok (.ldc2_w 24, 3) := by decide +kernel
theorem d_Parts_doubleHighHalf_35 : decode b_Parts_doubleHighHalf 35 = .ok (.land, 1) := by decide +kernel
theorem d_Parts_doubleHighHalf_36 : decode b_Parts_doubleHighHalf 36 = .ok (.lor, 1) := by decide +kernel
theorem d_Parts_doubleHighHalf_37 : decode b_Parts_doubleHighHalf 37 = .ok (.putfield 19, 3) := by decide +kernel
theorem d_Parts_doubleHighHalf_40 : decode b_Parts_doubleHighHalf 40 = .ok (.return_, 1) := by decide +kernel
