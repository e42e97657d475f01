theorem d_Script_init_0 : decode b_Script_init 0 = .ok (.aload_n 0, 1) := by decide +kernel
theorem d_Script_init_1 : decode b_Script_init 1 = .ok (.invokespecial 3, 3) := by decide +kernel
theorem d_Script_init_4 : decode b_Script_init 4 = .ok (.aload_n 0, 1) := by decide +kernel
theorem d_Script_init_5 : decode b_Script_init 5 = .ok (.sipush 132, 3) := by decide +kernel
theorem d_Script_init_8 : decode b_Script_init 8 = .ok (.newarray .int, 2) := by decide +kernel
theorem d_Script_init_10 : decode b_Script_init 10 = .ok (.putfield 11, 3) := by decide +kernel
theorem d_Script_init_13 : decode b_Script_init 13 = .ok (.aload_n 0, 1) := by decide +kernel
theorem d_Script_init_14 : decode b_Script_init 14 = .ok (.sipush 132, 3) := by decide +kernel
theorem d_Script_init_17 : decode b_Script_init 17 = .ok (.newarray .int, 2) := by decide +kernel
theorem d_Script_init_19 : decode b_Script_init 19 = .ok (.putfield 15, 3) := by decide +kernel
theorem d_Script_init_22 : decode b_Script_init 22 = .ok (.aload_n 0, 1) := by decide +kernel
theorem d_Script_init_23 : decode b_Script_init 23 = .ok (.sipush 132, 3) := by decide +kernel
theorem d_Script_init_26 : decode b_Script_init 26 = .ok (.newarray .int, 2) := by decide +kernel
theorem d_Script_init_28 : decode b_Script_init 28 = .ok (.putfield 18, 3) := by decide +kernel
theorem d_Script_init_31 : decode b_Script_init 31 = .ok (.aload_n 0, 1) := by decide +kernel
theorem d_Script_init_32 : decode b_Script_init 32 = .ok (.sipush 132, 3) := by decide +kernel
theorem d_Script_init_35 : decode b_Script_init 35 = .ok (.newarray .int, 2) := by decide +kernel
theorem d_Script_init_37 : decode b_Script_init 37 = .ok (.putfield 21, 3) := by decide +kernel
theorem d_Script_init_40 : decode b_Script_init 40 = .ok (.aload_n 0, 1) := by decide +kernel
theorem d_Script_init_41 : decode b_Script_init 41 = .ok (.sipush 132, 3) := by decide +kernel
theorem d_Script_init_44 : decode b_Script_init 44 = .ok (.newarray .int, 2) := by decide +kernel
theorem d_Script_init_46 : decode b_Script_init 46 = .ok (.putfield 24, 3) := by decide +kernel
theorem d_Script_init_49 : decode b_Script_init 49 = .ok (.return_, 1) := by decide +kernel
theorem d_Script_clear_0 : decode b_Script_clear 0 = .ok (.aload_n 0, 1) := by decide +kernel
theorem d_Script_clear_1 : decode b_Script_clear 1 = .ok (.iconst 0, 1) := by decide +kernel
theorem d_Script_clear_2 : decode b_Script_clear 2 = .ok (.putfield 27, 3) := by decide +kernel
theorem d_Script_clear_5 : decode b_Script_clear 5 = .ok (.aload_n 0, 1) := by decide +kernel
theorem d_Script_clear_6 : decode b_Script_clear 6 = .ok (.iconst 0, 1) := by decide +kernel
theorem d_Script_clear_7 : decode b_Script_clear 7 = .ok (.putfield 31, 3) := by decide +kernel
theorem d_Script_clear_10 : decode b_Script_clear 10 = .ok (.aload_n 0, 1) := by decide +kernel
theorem d_Script_clear_11 : decode b_Script_clear 11 = .ok (.iconst 0, 1) := by decide +kernel
theorem d_Script_clear_12 : decode b_Script_clear 12 = .ok (.putfield 34, 3) := by decide +kernel
theorem d_Script_clear_15 : decode b_Script_clear 15 = .ok (.aload_n 0, 1) := by decide +kernel
theorem d_Script_clear_16 : decode b_Script_clear 16 = .ok (.iconst 0, 1) := by decide +kernel
theorem d_Script_clear_17 : decode b_Script_clear 17 = .ok (.putfield 37, 3) := by decide +kernel
theorem d_Script_clear_20 : decode b_Script_clear 20 = .ok (.return_, 1) := by decide +kernel
theorem d_Script_copy_0 : decode b_Script_copy 0 = .ok (.aload_n 0, 1) := by decide +kernel
theorem d_Script_copy_1 : decode b_Script_copy 1 = .ok (.aload_n 1, 1) := by decide +kernel
theorem d_Script_copy_2 : decode b_Script_copy 2 = .ok (.getfield 27, 3) := by decide +kernel
theorem d_Script_copy_5 : decode b_Script_copy 5 = .ok (.putfield 27, 3) := by decide +kernel
theorem d_Script_copy_8 : decode b_Script_copy 8 = .ok (.aload_n 0, 1) := by decide +kernel
theorem d_Script_copy_9 : decode b_Script_copy 9 = .ok (.aload_n 1, 1) := by decide +kernel
theorem d_Script_copy_10 : decode b_Script_copy 10 = .ok (.getfield 31, 3) := by decide +kernel
theorem d_Script_copy_13 : decode b_Script_copy 13 = .ok (.putfield 31, 3) := by decide +kernel
theorem d_Script_copy_16 : decode b_Script_copy 16 = .ok (.aload_n 0, 1) := by decide +kernel
theorem d_Script_copy_17 : decode b_Script_copy 17 = .ok (.aload_n 1, 1) := by decide +kernel
theorem d_Script_copy_18 : decode b_Script_copy 18 = .ok (.getfield 34, 3) := by decide +kernel
theorem d_Script_copy_21 : decode b_Script_copy 21 = .ok (.putfield 34, 3) := by decide +kernel
theorem d_Script_copy_24 : decode b_Script_copy 24 = .ok (.aload_n 0, 1) := by decide +kernel
theorem d_Script_copy_25 : decode b_Script_copy 25 = .ok (.aload_n 1, 1) := by decide +kernel
theorem d_Script_copy_26 : decode b_Script_copy 26 = .ok (.getfield 37, 3) := by decide +kernel
theorem d_Script_copy_29 : decode b_Script_copy 29 = .ok (.putfield 37, 3) := by decide +kernel
theorem d_Script_copy_32 : decode b_Script_copy 32 = .ok (.aload_n 1, 1) := by decide +kernel
theorem d_Script_copy_33 : decode b_Script_copy 33 = .ok (.getfield 11, 3) := by decide +kernel
theorem d_Script_copy_36 : decode b_Script_copy 36 = .ok (.iconst 0, 1) := by decide +kernel
theorem d_Script_copy_37 : decode b_Script_copy 37 = .ok (.aload_n 0, 1) := by decide +kernel
theorem d_Script_copy_38 : decode b_Script_copy 38 = .ok (.getfield 11, 3) := by decide +kernel
theorem d_Script_copy_41 : decode b_Script_copy 41 = .ok (.iconst 0, 1) := by decide +kernel
theorem d_Script_copy_42 : decode b_Script_copy 42 = .ok (.aload_n 0, 1) := by decide +kernel
theorem d_Script_copy_43 : decode b_Script_copy 43 = .ok (.getfield 27, 3) := by decide +kernel
theorem d_Script_copy_46 : decode b_Script_copy 46 = .ok (.invokestatic 40, 3) := by decide +kernel
theorem d_Script_copy_49 : decode b_Script_copy 49 = .ok (.aload_n 1, 1) := by decide +kernel
theorem d_Script_copy_50 : decode b_Script_copy 50 = .ok (.getfield 15, 3) := by decide +kernel
theorem d_Script_copy_53 : decode b_Script_copy 53 = .ok (.iconst 0, 1) := by decide +kernel
theorem d_Script_copy_54 : decode b_Script_copy 54 = .ok (.aload_n 0, 1) := by decide +kernel
theorem d_Script_copy_55 : decode b_Script_copy 55 = .ok (.getfield 15, 3) := by decide +kernel
theorem d_Script_copy_58 : decode b_Script_copy 58 = .ok (.iconst 0, 1) := by decide +kernel
theorem d_Script_copy_59 : decode b_Script_copy 59 = .ok (.aload_n 0, 1) := by decide +kernel
theorem d_Script_copy_60 : decode b_Script_copy 60 = .ok (.getfield 27, 3) := by decide +kernel
theorem d_Script_copy_63 : decode b_Script_copy 63 = .ok (.invokestatic 40, 3) := by decide +kernel
theorem d_Script_copy_66 : decode b_Script_copy 66 = .ok (.aload_n 1, 1) := by decide +kernel
theorem d_Script_copy_67 : decode b_Script_copy 67 = .ok (.getfield 18, 3) := by decide +kernel
theorem d_Script_copy_70 : decode b_Script_copy 70 = .ok (.iconst 0, 1) := by decide +kernel
theorem d_Script_copy_71 : decode b_Script_copy 71 = .ok (.aload_n 0, 1) := by decide +kernel
theorem d_Script_copy_72 : decode b_Script_copy 72 = .ok (.getfield 18, 3) := by decide +kernel
theorem d_Script_copy_75 : decode b_Script_copy 75 = .ok (.iconst 0, 1) := by decide +kernel
theorem d_Script_copy_76 : decode b_Script_copy 76 = .ok (.aload_n 0, 1) := by decide +kernel
theorem d_Script_copy_77 : decode b_Script_copy 77 = .ok (.getfield 27, 3) := by decide +kernel
theorem d_Script_copy_80 : decode b_Script_copy 80 = .ok (.invokestatic 40, 3) := by decide +kernel
theorem d_Script_copy_83 : decode b_Script_copy 83 = .ok (.aload_n 1, 1) := by decide +kernel
theorem d_Script_copy_84 : decode b_Script_copy 84 = .ok (.getfield 21, 3) := by decide +kernel
theorem d_Script_copy_87 : decode b_Script_copy 87 = .ok (.iconst 0, 1) := by decide +kernel
theorem d_Script_copy_88 : decode b_Script_copy 88 = .ok (.aload_n 0, 1) := by decide +kernel
theorem d_Script_copy_89 : decode b_Script_copy 89 = .ok (.getfield 21, 3) := by decide +kernel
theorem d_Script_copy_92 : decode b_Script_copy 92 = .ok (.iconst 0, 1) := by decide +kernel
theorem d_Script_copy_93 : decode b_Script_copy 93 = .ok (.aload_n 0, 1) := by decide +kernel
theorem d_Script_copy_94 : decode b_Script_copy 94 = .ok (.getfield 27, 3) := by decide +kernel
theorem d_Script_copy_97 : decode b_Script_copy 97 = .ok (.invokestatic 40, 3) := by decide +kernel
theorem d_Script_copy_100 : decode b_Script_copy 100 = .ok (.aload_n 1, 1) := by decide +kernel
theorem d_Script_copy_101 : decode b_Script_copy 101 = .ok (.getfield 24, 3) := by decide +kernel
theorem d_Script_copy_104 : decode b_Script_copy 104 = .ok (.iconst 0, 1) := by decide +kernel
theorem d_Script_copy_105 : decode b_Script_copy 105 = .ok (.aload_n 0, 1) := by decide +kernel
theorem d_Script_copy_106 : decode b_Script_copy 106 = .ok (.getfield 24, 3) := by decide +kernel
theorem d_Script_copy_109 : decode b_Script_copy 109 = .ok (.iconst 0, 1) := by decide +kernel
theorem d_Script_copy_110 : decode b_Script_copy 110 = .ok (.aload_n 0, 1) := by decide +kernel
theorem d_Script_copy_111 : decode b_Script_copy 111 = .ok (.getfield 27, 3) := by decide +kernel
theorem d_Script_copy_114 : decode b_Script_copy 114 = .ok (.invokestatic 40, 3) := by decide +kernel
theorem d_Script_copy_117 : decode b_Script_copy 117 = .ok (.return_, 1) := by decide +kernel
theorem d_Script_add_0 : decode b_Script_add 0 = .ok (.aload_n 0, 1) := by decide +kernel
theorem d_Script_add_1 : decode b_Script_add 1 = .ok (.getfield 27, 3) := by decide +kernel
theorem d_Script_add_4 : decode b_Script_add 4 = .ok (.sipush 132, 3) := by decide +kernel
theorem d_Script_add_7 : decode b_Script_add 7 = .ok (.if_icmp .lt 4, 3) := by decide +kernel
theorem d_Script_add_10 : decode b_Script_add 10 = .ok (.return_, 1) := by decide +kernel
theorem d_Script_add_11 : decode b_Script_add 11 = .ok (.aload_n 0, 1) := by decide +kernel
theorem d_Script_add_12 : decode b_Script_add 12 = .ok (.getfield 11, 3) := by decide +kernel
theorem d_Script_add_15 : decode b_Script_add 15 = .ok (.aload_n 0, 1) := by decide +kernel
theorem d_Script_add_16 : decode b_Script_add 16 = .ok (.getfield 27, 3) := by decide +kernel
theorem d_Script_add_19 : decode b_Script_add 19 = .ok (.iload_n 1, 1) := by decide +kernel
theorem d_Script_add_20 : decode b_Script_add 20 = .ok (.iastore, 1) := by decide +kernel
theorem d_Script_add_21 : decode b_Script_add 21 = .ok (.aload_n 0, 1) := by decide +kernel
theorem d_Script_add_22 : decode b_Script_add 22 = .ok (.getfield 15, 3) := by decide +kernel
theorem d_Script_add_25 : decode b_Script_add 25 = .ok (.aload_n 0, 1) := by decide +kernel
theorem d_Script_add_26 : decode b_Script_add 26 = .ok (.getfield 27, 3) := by decide +kernel
theorem d_Script_add_29 : decode b_Script_add 29 = .ok (.iload_n 2, 1) := by decide +kernel
theorem d_Script_add_30 : decode b_Script_add 30 = .ok (.iastore, 1) := by decide +kernel
theorem d_Script_add_31 : decode b_Script_add 31 = .ok (.aload_n 0, 1) := by decide +kernel
theorem d_Script_add_32 : decode b_Script_add 32 = .ok (.getfield 18, 3) := by decide +kernel
theorem d_Script_add_35 : decode b_Script_add 35 = .ok (.aload_n 0, 1) := by decide +kernel
theorem d_Script_add_36 : decode b_Script_add 36 = .ok (.getfield 27, 3) := by decide +kernel
theorem d_Script_add_39 : decode b_Script_add 39 = .ok (.iload_n 3, 1) := by decide +kernel
theorem d_Script_add_40 : decode b_Script_add 40 = .ok (.iastore, 1) := by decide +kernel
theorem d_Script_add_41 : decode b_Script_add 41 = .ok (.aload_n 0, 1) := by decide +kernel
theorem d_Script_add_42 : decode b_Script_add 42 = .ok (.getfield 21, 3) := by decide +kernel
theorem d_Script_add_45 : decode b_Script_add 45 = .ok (.aload_n 0, 1) := by decide +kernel
theorem d_Script_add_46 : decode b_Script_add 46 = .ok (.getfield 27, 3) := by decide +kernel
theorem d_Script_add_49 : decode b_Script_add 49 = .ok (.iload 4, 2) := by decide +kernel
theorem d_Script_add_51 : decode b_Script_add 51 = .ok (.iastore, 1) := by decide +kernel
theorem d_Script_add_52 : decode b_Script_add 52 = .ok (.aload_n 0, 1) := by decide +kernel
theorem d_Script_add_53 : decode b_Script_add 53 = .ok (.getfield 24, 3) := by decide +kernel
theorem d_Script_add_56 : decode b_Script_add 56 = .ok (.aload_n 0, 1) := by decide +kernel
theorem d_Script_add_57 : decode b_Script_add 57 = .ok (.getfield 27, 3) := by decide +kernel
theorem d_Script_add_60 : decode b_Script_add 60 = .ok (.iload 5, 2) := by decide +kernel
theorem d_Script_add_62 : decode b_Script_add 62 = .ok (.iastore, 1) := by decide +kernel
theorem d_Script_add_63 : decode b_Script_add 63 = .ok (.aload_n 0, 1) := by decide +kernel
theorem d_Script_add_64 : decode b_Script_add 64 = .ok (.dup, 1) := by decide +kernel
theorem d_Script_add_65 : decode b_Script_add 65 = .ok (.getfield 27, 3) := by decide +kernel
theorem d_Script_add_68 : decode b_Script_add 68 = .ok (.iconst 1, 1) := by decide +kernel
theorem d_Script_add_69 : decode b_Script_add 69 = .ok (.iadd, 1) := by decide +kernel
theorem d_Script_add_70 : decode b_Script_add 70 = .ok (.putfield 27, 3) := by decide +kernel
theorem d_Script_add_73 : decode b_Script_add 73 = .ok (.return_, 1) := by decide +kernel
theorem d_Script_name_0 : decode b_Script_name 0 = .ok (.aload_n 0, 1) := by decide +kernel
theorem d_Script_name_1 : decode b_Script_name 1 = .ok (.dup, 1) := by decide +kernel
theorem d_Script_name_2 : decode b_Script_name 2 = .ok (.getfield 37, 3) := by decide +kernel
theorem d_Script_name_5 : decode b_Script_name 5 = .ok (.iconst 1, 1) := by decide +kernel
theorem d_Script_name_6 : decode b_Script_name 6 = .ok (.iload_n 1, 1) := by decide +kernel
theorem d_Script_name_7 : decode b_Script_name 7 = .ok (.ishl, 1) := by decide +kernel
theorem d_Script_name_8 : decode b_Script_name 8 = .ok (.ior, 1) := by decide +kernel
theorem d_Script_name_9 : decode b_Script_name 9 = .ok (.putfield 37, 3) := by decide +kernel
theorem d_Script_name_12 : decode b_Script_name 12 = .ok (.return_, 1) := by decide +kernel
theorem d_Script_names_0 : decode b_Script_names 0 = .ok (.aload_n 0, 1) := by decide +kernel
theorem d_Script_names_1 : decode b_Script_names 1 = .ok (.getfield 37, 3) := by decide +kernel
theorem d_Script_names_4 : decode b_Script_names 4 = .ok (.iload_n 1, 1) := by decide +kernel
theorem d_Script_names_5 : decode b_Script_names 5 = .ok (.iushr, 1) := by decide +kernel
theorem d_Script_names_6 : decode b_Script_names 6 = .ok (.iconst 1, 1) := by decide +kernel
theorem d_Script_names_7 : decode b_Script_names 7 = .ok (.iand, 1) := by decide +kernel
theorem d_Script_names_8 : decode b_Script_names 8 = .ok (.iconst 1, 1) := by decide +kernel
theorem d_Script_names_9 : decode b_Script_names 9 = .ok (.if_icmp .ne 7, 3) := by decide +kernel
theorem d_Script_names_12 : decode b_Script_names 12 = .ok (.iconst 1, 1) := by decide +kernel
theorem d_Script_names_13 : decode b_Script_names 13 = .ok (.goto 4, 3) := by decide +kernel
theorem d_Script_names_16 : decode b_Script_names 16 = .ok (.iconst 0, 1) := by decide +kernel
theorem d_Script_names_17 : decode b_Script_names 17 = .ok (.ireturn, 1) := by decide +kernel
theorem d_Script_takeComparisons_0 : decode b_Script_takeComparisons 0 = .ok (.aload_n 0, 1) := by decide +kernel
theorem d_Script_takeComparisons_1 : decode b_Script_takeComparisons 1 = .ok (.getfield 31, 3) := by decide +kernel
theorem d_Script_takeComparisons_4 : decode b_Script_takeComparisons 4 = .ok (.iload_n 1, 1) := by decide +kernel
theorem d_Script_takeComparisons_5 : decode b_Script_takeComparisons 5 = .ok (.iadd, 1) := by decide +kernel
theorem d_Script_takeComparisons_6 : decode b_Script_takeComparisons 6 = .ok (.bipush 12, 2) := by decide +kernel
theorem d_Script_takeComparisons_8 : decode b_Script_takeComparisons 8 = .ok (.if_icmp .le 5, 3) := by decide +kernel
theorem d_Script_takeComparisons_11 : decode b_Script_takeComparisons 11 = .ok (.iconst 0, 1) := by decide +kernel
theorem d_Script_takeComparisons_12 : decode b_Script_takeComparisons 12 = .ok (.ireturn, 1) := by decide +kernel
theorem d_Script_takeComparisons_13 : decode b_Script_takeComparisons 13 = .ok (.aload_n 0, 1) := by decide +kernel
theorem d_Script_takeComparisons_14 : decode b_Script_takeComparisons 14 = .ok (.dup, 1) := by decide +kernel
theorem d_Script_takeComparisons_15 : decode b_Script_takeComparisons 15 = .ok (.getfield 31, 3) := by decide +kernel
theorem d_Script_takeComparisons_18 : decode b_Script_takeComparisons 18 = .ok (.iload_n 1, 1) := by decide +kernel
theorem d_Script_takeComparisons_19 : decode b_Script_takeComparisons 19 = .ok (.iadd, 1) := by decide +kernel
theorem d_Script_takeComparisons_20 : decode b_Script_takeComparisons 20 = .ok (.putfield 31, 3) := by decide +kernel
theorem d_Script_takeComparisons_23 : decode b_Script_takeComparisons 23 = .ok (.iconst 1, 1) := by decide +kernel
theorem d_Script_takeComparisons_24 : decode b_Script_takeComparisons 24 = .ok (.ireturn, 1) := by decide +kernel
theorem d_Script_takeOpen_0 : decode b_Script_takeOpen 0 = .ok (.aload_n 0, 1) := by decide +kernel
theorem d_Script_takeOpen_1 : decode b_Script_takeOpen 1 = .ok (.getfield 34, 3) := by decide +kernel
theorem d_Script_takeOpen_4 : decode b_Script_takeOpen 4 = .ok (.bipush 16, 2) := by decide +kernel
theorem d_Script_takeOpen_6 : decode b_Script_takeOpen 6 = .ok (.if_icmp .lt 5, 3) := by decide +kernel
theorem d_Script_takeOpen_9 : decode b_Script_takeOpen 9 = .ok (.iconst 0, 1) := by decide +kernel
theorem d_Script_takeOpen_10 : decode b_Script_takeOpen 10 = .ok (.ireturn, 1) := by decide +kernel
theorem d_Script_takeOpen_11 : decode b_Script_takeOpen 11 = .ok (.aload_n 0, 1) := by decide +kernel
theorem d_Script_takeOpen_12 : decode b_Script_takeOpen 12 = .ok (.dup, 1) := by decide +kernel
theorem d_Script_takeOpen_13 : decode b_Script_takeOpen 13 = .ok (.getfield 34, 3) := by decide +kernel
theorem d_Script_takeOpen_16 : decode b_Script_takeOpen 16 = .ok (.iconst 1, 1) := by decide +kernel
theorem d_Script_takeOpen_17 : decode b_Script_takeOpen 17 = .ok (.iadd, 1) := by decide +kernel
theorem d_Script_takeOpen_18 : decode b_Script_takeOpen 18 = .ok (.putfield 34, 3) := by decide +kernel
theorem d_Script_takeOpen_21 : decode b_Script_takeOpen 21 = .ok (.iconst 1, 1) := by decide +kernel
theorem d_Script_takeOpen_22 : decode b_Script_takeOpen 22 = .ok (.ireturn, 1) := by decide +kernel
theorem d_Script_addSort_0 : decode b_Script_addSort 0 = .ok (.iload_n 2, 1) := by decide +kernel
theorem d_Script_addSort_1 : decode b_Script_addSort 1 = .ok (.istore_n 3, 1) := by decide +kernel
theorem d_Script_addSort_2 : decode b_Script_addSort 2 = .ok (.iload_n 3, 1) := by decide +kernel
theorem d_Script_addSort_3 : decode b_Script_addSort 3 = .ok (.iload_n 1, 1) := by decide +kernel
theorem d_Script_addSort_4 : decode b_Script_addSort 4 = .ok (.if_icmp .le 39, 3) := by decide +kernel
theorem d_Script_addSort_7 : decode b_Script_addSort 7 = .ok (.iload_n 1, 1) := by decide +kernel
theorem d_Script_addSort_8 : decode b_Script_addSort 8 = .ok (.istore 4, 2) := by decide +kernel
theorem d_Script_addSort_10 : decode b_Script_addSort 10 = .ok (.iload 4, 2) := by decide +kernel
theorem d_Script_addSort_12 : decode b_Script_addSort 12 = .ok (.iload_n 3, 1) := by decide +kernel
theorem d_Script_addSort_13 : decode b_Script_addSort 13 = .ok (.if_icmp .ge 24, 3) := by decide +kernel
theorem d_Script_addSort_16 : decode b_Script_addSort 16 = .ok (.aload_n 0, 1) := by decide +kernel
theorem d_Script_addSort_17 : decode b_Script_addSort 17 = .ok (.bipush 6, 2) := by decide +kernel
theorem d_Script_addSort_19 : decode b_Script_addSort 19 = .ok (.iload 4, 2) := by decide +kernel
theorem d_Script_addSort_21 : decode b_Script_addSort 21 = .ok (.iload 4, 2) := by decide +kernel
theorem d_Script_addSort_23 : decode b_Script_addSort 23 = .ok (.iload 4, 2) := by decide +kernel
theorem d_Script_addSort_25 : decode b_Script_addSort 25 = .ok (.iconst 1, 1) := by decide +kernel
theorem d_Script_addSort_26 : decode b_Script_addSort 26 = .ok (.iadd, 1) := by decide +kernel
theorem d_Script_addSort_27 : decode b_Script_addSort 27 = .ok (.iconst 0, 1) := by decide +kernel
theorem d_Script_addSort_28 : decode b_Script_addSort 28 = .ok (.invokevirtual 46, 3) := by decide +kernel
theorem d_Script_addSort_31 : decode b_Script_addSort 31 = .ok (.iinc 4 1, 3) := by decide +kernel
theorem d_Script_addSort_34 : decode b_Script_addSort 34 = .ok (.goto (-24), 3) := by decide +kernel
theorem d_Script_addSort_37 : decode b_Script_addSort 37 = .ok (.iinc 3 (-1), 3) := by decide +kernel
theorem d_Script_addSort_40 : decode b_Script_addSort 40 = .ok (.goto (-38), 3) := by decide +kernel
theorem d_Script_addSort_43 : decode b_Script_addSort 43 = .ok (.return_, 1) := by decide +kernel
theorem d_Script_addSums_0 : decode b_Script_addSums 0 = .ok (.iload_n 1, 1) := by decide +kernel
theorem d_Script_addSums_1 : decode b_Script_addSums 1 = .ok (.iconst 1, 1) := by decide +kernel
theorem d_Script_addSums_2 : decode b_Script_addSums 2 = .ok (.iadd, 1) := by decide +kernel
theorem d_Script_addSums_3 : decode b_Script_addSums 3 = .ok (.istore_n 3, 1) := by decide +kernel
theorem d_Script_addSums_4 : decode b_Script_addSums 4 = .ok (.iload_n 3, 1) := by decide +kernel
theorem d_Script_addSums_5 : decode b_Script_addSums 5 = .ok (.iload_n 2, 1) := by decide +kernel
theorem d_Script_addSums_6 : decode b_Script_addSums 6 = .ok (.if_icmp .gt 20, 3) := by decide +kernel
theorem d_Script_addSums_9 : decode b_Script_addSums 9 = .ok (.aload_n 0, 1) := by decide +kernel
theorem d_Script_addSums_10 : decode b_Script_addSums 10 = .ok (.iconst 1, 1) := by decide +kernel
theorem d_Script_addSums_11 : decode b_Script_addSums 11 = .ok (.iload_n 3, 1) := by decide +kernel
theorem d_Script_addSums_12 : decode b_Script_addSums 12 = .ok (.iload_n 3, 1) := by decide +kernel
theorem d_Script_addSums_13 : decode b_Script_addSums 13 = .ok (.iconst 1, 1) := by decide +kernel
theorem d_Script_addSums_14 : decode b_Script_addSums 14 = .ok (.isub, 1) := by decide +kernel
theorem d_Script_addSums_15 : decode b_Script_addSums 15 = .ok (.iload_n 3, 1) := by decide +kernel
theorem d_Script_addSums_16 : decode b_Script_addSums 16 = .ok (.iconst 0, 1) := by decide +kernel
theorem d_Script_addSums_17 : decode b_Script_addSums 17 = .ok (.invokevirtual 46, 3) := by decide +kernel
theorem d_Script_addSums_20 : decode b_Script_addSums 20 = .ok (.iinc 3 1, 3) := by decide +kernel
theorem d_Script_addSums_23 : decode b_Script_addSums 23 = .ok (.goto (-19), 3) := by decide +kernel
theorem d_Script_addSums_26 : decode b_Script_addSums 26 = .ok (.return_, 1) := by decide +kernel
theorem d_Post_init_0 : decode b_Post_init 0 = .ok (.aload_n 0, 1) := by decide +kernel
theorem d_Post_init_1 : decode b_Post_init 1 = .ok (.invokespecial 1, 3) := by decide +kernel
theorem d_Post_init_4 : decode b_Post_init 4 = .ok (.aload_n 0, 1) := by decide +kernel
theorem d_Post_init_5 : decode b_Post_init 5 = .ok (.bipush 16, 2) := by decide +kernel
theorem d_Post_init_7 : decode b_Post_init 7 = .ok (.newarray .int, 2) := by decide +kernel
theorem d_Post_init_9 : decode b_Post_init 9 = .ok (.putfield 9, 3) := by decide +kernel
theorem d_Post_init_12 : decode b_Post_init 12 = .ok (.aload_n 0, 1) := by decide +kernel
theorem d_Post_init_13 : decode b_Post_init 13 = .ok (.bipush 16, 2) := by decide +kernel
theorem d_Post_init_15 : decode b_Post_init 15 = .ok (.newarray .int, 2) := by decide +kernel
theorem d_Post_init_17 : decode b_Post_init 17 = .ok (.putfield 13, 3) := by decide +kernel
theorem d_Post_init_20 : decode b_Post_init 20 = .ok (.aload_n 0, 1) := by decide +kernel
theorem d_Post_init_21 : decode b_Post_init 21 = .ok (.bipush 16, 2) := by decide +kernel
theorem d_Post_init_23 : decode b_Post_init 23 = .ok (.newarray .long, 2) := by decide +kernel
theorem d_Post_init_25 : decode b_Post_init 25 = .ok (.putfield 16, 3) := by decide +kernel
theorem d_Post_init_28 : decode b_Post_init 28 = .ok (.return_, 1) := by decide +kernel
theorem d_Post_clear_0 : decode b_Post_clear 0 = .ok (.aload_n 0, 1) := by decide +kernel
theorem d_Post_clear_1 : decode b_Post_clear 1 = .ok (.iconst 0, 1) := by decide +kernel
theorem d_Post_clear_2 : decode b_Post_clear 2 = .ok (.putfield 20, 3) := by decide +kernel
theorem d_Post_clear_5 : decode b_Post_clear 5 = .ok (.return_, 1) := by decide +kernel
theorem d_Post_size_0 : decode b_Post_size 0 = .ok (.aload_n 0, 1) := by decide +kernel
theorem d_Post_size_1 : decode b_Post_size 1 = .ok (.getfield 20, 3) := by decide +kernel
theorem d_Post_size_4 : decode b_Post_size 4 = .ok (.ireturn, 1) := by decide +kernel
theorem d_Post_send_0 : decode b_Post_send 0 = .ok (.aload_n 0, 1) := by decide +kernel
theorem d_Post_send_1 : decode b_Post_send 1 = .ok (.getfield 20, 3) := by decide +kernel
theorem d_Post_send_4 : decode b_Post_send 4 = .ok (.bipush 16, 2) := by decide +kernel
theorem d_Post_send_6 : decode b_Post_send 6 = .ok (.if_icmp .lt 4, 3) := by decide +kernel
theorem d_Post_send_9 : decode b_Post_send 9 = .ok (.return_, 1) := by decide +kernel
theorem d_Post_send_10 : decode b_Post_send 10 = .ok (.aload_n 0, 1) := by decide +kernel
theorem d_Post_send_11 : decode b_Post_send 11 = .ok (.getfield 9, 3) := by decide +kernel
theorem d_Post_send_14 : decode b_Post_send 14 = .ok (.aload_n 0, 1) := by decide +kernel
theorem d_Post_send_15 : decode b_Post_send 15 = .ok (.getfield 20, 3) := by decide +kernel
theorem d_Post_send_18 : decode b_Post_send 18 = .ok (.iload_n 1, 1) := by decide +kernel
theorem d_Post_send_19 : decode b_Post_send 19 = .ok (.iastore, 1) := by decide +kernel
theorem d_Post_send_20 : decode b_Post_send 20 = .ok (.aload_n 0, 1) := by decide +kernel
theorem d_Post_send_21 : decode b_Post_send 21 = .ok (.getfield 13, 3) := by decide +kernel
theorem d_Post_send_24 : decode b_Post_send 24 = .ok (.aload_n 0, 1) := by decide +kernel
theorem d_Post_send_25 : decode b_Post_send 25 = .ok (.getfield 20, 3) := by decide +kernel
theorem d_Post_send_28 : decode b_Post_send 28 = .ok (.iload_n 2, 1) := by decide +kernel
theorem d_Post_send_29 : decode b_Post_send 29 = .ok (.iastore, 1) := by decide +kernel
theorem d_Post_send_30 : decode b_Post_send 30 = .ok (.aload_n 0, 1) := by decide +kernel
theorem d_Post_send_31 : decode b_Post_send 31 = .ok (.getfield 16, 3) := by decide +kernel
theorem d_Post_send_34 : decode b_Post_send 34 = .ok (.aload_n 0, 1) := by decide +kernel
theorem d_Post_send_35 : decode b_Post_send 35 = .ok (.getfield 20, 3) := by decide +kernel
theorem d_Post_send_38 : decode b_Post_send 38 = .ok (.lload_n 3, 1) := by decide +kernel
theorem d_Post_send_39 : decode b_Post_send 39 = .ok (.lastore, 1) := by decide +kernel
theorem d_Post_send_40 : decode b_Post_send 40 = .ok (.aload_n 0, 1) := by decide +kernel
theorem d_Post_send_41 : decode b_Post_send 41 = .ok (.dup, 1) := by decide +kernel
theorem d_Post_send_42 : decode b_Post_send 42 = .ok (.getfield 20, 3) := by decide +kernel
theorem d_Post_send_45 : decode b_Post_send 45 = .ok (.iconst 1, 1) := by decide +kernel
theorem d_Post_send_46 : decode b_Post_send 46 = .ok (.iadd, 1) := by decide +kernel
theorem d_Post_send_47 : decode b_Post_send 47 = .ok (.putfield 20, 3) := by decide +kernel
theorem d_Post_send_50 : decode b_Post_send 50 = .ok (.return_, 1) := by decide +kernel
theorem d_Post_deliver_0 : decode b_Post_deliver 0 = .ok (.iload_n 1, 1) := by decide +kernel
theorem d_Post_deliver_1 : decode b_Post_deliver 1 = .ok (.ifCond .lt 11, 3) := by decide +kernel
theorem d_Post_deliver_4 : decode b_Post_deliver 4 = .ok (.iload_n 1, 1) := by decide +kernel
theorem d_Post_deliver_5 : decode b_Post_deliver 5 = .ok (.aload_n 0, 1) := by decide +kernel
theorem d_Post_deliver_6 : decode b_Post_deliver 6 = .ok (.getfield 20, 3) := by decide +kernel
theorem d_Post_deliver_9 : decode b_Post_deliver 9 = .ok (.if_icmp .lt 4, 3) := by decide +kernel
theorem d_Post_deliver_12 : decode b_Post_deliver 12 = .ok (.return_, 1) := by decide +kernel
theorem d_Post_deliver_13 : decode b_Post_deliver 13 = .ok (.aload_n 2, 1) := by decide +kernel
theorem d_Post_deliver_14 : decode b_Post_deliver 14 = .ok (.aload_n 0, 1) := by decide +kernel
theorem d_Post_deliver_15 : decode b_Post_deliver 15 = .ok (.getfield 9, 3) := by decide +kernel
theorem d_Post_deliver_18 : decode b_Post_deliver 18 = .ok (.iload_n 1, 1) := by decide +kernel
theorem d_Post_deliver_19 : decode b_Post_deliver 19 = .ok (.iaload, 1) := by decide +kernel
theorem d_Post_deliver_20 : decode b_Post_deliver 20 = .ok (.aaload, 1) := by decide +kernel
theorem d_Post_deliver_21 : decode b_Post_deliver 21 = .ok (.aload_n 0, 1) := by decide +kernel
theorem d_Post_deliver_22 : decode b_Post_deliver 22 = .ok (.getfield 13, 3) := by decide +kernel
theorem d_Post_deliver_25 : decode b_Post_deliver 25 = .ok (.iload_n 1, 1) := by decide +kernel
theorem d_Post_deliver_26 : decode b_Post_deliver 26 = .ok (.iaload, 1) := by decide +kernel
theorem d_Post_deliver_27 : decode b_Post_deliver 27 = .ok (.aload_n 0, 1) := by decide +kernel
theorem d_Post_deliver_28 : decode b_Post_deliver 28 = .ok (.getfield 16, 3) := by decide +kernel
theorem d_Post_deliver_31 : decode b_Post_deliver 31 = .ok (.iload_n 1, 1) := by decide +kernel
theorem d_Post_deliver_32 : decode b_Post_deliver 32 = .ok (.laload, 1) := by decide +kernel
theorem d_Post_deliver_33 : decode b_Post_deliver 33 = .ok (.invokevirtual 24, 3) := by decide +kernel
theorem d_Post_deliver_36 : decode b_Post_deliver 36 = .ok (.aload_n 0, 1) := by decide +kernel
theorem d_Post_deliver_37 : decode b_Post_deliver 37 = .ok (.dup, 1) := by decide +kernel
theorem d_Post_deliver_38 : decode b_Post_deliver 38 = .ok (.getfield 20, 3) := by decide +kernel
theorem d_Post_deliver_41 : decode b_Post_deliver 41 = .ok (.iconst 1, 1) := by decide +kernel
theorem d_Post_deliver_42 : decode b_Post_deliver 42 = .ok (.isub, 1) := by decide +kernel
theorem d_Post_deliver_43 : decode b_Post_deliver 43 = .ok (.putfield 20, 3) := by decide +kernel
theorem d_Post_deliver_46 : decode b_Post_deliver 46 = .ok (.aload_n 0, 1) := by decide +kernel
theorem d_Post_deliver_47 : decode b_Post_deliver 47 = .ok (.getfield 9, 3) := by decide +kernel
theorem d_Post_deliver_50 : decode b_Post_deliver 50 = .ok (.iload_n 1, 1) := by decide +kernel
theorem d_Post_deliver_51 : decode b_Post_deliver 51 = .ok (.aload_n 0, 1) := by decide +kernel
theorem d_Post_deliver_52 : decode b_Post_deliver 52 = .ok (.getfield 9, 3) := by decide +kernel
theorem d_Post_deliver_55 : decode b_Post_deliver 55 = .ok (.aload_n 0, 1) := by decide +kernel
theorem d_Post_deliver_56 : decode b_Post_deliver 56 = .ok (.getfield 20, 3) := by decide +kernel
theorem d_Post_deliver_59 : decode b_Post_deliver 59 = .ok (.iaload, 1) := by decide +kernel
theorem d_Post_deliver_60 : decode b_Post_deliver 60 = .ok (.iastore, 1) := by decide +kernel
theorem d_Post_deliver_61 : decode b_Post_deliver 61 = .ok (.aload_n 0, 1) := by decide +kernel
theorem d_Post_deliver_62 : decode b_Post_deliver 62 = .ok (.getfield 13, 3) := by decide +kernel
theorem d_Post_deliver_65 : decode b_Post_deliver 65 = .ok (.iload_n 1, 1) := by decide +kernel
theorem d_Post_deliver_66 : decode b_Post_deliver 66 = .ok (.aload_n 0, 1) := by decide +kernel
theorem d_Post_deliver_67 : decode b_Post_deliver 67 = .ok (.getfield 13, 3) := by decide +kernel
theorem d_Post_deliver_70 : decode b_Post_deliver 70 = .ok (.aload_n 0, 1) := by decide +kernel
theorem d_Post_deliver_71 : decode b_Post_deliver 71 = .ok (.getfield 20, 3) := by decide +kernel
theorem d_Post_deliver_74 : decode b_Post_deliver 74 = .ok (.iaload, 1) := by decide +kernel
theorem d_Post_deliver_75 : decode b_Post_deliver 75 = .ok (.iastore, 1) := by decide +kernel
theorem d_Post_deliver_76 : decode b_Post_deliver 76 = .ok (.aload_n 0, 1) := by decide +kernel
theorem d_Post_deliver_77 : decode b_Post_deliver 77 = .ok (.getfield 16, 3) := by decide +kernel
theorem d_Post_deliver_80 : decode b_Post_deliver 80 = .ok (.iload_n 1, 1) := by decide +kernel
theorem d_Post_deliver_81 : decode b_Post_deliver 81 = .ok (.aload_n 0, 1) := by decide +kernel
theorem d_Post_deliver_82 : decode b_Post_deliver 82 = .ok (.getfield 16, 3) := by decide +kernel
theorem d_Post_deliver_85 : decode b_Post_deliver 85 = .ok (.aload_n 0, 1) := by decide +kernel
theorem d_Post_deliver_86 : decode b_Post_deliver 86 = .ok (.getfield 20, 3) := by decide +kernel
theorem d_Post_deliver_89 : decode b_Post_deliver 89 = .ok (.laload, 1) := by decide +kernel
theorem d_Post_deliver_90 : decode b_Post_deliver 90 = .ok (.lastore, 1) := by decide +kernel
theorem d_Post_deliver_91 : decode b_Post_deliver 91 = .ok (.return_, 1) := by decide +kernel
