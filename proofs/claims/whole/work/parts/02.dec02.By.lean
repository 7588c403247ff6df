/-! decode rows of SoundStream$Bytes, by program -/
theorem d_By_init_0 : decode prog_2_method_1_code 0 = .ok (.aload_n 0, 1) := by decide +kernel
theorem d_By_init_1 : decode prog_2_method_1_code 1 = .ok (.invokespecial 3, 3) := by decide +kernel
theorem d_By_init_4 : decode prog_2_method_1_code 4 = .ok (.aload_n 0, 1) := by decide +kernel
theorem d_By_init_5 : decode prog_2_method_1_code 5 = .ok (.sipush 9000, 3) := by decide +kernel
theorem d_By_init_8 : decode prog_2_method_1_code 8 = .ok (.newarray .byte, 2) := by decide +kernel
theorem d_By_init_10 : decode prog_2_method_1_code 10 = .ok (.putfield 9, 3) := by decide +kernel
theorem d_By_init_13 : decode prog_2_method_1_code 13 = .ok (.return_, 1) := by decide +kernel
theorem d_By_get_0 : decode prog_2_method_2_code 0 = .ok (.iload_n 1, 1) := by decide +kernel
theorem d_By_get_1 : decode prog_2_method_2_code 1 = .ok (.ifCond .lt 24, 3) := by decide +kernel
theorem d_By_get_4 : decode prog_2_method_2_code 4 = .ok (.iload_n 1, 1) := by decide +kernel
theorem d_By_get_5 : decode prog_2_method_2_code 5 = .ok (.aload_n 0, 1) := by decide +kernel
theorem d_By_get_6 : decode prog_2_method_2_code 6 = .ok (.getfield 15, 3) := by decide +kernel
theorem d_By_get_9 : decode prog_2_method_2_code 9 = .ok (.if_icmp .ge 16, 3) := by decide +kernel
theorem d_By_get_12 : decode prog_2_method_2_code 12 = .ok (.aload_n 0, 1) := by decide +kernel
theorem d_By_get_13 : decode prog_2_method_2_code 13 = .ok (.getfield 9, 3) := by decide +kernel
theorem d_By_get_16 : decode prog_2_method_2_code 16 = .ok (.iload_n 1, 1) := by decide +kernel
theorem d_By_get_17 : decode prog_2_method_2_code 17 = .ok (.baload, 1) := by decide +kernel
theorem d_By_get_18 : decode prog_2_method_2_code 18 = .ok (.sipush 255, 3) := by decide +kernel
theorem d_By_get_21 : decode prog_2_method_2_code 21 = .ok (.iand, 1) := by decide +kernel
theorem d_By_get_22 : decode prog_2_method_2_code 22 = .ok (.goto 4, 3) := by decide +kernel
theorem d_By_get_25 : decode prog_2_method_2_code 25 = .ok (.iconst 0, 1) := by decide +kernel
theorem d_By_get_26 : decode prog_2_method_2_code 26 = .ok (.ireturn, 1) := by decide +kernel
theorem d_By_set_0 : decode prog_2_method_3_code 0 = .ok (.iload_n 1, 1) := by decide +kernel
theorem d_By_set_1 : decode prog_2_method_3_code 1 = .ok (.ifCond .lt 19, 3) := by decide +kernel
theorem d_By_set_4 : decode prog_2_method_3_code 4 = .ok (.iload_n 1, 1) := by decide +kernel
theorem d_By_set_5 : decode prog_2_method_3_code 5 = .ok (.aload_n 0, 1) := by decide +kernel
theorem d_By_set_6 : decode prog_2_method_3_code 6 = .ok (.getfield 15, 3) := by decide +kernel
theorem d_By_set_9 : decode prog_2_method_3_code 9 = .ok (.if_icmp .ge 11, 3) := by decide +kernel
theorem d_By_set_12 : decode prog_2_method_3_code 12 = .ok (.aload_n 0, 1) := by decide +kernel
theorem d_By_set_13 : decode prog_2_method_3_code 13 = .ok (.getfield 9, 3) := by decide +kernel
theorem d_By_set_16 : decode prog_2_method_3_code 16 = .ok (.iload_n 1, 1) := by decide +kernel
theorem d_By_set_17 : decode prog_2_method_3_code 17 = .ok (.iload_n 2, 1) := by decide +kernel
theorem d_By_set_18 : decode prog_2_method_3_code 18 = .ok (.i2b, 1) := by decide +kernel
theorem d_By_set_19 : decode prog_2_method_3_code 19 = .ok (.bastore, 1) := by decide +kernel
theorem d_By_set_20 : decode prog_2_method_3_code 20 = .ok (.return_, 1) := by decide +kernel
theorem d_By_add_0 : decode prog_2_method_4_code 0 = .ok (.aload_n 0, 1) := by decide +kernel
theorem d_By_add_1 : decode prog_2_method_4_code 1 = .ok (.getfield 15, 3) := by decide +kernel
theorem d_By_add_4 : decode prog_2_method_4_code 4 = .ok (.sipush 9000, 3) := by decide +kernel
theorem d_By_add_7 : decode prog_2_method_4_code 7 = .ok (.if_icmp .ge 24, 3) := by decide +kernel
theorem d_By_add_10 : decode prog_2_method_4_code 10 = .ok (.aload_n 0, 1) := by decide +kernel
theorem d_By_add_11 : decode prog_2_method_4_code 11 = .ok (.getfield 9, 3) := by decide +kernel
theorem d_By_add_14 : decode prog_2_method_4_code 14 = .ok (.aload_n 0, 1) := by decide +kernel
theorem d_By_add_15 : decode prog_2_method_4_code 15 = .ok (.getfield 15, 3) := by decide +kernel
theorem d_By_add_18 : decode prog_2_method_4_code 18 = .ok (.iload_n 1, 1) := by decide +kernel
theorem d_By_add_19 : decode prog_2_method_4_code 19 = .ok (.i2b, 1) := by decide +kernel
theorem d_By_add_20 : decode prog_2_method_4_code 20 = .ok (.bastore, 1) := by decide +kernel
theorem d_By_add_21 : decode prog_2_method_4_code 21 = .ok (.aload_n 0, 1) := by decide +kernel
theorem d_By_add_22 : decode prog_2_method_4_code 22 = .ok (.dup, 1) := by decide +kernel
theorem d_By_add_23 : decode prog_2_method_4_code 23 = .ok (.getfield 15, 3) := by decide +kernel
theorem d_By_add_26 : decode prog_2_method_4_code 26 = .ok (.iconst 1, 1) := by decide +kernel
theorem d_By_add_27 : decode prog_2_method_4_code 27 = .ok (.iadd, 1) := by decide +kernel
theorem d_By_add_28 : decode prog_2_method_4_code 28 = .ok (.putfield 15, 3) := by decide +kernel
theorem d_By_add_31 : decode prog_2_method_4_code 31 = .ok (.return_, 1) := by decide +kernel
theorem d_By_check_0 : decode prog_2_method_5_code 0 = .ok (.iconst 1, 1) := by decide +kernel
theorem d_By_check_1 : decode prog_2_method_5_code 1 = .ok (.iload_n 1, 1) := by decide +kernel
theorem d_By_check_2 : decode prog_2_method_5_code 2 = .ok (.iconst 1, 1) := by decide +kernel
theorem d_By_check_3 : decode prog_2_method_5_code 3 = .ok (.isub, 1) := by decide +kernel
theorem d_By_check_4 : decode prog_2_method_5_code 4 = .ok (.ishl, 1) := by decide +kernel
theorem d_By_check_5 : decode prog_2_method_5_code 5 = .ok (.istore 4, 2) := by decide +kernel
theorem d_By_check_7 : decode prog_2_method_5_code 7 = .ok (.iload_n 1, 1) := by decide +kernel
theorem d_By_check_8 : decode prog_2_method_5_code 8 = .ok (.bipush 8, 2) := by decide +kernel
theorem d_By_check_10 : decode prog_2_method_5_code 10 = .ok (.if_icmp .ne 8, 3) := by decide +kernel
theorem d_By_check_13 : decode prog_2_method_5_code 13 = .ok (.bipush 7, 2) := by decide +kernel
theorem d_By_check_15 : decode prog_2_method_5_code 15 = .ok (.goto 5, 3) := by decide +kernel
theorem d_By_check_18 : decode prog_2_method_5_code 18 = .ok (.ldc 19, 2) := by decide +kernel
theorem d_By_check_20 : decode prog_2_method_5_code 20 = .ok (.istore 5, 2) := by decide +kernel
theorem d_By_check_22 : decode prog_2_method_5_code 22 = .ok (.iconst 0, 1) := by decide +kernel
theorem d_By_check_23 : decode prog_2_method_5_code 23 = .ok (.istore 6, 2) := by decide +kernel
theorem d_By_check_25 : decode prog_2_method_5_code 25 = .ok (.iload_n 2, 1) := by decide +kernel
theorem d_By_check_26 : decode prog_2_method_5_code 26 = .ok (.istore 7, 2) := by decide +kernel
theorem d_By_check_28 : decode prog_2_method_5_code 28 = .ok (.iload 7, 2) := by decide +kernel
theorem d_By_check_30 : decode prog_2_method_5_code 30 = .ok (.iload_n 3, 1) := by decide +kernel
theorem d_By_check_31 : decode prog_2_method_5_code 31 = .ok (.if_icmp .ge 79, 3) := by decide +kernel
theorem d_By_check_34 : decode prog_2_method_5_code 34 = .ok (.iload 6, 2) := by decide +kernel
theorem d_By_check_36 : decode prog_2_method_5_code 36 = .ok (.aload_n 0, 1) := by decide +kernel
theorem d_By_check_37 : decode prog_2_method_5_code 37 = .ok (.iload 7, 2) := by decide +kernel
theorem d_By_check_39 : decode prog_2_method_5_code 39 = .ok (.invokevirtual 20, 3) := by decide +kernel
theorem d_By_check_42 : decode prog_2_method_5_code 42 = .ok (.iload_n 1, 1) := by decide +kernel
theorem d_By_check_43 : decode prog_2_method_5_code 43 = .ok (.bipush 8, 2) := by decide +kernel
theorem d_By_check_45 : decode prog_2_method_5_code 45 = .ok (.isub, 1) := by decide +kernel
theorem d_By_check_46 : decode prog_2_method_5_code 46 = .ok (.ishl, 1) := by decide +kernel
theorem d_By_check_47 : decode prog_2_method_5_code 47 = .ok (.ixor, 1) := by decide +kernel
theorem d_By_check_48 : decode prog_2_method_5_code 48 = .ok (.istore 6, 2) := by decide +kernel
theorem d_By_check_50 : decode prog_2_method_5_code 50 = .ok (.iconst 0, 1) := by decide +kernel
theorem d_By_check_51 : decode prog_2_method_5_code 51 = .ok (.istore 8, 2) := by decide +kernel
theorem d_By_check_53 : decode prog_2_method_5_code 53 = .ok (.iload 8, 2) := by decide +kernel
theorem d_By_check_55 : decode prog_2_method_5_code 55 = .ok (.bipush 8, 2) := by decide +kernel
theorem d_By_check_57 : decode prog_2_method_5_code 57 = .ok (.if_icmp .ge 47, 3) := by decide +kernel
theorem d_By_check_60 : decode prog_2_method_5_code 60 = .ok (.iload 6, 2) := by decide +kernel
theorem d_By_check_62 : decode prog_2_method_5_code 62 = .ok (.iload 4, 2) := by decide +kernel
theorem d_By_check_64 : decode prog_2_method_5_code 64 = .ok (.iand, 1) := by decide +kernel
theorem d_By_check_65 : decode prog_2_method_5_code 65 = .ok (.ifCond .eq 7, 3) := by decide +kernel
theorem d_By_check_68 : decode prog_2_method_5_code 68 = .ok (.iconst 1, 1) := by decide +kernel
theorem d_By_check_69 : decode prog_2_method_5_code 69 = .ok (.goto 4, 3) := by decide +kernel
theorem d_By_check_72 : decode prog_2_method_5_code 72 = .ok (.iconst 0, 1) := by decide +kernel
theorem d_By_check_73 : decode prog_2_method_5_code 73 = .ok (.istore 9, 2) := by decide +kernel
theorem d_By_check_75 : decode prog_2_method_5_code 75 = .ok (.iload 6, 2) := by decide +kernel
theorem d_By_check_77 : decode prog_2_method_5_code 77 = .ok (.iload 4, 2) := by decide +kernel
theorem d_By_check_79 : decode prog_2_method_5_code 79 = .ok (.iconst 1, 1) := by decide +kernel
theorem d_By_check_80 : decode prog_2_method_5_code 80 = .ok (.isub, 1) := by decide +kernel
theorem d_By_check_81 : decode prog_2_method_5_code 81 = .ok (.iand, 1) := by decide +kernel
theorem d_By_check_82 : decode prog_2_method_5_code 82 = .ok (.iconst 1, 1) := by decide +kernel
theorem d_By_check_83 : decode prog_2_method_5_code 83 = .ok (.ishl, 1) := by decide +kernel
theorem d_By_check_84 : decode prog_2_method_5_code 84 = .ok (.istore 6, 2) := by decide +kernel
theorem d_By_check_86 : decode prog_2_method_5_code 86 = .ok (.iload 9, 2) := by decide +kernel
theorem d_By_check_88 : decode prog_2_method_5_code 88 = .ok (.ifCond .eq 10, 3) := by decide +kernel
theorem d_By_check_91 : decode prog_2_method_5_code 91 = .ok (.iload 6, 2) := by decide +kernel
theorem d_By_check_93 : decode prog_2_method_5_code 93 = .ok (.iload 5, 2) := by decide +kernel
theorem d_By_check_95 : decode prog_2_method_5_code 95 = .ok (.ixor, 1) := by decide +kernel
theorem d_By_check_96 : decode prog_2_method_5_code 96 = .ok (.istore 6, 2) := by decide +kernel
theorem d_By_check_98 : decode prog_2_method_5_code 98 = .ok (.iinc 8 1, 3) := by decide +kernel
theorem d_By_check_101 : decode prog_2_method_5_code 101 = .ok (.goto (-48), 3) := by decide +kernel
theorem d_By_check_104 : decode prog_2_method_5_code 104 = .ok (.iinc 7 1, 3) := by decide +kernel
theorem d_By_check_107 : decode prog_2_method_5_code 107 = .ok (.goto (-79), 3) := by decide +kernel
theorem d_By_check_110 : decode prog_2_method_5_code 110 = .ok (.iload 6, 2) := by decide +kernel
theorem d_By_check_112 : decode prog_2_method_5_code 112 = .ok (.ireturn, 1) := by decide +kernel
