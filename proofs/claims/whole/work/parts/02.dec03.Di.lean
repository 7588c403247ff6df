/-! decode rows of SoundStream$Digest, by program -/
theorem d_Di_init_0 : decode prog_4_method_1_code 0 = .ok (.aload_n 0, 1) := by decide +kernel
theorem d_Di_init_1 : decode prog_4_method_1_code 1 = .ok (.invokespecial 1, 3) := by decide +kernel
theorem d_Di_init_4 : decode prog_4_method_1_code 4 = .ok (.aload_n 0, 1) := by decide +kernel
theorem d_Di_init_5 : decode prog_4_method_1_code 5 = .ok (.bipush 16, 2) := by decide +kernel
theorem d_Di_init_7 : decode prog_4_method_1_code 7 = .ok (.newarray .int, 2) := by decide +kernel
theorem d_Di_init_9 : decode prog_4_method_1_code 9 = .ok (.putfield 7, 3) := by decide +kernel
theorem d_Di_init_12 : decode prog_4_method_1_code 12 = .ok (.return_, 1) := by decide +kernel
theorem d_Di_take_0 : decode prog_4_method_2_code 0 = .ok (.aload_n 0, 1) := by decide +kernel
theorem d_Di_take_1 : decode prog_4_method_2_code 1 = .ok (.invokevirtual 13, 3) := by decide +kernel
theorem d_Di_take_4 : decode prog_4_method_2_code 4 = .ok (.aload_n 1, 1) := by decide +kernel
theorem d_Di_take_5 : decode prog_4_method_2_code 5 = .ok (.getfield 16, 3) := by decide +kernel
theorem d_Di_take_8 : decode prog_4_method_2_code 8 = .ok (.bipush 7, 2) := by decide +kernel
theorem d_Di_take_10 : decode prog_4_method_2_code 10 = .ok (.iadd, 1) := by decide +kernel
theorem d_Di_take_11 : decode prog_4_method_2_code 11 = .ok (.iconst 3, 1) := by decide +kernel
theorem d_Di_take_12 : decode prog_4_method_2_code 12 = .ok (.ishr, 1) := by decide +kernel
theorem d_Di_take_13 : decode prog_4_method_2_code 13 = .ok (.istore_n 2, 1) := by decide +kernel
theorem d_Di_take_14 : decode prog_4_method_2_code 14 = .ok (.iconst 0, 1) := by decide +kernel
theorem d_Di_take_15 : decode prog_4_method_2_code 15 = .ok (.istore_n 3, 1) := by decide +kernel
theorem d_Di_take_16 : decode prog_4_method_2_code 16 = .ok (.iload_n 3, 1) := by decide +kernel
theorem d_Di_take_17 : decode prog_4_method_2_code 17 = .ok (.aload_n 1, 1) := by decide +kernel
theorem d_Di_take_18 : decode prog_4_method_2_code 18 = .ok (.getfield 22, 3) := by decide +kernel
theorem d_Di_take_21 : decode prog_4_method_2_code 21 = .ok (.iconst 0, 1) := by decide +kernel
theorem d_Di_take_22 : decode prog_4_method_2_code 22 = .ok (.iaload, 1) := by decide +kernel
theorem d_Di_take_23 : decode prog_4_method_2_code 23 = .ok (.if_icmp .ge 42, 3) := by decide +kernel
theorem d_Di_take_26 : decode prog_4_method_2_code 26 = .ok (.iconst 0, 1) := by decide +kernel
theorem d_Di_take_27 : decode prog_4_method_2_code 27 = .ok (.istore 4, 2) := by decide +kernel
theorem d_Di_take_29 : decode prog_4_method_2_code 29 = .ok (.iload 4, 2) := by decide +kernel
theorem d_Di_take_31 : decode prog_4_method_2_code 31 = .ok (.aload_n 1, 1) := by decide +kernel
theorem d_Di_take_32 : decode prog_4_method_2_code 32 = .ok (.getfield 25, 3) := by decide +kernel
theorem d_Di_take_35 : decode prog_4_method_2_code 35 = .ok (.if_icmp .ge 24, 3) := by decide +kernel
theorem d_Di_take_38 : decode prog_4_method_2_code 38 = .ok (.aload_n 0, 1) := by decide +kernel
theorem d_Di_take_39 : decode prog_4_method_2_code 39 = .ok (.iload_n 2, 1) := by decide +kernel
theorem d_Di_take_40 : decode prog_4_method_2_code 40 = .ok (.aload_n 1, 1) := by decide +kernel
theorem d_Di_take_41 : decode prog_4_method_2_code 41 = .ok (.getfield 28, 3) := by decide +kernel
theorem d_Di_take_44 : decode prog_4_method_2_code 44 = .ok (.iload 4, 2) := by decide +kernel
theorem d_Di_take_46 : decode prog_4_method_2_code 46 = .ok (.aaload, 1) := by decide +kernel
theorem d_Di_take_47 : decode prog_4_method_2_code 47 = .ok (.iload_n 3, 1) := by decide +kernel
theorem d_Di_take_48 : decode prog_4_method_2_code 48 = .ok (.iaload, 1) := by decide +kernel
theorem d_Di_take_49 : decode prog_4_method_2_code 49 = .ok (.i2l, 1) := by decide +kernel
theorem d_Di_take_50 : decode prog_4_method_2_code 50 = .ok (.invokevirtual 32, 3) := by decide +kernel
theorem d_Di_take_53 : decode prog_4_method_2_code 53 = .ok (.iinc 4 1, 3) := by decide +kernel
theorem d_Di_take_56 : decode prog_4_method_2_code 56 = .ok (.goto (-27), 3) := by decide +kernel
theorem d_Di_take_59 : decode prog_4_method_2_code 59 = .ok (.iinc 3 1, 3) := by decide +kernel
theorem d_Di_take_62 : decode prog_4_method_2_code 62 = .ok (.goto (-46), 3) := by decide +kernel
theorem d_Di_take_65 : decode prog_4_method_2_code 65 = .ok (.ldc2_w 36, 3) := by decide +kernel
theorem d_Di_take_68 : decode prog_4_method_2_code 68 = .ok (.aload_n 0, 1) := by decide +kernel
theorem d_Di_take_69 : decode prog_4_method_2_code 69 = .ok (.getfield 38, 3) := by decide +kernel
theorem d_Di_take_72 : decode prog_4_method_2_code 72 = .ok (.i2l, 1) := by decide +kernel
theorem d_Di_take_73 : decode prog_4_method_2_code 73 = .ok (.lmul, 1) := by decide +kernel
theorem d_Di_take_74 : decode prog_4_method_2_code 74 = .ok (.lstore_n 3, 1) := by decide +kernel
theorem d_Di_take_75 : decode prog_4_method_2_code 75 = .ok (.aload_n 0, 1) := by decide +kernel
theorem d_Di_take_76 : decode prog_4_method_2_code 76 = .ok (.iconst 1, 1) := by decide +kernel
theorem d_Di_take_77 : decode prog_4_method_2_code 77 = .ok (.ldc2_w 41, 3) := by decide +kernel
theorem d_Di_take_80 : decode prog_4_method_2_code 80 = .ok (.invokevirtual 32, 3) := by decide +kernel
theorem d_Di_take_83 : decode prog_4_method_2_code 83 = .ok (.iconst 0, 1) := by decide +kernel
theorem d_Di_take_84 : decode prog_4_method_2_code 84 = .ok (.istore 5, 2) := by decide +kernel
theorem d_Di_take_86 : decode prog_4_method_2_code 86 = .ok (.iload 5, 2) := by decide +kernel
theorem d_Di_take_88 : decode prog_4_method_2_code 88 = .ok (.bipush 64, 2) := by decide +kernel
theorem d_Di_take_90 : decode prog_4_method_2_code 90 = .ok (.if_icmp .ge 27, 3) := by decide +kernel
theorem d_Di_take_93 : decode prog_4_method_2_code 93 = .ok (.aload_n 0, 1) := by decide +kernel
theorem d_Di_take_94 : decode prog_4_method_2_code 94 = .ok (.getfield 38, 3) := by decide +kernel
theorem d_Di_take_97 : decode prog_4_method_2_code 97 = .ok (.bipush 63, 2) := by decide +kernel
theorem d_Di_take_99 : decode prog_4_method_2_code 99 = .ok (.iand, 1) := by decide +kernel
theorem d_Di_take_100 : decode prog_4_method_2_code 100 = .ok (.bipush 56, 2) := by decide +kernel
theorem d_Di_take_102 : decode prog_4_method_2_code 102 = .ok (.if_icmp .eq 15, 3) := by decide +kernel
theorem d_Di_take_105 : decode prog_4_method_2_code 105 = .ok (.aload_n 0, 1) := by decide +kernel
theorem d_Di_take_106 : decode prog_4_method_2_code 106 = .ok (.iconst 1, 1) := by decide +kernel
theorem d_Di_take_107 : decode prog_4_method_2_code 107 = .ok (.lconst 0, 1) := by decide +kernel
theorem d_Di_take_108 : decode prog_4_method_2_code 108 = .ok (.invokevirtual 32, 3) := by decide +kernel
theorem d_Di_take_111 : decode prog_4_method_2_code 111 = .ok (.iinc 5 1, 3) := by decide +kernel
theorem d_Di_take_114 : decode prog_4_method_2_code 114 = .ok (.goto (-28), 3) := by decide +kernel
theorem d_Di_take_117 : decode prog_4_method_2_code 117 = .ok (.aload_n 0, 1) := by decide +kernel
theorem d_Di_take_118 : decode prog_4_method_2_code 118 = .ok (.bipush 8, 2) := by decide +kernel
theorem d_Di_take_120 : decode prog_4_method_2_code 120 = .ok (.lload_n 3, 1) := by decide +kernel
theorem d_Di_take_121 : decode prog_4_method_2_code 121 = .ok (.invokevirtual 32, 3) := by decide +kernel
theorem d_Di_take_124 : decode prog_4_method_2_code 124 = .ok (.return_, 1) := by decide +kernel
theorem d_Di_half_0 : decode prog_4_method_3_code 0 = .ok (.iload_n 1, 1) := by decide +kernel
theorem d_Di_half_1 : decode prog_4_method_3_code 1 = .ok (.ifCond .ne 10, 3) := by decide +kernel
theorem d_Di_half_4 : decode prog_4_method_3_code 4 = .ok (.aload_n 0, 1) := by decide +kernel
theorem d_Di_half_5 : decode prog_4_method_3_code 5 = .ok (.getfield 43, 3) := by decide +kernel
theorem d_Di_half_8 : decode prog_4_method_3_code 8 = .ok (.goto 7, 3) := by decide +kernel
theorem d_Di_half_11 : decode prog_4_method_3_code 11 = .ok (.aload_n 0, 1) := by decide +kernel
theorem d_Di_half_12 : decode prog_4_method_3_code 12 = .ok (.getfield 46, 3) := by decide +kernel
theorem d_Di_half_15 : decode prog_4_method_3_code 15 = .ok (.istore_n 2, 1) := by decide +kernel
theorem d_Di_half_16 : decode prog_4_method_3_code 16 = .ok (.iload_n 1, 1) := by decide +kernel
theorem d_Di_half_17 : decode prog_4_method_3_code 17 = .ok (.ifCond .ne 10, 3) := by decide +kernel
theorem d_Di_half_20 : decode prog_4_method_3_code 20 = .ok (.aload_n 0, 1) := by decide +kernel
theorem d_Di_half_21 : decode prog_4_method_3_code 21 = .ok (.getfield 49, 3) := by decide +kernel
theorem d_Di_half_24 : decode prog_4_method_3_code 24 = .ok (.goto 7, 3) := by decide +kernel
theorem d_Di_half_27 : decode prog_4_method_3_code 27 = .ok (.aload_n 0, 1) := by decide +kernel
theorem d_Di_half_28 : decode prog_4_method_3_code 28 = .ok (.getfield 52, 3) := by decide +kernel
theorem d_Di_half_31 : decode prog_4_method_3_code 31 = .ok (.istore_n 3, 1) := by decide +kernel
theorem d_Di_half_32 : decode prog_4_method_3_code 32 = .ok (.iload_n 3, 1) := by decide +kernel
theorem d_Di_half_33 : decode prog_4_method_3_code 33 = .ok (.i2l, 1) := by decide +kernel
theorem d_Di_half_34 : decode prog_4_method_3_code 34 = .ok (.bipush 32, 2) := by decide +kernel
theorem d_Di_half_36 : decode prog_4_method_3_code 36 = .ok (.lshl, 1) := by decide +kernel
theorem d_Di_half_37 : decode prog_4_method_3_code 37 = .ok (.iload_n 2, 1) := by decide +kernel
theorem d_Di_half_38 : decode prog_4_method_3_code 38 = .ok (.i2l, 1) := by decide +kernel
theorem d_Di_half_39 : decode prog_4_method_3_code 39 = .ok (.ldc2_w 55, 3) := by decide +kernel
theorem d_Di_half_42 : decode prog_4_method_3_code 42 = .ok (.land, 1) := by decide +kernel
theorem d_Di_half_43 : decode prog_4_method_3_code 43 = .ok (.lor, 1) := by decide +kernel
theorem d_Di_half_44 : decode prog_4_method_3_code 44 = .ok (.lreturn, 1) := by decide +kernel
theorem d_Di_begin_0 : decode prog_4_method_4_code 0 = .ok (.aload_n 0, 1) := by decide +kernel
theorem d_Di_begin_1 : decode prog_4_method_4_code 1 = .ok (.getfield 7, 3) := by decide +kernel
theorem d_Di_begin_4 : decode prog_4_method_4_code 4 = .ok (.iconst 0, 1) := by decide +kernel
theorem d_Di_begin_5 : decode prog_4_method_4_code 5 = .ok (.invokestatic 57, 3) := by decide +kernel
theorem d_Di_begin_8 : decode prog_4_method_4_code 8 = .ok (.aload_n 0, 1) := by decide +kernel
theorem d_Di_begin_9 : decode prog_4_method_4_code 9 = .ok (.iconst 0, 1) := by decide +kernel
theorem d_Di_begin_10 : decode prog_4_method_4_code 10 = .ok (.putfield 38, 3) := by decide +kernel
theorem d_Di_begin_13 : decode prog_4_method_4_code 13 = .ok (.aload_n 0, 1) := by decide +kernel
theorem d_Di_begin_14 : decode prog_4_method_4_code 14 = .ok (.ldc 63, 2) := by decide +kernel
theorem d_Di_begin_16 : decode prog_4_method_4_code 16 = .ok (.putfield 43, 3) := by decide +kernel
theorem d_Di_begin_19 : decode prog_4_method_4_code 19 = .ok (.aload_n 0, 1) := by decide +kernel
theorem d_Di_begin_20 : decode prog_4_method_4_code 20 = .ok (.ldc 64, 2) := by decide +kernel
theorem d_Di_begin_22 : decode prog_4_method_4_code 22 = .ok (.putfield 49, 3) := by decide +kernel
theorem d_Di_begin_25 : decode prog_4_method_4_code 25 = .ok (.aload_n 0, 1) := by decide +kernel
theorem d_Di_begin_26 : decode prog_4_method_4_code 26 = .ok (.ldc 65, 2) := by decide +kernel
theorem d_Di_begin_28 : decode prog_4_method_4_code 28 = .ok (.putfield 46, 3) := by decide +kernel
theorem d_Di_begin_31 : decode prog_4_method_4_code 31 = .ok (.aload_n 0, 1) := by decide +kernel
theorem d_Di_begin_32 : decode prog_4_method_4_code 32 = .ok (.ldc 66, 2) := by decide +kernel
theorem d_Di_begin_34 : decode prog_4_method_4_code 34 = .ok (.putfield 52, 3) := by decide +kernel
theorem d_Di_begin_37 : decode prog_4_method_4_code 37 = .ok (.return_, 1) := by decide +kernel
theorem d_Di_add_0 : decode prog_4_method_5_code 0 = .ok (.iconst 0, 1) := by decide +kernel
theorem d_Di_add_1 : decode prog_4_method_5_code 1 = .ok (.istore 4, 2) := by decide +kernel
theorem d_Di_add_3 : decode prog_4_method_5_code 3 = .ok (.iload 4, 2) := by decide +kernel
theorem d_Di_add_5 : decode prog_4_method_5_code 5 = .ok (.iload_n 1, 1) := by decide +kernel
theorem d_Di_add_6 : decode prog_4_method_5_code 6 = .ok (.if_icmp .ge 84, 3) := by decide +kernel
theorem d_Di_add_9 : decode prog_4_method_5_code 9 = .ok (.lload_n 2, 1) := by decide +kernel
theorem d_Di_add_10 : decode prog_4_method_5_code 10 = .ok (.bipush 8, 2) := by decide +kernel
theorem d_Di_add_12 : decode prog_4_method_5_code 12 = .ok (.iload 4, 2) := by decide +kernel
theorem d_Di_add_14 : decode prog_4_method_5_code 14 = .ok (.imul, 1) := by decide +kernel
theorem d_Di_add_15 : decode prog_4_method_5_code 15 = .ok (.lshr, 1) := by decide +kernel
theorem d_Di_add_16 : decode prog_4_method_5_code 16 = .ok (.l2i, 1) := by decide +kernel
theorem d_Di_add_17 : decode prog_4_method_5_code 17 = .ok (.sipush 255, 3) := by decide +kernel
theorem d_Di_add_20 : decode prog_4_method_5_code 20 = .ok (.iand, 1) := by decide +kernel
theorem d_Di_add_21 : decode prog_4_method_5_code 21 = .ok (.istore 5, 2) := by decide +kernel
theorem d_Di_add_23 : decode prog_4_method_5_code 23 = .ok (.aload_n 0, 1) := by decide +kernel
theorem d_Di_add_24 : decode prog_4_method_5_code 24 = .ok (.getfield 7, 3) := by decide +kernel
theorem d_Di_add_27 : decode prog_4_method_5_code 27 = .ok (.aload_n 0, 1) := by decide +kernel
theorem d_Di_add_28 : decode prog_4_method_5_code 28 = .ok (.getfield 38, 3) := by decide +kernel
theorem d_Di_add_31 : decode prog_4_method_5_code 31 = .ok (.bipush 63, 2) := by decide +kernel
theorem d_Di_add_33 : decode prog_4_method_5_code 33 = .ok (.iand, 1) := by decide +kernel
theorem d_Di_add_34 : decode prog_4_method_5_code 34 = .ok (.iconst 2, 1) := by decide +kernel
theorem d_Di_add_35 : decode prog_4_method_5_code 35 = .ok (.ishr, 1) := by decide +kernel
theorem d_Di_add_36 : decode prog_4_method_5_code 36 = .ok (.dup2, 1) := by decide +kernel
theorem d_Di_add_37 : decode prog_4_method_5_code 37 = .ok (.iaload, 1) := by decide +kernel
theorem d_Di_add_38 : decode prog_4_method_5_code 38 = .ok (.iload 5, 2) := by decide +kernel
theorem d_Di_add_40 : decode prog_4_method_5_code 40 = .ok (.bipush 8, 2) := by decide +kernel
theorem d_Di_add_42 : decode prog_4_method_5_code 42 = .ok (.aload_n 0, 1) := by decide +kernel
theorem d_Di_add_43 : decode prog_4_method_5_code 43 = .ok (.getfield 38, 3) := by decide +kernel
theorem d_Di_add_46 : decode prog_4_method_5_code 46 = .ok (.iconst 3, 1) := by decide +kernel
theorem d_Di_add_47 : decode prog_4_method_5_code 47 = .ok (.iand, 1) := by decide +kernel
theorem d_Di_add_48 : decode prog_4_method_5_code 48 = .ok (.imul, 1) := by decide +kernel
theorem d_Di_add_49 : decode prog_4_method_5_code 49 = .ok (.ishl, 1) := by decide +kernel
theorem d_Di_add_50 : decode prog_4_method_5_code 50 = .ok (.ior, 1) := by decide +kernel
theorem d_Di_add_51 : decode prog_4_method_5_code 51 = .ok (.iastore, 1) := by decide +kernel
theorem d_Di_add_52 : decode prog_4_method_5_code 52 = .ok (.aload_n 0, 1) := by decide +kernel
theorem d_Di_add_53 : decode prog_4_method_5_code 53 = .ok (.dup, 1) := by decide +kernel
theorem d_Di_add_54 : decode prog_4_method_5_code 54 = .ok (.getfield 38, 3) := by decide +kernel
theorem d_Di_add_57 : decode prog_4_method_5_code 57 = .ok (.iconst 1, 1) := by decide +kernel
theorem d_Di_add_58 : decode prog_4_method_5_code 58 = .ok (.iadd, 1) := by decide +kernel
theorem d_Di_add_59 : decode prog_4_method_5_code 59 = .ok (.putfield 38, 3) := by decide +kernel
theorem d_Di_add_62 : decode prog_4_method_5_code 62 = .ok (.aload_n 0, 1) := by decide +kernel
theorem d_Di_add_63 : decode prog_4_method_5_code 63 = .ok (.getfield 38, 3) := by decide +kernel
theorem d_Di_add_66 : decode prog_4_method_5_code 66 = .ok (.bipush 63, 2) := by decide +kernel
theorem d_Di_add_68 : decode prog_4_method_5_code 68 = .ok (.iand, 1) := by decide +kernel
theorem d_Di_add_69 : decode prog_4_method_5_code 69 = .ok (.ifCond .ne 15, 3) := by decide +kernel
theorem d_Di_add_72 : decode prog_4_method_5_code 72 = .ok (.aload_n 0, 1) := by decide +kernel
theorem d_Di_add_73 : decode prog_4_method_5_code 73 = .ok (.invokevirtual 67, 3) := by decide +kernel
theorem d_Di_add_76 : decode prog_4_method_5_code 76 = .ok (.aload_n 0, 1) := by decide +kernel
theorem d_Di_add_77 : decode prog_4_method_5_code 77 = .ok (.getfield 7, 3) := by decide +kernel
theorem d_Di_add_80 : decode prog_4_method_5_code 80 = .ok (.iconst 0, 1) := by decide +kernel
theorem d_Di_add_81 : decode prog_4_method_5_code 81 = .ok (.invokestatic 57, 3) := by decide +kernel
theorem d_Di_add_84 : decode prog_4_method_5_code 84 = .ok (.iinc 4 1, 3) := by decide +kernel
theorem d_Di_add_87 : decode prog_4_method_5_code 87 = .ok (.goto (-84), 3) := by decide +kernel
theorem d_Di_add_90 : decode prog_4_method_5_code 90 = .ok (.return_, 1) := by decide +kernel
theorem d_Di_mix_0 : decode prog_4_method_6_code 0 = .ok (.aload_n 0, 1) := by decide +kernel
theorem d_Di_mix_1 : decode prog_4_method_6_code 1 = .ok (.getfield 43, 3) := by decide +kernel
theorem d_Di_mix_4 : decode prog_4_method_6_code 4 = .ok (.istore_n 1, 1) := by decide +kernel
theorem d_Di_mix_5 : decode prog_4_method_6_code 5 = .ok (.aload_n 0, 1) := by decide +kernel
theorem d_Di_mix_6 : decode prog_4_method_6_code 6 = .ok (.getfield 49, 3) := by decide +kernel
theorem d_Di_mix_9 : decode prog_4_method_6_code 9 = .ok (.istore_n 2, 1) := by decide +kernel
theorem d_Di_mix_10 : decode prog_4_method_6_code 10 = .ok (.aload_n 0, 1) := by decide +kernel
theorem d_Di_mix_11 : decode prog_4_method_6_code 11 = .ok (.getfield 46, 3) := by decide +kernel
theorem d_Di_mix_14 : decode prog_4_method_6_code 14 = .ok (.istore_n 3, 1) := by decide +kernel
theorem d_Di_mix_15 : decode prog_4_method_6_code 15 = .ok (.aload_n 0, 1) := by decide +kernel
theorem d_Di_mix_16 : decode prog_4_method_6_code 16 = .ok (.getfield 52, 3) := by decide +kernel
theorem d_Di_mix_19 : decode prog_4_method_6_code 19 = .ok (.istore 4, 2) := by decide +kernel
theorem d_Di_mix_21 : decode prog_4_method_6_code 21 = .ok (.iconst 0, 1) := by decide +kernel
theorem d_Di_mix_22 : decode prog_4_method_6_code 22 = .ok (.istore 5, 2) := by decide +kernel
theorem d_Di_mix_24 : decode prog_4_method_6_code 24 = .ok (.iload 5, 2) := by decide +kernel
theorem d_Di_mix_26 : decode prog_4_method_6_code 26 = .ok (.bipush 64, 2) := by decide +kernel
theorem d_Di_mix_28 : decode prog_4_method_6_code 28 = .ok (.if_icmp .ge 89, 3) := by decide +kernel
theorem d_Di_mix_31 : decode prog_4_method_6_code 31 = .ok (.iload 5, 2) := by decide +kernel
theorem d_Di_mix_33 : decode prog_4_method_6_code 33 = .ok (.iconst 4, 1) := by decide +kernel
theorem d_Di_mix_34 : decode prog_4_method_6_code 34 = .ok (.ishr, 1) := by decide +kernel
theorem d_Di_mix_35 : decode prog_4_method_6_code 35 = .ok (.istore 6, 2) := by decide +kernel
theorem d_Di_mix_37 : decode prog_4_method_6_code 37 = .ok (.getstatic 70, 3) := by decide +kernel
theorem d_Di_mix_40 : decode prog_4_method_6_code 40 = .ok (.iconst 4, 1) := by decide +kernel
theorem d_Di_mix_41 : decode prog_4_method_6_code 41 = .ok (.iload 6, 2) := by decide +kernel
theorem d_Di_mix_43 : decode prog_4_method_6_code 43 = .ok (.imul, 1) := by decide +kernel
theorem d_Di_mix_44 : decode prog_4_method_6_code 44 = .ok (.iload 5, 2) := by decide +kernel
theorem d_Di_mix_46 : decode prog_4_method_6_code 46 = .ok (.iconst 3, 1) := by decide +kernel
theorem d_Di_mix_47 : decode prog_4_method_6_code 47 = .ok (.iand, 1) := by decide +kernel
theorem d_Di_mix_48 : decode prog_4_method_6_code 48 = .ok (.iadd, 1) := by decide +kernel
theorem d_Di_mix_49 : decode prog_4_method_6_code 49 = .ok (.iaload, 1) := by decide +kernel
theorem d_Di_mix_50 : decode prog_4_method_6_code 50 = .ok (.istore 7, 2) := by decide +kernel
theorem d_Di_mix_52 : decode prog_4_method_6_code 52 = .ok (.iload_n 1, 1) := by decide +kernel
theorem d_Di_mix_53 : decode prog_4_method_6_code 53 = .ok (.iload 6, 2) := by decide +kernel
theorem d_Di_mix_55 : decode prog_4_method_6_code 55 = .ok (.iload_n 2, 1) := by decide +kernel
theorem d_Di_mix_56 : decode prog_4_method_6_code 56 = .ok (.iload_n 3, 1) := by decide +kernel
theorem d_Di_mix_57 : decode prog_4_method_6_code 57 = .ok (.iload 4, 2) := by decide +kernel
theorem d_Di_mix_59 : decode prog_4_method_6_code 59 = .ok (.invokestatic 73, 3) := by decide +kernel
theorem d_Di_mix_62 : decode prog_4_method_6_code 62 = .ok (.iadd, 1) := by decide +kernel
theorem d_Di_mix_63 : decode prog_4_method_6_code 63 = .ok (.getstatic 77, 3) := by decide +kernel
theorem d_Di_mix_66 : decode prog_4_method_6_code 66 = .ok (.iload 5, 2) := by decide +kernel
theorem d_Di_mix_68 : decode prog_4_method_6_code 68 = .ok (.laload, 1) := by decide +kernel
theorem d_Di_mix_69 : decode prog_4_method_6_code 69 = .ok (.l2i, 1) := by decide +kernel
theorem d_Di_mix_70 : decode prog_4_method_6_code 70 = .ok (.iadd, 1) := by decide +kernel
theorem d_Di_mix_71 : decode prog_4_method_6_code 71 = .ok (.aload_n 0, 1) := by decide +kernel
theorem d_Di_mix_72 : decode prog_4_method_6_code 72 = .ok (.getfield 7, 3) := by decide +kernel
theorem d_Di_mix_75 : decode prog_4_method_6_code 75 = .ok (.iload 6, 2) := by decide +kernel
theorem d_Di_mix_77 : decode prog_4_method_6_code 77 = .ok (.iload 5, 2) := by decide +kernel
theorem d_Di_mix_79 : decode prog_4_method_6_code 79 = .ok (.invokestatic 81, 3) := by decide +kernel
theorem d_Di_mix_82 : decode prog_4_method_6_code 82 = .ok (.iaload, 1) := by decide +kernel
theorem d_Di_mix_83 : decode prog_4_method_6_code 83 = .ok (.iadd, 1) := by decide +kernel
theorem d_Di_mix_84 : decode prog_4_method_6_code 84 = .ok (.istore 8, 2) := by decide +kernel
theorem d_Di_mix_86 : decode prog_4_method_6_code 86 = .ok (.iload 4, 2) := by decide +kernel
theorem d_Di_mix_88 : decode prog_4_method_6_code 88 = .ok (.istore_n 1, 1) := by decide +kernel
theorem d_Di_mix_89 : decode prog_4_method_6_code 89 = .ok (.iload_n 3, 1) := by decide +kernel
theorem d_Di_mix_90 : decode prog_4_method_6_code 90 = .ok (.istore 4, 2) := by decide +kernel
theorem d_Di_mix_92 : decode prog_4_method_6_code 92 = .ok (.iload_n 2, 1) := by decide +kernel
theorem d_Di_mix_93 : decode prog_4_method_6_code 93 = .ok (.istore_n 3, 1) := by decide +kernel
theorem d_Di_mix_94 : decode prog_4_method_6_code 94 = .ok (.iload_n 2, 1) := by decide +kernel
theorem d_Di_mix_95 : decode prog_4_method_6_code 95 = .ok (.iload 8, 2) := by decide +kernel
theorem d_Di_mix_97 : decode prog_4_method_6_code 97 = .ok (.iload 7, 2) := by decide +kernel
theorem d_Di_mix_99 : decode prog_4_method_6_code 99 = .ok (.ishl, 1) := by decide +kernel
theorem d_Di_mix_100 : decode prog_4_method_6_code 100 = .ok (.iload 8, 2) := by decide +kernel
theorem d_Di_mix_102 : decode prog_4_method_6_code 102 = .ok (.bipush 32, 2) := by decide +kernel
theorem d_Di_mix_104 : decode prog_4_method_6_code 104 = .ok (.iload 7, 2) := by decide +kernel
theorem d_Di_mix_106 : decode prog_4_method_6_code 106 = .ok (.isub, 1) := by decide +kernel
theorem d_Di_mix_107 : decode prog_4_method_6_code 107 = .ok (.iushr, 1) := by decide +kernel
theorem d_Di_mix_108 : decode prog_4_method_6_code 108 = .ok (.ior, 1) := by decide +kernel
theorem d_Di_mix_109 : decode prog_4_method_6_code 109 = .ok (.iadd, 1) := by decide +kernel
theorem d_Di_mix_110 : decode prog_4_method_6_code 110 = .ok (.istore_n 2, 1) := by decide +kernel
theorem d_Di_mix_111 : decode prog_4_method_6_code 111 = .ok (.iinc 5 1, 3) := by decide +kernel
theorem d_Di_mix_114 : decode prog_4_method_6_code 114 = .ok (.goto (-90), 3) := by decide +kernel
theorem d_Di_mix_117 : decode prog_4_method_6_code 117 = .ok (.aload_n 0, 1) := by decide +kernel
theorem d_Di_mix_118 : decode prog_4_method_6_code 118 = .ok (.dup, 1) := by decide +kernel
theorem d_Di_mix_119 : decode prog_4_method_6_code 119 = .ok (.getfield 43, 3) := by decide +kernel
theorem d_Di_mix_122 : decode prog_4_method_6_code 122 = .ok (.iload_n 1, 1) := by decide +kernel
theorem d_Di_mix_123 : decode prog_4_method_6_code 123 = .ok (.iadd, 1) := by decide +kernel
theorem d_Di_mix_124 : decode prog_4_method_6_code 124 = .ok (.putfield 43, 3) := by decide +kernel
theorem d_Di_mix_127 : decode prog_4_method_6_code 127 = .ok (.aload_n 0, 1) := by decide +kernel
theorem d_Di_mix_128 : decode prog_4_method_6_code 128 = .ok (.dup, 1) := by decide +kernel
theorem d_Di_mix_129 : decode prog_4_method_6_code 129 = .ok (.getfield 49, 3) := by decide +kernel
theorem d_Di_mix_132 : decode prog_4_method_6_code 132 = .ok (.iload_n 2, 1) := by decide +kernel
theorem d_Di_mix_133 : decode prog_4_method_6_code 133 = .ok (.iadd, 1) := by decide +kernel
theorem d_Di_mix_134 : decode prog_4_method_6_code 134 = .ok (.putfield 49, 3) := by decide +kernel
theorem d_Di_mix_137 : decode prog_4_method_6_code 137 = .ok (.aload_n 0, 1) := by decide +kernel
theorem d_Di_mix_138 : decode prog_4_method_6_code 138 = .ok (.dup, 1) := by decide +kernel
theorem d_Di_mix_139 : decode prog_4_method_6_code 139 = .ok (.getfield 46, 3) := by decide +kernel
theorem d_Di_mix_142 : decode prog_4_method_6_code 142 = .ok (.iload_n 3, 1) := by decide +kernel
theorem d_Di_mix_143 : decode prog_4_method_6_code 143 = .ok (.iadd, 1) := by decide +kernel
theorem d_Di_mix_144 : decode prog_4_method_6_code 144 = .ok (.putfield 46, 3) := by decide +kernel
theorem d_Di_mix_147 : decode prog_4_method_6_code 147 = .ok (.aload_n 0, 1) := by decide +kernel
theorem d_Di_mix_148 : decode prog_4_method_6_code 148 = .ok (.dup, 1) := by decide +kernel
theorem d_Di_mix_149 : decode prog_4_method_6_code 149 = .ok (.getfield 52, 3) := by decide +kernel
theorem d_Di_mix_152 : decode prog_4_method_6_code 152 = .ok (.iload 4, 2) := by decide +kernel
theorem d_Di_mix_154 : decode prog_4_method_6_code 154 = .ok (.iadd, 1) := by decide +kernel
theorem d_Di_mix_155 : decode prog_4_method_6_code 155 = .ok (.putfield 52, 3) := by decide +kernel
theorem d_Di_mix_158 : decode prog_4_method_6_code 158 = .ok (.return_, 1) := by decide +kernel
theorem d_Di_blend_0 : decode prog_4_method_7_code 0 = .ok (.iload_n 0, 1) := by decide +kernel
theorem d_Di_blend_1 : decode prog_4_method_7_code 1 = .ok (.tableswitch 53 0 2 #[27, 37, 47], 27) := by decide +kernel
theorem d_Di_blend_28 : decode prog_4_method_7_code 28 = .ok (.iload_n 1, 1) := by decide +kernel
theorem d_Di_blend_29 : decode prog_4_method_7_code 29 = .ok (.iload_n 2, 1) := by decide +kernel
theorem d_Di_blend_30 : decode prog_4_method_7_code 30 = .ok (.iand, 1) := by decide +kernel
theorem d_Di_blend_31 : decode prog_4_method_7_code 31 = .ok (.iload_n 1, 1) := by decide +kernel
theorem d_Di_blend_32 : decode prog_4_method_7_code 32 = .ok (.iconst (-1), 1) := by decide +kernel
theorem d_Di_blend_33 : decode prog_4_method_7_code 33 = .ok (.ixor, 1) := by decide +kernel
theorem d_Di_blend_34 : decode prog_4_method_7_code 34 = .ok (.iload_n 3, 1) := by decide +kernel
theorem d_Di_blend_35 : decode prog_4_method_7_code 35 = .ok (.iand, 1) := by decide +kernel
theorem d_Di_blend_36 : decode prog_4_method_7_code 36 = .ok (.ior, 1) := by decide +kernel
theorem d_Di_blend_37 : decode prog_4_method_7_code 37 = .ok (.ireturn, 1) := by decide +kernel
theorem d_Di_blend_38 : decode prog_4_method_7_code 38 = .ok (.iload_n 3, 1) := by decide +kernel
theorem d_Di_blend_39 : decode prog_4_method_7_code 39 = .ok (.iload_n 1, 1) := by decide +kernel
theorem d_Di_blend_40 : decode prog_4_method_7_code 40 = .ok (.iand, 1) := by decide +kernel
theorem d_Di_blend_41 : decode prog_4_method_7_code 41 = .ok (.iload_n 3, 1) := by decide +kernel
theorem d_Di_blend_42 : decode prog_4_method_7_code 42 = .ok (.iconst (-1), 1) := by decide +kernel
theorem d_Di_blend_43 : decode prog_4_method_7_code 43 = .ok (.ixor, 1) := by decide +kernel
theorem d_Di_blend_44 : decode prog_4_method_7_code 44 = .ok (.iload_n 2, 1) := by decide +kernel
theorem d_Di_blend_45 : decode prog_4_method_7_code 45 = .ok (.iand, 1) := by decide +kernel
theorem d_Di_blend_46 : decode prog_4_method_7_code 46 = .ok (.ior, 1) := by decide +kernel
theorem d_Di_blend_47 : decode prog_4_method_7_code 47 = .ok (.ireturn, 1) := by decide +kernel
theorem d_Di_blend_48 : decode prog_4_method_7_code 48 = .ok (.iload_n 1, 1) := by decide +kernel
theorem d_Di_blend_49 : decode prog_4_method_7_code 49 = .ok (.iload_n 2, 1) := by decide +kernel
theorem d_Di_blend_50 : decode prog_4_method_7_code 50 = .ok (.ixor, 1) := by decide +kernel
theorem d_Di_blend_51 : decode prog_4_method_7_code 51 = .ok (.iload_n 3, 1) := by decide +kernel
theorem d_Di_blend_52 : decode prog_4_method_7_code 52 = .ok (.ixor, 1) := by decide +kernel
theorem d_Di_blend_53 : decode prog_4_method_7_code 53 = .ok (.ireturn, 1) := by decide +kernel
theorem d_Di_blend_54 : decode prog_4_method_7_code 54 = .ok (.iload_n 2, 1) := by decide +kernel
theorem d_Di_blend_55 : decode prog_4_method_7_code 55 = .ok (.iload_n 1, 1) := by decide +kernel
theorem d_Di_blend_56 : decode prog_4_method_7_code 56 = .ok (.iload_n 3, 1) := by decide +kernel
theorem d_Di_blend_57 : decode prog_4_method_7_code 57 = .ok (.iconst (-1), 1) := by decide +kernel
theorem d_Di_blend_58 : decode prog_4_method_7_code 58 = .ok (.ixor, 1) := by decide +kernel
theorem d_Di_blend_59 : decode prog_4_method_7_code 59 = .ok (.ior, 1) := by decide +kernel
theorem d_Di_blend_60 : decode prog_4_method_7_code 60 = .ok (.ixor, 1) := by decide +kernel
theorem d_Di_blend_61 : decode prog_4_method_7_code 61 = .ok (.ireturn, 1) := by decide +kernel
theorem d_Di_wordFor_0 : decode prog_4_method_8_code 0 = .ok (.iload_n 0, 1) := by decide +kernel
theorem d_Di_wordFor_1 : decode prog_4_method_8_code 1 = .ok (.tableswitch 50 0 2 #[27, 32, 41], 27) := by decide +kernel
theorem d_Di_wordFor_28 : decode prog_4_method_8_code 28 = .ok (.iload_n 1, 1) := by decide +kernel
theorem d_Di_wordFor_29 : decode prog_4_method_8_code 29 = .ok (.bipush 15, 2) := by decide +kernel
theorem d_Di_wordFor_31 : decode prog_4_method_8_code 31 = .ok (.iand, 1) := by decide +kernel
theorem d_Di_wordFor_32 : decode prog_4_method_8_code 32 = .ok (.ireturn, 1) := by decide +kernel
theorem d_Di_wordFor_33 : decode prog_4_method_8_code 33 = .ok (.iconst 5, 1) := by decide +kernel
theorem d_Di_wordFor_34 : decode prog_4_method_8_code 34 = .ok (.iload_n 1, 1) := by decide +kernel
theorem d_Di_wordFor_35 : decode prog_4_method_8_code 35 = .ok (.imul, 1) := by decide +kernel
theorem d_Di_wordFor_36 : decode prog_4_method_8_code 36 = .ok (.iconst 1, 1) := by decide +kernel
theorem d_Di_wordFor_37 : decode prog_4_method_8_code 37 = .ok (.iadd, 1) := by decide +kernel
theorem d_Di_wordFor_38 : decode prog_4_method_8_code 38 = .ok (.bipush 15, 2) := by decide +kernel
theorem d_Di_wordFor_40 : decode prog_4_method_8_code 40 = .ok (.iand, 1) := by decide +kernel
theorem d_Di_wordFor_41 : decode prog_4_method_8_code 41 = .ok (.ireturn, 1) := by decide +kernel
theorem d_Di_wordFor_42 : decode prog_4_method_8_code 42 = .ok (.iconst 3, 1) := by decide +kernel
theorem d_Di_wordFor_43 : decode prog_4_method_8_code 43 = .ok (.iload_n 1, 1) := by decide +kernel
theorem d_Di_wordFor_44 : decode prog_4_method_8_code 44 = .ok (.imul, 1) := by decide +kernel
theorem d_Di_wordFor_45 : decode prog_4_method_8_code 45 = .ok (.iconst 5, 1) := by decide +kernel
theorem d_Di_wordFor_46 : decode prog_4_method_8_code 46 = .ok (.iadd, 1) := by decide +kernel
theorem d_Di_wordFor_47 : decode prog_4_method_8_code 47 = .ok (.bipush 15, 2) := by decide +kernel
theorem d_Di_wordFor_49 : decode prog_4_method_8_code 49 = .ok (.iand, 1) := by decide +kernel
theorem d_Di_wordFor_50 : decode prog_4_method_8_code 50 = .ok (.ireturn, 1) := by decide +kernel
theorem d_Di_wordFor_51 : decode prog_4_method_8_code 51 = .ok (.bipush 7, 2) := by decide +kernel
theorem d_Di_wordFor_53 : decode prog_4_method_8_code 53 = .ok (.iload_n 1, 1) := by decide +kernel
theorem d_Di_wordFor_54 : decode prog_4_method_8_code 54 = .ok (.imul, 1) := by decide +kernel
theorem d_Di_wordFor_55 : decode prog_4_method_8_code 55 = .ok (.bipush 15, 2) := by decide +kernel
theorem d_Di_wordFor_57 : decode prog_4_method_8_code 57 = .ok (.iand, 1) := by decide +kernel
theorem d_Di_wordFor_58 : decode prog_4_method_8_code 58 = .ok (.ireturn, 1) := by decide +kernel
