/-! decode rows of SoundStream$Rests, by program -/
theorem d_Re_init_0 : decode prog_7_method_1_code 0 = .ok (.aload_n 0, 1) := by decide +kernel
theorem d_Re_init_1 : decode prog_7_method_1_code 1 = .ok (.invokespecial 3, 3) := by decide +kernel
theorem d_Re_init_4 : decode prog_7_method_1_code 4 = .ok (.aload_n 0, 1) := by decide +kernel
theorem d_Re_init_5 : decode prog_7_method_1_code 5 = .ok (.sipush 1024, 3) := by decide +kernel
theorem d_Re_init_8 : decode prog_7_method_1_code 8 = .ok (.newarray .int, 2) := by decide +kernel
theorem d_Re_init_10 : decode prog_7_method_1_code 10 = .ok (.putfield 9, 3) := by decide +kernel
theorem d_Re_init_13 : decode prog_7_method_1_code 13 = .ok (.aload_n 0, 1) := by decide +kernel
theorem d_Re_init_14 : decode prog_7_method_1_code 14 = .ok (.bipush 32, 2) := by decide +kernel
theorem d_Re_init_16 : decode prog_7_method_1_code 16 = .ok (.bipush 15, 2) := by decide +kernel
theorem d_Re_init_18 : decode prog_7_method_1_code 18 = .ok (.multianewarray 15 2, 4) := by decide +kernel
theorem d_Re_init_22 : decode prog_7_method_1_code 22 = .ok (.putfield 17, 3) := by decide +kernel
theorem d_Re_init_25 : decode prog_7_method_1_code 25 = .ok (.aload_n 0, 1) := by decide +kernel
theorem d_Re_init_26 : decode prog_7_method_1_code 26 = .ok (.bipush 32, 2) := by decide +kernel
theorem d_Re_init_28 : decode prog_7_method_1_code 28 = .ok (.newarray .int, 2) := by decide +kernel
theorem d_Re_init_30 : decode prog_7_method_1_code 30 = .ok (.putfield 20, 3) := by decide +kernel
theorem d_Re_init_33 : decode prog_7_method_1_code 33 = .ok (.return_, 1) := by decide +kernel
theorem d_Re_begin_0 : decode prog_7_method_2_code 0 = .ok (.aload_n 1, 1) := by decide +kernel
theorem d_Re_begin_1 : decode prog_7_method_2_code 1 = .ok (.iconst 0, 1) := by decide +kernel
theorem d_Re_begin_2 : decode prog_7_method_2_code 2 = .ok (.aload_n 0, 1) := by decide +kernel
theorem d_Re_begin_3 : decode prog_7_method_2_code 3 = .ok (.getfield 9, 3) := by decide +kernel
theorem d_Re_begin_6 : decode prog_7_method_2_code 6 = .ok (.iconst 0, 1) := by decide +kernel
theorem d_Re_begin_7 : decode prog_7_method_2_code 7 = .ok (.iload_n 2, 1) := by decide +kernel
theorem d_Re_begin_8 : decode prog_7_method_2_code 8 = .ok (.invokestatic 23, 3) := by decide +kernel
theorem d_Re_begin_11 : decode prog_7_method_2_code 11 = .ok (.aload_n 0, 1) := by decide +kernel
theorem d_Re_begin_12 : decode prog_7_method_2_code 12 = .ok (.iload_n 2, 1) := by decide +kernel
theorem d_Re_begin_13 : decode prog_7_method_2_code 13 = .ok (.putfield 29, 3) := by decide +kernel
theorem d_Re_begin_16 : decode prog_7_method_2_code 16 = .ok (.aload_n 0, 1) := by decide +kernel
theorem d_Re_begin_17 : decode prog_7_method_2_code 17 = .ok (.iconst 0, 1) := by decide +kernel
theorem d_Re_begin_18 : decode prog_7_method_2_code 18 = .ok (.putfield 33, 3) := by decide +kernel
theorem d_Re_begin_21 : decode prog_7_method_2_code 21 = .ok (.return_, 1) := by decide +kernel
theorem d_Re_raiseOrder_0 : decode prog_7_method_3_code 0 = .ok (.aload_n 0, 1) := by decide +kernel
theorem d_Re_raiseOrder_1 : decode prog_7_method_3_code 1 = .ok (.dup, 1) := by decide +kernel
theorem d_Re_raiseOrder_2 : decode prog_7_method_3_code 2 = .ok (.getfield 33, 3) := by decide +kernel
theorem d_Re_raiseOrder_5 : decode prog_7_method_3_code 5 = .ok (.iconst 1, 1) := by decide +kernel
theorem d_Re_raiseOrder_6 : decode prog_7_method_3_code 6 = .ok (.iadd, 1) := by decide +kernel
theorem d_Re_raiseOrder_7 : decode prog_7_method_3_code 7 = .ok (.putfield 33, 3) := by decide +kernel
theorem d_Re_raiseOrder_10 : decode prog_7_method_3_code 10 = .ok (.aload_n 0, 1) := by decide +kernel
theorem d_Re_raiseOrder_11 : decode prog_7_method_3_code 11 = .ok (.getfield 29, 3) := by decide +kernel
theorem d_Re_raiseOrder_14 : decode prog_7_method_3_code 14 = .ok (.iconst 1, 1) := by decide +kernel
theorem d_Re_raiseOrder_15 : decode prog_7_method_3_code 15 = .ok (.isub, 1) := by decide +kernel
theorem d_Re_raiseOrder_16 : decode prog_7_method_3_code 16 = .ok (.istore_n 1, 1) := by decide +kernel
theorem d_Re_raiseOrder_17 : decode prog_7_method_3_code 17 = .ok (.iload_n 1, 1) := by decide +kernel
theorem d_Re_raiseOrder_18 : decode prog_7_method_3_code 18 = .ok (.aload_n 0, 1) := by decide +kernel
theorem d_Re_raiseOrder_19 : decode prog_7_method_3_code 19 = .ok (.getfield 33, 3) := by decide +kernel
theorem d_Re_raiseOrder_22 : decode prog_7_method_3_code 22 = .ok (.if_icmp .lt 26, 3) := by decide +kernel
theorem d_Re_raiseOrder_25 : decode prog_7_method_3_code 25 = .ok (.aload_n 0, 1) := by decide +kernel
theorem d_Re_raiseOrder_26 : decode prog_7_method_3_code 26 = .ok (.getfield 9, 3) := by decide +kernel
theorem d_Re_raiseOrder_29 : decode prog_7_method_3_code 29 = .ok (.iload_n 1, 1) := by decide +kernel
theorem d_Re_raiseOrder_30 : decode prog_7_method_3_code 30 = .ok (.dup2, 1) := by decide +kernel
theorem d_Re_raiseOrder_31 : decode prog_7_method_3_code 31 = .ok (.iaload, 1) := by decide +kernel
theorem d_Re_raiseOrder_32 : decode prog_7_method_3_code 32 = .ok (.aload_n 0, 1) := by decide +kernel
theorem d_Re_raiseOrder_33 : decode prog_7_method_3_code 33 = .ok (.getfield 9, 3) := by decide +kernel
theorem d_Re_raiseOrder_36 : decode prog_7_method_3_code 36 = .ok (.iload_n 1, 1) := by decide +kernel
theorem d_Re_raiseOrder_37 : decode prog_7_method_3_code 37 = .ok (.iconst 1, 1) := by decide +kernel
theorem d_Re_raiseOrder_38 : decode prog_7_method_3_code 38 = .ok (.isub, 1) := by decide +kernel
theorem d_Re_raiseOrder_39 : decode prog_7_method_3_code 39 = .ok (.iaload, 1) := by decide +kernel
theorem d_Re_raiseOrder_40 : decode prog_7_method_3_code 40 = .ok (.isub, 1) := by decide +kernel
theorem d_Re_raiseOrder_41 : decode prog_7_method_3_code 41 = .ok (.iastore, 1) := by decide +kernel
theorem d_Re_raiseOrder_42 : decode prog_7_method_3_code 42 = .ok (.iinc 1 (-1), 3) := by decide +kernel
theorem d_Re_raiseOrder_45 : decode prog_7_method_3_code 45 = .ok (.goto (-28), 3) := by decide +kernel
theorem d_Re_raiseOrder_48 : decode prog_7_method_3_code 48 = .ok (.return_, 1) := by decide +kernel
theorem d_Re_weigh_0 : decode prog_7_method_4_code 0 = .ok (.aload_n 0, 1) := by decide +kernel
theorem d_Re_weigh_1 : decode prog_7_method_4_code 1 = .ok (.invokevirtual 36, 3) := by decide +kernel
theorem d_Re_weigh_4 : decode prog_7_method_4_code 4 = .ok (.istore_n 1, 1) := by decide +kernel
theorem d_Re_weigh_5 : decode prog_7_method_4_code 5 = .ok (.aload_n 0, 1) := by decide +kernel
theorem d_Re_weigh_6 : decode prog_7_method_4_code 6 = .ok (.iload_n 1, 1) := by decide +kernel
theorem d_Re_weigh_7 : decode prog_7_method_4_code 7 = .ok (.invokevirtual 40, 3) := by decide +kernel
theorem d_Re_weigh_10 : decode prog_7_method_4_code 10 = .ok (.ldc2_w 46, 3) := by decide +kernel
theorem d_Re_weigh_13 : decode prog_7_method_4_code 13 = .ok (.lstore_n 2, 1) := by decide +kernel
theorem d_Re_weigh_14 : decode prog_7_method_4_code 14 = .ok (.iload_n 1, 1) := by decide +kernel
theorem d_Re_weigh_15 : decode prog_7_method_4_code 15 = .ok (.istore 4, 2) := by decide +kernel
theorem d_Re_weigh_17 : decode prog_7_method_4_code 17 = .ok (.iload 4, 2) := by decide +kernel
theorem d_Re_weigh_19 : decode prog_7_method_4_code 19 = .ok (.ifCond .lt 39, 3) := by decide +kernel
theorem d_Re_weigh_22 : decode prog_7_method_4_code 22 = .ok (.aload_n 0, 1) := by decide +kernel
theorem d_Re_weigh_23 : decode prog_7_method_4_code 23 = .ok (.iload 4, 2) := by decide +kernel
theorem d_Re_weigh_25 : decode prog_7_method_4_code 25 = .ok (.invokevirtual 48, 3) := by decide +kernel
theorem d_Re_weigh_28 : decode prog_7_method_4_code 28 = .ok (.lstore 5, 2) := by decide +kernel
theorem d_Re_weigh_30 : decode prog_7_method_4_code 30 = .ok (.lload 5, 2) := by decide +kernel
theorem d_Re_weigh_32 : decode prog_7_method_4_code 32 = .ok (.lload_n 2, 1) := by decide +kernel
theorem d_Re_weigh_33 : decode prog_7_method_4_code 33 = .ok (.lcmp, 1) := by decide +kernel
theorem d_Re_weigh_34 : decode prog_7_method_4_code 34 = .ok (.ifCond .gt 12, 3) := by decide +kernel
theorem d_Re_weigh_37 : decode prog_7_method_4_code 37 = .ok (.lload 5, 2) := by decide +kernel
theorem d_Re_weigh_39 : decode prog_7_method_4_code 39 = .ok (.lstore_n 2, 1) := by decide +kernel
theorem d_Re_weigh_40 : decode prog_7_method_4_code 40 = .ok (.aload_n 0, 1) := by decide +kernel
theorem d_Re_weigh_41 : decode prog_7_method_4_code 41 = .ok (.iload 4, 2) := by decide +kernel
theorem d_Re_weigh_43 : decode prog_7_method_4_code 43 = .ok (.putfield 52, 3) := by decide +kernel
theorem d_Re_weigh_46 : decode prog_7_method_4_code 46 = .ok (.aload_n 0, 1) := by decide +kernel
theorem d_Re_weigh_47 : decode prog_7_method_4_code 47 = .ok (.iload 4, 2) := by decide +kernel
theorem d_Re_weigh_49 : decode prog_7_method_4_code 49 = .ok (.invokevirtual 55, 3) := by decide +kernel
theorem d_Re_weigh_52 : decode prog_7_method_4_code 52 = .ok (.iinc 4 (-1), 3) := by decide +kernel
theorem d_Re_weigh_55 : decode prog_7_method_4_code 55 = .ok (.goto (-38), 3) := by decide +kernel
theorem d_Re_weigh_58 : decode prog_7_method_4_code 58 = .ok (.lload_n 2, 1) := by decide +kernel
theorem d_Re_weigh_59 : decode prog_7_method_4_code 59 = .ok (.lreturn, 1) := by decide +kernel
theorem d_Re_write_0 : decode prog_7_method_5_code 0 = .ok (.aload_n 0, 1) := by decide +kernel
theorem d_Re_write_1 : decode prog_7_method_5_code 1 = .ok (.iload_n 2, 1) := by decide +kernel
theorem d_Re_write_2 : decode prog_7_method_5_code 2 = .ok (.invokevirtual 40, 3) := by decide +kernel
theorem d_Re_write_5 : decode prog_7_method_5_code 5 = .ok (.aload_n 1, 1) := by decide +kernel
theorem d_Re_write_6 : decode prog_7_method_5_code 6 = .ok (.iconst 2, 1) := by decide +kernel
theorem d_Re_write_7 : decode prog_7_method_5_code 7 = .ok (.lconst 0, 1) := by decide +kernel
theorem d_Re_write_8 : decode prog_7_method_5_code 8 = .ok (.invokevirtual 58, 3) := by decide +kernel
theorem d_Re_write_11 : decode prog_7_method_5_code 11 = .ok (.aload_n 1, 1) := by decide +kernel
theorem d_Re_write_12 : decode prog_7_method_5_code 12 = .ok (.iconst 4, 1) := by decide +kernel
theorem d_Re_write_13 : decode prog_7_method_5_code 13 = .ok (.iload_n 2, 1) := by decide +kernel
theorem d_Re_write_14 : decode prog_7_method_5_code 14 = .ok (.i2l, 1) := by decide +kernel
theorem d_Re_write_15 : decode prog_7_method_5_code 15 = .ok (.invokevirtual 58, 3) := by decide +kernel
theorem d_Re_write_18 : decode prog_7_method_5_code 18 = .ok (.aload_n 0, 1) := by decide +kernel
theorem d_Re_write_19 : decode prog_7_method_5_code 19 = .ok (.getfield 29, 3) := by decide +kernel
theorem d_Re_write_22 : decode prog_7_method_5_code 22 = .ok (.iload_n 2, 1) := by decide +kernel
theorem d_Re_write_23 : decode prog_7_method_5_code 23 = .ok (.ishr, 1) := by decide +kernel
theorem d_Re_write_24 : decode prog_7_method_5_code 24 = .ok (.istore_n 3, 1) := by decide +kernel
theorem d_Re_write_25 : decode prog_7_method_5_code 25 = .ok (.aload_n 0, 1) := by decide +kernel
theorem d_Re_write_26 : decode prog_7_method_5_code 26 = .ok (.getfield 33, 3) := by decide +kernel
theorem d_Re_write_29 : decode prog_7_method_5_code 29 = .ok (.istore 4, 2) := by decide +kernel
theorem d_Re_write_31 : decode prog_7_method_5_code 31 = .ok (.iconst 0, 1) := by decide +kernel
theorem d_Re_write_32 : decode prog_7_method_5_code 32 = .ok (.istore 5, 2) := by decide +kernel
theorem d_Re_write_34 : decode prog_7_method_5_code 34 = .ok (.iload 5, 2) := by decide +kernel
theorem d_Re_write_36 : decode prog_7_method_5_code 36 = .ok (.iconst 1, 1) := by decide +kernel
theorem d_Re_write_37 : decode prog_7_method_5_code 37 = .ok (.iload_n 2, 1) := by decide +kernel
theorem d_Re_write_38 : decode prog_7_method_5_code 38 = .ok (.ishl, 1) := by decide +kernel
theorem d_Re_write_39 : decode prog_7_method_5_code 39 = .ok (.if_icmp .ge 42, 3) := by decide +kernel
theorem d_Re_write_42 : decode prog_7_method_5_code 42 = .ok (.iload 5, 2) := by decide +kernel
theorem d_Re_write_44 : decode prog_7_method_5_code 44 = .ok (.iconst 1, 1) := by decide +kernel
theorem d_Re_write_45 : decode prog_7_method_5_code 45 = .ok (.iadd, 1) := by decide +kernel
theorem d_Re_write_46 : decode prog_7_method_5_code 46 = .ok (.iload_n 3, 1) := by decide +kernel
theorem d_Re_write_47 : decode prog_7_method_5_code 47 = .ok (.imul, 1) := by decide +kernel
theorem d_Re_write_48 : decode prog_7_method_5_code 48 = .ok (.istore 6, 2) := by decide +kernel
theorem d_Re_write_50 : decode prog_7_method_5_code 50 = .ok (.aload_n 0, 1) := by decide +kernel
theorem d_Re_write_51 : decode prog_7_method_5_code 51 = .ok (.iload 5, 2) := by decide +kernel
theorem d_Re_write_53 : decode prog_7_method_5_code 53 = .ok (.iload 6, 2) := by decide +kernel
theorem d_Re_write_55 : decode prog_7_method_5_code 55 = .ok (.iload 4, 2) := by decide +kernel
theorem d_Re_write_57 : decode prog_7_method_5_code 57 = .ok (.isub, 1) := by decide +kernel
theorem d_Re_write_58 : decode prog_7_method_5_code 58 = .ok (.invokevirtual 64, 3) := by decide +kernel
theorem d_Re_write_61 : decode prog_7_method_5_code 61 = .ok (.pop2, 1) := by decide +kernel
theorem d_Re_write_62 : decode prog_7_method_5_code 62 = .ok (.aload_n 0, 1) := by decide +kernel
theorem d_Re_write_63 : decode prog_7_method_5_code 63 = .ok (.aload_n 1, 1) := by decide +kernel
theorem d_Re_write_64 : decode prog_7_method_5_code 64 = .ok (.iload 4, 2) := by decide +kernel
theorem d_Re_write_66 : decode prog_7_method_5_code 66 = .ok (.iload 6, 2) := by decide +kernel
theorem d_Re_write_68 : decode prog_7_method_5_code 68 = .ok (.invokevirtual 68, 3) := by decide +kernel
theorem d_Re_write_71 : decode prog_7_method_5_code 71 = .ok (.iload 6, 2) := by decide +kernel
theorem d_Re_write_73 : decode prog_7_method_5_code 73 = .ok (.istore 4, 2) := by decide +kernel
theorem d_Re_write_75 : decode prog_7_method_5_code 75 = .ok (.iinc 5 1, 3) := by decide +kernel
theorem d_Re_write_78 : decode prog_7_method_5_code 78 = .ok (.goto (-44), 3) := by decide +kernel
theorem d_Re_write_81 : decode prog_7_method_5_code 81 = .ok (.return_, 1) := by decide +kernel
theorem d_Re_finestParts_0 : decode prog_7_method_6_code 0 = .ok (.iconst 0, 1) := by decide +kernel
theorem d_Re_finestParts_1 : decode prog_7_method_6_code 1 = .ok (.istore_n 1, 1) := by decide +kernel
theorem d_Re_finestParts_2 : decode prog_7_method_6_code 2 = .ok (.iload_n 1, 1) := by decide +kernel
theorem d_Re_finestParts_3 : decode prog_7_method_6_code 3 = .ok (.iconst 5, 1) := by decide +kernel
theorem d_Re_finestParts_4 : decode prog_7_method_6_code 4 = .ok (.if_icmp .ge 37, 3) := by decide +kernel
theorem d_Re_finestParts_7 : decode prog_7_method_6_code 7 = .ok (.aload_n 0, 1) := by decide +kernel
theorem d_Re_finestParts_8 : decode prog_7_method_6_code 8 = .ok (.getfield 29, 3) := by decide +kernel
theorem d_Re_finestParts_11 : decode prog_7_method_6_code 11 = .ok (.iconst 2, 1) := by decide +kernel
theorem d_Re_finestParts_12 : decode prog_7_method_6_code 12 = .ok (.iload_n 1, 1) := by decide +kernel
theorem d_Re_finestParts_13 : decode prog_7_method_6_code 13 = .ok (.ishl, 1) := by decide +kernel
theorem d_Re_finestParts_14 : decode prog_7_method_6_code 14 = .ok (.iconst 1, 1) := by decide +kernel
theorem d_Re_finestParts_15 : decode prog_7_method_6_code 15 = .ok (.isub, 1) := by decide +kernel
theorem d_Re_finestParts_16 : decode prog_7_method_6_code 16 = .ok (.iand, 1) := by decide +kernel
theorem d_Re_finestParts_17 : decode prog_7_method_6_code 17 = .ok (.ifCond .ne 24, 3) := by decide +kernel
theorem d_Re_finestParts_20 : decode prog_7_method_6_code 20 = .ok (.aload_n 0, 1) := by decide +kernel
theorem d_Re_finestParts_21 : decode prog_7_method_6_code 21 = .ok (.getfield 29, 3) := by decide +kernel
theorem d_Re_finestParts_24 : decode prog_7_method_6_code 24 = .ok (.iload_n 1, 1) := by decide +kernel
theorem d_Re_finestParts_25 : decode prog_7_method_6_code 25 = .ok (.iconst 1, 1) := by decide +kernel
theorem d_Re_finestParts_26 : decode prog_7_method_6_code 26 = .ok (.iadd, 1) := by decide +kernel
theorem d_Re_finestParts_27 : decode prog_7_method_6_code 27 = .ok (.ishr, 1) := by decide +kernel
theorem d_Re_finestParts_28 : decode prog_7_method_6_code 28 = .ok (.aload_n 0, 1) := by decide +kernel
theorem d_Re_finestParts_29 : decode prog_7_method_6_code 29 = .ok (.getfield 33, 3) := by decide +kernel
theorem d_Re_finestParts_32 : decode prog_7_method_6_code 32 = .ok (.if_icmp .le 9, 3) := by decide +kernel
theorem d_Re_finestParts_35 : decode prog_7_method_6_code 35 = .ok (.iinc 1 1, 3) := by decide +kernel
theorem d_Re_finestParts_38 : decode prog_7_method_6_code 38 = .ok (.goto (-36), 3) := by decide +kernel
theorem d_Re_finestParts_41 : decode prog_7_method_6_code 41 = .ok (.iload_n 1, 1) := by decide +kernel
theorem d_Re_finestParts_42 : decode prog_7_method_6_code 42 = .ok (.ireturn, 1) := by decide +kernel
theorem d_Re_collect_0 : decode prog_7_method_7_code 0 = .ok (.aload_n 0, 1) := by decide +kernel
theorem d_Re_collect_1 : decode prog_7_method_7_code 1 = .ok (.getfield 29, 3) := by decide +kernel
theorem d_Re_collect_4 : decode prog_7_method_7_code 4 = .ok (.iload_n 1, 1) := by decide +kernel
theorem d_Re_collect_5 : decode prog_7_method_7_code 5 = .ok (.ishr, 1) := by decide +kernel
theorem d_Re_collect_6 : decode prog_7_method_7_code 6 = .ok (.istore_n 2, 1) := by decide +kernel
theorem d_Re_collect_7 : decode prog_7_method_7_code 7 = .ok (.aload_n 0, 1) := by decide +kernel
theorem d_Re_collect_8 : decode prog_7_method_7_code 8 = .ok (.getfield 33, 3) := by decide +kernel
theorem d_Re_collect_11 : decode prog_7_method_7_code 11 = .ok (.istore_n 3, 1) := by decide +kernel
theorem d_Re_collect_12 : decode prog_7_method_7_code 12 = .ok (.iconst 0, 1) := by decide +kernel
theorem d_Re_collect_13 : decode prog_7_method_7_code 13 = .ok (.istore 4, 2) := by decide +kernel
theorem d_Re_collect_15 : decode prog_7_method_7_code 15 = .ok (.iload 4, 2) := by decide +kernel
theorem d_Re_collect_17 : decode prog_7_method_7_code 17 = .ok (.iconst 1, 1) := by decide +kernel
theorem d_Re_collect_18 : decode prog_7_method_7_code 18 = .ok (.iload_n 1, 1) := by decide +kernel
theorem d_Re_collect_19 : decode prog_7_method_7_code 19 = .ok (.ishl, 1) := by decide +kernel
theorem d_Re_collect_20 : decode prog_7_method_7_code 20 = .ok (.if_icmp .ge 59, 3) := by decide +kernel
theorem d_Re_collect_23 : decode prog_7_method_7_code 23 = .ok (.aload_n 0, 1) := by decide +kernel
theorem d_Re_collect_24 : decode prog_7_method_7_code 24 = .ok (.getfield 17, 3) := by decide +kernel
theorem d_Re_collect_27 : decode prog_7_method_7_code 27 = .ok (.iload 4, 2) := by decide +kernel
theorem d_Re_collect_29 : decode prog_7_method_7_code 29 = .ok (.aaload, 1) := by decide +kernel
theorem d_Re_collect_30 : decode prog_7_method_7_code 30 = .ok (.lconst 0, 1) := by decide +kernel
theorem d_Re_collect_31 : decode prog_7_method_7_code 31 = .ok (.invokestatic 72, 3) := by decide +kernel
theorem d_Re_collect_34 : decode prog_7_method_7_code 34 = .ok (.aload_n 0, 1) := by decide +kernel
theorem d_Re_collect_35 : decode prog_7_method_7_code 35 = .ok (.getfield 20, 3) := by decide +kernel
theorem d_Re_collect_38 : decode prog_7_method_7_code 38 = .ok (.iload 4, 2) := by decide +kernel
theorem d_Re_collect_40 : decode prog_7_method_7_code 40 = .ok (.iconst 0, 1) := by decide +kernel
theorem d_Re_collect_41 : decode prog_7_method_7_code 41 = .ok (.iastore, 1) := by decide +kernel
theorem d_Re_collect_42 : decode prog_7_method_7_code 42 = .ok (.iload_n 3, 1) := by decide +kernel
theorem d_Re_collect_43 : decode prog_7_method_7_code 43 = .ok (.iload 4, 2) := by decide +kernel
theorem d_Re_collect_45 : decode prog_7_method_7_code 45 = .ok (.iconst 1, 1) := by decide +kernel
theorem d_Re_collect_46 : decode prog_7_method_7_code 46 = .ok (.iadd, 1) := by decide +kernel
theorem d_Re_collect_47 : decode prog_7_method_7_code 47 = .ok (.iload_n 2, 1) := by decide +kernel
theorem d_Re_collect_48 : decode prog_7_method_7_code 48 = .ok (.imul, 1) := by decide +kernel
theorem d_Re_collect_49 : decode prog_7_method_7_code 49 = .ok (.if_icmp .ge 24, 3) := by decide +kernel
theorem d_Re_collect_52 : decode prog_7_method_7_code 52 = .ok (.aload_n 0, 1) := by decide +kernel
theorem d_Re_collect_53 : decode prog_7_method_7_code 53 = .ok (.iload 4, 2) := by decide +kernel
theorem d_Re_collect_55 : decode prog_7_method_7_code 55 = .ok (.aload_n 0, 1) := by decide +kernel
theorem d_Re_collect_56 : decode prog_7_method_7_code 56 = .ok (.getfield 9, 3) := by decide +kernel
theorem d_Re_collect_59 : decode prog_7_method_7_code 59 = .ok (.iload_n 3, 1) := by decide +kernel
theorem d_Re_collect_60 : decode prog_7_method_7_code 60 = .ok (.iaload, 1) := by decide +kernel
theorem d_Re_collect_61 : decode prog_7_method_7_code 61 = .ok (.invokestatic 78, 3) := by decide +kernel
theorem d_Re_collect_64 : decode prog_7_method_7_code 64 = .ok (.invokevirtual 82, 3) := by decide +kernel
theorem d_Re_collect_67 : decode prog_7_method_7_code 67 = .ok (.iinc 3 1, 3) := by decide +kernel
theorem d_Re_collect_70 : decode prog_7_method_7_code 70 = .ok (.goto (-28), 3) := by decide +kernel
theorem d_Re_collect_73 : decode prog_7_method_7_code 73 = .ok (.iinc 4 1, 3) := by decide +kernel
theorem d_Re_collect_76 : decode prog_7_method_7_code 76 = .ok (.goto (-61), 3) := by decide +kernel
theorem d_Re_collect_79 : decode prog_7_method_7_code 79 = .ok (.return_, 1) := by decide +kernel
theorem d_Re_addRest_0 : decode prog_7_method_8_code 0 = .ok (.aload_n 0, 1) := by decide +kernel
theorem d_Re_addRest_1 : decode prog_7_method_8_code 1 = .ok (.getfield 20, 3) := by decide +kernel
theorem d_Re_addRest_4 : decode prog_7_method_8_code 4 = .ok (.iload_n 1, 1) := by decide +kernel
theorem d_Re_addRest_5 : decode prog_7_method_8_code 5 = .ok (.dup2, 1) := by decide +kernel
theorem d_Re_addRest_6 : decode prog_7_method_8_code 6 = .ok (.iaload, 1) := by decide +kernel
theorem d_Re_addRest_7 : decode prog_7_method_8_code 7 = .ok (.iload_n 2, 1) := by decide +kernel
theorem d_Re_addRest_8 : decode prog_7_method_8_code 8 = .ok (.ior, 1) := by decide +kernel
theorem d_Re_addRest_9 : decode prog_7_method_8_code 9 = .ok (.iastore, 1) := by decide +kernel
theorem d_Re_addRest_10 : decode prog_7_method_8_code 10 = .ok (.iconst 0, 1) := by decide +kernel
theorem d_Re_addRest_11 : decode prog_7_method_8_code 11 = .ok (.istore_n 3, 1) := by decide +kernel
theorem d_Re_addRest_12 : decode prog_7_method_8_code 12 = .ok (.iload_n 3, 1) := by decide +kernel
theorem d_Re_addRest_13 : decode prog_7_method_8_code 13 = .ok (.bipush 15, 2) := by decide +kernel
theorem d_Re_addRest_15 : decode prog_7_method_8_code 15 = .ok (.if_icmp .ge 30, 3) := by decide +kernel
theorem d_Re_addRest_18 : decode prog_7_method_8_code 18 = .ok (.iload_n 2, 1) := by decide +kernel
theorem d_Re_addRest_19 : decode prog_7_method_8_code 19 = .ok (.iload_n 3, 1) := by decide +kernel
theorem d_Re_addRest_20 : decode prog_7_method_8_code 20 = .ok (.ishr, 1) := by decide +kernel
theorem d_Re_addRest_21 : decode prog_7_method_8_code 21 = .ok (.ifCond .le 24, 3) := by decide +kernel
theorem d_Re_addRest_24 : decode prog_7_method_8_code 24 = .ok (.aload_n 0, 1) := by decide +kernel
theorem d_Re_addRest_25 : decode prog_7_method_8_code 25 = .ok (.getfield 17, 3) := by decide +kernel
theorem d_Re_addRest_28 : decode prog_7_method_8_code 28 = .ok (.iload_n 1, 1) := by decide +kernel
theorem d_Re_addRest_29 : decode prog_7_method_8_code 29 = .ok (.aaload, 1) := by decide +kernel
theorem d_Re_addRest_30 : decode prog_7_method_8_code 30 = .ok (.iload_n 3, 1) := by decide +kernel
theorem d_Re_addRest_31 : decode prog_7_method_8_code 31 = .ok (.dup2, 1) := by decide +kernel
theorem d_Re_addRest_32 : decode prog_7_method_8_code 32 = .ok (.laload, 1) := by decide +kernel
theorem d_Re_addRest_33 : decode prog_7_method_8_code 33 = .ok (.iload_n 2, 1) := by decide +kernel
theorem d_Re_addRest_34 : decode prog_7_method_8_code 34 = .ok (.iload_n 3, 1) := by decide +kernel
theorem d_Re_addRest_35 : decode prog_7_method_8_code 35 = .ok (.ishr, 1) := by decide +kernel
theorem d_Re_addRest_36 : decode prog_7_method_8_code 36 = .ok (.i2l, 1) := by decide +kernel
theorem d_Re_addRest_37 : decode prog_7_method_8_code 37 = .ok (.ladd, 1) := by decide +kernel
theorem d_Re_addRest_38 : decode prog_7_method_8_code 38 = .ok (.lastore, 1) := by decide +kernel
theorem d_Re_addRest_39 : decode prog_7_method_8_code 39 = .ok (.iinc 3 1, 3) := by decide +kernel
theorem d_Re_addRest_42 : decode prog_7_method_8_code 42 = .ok (.goto (-30), 3) := by decide +kernel
theorem d_Re_addRest_45 : decode prog_7_method_8_code 45 = .ok (.return_, 1) := by decide +kernel
theorem d_Re_bitsOfAll_0 : decode prog_7_method_9_code 0 = .ok (.aload_n 0, 1) := by decide +kernel
theorem d_Re_bitsOfAll_1 : decode prog_7_method_9_code 1 = .ok (.getfield 29, 3) := by decide +kernel
theorem d_Re_bitsOfAll_4 : decode prog_7_method_9_code 4 = .ok (.iload_n 1, 1) := by decide +kernel
theorem d_Re_bitsOfAll_5 : decode prog_7_method_9_code 5 = .ok (.ishr, 1) := by decide +kernel
theorem d_Re_bitsOfAll_6 : decode prog_7_method_9_code 6 = .ok (.istore_n 2, 1) := by decide +kernel
theorem d_Re_bitsOfAll_7 : decode prog_7_method_9_code 7 = .ok (.ldc2_w 86, 3) := by decide +kernel
theorem d_Re_bitsOfAll_10 : decode prog_7_method_9_code 10 = .ok (.lstore_n 3, 1) := by decide +kernel
theorem d_Re_bitsOfAll_11 : decode prog_7_method_9_code 11 = .ok (.iconst 0, 1) := by decide +kernel
theorem d_Re_bitsOfAll_12 : decode prog_7_method_9_code 12 = .ok (.istore 5, 2) := by decide +kernel
theorem d_Re_bitsOfAll_14 : decode prog_7_method_9_code 14 = .ok (.iload 5, 2) := by decide +kernel
theorem d_Re_bitsOfAll_16 : decode prog_7_method_9_code 16 = .ok (.iconst 1, 1) := by decide +kernel
theorem d_Re_bitsOfAll_17 : decode prog_7_method_9_code 17 = .ok (.iload_n 1, 1) := by decide +kernel
theorem d_Re_bitsOfAll_18 : decode prog_7_method_9_code 18 = .ok (.ishl, 1) := by decide +kernel
theorem d_Re_bitsOfAll_19 : decode prog_7_method_9_code 19 = .ok (.if_icmp .ge 33, 3) := by decide +kernel
theorem d_Re_bitsOfAll_22 : decode prog_7_method_9_code 22 = .ok (.lload_n 3, 1) := by decide +kernel
theorem d_Re_bitsOfAll_23 : decode prog_7_method_9_code 23 = .ok (.aload_n 0, 1) := by decide +kernel
theorem d_Re_bitsOfAll_24 : decode prog_7_method_9_code 24 = .ok (.iload 5, 2) := by decide +kernel
theorem d_Re_bitsOfAll_26 : decode prog_7_method_9_code 26 = .ok (.iload 5, 2) := by decide +kernel
theorem d_Re_bitsOfAll_28 : decode prog_7_method_9_code 28 = .ok (.ifCond .ne 12, 3) := by decide +kernel
theorem d_Re_bitsOfAll_31 : decode prog_7_method_9_code 31 = .ok (.iload_n 2, 1) := by decide +kernel
theorem d_Re_bitsOfAll_32 : decode prog_7_method_9_code 32 = .ok (.aload_n 0, 1) := by decide +kernel
theorem d_Re_bitsOfAll_33 : decode prog_7_method_9_code 33 = .ok (.getfield 33, 3) := by decide +kernel
theorem d_Re_bitsOfAll_36 : decode prog_7_method_9_code 36 = .ok (.isub, 1) := by decide +kernel
theorem d_Re_bitsOfAll_37 : decode prog_7_method_9_code 37 = .ok (.goto 4, 3) := by decide +kernel
theorem d_Re_bitsOfAll_40 : decode prog_7_method_9_code 40 = .ok (.iload_n 2, 1) := by decide +kernel
theorem d_Re_bitsOfAll_41 : decode prog_7_method_9_code 41 = .ok (.invokevirtual 64, 3) := by decide +kernel
theorem d_Re_bitsOfAll_44 : decode prog_7_method_9_code 44 = .ok (.ladd, 1) := by decide +kernel
theorem d_Re_bitsOfAll_45 : decode prog_7_method_9_code 45 = .ok (.lstore_n 3, 1) := by decide +kernel
theorem d_Re_bitsOfAll_46 : decode prog_7_method_9_code 46 = .ok (.iinc 5 1, 3) := by decide +kernel
theorem d_Re_bitsOfAll_49 : decode prog_7_method_9_code 49 = .ok (.goto (-35), 3) := by decide +kernel
theorem d_Re_bitsOfAll_52 : decode prog_7_method_9_code 52 = .ok (.lload_n 3, 1) := by decide +kernel
theorem d_Re_bitsOfAll_53 : decode prog_7_method_9_code 53 = .ok (.lreturn, 1) := by decide +kernel
theorem d_Re_bitsOf_0 : decode prog_7_method_10_code 0 = .ok (.ldc2_w 46, 3) := by decide +kernel
theorem d_Re_bitsOf_3 : decode prog_7_method_10_code 3 = .ok (.lstore_n 3, 1) := by decide +kernel
theorem d_Re_bitsOf_4 : decode prog_7_method_10_code 4 = .ok (.iconst 0, 1) := by decide +kernel
theorem d_Re_bitsOf_5 : decode prog_7_method_10_code 5 = .ok (.istore 5, 2) := by decide +kernel
theorem d_Re_bitsOf_7 : decode prog_7_method_10_code 7 = .ok (.iload 5, 2) := by decide +kernel
theorem d_Re_bitsOf_9 : decode prog_7_method_10_code 9 = .ok (.bipush 15, 2) := by decide +kernel
theorem d_Re_bitsOf_11 : decode prog_7_method_10_code 11 = .ok (.if_icmp .ge 49, 3) := by decide +kernel
theorem d_Re_bitsOf_14 : decode prog_7_method_10_code 14 = .ok (.ldc2_w 88, 3) := by decide +kernel
theorem d_Re_bitsOf_17 : decode prog_7_method_10_code 17 = .ok (.iload 5, 2) := by decide +kernel
theorem d_Re_bitsOf_19 : decode prog_7_method_10_code 19 = .ok (.i2l, 1) := by decide +kernel
theorem d_Re_bitsOf_20 : decode prog_7_method_10_code 20 = .ok (.lconst 1, 1) := by decide +kernel
theorem d_Re_bitsOf_21 : decode prog_7_method_10_code 21 = .ok (.ladd, 1) := by decide +kernel
theorem d_Re_bitsOf_22 : decode prog_7_method_10_code 22 = .ok (.iload_n 2, 1) := by decide +kernel
theorem d_Re_bitsOf_23 : decode prog_7_method_10_code 23 = .ok (.i2l, 1) := by decide +kernel
theorem d_Re_bitsOf_24 : decode prog_7_method_10_code 24 = .ok (.lmul, 1) := by decide +kernel
theorem d_Re_bitsOf_25 : decode prog_7_method_10_code 25 = .ok (.ladd, 1) := by decide +kernel
theorem d_Re_bitsOf_26 : decode prog_7_method_10_code 26 = .ok (.aload_n 0, 1) := by decide +kernel
theorem d_Re_bitsOf_27 : decode prog_7_method_10_code 27 = .ok (.getfield 17, 3) := by decide +kernel
theorem d_Re_bitsOf_30 : decode prog_7_method_10_code 30 = .ok (.iload_n 1, 1) := by decide +kernel
theorem d_Re_bitsOf_31 : decode prog_7_method_10_code 31 = .ok (.aaload, 1) := by decide +kernel
theorem d_Re_bitsOf_32 : decode prog_7_method_10_code 32 = .ok (.iload 5, 2) := by decide +kernel
theorem d_Re_bitsOf_34 : decode prog_7_method_10_code 34 = .ok (.laload, 1) := by decide +kernel
theorem d_Re_bitsOf_35 : decode prog_7_method_10_code 35 = .ok (.ladd, 1) := by decide +kernel
theorem d_Re_bitsOf_36 : decode prog_7_method_10_code 36 = .ok (.lstore 6, 2) := by decide +kernel
theorem d_Re_bitsOf_38 : decode prog_7_method_10_code 38 = .ok (.lload 6, 2) := by decide +kernel
theorem d_Re_bitsOf_40 : decode prog_7_method_10_code 40 = .ok (.lload_n 3, 1) := by decide +kernel
theorem d_Re_bitsOf_41 : decode prog_7_method_10_code 41 = .ok (.lcmp, 1) := by decide +kernel
theorem d_Re_bitsOf_42 : decode prog_7_method_10_code 42 = .ok (.ifCond .ge 12, 3) := by decide +kernel
theorem d_Re_bitsOf_45 : decode prog_7_method_10_code 45 = .ok (.lload 6, 2) := by decide +kernel
theorem d_Re_bitsOf_47 : decode prog_7_method_10_code 47 = .ok (.lstore_n 3, 1) := by decide +kernel
theorem d_Re_bitsOf_48 : decode prog_7_method_10_code 48 = .ok (.aload_n 0, 1) := by decide +kernel
theorem d_Re_bitsOf_49 : decode prog_7_method_10_code 49 = .ok (.iload 5, 2) := by decide +kernel
theorem d_Re_bitsOf_51 : decode prog_7_method_10_code 51 = .ok (.putfield 90, 3) := by decide +kernel
theorem d_Re_bitsOf_54 : decode prog_7_method_10_code 54 = .ok (.iinc 5 1, 3) := by decide +kernel
theorem d_Re_bitsOf_57 : decode prog_7_method_10_code 57 = .ok (.goto (-50), 3) := by decide +kernel
theorem d_Re_bitsOf_60 : decode prog_7_method_10_code 60 = .ok (.aload_n 0, 1) := by decide +kernel
theorem d_Re_bitsOf_61 : decode prog_7_method_10_code 61 = .ok (.bipush 32, 2) := by decide +kernel
theorem d_Re_bitsOf_63 : decode prog_7_method_10_code 63 = .ok (.aload_n 0, 1) := by decide +kernel
theorem d_Re_bitsOf_64 : decode prog_7_method_10_code 64 = .ok (.getfield 20, 3) := by decide +kernel
theorem d_Re_bitsOf_67 : decode prog_7_method_10_code 67 = .ok (.iload_n 1, 1) := by decide +kernel
theorem d_Re_bitsOf_68 : decode prog_7_method_10_code 68 = .ok (.iaload, 1) := by decide +kernel
theorem d_Re_bitsOf_69 : decode prog_7_method_10_code 69 = .ok (.invokestatic 93, 3) := by decide +kernel
theorem d_Re_bitsOf_72 : decode prog_7_method_10_code 72 = .ok (.isub, 1) := by decide +kernel
theorem d_Re_bitsOf_73 : decode prog_7_method_10_code 73 = .ok (.putfield 98, 3) := by decide +kernel
theorem d_Re_bitsOf_76 : decode prog_7_method_10_code 76 = .ok (.ldc2_w 101, 3) := by decide +kernel
theorem d_Re_bitsOf_79 : decode prog_7_method_10_code 79 = .ok (.aload_n 0, 1) := by decide +kernel
theorem d_Re_bitsOf_80 : decode prog_7_method_10_code 80 = .ok (.getfield 98, 3) := by decide +kernel
theorem d_Re_bitsOf_83 : decode prog_7_method_10_code 83 = .ok (.i2l, 1) := by decide +kernel
theorem d_Re_bitsOf_84 : decode prog_7_method_10_code 84 = .ok (.iload_n 2, 1) := by decide +kernel
theorem d_Re_bitsOf_85 : decode prog_7_method_10_code 85 = .ok (.i2l, 1) := by decide +kernel
theorem d_Re_bitsOf_86 : decode prog_7_method_10_code 86 = .ok (.lmul, 1) := by decide +kernel
theorem d_Re_bitsOf_87 : decode prog_7_method_10_code 87 = .ok (.ladd, 1) := by decide +kernel
theorem d_Re_bitsOf_88 : decode prog_7_method_10_code 88 = .ok (.lstore 5, 2) := by decide +kernel
theorem d_Re_bitsOf_90 : decode prog_7_method_10_code 90 = .ok (.lload 5, 2) := by decide +kernel
theorem d_Re_bitsOf_92 : decode prog_7_method_10_code 92 = .ok (.lload_n 3, 1) := by decide +kernel
theorem d_Re_bitsOf_93 : decode prog_7_method_10_code 93 = .ok (.lcmp, 1) := by decide +kernel
theorem d_Re_bitsOf_94 : decode prog_7_method_10_code 94 = .ok (.ifCond .ge 12, 3) := by decide +kernel
theorem d_Re_bitsOf_97 : decode prog_7_method_10_code 97 = .ok (.lload 5, 2) := by decide +kernel
theorem d_Re_bitsOf_99 : decode prog_7_method_10_code 99 = .ok (.lstore_n 3, 1) := by decide +kernel
theorem d_Re_bitsOf_100 : decode prog_7_method_10_code 100 = .ok (.aload_n 0, 1) := by decide +kernel
theorem d_Re_bitsOf_101 : decode prog_7_method_10_code 101 = .ok (.bipush 15, 2) := by decide +kernel
theorem d_Re_bitsOf_103 : decode prog_7_method_10_code 103 = .ok (.putfield 90, 3) := by decide +kernel
theorem d_Re_bitsOf_106 : decode prog_7_method_10_code 106 = .ok (.lload_n 3, 1) := by decide +kernel
theorem d_Re_bitsOf_107 : decode prog_7_method_10_code 107 = .ok (.lreturn, 1) := by decide +kernel
theorem d_Re_joinPairs_0 : decode prog_7_method_11_code 0 = .ok (.iconst 0, 1) := by decide +kernel
theorem d_Re_joinPairs_1 : decode prog_7_method_11_code 1 = .ok (.istore_n 2, 1) := by decide +kernel
theorem d_Re_joinPairs_2 : decode prog_7_method_11_code 2 = .ok (.iload_n 2, 1) := by decide +kernel
theorem d_Re_joinPairs_3 : decode prog_7_method_11_code 3 = .ok (.iconst 1, 1) := by decide +kernel
theorem d_Re_joinPairs_4 : decode prog_7_method_11_code 4 = .ok (.iload_n 1, 1) := by decide +kernel
theorem d_Re_joinPairs_5 : decode prog_7_method_11_code 5 = .ok (.ishl, 1) := by decide +kernel
theorem d_Re_joinPairs_6 : decode prog_7_method_11_code 6 = .ok (.iconst 1, 1) := by decide +kernel
theorem d_Re_joinPairs_7 : decode prog_7_method_11_code 7 = .ok (.ishr, 1) := by decide +kernel
theorem d_Re_joinPairs_8 : decode prog_7_method_11_code 8 = .ok (.if_icmp .ge 79, 3) := by decide +kernel
theorem d_Re_joinPairs_11 : decode prog_7_method_11_code 11 = .ok (.iconst 0, 1) := by decide +kernel
theorem d_Re_joinPairs_12 : decode prog_7_method_11_code 12 = .ok (.istore_n 3, 1) := by decide +kernel
theorem d_Re_joinPairs_13 : decode prog_7_method_11_code 13 = .ok (.iload_n 3, 1) := by decide +kernel
theorem d_Re_joinPairs_14 : decode prog_7_method_11_code 14 = .ok (.bipush 15, 2) := by decide +kernel
theorem d_Re_joinPairs_16 : decode prog_7_method_11_code 16 = .ok (.if_icmp .ge 40, 3) := by decide +kernel
theorem d_Re_joinPairs_19 : decode prog_7_method_11_code 19 = .ok (.aload_n 0, 1) := by decide +kernel
theorem d_Re_joinPairs_20 : decode prog_7_method_11_code 20 = .ok (.getfield 17, 3) := by decide +kernel
theorem d_Re_joinPairs_23 : decode prog_7_method_11_code 23 = .ok (.iload_n 2, 1) := by decide +kernel
theorem d_Re_joinPairs_24 : decode prog_7_method_11_code 24 = .ok (.aaload, 1) := by decide +kernel
theorem d_Re_joinPairs_25 : decode prog_7_method_11_code 25 = .ok (.iload_n 3, 1) := by decide +kernel
theorem d_Re_joinPairs_26 : decode prog_7_method_11_code 26 = .ok (.aload_n 0, 1) := by decide +kernel
theorem d_Re_joinPairs_27 : decode prog_7_method_11_code 27 = .ok (.getfield 17, 3) := by decide +kernel
theorem d_Re_joinPairs_30 : decode prog_7_method_11_code 30 = .ok (.iconst 2, 1) := by decide +kernel
theorem d_Re_joinPairs_31 : decode prog_7_method_11_code 31 = .ok (.iload_n 2, 1) := by decide +kernel
theorem d_Re_joinPairs_32 : decode prog_7_method_11_code 32 = .ok (.imul, 1) := by decide +kernel
theorem d_Re_joinPairs_33 : decode prog_7_method_11_code 33 = .ok (.aaload, 1) := by decide +kernel
theorem d_Re_joinPairs_34 : decode prog_7_method_11_code 34 = .ok (.iload_n 3, 1) := by decide +kernel
theorem d_Re_joinPairs_35 : decode prog_7_method_11_code 35 = .ok (.laload, 1) := by decide +kernel
theorem d_Re_joinPairs_36 : decode prog_7_method_11_code 36 = .ok (.aload_n 0, 1) := by decide +kernel
theorem d_Re_joinPairs_37 : decode prog_7_method_11_code 37 = .ok (.getfield 17, 3) := by decide +kernel
theorem d_Re_joinPairs_40 : decode prog_7_method_11_code 40 = .ok (.iconst 2, 1) := by decide +kernel
theorem d_Re_joinPairs_41 : decode prog_7_method_11_code 41 = .ok (.iload_n 2, 1) := by decide +kernel
theorem d_Re_joinPairs_42 : decode prog_7_method_11_code 42 = .ok (.imul, 1) := by decide +kernel
theorem d_Re_joinPairs_43 : decode prog_7_method_11_code 43 = .ok (.iconst 1, 1) := by decide +kernel
theorem d_Re_joinPairs_44 : decode prog_7_method_11_code 44 = .ok (.iadd, 1) := by decide +kernel
theorem d_Re_joinPairs_45 : decode prog_7_method_11_code 45 = .ok (.aaload, 1) := by decide +kernel
theorem d_Re_joinPairs_46 : decode prog_7_method_11_code 46 = .ok (.iload_n 3, 1) := by decide +kernel
theorem d_Re_joinPairs_47 : decode prog_7_method_11_code 47 = .ok (.laload, 1) := by decide +kernel
theorem d_Re_joinPairs_48 : decode prog_7_method_11_code 48 = .ok (.ladd, 1) := by decide +kernel
theorem d_Re_joinPairs_49 : decode prog_7_method_11_code 49 = .ok (.lastore, 1) := by decide +kernel
theorem d_Re_joinPairs_50 : decode prog_7_method_11_code 50 = .ok (.iinc 3 1, 3) := by decide +kernel
theorem d_Re_joinPairs_53 : decode prog_7_method_11_code 53 = .ok (.goto (-40), 3) := by decide +kernel
theorem d_Re_joinPairs_56 : decode prog_7_method_11_code 56 = .ok (.aload_n 0, 1) := by decide +kernel
theorem d_Re_joinPairs_57 : decode prog_7_method_11_code 57 = .ok (.getfield 20, 3) := by decide +kernel
theorem d_Re_joinPairs_60 : decode prog_7_method_11_code 60 = .ok (.iload_n 2, 1) := by decide +kernel
theorem d_Re_joinPairs_61 : decode prog_7_method_11_code 61 = .ok (.aload_n 0, 1) := by decide +kernel
theorem d_Re_joinPairs_62 : decode prog_7_method_11_code 62 = .ok (.getfield 20, 3) := by decide +kernel
theorem d_Re_joinPairs_65 : decode prog_7_method_11_code 65 = .ok (.iconst 2, 1) := by decide +kernel
theorem d_Re_joinPairs_66 : decode prog_7_method_11_code 66 = .ok (.iload_n 2, 1) := by decide +kernel
theorem d_Re_joinPairs_67 : decode prog_7_method_11_code 67 = .ok (.imul, 1) := by decide +kernel
theorem d_Re_joinPairs_68 : decode prog_7_method_11_code 68 = .ok (.iaload, 1) := by decide +kernel
theorem d_Re_joinPairs_69 : decode prog_7_method_11_code 69 = .ok (.aload_n 0, 1) := by decide +kernel
theorem d_Re_joinPairs_70 : decode prog_7_method_11_code 70 = .ok (.getfield 20, 3) := by decide +kernel
theorem d_Re_joinPairs_73 : decode prog_7_method_11_code 73 = .ok (.iconst 2, 1) := by decide +kernel
theorem d_Re_joinPairs_74 : decode prog_7_method_11_code 74 = .ok (.iload_n 2, 1) := by decide +kernel
theorem d_Re_joinPairs_75 : decode prog_7_method_11_code 75 = .ok (.imul, 1) := by decide +kernel
theorem d_Re_joinPairs_76 : decode prog_7_method_11_code 76 = .ok (.iconst 1, 1) := by decide +kernel
theorem d_Re_joinPairs_77 : decode prog_7_method_11_code 77 = .ok (.iadd, 1) := by decide +kernel
theorem d_Re_joinPairs_78 : decode prog_7_method_11_code 78 = .ok (.iaload, 1) := by decide +kernel
theorem d_Re_joinPairs_79 : decode prog_7_method_11_code 79 = .ok (.ior, 1) := by decide +kernel
theorem d_Re_joinPairs_80 : decode prog_7_method_11_code 80 = .ok (.iastore, 1) := by decide +kernel
theorem d_Re_joinPairs_81 : decode prog_7_method_11_code 81 = .ok (.iinc 2 1, 3) := by decide +kernel
theorem d_Re_joinPairs_84 : decode prog_7_method_11_code 84 = .ok (.goto (-82), 3) := by decide +kernel
theorem d_Re_joinPairs_87 : decode prog_7_method_11_code 87 = .ok (.return_, 1) := by decide +kernel
theorem d_Re_writePart_0 : decode prog_7_method_12_code 0 = .ok (.aload_n 1, 1) := by decide +kernel
theorem d_Re_writePart_1 : decode prog_7_method_12_code 1 = .ok (.iconst 4, 1) := by decide +kernel
theorem d_Re_writePart_2 : decode prog_7_method_12_code 2 = .ok (.aload_n 0, 1) := by decide +kernel
theorem d_Re_writePart_3 : decode prog_7_method_12_code 3 = .ok (.getfield 90, 3) := by decide +kernel
theorem d_Re_writePart_6 : decode prog_7_method_12_code 6 = .ok (.i2l, 1) := by decide +kernel
theorem d_Re_writePart_7 : decode prog_7_method_12_code 7 = .ok (.invokevirtual 58, 3) := by decide +kernel
theorem d_Re_writePart_10 : decode prog_7_method_12_code 10 = .ok (.aload_n 0, 1) := by decide +kernel
theorem d_Re_writePart_11 : decode prog_7_method_12_code 11 = .ok (.getfield 90, 3) := by decide +kernel
theorem d_Re_writePart_14 : decode prog_7_method_12_code 14 = .ok (.bipush 15, 2) := by decide +kernel
theorem d_Re_writePart_16 : decode prog_7_method_12_code 16 = .ok (.if_icmp .ne 13, 3) := by decide +kernel
theorem d_Re_writePart_19 : decode prog_7_method_12_code 19 = .ok (.aload_n 1, 1) := by decide +kernel
theorem d_Re_writePart_20 : decode prog_7_method_12_code 20 = .ok (.iconst 5, 1) := by decide +kernel
theorem d_Re_writePart_21 : decode prog_7_method_12_code 21 = .ok (.aload_n 0, 1) := by decide +kernel
theorem d_Re_writePart_22 : decode prog_7_method_12_code 22 = .ok (.getfield 98, 3) := by decide +kernel
theorem d_Re_writePart_25 : decode prog_7_method_12_code 25 = .ok (.i2l, 1) := by decide +kernel
theorem d_Re_writePart_26 : decode prog_7_method_12_code 26 = .ok (.invokevirtual 58, 3) := by decide +kernel
theorem d_Re_writePart_29 : decode prog_7_method_12_code 29 = .ok (.iload_n 2, 1) := by decide +kernel
theorem d_Re_writePart_30 : decode prog_7_method_12_code 30 = .ok (.istore 4, 2) := by decide +kernel
theorem d_Re_writePart_32 : decode prog_7_method_12_code 32 = .ok (.iload 4, 2) := by decide +kernel
theorem d_Re_writePart_34 : decode prog_7_method_12_code 34 = .ok (.iload_n 3, 1) := by decide +kernel
theorem d_Re_writePart_35 : decode prog_7_method_12_code 35 = .ok (.if_icmp .ge 78, 3) := by decide +kernel
theorem d_Re_writePart_38 : decode prog_7_method_12_code 38 = .ok (.aload_n 0, 1) := by decide +kernel
theorem d_Re_writePart_39 : decode prog_7_method_12_code 39 = .ok (.getfield 90, 3) := by decide +kernel
theorem d_Re_writePart_42 : decode prog_7_method_12_code 42 = .ok (.bipush 15, 2) := by decide +kernel
theorem d_Re_writePart_44 : decode prog_7_method_12_code 44 = .ok (.if_icmp .ne 22, 3) := by decide +kernel
theorem d_Re_writePart_47 : decode prog_7_method_12_code 47 = .ok (.aload_n 1, 1) := by decide +kernel
theorem d_Re_writePart_48 : decode prog_7_method_12_code 48 = .ok (.aload_n 0, 1) := by decide +kernel
theorem d_Re_writePart_49 : decode prog_7_method_12_code 49 = .ok (.getfield 98, 3) := by decide +kernel
theorem d_Re_writePart_52 : decode prog_7_method_12_code 52 = .ok (.aload_n 0, 1) := by decide +kernel
theorem d_Re_writePart_53 : decode prog_7_method_12_code 53 = .ok (.getfield 9, 3) := by decide +kernel
theorem d_Re_writePart_56 : decode prog_7_method_12_code 56 = .ok (.iload 4, 2) := by decide +kernel
theorem d_Re_writePart_58 : decode prog_7_method_12_code 58 = .ok (.iaload, 1) := by decide +kernel
theorem d_Re_writePart_59 : decode prog_7_method_12_code 59 = .ok (.i2l, 1) := by decide +kernel
theorem d_Re_writePart_60 : decode prog_7_method_12_code 60 = .ok (.invokevirtual 58, 3) := by decide +kernel
theorem d_Re_writePart_63 : decode prog_7_method_12_code 63 = .ok (.goto 44, 3) := by decide +kernel
theorem d_Re_writePart_66 : decode prog_7_method_12_code 66 = .ok (.aload_n 0, 1) := by decide +kernel
theorem d_Re_writePart_67 : decode prog_7_method_12_code 67 = .ok (.getfield 9, 3) := by decide +kernel
theorem d_Re_writePart_70 : decode prog_7_method_12_code 70 = .ok (.iload 4, 2) := by decide +kernel
theorem d_Re_writePart_72 : decode prog_7_method_12_code 72 = .ok (.iaload, 1) := by decide +kernel
theorem d_Re_writePart_73 : decode prog_7_method_12_code 73 = .ok (.invokestatic 78, 3) := by decide +kernel
theorem d_Re_writePart_76 : decode prog_7_method_12_code 76 = .ok (.istore 5, 2) := by decide +kernel
theorem d_Re_writePart_78 : decode prog_7_method_12_code 78 = .ok (.aload_n 1, 1) := by decide +kernel
theorem d_Re_writePart_79 : decode prog_7_method_12_code 79 = .ok (.iload 5, 2) := by decide +kernel
theorem d_Re_writePart_81 : decode prog_7_method_12_code 81 = .ok (.aload_n 0, 1) := by decide +kernel
theorem d_Re_writePart_82 : decode prog_7_method_12_code 82 = .ok (.getfield 90, 3) := by decide +kernel
theorem d_Re_writePart_85 : decode prog_7_method_12_code 85 = .ok (.ishr, 1) := by decide +kernel
theorem d_Re_writePart_86 : decode prog_7_method_12_code 86 = .ok (.lconst 0, 1) := by decide +kernel
theorem d_Re_writePart_87 : decode prog_7_method_12_code 87 = .ok (.invokevirtual 58, 3) := by decide +kernel
theorem d_Re_writePart_90 : decode prog_7_method_12_code 90 = .ok (.aload_n 1, 1) := by decide +kernel
theorem d_Re_writePart_91 : decode prog_7_method_12_code 91 = .ok (.iconst 1, 1) := by decide +kernel
theorem d_Re_writePart_92 : decode prog_7_method_12_code 92 = .ok (.lconst 1, 1) := by decide +kernel
theorem d_Re_writePart_93 : decode prog_7_method_12_code 93 = .ok (.invokevirtual 58, 3) := by decide +kernel
theorem d_Re_writePart_96 : decode prog_7_method_12_code 96 = .ok (.aload_n 1, 1) := by decide +kernel
theorem d_Re_writePart_97 : decode prog_7_method_12_code 97 = .ok (.aload_n 0, 1) := by decide +kernel
theorem d_Re_writePart_98 : decode prog_7_method_12_code 98 = .ok (.getfield 90, 3) := by decide +kernel
theorem d_Re_writePart_101 : decode prog_7_method_12_code 101 = .ok (.iload 5, 2) := by decide +kernel
theorem d_Re_writePart_103 : decode prog_7_method_12_code 103 = .ok (.i2l, 1) := by decide +kernel
theorem d_Re_writePart_104 : decode prog_7_method_12_code 104 = .ok (.invokevirtual 58, 3) := by decide +kernel
theorem d_Re_writePart_107 : decode prog_7_method_12_code 107 = .ok (.iinc 4 1, 3) := by decide +kernel
theorem d_Re_writePart_110 : decode prog_7_method_12_code 110 = .ok (.goto (-78), 3) := by decide +kernel
theorem d_Re_writePart_113 : decode prog_7_method_12_code 113 = .ok (.return_, 1) := by decide +kernel
theorem d_Re_fold_0 : decode prog_7_method_13_code 0 = .ok (.iload_n 0, 1) := by decide +kernel
theorem d_Re_fold_1 : decode prog_7_method_13_code 1 = .ok (.iconst 1, 1) := by decide +kernel
theorem d_Re_fold_2 : decode prog_7_method_13_code 2 = .ok (.ishl, 1) := by decide +kernel
theorem d_Re_fold_3 : decode prog_7_method_13_code 3 = .ok (.iload_n 0, 1) := by decide +kernel
theorem d_Re_fold_4 : decode prog_7_method_13_code 4 = .ok (.bipush 31, 2) := by decide +kernel
theorem d_Re_fold_6 : decode prog_7_method_13_code 6 = .ok (.ishr, 1) := by decide +kernel
theorem d_Re_fold_7 : decode prog_7_method_13_code 7 = .ok (.ixor, 1) := by decide +kernel
theorem d_Re_fold_8 : decode prog_7_method_13_code 8 = .ok (.ireturn, 1) := by decide +kernel
