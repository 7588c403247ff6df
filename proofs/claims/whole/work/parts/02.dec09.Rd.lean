/-! decode rows of SoundStream$Reader, by program -/
theorem d_Rd_init_0 : decode prog_6_method_1_code 0 = .ok (.aload_n 0, 1) := by decide +kernel
theorem d_Rd_init_1 : decode prog_6_method_1_code 1 = .ok (.invokespecial 3, 3) := by decide +kernel
theorem d_Rd_init_4 : decode prog_6_method_1_code 4 = .ok (.aload_n 0, 1) := by decide +kernel
theorem d_Rd_init_5 : decode prog_6_method_1_code 5 = .ok (.aload_n 1, 1) := by decide +kernel
theorem d_Rd_init_6 : decode prog_6_method_1_code 6 = .ok (.putfield 9, 3) := by decide +kernel
theorem d_Rd_init_9 : decode prog_6_method_1_code 9 = .ok (.return_, 1) := by decide +kernel
theorem d_Rd_begin_0 : decode prog_6_method_2_code 0 = .ok (.aload_n 0, 1) := by decide +kernel
theorem d_Rd_begin_1 : decode prog_6_method_2_code 1 = .ok (.iconst 0, 1) := by decide +kernel
theorem d_Rd_begin_2 : decode prog_6_method_2_code 2 = .ok (.putfield 15, 3) := by decide +kernel
theorem d_Rd_begin_5 : decode prog_6_method_2_code 5 = .ok (.aload_n 0, 1) := by decide +kernel
theorem d_Rd_begin_6 : decode prog_6_method_2_code 6 = .ok (.iconst 0, 1) := by decide +kernel
theorem d_Rd_begin_7 : decode prog_6_method_2_code 7 = .ok (.putfield 19, 3) := by decide +kernel
theorem d_Rd_begin_10 : decode prog_6_method_2_code 10 = .ok (.aload_n 0, 1) := by decide +kernel
theorem d_Rd_begin_11 : decode prog_6_method_2_code 11 = .ok (.iconst 0, 1) := by decide +kernel
theorem d_Rd_begin_12 : decode prog_6_method_2_code 12 = .ok (.putfield 22, 3) := by decide +kernel
theorem d_Rd_begin_15 : decode prog_6_method_2_code 15 = .ok (.return_, 1) := by decide +kernel
theorem d_Rd_nextByte_0 : decode prog_6_method_3_code 0 = .ok (.aload_n 0, 1) := by decide +kernel
theorem d_Rd_nextByte_1 : decode prog_6_method_3_code 1 = .ok (.getfield 15, 3) := by decide +kernel
theorem d_Rd_nextByte_4 : decode prog_6_method_3_code 4 = .ok (.iconst 3, 1) := by decide +kernel
theorem d_Rd_nextByte_5 : decode prog_6_method_3_code 5 = .ok (.ishr, 1) := by decide +kernel
theorem d_Rd_nextByte_6 : decode prog_6_method_3_code 6 = .ok (.ireturn, 1) := by decide +kernel
theorem d_Rd_hasMore_0 : decode prog_6_method_4_code 0 = .ok (.aload_n 0, 1) := by decide +kernel
theorem d_Rd_hasMore_1 : decode prog_6_method_4_code 1 = .ok (.invokevirtual 25, 3) := by decide +kernel
theorem d_Rd_hasMore_4 : decode prog_6_method_4_code 4 = .ok (.aload_n 0, 1) := by decide +kernel
theorem d_Rd_hasMore_5 : decode prog_6_method_4_code 5 = .ok (.getfield 9, 3) := by decide +kernel
theorem d_Rd_hasMore_8 : decode prog_6_method_4_code 8 = .ok (.getfield 29, 3) := by decide +kernel
theorem d_Rd_hasMore_11 : decode prog_6_method_4_code 11 = .ok (.if_icmp .ge 7, 3) := by decide +kernel
theorem d_Rd_hasMore_14 : decode prog_6_method_4_code 14 = .ok (.iconst 1, 1) := by decide +kernel
theorem d_Rd_hasMore_15 : decode prog_6_method_4_code 15 = .ok (.goto 4, 3) := by decide +kernel
theorem d_Rd_hasMore_18 : decode prog_6_method_4_code 18 = .ok (.iconst 0, 1) := by decide +kernel
theorem d_Rd_hasMore_19 : decode prog_6_method_4_code 19 = .ok (.ireturn, 1) := by decide +kernel
theorem d_Rd_markPlace_0 : decode prog_6_method_5_code 0 = .ok (.aload_n 0, 1) := by decide +kernel
theorem d_Rd_markPlace_1 : decode prog_6_method_5_code 1 = .ok (.aload_n 0, 1) := by decide +kernel
theorem d_Rd_markPlace_2 : decode prog_6_method_5_code 2 = .ok (.invokevirtual 25, 3) := by decide +kernel
theorem d_Rd_markPlace_5 : decode prog_6_method_5_code 5 = .ok (.putfield 19, 3) := by decide +kernel
theorem d_Rd_markPlace_8 : decode prog_6_method_5_code 8 = .ok (.return_, 1) := by decide +kernel
theorem d_Rd_demand_0 : decode prog_6_method_6_code 0 = .ok (.iload_n 1, 1) := by decide +kernel
theorem d_Rd_demand_1 : decode prog_6_method_6_code 1 = .ok (.ifCond .ne 18, 3) := by decide +kernel
theorem d_Rd_demand_4 : decode prog_6_method_6_code 4 = .ok (.aload_n 0, 1) := by decide +kernel
theorem d_Rd_demand_5 : decode prog_6_method_6_code 5 = .ok (.iload_n 2, 1) := by decide +kernel
theorem d_Rd_demand_6 : decode prog_6_method_6_code 6 = .ok (.putfield 22, 3) := by decide +kernel
theorem d_Rd_demand_9 : decode prog_6_method_6_code 9 = .ok (.new 34, 3) := by decide +kernel
theorem d_Rd_demand_12 : decode prog_6_method_6_code 12 = .ok (.dup, 1) := by decide +kernel
theorem d_Rd_demand_13 : decode prog_6_method_6_code 13 = .ok (.ldc 36, 2) := by decide +kernel
theorem d_Rd_demand_15 : decode prog_6_method_6_code 15 = .ok (.invokespecial 38, 3) := by decide +kernel
theorem d_Rd_demand_18 : decode prog_6_method_6_code 18 = .ok (.athrow, 1) := by decide +kernel
theorem d_Rd_demand_19 : decode prog_6_method_6_code 19 = .ok (.return_, 1) := by decide +kernel
theorem d_Rd_bits_0 : decode prog_6_method_7_code 0 = .ok (.iload_n 1, 1) := by decide +kernel
theorem d_Rd_bits_1 : decode prog_6_method_7_code 1 = .ok (.bipush 8, 2) := by decide +kernel
theorem d_Rd_bits_3 : decode prog_6_method_7_code 3 = .ok (.aload_n 0, 1) := by decide +kernel
theorem d_Rd_bits_4 : decode prog_6_method_7_code 4 = .ok (.getfield 9, 3) := by decide +kernel
theorem d_Rd_bits_7 : decode prog_6_method_7_code 7 = .ok (.getfield 29, 3) := by decide +kernel
theorem d_Rd_bits_10 : decode prog_6_method_7_code 10 = .ok (.imul, 1) := by decide +kernel
theorem d_Rd_bits_11 : decode prog_6_method_7_code 11 = .ok (.aload_n 0, 1) := by decide +kernel
theorem d_Rd_bits_12 : decode prog_6_method_7_code 12 = .ok (.getfield 15, 3) := by decide +kernel
theorem d_Rd_bits_15 : decode prog_6_method_7_code 15 = .ok (.isub, 1) := by decide +kernel
theorem d_Rd_bits_16 : decode prog_6_method_7_code 16 = .ok (.if_icmp .le 19, 3) := by decide +kernel
theorem d_Rd_bits_19 : decode prog_6_method_7_code 19 = .ok (.aload_n 0, 1) := by decide +kernel
theorem d_Rd_bits_20 : decode prog_6_method_7_code 20 = .ok (.bipush 13, 2) := by decide +kernel
theorem d_Rd_bits_22 : decode prog_6_method_7_code 22 = .ok (.putfield 22, 3) := by decide +kernel
theorem d_Rd_bits_25 : decode prog_6_method_7_code 25 = .ok (.new 34, 3) := by decide +kernel
theorem d_Rd_bits_28 : decode prog_6_method_7_code 28 = .ok (.dup, 1) := by decide +kernel
theorem d_Rd_bits_29 : decode prog_6_method_7_code 29 = .ok (.ldc 41, 2) := by decide +kernel
theorem d_Rd_bits_31 : decode prog_6_method_7_code 31 = .ok (.invokespecial 38, 3) := by decide +kernel
theorem d_Rd_bits_34 : decode prog_6_method_7_code 34 = .ok (.athrow, 1) := by decide +kernel
theorem d_Rd_bits_35 : decode prog_6_method_7_code 35 = .ok (.iconst 0, 1) := by decide +kernel
theorem d_Rd_bits_36 : decode prog_6_method_7_code 36 = .ok (.istore_n 2, 1) := by decide +kernel
theorem d_Rd_bits_37 : decode prog_6_method_7_code 37 = .ok (.iconst 0, 1) := by decide +kernel
theorem d_Rd_bits_38 : decode prog_6_method_7_code 38 = .ok (.istore_n 3, 1) := by decide +kernel
theorem d_Rd_bits_39 : decode prog_6_method_7_code 39 = .ok (.iload_n 3, 1) := by decide +kernel
theorem d_Rd_bits_40 : decode prog_6_method_7_code 40 = .ok (.iload_n 1, 1) := by decide +kernel
theorem d_Rd_bits_41 : decode prog_6_method_7_code 41 = .ok (.if_icmp .ge 50, 3) := by decide +kernel
theorem d_Rd_bits_44 : decode prog_6_method_7_code 44 = .ok (.iload_n 2, 1) := by decide +kernel
theorem d_Rd_bits_45 : decode prog_6_method_7_code 45 = .ok (.iconst 1, 1) := by decide +kernel
theorem d_Rd_bits_46 : decode prog_6_method_7_code 46 = .ok (.ishl, 1) := by decide +kernel
theorem d_Rd_bits_47 : decode prog_6_method_7_code 47 = .ok (.aload_n 0, 1) := by decide +kernel
theorem d_Rd_bits_48 : decode prog_6_method_7_code 48 = .ok (.getfield 9, 3) := by decide +kernel
theorem d_Rd_bits_51 : decode prog_6_method_7_code 51 = .ok (.aload_n 0, 1) := by decide +kernel
theorem d_Rd_bits_52 : decode prog_6_method_7_code 52 = .ok (.getfield 15, 3) := by decide +kernel
theorem d_Rd_bits_55 : decode prog_6_method_7_code 55 = .ok (.iconst 3, 1) := by decide +kernel
theorem d_Rd_bits_56 : decode prog_6_method_7_code 56 = .ok (.ishr, 1) := by decide +kernel
theorem d_Rd_bits_57 : decode prog_6_method_7_code 57 = .ok (.invokevirtual 43, 3) := by decide +kernel
theorem d_Rd_bits_60 : decode prog_6_method_7_code 60 = .ok (.bipush 7, 2) := by decide +kernel
theorem d_Rd_bits_62 : decode prog_6_method_7_code 62 = .ok (.aload_n 0, 1) := by decide +kernel
theorem d_Rd_bits_63 : decode prog_6_method_7_code 63 = .ok (.getfield 15, 3) := by decide +kernel
theorem d_Rd_bits_66 : decode prog_6_method_7_code 66 = .ok (.bipush 7, 2) := by decide +kernel
theorem d_Rd_bits_68 : decode prog_6_method_7_code 68 = .ok (.iand, 1) := by decide +kernel
theorem d_Rd_bits_69 : decode prog_6_method_7_code 69 = .ok (.isub, 1) := by decide +kernel
theorem d_Rd_bits_70 : decode prog_6_method_7_code 70 = .ok (.ishr, 1) := by decide +kernel
theorem d_Rd_bits_71 : decode prog_6_method_7_code 71 = .ok (.iconst 1, 1) := by decide +kernel
theorem d_Rd_bits_72 : decode prog_6_method_7_code 72 = .ok (.iand, 1) := by decide +kernel
theorem d_Rd_bits_73 : decode prog_6_method_7_code 73 = .ok (.ior, 1) := by decide +kernel
theorem d_Rd_bits_74 : decode prog_6_method_7_code 74 = .ok (.istore_n 2, 1) := by decide +kernel
theorem d_Rd_bits_75 : decode prog_6_method_7_code 75 = .ok (.aload_n 0, 1) := by decide +kernel
theorem d_Rd_bits_76 : decode prog_6_method_7_code 76 = .ok (.dup, 1) := by decide +kernel
theorem d_Rd_bits_77 : decode prog_6_method_7_code 77 = .ok (.getfield 15, 3) := by decide +kernel
theorem d_Rd_bits_80 : decode prog_6_method_7_code 80 = .ok (.iconst 1, 1) := by decide +kernel
theorem d_Rd_bits_81 : decode prog_6_method_7_code 81 = .ok (.iadd, 1) := by decide +kernel
theorem d_Rd_bits_82 : decode prog_6_method_7_code 82 = .ok (.putfield 15, 3) := by decide +kernel
theorem d_Rd_bits_85 : decode prog_6_method_7_code 85 = .ok (.iinc 3 1, 3) := by decide +kernel
theorem d_Rd_bits_88 : decode prog_6_method_7_code 88 = .ok (.goto (-49), 3) := by decide +kernel
theorem d_Rd_bits_91 : decode prog_6_method_7_code 91 = .ok (.iload_n 2, 1) := by decide +kernel
theorem d_Rd_bits_92 : decode prog_6_method_7_code 92 = .ok (.ireturn, 1) := by decide +kernel
theorem d_Rd_signed_0 : decode prog_6_method_8_code 0 = .ok (.bipush 32, 2) := by decide +kernel
theorem d_Rd_signed_2 : decode prog_6_method_8_code 2 = .ok (.iload_n 1, 1) := by decide +kernel
theorem d_Rd_signed_3 : decode prog_6_method_8_code 3 = .ok (.isub, 1) := by decide +kernel
theorem d_Rd_signed_4 : decode prog_6_method_8_code 4 = .ok (.istore_n 2, 1) := by decide +kernel
theorem d_Rd_signed_5 : decode prog_6_method_8_code 5 = .ok (.iload_n 1, 1) := by decide +kernel
theorem d_Rd_signed_6 : decode prog_6_method_8_code 6 = .ok (.ifCond .ne 7, 3) := by decide +kernel
theorem d_Rd_signed_9 : decode prog_6_method_8_code 9 = .ok (.iconst 0, 1) := by decide +kernel
theorem d_Rd_signed_10 : decode prog_6_method_8_code 10 = .ok (.goto 12, 3) := by decide +kernel
theorem d_Rd_signed_13 : decode prog_6_method_8_code 13 = .ok (.aload_n 0, 1) := by decide +kernel
theorem d_Rd_signed_14 : decode prog_6_method_8_code 14 = .ok (.iload_n 1, 1) := by decide +kernel
theorem d_Rd_signed_15 : decode prog_6_method_8_code 15 = .ok (.invokevirtual 47, 3) := by decide +kernel
theorem d_Rd_signed_18 : decode prog_6_method_8_code 18 = .ok (.iload_n 2, 1) := by decide +kernel
theorem d_Rd_signed_19 : decode prog_6_method_8_code 19 = .ok (.ishl, 1) := by decide +kernel
theorem d_Rd_signed_20 : decode prog_6_method_8_code 20 = .ok (.iload_n 2, 1) := by decide +kernel
theorem d_Rd_signed_21 : decode prog_6_method_8_code 21 = .ok (.ishr, 1) := by decide +kernel
theorem d_Rd_signed_22 : decode prog_6_method_8_code 22 = .ok (.ireturn, 1) := by decide +kernel
theorem d_Rd_zeros_0 : decode prog_6_method_9_code 0 = .ok (.lconst 0, 1) := by decide +kernel
theorem d_Rd_zeros_1 : decode prog_6_method_9_code 1 = .ok (.lstore 4, 2) := by decide +kernel
theorem d_Rd_zeros_3 : decode prog_6_method_9_code 3 = .ok (.lload 4, 2) := by decide +kernel
theorem d_Rd_zeros_5 : decode prog_6_method_9_code 5 = .ok (.lload_n 1, 1) := by decide +kernel
theorem d_Rd_zeros_6 : decode prog_6_method_9_code 6 = .ok (.lcmp, 1) := by decide +kernel
theorem d_Rd_zeros_7 : decode prog_6_method_9_code 7 = .ok (.ifCond .ge 24, 3) := by decide +kernel
theorem d_Rd_zeros_10 : decode prog_6_method_9_code 10 = .ok (.aload_n 0, 1) := by decide +kernel
theorem d_Rd_zeros_11 : decode prog_6_method_9_code 11 = .ok (.iconst 1, 1) := by decide +kernel
theorem d_Rd_zeros_12 : decode prog_6_method_9_code 12 = .ok (.invokevirtual 47, 3) := by decide +kernel
theorem d_Rd_zeros_15 : decode prog_6_method_9_code 15 = .ok (.iconst 1, 1) := by decide +kernel
theorem d_Rd_zeros_16 : decode prog_6_method_9_code 16 = .ok (.if_icmp .ne 6, 3) := by decide +kernel
theorem d_Rd_zeros_19 : decode prog_6_method_9_code 19 = .ok (.lload 4, 2) := by decide +kernel
theorem d_Rd_zeros_21 : decode prog_6_method_9_code 21 = .ok (.lreturn, 1) := by decide +kernel
theorem d_Rd_zeros_22 : decode prog_6_method_9_code 22 = .ok (.lload 4, 2) := by decide +kernel
theorem d_Rd_zeros_24 : decode prog_6_method_9_code 24 = .ok (.lconst 1, 1) := by decide +kernel
theorem d_Rd_zeros_25 : decode prog_6_method_9_code 25 = .ok (.ladd, 1) := by decide +kernel
theorem d_Rd_zeros_26 : decode prog_6_method_9_code 26 = .ok (.lstore 4, 2) := by decide +kernel
theorem d_Rd_zeros_28 : decode prog_6_method_9_code 28 = .ok (.goto (-25), 3) := by decide +kernel
theorem d_Rd_zeros_31 : decode prog_6_method_9_code 31 = .ok (.aload_n 0, 1) := by decide +kernel
theorem d_Rd_zeros_32 : decode prog_6_method_9_code 32 = .ok (.iconst 0, 1) := by decide +kernel
theorem d_Rd_zeros_33 : decode prog_6_method_9_code 33 = .ok (.iload_n 3, 1) := by decide +kernel
theorem d_Rd_zeros_34 : decode prog_6_method_9_code 34 = .ok (.invokevirtual 50, 3) := by decide +kernel
theorem d_Rd_zeros_37 : decode prog_6_method_9_code 37 = .ok (.lload_n 1, 1) := by decide +kernel
theorem d_Rd_zeros_38 : decode prog_6_method_9_code 38 = .ok (.lreturn, 1) := by decide +kernel
theorem d_Rd_bitsToWholeByte_0 : decode prog_6_method_10_code 0 = .ok (.aload_n 0, 1) := by decide +kernel
theorem d_Rd_bitsToWholeByte_1 : decode prog_6_method_10_code 1 = .ok (.aload_n 0, 1) := by decide +kernel
theorem d_Rd_bitsToWholeByte_2 : decode prog_6_method_10_code 2 = .ok (.getfield 15, 3) := by decide +kernel
theorem d_Rd_bitsToWholeByte_5 : decode prog_6_method_10_code 5 = .ok (.ineg, 1) := by decide +kernel
theorem d_Rd_bitsToWholeByte_6 : decode prog_6_method_10_code 6 = .ok (.bipush 7, 2) := by decide +kernel
theorem d_Rd_bitsToWholeByte_8 : decode prog_6_method_10_code 8 = .ok (.iand, 1) := by decide +kernel
theorem d_Rd_bitsToWholeByte_9 : decode prog_6_method_10_code 9 = .ok (.invokevirtual 47, 3) := by decide +kernel
theorem d_Rd_bitsToWholeByte_12 : decode prog_6_method_10_code 12 = .ok (.ireturn, 1) := by decide +kernel
theorem d_Rd_skipBytes_0 : decode prog_6_method_11_code 0 = .ok (.aload_n 0, 1) := by decide +kernel
theorem d_Rd_skipBytes_1 : decode prog_6_method_11_code 1 = .ok (.iload_n 1, 1) := by decide +kernel
theorem d_Rd_skipBytes_2 : decode prog_6_method_11_code 2 = .ok (.aload_n 0, 1) := by decide +kernel
theorem d_Rd_skipBytes_3 : decode prog_6_method_11_code 3 = .ok (.getfield 9, 3) := by decide +kernel
theorem d_Rd_skipBytes_6 : decode prog_6_method_11_code 6 = .ok (.getfield 29, 3) := by decide +kernel
theorem d_Rd_skipBytes_9 : decode prog_6_method_11_code 9 = .ok (.aload_n 0, 1) := by decide +kernel
theorem d_Rd_skipBytes_10 : decode prog_6_method_11_code 10 = .ok (.invokevirtual 25, 3) := by decide +kernel
theorem d_Rd_skipBytes_13 : decode prog_6_method_11_code 13 = .ok (.isub, 1) := by decide +kernel
theorem d_Rd_skipBytes_14 : decode prog_6_method_11_code 14 = .ok (.if_icmp .gt 7, 3) := by decide +kernel
theorem d_Rd_skipBytes_17 : decode prog_6_method_11_code 17 = .ok (.iconst 1, 1) := by decide +kernel
theorem d_Rd_skipBytes_18 : decode prog_6_method_11_code 18 = .ok (.goto 4, 3) := by decide +kernel
theorem d_Rd_skipBytes_21 : decode prog_6_method_11_code 21 = .ok (.iconst 0, 1) := by decide +kernel
theorem d_Rd_skipBytes_22 : decode prog_6_method_11_code 22 = .ok (.bipush 13, 2) := by decide +kernel
theorem d_Rd_skipBytes_24 : decode prog_6_method_11_code 24 = .ok (.invokevirtual 50, 3) := by decide +kernel
theorem d_Rd_skipBytes_27 : decode prog_6_method_11_code 27 = .ok (.aload_n 0, 1) := by decide +kernel
theorem d_Rd_skipBytes_28 : decode prog_6_method_11_code 28 = .ok (.dup, 1) := by decide +kernel
theorem d_Rd_skipBytes_29 : decode prog_6_method_11_code 29 = .ok (.getfield 15, 3) := by decide +kernel
theorem d_Rd_skipBytes_32 : decode prog_6_method_11_code 32 = .ok (.bipush 8, 2) := by decide +kernel
theorem d_Rd_skipBytes_34 : decode prog_6_method_11_code 34 = .ok (.iload_n 1, 1) := by decide +kernel
theorem d_Rd_skipBytes_35 : decode prog_6_method_11_code 35 = .ok (.imul, 1) := by decide +kernel
theorem d_Rd_skipBytes_36 : decode prog_6_method_11_code 36 = .ok (.iadd, 1) := by decide +kernel
theorem d_Rd_skipBytes_37 : decode prog_6_method_11_code 37 = .ok (.putfield 15, 3) := by decide +kernel
theorem d_Rd_skipBytes_40 : decode prog_6_method_11_code 40 = .ok (.return_, 1) := by decide +kernel
