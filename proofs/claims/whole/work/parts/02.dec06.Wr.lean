/-! decode rows of SoundStream$Writer, by program -/
theorem d_Wr_init_0 : decode prog_11_method_1_code 0 = .ok (.aload_n 0, 1) := by decide +kernel
theorem d_Wr_init_1 : decode prog_11_method_1_code 1 = .ok (.invokespecial 1, 3) := by decide +kernel
theorem d_Wr_init_4 : decode prog_11_method_1_code 4 = .ok (.aload_n 0, 1) := by decide +kernel
theorem d_Wr_init_5 : decode prog_11_method_1_code 5 = .ok (.aload_n 1, 1) := by decide +kernel
theorem d_Wr_init_6 : decode prog_11_method_1_code 6 = .ok (.putfield 7, 3) := by decide +kernel
theorem d_Wr_init_9 : decode prog_11_method_1_code 9 = .ok (.return_, 1) := by decide +kernel
theorem d_Wr_put_0 : decode prog_11_method_2_code 0 = .ok (.iload_n 1, 1) := by decide +kernel
theorem d_Wr_put_1 : decode prog_11_method_2_code 1 = .ok (.iconst 1, 1) := by decide +kernel
theorem d_Wr_put_2 : decode prog_11_method_2_code 2 = .ok (.isub, 1) := by decide +kernel
theorem d_Wr_put_3 : decode prog_11_method_2_code 3 = .ok (.istore 4, 2) := by decide +kernel
theorem d_Wr_put_5 : decode prog_11_method_2_code 5 = .ok (.iload 4, 2) := by decide +kernel
theorem d_Wr_put_7 : decode prog_11_method_2_code 7 = .ok (.ifCond .lt 67, 3) := by decide +kernel
theorem d_Wr_put_10 : decode prog_11_method_2_code 10 = .ok (.aload_n 0, 1) := by decide +kernel
theorem d_Wr_put_11 : decode prog_11_method_2_code 11 = .ok (.aload_n 0, 1) := by decide +kernel
theorem d_Wr_put_12 : decode prog_11_method_2_code 12 = .ok (.getfield 13, 3) := by decide +kernel
theorem d_Wr_put_15 : decode prog_11_method_2_code 15 = .ok (.iconst 1, 1) := by decide +kernel
theorem d_Wr_put_16 : decode prog_11_method_2_code 16 = .ok (.ishl, 1) := by decide +kernel
theorem d_Wr_put_17 : decode prog_11_method_2_code 17 = .ok (.lload_n 2, 1) := by decide +kernel
theorem d_Wr_put_18 : decode prog_11_method_2_code 18 = .ok (.iload 4, 2) := by decide +kernel
theorem d_Wr_put_20 : decode prog_11_method_2_code 20 = .ok (.lshr, 1) := by decide +kernel
theorem d_Wr_put_21 : decode prog_11_method_2_code 21 = .ok (.l2i, 1) := by decide +kernel
theorem d_Wr_put_22 : decode prog_11_method_2_code 22 = .ok (.iconst 1, 1) := by decide +kernel
theorem d_Wr_put_23 : decode prog_11_method_2_code 23 = .ok (.iand, 1) := by decide +kernel
theorem d_Wr_put_24 : decode prog_11_method_2_code 24 = .ok (.ior, 1) := by decide +kernel
theorem d_Wr_put_25 : decode prog_11_method_2_code 25 = .ok (.putfield 13, 3) := by decide +kernel
theorem d_Wr_put_28 : decode prog_11_method_2_code 28 = .ok (.aload_n 0, 1) := by decide +kernel
theorem d_Wr_put_29 : decode prog_11_method_2_code 29 = .ok (.dup, 1) := by decide +kernel
theorem d_Wr_put_30 : decode prog_11_method_2_code 30 = .ok (.getfield 17, 3) := by decide +kernel
theorem d_Wr_put_33 : decode prog_11_method_2_code 33 = .ok (.iconst 1, 1) := by decide +kernel
theorem d_Wr_put_34 : decode prog_11_method_2_code 34 = .ok (.iadd, 1) := by decide +kernel
theorem d_Wr_put_35 : decode prog_11_method_2_code 35 = .ok (.putfield 17, 3) := by decide +kernel
theorem d_Wr_put_38 : decode prog_11_method_2_code 38 = .ok (.aload_n 0, 1) := by decide +kernel
theorem d_Wr_put_39 : decode prog_11_method_2_code 39 = .ok (.getfield 17, 3) := by decide +kernel
theorem d_Wr_put_42 : decode prog_11_method_2_code 42 = .ok (.bipush 8, 2) := by decide +kernel
theorem d_Wr_put_44 : decode prog_11_method_2_code 44 = .ok (.if_icmp .ne 24, 3) := by decide +kernel
theorem d_Wr_put_47 : decode prog_11_method_2_code 47 = .ok (.aload_n 0, 1) := by decide +kernel
theorem d_Wr_put_48 : decode prog_11_method_2_code 48 = .ok (.getfield 7, 3) := by decide +kernel
theorem d_Wr_put_51 : decode prog_11_method_2_code 51 = .ok (.aload_n 0, 1) := by decide +kernel
theorem d_Wr_put_52 : decode prog_11_method_2_code 52 = .ok (.getfield 13, 3) := by decide +kernel
theorem d_Wr_put_55 : decode prog_11_method_2_code 55 = .ok (.invokevirtual 20, 3) := by decide +kernel
theorem d_Wr_put_58 : decode prog_11_method_2_code 58 = .ok (.aload_n 0, 1) := by decide +kernel
theorem d_Wr_put_59 : decode prog_11_method_2_code 59 = .ok (.iconst 0, 1) := by decide +kernel
theorem d_Wr_put_60 : decode prog_11_method_2_code 60 = .ok (.putfield 13, 3) := by decide +kernel
theorem d_Wr_put_63 : decode prog_11_method_2_code 63 = .ok (.aload_n 0, 1) := by decide +kernel
theorem d_Wr_put_64 : decode prog_11_method_2_code 64 = .ok (.iconst 0, 1) := by decide +kernel
theorem d_Wr_put_65 : decode prog_11_method_2_code 65 = .ok (.putfield 17, 3) := by decide +kernel
theorem d_Wr_put_68 : decode prog_11_method_2_code 68 = .ok (.iinc 4 (-1), 3) := by decide +kernel
theorem d_Wr_put_71 : decode prog_11_method_2_code 71 = .ok (.goto (-66), 3) := by decide +kernel
theorem d_Wr_put_74 : decode prog_11_method_2_code 74 = .ok (.return_, 1) := by decide +kernel
theorem d_Wr_fillByte_0 : decode prog_11_method_3_code 0 = .ok (.aload_n 0, 1) := by decide +kernel
theorem d_Wr_fillByte_1 : decode prog_11_method_3_code 1 = .ok (.bipush 8, 2) := by decide +kernel
theorem d_Wr_fillByte_3 : decode prog_11_method_3_code 3 = .ok (.aload_n 0, 1) := by decide +kernel
theorem d_Wr_fillByte_4 : decode prog_11_method_3_code 4 = .ok (.getfield 17, 3) := by decide +kernel
theorem d_Wr_fillByte_7 : decode prog_11_method_3_code 7 = .ok (.isub, 1) := by decide +kernel
theorem d_Wr_fillByte_8 : decode prog_11_method_3_code 8 = .ok (.bipush 7, 2) := by decide +kernel
theorem d_Wr_fillByte_10 : decode prog_11_method_3_code 10 = .ok (.iand, 1) := by decide +kernel
theorem d_Wr_fillByte_11 : decode prog_11_method_3_code 11 = .ok (.lconst 0, 1) := by decide +kernel
theorem d_Wr_fillByte_12 : decode prog_11_method_3_code 12 = .ok (.invokevirtual 26, 3) := by decide +kernel
theorem d_Wr_fillByte_15 : decode prog_11_method_3_code 15 = .ok (.return_, 1) := by decide +kernel
