/-! decode rows of SoundStream$Subframe, by program -/
theorem d_Su_init_0 : decode prog_9_method_1_code 0 = .ok (.aload_n 0, 1) := by decide +kernel
theorem d_Su_init_1 : decode prog_9_method_1_code 1 = .ok (.invokespecial 3, 3) := by decide +kernel
theorem d_Su_init_4 : decode prog_9_method_1_code 4 = .ok (.aload_n 0, 1) := by decide +kernel
theorem d_Su_init_5 : decode prog_9_method_1_code 5 = .ok (.sipush 1024, 3) := by decide +kernel
theorem d_Su_init_8 : decode prog_9_method_1_code 8 = .ok (.newarray .int, 2) := by decide +kernel
theorem d_Su_init_10 : decode prog_9_method_1_code 10 = .ok (.putfield 9, 3) := by decide +kernel
theorem d_Su_init_13 : decode prog_9_method_1_code 13 = .ok (.aload_n 0, 1) := by decide +kernel
theorem d_Su_init_14 : decode prog_9_method_1_code 14 = .ok (.aload_n 1, 1) := by decide +kernel
theorem d_Su_init_15 : decode prog_9_method_1_code 15 = .ok (.putfield 15, 3) := by decide +kernel
theorem d_Su_init_18 : decode prog_9_method_1_code 18 = .ok (.return_, 1) := by decide +kernel
theorem d_Su_setSample_0 : decode prog_9_method_2_code 0 = .ok (.aload_n 0, 1) := by decide +kernel
theorem d_Su_setSample_1 : decode prog_9_method_2_code 1 = .ok (.getfield 9, 3) := by decide +kernel
theorem d_Su_setSample_4 : decode prog_9_method_2_code 4 = .ok (.iload_n 1, 1) := by decide +kernel
theorem d_Su_setSample_5 : decode prog_9_method_2_code 5 = .ok (.iload_n 2, 1) := by decide +kernel
theorem d_Su_setSample_6 : decode prog_9_method_2_code 6 = .ok (.iastore, 1) := by decide +kernel
theorem d_Su_setSample_7 : decode prog_9_method_2_code 7 = .ok (.return_, 1) := by decide +kernel
theorem d_Su_choose_0 : decode prog_9_method_3_code 0 = .ok (.aload_n 0, 1) := by decide +kernel
theorem d_Su_choose_1 : decode prog_9_method_3_code 1 = .ok (.iload_n 1, 1) := by decide +kernel
theorem d_Su_choose_2 : decode prog_9_method_3_code 2 = .ok (.putfield 19, 3) := by decide +kernel
theorem d_Su_choose_5 : decode prog_9_method_3_code 5 = .ok (.aload_n 0, 1) := by decide +kernel
theorem d_Su_choose_6 : decode prog_9_method_3_code 6 = .ok (.invokevirtual 23, 3) := by decide +kernel
theorem d_Su_choose_9 : decode prog_9_method_3_code 9 = .ok (.istore_n 3, 1) := by decide +kernel
theorem d_Su_choose_10 : decode prog_9_method_3_code 10 = .ok (.aload_n 0, 1) := by decide +kernel
theorem d_Su_choose_11 : decode prog_9_method_3_code 11 = .ok (.iload_n 2, 1) := by decide +kernel
theorem d_Su_choose_12 : decode prog_9_method_3_code 12 = .ok (.aload_n 0, 1) := by decide +kernel
theorem d_Su_choose_13 : decode prog_9_method_3_code 13 = .ok (.getfield 27, 3) := by decide +kernel
theorem d_Su_choose_16 : decode prog_9_method_3_code 16 = .ok (.isub, 1) := by decide +kernel
theorem d_Su_choose_17 : decode prog_9_method_3_code 17 = .ok (.putfield 30, 3) := by decide +kernel
theorem d_Su_choose_20 : decode prog_9_method_3_code 20 = .ok (.aload_n 0, 1) := by decide +kernel
theorem d_Su_choose_21 : decode prog_9_method_3_code 21 = .ok (.iload_n 3, 1) := by decide +kernel
theorem d_Su_choose_22 : decode prog_9_method_3_code 22 = .ok (.ifCond .eq 7, 3) := by decide +kernel
theorem d_Su_choose_25 : decode prog_9_method_3_code 25 = .ok (.iconst 0, 1) := by decide +kernel
theorem d_Su_choose_26 : decode prog_9_method_3_code 26 = .ok (.goto 4, 3) := by decide +kernel
theorem d_Su_choose_29 : decode prog_9_method_3_code 29 = .ok (.iconst 1, 1) := by decide +kernel
theorem d_Su_choose_30 : decode prog_9_method_3_code 30 = .ok (.putfield 33, 3) := by decide +kernel
theorem d_Su_choose_33 : decode prog_9_method_3_code 33 = .ok (.iload_n 3, 1) := by decide +kernel
theorem d_Su_choose_34 : decode prog_9_method_3_code 34 = .ok (.ifCond .eq 11, 3) := by decide +kernel
theorem d_Su_choose_37 : decode prog_9_method_3_code 37 = .ok (.aload_n 0, 1) := by decide +kernel
theorem d_Su_choose_38 : decode prog_9_method_3_code 38 = .ok (.getfield 30, 3) := by decide +kernel
theorem d_Su_choose_41 : decode prog_9_method_3_code 41 = .ok (.i2l, 1) := by decide +kernel
theorem d_Su_choose_42 : decode prog_9_method_3_code 42 = .ok (.goto 11, 3) := by decide +kernel
theorem d_Su_choose_45 : decode prog_9_method_3_code 45 = .ok (.aload_n 0, 1) := by decide +kernel
theorem d_Su_choose_46 : decode prog_9_method_3_code 46 = .ok (.getfield 30, 3) := by decide +kernel
theorem d_Su_choose_49 : decode prog_9_method_3_code 49 = .ok (.i2l, 1) := by decide +kernel
theorem d_Su_choose_50 : decode prog_9_method_3_code 50 = .ok (.iload_n 1, 1) := by decide +kernel
theorem d_Su_choose_51 : decode prog_9_method_3_code 51 = .ok (.i2l, 1) := by decide +kernel
theorem d_Su_choose_52 : decode prog_9_method_3_code 52 = .ok (.lmul, 1) := by decide +kernel
theorem d_Su_choose_53 : decode prog_9_method_3_code 53 = .ok (.lstore 4, 2) := by decide +kernel
theorem d_Su_choose_55 : decode prog_9_method_3_code 55 = .ok (.aload_n 0, 1) := by decide +kernel
theorem d_Su_choose_56 : decode prog_9_method_3_code 56 = .ok (.getfield 15, 3) := by decide +kernel
theorem d_Su_choose_59 : decode prog_9_method_3_code 59 = .ok (.aload_n 0, 1) := by decide +kernel
theorem d_Su_choose_60 : decode prog_9_method_3_code 60 = .ok (.getfield 9, 3) := by decide +kernel
theorem d_Su_choose_63 : decode prog_9_method_3_code 63 = .ok (.iload_n 1, 1) := by decide +kernel
theorem d_Su_choose_64 : decode prog_9_method_3_code 64 = .ok (.invokevirtual 36, 3) := by decide +kernel
theorem d_Su_choose_67 : decode prog_9_method_3_code 67 = .ok (.iconst 0, 1) := by decide +kernel
theorem d_Su_choose_68 : decode prog_9_method_3_code 68 = .ok (.istore 6, 2) := by decide +kernel
theorem d_Su_choose_70 : decode prog_9_method_3_code 70 = .ok (.iload 6, 2) := by decide +kernel
theorem d_Su_choose_72 : decode prog_9_method_3_code 72 = .ok (.iconst 4, 1) := by decide +kernel
theorem d_Su_choose_73 : decode prog_9_method_3_code 73 = .ok (.if_icmp .gt 78, 3) := by decide +kernel
theorem d_Su_choose_76 : decode prog_9_method_3_code 76 = .ok (.iload 6, 2) := by decide +kernel
theorem d_Su_choose_78 : decode prog_9_method_3_code 78 = .ok (.iload_n 1, 1) := by decide +kernel
theorem d_Su_choose_79 : decode prog_9_method_3_code 79 = .ok (.if_icmp .ge 72, 3) := by decide +kernel
theorem d_Su_choose_82 : decode prog_9_method_3_code 82 = .ok (.iload 6, 2) := by decide +kernel
theorem d_Su_choose_84 : decode prog_9_method_3_code 84 = .ok (.ifCond .le 10, 3) := by decide +kernel
theorem d_Su_choose_87 : decode prog_9_method_3_code 87 = .ok (.aload_n 0, 1) := by decide +kernel
theorem d_Su_choose_88 : decode prog_9_method_3_code 88 = .ok (.getfield 15, 3) := by decide +kernel
theorem d_Su_choose_91 : decode prog_9_method_3_code 91 = .ok (.invokevirtual 42, 3) := by decide +kernel
theorem d_Su_choose_94 : decode prog_9_method_3_code 94 = .ok (.aload_n 0, 1) := by decide +kernel
theorem d_Su_choose_95 : decode prog_9_method_3_code 95 = .ok (.getfield 30, 3) := by decide +kernel
theorem d_Su_choose_98 : decode prog_9_method_3_code 98 = .ok (.i2l, 1) := by decide +kernel
theorem d_Su_choose_99 : decode prog_9_method_3_code 99 = .ok (.iload 6, 2) := by decide +kernel
theorem d_Su_choose_101 : decode prog_9_method_3_code 101 = .ok (.i2l, 1) := by decide +kernel
theorem d_Su_choose_102 : decode prog_9_method_3_code 102 = .ok (.lmul, 1) := by decide +kernel
theorem d_Su_choose_103 : decode prog_9_method_3_code 103 = .ok (.aload_n 0, 1) := by decide +kernel
theorem d_Su_choose_104 : decode prog_9_method_3_code 104 = .ok (.getfield 15, 3) := by decide +kernel
theorem d_Su_choose_107 : decode prog_9_method_3_code 107 = .ok (.invokevirtual 45, 3) := by decide +kernel
theorem d_Su_choose_110 : decode prog_9_method_3_code 110 = .ok (.ladd, 1) := by decide +kernel
theorem d_Su_choose_111 : decode prog_9_method_3_code 111 = .ok (.lstore 7, 2) := by decide +kernel
theorem d_Su_choose_113 : decode prog_9_method_3_code 113 = .ok (.lload 7, 2) := by decide +kernel
theorem d_Su_choose_115 : decode prog_9_method_3_code 115 = .ok (.lload 4, 2) := by decide +kernel
theorem d_Su_choose_117 : decode prog_9_method_3_code 117 = .ok (.lcmp, 1) := by decide +kernel
theorem d_Su_choose_118 : decode prog_9_method_3_code 118 = .ok (.ifCond .ge 27, 3) := by decide +kernel
theorem d_Su_choose_121 : decode prog_9_method_3_code 121 = .ok (.lload 7, 2) := by decide +kernel
theorem d_Su_choose_123 : decode prog_9_method_3_code 123 = .ok (.lstore 4, 2) := by decide +kernel
theorem d_Su_choose_125 : decode prog_9_method_3_code 125 = .ok (.aload_n 0, 1) := by decide +kernel
theorem d_Su_choose_126 : decode prog_9_method_3_code 126 = .ok (.bipush 8, 2) := by decide +kernel
theorem d_Su_choose_128 : decode prog_9_method_3_code 128 = .ok (.iload 6, 2) := by decide +kernel
theorem d_Su_choose_130 : decode prog_9_method_3_code 130 = .ok (.iadd, 1) := by decide +kernel
theorem d_Su_choose_131 : decode prog_9_method_3_code 131 = .ok (.putfield 33, 3) := by decide +kernel
theorem d_Su_choose_134 : decode prog_9_method_3_code 134 = .ok (.aload_n 0, 1) := by decide +kernel
theorem d_Su_choose_135 : decode prog_9_method_3_code 135 = .ok (.aload_n 0, 1) := by decide +kernel
theorem d_Su_choose_136 : decode prog_9_method_3_code 136 = .ok (.getfield 15, 3) := by decide +kernel
theorem d_Su_choose_139 : decode prog_9_method_3_code 139 = .ok (.getfield 49, 3) := by decide +kernel
theorem d_Su_choose_142 : decode prog_9_method_3_code 142 = .ok (.putfield 52, 3) := by decide +kernel
theorem d_Su_choose_145 : decode prog_9_method_3_code 145 = .ok (.iinc 6 1, 3) := by decide +kernel
theorem d_Su_choose_148 : decode prog_9_method_3_code 148 = .ok (.goto (-78), 3) := by decide +kernel
theorem d_Su_choose_151 : decode prog_9_method_3_code 151 = .ok (.aload_n 0, 1) := by decide +kernel
theorem d_Su_choose_152 : decode prog_9_method_3_code 152 = .ok (.bipush 8, 2) := by decide +kernel
theorem d_Su_choose_154 : decode prog_9_method_3_code 154 = .ok (.aload_n 0, 1) := by decide +kernel
theorem d_Su_choose_155 : decode prog_9_method_3_code 155 = .ok (.getfield 27, 3) := by decide +kernel
theorem d_Su_choose_158 : decode prog_9_method_3_code 158 = .ok (.iadd, 1) := by decide +kernel
theorem d_Su_choose_159 : decode prog_9_method_3_code 159 = .ok (.i2l, 1) := by decide +kernel
theorem d_Su_choose_160 : decode prog_9_method_3_code 160 = .ok (.lload 4, 2) := by decide +kernel
theorem d_Su_choose_162 : decode prog_9_method_3_code 162 = .ok (.ladd, 1) := by decide +kernel
theorem d_Su_choose_163 : decode prog_9_method_3_code 163 = .ok (.putfield 53, 3) := by decide +kernel
theorem d_Su_choose_166 : decode prog_9_method_3_code 166 = .ok (.return_, 1) := by decide +kernel
theorem d_Su_write_0 : decode prog_9_method_4_code 0 = .ok (.aload_n 1, 1) := by decide +kernel
theorem d_Su_write_1 : decode prog_9_method_4_code 1 = .ok (.bipush 7, 2) := by decide +kernel
theorem d_Su_write_3 : decode prog_9_method_4_code 3 = .ok (.aload_n 0, 1) := by decide +kernel
theorem d_Su_write_4 : decode prog_9_method_4_code 4 = .ok (.getfield 33, 3) := by decide +kernel
theorem d_Su_write_7 : decode prog_9_method_4_code 7 = .ok (.i2l, 1) := by decide +kernel
theorem d_Su_write_8 : decode prog_9_method_4_code 8 = .ok (.invokevirtual 57, 3) := by decide +kernel
theorem d_Su_write_11 : decode prog_9_method_4_code 11 = .ok (.aload_n 1, 1) := by decide +kernel
theorem d_Su_write_12 : decode prog_9_method_4_code 12 = .ok (.iconst 1, 1) := by decide +kernel
theorem d_Su_write_13 : decode prog_9_method_4_code 13 = .ok (.aload_n 0, 1) := by decide +kernel
theorem d_Su_write_14 : decode prog_9_method_4_code 14 = .ok (.getfield 27, 3) := by decide +kernel
theorem d_Su_write_17 : decode prog_9_method_4_code 17 = .ok (.ifCond .le 7, 3) := by decide +kernel
theorem d_Su_write_20 : decode prog_9_method_4_code 20 = .ok (.lconst 1, 1) := by decide +kernel
theorem d_Su_write_21 : decode prog_9_method_4_code 21 = .ok (.goto 4, 3) := by decide +kernel
theorem d_Su_write_24 : decode prog_9_method_4_code 24 = .ok (.lconst 0, 1) := by decide +kernel
theorem d_Su_write_25 : decode prog_9_method_4_code 25 = .ok (.invokevirtual 57, 3) := by decide +kernel
theorem d_Su_write_28 : decode prog_9_method_4_code 28 = .ok (.aload_n 1, 1) := by decide +kernel
theorem d_Su_write_29 : decode prog_9_method_4_code 29 = .ok (.aload_n 0, 1) := by decide +kernel
theorem d_Su_write_30 : decode prog_9_method_4_code 30 = .ok (.getfield 27, 3) := by decide +kernel
theorem d_Su_write_33 : decode prog_9_method_4_code 33 = .ok (.lconst 1, 1) := by decide +kernel
theorem d_Su_write_34 : decode prog_9_method_4_code 34 = .ok (.invokevirtual 57, 3) := by decide +kernel
theorem d_Su_write_37 : decode prog_9_method_4_code 37 = .ok (.aload_n 0, 1) := by decide +kernel
theorem d_Su_write_38 : decode prog_9_method_4_code 38 = .ok (.getfield 33, 3) := by decide +kernel
theorem d_Su_write_41 : decode prog_9_method_4_code 41 = .ok (.ifCond .ne 19, 3) := by decide +kernel
theorem d_Su_write_44 : decode prog_9_method_4_code 44 = .ok (.aload_n 1, 1) := by decide +kernel
theorem d_Su_write_45 : decode prog_9_method_4_code 45 = .ok (.aload_n 0, 1) := by decide +kernel
theorem d_Su_write_46 : decode prog_9_method_4_code 46 = .ok (.getfield 30, 3) := by decide +kernel
theorem d_Su_write_49 : decode prog_9_method_4_code 49 = .ok (.aload_n 0, 1) := by decide +kernel
theorem d_Su_write_50 : decode prog_9_method_4_code 50 = .ok (.getfield 9, 3) := by decide +kernel
theorem d_Su_write_53 : decode prog_9_method_4_code 53 = .ok (.iconst 0, 1) := by decide +kernel
theorem d_Su_write_54 : decode prog_9_method_4_code 54 = .ok (.iaload, 1) := by decide +kernel
theorem d_Su_write_55 : decode prog_9_method_4_code 55 = .ok (.i2l, 1) := by decide +kernel
theorem d_Su_write_56 : decode prog_9_method_4_code 56 = .ok (.invokevirtual 57, 3) := by decide +kernel
theorem d_Su_write_59 : decode prog_9_method_4_code 59 = .ok (.return_, 1) := by decide +kernel
theorem d_Su_write_60 : decode prog_9_method_4_code 60 = .ok (.aload_n 0, 1) := by decide +kernel
theorem d_Su_write_61 : decode prog_9_method_4_code 61 = .ok (.getfield 33, 3) := by decide +kernel
theorem d_Su_write_64 : decode prog_9_method_4_code 64 = .ok (.iconst 1, 1) := by decide +kernel
theorem d_Su_write_65 : decode prog_9_method_4_code 65 = .ok (.if_icmp .ne 10, 3) := by decide +kernel
theorem d_Su_write_68 : decode prog_9_method_4_code 68 = .ok (.aload_n 0, 1) := by decide +kernel
theorem d_Su_write_69 : decode prog_9_method_4_code 69 = .ok (.getfield 19, 3) := by decide +kernel
theorem d_Su_write_72 : decode prog_9_method_4_code 72 = .ok (.goto 10, 3) := by decide +kernel
theorem d_Su_write_75 : decode prog_9_method_4_code 75 = .ok (.aload_n 0, 1) := by decide +kernel
theorem d_Su_write_76 : decode prog_9_method_4_code 76 = .ok (.getfield 33, 3) := by decide +kernel
theorem d_Su_write_79 : decode prog_9_method_4_code 79 = .ok (.bipush 8, 2) := by decide +kernel
theorem d_Su_write_81 : decode prog_9_method_4_code 81 = .ok (.isub, 1) := by decide +kernel
theorem d_Su_write_82 : decode prog_9_method_4_code 82 = .ok (.istore_n 2, 1) := by decide +kernel
theorem d_Su_write_83 : decode prog_9_method_4_code 83 = .ok (.iconst 0, 1) := by decide +kernel
theorem d_Su_write_84 : decode prog_9_method_4_code 84 = .ok (.istore_n 3, 1) := by decide +kernel
theorem d_Su_write_85 : decode prog_9_method_4_code 85 = .ok (.iload_n 3, 1) := by decide +kernel
theorem d_Su_write_86 : decode prog_9_method_4_code 86 = .ok (.iload_n 2, 1) := by decide +kernel
theorem d_Su_write_87 : decode prog_9_method_4_code 87 = .ok (.if_icmp .ge 24, 3) := by decide +kernel
theorem d_Su_write_90 : decode prog_9_method_4_code 90 = .ok (.aload_n 1, 1) := by decide +kernel
theorem d_Su_write_91 : decode prog_9_method_4_code 91 = .ok (.aload_n 0, 1) := by decide +kernel
theorem d_Su_write_92 : decode prog_9_method_4_code 92 = .ok (.getfield 30, 3) := by decide +kernel
theorem d_Su_write_95 : decode prog_9_method_4_code 95 = .ok (.aload_n 0, 1) := by decide +kernel
theorem d_Su_write_96 : decode prog_9_method_4_code 96 = .ok (.getfield 9, 3) := by decide +kernel
theorem d_Su_write_99 : decode prog_9_method_4_code 99 = .ok (.iload_n 3, 1) := by decide +kernel
theorem d_Su_write_100 : decode prog_9_method_4_code 100 = .ok (.iaload, 1) := by decide +kernel
theorem d_Su_write_101 : decode prog_9_method_4_code 101 = .ok (.i2l, 1) := by decide +kernel
theorem d_Su_write_102 : decode prog_9_method_4_code 102 = .ok (.invokevirtual 57, 3) := by decide +kernel
theorem d_Su_write_105 : decode prog_9_method_4_code 105 = .ok (.iinc 3 1, 3) := by decide +kernel
theorem d_Su_write_108 : decode prog_9_method_4_code 108 = .ok (.goto (-23), 3) := by decide +kernel
theorem d_Su_write_111 : decode prog_9_method_4_code 111 = .ok (.aload_n 0, 1) := by decide +kernel
theorem d_Su_write_112 : decode prog_9_method_4_code 112 = .ok (.getfield 33, 3) := by decide +kernel
theorem d_Su_write_115 : decode prog_9_method_4_code 115 = .ok (.iconst 1, 1) := by decide +kernel
theorem d_Su_write_116 : decode prog_9_method_4_code 116 = .ok (.if_icmp .eq 50, 3) := by decide +kernel
theorem d_Su_write_119 : decode prog_9_method_4_code 119 = .ok (.aload_n 0, 1) := by decide +kernel
theorem d_Su_write_120 : decode prog_9_method_4_code 120 = .ok (.getfield 15, 3) := by decide +kernel
theorem d_Su_write_123 : decode prog_9_method_4_code 123 = .ok (.aload_n 0, 1) := by decide +kernel
theorem d_Su_write_124 : decode prog_9_method_4_code 124 = .ok (.getfield 9, 3) := by decide +kernel
theorem d_Su_write_127 : decode prog_9_method_4_code 127 = .ok (.aload_n 0, 1) := by decide +kernel
theorem d_Su_write_128 : decode prog_9_method_4_code 128 = .ok (.getfield 19, 3) := by decide +kernel
theorem d_Su_write_131 : decode prog_9_method_4_code 131 = .ok (.invokevirtual 36, 3) := by decide +kernel
theorem d_Su_write_134 : decode prog_9_method_4_code 134 = .ok (.iconst 0, 1) := by decide +kernel
theorem d_Su_write_135 : decode prog_9_method_4_code 135 = .ok (.istore_n 3, 1) := by decide +kernel
theorem d_Su_write_136 : decode prog_9_method_4_code 136 = .ok (.iload_n 3, 1) := by decide +kernel
theorem d_Su_write_137 : decode prog_9_method_4_code 137 = .ok (.iload_n 2, 1) := by decide +kernel
theorem d_Su_write_138 : decode prog_9_method_4_code 138 = .ok (.if_icmp .ge 16, 3) := by decide +kernel
theorem d_Su_write_141 : decode prog_9_method_4_code 141 = .ok (.aload_n 0, 1) := by decide +kernel
theorem d_Su_write_142 : decode prog_9_method_4_code 142 = .ok (.getfield 15, 3) := by decide +kernel
theorem d_Su_write_145 : decode prog_9_method_4_code 145 = .ok (.invokevirtual 42, 3) := by decide +kernel
theorem d_Su_write_148 : decode prog_9_method_4_code 148 = .ok (.iinc 3 1, 3) := by decide +kernel
theorem d_Su_write_151 : decode prog_9_method_4_code 151 = .ok (.goto (-15), 3) := by decide +kernel
theorem d_Su_write_154 : decode prog_9_method_4_code 154 = .ok (.aload_n 0, 1) := by decide +kernel
theorem d_Su_write_155 : decode prog_9_method_4_code 155 = .ok (.getfield 15, 3) := by decide +kernel
theorem d_Su_write_158 : decode prog_9_method_4_code 158 = .ok (.aload_n 1, 1) := by decide +kernel
theorem d_Su_write_159 : decode prog_9_method_4_code 159 = .ok (.aload_n 0, 1) := by decide +kernel
theorem d_Su_write_160 : decode prog_9_method_4_code 160 = .ok (.getfield 52, 3) := by decide +kernel
theorem d_Su_write_163 : decode prog_9_method_4_code 163 = .ok (.invokevirtual 63, 3) := by decide +kernel
theorem d_Su_write_166 : decode prog_9_method_4_code 166 = .ok (.return_, 1) := by decide +kernel
theorem d_Su_dropZeros_0 : decode prog_9_method_5_code 0 = .ok (.iconst 0, 1) := by decide +kernel
theorem d_Su_dropZeros_1 : decode prog_9_method_5_code 1 = .ok (.istore_n 1, 1) := by decide +kernel
theorem d_Su_dropZeros_2 : decode prog_9_method_5_code 2 = .ok (.iconst 1, 1) := by decide +kernel
theorem d_Su_dropZeros_3 : decode prog_9_method_5_code 3 = .ok (.istore_n 2, 1) := by decide +kernel
theorem d_Su_dropZeros_4 : decode prog_9_method_5_code 4 = .ok (.iconst 0, 1) := by decide +kernel
theorem d_Su_dropZeros_5 : decode prog_9_method_5_code 5 = .ok (.istore_n 3, 1) := by decide +kernel
theorem d_Su_dropZeros_6 : decode prog_9_method_5_code 6 = .ok (.iload_n 3, 1) := by decide +kernel
theorem d_Su_dropZeros_7 : decode prog_9_method_5_code 7 = .ok (.aload_n 0, 1) := by decide +kernel
theorem d_Su_dropZeros_8 : decode prog_9_method_5_code 8 = .ok (.getfield 19, 3) := by decide +kernel
theorem d_Su_dropZeros_11 : decode prog_9_method_5_code 11 = .ok (.if_icmp .ge 43, 3) := by decide +kernel
theorem d_Su_dropZeros_14 : decode prog_9_method_5_code 14 = .ok (.iload_n 1, 1) := by decide +kernel
theorem d_Su_dropZeros_15 : decode prog_9_method_5_code 15 = .ok (.aload_n 0, 1) := by decide +kernel
theorem d_Su_dropZeros_16 : decode prog_9_method_5_code 16 = .ok (.getfield 9, 3) := by decide +kernel
theorem d_Su_dropZeros_19 : decode prog_9_method_5_code 19 = .ok (.iload_n 3, 1) := by decide +kernel
theorem d_Su_dropZeros_20 : decode prog_9_method_5_code 20 = .ok (.iaload, 1) := by decide +kernel
theorem d_Su_dropZeros_21 : decode prog_9_method_5_code 21 = .ok (.ior, 1) := by decide +kernel
theorem d_Su_dropZeros_22 : decode prog_9_method_5_code 22 = .ok (.istore_n 1, 1) := by decide +kernel
theorem d_Su_dropZeros_23 : decode prog_9_method_5_code 23 = .ok (.iload_n 2, 1) := by decide +kernel
theorem d_Su_dropZeros_24 : decode prog_9_method_5_code 24 = .ok (.ifCond .eq 22, 3) := by decide +kernel
theorem d_Su_dropZeros_27 : decode prog_9_method_5_code 27 = .ok (.aload_n 0, 1) := by decide +kernel
theorem d_Su_dropZeros_28 : decode prog_9_method_5_code 28 = .ok (.getfield 9, 3) := by decide +kernel
theorem d_Su_dropZeros_31 : decode prog_9_method_5_code 31 = .ok (.iload_n 3, 1) := by decide +kernel
theorem d_Su_dropZeros_32 : decode prog_9_method_5_code 32 = .ok (.iaload, 1) := by decide +kernel
theorem d_Su_dropZeros_33 : decode prog_9_method_5_code 33 = .ok (.aload_n 0, 1) := by decide +kernel
theorem d_Su_dropZeros_34 : decode prog_9_method_5_code 34 = .ok (.getfield 9, 3) := by decide +kernel
theorem d_Su_dropZeros_37 : decode prog_9_method_5_code 37 = .ok (.iconst 0, 1) := by decide +kernel
theorem d_Su_dropZeros_38 : decode prog_9_method_5_code 38 = .ok (.iaload, 1) := by decide +kernel
theorem d_Su_dropZeros_39 : decode prog_9_method_5_code 39 = .ok (.if_icmp .ne 7, 3) := by decide +kernel
theorem d_Su_dropZeros_42 : decode prog_9_method_5_code 42 = .ok (.iconst 1, 1) := by decide +kernel
theorem d_Su_dropZeros_43 : decode prog_9_method_5_code 43 = .ok (.goto 4, 3) := by decide +kernel
theorem d_Su_dropZeros_46 : decode prog_9_method_5_code 46 = .ok (.iconst 0, 1) := by decide +kernel
theorem d_Su_dropZeros_47 : decode prog_9_method_5_code 47 = .ok (.istore_n 2, 1) := by decide +kernel
theorem d_Su_dropZeros_48 : decode prog_9_method_5_code 48 = .ok (.iinc 3 1, 3) := by decide +kernel
theorem d_Su_dropZeros_51 : decode prog_9_method_5_code 51 = .ok (.goto (-45), 3) := by decide +kernel
theorem d_Su_dropZeros_54 : decode prog_9_method_5_code 54 = .ok (.aload_n 0, 1) := by decide +kernel
theorem d_Su_dropZeros_55 : decode prog_9_method_5_code 55 = .ok (.iload_n 1, 1) := by decide +kernel
theorem d_Su_dropZeros_56 : decode prog_9_method_5_code 56 = .ok (.ifCond .ne 7, 3) := by decide +kernel
theorem d_Su_dropZeros_59 : decode prog_9_method_5_code 59 = .ok (.iconst 0, 1) := by decide +kernel
theorem d_Su_dropZeros_60 : decode prog_9_method_5_code 60 = .ok (.goto 7, 3) := by decide +kernel
theorem d_Su_dropZeros_63 : decode prog_9_method_5_code 63 = .ok (.iload_n 1, 1) := by decide +kernel
theorem d_Su_dropZeros_64 : decode prog_9_method_5_code 64 = .ok (.invokestatic 67, 3) := by decide +kernel
theorem d_Su_dropZeros_67 : decode prog_9_method_5_code 67 = .ok (.putfield 27, 3) := by decide +kernel
theorem d_Su_dropZeros_70 : decode prog_9_method_5_code 70 = .ok (.iconst 0, 1) := by decide +kernel
theorem d_Su_dropZeros_71 : decode prog_9_method_5_code 71 = .ok (.istore_n 3, 1) := by decide +kernel
theorem d_Su_dropZeros_72 : decode prog_9_method_5_code 72 = .ok (.iload_n 3, 1) := by decide +kernel
theorem d_Su_dropZeros_73 : decode prog_9_method_5_code 73 = .ok (.aload_n 0, 1) := by decide +kernel
theorem d_Su_dropZeros_74 : decode prog_9_method_5_code 74 = .ok (.getfield 19, 3) := by decide +kernel
theorem d_Su_dropZeros_77 : decode prog_9_method_5_code 77 = .ok (.if_icmp .ge 22, 3) := by decide +kernel
theorem d_Su_dropZeros_80 : decode prog_9_method_5_code 80 = .ok (.aload_n 0, 1) := by decide +kernel
theorem d_Su_dropZeros_81 : decode prog_9_method_5_code 81 = .ok (.getfield 9, 3) := by decide +kernel
theorem d_Su_dropZeros_84 : decode prog_9_method_5_code 84 = .ok (.iload_n 3, 1) := by decide +kernel
theorem d_Su_dropZeros_85 : decode prog_9_method_5_code 85 = .ok (.dup2, 1) := by decide +kernel
theorem d_Su_dropZeros_86 : decode prog_9_method_5_code 86 = .ok (.iaload, 1) := by decide +kernel
theorem d_Su_dropZeros_87 : decode prog_9_method_5_code 87 = .ok (.aload_n 0, 1) := by decide +kernel
theorem d_Su_dropZeros_88 : decode prog_9_method_5_code 88 = .ok (.getfield 27, 3) := by decide +kernel
theorem d_Su_dropZeros_91 : decode prog_9_method_5_code 91 = .ok (.ishr, 1) := by decide +kernel
theorem d_Su_dropZeros_92 : decode prog_9_method_5_code 92 = .ok (.iastore, 1) := by decide +kernel
theorem d_Su_dropZeros_93 : decode prog_9_method_5_code 93 = .ok (.iinc 3 1, 3) := by decide +kernel
theorem d_Su_dropZeros_96 : decode prog_9_method_5_code 96 = .ok (.goto (-24), 3) := by decide +kernel
theorem d_Su_dropZeros_99 : decode prog_9_method_5_code 99 = .ok (.iload_n 2, 1) := by decide +kernel
theorem d_Su_dropZeros_100 : decode prog_9_method_5_code 100 = .ok (.ireturn, 1) := by decide +kernel
