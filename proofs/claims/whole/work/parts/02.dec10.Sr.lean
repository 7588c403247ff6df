/-! decode rows of SoundStream$SubframeReader, by program -/
theorem d_Sr_init_0 : decode prog_10_method_1_code 0 = .ok (.aload_n 0, 1) := by decide +kernel
theorem d_Sr_init_1 : decode prog_10_method_1_code 1 = .ok (.invokespecial 3, 3) := by decide +kernel
theorem d_Sr_init_4 : decode prog_10_method_1_code 4 = .ok (.aload_n 0, 1) := by decide +kernel
theorem d_Sr_init_5 : decode prog_10_method_1_code 5 = .ok (.bipush 32, 2) := by decide +kernel
theorem d_Sr_init_7 : decode prog_10_method_1_code 7 = .ok (.newarray .int, 2) := by decide +kernel
theorem d_Sr_init_9 : decode prog_10_method_1_code 9 = .ok (.putfield 9, 3) := by decide +kernel
theorem d_Sr_init_12 : decode prog_10_method_1_code 12 = .ok (.aload_n 0, 1) := by decide +kernel
theorem d_Sr_init_13 : decode prog_10_method_1_code 13 = .ok (.aload_n 1, 1) := by decide +kernel
theorem d_Sr_init_14 : decode prog_10_method_1_code 14 = .ok (.putfield 15, 3) := by decide +kernel
theorem d_Sr_init_17 : decode prog_10_method_1_code 17 = .ok (.return_, 1) := by decide +kernel
theorem d_Sr_read_0 : decode prog_10_method_2_code 0 = .ok (.aload_n 0, 1) := by decide +kernel
theorem d_Sr_read_1 : decode prog_10_method_2_code 1 = .ok (.getfield 15, 3) := by decide +kernel
theorem d_Sr_read_4 : decode prog_10_method_2_code 4 = .ok (.bipush 8, 2) := by decide +kernel
theorem d_Sr_read_6 : decode prog_10_method_2_code 6 = .ok (.invokevirtual 19, 3) := by decide +kernel
theorem d_Sr_read_9 : decode prog_10_method_2_code 9 = .ok (.istore 5, 2) := by decide +kernel
theorem d_Sr_read_11 : decode prog_10_method_2_code 11 = .ok (.iload 5, 2) := by decide +kernel
theorem d_Sr_read_13 : decode prog_10_method_2_code 13 = .ok (.iconst 1, 1) := by decide +kernel
theorem d_Sr_read_14 : decode prog_10_method_2_code 14 = .ok (.ishr, 1) := by decide +kernel
theorem d_Sr_read_15 : decode prog_10_method_2_code 15 = .ok (.bipush 63, 2) := by decide +kernel
theorem d_Sr_read_17 : decode prog_10_method_2_code 17 = .ok (.iand, 1) := by decide +kernel
theorem d_Sr_read_18 : decode prog_10_method_2_code 18 = .ok (.istore 6, 2) := by decide +kernel
theorem d_Sr_read_20 : decode prog_10_method_2_code 20 = .ok (.aload_n 0, 1) := by decide +kernel
theorem d_Sr_read_21 : decode prog_10_method_2_code 21 = .ok (.getfield 15, 3) := by decide +kernel
theorem d_Sr_read_24 : decode prog_10_method_2_code 24 = .ok (.iload 5, 2) := by decide +kernel
theorem d_Sr_read_26 : decode prog_10_method_2_code 26 = .ok (.sipush 128, 3) := by decide +kernel
theorem d_Sr_read_29 : decode prog_10_method_2_code 29 = .ok (.if_icmp .ge 15, 3) := by decide +kernel
theorem d_Sr_read_32 : decode prog_10_method_2_code 32 = .ok (.iload 6, 2) := by decide +kernel
theorem d_Sr_read_34 : decode prog_10_method_2_code 34 = .ok (.invokestatic 25, 3) := by decide +kernel
theorem d_Sr_read_37 : decode prog_10_method_2_code 37 = .ok (.ifCond .eq 7, 3) := by decide +kernel
theorem d_Sr_read_40 : decode prog_10_method_2_code 40 = .ok (.iconst 1, 1) := by decide +kernel
theorem d_Sr_read_41 : decode prog_10_method_2_code 41 = .ok (.goto 4, 3) := by decide +kernel
theorem d_Sr_read_44 : decode prog_10_method_2_code 44 = .ok (.iconst 0, 1) := by decide +kernel
theorem d_Sr_read_45 : decode prog_10_method_2_code 45 = .ok (.bipush 9, 2) := by decide +kernel
theorem d_Sr_read_47 : decode prog_10_method_2_code 47 = .ok (.invokevirtual 29, 3) := by decide +kernel
theorem d_Sr_read_50 : decode prog_10_method_2_code 50 = .ok (.iconst 0, 1) := by decide +kernel
theorem d_Sr_read_51 : decode prog_10_method_2_code 51 = .ok (.istore 7, 2) := by decide +kernel
theorem d_Sr_read_53 : decode prog_10_method_2_code 53 = .ok (.iload 5, 2) := by decide +kernel
theorem d_Sr_read_55 : decode prog_10_method_2_code 55 = .ok (.iconst 1, 1) := by decide +kernel
theorem d_Sr_read_56 : decode prog_10_method_2_code 56 = .ok (.iand, 1) := by decide +kernel
theorem d_Sr_read_57 : decode prog_10_method_2_code 57 = .ok (.iconst 1, 1) := by decide +kernel
theorem d_Sr_read_58 : decode prog_10_method_2_code 58 = .ok (.if_icmp .ne 22, 3) := by decide +kernel
theorem d_Sr_read_61 : decode prog_10_method_2_code 61 = .ok (.iconst 1, 1) := by decide +kernel
theorem d_Sr_read_62 : decode prog_10_method_2_code 62 = .ok (.aload_n 0, 1) := by decide +kernel
theorem d_Sr_read_63 : decode prog_10_method_2_code 63 = .ok (.getfield 15, 3) := by decide +kernel
theorem d_Sr_read_66 : decode prog_10_method_2_code 66 = .ok (.iload 4, 2) := by decide +kernel
theorem d_Sr_read_68 : decode prog_10_method_2_code 68 = .ok (.iconst 1, 1) := by decide +kernel
theorem d_Sr_read_69 : decode prog_10_method_2_code 69 = .ok (.isub, 1) := by decide +kernel
theorem d_Sr_read_70 : decode prog_10_method_2_code 70 = .ok (.i2l, 1) := by decide +kernel
theorem d_Sr_read_71 : decode prog_10_method_2_code 71 = .ok (.bipush 9, 2) := by decide +kernel
theorem d_Sr_read_73 : decode prog_10_method_2_code 73 = .ok (.invokevirtual 33, 3) := by decide +kernel
theorem d_Sr_read_76 : decode prog_10_method_2_code 76 = .ok (.l2i, 1) := by decide +kernel
theorem d_Sr_read_77 : decode prog_10_method_2_code 77 = .ok (.iadd, 1) := by decide +kernel
theorem d_Sr_read_78 : decode prog_10_method_2_code 78 = .ok (.istore 7, 2) := by decide +kernel
theorem d_Sr_read_80 : decode prog_10_method_2_code 80 = .ok (.aload_n 0, 1) := by decide +kernel
theorem d_Sr_read_81 : decode prog_10_method_2_code 81 = .ok (.iload 4, 2) := by decide +kernel
theorem d_Sr_read_83 : decode prog_10_method_2_code 83 = .ok (.iload 7, 2) := by decide +kernel
theorem d_Sr_read_85 : decode prog_10_method_2_code 85 = .ok (.isub, 1) := by decide +kernel
theorem d_Sr_read_86 : decode prog_10_method_2_code 86 = .ok (.putfield 37, 3) := by decide +kernel
theorem d_Sr_read_89 : decode prog_10_method_2_code 89 = .ok (.aload_n 0, 1) := by decide +kernel
theorem d_Sr_read_90 : decode prog_10_method_2_code 90 = .ok (.iload 6, 2) := by decide +kernel
theorem d_Sr_read_92 : decode prog_10_method_2_code 92 = .ok (.invokestatic 41, 3) := by decide +kernel
theorem d_Sr_read_95 : decode prog_10_method_2_code 95 = .ok (.putfield 44, 3) := by decide +kernel
theorem d_Sr_read_98 : decode prog_10_method_2_code 98 = .ok (.aload_n 0, 1) := by decide +kernel
theorem d_Sr_read_99 : decode prog_10_method_2_code 99 = .ok (.getfield 15, 3) := by decide +kernel
theorem d_Sr_read_102 : decode prog_10_method_2_code 102 = .ok (.aload_n 0, 1) := by decide +kernel
theorem d_Sr_read_103 : decode prog_10_method_2_code 103 = .ok (.getfield 44, 3) := by decide +kernel
theorem d_Sr_read_106 : decode prog_10_method_2_code 106 = .ok (.iload_n 3, 1) := by decide +kernel
theorem d_Sr_read_107 : decode prog_10_method_2_code 107 = .ok (.if_icmp .gt 7, 3) := by decide +kernel
theorem d_Sr_read_110 : decode prog_10_method_2_code 110 = .ok (.iconst 1, 1) := by decide +kernel
theorem d_Sr_read_111 : decode prog_10_method_2_code 111 = .ok (.goto 4, 3) := by decide +kernel
theorem d_Sr_read_114 : decode prog_10_method_2_code 114 = .ok (.iconst 0, 1) := by decide +kernel
theorem d_Sr_read_115 : decode prog_10_method_2_code 115 = .ok (.bipush 9, 2) := by decide +kernel
theorem d_Sr_read_117 : decode prog_10_method_2_code 117 = .ok (.invokevirtual 29, 3) := by decide +kernel
theorem d_Sr_read_120 : decode prog_10_method_2_code 120 = .ok (.iload 6, 2) := by decide +kernel
theorem d_Sr_read_122 : decode prog_10_method_2_code 122 = .ok (.ifCond .ne 25, 3) := by decide +kernel
theorem d_Sr_read_125 : decode prog_10_method_2_code 125 = .ok (.aload_n 1, 1) := by decide +kernel
theorem d_Sr_read_126 : decode prog_10_method_2_code 126 = .ok (.iload_n 2, 1) := by decide +kernel
theorem d_Sr_read_127 : decode prog_10_method_2_code 127 = .ok (.iload_n 2, 1) := by decide +kernel
theorem d_Sr_read_128 : decode prog_10_method_2_code 128 = .ok (.iload_n 3, 1) := by decide +kernel
theorem d_Sr_read_129 : decode prog_10_method_2_code 129 = .ok (.iadd, 1) := by decide +kernel
theorem d_Sr_read_130 : decode prog_10_method_2_code 130 = .ok (.aload_n 0, 1) := by decide +kernel
theorem d_Sr_read_131 : decode prog_10_method_2_code 131 = .ok (.getfield 15, 3) := by decide +kernel
theorem d_Sr_read_134 : decode prog_10_method_2_code 134 = .ok (.aload_n 0, 1) := by decide +kernel
theorem d_Sr_read_135 : decode prog_10_method_2_code 135 = .ok (.getfield 37, 3) := by decide +kernel
theorem d_Sr_read_138 : decode prog_10_method_2_code 138 = .ok (.invokevirtual 47, 3) := by decide +kernel
theorem d_Sr_read_141 : decode prog_10_method_2_code 141 = .ok (.invokestatic 50, 3) := by decide +kernel
theorem d_Sr_read_144 : decode prog_10_method_2_code 144 = .ok (.goto 23, 3) := by decide +kernel
theorem d_Sr_read_147 : decode prog_10_method_2_code 147 = .ok (.aload_n 0, 1) := by decide +kernel
theorem d_Sr_read_148 : decode prog_10_method_2_code 148 = .ok (.aload_n 1, 1) := by decide +kernel
theorem d_Sr_read_149 : decode prog_10_method_2_code 149 = .ok (.iload_n 2, 1) := by decide +kernel
theorem d_Sr_read_150 : decode prog_10_method_2_code 150 = .ok (.iload 6, 2) := by decide +kernel
theorem d_Sr_read_152 : decode prog_10_method_2_code 152 = .ok (.iconst 1, 1) := by decide +kernel
theorem d_Sr_read_153 : decode prog_10_method_2_code 153 = .ok (.if_icmp .ne 7, 3) := by decide +kernel
theorem d_Sr_read_156 : decode prog_10_method_2_code 156 = .ok (.iload_n 3, 1) := by decide +kernel
theorem d_Sr_read_157 : decode prog_10_method_2_code 157 = .ok (.goto 7, 3) := by decide +kernel
theorem d_Sr_read_160 : decode prog_10_method_2_code 160 = .ok (.aload_n 0, 1) := by decide +kernel
theorem d_Sr_read_161 : decode prog_10_method_2_code 161 = .ok (.getfield 44, 3) := by decide +kernel
theorem d_Sr_read_164 : decode prog_10_method_2_code 164 = .ok (.invokevirtual 56, 3) := by decide +kernel
theorem d_Sr_read_167 : decode prog_10_method_2_code 167 = .ok (.iload 6, 2) := by decide +kernel
theorem d_Sr_read_169 : decode prog_10_method_2_code 169 = .ok (.bipush 32, 2) := by decide +kernel
theorem d_Sr_read_171 : decode prog_10_method_2_code 171 = .ok (.if_icmp .lt 10, 3) := by decide +kernel
theorem d_Sr_read_174 : decode prog_10_method_2_code 174 = .ok (.aload_n 0, 1) := by decide +kernel
theorem d_Sr_read_175 : decode prog_10_method_2_code 175 = .ok (.invokevirtual 60, 3) := by decide +kernel
theorem d_Sr_read_178 : decode prog_10_method_2_code 178 = .ok (.goto 14, 3) := by decide +kernel
theorem d_Sr_read_181 : decode prog_10_method_2_code 181 = .ok (.iload 6, 2) := by decide +kernel
theorem d_Sr_read_183 : decode prog_10_method_2_code 183 = .ok (.bipush 8, 2) := by decide +kernel
theorem d_Sr_read_185 : decode prog_10_method_2_code 185 = .ok (.if_icmp .lt 7, 3) := by decide +kernel
theorem d_Sr_read_188 : decode prog_10_method_2_code 188 = .ok (.aload_n 0, 1) := by decide +kernel
theorem d_Sr_read_189 : decode prog_10_method_2_code 189 = .ok (.invokevirtual 63, 3) := by decide +kernel
theorem d_Sr_read_192 : decode prog_10_method_2_code 192 = .ok (.iload 6, 2) := by decide +kernel
theorem d_Sr_read_194 : decode prog_10_method_2_code 194 = .ok (.bipush 8, 2) := by decide +kernel
theorem d_Sr_read_196 : decode prog_10_method_2_code 196 = .ok (.if_icmp .lt 10, 3) := by decide +kernel
theorem d_Sr_read_199 : decode prog_10_method_2_code 199 = .ok (.aload_n 0, 1) := by decide +kernel
theorem d_Sr_read_200 : decode prog_10_method_2_code 200 = .ok (.aload_n 1, 1) := by decide +kernel
theorem d_Sr_read_201 : decode prog_10_method_2_code 201 = .ok (.iload_n 2, 1) := by decide +kernel
theorem d_Sr_read_202 : decode prog_10_method_2_code 202 = .ok (.iload_n 3, 1) := by decide +kernel
theorem d_Sr_read_203 : decode prog_10_method_2_code 203 = .ok (.invokevirtual 66, 3) := by decide +kernel
theorem d_Sr_read_206 : decode prog_10_method_2_code 206 = .ok (.iload_n 2, 1) := by decide +kernel
theorem d_Sr_read_207 : decode prog_10_method_2_code 207 = .ok (.istore 8, 2) := by decide +kernel
theorem d_Sr_read_209 : decode prog_10_method_2_code 209 = .ok (.iload 8, 2) := by decide +kernel
theorem d_Sr_read_211 : decode prog_10_method_2_code 211 = .ok (.iload_n 2, 1) := by decide +kernel
theorem d_Sr_read_212 : decode prog_10_method_2_code 212 = .ok (.iload_n 3, 1) := by decide +kernel
theorem d_Sr_read_213 : decode prog_10_method_2_code 213 = .ok (.iadd, 1) := by decide +kernel
theorem d_Sr_read_214 : decode prog_10_method_2_code 214 = .ok (.if_icmp .ge 18, 3) := by decide +kernel
theorem d_Sr_read_217 : decode prog_10_method_2_code 217 = .ok (.aload_n 1, 1) := by decide +kernel
theorem d_Sr_read_218 : decode prog_10_method_2_code 218 = .ok (.iload 8, 2) := by decide +kernel
theorem d_Sr_read_220 : decode prog_10_method_2_code 220 = .ok (.dup2, 1) := by decide +kernel
theorem d_Sr_read_221 : decode prog_10_method_2_code 221 = .ok (.iaload, 1) := by decide +kernel
theorem d_Sr_read_222 : decode prog_10_method_2_code 222 = .ok (.iload 7, 2) := by decide +kernel
theorem d_Sr_read_224 : decode prog_10_method_2_code 224 = .ok (.ishl, 1) := by decide +kernel
theorem d_Sr_read_225 : decode prog_10_method_2_code 225 = .ok (.iastore, 1) := by decide +kernel
theorem d_Sr_read_226 : decode prog_10_method_2_code 226 = .ok (.iinc 8 1, 3) := by decide +kernel
theorem d_Sr_read_229 : decode prog_10_method_2_code 229 = .ok (.goto (-20), 3) := by decide +kernel
theorem d_Sr_read_232 : decode prog_10_method_2_code 232 = .ok (.return_, 1) := by decide +kernel
theorem d_Sr_isType_0 : decode prog_10_method_3_code 0 = .ok (.iload_n 0, 1) := by decide +kernel
theorem d_Sr_isType_1 : decode prog_10_method_3_code 1 = .ok (.ifCond .eq 26, 3) := by decide +kernel
theorem d_Sr_isType_4 : decode prog_10_method_3_code 4 = .ok (.iload_n 0, 1) := by decide +kernel
theorem d_Sr_isType_5 : decode prog_10_method_3_code 5 = .ok (.iconst 1, 1) := by decide +kernel
theorem d_Sr_isType_6 : decode prog_10_method_3_code 6 = .ok (.if_icmp .eq 21, 3) := by decide +kernel
theorem d_Sr_isType_9 : decode prog_10_method_3_code 9 = .ok (.iload_n 0, 1) := by decide +kernel
theorem d_Sr_isType_10 : decode prog_10_method_3_code 10 = .ok (.bipush 32, 2) := by decide +kernel
theorem d_Sr_isType_12 : decode prog_10_method_3_code 12 = .ok (.if_icmp .ge 15, 3) := by decide +kernel
theorem d_Sr_isType_15 : decode prog_10_method_3_code 15 = .ok (.iload_n 0, 1) := by decide +kernel
theorem d_Sr_isType_16 : decode prog_10_method_3_code 16 = .ok (.bipush 8, 2) := by decide +kernel
theorem d_Sr_isType_18 : decode prog_10_method_3_code 18 = .ok (.if_icmp .lt 13, 3) := by decide +kernel
theorem d_Sr_isType_21 : decode prog_10_method_3_code 21 = .ok (.iload_n 0, 1) := by decide +kernel
theorem d_Sr_isType_22 : decode prog_10_method_3_code 22 = .ok (.bipush 12, 2) := by decide +kernel
theorem d_Sr_isType_24 : decode prog_10_method_3_code 24 = .ok (.if_icmp .gt 7, 3) := by decide +kernel
theorem d_Sr_isType_27 : decode prog_10_method_3_code 27 = .ok (.iconst 1, 1) := by decide +kernel
theorem d_Sr_isType_28 : decode prog_10_method_3_code 28 = .ok (.goto 4, 3) := by decide +kernel
theorem d_Sr_isType_31 : decode prog_10_method_3_code 31 = .ok (.iconst 0, 1) := by decide +kernel
theorem d_Sr_isType_32 : decode prog_10_method_3_code 32 = .ok (.ireturn, 1) := by decide +kernel
theorem d_Sr_orderOf_0 : decode prog_10_method_4_code 0 = .ok (.iload_n 0, 1) := by decide +kernel
theorem d_Sr_orderOf_1 : decode prog_10_method_4_code 1 = .ok (.bipush 32, 2) := by decide +kernel
theorem d_Sr_orderOf_3 : decode prog_10_method_4_code 3 = .ok (.if_icmp .lt 10, 3) := by decide +kernel
theorem d_Sr_orderOf_6 : decode prog_10_method_4_code 6 = .ok (.iload_n 0, 1) := by decide +kernel
theorem d_Sr_orderOf_7 : decode prog_10_method_4_code 7 = .ok (.bipush 32, 2) := by decide +kernel
theorem d_Sr_orderOf_9 : decode prog_10_method_4_code 9 = .ok (.isub, 1) := by decide +kernel
theorem d_Sr_orderOf_10 : decode prog_10_method_4_code 10 = .ok (.iconst 1, 1) := by decide +kernel
theorem d_Sr_orderOf_11 : decode prog_10_method_4_code 11 = .ok (.iadd, 1) := by decide +kernel
theorem d_Sr_orderOf_12 : decode prog_10_method_4_code 12 = .ok (.ireturn, 1) := by decide +kernel
theorem d_Sr_orderOf_13 : decode prog_10_method_4_code 13 = .ok (.iload_n 0, 1) := by decide +kernel
theorem d_Sr_orderOf_14 : decode prog_10_method_4_code 14 = .ok (.bipush 8, 2) := by decide +kernel
theorem d_Sr_orderOf_16 : decode prog_10_method_4_code 16 = .ok (.if_icmp .lt 10, 3) := by decide +kernel
theorem d_Sr_orderOf_19 : decode prog_10_method_4_code 19 = .ok (.iload_n 0, 1) := by decide +kernel
theorem d_Sr_orderOf_20 : decode prog_10_method_4_code 20 = .ok (.bipush 8, 2) := by decide +kernel
theorem d_Sr_orderOf_22 : decode prog_10_method_4_code 22 = .ok (.isub, 1) := by decide +kernel
theorem d_Sr_orderOf_23 : decode prog_10_method_4_code 23 = .ok (.goto 4, 3) := by decide +kernel
theorem d_Sr_orderOf_26 : decode prog_10_method_4_code 26 = .ok (.iconst 0, 1) := by decide +kernel
theorem d_Sr_orderOf_27 : decode prog_10_method_4_code 27 = .ok (.ireturn, 1) := by decide +kernel
theorem d_Sr_readPlain_0 : decode prog_10_method_5_code 0 = .ok (.iload_n 2, 1) := by decide +kernel
theorem d_Sr_readPlain_1 : decode prog_10_method_5_code 1 = .ok (.istore 4, 2) := by decide +kernel
theorem d_Sr_readPlain_3 : decode prog_10_method_5_code 3 = .ok (.iload 4, 2) := by decide +kernel
theorem d_Sr_readPlain_5 : decode prog_10_method_5_code 5 = .ok (.iload_n 2, 1) := by decide +kernel
theorem d_Sr_readPlain_6 : decode prog_10_method_5_code 6 = .ok (.iload_n 3, 1) := by decide +kernel
theorem d_Sr_readPlain_7 : decode prog_10_method_5_code 7 = .ok (.iadd, 1) := by decide +kernel
theorem d_Sr_readPlain_8 : decode prog_10_method_5_code 8 = .ok (.if_icmp .ge 24, 3) := by decide +kernel
theorem d_Sr_readPlain_11 : decode prog_10_method_5_code 11 = .ok (.aload_n 1, 1) := by decide +kernel
theorem d_Sr_readPlain_12 : decode prog_10_method_5_code 12 = .ok (.iload 4, 2) := by decide +kernel
theorem d_Sr_readPlain_14 : decode prog_10_method_5_code 14 = .ok (.aload_n 0, 1) := by decide +kernel
theorem d_Sr_readPlain_15 : decode prog_10_method_5_code 15 = .ok (.getfield 15, 3) := by decide +kernel
theorem d_Sr_readPlain_18 : decode prog_10_method_5_code 18 = .ok (.aload_n 0, 1) := by decide +kernel
theorem d_Sr_readPlain_19 : decode prog_10_method_5_code 19 = .ok (.getfield 37, 3) := by decide +kernel
theorem d_Sr_readPlain_22 : decode prog_10_method_5_code 22 = .ok (.invokevirtual 47, 3) := by decide +kernel
theorem d_Sr_readPlain_25 : decode prog_10_method_5_code 25 = .ok (.iastore, 1) := by decide +kernel
theorem d_Sr_readPlain_26 : decode prog_10_method_5_code 26 = .ok (.iinc 4 1, 3) := by decide +kernel
theorem d_Sr_readPlain_29 : decode prog_10_method_5_code 29 = .ok (.goto (-26), 3) := by decide +kernel
theorem d_Sr_readPlain_32 : decode prog_10_method_5_code 32 = .ok (.return_, 1) := by decide +kernel
theorem d_Sr_readFactors_0 : decode prog_10_method_6_code 0 = .ok (.aload_n 0, 1) := by decide +kernel
theorem d_Sr_readFactors_1 : decode prog_10_method_6_code 1 = .ok (.getfield 15, 3) := by decide +kernel
theorem d_Sr_readFactors_4 : decode prog_10_method_6_code 4 = .ok (.iconst 4, 1) := by decide +kernel
theorem d_Sr_readFactors_5 : decode prog_10_method_6_code 5 = .ok (.invokevirtual 19, 3) := by decide +kernel
theorem d_Sr_readFactors_8 : decode prog_10_method_6_code 8 = .ok (.iconst 1, 1) := by decide +kernel
theorem d_Sr_readFactors_9 : decode prog_10_method_6_code 9 = .ok (.iadd, 1) := by decide +kernel
theorem d_Sr_readFactors_10 : decode prog_10_method_6_code 10 = .ok (.istore_n 1, 1) := by decide +kernel
theorem d_Sr_readFactors_11 : decode prog_10_method_6_code 11 = .ok (.aload_n 0, 1) := by decide +kernel
theorem d_Sr_readFactors_12 : decode prog_10_method_6_code 12 = .ok (.getfield 15, 3) := by decide +kernel
theorem d_Sr_readFactors_15 : decode prog_10_method_6_code 15 = .ok (.iload_n 1, 1) := by decide +kernel
theorem d_Sr_readFactors_16 : decode prog_10_method_6_code 16 = .ok (.bipush 16, 2) := by decide +kernel
theorem d_Sr_readFactors_18 : decode prog_10_method_6_code 18 = .ok (.if_icmp .ge 7, 3) := by decide +kernel
theorem d_Sr_readFactors_21 : decode prog_10_method_6_code 21 = .ok (.iconst 1, 1) := by decide +kernel
theorem d_Sr_readFactors_22 : decode prog_10_method_6_code 22 = .ok (.goto 4, 3) := by decide +kernel
theorem d_Sr_readFactors_25 : decode prog_10_method_6_code 25 = .ok (.iconst 0, 1) := by decide +kernel
theorem d_Sr_readFactors_26 : decode prog_10_method_6_code 26 = .ok (.bipush 10, 2) := by decide +kernel
theorem d_Sr_readFactors_28 : decode prog_10_method_6_code 28 = .ok (.invokevirtual 29, 3) := by decide +kernel
theorem d_Sr_readFactors_31 : decode prog_10_method_6_code 31 = .ok (.aload_n 0, 1) := by decide +kernel
theorem d_Sr_readFactors_32 : decode prog_10_method_6_code 32 = .ok (.aload_n 0, 1) := by decide +kernel
theorem d_Sr_readFactors_33 : decode prog_10_method_6_code 33 = .ok (.getfield 15, 3) := by decide +kernel
theorem d_Sr_readFactors_36 : decode prog_10_method_6_code 36 = .ok (.iconst 5, 1) := by decide +kernel
theorem d_Sr_readFactors_37 : decode prog_10_method_6_code 37 = .ok (.invokevirtual 47, 3) := by decide +kernel
theorem d_Sr_readFactors_40 : decode prog_10_method_6_code 40 = .ok (.putfield 69, 3) := by decide +kernel
theorem d_Sr_readFactors_43 : decode prog_10_method_6_code 43 = .ok (.aload_n 0, 1) := by decide +kernel
theorem d_Sr_readFactors_44 : decode prog_10_method_6_code 44 = .ok (.getfield 15, 3) := by decide +kernel
theorem d_Sr_readFactors_47 : decode prog_10_method_6_code 47 = .ok (.aload_n 0, 1) := by decide +kernel
theorem d_Sr_readFactors_48 : decode prog_10_method_6_code 48 = .ok (.getfield 69, 3) := by decide +kernel
theorem d_Sr_readFactors_51 : decode prog_10_method_6_code 51 = .ok (.ifCond .lt 7, 3) := by decide +kernel
theorem d_Sr_readFactors_54 : decode prog_10_method_6_code 54 = .ok (.iconst 1, 1) := by decide +kernel
theorem d_Sr_readFactors_55 : decode prog_10_method_6_code 55 = .ok (.goto 4, 3) := by decide +kernel
theorem d_Sr_readFactors_58 : decode prog_10_method_6_code 58 = .ok (.iconst 0, 1) := by decide +kernel
theorem d_Sr_readFactors_59 : decode prog_10_method_6_code 59 = .ok (.bipush 10, 2) := by decide +kernel
theorem d_Sr_readFactors_61 : decode prog_10_method_6_code 61 = .ok (.invokevirtual 29, 3) := by decide +kernel
theorem d_Sr_readFactors_64 : decode prog_10_method_6_code 64 = .ok (.iconst 0, 1) := by decide +kernel
theorem d_Sr_readFactors_65 : decode prog_10_method_6_code 65 = .ok (.istore_n 2, 1) := by decide +kernel
theorem d_Sr_readFactors_66 : decode prog_10_method_6_code 66 = .ok (.iload_n 2, 1) := by decide +kernel
theorem d_Sr_readFactors_67 : decode prog_10_method_6_code 67 = .ok (.aload_n 0, 1) := by decide +kernel
theorem d_Sr_readFactors_68 : decode prog_10_method_6_code 68 = .ok (.getfield 44, 3) := by decide +kernel
theorem d_Sr_readFactors_71 : decode prog_10_method_6_code 71 = .ok (.if_icmp .ge 23, 3) := by decide +kernel
theorem d_Sr_readFactors_74 : decode prog_10_method_6_code 74 = .ok (.aload_n 0, 1) := by decide +kernel
theorem d_Sr_readFactors_75 : decode prog_10_method_6_code 75 = .ok (.getfield 9, 3) := by decide +kernel
theorem d_Sr_readFactors_78 : decode prog_10_method_6_code 78 = .ok (.iload_n 2, 1) := by decide +kernel
theorem d_Sr_readFactors_79 : decode prog_10_method_6_code 79 = .ok (.aload_n 0, 1) := by decide +kernel
theorem d_Sr_readFactors_80 : decode prog_10_method_6_code 80 = .ok (.getfield 15, 3) := by decide +kernel
theorem d_Sr_readFactors_83 : decode prog_10_method_6_code 83 = .ok (.iload_n 1, 1) := by decide +kernel
theorem d_Sr_readFactors_84 : decode prog_10_method_6_code 84 = .ok (.invokevirtual 47, 3) := by decide +kernel
theorem d_Sr_readFactors_87 : decode prog_10_method_6_code 87 = .ok (.iastore, 1) := by decide +kernel
theorem d_Sr_readFactors_88 : decode prog_10_method_6_code 88 = .ok (.iinc 2 1, 3) := by decide +kernel
theorem d_Sr_readFactors_91 : decode prog_10_method_6_code 91 = .ok (.goto (-25), 3) := by decide +kernel
theorem d_Sr_readFactors_94 : decode prog_10_method_6_code 94 = .ok (.return_, 1) := by decide +kernel
theorem d_Sr_useFixedFactors_0 : decode prog_10_method_7_code 0 = .ok (.aload_n 0, 1) := by decide +kernel
theorem d_Sr_useFixedFactors_1 : decode prog_10_method_7_code 1 = .ok (.iconst 0, 1) := by decide +kernel
theorem d_Sr_useFixedFactors_2 : decode prog_10_method_7_code 2 = .ok (.putfield 69, 3) := by decide +kernel
theorem d_Sr_useFixedFactors_5 : decode prog_10_method_7_code 5 = .ok (.getstatic 72, 3) := by decide +kernel
theorem d_Sr_useFixedFactors_8 : decode prog_10_method_7_code 8 = .ok (.iconst 4, 1) := by decide +kernel
theorem d_Sr_useFixedFactors_9 : decode prog_10_method_7_code 9 = .ok (.aload_n 0, 1) := by decide +kernel
theorem d_Sr_useFixedFactors_10 : decode prog_10_method_7_code 10 = .ok (.getfield 44, 3) := by decide +kernel
theorem d_Sr_useFixedFactors_13 : decode prog_10_method_7_code 13 = .ok (.imul, 1) := by decide +kernel
theorem d_Sr_useFixedFactors_14 : decode prog_10_method_7_code 14 = .ok (.aload_n 0, 1) := by decide +kernel
theorem d_Sr_useFixedFactors_15 : decode prog_10_method_7_code 15 = .ok (.getfield 9, 3) := by decide +kernel
theorem d_Sr_useFixedFactors_18 : decode prog_10_method_7_code 18 = .ok (.iconst 0, 1) := by decide +kernel
theorem d_Sr_useFixedFactors_19 : decode prog_10_method_7_code 19 = .ok (.iconst 4, 1) := by decide +kernel
theorem d_Sr_useFixedFactors_20 : decode prog_10_method_7_code 20 = .ok (.invokestatic 75, 3) := by decide +kernel
theorem d_Sr_useFixedFactors_23 : decode prog_10_method_7_code 23 = .ok (.return_, 1) := by decide +kernel
theorem d_Sr_readRests_0 : decode prog_10_method_8_code 0 = .ok (.aload_n 0, 1) := by decide +kernel
theorem d_Sr_readRests_1 : decode prog_10_method_8_code 1 = .ok (.getfield 15, 3) := by decide +kernel
theorem d_Sr_readRests_4 : decode prog_10_method_8_code 4 = .ok (.iconst 2, 1) := by decide +kernel
theorem d_Sr_readRests_5 : decode prog_10_method_8_code 5 = .ok (.invokevirtual 19, 3) := by decide +kernel
theorem d_Sr_readRests_8 : decode prog_10_method_8_code 8 = .ok (.istore 4, 2) := by decide +kernel
theorem d_Sr_readRests_10 : decode prog_10_method_8_code 10 = .ok (.aload_n 0, 1) := by decide +kernel
theorem d_Sr_readRests_11 : decode prog_10_method_8_code 11 = .ok (.getfield 15, 3) := by decide +kernel
theorem d_Sr_readRests_14 : decode prog_10_method_8_code 14 = .ok (.iload 4, 2) := by decide +kernel
theorem d_Sr_readRests_16 : decode prog_10_method_8_code 16 = .ok (.iconst 1, 1) := by decide +kernel
theorem d_Sr_readRests_17 : decode prog_10_method_8_code 17 = .ok (.if_icmp .gt 7, 3) := by decide +kernel
theorem d_Sr_readRests_20 : decode prog_10_method_8_code 20 = .ok (.iconst 1, 1) := by decide +kernel
theorem d_Sr_readRests_21 : decode prog_10_method_8_code 21 = .ok (.goto 4, 3) := by decide +kernel
theorem d_Sr_readRests_24 : decode prog_10_method_8_code 24 = .ok (.iconst 0, 1) := by decide +kernel
theorem d_Sr_readRests_25 : decode prog_10_method_8_code 25 = .ok (.bipush 10, 2) := by decide +kernel
theorem d_Sr_readRests_27 : decode prog_10_method_8_code 27 = .ok (.invokevirtual 29, 3) := by decide +kernel
theorem d_Sr_readRests_30 : decode prog_10_method_8_code 30 = .ok (.aload_n 0, 1) := by decide +kernel
theorem d_Sr_readRests_31 : decode prog_10_method_8_code 31 = .ok (.getfield 15, 3) := by decide +kernel
theorem d_Sr_readRests_34 : decode prog_10_method_8_code 34 = .ok (.iconst 4, 1) := by decide +kernel
theorem d_Sr_readRests_35 : decode prog_10_method_8_code 35 = .ok (.invokevirtual 19, 3) := by decide +kernel
theorem d_Sr_readRests_38 : decode prog_10_method_8_code 38 = .ok (.istore 5, 2) := by decide +kernel
theorem d_Sr_readRests_40 : decode prog_10_method_8_code 40 = .ok (.iload_n 3, 1) := by decide +kernel
theorem d_Sr_readRests_41 : decode prog_10_method_8_code 41 = .ok (.iload 5, 2) := by decide +kernel
theorem d_Sr_readRests_43 : decode prog_10_method_8_code 43 = .ok (.ishr, 1) := by decide +kernel
theorem d_Sr_readRests_44 : decode prog_10_method_8_code 44 = .ok (.istore 6, 2) := by decide +kernel
theorem d_Sr_readRests_46 : decode prog_10_method_8_code 46 = .ok (.aload_n 0, 1) := by decide +kernel
theorem d_Sr_readRests_47 : decode prog_10_method_8_code 47 = .ok (.getfield 15, 3) := by decide +kernel
theorem d_Sr_readRests_50 : decode prog_10_method_8_code 50 = .ok (.iload 6, 2) := by decide +kernel
theorem d_Sr_readRests_52 : decode prog_10_method_8_code 52 = .ok (.iload 5, 2) := by decide +kernel
theorem d_Sr_readRests_54 : decode prog_10_method_8_code 54 = .ok (.ishl, 1) := by decide +kernel
theorem d_Sr_readRests_55 : decode prog_10_method_8_code 55 = .ok (.iload_n 3, 1) := by decide +kernel
theorem d_Sr_readRests_56 : decode prog_10_method_8_code 56 = .ok (.if_icmp .ne 16, 3) := by decide +kernel
theorem d_Sr_readRests_59 : decode prog_10_method_8_code 59 = .ok (.iload 6, 2) := by decide +kernel
theorem d_Sr_readRests_61 : decode prog_10_method_8_code 61 = .ok (.aload_n 0, 1) := by decide +kernel
theorem d_Sr_readRests_62 : decode prog_10_method_8_code 62 = .ok (.getfield 44, 3) := by decide +kernel
theorem d_Sr_readRests_65 : decode prog_10_method_8_code 65 = .ok (.if_icmp .lt 7, 3) := by decide +kernel
theorem d_Sr_readRests_68 : decode prog_10_method_8_code 68 = .ok (.iconst 1, 1) := by decide +kernel
theorem d_Sr_readRests_69 : decode prog_10_method_8_code 69 = .ok (.goto 4, 3) := by decide +kernel
theorem d_Sr_readRests_72 : decode prog_10_method_8_code 72 = .ok (.iconst 0, 1) := by decide +kernel
theorem d_Sr_readRests_73 : decode prog_10_method_8_code 73 = .ok (.bipush 10, 2) := by decide +kernel
theorem d_Sr_readRests_75 : decode prog_10_method_8_code 75 = .ok (.invokevirtual 29, 3) := by decide +kernel
theorem d_Sr_readRests_78 : decode prog_10_method_8_code 78 = .ok (.iload_n 2, 1) := by decide +kernel
theorem d_Sr_readRests_79 : decode prog_10_method_8_code 79 = .ok (.aload_n 0, 1) := by decide +kernel
theorem d_Sr_readRests_80 : decode prog_10_method_8_code 80 = .ok (.getfield 44, 3) := by decide +kernel
theorem d_Sr_readRests_83 : decode prog_10_method_8_code 83 = .ok (.iadd, 1) := by decide +kernel
theorem d_Sr_readRests_84 : decode prog_10_method_8_code 84 = .ok (.istore 7, 2) := by decide +kernel
theorem d_Sr_readRests_86 : decode prog_10_method_8_code 86 = .ok (.iconst 1, 1) := by decide +kernel
theorem d_Sr_readRests_87 : decode prog_10_method_8_code 87 = .ok (.istore 8, 2) := by decide +kernel
theorem d_Sr_readRests_89 : decode prog_10_method_8_code 89 = .ok (.iload 8, 2) := by decide +kernel
theorem d_Sr_readRests_91 : decode prog_10_method_8_code 91 = .ok (.iconst 1, 1) := by decide +kernel
theorem d_Sr_readRests_92 : decode prog_10_method_8_code 92 = .ok (.iload 5, 2) := by decide +kernel
theorem d_Sr_readRests_94 : decode prog_10_method_8_code 94 = .ok (.ishl, 1) := by decide +kernel
theorem d_Sr_readRests_95 : decode prog_10_method_8_code 95 = .ok (.if_icmp .gt 36, 3) := by decide +kernel
theorem d_Sr_readRests_98 : decode prog_10_method_8_code 98 = .ok (.aload_n 0, 1) := by decide +kernel
theorem d_Sr_readRests_99 : decode prog_10_method_8_code 99 = .ok (.aload_n 1, 1) := by decide +kernel
theorem d_Sr_readRests_100 : decode prog_10_method_8_code 100 = .ok (.iload 7, 2) := by decide +kernel
theorem d_Sr_readRests_102 : decode prog_10_method_8_code 102 = .ok (.iload_n 2, 1) := by decide +kernel
theorem d_Sr_readRests_103 : decode prog_10_method_8_code 103 = .ok (.iload 8, 2) := by decide +kernel
theorem d_Sr_readRests_105 : decode prog_10_method_8_code 105 = .ok (.iload 6, 2) := by decide +kernel
theorem d_Sr_readRests_107 : decode prog_10_method_8_code 107 = .ok (.imul, 1) := by decide +kernel
theorem d_Sr_readRests_108 : decode prog_10_method_8_code 108 = .ok (.iadd, 1) := by decide +kernel
theorem d_Sr_readRests_109 : decode prog_10_method_8_code 109 = .ok (.iconst 4, 1) := by decide +kernel
theorem d_Sr_readRests_110 : decode prog_10_method_8_code 110 = .ok (.iload 4, 2) := by decide +kernel
theorem d_Sr_readRests_112 : decode prog_10_method_8_code 112 = .ok (.iadd, 1) := by decide +kernel
theorem d_Sr_readRests_113 : decode prog_10_method_8_code 113 = .ok (.invokevirtual 81, 3) := by decide +kernel
theorem d_Sr_readRests_116 : decode prog_10_method_8_code 116 = .ok (.iload_n 2, 1) := by decide +kernel
theorem d_Sr_readRests_117 : decode prog_10_method_8_code 117 = .ok (.iload 8, 2) := by decide +kernel
theorem d_Sr_readRests_119 : decode prog_10_method_8_code 119 = .ok (.iload 6, 2) := by decide +kernel
theorem d_Sr_readRests_121 : decode prog_10_method_8_code 121 = .ok (.imul, 1) := by decide +kernel
theorem d_Sr_readRests_122 : decode prog_10_method_8_code 122 = .ok (.iadd, 1) := by decide +kernel
theorem d_Sr_readRests_123 : decode prog_10_method_8_code 123 = .ok (.istore 7, 2) := by decide +kernel
theorem d_Sr_readRests_125 : decode prog_10_method_8_code 125 = .ok (.iinc 8 1, 3) := by decide +kernel
theorem d_Sr_readRests_128 : decode prog_10_method_8_code 128 = .ok (.goto (-39), 3) := by decide +kernel
theorem d_Sr_readRests_131 : decode prog_10_method_8_code 131 = .ok (.return_, 1) := by decide +kernel
theorem d_Sr_readPart_0 : decode prog_10_method_9_code 0 = .ok (.aload_n 0, 1) := by decide +kernel
theorem d_Sr_readPart_1 : decode prog_10_method_9_code 1 = .ok (.getfield 15, 3) := by decide +kernel
theorem d_Sr_readPart_4 : decode prog_10_method_9_code 4 = .ok (.iload 4, 2) := by decide +kernel
theorem d_Sr_readPart_6 : decode prog_10_method_9_code 6 = .ok (.invokevirtual 19, 3) := by decide +kernel
theorem d_Sr_readPart_9 : decode prog_10_method_9_code 9 = .ok (.istore 5, 2) := by decide +kernel
theorem d_Sr_readPart_11 : decode prog_10_method_9_code 11 = .ok (.iload 5, 2) := by decide +kernel
theorem d_Sr_readPart_13 : decode prog_10_method_9_code 13 = .ok (.iconst 1, 1) := by decide +kernel
theorem d_Sr_readPart_14 : decode prog_10_method_9_code 14 = .ok (.iload 4, 2) := by decide +kernel
theorem d_Sr_readPart_16 : decode prog_10_method_9_code 16 = .ok (.ishl, 1) := by decide +kernel
theorem d_Sr_readPart_17 : decode prog_10_method_9_code 17 = .ok (.iconst 1, 1) := by decide +kernel
theorem d_Sr_readPart_18 : decode prog_10_method_9_code 18 = .ok (.isub, 1) := by decide +kernel
theorem d_Sr_readPart_19 : decode prog_10_method_9_code 19 = .ok (.if_icmp .ne 7, 3) := by decide +kernel
theorem d_Sr_readPart_22 : decode prog_10_method_9_code 22 = .ok (.iconst 1, 1) := by decide +kernel
theorem d_Sr_readPart_23 : decode prog_10_method_9_code 23 = .ok (.goto 4, 3) := by decide +kernel
theorem d_Sr_readPart_26 : decode prog_10_method_9_code 26 = .ok (.iconst 0, 1) := by decide +kernel
theorem d_Sr_readPart_27 : decode prog_10_method_9_code 27 = .ok (.istore 6, 2) := by decide +kernel
theorem d_Sr_readPart_29 : decode prog_10_method_9_code 29 = .ok (.iload 6, 2) := by decide +kernel
theorem d_Sr_readPart_31 : decode prog_10_method_9_code 31 = .ok (.ifCond .eq 14, 3) := by decide +kernel
theorem d_Sr_readPart_34 : decode prog_10_method_9_code 34 = .ok (.aload_n 0, 1) := by decide +kernel
theorem d_Sr_readPart_35 : decode prog_10_method_9_code 35 = .ok (.getfield 15, 3) := by decide +kernel
theorem d_Sr_readPart_38 : decode prog_10_method_9_code 38 = .ok (.iconst 5, 1) := by decide +kernel
theorem d_Sr_readPart_39 : decode prog_10_method_9_code 39 = .ok (.invokevirtual 19, 3) := by decide +kernel
theorem d_Sr_readPart_42 : decode prog_10_method_9_code 42 = .ok (.goto 4, 3) := by decide +kernel
theorem d_Sr_readPart_45 : decode prog_10_method_9_code 45 = .ok (.iconst 0, 1) := by decide +kernel
theorem d_Sr_readPart_46 : decode prog_10_method_9_code 46 = .ok (.istore 7, 2) := by decide +kernel
theorem d_Sr_readPart_48 : decode prog_10_method_9_code 48 = .ok (.iconst 1, 1) := by decide +kernel
theorem d_Sr_readPart_49 : decode prog_10_method_9_code 49 = .ok (.aload_n 0, 1) := by decide +kernel
theorem d_Sr_readPart_50 : decode prog_10_method_9_code 50 = .ok (.getfield 37, 3) := by decide +kernel
theorem d_Sr_readPart_53 : decode prog_10_method_9_code 53 = .ok (.iconst 1, 1) := by decide +kernel
theorem d_Sr_readPart_54 : decode prog_10_method_9_code 54 = .ok (.isub, 1) := by decide +kernel
theorem d_Sr_readPart_55 : decode prog_10_method_9_code 55 = .ok (.ishl, 1) := by decide +kernel
theorem d_Sr_readPart_56 : decode prog_10_method_9_code 56 = .ok (.istore 8, 2) := by decide +kernel
theorem d_Sr_readPart_58 : decode prog_10_method_9_code 58 = .ok (.iload_n 2, 1) := by decide +kernel
theorem d_Sr_readPart_59 : decode prog_10_method_9_code 59 = .ok (.istore 9, 2) := by decide +kernel
theorem d_Sr_readPart_61 : decode prog_10_method_9_code 61 = .ok (.iload 9, 2) := by decide +kernel
theorem d_Sr_readPart_63 : decode prog_10_method_9_code 63 = .ok (.iload_n 3, 1) := by decide +kernel
theorem d_Sr_readPart_64 : decode prog_10_method_9_code 64 = .ok (.if_icmp .ge 114, 3) := by decide +kernel
theorem d_Sr_readPart_67 : decode prog_10_method_9_code 67 = .ok (.iload 6, 2) := by decide +kernel
theorem d_Sr_readPart_69 : decode prog_10_method_9_code 69 = .ok (.ifCond .eq 16, 3) := by decide +kernel
theorem d_Sr_readPart_72 : decode prog_10_method_9_code 72 = .ok (.aload_n 0, 1) := by decide +kernel
theorem d_Sr_readPart_73 : decode prog_10_method_9_code 73 = .ok (.getfield 15, 3) := by decide +kernel
theorem d_Sr_readPart_76 : decode prog_10_method_9_code 76 = .ok (.iload 7, 2) := by decide +kernel
theorem d_Sr_readPart_78 : decode prog_10_method_9_code 78 = .ok (.invokevirtual 47, 3) := by decide +kernel
theorem d_Sr_readPart_81 : decode prog_10_method_9_code 81 = .ok (.i2l, 1) := by decide +kernel
theorem d_Sr_readPart_82 : decode prog_10_method_9_code 82 = .ok (.goto 36, 3) := by decide +kernel
theorem d_Sr_readPart_85 : decode prog_10_method_9_code 85 = .ok (.aload_n 0, 1) := by decide +kernel
theorem d_Sr_readPart_86 : decode prog_10_method_9_code 86 = .ok (.getfield 15, 3) := by decide +kernel
theorem d_Sr_readPart_89 : decode prog_10_method_9_code 89 = .ok (.lconst 1, 1) := by decide +kernel
theorem d_Sr_readPart_90 : decode prog_10_method_9_code 90 = .ok (.bipush 32, 2) := by decide +kernel
theorem d_Sr_readPart_92 : decode prog_10_method_9_code 92 = .ok (.iload 5, 2) := by decide +kernel
theorem d_Sr_readPart_94 : decode prog_10_method_9_code 94 = .ok (.isub, 1) := by decide +kernel
theorem d_Sr_readPart_95 : decode prog_10_method_9_code 95 = .ok (.lshl, 1) := by decide +kernel
theorem d_Sr_readPart_96 : decode prog_10_method_9_code 96 = .ok (.bipush 11, 2) := by decide +kernel
theorem d_Sr_readPart_98 : decode prog_10_method_9_code 98 = .ok (.invokevirtual 33, 3) := by decide +kernel
theorem d_Sr_readPart_101 : decode prog_10_method_9_code 101 = .ok (.iload 5, 2) := by decide +kernel
theorem d_Sr_readPart_103 : decode prog_10_method_9_code 103 = .ok (.lshl, 1) := by decide +kernel
theorem d_Sr_readPart_104 : decode prog_10_method_9_code 104 = .ok (.aload_n 0, 1) := by decide +kernel
theorem d_Sr_readPart_105 : decode prog_10_method_9_code 105 = .ok (.getfield 15, 3) := by decide +kernel
theorem d_Sr_readPart_108 : decode prog_10_method_9_code 108 = .ok (.iload 5, 2) := by decide +kernel
theorem d_Sr_readPart_110 : decode prog_10_method_9_code 110 = .ok (.invokevirtual 19, 3) := by decide +kernel
theorem d_Sr_readPart_113 : decode prog_10_method_9_code 113 = .ok (.i2l, 1) := by decide +kernel
theorem d_Sr_readPart_114 : decode prog_10_method_9_code 114 = .ok (.lor, 1) := by decide +kernel
theorem d_Sr_readPart_115 : decode prog_10_method_9_code 115 = .ok (.invokestatic 84, 3) := by decide +kernel
theorem d_Sr_readPart_118 : decode prog_10_method_9_code 118 = .ok (.lstore 10, 2) := by decide +kernel
theorem d_Sr_readPart_120 : decode prog_10_method_9_code 120 = .ok (.aload_n 0, 1) := by decide +kernel
theorem d_Sr_readPart_121 : decode prog_10_method_9_code 121 = .ok (.aload_n 1, 1) := by decide +kernel
theorem d_Sr_readPart_122 : decode prog_10_method_9_code 122 = .ok (.iload 9, 2) := by decide +kernel
theorem d_Sr_readPart_124 : decode prog_10_method_9_code 124 = .ok (.invokevirtual 88, 3) := by decide +kernel
theorem d_Sr_readPart_127 : decode prog_10_method_9_code 127 = .ok (.lload 10, 2) := by decide +kernel
theorem d_Sr_readPart_129 : decode prog_10_method_9_code 129 = .ok (.ladd, 1) := by decide +kernel
theorem d_Sr_readPart_130 : decode prog_10_method_9_code 130 = .ok (.lstore 12, 2) := by decide +kernel
theorem d_Sr_readPart_132 : decode prog_10_method_9_code 132 = .ok (.aload_n 0, 1) := by decide +kernel
theorem d_Sr_readPart_133 : decode prog_10_method_9_code 133 = .ok (.getfield 15, 3) := by decide +kernel
theorem d_Sr_readPart_136 : decode prog_10_method_9_code 136 = .ok (.lload 12, 2) := by decide +kernel
theorem d_Sr_readPart_138 : decode prog_10_method_9_code 138 = .ok (.iload 8, 2) := by decide +kernel
theorem d_Sr_readPart_140 : decode prog_10_method_9_code 140 = .ok (.ineg, 1) := by decide +kernel
theorem d_Sr_readPart_141 : decode prog_10_method_9_code 141 = .ok (.i2l, 1) := by decide +kernel
theorem d_Sr_readPart_142 : decode prog_10_method_9_code 142 = .ok (.lcmp, 1) := by decide +kernel
theorem d_Sr_readPart_143 : decode prog_10_method_9_code 143 = .ok (.ifCond .lt 16, 3) := by decide +kernel
theorem d_Sr_readPart_146 : decode prog_10_method_9_code 146 = .ok (.lload 12, 2) := by decide +kernel
theorem d_Sr_readPart_148 : decode prog_10_method_9_code 148 = .ok (.iload 8, 2) := by decide +kernel
theorem d_Sr_readPart_150 : decode prog_10_method_9_code 150 = .ok (.i2l, 1) := by decide +kernel
theorem d_Sr_readPart_151 : decode prog_10_method_9_code 151 = .ok (.lcmp, 1) := by decide +kernel
theorem d_Sr_readPart_152 : decode prog_10_method_9_code 152 = .ok (.ifCond .ge 7, 3) := by decide +kernel
theorem d_Sr_readPart_155 : decode prog_10_method_9_code 155 = .ok (.iconst 1, 1) := by decide +kernel
theorem d_Sr_readPart_156 : decode prog_10_method_9_code 156 = .ok (.goto 4, 3) := by decide +kernel
theorem d_Sr_readPart_159 : decode prog_10_method_9_code 159 = .ok (.iconst 0, 1) := by decide +kernel
theorem d_Sr_readPart_160 : decode prog_10_method_9_code 160 = .ok (.bipush 11, 2) := by decide +kernel
theorem d_Sr_readPart_162 : decode prog_10_method_9_code 162 = .ok (.invokevirtual 29, 3) := by decide +kernel
theorem d_Sr_readPart_165 : decode prog_10_method_9_code 165 = .ok (.aload_n 1, 1) := by decide +kernel
theorem d_Sr_readPart_166 : decode prog_10_method_9_code 166 = .ok (.iload 9, 2) := by decide +kernel
theorem d_Sr_readPart_168 : decode prog_10_method_9_code 168 = .ok (.lload 12, 2) := by decide +kernel
theorem d_Sr_readPart_170 : decode prog_10_method_9_code 170 = .ok (.l2i, 1) := by decide +kernel
theorem d_Sr_readPart_171 : decode prog_10_method_9_code 171 = .ok (.iastore, 1) := by decide +kernel
theorem d_Sr_readPart_172 : decode prog_10_method_9_code 172 = .ok (.iinc 9 1, 3) := by decide +kernel
theorem d_Sr_readPart_175 : decode prog_10_method_9_code 175 = .ok (.goto (-114), 3) := by decide +kernel
theorem d_Sr_readPart_178 : decode prog_10_method_9_code 178 = .ok (.return_, 1) := by decide +kernel
theorem d_Sr_unfold_0 : decode prog_10_method_10_code 0 = .ok (.lload_n 0, 1) := by decide +kernel
theorem d_Sr_unfold_1 : decode prog_10_method_10_code 1 = .ok (.lconst 1, 1) := by decide +kernel
theorem d_Sr_unfold_2 : decode prog_10_method_10_code 2 = .ok (.land, 1) := by decide +kernel
theorem d_Sr_unfold_3 : decode prog_10_method_10_code 3 = .ok (.lconst 0, 1) := by decide +kernel
theorem d_Sr_unfold_4 : decode prog_10_method_10_code 4 = .ok (.lcmp, 1) := by decide +kernel
theorem d_Sr_unfold_5 : decode prog_10_method_10_code 5 = .ok (.ifCond .ne 9, 3) := by decide +kernel
theorem d_Sr_unfold_8 : decode prog_10_method_10_code 8 = .ok (.lload_n 0, 1) := by decide +kernel
theorem d_Sr_unfold_9 : decode prog_10_method_10_code 9 = .ok (.iconst 1, 1) := by decide +kernel
theorem d_Sr_unfold_10 : decode prog_10_method_10_code 10 = .ok (.lshr, 1) := by decide +kernel
theorem d_Sr_unfold_11 : decode prog_10_method_10_code 11 = .ok (.goto 9, 3) := by decide +kernel
theorem d_Sr_unfold_14 : decode prog_10_method_10_code 14 = .ok (.lload_n 0, 1) := by decide +kernel
theorem d_Sr_unfold_15 : decode prog_10_method_10_code 15 = .ok (.iconst 1, 1) := by decide +kernel
theorem d_Sr_unfold_16 : decode prog_10_method_10_code 16 = .ok (.lshr, 1) := by decide +kernel
theorem d_Sr_unfold_17 : decode prog_10_method_10_code 17 = .ok (.lneg, 1) := by decide +kernel
theorem d_Sr_unfold_18 : decode prog_10_method_10_code 18 = .ok (.lconst 1, 1) := by decide +kernel
theorem d_Sr_unfold_19 : decode prog_10_method_10_code 19 = .ok (.lsub, 1) := by decide +kernel
theorem d_Sr_unfold_20 : decode prog_10_method_10_code 20 = .ok (.lreturn, 1) := by decide +kernel
theorem d_Sr_predict_0 : decode prog_10_method_11_code 0 = .ok (.lconst 0, 1) := by decide +kernel
theorem d_Sr_predict_1 : decode prog_10_method_11_code 1 = .ok (.lstore_n 3, 1) := by decide +kernel
theorem d_Sr_predict_2 : decode prog_10_method_11_code 2 = .ok (.iconst 0, 1) := by decide +kernel
theorem d_Sr_predict_3 : decode prog_10_method_11_code 3 = .ok (.istore 5, 2) := by decide +kernel
theorem d_Sr_predict_5 : decode prog_10_method_11_code 5 = .ok (.iload 5, 2) := by decide +kernel
theorem d_Sr_predict_7 : decode prog_10_method_11_code 7 = .ok (.aload_n 0, 1) := by decide +kernel
theorem d_Sr_predict_8 : decode prog_10_method_11_code 8 = .ok (.getfield 44, 3) := by decide +kernel
theorem d_Sr_predict_11 : decode prog_10_method_11_code 11 = .ok (.if_icmp .ge 30, 3) := by decide +kernel
theorem d_Sr_predict_14 : decode prog_10_method_11_code 14 = .ok (.lload_n 3, 1) := by decide +kernel
theorem d_Sr_predict_15 : decode prog_10_method_11_code 15 = .ok (.aload_n 0, 1) := by decide +kernel
theorem d_Sr_predict_16 : decode prog_10_method_11_code 16 = .ok (.getfield 9, 3) := by decide +kernel
theorem d_Sr_predict_19 : decode prog_10_method_11_code 19 = .ok (.iload 5, 2) := by decide +kernel
theorem d_Sr_predict_21 : decode prog_10_method_11_code 21 = .ok (.iaload, 1) := by decide +kernel
theorem d_Sr_predict_22 : decode prog_10_method_11_code 22 = .ok (.i2l, 1) := by decide +kernel
theorem d_Sr_predict_23 : decode prog_10_method_11_code 23 = .ok (.aload_n 1, 1) := by decide +kernel
theorem d_Sr_predict_24 : decode prog_10_method_11_code 24 = .ok (.iload_n 2, 1) := by decide +kernel
theorem d_Sr_predict_25 : decode prog_10_method_11_code 25 = .ok (.iconst 1, 1) := by decide +kernel
theorem d_Sr_predict_26 : decode prog_10_method_11_code 26 = .ok (.isub, 1) := by decide +kernel
theorem d_Sr_predict_27 : decode prog_10_method_11_code 27 = .ok (.iload 5, 2) := by decide +kernel
theorem d_Sr_predict_29 : decode prog_10_method_11_code 29 = .ok (.isub, 1) := by decide +kernel
theorem d_Sr_predict_30 : decode prog_10_method_11_code 30 = .ok (.iaload, 1) := by decide +kernel
theorem d_Sr_predict_31 : decode prog_10_method_11_code 31 = .ok (.i2l, 1) := by decide +kernel
theorem d_Sr_predict_32 : decode prog_10_method_11_code 32 = .ok (.lmul, 1) := by decide +kernel
theorem d_Sr_predict_33 : decode prog_10_method_11_code 33 = .ok (.ladd, 1) := by decide +kernel
theorem d_Sr_predict_34 : decode prog_10_method_11_code 34 = .ok (.lstore_n 3, 1) := by decide +kernel
theorem d_Sr_predict_35 : decode prog_10_method_11_code 35 = .ok (.iinc 5 1, 3) := by decide +kernel
theorem d_Sr_predict_38 : decode prog_10_method_11_code 38 = .ok (.goto (-33), 3) := by decide +kernel
theorem d_Sr_predict_41 : decode prog_10_method_11_code 41 = .ok (.lload_n 3, 1) := by decide +kernel
theorem d_Sr_predict_42 : decode prog_10_method_11_code 42 = .ok (.aload_n 0, 1) := by decide +kernel
theorem d_Sr_predict_43 : decode prog_10_method_11_code 43 = .ok (.getfield 69, 3) := by decide +kernel
theorem d_Sr_predict_46 : decode prog_10_method_11_code 46 = .ok (.lshr, 1) := by decide +kernel
theorem d_Sr_predict_47 : decode prog_10_method_11_code 47 = .ok (.lreturn, 1) := by decide +kernel
