/-! decode rows of SoundStream$Decoder, by program -/
theorem d_De_init_0 : decode prog_3_method_1_code 0 = .ok (.aload_n 0, 1) := by decide +kernel
theorem d_De_init_1 : decode prog_3_method_1_code 1 = .ok (.invokespecial 3, 3) := by decide +kernel
theorem d_De_init_4 : decode prog_3_method_1_code 4 = .ok (.aload_n 0, 1) := by decide +kernel
theorem d_De_init_5 : decode prog_3_method_1_code 5 = .ok (.aload_n 1, 1) := by decide +kernel
theorem d_De_init_6 : decode prog_3_method_1_code 6 = .ok (.putfield 9, 3) := by decide +kernel
theorem d_De_init_9 : decode prog_3_method_1_code 9 = .ok (.aload_n 0, 1) := by decide +kernel
theorem d_De_init_10 : decode prog_3_method_1_code 10 = .ok (.aload_n 2, 1) := by decide +kernel
theorem d_De_init_11 : decode prog_3_method_1_code 11 = .ok (.putfield 15, 3) := by decide +kernel
theorem d_De_init_14 : decode prog_3_method_1_code 14 = .ok (.aload_n 0, 1) := by decide +kernel
theorem d_De_init_15 : decode prog_3_method_1_code 15 = .ok (.new 19, 3) := by decide +kernel
theorem d_De_init_18 : decode prog_3_method_1_code 18 = .ok (.dup, 1) := by decide +kernel
theorem d_De_init_19 : decode prog_3_method_1_code 19 = .ok (.aload_n 1, 1) := by decide +kernel
theorem d_De_init_20 : decode prog_3_method_1_code 20 = .ok (.invokespecial 21, 3) := by decide +kernel
theorem d_De_init_23 : decode prog_3_method_1_code 23 = .ok (.putfield 24, 3) := by decide +kernel
theorem d_De_init_26 : decode prog_3_method_1_code 26 = .ok (.aload_n 0, 1) := by decide +kernel
theorem d_De_init_27 : decode prog_3_method_1_code 27 = .ok (.new 28, 3) := by decide +kernel
theorem d_De_init_30 : decode prog_3_method_1_code 30 = .ok (.dup, 1) := by decide +kernel
theorem d_De_init_31 : decode prog_3_method_1_code 31 = .ok (.aload_n 0, 1) := by decide +kernel
theorem d_De_init_32 : decode prog_3_method_1_code 32 = .ok (.getfield 24, 3) := by decide +kernel
theorem d_De_init_35 : decode prog_3_method_1_code 35 = .ok (.invokespecial 30, 3) := by decide +kernel
theorem d_De_init_38 : decode prog_3_method_1_code 38 = .ok (.putfield 33, 3) := by decide +kernel
theorem d_De_init_41 : decode prog_3_method_1_code 41 = .ok (.aload_n 0, 1) := by decide +kernel
theorem d_De_init_42 : decode prog_3_method_1_code 42 = .ok (.new 37, 3) := by decide +kernel
theorem d_De_init_45 : decode prog_3_method_1_code 45 = .ok (.dup, 1) := by decide +kernel
theorem d_De_init_46 : decode prog_3_method_1_code 46 = .ok (.invokespecial 39, 3) := by decide +kernel
theorem d_De_init_49 : decode prog_3_method_1_code 49 = .ok (.putfield 40, 3) := by decide +kernel
theorem d_De_init_52 : decode prog_3_method_1_code 52 = .ok (.return_, 1) := by decide +kernel
theorem d_De_begin_0 : decode prog_3_method_2_code 0 = .ok (.aload_n 0, 1) := by decide +kernel
theorem d_De_begin_1 : decode prog_3_method_2_code 1 = .ok (.getfield 24, 3) := by decide +kernel
theorem d_De_begin_4 : decode prog_3_method_2_code 4 = .ok (.invokevirtual 44, 3) := by decide +kernel
theorem d_De_begin_7 : decode prog_3_method_2_code 7 = .ok (.aload_n 0, 1) := by decide +kernel
theorem d_De_begin_8 : decode prog_3_method_2_code 8 = .ok (.getfield 40, 3) := by decide +kernel
theorem d_De_begin_11 : decode prog_3_method_2_code 11 = .ok (.invokevirtual 47, 3) := by decide +kernel
theorem d_De_begin_14 : decode prog_3_method_2_code 14 = .ok (.aload_n 0, 1) := by decide +kernel
theorem d_De_begin_15 : decode prog_3_method_2_code 15 = .ok (.iconst 0, 1) := by decide +kernel
theorem d_De_begin_16 : decode prog_3_method_2_code 16 = .ok (.putfield 50, 3) := by decide +kernel
theorem d_De_begin_19 : decode prog_3_method_2_code 19 = .ok (.aload_n 0, 1) := by decide +kernel
theorem d_De_begin_20 : decode prog_3_method_2_code 20 = .ok (.iconst 0, 1) := by decide +kernel
theorem d_De_begin_21 : decode prog_3_method_2_code 21 = .ok (.putfield 54, 3) := by decide +kernel
theorem d_De_begin_24 : decode prog_3_method_2_code 24 = .ok (.aload_n 0, 1) := by decide +kernel
theorem d_De_begin_25 : decode prog_3_method_2_code 25 = .ok (.iconst 0, 1) := by decide +kernel
theorem d_De_begin_26 : decode prog_3_method_2_code 26 = .ok (.putfield 58, 3) := by decide +kernel
theorem d_De_begin_29 : decode prog_3_method_2_code 29 = .ok (.return_, 1) := by decide +kernel
theorem d_De_refuse_0 : decode prog_3_method_3_code 0 = .ok (.aload_n 0, 1) := by decide +kernel
theorem d_De_refuse_1 : decode prog_3_method_3_code 1 = .ok (.getfield 40, 3) := by decide +kernel
theorem d_De_refuse_4 : decode prog_3_method_3_code 4 = .ok (.invokevirtual 47, 3) := by decide +kernel
theorem d_De_refuse_7 : decode prog_3_method_3_code 7 = .ok (.return_, 1) := by decide +kernel
theorem d_De_hasMore_0 : decode prog_3_method_4_code 0 = .ok (.aload_n 0, 1) := by decide +kernel
theorem d_De_hasMore_1 : decode prog_3_method_4_code 1 = .ok (.getfield 24, 3) := by decide +kernel
theorem d_De_hasMore_4 : decode prog_3_method_4_code 4 = .ok (.invokevirtual 61, 3) := by decide +kernel
theorem d_De_hasMore_7 : decode prog_3_method_4_code 7 = .ok (.ireturn, 1) := by decide +kernel
theorem d_De_tell_0 : decode prog_3_method_5_code 0 = .ok (.aload_n 0, 1) := by decide +kernel
theorem d_De_tell_1 : decode prog_3_method_5_code 1 = .ok (.getfield 50, 3) := by decide +kernel
theorem d_De_tell_4 : decode prog_3_method_5_code 4 = .ok (.ifCond .ne 5, 3) := by decide +kernel
theorem d_De_tell_7 : decode prog_3_method_5_code 7 = .ok (.iconst (-1), 1) := by decide +kernel
theorem d_De_tell_8 : decode prog_3_method_5_code 8 = .ok (.ireturn, 1) := by decide +kernel
theorem d_De_tell_9 : decode prog_3_method_5_code 9 = .ok (.iload_n 1, 1) := by decide +kernel
theorem d_De_tell_10 : decode prog_3_method_5_code 10 = .ok (.tableswitch 85 2 7 #[38, 46, 54, 62, 70, 80], 38) := by decide +kernel
theorem d_De_tell_48 : decode prog_3_method_5_code 48 = .ok (.aload_n 0, 1) := by decide +kernel
theorem d_De_tell_49 : decode prog_3_method_5_code 49 = .ok (.getfield 40, 3) := by decide +kernel
theorem d_De_tell_52 : decode prog_3_method_5_code 52 = .ok (.getfield 65, 3) := by decide +kernel
theorem d_De_tell_55 : decode prog_3_method_5_code 55 = .ok (.ireturn, 1) := by decide +kernel
theorem d_De_tell_56 : decode prog_3_method_5_code 56 = .ok (.aload_n 0, 1) := by decide +kernel
theorem d_De_tell_57 : decode prog_3_method_5_code 57 = .ok (.getfield 40, 3) := by decide +kernel
theorem d_De_tell_60 : decode prog_3_method_5_code 60 = .ok (.getfield 68, 3) := by decide +kernel
theorem d_De_tell_63 : decode prog_3_method_5_code 63 = .ok (.ireturn, 1) := by decide +kernel
theorem d_De_tell_64 : decode prog_3_method_5_code 64 = .ok (.aload_n 0, 1) := by decide +kernel
theorem d_De_tell_65 : decode prog_3_method_5_code 65 = .ok (.getfield 40, 3) := by decide +kernel
theorem d_De_tell_68 : decode prog_3_method_5_code 68 = .ok (.getfield 71, 3) := by decide +kernel
theorem d_De_tell_71 : decode prog_3_method_5_code 71 = .ok (.ireturn, 1) := by decide +kernel
theorem d_De_tell_72 : decode prog_3_method_5_code 72 = .ok (.aload_n 0, 1) := by decide +kernel
theorem d_De_tell_73 : decode prog_3_method_5_code 73 = .ok (.getfield 40, 3) := by decide +kernel
theorem d_De_tell_76 : decode prog_3_method_5_code 76 = .ok (.getfield 74, 3) := by decide +kernel
theorem d_De_tell_79 : decode prog_3_method_5_code 79 = .ok (.ireturn, 1) := by decide +kernel
theorem d_De_tell_80 : decode prog_3_method_5_code 80 = .ok (.aload_n 0, 1) := by decide +kernel
theorem d_De_tell_81 : decode prog_3_method_5_code 81 = .ok (.getfield 40, 3) := by decide +kernel
theorem d_De_tell_84 : decode prog_3_method_5_code 84 = .ok (.getfield 77, 3) := by decide +kernel
theorem d_De_tell_87 : decode prog_3_method_5_code 87 = .ok (.iconst 0, 1) := by decide +kernel
theorem d_De_tell_88 : decode prog_3_method_5_code 88 = .ok (.iaload, 1) := by decide +kernel
theorem d_De_tell_89 : decode prog_3_method_5_code 89 = .ok (.ireturn, 1) := by decide +kernel
theorem d_De_tell_90 : decode prog_3_method_5_code 90 = .ok (.aload_n 0, 1) := by decide +kernel
theorem d_De_tell_91 : decode prog_3_method_5_code 91 = .ok (.getfield 54, 3) := by decide +kernel
theorem d_De_tell_94 : decode prog_3_method_5_code 94 = .ok (.ireturn, 1) := by decide +kernel
theorem d_De_tell_95 : decode prog_3_method_5_code 95 = .ok (.aload_n 0, 1) := by decide +kernel
theorem d_De_tell_96 : decode prog_3_method_5_code 96 = .ok (.getfield 81, 3) := by decide +kernel
theorem d_De_tell_99 : decode prog_3_method_5_code 99 = .ok (.ifCond .eq 7, 3) := by decide +kernel
theorem d_De_tell_102 : decode prog_3_method_5_code 102 = .ok (.iconst 1, 1) := by decide +kernel
theorem d_De_tell_103 : decode prog_3_method_5_code 103 = .ok (.goto 4, 3) := by decide +kernel
theorem d_De_tell_106 : decode prog_3_method_5_code 106 = .ok (.iconst 0, 1) := by decide +kernel
theorem d_De_tell_107 : decode prog_3_method_5_code 107 = .ok (.ireturn, 1) := by decide +kernel
theorem d_De_readInformation_0 : decode prog_3_method_6_code 0 = .ok (.aload_n 0, 1) := by decide +kernel
theorem d_De_readInformation_1 : decode prog_3_method_6_code 1 = .ok (.getfield 24, 3) := by decide +kernel
theorem d_De_readInformation_4 : decode prog_3_method_6_code 4 = .ok (.aload_n 0, 1) := by decide +kernel
theorem d_De_readInformation_5 : decode prog_3_method_6_code 5 = .ok (.getfield 9, 3) := by decide +kernel
theorem d_De_readInformation_8 : decode prog_3_method_6_code 8 = .ok (.getfield 84, 3) := by decide +kernel
theorem d_De_readInformation_11 : decode prog_3_method_6_code 11 = .ok (.getstatic 89, 3) := by decide +kernel
theorem d_De_readInformation_14 : decode prog_3_method_6_code 14 = .ok (.arraylength, 1) := by decide +kernel
theorem d_De_readInformation_15 : decode prog_3_method_6_code 15 = .ok (.if_icmp .lt 7, 3) := by decide +kernel
theorem d_De_readInformation_18 : decode prog_3_method_6_code 18 = .ok (.iconst 1, 1) := by decide +kernel
theorem d_De_readInformation_19 : decode prog_3_method_6_code 19 = .ok (.goto 4, 3) := by decide +kernel
theorem d_De_readInformation_22 : decode prog_3_method_6_code 22 = .ok (.iconst 0, 1) := by decide +kernel
theorem d_De_readInformation_23 : decode prog_3_method_6_code 23 = .ok (.iconst 1, 1) := by decide +kernel
theorem d_De_readInformation_24 : decode prog_3_method_6_code 24 = .ok (.invokevirtual 92, 3) := by decide +kernel
theorem d_De_readInformation_27 : decode prog_3_method_6_code 27 = .ok (.getstatic 89, 3) := by decide +kernel
theorem d_De_readInformation_30 : decode prog_3_method_6_code 30 = .ok (.astore_n 1, 1) := by decide +kernel
theorem d_De_readInformation_31 : decode prog_3_method_6_code 31 = .ok (.aload_n 1, 1) := by decide +kernel
theorem d_De_readInformation_32 : decode prog_3_method_6_code 32 = .ok (.arraylength, 1) := by decide +kernel
theorem d_De_readInformation_33 : decode prog_3_method_6_code 33 = .ok (.istore_n 2, 1) := by decide +kernel
theorem d_De_readInformation_34 : decode prog_3_method_6_code 34 = .ok (.iconst 0, 1) := by decide +kernel
theorem d_De_readInformation_35 : decode prog_3_method_6_code 35 = .ok (.istore_n 3, 1) := by decide +kernel
theorem d_De_readInformation_36 : decode prog_3_method_6_code 36 = .ok (.iload_n 3, 1) := by decide +kernel
theorem d_De_readInformation_37 : decode prog_3_method_6_code 37 = .ok (.iload_n 2, 1) := by decide +kernel
theorem d_De_readInformation_38 : decode prog_3_method_6_code 38 = .ok (.if_icmp .ge 41, 3) := by decide +kernel
theorem d_De_readInformation_41 : decode prog_3_method_6_code 41 = .ok (.aload_n 1, 1) := by decide +kernel
theorem d_De_readInformation_42 : decode prog_3_method_6_code 42 = .ok (.iload_n 3, 1) := by decide +kernel
theorem d_De_readInformation_43 : decode prog_3_method_6_code 43 = .ok (.iaload, 1) := by decide +kernel
theorem d_De_readInformation_44 : decode prog_3_method_6_code 44 = .ok (.istore 4, 2) := by decide +kernel
theorem d_De_readInformation_46 : decode prog_3_method_6_code 46 = .ok (.aload_n 0, 1) := by decide +kernel
theorem d_De_readInformation_47 : decode prog_3_method_6_code 47 = .ok (.getfield 24, 3) := by decide +kernel
theorem d_De_readInformation_50 : decode prog_3_method_6_code 50 = .ok (.aload_n 0, 1) := by decide +kernel
theorem d_De_readInformation_51 : decode prog_3_method_6_code 51 = .ok (.getfield 24, 3) := by decide +kernel
theorem d_De_readInformation_54 : decode prog_3_method_6_code 54 = .ok (.bipush 8, 2) := by decide +kernel
theorem d_De_readInformation_56 : decode prog_3_method_6_code 56 = .ok (.invokevirtual 96, 3) := by decide +kernel
theorem d_De_readInformation_59 : decode prog_3_method_6_code 59 = .ok (.iload 4, 2) := by decide +kernel
theorem d_De_readInformation_61 : decode prog_3_method_6_code 61 = .ok (.if_icmp .ne 7, 3) := by decide +kernel
theorem d_De_readInformation_64 : decode prog_3_method_6_code 64 = .ok (.iconst 1, 1) := by decide +kernel
theorem d_De_readInformation_65 : decode prog_3_method_6_code 65 = .ok (.goto 4, 3) := by decide +kernel
theorem d_De_readInformation_68 : decode prog_3_method_6_code 68 = .ok (.iconst 0, 1) := by decide +kernel
theorem d_De_readInformation_69 : decode prog_3_method_6_code 69 = .ok (.iconst 1, 1) := by decide +kernel
theorem d_De_readInformation_70 : decode prog_3_method_6_code 70 = .ok (.invokevirtual 92, 3) := by decide +kernel
theorem d_De_readInformation_73 : decode prog_3_method_6_code 73 = .ok (.iinc 3 1, 3) := by decide +kernel
theorem d_De_readInformation_76 : decode prog_3_method_6_code 76 = .ok (.goto (-40), 3) := by decide +kernel
theorem d_De_readInformation_79 : decode prog_3_method_6_code 79 = .ok (.aload_n 0, 1) := by decide +kernel
theorem d_De_readInformation_80 : decode prog_3_method_6_code 80 = .ok (.getfield 24, 3) := by decide +kernel
theorem d_De_readInformation_83 : decode prog_3_method_6_code 83 = .ok (.invokevirtual 100, 3) := by decide +kernel
theorem d_De_readInformation_86 : decode prog_3_method_6_code 86 = .ok (.aload_n 0, 1) := by decide +kernel
theorem d_De_readInformation_87 : decode prog_3_method_6_code 87 = .ok (.getfield 24, 3) := by decide +kernel
theorem d_De_readInformation_90 : decode prog_3_method_6_code 90 = .ok (.iconst 1, 1) := by decide +kernel
theorem d_De_readInformation_91 : decode prog_3_method_6_code 91 = .ok (.invokevirtual 96, 3) := by decide +kernel
theorem d_De_readInformation_94 : decode prog_3_method_6_code 94 = .ok (.iconst 1, 1) := by decide +kernel
theorem d_De_readInformation_95 : decode prog_3_method_6_code 95 = .ok (.if_icmp .ne 7, 3) := by decide +kernel
theorem d_De_readInformation_98 : decode prog_3_method_6_code 98 = .ok (.iconst 1, 1) := by decide +kernel
theorem d_De_readInformation_99 : decode prog_3_method_6_code 99 = .ok (.goto 4, 3) := by decide +kernel
theorem d_De_readInformation_102 : decode prog_3_method_6_code 102 = .ok (.iconst 0, 1) := by decide +kernel
theorem d_De_readInformation_103 : decode prog_3_method_6_code 103 = .ok (.istore_n 1, 1) := by decide +kernel
theorem d_De_readInformation_104 : decode prog_3_method_6_code 104 = .ok (.aload_n 0, 1) := by decide +kernel
theorem d_De_readInformation_105 : decode prog_3_method_6_code 105 = .ok (.getfield 24, 3) := by decide +kernel
theorem d_De_readInformation_108 : decode prog_3_method_6_code 108 = .ok (.bipush 7, 2) := by decide +kernel
theorem d_De_readInformation_110 : decode prog_3_method_6_code 110 = .ok (.invokevirtual 96, 3) := by decide +kernel
theorem d_De_readInformation_113 : decode prog_3_method_6_code 113 = .ok (.istore_n 2, 1) := by decide +kernel
theorem d_De_readInformation_114 : decode prog_3_method_6_code 114 = .ok (.aload_n 0, 1) := by decide +kernel
theorem d_De_readInformation_115 : decode prog_3_method_6_code 115 = .ok (.getfield 24, 3) := by decide +kernel
theorem d_De_readInformation_118 : decode prog_3_method_6_code 118 = .ok (.aload_n 0, 1) := by decide +kernel
theorem d_De_readInformation_119 : decode prog_3_method_6_code 119 = .ok (.getfield 24, 3) := by decide +kernel
theorem d_De_readInformation_122 : decode prog_3_method_6_code 122 = .ok (.bipush 24, 2) := by decide +kernel
theorem d_De_readInformation_124 : decode prog_3_method_6_code 124 = .ok (.invokevirtual 96, 3) := by decide +kernel
theorem d_De_readInformation_127 : decode prog_3_method_6_code 127 = .ok (.bipush 34, 2) := by decide +kernel
theorem d_De_readInformation_129 : decode prog_3_method_6_code 129 = .ok (.if_icmp .ne 11, 3) := by decide +kernel
theorem d_De_readInformation_132 : decode prog_3_method_6_code 132 = .ok (.iload_n 2, 1) := by decide +kernel
theorem d_De_readInformation_133 : decode prog_3_method_6_code 133 = .ok (.ifCond .ne 7, 3) := by decide +kernel
theorem d_De_readInformation_136 : decode prog_3_method_6_code 136 = .ok (.iconst 1, 1) := by decide +kernel
theorem d_De_readInformation_137 : decode prog_3_method_6_code 137 = .ok (.goto 4, 3) := by decide +kernel
theorem d_De_readInformation_140 : decode prog_3_method_6_code 140 = .ok (.iconst 0, 1) := by decide +kernel
theorem d_De_readInformation_141 : decode prog_3_method_6_code 141 = .ok (.iconst 2, 1) := by decide +kernel
theorem d_De_readInformation_142 : decode prog_3_method_6_code 142 = .ok (.invokevirtual 92, 3) := by decide +kernel
theorem d_De_readInformation_145 : decode prog_3_method_6_code 145 = .ok (.aload_n 0, 1) := by decide +kernel
theorem d_De_readInformation_146 : decode prog_3_method_6_code 146 = .ok (.invokevirtual 103, 3) := by decide +kernel
theorem d_De_readInformation_149 : decode prog_3_method_6_code 149 = .ok (.iconst 0, 1) := by decide +kernel
theorem d_De_readInformation_150 : decode prog_3_method_6_code 150 = .ok (.istore_n 3, 1) := by decide +kernel
theorem d_De_readInformation_151 : decode prog_3_method_6_code 151 = .ok (.iload_n 3, 1) := by decide +kernel
theorem d_De_readInformation_152 : decode prog_3_method_6_code 152 = .ok (.sipush 9000, 3) := by decide +kernel
theorem d_De_readInformation_155 : decode prog_3_method_6_code 155 = .ok (.if_icmp .ge 91, 3) := by decide +kernel
theorem d_De_readInformation_158 : decode prog_3_method_6_code 158 = .ok (.iload_n 1, 1) := by decide +kernel
theorem d_De_readInformation_159 : decode prog_3_method_6_code 159 = .ok (.ifCond .ne 87, 3) := by decide +kernel
theorem d_De_readInformation_162 : decode prog_3_method_6_code 162 = .ok (.aload_n 0, 1) := by decide +kernel
theorem d_De_readInformation_163 : decode prog_3_method_6_code 163 = .ok (.getfield 24, 3) := by decide +kernel
theorem d_De_readInformation_166 : decode prog_3_method_6_code 166 = .ok (.invokevirtual 100, 3) := by decide +kernel
theorem d_De_readInformation_169 : decode prog_3_method_6_code 169 = .ok (.aload_n 0, 1) := by decide +kernel
theorem d_De_readInformation_170 : decode prog_3_method_6_code 170 = .ok (.getfield 24, 3) := by decide +kernel
theorem d_De_readInformation_173 : decode prog_3_method_6_code 173 = .ok (.iconst 1, 1) := by decide +kernel
theorem d_De_readInformation_174 : decode prog_3_method_6_code 174 = .ok (.invokevirtual 96, 3) := by decide +kernel
theorem d_De_readInformation_177 : decode prog_3_method_6_code 177 = .ok (.iconst 1, 1) := by decide +kernel
theorem d_De_readInformation_178 : decode prog_3_method_6_code 178 = .ok (.if_icmp .ne 7, 3) := by decide +kernel
theorem d_De_readInformation_181 : decode prog_3_method_6_code 181 = .ok (.iconst 1, 1) := by decide +kernel
theorem d_De_readInformation_182 : decode prog_3_method_6_code 182 = .ok (.goto 4, 3) := by decide +kernel
theorem d_De_readInformation_185 : decode prog_3_method_6_code 185 = .ok (.iconst 0, 1) := by decide +kernel
theorem d_De_readInformation_186 : decode prog_3_method_6_code 186 = .ok (.istore_n 1, 1) := by decide +kernel
theorem d_De_readInformation_187 : decode prog_3_method_6_code 187 = .ok (.aload_n 0, 1) := by decide +kernel
theorem d_De_readInformation_188 : decode prog_3_method_6_code 188 = .ok (.getfield 24, 3) := by decide +kernel
theorem d_De_readInformation_191 : decode prog_3_method_6_code 191 = .ok (.bipush 7, 2) := by decide +kernel
theorem d_De_readInformation_193 : decode prog_3_method_6_code 193 = .ok (.invokevirtual 96, 3) := by decide +kernel
theorem d_De_readInformation_196 : decode prog_3_method_6_code 196 = .ok (.istore_n 2, 1) := by decide +kernel
theorem d_De_readInformation_197 : decode prog_3_method_6_code 197 = .ok (.aload_n 0, 1) := by decide +kernel
theorem d_De_readInformation_198 : decode prog_3_method_6_code 198 = .ok (.getfield 24, 3) := by decide +kernel
theorem d_De_readInformation_201 : decode prog_3_method_6_code 201 = .ok (.bipush 24, 2) := by decide +kernel
theorem d_De_readInformation_203 : decode prog_3_method_6_code 203 = .ok (.invokevirtual 96, 3) := by decide +kernel
theorem d_De_readInformation_206 : decode prog_3_method_6_code 206 = .ok (.istore 4, 2) := by decide +kernel
theorem d_De_readInformation_208 : decode prog_3_method_6_code 208 = .ok (.aload_n 0, 1) := by decide +kernel
theorem d_De_readInformation_209 : decode prog_3_method_6_code 209 = .ok (.getfield 24, 3) := by decide +kernel
theorem d_De_readInformation_212 : decode prog_3_method_6_code 212 = .ok (.iload_n 2, 1) := by decide +kernel
theorem d_De_readInformation_213 : decode prog_3_method_6_code 213 = .ok (.ifCond .eq 13, 3) := by decide +kernel
theorem d_De_readInformation_216 : decode prog_3_method_6_code 216 = .ok (.iload_n 2, 1) := by decide +kernel
theorem d_De_readInformation_217 : decode prog_3_method_6_code 217 = .ok (.bipush 127, 2) := by decide +kernel
theorem d_De_readInformation_219 : decode prog_3_method_6_code 219 = .ok (.if_icmp .eq 7, 3) := by decide +kernel
theorem d_De_readInformation_222 : decode prog_3_method_6_code 222 = .ok (.iconst 1, 1) := by decide +kernel
theorem d_De_readInformation_223 : decode prog_3_method_6_code 223 = .ok (.goto 4, 3) := by decide +kernel
theorem d_De_readInformation_226 : decode prog_3_method_6_code 226 = .ok (.iconst 0, 1) := by decide +kernel
theorem d_De_readInformation_227 : decode prog_3_method_6_code 227 = .ok (.iconst 2, 1) := by decide +kernel
theorem d_De_readInformation_228 : decode prog_3_method_6_code 228 = .ok (.invokevirtual 92, 3) := by decide +kernel
theorem d_De_readInformation_231 : decode prog_3_method_6_code 231 = .ok (.aload_n 0, 1) := by decide +kernel
theorem d_De_readInformation_232 : decode prog_3_method_6_code 232 = .ok (.getfield 24, 3) := by decide +kernel
theorem d_De_readInformation_235 : decode prog_3_method_6_code 235 = .ok (.iload 4, 2) := by decide +kernel
theorem d_De_readInformation_237 : decode prog_3_method_6_code 237 = .ok (.invokevirtual 106, 3) := by decide +kernel
theorem d_De_readInformation_240 : decode prog_3_method_6_code 240 = .ok (.iinc 3 1, 3) := by decide +kernel
theorem d_De_readInformation_243 : decode prog_3_method_6_code 243 = .ok (.goto (-92), 3) := by decide +kernel
theorem d_De_readInformation_246 : decode prog_3_method_6_code 246 = .ok (.return_, 1) := by decide +kernel
theorem d_De_readSoundInformation_0 : decode prog_3_method_7_code 0 = .ok (.aload_n 0, 1) := by decide +kernel
theorem d_De_readSoundInformation_1 : decode prog_3_method_7_code 1 = .ok (.getfield 24, 3) := by decide +kernel
theorem d_De_readSoundInformation_4 : decode prog_3_method_7_code 4 = .ok (.invokevirtual 110, 3) := by decide +kernel
theorem d_De_readSoundInformation_7 : decode prog_3_method_7_code 7 = .ok (.istore_n 1, 1) := by decide +kernel
theorem d_De_readSoundInformation_8 : decode prog_3_method_7_code 8 = .ok (.aload_n 0, 1) := by decide +kernel
theorem d_De_readSoundInformation_9 : decode prog_3_method_7_code 9 = .ok (.aload_n 0, 1) := by decide +kernel
theorem d_De_readSoundInformation_10 : decode prog_3_method_7_code 10 = .ok (.getfield 24, 3) := by decide +kernel
theorem d_De_readSoundInformation_13 : decode prog_3_method_7_code 13 = .ok (.bipush 16, 2) := by decide +kernel
theorem d_De_readSoundInformation_15 : decode prog_3_method_7_code 15 = .ok (.invokevirtual 96, 3) := by decide +kernel
theorem d_De_readSoundInformation_18 : decode prog_3_method_7_code 18 = .ok (.putfield 114, 3) := by decide +kernel
theorem d_De_readSoundInformation_21 : decode prog_3_method_7_code 21 = .ok (.aload_n 0, 1) := by decide +kernel
theorem d_De_readSoundInformation_22 : decode prog_3_method_7_code 22 = .ok (.getfield 24, 3) := by decide +kernel
theorem d_De_readSoundInformation_25 : decode prog_3_method_7_code 25 = .ok (.bipush 16, 2) := by decide +kernel
theorem d_De_readSoundInformation_27 : decode prog_3_method_7_code 27 = .ok (.invokevirtual 96, 3) := by decide +kernel
theorem d_De_readSoundInformation_30 : decode prog_3_method_7_code 30 = .ok (.istore_n 2, 1) := by decide +kernel
theorem d_De_readSoundInformation_31 : decode prog_3_method_7_code 31 = .ok (.aload_n 0, 1) := by decide +kernel
theorem d_De_readSoundInformation_32 : decode prog_3_method_7_code 32 = .ok (.getfield 24, 3) := by decide +kernel
theorem d_De_readSoundInformation_35 : decode prog_3_method_7_code 35 = .ok (.bipush 6, 2) := by decide +kernel
theorem d_De_readSoundInformation_37 : decode prog_3_method_7_code 37 = .ok (.invokevirtual 106, 3) := by decide +kernel
theorem d_De_readSoundInformation_40 : decode prog_3_method_7_code 40 = .ok (.aload_n 0, 1) := by decide +kernel
theorem d_De_readSoundInformation_41 : decode prog_3_method_7_code 41 = .ok (.getfield 24, 3) := by decide +kernel
theorem d_De_readSoundInformation_44 : decode prog_3_method_7_code 44 = .ok (.bipush 20, 2) := by decide +kernel
theorem d_De_readSoundInformation_46 : decode prog_3_method_7_code 46 = .ok (.invokevirtual 96, 3) := by decide +kernel
theorem d_De_readSoundInformation_49 : decode prog_3_method_7_code 49 = .ok (.istore_n 3, 1) := by decide +kernel
theorem d_De_readSoundInformation_50 : decode prog_3_method_7_code 50 = .ok (.aload_n 0, 1) := by decide +kernel
theorem d_De_readSoundInformation_51 : decode prog_3_method_7_code 51 = .ok (.getfield 24, 3) := by decide +kernel
theorem d_De_readSoundInformation_54 : decode prog_3_method_7_code 54 = .ok (.iconst 3, 1) := by decide +kernel
theorem d_De_readSoundInformation_55 : decode prog_3_method_7_code 55 = .ok (.invokevirtual 96, 3) := by decide +kernel
theorem d_De_readSoundInformation_58 : decode prog_3_method_7_code 58 = .ok (.iconst 1, 1) := by decide +kernel
theorem d_De_readSoundInformation_59 : decode prog_3_method_7_code 59 = .ok (.iadd, 1) := by decide +kernel
theorem d_De_readSoundInformation_60 : decode prog_3_method_7_code 60 = .ok (.istore 4, 2) := by decide +kernel
theorem d_De_readSoundInformation_62 : decode prog_3_method_7_code 62 = .ok (.aload_n 0, 1) := by decide +kernel
theorem d_De_readSoundInformation_63 : decode prog_3_method_7_code 63 = .ok (.getfield 24, 3) := by decide +kernel
theorem d_De_readSoundInformation_66 : decode prog_3_method_7_code 66 = .ok (.iconst 5, 1) := by decide +kernel
theorem d_De_readSoundInformation_67 : decode prog_3_method_7_code 67 = .ok (.invokevirtual 96, 3) := by decide +kernel
theorem d_De_readSoundInformation_70 : decode prog_3_method_7_code 70 = .ok (.iconst 1, 1) := by decide +kernel
theorem d_De_readSoundInformation_71 : decode prog_3_method_7_code 71 = .ok (.iadd, 1) := by decide +kernel
theorem d_De_readSoundInformation_72 : decode prog_3_method_7_code 72 = .ok (.istore 5, 2) := by decide +kernel
theorem d_De_readSoundInformation_74 : decode prog_3_method_7_code 74 = .ok (.aload_n 0, 1) := by decide +kernel
theorem d_De_readSoundInformation_75 : decode prog_3_method_7_code 75 = .ok (.getfield 24, 3) := by decide +kernel
theorem d_De_readSoundInformation_78 : decode prog_3_method_7_code 78 = .ok (.bipush 18, 2) := by decide +kernel
theorem d_De_readSoundInformation_80 : decode prog_3_method_7_code 80 = .ok (.invokevirtual 96, 3) := by decide +kernel
theorem d_De_readSoundInformation_83 : decode prog_3_method_7_code 83 = .ok (.i2l, 1) := by decide +kernel
theorem d_De_readSoundInformation_84 : decode prog_3_method_7_code 84 = .ok (.bipush 18, 2) := by decide +kernel
theorem d_De_readSoundInformation_86 : decode prog_3_method_7_code 86 = .ok (.lshl, 1) := by decide +kernel
theorem d_De_readSoundInformation_87 : decode prog_3_method_7_code 87 = .ok (.aload_n 0, 1) := by decide +kernel
theorem d_De_readSoundInformation_88 : decode prog_3_method_7_code 88 = .ok (.getfield 24, 3) := by decide +kernel
theorem d_De_readSoundInformation_91 : decode prog_3_method_7_code 91 = .ok (.bipush 18, 2) := by decide +kernel
theorem d_De_readSoundInformation_93 : decode prog_3_method_7_code 93 = .ok (.invokevirtual 96, 3) := by decide +kernel
theorem d_De_readSoundInformation_96 : decode prog_3_method_7_code 96 = .ok (.i2l, 1) := by decide +kernel
theorem d_De_readSoundInformation_97 : decode prog_3_method_7_code 97 = .ok (.lor, 1) := by decide +kernel
theorem d_De_readSoundInformation_98 : decode prog_3_method_7_code 98 = .ok (.lstore 6, 2) := by decide +kernel
theorem d_De_readSoundInformation_100 : decode prog_3_method_7_code 100 = .ok (.aload_n 0, 1) := by decide +kernel
theorem d_De_readSoundInformation_101 : decode prog_3_method_7_code 101 = .ok (.aload_n 0, 1) := by decide +kernel
theorem d_De_readSoundInformation_102 : decode prog_3_method_7_code 102 = .ok (.invokevirtual 117, 3) := by decide +kernel
theorem d_De_readSoundInformation_105 : decode prog_3_method_7_code 105 = .ok (.putfield 121, 3) := by decide +kernel
theorem d_De_readSoundInformation_108 : decode prog_3_method_7_code 108 = .ok (.aload_n 0, 1) := by decide +kernel
theorem d_De_readSoundInformation_109 : decode prog_3_method_7_code 109 = .ok (.aload_n 0, 1) := by decide +kernel
theorem d_De_readSoundInformation_110 : decode prog_3_method_7_code 110 = .ok (.invokevirtual 117, 3) := by decide +kernel
theorem d_De_readSoundInformation_113 : decode prog_3_method_7_code 113 = .ok (.putfield 125, 3) := by decide +kernel
theorem d_De_readSoundInformation_116 : decode prog_3_method_7_code 116 = .ok (.aload_n 0, 1) := by decide +kernel
theorem d_De_readSoundInformation_117 : decode prog_3_method_7_code 117 = .ok (.getfield 24, 3) := by decide +kernel
theorem d_De_readSoundInformation_120 : decode prog_3_method_7_code 120 = .ok (.iload_n 1, 1) := by decide +kernel
theorem d_De_readSoundInformation_121 : decode prog_3_method_7_code 121 = .ok (.putfield 128, 3) := by decide +kernel
theorem d_De_readSoundInformation_124 : decode prog_3_method_7_code 124 = .ok (.aload_n 0, 1) := by decide +kernel
theorem d_De_readSoundInformation_125 : decode prog_3_method_7_code 125 = .ok (.getfield 24, 3) := by decide +kernel
theorem d_De_readSoundInformation_128 : decode prog_3_method_7_code 128 = .ok (.aload_n 0, 1) := by decide +kernel
theorem d_De_readSoundInformation_129 : decode prog_3_method_7_code 129 = .ok (.getfield 114, 3) := by decide +kernel
theorem d_De_readSoundInformation_132 : decode prog_3_method_7_code 132 = .ok (.bipush 16, 2) := by decide +kernel
theorem d_De_readSoundInformation_134 : decode prog_3_method_7_code 134 = .ok (.if_icmp .lt 19, 3) := by decide +kernel
theorem d_De_readSoundInformation_137 : decode prog_3_method_7_code 137 = .ok (.aload_n 0, 1) := by decide +kernel
theorem d_De_readSoundInformation_138 : decode prog_3_method_7_code 138 = .ok (.getfield 114, 3) := by decide +kernel
theorem d_De_readSoundInformation_141 : decode prog_3_method_7_code 141 = .ok (.iload_n 2, 1) := by decide +kernel
theorem d_De_readSoundInformation_142 : decode prog_3_method_7_code 142 = .ok (.if_icmp .gt 11, 3) := by decide +kernel
theorem d_De_readSoundInformation_145 : decode prog_3_method_7_code 145 = .ok (.iload_n 3, 1) := by decide +kernel
theorem d_De_readSoundInformation_146 : decode prog_3_method_7_code 146 = .ok (.ifCond .le 7, 3) := by decide +kernel
theorem d_De_readSoundInformation_149 : decode prog_3_method_7_code 149 = .ok (.iconst 1, 1) := by decide +kernel
theorem d_De_readSoundInformation_150 : decode prog_3_method_7_code 150 = .ok (.goto 4, 3) := by decide +kernel
theorem d_De_readSoundInformation_153 : decode prog_3_method_7_code 153 = .ok (.iconst 0, 1) := by decide +kernel
theorem d_De_readSoundInformation_154 : decode prog_3_method_7_code 154 = .ok (.iconst 3, 1) := by decide +kernel
theorem d_De_readSoundInformation_155 : decode prog_3_method_7_code 155 = .ok (.invokevirtual 92, 3) := by decide +kernel
theorem d_De_readSoundInformation_158 : decode prog_3_method_7_code 158 = .ok (.aload_n 0, 1) := by decide +kernel
theorem d_De_readSoundInformation_159 : decode prog_3_method_7_code 159 = .ok (.getfield 24, 3) := by decide +kernel
theorem d_De_readSoundInformation_162 : decode prog_3_method_7_code 162 = .ok (.iload 4, 2) := by decide +kernel
theorem d_De_readSoundInformation_164 : decode prog_3_method_7_code 164 = .ok (.iconst 2, 1) := by decide +kernel
theorem d_De_readSoundInformation_165 : decode prog_3_method_7_code 165 = .ok (.if_icmp .gt 16, 3) := by decide +kernel
theorem d_De_readSoundInformation_168 : decode prog_3_method_7_code 168 = .ok (.lload 6, 2) := by decide +kernel
theorem d_De_readSoundInformation_170 : decode prog_3_method_7_code 170 = .ok (.ldc2_w 131, 3) := by decide +kernel
theorem d_De_readSoundInformation_173 : decode prog_3_method_7_code 173 = .ok (.lcmp, 1) := by decide +kernel
theorem d_De_readSoundInformation_174 : decode prog_3_method_7_code 174 = .ok (.ifCond .gt 7, 3) := by decide +kernel
theorem d_De_readSoundInformation_177 : decode prog_3_method_7_code 177 = .ok (.iconst 1, 1) := by decide +kernel
theorem d_De_readSoundInformation_178 : decode prog_3_method_7_code 178 = .ok (.goto 4, 3) := by decide +kernel
theorem d_De_readSoundInformation_181 : decode prog_3_method_7_code 181 = .ok (.iconst 0, 1) := by decide +kernel
theorem d_De_readSoundInformation_182 : decode prog_3_method_7_code 182 = .ok (.iconst 3, 1) := by decide +kernel
theorem d_De_readSoundInformation_183 : decode prog_3_method_7_code 183 = .ok (.invokevirtual 92, 3) := by decide +kernel
theorem d_De_readSoundInformation_186 : decode prog_3_method_7_code 186 = .ok (.aload_n 0, 1) := by decide +kernel
theorem d_De_readSoundInformation_187 : decode prog_3_method_7_code 187 = .ok (.getfield 24, 3) := by decide +kernel
theorem d_De_readSoundInformation_190 : decode prog_3_method_7_code 190 = .ok (.iload 5, 2) := by decide +kernel
theorem d_De_readSoundInformation_192 : decode prog_3_method_7_code 192 = .ok (.iconst 4, 1) := by decide +kernel
theorem d_De_readSoundInformation_193 : decode prog_3_method_7_code 193 = .ok (.if_icmp .lt 14, 3) := by decide +kernel
theorem d_De_readSoundInformation_196 : decode prog_3_method_7_code 196 = .ok (.iload 5, 2) := by decide +kernel
theorem d_De_readSoundInformation_198 : decode prog_3_method_7_code 198 = .ok (.bipush 24, 2) := by decide +kernel
theorem d_De_readSoundInformation_200 : decode prog_3_method_7_code 200 = .ok (.if_icmp .gt 7, 3) := by decide +kernel
theorem d_De_readSoundInformation_203 : decode prog_3_method_7_code 203 = .ok (.iconst 1, 1) := by decide +kernel
theorem d_De_readSoundInformation_204 : decode prog_3_method_7_code 204 = .ok (.goto 4, 3) := by decide +kernel
theorem d_De_readSoundInformation_207 : decode prog_3_method_7_code 207 = .ok (.iconst 0, 1) := by decide +kernel
theorem d_De_readSoundInformation_208 : decode prog_3_method_7_code 208 = .ok (.iconst 3, 1) := by decide +kernel
theorem d_De_readSoundInformation_209 : decode prog_3_method_7_code 209 = .ok (.invokevirtual 92, 3) := by decide +kernel
theorem d_De_readSoundInformation_212 : decode prog_3_method_7_code 212 = .ok (.aload_n 0, 1) := by decide +kernel
theorem d_De_readSoundInformation_213 : decode prog_3_method_7_code 213 = .ok (.getfield 40, 3) := by decide +kernel
theorem d_De_readSoundInformation_216 : decode prog_3_method_7_code 216 = .ok (.iload 4, 2) := by decide +kernel
theorem d_De_readSoundInformation_218 : decode prog_3_method_7_code 218 = .ok (.iload 5, 2) := by decide +kernel
theorem d_De_readSoundInformation_220 : decode prog_3_method_7_code 220 = .ok (.iload_n 2, 1) := by decide +kernel
theorem d_De_readSoundInformation_221 : decode prog_3_method_7_code 221 = .ok (.iload_n 3, 1) := by decide +kernel
theorem d_De_readSoundInformation_222 : decode prog_3_method_7_code 222 = .ok (.invokevirtual 133, 3) := by decide +kernel
theorem d_De_readSoundInformation_225 : decode prog_3_method_7_code 225 = .ok (.aload_n 0, 1) := by decide +kernel
theorem d_De_readSoundInformation_226 : decode prog_3_method_7_code 226 = .ok (.lload 6, 2) := by decide +kernel
theorem d_De_readSoundInformation_228 : decode prog_3_method_7_code 228 = .ok (.l2i, 1) := by decide +kernel
theorem d_De_readSoundInformation_229 : decode prog_3_method_7_code 229 = .ok (.putfield 137, 3) := by decide +kernel
theorem d_De_readSoundInformation_232 : decode prog_3_method_7_code 232 = .ok (.aload_n 0, 1) := by decide +kernel
theorem d_De_readSoundInformation_233 : decode prog_3_method_7_code 233 = .ok (.aload_n 0, 1) := by decide +kernel
theorem d_De_readSoundInformation_234 : decode prog_3_method_7_code 234 = .ok (.getfield 121, 3) := by decide +kernel
theorem d_De_readSoundInformation_237 : decode prog_3_method_7_code 237 = .ok (.lconst 0, 1) := by decide +kernel
theorem d_De_readSoundInformation_238 : decode prog_3_method_7_code 238 = .ok (.lcmp, 1) := by decide +kernel
theorem d_De_readSoundInformation_239 : decode prog_3_method_7_code 239 = .ok (.ifCond .ne 12, 3) := by decide +kernel
theorem d_De_readSoundInformation_242 : decode prog_3_method_7_code 242 = .ok (.aload_n 0, 1) := by decide +kernel
theorem d_De_readSoundInformation_243 : decode prog_3_method_7_code 243 = .ok (.getfield 125, 3) := by decide +kernel
theorem d_De_readSoundInformation_246 : decode prog_3_method_7_code 246 = .ok (.lconst 0, 1) := by decide +kernel
theorem d_De_readSoundInformation_247 : decode prog_3_method_7_code 247 = .ok (.lcmp, 1) := by decide +kernel
theorem d_De_readSoundInformation_248 : decode prog_3_method_7_code 248 = .ok (.ifCond .eq 7, 3) := by decide +kernel
theorem d_De_readSoundInformation_251 : decode prog_3_method_7_code 251 = .ok (.iconst 1, 1) := by decide +kernel
theorem d_De_readSoundInformation_252 : decode prog_3_method_7_code 252 = .ok (.goto 4, 3) := by decide +kernel
theorem d_De_readSoundInformation_255 : decode prog_3_method_7_code 255 = .ok (.iconst 0, 1) := by decide +kernel
theorem d_De_readSoundInformation_256 : decode prog_3_method_7_code 256 = .ok (.putfield 81, 3) := by decide +kernel
theorem d_De_readSoundInformation_259 : decode prog_3_method_7_code 259 = .ok (.return_, 1) := by decide +kernel
theorem d_De_readEight_0 : decode prog_3_method_8_code 0 = .ok (.lconst 0, 1) := by decide +kernel
theorem d_De_readEight_1 : decode prog_3_method_8_code 1 = .ok (.lstore_n 1, 1) := by decide +kernel
theorem d_De_readEight_2 : decode prog_3_method_8_code 2 = .ok (.iconst 0, 1) := by decide +kernel
theorem d_De_readEight_3 : decode prog_3_method_8_code 3 = .ok (.istore_n 3, 1) := by decide +kernel
theorem d_De_readEight_4 : decode prog_3_method_8_code 4 = .ok (.iload_n 3, 1) := by decide +kernel
theorem d_De_readEight_5 : decode prog_3_method_8_code 5 = .ok (.bipush 8, 2) := by decide +kernel
theorem d_De_readEight_7 : decode prog_3_method_8_code 7 = .ok (.if_icmp .ge 27, 3) := by decide +kernel
theorem d_De_readEight_10 : decode prog_3_method_8_code 10 = .ok (.lload_n 1, 1) := by decide +kernel
theorem d_De_readEight_11 : decode prog_3_method_8_code 11 = .ok (.aload_n 0, 1) := by decide +kernel
theorem d_De_readEight_12 : decode prog_3_method_8_code 12 = .ok (.getfield 24, 3) := by decide +kernel
theorem d_De_readEight_15 : decode prog_3_method_8_code 15 = .ok (.bipush 8, 2) := by decide +kernel
theorem d_De_readEight_17 : decode prog_3_method_8_code 17 = .ok (.invokevirtual 96, 3) := by decide +kernel
theorem d_De_readEight_20 : decode prog_3_method_8_code 20 = .ok (.i2l, 1) := by decide +kernel
theorem d_De_readEight_21 : decode prog_3_method_8_code 21 = .ok (.bipush 8, 2) := by decide +kernel
theorem d_De_readEight_23 : decode prog_3_method_8_code 23 = .ok (.iload_n 3, 1) := by decide +kernel
theorem d_De_readEight_24 : decode prog_3_method_8_code 24 = .ok (.imul, 1) := by decide +kernel
theorem d_De_readEight_25 : decode prog_3_method_8_code 25 = .ok (.lshl, 1) := by decide +kernel
theorem d_De_readEight_26 : decode prog_3_method_8_code 26 = .ok (.lor, 1) := by decide +kernel
theorem d_De_readEight_27 : decode prog_3_method_8_code 27 = .ok (.lstore_n 1, 1) := by decide +kernel
theorem d_De_readEight_28 : decode prog_3_method_8_code 28 = .ok (.iinc 3 1, 3) := by decide +kernel
theorem d_De_readEight_31 : decode prog_3_method_8_code 31 = .ok (.goto (-27), 3) := by decide +kernel
theorem d_De_readEight_34 : decode prog_3_method_8_code 34 = .ok (.lload_n 1, 1) := by decide +kernel
theorem d_De_readEight_35 : decode prog_3_method_8_code 35 = .ok (.lreturn, 1) := by decide +kernel
theorem d_De_readFrame_0 : decode prog_3_method_9_code 0 = .ok (.aload_n 0, 1) := by decide +kernel
theorem d_De_readFrame_1 : decode prog_3_method_9_code 1 = .ok (.getfield 24, 3) := by decide +kernel
theorem d_De_readFrame_4 : decode prog_3_method_9_code 4 = .ok (.invokevirtual 100, 3) := by decide +kernel
theorem d_De_readFrame_7 : decode prog_3_method_9_code 7 = .ok (.aload_n 0, 1) := by decide +kernel
theorem d_De_readFrame_8 : decode prog_3_method_9_code 8 = .ok (.invokevirtual 140, 3) := by decide +kernel
theorem d_De_readFrame_11 : decode prog_3_method_9_code 11 = .ok (.aload_n 0, 1) := by decide +kernel
theorem d_De_readFrame_12 : decode prog_3_method_9_code 12 = .ok (.getfield 9, 3) := by decide +kernel
theorem d_De_readFrame_15 : decode prog_3_method_9_code 15 = .ok (.bipush 8, 2) := by decide +kernel
theorem d_De_readFrame_17 : decode prog_3_method_9_code 17 = .ok (.aload_n 0, 1) := by decide +kernel
theorem d_De_readFrame_18 : decode prog_3_method_9_code 18 = .ok (.getfield 24, 3) := by decide +kernel
theorem d_De_readFrame_21 : decode prog_3_method_9_code 21 = .ok (.getfield 128, 3) := by decide +kernel
theorem d_De_readFrame_24 : decode prog_3_method_9_code 24 = .ok (.aload_n 0, 1) := by decide +kernel
theorem d_De_readFrame_25 : decode prog_3_method_9_code 25 = .ok (.getfield 24, 3) := by decide +kernel
theorem d_De_readFrame_28 : decode prog_3_method_9_code 28 = .ok (.invokevirtual 110, 3) := by decide +kernel
theorem d_De_readFrame_31 : decode prog_3_method_9_code 31 = .ok (.invokevirtual 143, 3) := by decide +kernel
theorem d_De_readFrame_34 : decode prog_3_method_9_code 34 = .ok (.istore_n 1, 1) := by decide +kernel
theorem d_De_readFrame_35 : decode prog_3_method_9_code 35 = .ok (.aload_n 0, 1) := by decide +kernel
theorem d_De_readFrame_36 : decode prog_3_method_9_code 36 = .ok (.getfield 24, 3) := by decide +kernel
theorem d_De_readFrame_39 : decode prog_3_method_9_code 39 = .ok (.aload_n 0, 1) := by decide +kernel
theorem d_De_readFrame_40 : decode prog_3_method_9_code 40 = .ok (.getfield 24, 3) := by decide +kernel
theorem d_De_readFrame_43 : decode prog_3_method_9_code 43 = .ok (.bipush 8, 2) := by decide +kernel
theorem d_De_readFrame_45 : decode prog_3_method_9_code 45 = .ok (.invokevirtual 96, 3) := by decide +kernel
theorem d_De_readFrame_48 : decode prog_3_method_9_code 48 = .ok (.iload_n 1, 1) := by decide +kernel
theorem d_De_readFrame_49 : decode prog_3_method_9_code 49 = .ok (.if_icmp .ne 7, 3) := by decide +kernel
theorem d_De_readFrame_52 : decode prog_3_method_9_code 52 = .ok (.iconst 1, 1) := by decide +kernel
theorem d_De_readFrame_53 : decode prog_3_method_9_code 53 = .ok (.goto 4, 3) := by decide +kernel
theorem d_De_readFrame_56 : decode prog_3_method_9_code 56 = .ok (.iconst 0, 1) := by decide +kernel
theorem d_De_readFrame_57 : decode prog_3_method_9_code 57 = .ok (.bipush 8, 2) := by decide +kernel
theorem d_De_readFrame_59 : decode prog_3_method_9_code 59 = .ok (.invokevirtual 92, 3) := by decide +kernel
theorem d_De_readFrame_62 : decode prog_3_method_9_code 62 = .ok (.aload_n 0, 1) := by decide +kernel
theorem d_De_readFrame_63 : decode prog_3_method_9_code 63 = .ok (.getfield 40, 3) := by decide +kernel
theorem d_De_readFrame_66 : decode prog_3_method_9_code 66 = .ok (.getfield 77, 3) := by decide +kernel
theorem d_De_readFrame_69 : decode prog_3_method_9_code 69 = .ok (.iconst 0, 1) := by decide +kernel
theorem d_De_readFrame_70 : decode prog_3_method_9_code 70 = .ok (.iaload, 1) := by decide +kernel
theorem d_De_readFrame_71 : decode prog_3_method_9_code 71 = .ok (.istore_n 2, 1) := by decide +kernel
theorem d_De_readFrame_72 : decode prog_3_method_9_code 72 = .ok (.aload_n 0, 1) := by decide +kernel
theorem d_De_readFrame_73 : decode prog_3_method_9_code 73 = .ok (.getfield 147, 3) := by decide +kernel
theorem d_De_readFrame_76 : decode prog_3_method_9_code 76 = .ok (.bipush 9, 2) := by decide +kernel
theorem d_De_readFrame_78 : decode prog_3_method_9_code 78 = .ok (.if_icmp .ne 7, 3) := by decide +kernel
theorem d_De_readFrame_81 : decode prog_3_method_9_code 81 = .ok (.iconst 1, 1) := by decide +kernel
theorem d_De_readFrame_82 : decode prog_3_method_9_code 82 = .ok (.goto 4, 3) := by decide +kernel
theorem d_De_readFrame_85 : decode prog_3_method_9_code 85 = .ok (.iconst 0, 1) := by decide +kernel
theorem d_De_readFrame_86 : decode prog_3_method_9_code 86 = .ok (.istore_n 3, 1) := by decide +kernel
theorem d_De_readFrame_87 : decode prog_3_method_9_code 87 = .ok (.aload_n 0, 1) := by decide +kernel
theorem d_De_readFrame_88 : decode prog_3_method_9_code 88 = .ok (.getfield 33, 3) := by decide +kernel
theorem d_De_readFrame_91 : decode prog_3_method_9_code 91 = .ok (.aload_n 0, 1) := by decide +kernel
theorem d_De_readFrame_92 : decode prog_3_method_9_code 92 = .ok (.getfield 40, 3) := by decide +kernel
theorem d_De_readFrame_95 : decode prog_3_method_9_code 95 = .ok (.getfield 150, 3) := by decide +kernel
theorem d_De_readFrame_98 : decode prog_3_method_9_code 98 = .ok (.iconst 0, 1) := by decide +kernel
theorem d_De_readFrame_99 : decode prog_3_method_9_code 99 = .ok (.aaload, 1) := by decide +kernel
theorem d_De_readFrame_100 : decode prog_3_method_9_code 100 = .ok (.iload_n 2, 1) := by decide +kernel
theorem d_De_readFrame_101 : decode prog_3_method_9_code 101 = .ok (.aload_n 0, 1) := by decide +kernel
theorem d_De_readFrame_102 : decode prog_3_method_9_code 102 = .ok (.getfield 58, 3) := by decide +kernel
theorem d_De_readFrame_105 : decode prog_3_method_9_code 105 = .ok (.aload_n 0, 1) := by decide +kernel
theorem d_De_readFrame_106 : decode prog_3_method_9_code 106 = .ok (.getfield 40, 3) := by decide +kernel
theorem d_De_readFrame_109 : decode prog_3_method_9_code 109 = .ok (.getfield 68, 3) := by decide +kernel
theorem d_De_readFrame_112 : decode prog_3_method_9_code 112 = .ok (.iload_n 3, 1) := by decide +kernel
theorem d_De_readFrame_113 : decode prog_3_method_9_code 113 = .ok (.ifCond .eq 7, 3) := by decide +kernel
theorem d_De_readFrame_116 : decode prog_3_method_9_code 116 = .ok (.iconst 1, 1) := by decide +kernel
theorem d_De_readFrame_117 : decode prog_3_method_9_code 117 = .ok (.goto 4, 3) := by decide +kernel
theorem d_De_readFrame_120 : decode prog_3_method_9_code 120 = .ok (.iconst 0, 1) := by decide +kernel
theorem d_De_readFrame_121 : decode prog_3_method_9_code 121 = .ok (.iadd, 1) := by decide +kernel
theorem d_De_readFrame_122 : decode prog_3_method_9_code 122 = .ok (.invokevirtual 154, 3) := by decide +kernel
theorem d_De_readFrame_125 : decode prog_3_method_9_code 125 = .ok (.aload_n 0, 1) := by decide +kernel
theorem d_De_readFrame_126 : decode prog_3_method_9_code 126 = .ok (.getfield 40, 3) := by decide +kernel
theorem d_De_readFrame_129 : decode prog_3_method_9_code 129 = .ok (.getfield 65, 3) := by decide +kernel
theorem d_De_readFrame_132 : decode prog_3_method_9_code 132 = .ok (.iconst 2, 1) := by decide +kernel
theorem d_De_readFrame_133 : decode prog_3_method_9_code 133 = .ok (.if_icmp .ne 88, 3) := by decide +kernel
theorem d_De_readFrame_136 : decode prog_3_method_9_code 136 = .ok (.aload_n 0, 1) := by decide +kernel
theorem d_De_readFrame_137 : decode prog_3_method_9_code 137 = .ok (.getfield 147, 3) := by decide +kernel
theorem d_De_readFrame_140 : decode prog_3_method_9_code 140 = .ok (.bipush 8, 2) := by decide +kernel
theorem d_De_readFrame_142 : decode prog_3_method_9_code 142 = .ok (.if_icmp .eq 12, 3) := by decide +kernel
theorem d_De_readFrame_145 : decode prog_3_method_9_code 145 = .ok (.aload_n 0, 1) := by decide +kernel
theorem d_De_readFrame_146 : decode prog_3_method_9_code 146 = .ok (.getfield 147, 3) := by decide +kernel
theorem d_De_readFrame_149 : decode prog_3_method_9_code 149 = .ok (.bipush 10, 2) := by decide +kernel
theorem d_De_readFrame_151 : decode prog_3_method_9_code 151 = .ok (.if_icmp .ne 7, 3) := by decide +kernel
theorem d_De_readFrame_154 : decode prog_3_method_9_code 154 = .ok (.iconst 1, 1) := by decide +kernel
theorem d_De_readFrame_155 : decode prog_3_method_9_code 155 = .ok (.goto 4, 3) := by decide +kernel
theorem d_De_readFrame_158 : decode prog_3_method_9_code 158 = .ok (.iconst 0, 1) := by decide +kernel
theorem d_De_readFrame_159 : decode prog_3_method_9_code 159 = .ok (.istore 4, 2) := by decide +kernel
theorem d_De_readFrame_161 : decode prog_3_method_9_code 161 = .ok (.aload_n 0, 1) := by decide +kernel
theorem d_De_readFrame_162 : decode prog_3_method_9_code 162 = .ok (.getfield 33, 3) := by decide +kernel
theorem d_De_readFrame_165 : decode prog_3_method_9_code 165 = .ok (.aload_n 0, 1) := by decide +kernel
theorem d_De_readFrame_166 : decode prog_3_method_9_code 166 = .ok (.getfield 40, 3) := by decide +kernel
theorem d_De_readFrame_169 : decode prog_3_method_9_code 169 = .ok (.getfield 150, 3) := by decide +kernel
theorem d_De_readFrame_172 : decode prog_3_method_9_code 172 = .ok (.iconst 1, 1) := by decide +kernel
theorem d_De_readFrame_173 : decode prog_3_method_9_code 173 = .ok (.aaload, 1) := by decide +kernel
theorem d_De_readFrame_174 : decode prog_3_method_9_code 174 = .ok (.iload_n 2, 1) := by decide +kernel
theorem d_De_readFrame_175 : decode prog_3_method_9_code 175 = .ok (.aload_n 0, 1) := by decide +kernel
theorem d_De_readFrame_176 : decode prog_3_method_9_code 176 = .ok (.getfield 58, 3) := by decide +kernel
theorem d_De_readFrame_179 : decode prog_3_method_9_code 179 = .ok (.aload_n 0, 1) := by decide +kernel
theorem d_De_readFrame_180 : decode prog_3_method_9_code 180 = .ok (.getfield 40, 3) := by decide +kernel
theorem d_De_readFrame_183 : decode prog_3_method_9_code 183 = .ok (.getfield 68, 3) := by decide +kernel
theorem d_De_readFrame_186 : decode prog_3_method_9_code 186 = .ok (.iload 4, 2) := by decide +kernel
theorem d_De_readFrame_188 : decode prog_3_method_9_code 188 = .ok (.ifCond .eq 7, 3) := by decide +kernel
theorem d_De_readFrame_191 : decode prog_3_method_9_code 191 = .ok (.iconst 1, 1) := by decide +kernel
theorem d_De_readFrame_192 : decode prog_3_method_9_code 192 = .ok (.goto 4, 3) := by decide +kernel
theorem d_De_readFrame_195 : decode prog_3_method_9_code 195 = .ok (.iconst 0, 1) := by decide +kernel
theorem d_De_readFrame_196 : decode prog_3_method_9_code 196 = .ok (.iadd, 1) := by decide +kernel
theorem d_De_readFrame_197 : decode prog_3_method_9_code 197 = .ok (.invokevirtual 154, 3) := by decide +kernel
theorem d_De_readFrame_200 : decode prog_3_method_9_code 200 = .ok (.aload_n 0, 1) := by decide +kernel
theorem d_De_readFrame_201 : decode prog_3_method_9_code 201 = .ok (.iload_n 2, 1) := by decide +kernel
theorem d_De_readFrame_202 : decode prog_3_method_9_code 202 = .ok (.invokevirtual 158, 3) := by decide +kernel
theorem d_De_readFrame_205 : decode prog_3_method_9_code 205 = .ok (.aload_n 0, 1) := by decide +kernel
theorem d_De_readFrame_206 : decode prog_3_method_9_code 206 = .ok (.getfield 40, 3) := by decide +kernel
theorem d_De_readFrame_209 : decode prog_3_method_9_code 209 = .ok (.getfield 77, 3) := by decide +kernel
theorem d_De_readFrame_212 : decode prog_3_method_9_code 212 = .ok (.iconst 1, 1) := by decide +kernel
theorem d_De_readFrame_213 : decode prog_3_method_9_code 213 = .ok (.dup2, 1) := by decide +kernel
theorem d_De_readFrame_214 : decode prog_3_method_9_code 214 = .ok (.iaload, 1) := by decide +kernel
theorem d_De_readFrame_215 : decode prog_3_method_9_code 215 = .ok (.aload_n 0, 1) := by decide +kernel
theorem d_De_readFrame_216 : decode prog_3_method_9_code 216 = .ok (.getfield 58, 3) := by decide +kernel
theorem d_De_readFrame_219 : decode prog_3_method_9_code 219 = .ok (.iadd, 1) := by decide +kernel
theorem d_De_readFrame_220 : decode prog_3_method_9_code 220 = .ok (.iastore, 1) := by decide +kernel
theorem d_De_readFrame_221 : decode prog_3_method_9_code 221 = .ok (.aload_n 0, 1) := by decide +kernel
theorem d_De_readFrame_222 : decode prog_3_method_9_code 222 = .ok (.getfield 24, 3) := by decide +kernel
theorem d_De_readFrame_225 : decode prog_3_method_9_code 225 = .ok (.aload_n 0, 1) := by decide +kernel
theorem d_De_readFrame_226 : decode prog_3_method_9_code 226 = .ok (.getfield 24, 3) := by decide +kernel
theorem d_De_readFrame_229 : decode prog_3_method_9_code 229 = .ok (.invokevirtual 161, 3) := by decide +kernel
theorem d_De_readFrame_232 : decode prog_3_method_9_code 232 = .ok (.ifCond .ne 7, 3) := by decide +kernel
theorem d_De_readFrame_235 : decode prog_3_method_9_code 235 = .ok (.iconst 1, 1) := by decide +kernel
theorem d_De_readFrame_236 : decode prog_3_method_9_code 236 = .ok (.goto 4, 3) := by decide +kernel
theorem d_De_readFrame_239 : decode prog_3_method_9_code 239 = .ok (.iconst 0, 1) := by decide +kernel
theorem d_De_readFrame_240 : decode prog_3_method_9_code 240 = .ok (.bipush 12, 2) := by decide +kernel
theorem d_De_readFrame_242 : decode prog_3_method_9_code 242 = .ok (.invokevirtual 92, 3) := by decide +kernel
theorem d_De_readFrame_245 : decode prog_3_method_9_code 245 = .ok (.aload_n 0, 1) := by decide +kernel
theorem d_De_readFrame_246 : decode prog_3_method_9_code 246 = .ok (.getfield 9, 3) := by decide +kernel
theorem d_De_readFrame_249 : decode prog_3_method_9_code 249 = .ok (.bipush 16, 2) := by decide +kernel
theorem d_De_readFrame_251 : decode prog_3_method_9_code 251 = .ok (.aload_n 0, 1) := by decide +kernel
theorem d_De_readFrame_252 : decode prog_3_method_9_code 252 = .ok (.getfield 24, 3) := by decide +kernel
theorem d_De_readFrame_255 : decode prog_3_method_9_code 255 = .ok (.getfield 128, 3) := by decide +kernel
theorem d_De_readFrame_258 : decode prog_3_method_9_code 258 = .ok (.aload_n 0, 1) := by decide +kernel
theorem d_De_readFrame_259 : decode prog_3_method_9_code 259 = .ok (.getfield 24, 3) := by decide +kernel
theorem d_De_readFrame_262 : decode prog_3_method_9_code 262 = .ok (.invokevirtual 110, 3) := by decide +kernel
theorem d_De_readFrame_265 : decode prog_3_method_9_code 265 = .ok (.invokevirtual 143, 3) := by decide +kernel
theorem d_De_readFrame_268 : decode prog_3_method_9_code 268 = .ok (.istore 4, 2) := by decide +kernel
theorem d_De_readFrame_270 : decode prog_3_method_9_code 270 = .ok (.aload_n 0, 1) := by decide +kernel
theorem d_De_readFrame_271 : decode prog_3_method_9_code 271 = .ok (.getfield 24, 3) := by decide +kernel
theorem d_De_readFrame_274 : decode prog_3_method_9_code 274 = .ok (.aload_n 0, 1) := by decide +kernel
theorem d_De_readFrame_275 : decode prog_3_method_9_code 275 = .ok (.getfield 24, 3) := by decide +kernel
theorem d_De_readFrame_278 : decode prog_3_method_9_code 278 = .ok (.bipush 16, 2) := by decide +kernel
theorem d_De_readFrame_280 : decode prog_3_method_9_code 280 = .ok (.invokevirtual 96, 3) := by decide +kernel
theorem d_De_readFrame_283 : decode prog_3_method_9_code 283 = .ok (.iload 4, 2) := by decide +kernel
theorem d_De_readFrame_285 : decode prog_3_method_9_code 285 = .ok (.if_icmp .ne 7, 3) := by decide +kernel
theorem d_De_readFrame_288 : decode prog_3_method_9_code 288 = .ok (.iconst 1, 1) := by decide +kernel
theorem d_De_readFrame_289 : decode prog_3_method_9_code 289 = .ok (.goto 4, 3) := by decide +kernel
theorem d_De_readFrame_292 : decode prog_3_method_9_code 292 = .ok (.iconst 0, 1) := by decide +kernel
theorem d_De_readFrame_293 : decode prog_3_method_9_code 293 = .ok (.bipush 12, 2) := by decide +kernel
theorem d_De_readFrame_295 : decode prog_3_method_9_code 295 = .ok (.invokevirtual 92, 3) := by decide +kernel
theorem d_De_readFrame_298 : decode prog_3_method_9_code 298 = .ok (.aload_n 0, 1) := by decide +kernel
theorem d_De_readFrame_299 : decode prog_3_method_9_code 299 = .ok (.getfield 40, 3) := by decide +kernel
theorem d_De_readFrame_302 : decode prog_3_method_9_code 302 = .ok (.getfield 77, 3) := by decide +kernel
theorem d_De_readFrame_305 : decode prog_3_method_9_code 305 = .ok (.iconst 0, 1) := by decide +kernel
theorem d_De_readFrame_306 : decode prog_3_method_9_code 306 = .ok (.dup2, 1) := by decide +kernel
theorem d_De_readFrame_307 : decode prog_3_method_9_code 307 = .ok (.iaload, 1) := by decide +kernel
theorem d_De_readFrame_308 : decode prog_3_method_9_code 308 = .ok (.aload_n 0, 1) := by decide +kernel
theorem d_De_readFrame_309 : decode prog_3_method_9_code 309 = .ok (.getfield 58, 3) := by decide +kernel
theorem d_De_readFrame_312 : decode prog_3_method_9_code 312 = .ok (.iadd, 1) := by decide +kernel
theorem d_De_readFrame_313 : decode prog_3_method_9_code 313 = .ok (.iastore, 1) := by decide +kernel
theorem d_De_readFrame_314 : decode prog_3_method_9_code 314 = .ok (.aload_n 0, 1) := by decide +kernel
theorem d_De_readFrame_315 : decode prog_3_method_9_code 315 = .ok (.dup, 1) := by decide +kernel
theorem d_De_readFrame_316 : decode prog_3_method_9_code 316 = .ok (.getfield 54, 3) := by decide +kernel
theorem d_De_readFrame_319 : decode prog_3_method_9_code 319 = .ok (.iconst 1, 1) := by decide +kernel
theorem d_De_readFrame_320 : decode prog_3_method_9_code 320 = .ok (.iadd, 1) := by decide +kernel
theorem d_De_readFrame_321 : decode prog_3_method_9_code 321 = .ok (.putfield 54, 3) := by decide +kernel
theorem d_De_readFrame_324 : decode prog_3_method_9_code 324 = .ok (.return_, 1) := by decide +kernel
theorem d_De_readHead_0 : decode prog_3_method_10_code 0 = .ok (.aload_n 0, 1) := by decide +kernel
theorem d_De_readHead_1 : decode prog_3_method_10_code 1 = .ok (.getfield 24, 3) := by decide +kernel
theorem d_De_readHead_4 : decode prog_3_method_10_code 4 = .ok (.bipush 16, 2) := by decide +kernel
theorem d_De_readHead_6 : decode prog_3_method_10_code 6 = .ok (.invokevirtual 96, 3) := by decide +kernel
theorem d_De_readHead_9 : decode prog_3_method_10_code 9 = .ok (.istore_n 1, 1) := by decide +kernel
theorem d_De_readHead_10 : decode prog_3_method_10_code 10 = .ok (.aload_n 0, 1) := by decide +kernel
theorem d_De_readHead_11 : decode prog_3_method_10_code 11 = .ok (.getfield 54, 3) := by decide +kernel
theorem d_De_readHead_14 : decode prog_3_method_10_code 14 = .ok (.ifCond .eq 13, 3) := by decide +kernel
theorem d_De_readHead_17 : decode prog_3_method_10_code 17 = .ok (.aload_n 0, 1) := by decide +kernel
theorem d_De_readHead_18 : decode prog_3_method_10_code 18 = .ok (.getfield 164, 3) := by decide +kernel
theorem d_De_readHead_21 : decode prog_3_method_10_code 21 = .ok (.iload_n 1, 1) := by decide +kernel
theorem d_De_readHead_22 : decode prog_3_method_10_code 22 = .ok (.iconst 1, 1) := by decide +kernel
theorem d_De_readHead_23 : decode prog_3_method_10_code 23 = .ok (.iand, 1) := by decide +kernel
theorem d_De_readHead_24 : decode prog_3_method_10_code 24 = .ok (.if_icmp .ne 7, 3) := by decide +kernel
theorem d_De_readHead_27 : decode prog_3_method_10_code 27 = .ok (.iconst 1, 1) := by decide +kernel
theorem d_De_readHead_28 : decode prog_3_method_10_code 28 = .ok (.goto 4, 3) := by decide +kernel
theorem d_De_readHead_31 : decode prog_3_method_10_code 31 = .ok (.iconst 0, 1) := by decide +kernel
theorem d_De_readHead_32 : decode prog_3_method_10_code 32 = .ok (.istore_n 2, 1) := by decide +kernel
theorem d_De_readHead_33 : decode prog_3_method_10_code 33 = .ok (.aload_n 0, 1) := by decide +kernel
theorem d_De_readHead_34 : decode prog_3_method_10_code 34 = .ok (.getfield 24, 3) := by decide +kernel
theorem d_De_readHead_37 : decode prog_3_method_10_code 37 = .ok (.iload_n 1, 1) := by decide +kernel
theorem d_De_readHead_38 : decode prog_3_method_10_code 38 = .ok (.iconst 1, 1) := by decide +kernel
theorem d_De_readHead_39 : decode prog_3_method_10_code 39 = .ok (.ishr, 1) := by decide +kernel
theorem d_De_readHead_40 : decode prog_3_method_10_code 40 = .ok (.sipush 32764, 3) := by decide +kernel
theorem d_De_readHead_43 : decode prog_3_method_10_code 43 = .ok (.if_icmp .ne 11, 3) := by decide +kernel
theorem d_De_readHead_46 : decode prog_3_method_10_code 46 = .ok (.iload_n 2, 1) := by decide +kernel
theorem d_De_readHead_47 : decode prog_3_method_10_code 47 = .ok (.ifCond .eq 7, 3) := by decide +kernel
theorem d_De_readHead_50 : decode prog_3_method_10_code 50 = .ok (.iconst 1, 1) := by decide +kernel
theorem d_De_readHead_51 : decode prog_3_method_10_code 51 = .ok (.goto 4, 3) := by decide +kernel
theorem d_De_readHead_54 : decode prog_3_method_10_code 54 = .ok (.iconst 0, 1) := by decide +kernel
theorem d_De_readHead_55 : decode prog_3_method_10_code 55 = .ok (.iconst 4, 1) := by decide +kernel
theorem d_De_readHead_56 : decode prog_3_method_10_code 56 = .ok (.invokevirtual 92, 3) := by decide +kernel
theorem d_De_readHead_59 : decode prog_3_method_10_code 59 = .ok (.aload_n 0, 1) := by decide +kernel
theorem d_De_readHead_60 : decode prog_3_method_10_code 60 = .ok (.iload_n 1, 1) := by decide +kernel
theorem d_De_readHead_61 : decode prog_3_method_10_code 61 = .ok (.iconst 1, 1) := by decide +kernel
theorem d_De_readHead_62 : decode prog_3_method_10_code 62 = .ok (.iand, 1) := by decide +kernel
theorem d_De_readHead_63 : decode prog_3_method_10_code 63 = .ok (.putfield 164, 3) := by decide +kernel
theorem d_De_readHead_66 : decode prog_3_method_10_code 66 = .ok (.aload_n 0, 1) := by decide +kernel
theorem d_De_readHead_67 : decode prog_3_method_10_code 67 = .ok (.getfield 24, 3) := by decide +kernel
theorem d_De_readHead_70 : decode prog_3_method_10_code 70 = .ok (.bipush 16, 2) := by decide +kernel
theorem d_De_readHead_72 : decode prog_3_method_10_code 72 = .ok (.invokevirtual 96, 3) := by decide +kernel
theorem d_De_readHead_75 : decode prog_3_method_10_code 75 = .ok (.istore_n 3, 1) := by decide +kernel
theorem d_De_readHead_76 : decode prog_3_method_10_code 76 = .ok (.iload_n 3, 1) := by decide +kernel
theorem d_De_readHead_77 : decode prog_3_method_10_code 77 = .ok (.bipush 12, 2) := by decide +kernel
theorem d_De_readHead_79 : decode prog_3_method_10_code 79 = .ok (.ishr, 1) := by decide +kernel
theorem d_De_readHead_80 : decode prog_3_method_10_code 80 = .ok (.istore 4, 2) := by decide +kernel
theorem d_De_readHead_82 : decode prog_3_method_10_code 82 = .ok (.iload_n 3, 1) := by decide +kernel
theorem d_De_readHead_83 : decode prog_3_method_10_code 83 = .ok (.bipush 8, 2) := by decide +kernel
theorem d_De_readHead_85 : decode prog_3_method_10_code 85 = .ok (.ishr, 1) := by decide +kernel
theorem d_De_readHead_86 : decode prog_3_method_10_code 86 = .ok (.bipush 15, 2) := by decide +kernel
theorem d_De_readHead_88 : decode prog_3_method_10_code 88 = .ok (.iand, 1) := by decide +kernel
theorem d_De_readHead_89 : decode prog_3_method_10_code 89 = .ok (.istore 5, 2) := by decide +kernel
theorem d_De_readHead_91 : decode prog_3_method_10_code 91 = .ok (.aload_n 0, 1) := by decide +kernel
theorem d_De_readHead_92 : decode prog_3_method_10_code 92 = .ok (.iload_n 3, 1) := by decide +kernel
theorem d_De_readHead_93 : decode prog_3_method_10_code 93 = .ok (.iconst 4, 1) := by decide +kernel
theorem d_De_readHead_94 : decode prog_3_method_10_code 94 = .ok (.ishr, 1) := by decide +kernel
theorem d_De_readHead_95 : decode prog_3_method_10_code 95 = .ok (.bipush 15, 2) := by decide +kernel
theorem d_De_readHead_97 : decode prog_3_method_10_code 97 = .ok (.iand, 1) := by decide +kernel
theorem d_De_readHead_98 : decode prog_3_method_10_code 98 = .ok (.putfield 147, 3) := by decide +kernel
theorem d_De_readHead_101 : decode prog_3_method_10_code 101 = .ok (.aload_n 0, 1) := by decide +kernel
theorem d_De_readHead_102 : decode prog_3_method_10_code 102 = .ok (.getfield 24, 3) := by decide +kernel
theorem d_De_readHead_105 : decode prog_3_method_10_code 105 = .ok (.iload 4, 2) := by decide +kernel
theorem d_De_readHead_107 : decode prog_3_method_10_code 107 = .ok (.ifCond .eq 21, 3) := by decide +kernel
theorem d_De_readHead_110 : decode prog_3_method_10_code 110 = .ok (.iload 5, 2) := by decide +kernel
theorem d_De_readHead_112 : decode prog_3_method_10_code 112 = .ok (.bipush 15, 2) := by decide +kernel
theorem d_De_readHead_114 : decode prog_3_method_10_code 114 = .ok (.if_icmp .eq 14, 3) := by decide +kernel
theorem d_De_readHead_117 : decode prog_3_method_10_code 117 = .ok (.aload_n 0, 1) := by decide +kernel
theorem d_De_readHead_118 : decode prog_3_method_10_code 118 = .ok (.invokevirtual 167, 3) := by decide +kernel
theorem d_De_readHead_121 : decode prog_3_method_10_code 121 = .ok (.ifCond .eq 7, 3) := by decide +kernel
theorem d_De_readHead_124 : decode prog_3_method_10_code 124 = .ok (.iconst 1, 1) := by decide +kernel
theorem d_De_readHead_125 : decode prog_3_method_10_code 125 = .ok (.goto 4, 3) := by decide +kernel
theorem d_De_readHead_128 : decode prog_3_method_10_code 128 = .ok (.iconst 0, 1) := by decide +kernel
theorem d_De_readHead_129 : decode prog_3_method_10_code 129 = .ok (.iconst 5, 1) := by decide +kernel
theorem d_De_readHead_130 : decode prog_3_method_10_code 130 = .ok (.invokevirtual 92, 3) := by decide +kernel
theorem d_De_readHead_133 : decode prog_3_method_10_code 133 = .ok (.aload_n 0, 1) := by decide +kernel
theorem d_De_readHead_134 : decode prog_3_method_10_code 134 = .ok (.getfield 24, 3) := by decide +kernel
theorem d_De_readHead_137 : decode prog_3_method_10_code 137 = .ok (.aload_n 0, 1) := by decide +kernel
theorem d_De_readHead_138 : decode prog_3_method_10_code 138 = .ok (.iload_n 3, 1) := by decide +kernel
theorem d_De_readHead_139 : decode prog_3_method_10_code 139 = .ok (.iconst 1, 1) := by decide +kernel
theorem d_De_readHead_140 : decode prog_3_method_10_code 140 = .ok (.ishr, 1) := by decide +kernel
theorem d_De_readHead_141 : decode prog_3_method_10_code 141 = .ok (.bipush 7, 2) := by decide +kernel
theorem d_De_readHead_143 : decode prog_3_method_10_code 143 = .ok (.iand, 1) := by decide +kernel
theorem d_De_readHead_144 : decode prog_3_method_10_code 144 = .ok (.invokevirtual 170, 3) := by decide +kernel
theorem d_De_readHead_147 : decode prog_3_method_10_code 147 = .ok (.ifCond .eq 13, 3) := by decide +kernel
theorem d_De_readHead_150 : decode prog_3_method_10_code 150 = .ok (.iload_n 3, 1) := by decide +kernel
theorem d_De_readHead_151 : decode prog_3_method_10_code 151 = .ok (.iconst 1, 1) := by decide +kernel
theorem d_De_readHead_152 : decode prog_3_method_10_code 152 = .ok (.iand, 1) := by decide +kernel
theorem d_De_readHead_153 : decode prog_3_method_10_code 153 = .ok (.ifCond .ne 7, 3) := by decide +kernel
theorem d_De_readHead_156 : decode prog_3_method_10_code 156 = .ok (.iconst 1, 1) := by decide +kernel
theorem d_De_readHead_157 : decode prog_3_method_10_code 157 = .ok (.goto 4, 3) := by decide +kernel
theorem d_De_readHead_160 : decode prog_3_method_10_code 160 = .ok (.iconst 0, 1) := by decide +kernel
theorem d_De_readHead_161 : decode prog_3_method_10_code 161 = .ok (.iconst 5, 1) := by decide +kernel
theorem d_De_readHead_162 : decode prog_3_method_10_code 162 = .ok (.invokevirtual 92, 3) := by decide +kernel
theorem d_De_readHead_165 : decode prog_3_method_10_code 165 = .ok (.aload_n 0, 1) := by decide +kernel
theorem d_De_readHead_166 : decode prog_3_method_10_code 166 = .ok (.aload_n 0, 1) := by decide +kernel
theorem d_De_readHead_167 : decode prog_3_method_10_code 167 = .ok (.getfield 164, 3) := by decide +kernel
theorem d_De_readHead_170 : decode prog_3_method_10_code 170 = .ok (.ifCond .ne 10, 3) := by decide +kernel
theorem d_De_readHead_173 : decode prog_3_method_10_code 173 = .ok (.aload_n 0, 1) := by decide +kernel
theorem d_De_readHead_174 : decode prog_3_method_10_code 174 = .ok (.getfield 54, 3) := by decide +kernel
theorem d_De_readHead_177 : decode prog_3_method_10_code 177 = .ok (.goto 12, 3) := by decide +kernel
theorem d_De_readHead_180 : decode prog_3_method_10_code 180 = .ok (.aload_n 0, 1) := by decide +kernel
theorem d_De_readHead_181 : decode prog_3_method_10_code 181 = .ok (.getfield 40, 3) := by decide +kernel
theorem d_De_readHead_184 : decode prog_3_method_10_code 184 = .ok (.getfield 77, 3) := by decide +kernel
theorem d_De_readHead_187 : decode prog_3_method_10_code 187 = .ok (.iconst 0, 1) := by decide +kernel
theorem d_De_readHead_188 : decode prog_3_method_10_code 188 = .ok (.iaload, 1) := by decide +kernel
theorem d_De_readHead_189 : decode prog_3_method_10_code 189 = .ok (.invokevirtual 174, 3) := by decide +kernel
theorem d_De_readHead_192 : decode prog_3_method_10_code 192 = .ok (.aload_n 0, 1) := by decide +kernel
theorem d_De_readHead_193 : decode prog_3_method_10_code 193 = .ok (.getfield 58, 3) := by decide +kernel
theorem d_De_readHead_196 : decode prog_3_method_10_code 196 = .ok (.istore 6, 2) := by decide +kernel
theorem d_De_readHead_198 : decode prog_3_method_10_code 198 = .ok (.aload_n 0, 1) := by decide +kernel
theorem d_De_readHead_199 : decode prog_3_method_10_code 199 = .ok (.aload_n 0, 1) := by decide +kernel
theorem d_De_readHead_200 : decode prog_3_method_10_code 200 = .ok (.iload 4, 2) := by decide +kernel
theorem d_De_readHead_202 : decode prog_3_method_10_code 202 = .ok (.invokevirtual 177, 3) := by decide +kernel
theorem d_De_readHead_205 : decode prog_3_method_10_code 205 = .ok (.putfield 58, 3) := by decide +kernel
theorem d_De_readHead_208 : decode prog_3_method_10_code 208 = .ok (.iload 5, 2) := by decide +kernel
theorem d_De_readHead_210 : decode prog_3_method_10_code 210 = .ok (.bipush 12, 2) := by decide +kernel
theorem d_De_readHead_212 : decode prog_3_method_10_code 212 = .ok (.if_icmp .lt 25, 3) := by decide +kernel
theorem d_De_readHead_215 : decode prog_3_method_10_code 215 = .ok (.aload_n 0, 1) := by decide +kernel
theorem d_De_readHead_216 : decode prog_3_method_10_code 216 = .ok (.getfield 24, 3) := by decide +kernel
theorem d_De_readHead_219 : decode prog_3_method_10_code 219 = .ok (.iload 5, 2) := by decide +kernel
theorem d_De_readHead_221 : decode prog_3_method_10_code 221 = .ok (.bipush 12, 2) := by decide +kernel
theorem d_De_readHead_223 : decode prog_3_method_10_code 223 = .ok (.if_icmp .ne 8, 3) := by decide +kernel
theorem d_De_readHead_226 : decode prog_3_method_10_code 226 = .ok (.bipush 8, 2) := by decide +kernel
theorem d_De_readHead_228 : decode prog_3_method_10_code 228 = .ok (.goto 5, 3) := by decide +kernel
theorem d_De_readHead_231 : decode prog_3_method_10_code 231 = .ok (.bipush 16, 2) := by decide +kernel
theorem d_De_readHead_233 : decode prog_3_method_10_code 233 = .ok (.invokevirtual 96, 3) := by decide +kernel
theorem d_De_readHead_236 : decode prog_3_method_10_code 236 = .ok (.pop, 1) := by decide +kernel
theorem d_De_readHead_237 : decode prog_3_method_10_code 237 = .ok (.aload_n 0, 1) := by decide +kernel
theorem d_De_readHead_238 : decode prog_3_method_10_code 238 = .ok (.getfield 24, 3) := by decide +kernel
theorem d_De_readHead_241 : decode prog_3_method_10_code 241 = .ok (.aload_n 0, 1) := by decide +kernel
theorem d_De_readHead_242 : decode prog_3_method_10_code 242 = .ok (.iload 6, 2) := by decide +kernel
theorem d_De_readHead_244 : decode prog_3_method_10_code 244 = .ok (.invokevirtual 180, 3) := by decide +kernel
theorem d_De_readHead_247 : decode prog_3_method_10_code 247 = .ok (.bipush 7, 2) := by decide +kernel
theorem d_De_readHead_249 : decode prog_3_method_10_code 249 = .ok (.invokevirtual 92, 3) := by decide +kernel
theorem d_De_readHead_252 : decode prog_3_method_10_code 252 = .ok (.return_, 1) := by decide +kernel
theorem d_De_suitsChannels_0 : decode prog_3_method_11_code 0 = .ok (.aload_n 0, 1) := by decide +kernel
theorem d_De_suitsChannels_1 : decode prog_3_method_11_code 1 = .ok (.getfield 147, 3) := by decide +kernel
theorem d_De_suitsChannels_4 : decode prog_3_method_11_code 4 = .ok (.bipush 8, 2) := by decide +kernel
theorem d_De_suitsChannels_6 : decode prog_3_method_11_code 6 = .ok (.if_icmp .ge 27, 3) := by decide +kernel
theorem d_De_suitsChannels_9 : decode prog_3_method_11_code 9 = .ok (.aload_n 0, 1) := by decide +kernel
theorem d_De_suitsChannels_10 : decode prog_3_method_11_code 10 = .ok (.getfield 147, 3) := by decide +kernel
theorem d_De_suitsChannels_13 : decode prog_3_method_11_code 13 = .ok (.aload_n 0, 1) := by decide +kernel
theorem d_De_suitsChannels_14 : decode prog_3_method_11_code 14 = .ok (.getfield 40, 3) := by decide +kernel
theorem d_De_suitsChannels_17 : decode prog_3_method_11_code 17 = .ok (.getfield 65, 3) := by decide +kernel
theorem d_De_suitsChannels_20 : decode prog_3_method_11_code 20 = .ok (.iconst 1, 1) := by decide +kernel
theorem d_De_suitsChannels_21 : decode prog_3_method_11_code 21 = .ok (.isub, 1) := by decide +kernel
theorem d_De_suitsChannels_22 : decode prog_3_method_11_code 22 = .ok (.if_icmp .ne 7, 3) := by decide +kernel
theorem d_De_suitsChannels_25 : decode prog_3_method_11_code 25 = .ok (.iconst 1, 1) := by decide +kernel
theorem d_De_suitsChannels_26 : decode prog_3_method_11_code 26 = .ok (.goto 32, 3) := by decide +kernel
theorem d_De_suitsChannels_29 : decode prog_3_method_11_code 29 = .ok (.iconst 0, 1) := by decide +kernel
theorem d_De_suitsChannels_30 : decode prog_3_method_11_code 30 = .ok (.goto 28, 3) := by decide +kernel
theorem d_De_suitsChannels_33 : decode prog_3_method_11_code 33 = .ok (.aload_n 0, 1) := by decide +kernel
theorem d_De_suitsChannels_34 : decode prog_3_method_11_code 34 = .ok (.getfield 147, 3) := by decide +kernel
theorem d_De_suitsChannels_37 : decode prog_3_method_11_code 37 = .ok (.bipush 10, 2) := by decide +kernel
theorem d_De_suitsChannels_39 : decode prog_3_method_11_code 39 = .ok (.if_icmp .gt 18, 3) := by decide +kernel
theorem d_De_suitsChannels_42 : decode prog_3_method_11_code 42 = .ok (.aload_n 0, 1) := by decide +kernel
theorem d_De_suitsChannels_43 : decode prog_3_method_11_code 43 = .ok (.getfield 40, 3) := by decide +kernel
theorem d_De_suitsChannels_46 : decode prog_3_method_11_code 46 = .ok (.getfield 65, 3) := by decide +kernel
theorem d_De_suitsChannels_49 : decode prog_3_method_11_code 49 = .ok (.iconst 2, 1) := by decide +kernel
theorem d_De_suitsChannels_50 : decode prog_3_method_11_code 50 = .ok (.if_icmp .ne 7, 3) := by decide +kernel
theorem d_De_suitsChannels_53 : decode prog_3_method_11_code 53 = .ok (.iconst 1, 1) := by decide +kernel
theorem d_De_suitsChannels_54 : decode prog_3_method_11_code 54 = .ok (.goto 4, 3) := by decide +kernel
theorem d_De_suitsChannels_57 : decode prog_3_method_11_code 57 = .ok (.iconst 0, 1) := by decide +kernel
theorem d_De_suitsChannels_58 : decode prog_3_method_11_code 58 = .ok (.ireturn, 1) := by decide +kernel
theorem d_De_suitsDepth_0 : decode prog_3_method_12_code 0 = .ok (.iload_n 1, 1) := by decide +kernel
theorem d_De_suitsDepth_1 : decode prog_3_method_12_code 1 = .ok (.ifCond .eq 18, 3) := by decide +kernel
theorem d_De_suitsDepth_4 : decode prog_3_method_12_code 4 = .ok (.getstatic 183, 3) := by decide +kernel
theorem d_De_suitsDepth_7 : decode prog_3_method_12_code 7 = .ok (.iload_n 1, 1) := by decide +kernel
theorem d_De_suitsDepth_8 : decode prog_3_method_12_code 8 = .ok (.iaload, 1) := by decide +kernel
theorem d_De_suitsDepth_9 : decode prog_3_method_12_code 9 = .ok (.aload_n 0, 1) := by decide +kernel
theorem d_De_suitsDepth_10 : decode prog_3_method_12_code 10 = .ok (.getfield 40, 3) := by decide +kernel
theorem d_De_suitsDepth_13 : decode prog_3_method_12_code 13 = .ok (.getfield 68, 3) := by decide +kernel
theorem d_De_suitsDepth_16 : decode prog_3_method_12_code 16 = .ok (.if_icmp .ne 7, 3) := by decide +kernel
theorem d_De_suitsDepth_19 : decode prog_3_method_12_code 19 = .ok (.iconst 1, 1) := by decide +kernel
theorem d_De_suitsDepth_20 : decode prog_3_method_12_code 20 = .ok (.goto 4, 3) := by decide +kernel
theorem d_De_suitsDepth_23 : decode prog_3_method_12_code 23 = .ok (.iconst 0, 1) := by decide +kernel
theorem d_De_suitsDepth_24 : decode prog_3_method_12_code 24 = .ok (.ireturn, 1) := by decide +kernel
theorem d_De_readNumber_0 : decode prog_3_method_13_code 0 = .ok (.iconst 0, 1) := by decide +kernel
theorem d_De_readNumber_1 : decode prog_3_method_13_code 1 = .ok (.istore_n 2, 1) := by decide +kernel
theorem d_De_readNumber_2 : decode prog_3_method_13_code 2 = .ok (.iload_n 2, 1) := by decide +kernel
theorem d_De_readNumber_3 : decode prog_3_method_13_code 3 = .ok (.iload_n 1, 1) := by decide +kernel
theorem d_De_readNumber_4 : decode prog_3_method_13_code 4 = .ok (.invokestatic 186, 3) := by decide +kernel
theorem d_De_readNumber_7 : decode prog_3_method_13_code 7 = .ok (.if_icmp .ge 40, 3) := by decide +kernel
theorem d_De_readNumber_10 : decode prog_3_method_13_code 10 = .ok (.aload_n 0, 1) := by decide +kernel
theorem d_De_readNumber_11 : decode prog_3_method_13_code 11 = .ok (.getfield 24, 3) := by decide +kernel
theorem d_De_readNumber_14 : decode prog_3_method_13_code 14 = .ok (.aload_n 0, 1) := by decide +kernel
theorem d_De_readNumber_15 : decode prog_3_method_13_code 15 = .ok (.getfield 24, 3) := by decide +kernel
theorem d_De_readNumber_18 : decode prog_3_method_13_code 18 = .ok (.bipush 8, 2) := by decide +kernel
theorem d_De_readNumber_20 : decode prog_3_method_13_code 20 = .ok (.invokevirtual 96, 3) := by decide +kernel
theorem d_De_readNumber_23 : decode prog_3_method_13_code 23 = .ok (.iload_n 1, 1) := by decide +kernel
theorem d_De_readNumber_24 : decode prog_3_method_13_code 24 = .ok (.iload_n 2, 1) := by decide +kernel
theorem d_De_readNumber_25 : decode prog_3_method_13_code 25 = .ok (.invokestatic 189, 3) := by decide +kernel
theorem d_De_readNumber_28 : decode prog_3_method_13_code 28 = .ok (.if_icmp .ne 7, 3) := by decide +kernel
theorem d_De_readNumber_31 : decode prog_3_method_13_code 31 = .ok (.iconst 1, 1) := by decide +kernel
theorem d_De_readNumber_32 : decode prog_3_method_13_code 32 = .ok (.goto 4, 3) := by decide +kernel
theorem d_De_readNumber_35 : decode prog_3_method_13_code 35 = .ok (.iconst 0, 1) := by decide +kernel
theorem d_De_readNumber_36 : decode prog_3_method_13_code 36 = .ok (.bipush 6, 2) := by decide +kernel
theorem d_De_readNumber_38 : decode prog_3_method_13_code 38 = .ok (.invokevirtual 92, 3) := by decide +kernel
theorem d_De_readNumber_41 : decode prog_3_method_13_code 41 = .ok (.iinc 2 1, 3) := by decide +kernel
theorem d_De_readNumber_44 : decode prog_3_method_13_code 44 = .ok (.goto (-42), 3) := by decide +kernel
theorem d_De_readNumber_47 : decode prog_3_method_13_code 47 = .ok (.return_, 1) := by decide +kernel
theorem d_De_readSize_0 : decode prog_3_method_14_code 0 = .ok (.iload_n 1, 1) := by decide +kernel
theorem d_De_readSize_1 : decode prog_3_method_14_code 1 = .ok (.bipush 6, 2) := by decide +kernel
theorem d_De_readSize_3 : decode prog_3_method_14_code 3 = .ok (.if_icmp .ne 15, 3) := by decide +kernel
theorem d_De_readSize_6 : decode prog_3_method_14_code 6 = .ok (.aload_n 0, 1) := by decide +kernel
theorem d_De_readSize_7 : decode prog_3_method_14_code 7 = .ok (.getfield 24, 3) := by decide +kernel
theorem d_De_readSize_10 : decode prog_3_method_14_code 10 = .ok (.bipush 8, 2) := by decide +kernel
theorem d_De_readSize_12 : decode prog_3_method_14_code 12 = .ok (.invokevirtual 96, 3) := by decide +kernel
theorem d_De_readSize_15 : decode prog_3_method_14_code 15 = .ok (.iconst 1, 1) := by decide +kernel
theorem d_De_readSize_16 : decode prog_3_method_14_code 16 = .ok (.iadd, 1) := by decide +kernel
theorem d_De_readSize_17 : decode prog_3_method_14_code 17 = .ok (.ireturn, 1) := by decide +kernel
theorem d_De_readSize_18 : decode prog_3_method_14_code 18 = .ok (.iload_n 1, 1) := by decide +kernel
theorem d_De_readSize_19 : decode prog_3_method_14_code 19 = .ok (.bipush 7, 2) := by decide +kernel
theorem d_De_readSize_21 : decode prog_3_method_14_code 21 = .ok (.if_icmp .ne 15, 3) := by decide +kernel
theorem d_De_readSize_24 : decode prog_3_method_14_code 24 = .ok (.aload_n 0, 1) := by decide +kernel
theorem d_De_readSize_25 : decode prog_3_method_14_code 25 = .ok (.getfield 24, 3) := by decide +kernel
theorem d_De_readSize_28 : decode prog_3_method_14_code 28 = .ok (.bipush 16, 2) := by decide +kernel
theorem d_De_readSize_30 : decode prog_3_method_14_code 30 = .ok (.invokevirtual 96, 3) := by decide +kernel
theorem d_De_readSize_33 : decode prog_3_method_14_code 33 = .ok (.iconst 1, 1) := by decide +kernel
theorem d_De_readSize_34 : decode prog_3_method_14_code 34 = .ok (.iadd, 1) := by decide +kernel
theorem d_De_readSize_35 : decode prog_3_method_14_code 35 = .ok (.ireturn, 1) := by decide +kernel
theorem d_De_readSize_36 : decode prog_3_method_14_code 36 = .ok (.iload_n 1, 1) := by decide +kernel
theorem d_De_readSize_37 : decode prog_3_method_14_code 37 = .ok (.iconst 1, 1) := by decide +kernel
theorem d_De_readSize_38 : decode prog_3_method_14_code 38 = .ok (.if_icmp .ne 7, 3) := by decide +kernel
theorem d_De_readSize_41 : decode prog_3_method_14_code 41 = .ok (.sipush 192, 3) := by decide +kernel
theorem d_De_readSize_44 : decode prog_3_method_14_code 44 = .ok (.ireturn, 1) := by decide +kernel
theorem d_De_readSize_45 : decode prog_3_method_14_code 45 = .ok (.iload_n 1, 1) := by decide +kernel
theorem d_De_readSize_46 : decode prog_3_method_14_code 46 = .ok (.bipush 6, 2) := by decide +kernel
theorem d_De_readSize_48 : decode prog_3_method_14_code 48 = .ok (.if_icmp .ge 13, 3) := by decide +kernel
theorem d_De_readSize_51 : decode prog_3_method_14_code 51 = .ok (.sipush 576, 3) := by decide +kernel
theorem d_De_readSize_54 : decode prog_3_method_14_code 54 = .ok (.iload_n 1, 1) := by decide +kernel
theorem d_De_readSize_55 : decode prog_3_method_14_code 55 = .ok (.iconst 2, 1) := by decide +kernel
theorem d_De_readSize_56 : decode prog_3_method_14_code 56 = .ok (.isub, 1) := by decide +kernel
theorem d_De_readSize_57 : decode prog_3_method_14_code 57 = .ok (.ishl, 1) := by decide +kernel
theorem d_De_readSize_58 : decode prog_3_method_14_code 58 = .ok (.goto 11, 3) := by decide +kernel
theorem d_De_readSize_61 : decode prog_3_method_14_code 61 = .ok (.sipush 256, 3) := by decide +kernel
theorem d_De_readSize_64 : decode prog_3_method_14_code 64 = .ok (.iload_n 1, 1) := by decide +kernel
theorem d_De_readSize_65 : decode prog_3_method_14_code 65 = .ok (.bipush 8, 2) := by decide +kernel
theorem d_De_readSize_67 : decode prog_3_method_14_code 67 = .ok (.isub, 1) := by decide +kernel
theorem d_De_readSize_68 : decode prog_3_method_14_code 68 = .ok (.ishl, 1) := by decide +kernel
theorem d_De_readSize_69 : decode prog_3_method_14_code 69 = .ok (.ireturn, 1) := by decide +kernel
theorem d_De_suitsSize_0 : decode prog_3_method_15_code 0 = .ok (.aload_n 0, 1) := by decide +kernel
theorem d_De_suitsSize_1 : decode prog_3_method_15_code 1 = .ok (.getfield 164, 3) := by decide +kernel
theorem d_De_suitsSize_4 : decode prog_3_method_15_code 4 = .ok (.ifCond .ne 13, 3) := by decide +kernel
theorem d_De_suitsSize_7 : decode prog_3_method_15_code 7 = .ok (.aload_n 0, 1) := by decide +kernel
theorem d_De_suitsSize_8 : decode prog_3_method_15_code 8 = .ok (.getfield 40, 3) := by decide +kernel
theorem d_De_suitsSize_11 : decode prog_3_method_15_code 11 = .ok (.getfield 71, 3) := by decide +kernel
theorem d_De_suitsSize_14 : decode prog_3_method_15_code 14 = .ok (.goto 7, 3) := by decide +kernel
theorem d_De_suitsSize_17 : decode prog_3_method_15_code 17 = .ok (.aload_n 0, 1) := by decide +kernel
theorem d_De_suitsSize_18 : decode prog_3_method_15_code 18 = .ok (.getfield 114, 3) := by decide +kernel
theorem d_De_suitsSize_21 : decode prog_3_method_15_code 21 = .ok (.istore_n 2, 1) := by decide +kernel
theorem d_De_suitsSize_22 : decode prog_3_method_15_code 22 = .ok (.aload_n 0, 1) := by decide +kernel
theorem d_De_suitsSize_23 : decode prog_3_method_15_code 23 = .ok (.getfield 137, 3) := by decide +kernel
theorem d_De_suitsSize_26 : decode prog_3_method_15_code 26 = .ok (.ifCond .ne 9, 3) := by decide +kernel
theorem d_De_suitsSize_29 : decode prog_3_method_15_code 29 = .ok (.sipush 1200, 3) := by decide +kernel
theorem d_De_suitsSize_32 : decode prog_3_method_15_code 32 = .ok (.goto 7, 3) := by decide +kernel
theorem d_De_suitsSize_35 : decode prog_3_method_15_code 35 = .ok (.aload_n 0, 1) := by decide +kernel
theorem d_De_suitsSize_36 : decode prog_3_method_15_code 36 = .ok (.getfield 137, 3) := by decide +kernel
theorem d_De_suitsSize_39 : decode prog_3_method_15_code 39 = .ok (.istore_n 3, 1) := by decide +kernel
theorem d_De_suitsSize_40 : decode prog_3_method_15_code 40 = .ok (.aload_n 0, 1) := by decide +kernel
theorem d_De_suitsSize_41 : decode prog_3_method_15_code 41 = .ok (.getfield 58, 3) := by decide +kernel
theorem d_De_suitsSize_44 : decode prog_3_method_15_code 44 = .ok (.aload_n 0, 1) := by decide +kernel
theorem d_De_suitsSize_45 : decode prog_3_method_15_code 45 = .ok (.getfield 40, 3) := by decide +kernel
theorem d_De_suitsSize_48 : decode prog_3_method_15_code 48 = .ok (.getfield 71, 3) := by decide +kernel
theorem d_De_suitsSize_51 : decode prog_3_method_15_code 51 = .ok (.if_icmp .gt 37, 3) := by decide +kernel
theorem d_De_suitsSize_54 : decode prog_3_method_15_code 54 = .ok (.aload_n 0, 1) := by decide +kernel
theorem d_De_suitsSize_55 : decode prog_3_method_15_code 55 = .ok (.getfield 54, 3) := by decide +kernel
theorem d_De_suitsSize_58 : decode prog_3_method_15_code 58 = .ok (.ifCond .eq 8, 3) := by decide +kernel
theorem d_De_suitsSize_61 : decode prog_3_method_15_code 61 = .ok (.iload_n 1, 1) := by decide +kernel
theorem d_De_suitsSize_62 : decode prog_3_method_15_code 62 = .ok (.iload_n 2, 1) := by decide +kernel
theorem d_De_suitsSize_63 : decode prog_3_method_15_code 63 = .ok (.if_icmp .lt 25, 3) := by decide +kernel
theorem d_De_suitsSize_66 : decode prog_3_method_15_code 66 = .ok (.aload_n 0, 1) := by decide +kernel
theorem d_De_suitsSize_67 : decode prog_3_method_15_code 67 = .ok (.getfield 58, 3) := by decide +kernel
theorem d_De_suitsSize_70 : decode prog_3_method_15_code 70 = .ok (.iload_n 3, 1) := by decide +kernel
theorem d_De_suitsSize_71 : decode prog_3_method_15_code 71 = .ok (.aload_n 0, 1) := by decide +kernel
theorem d_De_suitsSize_72 : decode prog_3_method_15_code 72 = .ok (.getfield 40, 3) := by decide +kernel
theorem d_De_suitsSize_75 : decode prog_3_method_15_code 75 = .ok (.getfield 77, 3) := by decide +kernel
theorem d_De_suitsSize_78 : decode prog_3_method_15_code 78 = .ok (.iconst 0, 1) := by decide +kernel
theorem d_De_suitsSize_79 : decode prog_3_method_15_code 79 = .ok (.iaload, 1) := by decide +kernel
theorem d_De_suitsSize_80 : decode prog_3_method_15_code 80 = .ok (.isub, 1) := by decide +kernel
theorem d_De_suitsSize_81 : decode prog_3_method_15_code 81 = .ok (.if_icmp .gt 7, 3) := by decide +kernel
theorem d_De_suitsSize_84 : decode prog_3_method_15_code 84 = .ok (.iconst 1, 1) := by decide +kernel
theorem d_De_suitsSize_85 : decode prog_3_method_15_code 85 = .ok (.goto 4, 3) := by decide +kernel
theorem d_De_suitsSize_88 : decode prog_3_method_15_code 88 = .ok (.iconst 0, 1) := by decide +kernel
theorem d_De_suitsSize_89 : decode prog_3_method_15_code 89 = .ok (.ireturn, 1) := by decide +kernel
theorem d_De_separate_0 : decode prog_3_method_16_code 0 = .ok (.iconst 1, 1) := by decide +kernel
theorem d_De_separate_1 : decode prog_3_method_16_code 1 = .ok (.aload_n 0, 1) := by decide +kernel
theorem d_De_separate_2 : decode prog_3_method_16_code 2 = .ok (.getfield 40, 3) := by decide +kernel
theorem d_De_separate_5 : decode prog_3_method_16_code 5 = .ok (.getfield 68, 3) := by decide +kernel
theorem d_De_separate_8 : decode prog_3_method_16_code 8 = .ok (.iconst 1, 1) := by decide +kernel
theorem d_De_separate_9 : decode prog_3_method_16_code 9 = .ok (.isub, 1) := by decide +kernel
theorem d_De_separate_10 : decode prog_3_method_16_code 10 = .ok (.ishl, 1) := by decide +kernel
theorem d_De_separate_11 : decode prog_3_method_16_code 11 = .ok (.istore_n 2, 1) := by decide +kernel
theorem d_De_separate_12 : decode prog_3_method_16_code 12 = .ok (.iload_n 1, 1) := by decide +kernel
theorem d_De_separate_13 : decode prog_3_method_16_code 13 = .ok (.istore_n 3, 1) := by decide +kernel
theorem d_De_separate_14 : decode prog_3_method_16_code 14 = .ok (.iload_n 3, 1) := by decide +kernel
theorem d_De_separate_15 : decode prog_3_method_16_code 15 = .ok (.iload_n 1, 1) := by decide +kernel
theorem d_De_separate_16 : decode prog_3_method_16_code 16 = .ok (.aload_n 0, 1) := by decide +kernel
theorem d_De_separate_17 : decode prog_3_method_16_code 17 = .ok (.getfield 58, 3) := by decide +kernel
theorem d_De_separate_20 : decode prog_3_method_16_code 20 = .ok (.iadd, 1) := by decide +kernel
theorem d_De_separate_21 : decode prog_3_method_16_code 21 = .ok (.if_icmp .ge 177, 3) := by decide +kernel
theorem d_De_separate_24 : decode prog_3_method_16_code 24 = .ok (.aload_n 0, 1) := by decide +kernel
theorem d_De_separate_25 : decode prog_3_method_16_code 25 = .ok (.getfield 40, 3) := by decide +kernel
theorem d_De_separate_28 : decode prog_3_method_16_code 28 = .ok (.getfield 150, 3) := by decide +kernel
theorem d_De_separate_31 : decode prog_3_method_16_code 31 = .ok (.iconst 0, 1) := by decide +kernel
theorem d_De_separate_32 : decode prog_3_method_16_code 32 = .ok (.aaload, 1) := by decide +kernel
theorem d_De_separate_33 : decode prog_3_method_16_code 33 = .ok (.iload_n 3, 1) := by decide +kernel
theorem d_De_separate_34 : decode prog_3_method_16_code 34 = .ok (.iaload, 1) := by decide +kernel
theorem d_De_separate_35 : decode prog_3_method_16_code 35 = .ok (.istore 4, 2) := by decide +kernel
theorem d_De_separate_37 : decode prog_3_method_16_code 37 = .ok (.aload_n 0, 1) := by decide +kernel
theorem d_De_separate_38 : decode prog_3_method_16_code 38 = .ok (.getfield 40, 3) := by decide +kernel
theorem d_De_separate_41 : decode prog_3_method_16_code 41 = .ok (.getfield 150, 3) := by decide +kernel
theorem d_De_separate_44 : decode prog_3_method_16_code 44 = .ok (.iconst 1, 1) := by decide +kernel
theorem d_De_separate_45 : decode prog_3_method_16_code 45 = .ok (.aaload, 1) := by decide +kernel
theorem d_De_separate_46 : decode prog_3_method_16_code 46 = .ok (.iload_n 3, 1) := by decide +kernel
theorem d_De_separate_47 : decode prog_3_method_16_code 47 = .ok (.iaload, 1) := by decide +kernel
theorem d_De_separate_48 : decode prog_3_method_16_code 48 = .ok (.istore 5, 2) := by decide +kernel
theorem d_De_separate_50 : decode prog_3_method_16_code 50 = .ok (.aload_n 0, 1) := by decide +kernel
theorem d_De_separate_51 : decode prog_3_method_16_code 51 = .ok (.getfield 147, 3) := by decide +kernel
theorem d_De_separate_54 : decode prog_3_method_16_code 54 = .ok (.bipush 8, 2) := by decide +kernel
theorem d_De_separate_56 : decode prog_3_method_16_code 56 = .ok (.if_icmp .ne 13, 3) := by decide +kernel
theorem d_De_separate_59 : decode prog_3_method_16_code 59 = .ok (.iload 4, 2) := by decide +kernel
theorem d_De_separate_61 : decode prog_3_method_16_code 61 = .ok (.iload 5, 2) := by decide +kernel
theorem d_De_separate_63 : decode prog_3_method_16_code 63 = .ok (.isub, 1) := by decide +kernel
theorem d_De_separate_64 : decode prog_3_method_16_code 64 = .ok (.istore 5, 2) := by decide +kernel
theorem d_De_separate_66 : decode prog_3_method_16_code 66 = .ok (.goto 60, 3) := by decide +kernel
theorem d_De_separate_69 : decode prog_3_method_16_code 69 = .ok (.aload_n 0, 1) := by decide +kernel
theorem d_De_separate_70 : decode prog_3_method_16_code 70 = .ok (.getfield 147, 3) := by decide +kernel
theorem d_De_separate_73 : decode prog_3_method_16_code 73 = .ok (.bipush 9, 2) := by decide +kernel
theorem d_De_separate_75 : decode prog_3_method_16_code 75 = .ok (.if_icmp .ne 13, 3) := by decide +kernel
theorem d_De_separate_78 : decode prog_3_method_16_code 78 = .ok (.iload 4, 2) := by decide +kernel
theorem d_De_separate_80 : decode prog_3_method_16_code 80 = .ok (.iload 5, 2) := by decide +kernel
theorem d_De_separate_82 : decode prog_3_method_16_code 82 = .ok (.iadd, 1) := by decide +kernel
theorem d_De_separate_83 : decode prog_3_method_16_code 83 = .ok (.istore 4, 2) := by decide +kernel
theorem d_De_separate_85 : decode prog_3_method_16_code 85 = .ok (.goto 41, 3) := by decide +kernel
theorem d_De_separate_88 : decode prog_3_method_16_code 88 = .ok (.aload_n 0, 1) := by decide +kernel
theorem d_De_separate_89 : decode prog_3_method_16_code 89 = .ok (.getfield 147, 3) := by decide +kernel
theorem d_De_separate_92 : decode prog_3_method_16_code 92 = .ok (.bipush 10, 2) := by decide +kernel
theorem d_De_separate_94 : decode prog_3_method_16_code 94 = .ok (.if_icmp .ne 32, 3) := by decide +kernel
theorem d_De_separate_97 : decode prog_3_method_16_code 97 = .ok (.iconst 2, 1) := by decide +kernel
theorem d_De_separate_98 : decode prog_3_method_16_code 98 = .ok (.iload 4, 2) := by decide +kernel
theorem d_De_separate_100 : decode prog_3_method_16_code 100 = .ok (.imul, 1) := by decide +kernel
theorem d_De_separate_101 : decode prog_3_method_16_code 101 = .ok (.iload 5, 2) := by decide +kernel
theorem d_De_separate_103 : decode prog_3_method_16_code 103 = .ok (.iconst 1, 1) := by decide +kernel
theorem d_De_separate_104 : decode prog_3_method_16_code 104 = .ok (.iand, 1) := by decide +kernel
theorem d_De_separate_105 : decode prog_3_method_16_code 105 = .ok (.iadd, 1) := by decide +kernel
theorem d_De_separate_106 : decode prog_3_method_16_code 106 = .ok (.istore 6, 2) := by decide +kernel
theorem d_De_separate_108 : decode prog_3_method_16_code 108 = .ok (.iload 6, 2) := by decide +kernel
theorem d_De_separate_110 : decode prog_3_method_16_code 110 = .ok (.iload 5, 2) := by decide +kernel
theorem d_De_separate_112 : decode prog_3_method_16_code 112 = .ok (.iadd, 1) := by decide +kernel
theorem d_De_separate_113 : decode prog_3_method_16_code 113 = .ok (.iconst 1, 1) := by decide +kernel
theorem d_De_separate_114 : decode prog_3_method_16_code 114 = .ok (.ishr, 1) := by decide +kernel
theorem d_De_separate_115 : decode prog_3_method_16_code 115 = .ok (.istore 4, 2) := by decide +kernel
theorem d_De_separate_117 : decode prog_3_method_16_code 117 = .ok (.iload 6, 2) := by decide +kernel
theorem d_De_separate_119 : decode prog_3_method_16_code 119 = .ok (.iload 5, 2) := by decide +kernel
theorem d_De_separate_121 : decode prog_3_method_16_code 121 = .ok (.isub, 1) := by decide +kernel
theorem d_De_separate_122 : decode prog_3_method_16_code 122 = .ok (.iconst 1, 1) := by decide +kernel
theorem d_De_separate_123 : decode prog_3_method_16_code 123 = .ok (.ishr, 1) := by decide +kernel
theorem d_De_separate_124 : decode prog_3_method_16_code 124 = .ok (.istore 5, 2) := by decide +kernel
theorem d_De_separate_126 : decode prog_3_method_16_code 126 = .ok (.aload_n 0, 1) := by decide +kernel
theorem d_De_separate_127 : decode prog_3_method_16_code 127 = .ok (.getfield 24, 3) := by decide +kernel
theorem d_De_separate_130 : decode prog_3_method_16_code 130 = .ok (.iload 4, 2) := by decide +kernel
theorem d_De_separate_132 : decode prog_3_method_16_code 132 = .ok (.iload_n 2, 1) := by decide +kernel
theorem d_De_separate_133 : decode prog_3_method_16_code 133 = .ok (.ineg, 1) := by decide +kernel
theorem d_De_separate_134 : decode prog_3_method_16_code 134 = .ok (.if_icmp .lt 26, 3) := by decide +kernel
theorem d_De_separate_137 : decode prog_3_method_16_code 137 = .ok (.iload 4, 2) := by decide +kernel
theorem d_De_separate_139 : decode prog_3_method_16_code 139 = .ok (.iload_n 2, 1) := by decide +kernel
theorem d_De_separate_140 : decode prog_3_method_16_code 140 = .ok (.if_icmp .ge 20, 3) := by decide +kernel
theorem d_De_separate_143 : decode prog_3_method_16_code 143 = .ok (.iload 5, 2) := by decide +kernel
theorem d_De_separate_145 : decode prog_3_method_16_code 145 = .ok (.iload_n 2, 1) := by decide +kernel
theorem d_De_separate_146 : decode prog_3_method_16_code 146 = .ok (.ineg, 1) := by decide +kernel
theorem d_De_separate_147 : decode prog_3_method_16_code 147 = .ok (.if_icmp .lt 13, 3) := by decide +kernel
theorem d_De_separate_150 : decode prog_3_method_16_code 150 = .ok (.iload 5, 2) := by decide +kernel
theorem d_De_separate_152 : decode prog_3_method_16_code 152 = .ok (.iload_n 2, 1) := by decide +kernel
theorem d_De_separate_153 : decode prog_3_method_16_code 153 = .ok (.if_icmp .ge 7, 3) := by decide +kernel
theorem d_De_separate_156 : decode prog_3_method_16_code 156 = .ok (.iconst 1, 1) := by decide +kernel
theorem d_De_separate_157 : decode prog_3_method_16_code 157 = .ok (.goto 4, 3) := by decide +kernel
theorem d_De_separate_160 : decode prog_3_method_16_code 160 = .ok (.iconst 0, 1) := by decide +kernel
theorem d_De_separate_161 : decode prog_3_method_16_code 161 = .ok (.bipush 11, 2) := by decide +kernel
theorem d_De_separate_163 : decode prog_3_method_16_code 163 = .ok (.invokevirtual 92, 3) := by decide +kernel
theorem d_De_separate_166 : decode prog_3_method_16_code 166 = .ok (.aload_n 0, 1) := by decide +kernel
theorem d_De_separate_167 : decode prog_3_method_16_code 167 = .ok (.getfield 40, 3) := by decide +kernel
theorem d_De_separate_170 : decode prog_3_method_16_code 170 = .ok (.getfield 150, 3) := by decide +kernel
theorem d_De_separate_173 : decode prog_3_method_16_code 173 = .ok (.iconst 0, 1) := by decide +kernel
theorem d_De_separate_174 : decode prog_3_method_16_code 174 = .ok (.aaload, 1) := by decide +kernel
theorem d_De_separate_175 : decode prog_3_method_16_code 175 = .ok (.iload_n 3, 1) := by decide +kernel
theorem d_De_separate_176 : decode prog_3_method_16_code 176 = .ok (.iload 4, 2) := by decide +kernel
theorem d_De_separate_178 : decode prog_3_method_16_code 178 = .ok (.iastore, 1) := by decide +kernel
theorem d_De_separate_179 : decode prog_3_method_16_code 179 = .ok (.aload_n 0, 1) := by decide +kernel
theorem d_De_separate_180 : decode prog_3_method_16_code 180 = .ok (.getfield 40, 3) := by decide +kernel
theorem d_De_separate_183 : decode prog_3_method_16_code 183 = .ok (.getfield 150, 3) := by decide +kernel
theorem d_De_separate_186 : decode prog_3_method_16_code 186 = .ok (.iconst 1, 1) := by decide +kernel
theorem d_De_separate_187 : decode prog_3_method_16_code 187 = .ok (.aaload, 1) := by decide +kernel
theorem d_De_separate_188 : decode prog_3_method_16_code 188 = .ok (.iload_n 3, 1) := by decide +kernel
theorem d_De_separate_189 : decode prog_3_method_16_code 189 = .ok (.iload 5, 2) := by decide +kernel
theorem d_De_separate_191 : decode prog_3_method_16_code 191 = .ok (.iastore, 1) := by decide +kernel
theorem d_De_separate_192 : decode prog_3_method_16_code 192 = .ok (.iinc 3 1, 3) := by decide +kernel
theorem d_De_separate_195 : decode prog_3_method_16_code 195 = .ok (.goto (-181), 3) := by decide +kernel
theorem d_De_separate_198 : decode prog_3_method_16_code 198 = .ok (.return_, 1) := by decide +kernel
theorem d_De_checkWhole_0 : decode prog_3_method_17_code 0 = .ok (.aload_n 0, 1) := by decide +kernel
theorem d_De_checkWhole_1 : decode prog_3_method_17_code 1 = .ok (.getfield 24, 3) := by decide +kernel
theorem d_De_checkWhole_4 : decode prog_3_method_17_code 4 = .ok (.invokevirtual 100, 3) := by decide +kernel
theorem d_De_checkWhole_7 : decode prog_3_method_17_code 7 = .ok (.aload_n 0, 1) := by decide +kernel
theorem d_De_checkWhole_8 : decode prog_3_method_17_code 8 = .ok (.getfield 24, 3) := by decide +kernel
theorem d_De_checkWhole_11 : decode prog_3_method_17_code 11 = .ok (.aload_n 0, 1) := by decide +kernel
theorem d_De_checkWhole_12 : decode prog_3_method_17_code 12 = .ok (.getfield 40, 3) := by decide +kernel
theorem d_De_checkWhole_15 : decode prog_3_method_17_code 15 = .ok (.getfield 77, 3) := by decide +kernel
theorem d_De_checkWhole_18 : decode prog_3_method_17_code 18 = .ok (.iconst 0, 1) := by decide +kernel
theorem d_De_checkWhole_19 : decode prog_3_method_17_code 19 = .ok (.iaload, 1) := by decide +kernel
theorem d_De_checkWhole_20 : decode prog_3_method_17_code 20 = .ok (.aload_n 0, 1) := by decide +kernel
theorem d_De_checkWhole_21 : decode prog_3_method_17_code 21 = .ok (.getfield 137, 3) := by decide +kernel
theorem d_De_checkWhole_24 : decode prog_3_method_17_code 24 = .ok (.if_icmp .lt 7, 3) := by decide +kernel
theorem d_De_checkWhole_27 : decode prog_3_method_17_code 27 = .ok (.iconst 1, 1) := by decide +kernel
theorem d_De_checkWhole_28 : decode prog_3_method_17_code 28 = .ok (.goto 4, 3) := by decide +kernel
theorem d_De_checkWhole_31 : decode prog_3_method_17_code 31 = .ok (.iconst 0, 1) := by decide +kernel
theorem d_De_checkWhole_32 : decode prog_3_method_17_code 32 = .ok (.bipush 14, 2) := by decide +kernel
theorem d_De_checkWhole_34 : decode prog_3_method_17_code 34 = .ok (.invokevirtual 92, 3) := by decide +kernel
theorem d_De_checkWhole_37 : decode prog_3_method_17_code 37 = .ok (.aload_n 0, 1) := by decide +kernel
theorem d_De_checkWhole_38 : decode prog_3_method_17_code 38 = .ok (.getfield 15, 3) := by decide +kernel
theorem d_De_checkWhole_41 : decode prog_3_method_17_code 41 = .ok (.aload_n 0, 1) := by decide +kernel
theorem d_De_checkWhole_42 : decode prog_3_method_17_code 42 = .ok (.getfield 40, 3) := by decide +kernel
theorem d_De_checkWhole_45 : decode prog_3_method_17_code 45 = .ok (.invokevirtual 193, 3) := by decide +kernel
theorem d_De_checkWhole_48 : decode prog_3_method_17_code 48 = .ok (.aload_n 0, 1) := by decide +kernel
theorem d_De_checkWhole_49 : decode prog_3_method_17_code 49 = .ok (.getfield 15, 3) := by decide +kernel
theorem d_De_checkWhole_52 : decode prog_3_method_17_code 52 = .ok (.iconst 0, 1) := by decide +kernel
theorem d_De_checkWhole_53 : decode prog_3_method_17_code 53 = .ok (.invokevirtual 199, 3) := by decide +kernel
theorem d_De_checkWhole_56 : decode prog_3_method_17_code 56 = .ok (.aload_n 0, 1) := by decide +kernel
theorem d_De_checkWhole_57 : decode prog_3_method_17_code 57 = .ok (.getfield 121, 3) := by decide +kernel
theorem d_De_checkWhole_60 : decode prog_3_method_17_code 60 = .ok (.lcmp, 1) := by decide +kernel
theorem d_De_checkWhole_61 : decode prog_3_method_17_code 61 = .ok (.ifCond .ne 23, 3) := by decide +kernel
theorem d_De_checkWhole_64 : decode prog_3_method_17_code 64 = .ok (.aload_n 0, 1) := by decide +kernel
theorem d_De_checkWhole_65 : decode prog_3_method_17_code 65 = .ok (.getfield 15, 3) := by decide +kernel
theorem d_De_checkWhole_68 : decode prog_3_method_17_code 68 = .ok (.iconst 1, 1) := by decide +kernel
theorem d_De_checkWhole_69 : decode prog_3_method_17_code 69 = .ok (.invokevirtual 199, 3) := by decide +kernel
theorem d_De_checkWhole_72 : decode prog_3_method_17_code 72 = .ok (.aload_n 0, 1) := by decide +kernel
theorem d_De_checkWhole_73 : decode prog_3_method_17_code 73 = .ok (.getfield 125, 3) := by decide +kernel
theorem d_De_checkWhole_76 : decode prog_3_method_17_code 76 = .ok (.lcmp, 1) := by decide +kernel
theorem d_De_checkWhole_77 : decode prog_3_method_17_code 77 = .ok (.ifCond .ne 7, 3) := by decide +kernel
theorem d_De_checkWhole_80 : decode prog_3_method_17_code 80 = .ok (.iconst 1, 1) := by decide +kernel
theorem d_De_checkWhole_81 : decode prog_3_method_17_code 81 = .ok (.goto 4, 3) := by decide +kernel
theorem d_De_checkWhole_84 : decode prog_3_method_17_code 84 = .ok (.iconst 0, 1) := by decide +kernel
theorem d_De_checkWhole_85 : decode prog_3_method_17_code 85 = .ok (.istore_n 1, 1) := by decide +kernel
theorem d_De_checkWhole_86 : decode prog_3_method_17_code 86 = .ok (.aload_n 0, 1) := by decide +kernel
theorem d_De_checkWhole_87 : decode prog_3_method_17_code 87 = .ok (.getfield 24, 3) := by decide +kernel
theorem d_De_checkWhole_90 : decode prog_3_method_17_code 90 = .ok (.iload_n 1, 1) := by decide +kernel
theorem d_De_checkWhole_91 : decode prog_3_method_17_code 91 = .ok (.ifCond .ne 10, 3) := by decide +kernel
theorem d_De_checkWhole_94 : decode prog_3_method_17_code 94 = .ok (.aload_n 0, 1) := by decide +kernel
theorem d_De_checkWhole_95 : decode prog_3_method_17_code 95 = .ok (.getfield 81, 3) := by decide +kernel
theorem d_De_checkWhole_98 : decode prog_3_method_17_code 98 = .ok (.ifCond .ne 7, 3) := by decide +kernel
theorem d_De_checkWhole_101 : decode prog_3_method_17_code 101 = .ok (.iconst 1, 1) := by decide +kernel
theorem d_De_checkWhole_102 : decode prog_3_method_17_code 102 = .ok (.goto 4, 3) := by decide +kernel
theorem d_De_checkWhole_105 : decode prog_3_method_17_code 105 = .ok (.iconst 0, 1) := by decide +kernel
theorem d_De_checkWhole_106 : decode prog_3_method_17_code 106 = .ok (.bipush 15, 2) := by decide +kernel
theorem d_De_checkWhole_108 : decode prog_3_method_17_code 108 = .ok (.invokevirtual 92, 3) := by decide +kernel
theorem d_De_checkWhole_111 : decode prog_3_method_17_code 111 = .ok (.aload_n 0, 1) := by decide +kernel
theorem d_De_checkWhole_112 : decode prog_3_method_17_code 112 = .ok (.iconst 1, 1) := by decide +kernel
theorem d_De_checkWhole_113 : decode prog_3_method_17_code 113 = .ok (.putfield 50, 3) := by decide +kernel
theorem d_De_checkWhole_116 : decode prog_3_method_17_code 116 = .ok (.return_, 1) := by decide +kernel
