/-! decode rows of SoundStream$Encoder, by program -/
theorem d_En_init_0 : decode prog_5_method_1_code 0 = .ok (.aload_n 0, 1) := by decide +kernel
theorem d_En_init_1 : decode prog_5_method_1_code 1 = .ok (.invokespecial 3, 3) := by decide +kernel
theorem d_En_init_4 : decode prog_5_method_1_code 4 = .ok (.aload_n 0, 1) := by decide +kernel
theorem d_En_init_5 : decode prog_5_method_1_code 5 = .ok (.bipush 75, 2) := by decide +kernel
theorem d_En_init_7 : decode prog_5_method_1_code 7 = .ok (.bipush 9, 2) := by decide +kernel
theorem d_En_init_9 : decode prog_5_method_1_code 9 = .ok (.multianewarray 11 2, 4) := by decide +kernel
theorem d_En_init_13 : decode prog_5_method_1_code 13 = .ok (.putfield 13, 3) := by decide +kernel
theorem d_En_init_16 : decode prog_5_method_1_code 16 = .ok (.aload_n 0, 1) := by decide +kernel
theorem d_En_init_17 : decode prog_5_method_1_code 17 = .ok (.aload_n 1, 1) := by decide +kernel
theorem d_En_init_18 : decode prog_5_method_1_code 18 = .ok (.putfield 16, 3) := by decide +kernel
theorem d_En_init_21 : decode prog_5_method_1_code 21 = .ok (.aload_n 0, 1) := by decide +kernel
theorem d_En_init_22 : decode prog_5_method_1_code 22 = .ok (.aload_n 2, 1) := by decide +kernel
theorem d_En_init_23 : decode prog_5_method_1_code 23 = .ok (.putfield 20, 3) := by decide +kernel
theorem d_En_init_26 : decode prog_5_method_1_code 26 = .ok (.aload_n 0, 1) := by decide +kernel
theorem d_En_init_27 : decode prog_5_method_1_code 27 = .ok (.aload_n 3, 1) := by decide +kernel
theorem d_En_init_28 : decode prog_5_method_1_code 28 = .ok (.putfield 24, 3) := by decide +kernel
theorem d_En_init_31 : decode prog_5_method_1_code 31 = .ok (.aload_n 0, 1) := by decide +kernel
theorem d_En_init_32 : decode prog_5_method_1_code 32 = .ok (.new 28, 3) := by decide +kernel
theorem d_En_init_35 : decode prog_5_method_1_code 35 = .ok (.dup, 1) := by decide +kernel
theorem d_En_init_36 : decode prog_5_method_1_code 36 = .ok (.aload_n 2, 1) := by decide +kernel
theorem d_En_init_37 : decode prog_5_method_1_code 37 = .ok (.invokespecial 30, 3) := by decide +kernel
theorem d_En_init_40 : decode prog_5_method_1_code 40 = .ok (.putfield 33, 3) := by decide +kernel
theorem d_En_init_43 : decode prog_5_method_1_code 43 = .ok (.new 37, 3) := by decide +kernel
theorem d_En_init_46 : decode prog_5_method_1_code 46 = .ok (.dup, 1) := by decide +kernel
theorem d_En_init_47 : decode prog_5_method_1_code 47 = .ok (.invokespecial 39, 3) := by decide +kernel
theorem d_En_init_50 : decode prog_5_method_1_code 50 = .ok (.astore 4, 2) := by decide +kernel
theorem d_En_init_52 : decode prog_5_method_1_code 52 = .ok (.aload_n 0, 1) := by decide +kernel
theorem d_En_init_53 : decode prog_5_method_1_code 53 = .ok (.new 40, 3) := by decide +kernel
theorem d_En_init_56 : decode prog_5_method_1_code 56 = .ok (.dup, 1) := by decide +kernel
theorem d_En_init_57 : decode prog_5_method_1_code 57 = .ok (.aload 4, 2) := by decide +kernel
theorem d_En_init_59 : decode prog_5_method_1_code 59 = .ok (.invokespecial 42, 3) := by decide +kernel
theorem d_En_init_62 : decode prog_5_method_1_code 62 = .ok (.putfield 45, 3) := by decide +kernel
theorem d_En_init_65 : decode prog_5_method_1_code 65 = .ok (.aload_n 0, 1) := by decide +kernel
theorem d_En_init_66 : decode prog_5_method_1_code 66 = .ok (.new 40, 3) := by decide +kernel
theorem d_En_init_69 : decode prog_5_method_1_code 69 = .ok (.dup, 1) := by decide +kernel
theorem d_En_init_70 : decode prog_5_method_1_code 70 = .ok (.aload 4, 2) := by decide +kernel
theorem d_En_init_72 : decode prog_5_method_1_code 72 = .ok (.invokespecial 42, 3) := by decide +kernel
theorem d_En_init_75 : decode prog_5_method_1_code 75 = .ok (.putfield 49, 3) := by decide +kernel
theorem d_En_init_78 : decode prog_5_method_1_code 78 = .ok (.aload_n 0, 1) := by decide +kernel
theorem d_En_init_79 : decode prog_5_method_1_code 79 = .ok (.new 40, 3) := by decide +kernel
theorem d_En_init_82 : decode prog_5_method_1_code 82 = .ok (.dup, 1) := by decide +kernel
theorem d_En_init_83 : decode prog_5_method_1_code 83 = .ok (.aload 4, 2) := by decide +kernel
theorem d_En_init_85 : decode prog_5_method_1_code 85 = .ok (.invokespecial 42, 3) := by decide +kernel
theorem d_En_init_88 : decode prog_5_method_1_code 88 = .ok (.putfield 52, 3) := by decide +kernel
theorem d_En_init_91 : decode prog_5_method_1_code 91 = .ok (.aload_n 0, 1) := by decide +kernel
theorem d_En_init_92 : decode prog_5_method_1_code 92 = .ok (.new 40, 3) := by decide +kernel
theorem d_En_init_95 : decode prog_5_method_1_code 95 = .ok (.dup, 1) := by decide +kernel
theorem d_En_init_96 : decode prog_5_method_1_code 96 = .ok (.aload 4, 2) := by decide +kernel
theorem d_En_init_98 : decode prog_5_method_1_code 98 = .ok (.invokespecial 42, 3) := by decide +kernel
theorem d_En_init_101 : decode prog_5_method_1_code 101 = .ok (.putfield 55, 3) := by decide +kernel
theorem d_En_init_104 : decode prog_5_method_1_code 104 = .ok (.return_, 1) := by decide +kernel
theorem d_En_write_0 : decode prog_5_method_2_code 0 = .ok (.aload_n 0, 1) := by decide +kernel
theorem d_En_write_1 : decode prog_5_method_2_code 1 = .ok (.getfield 20, 3) := by decide +kernel
theorem d_En_write_4 : decode prog_5_method_2_code 4 = .ok (.iconst 0, 1) := by decide +kernel
theorem d_En_write_5 : decode prog_5_method_2_code 5 = .ok (.putfield 58, 3) := by decide +kernel
theorem d_En_write_8 : decode prog_5_method_2_code 8 = .ok (.aload_n 0, 1) := by decide +kernel
theorem d_En_write_9 : decode prog_5_method_2_code 9 = .ok (.iconst 0, 1) := by decide +kernel
theorem d_En_write_10 : decode prog_5_method_2_code 10 = .ok (.putfield 64, 3) := by decide +kernel
theorem d_En_write_13 : decode prog_5_method_2_code 13 = .ok (.aload_n 0, 1) := by decide +kernel
theorem d_En_write_14 : decode prog_5_method_2_code 14 = .ok (.invokevirtual 67, 3) := by decide +kernel
theorem d_En_write_17 : decode prog_5_method_2_code 17 = .ok (.aload_n 0, 1) := by decide +kernel
theorem d_En_write_18 : decode prog_5_method_2_code 18 = .ok (.getfield 16, 3) := by decide +kernel
theorem d_En_write_21 : decode prog_5_method_2_code 21 = .ok (.getfield 70, 3) := by decide +kernel
theorem d_En_write_24 : decode prog_5_method_2_code 24 = .ok (.iconst 0, 1) := by decide +kernel
theorem d_En_write_25 : decode prog_5_method_2_code 25 = .ok (.iaload, 1) := by decide +kernel
theorem d_En_write_26 : decode prog_5_method_2_code 26 = .ok (.istore_n 2, 1) := by decide +kernel
theorem d_En_write_27 : decode prog_5_method_2_code 27 = .ok (.iconst 0, 1) := by decide +kernel
theorem d_En_write_28 : decode prog_5_method_2_code 28 = .ok (.istore_n 3, 1) := by decide +kernel
theorem d_En_write_29 : decode prog_5_method_2_code 29 = .ok (.iload_n 3, 1) := by decide +kernel
theorem d_En_write_30 : decode prog_5_method_2_code 30 = .ok (.iload_n 2, 1) := by decide +kernel
theorem d_En_write_31 : decode prog_5_method_2_code 31 = .ok (.if_icmp .ge 115, 3) := by decide +kernel
theorem d_En_write_34 : decode prog_5_method_2_code 34 = .ok (.aload_n 0, 1) := by decide +kernel
theorem d_En_write_35 : decode prog_5_method_2_code 35 = .ok (.getfield 64, 3) := by decide +kernel
theorem d_En_write_38 : decode prog_5_method_2_code 38 = .ok (.bipush 75, 2) := by decide +kernel
theorem d_En_write_40 : decode prog_5_method_2_code 40 = .ok (.if_icmp .ge 106, 3) := by decide +kernel
theorem d_En_write_43 : decode prog_5_method_2_code 43 = .ok (.aload_n 0, 1) := by decide +kernel
theorem d_En_write_44 : decode prog_5_method_2_code 44 = .ok (.getfield 16, 3) := by decide +kernel
theorem d_En_write_47 : decode prog_5_method_2_code 47 = .ok (.getfield 76, 3) := by decide +kernel
theorem d_En_write_50 : decode prog_5_method_2_code 50 = .ok (.iload_n 2, 1) := by decide +kernel
theorem d_En_write_51 : decode prog_5_method_2_code 51 = .ok (.iload_n 3, 1) := by decide +kernel
theorem d_En_write_52 : decode prog_5_method_2_code 52 = .ok (.isub, 1) := by decide +kernel
theorem d_En_write_53 : decode prog_5_method_2_code 53 = .ok (.invokestatic 79, 3) := by decide +kernel
theorem d_En_write_56 : decode prog_5_method_2_code 56 = .ok (.istore 4, 2) := by decide +kernel
theorem d_En_write_58 : decode prog_5_method_2_code 58 = .ok (.aload_n 0, 1) := by decide +kernel
theorem d_En_write_59 : decode prog_5_method_2_code 59 = .ok (.getfield 16, 3) := by decide +kernel
theorem d_En_write_62 : decode prog_5_method_2_code 62 = .ok (.getfield 85, 3) := by decide +kernel
theorem d_En_write_65 : decode prog_5_method_2_code 65 = .ok (.iconst 1, 1) := by decide +kernel
theorem d_En_write_66 : decode prog_5_method_2_code 66 = .ok (.if_icmp .ne 13, 3) := by decide +kernel
theorem d_En_write_69 : decode prog_5_method_2_code 69 = .ok (.aload_n 0, 1) := by decide +kernel
theorem d_En_write_70 : decode prog_5_method_2_code 70 = .ok (.iload_n 3, 1) := by decide +kernel
theorem d_En_write_71 : decode prog_5_method_2_code 71 = .ok (.iload 4, 2) := by decide +kernel
theorem d_En_write_73 : decode prog_5_method_2_code 73 = .ok (.invokevirtual 88, 3) := by decide +kernel
theorem d_En_write_76 : decode prog_5_method_2_code 76 = .ok (.goto 10, 3) := by decide +kernel
theorem d_En_write_79 : decode prog_5_method_2_code 79 = .ok (.aload_n 0, 1) := by decide +kernel
theorem d_En_write_80 : decode prog_5_method_2_code 80 = .ok (.iload_n 3, 1) := by decide +kernel
theorem d_En_write_81 : decode prog_5_method_2_code 81 = .ok (.iload 4, 2) := by decide +kernel
theorem d_En_write_83 : decode prog_5_method_2_code 83 = .ok (.invokevirtual 91, 3) := by decide +kernel
theorem d_En_write_86 : decode prog_5_method_2_code 86 = .ok (.istore 5, 2) := by decide +kernel
theorem d_En_write_88 : decode prog_5_method_2_code 88 = .ok (.aload_n 0, 1) := by decide +kernel
theorem d_En_write_89 : decode prog_5_method_2_code 89 = .ok (.getfield 20, 3) := by decide +kernel
theorem d_En_write_92 : decode prog_5_method_2_code 92 = .ok (.getfield 58, 3) := by decide +kernel
theorem d_En_write_95 : decode prog_5_method_2_code 95 = .ok (.istore 6, 2) := by decide +kernel
theorem d_En_write_97 : decode prog_5_method_2_code 97 = .ok (.aload_n 0, 1) := by decide +kernel
theorem d_En_write_98 : decode prog_5_method_2_code 98 = .ok (.iload_n 3, 1) := by decide +kernel
theorem d_En_write_99 : decode prog_5_method_2_code 99 = .ok (.iload 4, 2) := by decide +kernel
theorem d_En_write_101 : decode prog_5_method_2_code 101 = .ok (.iload 5, 2) := by decide +kernel
theorem d_En_write_103 : decode prog_5_method_2_code 103 = .ok (.iload_n 1, 1) := by decide +kernel
theorem d_En_write_104 : decode prog_5_method_2_code 104 = .ok (.invokevirtual 94, 3) := by decide +kernel
theorem d_En_write_107 : decode prog_5_method_2_code 107 = .ok (.aload_n 0, 1) := by decide +kernel
theorem d_En_write_108 : decode prog_5_method_2_code 108 = .ok (.iload 6, 2) := by decide +kernel
theorem d_En_write_110 : decode prog_5_method_2_code 110 = .ok (.iload 5, 2) := by decide +kernel
theorem d_En_write_112 : decode prog_5_method_2_code 112 = .ok (.invokevirtual 98, 3) := by decide +kernel
theorem d_En_write_115 : decode prog_5_method_2_code 115 = .ok (.aload_n 0, 1) := by decide +kernel
theorem d_En_write_116 : decode prog_5_method_2_code 116 = .ok (.iload 6, 2) := by decide +kernel
theorem d_En_write_118 : decode prog_5_method_2_code 118 = .ok (.iload 5, 2) := by decide +kernel
theorem d_En_write_120 : decode prog_5_method_2_code 120 = .ok (.invokevirtual 102, 3) := by decide +kernel
theorem d_En_write_123 : decode prog_5_method_2_code 123 = .ok (.aload_n 0, 1) := by decide +kernel
theorem d_En_write_124 : decode prog_5_method_2_code 124 = .ok (.dup, 1) := by decide +kernel
theorem d_En_write_125 : decode prog_5_method_2_code 125 = .ok (.getfield 64, 3) := by decide +kernel
theorem d_En_write_128 : decode prog_5_method_2_code 128 = .ok (.iconst 1, 1) := by decide +kernel
theorem d_En_write_129 : decode prog_5_method_2_code 129 = .ok (.iadd, 1) := by decide +kernel
theorem d_En_write_130 : decode prog_5_method_2_code 130 = .ok (.putfield 64, 3) := by decide +kernel
theorem d_En_write_133 : decode prog_5_method_2_code 133 = .ok (.iload_n 3, 1) := by decide +kernel
theorem d_En_write_134 : decode prog_5_method_2_code 134 = .ok (.aload_n 0, 1) := by decide +kernel
theorem d_En_write_135 : decode prog_5_method_2_code 135 = .ok (.getfield 16, 3) := by decide +kernel
theorem d_En_write_138 : decode prog_5_method_2_code 138 = .ok (.getfield 76, 3) := by decide +kernel
theorem d_En_write_141 : decode prog_5_method_2_code 141 = .ok (.iadd, 1) := by decide +kernel
theorem d_En_write_142 : decode prog_5_method_2_code 142 = .ok (.istore_n 3, 1) := by decide +kernel
theorem d_En_write_143 : decode prog_5_method_2_code 143 = .ok (.goto (-114), 3) := by decide +kernel
theorem d_En_write_146 : decode prog_5_method_2_code 146 = .ok (.aload_n 0, 1) := by decide +kernel
theorem d_En_write_147 : decode prog_5_method_2_code 147 = .ok (.invokevirtual 105, 3) := by decide +kernel
theorem d_En_write_150 : decode prog_5_method_2_code 150 = .ok (.return_, 1) := by decide +kernel
theorem d_En_writeInformation_0 : decode prog_5_method_3_code 0 = .ok (.getstatic 108, 3) := by decide +kernel
theorem d_En_writeInformation_3 : decode prog_5_method_3_code 3 = .ok (.astore_n 1, 1) := by decide +kernel
theorem d_En_writeInformation_4 : decode prog_5_method_3_code 4 = .ok (.aload_n 1, 1) := by decide +kernel
theorem d_En_writeInformation_5 : decode prog_5_method_3_code 5 = .ok (.arraylength, 1) := by decide +kernel
theorem d_En_writeInformation_6 : decode prog_5_method_3_code 6 = .ok (.istore_n 2, 1) := by decide +kernel
theorem d_En_writeInformation_7 : decode prog_5_method_3_code 7 = .ok (.iconst 0, 1) := by decide +kernel
theorem d_En_writeInformation_8 : decode prog_5_method_3_code 8 = .ok (.istore_n 3, 1) := by decide +kernel
theorem d_En_writeInformation_9 : decode prog_5_method_3_code 9 = .ok (.iload_n 3, 1) := by decide +kernel
theorem d_En_writeInformation_10 : decode prog_5_method_3_code 10 = .ok (.iload_n 2, 1) := by decide +kernel
theorem d_En_writeInformation_11 : decode prog_5_method_3_code 11 = .ok (.if_icmp .ge 26, 3) := by decide +kernel
theorem d_En_writeInformation_14 : decode prog_5_method_3_code 14 = .ok (.aload_n 1, 1) := by decide +kernel
theorem d_En_writeInformation_15 : decode prog_5_method_3_code 15 = .ok (.iload_n 3, 1) := by decide +kernel
theorem d_En_writeInformation_16 : decode prog_5_method_3_code 16 = .ok (.iaload, 1) := by decide +kernel
theorem d_En_writeInformation_17 : decode prog_5_method_3_code 17 = .ok (.istore 4, 2) := by decide +kernel
theorem d_En_writeInformation_19 : decode prog_5_method_3_code 19 = .ok (.aload_n 0, 1) := by decide +kernel
theorem d_En_writeInformation_20 : decode prog_5_method_3_code 20 = .ok (.getfield 33, 3) := by decide +kernel
theorem d_En_writeInformation_23 : decode prog_5_method_3_code 23 = .ok (.bipush 8, 2) := by decide +kernel
theorem d_En_writeInformation_25 : decode prog_5_method_3_code 25 = .ok (.iload 4, 2) := by decide +kernel
theorem d_En_writeInformation_27 : decode prog_5_method_3_code 27 = .ok (.i2l, 1) := by decide +kernel
theorem d_En_writeInformation_28 : decode prog_5_method_3_code 28 = .ok (.invokevirtual 111, 3) := by decide +kernel
theorem d_En_writeInformation_31 : decode prog_5_method_3_code 31 = .ok (.iinc 3 1, 3) := by decide +kernel
theorem d_En_writeInformation_34 : decode prog_5_method_3_code 34 = .ok (.goto (-25), 3) := by decide +kernel
theorem d_En_writeInformation_37 : decode prog_5_method_3_code 37 = .ok (.aload_n 0, 1) := by decide +kernel
theorem d_En_writeInformation_38 : decode prog_5_method_3_code 38 = .ok (.getfield 33, 3) := by decide +kernel
theorem d_En_writeInformation_41 : decode prog_5_method_3_code 41 = .ok (.bipush 8, 2) := by decide +kernel
theorem d_En_writeInformation_43 : decode prog_5_method_3_code 43 = .ok (.ldc2_w 115, 3) := by decide +kernel
theorem d_En_writeInformation_46 : decode prog_5_method_3_code 46 = .ok (.invokevirtual 111, 3) := by decide +kernel
theorem d_En_writeInformation_49 : decode prog_5_method_3_code 49 = .ok (.aload_n 0, 1) := by decide +kernel
theorem d_En_writeInformation_50 : decode prog_5_method_3_code 50 = .ok (.getfield 33, 3) := by decide +kernel
theorem d_En_writeInformation_53 : decode prog_5_method_3_code 53 = .ok (.bipush 24, 2) := by decide +kernel
theorem d_En_writeInformation_55 : decode prog_5_method_3_code 55 = .ok (.ldc2_w 117, 3) := by decide +kernel
theorem d_En_writeInformation_58 : decode prog_5_method_3_code 58 = .ok (.invokevirtual 111, 3) := by decide +kernel
theorem d_En_writeInformation_61 : decode prog_5_method_3_code 61 = .ok (.aload_n 0, 1) := by decide +kernel
theorem d_En_writeInformation_62 : decode prog_5_method_3_code 62 = .ok (.getfield 33, 3) := by decide +kernel
theorem d_En_writeInformation_65 : decode prog_5_method_3_code 65 = .ok (.bipush 16, 2) := by decide +kernel
theorem d_En_writeInformation_67 : decode prog_5_method_3_code 67 = .ok (.aload_n 0, 1) := by decide +kernel
theorem d_En_writeInformation_68 : decode prog_5_method_3_code 68 = .ok (.getfield 16, 3) := by decide +kernel
theorem d_En_writeInformation_71 : decode prog_5_method_3_code 71 = .ok (.getfield 76, 3) := by decide +kernel
theorem d_En_writeInformation_74 : decode prog_5_method_3_code 74 = .ok (.i2l, 1) := by decide +kernel
theorem d_En_writeInformation_75 : decode prog_5_method_3_code 75 = .ok (.invokevirtual 111, 3) := by decide +kernel
theorem d_En_writeInformation_78 : decode prog_5_method_3_code 78 = .ok (.aload_n 0, 1) := by decide +kernel
theorem d_En_writeInformation_79 : decode prog_5_method_3_code 79 = .ok (.getfield 33, 3) := by decide +kernel
theorem d_En_writeInformation_82 : decode prog_5_method_3_code 82 = .ok (.bipush 16, 2) := by decide +kernel
theorem d_En_writeInformation_84 : decode prog_5_method_3_code 84 = .ok (.aload_n 0, 1) := by decide +kernel
theorem d_En_writeInformation_85 : decode prog_5_method_3_code 85 = .ok (.getfield 16, 3) := by decide +kernel
theorem d_En_writeInformation_88 : decode prog_5_method_3_code 88 = .ok (.getfield 76, 3) := by decide +kernel
theorem d_En_writeInformation_91 : decode prog_5_method_3_code 91 = .ok (.i2l, 1) := by decide +kernel
theorem d_En_writeInformation_92 : decode prog_5_method_3_code 92 = .ok (.invokevirtual 111, 3) := by decide +kernel
theorem d_En_writeInformation_95 : decode prog_5_method_3_code 95 = .ok (.aload_n 0, 1) := by decide +kernel
theorem d_En_writeInformation_96 : decode prog_5_method_3_code 96 = .ok (.getfield 33, 3) := by decide +kernel
theorem d_En_writeInformation_99 : decode prog_5_method_3_code 99 = .ok (.bipush 48, 2) := by decide +kernel
theorem d_En_writeInformation_101 : decode prog_5_method_3_code 101 = .ok (.lconst 0, 1) := by decide +kernel
theorem d_En_writeInformation_102 : decode prog_5_method_3_code 102 = .ok (.invokevirtual 111, 3) := by decide +kernel
theorem d_En_writeInformation_105 : decode prog_5_method_3_code 105 = .ok (.aload_n 0, 1) := by decide +kernel
theorem d_En_writeInformation_106 : decode prog_5_method_3_code 106 = .ok (.getfield 33, 3) := by decide +kernel
theorem d_En_writeInformation_109 : decode prog_5_method_3_code 109 = .ok (.bipush 20, 2) := by decide +kernel
theorem d_En_writeInformation_111 : decode prog_5_method_3_code 111 = .ok (.aload_n 0, 1) := by decide +kernel
theorem d_En_writeInformation_112 : decode prog_5_method_3_code 112 = .ok (.getfield 16, 3) := by decide +kernel
theorem d_En_writeInformation_115 : decode prog_5_method_3_code 115 = .ok (.getfield 119, 3) := by decide +kernel
theorem d_En_writeInformation_118 : decode prog_5_method_3_code 118 = .ok (.i2l, 1) := by decide +kernel
theorem d_En_writeInformation_119 : decode prog_5_method_3_code 119 = .ok (.invokevirtual 111, 3) := by decide +kernel
theorem d_En_writeInformation_122 : decode prog_5_method_3_code 122 = .ok (.aload_n 0, 1) := by decide +kernel
theorem d_En_writeInformation_123 : decode prog_5_method_3_code 123 = .ok (.getfield 33, 3) := by decide +kernel
theorem d_En_writeInformation_126 : decode prog_5_method_3_code 126 = .ok (.iconst 3, 1) := by decide +kernel
theorem d_En_writeInformation_127 : decode prog_5_method_3_code 127 = .ok (.aload_n 0, 1) := by decide +kernel
theorem d_En_writeInformation_128 : decode prog_5_method_3_code 128 = .ok (.getfield 16, 3) := by decide +kernel
theorem d_En_writeInformation_131 : decode prog_5_method_3_code 131 = .ok (.getfield 85, 3) := by decide +kernel
theorem d_En_writeInformation_134 : decode prog_5_method_3_code 134 = .ok (.iconst 1, 1) := by decide +kernel
theorem d_En_writeInformation_135 : decode prog_5_method_3_code 135 = .ok (.isub, 1) := by decide +kernel
theorem d_En_writeInformation_136 : decode prog_5_method_3_code 136 = .ok (.i2l, 1) := by decide +kernel
theorem d_En_writeInformation_137 : decode prog_5_method_3_code 137 = .ok (.invokevirtual 111, 3) := by decide +kernel
theorem d_En_writeInformation_140 : decode prog_5_method_3_code 140 = .ok (.aload_n 0, 1) := by decide +kernel
theorem d_En_writeInformation_141 : decode prog_5_method_3_code 141 = .ok (.getfield 33, 3) := by decide +kernel
theorem d_En_writeInformation_144 : decode prog_5_method_3_code 144 = .ok (.iconst 5, 1) := by decide +kernel
theorem d_En_writeInformation_145 : decode prog_5_method_3_code 145 = .ok (.aload_n 0, 1) := by decide +kernel
theorem d_En_writeInformation_146 : decode prog_5_method_3_code 146 = .ok (.getfield 16, 3) := by decide +kernel
theorem d_En_writeInformation_149 : decode prog_5_method_3_code 149 = .ok (.getfield 122, 3) := by decide +kernel
theorem d_En_writeInformation_152 : decode prog_5_method_3_code 152 = .ok (.iconst 1, 1) := by decide +kernel
theorem d_En_writeInformation_153 : decode prog_5_method_3_code 153 = .ok (.isub, 1) := by decide +kernel
theorem d_En_writeInformation_154 : decode prog_5_method_3_code 154 = .ok (.i2l, 1) := by decide +kernel
theorem d_En_writeInformation_155 : decode prog_5_method_3_code 155 = .ok (.invokevirtual 111, 3) := by decide +kernel
theorem d_En_writeInformation_158 : decode prog_5_method_3_code 158 = .ok (.aload_n 0, 1) := by decide +kernel
theorem d_En_writeInformation_159 : decode prog_5_method_3_code 159 = .ok (.getfield 33, 3) := by decide +kernel
theorem d_En_writeInformation_162 : decode prog_5_method_3_code 162 = .ok (.bipush 36, 2) := by decide +kernel
theorem d_En_writeInformation_164 : decode prog_5_method_3_code 164 = .ok (.aload_n 0, 1) := by decide +kernel
theorem d_En_writeInformation_165 : decode prog_5_method_3_code 165 = .ok (.getfield 16, 3) := by decide +kernel
theorem d_En_writeInformation_168 : decode prog_5_method_3_code 168 = .ok (.getfield 70, 3) := by decide +kernel
theorem d_En_writeInformation_171 : decode prog_5_method_3_code 171 = .ok (.iconst 0, 1) := by decide +kernel
theorem d_En_writeInformation_172 : decode prog_5_method_3_code 172 = .ok (.iaload, 1) := by decide +kernel
theorem d_En_writeInformation_173 : decode prog_5_method_3_code 173 = .ok (.i2l, 1) := by decide +kernel
theorem d_En_writeInformation_174 : decode prog_5_method_3_code 174 = .ok (.invokevirtual 111, 3) := by decide +kernel
theorem d_En_writeInformation_177 : decode prog_5_method_3_code 177 = .ok (.aload_n 0, 1) := by decide +kernel
theorem d_En_writeInformation_178 : decode prog_5_method_3_code 178 = .ok (.getfield 24, 3) := by decide +kernel
theorem d_En_writeInformation_181 : decode prog_5_method_3_code 181 = .ok (.aload_n 0, 1) := by decide +kernel
theorem d_En_writeInformation_182 : decode prog_5_method_3_code 182 = .ok (.getfield 16, 3) := by decide +kernel
theorem d_En_writeInformation_185 : decode prog_5_method_3_code 185 = .ok (.invokevirtual 125, 3) := by decide +kernel
theorem d_En_writeInformation_188 : decode prog_5_method_3_code 188 = .ok (.iconst 0, 1) := by decide +kernel
theorem d_En_writeInformation_189 : decode prog_5_method_3_code 189 = .ok (.istore_n 1, 1) := by decide +kernel
theorem d_En_writeInformation_190 : decode prog_5_method_3_code 190 = .ok (.iload_n 1, 1) := by decide +kernel
theorem d_En_writeInformation_191 : decode prog_5_method_3_code 191 = .ok (.bipush 16, 2) := by decide +kernel
theorem d_En_writeInformation_193 : decode prog_5_method_3_code 193 = .ok (.if_icmp .ge 36, 3) := by decide +kernel
theorem d_En_writeInformation_196 : decode prog_5_method_3_code 196 = .ok (.aload_n 0, 1) := by decide +kernel
theorem d_En_writeInformation_197 : decode prog_5_method_3_code 197 = .ok (.getfield 33, 3) := by decide +kernel
theorem d_En_writeInformation_200 : decode prog_5_method_3_code 200 = .ok (.bipush 8, 2) := by decide +kernel
theorem d_En_writeInformation_202 : decode prog_5_method_3_code 202 = .ok (.aload_n 0, 1) := by decide +kernel
theorem d_En_writeInformation_203 : decode prog_5_method_3_code 203 = .ok (.getfield 24, 3) := by decide +kernel
theorem d_En_writeInformation_206 : decode prog_5_method_3_code 206 = .ok (.iload_n 1, 1) := by decide +kernel
theorem d_En_writeInformation_207 : decode prog_5_method_3_code 207 = .ok (.iconst 3, 1) := by decide +kernel
theorem d_En_writeInformation_208 : decode prog_5_method_3_code 208 = .ok (.ishr, 1) := by decide +kernel
theorem d_En_writeInformation_209 : decode prog_5_method_3_code 209 = .ok (.invokevirtual 131, 3) := by decide +kernel
theorem d_En_writeInformation_212 : decode prog_5_method_3_code 212 = .ok (.bipush 8, 2) := by decide +kernel
theorem d_En_writeInformation_214 : decode prog_5_method_3_code 214 = .ok (.iload_n 1, 1) := by decide +kernel
theorem d_En_writeInformation_215 : decode prog_5_method_3_code 215 = .ok (.bipush 7, 2) := by decide +kernel
theorem d_En_writeInformation_217 : decode prog_5_method_3_code 217 = .ok (.iand, 1) := by decide +kernel
theorem d_En_writeInformation_218 : decode prog_5_method_3_code 218 = .ok (.imul, 1) := by decide +kernel
theorem d_En_writeInformation_219 : decode prog_5_method_3_code 219 = .ok (.lshr, 1) := by decide +kernel
theorem d_En_writeInformation_220 : decode prog_5_method_3_code 220 = .ok (.invokevirtual 111, 3) := by decide +kernel
theorem d_En_writeInformation_223 : decode prog_5_method_3_code 223 = .ok (.iinc 1 1, 3) := by decide +kernel
theorem d_En_writeInformation_226 : decode prog_5_method_3_code 226 = .ok (.goto (-36), 3) := by decide +kernel
theorem d_En_writeInformation_229 : decode prog_5_method_3_code 229 = .ok (.return_, 1) := by decide +kernel
theorem d_En_chooseOne_0 : decode prog_5_method_4_code 0 = .ok (.iconst 0, 1) := by decide +kernel
theorem d_En_chooseOne_1 : decode prog_5_method_4_code 1 = .ok (.istore_n 3, 1) := by decide +kernel
theorem d_En_chooseOne_2 : decode prog_5_method_4_code 2 = .ok (.iload_n 3, 1) := by decide +kernel
theorem d_En_chooseOne_3 : decode prog_5_method_4_code 3 = .ok (.iload_n 2, 1) := by decide +kernel
theorem d_En_chooseOne_4 : decode prog_5_method_4_code 4 = .ok (.if_icmp .ge 30, 3) := by decide +kernel
theorem d_En_chooseOne_7 : decode prog_5_method_4_code 7 = .ok (.aload_n 0, 1) := by decide +kernel
theorem d_En_chooseOne_8 : decode prog_5_method_4_code 8 = .ok (.getfield 45, 3) := by decide +kernel
theorem d_En_chooseOne_11 : decode prog_5_method_4_code 11 = .ok (.iload_n 3, 1) := by decide +kernel
theorem d_En_chooseOne_12 : decode prog_5_method_4_code 12 = .ok (.aload_n 0, 1) := by decide +kernel
theorem d_En_chooseOne_13 : decode prog_5_method_4_code 13 = .ok (.getfield 16, 3) := by decide +kernel
theorem d_En_chooseOne_16 : decode prog_5_method_4_code 16 = .ok (.getfield 135, 3) := by decide +kernel
theorem d_En_chooseOne_19 : decode prog_5_method_4_code 19 = .ok (.iconst 0, 1) := by decide +kernel
theorem d_En_chooseOne_20 : decode prog_5_method_4_code 20 = .ok (.aaload, 1) := by decide +kernel
theorem d_En_chooseOne_21 : decode prog_5_method_4_code 21 = .ok (.iload_n 1, 1) := by decide +kernel
theorem d_En_chooseOne_22 : decode prog_5_method_4_code 22 = .ok (.iload_n 3, 1) := by decide +kernel
theorem d_En_chooseOne_23 : decode prog_5_method_4_code 23 = .ok (.iadd, 1) := by decide +kernel
theorem d_En_chooseOne_24 : decode prog_5_method_4_code 24 = .ok (.iaload, 1) := by decide +kernel
theorem d_En_chooseOne_25 : decode prog_5_method_4_code 25 = .ok (.invokevirtual 138, 3) := by decide +kernel
theorem d_En_chooseOne_28 : decode prog_5_method_4_code 28 = .ok (.iinc 3 1, 3) := by decide +kernel
theorem d_En_chooseOne_31 : decode prog_5_method_4_code 31 = .ok (.goto (-29), 3) := by decide +kernel
theorem d_En_chooseOne_34 : decode prog_5_method_4_code 34 = .ok (.aload_n 0, 1) := by decide +kernel
theorem d_En_chooseOne_35 : decode prog_5_method_4_code 35 = .ok (.getfield 45, 3) := by decide +kernel
theorem d_En_chooseOne_38 : decode prog_5_method_4_code 38 = .ok (.iload_n 2, 1) := by decide +kernel
theorem d_En_chooseOne_39 : decode prog_5_method_4_code 39 = .ok (.aload_n 0, 1) := by decide +kernel
theorem d_En_chooseOne_40 : decode prog_5_method_4_code 40 = .ok (.getfield 16, 3) := by decide +kernel
theorem d_En_chooseOne_43 : decode prog_5_method_4_code 43 = .ok (.getfield 122, 3) := by decide +kernel
theorem d_En_chooseOne_46 : decode prog_5_method_4_code 46 = .ok (.invokevirtual 141, 3) := by decide +kernel
theorem d_En_chooseOne_49 : decode prog_5_method_4_code 49 = .ok (.iconst 0, 1) := by decide +kernel
theorem d_En_chooseOne_50 : decode prog_5_method_4_code 50 = .ok (.ireturn, 1) := by decide +kernel
theorem d_En_chooseTwo_0 : decode prog_5_method_5_code 0 = .ok (.iconst 0, 1) := by decide +kernel
theorem d_En_chooseTwo_1 : decode prog_5_method_5_code 1 = .ok (.istore_n 3, 1) := by decide +kernel
theorem d_En_chooseTwo_2 : decode prog_5_method_5_code 2 = .ok (.iload_n 3, 1) := by decide +kernel
theorem d_En_chooseTwo_3 : decode prog_5_method_5_code 3 = .ok (.iload_n 2, 1) := by decide +kernel
theorem d_En_chooseTwo_4 : decode prog_5_method_5_code 4 = .ok (.if_icmp .ge 87, 3) := by decide +kernel
theorem d_En_chooseTwo_7 : decode prog_5_method_5_code 7 = .ok (.aload_n 0, 1) := by decide +kernel
theorem d_En_chooseTwo_8 : decode prog_5_method_5_code 8 = .ok (.getfield 16, 3) := by decide +kernel
theorem d_En_chooseTwo_11 : decode prog_5_method_5_code 11 = .ok (.getfield 135, 3) := by decide +kernel
theorem d_En_chooseTwo_14 : decode prog_5_method_5_code 14 = .ok (.iconst 0, 1) := by decide +kernel
theorem d_En_chooseTwo_15 : decode prog_5_method_5_code 15 = .ok (.aaload, 1) := by decide +kernel
theorem d_En_chooseTwo_16 : decode prog_5_method_5_code 16 = .ok (.iload_n 1, 1) := by decide +kernel
theorem d_En_chooseTwo_17 : decode prog_5_method_5_code 17 = .ok (.iload_n 3, 1) := by decide +kernel
theorem d_En_chooseTwo_18 : decode prog_5_method_5_code 18 = .ok (.iadd, 1) := by decide +kernel
theorem d_En_chooseTwo_19 : decode prog_5_method_5_code 19 = .ok (.iaload, 1) := by decide +kernel
theorem d_En_chooseTwo_20 : decode prog_5_method_5_code 20 = .ok (.istore 4, 2) := by decide +kernel
theorem d_En_chooseTwo_22 : decode prog_5_method_5_code 22 = .ok (.aload_n 0, 1) := by decide +kernel
theorem d_En_chooseTwo_23 : decode prog_5_method_5_code 23 = .ok (.getfield 16, 3) := by decide +kernel
theorem d_En_chooseTwo_26 : decode prog_5_method_5_code 26 = .ok (.getfield 135, 3) := by decide +kernel
theorem d_En_chooseTwo_29 : decode prog_5_method_5_code 29 = .ok (.iconst 1, 1) := by decide +kernel
theorem d_En_chooseTwo_30 : decode prog_5_method_5_code 30 = .ok (.aaload, 1) := by decide +kernel
theorem d_En_chooseTwo_31 : decode prog_5_method_5_code 31 = .ok (.iload_n 1, 1) := by decide +kernel
theorem d_En_chooseTwo_32 : decode prog_5_method_5_code 32 = .ok (.iload_n 3, 1) := by decide +kernel
theorem d_En_chooseTwo_33 : decode prog_5_method_5_code 33 = .ok (.iadd, 1) := by decide +kernel
theorem d_En_chooseTwo_34 : decode prog_5_method_5_code 34 = .ok (.iaload, 1) := by decide +kernel
theorem d_En_chooseTwo_35 : decode prog_5_method_5_code 35 = .ok (.istore 5, 2) := by decide +kernel
theorem d_En_chooseTwo_37 : decode prog_5_method_5_code 37 = .ok (.aload_n 0, 1) := by decide +kernel
theorem d_En_chooseTwo_38 : decode prog_5_method_5_code 38 = .ok (.getfield 45, 3) := by decide +kernel
theorem d_En_chooseTwo_41 : decode prog_5_method_5_code 41 = .ok (.iload_n 3, 1) := by decide +kernel
theorem d_En_chooseTwo_42 : decode prog_5_method_5_code 42 = .ok (.iload 4, 2) := by decide +kernel
theorem d_En_chooseTwo_44 : decode prog_5_method_5_code 44 = .ok (.invokevirtual 138, 3) := by decide +kernel
theorem d_En_chooseTwo_47 : decode prog_5_method_5_code 47 = .ok (.aload_n 0, 1) := by decide +kernel
theorem d_En_chooseTwo_48 : decode prog_5_method_5_code 48 = .ok (.getfield 49, 3) := by decide +kernel
theorem d_En_chooseTwo_51 : decode prog_5_method_5_code 51 = .ok (.iload_n 3, 1) := by decide +kernel
theorem d_En_chooseTwo_52 : decode prog_5_method_5_code 52 = .ok (.iload 5, 2) := by decide +kernel
theorem d_En_chooseTwo_54 : decode prog_5_method_5_code 54 = .ok (.invokevirtual 138, 3) := by decide +kernel
theorem d_En_chooseTwo_57 : decode prog_5_method_5_code 57 = .ok (.aload_n 0, 1) := by decide +kernel
theorem d_En_chooseTwo_58 : decode prog_5_method_5_code 58 = .ok (.getfield 52, 3) := by decide +kernel
theorem d_En_chooseTwo_61 : decode prog_5_method_5_code 61 = .ok (.iload_n 3, 1) := by decide +kernel
theorem d_En_chooseTwo_62 : decode prog_5_method_5_code 62 = .ok (.iload 4, 2) := by decide +kernel
theorem d_En_chooseTwo_64 : decode prog_5_method_5_code 64 = .ok (.iload 5, 2) := by decide +kernel
theorem d_En_chooseTwo_66 : decode prog_5_method_5_code 66 = .ok (.iadd, 1) := by decide +kernel
theorem d_En_chooseTwo_67 : decode prog_5_method_5_code 67 = .ok (.iconst 1, 1) := by decide +kernel
theorem d_En_chooseTwo_68 : decode prog_5_method_5_code 68 = .ok (.ishr, 1) := by decide +kernel
theorem d_En_chooseTwo_69 : decode prog_5_method_5_code 69 = .ok (.invokevirtual 138, 3) := by decide +kernel
theorem d_En_chooseTwo_72 : decode prog_5_method_5_code 72 = .ok (.aload_n 0, 1) := by decide +kernel
theorem d_En_chooseTwo_73 : decode prog_5_method_5_code 73 = .ok (.getfield 55, 3) := by decide +kernel
theorem d_En_chooseTwo_76 : decode prog_5_method_5_code 76 = .ok (.iload_n 3, 1) := by decide +kernel
theorem d_En_chooseTwo_77 : decode prog_5_method_5_code 77 = .ok (.iload 4, 2) := by decide +kernel
theorem d_En_chooseTwo_79 : decode prog_5_method_5_code 79 = .ok (.iload 5, 2) := by decide +kernel
theorem d_En_chooseTwo_81 : decode prog_5_method_5_code 81 = .ok (.isub, 1) := by decide +kernel
theorem d_En_chooseTwo_82 : decode prog_5_method_5_code 82 = .ok (.invokevirtual 138, 3) := by decide +kernel
theorem d_En_chooseTwo_85 : decode prog_5_method_5_code 85 = .ok (.iinc 3 1, 3) := by decide +kernel
theorem d_En_chooseTwo_88 : decode prog_5_method_5_code 88 = .ok (.goto (-86), 3) := by decide +kernel
theorem d_En_chooseTwo_91 : decode prog_5_method_5_code 91 = .ok (.aload_n 0, 1) := by decide +kernel
theorem d_En_chooseTwo_92 : decode prog_5_method_5_code 92 = .ok (.getfield 45, 3) := by decide +kernel
theorem d_En_chooseTwo_95 : decode prog_5_method_5_code 95 = .ok (.iload_n 2, 1) := by decide +kernel
theorem d_En_chooseTwo_96 : decode prog_5_method_5_code 96 = .ok (.aload_n 0, 1) := by decide +kernel
theorem d_En_chooseTwo_97 : decode prog_5_method_5_code 97 = .ok (.getfield 16, 3) := by decide +kernel
theorem d_En_chooseTwo_100 : decode prog_5_method_5_code 100 = .ok (.getfield 122, 3) := by decide +kernel
theorem d_En_chooseTwo_103 : decode prog_5_method_5_code 103 = .ok (.invokevirtual 141, 3) := by decide +kernel
theorem d_En_chooseTwo_106 : decode prog_5_method_5_code 106 = .ok (.aload_n 0, 1) := by decide +kernel
theorem d_En_chooseTwo_107 : decode prog_5_method_5_code 107 = .ok (.getfield 49, 3) := by decide +kernel
theorem d_En_chooseTwo_110 : decode prog_5_method_5_code 110 = .ok (.iload_n 2, 1) := by decide +kernel
theorem d_En_chooseTwo_111 : decode prog_5_method_5_code 111 = .ok (.aload_n 0, 1) := by decide +kernel
theorem d_En_chooseTwo_112 : decode prog_5_method_5_code 112 = .ok (.getfield 16, 3) := by decide +kernel
theorem d_En_chooseTwo_115 : decode prog_5_method_5_code 115 = .ok (.getfield 122, 3) := by decide +kernel
theorem d_En_chooseTwo_118 : decode prog_5_method_5_code 118 = .ok (.invokevirtual 141, 3) := by decide +kernel
theorem d_En_chooseTwo_121 : decode prog_5_method_5_code 121 = .ok (.aload_n 0, 1) := by decide +kernel
theorem d_En_chooseTwo_122 : decode prog_5_method_5_code 122 = .ok (.getfield 52, 3) := by decide +kernel
theorem d_En_chooseTwo_125 : decode prog_5_method_5_code 125 = .ok (.iload_n 2, 1) := by decide +kernel
theorem d_En_chooseTwo_126 : decode prog_5_method_5_code 126 = .ok (.aload_n 0, 1) := by decide +kernel
theorem d_En_chooseTwo_127 : decode prog_5_method_5_code 127 = .ok (.getfield 16, 3) := by decide +kernel
theorem d_En_chooseTwo_130 : decode prog_5_method_5_code 130 = .ok (.getfield 122, 3) := by decide +kernel
theorem d_En_chooseTwo_133 : decode prog_5_method_5_code 133 = .ok (.invokevirtual 141, 3) := by decide +kernel
theorem d_En_chooseTwo_136 : decode prog_5_method_5_code 136 = .ok (.aload_n 0, 1) := by decide +kernel
theorem d_En_chooseTwo_137 : decode prog_5_method_5_code 137 = .ok (.getfield 55, 3) := by decide +kernel
theorem d_En_chooseTwo_140 : decode prog_5_method_5_code 140 = .ok (.iload_n 2, 1) := by decide +kernel
theorem d_En_chooseTwo_141 : decode prog_5_method_5_code 141 = .ok (.aload_n 0, 1) := by decide +kernel
theorem d_En_chooseTwo_142 : decode prog_5_method_5_code 142 = .ok (.getfield 16, 3) := by decide +kernel
theorem d_En_chooseTwo_145 : decode prog_5_method_5_code 145 = .ok (.getfield 122, 3) := by decide +kernel
theorem d_En_chooseTwo_148 : decode prog_5_method_5_code 148 = .ok (.iconst 1, 1) := by decide +kernel
theorem d_En_chooseTwo_149 : decode prog_5_method_5_code 149 = .ok (.iadd, 1) := by decide +kernel
theorem d_En_chooseTwo_150 : decode prog_5_method_5_code 150 = .ok (.invokevirtual 141, 3) := by decide +kernel
theorem d_En_chooseTwo_153 : decode prog_5_method_5_code 153 = .ok (.iconst 1, 1) := by decide +kernel
theorem d_En_chooseTwo_154 : decode prog_5_method_5_code 154 = .ok (.istore_n 3, 1) := by decide +kernel
theorem d_En_chooseTwo_155 : decode prog_5_method_5_code 155 = .ok (.bipush 8, 2) := by decide +kernel
theorem d_En_chooseTwo_157 : decode prog_5_method_5_code 157 = .ok (.istore 4, 2) := by decide +kernel
theorem d_En_chooseTwo_159 : decode prog_5_method_5_code 159 = .ok (.iload 4, 2) := by decide +kernel
theorem d_En_chooseTwo_161 : decode prog_5_method_5_code 161 = .ok (.bipush 10, 2) := by decide +kernel
theorem d_En_chooseTwo_163 : decode prog_5_method_5_code 163 = .ok (.if_icmp .gt 27, 3) := by decide +kernel
theorem d_En_chooseTwo_166 : decode prog_5_method_5_code 166 = .ok (.aload_n 0, 1) := by decide +kernel
theorem d_En_chooseTwo_167 : decode prog_5_method_5_code 167 = .ok (.iload 4, 2) := by decide +kernel
theorem d_En_chooseTwo_169 : decode prog_5_method_5_code 169 = .ok (.invokevirtual 144, 3) := by decide +kernel
theorem d_En_chooseTwo_172 : decode prog_5_method_5_code 172 = .ok (.aload_n 0, 1) := by decide +kernel
theorem d_En_chooseTwo_173 : decode prog_5_method_5_code 173 = .ok (.iload_n 3, 1) := by decide +kernel
theorem d_En_chooseTwo_174 : decode prog_5_method_5_code 174 = .ok (.invokevirtual 144, 3) := by decide +kernel
theorem d_En_chooseTwo_177 : decode prog_5_method_5_code 177 = .ok (.lcmp, 1) := by decide +kernel
theorem d_En_chooseTwo_178 : decode prog_5_method_5_code 178 = .ok (.ifCond .ge 6, 3) := by decide +kernel
theorem d_En_chooseTwo_181 : decode prog_5_method_5_code 181 = .ok (.iload 4, 2) := by decide +kernel
theorem d_En_chooseTwo_183 : decode prog_5_method_5_code 183 = .ok (.istore_n 3, 1) := by decide +kernel
theorem d_En_chooseTwo_184 : decode prog_5_method_5_code 184 = .ok (.iinc 4 1, 3) := by decide +kernel
theorem d_En_chooseTwo_187 : decode prog_5_method_5_code 187 = .ok (.goto (-28), 3) := by decide +kernel
theorem d_En_chooseTwo_190 : decode prog_5_method_5_code 190 = .ok (.iload_n 3, 1) := by decide +kernel
theorem d_En_chooseTwo_191 : decode prog_5_method_5_code 191 = .ok (.ireturn, 1) := by decide +kernel
theorem d_En_bitsOfBoth_0 : decode prog_5_method_6_code 0 = .ok (.aload_n 0, 1) := by decide +kernel
theorem d_En_bitsOfBoth_1 : decode prog_5_method_6_code 1 = .ok (.iload_n 1, 1) := by decide +kernel
theorem d_En_bitsOfBoth_2 : decode prog_5_method_6_code 2 = .ok (.invokevirtual 147, 3) := by decide +kernel
theorem d_En_bitsOfBoth_5 : decode prog_5_method_6_code 5 = .ok (.getfield 151, 3) := by decide +kernel
theorem d_En_bitsOfBoth_8 : decode prog_5_method_6_code 8 = .ok (.aload_n 0, 1) := by decide +kernel
theorem d_En_bitsOfBoth_9 : decode prog_5_method_6_code 9 = .ok (.iload_n 1, 1) := by decide +kernel
theorem d_En_bitsOfBoth_10 : decode prog_5_method_6_code 10 = .ok (.invokevirtual 155, 3) := by decide +kernel
theorem d_En_bitsOfBoth_13 : decode prog_5_method_6_code 13 = .ok (.getfield 151, 3) := by decide +kernel
theorem d_En_bitsOfBoth_16 : decode prog_5_method_6_code 16 = .ok (.ladd, 1) := by decide +kernel
theorem d_En_bitsOfBoth_17 : decode prog_5_method_6_code 17 = .ok (.lreturn, 1) := by decide +kernel
theorem d_En_firstOf_0 : decode prog_5_method_7_code 0 = .ok (.iload_n 1, 1) := by decide +kernel
theorem d_En_firstOf_1 : decode prog_5_method_7_code 1 = .ok (.bipush 9, 2) := by decide +kernel
theorem d_En_firstOf_3 : decode prog_5_method_7_code 3 = .ok (.if_icmp .ne 8, 3) := by decide +kernel
theorem d_En_firstOf_6 : decode prog_5_method_7_code 6 = .ok (.aload_n 0, 1) := by decide +kernel
theorem d_En_firstOf_7 : decode prog_5_method_7_code 7 = .ok (.getfield 55, 3) := by decide +kernel
theorem d_En_firstOf_10 : decode prog_5_method_7_code 10 = .ok (.areturn, 1) := by decide +kernel
theorem d_En_firstOf_11 : decode prog_5_method_7_code 11 = .ok (.iload_n 1, 1) := by decide +kernel
theorem d_En_firstOf_12 : decode prog_5_method_7_code 12 = .ok (.bipush 10, 2) := by decide +kernel
theorem d_En_firstOf_14 : decode prog_5_method_7_code 14 = .ok (.if_icmp .ne 10, 3) := by decide +kernel
theorem d_En_firstOf_17 : decode prog_5_method_7_code 17 = .ok (.aload_n 0, 1) := by decide +kernel
theorem d_En_firstOf_18 : decode prog_5_method_7_code 18 = .ok (.getfield 52, 3) := by decide +kernel
theorem d_En_firstOf_21 : decode prog_5_method_7_code 21 = .ok (.goto 7, 3) := by decide +kernel
theorem d_En_firstOf_24 : decode prog_5_method_7_code 24 = .ok (.aload_n 0, 1) := by decide +kernel
theorem d_En_firstOf_25 : decode prog_5_method_7_code 25 = .ok (.getfield 45, 3) := by decide +kernel
theorem d_En_firstOf_28 : decode prog_5_method_7_code 28 = .ok (.areturn, 1) := by decide +kernel
theorem d_En_secondOf_0 : decode prog_5_method_8_code 0 = .ok (.iload_n 1, 1) := by decide +kernel
theorem d_En_secondOf_1 : decode prog_5_method_8_code 1 = .ok (.iconst 1, 1) := by decide +kernel
theorem d_En_secondOf_2 : decode prog_5_method_8_code 2 = .ok (.if_icmp .eq 9, 3) := by decide +kernel
theorem d_En_secondOf_5 : decode prog_5_method_8_code 5 = .ok (.iload_n 1, 1) := by decide +kernel
theorem d_En_secondOf_6 : decode prog_5_method_8_code 6 = .ok (.bipush 9, 2) := by decide +kernel
theorem d_En_secondOf_8 : decode prog_5_method_8_code 8 = .ok (.if_icmp .ne 10, 3) := by decide +kernel
theorem d_En_secondOf_11 : decode prog_5_method_8_code 11 = .ok (.aload_n 0, 1) := by decide +kernel
theorem d_En_secondOf_12 : decode prog_5_method_8_code 12 = .ok (.getfield 49, 3) := by decide +kernel
theorem d_En_secondOf_15 : decode prog_5_method_8_code 15 = .ok (.goto 7, 3) := by decide +kernel
theorem d_En_secondOf_18 : decode prog_5_method_8_code 18 = .ok (.aload_n 0, 1) := by decide +kernel
theorem d_En_secondOf_19 : decode prog_5_method_8_code 19 = .ok (.getfield 55, 3) := by decide +kernel
theorem d_En_secondOf_22 : decode prog_5_method_8_code 22 = .ok (.areturn, 1) := by decide +kernel
theorem d_En_writeHead_0 : decode prog_5_method_9_code 0 = .ok (.aload_n 0, 1) := by decide +kernel
theorem d_En_writeHead_1 : decode prog_5_method_9_code 1 = .ok (.getfield 20, 3) := by decide +kernel
theorem d_En_writeHead_4 : decode prog_5_method_9_code 4 = .ok (.getfield 58, 3) := by decide +kernel
theorem d_En_writeHead_7 : decode prog_5_method_9_code 7 = .ok (.istore 5, 2) := by decide +kernel
theorem d_En_writeHead_9 : decode prog_5_method_9_code 9 = .ok (.aload_n 0, 1) := by decide +kernel
theorem d_En_writeHead_10 : decode prog_5_method_9_code 10 = .ok (.getfield 33, 3) := by decide +kernel
theorem d_En_writeHead_13 : decode prog_5_method_9_code 13 = .ok (.bipush 14, 2) := by decide +kernel
theorem d_En_writeHead_15 : decode prog_5_method_9_code 15 = .ok (.ldc2_w 158, 3) := by decide +kernel
theorem d_En_writeHead_18 : decode prog_5_method_9_code 18 = .ok (.invokevirtual 111, 3) := by decide +kernel
theorem d_En_writeHead_21 : decode prog_5_method_9_code 21 = .ok (.aload_n 0, 1) := by decide +kernel
theorem d_En_writeHead_22 : decode prog_5_method_9_code 22 = .ok (.getfield 33, 3) := by decide +kernel
theorem d_En_writeHead_25 : decode prog_5_method_9_code 25 = .ok (.iconst 1, 1) := by decide +kernel
theorem d_En_writeHead_26 : decode prog_5_method_9_code 26 = .ok (.lconst 0, 1) := by decide +kernel
theorem d_En_writeHead_27 : decode prog_5_method_9_code 27 = .ok (.invokevirtual 111, 3) := by decide +kernel
theorem d_En_writeHead_30 : decode prog_5_method_9_code 30 = .ok (.aload_n 0, 1) := by decide +kernel
theorem d_En_writeHead_31 : decode prog_5_method_9_code 31 = .ok (.getfield 33, 3) := by decide +kernel
theorem d_En_writeHead_34 : decode prog_5_method_9_code 34 = .ok (.iconst 1, 1) := by decide +kernel
theorem d_En_writeHead_35 : decode prog_5_method_9_code 35 = .ok (.iload 4, 2) := by decide +kernel
theorem d_En_writeHead_37 : decode prog_5_method_9_code 37 = .ok (.ifCond .eq 7, 3) := by decide +kernel
theorem d_En_writeHead_40 : decode prog_5_method_9_code 40 = .ok (.lconst 1, 1) := by decide +kernel
theorem d_En_writeHead_41 : decode prog_5_method_9_code 41 = .ok (.goto 4, 3) := by decide +kernel
theorem d_En_writeHead_44 : decode prog_5_method_9_code 44 = .ok (.lconst 0, 1) := by decide +kernel
theorem d_En_writeHead_45 : decode prog_5_method_9_code 45 = .ok (.invokevirtual 111, 3) := by decide +kernel
theorem d_En_writeHead_48 : decode prog_5_method_9_code 48 = .ok (.aload_n 0, 1) := by decide +kernel
theorem d_En_writeHead_49 : decode prog_5_method_9_code 49 = .ok (.getfield 33, 3) := by decide +kernel
theorem d_En_writeHead_52 : decode prog_5_method_9_code 52 = .ok (.iconst 4, 1) := by decide +kernel
theorem d_En_writeHead_53 : decode prog_5_method_9_code 53 = .ok (.iload_n 2, 1) := by decide +kernel
theorem d_En_writeHead_54 : decode prog_5_method_9_code 54 = .ok (.sipush 256, 3) := by decide +kernel
theorem d_En_writeHead_57 : decode prog_5_method_9_code 57 = .ok (.if_icmp .gt 9, 3) := by decide +kernel
theorem d_En_writeHead_60 : decode prog_5_method_9_code 60 = .ok (.ldc2_w 160, 3) := by decide +kernel
theorem d_En_writeHead_63 : decode prog_5_method_9_code 63 = .ok (.goto 6, 3) := by decide +kernel
theorem d_En_writeHead_66 : decode prog_5_method_9_code 66 = .ok (.ldc2_w 162, 3) := by decide +kernel
theorem d_En_writeHead_69 : decode prog_5_method_9_code 69 = .ok (.invokevirtual 111, 3) := by decide +kernel
theorem d_En_writeHead_72 : decode prog_5_method_9_code 72 = .ok (.aload_n 0, 1) := by decide +kernel
theorem d_En_writeHead_73 : decode prog_5_method_9_code 73 = .ok (.getfield 33, 3) := by decide +kernel
theorem d_En_writeHead_76 : decode prog_5_method_9_code 76 = .ok (.iconst 4, 1) := by decide +kernel
theorem d_En_writeHead_77 : decode prog_5_method_9_code 77 = .ok (.lconst 0, 1) := by decide +kernel
theorem d_En_writeHead_78 : decode prog_5_method_9_code 78 = .ok (.invokevirtual 111, 3) := by decide +kernel
theorem d_En_writeHead_81 : decode prog_5_method_9_code 81 = .ok (.aload_n 0, 1) := by decide +kernel
theorem d_En_writeHead_82 : decode prog_5_method_9_code 82 = .ok (.getfield 33, 3) := by decide +kernel
theorem d_En_writeHead_85 : decode prog_5_method_9_code 85 = .ok (.iconst 4, 1) := by decide +kernel
theorem d_En_writeHead_86 : decode prog_5_method_9_code 86 = .ok (.iload_n 3, 1) := by decide +kernel
theorem d_En_writeHead_87 : decode prog_5_method_9_code 87 = .ok (.i2l, 1) := by decide +kernel
theorem d_En_writeHead_88 : decode prog_5_method_9_code 88 = .ok (.invokevirtual 111, 3) := by decide +kernel
theorem d_En_writeHead_91 : decode prog_5_method_9_code 91 = .ok (.aload_n 0, 1) := by decide +kernel
theorem d_En_writeHead_92 : decode prog_5_method_9_code 92 = .ok (.getfield 33, 3) := by decide +kernel
theorem d_En_writeHead_95 : decode prog_5_method_9_code 95 = .ok (.iconst 4, 1) := by decide +kernel
theorem d_En_writeHead_96 : decode prog_5_method_9_code 96 = .ok (.lconst 0, 1) := by decide +kernel
theorem d_En_writeHead_97 : decode prog_5_method_9_code 97 = .ok (.invokevirtual 111, 3) := by decide +kernel
theorem d_En_writeHead_100 : decode prog_5_method_9_code 100 = .ok (.iload 4, 2) := by decide +kernel
theorem d_En_writeHead_102 : decode prog_5_method_9_code 102 = .ok (.ifCond .eq 7, 3) := by decide +kernel
theorem d_En_writeHead_105 : decode prog_5_method_9_code 105 = .ok (.iload_n 1, 1) := by decide +kernel
theorem d_En_writeHead_106 : decode prog_5_method_9_code 106 = .ok (.goto 7, 3) := by decide +kernel
theorem d_En_writeHead_109 : decode prog_5_method_9_code 109 = .ok (.aload_n 0, 1) := by decide +kernel
theorem d_En_writeHead_110 : decode prog_5_method_9_code 110 = .ok (.getfield 64, 3) := by decide +kernel
theorem d_En_writeHead_113 : decode prog_5_method_9_code 113 = .ok (.istore 6, 2) := by decide +kernel
theorem d_En_writeHead_115 : decode prog_5_method_9_code 115 = .ok (.iconst 0, 1) := by decide +kernel
theorem d_En_writeHead_116 : decode prog_5_method_9_code 116 = .ok (.istore 7, 2) := by decide +kernel
theorem d_En_writeHead_118 : decode prog_5_method_9_code 118 = .ok (.iload 7, 2) := by decide +kernel
theorem d_En_writeHead_120 : decode prog_5_method_9_code 120 = .ok (.iload 6, 2) := by decide +kernel
theorem d_En_writeHead_122 : decode prog_5_method_9_code 122 = .ok (.invokestatic 164, 3) := by decide +kernel
theorem d_En_writeHead_125 : decode prog_5_method_9_code 125 = .ok (.if_icmp .ge 26, 3) := by decide +kernel
theorem d_En_writeHead_128 : decode prog_5_method_9_code 128 = .ok (.aload_n 0, 1) := by decide +kernel
theorem d_En_writeHead_129 : decode prog_5_method_9_code 129 = .ok (.getfield 33, 3) := by decide +kernel
theorem d_En_writeHead_132 : decode prog_5_method_9_code 132 = .ok (.bipush 8, 2) := by decide +kernel
theorem d_En_writeHead_134 : decode prog_5_method_9_code 134 = .ok (.iload 6, 2) := by decide +kernel
theorem d_En_writeHead_136 : decode prog_5_method_9_code 136 = .ok (.iload 7, 2) := by decide +kernel
theorem d_En_writeHead_138 : decode prog_5_method_9_code 138 = .ok (.invokestatic 168, 3) := by decide +kernel
theorem d_En_writeHead_141 : decode prog_5_method_9_code 141 = .ok (.i2l, 1) := by decide +kernel
theorem d_En_writeHead_142 : decode prog_5_method_9_code 142 = .ok (.invokevirtual 111, 3) := by decide +kernel
theorem d_En_writeHead_145 : decode prog_5_method_9_code 145 = .ok (.iinc 7 1, 3) := by decide +kernel
theorem d_En_writeHead_148 : decode prog_5_method_9_code 148 = .ok (.goto (-30), 3) := by decide +kernel
theorem d_En_writeHead_151 : decode prog_5_method_9_code 151 = .ok (.aload_n 0, 1) := by decide +kernel
theorem d_En_writeHead_152 : decode prog_5_method_9_code 152 = .ok (.getfield 33, 3) := by decide +kernel
theorem d_En_writeHead_155 : decode prog_5_method_9_code 155 = .ok (.iload_n 2, 1) := by decide +kernel
theorem d_En_writeHead_156 : decode prog_5_method_9_code 156 = .ok (.sipush 256, 3) := by decide +kernel
theorem d_En_writeHead_159 : decode prog_5_method_9_code 159 = .ok (.if_icmp .gt 8, 3) := by decide +kernel
theorem d_En_writeHead_162 : decode prog_5_method_9_code 162 = .ok (.bipush 8, 2) := by decide +kernel
theorem d_En_writeHead_164 : decode prog_5_method_9_code 164 = .ok (.goto 5, 3) := by decide +kernel
theorem d_En_writeHead_167 : decode prog_5_method_9_code 167 = .ok (.bipush 16, 2) := by decide +kernel
theorem d_En_writeHead_169 : decode prog_5_method_9_code 169 = .ok (.iload_n 2, 1) := by decide +kernel
theorem d_En_writeHead_170 : decode prog_5_method_9_code 170 = .ok (.iconst 1, 1) := by decide +kernel
theorem d_En_writeHead_171 : decode prog_5_method_9_code 171 = .ok (.isub, 1) := by decide +kernel
theorem d_En_writeHead_172 : decode prog_5_method_9_code 172 = .ok (.i2l, 1) := by decide +kernel
theorem d_En_writeHead_173 : decode prog_5_method_9_code 173 = .ok (.invokevirtual 111, 3) := by decide +kernel
theorem d_En_writeHead_176 : decode prog_5_method_9_code 176 = .ok (.aload_n 0, 1) := by decide +kernel
theorem d_En_writeHead_177 : decode prog_5_method_9_code 177 = .ok (.getfield 33, 3) := by decide +kernel
theorem d_En_writeHead_180 : decode prog_5_method_9_code 180 = .ok (.bipush 8, 2) := by decide +kernel
theorem d_En_writeHead_182 : decode prog_5_method_9_code 182 = .ok (.aload_n 0, 1) := by decide +kernel
theorem d_En_writeHead_183 : decode prog_5_method_9_code 183 = .ok (.getfield 20, 3) := by decide +kernel
theorem d_En_writeHead_186 : decode prog_5_method_9_code 186 = .ok (.bipush 8, 2) := by decide +kernel
theorem d_En_writeHead_188 : decode prog_5_method_9_code 188 = .ok (.iload 5, 2) := by decide +kernel
theorem d_En_writeHead_190 : decode prog_5_method_9_code 190 = .ok (.aload_n 0, 1) := by decide +kernel
theorem d_En_writeHead_191 : decode prog_5_method_9_code 191 = .ok (.getfield 20, 3) := by decide +kernel
theorem d_En_writeHead_194 : decode prog_5_method_9_code 194 = .ok (.getfield 58, 3) := by decide +kernel
theorem d_En_writeHead_197 : decode prog_5_method_9_code 197 = .ok (.invokevirtual 171, 3) := by decide +kernel
theorem d_En_writeHead_200 : decode prog_5_method_9_code 200 = .ok (.i2l, 1) := by decide +kernel
theorem d_En_writeHead_201 : decode prog_5_method_9_code 201 = .ok (.invokevirtual 111, 3) := by decide +kernel
theorem d_En_writeHead_204 : decode prog_5_method_9_code 204 = .ok (.return_, 1) := by decide +kernel
theorem d_En_writeBody_0 : decode prog_5_method_10_code 0 = .ok (.aload_n 0, 1) := by decide +kernel
theorem d_En_writeBody_1 : decode prog_5_method_10_code 1 = .ok (.iload_n 2, 1) := by decide +kernel
theorem d_En_writeBody_2 : decode prog_5_method_10_code 2 = .ok (.invokevirtual 147, 3) := by decide +kernel
theorem d_En_writeBody_5 : decode prog_5_method_10_code 5 = .ok (.aload_n 0, 1) := by decide +kernel
theorem d_En_writeBody_6 : decode prog_5_method_10_code 6 = .ok (.getfield 33, 3) := by decide +kernel
theorem d_En_writeBody_9 : decode prog_5_method_10_code 9 = .ok (.invokevirtual 175, 3) := by decide +kernel
theorem d_En_writeBody_12 : decode prog_5_method_10_code 12 = .ok (.iload_n 2, 1) := by decide +kernel
theorem d_En_writeBody_13 : decode prog_5_method_10_code 13 = .ok (.ifCond .eq 15, 3) := by decide +kernel
theorem d_En_writeBody_16 : decode prog_5_method_10_code 16 = .ok (.aload_n 0, 1) := by decide +kernel
theorem d_En_writeBody_17 : decode prog_5_method_10_code 17 = .ok (.iload_n 2, 1) := by decide +kernel
theorem d_En_writeBody_18 : decode prog_5_method_10_code 18 = .ok (.invokevirtual 155, 3) := by decide +kernel
theorem d_En_writeBody_21 : decode prog_5_method_10_code 21 = .ok (.aload_n 0, 1) := by decide +kernel
theorem d_En_writeBody_22 : decode prog_5_method_10_code 22 = .ok (.getfield 33, 3) := by decide +kernel
theorem d_En_writeBody_25 : decode prog_5_method_10_code 25 = .ok (.invokevirtual 175, 3) := by decide +kernel
theorem d_En_writeBody_28 : decode prog_5_method_10_code 28 = .ok (.aload_n 0, 1) := by decide +kernel
theorem d_En_writeBody_29 : decode prog_5_method_10_code 29 = .ok (.getfield 33, 3) := by decide +kernel
theorem d_En_writeBody_32 : decode prog_5_method_10_code 32 = .ok (.invokevirtual 179, 3) := by decide +kernel
theorem d_En_writeBody_35 : decode prog_5_method_10_code 35 = .ok (.aload_n 0, 1) := by decide +kernel
theorem d_En_writeBody_36 : decode prog_5_method_10_code 36 = .ok (.getfield 33, 3) := by decide +kernel
theorem d_En_writeBody_39 : decode prog_5_method_10_code 39 = .ok (.bipush 16, 2) := by decide +kernel
theorem d_En_writeBody_41 : decode prog_5_method_10_code 41 = .ok (.aload_n 0, 1) := by decide +kernel
theorem d_En_writeBody_42 : decode prog_5_method_10_code 42 = .ok (.getfield 20, 3) := by decide +kernel
theorem d_En_writeBody_45 : decode prog_5_method_10_code 45 = .ok (.bipush 16, 2) := by decide +kernel
theorem d_En_writeBody_47 : decode prog_5_method_10_code 47 = .ok (.iload_n 1, 1) := by decide +kernel
theorem d_En_writeBody_48 : decode prog_5_method_10_code 48 = .ok (.aload_n 0, 1) := by decide +kernel
theorem d_En_writeBody_49 : decode prog_5_method_10_code 49 = .ok (.getfield 20, 3) := by decide +kernel
theorem d_En_writeBody_52 : decode prog_5_method_10_code 52 = .ok (.getfield 58, 3) := by decide +kernel
theorem d_En_writeBody_55 : decode prog_5_method_10_code 55 = .ok (.invokevirtual 171, 3) := by decide +kernel
theorem d_En_writeBody_58 : decode prog_5_method_10_code 58 = .ok (.i2l, 1) := by decide +kernel
theorem d_En_writeBody_59 : decode prog_5_method_10_code 59 = .ok (.invokevirtual 111, 3) := by decide +kernel
theorem d_En_writeBody_62 : decode prog_5_method_10_code 62 = .ok (.return_, 1) := by decide +kernel
theorem d_En_note_0 : decode prog_5_method_11_code 0 = .ok (.aload_n 0, 1) := by decide +kernel
theorem d_En_note_1 : decode prog_5_method_11_code 1 = .ok (.getfield 13, 3) := by decide +kernel
theorem d_En_note_4 : decode prog_5_method_11_code 4 = .ok (.aload_n 0, 1) := by decide +kernel
theorem d_En_note_5 : decode prog_5_method_11_code 5 = .ok (.getfield 64, 3) := by decide +kernel
theorem d_En_note_8 : decode prog_5_method_11_code 8 = .ok (.aaload, 1) := by decide +kernel
theorem d_En_note_9 : decode prog_5_method_11_code 9 = .ok (.astore_n 3, 1) := by decide +kernel
theorem d_En_note_10 : decode prog_5_method_11_code 10 = .ok (.aload_n 3, 1) := by decide +kernel
theorem d_En_note_11 : decode prog_5_method_11_code 11 = .ok (.iconst 0, 1) := by decide +kernel
theorem d_En_note_12 : decode prog_5_method_11_code 12 = .ok (.iload_n 1, 1) := by decide +kernel
theorem d_En_note_13 : decode prog_5_method_11_code 13 = .ok (.iastore, 1) := by decide +kernel
theorem d_En_note_14 : decode prog_5_method_11_code 14 = .ok (.aload_n 3, 1) := by decide +kernel
theorem d_En_note_15 : decode prog_5_method_11_code 15 = .ok (.iconst 1, 1) := by decide +kernel
theorem d_En_note_16 : decode prog_5_method_11_code 16 = .ok (.aload_n 0, 1) := by decide +kernel
theorem d_En_note_17 : decode prog_5_method_11_code 17 = .ok (.getfield 20, 3) := by decide +kernel
theorem d_En_note_20 : decode prog_5_method_11_code 20 = .ok (.getfield 58, 3) := by decide +kernel
theorem d_En_note_23 : decode prog_5_method_11_code 23 = .ok (.iload_n 1, 1) := by decide +kernel
theorem d_En_note_24 : decode prog_5_method_11_code 24 = .ok (.isub, 1) := by decide +kernel
theorem d_En_note_25 : decode prog_5_method_11_code 25 = .ok (.iastore, 1) := by decide +kernel
theorem d_En_note_26 : decode prog_5_method_11_code 26 = .ok (.aload_n 3, 1) := by decide +kernel
theorem d_En_note_27 : decode prog_5_method_11_code 27 = .ok (.iconst 2, 1) := by decide +kernel
theorem d_En_note_28 : decode prog_5_method_11_code 28 = .ok (.iload_n 2, 1) := by decide +kernel
theorem d_En_note_29 : decode prog_5_method_11_code 29 = .ok (.iastore, 1) := by decide +kernel
theorem d_En_note_30 : decode prog_5_method_11_code 30 = .ok (.aload_n 3, 1) := by decide +kernel
theorem d_En_note_31 : decode prog_5_method_11_code 31 = .ok (.iconst 3, 1) := by decide +kernel
theorem d_En_note_32 : decode prog_5_method_11_code 32 = .ok (.aload_n 0, 1) := by decide +kernel
theorem d_En_note_33 : decode prog_5_method_11_code 33 = .ok (.iload_n 2, 1) := by decide +kernel
theorem d_En_note_34 : decode prog_5_method_11_code 34 = .ok (.invokevirtual 147, 3) := by decide +kernel
theorem d_En_note_37 : decode prog_5_method_11_code 37 = .ok (.invokestatic 182, 3) := by decide +kernel
theorem d_En_note_40 : decode prog_5_method_11_code 40 = .ok (.iload_n 2, 1) := by decide +kernel
theorem d_En_note_41 : decode prog_5_method_11_code 41 = .ok (.ifCond .eq 17, 3) := by decide +kernel
theorem d_En_note_44 : decode prog_5_method_11_code 44 = .ok (.aload_n 3, 1) := by decide +kernel
theorem d_En_note_45 : decode prog_5_method_11_code 45 = .ok (.bipush 6, 2) := by decide +kernel
theorem d_En_note_47 : decode prog_5_method_11_code 47 = .ok (.aload_n 0, 1) := by decide +kernel
theorem d_En_note_48 : decode prog_5_method_11_code 48 = .ok (.iload_n 2, 1) := by decide +kernel
theorem d_En_note_49 : decode prog_5_method_11_code 49 = .ok (.invokevirtual 155, 3) := by decide +kernel
theorem d_En_note_52 : decode prog_5_method_11_code 52 = .ok (.invokestatic 182, 3) := by decide +kernel
theorem d_En_note_55 : decode prog_5_method_11_code 55 = .ok (.goto 12, 3) := by decide +kernel
theorem d_En_note_58 : decode prog_5_method_11_code 58 = .ok (.aload_n 3, 1) := by decide +kernel
theorem d_En_note_59 : decode prog_5_method_11_code 59 = .ok (.bipush 6, 2) := by decide +kernel
theorem d_En_note_61 : decode prog_5_method_11_code 61 = .ok (.bipush 9, 2) := by decide +kernel
theorem d_En_note_63 : decode prog_5_method_11_code 63 = .ok (.iconst (-1), 1) := by decide +kernel
theorem d_En_note_64 : decode prog_5_method_11_code 64 = .ok (.invokestatic 186, 3) := by decide +kernel
theorem d_En_note_67 : decode prog_5_method_11_code 67 = .ok (.return_, 1) := by decide +kernel
theorem d_En_noteSubframe_0 : decode prog_5_method_12_code 0 = .ok (.aload_n 0, 1) := by decide +kernel
theorem d_En_noteSubframe_1 : decode prog_5_method_12_code 1 = .ok (.iload_n 1, 1) := by decide +kernel
theorem d_En_noteSubframe_2 : decode prog_5_method_12_code 2 = .ok (.aload_n 2, 1) := by decide +kernel
theorem d_En_noteSubframe_3 : decode prog_5_method_12_code 3 = .ok (.getfield 192, 3) := by decide +kernel
theorem d_En_noteSubframe_6 : decode prog_5_method_12_code 6 = .ok (.iastore, 1) := by decide +kernel
theorem d_En_noteSubframe_7 : decode prog_5_method_12_code 7 = .ok (.aload_n 0, 1) := by decide +kernel
theorem d_En_noteSubframe_8 : decode prog_5_method_12_code 8 = .ok (.iload_n 1, 1) := by decide +kernel
theorem d_En_noteSubframe_9 : decode prog_5_method_12_code 9 = .ok (.iconst 1, 1) := by decide +kernel
theorem d_En_noteSubframe_10 : decode prog_5_method_12_code 10 = .ok (.iadd, 1) := by decide +kernel
theorem d_En_noteSubframe_11 : decode prog_5_method_12_code 11 = .ok (.aload_n 2, 1) := by decide +kernel
theorem d_En_noteSubframe_12 : decode prog_5_method_12_code 12 = .ok (.getfield 195, 3) := by decide +kernel
theorem d_En_noteSubframe_15 : decode prog_5_method_12_code 15 = .ok (.iastore, 1) := by decide +kernel
theorem d_En_noteSubframe_16 : decode prog_5_method_12_code 16 = .ok (.aload_n 0, 1) := by decide +kernel
theorem d_En_noteSubframe_17 : decode prog_5_method_12_code 17 = .ok (.iload_n 1, 1) := by decide +kernel
theorem d_En_noteSubframe_18 : decode prog_5_method_12_code 18 = .ok (.iconst 2, 1) := by decide +kernel
theorem d_En_noteSubframe_19 : decode prog_5_method_12_code 19 = .ok (.iadd, 1) := by decide +kernel
theorem d_En_noteSubframe_20 : decode prog_5_method_12_code 20 = .ok (.aload_n 2, 1) := by decide +kernel
theorem d_En_noteSubframe_21 : decode prog_5_method_12_code 21 = .ok (.getfield 151, 3) := by decide +kernel
theorem d_En_noteSubframe_24 : decode prog_5_method_12_code 24 = .ok (.l2i, 1) := by decide +kernel
theorem d_En_noteSubframe_25 : decode prog_5_method_12_code 25 = .ok (.iastore, 1) := by decide +kernel
theorem d_En_noteSubframe_26 : decode prog_5_method_12_code 26 = .ok (.return_, 1) := by decide +kernel
theorem d_En_tellFrameSizes_0 : decode prog_5_method_13_code 0 = .ok (.aload_n 0, 1) := by decide +kernel
theorem d_En_tellFrameSizes_1 : decode prog_5_method_13_code 1 = .ok (.getfield 64, 3) := by decide +kernel
theorem d_En_tellFrameSizes_4 : decode prog_5_method_13_code 4 = .ok (.ifCond .ne 7, 3) := by decide +kernel
theorem d_En_tellFrameSizes_7 : decode prog_5_method_13_code 7 = .ok (.iconst 0, 1) := by decide +kernel
theorem d_En_tellFrameSizes_8 : decode prog_5_method_13_code 8 = .ok (.goto 11, 3) := by decide +kernel
theorem d_En_tellFrameSizes_11 : decode prog_5_method_13_code 11 = .ok (.aload_n 0, 1) := by decide +kernel
theorem d_En_tellFrameSizes_12 : decode prog_5_method_13_code 12 = .ok (.getfield 13, 3) := by decide +kernel
theorem d_En_tellFrameSizes_15 : decode prog_5_method_13_code 15 = .ok (.iconst 0, 1) := by decide +kernel
theorem d_En_tellFrameSizes_16 : decode prog_5_method_13_code 16 = .ok (.aaload, 1) := by decide +kernel
theorem d_En_tellFrameSizes_17 : decode prog_5_method_13_code 17 = .ok (.iconst 1, 1) := by decide +kernel
theorem d_En_tellFrameSizes_18 : decode prog_5_method_13_code 18 = .ok (.iaload, 1) := by decide +kernel
theorem d_En_tellFrameSizes_19 : decode prog_5_method_13_code 19 = .ok (.istore_n 1, 1) := by decide +kernel
theorem d_En_tellFrameSizes_20 : decode prog_5_method_13_code 20 = .ok (.iload_n 1, 1) := by decide +kernel
theorem d_En_tellFrameSizes_21 : decode prog_5_method_13_code 21 = .ok (.istore_n 2, 1) := by decide +kernel
theorem d_En_tellFrameSizes_22 : decode prog_5_method_13_code 22 = .ok (.iconst 1, 1) := by decide +kernel
theorem d_En_tellFrameSizes_23 : decode prog_5_method_13_code 23 = .ok (.istore_n 3, 1) := by decide +kernel
theorem d_En_tellFrameSizes_24 : decode prog_5_method_13_code 24 = .ok (.iload_n 3, 1) := by decide +kernel
theorem d_En_tellFrameSizes_25 : decode prog_5_method_13_code 25 = .ok (.aload_n 0, 1) := by decide +kernel
theorem d_En_tellFrameSizes_26 : decode prog_5_method_13_code 26 = .ok (.getfield 64, 3) := by decide +kernel
theorem d_En_tellFrameSizes_29 : decode prog_5_method_13_code 29 = .ok (.if_icmp .ge 35, 3) := by decide +kernel
theorem d_En_tellFrameSizes_32 : decode prog_5_method_13_code 32 = .ok (.iload_n 1, 1) := by decide +kernel
theorem d_En_tellFrameSizes_33 : decode prog_5_method_13_code 33 = .ok (.aload_n 0, 1) := by decide +kernel
theorem d_En_tellFrameSizes_34 : decode prog_5_method_13_code 34 = .ok (.getfield 13, 3) := by decide +kernel
theorem d_En_tellFrameSizes_37 : decode prog_5_method_13_code 37 = .ok (.iload_n 3, 1) := by decide +kernel
theorem d_En_tellFrameSizes_38 : decode prog_5_method_13_code 38 = .ok (.aaload, 1) := by decide +kernel
theorem d_En_tellFrameSizes_39 : decode prog_5_method_13_code 39 = .ok (.iconst 1, 1) := by decide +kernel
theorem d_En_tellFrameSizes_40 : decode prog_5_method_13_code 40 = .ok (.iaload, 1) := by decide +kernel
theorem d_En_tellFrameSizes_41 : decode prog_5_method_13_code 41 = .ok (.invokestatic 79, 3) := by decide +kernel
theorem d_En_tellFrameSizes_44 : decode prog_5_method_13_code 44 = .ok (.istore_n 1, 1) := by decide +kernel
theorem d_En_tellFrameSizes_45 : decode prog_5_method_13_code 45 = .ok (.iload_n 2, 1) := by decide +kernel
theorem d_En_tellFrameSizes_46 : decode prog_5_method_13_code 46 = .ok (.aload_n 0, 1) := by decide +kernel
theorem d_En_tellFrameSizes_47 : decode prog_5_method_13_code 47 = .ok (.getfield 13, 3) := by decide +kernel
theorem d_En_tellFrameSizes_50 : decode prog_5_method_13_code 50 = .ok (.iload_n 3, 1) := by decide +kernel
theorem d_En_tellFrameSizes_51 : decode prog_5_method_13_code 51 = .ok (.aaload, 1) := by decide +kernel
theorem d_En_tellFrameSizes_52 : decode prog_5_method_13_code 52 = .ok (.iconst 1, 1) := by decide +kernel
theorem d_En_tellFrameSizes_53 : decode prog_5_method_13_code 53 = .ok (.iaload, 1) := by decide +kernel
theorem d_En_tellFrameSizes_54 : decode prog_5_method_13_code 54 = .ok (.invokestatic 198, 3) := by decide +kernel
theorem d_En_tellFrameSizes_57 : decode prog_5_method_13_code 57 = .ok (.istore_n 2, 1) := by decide +kernel
theorem d_En_tellFrameSizes_58 : decode prog_5_method_13_code 58 = .ok (.iinc 3 1, 3) := by decide +kernel
theorem d_En_tellFrameSizes_61 : decode prog_5_method_13_code 61 = .ok (.goto (-37), 3) := by decide +kernel
theorem d_En_tellFrameSizes_64 : decode prog_5_method_13_code 64 = .ok (.iconst 0, 1) := by decide +kernel
theorem d_En_tellFrameSizes_65 : decode prog_5_method_13_code 65 = .ok (.istore_n 3, 1) := by decide +kernel
theorem d_En_tellFrameSizes_66 : decode prog_5_method_13_code 66 = .ok (.iload_n 3, 1) := by decide +kernel
theorem d_En_tellFrameSizes_67 : decode prog_5_method_13_code 67 = .ok (.iconst 3, 1) := by decide +kernel
theorem d_En_tellFrameSizes_68 : decode prog_5_method_13_code 68 = .ok (.if_icmp .ge 49, 3) := by decide +kernel
theorem d_En_tellFrameSizes_71 : decode prog_5_method_13_code 71 = .ok (.aload_n 0, 1) := by decide +kernel
theorem d_En_tellFrameSizes_72 : decode prog_5_method_13_code 72 = .ok (.getfield 20, 3) := by decide +kernel
theorem d_En_tellFrameSizes_75 : decode prog_5_method_13_code 75 = .ok (.bipush 12, 2) := by decide +kernel
theorem d_En_tellFrameSizes_77 : decode prog_5_method_13_code 77 = .ok (.iload_n 3, 1) := by decide +kernel
theorem d_En_tellFrameSizes_78 : decode prog_5_method_13_code 78 = .ok (.iadd, 1) := by decide +kernel
theorem d_En_tellFrameSizes_79 : decode prog_5_method_13_code 79 = .ok (.iload_n 1, 1) := by decide +kernel
theorem d_En_tellFrameSizes_80 : decode prog_5_method_13_code 80 = .ok (.bipush 16, 2) := by decide +kernel
theorem d_En_tellFrameSizes_82 : decode prog_5_method_13_code 82 = .ok (.bipush 8, 2) := by decide +kernel
theorem d_En_tellFrameSizes_84 : decode prog_5_method_13_code 84 = .ok (.iload_n 3, 1) := by decide +kernel
theorem d_En_tellFrameSizes_85 : decode prog_5_method_13_code 85 = .ok (.imul, 1) := by decide +kernel
theorem d_En_tellFrameSizes_86 : decode prog_5_method_13_code 86 = .ok (.isub, 1) := by decide +kernel
theorem d_En_tellFrameSizes_87 : decode prog_5_method_13_code 87 = .ok (.ishr, 1) := by decide +kernel
theorem d_En_tellFrameSizes_88 : decode prog_5_method_13_code 88 = .ok (.invokevirtual 201, 3) := by decide +kernel
theorem d_En_tellFrameSizes_91 : decode prog_5_method_13_code 91 = .ok (.aload_n 0, 1) := by decide +kernel
theorem d_En_tellFrameSizes_92 : decode prog_5_method_13_code 92 = .ok (.getfield 20, 3) := by decide +kernel
theorem d_En_tellFrameSizes_95 : decode prog_5_method_13_code 95 = .ok (.bipush 15, 2) := by decide +kernel
theorem d_En_tellFrameSizes_97 : decode prog_5_method_13_code 97 = .ok (.iload_n 3, 1) := by decide +kernel
theorem d_En_tellFrameSizes_98 : decode prog_5_method_13_code 98 = .ok (.iadd, 1) := by decide +kernel
theorem d_En_tellFrameSizes_99 : decode prog_5_method_13_code 99 = .ok (.iload_n 2, 1) := by decide +kernel
theorem d_En_tellFrameSizes_100 : decode prog_5_method_13_code 100 = .ok (.bipush 16, 2) := by decide +kernel
theorem d_En_tellFrameSizes_102 : decode prog_5_method_13_code 102 = .ok (.bipush 8, 2) := by decide +kernel
theorem d_En_tellFrameSizes_104 : decode prog_5_method_13_code 104 = .ok (.iload_n 3, 1) := by decide +kernel
theorem d_En_tellFrameSizes_105 : decode prog_5_method_13_code 105 = .ok (.imul, 1) := by decide +kernel
theorem d_En_tellFrameSizes_106 : decode prog_5_method_13_code 106 = .ok (.isub, 1) := by decide +kernel
theorem d_En_tellFrameSizes_107 : decode prog_5_method_13_code 107 = .ok (.ishr, 1) := by decide +kernel
theorem d_En_tellFrameSizes_108 : decode prog_5_method_13_code 108 = .ok (.invokevirtual 201, 3) := by decide +kernel
theorem d_En_tellFrameSizes_111 : decode prog_5_method_13_code 111 = .ok (.iinc 3 1, 3) := by decide +kernel
theorem d_En_tellFrameSizes_114 : decode prog_5_method_13_code 114 = .ok (.goto (-48), 3) := by decide +kernel
theorem d_En_tellFrameSizes_117 : decode prog_5_method_13_code 117 = .ok (.return_, 1) := by decide +kernel
