/-! decode rows of SoundStream, by program -/
theorem d_SS_init_0 : decode prog_1_method_1_code 0 = .ok (.aload_n 0, 1) := by decide +kernel
theorem d_SS_init_1 : decode prog_1_method_1_code 1 = .ok (.invokespecial 3, 3) := by decide +kernel
theorem d_SS_init_4 : decode prog_1_method_1_code 4 = .ok (.aload_n 0, 1) := by decide +kernel
theorem d_SS_init_5 : decode prog_1_method_1_code 5 = .ok (.new 9, 3) := by decide +kernel
theorem d_SS_init_8 : decode prog_1_method_1_code 8 = .ok (.dup, 1) := by decide +kernel
theorem d_SS_init_9 : decode prog_1_method_1_code 9 = .ok (.invokespecial 11, 3) := by decide +kernel
theorem d_SS_init_12 : decode prog_1_method_1_code 12 = .ok (.putfield 12, 3) := by decide +kernel
theorem d_SS_init_15 : decode prog_1_method_1_code 15 = .ok (.aload_n 0, 1) := by decide +kernel
theorem d_SS_init_16 : decode prog_1_method_1_code 16 = .ok (.new 16, 3) := by decide +kernel
theorem d_SS_init_19 : decode prog_1_method_1_code 19 = .ok (.dup, 1) := by decide +kernel
theorem d_SS_init_20 : decode prog_1_method_1_code 20 = .ok (.invokespecial 18, 3) := by decide +kernel
theorem d_SS_init_23 : decode prog_1_method_1_code 23 = .ok (.putfield 19, 3) := by decide +kernel
theorem d_SS_init_26 : decode prog_1_method_1_code 26 = .ok (.aload_n 0, 1) := by decide +kernel
theorem d_SS_init_27 : decode prog_1_method_1_code 27 = .ok (.new 23, 3) := by decide +kernel
theorem d_SS_init_30 : decode prog_1_method_1_code 30 = .ok (.dup, 1) := by decide +kernel
theorem d_SS_init_31 : decode prog_1_method_1_code 31 = .ok (.invokespecial 25, 3) := by decide +kernel
theorem d_SS_init_34 : decode prog_1_method_1_code 34 = .ok (.putfield 26, 3) := by decide +kernel
theorem d_SS_init_37 : decode prog_1_method_1_code 37 = .ok (.aload_n 0, 1) := by decide +kernel
theorem d_SS_init_38 : decode prog_1_method_1_code 38 = .ok (.new 30, 3) := by decide +kernel
theorem d_SS_init_41 : decode prog_1_method_1_code 41 = .ok (.dup, 1) := by decide +kernel
theorem d_SS_init_42 : decode prog_1_method_1_code 42 = .ok (.aload_n 0, 1) := by decide +kernel
theorem d_SS_init_43 : decode prog_1_method_1_code 43 = .ok (.getfield 12, 3) := by decide +kernel
theorem d_SS_init_46 : decode prog_1_method_1_code 46 = .ok (.aload_n 0, 1) := by decide +kernel
theorem d_SS_init_47 : decode prog_1_method_1_code 47 = .ok (.getfield 19, 3) := by decide +kernel
theorem d_SS_init_50 : decode prog_1_method_1_code 50 = .ok (.aload_n 0, 1) := by decide +kernel
theorem d_SS_init_51 : decode prog_1_method_1_code 51 = .ok (.getfield 26, 3) := by decide +kernel
theorem d_SS_init_54 : decode prog_1_method_1_code 54 = .ok (.invokespecial 32, 3) := by decide +kernel
theorem d_SS_init_57 : decode prog_1_method_1_code 57 = .ok (.putfield 35, 3) := by decide +kernel
theorem d_SS_init_60 : decode prog_1_method_1_code 60 = .ok (.aload_n 0, 1) := by decide +kernel
theorem d_SS_init_61 : decode prog_1_method_1_code 61 = .ok (.new 39, 3) := by decide +kernel
theorem d_SS_init_64 : decode prog_1_method_1_code 64 = .ok (.dup, 1) := by decide +kernel
theorem d_SS_init_65 : decode prog_1_method_1_code 65 = .ok (.aload_n 0, 1) := by decide +kernel
theorem d_SS_init_66 : decode prog_1_method_1_code 66 = .ok (.getfield 19, 3) := by decide +kernel
theorem d_SS_init_69 : decode prog_1_method_1_code 69 = .ok (.aload_n 0, 1) := by decide +kernel
theorem d_SS_init_70 : decode prog_1_method_1_code 70 = .ok (.getfield 26, 3) := by decide +kernel
theorem d_SS_init_73 : decode prog_1_method_1_code 73 = .ok (.invokespecial 41, 3) := by decide +kernel
theorem d_SS_init_76 : decode prog_1_method_1_code 76 = .ok (.putfield 44, 3) := by decide +kernel
theorem d_SS_init_79 : decode prog_1_method_1_code 79 = .ok (.return_, 1) := by decide +kernel
theorem d_SS_form_0 : decode prog_1_method_2_code 0 = .ok (.iload_n 1, 1) := by decide +kernel
theorem d_SS_form_1 : decode prog_1_method_2_code 1 = .ok (.iconst 1, 1) := by decide +kernel
theorem d_SS_form_2 : decode prog_1_method_2_code 2 = .ok (.if_icmp .lt 19, 3) := by decide +kernel
theorem d_SS_form_5 : decode prog_1_method_2_code 5 = .ok (.iload_n 1, 1) := by decide +kernel
theorem d_SS_form_6 : decode prog_1_method_2_code 6 = .ok (.iconst 2, 1) := by decide +kernel
theorem d_SS_form_7 : decode prog_1_method_2_code 7 = .ok (.if_icmp .gt 14, 3) := by decide +kernel
theorem d_SS_form_10 : decode prog_1_method_2_code 10 = .ok (.iload_n 2, 1) := by decide +kernel
theorem d_SS_form_11 : decode prog_1_method_2_code 11 = .ok (.iconst 4, 1) := by decide +kernel
theorem d_SS_form_12 : decode prog_1_method_2_code 12 = .ok (.if_icmp .lt 9, 3) := by decide +kernel
theorem d_SS_form_15 : decode prog_1_method_2_code 15 = .ok (.iload_n 2, 1) := by decide +kernel
theorem d_SS_form_16 : decode prog_1_method_2_code 16 = .ok (.bipush 24, 2) := by decide +kernel
theorem d_SS_form_18 : decode prog_1_method_2_code 18 = .ok (.if_icmp .le 13, 3) := by decide +kernel
theorem d_SS_form_21 : decode prog_1_method_2_code 21 = .ok (.new 48, 3) := by decide +kernel
theorem d_SS_form_24 : decode prog_1_method_2_code 24 = .ok (.dup, 1) := by decide +kernel
theorem d_SS_form_25 : decode prog_1_method_2_code 25 = .ok (.ldc 50, 2) := by decide +kernel
theorem d_SS_form_27 : decode prog_1_method_2_code 27 = .ok (.invokespecial 52, 3) := by decide +kernel
theorem d_SS_form_30 : decode prog_1_method_2_code 30 = .ok (.athrow, 1) := by decide +kernel
theorem d_SS_form_31 : decode prog_1_method_2_code 31 = .ok (.iload_n 3, 1) := by decide +kernel
theorem d_SS_form_32 : decode prog_1_method_2_code 32 = .ok (.bipush 16, 2) := by decide +kernel
theorem d_SS_form_34 : decode prog_1_method_2_code 34 = .ok (.if_icmp .lt 23, 3) := by decide +kernel
theorem d_SS_form_37 : decode prog_1_method_2_code 37 = .ok (.iload_n 3, 1) := by decide +kernel
theorem d_SS_form_38 : decode prog_1_method_2_code 38 = .ok (.sipush 1024, 3) := by decide +kernel
theorem d_SS_form_41 : decode prog_1_method_2_code 41 = .ok (.if_icmp .gt 16, 3) := by decide +kernel
theorem d_SS_form_44 : decode prog_1_method_2_code 44 = .ok (.iload 4, 2) := by decide +kernel
theorem d_SS_form_46 : decode prog_1_method_2_code 46 = .ok (.iconst 1, 1) := by decide +kernel
theorem d_SS_form_47 : decode prog_1_method_2_code 47 = .ok (.if_icmp .lt 10, 3) := by decide +kernel
theorem d_SS_form_50 : decode prog_1_method_2_code 50 = .ok (.iload 4, 2) := by decide +kernel
theorem d_SS_form_52 : decode prog_1_method_2_code 52 = .ok (.ldc 55, 2) := by decide +kernel
theorem d_SS_form_54 : decode prog_1_method_2_code 54 = .ok (.if_icmp .le 13, 3) := by decide +kernel
theorem d_SS_form_57 : decode prog_1_method_2_code 57 = .ok (.new 48, 3) := by decide +kernel
theorem d_SS_form_60 : decode prog_1_method_2_code 60 = .ok (.dup, 1) := by decide +kernel
theorem d_SS_form_61 : decode prog_1_method_2_code 61 = .ok (.ldc 56, 2) := by decide +kernel
theorem d_SS_form_63 : decode prog_1_method_2_code 63 = .ok (.invokespecial 52, 3) := by decide +kernel
theorem d_SS_form_66 : decode prog_1_method_2_code 66 = .ok (.athrow, 1) := by decide +kernel
theorem d_SS_form_67 : decode prog_1_method_2_code 67 = .ok (.aload_n 0, 1) := by decide +kernel
theorem d_SS_form_68 : decode prog_1_method_2_code 68 = .ok (.getfield 12, 3) := by decide +kernel
theorem d_SS_form_71 : decode prog_1_method_2_code 71 = .ok (.iload_n 1, 1) := by decide +kernel
theorem d_SS_form_72 : decode prog_1_method_2_code 72 = .ok (.iload_n 2, 1) := by decide +kernel
theorem d_SS_form_73 : decode prog_1_method_2_code 73 = .ok (.iload_n 3, 1) := by decide +kernel
theorem d_SS_form_74 : decode prog_1_method_2_code 74 = .ok (.iload 4, 2) := by decide +kernel
theorem d_SS_form_76 : decode prog_1_method_2_code 76 = .ok (.invokevirtual 58, 3) := by decide +kernel
theorem d_SS_form_79 : decode prog_1_method_2_code 79 = .ok (.aload_n 0, 1) := by decide +kernel
theorem d_SS_form_80 : decode prog_1_method_2_code 80 = .ok (.getfield 12, 3) := by decide +kernel
theorem d_SS_form_83 : decode prog_1_method_2_code 83 = .ok (.invokevirtual 62, 3) := by decide +kernel
theorem d_SS_form_86 : decode prog_1_method_2_code 86 = .ok (.return_, 1) := by decide +kernel
theorem d_SS_sample_0 : decode prog_1_method_3_code 0 = .ok (.aload_n 0, 1) := by decide +kernel
theorem d_SS_sample_1 : decode prog_1_method_3_code 1 = .ok (.iload_n 1, 1) := by decide +kernel
theorem d_SS_sample_2 : decode prog_1_method_3_code 2 = .ok (.iconst 1, 1) := by decide +kernel
theorem d_SS_sample_3 : decode prog_1_method_3_code 3 = .ok (.iload_n 2, 1) := by decide +kernel
theorem d_SS_sample_4 : decode prog_1_method_3_code 4 = .ok (.iconst 0, 1) := by decide +kernel
theorem d_SS_sample_5 : decode prog_1_method_3_code 5 = .ok (.invokevirtual 65, 3) := by decide +kernel
theorem d_SS_sample_8 : decode prog_1_method_3_code 8 = .ok (.ireturn, 1) := by decide +kernel
theorem d_SS_ramp_0 : decode prog_1_method_4_code 0 = .ok (.aload_n 0, 1) := by decide +kernel
theorem d_SS_ramp_1 : decode prog_1_method_4_code 1 = .ok (.getfield 12, 3) := by decide +kernel
theorem d_SS_ramp_4 : decode prog_1_method_4_code 4 = .ok (.iload_n 1, 1) := by decide +kernel
theorem d_SS_ramp_5 : decode prog_1_method_4_code 5 = .ok (.invokevirtual 69, 3) := by decide +kernel
theorem d_SS_ramp_8 : decode prog_1_method_4_code 8 = .ok (.ifCond .eq 7, 3) := by decide +kernel
theorem d_SS_ramp_11 : decode prog_1_method_4_code 11 = .ok (.iload_n 2, 1) := by decide +kernel
theorem d_SS_ramp_12 : decode prog_1_method_4_code 12 = .ok (.ifCond .ge 13, 3) := by decide +kernel
theorem d_SS_ramp_15 : decode prog_1_method_4_code 15 = .ok (.new 48, 3) := by decide +kernel
theorem d_SS_ramp_18 : decode prog_1_method_4_code 18 = .ok (.dup, 1) := by decide +kernel
theorem d_SS_ramp_19 : decode prog_1_method_4_code 19 = .ok (.ldc 73, 2) := by decide +kernel
theorem d_SS_ramp_21 : decode prog_1_method_4_code 21 = .ok (.invokespecial 52, 3) := by decide +kernel
theorem d_SS_ramp_24 : decode prog_1_method_4_code 24 = .ok (.athrow, 1) := by decide +kernel
theorem d_SS_ramp_25 : decode prog_1_method_4_code 25 = .ok (.iload_n 2, 1) := by decide +kernel
theorem d_SS_ramp_26 : decode prog_1_method_4_code 26 = .ok (.aload_n 0, 1) := by decide +kernel
theorem d_SS_ramp_27 : decode prog_1_method_4_code 27 = .ok (.getfield 12, 3) := by decide +kernel
theorem d_SS_ramp_30 : decode prog_1_method_4_code 30 = .ok (.iload_n 1, 1) := by decide +kernel
theorem d_SS_ramp_31 : decode prog_1_method_4_code 31 = .ok (.invokevirtual 75, 3) := by decide +kernel
theorem d_SS_ramp_34 : decode prog_1_method_4_code 34 = .ok (.if_icmp .le 5, 3) := by decide +kernel
theorem d_SS_ramp_37 : decode prog_1_method_4_code 37 = .ok (.iconst (-1), 1) := by decide +kernel
theorem d_SS_ramp_38 : decode prog_1_method_4_code 38 = .ok (.ireturn, 1) := by decide +kernel
theorem d_SS_ramp_39 : decode prog_1_method_4_code 39 = .ok (.iload_n 3, 1) := by decide +kernel
theorem d_SS_ramp_40 : decode prog_1_method_4_code 40 = .ok (.istore 5, 2) := by decide +kernel
theorem d_SS_ramp_42 : decode prog_1_method_4_code 42 = .ok (.iconst 0, 1) := by decide +kernel
theorem d_SS_ramp_43 : decode prog_1_method_4_code 43 = .ok (.istore 6, 2) := by decide +kernel
theorem d_SS_ramp_45 : decode prog_1_method_4_code 45 = .ok (.iload 6, 2) := by decide +kernel
theorem d_SS_ramp_47 : decode prog_1_method_4_code 47 = .ok (.iload_n 2, 1) := by decide +kernel
theorem d_SS_ramp_48 : decode prog_1_method_4_code 48 = .ok (.if_icmp .ge 26, 3) := by decide +kernel
theorem d_SS_ramp_51 : decode prog_1_method_4_code 51 = .ok (.aload_n 0, 1) := by decide +kernel
theorem d_SS_ramp_52 : decode prog_1_method_4_code 52 = .ok (.getfield 12, 3) := by decide +kernel
theorem d_SS_ramp_55 : decode prog_1_method_4_code 55 = .ok (.iload_n 1, 1) := by decide +kernel
theorem d_SS_ramp_56 : decode prog_1_method_4_code 56 = .ok (.iload 5, 2) := by decide +kernel
theorem d_SS_ramp_58 : decode prog_1_method_4_code 58 = .ok (.invokevirtual 79, 3) := by decide +kernel
theorem d_SS_ramp_61 : decode prog_1_method_4_code 61 = .ok (.iload 5, 2) := by decide +kernel
theorem d_SS_ramp_63 : decode prog_1_method_4_code 63 = .ok (.iload 4, 2) := by decide +kernel
theorem d_SS_ramp_65 : decode prog_1_method_4_code 65 = .ok (.iadd, 1) := by decide +kernel
theorem d_SS_ramp_66 : decode prog_1_method_4_code 66 = .ok (.istore 5, 2) := by decide +kernel
theorem d_SS_ramp_68 : decode prog_1_method_4_code 68 = .ok (.iinc 6 1, 3) := by decide +kernel
theorem d_SS_ramp_71 : decode prog_1_method_4_code 71 = .ok (.goto (-26), 3) := by decide +kernel
theorem d_SS_ramp_74 : decode prog_1_method_4_code 74 = .ok (.aload_n 0, 1) := by decide +kernel
theorem d_SS_ramp_75 : decode prog_1_method_4_code 75 = .ok (.getfield 12, 3) := by decide +kernel
theorem d_SS_ramp_78 : decode prog_1_method_4_code 78 = .ok (.getfield 83, 3) := by decide +kernel
theorem d_SS_ramp_81 : decode prog_1_method_4_code 81 = .ok (.iload_n 1, 1) := by decide +kernel
theorem d_SS_ramp_82 : decode prog_1_method_4_code 82 = .ok (.iaload, 1) := by decide +kernel
theorem d_SS_ramp_83 : decode prog_1_method_4_code 83 = .ok (.ireturn, 1) := by decide +kernel
theorem d_SS_noise_0 : decode prog_1_method_5_code 0 = .ok (.aload_n 0, 1) := by decide +kernel
theorem d_SS_noise_1 : decode prog_1_method_5_code 1 = .ok (.getfield 12, 3) := by decide +kernel
theorem d_SS_noise_4 : decode prog_1_method_5_code 4 = .ok (.iload_n 1, 1) := by decide +kernel
theorem d_SS_noise_5 : decode prog_1_method_5_code 5 = .ok (.invokevirtual 69, 3) := by decide +kernel
theorem d_SS_noise_8 : decode prog_1_method_5_code 8 = .ok (.ifCond .eq 20, 3) := by decide +kernel
theorem d_SS_noise_11 : decode prog_1_method_5_code 11 = .ok (.iload_n 2, 1) := by decide +kernel
theorem d_SS_noise_12 : decode prog_1_method_5_code 12 = .ok (.ifCond .lt 16, 3) := by decide +kernel
theorem d_SS_noise_15 : decode prog_1_method_5_code 15 = .ok (.iload 4, 2) := by decide +kernel
theorem d_SS_noise_17 : decode prog_1_method_5_code 17 = .ok (.iconst 1, 1) := by decide +kernel
theorem d_SS_noise_18 : decode prog_1_method_5_code 18 = .ok (.if_icmp .lt 10, 3) := by decide +kernel
theorem d_SS_noise_21 : decode prog_1_method_5_code 21 = .ok (.iload 4, 2) := by decide +kernel
theorem d_SS_noise_23 : decode prog_1_method_5_code 23 = .ok (.bipush 24, 2) := by decide +kernel
theorem d_SS_noise_25 : decode prog_1_method_5_code 25 = .ok (.if_icmp .le 13, 3) := by decide +kernel
theorem d_SS_noise_28 : decode prog_1_method_5_code 28 = .ok (.new 48, 3) := by decide +kernel
theorem d_SS_noise_31 : decode prog_1_method_5_code 31 = .ok (.dup, 1) := by decide +kernel
theorem d_SS_noise_32 : decode prog_1_method_5_code 32 = .ok (.ldc 87, 2) := by decide +kernel
theorem d_SS_noise_34 : decode prog_1_method_5_code 34 = .ok (.invokespecial 52, 3) := by decide +kernel
theorem d_SS_noise_37 : decode prog_1_method_5_code 37 = .ok (.athrow, 1) := by decide +kernel
theorem d_SS_noise_38 : decode prog_1_method_5_code 38 = .ok (.iload_n 2, 1) := by decide +kernel
theorem d_SS_noise_39 : decode prog_1_method_5_code 39 = .ok (.aload_n 0, 1) := by decide +kernel
theorem d_SS_noise_40 : decode prog_1_method_5_code 40 = .ok (.getfield 12, 3) := by decide +kernel
theorem d_SS_noise_43 : decode prog_1_method_5_code 43 = .ok (.iload_n 1, 1) := by decide +kernel
theorem d_SS_noise_44 : decode prog_1_method_5_code 44 = .ok (.invokevirtual 75, 3) := by decide +kernel
theorem d_SS_noise_47 : decode prog_1_method_5_code 47 = .ok (.if_icmp .le 5, 3) := by decide +kernel
theorem d_SS_noise_50 : decode prog_1_method_5_code 50 = .ok (.iconst (-1), 1) := by decide +kernel
theorem d_SS_noise_51 : decode prog_1_method_5_code 51 = .ok (.ireturn, 1) := by decide +kernel
theorem d_SS_noise_52 : decode prog_1_method_5_code 52 = .ok (.iload_n 3, 1) := by decide +kernel
theorem d_SS_noise_53 : decode prog_1_method_5_code 53 = .ok (.istore 5, 2) := by decide +kernel
theorem d_SS_noise_55 : decode prog_1_method_5_code 55 = .ok (.iconst 0, 1) := by decide +kernel
theorem d_SS_noise_56 : decode prog_1_method_5_code 56 = .ok (.istore 6, 2) := by decide +kernel
theorem d_SS_noise_58 : decode prog_1_method_5_code 58 = .ok (.iload 6, 2) := by decide +kernel
theorem d_SS_noise_60 : decode prog_1_method_5_code 60 = .ok (.iload_n 2, 1) := by decide +kernel
theorem d_SS_noise_61 : decode prog_1_method_5_code 61 = .ok (.if_icmp .ge 36, 3) := by decide +kernel
theorem d_SS_noise_64 : decode prog_1_method_5_code 64 = .ok (.ldc 89, 2) := by decide +kernel
theorem d_SS_noise_66 : decode prog_1_method_5_code 66 = .ok (.iload 5, 2) := by decide +kernel
theorem d_SS_noise_68 : decode prog_1_method_5_code 68 = .ok (.imul, 1) := by decide +kernel
theorem d_SS_noise_69 : decode prog_1_method_5_code 69 = .ok (.sipush 12345, 3) := by decide +kernel
theorem d_SS_noise_72 : decode prog_1_method_5_code 72 = .ok (.iadd, 1) := by decide +kernel
theorem d_SS_noise_73 : decode prog_1_method_5_code 73 = .ok (.istore 5, 2) := by decide +kernel
theorem d_SS_noise_75 : decode prog_1_method_5_code 75 = .ok (.aload_n 0, 1) := by decide +kernel
theorem d_SS_noise_76 : decode prog_1_method_5_code 76 = .ok (.getfield 12, 3) := by decide +kernel
theorem d_SS_noise_79 : decode prog_1_method_5_code 79 = .ok (.iload_n 1, 1) := by decide +kernel
theorem d_SS_noise_80 : decode prog_1_method_5_code 80 = .ok (.iload 5, 2) := by decide +kernel
theorem d_SS_noise_82 : decode prog_1_method_5_code 82 = .ok (.bipush 32, 2) := by decide +kernel
theorem d_SS_noise_84 : decode prog_1_method_5_code 84 = .ok (.iload 4, 2) := by decide +kernel
theorem d_SS_noise_86 : decode prog_1_method_5_code 86 = .ok (.isub, 1) := by decide +kernel
theorem d_SS_noise_87 : decode prog_1_method_5_code 87 = .ok (.ishr, 1) := by decide +kernel
theorem d_SS_noise_88 : decode prog_1_method_5_code 88 = .ok (.invokevirtual 79, 3) := by decide +kernel
theorem d_SS_noise_91 : decode prog_1_method_5_code 91 = .ok (.iinc 6 1, 3) := by decide +kernel
theorem d_SS_noise_94 : decode prog_1_method_5_code 94 = .ok (.goto (-36), 3) := by decide +kernel
theorem d_SS_noise_97 : decode prog_1_method_5_code 97 = .ok (.aload_n 0, 1) := by decide +kernel
theorem d_SS_noise_98 : decode prog_1_method_5_code 98 = .ok (.getfield 12, 3) := by decide +kernel
theorem d_SS_noise_101 : decode prog_1_method_5_code 101 = .ok (.getfield 83, 3) := by decide +kernel
theorem d_SS_noise_104 : decode prog_1_method_5_code 104 = .ok (.iload_n 1, 1) := by decide +kernel
theorem d_SS_noise_105 : decode prog_1_method_5_code 105 = .ok (.iaload, 1) := by decide +kernel
theorem d_SS_noise_106 : decode prog_1_method_5_code 106 = .ok (.ireturn, 1) := by decide +kernel
theorem d_SS_clear_0 : decode prog_1_method_6_code 0 = .ok (.aload_n 0, 1) := by decide +kernel
theorem d_SS_clear_1 : decode prog_1_method_6_code 1 = .ok (.getfield 12, 3) := by decide +kernel
theorem d_SS_clear_4 : decode prog_1_method_6_code 4 = .ok (.invokevirtual 62, 3) := by decide +kernel
theorem d_SS_clear_7 : decode prog_1_method_6_code 7 = .ok (.return_, 1) := by decide +kernel
theorem d_SS_at_0 : decode prog_1_method_7_code 0 = .ok (.aload_n 0, 1) := by decide +kernel
theorem d_SS_at_1 : decode prog_1_method_7_code 1 = .ok (.getfield 12, 3) := by decide +kernel
theorem d_SS_at_4 : decode prog_1_method_7_code 4 = .ok (.iload_n 1, 1) := by decide +kernel
theorem d_SS_at_5 : decode prog_1_method_7_code 5 = .ok (.invokevirtual 69, 3) := by decide +kernel
theorem d_SS_at_8 : decode prog_1_method_7_code 8 = .ok (.ifCond .ne 13, 3) := by decide +kernel
theorem d_SS_at_11 : decode prog_1_method_7_code 11 = .ok (.new 48, 3) := by decide +kernel
theorem d_SS_at_14 : decode prog_1_method_7_code 14 = .ok (.dup, 1) := by decide +kernel
theorem d_SS_at_15 : decode prog_1_method_7_code 15 = .ok (.ldc 90, 2) := by decide +kernel
theorem d_SS_at_17 : decode prog_1_method_7_code 17 = .ok (.invokespecial 52, 3) := by decide +kernel
theorem d_SS_at_20 : decode prog_1_method_7_code 20 = .ok (.athrow, 1) := by decide +kernel
theorem d_SS_at_21 : decode prog_1_method_7_code 21 = .ok (.aload_n 0, 1) := by decide +kernel
theorem d_SS_at_22 : decode prog_1_method_7_code 22 = .ok (.getfield 12, 3) := by decide +kernel
theorem d_SS_at_25 : decode prog_1_method_7_code 25 = .ok (.iload_n 1, 1) := by decide +kernel
theorem d_SS_at_26 : decode prog_1_method_7_code 26 = .ok (.iload_n 2, 1) := by decide +kernel
theorem d_SS_at_27 : decode prog_1_method_7_code 27 = .ok (.invokevirtual 92, 3) := by decide +kernel
theorem d_SS_at_30 : decode prog_1_method_7_code 30 = .ok (.ifCond .ne 13, 3) := by decide +kernel
theorem d_SS_at_33 : decode prog_1_method_7_code 33 = .ok (.new 96, 3) := by decide +kernel
theorem d_SS_at_36 : decode prog_1_method_7_code 36 = .ok (.dup, 1) := by decide +kernel
theorem d_SS_at_37 : decode prog_1_method_7_code 37 = .ok (.ldc 98, 2) := by decide +kernel
theorem d_SS_at_39 : decode prog_1_method_7_code 39 = .ok (.invokespecial 100, 3) := by decide +kernel
theorem d_SS_at_42 : decode prog_1_method_7_code 42 = .ok (.athrow, 1) := by decide +kernel
theorem d_SS_at_43 : decode prog_1_method_7_code 43 = .ok (.aload_n 0, 1) := by decide +kernel
theorem d_SS_at_44 : decode prog_1_method_7_code 44 = .ok (.getfield 12, 3) := by decide +kernel
theorem d_SS_at_47 : decode prog_1_method_7_code 47 = .ok (.getfield 101, 3) := by decide +kernel
theorem d_SS_at_50 : decode prog_1_method_7_code 50 = .ok (.iload_n 1, 1) := by decide +kernel
theorem d_SS_at_51 : decode prog_1_method_7_code 51 = .ok (.aaload, 1) := by decide +kernel
theorem d_SS_at_52 : decode prog_1_method_7_code 52 = .ok (.iload_n 2, 1) := by decide +kernel
theorem d_SS_at_53 : decode prog_1_method_7_code 53 = .ok (.iaload, 1) := by decide +kernel
theorem d_SS_at_54 : decode prog_1_method_7_code 54 = .ok (.ireturn, 1) := by decide +kernel
theorem d_SS_sum_0 : decode prog_1_method_8_code 0 = .ok (.iload_n 1, 1) := by decide +kernel
theorem d_SS_sum_1 : decode prog_1_method_8_code 1 = .ok (.ifCond .eq 18, 3) := by decide +kernel
theorem d_SS_sum_4 : decode prog_1_method_8_code 4 = .ok (.iload_n 1, 1) := by decide +kernel
theorem d_SS_sum_5 : decode prog_1_method_8_code 5 = .ok (.iconst 1, 1) := by decide +kernel
theorem d_SS_sum_6 : decode prog_1_method_8_code 6 = .ok (.if_icmp .eq 13, 3) := by decide +kernel
theorem d_SS_sum_9 : decode prog_1_method_8_code 9 = .ok (.new 48, 3) := by decide +kernel
theorem d_SS_sum_12 : decode prog_1_method_8_code 12 = .ok (.dup, 1) := by decide +kernel
theorem d_SS_sum_13 : decode prog_1_method_8_code 13 = .ok (.ldc 105, 2) := by decide +kernel
theorem d_SS_sum_15 : decode prog_1_method_8_code 15 = .ok (.invokespecial 52, 3) := by decide +kernel
theorem d_SS_sum_18 : decode prog_1_method_8_code 18 = .ok (.athrow, 1) := by decide +kernel
theorem d_SS_sum_19 : decode prog_1_method_8_code 19 = .ok (.aload_n 0, 1) := by decide +kernel
theorem d_SS_sum_20 : decode prog_1_method_8_code 20 = .ok (.getfield 12, 3) := by decide +kernel
theorem d_SS_sum_23 : decode prog_1_method_8_code 23 = .ok (.invokevirtual 107, 3) := by decide +kernel
theorem d_SS_sum_26 : decode prog_1_method_8_code 26 = .ok (.ifCond .ne 13, 3) := by decide +kernel
theorem d_SS_sum_29 : decode prog_1_method_8_code 29 = .ok (.new 111, 3) := by decide +kernel
theorem d_SS_sum_32 : decode prog_1_method_8_code 32 = .ok (.dup, 1) := by decide +kernel
theorem d_SS_sum_33 : decode prog_1_method_8_code 33 = .ok (.ldc 113, 2) := by decide +kernel
theorem d_SS_sum_35 : decode prog_1_method_8_code 35 = .ok (.invokespecial 115, 3) := by decide +kernel
theorem d_SS_sum_38 : decode prog_1_method_8_code 38 = .ok (.athrow, 1) := by decide +kernel
theorem d_SS_sum_39 : decode prog_1_method_8_code 39 = .ok (.aload_n 0, 1) := by decide +kernel
theorem d_SS_sum_40 : decode prog_1_method_8_code 40 = .ok (.getfield 26, 3) := by decide +kernel
theorem d_SS_sum_43 : decode prog_1_method_8_code 43 = .ok (.aload_n 0, 1) := by decide +kernel
theorem d_SS_sum_44 : decode prog_1_method_8_code 44 = .ok (.getfield 12, 3) := by decide +kernel
theorem d_SS_sum_47 : decode prog_1_method_8_code 47 = .ok (.invokevirtual 116, 3) := by decide +kernel
theorem d_SS_sum_50 : decode prog_1_method_8_code 50 = .ok (.aload_n 0, 1) := by decide +kernel
theorem d_SS_sum_51 : decode prog_1_method_8_code 51 = .ok (.getfield 26, 3) := by decide +kernel
theorem d_SS_sum_54 : decode prog_1_method_8_code 54 = .ok (.iload_n 1, 1) := by decide +kernel
theorem d_SS_sum_55 : decode prog_1_method_8_code 55 = .ok (.invokevirtual 120, 3) := by decide +kernel
theorem d_SS_sum_58 : decode prog_1_method_8_code 58 = .ok (.lreturn, 1) := by decide +kernel
theorem d_SS_encode_0 : decode prog_1_method_9_code 0 = .ok (.aload_n 0, 1) := by decide +kernel
theorem d_SS_encode_1 : decode prog_1_method_9_code 1 = .ok (.getfield 12, 3) := by decide +kernel
theorem d_SS_encode_4 : decode prog_1_method_9_code 4 = .ok (.invokevirtual 107, 3) := by decide +kernel
theorem d_SS_encode_7 : decode prog_1_method_9_code 7 = .ok (.ifCond .ne 13, 3) := by decide +kernel
theorem d_SS_encode_10 : decode prog_1_method_9_code 10 = .ok (.new 111, 3) := by decide +kernel
theorem d_SS_encode_13 : decode prog_1_method_9_code 13 = .ok (.dup, 1) := by decide +kernel
theorem d_SS_encode_14 : decode prog_1_method_9_code 14 = .ok (.ldc 113, 2) := by decide +kernel
theorem d_SS_encode_16 : decode prog_1_method_9_code 16 = .ok (.invokespecial 115, 3) := by decide +kernel
theorem d_SS_encode_19 : decode prog_1_method_9_code 19 = .ok (.athrow, 1) := by decide +kernel
theorem d_SS_encode_20 : decode prog_1_method_9_code 20 = .ok (.aload_n 0, 1) := by decide +kernel
theorem d_SS_encode_21 : decode prog_1_method_9_code 21 = .ok (.getfield 35, 3) := by decide +kernel
theorem d_SS_encode_24 : decode prog_1_method_9_code 24 = .ok (.iload_n 1, 1) := by decide +kernel
theorem d_SS_encode_25 : decode prog_1_method_9_code 25 = .ok (.invokevirtual 124, 3) := by decide +kernel
theorem d_SS_encode_28 : decode prog_1_method_9_code 28 = .ok (.aload_n 0, 1) := by decide +kernel
theorem d_SS_encode_29 : decode prog_1_method_9_code 29 = .ok (.getfield 19, 3) := by decide +kernel
theorem d_SS_encode_32 : decode prog_1_method_9_code 32 = .ok (.getfield 128, 3) := by decide +kernel
theorem d_SS_encode_35 : decode prog_1_method_9_code 35 = .ok (.ireturn, 1) := by decide +kernel
theorem d_SS_told_0 : decode prog_1_method_10_code 0 = .ok (.iload_n 1, 1) := by decide +kernel
theorem d_SS_told_1 : decode prog_1_method_10_code 1 = .ok (.ifCond .lt 9, 3) := by decide +kernel
theorem d_SS_told_4 : decode prog_1_method_10_code 4 = .ok (.iload_n 1, 1) := by decide +kernel
theorem d_SS_told_5 : decode prog_1_method_10_code 5 = .ok (.bipush 8, 2) := by decide +kernel
theorem d_SS_told_7 : decode prog_1_method_10_code 7 = .ok (.if_icmp .le 13, 3) := by decide +kernel
theorem d_SS_told_10 : decode prog_1_method_10_code 10 = .ok (.new 48, 3) := by decide +kernel
theorem d_SS_told_13 : decode prog_1_method_10_code 13 = .ok (.dup, 1) := by decide +kernel
theorem d_SS_told_14 : decode prog_1_method_10_code 14 = .ok (.ldc 132, 2) := by decide +kernel
theorem d_SS_told_16 : decode prog_1_method_10_code 16 = .ok (.invokespecial 52, 3) := by decide +kernel
theorem d_SS_told_19 : decode prog_1_method_10_code 19 = .ok (.athrow, 1) := by decide +kernel
theorem d_SS_told_20 : decode prog_1_method_10_code 20 = .ok (.iload_n 1, 1) := by decide +kernel
theorem d_SS_told_21 : decode prog_1_method_10_code 21 = .ok (.ifCond .ne 11, 3) := by decide +kernel
theorem d_SS_told_24 : decode prog_1_method_10_code 24 = .ok (.aload_n 0, 1) := by decide +kernel
theorem d_SS_told_25 : decode prog_1_method_10_code 25 = .ok (.getfield 19, 3) := by decide +kernel
theorem d_SS_told_28 : decode prog_1_method_10_code 28 = .ok (.getfield 128, 3) := by decide +kernel
theorem d_SS_told_31 : decode prog_1_method_10_code 31 = .ok (.ireturn, 1) := by decide +kernel
theorem d_SS_told_32 : decode prog_1_method_10_code 32 = .ok (.iload_n 1, 1) := by decide +kernel
theorem d_SS_told_33 : decode prog_1_method_10_code 33 = .ok (.iconst 1, 1) := by decide +kernel
theorem d_SS_told_34 : decode prog_1_method_10_code 34 = .ok (.if_icmp .ne 13, 3) := by decide +kernel
theorem d_SS_told_37 : decode prog_1_method_10_code 37 = .ok (.aload_n 0, 1) := by decide +kernel
theorem d_SS_told_38 : decode prog_1_method_10_code 38 = .ok (.getfield 35, 3) := by decide +kernel
theorem d_SS_told_41 : decode prog_1_method_10_code 41 = .ok (.getfield 134, 3) := by decide +kernel
theorem d_SS_told_44 : decode prog_1_method_10_code 44 = .ok (.goto 11, 3) := by decide +kernel
theorem d_SS_told_47 : decode prog_1_method_10_code 47 = .ok (.aload_n 0, 1) := by decide +kernel
theorem d_SS_told_48 : decode prog_1_method_10_code 48 = .ok (.getfield 44, 3) := by decide +kernel
theorem d_SS_told_51 : decode prog_1_method_10_code 51 = .ok (.iload_n 1, 1) := by decide +kernel
theorem d_SS_told_52 : decode prog_1_method_10_code 52 = .ok (.invokevirtual 137, 3) := by decide +kernel
theorem d_SS_told_55 : decode prog_1_method_10_code 55 = .ok (.ireturn, 1) := by decide +kernel
theorem d_SS_frame_0 : decode prog_1_method_11_code 0 = .ok (.iload_n 2, 1) := by decide +kernel
theorem d_SS_frame_1 : decode prog_1_method_11_code 1 = .ok (.ifCond .lt 9, 3) := by decide +kernel
theorem d_SS_frame_4 : decode prog_1_method_11_code 4 = .ok (.iload_n 2, 1) := by decide +kernel
theorem d_SS_frame_5 : decode prog_1_method_11_code 5 = .ok (.bipush 9, 2) := by decide +kernel
theorem d_SS_frame_7 : decode prog_1_method_11_code 7 = .ok (.if_icmp .lt 13, 3) := by decide +kernel
theorem d_SS_frame_10 : decode prog_1_method_11_code 10 = .ok (.new 48, 3) := by decide +kernel
theorem d_SS_frame_13 : decode prog_1_method_11_code 13 = .ok (.dup, 1) := by decide +kernel
theorem d_SS_frame_14 : decode prog_1_method_11_code 14 = .ok (.ldc 132, 2) := by decide +kernel
theorem d_SS_frame_16 : decode prog_1_method_11_code 16 = .ok (.invokespecial 52, 3) := by decide +kernel
theorem d_SS_frame_19 : decode prog_1_method_11_code 19 = .ok (.athrow, 1) := by decide +kernel
theorem d_SS_frame_20 : decode prog_1_method_11_code 20 = .ok (.iload_n 1, 1) := by decide +kernel
theorem d_SS_frame_21 : decode prog_1_method_11_code 21 = .ok (.ifCond .lt 14, 3) := by decide +kernel
theorem d_SS_frame_24 : decode prog_1_method_11_code 24 = .ok (.iload_n 1, 1) := by decide +kernel
theorem d_SS_frame_25 : decode prog_1_method_11_code 25 = .ok (.aload_n 0, 1) := by decide +kernel
theorem d_SS_frame_26 : decode prog_1_method_11_code 26 = .ok (.getfield 35, 3) := by decide +kernel
theorem d_SS_frame_29 : decode prog_1_method_11_code 29 = .ok (.getfield 134, 3) := by decide +kernel
theorem d_SS_frame_32 : decode prog_1_method_11_code 32 = .ok (.if_icmp .lt 13, 3) := by decide +kernel
theorem d_SS_frame_35 : decode prog_1_method_11_code 35 = .ok (.new 96, 3) := by decide +kernel
theorem d_SS_frame_38 : decode prog_1_method_11_code 38 = .ok (.dup, 1) := by decide +kernel
theorem d_SS_frame_39 : decode prog_1_method_11_code 39 = .ok (.ldc 140, 2) := by decide +kernel
theorem d_SS_frame_41 : decode prog_1_method_11_code 41 = .ok (.invokespecial 100, 3) := by decide +kernel
theorem d_SS_frame_44 : decode prog_1_method_11_code 44 = .ok (.athrow, 1) := by decide +kernel
theorem d_SS_frame_45 : decode prog_1_method_11_code 45 = .ok (.aload_n 0, 1) := by decide +kernel
theorem d_SS_frame_46 : decode prog_1_method_11_code 46 = .ok (.getfield 35, 3) := by decide +kernel
theorem d_SS_frame_49 : decode prog_1_method_11_code 49 = .ok (.getfield 142, 3) := by decide +kernel
theorem d_SS_frame_52 : decode prog_1_method_11_code 52 = .ok (.iload_n 1, 1) := by decide +kernel
theorem d_SS_frame_53 : decode prog_1_method_11_code 53 = .ok (.aaload, 1) := by decide +kernel
theorem d_SS_frame_54 : decode prog_1_method_11_code 54 = .ok (.iload_n 2, 1) := by decide +kernel
theorem d_SS_frame_55 : decode prog_1_method_11_code 55 = .ok (.iaload, 1) := by decide +kernel
theorem d_SS_frame_56 : decode prog_1_method_11_code 56 = .ok (.ireturn, 1) := by decide +kernel
theorem d_SS_stream_0 : decode prog_1_method_12_code 0 = .ok (.lconst 0, 1) := by decide +kernel
theorem d_SS_stream_1 : decode prog_1_method_12_code 1 = .ok (.lstore_n 2, 1) := by decide +kernel
theorem d_SS_stream_2 : decode prog_1_method_12_code 2 = .ok (.bipush 7, 2) := by decide +kernel
theorem d_SS_stream_4 : decode prog_1_method_12_code 4 = .ok (.istore 4, 2) := by decide +kernel
theorem d_SS_stream_6 : decode prog_1_method_12_code 6 = .ok (.iload 4, 2) := by decide +kernel
theorem d_SS_stream_8 : decode prog_1_method_12_code 8 = .ok (.ifCond .lt 27, 3) := by decide +kernel
theorem d_SS_stream_11 : decode prog_1_method_12_code 11 = .ok (.lload_n 2, 1) := by decide +kernel
theorem d_SS_stream_12 : decode prog_1_method_12_code 12 = .ok (.bipush 8, 2) := by decide +kernel
theorem d_SS_stream_14 : decode prog_1_method_12_code 14 = .ok (.lshl, 1) := by decide +kernel
theorem d_SS_stream_15 : decode prog_1_method_12_code 15 = .ok (.aload_n 0, 1) := by decide +kernel
theorem d_SS_stream_16 : decode prog_1_method_12_code 16 = .ok (.getfield 19, 3) := by decide +kernel
theorem d_SS_stream_19 : decode prog_1_method_12_code 19 = .ok (.iload_n 1, 1) := by decide +kernel
theorem d_SS_stream_20 : decode prog_1_method_12_code 20 = .ok (.iload 4, 2) := by decide +kernel
theorem d_SS_stream_22 : decode prog_1_method_12_code 22 = .ok (.iadd, 1) := by decide +kernel
theorem d_SS_stream_23 : decode prog_1_method_12_code 23 = .ok (.invokevirtual 145, 3) := by decide +kernel
theorem d_SS_stream_26 : decode prog_1_method_12_code 26 = .ok (.i2l, 1) := by decide +kernel
theorem d_SS_stream_27 : decode prog_1_method_12_code 27 = .ok (.lor, 1) := by decide +kernel
theorem d_SS_stream_28 : decode prog_1_method_12_code 28 = .ok (.lstore_n 2, 1) := by decide +kernel
theorem d_SS_stream_29 : decode prog_1_method_12_code 29 = .ok (.iinc 4 (-1), 3) := by decide +kernel
theorem d_SS_stream_32 : decode prog_1_method_12_code 32 = .ok (.goto (-26), 3) := by decide +kernel
theorem d_SS_stream_35 : decode prog_1_method_12_code 35 = .ok (.lload_n 2, 1) := by decide +kernel
theorem d_SS_stream_36 : decode prog_1_method_12_code 36 = .ok (.lreturn, 1) := by decide +kernel
theorem d_SS_feed_0 : decode prog_1_method_13_code 0 = .ok (.iload_n 1, 1) := by decide +kernel
theorem d_SS_feed_1 : decode prog_1_method_13_code 1 = .ok (.iconst 1, 1) := by decide +kernel
theorem d_SS_feed_2 : decode prog_1_method_13_code 2 = .ok (.if_icmp .lt 9, 3) := by decide +kernel
theorem d_SS_feed_5 : decode prog_1_method_13_code 5 = .ok (.iload_n 1, 1) := by decide +kernel
theorem d_SS_feed_6 : decode prog_1_method_13_code 6 = .ok (.bipush 8, 2) := by decide +kernel
theorem d_SS_feed_8 : decode prog_1_method_13_code 8 = .ok (.if_icmp .le 13, 3) := by decide +kernel
theorem d_SS_feed_11 : decode prog_1_method_13_code 11 = .ok (.new 48, 3) := by decide +kernel
theorem d_SS_feed_14 : decode prog_1_method_13_code 14 = .ok (.dup, 1) := by decide +kernel
theorem d_SS_feed_15 : decode prog_1_method_13_code 15 = .ok (.ldc 148, 2) := by decide +kernel
theorem d_SS_feed_17 : decode prog_1_method_13_code 17 = .ok (.invokespecial 52, 3) := by decide +kernel
theorem d_SS_feed_20 : decode prog_1_method_13_code 20 = .ok (.athrow, 1) := by decide +kernel
theorem d_SS_feed_21 : decode prog_1_method_13_code 21 = .ok (.iload_n 1, 1) := by decide +kernel
theorem d_SS_feed_22 : decode prog_1_method_13_code 22 = .ok (.sipush 9000, 3) := by decide +kernel
theorem d_SS_feed_25 : decode prog_1_method_13_code 25 = .ok (.aload_n 0, 1) := by decide +kernel
theorem d_SS_feed_26 : decode prog_1_method_13_code 26 = .ok (.getfield 19, 3) := by decide +kernel
theorem d_SS_feed_29 : decode prog_1_method_13_code 29 = .ok (.getfield 128, 3) := by decide +kernel
theorem d_SS_feed_32 : decode prog_1_method_13_code 32 = .ok (.isub, 1) := by decide +kernel
theorem d_SS_feed_33 : decode prog_1_method_13_code 33 = .ok (.if_icmp .le 5, 3) := by decide +kernel
theorem d_SS_feed_36 : decode prog_1_method_13_code 36 = .ok (.iconst (-1), 1) := by decide +kernel
theorem d_SS_feed_37 : decode prog_1_method_13_code 37 = .ok (.ireturn, 1) := by decide +kernel
theorem d_SS_feed_38 : decode prog_1_method_13_code 38 = .ok (.iconst 0, 1) := by decide +kernel
theorem d_SS_feed_39 : decode prog_1_method_13_code 39 = .ok (.istore 4, 2) := by decide +kernel
theorem d_SS_feed_41 : decode prog_1_method_13_code 41 = .ok (.iload 4, 2) := by decide +kernel
theorem d_SS_feed_43 : decode prog_1_method_13_code 43 = .ok (.iload_n 1, 1) := by decide +kernel
theorem d_SS_feed_44 : decode prog_1_method_13_code 44 = .ok (.if_icmp .ge 24, 3) := by decide +kernel
theorem d_SS_feed_47 : decode prog_1_method_13_code 47 = .ok (.aload_n 0, 1) := by decide +kernel
theorem d_SS_feed_48 : decode prog_1_method_13_code 48 = .ok (.getfield 19, 3) := by decide +kernel
theorem d_SS_feed_51 : decode prog_1_method_13_code 51 = .ok (.lload_n 2, 1) := by decide +kernel
theorem d_SS_feed_52 : decode prog_1_method_13_code 52 = .ok (.bipush 8, 2) := by decide +kernel
theorem d_SS_feed_54 : decode prog_1_method_13_code 54 = .ok (.iload 4, 2) := by decide +kernel
theorem d_SS_feed_56 : decode prog_1_method_13_code 56 = .ok (.imul, 1) := by decide +kernel
theorem d_SS_feed_57 : decode prog_1_method_13_code 57 = .ok (.lshr, 1) := by decide +kernel
theorem d_SS_feed_58 : decode prog_1_method_13_code 58 = .ok (.l2i, 1) := by decide +kernel
theorem d_SS_feed_59 : decode prog_1_method_13_code 59 = .ok (.invokevirtual 150, 3) := by decide +kernel
theorem d_SS_feed_62 : decode prog_1_method_13_code 62 = .ok (.iinc 4 1, 3) := by decide +kernel
theorem d_SS_feed_65 : decode prog_1_method_13_code 65 = .ok (.goto (-24), 3) := by decide +kernel
theorem d_SS_feed_68 : decode prog_1_method_13_code 68 = .ok (.aload_n 0, 1) := by decide +kernel
theorem d_SS_feed_69 : decode prog_1_method_13_code 69 = .ok (.getfield 19, 3) := by decide +kernel
theorem d_SS_feed_72 : decode prog_1_method_13_code 72 = .ok (.getfield 128, 3) := by decide +kernel
theorem d_SS_feed_75 : decode prog_1_method_13_code 75 = .ok (.ireturn, 1) := by decide +kernel
theorem d_SS_cut_0 : decode prog_1_method_14_code 0 = .ok (.iload_n 1, 1) := by decide +kernel
theorem d_SS_cut_1 : decode prog_1_method_14_code 1 = .ok (.ifCond .lt 14, 3) := by decide +kernel
theorem d_SS_cut_4 : decode prog_1_method_14_code 4 = .ok (.iload_n 1, 1) := by decide +kernel
theorem d_SS_cut_5 : decode prog_1_method_14_code 5 = .ok (.aload_n 0, 1) := by decide +kernel
theorem d_SS_cut_6 : decode prog_1_method_14_code 6 = .ok (.getfield 19, 3) := by decide +kernel
theorem d_SS_cut_9 : decode prog_1_method_14_code 9 = .ok (.getfield 128, 3) := by decide +kernel
theorem d_SS_cut_12 : decode prog_1_method_14_code 12 = .ok (.if_icmp .le 13, 3) := by decide +kernel
theorem d_SS_cut_15 : decode prog_1_method_14_code 15 = .ok (.new 48, 3) := by decide +kernel
theorem d_SS_cut_18 : decode prog_1_method_14_code 18 = .ok (.dup, 1) := by decide +kernel
theorem d_SS_cut_19 : decode prog_1_method_14_code 19 = .ok (.ldc 154, 2) := by decide +kernel
theorem d_SS_cut_21 : decode prog_1_method_14_code 21 = .ok (.invokespecial 52, 3) := by decide +kernel
theorem d_SS_cut_24 : decode prog_1_method_14_code 24 = .ok (.athrow, 1) := by decide +kernel
theorem d_SS_cut_25 : decode prog_1_method_14_code 25 = .ok (.aload_n 0, 1) := by decide +kernel
theorem d_SS_cut_26 : decode prog_1_method_14_code 26 = .ok (.getfield 19, 3) := by decide +kernel
theorem d_SS_cut_29 : decode prog_1_method_14_code 29 = .ok (.getfield 128, 3) := by decide +kernel
theorem d_SS_cut_32 : decode prog_1_method_14_code 32 = .ok (.istore_n 2, 1) := by decide +kernel
theorem d_SS_cut_33 : decode prog_1_method_14_code 33 = .ok (.aload_n 0, 1) := by decide +kernel
theorem d_SS_cut_34 : decode prog_1_method_14_code 34 = .ok (.getfield 19, 3) := by decide +kernel
theorem d_SS_cut_37 : decode prog_1_method_14_code 37 = .ok (.iload_n 1, 1) := by decide +kernel
theorem d_SS_cut_38 : decode prog_1_method_14_code 38 = .ok (.putfield 128, 3) := by decide +kernel
theorem d_SS_cut_41 : decode prog_1_method_14_code 41 = .ok (.iload_n 2, 1) := by decide +kernel
theorem d_SS_cut_42 : decode prog_1_method_14_code 42 = .ok (.ireturn, 1) := by decide +kernel
theorem d_SS_spoil_0 : decode prog_1_method_15_code 0 = .ok (.iload_n 1, 1) := by decide +kernel
theorem d_SS_spoil_1 : decode prog_1_method_15_code 1 = .ok (.ifCond .lt 14, 3) := by decide +kernel
theorem d_SS_spoil_4 : decode prog_1_method_15_code 4 = .ok (.iload_n 1, 1) := by decide +kernel
theorem d_SS_spoil_5 : decode prog_1_method_15_code 5 = .ok (.aload_n 0, 1) := by decide +kernel
theorem d_SS_spoil_6 : decode prog_1_method_15_code 6 = .ok (.getfield 19, 3) := by decide +kernel
theorem d_SS_spoil_9 : decode prog_1_method_15_code 9 = .ok (.getfield 128, 3) := by decide +kernel
theorem d_SS_spoil_12 : decode prog_1_method_15_code 12 = .ok (.if_icmp .lt 13, 3) := by decide +kernel
theorem d_SS_spoil_15 : decode prog_1_method_15_code 15 = .ok (.new 96, 3) := by decide +kernel
theorem d_SS_spoil_18 : decode prog_1_method_15_code 18 = .ok (.dup, 1) := by decide +kernel
theorem d_SS_spoil_19 : decode prog_1_method_15_code 19 = .ok (.ldc 156, 2) := by decide +kernel
theorem d_SS_spoil_21 : decode prog_1_method_15_code 21 = .ok (.invokespecial 100, 3) := by decide +kernel
theorem d_SS_spoil_24 : decode prog_1_method_15_code 24 = .ok (.athrow, 1) := by decide +kernel
theorem d_SS_spoil_25 : decode prog_1_method_15_code 25 = .ok (.iload_n 2, 1) := by decide +kernel
theorem d_SS_spoil_26 : decode prog_1_method_15_code 26 = .ok (.ifCond .lt 10, 3) := by decide +kernel
theorem d_SS_spoil_29 : decode prog_1_method_15_code 29 = .ok (.iload_n 2, 1) := by decide +kernel
theorem d_SS_spoil_30 : decode prog_1_method_15_code 30 = .ok (.sipush 255, 3) := by decide +kernel
theorem d_SS_spoil_33 : decode prog_1_method_15_code 33 = .ok (.if_icmp .le 13, 3) := by decide +kernel
theorem d_SS_spoil_36 : decode prog_1_method_15_code 36 = .ok (.new 48, 3) := by decide +kernel
theorem d_SS_spoil_39 : decode prog_1_method_15_code 39 = .ok (.dup, 1) := by decide +kernel
theorem d_SS_spoil_40 : decode prog_1_method_15_code 40 = .ok (.ldc 158, 2) := by decide +kernel
theorem d_SS_spoil_42 : decode prog_1_method_15_code 42 = .ok (.invokespecial 52, 3) := by decide +kernel
theorem d_SS_spoil_45 : decode prog_1_method_15_code 45 = .ok (.athrow, 1) := by decide +kernel
theorem d_SS_spoil_46 : decode prog_1_method_15_code 46 = .ok (.aload_n 0, 1) := by decide +kernel
theorem d_SS_spoil_47 : decode prog_1_method_15_code 47 = .ok (.getfield 19, 3) := by decide +kernel
theorem d_SS_spoil_50 : decode prog_1_method_15_code 50 = .ok (.iload_n 1, 1) := by decide +kernel
theorem d_SS_spoil_51 : decode prog_1_method_15_code 51 = .ok (.invokevirtual 145, 3) := by decide +kernel
theorem d_SS_spoil_54 : decode prog_1_method_15_code 54 = .ok (.istore_n 3, 1) := by decide +kernel
theorem d_SS_spoil_55 : decode prog_1_method_15_code 55 = .ok (.aload_n 0, 1) := by decide +kernel
theorem d_SS_spoil_56 : decode prog_1_method_15_code 56 = .ok (.getfield 19, 3) := by decide +kernel
theorem d_SS_spoil_59 : decode prog_1_method_15_code 59 = .ok (.iload_n 1, 1) := by decide +kernel
theorem d_SS_spoil_60 : decode prog_1_method_15_code 60 = .ok (.iload_n 2, 1) := by decide +kernel
theorem d_SS_spoil_61 : decode prog_1_method_15_code 61 = .ok (.invokevirtual 160, 3) := by decide +kernel
theorem d_SS_spoil_64 : decode prog_1_method_15_code 64 = .ok (.iload_n 3, 1) := by decide +kernel
theorem d_SS_spoil_65 : decode prog_1_method_15_code 65 = .ok (.ireturn, 1) := by decide +kernel
theorem d_SS_seal_0 : decode prog_1_method_16_code 0 = .ok (.iload_n 1, 1) := by decide +kernel
theorem d_SS_seal_1 : decode prog_1_method_16_code 1 = .ok (.bipush 8, 2) := by decide +kernel
theorem d_SS_seal_3 : decode prog_1_method_16_code 3 = .ok (.if_icmp .eq 19, 3) := by decide +kernel
theorem d_SS_seal_6 : decode prog_1_method_16_code 6 = .ok (.iload_n 1, 1) := by decide +kernel
theorem d_SS_seal_7 : decode prog_1_method_16_code 7 = .ok (.bipush 16, 2) := by decide +kernel
theorem d_SS_seal_9 : decode prog_1_method_16_code 9 = .ok (.if_icmp .eq 13, 3) := by decide +kernel
theorem d_SS_seal_12 : decode prog_1_method_16_code 12 = .ok (.new 48, 3) := by decide +kernel
theorem d_SS_seal_15 : decode prog_1_method_16_code 15 = .ok (.dup, 1) := by decide +kernel
theorem d_SS_seal_16 : decode prog_1_method_16_code 16 = .ok (.ldc 163, 2) := by decide +kernel
theorem d_SS_seal_18 : decode prog_1_method_16_code 18 = .ok (.invokespecial 52, 3) := by decide +kernel
theorem d_SS_seal_21 : decode prog_1_method_16_code 21 = .ok (.athrow, 1) := by decide +kernel
theorem d_SS_seal_22 : decode prog_1_method_16_code 22 = .ok (.iload_n 2, 1) := by decide +kernel
theorem d_SS_seal_23 : decode prog_1_method_16_code 23 = .ok (.ifCond .lt 24, 3) := by decide +kernel
theorem d_SS_seal_26 : decode prog_1_method_16_code 26 = .ok (.iload_n 2, 1) := by decide +kernel
theorem d_SS_seal_27 : decode prog_1_method_16_code 27 = .ok (.iload_n 3, 1) := by decide +kernel
theorem d_SS_seal_28 : decode prog_1_method_16_code 28 = .ok (.if_icmp .gt 19, 3) := by decide +kernel
theorem d_SS_seal_31 : decode prog_1_method_16_code 31 = .ok (.iload_n 3, 1) := by decide +kernel
theorem d_SS_seal_32 : decode prog_1_method_16_code 32 = .ok (.aload_n 0, 1) := by decide +kernel
theorem d_SS_seal_33 : decode prog_1_method_16_code 33 = .ok (.getfield 19, 3) := by decide +kernel
theorem d_SS_seal_36 : decode prog_1_method_16_code 36 = .ok (.getfield 128, 3) := by decide +kernel
theorem d_SS_seal_39 : decode prog_1_method_16_code 39 = .ok (.iload_n 1, 1) := by decide +kernel
theorem d_SS_seal_40 : decode prog_1_method_16_code 40 = .ok (.bipush 8, 2) := by decide +kernel
theorem d_SS_seal_42 : decode prog_1_method_16_code 42 = .ok (.idiv, 1) := by decide +kernel
theorem d_SS_seal_43 : decode prog_1_method_16_code 43 = .ok (.isub, 1) := by decide +kernel
theorem d_SS_seal_44 : decode prog_1_method_16_code 44 = .ok (.if_icmp .le 13, 3) := by decide +kernel
theorem d_SS_seal_47 : decode prog_1_method_16_code 47 = .ok (.new 96, 3) := by decide +kernel
theorem d_SS_seal_50 : decode prog_1_method_16_code 50 = .ok (.dup, 1) := by decide +kernel
theorem d_SS_seal_51 : decode prog_1_method_16_code 51 = .ok (.ldc 165, 2) := by decide +kernel
theorem d_SS_seal_53 : decode prog_1_method_16_code 53 = .ok (.invokespecial 100, 3) := by decide +kernel
theorem d_SS_seal_56 : decode prog_1_method_16_code 56 = .ok (.athrow, 1) := by decide +kernel
theorem d_SS_seal_57 : decode prog_1_method_16_code 57 = .ok (.aload_n 0, 1) := by decide +kernel
theorem d_SS_seal_58 : decode prog_1_method_16_code 58 = .ok (.getfield 19, 3) := by decide +kernel
theorem d_SS_seal_61 : decode prog_1_method_16_code 61 = .ok (.iload_n 1, 1) := by decide +kernel
theorem d_SS_seal_62 : decode prog_1_method_16_code 62 = .ok (.iload_n 2, 1) := by decide +kernel
theorem d_SS_seal_63 : decode prog_1_method_16_code 63 = .ok (.iload_n 3, 1) := by decide +kernel
theorem d_SS_seal_64 : decode prog_1_method_16_code 64 = .ok (.invokevirtual 167, 3) := by decide +kernel
theorem d_SS_seal_67 : decode prog_1_method_16_code 67 = .ok (.istore 4, 2) := by decide +kernel
theorem d_SS_seal_69 : decode prog_1_method_16_code 69 = .ok (.iload_n 1, 1) := by decide +kernel
theorem d_SS_seal_70 : decode prog_1_method_16_code 70 = .ok (.bipush 16, 2) := by decide +kernel
theorem d_SS_seal_72 : decode prog_1_method_16_code 72 = .ok (.if_icmp .ne 31, 3) := by decide +kernel
theorem d_SS_seal_75 : decode prog_1_method_16_code 75 = .ok (.aload_n 0, 1) := by decide +kernel
theorem d_SS_seal_76 : decode prog_1_method_16_code 76 = .ok (.getfield 19, 3) := by decide +kernel
theorem d_SS_seal_79 : decode prog_1_method_16_code 79 = .ok (.iload_n 3, 1) := by decide +kernel
theorem d_SS_seal_80 : decode prog_1_method_16_code 80 = .ok (.iload 4, 2) := by decide +kernel
theorem d_SS_seal_82 : decode prog_1_method_16_code 82 = .ok (.bipush 8, 2) := by decide +kernel
theorem d_SS_seal_84 : decode prog_1_method_16_code 84 = .ok (.ishr, 1) := by decide +kernel
theorem d_SS_seal_85 : decode prog_1_method_16_code 85 = .ok (.invokevirtual 160, 3) := by decide +kernel
theorem d_SS_seal_88 : decode prog_1_method_16_code 88 = .ok (.aload_n 0, 1) := by decide +kernel
theorem d_SS_seal_89 : decode prog_1_method_16_code 89 = .ok (.getfield 19, 3) := by decide +kernel
theorem d_SS_seal_92 : decode prog_1_method_16_code 92 = .ok (.iload_n 3, 1) := by decide +kernel
theorem d_SS_seal_93 : decode prog_1_method_16_code 93 = .ok (.iconst 1, 1) := by decide +kernel
theorem d_SS_seal_94 : decode prog_1_method_16_code 94 = .ok (.iadd, 1) := by decide +kernel
theorem d_SS_seal_95 : decode prog_1_method_16_code 95 = .ok (.iload 4, 2) := by decide +kernel
theorem d_SS_seal_97 : decode prog_1_method_16_code 97 = .ok (.invokevirtual 160, 3) := by decide +kernel
theorem d_SS_seal_100 : decode prog_1_method_16_code 100 = .ok (.goto 13, 3) := by decide +kernel
theorem d_SS_seal_103 : decode prog_1_method_16_code 103 = .ok (.aload_n 0, 1) := by decide +kernel
theorem d_SS_seal_104 : decode prog_1_method_16_code 104 = .ok (.getfield 19, 3) := by decide +kernel
theorem d_SS_seal_107 : decode prog_1_method_16_code 107 = .ok (.iload_n 3, 1) := by decide +kernel
theorem d_SS_seal_108 : decode prog_1_method_16_code 108 = .ok (.iload 4, 2) := by decide +kernel
theorem d_SS_seal_110 : decode prog_1_method_16_code 110 = .ok (.invokevirtual 160, 3) := by decide +kernel
theorem d_SS_seal_113 : decode prog_1_method_16_code 113 = .ok (.return_, 1) := by decide +kernel
theorem d_SS_decode_0 : decode prog_1_method_17_code 0 = .ok (.aload_n 0, 1) := by decide +kernel
theorem d_SS_decode_1 : decode prog_1_method_17_code 1 = .ok (.getfield 44, 3) := by decide +kernel
theorem d_SS_decode_4 : decode prog_1_method_17_code 4 = .ok (.invokevirtual 171, 3) := by decide +kernel
theorem d_SS_decode_7 : decode prog_1_method_17_code 7 = .ok (.aload_n 0, 1) := by decide +kernel
theorem d_SS_decode_8 : decode prog_1_method_17_code 8 = .ok (.getfield 44, 3) := by decide +kernel
theorem d_SS_decode_11 : decode prog_1_method_17_code 11 = .ok (.invokevirtual 174, 3) := by decide +kernel
theorem d_SS_decode_14 : decode prog_1_method_17_code 14 = .ok (.iconst 0, 1) := by decide +kernel
theorem d_SS_decode_15 : decode prog_1_method_17_code 15 = .ok (.istore_n 1, 1) := by decide +kernel
theorem d_SS_decode_16 : decode prog_1_method_17_code 16 = .ok (.iload_n 1, 1) := by decide +kernel
theorem d_SS_decode_17 : decode prog_1_method_17_code 17 = .ok (.sipush 9000, 3) := by decide +kernel
theorem d_SS_decode_20 : decode prog_1_method_17_code 20 = .ok (.if_icmp .ge 26, 3) := by decide +kernel
theorem d_SS_decode_23 : decode prog_1_method_17_code 23 = .ok (.aload_n 0, 1) := by decide +kernel
theorem d_SS_decode_24 : decode prog_1_method_17_code 24 = .ok (.getfield 44, 3) := by decide +kernel
theorem d_SS_decode_27 : decode prog_1_method_17_code 27 = .ok (.invokevirtual 177, 3) := by decide +kernel
theorem d_SS_decode_30 : decode prog_1_method_17_code 30 = .ok (.ifCond .eq 16, 3) := by decide +kernel
theorem d_SS_decode_33 : decode prog_1_method_17_code 33 = .ok (.aload_n 0, 1) := by decide +kernel
theorem d_SS_decode_34 : decode prog_1_method_17_code 34 = .ok (.getfield 44, 3) := by decide +kernel
theorem d_SS_decode_37 : decode prog_1_method_17_code 37 = .ok (.invokevirtual 180, 3) := by decide +kernel
theorem d_SS_decode_40 : decode prog_1_method_17_code 40 = .ok (.iinc 1 1, 3) := by decide +kernel
theorem d_SS_decode_43 : decode prog_1_method_17_code 43 = .ok (.goto (-27), 3) := by decide +kernel
theorem d_SS_decode_46 : decode prog_1_method_17_code 46 = .ok (.aload_n 0, 1) := by decide +kernel
theorem d_SS_decode_47 : decode prog_1_method_17_code 47 = .ok (.getfield 44, 3) := by decide +kernel
theorem d_SS_decode_50 : decode prog_1_method_17_code 50 = .ok (.invokevirtual 183, 3) := by decide +kernel
theorem d_SS_decode_53 : decode prog_1_method_17_code 53 = .ok (.goto 13, 3) := by decide +kernel
theorem d_SS_decode_56 : decode prog_1_method_17_code 56 = .ok (.astore_n 1, 1) := by decide +kernel
theorem d_SS_decode_57 : decode prog_1_method_17_code 57 = .ok (.aload_n 0, 1) := by decide +kernel
theorem d_SS_decode_58 : decode prog_1_method_17_code 58 = .ok (.getfield 44, 3) := by decide +kernel
theorem d_SS_decode_61 : decode prog_1_method_17_code 61 = .ok (.invokevirtual 186, 3) := by decide +kernel
theorem d_SS_decode_64 : decode prog_1_method_17_code 64 = .ok (.iconst (-1), 1) := by decide +kernel
theorem d_SS_decode_65 : decode prog_1_method_17_code 65 = .ok (.ireturn, 1) := by decide +kernel
theorem d_SS_decode_66 : decode prog_1_method_17_code 66 = .ok (.aload_n 0, 1) := by decide +kernel
theorem d_SS_decode_67 : decode prog_1_method_17_code 67 = .ok (.getfield 44, 3) := by decide +kernel
theorem d_SS_decode_70 : decode prog_1_method_17_code 70 = .ok (.getfield 189, 3) := by decide +kernel
theorem d_SS_decode_73 : decode prog_1_method_17_code 73 = .ok (.getfield 83, 3) := by decide +kernel
theorem d_SS_decode_76 : decode prog_1_method_17_code 76 = .ok (.iconst 0, 1) := by decide +kernel
theorem d_SS_decode_77 : decode prog_1_method_17_code 77 = .ok (.iaload, 1) := by decide +kernel
theorem d_SS_decode_78 : decode prog_1_method_17_code 78 = .ok (.ireturn, 1) := by decide +kernel
theorem d_SS_fault_0 : decode prog_1_method_18_code 0 = .ok (.aload_n 0, 1) := by decide +kernel
theorem d_SS_fault_1 : decode prog_1_method_18_code 1 = .ok (.getfield 44, 3) := by decide +kernel
theorem d_SS_fault_4 : decode prog_1_method_18_code 4 = .ok (.getfield 192, 3) := by decide +kernel
theorem d_SS_fault_7 : decode prog_1_method_18_code 7 = .ok (.getfield 196, 3) := by decide +kernel
theorem d_SS_fault_10 : decode prog_1_method_18_code 10 = .ok (.ireturn, 1) := by decide +kernel
theorem d_SS_place_0 : decode prog_1_method_19_code 0 = .ok (.aload_n 0, 1) := by decide +kernel
theorem d_SS_place_1 : decode prog_1_method_19_code 1 = .ok (.getfield 44, 3) := by decide +kernel
theorem d_SS_place_4 : decode prog_1_method_19_code 4 = .ok (.getfield 192, 3) := by decide +kernel
theorem d_SS_place_7 : decode prog_1_method_19_code 7 = .ok (.getfield 196, 3) := by decide +kernel
theorem d_SS_place_10 : decode prog_1_method_19_code 10 = .ok (.ifCond .ne 7, 3) := by decide +kernel
theorem d_SS_place_13 : decode prog_1_method_19_code 13 = .ok (.iconst (-1), 1) := by decide +kernel
theorem d_SS_place_14 : decode prog_1_method_19_code 14 = .ok (.goto 13, 3) := by decide +kernel
theorem d_SS_place_17 : decode prog_1_method_19_code 17 = .ok (.aload_n 0, 1) := by decide +kernel
theorem d_SS_place_18 : decode prog_1_method_19_code 18 = .ok (.getfield 44, 3) := by decide +kernel
theorem d_SS_place_21 : decode prog_1_method_19_code 21 = .ok (.getfield 192, 3) := by decide +kernel
theorem d_SS_place_24 : decode prog_1_method_19_code 24 = .ok (.getfield 201, 3) := by decide +kernel
theorem d_SS_place_27 : decode prog_1_method_19_code 27 = .ok (.ireturn, 1) := by decide +kernel
theorem d_SS_heard_0 : decode prog_1_method_20_code 0 = .ok (.iload_n 1, 1) := by decide +kernel
theorem d_SS_heard_1 : decode prog_1_method_20_code 1 = .ok (.ifCond .eq 18, 3) := by decide +kernel
theorem d_SS_heard_4 : decode prog_1_method_20_code 4 = .ok (.iload_n 1, 1) := by decide +kernel
theorem d_SS_heard_5 : decode prog_1_method_20_code 5 = .ok (.iconst 1, 1) := by decide +kernel
theorem d_SS_heard_6 : decode prog_1_method_20_code 6 = .ok (.if_icmp .eq 13, 3) := by decide +kernel
theorem d_SS_heard_9 : decode prog_1_method_20_code 9 = .ok (.new 48, 3) := by decide +kernel
theorem d_SS_heard_12 : decode prog_1_method_20_code 12 = .ok (.dup, 1) := by decide +kernel
theorem d_SS_heard_13 : decode prog_1_method_20_code 13 = .ok (.ldc 204, 2) := by decide +kernel
theorem d_SS_heard_15 : decode prog_1_method_20_code 15 = .ok (.invokespecial 52, 3) := by decide +kernel
theorem d_SS_heard_18 : decode prog_1_method_20_code 18 = .ok (.athrow, 1) := by decide +kernel
theorem d_SS_heard_19 : decode prog_1_method_20_code 19 = .ok (.aload_n 0, 1) := by decide +kernel
theorem d_SS_heard_20 : decode prog_1_method_20_code 20 = .ok (.getfield 44, 3) := by decide +kernel
theorem d_SS_heard_23 : decode prog_1_method_20_code 23 = .ok (.getfield 189, 3) := by decide +kernel
theorem d_SS_heard_26 : decode prog_1_method_20_code 26 = .ok (.iload_n 1, 1) := by decide +kernel
theorem d_SS_heard_27 : decode prog_1_method_20_code 27 = .ok (.iload_n 2, 1) := by decide +kernel
theorem d_SS_heard_28 : decode prog_1_method_20_code 28 = .ok (.invokevirtual 92, 3) := by decide +kernel
theorem d_SS_heard_31 : decode prog_1_method_20_code 31 = .ok (.ifCond .ne 13, 3) := by decide +kernel
theorem d_SS_heard_34 : decode prog_1_method_20_code 34 = .ok (.new 96, 3) := by decide +kernel
theorem d_SS_heard_37 : decode prog_1_method_20_code 37 = .ok (.dup, 1) := by decide +kernel
theorem d_SS_heard_38 : decode prog_1_method_20_code 38 = .ok (.ldc 98, 2) := by decide +kernel
theorem d_SS_heard_40 : decode prog_1_method_20_code 40 = .ok (.invokespecial 100, 3) := by decide +kernel
theorem d_SS_heard_43 : decode prog_1_method_20_code 43 = .ok (.athrow, 1) := by decide +kernel
theorem d_SS_heard_44 : decode prog_1_method_20_code 44 = .ok (.aload_n 0, 1) := by decide +kernel
theorem d_SS_heard_45 : decode prog_1_method_20_code 45 = .ok (.getfield 44, 3) := by decide +kernel
theorem d_SS_heard_48 : decode prog_1_method_20_code 48 = .ok (.getfield 189, 3) := by decide +kernel
theorem d_SS_heard_51 : decode prog_1_method_20_code 51 = .ok (.getfield 101, 3) := by decide +kernel
theorem d_SS_heard_54 : decode prog_1_method_20_code 54 = .ok (.iload_n 1, 1) := by decide +kernel
theorem d_SS_heard_55 : decode prog_1_method_20_code 55 = .ok (.aaload, 1) := by decide +kernel
theorem d_SS_heard_56 : decode prog_1_method_20_code 56 = .ok (.iload_n 2, 1) := by decide +kernel
theorem d_SS_heard_57 : decode prog_1_method_20_code 57 = .ok (.iaload, 1) := by decide +kernel
theorem d_SS_heard_58 : decode prog_1_method_20_code 58 = .ok (.ireturn, 1) := by decide +kernel
theorem d_SS_bytesOfNumber_0 : decode prog_1_method_21_code 0 = .ok (.iload_n 0, 1) := by decide +kernel
theorem d_SS_bytesOfNumber_1 : decode prog_1_method_21_code 1 = .ok (.sipush 128, 3) := by decide +kernel
theorem d_SS_bytesOfNumber_4 : decode prog_1_method_21_code 4 = .ok (.if_icmp .ge 7, 3) := by decide +kernel
theorem d_SS_bytesOfNumber_7 : decode prog_1_method_21_code 7 = .ok (.iconst 1, 1) := by decide +kernel
theorem d_SS_bytesOfNumber_8 : decode prog_1_method_21_code 8 = .ok (.goto 4, 3) := by decide +kernel
theorem d_SS_bytesOfNumber_11 : decode prog_1_method_21_code 11 = .ok (.iconst 2, 1) := by decide +kernel
theorem d_SS_bytesOfNumber_12 : decode prog_1_method_21_code 12 = .ok (.ireturn, 1) := by decide +kernel
theorem d_SS_byteOfNumber_0 : decode prog_1_method_22_code 0 = .ok (.iload_n 0, 1) := by decide +kernel
theorem d_SS_byteOfNumber_1 : decode prog_1_method_22_code 1 = .ok (.sipush 128, 3) := by decide +kernel
theorem d_SS_byteOfNumber_4 : decode prog_1_method_22_code 4 = .ok (.if_icmp .ge 5, 3) := by decide +kernel
theorem d_SS_byteOfNumber_7 : decode prog_1_method_22_code 7 = .ok (.iload_n 0, 1) := by decide +kernel
theorem d_SS_byteOfNumber_8 : decode prog_1_method_22_code 8 = .ok (.ireturn, 1) := by decide +kernel
theorem d_SS_byteOfNumber_9 : decode prog_1_method_22_code 9 = .ok (.iload_n 1, 1) := by decide +kernel
theorem d_SS_byteOfNumber_10 : decode prog_1_method_22_code 10 = .ok (.ifCond .ne 14, 3) := by decide +kernel
theorem d_SS_byteOfNumber_13 : decode prog_1_method_22_code 13 = .ok (.sipush 192, 3) := by decide +kernel
theorem d_SS_byteOfNumber_16 : decode prog_1_method_22_code 16 = .ok (.iload_n 0, 1) := by decide +kernel
theorem d_SS_byteOfNumber_17 : decode prog_1_method_22_code 17 = .ok (.bipush 6, 2) := by decide +kernel
theorem d_SS_byteOfNumber_19 : decode prog_1_method_22_code 19 = .ok (.ishr, 1) := by decide +kernel
theorem d_SS_byteOfNumber_20 : decode prog_1_method_22_code 20 = .ok (.ior, 1) := by decide +kernel
theorem d_SS_byteOfNumber_21 : decode prog_1_method_22_code 21 = .ok (.goto 11, 3) := by decide +kernel
theorem d_SS_byteOfNumber_24 : decode prog_1_method_22_code 24 = .ok (.sipush 128, 3) := by decide +kernel
theorem d_SS_byteOfNumber_27 : decode prog_1_method_22_code 27 = .ok (.iload_n 0, 1) := by decide +kernel
theorem d_SS_byteOfNumber_28 : decode prog_1_method_22_code 28 = .ok (.bipush 63, 2) := by decide +kernel
theorem d_SS_byteOfNumber_30 : decode prog_1_method_22_code 30 = .ok (.iand, 1) := by decide +kernel
theorem d_SS_byteOfNumber_31 : decode prog_1_method_22_code 31 = .ok (.ior, 1) := by decide +kernel
theorem d_SS_byteOfNumber_32 : decode prog_1_method_22_code 32 = .ok (.ireturn, 1) := by decide +kernel
