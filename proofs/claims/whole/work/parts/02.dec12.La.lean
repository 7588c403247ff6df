/-! decode rows of SoundStreamLaw, by program -/
theorem d_La_form_0 : decode method_3_code 0 = .ok (.aload_n 0, 1) := by decide +kernel
theorem d_La_form_1 : decode method_3_code 1 = .ok (.iload_n 1, 1) := by decide +kernel
theorem d_La_form_2 : decode method_3_code 2 = .ok (.iload_n 2, 1) := by decide +kernel
theorem d_La_form_3 : decode method_3_code 3 = .ok (.iload_n 3, 1) := by decide +kernel
theorem d_La_form_4 : decode method_3_code 4 = .ok (.iload 4, 2) := by decide +kernel
theorem d_La_form_6 : decode method_3_code 6 = .ok (.invokevirtual 7, 3) := by decide +kernel
theorem d_La_form_9 : decode method_3_code 9 = .ok (.goto 7, 3) := by decide +kernel
theorem d_La_form_12 : decode method_3_code 12 = .ok (.astore 5, 2) := by decide +kernel
theorem d_La_form_14 : decode method_3_code 14 = .ok (.iconst 1, 1) := by decide +kernel
theorem d_La_form_15 : decode method_3_code 15 = .ok (.ireturn, 1) := by decide +kernel
theorem d_La_form_16 : decode method_3_code 16 = .ok (.iconst 0, 1) := by decide +kernel
theorem d_La_form_17 : decode method_3_code 17 = .ok (.ireturn, 1) := by decide +kernel
theorem d_La_sample_0 : decode method_4_code 0 = .ok (.aload_n 3, 1) := by decide +kernel
theorem d_La_sample_1 : decode method_4_code 1 = .ok (.iconst 0, 1) := by decide +kernel
theorem d_La_sample_2 : decode method_4_code 2 = .ok (.aload_n 0, 1) := by decide +kernel
theorem d_La_sample_3 : decode method_4_code 3 = .ok (.iload_n 1, 1) := by decide +kernel
theorem d_La_sample_4 : decode method_4_code 4 = .ok (.iload_n 2, 1) := by decide +kernel
theorem d_La_sample_5 : decode method_4_code 5 = .ok (.invokevirtual 15, 3) := by decide +kernel
theorem d_La_sample_8 : decode method_4_code 8 = .ok (.i2l, 1) := by decide +kernel
theorem d_La_sample_9 : decode method_4_code 9 = .ok (.lastore, 1) := by decide +kernel
theorem d_La_sample_10 : decode method_4_code 10 = .ok (.goto 7, 3) := by decide +kernel
theorem d_La_sample_13 : decode method_4_code 13 = .ok (.astore 4, 2) := by decide +kernel
theorem d_La_sample_15 : decode method_4_code 15 = .ok (.iconst 1, 1) := by decide +kernel
theorem d_La_sample_16 : decode method_4_code 16 = .ok (.ireturn, 1) := by decide +kernel
theorem d_La_sample_17 : decode method_4_code 17 = .ok (.iconst 0, 1) := by decide +kernel
theorem d_La_sample_18 : decode method_4_code 18 = .ok (.ireturn, 1) := by decide +kernel
theorem d_La_ramp_0 : decode method_5_code 0 = .ok (.aload 5, 2) := by decide +kernel
theorem d_La_ramp_2 : decode method_5_code 2 = .ok (.iconst 0, 1) := by decide +kernel
theorem d_La_ramp_3 : decode method_5_code 3 = .ok (.aload_n 0, 1) := by decide +kernel
theorem d_La_ramp_4 : decode method_5_code 4 = .ok (.iload_n 1, 1) := by decide +kernel
theorem d_La_ramp_5 : decode method_5_code 5 = .ok (.iload_n 2, 1) := by decide +kernel
theorem d_La_ramp_6 : decode method_5_code 6 = .ok (.iload_n 3, 1) := by decide +kernel
theorem d_La_ramp_7 : decode method_5_code 7 = .ok (.iload 4, 2) := by decide +kernel
theorem d_La_ramp_9 : decode method_5_code 9 = .ok (.invokevirtual 19, 3) := by decide +kernel
theorem d_La_ramp_12 : decode method_5_code 12 = .ok (.i2l, 1) := by decide +kernel
theorem d_La_ramp_13 : decode method_5_code 13 = .ok (.lastore, 1) := by decide +kernel
theorem d_La_ramp_14 : decode method_5_code 14 = .ok (.goto 7, 3) := by decide +kernel
theorem d_La_ramp_17 : decode method_5_code 17 = .ok (.astore 6, 2) := by decide +kernel
theorem d_La_ramp_19 : decode method_5_code 19 = .ok (.iconst 1, 1) := by decide +kernel
theorem d_La_ramp_20 : decode method_5_code 20 = .ok (.ireturn, 1) := by decide +kernel
theorem d_La_ramp_21 : decode method_5_code 21 = .ok (.iconst 0, 1) := by decide +kernel
theorem d_La_ramp_22 : decode method_5_code 22 = .ok (.ireturn, 1) := by decide +kernel
theorem d_La_noise_0 : decode method_6_code 0 = .ok (.aload 5, 2) := by decide +kernel
theorem d_La_noise_2 : decode method_6_code 2 = .ok (.iconst 0, 1) := by decide +kernel
theorem d_La_noise_3 : decode method_6_code 3 = .ok (.aload_n 0, 1) := by decide +kernel
theorem d_La_noise_4 : decode method_6_code 4 = .ok (.iload_n 1, 1) := by decide +kernel
theorem d_La_noise_5 : decode method_6_code 5 = .ok (.iload_n 2, 1) := by decide +kernel
theorem d_La_noise_6 : decode method_6_code 6 = .ok (.iload_n 3, 1) := by decide +kernel
theorem d_La_noise_7 : decode method_6_code 7 = .ok (.iload 4, 2) := by decide +kernel
theorem d_La_noise_9 : decode method_6_code 9 = .ok (.invokevirtual 23, 3) := by decide +kernel
theorem d_La_noise_12 : decode method_6_code 12 = .ok (.i2l, 1) := by decide +kernel
theorem d_La_noise_13 : decode method_6_code 13 = .ok (.lastore, 1) := by decide +kernel
theorem d_La_noise_14 : decode method_6_code 14 = .ok (.goto 7, 3) := by decide +kernel
theorem d_La_noise_17 : decode method_6_code 17 = .ok (.astore 6, 2) := by decide +kernel
theorem d_La_noise_19 : decode method_6_code 19 = .ok (.iconst 1, 1) := by decide +kernel
theorem d_La_noise_20 : decode method_6_code 20 = .ok (.ireturn, 1) := by decide +kernel
theorem d_La_noise_21 : decode method_6_code 21 = .ok (.iconst 0, 1) := by decide +kernel
theorem d_La_noise_22 : decode method_6_code 22 = .ok (.ireturn, 1) := by decide +kernel
theorem d_La_at_0 : decode method_7_code 0 = .ok (.aload_n 3, 1) := by decide +kernel
theorem d_La_at_1 : decode method_7_code 1 = .ok (.iconst 0, 1) := by decide +kernel
theorem d_La_at_2 : decode method_7_code 2 = .ok (.aload_n 0, 1) := by decide +kernel
theorem d_La_at_3 : decode method_7_code 3 = .ok (.iload_n 1, 1) := by decide +kernel
theorem d_La_at_4 : decode method_7_code 4 = .ok (.iload_n 2, 1) := by decide +kernel
theorem d_La_at_5 : decode method_7_code 5 = .ok (.invokevirtual 26, 3) := by decide +kernel
theorem d_La_at_8 : decode method_7_code 8 = .ok (.i2l, 1) := by decide +kernel
theorem d_La_at_9 : decode method_7_code 9 = .ok (.lastore, 1) := by decide +kernel
theorem d_La_at_10 : decode method_7_code 10 = .ok (.goto 11, 3) := by decide +kernel
theorem d_La_at_13 : decode method_7_code 13 = .ok (.astore 4, 2) := by decide +kernel
theorem d_La_at_15 : decode method_7_code 15 = .ok (.iconst 1, 1) := by decide +kernel
theorem d_La_at_16 : decode method_7_code 16 = .ok (.ireturn, 1) := by decide +kernel
theorem d_La_at_17 : decode method_7_code 17 = .ok (.astore 4, 2) := by decide +kernel
theorem d_La_at_19 : decode method_7_code 19 = .ok (.iconst 2, 1) := by decide +kernel
theorem d_La_at_20 : decode method_7_code 20 = .ok (.ireturn, 1) := by decide +kernel
theorem d_La_at_21 : decode method_7_code 21 = .ok (.iconst 0, 1) := by decide +kernel
theorem d_La_at_22 : decode method_7_code 22 = .ok (.ireturn, 1) := by decide +kernel
theorem d_La_sum_0 : decode method_8_code 0 = .ok (.aload_n 2, 1) := by decide +kernel
theorem d_La_sum_1 : decode method_8_code 1 = .ok (.iconst 0, 1) := by decide +kernel
theorem d_La_sum_2 : decode method_8_code 2 = .ok (.aload_n 0, 1) := by decide +kernel
theorem d_La_sum_3 : decode method_8_code 3 = .ok (.iload_n 1, 1) := by decide +kernel
theorem d_La_sum_4 : decode method_8_code 4 = .ok (.invokevirtual 31, 3) := by decide +kernel
theorem d_La_sum_7 : decode method_8_code 7 = .ok (.lastore, 1) := by decide +kernel
theorem d_La_sum_8 : decode method_8_code 8 = .ok (.goto 9, 3) := by decide +kernel
theorem d_La_sum_11 : decode method_8_code 11 = .ok (.astore_n 3, 1) := by decide +kernel
theorem d_La_sum_12 : decode method_8_code 12 = .ok (.iconst 1, 1) := by decide +kernel
theorem d_La_sum_13 : decode method_8_code 13 = .ok (.ireturn, 1) := by decide +kernel
theorem d_La_sum_14 : decode method_8_code 14 = .ok (.astore_n 3, 1) := by decide +kernel
theorem d_La_sum_15 : decode method_8_code 15 = .ok (.iconst 2, 1) := by decide +kernel
theorem d_La_sum_16 : decode method_8_code 16 = .ok (.ireturn, 1) := by decide +kernel
theorem d_La_sum_17 : decode method_8_code 17 = .ok (.iconst 0, 1) := by decide +kernel
theorem d_La_sum_18 : decode method_8_code 18 = .ok (.ireturn, 1) := by decide +kernel
theorem d_La_encode_0 : decode method_9_code 0 = .ok (.aload_n 2, 1) := by decide +kernel
theorem d_La_encode_1 : decode method_9_code 1 = .ok (.iconst 0, 1) := by decide +kernel
theorem d_La_encode_2 : decode method_9_code 2 = .ok (.aload_n 0, 1) := by decide +kernel
theorem d_La_encode_3 : decode method_9_code 3 = .ok (.iload_n 1, 1) := by decide +kernel
theorem d_La_encode_4 : decode method_9_code 4 = .ok (.invokevirtual 37, 3) := by decide +kernel
theorem d_La_encode_7 : decode method_9_code 7 = .ok (.i2l, 1) := by decide +kernel
theorem d_La_encode_8 : decode method_9_code 8 = .ok (.lastore, 1) := by decide +kernel
theorem d_La_encode_9 : decode method_9_code 9 = .ok (.goto 6, 3) := by decide +kernel
theorem d_La_encode_12 : decode method_9_code 12 = .ok (.astore_n 3, 1) := by decide +kernel
theorem d_La_encode_13 : decode method_9_code 13 = .ok (.iconst 1, 1) := by decide +kernel
theorem d_La_encode_14 : decode method_9_code 14 = .ok (.ireturn, 1) := by decide +kernel
theorem d_La_encode_15 : decode method_9_code 15 = .ok (.iconst 0, 1) := by decide +kernel
theorem d_La_encode_16 : decode method_9_code 16 = .ok (.ireturn, 1) := by decide +kernel
theorem d_La_told_0 : decode method_10_code 0 = .ok (.aload_n 2, 1) := by decide +kernel
theorem d_La_told_1 : decode method_10_code 1 = .ok (.iconst 0, 1) := by decide +kernel
theorem d_La_told_2 : decode method_10_code 2 = .ok (.aload_n 0, 1) := by decide +kernel
theorem d_La_told_3 : decode method_10_code 3 = .ok (.iload_n 1, 1) := by decide +kernel
theorem d_La_told_4 : decode method_10_code 4 = .ok (.invokevirtual 41, 3) := by decide +kernel
theorem d_La_told_7 : decode method_10_code 7 = .ok (.i2l, 1) := by decide +kernel
theorem d_La_told_8 : decode method_10_code 8 = .ok (.lastore, 1) := by decide +kernel
theorem d_La_told_9 : decode method_10_code 9 = .ok (.goto 6, 3) := by decide +kernel
theorem d_La_told_12 : decode method_10_code 12 = .ok (.astore_n 3, 1) := by decide +kernel
theorem d_La_told_13 : decode method_10_code 13 = .ok (.iconst 1, 1) := by decide +kernel
theorem d_La_told_14 : decode method_10_code 14 = .ok (.ireturn, 1) := by decide +kernel
theorem d_La_told_15 : decode method_10_code 15 = .ok (.iconst 0, 1) := by decide +kernel
theorem d_La_told_16 : decode method_10_code 16 = .ok (.ireturn, 1) := by decide +kernel
theorem d_La_frame_0 : decode method_11_code 0 = .ok (.aload_n 3, 1) := by decide +kernel
theorem d_La_frame_1 : decode method_11_code 1 = .ok (.iconst 0, 1) := by decide +kernel
theorem d_La_frame_2 : decode method_11_code 2 = .ok (.aload_n 0, 1) := by decide +kernel
theorem d_La_frame_3 : decode method_11_code 3 = .ok (.iload_n 1, 1) := by decide +kernel
theorem d_La_frame_4 : decode method_11_code 4 = .ok (.iload_n 2, 1) := by decide +kernel
theorem d_La_frame_5 : decode method_11_code 5 = .ok (.invokevirtual 45, 3) := by decide +kernel
theorem d_La_frame_8 : decode method_11_code 8 = .ok (.i2l, 1) := by decide +kernel
theorem d_La_frame_9 : decode method_11_code 9 = .ok (.lastore, 1) := by decide +kernel
theorem d_La_frame_10 : decode method_11_code 10 = .ok (.goto 11, 3) := by decide +kernel
theorem d_La_frame_13 : decode method_11_code 13 = .ok (.astore 4, 2) := by decide +kernel
theorem d_La_frame_15 : decode method_11_code 15 = .ok (.iconst 1, 1) := by decide +kernel
theorem d_La_frame_16 : decode method_11_code 16 = .ok (.ireturn, 1) := by decide +kernel
theorem d_La_frame_17 : decode method_11_code 17 = .ok (.astore 4, 2) := by decide +kernel
theorem d_La_frame_19 : decode method_11_code 19 = .ok (.iconst 2, 1) := by decide +kernel
theorem d_La_frame_20 : decode method_11_code 20 = .ok (.ireturn, 1) := by decide +kernel
theorem d_La_frame_21 : decode method_11_code 21 = .ok (.iconst 0, 1) := by decide +kernel
theorem d_La_frame_22 : decode method_11_code 22 = .ok (.ireturn, 1) := by decide +kernel
theorem d_La_feed_0 : decode method_12_code 0 = .ok (.aload 4, 2) := by decide +kernel
theorem d_La_feed_2 : decode method_12_code 2 = .ok (.iconst 0, 1) := by decide +kernel
theorem d_La_feed_3 : decode method_12_code 3 = .ok (.aload_n 0, 1) := by decide +kernel
theorem d_La_feed_4 : decode method_12_code 4 = .ok (.iload_n 1, 1) := by decide +kernel
theorem d_La_feed_5 : decode method_12_code 5 = .ok (.lload_n 2, 1) := by decide +kernel
theorem d_La_feed_6 : decode method_12_code 6 = .ok (.invokevirtual 48, 3) := by decide +kernel
theorem d_La_feed_9 : decode method_12_code 9 = .ok (.i2l, 1) := by decide +kernel
theorem d_La_feed_10 : decode method_12_code 10 = .ok (.lastore, 1) := by decide +kernel
theorem d_La_feed_11 : decode method_12_code 11 = .ok (.goto 7, 3) := by decide +kernel
theorem d_La_feed_14 : decode method_12_code 14 = .ok (.astore 5, 2) := by decide +kernel
theorem d_La_feed_16 : decode method_12_code 16 = .ok (.iconst 1, 1) := by decide +kernel
theorem d_La_feed_17 : decode method_12_code 17 = .ok (.ireturn, 1) := by decide +kernel
theorem d_La_feed_18 : decode method_12_code 18 = .ok (.iconst 0, 1) := by decide +kernel
theorem d_La_feed_19 : decode method_12_code 19 = .ok (.ireturn, 1) := by decide +kernel
theorem d_La_cut_0 : decode method_13_code 0 = .ok (.aload_n 2, 1) := by decide +kernel
theorem d_La_cut_1 : decode method_13_code 1 = .ok (.iconst 0, 1) := by decide +kernel
theorem d_La_cut_2 : decode method_13_code 2 = .ok (.aload_n 0, 1) := by decide +kernel
theorem d_La_cut_3 : decode method_13_code 3 = .ok (.iload_n 1, 1) := by decide +kernel
theorem d_La_cut_4 : decode method_13_code 4 = .ok (.invokevirtual 52, 3) := by decide +kernel
theorem d_La_cut_7 : decode method_13_code 7 = .ok (.i2l, 1) := by decide +kernel
theorem d_La_cut_8 : decode method_13_code 8 = .ok (.lastore, 1) := by decide +kernel
theorem d_La_cut_9 : decode method_13_code 9 = .ok (.goto 6, 3) := by decide +kernel
theorem d_La_cut_12 : decode method_13_code 12 = .ok (.astore_n 3, 1) := by decide +kernel
theorem d_La_cut_13 : decode method_13_code 13 = .ok (.iconst 1, 1) := by decide +kernel
theorem d_La_cut_14 : decode method_13_code 14 = .ok (.ireturn, 1) := by decide +kernel
theorem d_La_cut_15 : decode method_13_code 15 = .ok (.iconst 0, 1) := by decide +kernel
theorem d_La_cut_16 : decode method_13_code 16 = .ok (.ireturn, 1) := by decide +kernel
theorem d_La_spoil_0 : decode method_14_code 0 = .ok (.aload_n 3, 1) := by decide +kernel
theorem d_La_spoil_1 : decode method_14_code 1 = .ok (.iconst 0, 1) := by decide +kernel
theorem d_La_spoil_2 : decode method_14_code 2 = .ok (.aload_n 0, 1) := by decide +kernel
theorem d_La_spoil_3 : decode method_14_code 3 = .ok (.iload_n 1, 1) := by decide +kernel
theorem d_La_spoil_4 : decode method_14_code 4 = .ok (.iload_n 2, 1) := by decide +kernel
theorem d_La_spoil_5 : decode method_14_code 5 = .ok (.invokevirtual 55, 3) := by decide +kernel
theorem d_La_spoil_8 : decode method_14_code 8 = .ok (.i2l, 1) := by decide +kernel
theorem d_La_spoil_9 : decode method_14_code 9 = .ok (.lastore, 1) := by decide +kernel
theorem d_La_spoil_10 : decode method_14_code 10 = .ok (.goto 11, 3) := by decide +kernel
theorem d_La_spoil_13 : decode method_14_code 13 = .ok (.astore 4, 2) := by decide +kernel
theorem d_La_spoil_15 : decode method_14_code 15 = .ok (.iconst 1, 1) := by decide +kernel
theorem d_La_spoil_16 : decode method_14_code 16 = .ok (.ireturn, 1) := by decide +kernel
theorem d_La_spoil_17 : decode method_14_code 17 = .ok (.astore 4, 2) := by decide +kernel
theorem d_La_spoil_19 : decode method_14_code 19 = .ok (.iconst 2, 1) := by decide +kernel
theorem d_La_spoil_20 : decode method_14_code 20 = .ok (.ireturn, 1) := by decide +kernel
theorem d_La_spoil_21 : decode method_14_code 21 = .ok (.iconst 0, 1) := by decide +kernel
theorem d_La_spoil_22 : decode method_14_code 22 = .ok (.ireturn, 1) := by decide +kernel
theorem d_La_seal_0 : decode method_15_code 0 = .ok (.aload_n 0, 1) := by decide +kernel
theorem d_La_seal_1 : decode method_15_code 1 = .ok (.iload_n 1, 1) := by decide +kernel
theorem d_La_seal_2 : decode method_15_code 2 = .ok (.iload_n 2, 1) := by decide +kernel
theorem d_La_seal_3 : decode method_15_code 3 = .ok (.iload_n 3, 1) := by decide +kernel
theorem d_La_seal_4 : decode method_15_code 4 = .ok (.invokevirtual 58, 3) := by decide +kernel
theorem d_La_seal_7 : decode method_15_code 7 = .ok (.goto 11, 3) := by decide +kernel
theorem d_La_seal_10 : decode method_15_code 10 = .ok (.astore 4, 2) := by decide +kernel
theorem d_La_seal_12 : decode method_15_code 12 = .ok (.iconst 1, 1) := by decide +kernel
theorem d_La_seal_13 : decode method_15_code 13 = .ok (.ireturn, 1) := by decide +kernel
theorem d_La_seal_14 : decode method_15_code 14 = .ok (.astore 4, 2) := by decide +kernel
theorem d_La_seal_16 : decode method_15_code 16 = .ok (.iconst 2, 1) := by decide +kernel
theorem d_La_seal_17 : decode method_15_code 17 = .ok (.ireturn, 1) := by decide +kernel
theorem d_La_seal_18 : decode method_15_code 18 = .ok (.iconst 0, 1) := by decide +kernel
theorem d_La_seal_19 : decode method_15_code 19 = .ok (.ireturn, 1) := by decide +kernel
theorem d_La_heard_0 : decode method_16_code 0 = .ok (.aload_n 3, 1) := by decide +kernel
theorem d_La_heard_1 : decode method_16_code 1 = .ok (.iconst 0, 1) := by decide +kernel
theorem d_La_heard_2 : decode method_16_code 2 = .ok (.aload_n 0, 1) := by decide +kernel
theorem d_La_heard_3 : decode method_16_code 3 = .ok (.iload_n 1, 1) := by decide +kernel
theorem d_La_heard_4 : decode method_16_code 4 = .ok (.iload_n 2, 1) := by decide +kernel
theorem d_La_heard_5 : decode method_16_code 5 = .ok (.invokevirtual 62, 3) := by decide +kernel
theorem d_La_heard_8 : decode method_16_code 8 = .ok (.i2l, 1) := by decide +kernel
theorem d_La_heard_9 : decode method_16_code 9 = .ok (.lastore, 1) := by decide +kernel
theorem d_La_heard_10 : decode method_16_code 10 = .ok (.goto 11, 3) := by decide +kernel
theorem d_La_heard_13 : decode method_16_code 13 = .ok (.astore 4, 2) := by decide +kernel
theorem d_La_heard_15 : decode method_16_code 15 = .ok (.iconst 1, 1) := by decide +kernel
theorem d_La_heard_16 : decode method_16_code 16 = .ok (.ireturn, 1) := by decide +kernel
theorem d_La_heard_17 : decode method_16_code 17 = .ok (.astore 4, 2) := by decide +kernel
theorem d_La_heard_19 : decode method_16_code 19 = .ok (.iconst 2, 1) := by decide +kernel
theorem d_La_heard_20 : decode method_16_code 20 = .ok (.ireturn, 1) := by decide +kernel
theorem d_La_heard_21 : decode method_16_code 21 = .ok (.iconst 0, 1) := by decide +kernel
theorem d_La_heard_22 : decode method_16_code 22 = .ok (.ireturn, 1) := by decide +kernel
theorem d_La_law_0 : decode code 0 = .ok (.new 8, 3) := by decide +kernel
theorem d_La_law_3 : decode code 3 = .ok (.dup, 1) := by decide +kernel
theorem d_La_law_4 : decode code 4 = .ok (.invokespecial 65, 3) := by decide +kernel
theorem d_La_law_7 : decode code 7 = .ok (.astore_n 1, 1) := by decide +kernel
theorem d_La_law_8 : decode code 8 = .ok (.new 66, 3) := by decide +kernel
theorem d_La_law_11 : decode code 11 = .ok (.dup, 1) := by decide +kernel
theorem d_La_law_12 : decode code 12 = .ok (.invokespecial 68, 3) := by decide +kernel
theorem d_La_law_15 : decode code 15 = .ok (.astore_n 2, 1) := by decide +kernel
theorem d_La_law_16 : decode code 16 = .ok (.iconst 1, 1) := by decide +kernel
theorem d_La_law_17 : decode code 17 = .ok (.newarray .long, 2) := by decide +kernel
theorem d_La_law_19 : decode code 19 = .ok (.astore_n 3, 1) := by decide +kernel
theorem d_La_law_20 : decode code 20 = .ok (.iconst 0, 1) := by decide +kernel
theorem d_La_law_21 : decode code 21 = .ok (.istore 4, 2) := by decide +kernel
theorem d_La_law_23 : decode code 23 = .ok (.iload 4, 2) := by decide +kernel
theorem d_La_law_25 : decode code 25 = .ok (.aload_n 0, 1) := by decide +kernel
theorem d_La_law_26 : decode code 26 = .ok (.arraylength, 1) := by decide +kernel
theorem d_La_law_27 : decode code 27 = .ok (.iconst 5, 1) := by decide +kernel
theorem d_La_law_28 : decode code 28 = .ok (.isub, 1) := by decide +kernel
theorem d_La_law_29 : decode code 29 = .ok (.if_icmp .gt 1176, 3) := by decide +kernel
theorem d_La_law_32 : decode code 32 = .ok (.aload_n 0, 1) := by decide +kernel
theorem d_La_law_33 : decode code 33 = .ok (.iload 4, 2) := by decide +kernel
theorem d_La_law_35 : decode code 35 = .ok (.iaload, 1) := by decide +kernel
theorem d_La_law_36 : decode code 36 = .ok (.bipush 31, 2) := by decide +kernel
theorem d_La_law_38 : decode code 38 = .ok (.iand, 1) := by decide +kernel
theorem d_La_law_39 : decode code 39 = .ok (.tableswitch 1160 0 18 #[89, 161, 229, 321, 413, 424, 492, 547, 619, 675, 743, 769, 869, 925, 993, 1053, 1066, 1079, 1092], 89) := by decide +kernel
theorem d_La_law_128 : decode code 128 = .ok (.aload_n 1, 1) := by decide +kernel
theorem d_La_law_129 : decode code 129 = .ok (.aload_n 0, 1) := by decide +kernel
theorem d_La_law_130 : decode code 130 = .ok (.iload 4, 2) := by decide +kernel
theorem d_La_law_132 : decode code 132 = .ok (.iconst 1, 1) := by decide +kernel
theorem d_La_law_133 : decode code 133 = .ok (.iadd, 1) := by decide +kernel
theorem d_La_law_134 : decode code 134 = .ok (.iaload, 1) := by decide +kernel
theorem d_La_law_135 : decode code 135 = .ok (.aload_n 0, 1) := by decide +kernel
theorem d_La_law_136 : decode code 136 = .ok (.iload 4, 2) := by decide +kernel
theorem d_La_law_138 : decode code 138 = .ok (.iconst 2, 1) := by decide +kernel
theorem d_La_law_139 : decode code 139 = .ok (.iadd, 1) := by decide +kernel
theorem d_La_law_140 : decode code 140 = .ok (.iaload, 1) := by decide +kernel
theorem d_La_law_141 : decode code 141 = .ok (.aload_n 0, 1) := by decide +kernel
theorem d_La_law_142 : decode code 142 = .ok (.iload 4, 2) := by decide +kernel
theorem d_La_law_144 : decode code 144 = .ok (.iconst 3, 1) := by decide +kernel
theorem d_La_law_145 : decode code 145 = .ok (.iadd, 1) := by decide +kernel
theorem d_La_law_146 : decode code 146 = .ok (.iaload, 1) := by decide +kernel
theorem d_La_law_147 : decode code 147 = .ok (.aload_n 0, 1) := by decide +kernel
theorem d_La_law_148 : decode code 148 = .ok (.iload 4, 2) := by decide +kernel
theorem d_La_law_150 : decode code 150 = .ok (.iconst 4, 1) := by decide +kernel
theorem d_La_law_151 : decode code 151 = .ok (.iadd, 1) := by decide +kernel
theorem d_La_law_152 : decode code 152 = .ok (.iaload, 1) := by decide +kernel
theorem d_La_law_153 : decode code 153 = .ok (.invokestatic 69, 3) := by decide +kernel
theorem d_La_law_156 : decode code 156 = .ok (.istore 5, 2) := by decide +kernel
theorem d_La_law_158 : decode code 158 = .ok (.aload_n 2, 1) := by decide +kernel
theorem d_La_law_159 : decode code 159 = .ok (.aload_n 0, 1) := by decide +kernel
theorem d_La_law_160 : decode code 160 = .ok (.iload 4, 2) := by decide +kernel
theorem d_La_law_162 : decode code 162 = .ok (.iconst 1, 1) := by decide +kernel
theorem d_La_law_163 : decode code 163 = .ok (.iadd, 1) := by decide +kernel
theorem d_La_law_164 : decode code 164 = .ok (.iaload, 1) := by decide +kernel
theorem d_La_law_165 : decode code 165 = .ok (.aload_n 0, 1) := by decide +kernel
theorem d_La_law_166 : decode code 166 = .ok (.iload 4, 2) := by decide +kernel
theorem d_La_law_168 : decode code 168 = .ok (.iconst 2, 1) := by decide +kernel
theorem d_La_law_169 : decode code 169 = .ok (.iadd, 1) := by decide +kernel
theorem d_La_law_170 : decode code 170 = .ok (.iaload, 1) := by decide +kernel
theorem d_La_law_171 : decode code 171 = .ok (.aload_n 0, 1) := by decide +kernel
theorem d_La_law_172 : decode code 172 = .ok (.iload 4, 2) := by decide +kernel
theorem d_La_law_174 : decode code 174 = .ok (.iconst 3, 1) := by decide +kernel
theorem d_La_law_175 : decode code 175 = .ok (.iadd, 1) := by decide +kernel
theorem d_La_law_176 : decode code 176 = .ok (.iaload, 1) := by decide +kernel
theorem d_La_law_177 : decode code 177 = .ok (.aload_n 0, 1) := by decide +kernel
theorem d_La_law_178 : decode code 178 = .ok (.iload 4, 2) := by decide +kernel
theorem d_La_law_180 : decode code 180 = .ok (.iconst 4, 1) := by decide +kernel
theorem d_La_law_181 : decode code 181 = .ok (.iadd, 1) := by decide +kernel
theorem d_La_law_182 : decode code 182 = .ok (.iaload, 1) := by decide +kernel
theorem d_La_law_183 : decode code 183 = .ok (.invokevirtual 74, 3) := by decide +kernel
theorem d_La_law_186 : decode code 186 = .ok (.aload_n 2, 1) := by decide +kernel
theorem d_La_law_187 : decode code 187 = .ok (.invokevirtual 75, 3) := by decide +kernel
theorem d_La_law_190 : decode code 190 = .ok (.iload 5, 2) := by decide +kernel
theorem d_La_law_192 : decode code 192 = .ok (.if_icmp .eq 5, 3) := by decide +kernel
theorem d_La_law_195 : decode code 195 = .ok (.iconst 0, 1) := by decide +kernel
theorem d_La_law_196 : decode code 196 = .ok (.ireturn, 1) := by decide +kernel
theorem d_La_law_197 : decode code 197 = .ok (.goto 1002, 3) := by decide +kernel
theorem d_La_law_200 : decode code 200 = .ok (.aload_n 1, 1) := by decide +kernel
theorem d_La_law_201 : decode code 201 = .ok (.aload_n 0, 1) := by decide +kernel
theorem d_La_law_202 : decode code 202 = .ok (.iload 4, 2) := by decide +kernel
theorem d_La_law_204 : decode code 204 = .ok (.iconst 1, 1) := by decide +kernel
theorem d_La_law_205 : decode code 205 = .ok (.iadd, 1) := by decide +kernel
theorem d_La_law_206 : decode code 206 = .ok (.iaload, 1) := by decide +kernel
theorem d_La_law_207 : decode code 207 = .ok (.aload_n 0, 1) := by decide +kernel
theorem d_La_law_208 : decode code 208 = .ok (.iload 4, 2) := by decide +kernel
theorem d_La_law_210 : decode code 210 = .ok (.iconst 2, 1) := by decide +kernel
theorem d_La_law_211 : decode code 211 = .ok (.iadd, 1) := by decide +kernel
theorem d_La_law_212 : decode code 212 = .ok (.iaload, 1) := by decide +kernel
theorem d_La_law_213 : decode code 213 = .ok (.aload_n 3, 1) := by decide +kernel
theorem d_La_law_214 : decode code 214 = .ok (.invokestatic 79, 3) := by decide +kernel
theorem d_La_law_217 : decode code 217 = .ok (.istore 5, 2) := by decide +kernel
theorem d_La_law_219 : decode code 219 = .ok (.aload_n 2, 1) := by decide +kernel
theorem d_La_law_220 : decode code 220 = .ok (.aload_n 0, 1) := by decide +kernel
theorem d_La_law_221 : decode code 221 = .ok (.iload 4, 2) := by decide +kernel
theorem d_La_law_223 : decode code 223 = .ok (.iconst 1, 1) := by decide +kernel
theorem d_La_law_224 : decode code 224 = .ok (.iadd, 1) := by decide +kernel
theorem d_La_law_225 : decode code 225 = .ok (.iaload, 1) := by decide +kernel
theorem d_La_law_226 : decode code 226 = .ok (.aload_n 0, 1) := by decide +kernel
theorem d_La_law_227 : decode code 227 = .ok (.iload 4, 2) := by decide +kernel
theorem d_La_law_229 : decode code 229 = .ok (.iconst 2, 1) := by decide +kernel
theorem d_La_law_230 : decode code 230 = .ok (.iadd, 1) := by decide +kernel
theorem d_La_law_231 : decode code 231 = .ok (.iaload, 1) := by decide +kernel
theorem d_La_law_232 : decode code 232 = .ok (.invokevirtual 82, 3) := by decide +kernel
theorem d_La_law_235 : decode code 235 = .ok (.istore 6, 2) := by decide +kernel
theorem d_La_law_237 : decode code 237 = .ok (.aload_n 2, 1) := by decide +kernel
theorem d_La_law_238 : decode code 238 = .ok (.invokevirtual 75, 3) := by decide +kernel
theorem d_La_law_241 : decode code 241 = .ok (.iload 5, 2) := by decide +kernel
theorem d_La_law_243 : decode code 243 = .ok (.if_icmp .eq 5, 3) := by decide +kernel
theorem d_La_law_246 : decode code 246 = .ok (.iconst 0, 1) := by decide +kernel
theorem d_La_law_247 : decode code 247 = .ok (.ireturn, 1) := by decide +kernel
theorem d_La_law_248 : decode code 248 = .ok (.iload 5, 2) := by decide +kernel
theorem d_La_law_250 : decode code 250 = .ok (.ifCond .ne 15, 3) := by decide +kernel
theorem d_La_law_253 : decode code 253 = .ok (.aload_n 3, 1) := by decide +kernel
theorem d_La_law_254 : decode code 254 = .ok (.iconst 0, 1) := by decide +kernel
theorem d_La_law_255 : decode code 255 = .ok (.laload, 1) := by decide +kernel
theorem d_La_law_256 : decode code 256 = .ok (.iload 6, 2) := by decide +kernel
theorem d_La_law_258 : decode code 258 = .ok (.i2l, 1) := by decide +kernel
theorem d_La_law_259 : decode code 259 = .ok (.lcmp, 1) := by decide +kernel
theorem d_La_law_260 : decode code 260 = .ok (.ifCond .eq 5, 3) := by decide +kernel
theorem d_La_law_263 : decode code 263 = .ok (.iconst 0, 1) := by decide +kernel
theorem d_La_law_264 : decode code 264 = .ok (.ireturn, 1) := by decide +kernel
theorem d_La_law_265 : decode code 265 = .ok (.goto 934, 3) := by decide +kernel
theorem d_La_law_268 : decode code 268 = .ok (.aload_n 1, 1) := by decide +kernel
theorem d_La_law_269 : decode code 269 = .ok (.aload_n 0, 1) := by decide +kernel
theorem d_La_law_270 : decode code 270 = .ok (.iload 4, 2) := by decide +kernel
theorem d_La_law_272 : decode code 272 = .ok (.iconst 1, 1) := by decide +kernel
theorem d_La_law_273 : decode code 273 = .ok (.iadd, 1) := by decide +kernel
theorem d_La_law_274 : decode code 274 = .ok (.iaload, 1) := by decide +kernel
theorem d_La_law_275 : decode code 275 = .ok (.aload_n 0, 1) := by decide +kernel
theorem d_La_law_276 : decode code 276 = .ok (.iload 4, 2) := by decide +kernel
theorem d_La_law_278 : decode code 278 = .ok (.iconst 2, 1) := by decide +kernel
theorem d_La_law_279 : decode code 279 = .ok (.iadd, 1) := by decide +kernel
theorem d_La_law_280 : decode code 280 = .ok (.iaload, 1) := by decide +kernel
theorem d_La_law_281 : decode code 281 = .ok (.aload_n 0, 1) := by decide +kernel
theorem d_La_law_282 : decode code 282 = .ok (.iload 4, 2) := by decide +kernel
theorem d_La_law_284 : decode code 284 = .ok (.iconst 3, 1) := by decide +kernel
theorem d_La_law_285 : decode code 285 = .ok (.iadd, 1) := by decide +kernel
theorem d_La_law_286 : decode code 286 = .ok (.iaload, 1) := by decide +kernel
theorem d_La_law_287 : decode code 287 = .ok (.aload_n 0, 1) := by decide +kernel
theorem d_La_law_288 : decode code 288 = .ok (.iload 4, 2) := by decide +kernel
theorem d_La_law_290 : decode code 290 = .ok (.iconst 4, 1) := by decide +kernel
theorem d_La_law_291 : decode code 291 = .ok (.iadd, 1) := by decide +kernel
theorem d_La_law_292 : decode code 292 = .ok (.iaload, 1) := by decide +kernel
theorem d_La_law_293 : decode code 293 = .ok (.aload_n 3, 1) := by decide +kernel
theorem d_La_law_294 : decode code 294 = .ok (.invokestatic 83, 3) := by decide +kernel
theorem d_La_law_297 : decode code 297 = .ok (.istore 5, 2) := by decide +kernel
theorem d_La_law_299 : decode code 299 = .ok (.aload_n 2, 1) := by decide +kernel
theorem d_La_law_300 : decode code 300 = .ok (.aload_n 0, 1) := by decide +kernel
theorem d_La_law_301 : decode code 301 = .ok (.iload 4, 2) := by decide +kernel
theorem d_La_law_303 : decode code 303 = .ok (.iconst 1, 1) := by decide +kernel
theorem d_La_law_304 : decode code 304 = .ok (.iadd, 1) := by decide +kernel
theorem d_La_law_305 : decode code 305 = .ok (.iaload, 1) := by decide +kernel
theorem d_La_law_306 : decode code 306 = .ok (.aload_n 0, 1) := by decide +kernel
theorem d_La_law_307 : decode code 307 = .ok (.iload 4, 2) := by decide +kernel
theorem d_La_law_309 : decode code 309 = .ok (.iconst 2, 1) := by decide +kernel
theorem d_La_law_310 : decode code 310 = .ok (.iadd, 1) := by decide +kernel
theorem d_La_law_311 : decode code 311 = .ok (.iaload, 1) := by decide +kernel
theorem d_La_law_312 : decode code 312 = .ok (.aload_n 0, 1) := by decide +kernel
theorem d_La_law_313 : decode code 313 = .ok (.iload 4, 2) := by decide +kernel
theorem d_La_law_315 : decode code 315 = .ok (.iconst 3, 1) := by decide +kernel
theorem d_La_law_316 : decode code 316 = .ok (.iadd, 1) := by decide +kernel
theorem d_La_law_317 : decode code 317 = .ok (.iaload, 1) := by decide +kernel
theorem d_La_law_318 : decode code 318 = .ok (.aload_n 0, 1) := by decide +kernel
theorem d_La_law_319 : decode code 319 = .ok (.iload 4, 2) := by decide +kernel
theorem d_La_law_321 : decode code 321 = .ok (.iconst 4, 1) := by decide +kernel
theorem d_La_law_322 : decode code 322 = .ok (.iadd, 1) := by decide +kernel
theorem d_La_law_323 : decode code 323 = .ok (.iaload, 1) := by decide +kernel
theorem d_La_law_324 : decode code 324 = .ok (.invokevirtual 86, 3) := by decide +kernel
theorem d_La_law_327 : decode code 327 = .ok (.istore 6, 2) := by decide +kernel
theorem d_La_law_329 : decode code 329 = .ok (.aload_n 2, 1) := by decide +kernel
theorem d_La_law_330 : decode code 330 = .ok (.invokevirtual 75, 3) := by decide +kernel
theorem d_La_law_333 : decode code 333 = .ok (.iload 5, 2) := by decide +kernel
theorem d_La_law_335 : decode code 335 = .ok (.if_icmp .eq 5, 3) := by decide +kernel
theorem d_La_law_338 : decode code 338 = .ok (.iconst 0, 1) := by decide +kernel
theorem d_La_law_339 : decode code 339 = .ok (.ireturn, 1) := by decide +kernel
theorem d_La_law_340 : decode code 340 = .ok (.iload 5, 2) := by decide +kernel
theorem d_La_law_342 : decode code 342 = .ok (.ifCond .ne 15, 3) := by decide +kernel
theorem d_La_law_345 : decode code 345 = .ok (.aload_n 3, 1) := by decide +kernel
theorem d_La_law_346 : decode code 346 = .ok (.iconst 0, 1) := by decide +kernel
theorem d_La_law_347 : decode code 347 = .ok (.laload, 1) := by decide +kernel
theorem d_La_law_348 : decode code 348 = .ok (.iload 6, 2) := by decide +kernel
theorem d_La_law_350 : decode code 350 = .ok (.i2l, 1) := by decide +kernel
theorem d_La_law_351 : decode code 351 = .ok (.lcmp, 1) := by decide +kernel
theorem d_La_law_352 : decode code 352 = .ok (.ifCond .eq 5, 3) := by decide +kernel
theorem d_La_law_355 : decode code 355 = .ok (.iconst 0, 1) := by decide +kernel
theorem d_La_law_356 : decode code 356 = .ok (.ireturn, 1) := by decide +kernel
theorem d_La_law_357 : decode code 357 = .ok (.goto 842, 3) := by decide +kernel
theorem d_La_law_360 : decode code 360 = .ok (.aload_n 1, 1) := by decide +kernel
theorem d_La_law_361 : decode code 361 = .ok (.aload_n 0, 1) := by decide +kernel
theorem d_La_law_362 : decode code 362 = .ok (.iload 4, 2) := by decide +kernel
theorem d_La_law_364 : decode code 364 = .ok (.iconst 1, 1) := by decide +kernel
theorem d_La_law_365 : decode code 365 = .ok (.iadd, 1) := by decide +kernel
theorem d_La_law_366 : decode code 366 = .ok (.iaload, 1) := by decide +kernel
theorem d_La_law_367 : decode code 367 = .ok (.aload_n 0, 1) := by decide +kernel
theorem d_La_law_368 : decode code 368 = .ok (.iload 4, 2) := by decide +kernel
theorem d_La_law_370 : decode code 370 = .ok (.iconst 2, 1) := by decide +kernel
theorem d_La_law_371 : decode code 371 = .ok (.iadd, 1) := by decide +kernel
theorem d_La_law_372 : decode code 372 = .ok (.iaload, 1) := by decide +kernel
theorem d_La_law_373 : decode code 373 = .ok (.aload_n 0, 1) := by decide +kernel
theorem d_La_law_374 : decode code 374 = .ok (.iload 4, 2) := by decide +kernel
theorem d_La_law_376 : decode code 376 = .ok (.iconst 3, 1) := by decide +kernel
theorem d_La_law_377 : decode code 377 = .ok (.iadd, 1) := by decide +kernel
theorem d_La_law_378 : decode code 378 = .ok (.iaload, 1) := by decide +kernel
theorem d_La_law_379 : decode code 379 = .ok (.aload_n 0, 1) := by decide +kernel
theorem d_La_law_380 : decode code 380 = .ok (.iload 4, 2) := by decide +kernel
theorem d_La_law_382 : decode code 382 = .ok (.iconst 4, 1) := by decide +kernel
theorem d_La_law_383 : decode code 383 = .ok (.iadd, 1) := by decide +kernel
theorem d_La_law_384 : decode code 384 = .ok (.iaload, 1) := by decide +kernel
theorem d_La_law_385 : decode code 385 = .ok (.aload_n 3, 1) := by decide +kernel
theorem d_La_law_386 : decode code 386 = .ok (.invokestatic 87, 3) := by decide +kernel
theorem d_La_law_389 : decode code 389 = .ok (.istore 5, 2) := by decide +kernel
theorem d_La_law_391 : decode code 391 = .ok (.aload_n 2, 1) := by decide +kernel
theorem d_La_law_392 : decode code 392 = .ok (.aload_n 0, 1) := by decide +kernel
theorem d_La_law_393 : decode code 393 = .ok (.iload 4, 2) := by decide +kernel
theorem d_La_law_395 : decode code 395 = .ok (.iconst 1, 1) := by decide +kernel
theorem d_La_law_396 : decode code 396 = .ok (.iadd, 1) := by decide +kernel
theorem d_La_law_397 : decode code 397 = .ok (.iaload, 1) := by decide +kernel
theorem d_La_law_398 : decode code 398 = .ok (.aload_n 0, 1) := by decide +kernel
theorem d_La_law_399 : decode code 399 = .ok (.iload 4, 2) := by decide +kernel
theorem d_La_law_401 : decode code 401 = .ok (.iconst 2, 1) := by decide +kernel
theorem d_La_law_402 : decode code 402 = .ok (.iadd, 1) := by decide +kernel
theorem d_La_law_403 : decode code 403 = .ok (.iaload, 1) := by decide +kernel
theorem d_La_law_404 : decode code 404 = .ok (.aload_n 0, 1) := by decide +kernel
theorem d_La_law_405 : decode code 405 = .ok (.iload 4, 2) := by decide +kernel
theorem d_La_law_407 : decode code 407 = .ok (.iconst 3, 1) := by decide +kernel
theorem d_La_law_408 : decode code 408 = .ok (.iadd, 1) := by decide +kernel
theorem d_La_law_409 : decode code 409 = .ok (.iaload, 1) := by decide +kernel
theorem d_La_law_410 : decode code 410 = .ok (.aload_n 0, 1) := by decide +kernel
theorem d_La_law_411 : decode code 411 = .ok (.iload 4, 2) := by decide +kernel
theorem d_La_law_413 : decode code 413 = .ok (.iconst 4, 1) := by decide +kernel
theorem d_La_law_414 : decode code 414 = .ok (.iadd, 1) := by decide +kernel
theorem d_La_law_415 : decode code 415 = .ok (.iaload, 1) := by decide +kernel
theorem d_La_law_416 : decode code 416 = .ok (.invokevirtual 89, 3) := by decide +kernel
theorem d_La_law_419 : decode code 419 = .ok (.istore 6, 2) := by decide +kernel
theorem d_La_law_421 : decode code 421 = .ok (.aload_n 2, 1) := by decide +kernel
theorem d_La_law_422 : decode code 422 = .ok (.invokevirtual 75, 3) := by decide +kernel
theorem d_La_law_425 : decode code 425 = .ok (.iload 5, 2) := by decide +kernel
theorem d_La_law_427 : decode code 427 = .ok (.if_icmp .eq 5, 3) := by decide +kernel
theorem d_La_law_430 : decode code 430 = .ok (.iconst 0, 1) := by decide +kernel
theorem d_La_law_431 : decode code 431 = .ok (.ireturn, 1) := by decide +kernel
theorem d_La_law_432 : decode code 432 = .ok (.iload 5, 2) := by decide +kernel
theorem d_La_law_434 : decode code 434 = .ok (.ifCond .ne 15, 3) := by decide +kernel
theorem d_La_law_437 : decode code 437 = .ok (.aload_n 3, 1) := by decide +kernel
theorem d_La_law_438 : decode code 438 = .ok (.iconst 0, 1) := by decide +kernel
theorem d_La_law_439 : decode code 439 = .ok (.laload, 1) := by decide +kernel
theorem d_La_law_440 : decode code 440 = .ok (.iload 6, 2) := by decide +kernel
theorem d_La_law_442 : decode code 442 = .ok (.i2l, 1) := by decide +kernel
theorem d_La_law_443 : decode code 443 = .ok (.lcmp, 1) := by decide +kernel
theorem d_La_law_444 : decode code 444 = .ok (.ifCond .eq 5, 3) := by decide +kernel
theorem d_La_law_447 : decode code 447 = .ok (.iconst 0, 1) := by decide +kernel
theorem d_La_law_448 : decode code 448 = .ok (.ireturn, 1) := by decide +kernel
theorem d_La_law_449 : decode code 449 = .ok (.goto 750, 3) := by decide +kernel
theorem d_La_law_452 : decode code 452 = .ok (.aload_n 1, 1) := by decide +kernel
theorem d_La_law_453 : decode code 453 = .ok (.invokevirtual 90, 3) := by decide +kernel
theorem d_La_law_456 : decode code 456 = .ok (.aload_n 2, 1) := by decide +kernel
theorem d_La_law_457 : decode code 457 = .ok (.invokevirtual 93, 3) := by decide +kernel
theorem d_La_law_460 : decode code 460 = .ok (.goto 739, 3) := by decide +kernel
theorem d_La_law_463 : decode code 463 = .ok (.aload_n 1, 1) := by decide +kernel
theorem d_La_law_464 : decode code 464 = .ok (.aload_n 0, 1) := by decide +kernel
theorem d_La_law_465 : decode code 465 = .ok (.iload 4, 2) := by decide +kernel
theorem d_La_law_467 : decode code 467 = .ok (.iconst 1, 1) := by decide +kernel
theorem d_La_law_468 : decode code 468 = .ok (.iadd, 1) := by decide +kernel
theorem d_La_law_469 : decode code 469 = .ok (.iaload, 1) := by decide +kernel
theorem d_La_law_470 : decode code 470 = .ok (.aload_n 0, 1) := by decide +kernel
theorem d_La_law_471 : decode code 471 = .ok (.iload 4, 2) := by decide +kernel
theorem d_La_law_473 : decode code 473 = .ok (.iconst 2, 1) := by decide +kernel
theorem d_La_law_474 : decode code 474 = .ok (.iadd, 1) := by decide +kernel
theorem d_La_law_475 : decode code 475 = .ok (.iaload, 1) := by decide +kernel
theorem d_La_law_476 : decode code 476 = .ok (.aload_n 3, 1) := by decide +kernel
theorem d_La_law_477 : decode code 477 = .ok (.invokestatic 94, 3) := by decide +kernel
theorem d_La_law_480 : decode code 480 = .ok (.istore 5, 2) := by decide +kernel
theorem d_La_law_482 : decode code 482 = .ok (.aload_n 2, 1) := by decide +kernel
theorem d_La_law_483 : decode code 483 = .ok (.aload_n 0, 1) := by decide +kernel
theorem d_La_law_484 : decode code 484 = .ok (.iload 4, 2) := by decide +kernel
theorem d_La_law_486 : decode code 486 = .ok (.iconst 1, 1) := by decide +kernel
theorem d_La_law_487 : decode code 487 = .ok (.iadd, 1) := by decide +kernel
theorem d_La_law_488 : decode code 488 = .ok (.iaload, 1) := by decide +kernel
theorem d_La_law_489 : decode code 489 = .ok (.aload_n 0, 1) := by decide +kernel
theorem d_La_law_490 : decode code 490 = .ok (.iload 4, 2) := by decide +kernel
theorem d_La_law_492 : decode code 492 = .ok (.iconst 2, 1) := by decide +kernel
theorem d_La_law_493 : decode code 493 = .ok (.iadd, 1) := by decide +kernel
theorem d_La_law_494 : decode code 494 = .ok (.iaload, 1) := by decide +kernel
theorem d_La_law_495 : decode code 495 = .ok (.invokevirtual 96, 3) := by decide +kernel
theorem d_La_law_498 : decode code 498 = .ok (.istore 6, 2) := by decide +kernel
theorem d_La_law_500 : decode code 500 = .ok (.aload_n 2, 1) := by decide +kernel
theorem d_La_law_501 : decode code 501 = .ok (.invokevirtual 75, 3) := by decide +kernel
theorem d_La_law_504 : decode code 504 = .ok (.iload 5, 2) := by decide +kernel
theorem d_La_law_506 : decode code 506 = .ok (.if_icmp .eq 5, 3) := by decide +kernel
theorem d_La_law_509 : decode code 509 = .ok (.iconst 0, 1) := by decide +kernel
theorem d_La_law_510 : decode code 510 = .ok (.ireturn, 1) := by decide +kernel
theorem d_La_law_511 : decode code 511 = .ok (.iload 5, 2) := by decide +kernel
theorem d_La_law_513 : decode code 513 = .ok (.ifCond .ne 15, 3) := by decide +kernel
theorem d_La_law_516 : decode code 516 = .ok (.aload_n 3, 1) := by decide +kernel
theorem d_La_law_517 : decode code 517 = .ok (.iconst 0, 1) := by decide +kernel
theorem d_La_law_518 : decode code 518 = .ok (.laload, 1) := by decide +kernel
theorem d_La_law_519 : decode code 519 = .ok (.iload 6, 2) := by decide +kernel
theorem d_La_law_521 : decode code 521 = .ok (.i2l, 1) := by decide +kernel
theorem d_La_law_522 : decode code 522 = .ok (.lcmp, 1) := by decide +kernel
theorem d_La_law_523 : decode code 523 = .ok (.ifCond .eq 5, 3) := by decide +kernel
theorem d_La_law_526 : decode code 526 = .ok (.iconst 0, 1) := by decide +kernel
theorem d_La_law_527 : decode code 527 = .ok (.ireturn, 1) := by decide +kernel
theorem d_La_law_528 : decode code 528 = .ok (.goto 671, 3) := by decide +kernel
theorem d_La_law_531 : decode code 531 = .ok (.aload_n 1, 1) := by decide +kernel
theorem d_La_law_532 : decode code 532 = .ok (.aload_n 0, 1) := by decide +kernel
theorem d_La_law_533 : decode code 533 = .ok (.iload 4, 2) := by decide +kernel
theorem d_La_law_535 : decode code 535 = .ok (.iconst 1, 1) := by decide +kernel
theorem d_La_law_536 : decode code 536 = .ok (.iadd, 1) := by decide +kernel
theorem d_La_law_537 : decode code 537 = .ok (.iaload, 1) := by decide +kernel
theorem d_La_law_538 : decode code 538 = .ok (.aload_n 3, 1) := by decide +kernel
theorem d_La_law_539 : decode code 539 = .ok (.invokestatic 97, 3) := by decide +kernel
theorem d_La_law_542 : decode code 542 = .ok (.istore 5, 2) := by decide +kernel
theorem d_La_law_544 : decode code 544 = .ok (.aload_n 2, 1) := by decide +kernel
theorem d_La_law_545 : decode code 545 = .ok (.aload_n 0, 1) := by decide +kernel
theorem d_La_law_546 : decode code 546 = .ok (.iload 4, 2) := by decide +kernel
theorem d_La_law_548 : decode code 548 = .ok (.iconst 1, 1) := by decide +kernel
theorem d_La_law_549 : decode code 549 = .ok (.iadd, 1) := by decide +kernel
theorem d_La_law_550 : decode code 550 = .ok (.iaload, 1) := by decide +kernel
theorem d_La_law_551 : decode code 551 = .ok (.invokevirtual 100, 3) := by decide +kernel
theorem d_La_law_554 : decode code 554 = .ok (.lstore 6, 2) := by decide +kernel
theorem d_La_law_556 : decode code 556 = .ok (.aload_n 2, 1) := by decide +kernel
theorem d_La_law_557 : decode code 557 = .ok (.invokevirtual 75, 3) := by decide +kernel
theorem d_La_law_560 : decode code 560 = .ok (.iload 5, 2) := by decide +kernel
theorem d_La_law_562 : decode code 562 = .ok (.if_icmp .eq 5, 3) := by decide +kernel
theorem d_La_law_565 : decode code 565 = .ok (.iconst 0, 1) := by decide +kernel
theorem d_La_law_566 : decode code 566 = .ok (.ireturn, 1) := by decide +kernel
theorem d_La_law_567 : decode code 567 = .ok (.iload 5, 2) := by decide +kernel
theorem d_La_law_569 : decode code 569 = .ok (.ifCond .ne 14, 3) := by decide +kernel
theorem d_La_law_572 : decode code 572 = .ok (.aload_n 3, 1) := by decide +kernel
theorem d_La_law_573 : decode code 573 = .ok (.iconst 0, 1) := by decide +kernel
theorem d_La_law_574 : decode code 574 = .ok (.laload, 1) := by decide +kernel
theorem d_La_law_575 : decode code 575 = .ok (.lload 6, 2) := by decide +kernel
theorem d_La_law_577 : decode code 577 = .ok (.lcmp, 1) := by decide +kernel
theorem d_La_law_578 : decode code 578 = .ok (.ifCond .eq 5, 3) := by decide +kernel
theorem d_La_law_581 : decode code 581 = .ok (.iconst 0, 1) := by decide +kernel
theorem d_La_law_582 : decode code 582 = .ok (.ireturn, 1) := by decide +kernel
theorem d_La_law_583 : decode code 583 = .ok (.goto 616, 3) := by decide +kernel
theorem d_La_law_586 : decode code 586 = .ok (.aload_n 1, 1) := by decide +kernel
theorem d_La_law_587 : decode code 587 = .ok (.aload_n 0, 1) := by decide +kernel
theorem d_La_law_588 : decode code 588 = .ok (.iload 4, 2) := by decide +kernel
theorem d_La_law_590 : decode code 590 = .ok (.iconst 1, 1) := by decide +kernel
theorem d_La_law_591 : decode code 591 = .ok (.iadd, 1) := by decide +kernel
theorem d_La_law_592 : decode code 592 = .ok (.iaload, 1) := by decide +kernel
theorem d_La_law_593 : decode code 593 = .ok (.ifCond .eq 7, 3) := by decide +kernel
theorem d_La_law_596 : decode code 596 = .ok (.iconst 1, 1) := by decide +kernel
theorem d_La_law_597 : decode code 597 = .ok (.goto 4, 3) := by decide +kernel
theorem d_La_law_600 : decode code 600 = .ok (.iconst 0, 1) := by decide +kernel
theorem d_La_law_601 : decode code 601 = .ok (.aload_n 3, 1) := by decide +kernel
theorem d_La_law_602 : decode code 602 = .ok (.invokestatic 101, 3) := by decide +kernel
theorem d_La_law_605 : decode code 605 = .ok (.istore 5, 2) := by decide +kernel
theorem d_La_law_607 : decode code 607 = .ok (.aload_n 2, 1) := by decide +kernel
theorem d_La_law_608 : decode code 608 = .ok (.aload_n 0, 1) := by decide +kernel
theorem d_La_law_609 : decode code 609 = .ok (.iload 4, 2) := by decide +kernel
theorem d_La_law_611 : decode code 611 = .ok (.iconst 1, 1) := by decide +kernel
theorem d_La_law_612 : decode code 612 = .ok (.iadd, 1) := by decide +kernel
theorem d_La_law_613 : decode code 613 = .ok (.iaload, 1) := by decide +kernel
theorem d_La_law_614 : decode code 614 = .ok (.ifCond .eq 7, 3) := by decide +kernel
theorem d_La_law_617 : decode code 617 = .ok (.iconst 1, 1) := by decide +kernel
theorem d_La_law_618 : decode code 618 = .ok (.goto 4, 3) := by decide +kernel
theorem d_La_law_621 : decode code 621 = .ok (.iconst 0, 1) := by decide +kernel
theorem d_La_law_622 : decode code 622 = .ok (.invokevirtual 104, 3) := by decide +kernel
theorem d_La_law_625 : decode code 625 = .ok (.istore 6, 2) := by decide +kernel
theorem d_La_law_627 : decode code 627 = .ok (.aload_n 2, 1) := by decide +kernel
theorem d_La_law_628 : decode code 628 = .ok (.invokevirtual 75, 3) := by decide +kernel
theorem d_La_law_631 : decode code 631 = .ok (.iload 5, 2) := by decide +kernel
theorem d_La_law_633 : decode code 633 = .ok (.if_icmp .eq 5, 3) := by decide +kernel
theorem d_La_law_636 : decode code 636 = .ok (.iconst 0, 1) := by decide +kernel
theorem d_La_law_637 : decode code 637 = .ok (.ireturn, 1) := by decide +kernel
theorem d_La_law_638 : decode code 638 = .ok (.iload 5, 2) := by decide +kernel
theorem d_La_law_640 : decode code 640 = .ok (.ifCond .ne 15, 3) := by decide +kernel
theorem d_La_law_643 : decode code 643 = .ok (.aload_n 3, 1) := by decide +kernel
theorem d_La_law_644 : decode code 644 = .ok (.iconst 0, 1) := by decide +kernel
theorem d_La_law_645 : decode code 645 = .ok (.laload, 1) := by decide +kernel
theorem d_La_law_646 : decode code 646 = .ok (.iload 6, 2) := by decide +kernel
theorem d_La_law_648 : decode code 648 = .ok (.i2l, 1) := by decide +kernel
theorem d_La_law_649 : decode code 649 = .ok (.lcmp, 1) := by decide +kernel
theorem d_La_law_650 : decode code 650 = .ok (.ifCond .eq 5, 3) := by decide +kernel
theorem d_La_law_653 : decode code 653 = .ok (.iconst 0, 1) := by decide +kernel
theorem d_La_law_654 : decode code 654 = .ok (.ireturn, 1) := by decide +kernel
theorem d_La_law_655 : decode code 655 = .ok (.goto 544, 3) := by decide +kernel
theorem d_La_law_658 : decode code 658 = .ok (.aload_n 1, 1) := by decide +kernel
theorem d_La_law_659 : decode code 659 = .ok (.aload_n 0, 1) := by decide +kernel
theorem d_La_law_660 : decode code 660 = .ok (.iload 4, 2) := by decide +kernel
theorem d_La_law_662 : decode code 662 = .ok (.iconst 1, 1) := by decide +kernel
theorem d_La_law_663 : decode code 663 = .ok (.iadd, 1) := by decide +kernel
theorem d_La_law_664 : decode code 664 = .ok (.iaload, 1) := by decide +kernel
theorem d_La_law_665 : decode code 665 = .ok (.aload_n 3, 1) := by decide +kernel
theorem d_La_law_666 : decode code 666 = .ok (.invokestatic 105, 3) := by decide +kernel
theorem d_La_law_669 : decode code 669 = .ok (.istore 5, 2) := by decide +kernel
theorem d_La_law_671 : decode code 671 = .ok (.aload_n 2, 1) := by decide +kernel
theorem d_La_law_672 : decode code 672 = .ok (.aload_n 0, 1) := by decide +kernel
theorem d_La_law_673 : decode code 673 = .ok (.iload 4, 2) := by decide +kernel
theorem d_La_law_675 : decode code 675 = .ok (.iconst 1, 1) := by decide +kernel
theorem d_La_law_676 : decode code 676 = .ok (.iadd, 1) := by decide +kernel
theorem d_La_law_677 : decode code 677 = .ok (.iaload, 1) := by decide +kernel
theorem d_La_law_678 : decode code 678 = .ok (.invokevirtual 107, 3) := by decide +kernel
theorem d_La_law_681 : decode code 681 = .ok (.istore 6, 2) := by decide +kernel
theorem d_La_law_683 : decode code 683 = .ok (.aload_n 2, 1) := by decide +kernel
theorem d_La_law_684 : decode code 684 = .ok (.invokevirtual 75, 3) := by decide +kernel
theorem d_La_law_687 : decode code 687 = .ok (.iload 5, 2) := by decide +kernel
theorem d_La_law_689 : decode code 689 = .ok (.if_icmp .eq 5, 3) := by decide +kernel
theorem d_La_law_692 : decode code 692 = .ok (.iconst 0, 1) := by decide +kernel
theorem d_La_law_693 : decode code 693 = .ok (.ireturn, 1) := by decide +kernel
theorem d_La_law_694 : decode code 694 = .ok (.iload 5, 2) := by decide +kernel
theorem d_La_law_696 : decode code 696 = .ok (.ifCond .ne 15, 3) := by decide +kernel
theorem d_La_law_699 : decode code 699 = .ok (.aload_n 3, 1) := by decide +kernel
theorem d_La_law_700 : decode code 700 = .ok (.iconst 0, 1) := by decide +kernel
theorem d_La_law_701 : decode code 701 = .ok (.laload, 1) := by decide +kernel
theorem d_La_law_702 : decode code 702 = .ok (.iload 6, 2) := by decide +kernel
theorem d_La_law_704 : decode code 704 = .ok (.i2l, 1) := by decide +kernel
theorem d_La_law_705 : decode code 705 = .ok (.lcmp, 1) := by decide +kernel
theorem d_La_law_706 : decode code 706 = .ok (.ifCond .eq 5, 3) := by decide +kernel
theorem d_La_law_709 : decode code 709 = .ok (.iconst 0, 1) := by decide +kernel
theorem d_La_law_710 : decode code 710 = .ok (.ireturn, 1) := by decide +kernel
theorem d_La_law_711 : decode code 711 = .ok (.goto 488, 3) := by decide +kernel
theorem d_La_law_714 : decode code 714 = .ok (.aload_n 1, 1) := by decide +kernel
theorem d_La_law_715 : decode code 715 = .ok (.aload_n 0, 1) := by decide +kernel
theorem d_La_law_716 : decode code 716 = .ok (.iload 4, 2) := by decide +kernel
theorem d_La_law_718 : decode code 718 = .ok (.iconst 1, 1) := by decide +kernel
theorem d_La_law_719 : decode code 719 = .ok (.iadd, 1) := by decide +kernel
theorem d_La_law_720 : decode code 720 = .ok (.iaload, 1) := by decide +kernel
theorem d_La_law_721 : decode code 721 = .ok (.aload_n 0, 1) := by decide +kernel
theorem d_La_law_722 : decode code 722 = .ok (.iload 4, 2) := by decide +kernel
theorem d_La_law_724 : decode code 724 = .ok (.iconst 2, 1) := by decide +kernel
theorem d_La_law_725 : decode code 725 = .ok (.iadd, 1) := by decide +kernel
theorem d_La_law_726 : decode code 726 = .ok (.iaload, 1) := by decide +kernel
theorem d_La_law_727 : decode code 727 = .ok (.aload_n 3, 1) := by decide +kernel
theorem d_La_law_728 : decode code 728 = .ok (.invokestatic 108, 3) := by decide +kernel
theorem d_La_law_731 : decode code 731 = .ok (.istore 5, 2) := by decide +kernel
theorem d_La_law_733 : decode code 733 = .ok (.aload_n 2, 1) := by decide +kernel
theorem d_La_law_734 : decode code 734 = .ok (.aload_n 0, 1) := by decide +kernel
theorem d_La_law_735 : decode code 735 = .ok (.iload 4, 2) := by decide +kernel
theorem d_La_law_737 : decode code 737 = .ok (.iconst 1, 1) := by decide +kernel
theorem d_La_law_738 : decode code 738 = .ok (.iadd, 1) := by decide +kernel
theorem d_La_law_739 : decode code 739 = .ok (.iaload, 1) := by decide +kernel
theorem d_La_law_740 : decode code 740 = .ok (.aload_n 0, 1) := by decide +kernel
theorem d_La_law_741 : decode code 741 = .ok (.iload 4, 2) := by decide +kernel
theorem d_La_law_743 : decode code 743 = .ok (.iconst 2, 1) := by decide +kernel
theorem d_La_law_744 : decode code 744 = .ok (.iadd, 1) := by decide +kernel
theorem d_La_law_745 : decode code 745 = .ok (.iaload, 1) := by decide +kernel
theorem d_La_law_746 : decode code 746 = .ok (.invokevirtual 110, 3) := by decide +kernel
theorem d_La_law_749 : decode code 749 = .ok (.istore 6, 2) := by decide +kernel
theorem d_La_law_751 : decode code 751 = .ok (.aload_n 2, 1) := by decide +kernel
theorem d_La_law_752 : decode code 752 = .ok (.invokevirtual 75, 3) := by decide +kernel
theorem d_La_law_755 : decode code 755 = .ok (.iload 5, 2) := by decide +kernel
theorem d_La_law_757 : decode code 757 = .ok (.if_icmp .eq 5, 3) := by decide +kernel
theorem d_La_law_760 : decode code 760 = .ok (.iconst 0, 1) := by decide +kernel
theorem d_La_law_761 : decode code 761 = .ok (.ireturn, 1) := by decide +kernel
theorem d_La_law_762 : decode code 762 = .ok (.iload 5, 2) := by decide +kernel
theorem d_La_law_764 : decode code 764 = .ok (.ifCond .ne 15, 3) := by decide +kernel
theorem d_La_law_767 : decode code 767 = .ok (.aload_n 3, 1) := by decide +kernel
theorem d_La_law_768 : decode code 768 = .ok (.iconst 0, 1) := by decide +kernel
theorem d_La_law_769 : decode code 769 = .ok (.laload, 1) := by decide +kernel
theorem d_La_law_770 : decode code 770 = .ok (.iload 6, 2) := by decide +kernel
theorem d_La_law_772 : decode code 772 = .ok (.i2l, 1) := by decide +kernel
theorem d_La_law_773 : decode code 773 = .ok (.lcmp, 1) := by decide +kernel
theorem d_La_law_774 : decode code 774 = .ok (.ifCond .eq 5, 3) := by decide +kernel
theorem d_La_law_777 : decode code 777 = .ok (.iconst 0, 1) := by decide +kernel
theorem d_La_law_778 : decode code 778 = .ok (.ireturn, 1) := by decide +kernel
theorem d_La_law_779 : decode code 779 = .ok (.goto 420, 3) := by decide +kernel
theorem d_La_law_782 : decode code 782 = .ok (.aload_n 1, 1) := by decide +kernel
theorem d_La_law_783 : decode code 783 = .ok (.aload_n 0, 1) := by decide +kernel
theorem d_La_law_784 : decode code 784 = .ok (.iload 4, 2) := by decide +kernel
theorem d_La_law_786 : decode code 786 = .ok (.iconst 1, 1) := by decide +kernel
theorem d_La_law_787 : decode code 787 = .ok (.iadd, 1) := by decide +kernel
theorem d_La_law_788 : decode code 788 = .ok (.iaload, 1) := by decide +kernel
theorem d_La_law_789 : decode code 789 = .ok (.invokevirtual 111, 3) := by decide +kernel
theorem d_La_law_792 : decode code 792 = .ok (.aload_n 2, 1) := by decide +kernel
theorem d_La_law_793 : decode code 793 = .ok (.aload_n 0, 1) := by decide +kernel
theorem d_La_law_794 : decode code 794 = .ok (.iload 4, 2) := by decide +kernel
theorem d_La_law_796 : decode code 796 = .ok (.iconst 1, 1) := by decide +kernel
theorem d_La_law_797 : decode code 797 = .ok (.iadd, 1) := by decide +kernel
theorem d_La_law_798 : decode code 798 = .ok (.iaload, 1) := by decide +kernel
theorem d_La_law_799 : decode code 799 = .ok (.invokevirtual 114, 3) := by decide +kernel
theorem d_La_law_802 : decode code 802 = .ok (.lcmp, 1) := by decide +kernel
theorem d_La_law_803 : decode code 803 = .ok (.ifCond .eq 396, 3) := by decide +kernel
theorem d_La_law_806 : decode code 806 = .ok (.iconst 0, 1) := by decide +kernel
theorem d_La_law_807 : decode code 807 = .ok (.ireturn, 1) := by decide +kernel
theorem d_La_law_808 : decode code 808 = .ok (.aload_n 1, 1) := by decide +kernel
theorem d_La_law_809 : decode code 809 = .ok (.aload_n 0, 1) := by decide +kernel
theorem d_La_law_810 : decode code 810 = .ok (.iload 4, 2) := by decide +kernel
theorem d_La_law_812 : decode code 812 = .ok (.iconst 1, 1) := by decide +kernel
theorem d_La_law_813 : decode code 813 = .ok (.iadd, 1) := by decide +kernel
theorem d_La_law_814 : decode code 814 = .ok (.iaload, 1) := by decide +kernel
theorem d_La_law_815 : decode code 815 = .ok (.aload_n 0, 1) := by decide +kernel
theorem d_La_law_816 : decode code 816 = .ok (.iload 4, 2) := by decide +kernel
theorem d_La_law_818 : decode code 818 = .ok (.iconst 2, 1) := by decide +kernel
theorem d_La_law_819 : decode code 819 = .ok (.iadd, 1) := by decide +kernel
theorem d_La_law_820 : decode code 820 = .ok (.iaload, 1) := by decide +kernel
theorem d_La_law_821 : decode code 821 = .ok (.i2l, 1) := by decide +kernel
theorem d_La_law_822 : decode code 822 = .ok (.bipush 32, 2) := by decide +kernel
theorem d_La_law_824 : decode code 824 = .ok (.lshl, 1) := by decide +kernel
theorem d_La_law_825 : decode code 825 = .ok (.aload_n 0, 1) := by decide +kernel
theorem d_La_law_826 : decode code 826 = .ok (.iload 4, 2) := by decide +kernel
theorem d_La_law_828 : decode code 828 = .ok (.iconst 3, 1) := by decide +kernel
theorem d_La_law_829 : decode code 829 = .ok (.iadd, 1) := by decide +kernel
theorem d_La_law_830 : decode code 830 = .ok (.iaload, 1) := by decide +kernel
theorem d_La_law_831 : decode code 831 = .ok (.i2l, 1) := by decide +kernel
theorem d_La_law_832 : decode code 832 = .ok (.ldc2_w 115, 3) := by decide +kernel
theorem d_La_law_835 : decode code 835 = .ok (.land, 1) := by decide +kernel
theorem d_La_law_836 : decode code 836 = .ok (.lor, 1) := by decide +kernel
theorem d_La_law_837 : decode code 837 = .ok (.aload_n 3, 1) := by decide +kernel
theorem d_La_law_838 : decode code 838 = .ok (.invokestatic 117, 3) := by decide +kernel
theorem d_La_law_841 : decode code 841 = .ok (.istore 5, 2) := by decide +kernel
theorem d_La_law_843 : decode code 843 = .ok (.aload_n 2, 1) := by decide +kernel
theorem d_La_law_844 : decode code 844 = .ok (.aload_n 0, 1) := by decide +kernel
theorem d_La_law_845 : decode code 845 = .ok (.iload 4, 2) := by decide +kernel
theorem d_La_law_847 : decode code 847 = .ok (.iconst 1, 1) := by decide +kernel
theorem d_La_law_848 : decode code 848 = .ok (.iadd, 1) := by decide +kernel
theorem d_La_law_849 : decode code 849 = .ok (.iaload, 1) := by decide +kernel
theorem d_La_law_850 : decode code 850 = .ok (.aload_n 0, 1) := by decide +kernel
theorem d_La_law_851 : decode code 851 = .ok (.iload 4, 2) := by decide +kernel
theorem d_La_law_853 : decode code 853 = .ok (.iconst 2, 1) := by decide +kernel
theorem d_La_law_854 : decode code 854 = .ok (.iadd, 1) := by decide +kernel
theorem d_La_law_855 : decode code 855 = .ok (.iaload, 1) := by decide +kernel
theorem d_La_law_856 : decode code 856 = .ok (.i2l, 1) := by decide +kernel
theorem d_La_law_857 : decode code 857 = .ok (.bipush 32, 2) := by decide +kernel
theorem d_La_law_859 : decode code 859 = .ok (.lshl, 1) := by decide +kernel
theorem d_La_law_860 : decode code 860 = .ok (.aload_n 0, 1) := by decide +kernel
theorem d_La_law_861 : decode code 861 = .ok (.iload 4, 2) := by decide +kernel
theorem d_La_law_863 : decode code 863 = .ok (.iconst 3, 1) := by decide +kernel
theorem d_La_law_864 : decode code 864 = .ok (.iadd, 1) := by decide +kernel
theorem d_La_law_865 : decode code 865 = .ok (.iaload, 1) := by decide +kernel
theorem d_La_law_866 : decode code 866 = .ok (.i2l, 1) := by decide +kernel
theorem d_La_law_867 : decode code 867 = .ok (.ldc2_w 115, 3) := by decide +kernel
theorem d_La_law_870 : decode code 870 = .ok (.land, 1) := by decide +kernel
theorem d_La_law_871 : decode code 871 = .ok (.lor, 1) := by decide +kernel
theorem d_La_law_872 : decode code 872 = .ok (.invokevirtual 120, 3) := by decide +kernel
theorem d_La_law_875 : decode code 875 = .ok (.istore 6, 2) := by decide +kernel
theorem d_La_law_877 : decode code 877 = .ok (.aload_n 2, 1) := by decide +kernel
theorem d_La_law_878 : decode code 878 = .ok (.invokevirtual 75, 3) := by decide +kernel
theorem d_La_law_881 : decode code 881 = .ok (.iload 5, 2) := by decide +kernel
theorem d_La_law_883 : decode code 883 = .ok (.if_icmp .eq 5, 3) := by decide +kernel
theorem d_La_law_886 : decode code 886 = .ok (.iconst 0, 1) := by decide +kernel
theorem d_La_law_887 : decode code 887 = .ok (.ireturn, 1) := by decide +kernel
theorem d_La_law_888 : decode code 888 = .ok (.iload 5, 2) := by decide +kernel
theorem d_La_law_890 : decode code 890 = .ok (.ifCond .ne 15, 3) := by decide +kernel
theorem d_La_law_893 : decode code 893 = .ok (.aload_n 3, 1) := by decide +kernel
theorem d_La_law_894 : decode code 894 = .ok (.iconst 0, 1) := by decide +kernel
theorem d_La_law_895 : decode code 895 = .ok (.laload, 1) := by decide +kernel
theorem d_La_law_896 : decode code 896 = .ok (.iload 6, 2) := by decide +kernel
theorem d_La_law_898 : decode code 898 = .ok (.i2l, 1) := by decide +kernel
theorem d_La_law_899 : decode code 899 = .ok (.lcmp, 1) := by decide +kernel
theorem d_La_law_900 : decode code 900 = .ok (.ifCond .eq 5, 3) := by decide +kernel
theorem d_La_law_903 : decode code 903 = .ok (.iconst 0, 1) := by decide +kernel
theorem d_La_law_904 : decode code 904 = .ok (.ireturn, 1) := by decide +kernel
theorem d_La_law_905 : decode code 905 = .ok (.goto 294, 3) := by decide +kernel
theorem d_La_law_908 : decode code 908 = .ok (.aload_n 1, 1) := by decide +kernel
theorem d_La_law_909 : decode code 909 = .ok (.aload_n 0, 1) := by decide +kernel
theorem d_La_law_910 : decode code 910 = .ok (.iload 4, 2) := by decide +kernel
theorem d_La_law_912 : decode code 912 = .ok (.iconst 1, 1) := by decide +kernel
theorem d_La_law_913 : decode code 913 = .ok (.iadd, 1) := by decide +kernel
theorem d_La_law_914 : decode code 914 = .ok (.iaload, 1) := by decide +kernel
theorem d_La_law_915 : decode code 915 = .ok (.aload_n 3, 1) := by decide +kernel
theorem d_La_law_916 : decode code 916 = .ok (.invokestatic 121, 3) := by decide +kernel
theorem d_La_law_919 : decode code 919 = .ok (.istore 5, 2) := by decide +kernel
theorem d_La_law_921 : decode code 921 = .ok (.aload_n 2, 1) := by decide +kernel
theorem d_La_law_922 : decode code 922 = .ok (.aload_n 0, 1) := by decide +kernel
theorem d_La_law_923 : decode code 923 = .ok (.iload 4, 2) := by decide +kernel
theorem d_La_law_925 : decode code 925 = .ok (.iconst 1, 1) := by decide +kernel
theorem d_La_law_926 : decode code 926 = .ok (.iadd, 1) := by decide +kernel
theorem d_La_law_927 : decode code 927 = .ok (.iaload, 1) := by decide +kernel
theorem d_La_law_928 : decode code 928 = .ok (.invokevirtual 123, 3) := by decide +kernel
theorem d_La_law_931 : decode code 931 = .ok (.istore 6, 2) := by decide +kernel
theorem d_La_law_933 : decode code 933 = .ok (.aload_n 2, 1) := by decide +kernel
theorem d_La_law_934 : decode code 934 = .ok (.invokevirtual 75, 3) := by decide +kernel
theorem d_La_law_937 : decode code 937 = .ok (.iload 5, 2) := by decide +kernel
theorem d_La_law_939 : decode code 939 = .ok (.if_icmp .eq 5, 3) := by decide +kernel
theorem d_La_law_942 : decode code 942 = .ok (.iconst 0, 1) := by decide +kernel
theorem d_La_law_943 : decode code 943 = .ok (.ireturn, 1) := by decide +kernel
theorem d_La_law_944 : decode code 944 = .ok (.iload 5, 2) := by decide +kernel
theorem d_La_law_946 : decode code 946 = .ok (.ifCond .ne 15, 3) := by decide +kernel
theorem d_La_law_949 : decode code 949 = .ok (.aload_n 3, 1) := by decide +kernel
theorem d_La_law_950 : decode code 950 = .ok (.iconst 0, 1) := by decide +kernel
theorem d_La_law_951 : decode code 951 = .ok (.laload, 1) := by decide +kernel
theorem d_La_law_952 : decode code 952 = .ok (.iload 6, 2) := by decide +kernel
theorem d_La_law_954 : decode code 954 = .ok (.i2l, 1) := by decide +kernel
theorem d_La_law_955 : decode code 955 = .ok (.lcmp, 1) := by decide +kernel
theorem d_La_law_956 : decode code 956 = .ok (.ifCond .eq 5, 3) := by decide +kernel
theorem d_La_law_959 : decode code 959 = .ok (.iconst 0, 1) := by decide +kernel
theorem d_La_law_960 : decode code 960 = .ok (.ireturn, 1) := by decide +kernel
theorem d_La_law_961 : decode code 961 = .ok (.goto 238, 3) := by decide +kernel
theorem d_La_law_964 : decode code 964 = .ok (.aload_n 1, 1) := by decide +kernel
theorem d_La_law_965 : decode code 965 = .ok (.aload_n 0, 1) := by decide +kernel
theorem d_La_law_966 : decode code 966 = .ok (.iload 4, 2) := by decide +kernel
theorem d_La_law_968 : decode code 968 = .ok (.iconst 1, 1) := by decide +kernel
theorem d_La_law_969 : decode code 969 = .ok (.iadd, 1) := by decide +kernel
theorem d_La_law_970 : decode code 970 = .ok (.iaload, 1) := by decide +kernel
theorem d_La_law_971 : decode code 971 = .ok (.aload_n 0, 1) := by decide +kernel
theorem d_La_law_972 : decode code 972 = .ok (.iload 4, 2) := by decide +kernel
theorem d_La_law_974 : decode code 974 = .ok (.iconst 2, 1) := by decide +kernel
theorem d_La_law_975 : decode code 975 = .ok (.iadd, 1) := by decide +kernel
theorem d_La_law_976 : decode code 976 = .ok (.iaload, 1) := by decide +kernel
theorem d_La_law_977 : decode code 977 = .ok (.aload_n 3, 1) := by decide +kernel
theorem d_La_law_978 : decode code 978 = .ok (.invokestatic 124, 3) := by decide +kernel
theorem d_La_law_981 : decode code 981 = .ok (.istore 5, 2) := by decide +kernel
theorem d_La_law_983 : decode code 983 = .ok (.aload_n 2, 1) := by decide +kernel
theorem d_La_law_984 : decode code 984 = .ok (.aload_n 0, 1) := by decide +kernel
theorem d_La_law_985 : decode code 985 = .ok (.iload 4, 2) := by decide +kernel
theorem d_La_law_987 : decode code 987 = .ok (.iconst 1, 1) := by decide +kernel
theorem d_La_law_988 : decode code 988 = .ok (.iadd, 1) := by decide +kernel
theorem d_La_law_989 : decode code 989 = .ok (.iaload, 1) := by decide +kernel
theorem d_La_law_990 : decode code 990 = .ok (.aload_n 0, 1) := by decide +kernel
theorem d_La_law_991 : decode code 991 = .ok (.iload 4, 2) := by decide +kernel
theorem d_La_law_993 : decode code 993 = .ok (.iconst 2, 1) := by decide +kernel
theorem d_La_law_994 : decode code 994 = .ok (.iadd, 1) := by decide +kernel
theorem d_La_law_995 : decode code 995 = .ok (.iaload, 1) := by decide +kernel
theorem d_La_law_996 : decode code 996 = .ok (.invokevirtual 126, 3) := by decide +kernel
theorem d_La_law_999 : decode code 999 = .ok (.istore 6, 2) := by decide +kernel
theorem d_La_law_1001 : decode code 1001 = .ok (.aload_n 2, 1) := by decide +kernel
theorem d_La_law_1002 : decode code 1002 = .ok (.invokevirtual 75, 3) := by decide +kernel
theorem d_La_law_1005 : decode code 1005 = .ok (.iload 5, 2) := by decide +kernel
theorem d_La_law_1007 : decode code 1007 = .ok (.if_icmp .eq 5, 3) := by decide +kernel
theorem d_La_law_1010 : decode code 1010 = .ok (.iconst 0, 1) := by decide +kernel
theorem d_La_law_1011 : decode code 1011 = .ok (.ireturn, 1) := by decide +kernel
theorem d_La_law_1012 : decode code 1012 = .ok (.iload 5, 2) := by decide +kernel
theorem d_La_law_1014 : decode code 1014 = .ok (.ifCond .ne 15, 3) := by decide +kernel
theorem d_La_law_1017 : decode code 1017 = .ok (.aload_n 3, 1) := by decide +kernel
theorem d_La_law_1018 : decode code 1018 = .ok (.iconst 0, 1) := by decide +kernel
theorem d_La_law_1019 : decode code 1019 = .ok (.laload, 1) := by decide +kernel
theorem d_La_law_1020 : decode code 1020 = .ok (.iload 6, 2) := by decide +kernel
theorem d_La_law_1022 : decode code 1022 = .ok (.i2l, 1) := by decide +kernel
theorem d_La_law_1023 : decode code 1023 = .ok (.lcmp, 1) := by decide +kernel
theorem d_La_law_1024 : decode code 1024 = .ok (.ifCond .eq 5, 3) := by decide +kernel
theorem d_La_law_1027 : decode code 1027 = .ok (.iconst 0, 1) := by decide +kernel
theorem d_La_law_1028 : decode code 1028 = .ok (.ireturn, 1) := by decide +kernel
theorem d_La_law_1029 : decode code 1029 = .ok (.goto 170, 3) := by decide +kernel
theorem d_La_law_1032 : decode code 1032 = .ok (.aload_n 1, 1) := by decide +kernel
theorem d_La_law_1033 : decode code 1033 = .ok (.aload_n 0, 1) := by decide +kernel
theorem d_La_law_1034 : decode code 1034 = .ok (.iload 4, 2) := by decide +kernel
theorem d_La_law_1036 : decode code 1036 = .ok (.iconst 1, 1) := by decide +kernel
theorem d_La_law_1037 : decode code 1037 = .ok (.iadd, 1) := by decide +kernel
theorem d_La_law_1038 : decode code 1038 = .ok (.iaload, 1) := by decide +kernel
theorem d_La_law_1039 : decode code 1039 = .ok (.aload_n 0, 1) := by decide +kernel
theorem d_La_law_1040 : decode code 1040 = .ok (.iload 4, 2) := by decide +kernel
theorem d_La_law_1042 : decode code 1042 = .ok (.iconst 2, 1) := by decide +kernel
theorem d_La_law_1043 : decode code 1043 = .ok (.iadd, 1) := by decide +kernel
theorem d_La_law_1044 : decode code 1044 = .ok (.iaload, 1) := by decide +kernel
theorem d_La_law_1045 : decode code 1045 = .ok (.aload_n 0, 1) := by decide +kernel
theorem d_La_law_1046 : decode code 1046 = .ok (.iload 4, 2) := by decide +kernel
theorem d_La_law_1048 : decode code 1048 = .ok (.iconst 3, 1) := by decide +kernel
theorem d_La_law_1049 : decode code 1049 = .ok (.iadd, 1) := by decide +kernel
theorem d_La_law_1050 : decode code 1050 = .ok (.iaload, 1) := by decide +kernel
theorem d_La_law_1051 : decode code 1051 = .ok (.invokestatic 127, 3) := by decide +kernel
theorem d_La_law_1054 : decode code 1054 = .ok (.istore 5, 2) := by decide +kernel
theorem d_La_law_1056 : decode code 1056 = .ok (.aload_n 2, 1) := by decide +kernel
theorem d_La_law_1057 : decode code 1057 = .ok (.aload_n 0, 1) := by decide +kernel
theorem d_La_law_1058 : decode code 1058 = .ok (.iload 4, 2) := by decide +kernel
theorem d_La_law_1060 : decode code 1060 = .ok (.iconst 1, 1) := by decide +kernel
theorem d_La_law_1061 : decode code 1061 = .ok (.iadd, 1) := by decide +kernel
theorem d_La_law_1062 : decode code 1062 = .ok (.iaload, 1) := by decide +kernel
theorem d_La_law_1063 : decode code 1063 = .ok (.aload_n 0, 1) := by decide +kernel
theorem d_La_law_1064 : decode code 1064 = .ok (.iload 4, 2) := by decide +kernel
theorem d_La_law_1066 : decode code 1066 = .ok (.iconst 2, 1) := by decide +kernel
theorem d_La_law_1067 : decode code 1067 = .ok (.iadd, 1) := by decide +kernel
theorem d_La_law_1068 : decode code 1068 = .ok (.iaload, 1) := by decide +kernel
theorem d_La_law_1069 : decode code 1069 = .ok (.aload_n 0, 1) := by decide +kernel
theorem d_La_law_1070 : decode code 1070 = .ok (.iload 4, 2) := by decide +kernel
theorem d_La_law_1072 : decode code 1072 = .ok (.iconst 3, 1) := by decide +kernel
theorem d_La_law_1073 : decode code 1073 = .ok (.iadd, 1) := by decide +kernel
theorem d_La_law_1074 : decode code 1074 = .ok (.iaload, 1) := by decide +kernel
theorem d_La_law_1075 : decode code 1075 = .ok (.invokevirtual 130, 3) := by decide +kernel
theorem d_La_law_1078 : decode code 1078 = .ok (.aload_n 2, 1) := by decide +kernel
theorem d_La_law_1079 : decode code 1079 = .ok (.invokevirtual 75, 3) := by decide +kernel
theorem d_La_law_1082 : decode code 1082 = .ok (.iload 5, 2) := by decide +kernel
theorem d_La_law_1084 : decode code 1084 = .ok (.if_icmp .eq 5, 3) := by decide +kernel
theorem d_La_law_1087 : decode code 1087 = .ok (.iconst 0, 1) := by decide +kernel
theorem d_La_law_1088 : decode code 1088 = .ok (.ireturn, 1) := by decide +kernel
theorem d_La_law_1089 : decode code 1089 = .ok (.goto 110, 3) := by decide +kernel
theorem d_La_law_1092 : decode code 1092 = .ok (.aload_n 1, 1) := by decide +kernel
theorem d_La_law_1093 : decode code 1093 = .ok (.invokevirtual 131, 3) := by decide +kernel
theorem d_La_law_1096 : decode code 1096 = .ok (.aload_n 2, 1) := by decide +kernel
theorem d_La_law_1097 : decode code 1097 = .ok (.invokevirtual 134, 3) := by decide +kernel
theorem d_La_law_1100 : decode code 1100 = .ok (.if_icmp .eq 99, 3) := by decide +kernel
theorem d_La_law_1103 : decode code 1103 = .ok (.iconst 0, 1) := by decide +kernel
theorem d_La_law_1104 : decode code 1104 = .ok (.ireturn, 1) := by decide +kernel
theorem d_La_law_1105 : decode code 1105 = .ok (.aload_n 1, 1) := by decide +kernel
theorem d_La_law_1106 : decode code 1106 = .ok (.invokevirtual 135, 3) := by decide +kernel
theorem d_La_law_1109 : decode code 1109 = .ok (.aload_n 2, 1) := by decide +kernel
theorem d_La_law_1110 : decode code 1110 = .ok (.invokevirtual 138, 3) := by decide +kernel
theorem d_La_law_1113 : decode code 1113 = .ok (.if_icmp .eq 86, 3) := by decide +kernel
theorem d_La_law_1116 : decode code 1116 = .ok (.iconst 0, 1) := by decide +kernel
theorem d_La_law_1117 : decode code 1117 = .ok (.ireturn, 1) := by decide +kernel
theorem d_La_law_1118 : decode code 1118 = .ok (.aload_n 1, 1) := by decide +kernel
theorem d_La_law_1119 : decode code 1119 = .ok (.invokevirtual 139, 3) := by decide +kernel
theorem d_La_law_1122 : decode code 1122 = .ok (.aload_n 2, 1) := by decide +kernel
theorem d_La_law_1123 : decode code 1123 = .ok (.invokevirtual 142, 3) := by decide +kernel
theorem d_La_law_1126 : decode code 1126 = .ok (.if_icmp .eq 73, 3) := by decide +kernel
theorem d_La_law_1129 : decode code 1129 = .ok (.iconst 0, 1) := by decide +kernel
theorem d_La_law_1130 : decode code 1130 = .ok (.ireturn, 1) := by decide +kernel
theorem d_La_law_1131 : decode code 1131 = .ok (.aload_n 1, 1) := by decide +kernel
theorem d_La_law_1132 : decode code 1132 = .ok (.aload_n 0, 1) := by decide +kernel
theorem d_La_law_1133 : decode code 1133 = .ok (.iload 4, 2) := by decide +kernel
theorem d_La_law_1135 : decode code 1135 = .ok (.iconst 1, 1) := by decide +kernel
theorem d_La_law_1136 : decode code 1136 = .ok (.iadd, 1) := by decide +kernel
theorem d_La_law_1137 : decode code 1137 = .ok (.iaload, 1) := by decide +kernel
theorem d_La_law_1138 : decode code 1138 = .ok (.aload_n 0, 1) := by decide +kernel
theorem d_La_law_1139 : decode code 1139 = .ok (.iload 4, 2) := by decide +kernel
theorem d_La_law_1141 : decode code 1141 = .ok (.iconst 2, 1) := by decide +kernel
theorem d_La_law_1142 : decode code 1142 = .ok (.iadd, 1) := by decide +kernel
theorem d_La_law_1143 : decode code 1143 = .ok (.iaload, 1) := by decide +kernel
theorem d_La_law_1144 : decode code 1144 = .ok (.aload_n 3, 1) := by decide +kernel
theorem d_La_law_1145 : decode code 1145 = .ok (.invokestatic 143, 3) := by decide +kernel
theorem d_La_law_1148 : decode code 1148 = .ok (.istore 5, 2) := by decide +kernel
theorem d_La_law_1150 : decode code 1150 = .ok (.aload_n 2, 1) := by decide +kernel
theorem d_La_law_1151 : decode code 1151 = .ok (.aload_n 0, 1) := by decide +kernel
theorem d_La_law_1152 : decode code 1152 = .ok (.iload 4, 2) := by decide +kernel
theorem d_La_law_1154 : decode code 1154 = .ok (.iconst 1, 1) := by decide +kernel
theorem d_La_law_1155 : decode code 1155 = .ok (.iadd, 1) := by decide +kernel
theorem d_La_law_1156 : decode code 1156 = .ok (.iaload, 1) := by decide +kernel
theorem d_La_law_1157 : decode code 1157 = .ok (.aload_n 0, 1) := by decide +kernel
theorem d_La_law_1158 : decode code 1158 = .ok (.iload 4, 2) := by decide +kernel
theorem d_La_law_1160 : decode code 1160 = .ok (.iconst 2, 1) := by decide +kernel
theorem d_La_law_1161 : decode code 1161 = .ok (.iadd, 1) := by decide +kernel
theorem d_La_law_1162 : decode code 1162 = .ok (.iaload, 1) := by decide +kernel
theorem d_La_law_1163 : decode code 1163 = .ok (.invokevirtual 145, 3) := by decide +kernel
theorem d_La_law_1166 : decode code 1166 = .ok (.istore 6, 2) := by decide +kernel
theorem d_La_law_1168 : decode code 1168 = .ok (.aload_n 2, 1) := by decide +kernel
theorem d_La_law_1169 : decode code 1169 = .ok (.invokevirtual 75, 3) := by decide +kernel
theorem d_La_law_1172 : decode code 1172 = .ok (.iload 5, 2) := by decide +kernel
theorem d_La_law_1174 : decode code 1174 = .ok (.if_icmp .eq 5, 3) := by decide +kernel
theorem d_La_law_1177 : decode code 1177 = .ok (.iconst 0, 1) := by decide +kernel
theorem d_La_law_1178 : decode code 1178 = .ok (.ireturn, 1) := by decide +kernel
theorem d_La_law_1179 : decode code 1179 = .ok (.iload 5, 2) := by decide +kernel
theorem d_La_law_1181 : decode code 1181 = .ok (.ifCond .ne 15, 3) := by decide +kernel
theorem d_La_law_1184 : decode code 1184 = .ok (.aload_n 3, 1) := by decide +kernel
theorem d_La_law_1185 : decode code 1185 = .ok (.iconst 0, 1) := by decide +kernel
theorem d_La_law_1186 : decode code 1186 = .ok (.laload, 1) := by decide +kernel
theorem d_La_law_1187 : decode code 1187 = .ok (.iload 6, 2) := by decide +kernel
theorem d_La_law_1189 : decode code 1189 = .ok (.i2l, 1) := by decide +kernel
theorem d_La_law_1190 : decode code 1190 = .ok (.lcmp, 1) := by decide +kernel
theorem d_La_law_1191 : decode code 1191 = .ok (.ifCond .eq 5, 3) := by decide +kernel
theorem d_La_law_1194 : decode code 1194 = .ok (.iconst 0, 1) := by decide +kernel
theorem d_La_law_1195 : decode code 1195 = .ok (.ireturn, 1) := by decide +kernel
theorem d_La_law_1196 : decode code 1196 = .ok (.goto 3, 3) := by decide +kernel
theorem d_La_law_1199 : decode code 1199 = .ok (.iinc 4 5, 3) := by decide +kernel
theorem d_La_law_1202 : decode code 1202 = .ok (.goto (-1179), 3) := by decide +kernel
theorem d_La_law_1205 : decode code 1205 = .ok (.iconst 1, 1) := by decide +kernel
theorem d_La_law_1206 : decode code 1206 = .ok (.ireturn, 1) := by decide +kernel
