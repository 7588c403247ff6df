/-! decode rows of SoundStream$Sound, by program -/
theorem d_So_init_0 : decode prog_8_method_1_code 0 = .ok (.aload_n 0, 1) := by decide +kernel
theorem d_So_init_1 : decode prog_8_method_1_code 1 = .ok (.invokespecial 3, 3) := by decide +kernel
theorem d_So_init_4 : decode prog_8_method_1_code 4 = .ok (.aload_n 0, 1) := by decide +kernel
theorem d_So_init_5 : decode prog_8_method_1_code 5 = .ok (.iconst 1, 1) := by decide +kernel
theorem d_So_init_6 : decode prog_8_method_1_code 6 = .ok (.putfield 9, 3) := by decide +kernel
theorem d_So_init_9 : decode prog_8_method_1_code 9 = .ok (.aload_n 0, 1) := by decide +kernel
theorem d_So_init_10 : decode prog_8_method_1_code 10 = .ok (.bipush 16, 2) := by decide +kernel
theorem d_So_init_12 : decode prog_8_method_1_code 12 = .ok (.putfield 15, 3) := by decide +kernel
theorem d_So_init_15 : decode prog_8_method_1_code 15 = .ok (.aload_n 0, 1) := by decide +kernel
theorem d_So_init_16 : decode prog_8_method_1_code 16 = .ok (.bipush 64, 2) := by decide +kernel
theorem d_So_init_18 : decode prog_8_method_1_code 18 = .ok (.putfield 18, 3) := by decide +kernel
theorem d_So_init_21 : decode prog_8_method_1_code 21 = .ok (.aload_n 0, 1) := by decide +kernel
theorem d_So_init_22 : decode prog_8_method_1_code 22 = .ok (.sipush 8000, 3) := by decide +kernel
theorem d_So_init_25 : decode prog_8_method_1_code 25 = .ok (.putfield 21, 3) := by decide +kernel
theorem d_So_init_28 : decode prog_8_method_1_code 28 = .ok (.aload_n 0, 1) := by decide +kernel
theorem d_So_init_29 : decode prog_8_method_1_code 29 = .ok (.iconst 2, 1) := by decide +kernel
theorem d_So_init_30 : decode prog_8_method_1_code 30 = .ok (.sipush 1200, 3) := by decide +kernel
theorem d_So_init_33 : decode prog_8_method_1_code 33 = .ok (.multianewarray 24 2, 4) := by decide +kernel
theorem d_So_init_37 : decode prog_8_method_1_code 37 = .ok (.putfield 26, 3) := by decide +kernel
theorem d_So_init_40 : decode prog_8_method_1_code 40 = .ok (.aload_n 0, 1) := by decide +kernel
theorem d_So_init_41 : decode prog_8_method_1_code 41 = .ok (.iconst 2, 1) := by decide +kernel
theorem d_So_init_42 : decode prog_8_method_1_code 42 = .ok (.newarray .int, 2) := by decide +kernel
theorem d_So_init_44 : decode prog_8_method_1_code 44 = .ok (.putfield 29, 3) := by decide +kernel
theorem d_So_init_47 : decode prog_8_method_1_code 47 = .ok (.return_, 1) := by decide +kernel
theorem d_So_shape_0 : decode prog_8_method_2_code 0 = .ok (.aload_n 0, 1) := by decide +kernel
theorem d_So_shape_1 : decode prog_8_method_2_code 1 = .ok (.iload_n 1, 1) := by decide +kernel
theorem d_So_shape_2 : decode prog_8_method_2_code 2 = .ok (.putfield 9, 3) := by decide +kernel
theorem d_So_shape_5 : decode prog_8_method_2_code 5 = .ok (.aload_n 0, 1) := by decide +kernel
theorem d_So_shape_6 : decode prog_8_method_2_code 6 = .ok (.iload_n 2, 1) := by decide +kernel
theorem d_So_shape_7 : decode prog_8_method_2_code 7 = .ok (.putfield 15, 3) := by decide +kernel
theorem d_So_shape_10 : decode prog_8_method_2_code 10 = .ok (.aload_n 0, 1) := by decide +kernel
theorem d_So_shape_11 : decode prog_8_method_2_code 11 = .ok (.iload_n 3, 1) := by decide +kernel
theorem d_So_shape_12 : decode prog_8_method_2_code 12 = .ok (.putfield 18, 3) := by decide +kernel
theorem d_So_shape_15 : decode prog_8_method_2_code 15 = .ok (.aload_n 0, 1) := by decide +kernel
theorem d_So_shape_16 : decode prog_8_method_2_code 16 = .ok (.iload 4, 2) := by decide +kernel
theorem d_So_shape_18 : decode prog_8_method_2_code 18 = .ok (.putfield 21, 3) := by decide +kernel
theorem d_So_shape_21 : decode prog_8_method_2_code 21 = .ok (.return_, 1) := by decide +kernel
theorem d_So_empty_0 : decode prog_8_method_3_code 0 = .ok (.aload_n 0, 1) := by decide +kernel
theorem d_So_empty_1 : decode prog_8_method_3_code 1 = .ok (.getfield 29, 3) := by decide +kernel
theorem d_So_empty_4 : decode prog_8_method_3_code 4 = .ok (.iconst 0, 1) := by decide +kernel
theorem d_So_empty_5 : decode prog_8_method_3_code 5 = .ok (.iconst 0, 1) := by decide +kernel
theorem d_So_empty_6 : decode prog_8_method_3_code 6 = .ok (.iastore, 1) := by decide +kernel
theorem d_So_empty_7 : decode prog_8_method_3_code 7 = .ok (.aload_n 0, 1) := by decide +kernel
theorem d_So_empty_8 : decode prog_8_method_3_code 8 = .ok (.getfield 29, 3) := by decide +kernel
theorem d_So_empty_11 : decode prog_8_method_3_code 11 = .ok (.iconst 1, 1) := by decide +kernel
theorem d_So_empty_12 : decode prog_8_method_3_code 12 = .ok (.iconst 0, 1) := by decide +kernel
theorem d_So_empty_13 : decode prog_8_method_3_code 13 = .ok (.iastore, 1) := by decide +kernel
theorem d_So_empty_14 : decode prog_8_method_3_code 14 = .ok (.return_, 1) := by decide +kernel
theorem d_So_hasChannel_0 : decode prog_8_method_4_code 0 = .ok (.iload_n 1, 1) := by decide +kernel
theorem d_So_hasChannel_1 : decode prog_8_method_4_code 1 = .ok (.ifCond .lt 15, 3) := by decide +kernel
theorem d_So_hasChannel_4 : decode prog_8_method_4_code 4 = .ok (.iload_n 1, 1) := by decide +kernel
theorem d_So_hasChannel_5 : decode prog_8_method_4_code 5 = .ok (.aload_n 0, 1) := by decide +kernel
theorem d_So_hasChannel_6 : decode prog_8_method_4_code 6 = .ok (.getfield 9, 3) := by decide +kernel
theorem d_So_hasChannel_9 : decode prog_8_method_4_code 9 = .ok (.if_icmp .ge 7, 3) := by decide +kernel
theorem d_So_hasChannel_12 : decode prog_8_method_4_code 12 = .ok (.iconst 1, 1) := by decide +kernel
theorem d_So_hasChannel_13 : decode prog_8_method_4_code 13 = .ok (.goto 4, 3) := by decide +kernel
theorem d_So_hasChannel_16 : decode prog_8_method_4_code 16 = .ok (.iconst 0, 1) := by decide +kernel
theorem d_So_hasChannel_17 : decode prog_8_method_4_code 17 = .ok (.ireturn, 1) := by decide +kernel
theorem d_So_hasSample_0 : decode prog_8_method_5_code 0 = .ok (.iload_n 2, 1) := by decide +kernel
theorem d_So_hasSample_1 : decode prog_8_method_5_code 1 = .ok (.ifCond .lt 17, 3) := by decide +kernel
theorem d_So_hasSample_4 : decode prog_8_method_5_code 4 = .ok (.iload_n 2, 1) := by decide +kernel
theorem d_So_hasSample_5 : decode prog_8_method_5_code 5 = .ok (.aload_n 0, 1) := by decide +kernel
theorem d_So_hasSample_6 : decode prog_8_method_5_code 6 = .ok (.getfield 29, 3) := by decide +kernel
theorem d_So_hasSample_9 : decode prog_8_method_5_code 9 = .ok (.iload_n 1, 1) := by decide +kernel
theorem d_So_hasSample_10 : decode prog_8_method_5_code 10 = .ok (.iaload, 1) := by decide +kernel
theorem d_So_hasSample_11 : decode prog_8_method_5_code 11 = .ok (.if_icmp .ge 7, 3) := by decide +kernel
theorem d_So_hasSample_14 : decode prog_8_method_5_code 14 = .ok (.iconst 1, 1) := by decide +kernel
theorem d_So_hasSample_15 : decode prog_8_method_5_code 15 = .ok (.goto 4, 3) := by decide +kernel
theorem d_So_hasSample_18 : decode prog_8_method_5_code 18 = .ok (.iconst 0, 1) := by decide +kernel
theorem d_So_hasSample_19 : decode prog_8_method_5_code 19 = .ok (.ireturn, 1) := by decide +kernel
theorem d_So_isEven_0 : decode prog_8_method_6_code 0 = .ok (.aload_n 0, 1) := by decide +kernel
theorem d_So_isEven_1 : decode prog_8_method_6_code 1 = .ok (.getfield 9, 3) := by decide +kernel
theorem d_So_isEven_4 : decode prog_8_method_6_code 4 = .ok (.iconst 1, 1) := by decide +kernel
theorem d_So_isEven_5 : decode prog_8_method_6_code 5 = .ok (.if_icmp .eq 18, 3) := by decide +kernel
theorem d_So_isEven_8 : decode prog_8_method_6_code 8 = .ok (.aload_n 0, 1) := by decide +kernel
theorem d_So_isEven_9 : decode prog_8_method_6_code 9 = .ok (.getfield 29, 3) := by decide +kernel
theorem d_So_isEven_12 : decode prog_8_method_6_code 12 = .ok (.iconst 0, 1) := by decide +kernel
theorem d_So_isEven_13 : decode prog_8_method_6_code 13 = .ok (.iaload, 1) := by decide +kernel
theorem d_So_isEven_14 : decode prog_8_method_6_code 14 = .ok (.aload_n 0, 1) := by decide +kernel
theorem d_So_isEven_15 : decode prog_8_method_6_code 15 = .ok (.getfield 29, 3) := by decide +kernel
theorem d_So_isEven_18 : decode prog_8_method_6_code 18 = .ok (.iconst 1, 1) := by decide +kernel
theorem d_So_isEven_19 : decode prog_8_method_6_code 19 = .ok (.iaload, 1) := by decide +kernel
theorem d_So_isEven_20 : decode prog_8_method_6_code 20 = .ok (.if_icmp .ne 7, 3) := by decide +kernel
theorem d_So_isEven_23 : decode prog_8_method_6_code 23 = .ok (.iconst 1, 1) := by decide +kernel
theorem d_So_isEven_24 : decode prog_8_method_6_code 24 = .ok (.goto 4, 3) := by decide +kernel
theorem d_So_isEven_27 : decode prog_8_method_6_code 27 = .ok (.iconst 0, 1) := by decide +kernel
theorem d_So_isEven_28 : decode prog_8_method_6_code 28 = .ok (.ireturn, 1) := by decide +kernel
theorem d_So_room_0 : decode prog_8_method_7_code 0 = .ok (.sipush 1200, 3) := by decide +kernel
theorem d_So_room_3 : decode prog_8_method_7_code 3 = .ok (.aload_n 0, 1) := by decide +kernel
theorem d_So_room_4 : decode prog_8_method_7_code 4 = .ok (.getfield 29, 3) := by decide +kernel
theorem d_So_room_7 : decode prog_8_method_7_code 7 = .ok (.iload_n 1, 1) := by decide +kernel
theorem d_So_room_8 : decode prog_8_method_7_code 8 = .ok (.iaload, 1) := by decide +kernel
theorem d_So_room_9 : decode prog_8_method_7_code 9 = .ok (.isub, 1) := by decide +kernel
theorem d_So_room_10 : decode prog_8_method_7_code 10 = .ok (.ireturn, 1) := by decide +kernel
theorem d_So_append_0 : decode prog_8_method_8_code 0 = .ok (.bipush 32, 2) := by decide +kernel
theorem d_So_append_2 : decode prog_8_method_8_code 2 = .ok (.aload_n 0, 1) := by decide +kernel
theorem d_So_append_3 : decode prog_8_method_8_code 3 = .ok (.getfield 15, 3) := by decide +kernel
theorem d_So_append_6 : decode prog_8_method_8_code 6 = .ok (.isub, 1) := by decide +kernel
theorem d_So_append_7 : decode prog_8_method_8_code 7 = .ok (.istore_n 3, 1) := by decide +kernel
theorem d_So_append_8 : decode prog_8_method_8_code 8 = .ok (.aload_n 0, 1) := by decide +kernel
theorem d_So_append_9 : decode prog_8_method_8_code 9 = .ok (.getfield 26, 3) := by decide +kernel
theorem d_So_append_12 : decode prog_8_method_8_code 12 = .ok (.iload_n 1, 1) := by decide +kernel
theorem d_So_append_13 : decode prog_8_method_8_code 13 = .ok (.aaload, 1) := by decide +kernel
theorem d_So_append_14 : decode prog_8_method_8_code 14 = .ok (.aload_n 0, 1) := by decide +kernel
theorem d_So_append_15 : decode prog_8_method_8_code 15 = .ok (.getfield 29, 3) := by decide +kernel
theorem d_So_append_18 : decode prog_8_method_8_code 18 = .ok (.iload_n 1, 1) := by decide +kernel
theorem d_So_append_19 : decode prog_8_method_8_code 19 = .ok (.iaload, 1) := by decide +kernel
theorem d_So_append_20 : decode prog_8_method_8_code 20 = .ok (.iload_n 2, 1) := by decide +kernel
theorem d_So_append_21 : decode prog_8_method_8_code 21 = .ok (.iload_n 3, 1) := by decide +kernel
theorem d_So_append_22 : decode prog_8_method_8_code 22 = .ok (.ishl, 1) := by decide +kernel
theorem d_So_append_23 : decode prog_8_method_8_code 23 = .ok (.iload_n 3, 1) := by decide +kernel
theorem d_So_append_24 : decode prog_8_method_8_code 24 = .ok (.ishr, 1) := by decide +kernel
theorem d_So_append_25 : decode prog_8_method_8_code 25 = .ok (.iastore, 1) := by decide +kernel
theorem d_So_append_26 : decode prog_8_method_8_code 26 = .ok (.aload_n 0, 1) := by decide +kernel
theorem d_So_append_27 : decode prog_8_method_8_code 27 = .ok (.getfield 29, 3) := by decide +kernel
theorem d_So_append_30 : decode prog_8_method_8_code 30 = .ok (.iload_n 1, 1) := by decide +kernel
theorem d_So_append_31 : decode prog_8_method_8_code 31 = .ok (.dup2, 1) := by decide +kernel
theorem d_So_append_32 : decode prog_8_method_8_code 32 = .ok (.iaload, 1) := by decide +kernel
theorem d_So_append_33 : decode prog_8_method_8_code 33 = .ok (.iconst 1, 1) := by decide +kernel
theorem d_So_append_34 : decode prog_8_method_8_code 34 = .ok (.iadd, 1) := by decide +kernel
theorem d_So_append_35 : decode prog_8_method_8_code 35 = .ok (.iastore, 1) := by decide +kernel
theorem d_So_append_36 : decode prog_8_method_8_code 36 = .ok (.return_, 1) := by decide +kernel
