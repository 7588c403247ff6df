/-! the JDK's own methods that the class calls, by program (wip/gen/jdk.py) -/
abbrev c_Jnlz : ByteArray := prog_21_method_47_code
def m_Jnlz : xm_T := (⟨"java/lang/Integer", "numberOfLeadingZeros", "(I)I"⟩, c_Jnlz, 2, (some (FieldType.int)), { frames := 9, cells := 2, slots := 12, locals := 260 })
theorem ok_Jnlz : xm_ok m_Jnlz 1 := ⟨xw_in5 185 rfl rfl, xw_in1 21 rfl rfl, ⟨by decide, by decide⟩, by decide +kernel⟩
theorem st_Jnlz : Cond.static m_Jnlz.1 ∈ xw_tbl := xw_in5 184 rfl rfl
theorem d_Jnlz_0 : decode prog_21_method_47_code 0 = .ok (.iload_n 0, 1) := by decide +kernel
theorem d_Jnlz_1 : decode prog_21_method_47_code 1 = .ok (.ifCond .gt 14, 3) := by decide +kernel
theorem d_Jnlz_4 : decode prog_21_method_47_code 4 = .ok (.iload_n 0, 1) := by decide +kernel
theorem d_Jnlz_5 : decode prog_21_method_47_code 5 = .ok (.ifCond .ne 8, 3) := by decide +kernel
theorem d_Jnlz_8 : decode prog_21_method_47_code 8 = .ok (.bipush 32, 2) := by decide +kernel
theorem d_Jnlz_10 : decode prog_21_method_47_code 10 = .ok (.goto 4, 3) := by decide +kernel
theorem d_Jnlz_13 : decode prog_21_method_47_code 13 = .ok (.iconst 0, 1) := by decide +kernel
theorem d_Jnlz_14 : decode prog_21_method_47_code 14 = .ok (.ireturn, 1) := by decide +kernel
theorem d_Jnlz_15 : decode prog_21_method_47_code 15 = .ok (.bipush 31, 2) := by decide +kernel
theorem d_Jnlz_17 : decode prog_21_method_47_code 17 = .ok (.istore_n 1, 1) := by decide +kernel
theorem d_Jnlz_18 : decode prog_21_method_47_code 18 = .ok (.iload_n 0, 1) := by decide +kernel
theorem d_Jnlz_19 : decode prog_21_method_47_code 19 = .ok (.ldc_w 264, 3) := by decide +kernel
theorem d_Jnlz_22 : decode prog_21_method_47_code 22 = .ok (.if_icmp .lt 11, 3) := by decide +kernel
theorem d_Jnlz_25 : decode prog_21_method_47_code 25 = .ok (.iinc 1 (-16), 3) := by decide +kernel
theorem d_Jnlz_28 : decode prog_21_method_47_code 28 = .ok (.iload_n 0, 1) := by decide +kernel
theorem d_Jnlz_29 : decode prog_21_method_47_code 29 = .ok (.bipush 16, 2) := by decide +kernel
theorem d_Jnlz_31 : decode prog_21_method_47_code 31 = .ok (.iushr, 1) := by decide +kernel
theorem d_Jnlz_32 : decode prog_21_method_47_code 32 = .ok (.istore_n 0, 1) := by decide +kernel
theorem d_Jnlz_33 : decode prog_21_method_47_code 33 = .ok (.iload_n 0, 1) := by decide +kernel
theorem d_Jnlz_34 : decode prog_21_method_47_code 34 = .ok (.sipush 256, 3) := by decide +kernel
theorem d_Jnlz_37 : decode prog_21_method_47_code 37 = .ok (.if_icmp .lt 11, 3) := by decide +kernel
theorem d_Jnlz_40 : decode prog_21_method_47_code 40 = .ok (.iinc 1 (-8), 3) := by decide +kernel
theorem d_Jnlz_43 : decode prog_21_method_47_code 43 = .ok (.iload_n 0, 1) := by decide +kernel
theorem d_Jnlz_44 : decode prog_21_method_47_code 44 = .ok (.bipush 8, 2) := by decide +kernel
theorem d_Jnlz_46 : decode prog_21_method_47_code 46 = .ok (.iushr, 1) := by decide +kernel
theorem d_Jnlz_47 : decode prog_21_method_47_code 47 = .ok (.istore_n 0, 1) := by decide +kernel
theorem d_Jnlz_48 : decode prog_21_method_47_code 48 = .ok (.iload_n 0, 1) := by decide +kernel
theorem d_Jnlz_49 : decode prog_21_method_47_code 49 = .ok (.bipush 16, 2) := by decide +kernel
theorem d_Jnlz_51 : decode prog_21_method_47_code 51 = .ok (.if_icmp .lt 10, 3) := by decide +kernel
theorem d_Jnlz_54 : decode prog_21_method_47_code 54 = .ok (.iinc 1 (-4), 3) := by decide +kernel
theorem d_Jnlz_57 : decode prog_21_method_47_code 57 = .ok (.iload_n 0, 1) := by decide +kernel
theorem d_Jnlz_58 : decode prog_21_method_47_code 58 = .ok (.iconst 4, 1) := by decide +kernel
theorem d_Jnlz_59 : decode prog_21_method_47_code 59 = .ok (.iushr, 1) := by decide +kernel
theorem d_Jnlz_60 : decode prog_21_method_47_code 60 = .ok (.istore_n 0, 1) := by decide +kernel
theorem d_Jnlz_61 : decode prog_21_method_47_code 61 = .ok (.iload_n 0, 1) := by decide +kernel
theorem d_Jnlz_62 : decode prog_21_method_47_code 62 = .ok (.iconst 4, 1) := by decide +kernel
theorem d_Jnlz_63 : decode prog_21_method_47_code 63 = .ok (.if_icmp .lt 10, 3) := by decide +kernel
theorem d_Jnlz_66 : decode prog_21_method_47_code 66 = .ok (.iinc 1 (-2), 3) := by decide +kernel
theorem d_Jnlz_69 : decode prog_21_method_47_code 69 = .ok (.iload_n 0, 1) := by decide +kernel
theorem d_Jnlz_70 : decode prog_21_method_47_code 70 = .ok (.iconst 2, 1) := by decide +kernel
theorem d_Jnlz_71 : decode prog_21_method_47_code 71 = .ok (.iushr, 1) := by decide +kernel
theorem d_Jnlz_72 : decode prog_21_method_47_code 72 = .ok (.istore_n 0, 1) := by decide +kernel
theorem d_Jnlz_73 : decode prog_21_method_47_code 73 = .ok (.iload_n 1, 1) := by decide +kernel
theorem d_Jnlz_74 : decode prog_21_method_47_code 74 = .ok (.iload_n 0, 1) := by decide +kernel
theorem d_Jnlz_75 : decode prog_21_method_47_code 75 = .ok (.iconst 1, 1) := by decide +kernel
theorem d_Jnlz_76 : decode prog_21_method_47_code 76 = .ok (.iushr, 1) := by decide +kernel
theorem d_Jnlz_77 : decode prog_21_method_47_code 77 = .ok (.isub, 1) := by decide +kernel
theorem d_Jnlz_78 : decode prog_21_method_47_code 78 = .ok (.ireturn, 1) := by decide +kernel
abbrev c_Jntz : ByteArray := prog_21_method_48_code
def m_Jntz : xm_T := (⟨"java/lang/Integer", "numberOfTrailingZeros", "(I)I"⟩, c_Jntz, 2, (some (FieldType.int)), { frames := 9, cells := 2, slots := 12, locals := 260 })
theorem ok_Jntz : xm_ok m_Jntz 1 := ⟨xw_in5 139 rfl rfl, xw_in1 21 rfl rfl, ⟨by decide, by decide⟩, by decide +kernel⟩
theorem st_Jntz : Cond.static m_Jntz.1 ∈ xw_tbl := xw_in5 138 rfl rfl
theorem d_Jntz_0 : decode prog_21_method_48_code 0 = .ok (.iload_n 0, 1) := by decide +kernel
theorem d_Jntz_1 : decode prog_21_method_48_code 1 = .ok (.iconst (-1), 1) := by decide +kernel
theorem d_Jntz_2 : decode prog_21_method_48_code 2 = .ok (.ixor, 1) := by decide +kernel
theorem d_Jntz_3 : decode prog_21_method_48_code 3 = .ok (.iload_n 0, 1) := by decide +kernel
theorem d_Jntz_4 : decode prog_21_method_48_code 4 = .ok (.iconst 1, 1) := by decide +kernel
theorem d_Jntz_5 : decode prog_21_method_48_code 5 = .ok (.isub, 1) := by decide +kernel
theorem d_Jntz_6 : decode prog_21_method_48_code 6 = .ok (.iand, 1) := by decide +kernel
theorem d_Jntz_7 : decode prog_21_method_48_code 7 = .ok (.istore_n 0, 1) := by decide +kernel
theorem d_Jntz_8 : decode prog_21_method_48_code 8 = .ok (.iload_n 0, 1) := by decide +kernel
theorem d_Jntz_9 : decode prog_21_method_48_code 9 = .ok (.ifCond .gt 8, 3) := by decide +kernel
theorem d_Jntz_12 : decode prog_21_method_48_code 12 = .ok (.iload_n 0, 1) := by decide +kernel
theorem d_Jntz_13 : decode prog_21_method_48_code 13 = .ok (.bipush 32, 2) := by decide +kernel
theorem d_Jntz_15 : decode prog_21_method_48_code 15 = .ok (.iand, 1) := by decide +kernel
theorem d_Jntz_16 : decode prog_21_method_48_code 16 = .ok (.ireturn, 1) := by decide +kernel
theorem d_Jntz_17 : decode prog_21_method_48_code 17 = .ok (.iconst 1, 1) := by decide +kernel
theorem d_Jntz_18 : decode prog_21_method_48_code 18 = .ok (.istore_n 1, 1) := by decide +kernel
theorem d_Jntz_19 : decode prog_21_method_48_code 19 = .ok (.iload_n 0, 1) := by decide +kernel
theorem d_Jntz_20 : decode prog_21_method_48_code 20 = .ok (.ldc_w 264, 3) := by decide +kernel
theorem d_Jntz_23 : decode prog_21_method_48_code 23 = .ok (.if_icmp .le 11, 3) := by decide +kernel
theorem d_Jntz_26 : decode prog_21_method_48_code 26 = .ok (.iinc 1 16, 3) := by decide +kernel
theorem d_Jntz_29 : decode prog_21_method_48_code 29 = .ok (.iload_n 0, 1) := by decide +kernel
theorem d_Jntz_30 : decode prog_21_method_48_code 30 = .ok (.bipush 16, 2) := by decide +kernel
theorem d_Jntz_32 : decode prog_21_method_48_code 32 = .ok (.iushr, 1) := by decide +kernel
theorem d_Jntz_33 : decode prog_21_method_48_code 33 = .ok (.istore_n 0, 1) := by decide +kernel
theorem d_Jntz_34 : decode prog_21_method_48_code 34 = .ok (.iload_n 0, 1) := by decide +kernel
theorem d_Jntz_35 : decode prog_21_method_48_code 35 = .ok (.sipush 256, 3) := by decide +kernel
theorem d_Jntz_38 : decode prog_21_method_48_code 38 = .ok (.if_icmp .le 11, 3) := by decide +kernel
theorem d_Jntz_41 : decode prog_21_method_48_code 41 = .ok (.iinc 1 8, 3) := by decide +kernel
theorem d_Jntz_44 : decode prog_21_method_48_code 44 = .ok (.iload_n 0, 1) := by decide +kernel
theorem d_Jntz_45 : decode prog_21_method_48_code 45 = .ok (.bipush 8, 2) := by decide +kernel
theorem d_Jntz_47 : decode prog_21_method_48_code 47 = .ok (.iushr, 1) := by decide +kernel
theorem d_Jntz_48 : decode prog_21_method_48_code 48 = .ok (.istore_n 0, 1) := by decide +kernel
theorem d_Jntz_49 : decode prog_21_method_48_code 49 = .ok (.iload_n 0, 1) := by decide +kernel
theorem d_Jntz_50 : decode prog_21_method_48_code 50 = .ok (.bipush 16, 2) := by decide +kernel
theorem d_Jntz_52 : decode prog_21_method_48_code 52 = .ok (.if_icmp .le 10, 3) := by decide +kernel
theorem d_Jntz_55 : decode prog_21_method_48_code 55 = .ok (.iinc 1 4, 3) := by decide +kernel
theorem d_Jntz_58 : decode prog_21_method_48_code 58 = .ok (.iload_n 0, 1) := by decide +kernel
theorem d_Jntz_59 : decode prog_21_method_48_code 59 = .ok (.iconst 4, 1) := by decide +kernel
theorem d_Jntz_60 : decode prog_21_method_48_code 60 = .ok (.iushr, 1) := by decide +kernel
theorem d_Jntz_61 : decode prog_21_method_48_code 61 = .ok (.istore_n 0, 1) := by decide +kernel
theorem d_Jntz_62 : decode prog_21_method_48_code 62 = .ok (.iload_n 0, 1) := by decide +kernel
theorem d_Jntz_63 : decode prog_21_method_48_code 63 = .ok (.iconst 4, 1) := by decide +kernel
theorem d_Jntz_64 : decode prog_21_method_48_code 64 = .ok (.if_icmp .le 10, 3) := by decide +kernel
theorem d_Jntz_67 : decode prog_21_method_48_code 67 = .ok (.iinc 1 2, 3) := by decide +kernel
theorem d_Jntz_70 : decode prog_21_method_48_code 70 = .ok (.iload_n 0, 1) := by decide +kernel
theorem d_Jntz_71 : decode prog_21_method_48_code 71 = .ok (.iconst 2, 1) := by decide +kernel
theorem d_Jntz_72 : decode prog_21_method_48_code 72 = .ok (.iushr, 1) := by decide +kernel
theorem d_Jntz_73 : decode prog_21_method_48_code 73 = .ok (.istore_n 0, 1) := by decide +kernel
theorem d_Jntz_74 : decode prog_21_method_48_code 74 = .ok (.iload_n 1, 1) := by decide +kernel
theorem d_Jntz_75 : decode prog_21_method_48_code 75 = .ok (.iload_n 0, 1) := by decide +kernel
theorem d_Jntz_76 : decode prog_21_method_48_code 76 = .ok (.iconst 1, 1) := by decide +kernel
theorem d_Jntz_77 : decode prog_21_method_48_code 77 = .ok (.iushr, 1) := by decide +kernel
theorem d_Jntz_78 : decode prog_21_method_48_code 78 = .ok (.iadd, 1) := by decide +kernel
theorem d_Jntz_79 : decode prog_21_method_48_code 79 = .ok (.ireturn, 1) := by decide +kernel
abbrev c_Jmax : ByteArray := prog_22_method_65_code
def m_Jmax : xm_T := (⟨"java/lang/Math", "max", "(II)I"⟩, c_Jmax, 2, (some (FieldType.int)), { frames := 9, cells := 2, slots := 12, locals := 260 })
theorem ok_Jmax : xm_ok m_Jmax 2 := ⟨xw_in3 172 rfl rfl, xw_in1 20 rfl rfl, ⟨by decide, by decide⟩, by decide +kernel⟩
theorem st_Jmax : Cond.static m_Jmax.1 ∈ xw_tbl := xw_in3 171 rfl rfl
theorem d_Jmax_0 : decode prog_22_method_65_code 0 = .ok (.iload_n 0, 1) := by decide +kernel
theorem d_Jmax_1 : decode prog_22_method_65_code 1 = .ok (.iload_n 1, 1) := by decide +kernel
theorem d_Jmax_2 : decode prog_22_method_65_code 2 = .ok (.if_icmp .lt 7, 3) := by decide +kernel
theorem d_Jmax_5 : decode prog_22_method_65_code 5 = .ok (.iload_n 0, 1) := by decide +kernel
theorem d_Jmax_6 : decode prog_22_method_65_code 6 = .ok (.goto 4, 3) := by decide +kernel
theorem d_Jmax_9 : decode prog_22_method_65_code 9 = .ok (.iload_n 1, 1) := by decide +kernel
theorem d_Jmax_10 : decode prog_22_method_65_code 10 = .ok (.ireturn, 1) := by decide +kernel
abbrev c_Jmin : ByteArray := prog_22_method_69_code
def m_Jmin : xm_T := (⟨"java/lang/Math", "min", "(II)I"⟩, c_Jmin, 2, (some (FieldType.int)), { frames := 9, cells := 2, slots := 12, locals := 260 })
theorem ok_Jmin : xm_ok m_Jmin 2 := ⟨xw_in3 190 rfl rfl, xw_in1 20 rfl rfl, ⟨by decide, by decide⟩, by decide +kernel⟩
theorem st_Jmin : Cond.static m_Jmin.1 ∈ xw_tbl := xw_in3 189 rfl rfl
theorem d_Jmin_0 : decode prog_22_method_69_code 0 = .ok (.iload_n 0, 1) := by decide +kernel
theorem d_Jmin_1 : decode prog_22_method_69_code 1 = .ok (.iload_n 1, 1) := by decide +kernel
theorem d_Jmin_2 : decode prog_22_method_69_code 2 = .ok (.if_icmp .gt 7, 3) := by decide +kernel
theorem d_Jmin_5 : decode prog_22_method_69_code 5 = .ok (.iload_n 0, 1) := by decide +kernel
theorem d_Jmin_6 : decode prog_22_method_69_code 6 = .ok (.goto 4, 3) := by decide +kernel
theorem d_Jmin_9 : decode prog_22_method_69_code 9 = .ok (.iload_n 1, 1) := by decide +kernel
theorem d_Jmin_10 : decode prog_22_method_69_code 10 = .ok (.ireturn, 1) := by decide +kernel
abbrev c_Jfill : ByteArray := prog_30_method_103_code
def m_Jfill : xm_T := (⟨"java/util/Arrays", "fill", "([II)V"⟩, c_Jfill, 4, none, { frames := 9, cells := 2, slots := 12, locals := 260 })
theorem ok_Jfill : xm_ok m_Jfill 2 := ⟨xw_in4 196 rfl rfl, xw_in1 19 rfl rfl, ⟨by decide, by decide⟩, by decide +kernel⟩
theorem st_Jfill : Cond.static m_Jfill.1 ∈ xw_tbl := xw_in4 195 rfl rfl
theorem d_Jfill_0 : decode prog_30_method_103_code 0 = .ok (.iconst 0, 1) := by decide +kernel
theorem d_Jfill_1 : decode prog_30_method_103_code 1 = .ok (.istore_n 2, 1) := by decide +kernel
theorem d_Jfill_2 : decode prog_30_method_103_code 2 = .ok (.aload_n 0, 1) := by decide +kernel
theorem d_Jfill_3 : decode prog_30_method_103_code 3 = .ok (.arraylength, 1) := by decide +kernel
theorem d_Jfill_4 : decode prog_30_method_103_code 4 = .ok (.istore_n 3, 1) := by decide +kernel
theorem d_Jfill_5 : decode prog_30_method_103_code 5 = .ok (.iload_n 2, 1) := by decide +kernel
theorem d_Jfill_6 : decode prog_30_method_103_code 6 = .ok (.iload_n 3, 1) := by decide +kernel
theorem d_Jfill_7 : decode prog_30_method_103_code 7 = .ok (.if_icmp .ge 13, 3) := by decide +kernel
theorem d_Jfill_10 : decode prog_30_method_103_code 10 = .ok (.aload_n 0, 1) := by decide +kernel
theorem d_Jfill_11 : decode prog_30_method_103_code 11 = .ok (.iload_n 2, 1) := by decide +kernel
theorem d_Jfill_12 : decode prog_30_method_103_code 12 = .ok (.iload_n 1, 1) := by decide +kernel
theorem d_Jfill_13 : decode prog_30_method_103_code 13 = .ok (.iastore, 1) := by decide +kernel
theorem d_Jfill_14 : decode prog_30_method_103_code 14 = .ok (.iinc 2 1, 3) := by decide +kernel
theorem d_Jfill_17 : decode prog_30_method_103_code 17 = .ok (.goto (-12), 3) := by decide +kernel
theorem d_Jfill_20 : decode prog_30_method_103_code 20 = .ok (.return_, 1) := by decide +kernel
abbrev c_Jfillr : ByteArray := prog_30_method_104_code
def m_Jfillr : xm_T := (⟨"java/util/Arrays", "fill", "([IIII)V"⟩, c_Jfillr, 5, none, { frames := 9, cells := 2, slots := 12, locals := 260 })
theorem ok_Jfillr : xm_ok m_Jfillr 4 := ⟨xw_in3 103 rfl rfl, xw_in1 19 rfl rfl, ⟨by decide, by decide⟩, by decide +kernel⟩
theorem st_Jfillr : Cond.static m_Jfillr.1 ∈ xw_tbl := xw_in3 102 rfl rfl
theorem d_Jfillr_0 : decode prog_30_method_104_code 0 = .ok (.aload_n 0, 1) := by decide +kernel
theorem d_Jfillr_1 : decode prog_30_method_104_code 1 = .ok (.arraylength, 1) := by decide +kernel
theorem d_Jfillr_2 : decode prog_30_method_104_code 2 = .ok (.iload_n 1, 1) := by decide +kernel
theorem d_Jfillr_3 : decode prog_30_method_104_code 3 = .ok (.iload_n 2, 1) := by decide +kernel
theorem d_Jfillr_4 : decode prog_30_method_104_code 4 = .ok (.invokestatic 13, 3) := by decide +kernel
theorem d_Jfillr_7 : decode prog_30_method_104_code 7 = .ok (.iload_n 1, 1) := by decide +kernel
theorem d_Jfillr_8 : decode prog_30_method_104_code 8 = .ok (.istore 4, 2) := by decide +kernel
theorem d_Jfillr_10 : decode prog_30_method_104_code 10 = .ok (.iload 4, 2) := by decide +kernel
theorem d_Jfillr_12 : decode prog_30_method_104_code 12 = .ok (.iload_n 2, 1) := by decide +kernel
theorem d_Jfillr_13 : decode prog_30_method_104_code 13 = .ok (.if_icmp .ge 14, 3) := by decide +kernel
theorem d_Jfillr_16 : decode prog_30_method_104_code 16 = .ok (.aload_n 0, 1) := by decide +kernel
theorem d_Jfillr_17 : decode prog_30_method_104_code 17 = .ok (.iload 4, 2) := by decide +kernel
theorem d_Jfillr_19 : decode prog_30_method_104_code 19 = .ok (.iload_n 3, 1) := by decide +kernel
theorem d_Jfillr_20 : decode prog_30_method_104_code 20 = .ok (.iastore, 1) := by decide +kernel
theorem d_Jfillr_21 : decode prog_30_method_104_code 21 = .ok (.iinc 4 1, 3) := by decide +kernel
theorem d_Jfillr_24 : decode prog_30_method_104_code 24 = .ok (.goto (-14), 3) := by decide +kernel
theorem d_Jfillr_27 : decode prog_30_method_104_code 27 = .ok (.return_, 1) := by decide +kernel
abbrev c_Jfilll : ByteArray := prog_30_method_101_code
def m_Jfilll : xm_T := (⟨"java/util/Arrays", "fill", "([JJ)V"⟩, c_Jfilll, 5, none, { frames := 9, cells := 2, slots := 12, locals := 260 })
theorem ok_Jfilll : xm_ok m_Jfilll 2 := ⟨xw_in5 164 rfl rfl, xw_in1 19 rfl rfl, ⟨by decide, by decide⟩, by decide +kernel⟩
theorem st_Jfilll : Cond.static m_Jfilll.1 ∈ xw_tbl := xw_in5 163 rfl rfl
theorem d_Jfilll_0 : decode prog_30_method_101_code 0 = .ok (.iconst 0, 1) := by decide +kernel
theorem d_Jfilll_1 : decode prog_30_method_101_code 1 = .ok (.istore_n 3, 1) := by decide +kernel
theorem d_Jfilll_2 : decode prog_30_method_101_code 2 = .ok (.aload_n 0, 1) := by decide +kernel
theorem d_Jfilll_3 : decode prog_30_method_101_code 3 = .ok (.arraylength, 1) := by decide +kernel
theorem d_Jfilll_4 : decode prog_30_method_101_code 4 = .ok (.istore 4, 2) := by decide +kernel
theorem d_Jfilll_6 : decode prog_30_method_101_code 6 = .ok (.iload_n 3, 1) := by decide +kernel
theorem d_Jfilll_7 : decode prog_30_method_101_code 7 = .ok (.iload 4, 2) := by decide +kernel
theorem d_Jfilll_9 : decode prog_30_method_101_code 9 = .ok (.if_icmp .ge 13, 3) := by decide +kernel
theorem d_Jfilll_12 : decode prog_30_method_101_code 12 = .ok (.aload_n 0, 1) := by decide +kernel
theorem d_Jfilll_13 : decode prog_30_method_101_code 13 = .ok (.iload_n 3, 1) := by decide +kernel
theorem d_Jfilll_14 : decode prog_30_method_101_code 14 = .ok (.lload_n 1, 1) := by decide +kernel
theorem d_Jfilll_15 : decode prog_30_method_101_code 15 = .ok (.lastore, 1) := by decide +kernel
theorem d_Jfilll_16 : decode prog_30_method_101_code 16 = .ok (.iinc 3 1, 3) := by decide +kernel
theorem d_Jfilll_19 : decode prog_30_method_101_code 19 = .ok (.goto (-13), 3) := by decide +kernel
theorem d_Jfilll_22 : decode prog_30_method_101_code 22 = .ok (.return_, 1) := by decide +kernel
abbrev c_Jrange : ByteArray := prog_30_method_30_code
def m_Jrange : xm_T := (⟨"java/util/Arrays", "rangeCheck", "(III)V"⟩, c_Jrange, 3, none, { frames := 8, cells := 1, slots := 6, locals := 200 })
theorem ok_Jrange : xm_ok m_Jrange 3 := ⟨xw_in3 106 rfl rfl, xw_in1 19 rfl rfl, ⟨by decide, by decide⟩, by decide +kernel⟩
theorem st_Jrange : Cond.static m_Jrange.1 ∈ xw_tbl := xw_in3 105 rfl rfl
theorem d_Jrange_0 : decode prog_30_method_30_code 0 = .ok (.iload_n 1, 1) := by decide +kernel
theorem d_Jrange_1 : decode prog_30_method_30_code 1 = .ok (.iload_n 2, 1) := by decide +kernel
theorem d_Jrange_2 : decode prog_30_method_30_code 2 = .ok (.if_icmp .le 44, 3) := by decide +kernel
theorem d_Jrange_5 : decode prog_30_method_30_code 5 = .ok (.new 43, 3) := by decide +kernel
theorem d_Jrange_8 : decode prog_30_method_30_code 8 = .ok (.dup, 1) := by decide +kernel
theorem d_Jrange_9 : decode prog_30_method_30_code 9 = .ok (.new 45, 3) := by decide +kernel
theorem d_Jrange_12 : decode prog_30_method_30_code 12 = .ok (.dup, 1) := by decide +kernel
theorem d_Jrange_13 : decode prog_30_method_30_code 13 = .ok (.invokespecial 47, 3) := by decide +kernel
theorem d_Jrange_16 : decode prog_30_method_30_code 16 = .ok (.ldc 48, 2) := by decide +kernel
theorem d_Jrange_18 : decode prog_30_method_30_code 18 = .ok (.invokevirtual 50, 3) := by decide +kernel
theorem d_Jrange_21 : decode prog_30_method_30_code 21 = .ok (.iload_n 1, 1) := by decide +kernel
theorem d_Jrange_22 : decode prog_30_method_30_code 22 = .ok (.invokevirtual 54, 3) := by decide +kernel
theorem d_Jrange_25 : decode prog_30_method_30_code 25 = .ok (.ldc 57, 2) := by decide +kernel
theorem d_Jrange_27 : decode prog_30_method_30_code 27 = .ok (.invokevirtual 50, 3) := by decide +kernel
theorem d_Jrange_30 : decode prog_30_method_30_code 30 = .ok (.iload_n 2, 1) := by decide +kernel
theorem d_Jrange_31 : decode prog_30_method_30_code 31 = .ok (.invokevirtual 54, 3) := by decide +kernel
theorem d_Jrange_34 : decode prog_30_method_30_code 34 = .ok (.ldc 59, 2) := by decide +kernel
theorem d_Jrange_36 : decode prog_30_method_30_code 36 = .ok (.invokevirtual 50, 3) := by decide +kernel
theorem d_Jrange_39 : decode prog_30_method_30_code 39 = .ok (.invokevirtual 61, 3) := by decide +kernel
theorem d_Jrange_42 : decode prog_30_method_30_code 42 = .ok (.invokespecial 65, 3) := by decide +kernel
theorem d_Jrange_45 : decode prog_30_method_30_code 45 = .ok (.athrow, 1) := by decide +kernel
theorem d_Jrange_46 : decode prog_30_method_30_code 46 = .ok (.iload_n 1, 1) := by decide +kernel
theorem d_Jrange_47 : decode prog_30_method_30_code 47 = .ok (.ifCond .ge 12, 3) := by decide +kernel
theorem d_Jrange_50 : decode prog_30_method_30_code 50 = .ok (.new 68, 3) := by decide +kernel
theorem d_Jrange_53 : decode prog_30_method_30_code 53 = .ok (.dup, 1) := by decide +kernel
theorem d_Jrange_54 : decode prog_30_method_30_code 54 = .ok (.iload_n 1, 1) := by decide +kernel
theorem d_Jrange_55 : decode prog_30_method_30_code 55 = .ok (.invokespecial 70, 3) := by decide +kernel
theorem d_Jrange_58 : decode prog_30_method_30_code 58 = .ok (.athrow, 1) := by decide +kernel
theorem d_Jrange_59 : decode prog_30_method_30_code 59 = .ok (.iload_n 2, 1) := by decide +kernel
theorem d_Jrange_60 : decode prog_30_method_30_code 60 = .ok (.iload_n 0, 1) := by decide +kernel
theorem d_Jrange_61 : decode prog_30_method_30_code 61 = .ok (.if_icmp .le 12, 3) := by decide +kernel
theorem d_Jrange_64 : decode prog_30_method_30_code 64 = .ok (.new 68, 3) := by decide +kernel
theorem d_Jrange_67 : decode prog_30_method_30_code 67 = .ok (.dup, 1) := by decide +kernel
theorem d_Jrange_68 : decode prog_30_method_30_code 68 = .ok (.iload_n 2, 1) := by decide +kernel
theorem d_Jrange_69 : decode prog_30_method_30_code 69 = .ok (.invokespecial 70, 3) := by decide +kernel
theorem d_Jrange_72 : decode prog_30_method_30_code 72 = .ok (.athrow, 1) := by decide +kernel
theorem d_Jrange_73 : decode prog_30_method_30_code 73 = .ok (.return_, 1) := by decide +kernel
theorem l_Di_57 : Cond.methodLink R_Di 57 m_Jfill.1 ∈ xw_tbl := xw_in4 194 rfl rfl
theorem l_En_79 : Cond.methodLink R_En 79 m_Jmin.1 ∈ xw_tbl := xw_in5 120 rfl rfl
theorem l_En_186 : Cond.methodLink R_En 186 m_Jfillr.1 ∈ xw_tbl := xw_in6 7 rfl rfl
theorem l_En_198 : Cond.methodLink R_En 198 m_Jmax.1 ∈ xw_tbl := xw_in6 12 rfl rfl
theorem l_Re_23 : Cond.methodLink R_Re 23 arraycopyName ∈ xw_tbl := xw_in5 145 rfl rfl
theorem l_Re_72 : Cond.methodLink R_Re 72 m_Jfilll.1 ∈ xw_tbl := xw_in5 162 rfl rfl
theorem l_Re_93 : Cond.methodLink R_Re 93 m_Jnlz.1 ∈ xw_tbl := xw_in5 183 rfl rfl
theorem l_Su_67 : Cond.methodLink R_Su 67 m_Jntz.1 ∈ xw_tbl := xw_in5 137 rfl rfl
theorem l_Sr_50 : Cond.methodLink R_Sr 50 m_Jfillr.1 ∈ xw_tbl := xw_in3 101 rfl rfl
theorem l_Sr_75 : Cond.methodLink R_Sr 75 arraycopyName ∈ xw_tbl := xw_in4 158 rfl rfl
theorem l_Ar_13 : Cond.methodLink "java/util/Arrays" 13 m_Jrange.1 ∈ xw_tbl := xw_in3 104 rfl rfl
theorem l_Ar_304 : Cond.methodLink "java/util/Arrays" 304 m_Jmin.1 ∈ xw_tbl := xw_in3 188 rfl rfl
theorem k_In_264 : Cond.constant "java/lang/Integer" 264 (65536) ∈ xw_tbl := xw_in5 140 rfl rfl
theorem st_copy : Cond.static arraycopyName ∈ xw_tbl := xw_in3 192 rfl rfl
theorem nat_copy : Cond.native arraycopyName ∈ xw_tbl := xw_in3 193 rfl rfl
theorem ini_Sys : Cond.initialized "java/lang/System" ∈ xw_tbl := xw_in1 22 rfl rfl
/-! ROWS: the length of an array of the world, arraycopy, ldc_w, a static method of the nest -/
section XJ
variable {x : xg_T} {y : xw_T} {KK : State → Prop} {own : String} {cc : ByteArray} {nL : Nat} {nc ns pc : Nat} {L : List (Option Value)} {S : List Value} {h : xw_H}
theorem ra_alen (A : xg_A x y KK own cc nL) {k t0 t len : Nat} {ty : FieldType} (hty : xw_tys[t0]? = some ty) (d : decode cc pc = .ok (.arraylength, 1)) (hk : k < xw_n y) (hkd : xw_kd y k = .inr (t0, t, len))
    (kk : xg x y nc ns (pc + 1) L (.int (nI len) :: S) h) : xg x y nc ns pc L (.ref k :: S) h := by
  obtain ⟨X, rfl, rfl, rfl, HW, g, hmv, hKK, hB⟩ := A
  obtain ⟨p, l, e, R, s, m, args, below, meth, c, Q, cc, own, nL⟩ := x
  obtain ⟨hx, hb, hml, hown⟩ := X
  intro H locs ls hP hS hL
  exact va_alen hx hb g.2.1 hP k t0 (xw_arr hk hkd) (xw_tyAt g hty) rfl d (kk H locs ls hP hS hL)
theorem ra_ldcw (A : xg_A x y KK own cc nL) {idx : Nat} {a : Int32} (hc : Cond.constant own idx a ∈ xw_tbl) (d : decode cc pc = .ok (.ldc_w idx, 3)) (kk : xg x y nc ns (pc + 3) L (.int a :: S) h) : xg x y nc ns pc L S h := by
  obtain ⟨X, rfl, rfl, rfl, HW, g, hmv, hKK, hB⟩ := A
  obtain ⟨p, l, e, R, s, m, args, below, meth, c, Q, cc, own, nL⟩ := x
  obtain ⟨hx, hb, hml, hown⟩ := X
  intro H locs ls hP hS hL
  exact lv_ldcw hx hb hown (HW _ hc) d (kk H locs ls hP hS hL)
/-- a static method that is private in another class of the nest -/
theorem ra_callSN (A : xg_A x y KK own cc nL) {M : xm_T} {n index : Nat} {host : String} (ok : xm_ok M n) (hlink : va_Nw (.methodLinkNest own index M.1 host) (xg_s x)) (hstat : Cond.static M.1 ∈ xw_tbl)
    (d : decode cc pc = .ok (.invokestatic index, 3)) {As : List Value} (hn : As.length = n) (hW : (S.map fun v => v.category).sum ≤ 8) (hR : xm_room x nc ns M)
    (hM : xm_M (xg_l x) y KK M As h (xg_K x y nc ns pc L S)) : xg x y nc ns pc L (As.reverse ++ S) h := by
  obtain ⟨X, rfl, rfl, rfl, HW, g, hmv, hKK, hB⟩ := A
  obtain ⟨p, l, e, R, s, m, args, below, meth, c, Q, cc, own, nL⟩ := x
  obtain ⟨hx, hb, hml, hown⟩ := X
  intro H locs ls hP hS hL T0 hT St
  have hts : ∀ w ∈ xw_tbl, w.before args s = true := HW
  obtain ⟨mk, hnamed⟩ := Cond.code_named (hts _ ok.1)
  obtain ⟨methM, cM, hmethM, -, -, -, -, -, -, hsigM⟩ := Cond.code_spec hnamed (hts _ ok.1)
  have hstatic : methM.isStatic = true := Cond.static_spec hnamed hmethM (hts _ hstat)
  obtain ⟨kP, hkP, -⟩ := className_of_methodNamed hnamed
  have hinitP : kP.init = .initialized := Cond.initialized_spec (findClass_of_methodNamed hnamed) hkP (hts _ ok.2.1)
  obtain ⟨vm₁, X₁, hstep₁⟩ := St.invokestaticNest hx hown (va_tabs rfl rfl hlink) hnamed hmethM hstatic hkP hinitP ok.2.2.1 (g := F0 m pc ls ((As.reverse ++ S).map (xw_v (xw_ph y)))) rfl (argsL := As.map (xw_v (xw_ph y))) (rest := S.map (xw_v (xw_ph y)))
    (by
      rw [List.length_map, hn]
      have h2 := ok.2.2.2
      rw [hsigM] at h2
      exact (Option.some.inj h2).symm) (xm_map _ _ _) (by rw [hb]; exact d)
  obtain ⟨t, st, hq⟩ := xm_after hmv hKK hB hts ok hR hM hb hml d hW hP hS hL hT X₁ (X₁.named hnamed)
  exact ⟨t, hstep₁ _ (fun acts => by rw [doInvoke_state]; exact st), hq⟩
/-- n ints of the row a behind the place sp become those of the row b behind dp -/
def xw_cp (h : xw_H) (a b sp dp n : Nat) : xw_H := (va_up h.1 b (va_cpy (h.1 a) (h.1 b) sp dp n), h.2)
theorem xw_setCp {y : xw_T} {h : xw_H} {a b t0 len sp dp n : Nat} (hk : b < xw_n y) (hkd : xw_kd y b = .inr (t0, 0, len)) : (xw_W y h).set b (xw_ph y b, .inl (((xw_ty y).getD t0 (0, .int)).1, len, .inl (va_cpy (h.1 a) (h.1 b) sp dp n))) = xw_W y (xw_cp h a b sp dp n) := by
  refine xw_ne_set hk ?_ (fun q hq => ?_)
  · unfold xw_ce
    rw [hkd]
    show Sum.inl (_, len, Sum.inl _) = _
    simp [xw_cp, va_up]
  · unfold xw_ce xw_cp
    simp only [va_up_ne _ _ hq]
theorem ra_copy (A : xg_A x y KK own cc nL) {index a b la lb sp dp n : Nat} (hlink : Cond.methodLink own index arraycopyName ∈ xw_tbl) (d : decode cc pc = .ok (.invokestatic index, 3)) (ha : a < xw_n y) (hb : b < xw_n y) (hka : xw_kd y a = .inr (0, 0, la)) (hkb : xw_kd y b = .inr (0, 0, lb)) (h4 : sp + n ≤ la) (h5 : dp + n ≤ lb) (hla : la < 2 ^ 31) (hlb : lb < 2 ^ 31)
    (hR : 1 ≤ (xm_R x).frames ∧ (S.map fun v => v.category).sum + (nativeFrameWords "java/lang/System" "arraycopy" 5 + 11) ≤ (xm_R x).locals)
    (kk : xg x y nc ns (pc + 3) L S (xw_cp h a b sp dp n)) : xg x y nc ns pc L (.int (nI n) :: .int (nI dp) :: .ref b :: .int (nI sp) :: .ref a :: S) h := by
  obtain ⟨X, rfl, rfl, rfl, HW, g, hmv, hKK, hB⟩ := A
  obtain ⟨p, l, e, R, s, m, args, below, meth, c, Q, cc, own, nL⟩ := x
  obtain ⟨hx, hb', hml, hown⟩ := X
  intro H locs ls hP hS hL
  refine va_copyi hx hb' (hml.trans hL.1.symm) hown (HW _ hlink) (HW _ nat_copy) (HW _ st_copy) (HW _ ini_Sys) g.2.1 hP (xw_apart h g.1) hS a b 0 0 (xw_arr ha hka) (xw_arr hb hkb) (xw_tyAt g rfl) (xw_tyAt g rfl) rfl (nI_pos (by omega)) (nI_pos (by omega)) (nI_pos (by omega)) (by rw [nI_clamp (by omega), nI_clamp (by omega)]; exact h4) (by rw [nI_clamp (by omega), nI_clamp (by omega)]; exact h5) (fun _ _ => rfl) hR.1 (by rw [xm_cats]; exact hR.2) d (fun H1 locs1 hP1 _ hS1 => ?_)
  rw [nI_clamp (by omega), nI_clamp (by omega), nI_clamp (by omega), xw_setCp hb hkb] at hP1
  exact kk H1 locs1 ls hP1 hS1 hL
end XJ
