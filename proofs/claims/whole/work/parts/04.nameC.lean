abbrev c_SS_init : ByteArray := prog_1_method_1_code
def m_SS_init : xm_T := (⟨R_SS, "<init>", "()V"⟩, c_SS_init, 1, none, { frames := 12, cells := 5, slots := 30, locals := 440 })
theorem ok_SS_init : xm_ok m_SS_init 0 := ⟨xw_in1 35 rfl rfl, xw_in1 1 rfl rfl, ⟨by decide, by decide⟩, by decide +kernel⟩
theorem im_SS_init : Cond.instanceMethod m_SS_init.1 ∈ xw_tbl := xw_in1 34 rfl rfl
abbrev c_SS_form : ByteArray := prog_1_method_2_code
def m_SS_form : xm_T := (⟨R_SS, "form", "(IIII)V"⟩, c_SS_form, 5, none, { frames := 10, cells := 3, slots := 18, locals := 320 })
theorem ok_SS_form : xm_ok m_SS_form 4 := ⟨xw_in5 5 rfl rfl, xw_in1 1 rfl rfl, ⟨by decide, by decide⟩, by decide +kernel⟩
theorem im_SS_form : Cond.instanceMethod m_SS_form.1 ∈ xw_tbl := xw_in5 3 rfl rfl
theorem sl_SS_form : Cond.selects m_SS_form.1.cls m_SS_form.1 m_SS_form.1 ∈ xw_tbl := xw_in5 4 rfl rfl
abbrev c_SS_sample : ByteArray := prog_1_method_3_code
def m_SS_sample : xm_T := (⟨R_SS, "sample", "(II)I"⟩, c_SS_sample, 3, (some (FieldType.int)), { frames := 11, cells := 4, slots := 24, locals := 380 })
theorem ok_SS_sample : xm_ok m_SS_sample 2 := ⟨xw_in5 18 rfl rfl, xw_in1 1 rfl rfl, ⟨by decide, by decide⟩, by decide +kernel⟩
theorem im_SS_sample : Cond.instanceMethod m_SS_sample.1 ∈ xw_tbl := xw_in5 16 rfl rfl
theorem sl_SS_sample : Cond.selects m_SS_sample.1.cls m_SS_sample.1 m_SS_sample.1 ∈ xw_tbl := xw_in5 17 rfl rfl
abbrev c_SS_ramp : ByteArray := prog_1_method_4_code
def m_SS_ramp : xm_T := (⟨R_SS, "ramp", "(IIII)I"⟩, c_SS_ramp, 7, (some (FieldType.int)), { frames := 10, cells := 3, slots := 18, locals := 320 })
theorem ok_SS_ramp : xm_ok m_SS_ramp 4 := ⟨xw_in5 22 rfl rfl, xw_in1 1 rfl rfl, ⟨by decide, by decide⟩, by decide +kernel⟩
theorem im_SS_ramp : Cond.instanceMethod m_SS_ramp.1 ∈ xw_tbl := xw_in5 20 rfl rfl
theorem sl_SS_ramp : Cond.selects m_SS_ramp.1.cls m_SS_ramp.1 m_SS_ramp.1 ∈ xw_tbl := xw_in5 21 rfl rfl
abbrev c_SS_noise : ByteArray := prog_1_method_5_code
def m_SS_noise : xm_T := (⟨R_SS, "noise", "(IIII)I"⟩, c_SS_noise, 7, (some (FieldType.int)), { frames := 10, cells := 3, slots := 18, locals := 320 })
theorem ok_SS_noise : xm_ok m_SS_noise 4 := ⟨xw_in5 46 rfl rfl, xw_in1 1 rfl rfl, ⟨by decide, by decide⟩, by decide +kernel⟩
theorem im_SS_noise : Cond.instanceMethod m_SS_noise.1 ∈ xw_tbl := xw_in5 44 rfl rfl
theorem sl_SS_noise : Cond.selects m_SS_noise.1.cls m_SS_noise.1 m_SS_noise.1 ∈ xw_tbl := xw_in5 45 rfl rfl
abbrev c_SS_clear : ByteArray := prog_1_method_6_code
def m_SS_clear : xm_T := (⟨R_SS, "clear", "()V"⟩, c_SS_clear, 1, none, { frames := 10, cells := 3, slots := 18, locals := 320 })
theorem ok_SS_clear : xm_ok m_SS_clear 0 := ⟨xw_in2 132 rfl rfl, xw_in1 1 rfl rfl, ⟨by decide, by decide⟩, by decide +kernel⟩
theorem im_SS_clear : Cond.instanceMethod m_SS_clear.1 ∈ xw_tbl := xw_in2 130 rfl rfl
theorem sl_SS_clear : Cond.selects m_SS_clear.1.cls m_SS_clear.1 m_SS_clear.1 ∈ xw_tbl := xw_in2 131 rfl rfl
abbrev c_SS_at : ByteArray := prog_1_method_7_code
def m_SS_at : xm_T := (⟨R_SS, "at", "(II)I"⟩, c_SS_at, 3, (some (FieldType.int)), { frames := 10, cells := 3, slots := 18, locals := 320 })
theorem ok_SS_at : xm_ok m_SS_at 2 := ⟨xw_in5 56 rfl rfl, xw_in1 1 rfl rfl, ⟨by decide, by decide⟩, by decide +kernel⟩
theorem im_SS_at : Cond.instanceMethod m_SS_at.1 ∈ xw_tbl := xw_in5 54 rfl rfl
theorem sl_SS_at : Cond.selects m_SS_at.1.cls m_SS_at.1 m_SS_at.1 ∈ xw_tbl := xw_in5 55 rfl rfl
abbrev c_SS_sum : ByteArray := prog_1_method_8_code
def m_SS_sum : xm_T := (⟨R_SS, "sum", "(I)J"⟩, c_SS_sum, 2, (some (FieldType.long)), { frames := 13, cells := 6, slots := 36, locals := 500 })
theorem ok_SS_sum : xm_ok m_SS_sum 1 := ⟨xw_in5 82 rfl rfl, xw_in1 1 rfl rfl, ⟨by decide, by decide⟩, by decide +kernel⟩
theorem im_SS_sum : Cond.instanceMethod m_SS_sum.1 ∈ xw_tbl := xw_in5 80 rfl rfl
theorem sl_SS_sum : Cond.selects m_SS_sum.1.cls m_SS_sum.1 m_SS_sum.1 ∈ xw_tbl := xw_in5 81 rfl rfl
abbrev c_SS_encode : ByteArray := prog_1_method_9_code
def m_SS_encode : xm_T := (⟨R_SS, "encode", "(Z)I"⟩, c_SS_encode, 2, (some (FieldType.int)), { frames := 16, cells := 9, slots := 54, locals := 680 })
theorem ok_SS_encode : xm_ok m_SS_encode 1 := ⟨xw_in5 98 rfl rfl, xw_in1 1 rfl rfl, ⟨by decide, by decide⟩, by decide +kernel⟩
theorem im_SS_encode : Cond.instanceMethod m_SS_encode.1 ∈ xw_tbl := xw_in5 96 rfl rfl
theorem sl_SS_encode : Cond.selects m_SS_encode.1.cls m_SS_encode.1 m_SS_encode.1 ∈ xw_tbl := xw_in5 97 rfl rfl
abbrev c_SS_told : ByteArray := prog_1_method_10_code
def m_SS_told : xm_T := (⟨R_SS, "told", "(I)I"⟩, c_SS_told, 2, (some (FieldType.int)), { frames := 10, cells := 3, slots := 18, locals := 320 })
theorem ok_SS_told : xm_ok m_SS_told 1 := ⟨xw_in6 23 rfl rfl, xw_in1 1 rfl rfl, ⟨by decide, by decide⟩, by decide +kernel⟩
theorem im_SS_told : Cond.instanceMethod m_SS_told.1 ∈ xw_tbl := xw_in6 21 rfl rfl
theorem sl_SS_told : Cond.selects m_SS_told.1.cls m_SS_told.1 m_SS_told.1 ∈ xw_tbl := xw_in6 22 rfl rfl
abbrev c_SS_frame : ByteArray := prog_1_method_11_code
def m_SS_frame : xm_T := (⟨R_SS, "frame", "(II)I"⟩, c_SS_frame, 3, (some (FieldType.int)), { frames := 10, cells := 3, slots := 18, locals := 320 })
theorem ok_SS_frame : xm_ok m_SS_frame 2 := ⟨xw_in6 35 rfl rfl, xw_in1 1 rfl rfl, ⟨by decide, by decide⟩, by decide +kernel⟩
theorem im_SS_frame : Cond.instanceMethod m_SS_frame.1 ∈ xw_tbl := xw_in6 33 rfl rfl
theorem sl_SS_frame : Cond.selects m_SS_frame.1.cls m_SS_frame.1 m_SS_frame.1 ∈ xw_tbl := xw_in6 34 rfl rfl
abbrev c_SS_stream : ByteArray := prog_1_method_12_code
def m_SS_stream : xm_T := (⟨R_SS, "stream", "(I)J"⟩, c_SS_stream, 5, (some (FieldType.long)), { frames := 10, cells := 3, slots := 18, locals := 320 })
theorem ok_SS_stream : xm_ok m_SS_stream 1 := ⟨xw_in2 140 rfl rfl, xw_in1 1 rfl rfl, ⟨by decide, by decide⟩, by decide +kernel⟩
theorem im_SS_stream : Cond.instanceMethod m_SS_stream.1 ∈ xw_tbl := xw_in2 138 rfl rfl
theorem sl_SS_stream : Cond.selects m_SS_stream.1.cls m_SS_stream.1 m_SS_stream.1 ∈ xw_tbl := xw_in2 139 rfl rfl
abbrev c_SS_feed : ByteArray := prog_1_method_13_code
def m_SS_feed : xm_T := (⟨R_SS, "feed", "(IJ)I"⟩, c_SS_feed, 5, (some (FieldType.int)), { frames := 10, cells := 3, slots := 18, locals := 320 })
theorem ok_SS_feed : xm_ok m_SS_feed 2 := ⟨xw_in6 43 rfl rfl, xw_in1 1 rfl rfl, ⟨by decide, by decide⟩, by decide +kernel⟩
theorem im_SS_feed : Cond.instanceMethod m_SS_feed.1 ∈ xw_tbl := xw_in6 41 rfl rfl
theorem sl_SS_feed : Cond.selects m_SS_feed.1.cls m_SS_feed.1 m_SS_feed.1 ∈ xw_tbl := xw_in6 42 rfl rfl
abbrev c_SS_cut : ByteArray := prog_1_method_14_code
def m_SS_cut : xm_T := (⟨R_SS, "cut", "(I)I"⟩, c_SS_cut, 3, (some (FieldType.int)), { frames := 10, cells := 3, slots := 18, locals := 320 })
theorem ok_SS_cut : xm_ok m_SS_cut 1 := ⟨xw_in6 52 rfl rfl, xw_in1 1 rfl rfl, ⟨by decide, by decide⟩, by decide +kernel⟩
theorem im_SS_cut : Cond.instanceMethod m_SS_cut.1 ∈ xw_tbl := xw_in6 50 rfl rfl
theorem sl_SS_cut : Cond.selects m_SS_cut.1.cls m_SS_cut.1 m_SS_cut.1 ∈ xw_tbl := xw_in6 51 rfl rfl
abbrev c_SS_spoil : ByteArray := prog_1_method_15_code
def m_SS_spoil : xm_T := (⟨R_SS, "spoil", "(II)I"⟩, c_SS_spoil, 4, (some (FieldType.int)), { frames := 10, cells := 3, slots := 18, locals := 320 })
theorem ok_SS_spoil : xm_ok m_SS_spoil 2 := ⟨xw_in6 60 rfl rfl, xw_in1 1 rfl rfl, ⟨by decide, by decide⟩, by decide +kernel⟩
theorem im_SS_spoil : Cond.instanceMethod m_SS_spoil.1 ∈ xw_tbl := xw_in6 58 rfl rfl
theorem sl_SS_spoil : Cond.selects m_SS_spoil.1.cls m_SS_spoil.1 m_SS_spoil.1 ∈ xw_tbl := xw_in6 59 rfl rfl
abbrev c_SS_seal : ByteArray := prog_1_method_16_code
def m_SS_seal : xm_T := (⟨R_SS, "seal", "(III)V"⟩, c_SS_seal, 5, none, { frames := 11, cells := 4, slots := 24, locals := 380 })
theorem ok_SS_seal : xm_ok m_SS_seal 3 := ⟨xw_in6 70 rfl rfl, xw_in1 1 rfl rfl, ⟨by decide, by decide⟩, by decide +kernel⟩
theorem im_SS_seal : Cond.instanceMethod m_SS_seal.1 ∈ xw_tbl := xw_in6 68 rfl rfl
theorem sl_SS_seal : Cond.selects m_SS_seal.1.cls m_SS_seal.1 m_SS_seal.1 ∈ xw_tbl := xw_in6 69 rfl rfl
abbrev c_SS_fault : ByteArray := prog_1_method_18_code
def m_SS_fault : xm_T := (⟨R_SS, "fault", "()I"⟩, c_SS_fault, 1, (some (FieldType.int)), { frames := 9, cells := 2, slots := 12, locals := 260 })
theorem ok_SS_fault : xm_ok m_SS_fault 0 := ⟨xw_in4 233 rfl rfl, xw_in1 1 rfl rfl, ⟨by decide, by decide⟩, by decide +kernel⟩
theorem im_SS_fault : Cond.instanceMethod m_SS_fault.1 ∈ xw_tbl := xw_in4 231 rfl rfl
theorem sl_SS_fault : Cond.selects m_SS_fault.1.cls m_SS_fault.1 m_SS_fault.1 ∈ xw_tbl := xw_in4 232 rfl rfl
abbrev c_SS_place : ByteArray := prog_1_method_19_code
def m_SS_place : xm_T := (⟨R_SS, "place", "()I"⟩, c_SS_place, 1, (some (FieldType.int)), { frames := 9, cells := 2, slots := 12, locals := 260 })
theorem ok_SS_place : xm_ok m_SS_place 0 := ⟨xw_in4 237 rfl rfl, xw_in1 1 rfl rfl, ⟨by decide, by decide⟩, by decide +kernel⟩
theorem im_SS_place : Cond.instanceMethod m_SS_place.1 ∈ xw_tbl := xw_in4 235 rfl rfl
theorem sl_SS_place : Cond.selects m_SS_place.1.cls m_SS_place.1 m_SS_place.1 ∈ xw_tbl := xw_in4 236 rfl rfl
abbrev c_SS_heard : ByteArray := prog_1_method_20_code
def m_SS_heard : xm_T := (⟨R_SS, "heard", "(II)I"⟩, c_SS_heard, 3, (some (FieldType.int)), { frames := 10, cells := 3, slots := 18, locals := 320 })
theorem ok_SS_heard : xm_ok m_SS_heard 2 := ⟨xw_in6 80 rfl rfl, xw_in1 1 rfl rfl, ⟨by decide, by decide⟩, by decide +kernel⟩
theorem im_SS_heard : Cond.instanceMethod m_SS_heard.1 ∈ xw_tbl := xw_in6 78 rfl rfl
theorem sl_SS_heard : Cond.selects m_SS_heard.1.cls m_SS_heard.1 m_SS_heard.1 ∈ xw_tbl := xw_in6 79 rfl rfl
abbrev c_SS_bytesOfNumber : ByteArray := prog_1_method_21_code
def m_SS_bytesOfNumber : xm_T := (⟨R_SS, "bytesOfNumber", "(I)I"⟩, c_SS_bytesOfNumber, 1, (some (FieldType.int)), { frames := 9, cells := 2, slots := 12, locals := 260 })
theorem ok_SS_bytesOfNumber : xm_ok m_SS_bytesOfNumber 1 := ⟨xw_in3 62 rfl rfl, xw_in1 1 rfl rfl, ⟨by decide, by decide⟩, by decide +kernel⟩
theorem st_SS_bytesOfNumber : Cond.static m_SS_bytesOfNumber.1 ∈ xw_tbl := xw_in3 61 rfl rfl
abbrev c_SS_byteOfNumber : ByteArray := prog_1_method_22_code
def m_SS_byteOfNumber : xm_T := (⟨R_SS, "byteOfNumber", "(II)I"⟩, c_SS_byteOfNumber, 2, (some (FieldType.int)), { frames := 9, cells := 2, slots := 12, locals := 260 })
theorem ok_SS_byteOfNumber : xm_ok m_SS_byteOfNumber 2 := ⟨xw_in3 65 rfl rfl, xw_in1 1 rfl rfl, ⟨by decide, by decide⟩, by decide +kernel⟩
theorem st_SS_byteOfNumber : Cond.static m_SS_byteOfNumber.1 ∈ xw_tbl := xw_in3 64 rfl rfl
abbrev c_Mo_init : ByteArray := prog_13_method_1_code
def m_Mo_init : xm_T := (⟨R_Mo, "<init>", "()V"⟩, c_Mo_init, 1, none, { frames := 10, cells := 3, slots := 18, locals := 320 })
theorem ok_Mo_init : xm_ok m_Mo_init 0 := ⟨xw_in6 86 rfl rfl, xw_in1 12 rfl rfl, ⟨by decide, by decide⟩, by decide +kernel⟩
theorem im_Mo_init : Cond.instanceMethod m_Mo_init.1 ∈ xw_tbl := xw_in6 85 rfl rfl
abbrev c_Mo_thrown : ByteArray := prog_13_method_2_code
def m_Mo_thrown : xm_T := (⟨R_Mo, "thrown", "()I"⟩, c_Mo_thrown, 1, (some (FieldType.int)), { frames := 9, cells := 2, slots := 12, locals := 260 })
theorem ok_Mo_thrown : xm_ok m_Mo_thrown 0 := ⟨xw_in7 36 rfl rfl, xw_in1 12 rfl rfl, ⟨by decide, by decide⟩, by decide +kernel⟩
theorem im_Mo_thrown : Cond.instanceMethod m_Mo_thrown.1 ∈ xw_tbl := xw_in7 34 rfl rfl
theorem sl_Mo_thrown : Cond.selects m_Mo_thrown.1.cls m_Mo_thrown.1 m_Mo_thrown.1 ∈ xw_tbl := xw_in7 35 rfl rfl
abbrev c_Mo_form : ByteArray := prog_13_method_3_code
def m_Mo_form : xm_T := (⟨R_Mo, "form", "(IIII)V"⟩, c_Mo_form, 5, none, { frames := 9, cells := 2, slots := 12, locals := 260 })
theorem ok_Mo_form : xm_ok m_Mo_form 4 := ⟨xw_in7 40 rfl rfl, xw_in1 12 rfl rfl, ⟨by decide, by decide⟩, by decide +kernel⟩
theorem im_Mo_form : Cond.instanceMethod m_Mo_form.1 ∈ xw_tbl := xw_in7 38 rfl rfl
theorem sl_Mo_form : Cond.selects m_Mo_form.1.cls m_Mo_form.1 m_Mo_form.1 ∈ xw_tbl := xw_in7 39 rfl rfl
abbrev c_Mo_noChannel : ByteArray := prog_13_method_4_code
def m_Mo_noChannel : xm_T := (⟨R_Mo, "noChannel", "(I)Z"⟩, c_Mo_noChannel, 2, (some (FieldType.boolean)), { frames := 9, cells := 2, slots := 12, locals := 260 })
theorem ok_Mo_noChannel : xm_ok m_Mo_noChannel 1 := ⟨xw_in7 49 rfl rfl, xw_in1 12 rfl rfl, ⟨by decide, by decide⟩, by decide +kernel⟩
theorem im_Mo_noChannel : Cond.instanceMethod m_Mo_noChannel.1 ∈ xw_tbl := xw_in7 48 rfl rfl
theorem sl_Mo_noChannel : Cond.selects m_Mo_noChannel.1.cls m_Mo_noChannel.1 m_Mo_noChannel.1 ∈ xw_tbl := xw_inP 37 rfl rfl
abbrev c_Mo_add : ByteArray := prog_13_method_5_code
def m_Mo_add : xm_T := (⟨R_Mo, "add", "(II)V"⟩, c_Mo_add, 3, none, { frames := 9, cells := 2, slots := 12, locals := 260 })
theorem ok_Mo_add : xm_ok m_Mo_add 2 := ⟨xw_in7 53 rfl rfl, xw_in1 12 rfl rfl, ⟨by decide, by decide⟩, by decide +kernel⟩
theorem im_Mo_add : Cond.instanceMethod m_Mo_add.1 ∈ xw_tbl := xw_in7 52 rfl rfl
theorem sl_Mo_add : Cond.selects m_Mo_add.1.cls m_Mo_add.1 m_Mo_add.1 ∈ xw_tbl := xw_inP 38 rfl rfl
abbrev c_Mo_sample : ByteArray := prog_13_method_6_code
def m_Mo_sample : xm_T := (⟨R_Mo, "sample", "(II)I"⟩, c_Mo_sample, 3, (some (FieldType.int)), { frames := 10, cells := 3, slots := 18, locals := 320 })
theorem ok_Mo_sample : xm_ok m_Mo_sample 2 := ⟨xw_in7 45 rfl rfl, xw_in1 12 rfl rfl, ⟨by decide, by decide⟩, by decide +kernel⟩
theorem im_Mo_sample : Cond.instanceMethod m_Mo_sample.1 ∈ xw_tbl := xw_in7 43 rfl rfl
theorem sl_Mo_sample : Cond.selects m_Mo_sample.1.cls m_Mo_sample.1 m_Mo_sample.1 ∈ xw_tbl := xw_in7 44 rfl rfl
abbrev c_Mo_ramp : ByteArray := prog_13_method_7_code
def m_Mo_ramp : xm_T := (⟨R_Mo, "ramp", "(IIII)I"⟩, c_Mo_ramp, 6, (some (FieldType.int)), { frames := 10, cells := 3, slots := 18, locals := 320 })
theorem ok_Mo_ramp : xm_ok m_Mo_ramp 4 := ⟨xw_in7 57 rfl rfl, xw_in1 12 rfl rfl, ⟨by decide, by decide⟩, by decide +kernel⟩
theorem im_Mo_ramp : Cond.instanceMethod m_Mo_ramp.1 ∈ xw_tbl := xw_in7 55 rfl rfl
theorem sl_Mo_ramp : Cond.selects m_Mo_ramp.1.cls m_Mo_ramp.1 m_Mo_ramp.1 ∈ xw_tbl := xw_in7 56 rfl rfl
abbrev c_Mo_noise : ByteArray := prog_13_method_8_code
def m_Mo_noise : xm_T := (⟨R_Mo, "noise", "(IIII)I"⟩, c_Mo_noise, 7, (some (FieldType.int)), { frames := 10, cells := 3, slots := 18, locals := 320 })
theorem ok_Mo_noise : xm_ok m_Mo_noise 4 := ⟨xw_in7 61 rfl rfl, xw_in1 12 rfl rfl, ⟨by decide, by decide⟩, by decide +kernel⟩
theorem im_Mo_noise : Cond.instanceMethod m_Mo_noise.1 ∈ xw_tbl := xw_in7 59 rfl rfl
theorem sl_Mo_noise : Cond.selects m_Mo_noise.1.cls m_Mo_noise.1 m_Mo_noise.1 ∈ xw_tbl := xw_in7 60 rfl rfl
abbrev c_Mo_clear : ByteArray := prog_13_method_9_code
def m_Mo_clear : xm_T := (⟨R_Mo, "clear", "()V"⟩, c_Mo_clear, 1, none, { frames := 9, cells := 2, slots := 12, locals := 260 })
theorem ok_Mo_clear : xm_ok m_Mo_clear 0 := ⟨xw_in7 66 rfl rfl, xw_in1 12 rfl rfl, ⟨by decide, by decide⟩, by decide +kernel⟩
theorem im_Mo_clear : Cond.instanceMethod m_Mo_clear.1 ∈ xw_tbl := xw_in7 64 rfl rfl
theorem sl_Mo_clear : Cond.selects m_Mo_clear.1.cls m_Mo_clear.1 m_Mo_clear.1 ∈ xw_tbl := xw_in7 65 rfl rfl
abbrev c_Mo_at : ByteArray := prog_13_method_10_code
def m_Mo_at : xm_T := (⟨R_Mo, "at", "(II)I"⟩, c_Mo_at, 3, (some (FieldType.int)), { frames := 10, cells := 3, slots := 18, locals := 320 })
theorem ok_Mo_at : xm_ok m_Mo_at 2 := ⟨xw_in7 70 rfl rfl, xw_in1 12 rfl rfl, ⟨by decide, by decide⟩, by decide +kernel⟩
theorem im_Mo_at : Cond.instanceMethod m_Mo_at.1 ∈ xw_tbl := xw_in7 68 rfl rfl
theorem sl_Mo_at : Cond.selects m_Mo_at.1.cls m_Mo_at.1 m_Mo_at.1 ∈ xw_tbl := xw_in7 69 rfl rfl
abbrev c_Mo_word : ByteArray := prog_13_method_11_code
def m_Mo_word : xm_T := (⟨R_Mo, "word", "(II)I"⟩, c_Mo_word, 4, (some (FieldType.int)), { frames := 9, cells := 2, slots := 12, locals := 260 })
theorem ok_Mo_word : xm_ok m_Mo_word 2 := ⟨xw_in7 102 rfl rfl, xw_in1 12 rfl rfl, ⟨by decide, by decide⟩, by decide +kernel⟩
theorem im_Mo_word : Cond.instanceMethod m_Mo_word.1 ∈ xw_tbl := xw_in7 101 rfl rfl
theorem sl_Mo_word : Cond.selects m_Mo_word.1.cls m_Mo_word.1 m_Mo_word.1 ∈ xw_tbl := xw_inP 42 rfl rfl
abbrev c_Mo_mixed : ByteArray := prog_13_method_12_code
def m_Mo_mixed : xm_T := (⟨R_Mo, "mixed", "(IIII)I"⟩, c_Mo_mixed, 4, (some (FieldType.int)), { frames := 9, cells := 2, slots := 12, locals := 260 })
theorem ok_Mo_mixed : xm_ok m_Mo_mixed 4 := ⟨xw_in7 95 rfl rfl, xw_in1 12 rfl rfl, ⟨by decide, by decide⟩, by decide +kernel⟩
theorem st_Mo_mixed : Cond.static m_Mo_mixed.1 ∈ xw_tbl := xw_in7 94 rfl rfl
abbrev c_Mo_which : ByteArray := prog_13_method_13_code
def m_Mo_which : xm_T := (⟨R_Mo, "which", "(I)I"⟩, c_Mo_which, 1, (some (FieldType.int)), { frames := 9, cells := 2, slots := 12, locals := 260 })
theorem ok_Mo_which : xm_ok m_Mo_which 1 := ⟨xw_in7 98 rfl rfl, xw_in1 12 rfl rfl, ⟨by decide, by decide⟩, by decide +kernel⟩
theorem st_Mo_which : Cond.static m_Mo_which.1 ∈ xw_tbl := xw_in7 97 rfl rfl
abbrev c_Mo_sixtyFour : ByteArray := prog_13_method_14_code
def m_Mo_sixtyFour : xm_T := (⟨R_Mo, "sixtyFour", "(I)V"⟩, c_Mo_sixtyFour, 9, none, { frames := 10, cells := 3, slots := 18, locals := 320 })
theorem ok_Mo_sixtyFour : xm_ok m_Mo_sixtyFour 1 := ⟨xw_in7 92 rfl rfl, xw_in1 12 rfl rfl, ⟨by decide, by decide⟩, by decide +kernel⟩
theorem im_Mo_sixtyFour : Cond.instanceMethod m_Mo_sixtyFour.1 ∈ xw_tbl := xw_in7 91 rfl rfl
theorem sl_Mo_sixtyFour : Cond.selects m_Mo_sixtyFour.1.cls m_Mo_sixtyFour.1 m_Mo_sixtyFour.1 ∈ xw_tbl := xw_inP 41 rfl rfl
abbrev c_Mo_sumUp : ByteArray := prog_13_method_15_code
def m_Mo_sumUp : xm_T := (⟨R_Mo, "sumUp", "([IIII)V"⟩, c_Mo_sumUp, 10, none, { frames := 11, cells := 4, slots := 24, locals := 380 })
theorem ok_Mo_sumUp : xm_ok m_Mo_sumUp 4 := ⟨xw_in7 82 rfl rfl, xw_in1 12 rfl rfl, ⟨by decide, by decide⟩, by decide +kernel⟩
theorem im_Mo_sumUp : Cond.instanceMethod m_Mo_sumUp.1 ∈ xw_tbl := xw_in7 81 rfl rfl
theorem sl_Mo_sumUp : Cond.selects m_Mo_sumUp.1.cls m_Mo_sumUp.1 m_Mo_sumUp.1 ∈ xw_tbl := xw_inP 40 rfl rfl
abbrev c_Mo_isUneven : ByteArray := prog_13_method_16_code
def m_Mo_isUneven : xm_T := (⟨R_Mo, "isUneven", "()Z"⟩, c_Mo_isUneven, 1, (some (FieldType.boolean)), { frames := 9, cells := 2, slots := 12, locals := 260 })
theorem ok_Mo_isUneven : xm_ok m_Mo_isUneven 0 := ⟨xw_in7 78 rfl rfl, xw_in1 12 rfl rfl, ⟨by decide, by decide⟩, by decide +kernel⟩
theorem im_Mo_isUneven : Cond.instanceMethod m_Mo_isUneven.1 ∈ xw_tbl := xw_in7 77 rfl rfl
theorem sl_Mo_isUneven : Cond.selects m_Mo_isUneven.1.cls m_Mo_isUneven.1 m_Mo_isUneven.1 ∈ xw_tbl := xw_inP 39 rfl rfl
abbrev c_Mo_sum : ByteArray := prog_13_method_17_code
def m_Mo_sum : xm_T := (⟨R_Mo, "sum", "(I)J"⟩, c_Mo_sum, 2, (some (FieldType.long)), { frames := 12, cells := 5, slots := 30, locals := 440 })
theorem ok_Mo_sum : xm_ok m_Mo_sum 1 := ⟨xw_in7 74 rfl rfl, xw_in1 12 rfl rfl, ⟨by decide, by decide⟩, by decide +kernel⟩
theorem im_Mo_sum : Cond.instanceMethod m_Mo_sum.1 ∈ xw_tbl := xw_in7 72 rfl rfl
theorem sl_Mo_sum : Cond.selects m_Mo_sum.1.cls m_Mo_sum.1 m_Mo_sum.1 ∈ xw_tbl := xw_in7 73 rfl rfl
abbrev c_Mo_put : ByteArray := prog_13_method_18_code
def m_Mo_put : xm_T := (⟨R_Mo, "put", "(JI)V"⟩, c_Mo_put, 7, none, { frames := 9, cells := 2, slots := 12, locals := 260 })
theorem ok_Mo_put : xm_ok m_Mo_put 2 := ⟨xw_in7 188 rfl rfl, xw_in1 12 rfl rfl, ⟨by decide, by decide⟩, by decide +kernel⟩
theorem im_Mo_put : Cond.instanceMethod m_Mo_put.1 ∈ xw_tbl := xw_in7 187 rfl rfl
theorem sl_Mo_put : Cond.selects m_Mo_put.1.cls m_Mo_put.1 m_Mo_put.1 ∈ xw_tbl := xw_inP 58 rfl rfl
abbrev c_Mo_check : ByteArray := prog_13_method_19_code
def m_Mo_check : xm_T := (⟨R_Mo, "check", "(III)I"⟩, c_Mo_check, 10, (some (FieldType.int)), { frames := 9, cells := 2, slots := 12, locals := 260 })
theorem ok_Mo_check : xm_ok m_Mo_check 3 := ⟨xw_in7 196 rfl rfl, xw_in1 12 rfl rfl, ⟨by decide, by decide⟩, by decide +kernel⟩
theorem im_Mo_check : Cond.instanceMethod m_Mo_check.1 ∈ xw_tbl := xw_in7 195 rfl rfl
theorem sl_Mo_check : Cond.selects m_Mo_check.1.cls m_Mo_check.1 m_Mo_check.1 ∈ xw_tbl := xw_inP 59 rfl rfl
abbrev c_Mo_numberByte : ByteArray := prog_13_method_20_code
def m_Mo_numberByte : xm_T := (⟨R_Mo, "numberByte", "(II)I"⟩, c_Mo_numberByte, 2, (some (FieldType.int)), { frames := 9, cells := 2, slots := 12, locals := 260 })
theorem ok_Mo_numberByte : xm_ok m_Mo_numberByte 2 := ⟨xw_in7 192 rfl rfl, xw_in1 12 rfl rfl, ⟨by decide, by decide⟩, by decide +kernel⟩
theorem st_Mo_numberByte : Cond.static m_Mo_numberByte.1 ∈ xw_tbl := xw_in7 191 rfl rfl
abbrev c_Mo_signal : ByteArray := prog_13_method_21_code
def m_Mo_signal : xm_T := (⟨R_Mo, "signal", "(II)I"⟩, c_Mo_signal, 5, (some (FieldType.int)), { frames := 9, cells := 2, slots := 12, locals := 260 })
theorem ok_Mo_signal : xm_ok m_Mo_signal 2 := ⟨xw_in7 131 rfl rfl, xw_in1 12 rfl rfl, ⟨by decide, by decide⟩, by decide +kernel⟩
theorem im_Mo_signal : Cond.instanceMethod m_Mo_signal.1 ∈ xw_tbl := xw_in7 130 rfl rfl
theorem sl_Mo_signal : Cond.selects m_Mo_signal.1.cls m_Mo_signal.1 m_Mo_signal.1 ∈ xw_tbl := xw_inP 47 rfl rfl
abbrev c_Mo_take : ByteArray := prog_13_method_22_code
def m_Mo_take : xm_T := (⟨R_Mo, "take", "(III)V"⟩, c_Mo_take, 5, none, { frames := 10, cells := 3, slots := 18, locals := 320 })
theorem ok_Mo_take : xm_ok m_Mo_take 3 := ⟨xw_in7 127 rfl rfl, xw_in1 12 rfl rfl, ⟨by decide, by decide⟩, by decide +kernel⟩
theorem im_Mo_take : Cond.instanceMethod m_Mo_take.1 ∈ xw_tbl := xw_in7 126 rfl rfl
theorem sl_Mo_take : Cond.selects m_Mo_take.1.cls m_Mo_take.1 m_Mo_take.1 ∈ xw_tbl := xw_inP 46 rfl rfl
abbrev c_Mo_wasted : ByteArray := prog_13_method_23_code
def m_Mo_wasted : xm_T := (⟨R_Mo, "wasted", "(I)I"⟩, c_Mo_wasted, 4, (some (FieldType.int)), { frames := 9, cells := 2, slots := 12, locals := 260 })
theorem ok_Mo_wasted : xm_ok m_Mo_wasted 1 := ⟨xw_in7 139 rfl rfl, xw_in1 12 rfl rfl, ⟨by decide, by decide⟩, by decide +kernel⟩
theorem im_Mo_wasted : Cond.instanceMethod m_Mo_wasted.1 ∈ xw_tbl := xw_in7 138 rfl rfl
theorem sl_Mo_wasted : Cond.selects m_Mo_wasted.1.cls m_Mo_wasted.1 m_Mo_wasted.1 ∈ xw_tbl := xw_inP 49 rfl rfl
abbrev c_Mo_shifted : ByteArray := prog_13_method_24_code
def m_Mo_shifted : xm_T := (⟨R_Mo, "shifted", "(I)I"⟩, c_Mo_shifted, 2, (some (FieldType.int)), { frames := 9, cells := 2, slots := 12, locals := 260 })
theorem ok_Mo_shifted : xm_ok m_Mo_shifted 1 := ⟨xw_in7 151 rfl rfl, xw_in1 12 rfl rfl, ⟨by decide, by decide⟩, by decide +kernel⟩
theorem im_Mo_shifted : Cond.instanceMethod m_Mo_shifted.1 ∈ xw_tbl := xw_in7 150 rfl rfl
theorem sl_Mo_shifted : Cond.selects m_Mo_shifted.1.cls m_Mo_shifted.1 m_Mo_shifted.1 ∈ xw_tbl := xw_inP 52 rfl rfl
abbrev c_Mo_folded : ByteArray := prog_13_method_25_code
def m_Mo_folded : xm_T := (⟨R_Mo, "folded", "(I)I"⟩, c_Mo_folded, 1, (some (FieldType.int)), { frames := 9, cells := 2, slots := 12, locals := 260 })
theorem ok_Mo_folded : xm_ok m_Mo_folded 1 := ⟨xw_in7 183 rfl rfl, xw_in1 12 rfl rfl, ⟨by decide, by decide⟩, by decide +kernel⟩
theorem st_Mo_folded : Cond.static m_Mo_folded.1 ∈ xw_tbl := xw_in7 182 rfl rfl
abbrev c_Mo_leave : ByteArray := prog_13_method_26_code
def m_Mo_leave : xm_T := (⟨R_Mo, "leave", "(II)V"⟩, c_Mo_leave, 5, none, { frames := 10, cells := 3, slots := 18, locals := 320 })
theorem ok_Mo_leave : xm_ok m_Mo_leave 2 := ⟨xw_in7 147 rfl rfl, xw_in1 12 rfl rfl, ⟨by decide, by decide⟩, by decide +kernel⟩
theorem im_Mo_leave : Cond.instanceMethod m_Mo_leave.1 ∈ xw_tbl := xw_in7 146 rfl rfl
theorem sl_Mo_leave : Cond.selects m_Mo_leave.1.cls m_Mo_leave.1 m_Mo_leave.1 ∈ xw_tbl := xw_inP 51 rfl rfl
abbrev c_Mo_room : ByteArray := prog_13_method_27_code
def m_Mo_room : xm_T := (⟨R_Mo, "room", "(II)I"⟩, c_Mo_room, 8, (some (FieldType.int)), { frames := 9, cells := 2, slots := 12, locals := 260 })
theorem ok_Mo_room : xm_ok m_Mo_room 2 := ⟨xw_in7 179 rfl rfl, xw_in1 12 rfl rfl, ⟨by decide, by decide⟩, by decide +kernel⟩
theorem im_Mo_room : Cond.instanceMethod m_Mo_room.1 ∈ xw_tbl := xw_in7 178 rfl rfl
theorem sl_Mo_room : Cond.selects m_Mo_room.1.cls m_Mo_room.1 m_Mo_room.1 ∈ xw_tbl := xw_inP 57 rfl rfl
abbrev c_Mo_partCost : ByteArray := prog_13_method_28_code
def m_Mo_partCost : xm_T := (⟨R_Mo, "partCost", "(III)J"⟩, c_Mo_partCost, 7, (some (FieldType.long)), { frames := 10, cells := 3, slots := 18, locals := 320 })
theorem ok_Mo_partCost : xm_ok m_Mo_partCost 3 := ⟨xw_in7 174 rfl rfl, xw_in1 12 rfl rfl, ⟨by decide, by decide⟩, by decide +kernel⟩
theorem im_Mo_partCost : Cond.instanceMethod m_Mo_partCost.1 ∈ xw_tbl := xw_in7 173 rfl rfl
theorem sl_Mo_partCost : Cond.selects m_Mo_partCost.1.cls m_Mo_partCost.1 m_Mo_partCost.1 ∈ xw_tbl := xw_inP 56 rfl rfl
abbrev c_Mo_bestK : ByteArray := prog_13_method_29_code
def m_Mo_bestK : xm_T := (⟨R_Mo, "bestK", "(II)I"⟩, c_Mo_bestK, 5, (some (FieldType.int)), { frames := 11, cells := 4, slots := 24, locals := 380 })
theorem ok_Mo_bestK : xm_ok m_Mo_bestK 2 := ⟨xw_in7 170 rfl rfl, xw_in1 12 rfl rfl, ⟨by decide, by decide⟩, by decide +kernel⟩
theorem im_Mo_bestK : Cond.instanceMethod m_Mo_bestK.1 ∈ xw_tbl := xw_in7 169 rfl rfl
theorem sl_Mo_bestK : Cond.selects m_Mo_bestK.1.cls m_Mo_bestK.1 m_Mo_bestK.1 ∈ xw_tbl := xw_inP 55 rfl rfl
abbrev c_Mo_partFrom : ByteArray := prog_13_method_30_code
def m_Mo_partFrom : xm_T := (⟨R_Mo, "partFrom", "(IIII)I"⟩, c_Mo_partFrom, 4, (some (FieldType.int)), { frames := 9, cells := 2, slots := 12, locals := 260 })
theorem ok_Mo_partFrom : xm_ok m_Mo_partFrom 4 := ⟨xw_in7 166 rfl rfl, xw_in1 12 rfl rfl, ⟨by decide, by decide⟩, by decide +kernel⟩
theorem st_Mo_partFrom : Cond.static m_Mo_partFrom.1 ∈ xw_tbl := xw_in7 165 rfl rfl
abbrev c_Mo_restCost : ByteArray := prog_13_method_31_code
def m_Mo_restCost : xm_T := (⟨R_Mo, "restCost", "(III)J"⟩, c_Mo_restCost, 9, (some (FieldType.long)), { frames := 12, cells := 5, slots := 30, locals := 440 })
theorem ok_Mo_restCost : xm_ok m_Mo_restCost 3 := ⟨xw_in7 162 rfl rfl, xw_in1 12 rfl rfl, ⟨by decide, by decide⟩, by decide +kernel⟩
theorem im_Mo_restCost : Cond.instanceMethod m_Mo_restCost.1 ∈ xw_tbl := xw_in7 161 rfl rfl
theorem sl_Mo_restCost : Cond.selects m_Mo_restCost.1.cls m_Mo_restCost.1 m_Mo_restCost.1 ∈ xw_tbl := xw_inP 54 rfl rfl
abbrev c_Mo_fits : ByteArray := prog_13_method_32_code
def m_Mo_fits : xm_T := (⟨R_Mo, "fits", "(III)Z"⟩, c_Mo_fits, 3, (some (FieldType.boolean)), { frames := 9, cells := 2, slots := 12, locals := 260 })
theorem ok_Mo_fits : xm_ok m_Mo_fits 3 := ⟨xw_in7 158 rfl rfl, xw_in1 12 rfl rfl, ⟨by decide, by decide⟩, by decide +kernel⟩
theorem st_Mo_fits : Cond.static m_Mo_fits.1 ∈ xw_tbl := xw_in7 157 rfl rfl
abbrev c_Mo_bestQ : ByteArray := prog_13_method_33_code
def m_Mo_bestQ : xm_T := (⟨R_Mo, "bestQ", "(II)I"⟩, c_Mo_bestQ, 5, (some (FieldType.int)), { frames := 13, cells := 6, slots := 36, locals := 500 })
theorem ok_Mo_bestQ : xm_ok m_Mo_bestQ 2 := ⟨xw_in7 155 rfl rfl, xw_in1 12 rfl rfl, ⟨by decide, by decide⟩, by decide +kernel⟩
theorem im_Mo_bestQ : Cond.instanceMethod m_Mo_bestQ.1 ∈ xw_tbl := xw_in7 154 rfl rfl
theorem sl_Mo_bestQ : Cond.selects m_Mo_bestQ.1.cls m_Mo_bestQ.1 m_Mo_bestQ.1 ∈ xw_tbl := xw_inP 53 rfl rfl
abbrev c_Mo_isOne : ByteArray := prog_13_method_34_code
def m_Mo_isOne : xm_T := (⟨R_Mo, "isOne", "(I)Z"⟩, c_Mo_isOne, 4, (some (FieldType.boolean)), { frames := 9, cells := 2, slots := 12, locals := 260 })
theorem ok_Mo_isOne : xm_ok m_Mo_isOne 1 := ⟨xw_in7 143 rfl rfl, xw_in1 12 rfl rfl, ⟨by decide, by decide⟩, by decide +kernel⟩
theorem im_Mo_isOne : Cond.instanceMethod m_Mo_isOne.1 ∈ xw_tbl := xw_in7 142 rfl rfl
theorem sl_Mo_isOne : Cond.selects m_Mo_isOne.1.cls m_Mo_isOne.1 m_Mo_isOne.1 ∈ xw_tbl := xw_inP 50 rfl rfl
abbrev c_Mo_choose : ByteArray := prog_13_method_35_code
def m_Mo_choose : xm_T := (⟨R_Mo, "choose", "(II)J"⟩, c_Mo_choose, 9, (some (FieldType.long)), { frames := 14, cells := 7, slots := 42, locals := 560 })
theorem ok_Mo_choose : xm_ok m_Mo_choose 2 := ⟨xw_in7 135 rfl rfl, xw_in1 12 rfl rfl, ⟨by decide, by decide⟩, by decide +kernel⟩
theorem im_Mo_choose : Cond.instanceMethod m_Mo_choose.1 ∈ xw_tbl := xw_in7 134 rfl rfl
theorem sl_Mo_choose : Cond.selects m_Mo_choose.1.cls m_Mo_choose.1 m_Mo_choose.1 ∈ xw_tbl := xw_inP 48 rfl rfl
abbrev c_Mo_writeSubframe : ByteArray := prog_13_method_36_code
def m_Mo_writeSubframe : xm_T := (⟨R_Mo, "writeSubframe", "(II)V"⟩, c_Mo_writeSubframe, 6, none, { frames := 13, cells := 6, slots := 36, locals := 500 })
theorem ok_Mo_writeSubframe : xm_ok m_Mo_writeSubframe 2 := ⟨xw_in7 202 rfl rfl, xw_in1 12 rfl rfl, ⟨by decide, by decide⟩, by decide +kernel⟩
theorem im_Mo_writeSubframe : Cond.instanceMethod m_Mo_writeSubframe.1 ∈ xw_tbl := xw_in7 201 rfl rfl
theorem sl_Mo_writeSubframe : Cond.selects m_Mo_writeSubframe.1.cls m_Mo_writeSubframe.1 m_Mo_writeSubframe.1 ∈ xw_tbl := xw_inP 60 rfl rfl
abbrev c_Mo_writePart : ByteArray := prog_13_method_37_code
def m_Mo_writePart : xm_T := (⟨R_Mo, "writePart", "(II)V"⟩, c_Mo_writePart, 8, none, { frames := 12, cells := 5, slots := 30, locals := 440 })
theorem ok_Mo_writePart : xm_ok m_Mo_writePart 2 := ⟨xw_in7 206 rfl rfl, xw_in1 12 rfl rfl, ⟨by decide, by decide⟩, by decide +kernel⟩
theorem im_Mo_writePart : Cond.instanceMethod m_Mo_writePart.1 ∈ xw_tbl := xw_in7 205 rfl rfl
theorem sl_Mo_writePart : Cond.selects m_Mo_writePart.1.cls m_Mo_writePart.1 m_Mo_writePart.1 ∈ xw_tbl := xw_inP 61 rfl rfl
abbrev c_Mo_signalOf : ByteArray := prog_13_method_38_code
def m_Mo_signalOf : xm_T := (⟨R_Mo, "signalOf", "(II)I"⟩, c_Mo_signalOf, 2, (some (FieldType.int)), { frames := 9, cells := 2, slots := 12, locals := 260 })
theorem ok_Mo_signalOf : xm_ok m_Mo_signalOf 2 := ⟨xw_in7 123 rfl rfl, xw_in1 12 rfl rfl, ⟨by decide, by decide⟩, by decide +kernel⟩
theorem st_Mo_signalOf : Cond.static m_Mo_signalOf.1 ∈ xw_tbl := xw_in7 122 rfl rfl
abbrev c_Mo_costOf : ByteArray := prog_13_method_39_code
def m_Mo_costOf : xm_T := (⟨R_Mo, "costOf", "(IIII)J"⟩, c_Mo_costOf, 6, (some (FieldType.long)), { frames := 15, cells := 8, slots := 48, locals := 620 })
theorem ok_Mo_costOf : xm_ok m_Mo_costOf 4 := ⟨xw_in7 120 rfl rfl, xw_in1 12 rfl rfl, ⟨by decide, by decide⟩, by decide +kernel⟩
theorem im_Mo_costOf : Cond.instanceMethod m_Mo_costOf.1 ∈ xw_tbl := xw_in7 119 rfl rfl
theorem sl_Mo_costOf : Cond.selects m_Mo_costOf.1.cls m_Mo_costOf.1 m_Mo_costOf.1 ∈ xw_tbl := xw_inP 45 rfl rfl
abbrev c_Mo_bestC : ByteArray := prog_13_method_40_code
def m_Mo_bestC : xm_T := (⟨R_Mo, "bestC", "(II)I"⟩, c_Mo_bestC, 9, (some (FieldType.int)), { frames := 16, cells := 9, slots := 54, locals := 680 })
theorem ok_Mo_bestC : xm_ok m_Mo_bestC 2 := ⟨xw_in7 116 rfl rfl, xw_in1 12 rfl rfl, ⟨by decide, by decide⟩, by decide +kernel⟩
theorem im_Mo_bestC : Cond.instanceMethod m_Mo_bestC.1 ∈ xw_tbl := xw_in7 115 rfl rfl
theorem sl_Mo_bestC : Cond.selects m_Mo_bestC.1.cls m_Mo_bestC.1 m_Mo_bestC.1 ∈ xw_tbl := xw_inP 44 rfl rfl
abbrev c_Mo_writeFrame : ByteArray := prog_13_method_41_code
def m_Mo_writeFrame : xm_T := (⟨R_Mo, "writeFrame", "(IIZ)V"⟩, c_Mo_writeFrame, 9, none, { frames := 17, cells := 10, slots := 60, locals := 740 })
theorem ok_Mo_writeFrame : xm_ok m_Mo_writeFrame 3 := ⟨xw_in7 112 rfl rfl, xw_in1 12 rfl rfl, ⟨by decide, by decide⟩, by decide +kernel⟩
theorem im_Mo_writeFrame : Cond.instanceMethod m_Mo_writeFrame.1 ∈ xw_tbl := xw_in7 111 rfl rfl
theorem sl_Mo_writeFrame : Cond.selects m_Mo_writeFrame.1.cls m_Mo_writeFrame.1 m_Mo_writeFrame.1 ∈ xw_tbl := xw_inP 43 rfl rfl
abbrev c_Mo_encode : ByteArray := prog_13_method_42_code
def m_Mo_encode : xm_T := (⟨R_Mo, "encode", "(Z)I"⟩, c_Mo_encode, 5, (some (FieldType.int)), { frames := 18, cells := 11, slots := 66, locals := 800 })
theorem ok_Mo_encode : xm_ok m_Mo_encode 1 := ⟨xw_in7 107 rfl rfl, xw_in1 12 rfl rfl, ⟨by decide, by decide⟩, by decide +kernel⟩
theorem im_Mo_encode : Cond.instanceMethod m_Mo_encode.1 ∈ xw_tbl := xw_in7 105 rfl rfl
theorem sl_Mo_encode : Cond.selects m_Mo_encode.1.cls m_Mo_encode.1 m_Mo_encode.1 ∈ xw_tbl := xw_in7 106 rfl rfl
abbrev c_Mo_told : ByteArray := prog_13_method_43_code
def m_Mo_told : xm_T := (⟨R_Mo, "told", "(I)I"⟩, c_Mo_told, 2, (some (FieldType.int)), { frames := 9, cells := 2, slots := 12, locals := 260 })
theorem ok_Mo_told : xm_ok m_Mo_told 1 := ⟨xw_in7 212 rfl rfl, xw_in1 12 rfl rfl, ⟨by decide, by decide⟩, by decide +kernel⟩
theorem im_Mo_told : Cond.instanceMethod m_Mo_told.1 ∈ xw_tbl := xw_in7 210 rfl rfl
theorem sl_Mo_told : Cond.selects m_Mo_told.1.cls m_Mo_told.1 m_Mo_told.1 ∈ xw_tbl := xw_in7 211 rfl rfl
abbrev c_Mo_frame : ByteArray := prog_13_method_44_code
def m_Mo_frame : xm_T := (⟨R_Mo, "frame", "(II)I"⟩, c_Mo_frame, 3, (some (FieldType.int)), { frames := 9, cells := 2, slots := 12, locals := 260 })
theorem ok_Mo_frame : xm_ok m_Mo_frame 2 := ⟨xw_in7 216 rfl rfl, xw_in1 12 rfl rfl, ⟨by decide, by decide⟩, by decide +kernel⟩
theorem im_Mo_frame : Cond.instanceMethod m_Mo_frame.1 ∈ xw_tbl := xw_in7 214 rfl rfl
theorem sl_Mo_frame : Cond.selects m_Mo_frame.1.cls m_Mo_frame.1 m_Mo_frame.1 ∈ xw_tbl := xw_in7 215 rfl rfl
abbrev c_Mo_stream : ByteArray := prog_13_method_45_code
def m_Mo_stream : xm_T := (⟨R_Mo, "stream", "(I)J"⟩, c_Mo_stream, 7, (some (FieldType.long)), { frames := 9, cells := 2, slots := 12, locals := 260 })
theorem ok_Mo_stream : xm_ok m_Mo_stream 1 := ⟨xw_in7 220 rfl rfl, xw_in1 12 rfl rfl, ⟨by decide, by decide⟩, by decide +kernel⟩
theorem im_Mo_stream : Cond.instanceMethod m_Mo_stream.1 ∈ xw_tbl := xw_in7 218 rfl rfl
theorem sl_Mo_stream : Cond.selects m_Mo_stream.1.cls m_Mo_stream.1 m_Mo_stream.1 ∈ xw_tbl := xw_in7 219 rfl rfl
abbrev c_Mo_feed : ByteArray := prog_13_method_46_code
def m_Mo_feed : xm_T := (⟨R_Mo, "feed", "(IJ)I"⟩, c_Mo_feed, 5, (some (FieldType.int)), { frames := 9, cells := 2, slots := 12, locals := 260 })
theorem ok_Mo_feed : xm_ok m_Mo_feed 2 := ⟨xw_in7 224 rfl rfl, xw_in1 12 rfl rfl, ⟨by decide, by decide⟩, by decide +kernel⟩
theorem im_Mo_feed : Cond.instanceMethod m_Mo_feed.1 ∈ xw_tbl := xw_in7 222 rfl rfl
theorem sl_Mo_feed : Cond.selects m_Mo_feed.1.cls m_Mo_feed.1 m_Mo_feed.1 ∈ xw_tbl := xw_in7 223 rfl rfl
abbrev c_Mo_cut : ByteArray := prog_13_method_47_code
def m_Mo_cut : xm_T := (⟨R_Mo, "cut", "(I)I"⟩, c_Mo_cut, 3, (some (FieldType.int)), { frames := 9, cells := 2, slots := 12, locals := 260 })
theorem ok_Mo_cut : xm_ok m_Mo_cut 1 := ⟨xw_in7 228 rfl rfl, xw_in1 12 rfl rfl, ⟨by decide, by decide⟩, by decide +kernel⟩
theorem im_Mo_cut : Cond.instanceMethod m_Mo_cut.1 ∈ xw_tbl := xw_in7 226 rfl rfl
theorem sl_Mo_cut : Cond.selects m_Mo_cut.1.cls m_Mo_cut.1 m_Mo_cut.1 ∈ xw_tbl := xw_in7 227 rfl rfl
abbrev c_Mo_spoil : ByteArray := prog_13_method_48_code
def m_Mo_spoil : xm_T := (⟨R_Mo, "spoil", "(II)I"⟩, c_Mo_spoil, 4, (some (FieldType.int)), { frames := 9, cells := 2, slots := 12, locals := 260 })
theorem ok_Mo_spoil : xm_ok m_Mo_spoil 2 := ⟨xw_in7 232 rfl rfl, xw_in1 12 rfl rfl, ⟨by decide, by decide⟩, by decide +kernel⟩
theorem im_Mo_spoil : Cond.instanceMethod m_Mo_spoil.1 ∈ xw_tbl := xw_in7 230 rfl rfl
theorem sl_Mo_spoil : Cond.selects m_Mo_spoil.1.cls m_Mo_spoil.1 m_Mo_spoil.1 ∈ xw_tbl := xw_in7 231 rfl rfl
abbrev c_Mo_seal : ByteArray := prog_13_method_49_code
def m_Mo_seal : xm_T := (⟨R_Mo, "seal", "(III)V"⟩, c_Mo_seal, 5, none, { frames := 10, cells := 3, slots := 18, locals := 320 })
theorem ok_Mo_seal : xm_ok m_Mo_seal 3 := ⟨xw_in7 236 rfl rfl, xw_in1 12 rfl rfl, ⟨by decide, by decide⟩, by decide +kernel⟩
theorem im_Mo_seal : Cond.instanceMethod m_Mo_seal.1 ∈ xw_tbl := xw_in7 234 rfl rfl
theorem sl_Mo_seal : Cond.selects m_Mo_seal.1.cls m_Mo_seal.1 m_Mo_seal.1 ∈ xw_tbl := xw_in7 235 rfl rfl
abbrev c_Mo_fail : ByteArray := prog_13_method_50_code
def m_Mo_fail : xm_T := (⟨R_Mo, "fail", "(I)V"⟩, c_Mo_fail, 2, none, { frames := 9, cells := 2, slots := 12, locals := 260 })
theorem ok_Mo_fail : xm_ok m_Mo_fail 1 := ⟨xw_in8 13 rfl rfl, xw_in1 12 rfl rfl, ⟨by decide, by decide⟩, by decide +kernel⟩
theorem im_Mo_fail : Cond.instanceMethod m_Mo_fail.1 ∈ xw_tbl := xw_in8 12 rfl rfl
theorem sl_Mo_fail : Cond.selects m_Mo_fail.1.cls m_Mo_fail.1 m_Mo_fail.1 ∈ xw_tbl := xw_inP 64 rfl rfl
abbrev c_Mo_next : ByteArray := prog_13_method_51_code
def m_Mo_next : xm_T := (⟨R_Mo, "next", "(I)J"⟩, c_Mo_next, 5, (some (FieldType.long)), { frames := 10, cells := 3, slots := 18, locals := 320 })
theorem ok_Mo_next : xm_ok m_Mo_next 1 := ⟨xw_in8 9 rfl rfl, xw_in1 12 rfl rfl, ⟨by decide, by decide⟩, by decide +kernel⟩
theorem im_Mo_next : Cond.instanceMethod m_Mo_next.1 ∈ xw_tbl := xw_in8 8 rfl rfl
theorem sl_Mo_next : Cond.selects m_Mo_next.1.cls m_Mo_next.1 m_Mo_next.1 ∈ xw_tbl := xw_inP 63 rfl rfl
abbrev c_Mo_nextSigned : ByteArray := prog_13_method_52_code
def m_Mo_nextSigned : xm_T := (⟨R_Mo, "nextSigned", "(I)I"⟩, c_Mo_nextSigned, 4, (some (FieldType.int)), { frames := 11, cells := 4, slots := 24, locals := 380 })
theorem ok_Mo_nextSigned : xm_ok m_Mo_nextSigned 1 := ⟨xw_in8 54 rfl rfl, xw_in1 12 rfl rfl, ⟨by decide, by decide⟩, by decide +kernel⟩
theorem im_Mo_nextSigned : Cond.instanceMethod m_Mo_nextSigned.1 ∈ xw_tbl := xw_in8 53 rfl rfl
theorem sl_Mo_nextSigned : Cond.selects m_Mo_nextSigned.1.cls m_Mo_nextSigned.1 m_Mo_nextSigned.1 ∈ xw_tbl := xw_inP 73 rfl rfl
abbrev c_Mo_want : ByteArray := prog_13_method_53_code
def m_Mo_want : xm_T := (⟨R_Mo, "want", "(ZI)V"⟩, c_Mo_want, 3, none, { frames := 10, cells := 3, slots := 18, locals := 320 })
theorem ok_Mo_want : xm_ok m_Mo_want 2 := ⟨xw_in8 18 rfl rfl, xw_in1 12 rfl rfl, ⟨by decide, by decide⟩, by decide +kernel⟩
theorem im_Mo_want : Cond.instanceMethod m_Mo_want.1 ∈ xw_tbl := xw_in8 17 rfl rfl
theorem sl_Mo_want : Cond.selects m_Mo_want.1.cls m_Mo_want.1 m_Mo_want.1 ∈ xw_tbl := xw_inP 65 rfl rfl
abbrev c_Mo_information : ByteArray := prog_13_method_54_code
def m_Mo_information : xm_T := (⟨R_Mo, "information", "()V"⟩, c_Mo_information, 6, none, { frames := 11, cells := 4, slots := 24, locals := 380 })
theorem ok_Mo_information : xm_ok m_Mo_information 0 := ⟨xw_in8 22 rfl rfl, xw_in1 12 rfl rfl, ⟨by decide, by decide⟩, by decide +kernel⟩
theorem im_Mo_information : Cond.instanceMethod m_Mo_information.1 ∈ xw_tbl := xw_in8 21 rfl rfl
theorem sl_Mo_information : Cond.selects m_Mo_information.1.cls m_Mo_information.1 m_Mo_information.1 ∈ xw_tbl := xw_inP 66 rfl rfl
abbrev c_Mo_blocks : ByteArray := prog_13_method_55_code
def m_Mo_blocks : xm_T := (⟨R_Mo, "blocks", "()V"⟩, c_Mo_blocks, 5, none, { frames := 12, cells := 5, slots := 30, locals := 440 })
theorem ok_Mo_blocks : xm_ok m_Mo_blocks 0 := ⟨xw_in8 5 rfl rfl, xw_in1 12 rfl rfl, ⟨by decide, by decide⟩, by decide +kernel⟩
theorem im_Mo_blocks : Cond.instanceMethod m_Mo_blocks.1 ∈ xw_tbl := xw_in8 4 rfl rfl
theorem sl_Mo_blocks : Cond.selects m_Mo_blocks.1.cls m_Mo_blocks.1 m_Mo_blocks.1 ∈ xw_tbl := xw_inP 62 rfl rfl
abbrev c_Mo_sizeOf : ByteArray := prog_13_method_56_code
def m_Mo_sizeOf : xm_T := (⟨R_Mo, "sizeOf", "(I)I"⟩, c_Mo_sizeOf, 2, (some (FieldType.int)), { frames := 11, cells := 4, slots := 24, locals := 380 })
theorem ok_Mo_sizeOf : xm_ok m_Mo_sizeOf 1 := ⟨xw_in8 35 rfl rfl, xw_in1 12 rfl rfl, ⟨by decide, by decide⟩, by decide +kernel⟩
theorem im_Mo_sizeOf : Cond.instanceMethod m_Mo_sizeOf.1 ∈ xw_tbl := xw_in8 34 rfl rfl
theorem sl_Mo_sizeOf : Cond.selects m_Mo_sizeOf.1.cls m_Mo_sizeOf.1 m_Mo_sizeOf.1 ∈ xw_tbl := xw_inP 69 rfl rfl
abbrev c_Mo_isWrongDepth : ByteArray := prog_13_method_57_code
def m_Mo_isWrongDepth : xm_T := (⟨R_Mo, "isWrongDepth", "(I)Z"⟩, c_Mo_isWrongDepth, 3, (some (FieldType.boolean)), { frames := 9, cells := 2, slots := 12, locals := 260 })
theorem ok_Mo_isWrongDepth : xm_ok m_Mo_isWrongDepth 1 := ⟨xw_in8 31 rfl rfl, xw_in1 12 rfl rfl, ⟨by decide, by decide⟩, by decide +kernel⟩
theorem im_Mo_isWrongDepth : Cond.instanceMethod m_Mo_isWrongDepth.1 ∈ xw_tbl := xw_in8 30 rfl rfl
theorem sl_Mo_isWrongDepth : Cond.selects m_Mo_isWrongDepth.1.cls m_Mo_isWrongDepth.1 m_Mo_isWrongDepth.1 ∈ xw_tbl := xw_inP 68 rfl rfl
abbrev c_Mo_oneFrame : ByteArray := prog_13_method_58_code
def m_Mo_oneFrame : xm_T := (⟨R_Mo, "oneFrame", "()V"⟩, c_Mo_oneFrame, 13, none, { frames := 15, cells := 8, slots := 48, locals := 620 })
theorem ok_Mo_oneFrame : xm_ok m_Mo_oneFrame 0 := ⟨xw_in8 27 rfl rfl, xw_in1 12 rfl rfl, ⟨by decide, by decide⟩, by decide +kernel⟩
theorem im_Mo_oneFrame : Cond.instanceMethod m_Mo_oneFrame.1 ∈ xw_tbl := xw_in8 26 rfl rfl
theorem sl_Mo_oneFrame : Cond.selects m_Mo_oneFrame.1.cls m_Mo_oneFrame.1 m_Mo_oneFrame.1 ∈ xw_tbl := xw_inP 67 rfl rfl
abbrev c_Mo_body : ByteArray := prog_13_method_59_code
def m_Mo_body : xm_T := (⟨R_Mo, "body", "(II)V"⟩, c_Mo_body, 5, none, { frames := 14, cells := 7, slots := 42, locals := 560 })
theorem ok_Mo_body : xm_ok m_Mo_body 2 := ⟨xw_in8 39 rfl rfl, xw_in1 12 rfl rfl, ⟨by decide, by decide⟩, by decide +kernel⟩
theorem im_Mo_body : Cond.instanceMethod m_Mo_body.1 ∈ xw_tbl := xw_in8 38 rfl rfl
theorem sl_Mo_body : Cond.selects m_Mo_body.1.cls m_Mo_body.1 m_Mo_body.1 ∈ xw_tbl := xw_inP 70 rfl rfl
abbrev c_Mo_combine : ByteArray := prog_13_method_60_code
def m_Mo_combine : xm_T := (⟨R_Mo, "combine", "(II)V"⟩, c_Mo_combine, 8, none, { frames := 11, cells := 4, slots := 24, locals := 380 })
theorem ok_Mo_combine : xm_ok m_Mo_combine 2 := ⟨xw_in8 72 rfl rfl, xw_in1 12 rfl rfl, ⟨by decide, by decide⟩, by decide +kernel⟩
theorem im_Mo_combine : Cond.instanceMethod m_Mo_combine.1 ∈ xw_tbl := xw_in8 71 rfl rfl
theorem sl_Mo_combine : Cond.selects m_Mo_combine.1.cls m_Mo_combine.1 m_Mo_combine.1 ∈ xw_tbl := xw_inP 77 rfl rfl
abbrev c_Mo_isType : ByteArray := prog_13_method_61_code
def m_Mo_isType : xm_T := (⟨R_Mo, "isType", "(I)Z"⟩, c_Mo_isType, 1, (some (FieldType.boolean)), { frames := 9, cells := 2, slots := 12, locals := 260 })
theorem ok_Mo_isType : xm_ok m_Mo_isType 1 := ⟨xw_in8 46 rfl rfl, xw_in1 12 rfl rfl, ⟨by decide, by decide⟩, by decide +kernel⟩
theorem st_Mo_isType : Cond.static m_Mo_isType.1 ∈ xw_tbl := xw_in8 45 rfl rfl
abbrev c_Mo_wasteRead : ByteArray := prog_13_method_62_code
def m_Mo_wasteRead : xm_T := (⟨R_Mo, "wasteRead", "(I)I"⟩, c_Mo_wasteRead, 4, (some (FieldType.int)), { frames := 11, cells := 4, slots := 24, locals := 380 })
theorem ok_Mo_wasteRead : xm_ok m_Mo_wasteRead 1 := ⟨xw_in8 50 rfl rfl, xw_in1 12 rfl rfl, ⟨by decide, by decide⟩, by decide +kernel⟩
theorem im_Mo_wasteRead : Cond.instanceMethod m_Mo_wasteRead.1 ∈ xw_tbl := xw_in8 49 rfl rfl
theorem sl_Mo_wasteRead : Cond.selects m_Mo_wasteRead.1.cls m_Mo_wasteRead.1 m_Mo_wasteRead.1 ∈ xw_tbl := xw_inP 72 rfl rfl
abbrev c_Mo_subframe : ByteArray := prog_13_method_63_code
def m_Mo_subframe : xm_T := (⟨R_Mo, "subframe", "(III)V"⟩, c_Mo_subframe, 11, none, { frames := 13, cells := 6, slots := 36, locals := 500 })
theorem ok_Mo_subframe : xm_ok m_Mo_subframe 3 := ⟨xw_in8 43 rfl rfl, xw_in1 12 rfl rfl, ⟨by decide, by decide⟩, by decide +kernel⟩
theorem im_Mo_subframe : Cond.instanceMethod m_Mo_subframe.1 ∈ xw_tbl := xw_in8 42 rfl rfl
theorem sl_Mo_subframe : Cond.selects m_Mo_subframe.1.cls m_Mo_subframe.1 m_Mo_subframe.1 ∈ xw_tbl := xw_inP 71 rfl rfl
abbrev c_Mo_predicted : ByteArray := prog_13_method_64_code
def m_Mo_predicted : xm_T := (⟨R_Mo, "predicted", "(IIIII)V"⟩, c_Mo_predicted, 17, none, { frames := 12, cells := 5, slots := 30, locals := 440 })
theorem ok_Mo_predicted : xm_ok m_Mo_predicted 5 := ⟨xw_in8 58 rfl rfl, xw_in1 12 rfl rfl, ⟨by decide, by decide⟩, by decide +kernel⟩
theorem im_Mo_predicted : Cond.instanceMethod m_Mo_predicted.1 ∈ xw_tbl := xw_in8 57 rfl rfl
theorem sl_Mo_predicted : Cond.selects m_Mo_predicted.1.cls m_Mo_predicted.1 m_Mo_predicted.1 ∈ xw_tbl := xw_inP 74 rfl rfl
abbrev c_Mo_nextFolded : ByteArray := prog_13_method_65_code
def m_Mo_nextFolded : xm_T := (⟨R_Mo, "nextFolded", "(I)J"⟩, c_Mo_nextFolded, 6, (some (FieldType.long)), { frames := 11, cells := 4, slots := 24, locals := 380 })
theorem ok_Mo_nextFolded : xm_ok m_Mo_nextFolded 1 := ⟨xw_in8 62 rfl rfl, xw_in1 12 rfl rfl, ⟨by decide, by decide⟩, by decide +kernel⟩
theorem im_Mo_nextFolded : Cond.instanceMethod m_Mo_nextFolded.1 ∈ xw_tbl := xw_in8 61 rfl rfl
theorem sl_Mo_nextFolded : Cond.selects m_Mo_nextFolded.1.cls m_Mo_nextFolded.1 m_Mo_nextFolded.1 ∈ xw_tbl := xw_inP 75 rfl rfl
abbrev c_Mo_guess : ByteArray := prog_13_method_66_code
def m_Mo_guess : xm_T := (⟨R_Mo, "guess", "(IIIII)J"⟩, c_Mo_guess, 10, (some (FieldType.long)), { frames := 9, cells := 2, slots := 12, locals := 260 })
theorem ok_Mo_guess : xm_ok m_Mo_guess 5 := ⟨xw_in8 67 rfl rfl, xw_in1 12 rfl rfl, ⟨by decide, by decide⟩, by decide +kernel⟩
theorem im_Mo_guess : Cond.instanceMethod m_Mo_guess.1 ∈ xw_tbl := xw_in8 66 rfl rfl
theorem sl_Mo_guess : Cond.selects m_Mo_guess.1.cls m_Mo_guess.1 m_Mo_guess.1 ∈ xw_tbl := xw_inP 76 rfl rfl
abbrev c_Mo_isSum : ByteArray := prog_13_method_67_code
def m_Mo_isSum : xm_T := (⟨R_Mo, "isSum", "()Z"⟩, c_Mo_isSum, 3, (some (FieldType.boolean)), { frames := 12, cells := 5, slots := 30, locals := 440 })
theorem ok_Mo_isSum : xm_ok m_Mo_isSum 0 := ⟨xw_in8 76 rfl rfl, xw_in1 12 rfl rfl, ⟨by decide, by decide⟩, by decide +kernel⟩
theorem im_Mo_isSum : Cond.instanceMethod m_Mo_isSum.1 ∈ xw_tbl := xw_in8 75 rfl rfl
theorem sl_Mo_isSum : Cond.selects m_Mo_isSum.1.cls m_Mo_isSum.1 m_Mo_isSum.1 ∈ xw_tbl := xw_inP 78 rfl rfl
abbrev c_Mo_decode : ByteArray := prog_13_method_68_code
def m_Mo_decode : xm_T := (⟨R_Mo, "decode", "()I"⟩, c_Mo_decode, 1, (some (FieldType.int)), { frames := 16, cells := 9, slots := 54, locals := 680 })
theorem ok_Mo_decode : xm_ok m_Mo_decode 0 := ⟨xw_in8 0 rfl rfl, xw_in1 12 rfl rfl, ⟨by decide, by decide⟩, by decide +kernel⟩
theorem im_Mo_decode : Cond.instanceMethod m_Mo_decode.1 ∈ xw_tbl := xw_in7 238 rfl rfl
theorem sl_Mo_decode : Cond.selects m_Mo_decode.1.cls m_Mo_decode.1 m_Mo_decode.1 ∈ xw_tbl := xw_in7 239 rfl rfl
abbrev c_Mo_fault : ByteArray := prog_13_method_69_code
def m_Mo_fault : xm_T := (⟨R_Mo, "fault", "()I"⟩, c_Mo_fault, 1, (some (FieldType.int)), { frames := 9, cells := 2, slots := 12, locals := 260 })
theorem ok_Mo_fault : xm_ok m_Mo_fault 0 := ⟨xw_in8 80 rfl rfl, xw_in1 12 rfl rfl, ⟨by decide, by decide⟩, by decide +kernel⟩
theorem im_Mo_fault : Cond.instanceMethod m_Mo_fault.1 ∈ xw_tbl := xw_in8 78 rfl rfl
theorem sl_Mo_fault : Cond.selects m_Mo_fault.1.cls m_Mo_fault.1 m_Mo_fault.1 ∈ xw_tbl := xw_in8 79 rfl rfl
abbrev c_Mo_place : ByteArray := prog_13_method_70_code
def m_Mo_place : xm_T := (⟨R_Mo, "place", "()I"⟩, c_Mo_place, 1, (some (FieldType.int)), { frames := 9, cells := 2, slots := 12, locals := 260 })
theorem ok_Mo_place : xm_ok m_Mo_place 0 := ⟨xw_in8 84 rfl rfl, xw_in1 12 rfl rfl, ⟨by decide, by decide⟩, by decide +kernel⟩
theorem im_Mo_place : Cond.instanceMethod m_Mo_place.1 ∈ xw_tbl := xw_in8 82 rfl rfl
theorem sl_Mo_place : Cond.selects m_Mo_place.1.cls m_Mo_place.1 m_Mo_place.1 ∈ xw_tbl := xw_in8 83 rfl rfl
abbrev c_Mo_heard : ByteArray := prog_13_method_71_code
def m_Mo_heard : xm_T := (⟨R_Mo, "heard", "(II)I"⟩, c_Mo_heard, 3, (some (FieldType.int)), { frames := 9, cells := 2, slots := 12, locals := 260 })
theorem ok_Mo_heard : xm_ok m_Mo_heard 2 := ⟨xw_in8 88 rfl rfl, xw_in1 12 rfl rfl, ⟨by decide, by decide⟩, by decide +kernel⟩
theorem im_Mo_heard : Cond.instanceMethod m_Mo_heard.1 ∈ xw_tbl := xw_in8 86 rfl rfl
theorem sl_Mo_heard : Cond.selects m_Mo_heard.1.cls m_Mo_heard.1 m_Mo_heard.1 ∈ xw_tbl := xw_in8 87 rfl rfl
abbrev c_By_init : ByteArray := prog_2_method_1_code
def m_By_init : xm_T := (⟨R_By, "<init>", "()V"⟩, c_By_init, 1, none, { frames := 10, cells := 3, slots := 18, locals := 320 })
theorem ok_By_init : xm_ok m_By_init 0 := ⟨xw_in1 89 rfl rfl, xw_in1 3 rfl rfl, ⟨by decide, by decide⟩, by decide +kernel⟩
theorem im_By_init : Cond.instanceMethod m_By_init.1 ∈ xw_tbl := xw_in1 88 rfl rfl
abbrev c_By_get : ByteArray := prog_2_method_2_code
def m_By_get : xm_T := (⟨R_By, "get", "(I)I"⟩, c_By_get, 2, (some (FieldType.int)), { frames := 9, cells := 2, slots := 12, locals := 260 })
theorem ok_By_get : xm_ok m_By_get 1 := ⟨xw_in2 144 rfl rfl, xw_in1 3 rfl rfl, ⟨by decide, by decide⟩, by decide +kernel⟩
theorem im_By_get : Cond.instanceMethod m_By_get.1 ∈ xw_tbl := xw_in2 142 rfl rfl
theorem sl_By_get : Cond.selects m_By_get.1.cls m_By_get.1 m_By_get.1 ∈ xw_tbl := xw_in2 143 rfl rfl
abbrev c_By_set : ByteArray := prog_2_method_3_code
def m_By_set : xm_T := (⟨R_By, "set", "(II)V"⟩, c_By_set, 3, none, { frames := 9, cells := 2, slots := 12, locals := 260 })
theorem ok_By_set : xm_ok m_By_set 2 := ⟨xw_in6 16 rfl rfl, xw_in1 3 rfl rfl, ⟨by decide, by decide⟩, by decide +kernel⟩
theorem im_By_set : Cond.instanceMethod m_By_set.1 ∈ xw_tbl := xw_in6 14 rfl rfl
theorem sl_By_set : Cond.selects m_By_set.1.cls m_By_set.1 m_By_set.1 ∈ xw_tbl := xw_in6 15 rfl rfl
abbrev c_By_add : ByteArray := prog_2_method_4_code
def m_By_add : xm_T := (⟨R_By, "add", "(I)V"⟩, c_By_add, 2, none, { frames := 9, cells := 2, slots := 12, locals := 260 })
theorem ok_By_add : xm_ok m_By_add 1 := ⟨xw_in5 115 rfl rfl, xw_in1 3 rfl rfl, ⟨by decide, by decide⟩, by decide +kernel⟩
theorem im_By_add : Cond.instanceMethod m_By_add.1 ∈ xw_tbl := xw_in5 113 rfl rfl
theorem sl_By_add : Cond.selects m_By_add.1.cls m_By_add.1 m_By_add.1 ∈ xw_tbl := xw_in5 114 rfl rfl
abbrev c_By_check : ByteArray := prog_2_method_5_code
def m_By_check : xm_T := (⟨R_By, "check", "(III)I"⟩, c_By_check, 10, (some (FieldType.int)), { frames := 10, cells := 3, slots := 18, locals := 320 })
theorem ok_By_check : xm_ok m_By_check 3 := ⟨xw_in3 77 rfl rfl, xw_in1 3 rfl rfl, ⟨by decide, by decide⟩, by decide +kernel⟩
theorem im_By_check : Cond.instanceMethod m_By_check.1 ∈ xw_tbl := xw_in3 75 rfl rfl
theorem sl_By_check : Cond.selects m_By_check.1.cls m_By_check.1 m_By_check.1 ∈ xw_tbl := xw_in3 76 rfl rfl
abbrev c_De_init : ByteArray := prog_3_method_1_code
def m_De_init : xm_T := (⟨R_De, "<init>", "(LSoundStream$Bytes;LSoundStream$Digest;)V"⟩, c_De_init, 3, none, { frames := 11, cells := 4, slots := 24, locals := 380 })
theorem ok_De_init : xm_ok m_De_init 2 := ⟨xw_in2 17 rfl rfl, xw_in1 9 rfl rfl, ⟨by decide, by decide⟩, by decide +kernel⟩
theorem im_De_init : Cond.instanceMethod m_De_init.1 ∈ xw_tbl := xw_in2 16 rfl rfl
abbrev c_De_begin : ByteArray := prog_3_method_2_code
def m_De_begin : xm_T := (⟨R_De, "begin", "()V"⟩, c_De_begin, 1, none, { frames := 10, cells := 3, slots := 18, locals := 320 })
theorem ok_De_begin : xm_ok m_De_begin 0 := ⟨xw_in2 153 rfl rfl, xw_in1 9 rfl rfl, ⟨by decide, by decide⟩, by decide +kernel⟩
theorem im_De_begin : Cond.instanceMethod m_De_begin.1 ∈ xw_tbl := xw_in2 151 rfl rfl
theorem sl_De_begin : Cond.selects m_De_begin.1.cls m_De_begin.1 m_De_begin.1 ∈ xw_tbl := xw_in2 152 rfl rfl
abbrev c_De_refuse : ByteArray := prog_3_method_3_code
def m_De_refuse : xm_T := (⟨R_De, "refuse", "()V"⟩, c_De_refuse, 1, none, { frames := 10, cells := 3, slots := 18, locals := 320 })
theorem ok_De_refuse : xm_ok m_De_refuse 0 := ⟨xw_in4 229 rfl rfl, xw_in1 9 rfl rfl, ⟨by decide, by decide⟩, by decide +kernel⟩
theorem im_De_refuse : Cond.instanceMethod m_De_refuse.1 ∈ xw_tbl := xw_in4 227 rfl rfl
theorem sl_De_refuse : Cond.selects m_De_refuse.1.cls m_De_refuse.1 m_De_refuse.1 ∈ xw_tbl := xw_in4 228 rfl rfl
abbrev c_De_hasMore : ByteArray := prog_3_method_4_code
def m_De_hasMore : xm_T := (⟨R_De, "hasMore", "()Z"⟩, c_De_hasMore, 1, (some (FieldType.boolean)), { frames := 11, cells := 4, slots := 24, locals := 380 })
theorem ok_De_hasMore : xm_ok m_De_hasMore 0 := ⟨xw_in3 33 rfl rfl, xw_in1 9 rfl rfl, ⟨by decide, by decide⟩, by decide +kernel⟩
theorem im_De_hasMore : Cond.instanceMethod m_De_hasMore.1 ∈ xw_tbl := xw_in3 31 rfl rfl
theorem sl_De_hasMore : Cond.selects m_De_hasMore.1.cls m_De_hasMore.1 m_De_hasMore.1 ∈ xw_tbl := xw_in3 32 rfl rfl
abbrev c_De_tell : ByteArray := prog_3_method_5_code
def m_De_tell : xm_T := (⟨R_De, "tell", "(I)I"⟩, c_De_tell, 2, (some (FieldType.int)), { frames := 9, cells := 2, slots := 12, locals := 260 })
theorem ok_De_tell : xm_ok m_De_tell 1 := ⟨xw_in6 28 rfl rfl, xw_in1 9 rfl rfl, ⟨by decide, by decide⟩, by decide +kernel⟩
theorem im_De_tell : Cond.instanceMethod m_De_tell.1 ∈ xw_tbl := xw_in6 26 rfl rfl
theorem sl_De_tell : Cond.selects m_De_tell.1.cls m_De_tell.1 m_De_tell.1 ∈ xw_tbl := xw_in6 27 rfl rfl
abbrev c_De_readInformation : ByteArray := prog_3_method_6_code
def m_De_readInformation : xm_T := (⟨R_De, "readInformation", "()V"⟩, c_De_readInformation, 5, none, { frames := 13, cells := 6, slots := 36, locals := 500 })
theorem ok_De_readInformation : xm_ok m_De_readInformation 0 := ⟨xw_in2 162 rfl rfl, xw_in1 9 rfl rfl, ⟨by decide, by decide⟩, by decide +kernel⟩
theorem im_De_readInformation : Cond.instanceMethod m_De_readInformation.1 ∈ xw_tbl := xw_in2 160 rfl rfl
theorem sl_De_readInformation : Cond.selects m_De_readInformation.1.cls m_De_readInformation.1 m_De_readInformation.1 ∈ xw_tbl := xw_in2 161 rfl rfl
abbrev c_De_readSoundInformation : ByteArray := prog_3_method_7_code
def m_De_readSoundInformation : xm_T := (⟨R_De, "readSoundInformation", "()V"⟩, c_De_readSoundInformation, 8, none, { frames := 12, cells := 5, slots := 30, locals := 440 })
theorem ok_De_readSoundInformation : xm_ok m_De_readSoundInformation 0 := ⟨xw_in3 14 rfl rfl, xw_in1 9 rfl rfl, ⟨by decide, by decide⟩, by decide +kernel⟩
theorem im_De_readSoundInformation : Cond.instanceMethod m_De_readSoundInformation.1 ∈ xw_tbl := xw_in3 13 rfl rfl
theorem sl_De_readSoundInformation : Cond.selects m_De_readSoundInformation.1.cls m_De_readSoundInformation.1 m_De_readSoundInformation.1 ∈ xw_tbl := xw_inP 1 rfl rfl
abbrev c_De_readEight : ByteArray := prog_3_method_8_code
def m_De_readEight : xm_T := (⟨R_De, "readEight", "()J"⟩, c_De_readEight, 4, (some (FieldType.long)), { frames := 11, cells := 4, slots := 24, locals := 380 })
theorem ok_De_readEight : xm_ok m_De_readEight 0 := ⟨xw_in3 24 rfl rfl, xw_in1 9 rfl rfl, ⟨by decide, by decide⟩, by decide +kernel⟩
theorem im_De_readEight : Cond.instanceMethod m_De_readEight.1 ∈ xw_tbl := xw_in3 23 rfl rfl
theorem sl_De_readEight : Cond.selects m_De_readEight.1.cls m_De_readEight.1 m_De_readEight.1 ∈ xw_tbl := xw_inP 2 rfl rfl
abbrev c_De_readFrame : ByteArray := prog_3_method_9_code
def m_De_readFrame : xm_T := (⟨R_De, "readFrame", "()V"⟩, c_De_readFrame, 5, none, { frames := 15, cells := 8, slots := 48, locals := 620 })
theorem ok_De_readFrame : xm_ok m_De_readFrame 0 := ⟨xw_in3 41 rfl rfl, xw_in1 9 rfl rfl, ⟨by decide, by decide⟩, by decide +kernel⟩
theorem im_De_readFrame : Cond.instanceMethod m_De_readFrame.1 ∈ xw_tbl := xw_in3 39 rfl rfl
theorem sl_De_readFrame : Cond.selects m_De_readFrame.1.cls m_De_readFrame.1 m_De_readFrame.1 ∈ xw_tbl := xw_in3 40 rfl rfl
abbrev c_De_readHead : ByteArray := prog_3_method_10_code
def m_De_readHead : xm_T := (⟨R_De, "readHead", "()V"⟩, c_De_readHead, 7, none, { frames := 12, cells := 5, slots := 30, locals := 440 })
theorem ok_De_readHead : xm_ok m_De_readHead 0 := ⟨xw_in3 45 rfl rfl, xw_in1 9 rfl rfl, ⟨by decide, by decide⟩, by decide +kernel⟩
theorem im_De_readHead : Cond.instanceMethod m_De_readHead.1 ∈ xw_tbl := xw_in3 44 rfl rfl
theorem sl_De_readHead : Cond.selects m_De_readHead.1.cls m_De_readHead.1 m_De_readHead.1 ∈ xw_tbl := xw_inP 3 rfl rfl
abbrev c_De_suitsChannels : ByteArray := prog_3_method_11_code
def m_De_suitsChannels : xm_T := (⟨R_De, "suitsChannels", "()Z"⟩, c_De_suitsChannels, 1, (some (FieldType.boolean)), { frames := 9, cells := 2, slots := 12, locals := 260 })
theorem ok_De_suitsChannels : xm_ok m_De_suitsChannels 0 := ⟨xw_in3 49 rfl rfl, xw_in1 9 rfl rfl, ⟨by decide, by decide⟩, by decide +kernel⟩
theorem im_De_suitsChannels : Cond.instanceMethod m_De_suitsChannels.1 ∈ xw_tbl := xw_in3 48 rfl rfl
theorem sl_De_suitsChannels : Cond.selects m_De_suitsChannels.1.cls m_De_suitsChannels.1 m_De_suitsChannels.1 ∈ xw_tbl := xw_inP 4 rfl rfl
abbrev c_De_suitsDepth : ByteArray := prog_3_method_12_code
def m_De_suitsDepth : xm_T := (⟨R_De, "suitsDepth", "(I)Z"⟩, c_De_suitsDepth, 2, (some (FieldType.boolean)), { frames := 9, cells := 2, slots := 12, locals := 260 })
theorem ok_De_suitsDepth : xm_ok m_De_suitsDepth 1 := ⟨xw_in3 53 rfl rfl, xw_in1 9 rfl rfl, ⟨by decide, by decide⟩, by decide +kernel⟩
theorem im_De_suitsDepth : Cond.instanceMethod m_De_suitsDepth.1 ∈ xw_tbl := xw_in3 52 rfl rfl
theorem sl_De_suitsDepth : Cond.selects m_De_suitsDepth.1.cls m_De_suitsDepth.1 m_De_suitsDepth.1 ∈ xw_tbl := xw_inP 5 rfl rfl
abbrev c_De_readNumber : ByteArray := prog_3_method_13_code
def m_De_readNumber : xm_T := (⟨R_De, "readNumber", "(I)V"⟩, c_De_readNumber, 3, none, { frames := 11, cells := 4, slots := 24, locals := 380 })
theorem ok_De_readNumber : xm_ok m_De_readNumber 1 := ⟨xw_in3 59 rfl rfl, xw_in1 9 rfl rfl, ⟨by decide, by decide⟩, by decide +kernel⟩
theorem im_De_readNumber : Cond.instanceMethod m_De_readNumber.1 ∈ xw_tbl := xw_in3 58 rfl rfl
theorem sl_De_readNumber : Cond.selects m_De_readNumber.1.cls m_De_readNumber.1 m_De_readNumber.1 ∈ xw_tbl := xw_inP 6 rfl rfl
abbrev c_De_readSize : ByteArray := prog_3_method_14_code
def m_De_readSize : xm_T := (⟨R_De, "readSize", "(I)I"⟩, c_De_readSize, 2, (some (FieldType.int)), { frames := 11, cells := 4, slots := 24, locals := 380 })
theorem ok_De_readSize : xm_ok m_De_readSize 1 := ⟨xw_in3 69 rfl rfl, xw_in1 9 rfl rfl, ⟨by decide, by decide⟩, by decide +kernel⟩
theorem im_De_readSize : Cond.instanceMethod m_De_readSize.1 ∈ xw_tbl := xw_in3 68 rfl rfl
theorem sl_De_readSize : Cond.selects m_De_readSize.1.cls m_De_readSize.1 m_De_readSize.1 ∈ xw_tbl := xw_inP 7 rfl rfl
abbrev c_De_suitsSize : ByteArray := prog_3_method_15_code
def m_De_suitsSize : xm_T := (⟨R_De, "suitsSize", "(I)Z"⟩, c_De_suitsSize, 4, (some (FieldType.boolean)), { frames := 9, cells := 2, slots := 12, locals := 260 })
theorem ok_De_suitsSize : xm_ok m_De_suitsSize 1 := ⟨xw_in3 73 rfl rfl, xw_in1 9 rfl rfl, ⟨by decide, by decide⟩, by decide +kernel⟩
theorem im_De_suitsSize : Cond.instanceMethod m_De_suitsSize.1 ∈ xw_tbl := xw_in3 72 rfl rfl
theorem sl_De_suitsSize : Cond.selects m_De_suitsSize.1.cls m_De_suitsSize.1 m_De_suitsSize.1 ∈ xw_tbl := xw_inP 8 rfl rfl
abbrev c_De_separate : ByteArray := prog_3_method_16_code
def m_De_separate : xm_T := (⟨R_De, "separate", "(I)V"⟩, c_De_separate, 7, none, { frames := 11, cells := 4, slots := 24, locals := 380 })
theorem ok_De_separate : xm_ok m_De_separate 1 := ⟨xw_in4 177 rfl rfl, xw_in1 9 rfl rfl, ⟨by decide, by decide⟩, by decide +kernel⟩
theorem im_De_separate : Cond.instanceMethod m_De_separate.1 ∈ xw_tbl := xw_in4 176 rfl rfl
theorem sl_De_separate : Cond.selects m_De_separate.1.cls m_De_separate.1 m_De_separate.1 ∈ xw_tbl := xw_inP 15 rfl rfl
abbrev c_De_checkWhole : ByteArray := prog_3_method_17_code
def m_De_checkWhole : xm_T := (⟨R_De, "checkWhole", "()V"⟩, c_De_checkWhole, 2, none, { frames := 13, cells := 6, slots := 36, locals := 500 })
theorem ok_De_checkWhole : xm_ok m_De_checkWhole 0 := ⟨xw_in4 185 rfl rfl, xw_in1 9 rfl rfl, ⟨by decide, by decide⟩, by decide +kernel⟩
theorem im_De_checkWhole : Cond.instanceMethod m_De_checkWhole.1 ∈ xw_tbl := xw_in4 183 rfl rfl
theorem sl_De_checkWhole : Cond.selects m_De_checkWhole.1.cls m_De_checkWhole.1 m_De_checkWhole.1 ∈ xw_tbl := xw_in4 184 rfl rfl
abbrev c_Di_init : ByteArray := prog_4_method_1_code
def m_Di_init : xm_T := (⟨R_Di, "<init>", "()V"⟩, c_Di_init, 1, none, { frames := 10, cells := 3, slots := 18, locals := 320 })
theorem ok_Di_init : xm_ok m_Di_init 0 := ⟨xw_in1 107 rfl rfl, xw_in1 4 rfl rfl, ⟨by decide, by decide⟩, by decide +kernel⟩
theorem im_Di_init : Cond.instanceMethod m_Di_init.1 ∈ xw_tbl := xw_in1 106 rfl rfl
abbrev c_Di_take : ByteArray := prog_4_method_2_code
def m_Di_take : xm_T := (⟨R_Di, "take", "(LSoundStream$Sound;)V"⟩, c_Di_take, 6, none, { frames := 12, cells := 5, slots := 30, locals := 440 })
theorem ok_Di_take : xm_ok m_Di_take 1 := ⟨xw_in4 189 rfl rfl, xw_in1 4 rfl rfl, ⟨by decide, by decide⟩, by decide +kernel⟩
theorem im_Di_take : Cond.instanceMethod m_Di_take.1 ∈ xw_tbl := xw_in4 187 rfl rfl
theorem sl_Di_take : Cond.selects m_Di_take.1.cls m_Di_take.1 m_Di_take.1 ∈ xw_tbl := xw_in4 188 rfl rfl
abbrev c_Di_half : ByteArray := prog_4_method_3_code
def m_Di_half : xm_T := (⟨R_Di, "half", "(I)J"⟩, c_Di_half, 4, (some (FieldType.long)), { frames := 9, cells := 2, slots := 12, locals := 260 })
theorem ok_Di_half : xm_ok m_Di_half 1 := ⟨xw_in4 224 rfl rfl, xw_in1 4 rfl rfl, ⟨by decide, by decide⟩, by decide +kernel⟩
theorem im_Di_half : Cond.instanceMethod m_Di_half.1 ∈ xw_tbl := xw_in4 222 rfl rfl
theorem sl_Di_half : Cond.selects m_Di_half.1.cls m_Di_half.1 m_Di_half.1 ∈ xw_tbl := xw_in4 223 rfl rfl
abbrev c_Di_begin : ByteArray := prog_4_method_4_code
def m_Di_begin : xm_T := (⟨R_Di, "begin", "()V"⟩, c_Di_begin, 1, none, { frames := 10, cells := 3, slots := 18, locals := 320 })
theorem ok_Di_begin : xm_ok m_Di_begin 0 := ⟨xw_in4 193 rfl rfl, xw_in1 4 rfl rfl, ⟨by decide, by decide⟩, by decide +kernel⟩
theorem im_Di_begin : Cond.instanceMethod m_Di_begin.1 ∈ xw_tbl := xw_in4 192 rfl rfl
theorem sl_Di_begin : Cond.selects m_Di_begin.1.cls m_Di_begin.1 m_Di_begin.1 ∈ xw_tbl := xw_inP 16 rfl rfl
abbrev c_Di_add : ByteArray := prog_4_method_5_code
def m_Di_add : xm_T := (⟨R_Di, "add", "(IJ)V"⟩, c_Di_add, 6, none, { frames := 11, cells := 4, slots := 24, locals := 380 })
theorem ok_Di_add : xm_ok m_Di_add 2 := ⟨xw_in4 204 rfl rfl, xw_in1 4 rfl rfl, ⟨by decide, by decide⟩, by decide +kernel⟩
theorem im_Di_add : Cond.instanceMethod m_Di_add.1 ∈ xw_tbl := xw_in4 203 rfl rfl
theorem sl_Di_add : Cond.selects m_Di_add.1.cls m_Di_add.1 m_Di_add.1 ∈ xw_tbl := xw_inP 17 rfl rfl
abbrev c_Di_mix : ByteArray := prog_4_method_6_code
def m_Di_mix : xm_T := (⟨R_Di, "mix", "()V"⟩, c_Di_mix, 9, none, { frames := 10, cells := 3, slots := 18, locals := 320 })
theorem ok_Di_mix : xm_ok m_Di_mix 0 := ⟨xw_in4 208 rfl rfl, xw_in1 4 rfl rfl, ⟨by decide, by decide⟩, by decide +kernel⟩
theorem im_Di_mix : Cond.instanceMethod m_Di_mix.1 ∈ xw_tbl := xw_in4 207 rfl rfl
theorem sl_Di_mix : Cond.selects m_Di_mix.1.cls m_Di_mix.1 m_Di_mix.1 ∈ xw_tbl := xw_inP 18 rfl rfl
abbrev c_Di_blend : ByteArray := prog_4_method_7_code
def m_Di_blend : xm_T := (⟨R_Di, "blend", "(IIII)I"⟩, c_Di_blend, 4, (some (FieldType.int)), { frames := 9, cells := 2, slots := 12, locals := 260 })
theorem ok_Di_blend : xm_ok m_Di_blend 4 := ⟨xw_in4 213 rfl rfl, xw_in1 4 rfl rfl, ⟨by decide, by decide⟩, by decide +kernel⟩
theorem st_Di_blend : Cond.static m_Di_blend.1 ∈ xw_tbl := xw_in4 212 rfl rfl
abbrev c_Di_wordFor : ByteArray := prog_4_method_8_code
def m_Di_wordFor : xm_T := (⟨R_Di, "wordFor", "(II)I"⟩, c_Di_wordFor, 2, (some (FieldType.int)), { frames := 9, cells := 2, slots := 12, locals := 260 })
theorem ok_Di_wordFor : xm_ok m_Di_wordFor 2 := ⟨xw_in4 218 rfl rfl, xw_in1 4 rfl rfl, ⟨by decide, by decide⟩, by decide +kernel⟩
theorem st_Di_wordFor : Cond.static m_Di_wordFor.1 ∈ xw_tbl := xw_in4 217 rfl rfl
abbrev c_En_init : ByteArray := prog_5_method_1_code
def m_En_init : xm_T := (⟨R_En, "<init>", "(LSoundStream$Sound;LSoundStream$Bytes;LSoundStream$Digest;)V"⟩, c_En_init, 5, none, { frames := 11, cells := 4, slots := 24, locals := 380 })
theorem ok_En_init : xm_ok m_En_init 3 := ⟨xw_in1 132 rfl rfl, xw_in1 5 rfl rfl, ⟨by decide, by decide⟩, by decide +kernel⟩
theorem im_En_init : Cond.instanceMethod m_En_init.1 ∈ xw_tbl := xw_in1 131 rfl rfl
abbrev c_En_write : ByteArray := prog_5_method_2_code
def m_En_write : xm_T := (⟨R_En, "write", "(Z)V"⟩, c_En_write, 7, none, { frames := 15, cells := 8, slots := 48, locals := 620 })
theorem ok_En_write : xm_ok m_En_write 1 := ⟨xw_in5 102 rfl rfl, xw_in1 5 rfl rfl, ⟨by decide, by decide⟩, by decide +kernel⟩
theorem im_En_write : Cond.instanceMethod m_En_write.1 ∈ xw_tbl := xw_in5 100 rfl rfl
theorem sl_En_write : Cond.selects m_En_write.1.cls m_En_write.1 m_En_write.1 ∈ xw_tbl := xw_in5 101 rfl rfl
abbrev c_En_writeInformation : ByteArray := prog_5_method_3_code
def m_En_writeInformation : xm_T := (⟨R_En, "writeInformation", "()V"⟩, c_En_writeInformation, 5, none, { frames := 13, cells := 6, slots := 36, locals := 500 })
theorem ok_En_writeInformation : xm_ok m_En_writeInformation 0 := ⟨xw_in5 106 rfl rfl, xw_in1 5 rfl rfl, ⟨by decide, by decide⟩, by decide +kernel⟩
theorem im_En_writeInformation : Cond.instanceMethod m_En_writeInformation.1 ∈ xw_tbl := xw_in5 105 rfl rfl
theorem sl_En_writeInformation : Cond.selects m_En_writeInformation.1.cls m_En_writeInformation.1 m_En_writeInformation.1 ∈ xw_tbl := xw_inP 19 rfl rfl
abbrev c_En_chooseOne : ByteArray := prog_5_method_4_code
def m_En_chooseOne : xm_T := (⟨R_En, "chooseOne", "(II)I"⟩, c_En_chooseOne, 4, (some (FieldType.int)), { frames := 14, cells := 7, slots := 42, locals := 560 })
theorem ok_En_chooseOne : xm_ok m_En_chooseOne 2 := ⟨xw_in5 124 rfl rfl, xw_in1 5 rfl rfl, ⟨by decide, by decide⟩, by decide +kernel⟩
theorem im_En_chooseOne : Cond.instanceMethod m_En_chooseOne.1 ∈ xw_tbl := xw_in5 123 rfl rfl
theorem sl_En_chooseOne : Cond.selects m_En_chooseOne.1.cls m_En_chooseOne.1 m_En_chooseOne.1 ∈ xw_tbl := xw_inP 20 rfl rfl
abbrev c_En_chooseTwo : ByteArray := prog_5_method_5_code
def m_En_chooseTwo : xm_T := (⟨R_En, "chooseTwo", "(II)I"⟩, c_En_chooseTwo, 6, (some (FieldType.int)), { frames := 14, cells := 7, slots := 42, locals := 560 })
theorem ok_En_chooseTwo : xm_ok m_En_chooseTwo 2 := ⟨xw_in5 194 rfl rfl, xw_in1 5 rfl rfl, ⟨by decide, by decide⟩, by decide +kernel⟩
theorem im_En_chooseTwo : Cond.instanceMethod m_En_chooseTwo.1 ∈ xw_tbl := xw_in5 193 rfl rfl
theorem sl_En_chooseTwo : Cond.selects m_En_chooseTwo.1.cls m_En_chooseTwo.1 m_En_chooseTwo.1 ∈ xw_tbl := xw_inP 28 rfl rfl
abbrev c_En_bitsOfBoth : ByteArray := prog_5_method_6_code
def m_En_bitsOfBoth : xm_T := (⟨R_En, "bitsOfBoth", "(I)J"⟩, c_En_bitsOfBoth, 2, (some (FieldType.long)), { frames := 10, cells := 3, slots := 18, locals := 320 })
theorem ok_En_bitsOfBoth : xm_ok m_En_bitsOfBoth 1 := ⟨xw_in5 198 rfl rfl, xw_in1 5 rfl rfl, ⟨by decide, by decide⟩, by decide +kernel⟩
theorem im_En_bitsOfBoth : Cond.instanceMethod m_En_bitsOfBoth.1 ∈ xw_tbl := xw_in5 197 rfl rfl
theorem sl_En_bitsOfBoth : Cond.selects m_En_bitsOfBoth.1.cls m_En_bitsOfBoth.1 m_En_bitsOfBoth.1 ∈ xw_tbl := xw_inP 29 rfl rfl
abbrev c_En_firstOf : ByteArray := prog_5_method_7_code
def m_En_firstOf : xm_T := (⟨R_En, "firstOf", "(I)LSoundStream$Subframe;"⟩, c_En_firstOf, 2, (some ((FieldType.object "SoundStream$Subframe"))), { frames := 9, cells := 2, slots := 12, locals := 260 })
theorem ok_En_firstOf : xm_ok m_En_firstOf 1 := ⟨xw_in5 202 rfl rfl, xw_in1 5 rfl rfl, ⟨by decide, by decide⟩, by decide +kernel⟩
theorem im_En_firstOf : Cond.instanceMethod m_En_firstOf.1 ∈ xw_tbl := xw_in5 201 rfl rfl
theorem sl_En_firstOf : Cond.selects m_En_firstOf.1.cls m_En_firstOf.1 m_En_firstOf.1 ∈ xw_tbl := xw_inP 30 rfl rfl
abbrev c_En_secondOf : ByteArray := prog_5_method_8_code
def m_En_secondOf : xm_T := (⟨R_En, "secondOf", "(I)LSoundStream$Subframe;"⟩, c_En_secondOf, 2, (some ((FieldType.object "SoundStream$Subframe"))), { frames := 9, cells := 2, slots := 12, locals := 260 })
theorem ok_En_secondOf : xm_ok m_En_secondOf 1 := ⟨xw_in5 206 rfl rfl, xw_in1 5 rfl rfl, ⟨by decide, by decide⟩, by decide +kernel⟩
theorem im_En_secondOf : Cond.instanceMethod m_En_secondOf.1 ∈ xw_tbl := xw_in5 205 rfl rfl
theorem sl_En_secondOf : Cond.selects m_En_secondOf.1.cls m_En_secondOf.1 m_En_secondOf.1 ∈ xw_tbl := xw_inP 31 rfl rfl
abbrev c_En_writeHead : ByteArray := prog_5_method_9_code
def m_En_writeHead : xm_T := (⟨R_En, "writeHead", "(IIIZ)V"⟩, c_En_writeHead, 8, none, { frames := 11, cells := 4, slots := 24, locals := 380 })
theorem ok_En_writeHead : xm_ok m_En_writeHead 4 := ⟨xw_in5 210 rfl rfl, xw_in1 5 rfl rfl, ⟨by decide, by decide⟩, by decide +kernel⟩
theorem im_En_writeHead : Cond.instanceMethod m_En_writeHead.1 ∈ xw_tbl := xw_in5 209 rfl rfl
theorem sl_En_writeHead : Cond.selects m_En_writeHead.1.cls m_En_writeHead.1 m_En_writeHead.1 ∈ xw_tbl := xw_inP 32 rfl rfl
abbrev c_En_writeBody : ByteArray := prog_5_method_10_code
def m_En_writeBody : xm_T := (⟨R_En, "writeBody", "(II)V"⟩, c_En_writeBody, 3, none, { frames := 14, cells := 7, slots := 42, locals := 560 })
theorem ok_En_writeBody : xm_ok m_En_writeBody 2 := ⟨xw_in5 220 rfl rfl, xw_in1 5 rfl rfl, ⟨by decide, by decide⟩, by decide +kernel⟩
theorem im_En_writeBody : Cond.instanceMethod m_En_writeBody.1 ∈ xw_tbl := xw_in5 219 rfl rfl
theorem sl_En_writeBody : Cond.selects m_En_writeBody.1.cls m_En_writeBody.1 m_En_writeBody.1 ∈ xw_tbl := xw_inP 33 rfl rfl
abbrev c_En_note : ByteArray := prog_5_method_11_code
def m_En_note : xm_T := (⟨R_En, "note", "(II)V"⟩, c_En_note, 4, none, { frames := 10, cells := 3, slots := 18, locals := 320 })
theorem ok_En_note : xm_ok m_En_note 2 := ⟨xw_in6 3 rfl rfl, xw_in1 5 rfl rfl, ⟨by decide, by decide⟩, by decide +kernel⟩
theorem im_En_note : Cond.instanceMethod m_En_note.1 ∈ xw_tbl := xw_in6 2 rfl rfl
theorem sl_En_note : Cond.selects m_En_note.1.cls m_En_note.1 m_En_note.1 ∈ xw_tbl := xw_inP 35 rfl rfl
abbrev c_En_noteSubframe : ByteArray := prog_5_method_12_code
def m_En_noteSubframe : xm_T := (⟨R_En, "noteSubframe", "([IILSoundStream$Subframe;)V"⟩, c_En_noteSubframe, 3, none, { frames := 9, cells := 2, slots := 12, locals := 260 })
theorem ok_En_noteSubframe : xm_ok m_En_noteSubframe 3 := ⟨xw_in6 6 rfl rfl, xw_in1 5 rfl rfl, ⟨by decide, by decide⟩, by decide +kernel⟩
theorem st_En_noteSubframe : Cond.static m_En_noteSubframe.1 ∈ xw_tbl := xw_in6 5 rfl rfl
abbrev c_En_tellFrameSizes : ByteArray := prog_5_method_13_code
def m_En_tellFrameSizes : xm_T := (⟨R_En, "tellFrameSizes", "()V"⟩, c_En_tellFrameSizes, 4, none, { frames := 10, cells := 3, slots := 18, locals := 320 })
theorem ok_En_tellFrameSizes : xm_ok m_En_tellFrameSizes 0 := ⟨xw_in6 11 rfl rfl, xw_in1 5 rfl rfl, ⟨by decide, by decide⟩, by decide +kernel⟩
theorem im_En_tellFrameSizes : Cond.instanceMethod m_En_tellFrameSizes.1 ∈ xw_tbl := xw_in6 10 rfl rfl
theorem sl_En_tellFrameSizes : Cond.selects m_En_tellFrameSizes.1.cls m_En_tellFrameSizes.1 m_En_tellFrameSizes.1 ∈ xw_tbl := xw_inP 36 rfl rfl
abbrev c_Rd_init : ByteArray := prog_6_method_1_code
def m_Rd_init : xm_T := (⟨R_Rd, "<init>", "(LSoundStream$Bytes;)V"⟩, c_Rd_init, 2, none, { frames := 10, cells := 3, slots := 18, locals := 320 })
theorem ok_Rd_init : xm_ok m_Rd_init 1 := ⟨xw_in2 23 rfl rfl, xw_in1 10 rfl rfl, ⟨by decide, by decide⟩, by decide +kernel⟩
theorem im_Rd_init : Cond.instanceMethod m_Rd_init.1 ∈ xw_tbl := xw_in2 22 rfl rfl
abbrev c_Rd_begin : ByteArray := prog_6_method_2_code
def m_Rd_begin : xm_T := (⟨R_Rd, "begin", "()V"⟩, c_Rd_begin, 1, none, { frames := 9, cells := 2, slots := 12, locals := 260 })
theorem ok_Rd_begin : xm_ok m_Rd_begin 0 := ⟨xw_in2 157 rfl rfl, xw_in1 10 rfl rfl, ⟨by decide, by decide⟩, by decide +kernel⟩
theorem im_Rd_begin : Cond.instanceMethod m_Rd_begin.1 ∈ xw_tbl := xw_in2 155 rfl rfl
theorem sl_Rd_begin : Cond.selects m_Rd_begin.1.cls m_Rd_begin.1 m_Rd_begin.1 ∈ xw_tbl := xw_in2 156 rfl rfl
abbrev c_Rd_nextByte : ByteArray := prog_6_method_3_code
def m_Rd_nextByte : xm_T := (⟨R_Rd, "nextByte", "()I"⟩, c_Rd_nextByte, 1, (some (FieldType.int)), { frames := 9, cells := 2, slots := 12, locals := 260 })
theorem ok_Rd_nextByte : xm_ok m_Rd_nextByte 0 := ⟨xw_in3 10 rfl rfl, xw_in1 10 rfl rfl, ⟨by decide, by decide⟩, by decide +kernel⟩
theorem im_Rd_nextByte : Cond.instanceMethod m_Rd_nextByte.1 ∈ xw_tbl := xw_in3 8 rfl rfl
theorem sl_Rd_nextByte : Cond.selects m_Rd_nextByte.1.cls m_Rd_nextByte.1 m_Rd_nextByte.1 ∈ xw_tbl := xw_in3 9 rfl rfl
abbrev c_Rd_hasMore : ByteArray := prog_6_method_4_code
def m_Rd_hasMore : xm_T := (⟨R_Rd, "hasMore", "()Z"⟩, c_Rd_hasMore, 1, (some (FieldType.boolean)), { frames := 10, cells := 3, slots := 18, locals := 320 })
theorem ok_Rd_hasMore : xm_ok m_Rd_hasMore 0 := ⟨xw_in3 37 rfl rfl, xw_in1 10 rfl rfl, ⟨by decide, by decide⟩, by decide +kernel⟩
theorem im_Rd_hasMore : Cond.instanceMethod m_Rd_hasMore.1 ∈ xw_tbl := xw_in3 35 rfl rfl
theorem sl_Rd_hasMore : Cond.selects m_Rd_hasMore.1.cls m_Rd_hasMore.1 m_Rd_hasMore.1 ∈ xw_tbl := xw_in3 36 rfl rfl
abbrev c_Rd_markPlace : ByteArray := prog_6_method_5_code
def m_Rd_markPlace : xm_T := (⟨R_Rd, "markPlace", "()V"⟩, c_Rd_markPlace, 1, none, { frames := 10, cells := 3, slots := 18, locals := 320 })
theorem ok_Rd_markPlace : xm_ok m_Rd_markPlace 0 := ⟨xw_in3 6 rfl rfl, xw_in1 10 rfl rfl, ⟨by decide, by decide⟩, by decide +kernel⟩
theorem im_Rd_markPlace : Cond.instanceMethod m_Rd_markPlace.1 ∈ xw_tbl := xw_in3 4 rfl rfl
theorem sl_Rd_markPlace : Cond.selects m_Rd_markPlace.1.cls m_Rd_markPlace.1 m_Rd_markPlace.1 ∈ xw_tbl := xw_in3 5 rfl rfl
abbrev c_Rd_demand : ByteArray := prog_6_method_6_code
def m_Rd_demand : xm_T := (⟨R_Rd, "demand", "(ZI)V"⟩, c_Rd_demand, 3, none, { frames := 10, cells := 3, slots := 18, locals := 320 })
theorem ok_Rd_demand : xm_ok m_Rd_demand 2 := ⟨xw_in2 168 rfl rfl, xw_in1 10 rfl rfl, ⟨by decide, by decide⟩, by decide +kernel⟩
theorem im_Rd_demand : Cond.instanceMethod m_Rd_demand.1 ∈ xw_tbl := xw_in2 166 rfl rfl
theorem sl_Rd_demand : Cond.selects m_Rd_demand.1.cls m_Rd_demand.1 m_Rd_demand.1 ∈ xw_tbl := xw_in2 167 rfl rfl
abbrev c_Rd_bits : ByteArray := prog_6_method_7_code
def m_Rd_bits : xm_T := (⟨R_Rd, "bits", "(I)I"⟩, c_Rd_bits, 4, (some (FieldType.int)), { frames := 10, cells := 3, slots := 18, locals := 320 })
theorem ok_Rd_bits : xm_ok m_Rd_bits 1 := ⟨xw_in3 0 rfl rfl, xw_in1 10 rfl rfl, ⟨by decide, by decide⟩, by decide +kernel⟩
theorem im_Rd_bits : Cond.instanceMethod m_Rd_bits.1 ∈ xw_tbl := xw_in2 238 rfl rfl
theorem sl_Rd_bits : Cond.selects m_Rd_bits.1.cls m_Rd_bits.1 m_Rd_bits.1 ∈ xw_tbl := xw_in2 239 rfl rfl
abbrev c_Rd_signed : ByteArray := prog_6_method_8_code
def m_Rd_signed : xm_T := (⟨R_Rd, "signed", "(I)I"⟩, c_Rd_signed, 3, (some (FieldType.int)), { frames := 11, cells := 4, slots := 24, locals := 380 })
theorem ok_Rd_signed : xm_ok m_Rd_signed 1 := ⟨xw_in3 100 rfl rfl, xw_in1 10 rfl rfl, ⟨by decide, by decide⟩, by decide +kernel⟩
theorem im_Rd_signed : Cond.instanceMethod m_Rd_signed.1 ∈ xw_tbl := xw_in3 98 rfl rfl
theorem sl_Rd_signed : Cond.selects m_Rd_signed.1.cls m_Rd_signed.1 m_Rd_signed.1 ∈ xw_tbl := xw_in3 99 rfl rfl
abbrev c_Rd_zeros : ByteArray := prog_6_method_9_code
def m_Rd_zeros : xm_T := (⟨R_Rd, "zeros", "(JI)J"⟩, c_Rd_zeros, 6, (some (FieldType.long)), { frames := 11, cells := 4, slots := 24, locals := 380 })
theorem ok_Rd_zeros : xm_ok m_Rd_zeros 2 := ⟨xw_in3 92 rfl rfl, xw_in1 10 rfl rfl, ⟨by decide, by decide⟩, by decide +kernel⟩
theorem im_Rd_zeros : Cond.instanceMethod m_Rd_zeros.1 ∈ xw_tbl := xw_in3 90 rfl rfl
theorem sl_Rd_zeros : Cond.selects m_Rd_zeros.1.cls m_Rd_zeros.1 m_Rd_zeros.1 ∈ xw_tbl := xw_in3 91 rfl rfl
abbrev c_Rd_bitsToWholeByte : ByteArray := prog_6_method_10_code
def m_Rd_bitsToWholeByte : xm_T := (⟨R_Rd, "bitsToWholeByte", "()I"⟩, c_Rd_bitsToWholeByte, 1, (some (FieldType.int)), { frames := 11, cells := 4, slots := 24, locals := 380 })
theorem ok_Rd_bitsToWholeByte : xm_ok m_Rd_bitsToWholeByte 0 := ⟨xw_in4 181 rfl rfl, xw_in1 10 rfl rfl, ⟨by decide, by decide⟩, by decide +kernel⟩
theorem im_Rd_bitsToWholeByte : Cond.instanceMethod m_Rd_bitsToWholeByte.1 ∈ xw_tbl := xw_in4 179 rfl rfl
theorem sl_Rd_bitsToWholeByte : Cond.selects m_Rd_bitsToWholeByte.1.cls m_Rd_bitsToWholeByte.1 m_Rd_bitsToWholeByte.1 ∈ xw_tbl := xw_in4 180 rfl rfl
abbrev c_Rd_skipBytes : ByteArray := prog_6_method_11_code
def m_Rd_skipBytes : xm_T := (⟨R_Rd, "skipBytes", "(I)V"⟩, c_Rd_skipBytes, 2, none, { frames := 11, cells := 4, slots := 24, locals := 380 })
theorem ok_Rd_skipBytes : xm_ok m_Rd_skipBytes 1 := ⟨xw_in3 19 rfl rfl, xw_in1 10 rfl rfl, ⟨by decide, by decide⟩, by decide +kernel⟩
theorem im_Rd_skipBytes : Cond.instanceMethod m_Rd_skipBytes.1 ∈ xw_tbl := xw_in3 17 rfl rfl
theorem sl_Rd_skipBytes : Cond.selects m_Rd_skipBytes.1.cls m_Rd_skipBytes.1 m_Rd_skipBytes.1 ∈ xw_tbl := xw_in3 18 rfl rfl
abbrev c_Re_init : ByteArray := prog_7_method_1_code
def m_Re_init : xm_T := (⟨R_Re, "<init>", "()V"⟩, c_Re_init, 1, none, { frames := 10, cells := 3, slots := 18, locals := 320 })
theorem ok_Re_init : xm_ok m_Re_init 0 := ⟨xw_in1 155 rfl rfl, xw_in1 7 rfl rfl, ⟨by decide, by decide⟩, by decide +kernel⟩
theorem im_Re_init : Cond.instanceMethod m_Re_init.1 ∈ xw_tbl := xw_in1 154 rfl rfl
abbrev c_Re_begin : ByteArray := prog_7_method_2_code
def m_Re_begin : xm_T := (⟨R_Re, "begin", "([II)V"⟩, c_Re_begin, 3, none, { frames := 10, cells := 3, slots := 18, locals := 320 })
theorem ok_Re_begin : xm_ok m_Re_begin 2 := ⟨xw_in5 144 rfl rfl, xw_in1 7 rfl rfl, ⟨by decide, by decide⟩, by decide +kernel⟩
theorem im_Re_begin : Cond.instanceMethod m_Re_begin.1 ∈ xw_tbl := xw_in5 142 rfl rfl
theorem sl_Re_begin : Cond.selects m_Re_begin.1.cls m_Re_begin.1 m_Re_begin.1 ∈ xw_tbl := xw_in5 143 rfl rfl
abbrev c_Re_raiseOrder : ByteArray := prog_7_method_3_code
def m_Re_raiseOrder : xm_T := (⟨R_Re, "raiseOrder", "()V"⟩, c_Re_raiseOrder, 2, none, { frames := 9, cells := 2, slots := 12, locals := 260 })
theorem ok_Re_raiseOrder : xm_ok m_Re_raiseOrder 0 := ⟨xw_in5 149 rfl rfl, xw_in1 7 rfl rfl, ⟨by decide, by decide⟩, by decide +kernel⟩
theorem im_Re_raiseOrder : Cond.instanceMethod m_Re_raiseOrder.1 ∈ xw_tbl := xw_in5 147 rfl rfl
theorem sl_Re_raiseOrder : Cond.selects m_Re_raiseOrder.1.cls m_Re_raiseOrder.1 m_Re_raiseOrder.1 ∈ xw_tbl := xw_in5 148 rfl rfl
abbrev c_Re_weigh : ByteArray := prog_7_method_4_code
def m_Re_weigh : xm_T := (⟨R_Re, "weigh", "()J"⟩, c_Re_weigh, 7, (some (FieldType.long)), { frames := 12, cells := 5, slots := 30, locals := 440 })
theorem ok_Re_weigh : xm_ok m_Re_weigh 0 := ⟨xw_in5 153 rfl rfl, xw_in1 7 rfl rfl, ⟨by decide, by decide⟩, by decide +kernel⟩
theorem im_Re_weigh : Cond.instanceMethod m_Re_weigh.1 ∈ xw_tbl := xw_in5 151 rfl rfl
theorem sl_Re_weigh : Cond.selects m_Re_weigh.1.cls m_Re_weigh.1 m_Re_weigh.1 ∈ xw_tbl := xw_in5 152 rfl rfl
abbrev c_Re_write : ByteArray := prog_7_method_5_code
def m_Re_write : xm_T := (⟨R_Re, "write", "(LSoundStream$Writer;I)V"⟩, c_Re_write, 7, none, { frames := 12, cells := 5, slots := 30, locals := 440 })
theorem ok_Re_write : xm_ok m_Re_write 2 := ⟨xw_in5 229 rfl rfl, xw_in1 7 rfl rfl, ⟨by decide, by decide⟩, by decide +kernel⟩
theorem im_Re_write : Cond.instanceMethod m_Re_write.1 ∈ xw_tbl := xw_in5 227 rfl rfl
theorem sl_Re_write : Cond.selects m_Re_write.1.cls m_Re_write.1 m_Re_write.1 ∈ xw_tbl := xw_in5 228 rfl rfl
abbrev c_Re_finestParts : ByteArray := prog_7_method_6_code
def m_Re_finestParts : xm_T := (⟨R_Re, "finestParts", "()I"⟩, c_Re_finestParts, 2, (some (FieldType.int)), { frames := 9, cells := 2, slots := 12, locals := 260 })
theorem ok_Re_finestParts : xm_ok m_Re_finestParts 0 := ⟨xw_in5 157 rfl rfl, xw_in1 7 rfl rfl, ⟨by decide, by decide⟩, by decide +kernel⟩
theorem im_Re_finestParts : Cond.instanceMethod m_Re_finestParts.1 ∈ xw_tbl := xw_in5 156 rfl rfl
theorem sl_Re_finestParts : Cond.selects m_Re_finestParts.1.cls m_Re_finestParts.1 m_Re_finestParts.1 ∈ xw_tbl := xw_inP 22 rfl rfl
abbrev c_Re_collect : ByteArray := prog_7_method_7_code
def m_Re_collect : xm_T := (⟨R_Re, "collect", "(I)V"⟩, c_Re_collect, 5, none, { frames := 10, cells := 3, slots := 18, locals := 320 })
theorem ok_Re_collect : xm_ok m_Re_collect 1 := ⟨xw_in5 161 rfl rfl, xw_in1 7 rfl rfl, ⟨by decide, by decide⟩, by decide +kernel⟩
theorem im_Re_collect : Cond.instanceMethod m_Re_collect.1 ∈ xw_tbl := xw_in5 160 rfl rfl
theorem sl_Re_collect : Cond.selects m_Re_collect.1.cls m_Re_collect.1 m_Re_collect.1 ∈ xw_tbl := xw_inP 23 rfl rfl
abbrev c_Re_addRest : ByteArray := prog_7_method_8_code
def m_Re_addRest : xm_T := (⟨R_Re, "addRest", "(II)V"⟩, c_Re_addRest, 4, none, { frames := 9, cells := 2, slots := 12, locals := 260 })
theorem ok_Re_addRest : xm_ok m_Re_addRest 2 := ⟨xw_in5 171 rfl rfl, xw_in1 7 rfl rfl, ⟨by decide, by decide⟩, by decide +kernel⟩
theorem im_Re_addRest : Cond.instanceMethod m_Re_addRest.1 ∈ xw_tbl := xw_in5 170 rfl rfl
theorem sl_Re_addRest : Cond.selects m_Re_addRest.1.cls m_Re_addRest.1 m_Re_addRest.1 ∈ xw_tbl := xw_inP 24 rfl rfl
abbrev c_Re_bitsOfAll : ByteArray := prog_7_method_9_code
def m_Re_bitsOfAll : xm_T := (⟨R_Re, "bitsOfAll", "(I)J"⟩, c_Re_bitsOfAll, 6, (some (FieldType.long)), { frames := 11, cells := 4, slots := 24, locals := 380 })
theorem ok_Re_bitsOfAll : xm_ok m_Re_bitsOfAll 1 := ⟨xw_in5 176 rfl rfl, xw_in1 7 rfl rfl, ⟨by decide, by decide⟩, by decide +kernel⟩
theorem im_Re_bitsOfAll : Cond.instanceMethod m_Re_bitsOfAll.1 ∈ xw_tbl := xw_in5 175 rfl rfl
theorem sl_Re_bitsOfAll : Cond.selects m_Re_bitsOfAll.1.cls m_Re_bitsOfAll.1 m_Re_bitsOfAll.1 ∈ xw_tbl := xw_inP 25 rfl rfl
abbrev c_Re_bitsOf : ByteArray := prog_7_method_10_code
def m_Re_bitsOf : xm_T := (⟨R_Re, "bitsOf", "(II)J"⟩, c_Re_bitsOf, 8, (some (FieldType.long)), { frames := 10, cells := 3, slots := 18, locals := 320 })
theorem ok_Re_bitsOf : xm_ok m_Re_bitsOf 2 := ⟨xw_in5 181 rfl rfl, xw_in1 7 rfl rfl, ⟨by decide, by decide⟩, by decide +kernel⟩
theorem im_Re_bitsOf : Cond.instanceMethod m_Re_bitsOf.1 ∈ xw_tbl := xw_in5 180 rfl rfl
theorem sl_Re_bitsOf : Cond.selects m_Re_bitsOf.1.cls m_Re_bitsOf.1 m_Re_bitsOf.1 ∈ xw_tbl := xw_inP 26 rfl rfl
abbrev c_Re_joinPairs : ByteArray := prog_7_method_11_code
def m_Re_joinPairs : xm_T := (⟨R_Re, "joinPairs", "(I)V"⟩, c_Re_joinPairs, 4, none, { frames := 9, cells := 2, slots := 12, locals := 260 })
theorem ok_Re_joinPairs : xm_ok m_Re_joinPairs 1 := ⟨xw_in5 190 rfl rfl, xw_in1 7 rfl rfl, ⟨by decide, by decide⟩, by decide +kernel⟩
theorem im_Re_joinPairs : Cond.instanceMethod m_Re_joinPairs.1 ∈ xw_tbl := xw_in5 189 rfl rfl
theorem sl_Re_joinPairs : Cond.selects m_Re_joinPairs.1.cls m_Re_joinPairs.1 m_Re_joinPairs.1 ∈ xw_tbl := xw_inP 27 rfl rfl
abbrev c_Re_writePart : ByteArray := prog_7_method_12_code
def m_Re_writePart : xm_T := (⟨R_Re, "writePart", "(LSoundStream$Writer;II)V"⟩, c_Re_writePart, 6, none, { frames := 11, cells := 4, slots := 24, locals := 380 })
theorem ok_Re_writePart : xm_ok m_Re_writePart 3 := ⟨xw_in5 234 rfl rfl, xw_in1 7 rfl rfl, ⟨by decide, by decide⟩, by decide +kernel⟩
theorem im_Re_writePart : Cond.instanceMethod m_Re_writePart.1 ∈ xw_tbl := xw_in5 233 rfl rfl
theorem sl_Re_writePart : Cond.selects m_Re_writePart.1.cls m_Re_writePart.1 m_Re_writePart.1 ∈ xw_tbl := xw_inP 34 rfl rfl
abbrev c_Re_fold : ByteArray := prog_7_method_13_code
def m_Re_fold : xm_T := (⟨R_Re, "fold", "(I)I"⟩, c_Re_fold, 1, (some (FieldType.int)), { frames := 9, cells := 2, slots := 12, locals := 260 })
theorem ok_Re_fold : xm_ok m_Re_fold 1 := ⟨xw_in5 167 rfl rfl, xw_in1 7 rfl rfl, ⟨by decide, by decide⟩, by decide +kernel⟩
theorem st_Re_fold : Cond.static m_Re_fold.1 ∈ xw_tbl := xw_in5 166 rfl rfl
abbrev c_So_init : ByteArray := prog_8_method_1_code
def m_So_init : xm_T := (⟨R_So, "<init>", "()V"⟩, c_So_init, 1, none, { frames := 10, cells := 3, slots := 18, locals := 320 })
theorem ok_So_init : xm_ok m_So_init 0 := ⟨xw_in1 43 rfl rfl, xw_in1 2 rfl rfl, ⟨by decide, by decide⟩, by decide +kernel⟩
theorem im_So_init : Cond.instanceMethod m_So_init.1 ∈ xw_tbl := xw_in1 42 rfl rfl
abbrev c_So_shape : ByteArray := prog_8_method_2_code
def m_So_shape : xm_T := (⟨R_So, "shape", "(IIII)V"⟩, c_So_shape, 5, none, { frames := 9, cells := 2, slots := 12, locals := 260 })
theorem ok_So_shape : xm_ok m_So_shape 4 := ⟨xw_in3 29 rfl rfl, xw_in1 2 rfl rfl, ⟨by decide, by decide⟩, by decide +kernel⟩
theorem im_So_shape : Cond.instanceMethod m_So_shape.1 ∈ xw_tbl := xw_in3 27 rfl rfl
theorem sl_So_shape : Cond.selects m_So_shape.1.cls m_So_shape.1 m_So_shape.1 ∈ xw_tbl := xw_in3 28 rfl rfl
abbrev c_So_empty : ByteArray := prog_8_method_3_code
def m_So_empty : xm_T := (⟨R_So, "empty", "()V"⟩, c_So_empty, 1, none, { frames := 9, cells := 2, slots := 12, locals := 260 })
theorem ok_So_empty : xm_ok m_So_empty 0 := ⟨xw_in2 136 rfl rfl, xw_in1 2 rfl rfl, ⟨by decide, by decide⟩, by decide +kernel⟩
theorem im_So_empty : Cond.instanceMethod m_So_empty.1 ∈ xw_tbl := xw_in2 134 rfl rfl
theorem sl_So_empty : Cond.selects m_So_empty.1.cls m_So_empty.1 m_So_empty.1 ∈ xw_tbl := xw_in2 135 rfl rfl
abbrev c_So_hasChannel : ByteArray := prog_8_method_4_code
def m_So_hasChannel : xm_T := (⟨R_So, "hasChannel", "(I)Z"⟩, c_So_hasChannel, 2, (some (FieldType.boolean)), { frames := 9, cells := 2, slots := 12, locals := 260 })
theorem ok_So_hasChannel : xm_ok m_So_hasChannel 1 := ⟨xw_in5 26 rfl rfl, xw_in1 2 rfl rfl, ⟨by decide, by decide⟩, by decide +kernel⟩
theorem im_So_hasChannel : Cond.instanceMethod m_So_hasChannel.1 ∈ xw_tbl := xw_in5 24 rfl rfl
theorem sl_So_hasChannel : Cond.selects m_So_hasChannel.1.cls m_So_hasChannel.1 m_So_hasChannel.1 ∈ xw_tbl := xw_in5 25 rfl rfl
abbrev c_So_hasSample : ByteArray := prog_8_method_5_code
def m_So_hasSample : xm_T := (⟨R_So, "hasSample", "(II)Z"⟩, c_So_hasSample, 3, (some (FieldType.boolean)), { frames := 9, cells := 2, slots := 12, locals := 260 })
theorem ok_So_hasSample : xm_ok m_So_hasSample 2 := ⟨xw_in5 61 rfl rfl, xw_in1 2 rfl rfl, ⟨by decide, by decide⟩, by decide +kernel⟩
theorem im_So_hasSample : Cond.instanceMethod m_So_hasSample.1 ∈ xw_tbl := xw_in5 59 rfl rfl
theorem sl_So_hasSample : Cond.selects m_So_hasSample.1.cls m_So_hasSample.1 m_So_hasSample.1 ∈ xw_tbl := xw_in5 60 rfl rfl
abbrev c_So_isEven : ByteArray := prog_8_method_6_code
def m_So_isEven : xm_T := (⟨R_So, "isEven", "()Z"⟩, c_So_isEven, 1, (some (FieldType.boolean)), { frames := 9, cells := 2, slots := 12, locals := 260 })
theorem ok_So_isEven : xm_ok m_So_isEven 0 := ⟨xw_in5 87 rfl rfl, xw_in1 2 rfl rfl, ⟨by decide, by decide⟩, by decide +kernel⟩
theorem im_So_isEven : Cond.instanceMethod m_So_isEven.1 ∈ xw_tbl := xw_in5 85 rfl rfl
theorem sl_So_isEven : Cond.selects m_So_isEven.1.cls m_So_isEven.1 m_So_isEven.1 ∈ xw_tbl := xw_in5 86 rfl rfl
abbrev c_So_room : ByteArray := prog_8_method_7_code
def m_So_room : xm_T := (⟨R_So, "room", "(I)I"⟩, c_So_room, 2, (some (FieldType.int)), { frames := 9, cells := 2, slots := 12, locals := 260 })
theorem ok_So_room : xm_ok m_So_room 1 := ⟨xw_in5 31 rfl rfl, xw_in1 2 rfl rfl, ⟨by decide, by decide⟩, by decide +kernel⟩
theorem im_So_room : Cond.instanceMethod m_So_room.1 ∈ xw_tbl := xw_in5 29 rfl rfl
theorem sl_So_room : Cond.selects m_So_room.1.cls m_So_room.1 m_So_room.1 ∈ xw_tbl := xw_in5 30 rfl rfl
abbrev c_So_append : ByteArray := prog_8_method_8_code
def m_So_append : xm_T := (⟨R_So, "append", "(II)V"⟩, c_So_append, 4, none, { frames := 9, cells := 2, slots := 12, locals := 260 })
theorem ok_So_append : xm_ok m_So_append 2 := ⟨xw_in5 35 rfl rfl, xw_in1 2 rfl rfl, ⟨by decide, by decide⟩, by decide +kernel⟩
theorem im_So_append : Cond.instanceMethod m_So_append.1 ∈ xw_tbl := xw_in5 33 rfl rfl
theorem sl_So_append : Cond.selects m_So_append.1.cls m_So_append.1 m_So_append.1 ∈ xw_tbl := xw_in5 34 rfl rfl
abbrev c_Su_init : ByteArray := prog_9_method_1_code
def m_Su_init : xm_T := (⟨R_Su, "<init>", "(LSoundStream$Rests;)V"⟩, c_Su_init, 2, none, { frames := 10, cells := 3, slots := 18, locals := 320 })
theorem ok_Su_init : xm_ok m_Su_init 1 := ⟨xw_in1 190 rfl rfl, xw_in1 8 rfl rfl, ⟨by decide, by decide⟩, by decide +kernel⟩
theorem im_Su_init : Cond.instanceMethod m_Su_init.1 ∈ xw_tbl := xw_in1 189 rfl rfl
abbrev c_Su_setSample : ByteArray := prog_9_method_2_code
def m_Su_setSample : xm_T := (⟨R_Su, "setSample", "(II)V"⟩, c_Su_setSample, 3, none, { frames := 9, cells := 2, slots := 12, locals := 260 })
theorem ok_Su_setSample : xm_ok m_Su_setSample 2 := ⟨xw_in5 128 rfl rfl, xw_in1 8 rfl rfl, ⟨by decide, by decide⟩, by decide +kernel⟩
theorem im_Su_setSample : Cond.instanceMethod m_Su_setSample.1 ∈ xw_tbl := xw_in5 126 rfl rfl
theorem sl_Su_setSample : Cond.selects m_Su_setSample.1.cls m_Su_setSample.1 m_Su_setSample.1 ∈ xw_tbl := xw_in5 127 rfl rfl
abbrev c_Su_choose : ByteArray := prog_9_method_3_code
def m_Su_choose : xm_T := (⟨R_Su, "choose", "(II)V"⟩, c_Su_choose, 9, none, { frames := 13, cells := 6, slots := 36, locals := 500 })
theorem ok_Su_choose : xm_ok m_Su_choose 2 := ⟨xw_in5 132 rfl rfl, xw_in1 8 rfl rfl, ⟨by decide, by decide⟩, by decide +kernel⟩
theorem im_Su_choose : Cond.instanceMethod m_Su_choose.1 ∈ xw_tbl := xw_in5 130 rfl rfl
theorem sl_Su_choose : Cond.selects m_Su_choose.1.cls m_Su_choose.1 m_Su_choose.1 ∈ xw_tbl := xw_in5 131 rfl rfl
abbrev c_Su_write : ByteArray := prog_9_method_4_code
def m_Su_write : xm_T := (⟨R_Su, "write", "(LSoundStream$Writer;)V"⟩, c_Su_write, 4, none, { frames := 13, cells := 6, slots := 36, locals := 500 })
theorem ok_Su_write : xm_ok m_Su_write 1 := ⟨xw_in5 224 rfl rfl, xw_in1 8 rfl rfl, ⟨by decide, by decide⟩, by decide +kernel⟩
theorem im_Su_write : Cond.instanceMethod m_Su_write.1 ∈ xw_tbl := xw_in5 222 rfl rfl
theorem sl_Su_write : Cond.selects m_Su_write.1.cls m_Su_write.1 m_Su_write.1 ∈ xw_tbl := xw_in5 223 rfl rfl
abbrev c_Su_dropZeros : ByteArray := prog_9_method_5_code
def m_Su_dropZeros : xm_T := (⟨R_Su, "dropZeros", "()Z"⟩, c_Su_dropZeros, 4, (some (FieldType.boolean)), { frames := 10, cells := 3, slots := 18, locals := 320 })
theorem ok_Su_dropZeros : xm_ok m_Su_dropZeros 0 := ⟨xw_in5 136 rfl rfl, xw_in1 8 rfl rfl, ⟨by decide, by decide⟩, by decide +kernel⟩
theorem im_Su_dropZeros : Cond.instanceMethod m_Su_dropZeros.1 ∈ xw_tbl := xw_in5 135 rfl rfl
theorem sl_Su_dropZeros : Cond.selects m_Su_dropZeros.1.cls m_Su_dropZeros.1 m_Su_dropZeros.1 ∈ xw_tbl := xw_inP 21 rfl rfl
abbrev c_Sr_init : ByteArray := prog_10_method_1_code
def m_Sr_init : xm_T := (⟨R_Sr, "<init>", "(LSoundStream$Reader;)V"⟩, c_Sr_init, 2, none, { frames := 10, cells := 3, slots := 18, locals := 320 })
theorem ok_Sr_init : xm_ok m_Sr_init 1 := ⟨xw_in2 45 rfl rfl, xw_in1 11 rfl rfl, ⟨by decide, by decide⟩, by decide +kernel⟩
theorem im_Sr_init : Cond.instanceMethod m_Sr_init.1 ∈ xw_tbl := xw_in2 44 rfl rfl
abbrev c_Sr_read : ByteArray := prog_10_method_2_code
def m_Sr_read : xm_T := (⟨R_Sr, "read", "([IIII)V"⟩, c_Sr_read, 9, none, { frames := 14, cells := 7, slots := 42, locals := 560 })
theorem ok_Sr_read : xm_ok m_Sr_read 4 := ⟨xw_in3 83 rfl rfl, xw_in1 11 rfl rfl, ⟨by decide, by decide⟩, by decide +kernel⟩
theorem im_Sr_read : Cond.instanceMethod m_Sr_read.1 ∈ xw_tbl := xw_in3 81 rfl rfl
theorem sl_Sr_read : Cond.selects m_Sr_read.1.cls m_Sr_read.1 m_Sr_read.1 ∈ xw_tbl := xw_in3 82 rfl rfl
abbrev c_Sr_isType : ByteArray := prog_10_method_3_code
def m_Sr_isType : xm_T := (⟨R_Sr, "isType", "(I)Z"⟩, c_Sr_isType, 1, (some (FieldType.boolean)), { frames := 9, cells := 2, slots := 12, locals := 260 })
theorem ok_Sr_isType : xm_ok m_Sr_isType 1 := ⟨xw_in3 87 rfl rfl, xw_in1 11 rfl rfl, ⟨by decide, by decide⟩, by decide +kernel⟩
theorem st_Sr_isType : Cond.static m_Sr_isType.1 ∈ xw_tbl := xw_in3 86 rfl rfl
abbrev c_Sr_orderOf : ByteArray := prog_10_method_4_code
def m_Sr_orderOf : xm_T := (⟨R_Sr, "orderOf", "(I)I"⟩, c_Sr_orderOf, 1, (some (FieldType.int)), { frames := 9, cells := 2, slots := 12, locals := 260 })
theorem ok_Sr_orderOf : xm_ok m_Sr_orderOf 1 := ⟨xw_in3 96 rfl rfl, xw_in1 11 rfl rfl, ⟨by decide, by decide⟩, by decide +kernel⟩
theorem st_Sr_orderOf : Cond.static m_Sr_orderOf.1 ∈ xw_tbl := xw_in3 95 rfl rfl
abbrev c_Sr_readPlain : ByteArray := prog_10_method_5_code
def m_Sr_readPlain : xm_T := (⟨R_Sr, "readPlain", "([III)V"⟩, c_Sr_readPlain, 5, none, { frames := 12, cells := 5, slots := 30, locals := 440 })
theorem ok_Sr_readPlain : xm_ok m_Sr_readPlain 3 := ⟨xw_in4 147 rfl rfl, xw_in1 11 rfl rfl, ⟨by decide, by decide⟩, by decide +kernel⟩
theorem im_Sr_readPlain : Cond.instanceMethod m_Sr_readPlain.1 ∈ xw_tbl := xw_in4 146 rfl rfl
theorem sl_Sr_readPlain : Cond.selects m_Sr_readPlain.1.cls m_Sr_readPlain.1 m_Sr_readPlain.1 ∈ xw_tbl := xw_inP 9 rfl rfl
abbrev c_Sr_readFactors : ByteArray := prog_10_method_6_code
def m_Sr_readFactors : xm_T := (⟨R_Sr, "readFactors", "()V"⟩, c_Sr_readFactors, 3, none, { frames := 12, cells := 5, slots := 30, locals := 440 })
theorem ok_Sr_readFactors : xm_ok m_Sr_readFactors 0 := ⟨xw_in4 151 rfl rfl, xw_in1 11 rfl rfl, ⟨by decide, by decide⟩, by decide +kernel⟩
theorem im_Sr_readFactors : Cond.instanceMethod m_Sr_readFactors.1 ∈ xw_tbl := xw_in4 150 rfl rfl
theorem sl_Sr_readFactors : Cond.selects m_Sr_readFactors.1.cls m_Sr_readFactors.1 m_Sr_readFactors.1 ∈ xw_tbl := xw_inP 10 rfl rfl
abbrev c_Sr_useFixedFactors : ByteArray := prog_10_method_7_code
def m_Sr_useFixedFactors : xm_T := (⟨R_Sr, "useFixedFactors", "()V"⟩, c_Sr_useFixedFactors, 1, none, { frames := 10, cells := 3, slots := 18, locals := 320 })
theorem ok_Sr_useFixedFactors : xm_ok m_Sr_useFixedFactors 0 := ⟨xw_in4 155 rfl rfl, xw_in1 11 rfl rfl, ⟨by decide, by decide⟩, by decide +kernel⟩
theorem im_Sr_useFixedFactors : Cond.instanceMethod m_Sr_useFixedFactors.1 ∈ xw_tbl := xw_in4 154 rfl rfl
theorem sl_Sr_useFixedFactors : Cond.selects m_Sr_useFixedFactors.1.cls m_Sr_useFixedFactors.1 m_Sr_useFixedFactors.1 ∈ xw_tbl := xw_inP 11 rfl rfl
abbrev c_Sr_readRests : ByteArray := prog_10_method_8_code
def m_Sr_readRests : xm_T := (⟨R_Sr, "readRests", "([III)V"⟩, c_Sr_readRests, 9, none, { frames := 13, cells := 6, slots := 36, locals := 500 })
theorem ok_Sr_readRests : xm_ok m_Sr_readRests 3 := ⟨xw_in4 162 rfl rfl, xw_in1 11 rfl rfl, ⟨by decide, by decide⟩, by decide +kernel⟩
theorem im_Sr_readRests : Cond.instanceMethod m_Sr_readRests.1 ∈ xw_tbl := xw_in4 161 rfl rfl
theorem sl_Sr_readRests : Cond.selects m_Sr_readRests.1.cls m_Sr_readRests.1 m_Sr_readRests.1 ∈ xw_tbl := xw_inP 12 rfl rfl
abbrev c_Sr_readPart : ByteArray := prog_10_method_9_code
def m_Sr_readPart : xm_T := (⟨R_Sr, "readPart", "([IIII)V"⟩, c_Sr_readPart, 14, none, { frames := 12, cells := 5, slots := 30, locals := 440 })
theorem ok_Sr_readPart : xm_ok m_Sr_readPart 4 := ⟨xw_in4 166 rfl rfl, xw_in1 11 rfl rfl, ⟨by decide, by decide⟩, by decide +kernel⟩
theorem im_Sr_readPart : Cond.instanceMethod m_Sr_readPart.1 ∈ xw_tbl := xw_in4 165 rfl rfl
theorem sl_Sr_readPart : Cond.selects m_Sr_readPart.1.cls m_Sr_readPart.1 m_Sr_readPart.1 ∈ xw_tbl := xw_inP 13 rfl rfl
abbrev c_Sr_unfold : ByteArray := prog_10_method_10_code
def m_Sr_unfold : xm_T := (⟨R_Sr, "unfold", "(J)J"⟩, c_Sr_unfold, 2, (some (FieldType.long)), { frames := 9, cells := 2, slots := 12, locals := 260 })
theorem ok_Sr_unfold : xm_ok m_Sr_unfold 1 := ⟨xw_in4 169 rfl rfl, xw_in1 11 rfl rfl, ⟨by decide, by decide⟩, by decide +kernel⟩
theorem st_Sr_unfold : Cond.static m_Sr_unfold.1 ∈ xw_tbl := xw_in4 168 rfl rfl
abbrev c_Sr_predict : ByteArray := prog_10_method_11_code
def m_Sr_predict : xm_T := (⟨R_Sr, "predict", "([II)J"⟩, c_Sr_predict, 6, (some (FieldType.long)), { frames := 9, cells := 2, slots := 12, locals := 260 })
theorem ok_Sr_predict : xm_ok m_Sr_predict 2 := ⟨xw_in4 173 rfl rfl, xw_in1 11 rfl rfl, ⟨by decide, by decide⟩, by decide +kernel⟩
theorem im_Sr_predict : Cond.instanceMethod m_Sr_predict.1 ∈ xw_tbl := xw_in4 172 rfl rfl
theorem sl_Sr_predict : Cond.selects m_Sr_predict.1.cls m_Sr_predict.1 m_Sr_predict.1 ∈ xw_tbl := xw_inP 14 rfl rfl
abbrev c_Wr_init : ByteArray := prog_11_method_1_code
def m_Wr_init : xm_T := (⟨R_Wr, "<init>", "(LSoundStream$Bytes;)V"⟩, c_Wr_init, 2, none, { frames := 10, cells := 3, slots := 18, locals := 320 })
theorem ok_Wr_init : xm_ok m_Wr_init 1 := ⟨xw_in1 139 rfl rfl, xw_in1 6 rfl rfl, ⟨by decide, by decide⟩, by decide +kernel⟩
theorem im_Wr_init : Cond.instanceMethod m_Wr_init.1 ∈ xw_tbl := xw_in1 138 rfl rfl
abbrev c_Wr_put : ByteArray := prog_11_method_2_code
def m_Wr_put : xm_T := (⟨R_Wr, "put", "(IJ)V"⟩, c_Wr_put, 5, none, { frames := 10, cells := 3, slots := 18, locals := 320 })
theorem ok_Wr_put : xm_ok m_Wr_put 2 := ⟨xw_in5 111 rfl rfl, xw_in1 6 rfl rfl, ⟨by decide, by decide⟩, by decide +kernel⟩
theorem im_Wr_put : Cond.instanceMethod m_Wr_put.1 ∈ xw_tbl := xw_in5 109 rfl rfl
theorem sl_Wr_put : Cond.selects m_Wr_put.1.cls m_Wr_put.1 m_Wr_put.1 ∈ xw_tbl := xw_in5 110 rfl rfl
abbrev c_Wr_fillByte : ByteArray := prog_11_method_3_code
def m_Wr_fillByte : xm_T := (⟨R_Wr, "fillByte", "()V"⟩, c_Wr_fillByte, 1, none, { frames := 11, cells := 4, slots := 24, locals := 380 })
theorem ok_Wr_fillByte : xm_ok m_Wr_fillByte 0 := ⟨xw_in5 238 rfl rfl, xw_in1 6 rfl rfl, ⟨by decide, by decide⟩, by decide +kernel⟩
theorem im_Wr_fillByte : Cond.instanceMethod m_Wr_fillByte.1 ∈ xw_tbl := xw_in5 236 rfl rfl
theorem sl_Wr_fillByte : Cond.selects m_Wr_fillByte.1.cls m_Wr_fillByte.1 m_Wr_fillByte.1 ∈ xw_tbl := xw_in5 237 rfl rfl
