/-! NAMES of the methods with handlers, by program (wip/gen/namesh.py) -/
abbrev c_SS_decode : ByteArray := prog_1_method_17_code
def m_SS_decode : xm_T := (⟨R_SS, "decode", "()I"⟩, c_SS_decode, 2, (some (FieldType.int)), { frames := 16, cells := 9, slots := 54, locals := 680 })
def hh_SS_decode : List (Nat × Nat × Nat × Nat) := [(7, 53, 56, 111)]
theorem okH_SS_decode : xm_okH m_SS_decode hh_SS_decode 0 := ⟨xw_in2 148 rfl rfl, xw_in1 1 rfl rfl, ⟨by decide, by decide⟩, by decide +kernel⟩
theorem im_SS_decode : Cond.instanceMethod m_SS_decode.1 ∈ xw_tbl := xw_in2 146 rfl rfl
theorem sl_SS_decode : Cond.selects m_SS_decode.1.cls m_SS_decode.1 m_SS_decode.1 ∈ xw_tbl := xw_in2 147 rfl rfl
abbrev c_La_form : ByteArray := method_3_code
def m_La_form : xm_T := (⟨"SoundStreamLaw", "form", "(LSoundStream;IIII)I"⟩, c_La_form, 6, (some (FieldType.int)), { frames := 11, cells := 4, slots := 24, locals := 380 })
def hh_La_form : List (Nat × Nat × Nat × Nat) := [(0, 9, 12, 13)]
theorem okH_La_form : xm_okH m_La_form hh_La_form 5 := ⟨xw_in5 0 rfl rfl, xw_in1 0 rfl rfl, ⟨by decide, by decide⟩, by decide +kernel⟩
theorem st_La_form : Cond.static m_La_form.1 ∈ xw_tbl := xw_in4 239 rfl rfl
abbrev c_La_sample : ByteArray := method_4_code
def m_La_sample : xm_T := (⟨"SoundStreamLaw", "sample", "(LSoundStream;II[J)I"⟩, c_La_sample, 5, (some (FieldType.int)), { frames := 12, cells := 5, slots := 30, locals := 440 })
def hh_La_sample : List (Nat × Nat × Nat × Nat) := [(0, 10, 13, 13)]
theorem okH_La_sample : xm_okH m_La_sample hh_La_sample 4 := ⟨xw_in5 14 rfl rfl, xw_in1 0 rfl rfl, ⟨by decide, by decide⟩, by decide +kernel⟩
theorem st_La_sample : Cond.static m_La_sample.1 ∈ xw_tbl := xw_in5 13 rfl rfl
abbrev c_La_ramp : ByteArray := method_5_code
def m_La_ramp : xm_T := (⟨"SoundStreamLaw", "ramp", "(LSoundStream;IIII[J)I"⟩, c_La_ramp, 7, (some (FieldType.int)), { frames := 11, cells := 4, slots := 24, locals := 380 })
def hh_La_ramp : List (Nat × Nat × Nat × Nat) := [(0, 14, 17, 13)]
theorem okH_La_ramp : xm_okH m_La_ramp hh_La_ramp 6 := ⟨xw_in5 38 rfl rfl, xw_in1 0 rfl rfl, ⟨by decide, by decide⟩, by decide +kernel⟩
theorem st_La_ramp : Cond.static m_La_ramp.1 ∈ xw_tbl := xw_in5 37 rfl rfl
abbrev c_La_noise : ByteArray := method_6_code
def m_La_noise : xm_T := (⟨"SoundStreamLaw", "noise", "(LSoundStream;IIII[J)I"⟩, c_La_noise, 7, (some (FieldType.int)), { frames := 11, cells := 4, slots := 24, locals := 380 })
def hh_La_noise : List (Nat × Nat × Nat × Nat) := [(0, 14, 17, 13)]
theorem okH_La_noise : xm_okH m_La_noise hh_La_noise 6 := ⟨xw_in5 42 rfl rfl, xw_in1 0 rfl rfl, ⟨by decide, by decide⟩, by decide +kernel⟩
theorem st_La_noise : Cond.static m_La_noise.1 ∈ xw_tbl := xw_in5 41 rfl rfl
abbrev c_La_at : ByteArray := method_7_code
def m_La_at : xm_T := (⟨"SoundStreamLaw", "at", "(LSoundStream;II[J)I"⟩, c_La_at, 5, (some (FieldType.int)), { frames := 11, cells := 4, slots := 24, locals := 380 })
def hh_La_at : List (Nat × Nat × Nat × Nat) := [(0, 10, 13, 13), (0, 10, 17, 29)]
theorem okH_La_at : xm_okH m_La_at hh_La_at 4 := ⟨xw_in5 51 rfl rfl, xw_in1 0 rfl rfl, ⟨by decide, by decide⟩, by decide +kernel⟩
theorem st_La_at : Cond.static m_La_at.1 ∈ xw_tbl := xw_in5 50 rfl rfl
abbrev c_La_sum : ByteArray := method_8_code
def m_La_sum : xm_T := (⟨"SoundStreamLaw", "sum", "(LSoundStream;I[J)I"⟩, c_La_sum, 4, (some (FieldType.int)), { frames := 14, cells := 7, slots := 42, locals := 560 })
def hh_La_sum : List (Nat × Nat × Nat × Nat) := [(0, 8, 11, 13), (0, 8, 14, 35)]
theorem okH_La_sum : xm_okH m_La_sum hh_La_sum 3 := ⟨xw_in5 77 rfl rfl, xw_in1 0 rfl rfl, ⟨by decide, by decide⟩, by decide +kernel⟩
theorem st_La_sum : Cond.static m_La_sum.1 ∈ xw_tbl := xw_in5 76 rfl rfl
abbrev c_La_encode : ByteArray := method_9_code
def m_La_encode : xm_T := (⟨"SoundStreamLaw", "encode", "(LSoundStream;Z[J)I"⟩, c_La_encode, 4, (some (FieldType.int)), { frames := 17, cells := 10, slots := 60, locals := 740 })
def hh_La_encode : List (Nat × Nat × Nat × Nat) := [(0, 9, 12, 35)]
theorem okH_La_encode : xm_okH m_La_encode hh_La_encode 3 := ⟨xw_in5 94 rfl rfl, xw_in1 0 rfl rfl, ⟨by decide, by decide⟩, by decide +kernel⟩
theorem st_La_encode : Cond.static m_La_encode.1 ∈ xw_tbl := xw_in5 93 rfl rfl
abbrev c_La_told : ByteArray := method_10_code
def m_La_told : xm_T := (⟨"SoundStreamLaw", "told", "(LSoundStream;I[J)I"⟩, c_La_told, 4, (some (FieldType.int)), { frames := 11, cells := 4, slots := 24, locals := 380 })
def hh_La_told : List (Nat × Nat × Nat × Nat) := [(0, 9, 12, 13)]
theorem okH_La_told : xm_okH m_La_told hh_La_told 3 := ⟨xw_in6 19 rfl rfl, xw_in1 0 rfl rfl, ⟨by decide, by decide⟩, by decide +kernel⟩
theorem st_La_told : Cond.static m_La_told.1 ∈ xw_tbl := xw_in6 18 rfl rfl
abbrev c_La_frame : ByteArray := method_11_code
def m_La_frame : xm_T := (⟨"SoundStreamLaw", "frame", "(LSoundStream;II[J)I"⟩, c_La_frame, 5, (some (FieldType.int)), { frames := 11, cells := 4, slots := 24, locals := 380 })
def hh_La_frame : List (Nat × Nat × Nat × Nat) := [(0, 10, 13, 13), (0, 10, 17, 29)]
theorem okH_La_frame : xm_okH m_La_frame hh_La_frame 4 := ⟨xw_in6 31 rfl rfl, xw_in1 0 rfl rfl, ⟨by decide, by decide⟩, by decide +kernel⟩
theorem st_La_frame : Cond.static m_La_frame.1 ∈ xw_tbl := xw_in6 30 rfl rfl
abbrev c_La_feed : ByteArray := method_12_code
def m_La_feed : xm_T := (⟨"SoundStreamLaw", "feed", "(LSoundStream;IJ[J)I"⟩, c_La_feed, 6, (some (FieldType.int)), { frames := 11, cells := 4, slots := 24, locals := 380 })
def hh_La_feed : List (Nat × Nat × Nat × Nat) := [(0, 11, 14, 13)]
theorem okH_La_feed : xm_okH m_La_feed hh_La_feed 4 := ⟨xw_in6 39 rfl rfl, xw_in1 0 rfl rfl, ⟨by decide, by decide⟩, by decide +kernel⟩
theorem st_La_feed : Cond.static m_La_feed.1 ∈ xw_tbl := xw_in6 38 rfl rfl
abbrev c_La_cut : ByteArray := method_13_code
def m_La_cut : xm_T := (⟨"SoundStreamLaw", "cut", "(LSoundStream;I[J)I"⟩, c_La_cut, 4, (some (FieldType.int)), { frames := 11, cells := 4, slots := 24, locals := 380 })
def hh_La_cut : List (Nat × Nat × Nat × Nat) := [(0, 9, 12, 13)]
theorem okH_La_cut : xm_okH m_La_cut hh_La_cut 3 := ⟨xw_in6 48 rfl rfl, xw_in1 0 rfl rfl, ⟨by decide, by decide⟩, by decide +kernel⟩
theorem st_La_cut : Cond.static m_La_cut.1 ∈ xw_tbl := xw_in6 47 rfl rfl
abbrev c_La_spoil : ByteArray := method_14_code
def m_La_spoil : xm_T := (⟨"SoundStreamLaw", "spoil", "(LSoundStream;II[J)I"⟩, c_La_spoil, 5, (some (FieldType.int)), { frames := 11, cells := 4, slots := 24, locals := 380 })
def hh_La_spoil : List (Nat × Nat × Nat × Nat) := [(0, 10, 13, 29), (0, 10, 17, 13)]
theorem okH_La_spoil : xm_okH m_La_spoil hh_La_spoil 4 := ⟨xw_in6 56 rfl rfl, xw_in1 0 rfl rfl, ⟨by decide, by decide⟩, by decide +kernel⟩
theorem st_La_spoil : Cond.static m_La_spoil.1 ∈ xw_tbl := xw_in6 55 rfl rfl
abbrev c_La_seal : ByteArray := method_15_code
def m_La_seal : xm_T := (⟨"SoundStreamLaw", "seal", "(LSoundStream;III)I"⟩, c_La_seal, 5, (some (FieldType.int)), { frames := 12, cells := 5, slots := 30, locals := 440 })
def hh_La_seal : List (Nat × Nat × Nat × Nat) := [(0, 7, 10, 13), (0, 7, 14, 29)]
theorem okH_La_seal : xm_okH m_La_seal hh_La_seal 4 := ⟨xw_in6 66 rfl rfl, xw_in1 0 rfl rfl, ⟨by decide, by decide⟩, by decide +kernel⟩
theorem st_La_seal : Cond.static m_La_seal.1 ∈ xw_tbl := xw_in6 65 rfl rfl
abbrev c_La_heard : ByteArray := method_16_code
def m_La_heard : xm_T := (⟨"SoundStreamLaw", "heard", "(LSoundStream;II[J)I"⟩, c_La_heard, 5, (some (FieldType.int)), { frames := 11, cells := 4, slots := 24, locals := 380 })
def hh_La_heard : List (Nat × Nat × Nat × Nat) := [(0, 10, 13, 13), (0, 10, 17, 29)]
theorem okH_La_heard : xm_okH m_La_heard hh_La_heard 4 := ⟨xw_in6 76 rfl rfl, xw_in1 0 rfl rfl, ⟨by decide, by decide⟩, by decide +kernel⟩
theorem st_La_heard : Cond.static m_La_heard.1 ∈ xw_tbl := xw_in6 75 rfl rfl
theorem l_La_69 : Cond.methodLink "SoundStreamLaw" 69 m_La_form.1 ∈ xw_tbl := xw_in4 238 rfl rfl
theorem l_La_79 : Cond.methodLink "SoundStreamLaw" 79 m_La_sample.1 ∈ xw_tbl := xw_in5 12 rfl rfl
theorem l_La_83 : Cond.methodLink "SoundStreamLaw" 83 m_La_ramp.1 ∈ xw_tbl := xw_in5 36 rfl rfl
theorem l_La_87 : Cond.methodLink "SoundStreamLaw" 87 m_La_noise.1 ∈ xw_tbl := xw_in5 40 rfl rfl
theorem l_La_94 : Cond.methodLink "SoundStreamLaw" 94 m_La_at.1 ∈ xw_tbl := xw_in5 49 rfl rfl
theorem l_La_97 : Cond.methodLink "SoundStreamLaw" 97 m_La_sum.1 ∈ xw_tbl := xw_in5 75 rfl rfl
theorem l_La_101 : Cond.methodLink "SoundStreamLaw" 101 m_La_encode.1 ∈ xw_tbl := xw_in5 92 rfl rfl
theorem l_La_105 : Cond.methodLink "SoundStreamLaw" 105 m_La_told.1 ∈ xw_tbl := xw_in6 17 rfl rfl
theorem l_La_108 : Cond.methodLink "SoundStreamLaw" 108 m_La_frame.1 ∈ xw_tbl := xw_in6 29 rfl rfl
theorem l_La_117 : Cond.methodLink "SoundStreamLaw" 117 m_La_feed.1 ∈ xw_tbl := xw_in6 37 rfl rfl
theorem l_La_121 : Cond.methodLink "SoundStreamLaw" 121 m_La_cut.1 ∈ xw_tbl := xw_in6 46 rfl rfl
theorem l_La_124 : Cond.methodLink "SoundStreamLaw" 124 m_La_spoil.1 ∈ xw_tbl := xw_in6 54 rfl rfl
theorem l_La_127 : Cond.methodLink "SoundStreamLaw" 127 m_La_seal.1 ∈ xw_tbl := xw_in6 64 rfl rfl
theorem l_La_131 : Cond.methodLink "SoundStreamLaw" 131 m_SS_decode.1 ∈ xw_tbl := xw_in2 145 rfl rfl
theorem l_La_143 : Cond.methodLink "SoundStreamLaw" 143 m_La_heard.1 ∈ xw_tbl := xw_in6 74 rfl rfl
theorem xa_ofH {x : xg_T} {l : Launch} {u : xu_T} {KK : State → Prop} {M : xm_T} {hh : List (Nat × Nat × Nat × Nat)} {X : xc_R → xw_H → Nat → Nat → Prop} (a : xg_atH x l (y0 u) KK M hh X) (K : xk_ok u KK) : xg_A x (y0 u) KK M.1.cls M.2.1 M.2.2.1 := ⟨a.1, a.2.2.2.2.2.2.2.1, a.2.2.2.2.2.2.2.2.1, a.2.2.2.2.2.2.2.2.2.1, a.2.1, K.2 _ a.2.2.1, K.1, a.2.2.1, a.2.2.2.1⟩
theorem xr_ofH {x : xg_T} {l : Launch} {y : xw_T} {KK : State → Prop} {M M' : xm_T} {hh : List (Nat × Nat × Nat × Nat)} {X : xc_R → xw_H → Nat → Nat → Prop} {nc ns : Nat} (a : xg_atH x l y KK M hh X) (hR : M'.2.2.2.2.frames + 1 ≤ M.2.2.2.2.frames ∧ 8 + (M'.2.2.1 + 11) + M'.2.2.2.2.locals ≤ M.2.2.2.2.locals ∧ nc + M'.2.2.2.2.cells ≤ M.2.2.2.2.cells ∧ ns + M'.2.2.2.2.slots ≤ M.2.2.2.2.slots) : xm_room x nc ns M' := by
  unfold xm_room
  rw [a.2.2.2.2.2.2.1]
  exact hR
/-- caught by the only row of the method's table -/
theorem xcatch {x : xg_T} {l : Launch} {u : xu_T} {M : xm_T} {hh : List (Nat × Nat × Nat × Nat)} {X : xc_R → xw_H → Nat → Nat → Prop} {nc ns pc : Nat} {L : List (Option Value)} {h : xw_H} {E : String} (at0 : xg_atH x l (y0 u) (KK0 u) M hh X) (z : ExceptionTableEntry) (hz1 : tableOf hh = [z]) (hz : covers z pc = true) (h0 : z.catchType ≠ 0) (hlink : Cond.classLink M.1.cls z.catchType E ∈ xw_tbl) (hE : (E, E) ∈ kk_ca)
    {i : Fin 4} (d : decode M.2.1 z.handlerPc = .ok (.astore_n i, 1)) (hi : (i : Nat) < M.2.2.1) (kk : xg x (y0 u) nc ns (z.handlerPc + 1) ((xg_clr L i).set i none) [] h) : xgT x (y0 u) nc ns pc L E h := by
  obtain ⟨ok, HW, hKK, hB, ow, e1, e2, e3, e4, e5, e6⟩ := at0
  refine xgT_catch ok HW (name := E) [] z [] (by rw [e6, hz1]; rfl) (fun w hw => by cases hw) hz h0 (by rw [e4]; exact hlink) (hKK.2.2.2.2.1 _ hE) (by rw [e3]; exact d) (by rw [e5]; exact hi) kk
