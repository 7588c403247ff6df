/-! NAMES, by program (wip/gen/names.py) out of the task: classes, their fields, methods; words by their places in tables_1 -/
def R_SS : String := "SoundStream"
def F_SS : u_T := fun k => match k with
  | 0 => ("SoundStream", "rows", "LSoundStream$Sound;", true)
  | 1 => ("SoundStream", "bytes", "LSoundStream$Bytes;", true)
  | 2 => ("SoundStream", "digest", "LSoundStream$Digest;", true)
  | 3 => ("SoundStream", "encoder", "LSoundStream$Encoder;", true)
  | _ => ("SoundStream", "decoder", "LSoundStream$Decoder;", true)
def t_SS : Nat → FieldType := fun k => match k with
  | 0 => .object "SoundStream$Sound"
  | 1 => .object "SoundStream$Bytes"
  | 2 => .object "SoundStream$Digest"
  | 3 => .object "SoundStream$Encoder"
  | _ => .object "SoundStream$Decoder"
abbrev ks_SS : List Nat := [2, 2, 2, 2, 2]
def R_So : String := "SoundStream$Sound"
def F_So : u_T := fun k => match k with
  | 0 => ("SoundStream$Sound", "channels", "I", false)
  | 1 => ("SoundStream$Sound", "depth", "I", false)
  | 2 => ("SoundStream$Sound", "block", "I", false)
  | 3 => ("SoundStream$Sound", "rate", "I", false)
  | 4 => ("SoundStream$Sound", "samples", "[[I", true)
  | _ => ("SoundStream$Sound", "lengths", "[I", true)
def t_So : Nat → FieldType := fun k => match k with
  | 0 => .int
  | 1 => .int
  | 2 => .int
  | 3 => .int
  | 4 => .array (.array (.int))
  | _ => .array (.int)
abbrev ks_So : List Nat := [0, 0, 0, 0, 2, 2]
def R_By : String := "SoundStream$Bytes"
def F_By : u_T := fun k => match k with
  | 0 => ("SoundStream$Bytes", "data", "[B", true)
  | _ => ("SoundStream$Bytes", "length", "I", false)
def t_By : Nat → FieldType := fun k => match k with
  | 0 => .array (.byte)
  | _ => .int
abbrev ks_By : List Nat := [2, 0]
def R_Di : String := "SoundStream$Digest"
def F_Di : u_T := fun k => match k with
  | 0 => ("SoundStream$Digest", "words", "[I", true)
  | 1 => ("SoundStream$Digest", "count", "I", false)
  | 2 => ("SoundStream$Digest", "a", "I", false)
  | 3 => ("SoundStream$Digest", "b", "I", false)
  | 4 => ("SoundStream$Digest", "c", "I", false)
  | _ => ("SoundStream$Digest", "d", "I", false)
def t_Di : Nat → FieldType := fun k => match k with
  | 0 => .array (.int)
  | 1 => .int
  | 2 => .int
  | 3 => .int
  | 4 => .int
  | _ => .int
abbrev ks_Di : List Nat := [2, 0, 0, 0, 0, 0]
def R_En : String := "SoundStream$Encoder"
def F_En : u_T := fun k => match k with
  | 0 => ("SoundStream$Encoder", "sound", "LSoundStream$Sound;", true)
  | 1 => ("SoundStream$Encoder", "bytes", "LSoundStream$Bytes;", true)
  | 2 => ("SoundStream$Encoder", "digest", "LSoundStream$Digest;", true)
  | 3 => ("SoundStream$Encoder", "out", "LSoundStream$Writer;", true)
  | 4 => ("SoundStream$Encoder", "first", "LSoundStream$Subframe;", true)
  | 5 => ("SoundStream$Encoder", "second", "LSoundStream$Subframe;", true)
  | 6 => ("SoundStream$Encoder", "middle", "LSoundStream$Subframe;", true)
  | 7 => ("SoundStream$Encoder", "difference", "LSoundStream$Subframe;", true)
  | 8 => ("SoundStream$Encoder", "notes", "[[I", true)
  | _ => ("SoundStream$Encoder", "frames", "I", false)
def t_En : Nat → FieldType := fun k => match k with
  | 0 => .object "SoundStream$Sound"
  | 1 => .object "SoundStream$Bytes"
  | 2 => .object "SoundStream$Digest"
  | 3 => .object "SoundStream$Writer"
  | 4 => .object "SoundStream$Subframe"
  | 5 => .object "SoundStream$Subframe"
  | 6 => .object "SoundStream$Subframe"
  | 7 => .object "SoundStream$Subframe"
  | 8 => .array (.array (.int))
  | _ => .int
abbrev ks_En : List Nat := [2, 2, 2, 2, 2, 2, 2, 2, 2, 0]
def R_De : String := "SoundStream$Decoder"
def F_De : u_T := fun k => match k with
  | 0 => ("SoundStream$Decoder", "bytes", "LSoundStream$Bytes;", true)
  | 1 => ("SoundStream$Decoder", "digest", "LSoundStream$Digest;", true)
  | 2 => ("SoundStream$Decoder", "subframes", "LSoundStream$SubframeReader;", true)
  | 3 => ("SoundStream$Decoder", "in", "LSoundStream$Reader;", true)
  | 4 => ("SoundStream$Decoder", "sound", "LSoundStream$Sound;", true)
  | 5 => ("SoundStream$Decoder", "decoded", "Z", false)
  | 6 => ("SoundStream$Decoder", "sumKnown", "Z", false)
  | 7 => ("SoundStream$Decoder", "sumLow", "J", false)
  | 8 => ("SoundStream$Decoder", "sumHigh", "J", false)
  | 9 => ("SoundStream$Decoder", "least", "I", false)
  | 10 => ("SoundStream$Decoder", "known", "I", false)
  | 11 => ("SoundStream$Decoder", "frames", "I", false)
  | 12 => ("SoundStream$Decoder", "way", "I", false)
  | 13 => ("SoundStream$Decoder", "c", "I", false)
  | _ => ("SoundStream$Decoder", "size", "I", false)
def t_De : Nat → FieldType := fun k => match k with
  | 0 => .object "SoundStream$Bytes"
  | 1 => .object "SoundStream$Digest"
  | 2 => .object "SoundStream$SubframeReader"
  | 3 => .object "SoundStream$Reader"
  | 4 => .object "SoundStream$Sound"
  | 5 => .boolean
  | 6 => .boolean
  | 7 => .long
  | 8 => .long
  | 9 => .int
  | 10 => .int
  | 11 => .int
  | 12 => .int
  | 13 => .int
  | _ => .int
abbrev ks_De : List Nat := [2, 2, 2, 2, 2, 0, 0, 1, 1, 0, 0, 0, 0, 0, 0]
def R_Wr : String := "SoundStream$Writer"
def F_Wr : u_T := fun k => match k with
  | 0 => ("SoundStream$Writer", "bytes", "LSoundStream$Bytes;", true)
  | 1 => ("SoundStream$Writer", "pending", "I", false)
  | _ => ("SoundStream$Writer", "held", "I", false)
def t_Wr : Nat → FieldType := fun k => match k with
  | 0 => .object "SoundStream$Bytes"
  | 1 => .int
  | _ => .int
abbrev ks_Wr : List Nat := [2, 0, 0]
def R_Re : String := "SoundStream$Rests"
def F_Re : u_T := fun k => match k with
  | 0 => ("SoundStream$Rests", "rests", "[I", true)
  | 1 => ("SoundStream$Rests", "zeros", "[[J", true)
  | 2 => ("SoundStream$Rests", "used", "[I", true)
  | 3 => ("SoundStream$Rests", "size", "I", false)
  | 4 => ("SoundStream$Rests", "order", "I", false)
  | 5 => ("SoundStream$Rests", "k", "I", false)
  | 6 => ("SoundStream$Rests", "n", "I", false)
  | _ => ("SoundStream$Rests", "q", "I", false)
def t_Re : Nat → FieldType := fun k => match k with
  | 0 => .array (.int)
  | 1 => .array (.array (.long))
  | 2 => .array (.int)
  | 3 => .int
  | 4 => .int
  | 5 => .int
  | 6 => .int
  | _ => .int
abbrev ks_Re : List Nat := [2, 2, 2, 0, 0, 0, 0, 0]
def R_Su : String := "SoundStream$Subframe"
def F_Su : u_T := fun k => match k with
  | 0 => ("SoundStream$Subframe", "samples", "[I", true)
  | 1 => ("SoundStream$Subframe", "rests", "LSoundStream$Rests;", true)
  | 2 => ("SoundStream$Subframe", "size", "I", false)
  | 3 => ("SoundStream$Subframe", "width", "I", false)
  | 4 => ("SoundStream$Subframe", "q", "I", false)
  | 5 => ("SoundStream$Subframe", "type", "I", false)
  | 6 => ("SoundStream$Subframe", "w", "I", false)
  | _ => ("SoundStream$Subframe", "bits", "J", false)
def t_Su : Nat → FieldType := fun k => match k with
  | 0 => .array (.int)
  | 1 => .object "SoundStream$Rests"
  | 2 => .int
  | 3 => .int
  | 4 => .int
  | 5 => .int
  | 6 => .int
  | _ => .long
abbrev ks_Su : List Nat := [2, 2, 0, 0, 0, 0, 0, 1]
def R_Rd : String := "SoundStream$Reader"
def F_Rd : u_T := fun k => match k with
  | 0 => ("SoundStream$Reader", "bytes", "LSoundStream$Bytes;", true)
  | 1 => ("SoundStream$Reader", "position", "I", false)
  | 2 => ("SoundStream$Reader", "fault", "I", false)
  | _ => ("SoundStream$Reader", "place", "I", false)
def t_Rd : Nat → FieldType := fun k => match k with
  | 0 => .object "SoundStream$Bytes"
  | 1 => .int
  | 2 => .int
  | _ => .int
abbrev ks_Rd : List Nat := [2, 0, 0, 0]
def R_Sr : String := "SoundStream$SubframeReader"
def F_Sr : u_T := fun k => match k with
  | 0 => ("SoundStream$SubframeReader", "in", "LSoundStream$Reader;", true)
  | 1 => ("SoundStream$SubframeReader", "factors", "[I", true)
  | 2 => ("SoundStream$SubframeReader", "order", "I", false)
  | 3 => ("SoundStream$SubframeReader", "shift", "I", false)
  | _ => ("SoundStream$SubframeReader", "width", "I", false)
def t_Sr : Nat → FieldType := fun k => match k with
  | 0 => .object "SoundStream$Reader"
  | 1 => .array (.int)
  | 2 => .int
  | 3 => .int
  | _ => .int
abbrev ks_Sr : List Nat := [2, 2, 0, 0, 0]
def R_Mo : String := "SoundStreamModel"
def F_Mo : u_T := fun k => match k with
  | 0 => ("SoundStreamModel", "growth", "[J", true)
  | 1 => ("SoundStreamModel", "turns", "[I", true)
  | 2 => ("SoundStreamModel", "thrown", "I", false)
  | 3 => ("SoundStreamModel", "channels", "I", false)
  | 4 => ("SoundStreamModel", "depth", "I", false)
  | 5 => ("SoundStreamModel", "block", "I", false)
  | 6 => ("SoundStreamModel", "rate", "I", false)
  | 7 => ("SoundStreamModel", "rows", "[I", true)
  | 8 => ("SoundStreamModel", "sizes", "[I", true)
  | 9 => ("SoundStreamModel", "message", "[I", true)
  | 10 => ("SoundStreamModel", "words", "[I", true)
  | 11 => ("SoundStreamModel", "stream", "[I", true)
  | 12 => ("SoundStreamModel", "size", "I", false)
  | 13 => ("SoundStreamModel", "at", "J", false)
  | 14 => ("SoundStreamModel", "frames", "[I", true)
  | 15 => ("SoundStreamModel", "encoded", "I", false)
  | 16 => ("SoundStreamModel", "work", "[I", true)
  | 17 => ("SoundStreamModel", "rest", "[I", true)
  | 18 => ("SoundStreamModel", "type", "I", false)
  | 19 => ("SoundStreamModel", "waste", "I", false)
  | 20 => ("SoundStreamModel", "parts", "I", false)
  | 21 => ("SoundStreamModel", "good", "Z", false)
  | 22 => ("SoundStreamModel", "fault", "I", false)
  | 23 => ("SoundStreamModel", "place", "I", false)
  | 24 => ("SoundStreamModel", "start", "I", false)
  | 25 => ("SoundStreamModel", "least", "I", false)
  | 26 => ("SoundStreamModel", "greatest", "I", false)
  | 27 => ("SoundStreamModel", "itsRate", "I", false)
  | 28 => ("SoundStreamModel", "itsChannels", "I", false)
  | 29 => ("SoundStreamModel", "itsDepth", "I", false)
  | 30 => ("SoundStreamModel", "known", "I", false)
  | 31 => ("SoundStreamModel", "itsSum", "[I", true)
  | 32 => ("SoundStreamModel", "summed", "Z", false)
  | 33 => ("SoundStreamModel", "heard", "I", false)
  | 34 => ("SoundStreamModel", "framesRead", "I", false)
  | 35 => ("SoundStreamModel", "lastSize", "I", false)
  | 36 => ("SoundStreamModel", "kind", "I", false)
  | 37 => ("SoundStreamModel", "sound", "[I", true)
  | 38 => ("SoundStreamModel", "read", "[I", true)
  | _ => ("SoundStreamModel", "factors", "[I", true)
def t_Mo : Nat → FieldType := fun k => match k with
  | 0 => .array (.long)
  | 1 => .array (.int)
  | 2 => .int
  | 3 => .int
  | 4 => .int
  | 5 => .int
  | 6 => .int
  | 7 => .array (.int)
  | 8 => .array (.int)
  | 9 => .array (.int)
  | 10 => .array (.int)
  | 11 => .array (.int)
  | 12 => .int
  | 13 => .long
  | 14 => .array (.int)
  | 15 => .int
  | 16 => .array (.int)
  | 17 => .array (.int)
  | 18 => .int
  | 19 => .int
  | 20 => .int
  | 21 => .boolean
  | 22 => .int
  | 23 => .int
  | 24 => .int
  | 25 => .int
  | 26 => .int
  | 27 => .int
  | 28 => .int
  | 29 => .int
  | 30 => .int
  | 31 => .array (.int)
  | 32 => .boolean
  | 33 => .int
  | 34 => .int
  | 35 => .int
  | 36 => .int
  | 37 => .array (.int)
  | 38 => .array (.int)
  | _ => .array (.int)
abbrev ks_Mo : List Nat := [2, 2, 0, 0, 0, 0, 0, 2, 2, 2, 2, 2, 0, 1, 2, 0, 2, 2, 0, 0, 0, 0, 0, 0, 0, 0, 0, 0, 0, 0, 0, 2, 0, 0, 0, 0, 0, 2, 2, 2]
abbrev vcl : List vw_C := [(R_SS, F_SS, 5), (R_So, F_So, 6), (R_By, F_By, 2), (R_Di, F_Di, 6), (R_En, F_En, 10), (R_De, F_De, 15), (R_Wr, F_Wr, 3), (R_Re, F_Re, 8), (R_Su, F_Su, 8), (R_Rd, F_Rd, 4), (R_Sr, F_Sr, 5), (R_Mo, F_Mo, 40)]
theorem nm_SS : ∀ a, a < 5 → ∀ b, b < 5 → a ≠ b → (F_SS a).2.1 ≠ (F_SS b).2.1 := by decide +kernel
theorem ty_SS : ∀ k, k < 5 → parseFieldDescriptor (F_SS k).2.2.1 = some (t_SS k) := by decide +kernel
theorem wf_SS : ∀ w ∈ u_ws R_SS F_SS 5, w ∈ xw_tbl := by
  intro w hw
  obtain ⟨k, hk, rfl⟩ := List.mem_map.mp hw
  have hk := List.mem_range.mp hk
  match k, hk with
  | 0, _ => exact xw_in2 118 rfl rfl
  | 1, _ => exact xw_in2 120 rfl rfl
  | 2, _ => exact xw_in2 122 rfl rfl
  | 3, _ => exact xw_in2 124 rfl rfl
  | 4, _ => exact xw_in2 126 rfl rfl
  | k + 5, hk => exact absurd hk (by omega)
theorem nm_So : ∀ a, a < 6 → ∀ b, b < 6 → a ≠ b → (F_So a).2.1 ≠ (F_So b).2.1 := by decide +kernel
theorem ty_So : ∀ k, k < 6 → parseFieldDescriptor (F_So k).2.2.1 = some (t_So k) := by decide +kernel
theorem wf_So : ∀ w ∈ u_ws R_So F_So 6, w ∈ xw_tbl := by
  intro w hw
  obtain ⟨k, hk, rfl⟩ := List.mem_map.mp hw
  have hk := List.mem_range.mp hk
  match k, hk with
  | 0, _ => exact xw_in1 71 rfl rfl
  | 1, _ => exact xw_in1 73 rfl rfl
  | 2, _ => exact xw_in1 75 rfl rfl
  | 3, _ => exact xw_in1 77 rfl rfl
  | 4, _ => exact xw_in1 79 rfl rfl
  | 5, _ => exact xw_in1 81 rfl rfl
  | k + 6, hk => exact absurd hk (by omega)
theorem nm_By : ∀ a, a < 2 → ∀ b, b < 2 → a ≠ b → (F_By a).2.1 ≠ (F_By b).2.1 := by decide +kernel
theorem ty_By : ∀ k, k < 2 → parseFieldDescriptor (F_By k).2.2.1 = some (t_By k) := by decide +kernel
theorem wf_By : ∀ w ∈ u_ws R_By F_By 2, w ∈ xw_tbl := by
  intro w hw
  obtain ⟨k, hk, rfl⟩ := List.mem_map.mp hw
  have hk := List.mem_range.mp hk
  match k, hk with
  | 0, _ => exact xw_in1 97 rfl rfl
  | 1, _ => exact xw_in1 99 rfl rfl
  | k + 2, hk => exact absurd hk (by omega)
theorem nm_Di : ∀ a, a < 6 → ∀ b, b < 6 → a ≠ b → (F_Di a).2.1 ≠ (F_Di b).2.1 := by decide +kernel
theorem ty_Di : ∀ k, k < 6 → parseFieldDescriptor (F_Di k).2.2.1 = some (t_Di k) := by decide +kernel
theorem wf_Di : ∀ w ∈ u_ws R_Di F_Di 6, w ∈ xw_tbl := by
  intro w hw
  obtain ⟨k, hk, rfl⟩ := List.mem_map.mp hw
  have hk := List.mem_range.mp hk
  match k, hk with
  | 0, _ => exact xw_in1 115 rfl rfl
  | 1, _ => exact xw_in1 117 rfl rfl
  | 2, _ => exact xw_in1 119 rfl rfl
  | 3, _ => exact xw_in1 121 rfl rfl
  | 4, _ => exact xw_in1 123 rfl rfl
  | 5, _ => exact xw_in1 125 rfl rfl
  | k + 6, hk => exact absurd hk (by omega)
theorem nm_En : ∀ a, a < 10 → ∀ b, b < 10 → a ≠ b → (F_En a).2.1 ≠ (F_En b).2.1 := by decide +kernel
theorem ty_En : ∀ k, k < 10 → parseFieldDescriptor (F_En k).2.2.1 = some (t_En k) := by decide +kernel
theorem wf_En : ∀ w ∈ u_ws R_En F_En 10, w ∈ xw_tbl := by
  intro w hw
  obtain ⟨k, hk, rfl⟩ := List.mem_map.mp hw
  have hk := List.mem_range.mp hk
  match k, hk with
  | 0, _ => exact xw_in1 232 rfl rfl
  | 1, _ => exact xw_in1 234 rfl rfl
  | 2, _ => exact xw_in1 236 rfl rfl
  | 3, _ => exact xw_in1 238 rfl rfl
  | 4, _ => exact xw_in2 0 rfl rfl
  | 5, _ => exact xw_in2 2 rfl rfl
  | 6, _ => exact xw_in2 4 rfl rfl
  | 7, _ => exact xw_in2 6 rfl rfl
  | 8, _ => exact xw_in2 8 rfl rfl
  | 9, _ => exact xw_in2 10 rfl rfl
  | k + 10, hk => exact absurd hk (by omega)
theorem nm_De : ∀ a, a < 15 → ∀ b, b < 15 → a ≠ b → (F_De a).2.1 ≠ (F_De b).2.1 := by decide +kernel
theorem ty_De : ∀ k, k < 15 → parseFieldDescriptor (F_De k).2.2.1 = some (t_De k) := by decide +kernel
theorem wf_De : ∀ w ∈ u_ws R_De F_De 15, w ∈ xw_tbl := by
  intro w hw
  obtain ⟨k, hk, rfl⟩ := List.mem_map.mp hw
  have hk := List.mem_range.mp hk
  match k, hk with
  | 0, _ => exact xw_in2 82 rfl rfl
  | 1, _ => exact xw_in2 84 rfl rfl
  | 2, _ => exact xw_in2 86 rfl rfl
  | 3, _ => exact xw_in2 88 rfl rfl
  | 4, _ => exact xw_in2 90 rfl rfl
  | 5, _ => exact xw_in2 92 rfl rfl
  | 6, _ => exact xw_in2 94 rfl rfl
  | 7, _ => exact xw_in2 96 rfl rfl
  | 8, _ => exact xw_in2 98 rfl rfl
  | 9, _ => exact xw_in2 100 rfl rfl
  | 10, _ => exact xw_in2 102 rfl rfl
  | 11, _ => exact xw_in2 104 rfl rfl
  | 12, _ => exact xw_in2 106 rfl rfl
  | 13, _ => exact xw_in2 108 rfl rfl
  | 14, _ => exact xw_in2 110 rfl rfl
  | k + 15, hk => exact absurd hk (by omega)
theorem nm_Wr : ∀ a, a < 3 → ∀ b, b < 3 → a ≠ b → (F_Wr a).2.1 ≠ (F_Wr b).2.1 := by decide +kernel
theorem ty_Wr : ∀ k, k < 3 → parseFieldDescriptor (F_Wr k).2.2.1 = some (t_Wr k) := by decide +kernel
theorem wf_Wr : ∀ w ∈ u_ws R_Wr F_Wr 3, w ∈ xw_tbl := by
  intro w hw
  obtain ⟨k, hk, rfl⟩ := List.mem_map.mp hw
  have hk := List.mem_range.mp hk
  match k, hk with
  | 0, _ => exact xw_in1 144 rfl rfl
  | 1, _ => exact xw_in1 146 rfl rfl
  | 2, _ => exact xw_in1 148 rfl rfl
  | k + 3, hk => exact absurd hk (by omega)
theorem nm_Re : ∀ a, a < 8 → ∀ b, b < 8 → a ≠ b → (F_Re a).2.1 ≠ (F_Re b).2.1 := by decide +kernel
theorem ty_Re : ∀ k, k < 8 → parseFieldDescriptor (F_Re k).2.2.1 = some (t_Re k) := by decide +kernel
theorem wf_Re : ∀ w ∈ u_ws R_Re F_Re 8, w ∈ xw_tbl := by
  intro w hw
  obtain ⟨k, hk, rfl⟩ := List.mem_map.mp hw
  have hk := List.mem_range.mp hk
  match k, hk with
  | 0, _ => exact xw_in1 168 rfl rfl
  | 1, _ => exact xw_in1 170 rfl rfl
  | 2, _ => exact xw_in1 172 rfl rfl
  | 3, _ => exact xw_in1 174 rfl rfl
  | 4, _ => exact xw_in1 176 rfl rfl
  | 5, _ => exact xw_in1 178 rfl rfl
  | 6, _ => exact xw_in1 180 rfl rfl
  | 7, _ => exact xw_in1 182 rfl rfl
  | k + 8, hk => exact absurd hk (by omega)
theorem nm_Su : ∀ a, a < 8 → ∀ b, b < 8 → a ≠ b → (F_Su a).2.1 ≠ (F_Su b).2.1 := by decide +kernel
theorem ty_Su : ∀ k, k < 8 → parseFieldDescriptor (F_Su k).2.2.1 = some (t_Su k) := by decide +kernel
theorem wf_Su : ∀ w ∈ u_ws R_Su F_Su 8, w ∈ xw_tbl := by
  intro w hw
  obtain ⟨k, hk, rfl⟩ := List.mem_map.mp hw
  have hk := List.mem_range.mp hk
  match k, hk with
  | 0, _ => exact xw_in1 203 rfl rfl
  | 1, _ => exact xw_in1 205 rfl rfl
  | 2, _ => exact xw_in1 207 rfl rfl
  | 3, _ => exact xw_in1 209 rfl rfl
  | 4, _ => exact xw_in1 211 rfl rfl
  | 5, _ => exact xw_in1 213 rfl rfl
  | 6, _ => exact xw_in1 215 rfl rfl
  | 7, _ => exact xw_in1 217 rfl rfl
  | k + 8, hk => exact absurd hk (by omega)
theorem nm_Rd : ∀ a, a < 4 → ∀ b, b < 4 → a ≠ b → (F_Rd a).2.1 ≠ (F_Rd b).2.1 := by decide +kernel
theorem ty_Rd : ∀ k, k < 4 → parseFieldDescriptor (F_Rd k).2.2.1 = some (t_Rd k) := by decide +kernel
theorem wf_Rd : ∀ w ∈ u_ws R_Rd F_Rd 4, w ∈ xw_tbl := by
  intro w hw
  obtain ⟨k, hk, rfl⟩ := List.mem_map.mp hw
  have hk := List.mem_range.mp hk
  match k, hk with
  | 0, _ => exact xw_in2 32 rfl rfl
  | 1, _ => exact xw_in2 34 rfl rfl
  | 2, _ => exact xw_in2 36 rfl rfl
  | 3, _ => exact xw_in2 38 rfl rfl
  | k + 4, hk => exact absurd hk (by omega)
theorem nm_Sr : ∀ a, a < 5 → ∀ b, b < 5 → a ≠ b → (F_Sr a).2.1 ≠ (F_Sr b).2.1 := by decide +kernel
theorem ty_Sr : ∀ k, k < 5 → parseFieldDescriptor (F_Sr k).2.2.1 = some (t_Sr k) := by decide +kernel
theorem wf_Sr : ∀ w ∈ u_ws R_Sr F_Sr 5, w ∈ xw_tbl := by
  intro w hw
  obtain ⟨k, hk, rfl⟩ := List.mem_map.mp hw
  have hk := List.mem_range.mp hk
  match k, hk with
  | 0, _ => exact xw_in2 52 rfl rfl
  | 1, _ => exact xw_in2 54 rfl rfl
  | 2, _ => exact xw_in2 56 rfl rfl
  | 3, _ => exact xw_in2 58 rfl rfl
  | 4, _ => exact xw_in2 60 rfl rfl
  | k + 5, hk => exact absurd hk (by omega)
theorem nm_Mo : ∀ a, a < 40 → ∀ b, b < 40 → a ≠ b → (F_Mo a).2.1 ≠ (F_Mo b).2.1 := by decide +kernel
theorem ty_Mo : ∀ k, k < 40 → parseFieldDescriptor (F_Mo k).2.2.1 = some (t_Mo k) := by decide +kernel
theorem wf_Mo : ∀ w ∈ u_ws R_Mo F_Mo 40, w ∈ xw_tbl := by
  intro w hw
  obtain ⟨k, hk, rfl⟩ := List.mem_map.mp hw
  have hk := List.mem_range.mp hk
  match k, hk with
  | 0, _ => exact xw_in6 192 rfl rfl
  | 1, _ => exact xw_in6 194 rfl rfl
  | 2, _ => exact xw_in6 196 rfl rfl
  | 3, _ => exact xw_in6 198 rfl rfl
  | 4, _ => exact xw_in6 200 rfl rfl
  | 5, _ => exact xw_in6 202 rfl rfl
  | 6, _ => exact xw_in6 204 rfl rfl
  | 7, _ => exact xw_in6 206 rfl rfl
  | 8, _ => exact xw_in6 208 rfl rfl
  | 9, _ => exact xw_in6 210 rfl rfl
  | 10, _ => exact xw_in6 212 rfl rfl
  | 11, _ => exact xw_in6 214 rfl rfl
  | 12, _ => exact xw_in6 216 rfl rfl
  | 13, _ => exact xw_in6 218 rfl rfl
  | 14, _ => exact xw_in6 220 rfl rfl
  | 15, _ => exact xw_in6 222 rfl rfl
  | 16, _ => exact xw_in6 224 rfl rfl
  | 17, _ => exact xw_in6 226 rfl rfl
  | 18, _ => exact xw_in6 228 rfl rfl
  | 19, _ => exact xw_in6 230 rfl rfl
  | 20, _ => exact xw_in6 232 rfl rfl
  | 21, _ => exact xw_in6 234 rfl rfl
  | 22, _ => exact xw_in6 236 rfl rfl
  | 23, _ => exact xw_in6 238 rfl rfl
  | 24, _ => exact xw_in7 0 rfl rfl
  | 25, _ => exact xw_in7 2 rfl rfl
  | 26, _ => exact xw_in7 4 rfl rfl
  | 27, _ => exact xw_in7 6 rfl rfl
  | 28, _ => exact xw_in7 8 rfl rfl
  | 29, _ => exact xw_in7 10 rfl rfl
  | 30, _ => exact xw_in7 12 rfl rfl
  | 31, _ => exact xw_in7 14 rfl rfl
  | 32, _ => exact xw_in7 16 rfl rfl
  | 33, _ => exact xw_in7 18 rfl rfl
  | 34, _ => exact xw_in7 20 rfl rfl
  | 35, _ => exact xw_in7 22 rfl rfl
  | 36, _ => exact xw_in7 24 rfl rfl
  | 37, _ => exact xw_in7 26 rfl rfl
  | 38, _ => exact xw_in7 28 rfl rfl
  | 39, _ => exact xw_in7 30 rfl rfl
  | k + 40, hk => exact absurd hk (by omega)
