/-! throw new E("text"), place by place -/
theorem xt_throw {u : xu_T} {x : xg_T} {l : Launch} {M : xm_T} {X : xc_R → xw_H → Nat → Nat → Prop} {nc ns pc : Nat} {L : List (Option Value)} {S : List Value} {h : xw_H} (at0 : xg_at x l (y0 u) (KK0 u) M X) (hl : l.stackTraces = false) {cls text : String} {ik is ic : Nat} (hok : xt_ok cls) (hfit : Bundle.fit cls = true) (hca : (cls, cls) ∈ kk_ca) (hk : Cond.classLink M.1.cls ik cls ∈ xw_tbl) (hini : Cond.initialized cls ∈ xw_tbl) (hstr : (M.1.cls, is, text) ∈ kk_str) (hml : Cond.methodLink M.1.cls ic (Bundle.initS cls) ∈ xw_tbl)
    (d0 : decode M.2.1 pc = .ok (.new ik, 3)) (d3 : decode M.2.1 (pc + 3) = .ok (.dup, 1)) (d4 : decode M.2.1 (pc + 4) = .ok (.ldc is, 2)) (d6 : decode M.2.1 (pc + 6) = .ok (.invokespecial ic, 3)) (d9 : decode M.2.1 (pc + 9) = .ok (.athrow, 1))
    (hR : 5 < M.2.2.2.2.frames ∧ (S.map fun v => v.category).sum + 82 ≤ M.2.2.2.2.locals ∧ nc + 1 ≤ M.2.2.2.2.cells ∧ ns + 6 ≤ M.2.2.2.2.slots) (hX : X (.inr cls) h (nc + 1) (ns + 6)) : xg x (y0 u) nc ns pc L S h := by
  obtain ⟨ok, HW, hKK, hB, ow, e1, e2, e3, e4, e5, e6⟩ := at0
  obtain ⟨g, hst, hs, -, hc, hd, -⟩ := hKK
  obtain ⟨sa, hsa⟩ := hs _ hstr
  rw [← e4] at hk hml hsa
  rw [← e3] at d0 d3 d4 d6 d9
  rw [← e2] at hR
  exact xg_throwS (names := xt_names) ok HW ow e6 (by rw [e1]; exact hl) hst hfit (by decide) hk hini hsa (fun w hw => by
    rcases xt_split hw with rfl | h9
    · exact Or.inl hml
    · exact hok w h9) (hc _ hca) hd d0 d3 d4 d6 d9 hR hX
theorem xi_IAE : Cond.initialized "java/lang/IllegalArgumentException" ∈ xw_tbl := xw_in1 16 rfl rfl
theorem xi_ISE : Cond.initialized "java/lang/IllegalStateException" ∈ xw_tbl := xw_in1 18 rfl rfl
theorem xi_IOE : Cond.initialized "java/lang/IndexOutOfBoundsException" ∈ xw_tbl := xw_in1 17 rfl rfl
theorem cl_SS_48 : Cond.classLink R_SS 48 "java/lang/IllegalArgumentException" ∈ xw_tbl := xw_in5 6 rfl rfl
theorem cl_SS_96 : Cond.classLink R_SS 96 "java/lang/IndexOutOfBoundsException" ∈ xw_tbl := xw_in5 62 rfl rfl
theorem cl_SS_111 : Cond.classLink R_SS 111 "java/lang/IllegalStateException" ∈ xw_tbl := xw_in2 149 rfl rfl
theorem cl_Rd_34 : Cond.classLink R_Rd 34 "java/lang/IllegalStateException" ∈ xw_tbl := xw_in2 169 rfl rfl
theorem cl_La_13 : Cond.classLink "SoundStreamLaw" 13 "java/lang/IllegalArgumentException" ∈ xw_tbl := xw_in5 1 rfl rfl
theorem cl_La_29 : Cond.classLink "SoundStreamLaw" 29 "java/lang/IndexOutOfBoundsException" ∈ xw_tbl := xw_in5 52 rfl rfl
theorem cl_La_35 : Cond.classLink "SoundStreamLaw" 35 "java/lang/IllegalStateException" ∈ xw_tbl := xw_in5 78 rfl rfl
theorem le_SS_52 : Cond.methodLink R_SS 52 (Bundle.initS "java/lang/IllegalArgumentException") ∈ xw_tbl := xw_in5 8 rfl rfl
theorem le_SS_100 : Cond.methodLink R_SS 100 (Bundle.initS "java/lang/IndexOutOfBoundsException") ∈ xw_tbl := xw_in5 72 rfl rfl
theorem le_SS_115 : Cond.methodLink R_SS 115 (Bundle.initS "java/lang/IllegalStateException") ∈ xw_tbl := xw_in5 89 rfl rfl
theorem le_Rd_38 : Cond.methodLink R_Rd 38 (Bundle.initS "java/lang/IllegalStateException") ∈ xw_tbl := xw_in2 212 rfl rfl
