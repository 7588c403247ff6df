/-! THE LAW'S SMALL METHODS: a call of the class; its answer lies in out[0] and 0 is told, or its exception's number is told. By program (wip/gen/lawhelp.py) -/
theorem xm_mono {l : Launch} {y : xw_T} {KK : State → Prop} {M : xm_T} {as : List Value} {h : xw_H} {X X' : xc_R → xw_H → Nat → Nat → Prop} (w : ∀ o h' a b, X o h' a b → X' o h' a b) (H : xm_M l y KK M as h X) : xm_M l y KK M as h X' := by
  refine MetFree.mono H (fun _ _ q => q) (fun _ _ _ _ _ q => q) (fun args s o t _ hq => ?_)
  obtain ⟨h1, L, k, n, a1, a2, a3, a4, a5, a6⟩ := hq
  refine ⟨h1, L, k, n, a1, a2, a3, a4, a5, ?_⟩
  rcases a6 with ⟨v, e, b⟩ | ⟨q, E, ce, e1, e2, e3, e4, b⟩
  · exact Or.inl ⟨v, e, w _ _ _ _ b⟩
  · exact Or.inr ⟨q, E, ce, e1, e2, e3, e4, w _ _ _ _ b⟩
section XE2
variable {x : xg_T} {l : Launch} {u : xu_T} {M : xm_T} {hh : List (Nat × Nat × Nat × Nat)} {X : xc_R → xw_H → Nat → Nat → Prop} {nc ns pc : Nat} {L : List (Option Value)} {h : xw_H} {E : String}
theorem xgT_catch2 {y : xw_T} (ok : xg_ok x) (HW : xg_W x) {name : String} (pre : List ExceptionTableEntry) (z : ExceptionTableEntry) (suf : List ExceptionTableEntry) (hsplit : xg_tab x = pre ++ z :: suf)
    (hpass : ∀ w ∈ pre, covers w pc = false ∨ (w.catchType ≠ 0 ∧ ∃ nm : String, Cond.classLink (xg_own x) w.catchType nm ∈ xw_tbl ∧ va_Nc E nm (xg_s x))) (hz : covers z pc = true) (h0 : z.catchType ≠ 0) (hlink : Cond.classLink (xg_own x) z.catchType name ∈ xw_tbl) (hcast : xk_ca E name (xg_s x))
    {i : Nat} (d : decode (xg_cc x) z.handlerPc = .ok (.astore i, 2)) (hi : i < xg_nL x) (kk : xg x y nc ns (z.handlerPc + 2) ((xg_clr L i).set i none) [] h) : xgT x y nc ns pc L E h := by
  obtain ⟨p, l, e, R, s, m, args, below, meth, c, Q, cc, own, nL⟩ := x
  obtain ⟨hx, hb, hml, hown⟩ := ok
  intro H locs ls q ce rest hP hS hL hce hcv hcl T hT St
  have hts : ∀ w ∈ xw_tbl, w.before args s = true := HW
  have hpl : e.platform.magicAccessors = ({} : Platform).magicAccessors := by rw [St.admits.platform]
  obtain ⟨c3, c4, hc3, hc4, hasg⟩ := hcast
  cases Option.some.inj (hc3.symm.trans hcl)
  obtain ⟨c5, hc5, hcl5⟩ := Cond.classLink_spec hown (hts _ hlink) e.platform hpl
  cases Option.some.inj (hc4.symm.trans hc5)
  obtain ⟨vm', X', st⟩ := fi_caught St q (g := F0 m pc ls rest) rfl (by rw [hT]; exact hce) (fun k9 h9 => by rw [hcv] at h9; cases h9) (by obtain ⟨k9, h9, -⟩ := Vm.findClass_spec hcl; exact ⟨k9, h9⟩) pre z suf hsplit
    (fun w hw => by
      rcases hpass w hw with h | ⟨hw0, nm, hl1, a8, b8, h1, h2, h3⟩
      · exact Or.inl h
      · obtain ⟨c6, hc6, hcl6⟩ := Cond.classLink_spec hown (hts _ hl1) e.platform hpl
        cases Option.some.inj (h1.symm.trans hcl)
        cases Option.some.inj (h2.symm.trans hc6)
        exact Or.inr ⟨hw0, _, hcl6, h3⟩) hz h0 hcl5 hasg
  obtain ⟨t, a1, b1⟩ := lv_astore (H := H) (locs := locs) (Q := Q) (x := q) (rest := []) hx hb d hL.has hi rfl (fun ls' h' => kk H locs ls' hP hS (xg_conv0 h')) (T.setVm vm') hT X'
  exact ⟨t, st.trans a1, b1⟩
theorem xcatchP2 (at0 : xg_atH x l (y0 u) (KK0 u) M hh X) (pre : List ExceptionTableEntry) (z : ExceptionTableEntry) (suf : List ExceptionTableEntry) (hz1 : tableOf hh = pre ++ z :: suf) (hpass : ∀ w ∈ pre, w.catchType ≠ 0 ∧ ∃ nm : String, Cond.classLink M.1.cls w.catchType nm ∈ xw_tbl ∧ (E, nm) ∈ kk_nc) (hz : covers z pc = true) (h0 : z.catchType ≠ 0) (hlink : Cond.classLink M.1.cls z.catchType E ∈ xw_tbl) (hE : (E, E) ∈ kk_ca)
    {i : Nat} (d : decode M.2.1 z.handlerPc = .ok (.astore i, 2)) (hi : i < M.2.2.1) (kk : xg x (y0 u) nc ns (z.handlerPc + 2) ((xg_clr L i).set i none) [] h) : xgT x (y0 u) nc ns pc L E h := by
  obtain ⟨ok, HW, hKK, hB, ow, e1, e2, e3, e4, e5, e6⟩ := at0
  refine xgT_catch2 ok HW (name := E) pre z suf (by rw [e6, hz1]) (fun w hw => ?_) hz h0 (by rw [e4]; exact hlink) (hKK.2.2.2.2.1 _ hE) (by rw [e3]; exact d) (by rw [e5]; exact hi) kk
  obtain ⟨q1, nm, q2, q3⟩ := hpass w hw
  exact Or.inr ⟨q1, nm, by rw [e4]; exact q2, hKK.2.2.2.1 _ q3⟩
theorem xcatchP1 (at0 : xg_atH x l (y0 u) (KK0 u) M hh X) (pre : List ExceptionTableEntry) (z : ExceptionTableEntry) (suf : List ExceptionTableEntry) (hz1 : tableOf hh = pre ++ z :: suf) (hpass : ∀ w ∈ pre, w.catchType ≠ 0 ∧ ∃ nm : String, Cond.classLink M.1.cls w.catchType nm ∈ xw_tbl ∧ (E, nm) ∈ kk_nc) (hz : covers z pc = true) (h0 : z.catchType ≠ 0) (hlink : Cond.classLink M.1.cls z.catchType E ∈ xw_tbl) (hE : (E, E) ∈ kk_ca)
    {i : Fin 4} (d : decode M.2.1 z.handlerPc = .ok (.astore_n i, 1)) (hi : (i : Nat) < M.2.2.1) (kk : xg x (y0 u) nc ns (z.handlerPc + 1) ((xg_clr L i).set i none) [] h) : xgT x (y0 u) nc ns pc L E h := by
  obtain ⟨ok, HW, hKK, hB, ow, e1, e2, e3, e4, e5, e6⟩ := at0
  refine xgT_catch ok HW (name := E) pre z suf (by rw [e6, hz1]) (fun w hw => ?_) hz h0 (by rw [e4]; exact hlink) (hKK.2.2.2.2.1 _ hE) (by rw [e3]; exact d) (by rw [e5]; exact hi) kk
  obtain ⟨q1, nm, q2, q3⟩ := hpass w hw
  exact Or.inr ⟨q1, nm, by rw [e4]; exact q2, hKK.2.2.2.1 _ q3⟩
end XE2
/-- what a small method owes of the class's answer -/
def LR1 (E1 : String) (X : xc_R → xw_H → Nat → Nat → Prop) : xc_R → xw_H → Nat → Nat → Prop := fun o h a b => (∃ v : Int32, o = .inl (some (.int v)) ∧ X (.inl (some (.int 0))) (xw_J h 156 0 v.toInt64) a b) ∨ (o = .inr E1 ∧ X (.inl (some (.int 1))) h a b)
def LR2 (E1 E2 : String) (X : xc_R → xw_H → Nat → Nat → Prop) : xc_R → xw_H → Nat → Nat → Prop := fun o h a b => (∃ v : Int32, o = .inl (some (.int v)) ∧ X (.inl (some (.int 0))) (xw_J h 156 0 v.toInt64) a b) ∨ (o = .inr E1 ∧ X (.inl (some (.int 1))) h a b) ∨ (o = .inr E2 ∧ X (.inl (some (.int 2))) h a b)
def LS2 (E1 E2 : String) (X : xc_R → xw_H → Nat → Nat → Prop) : xc_R → xw_H → Nat → Nat → Prop := fun o h a b => (∃ v : Int64, o = .inl (some (.long v)) ∧ X (.inl (some (.int 0))) (xw_J h 156 0 v) a b) ∨ (o = .inr E1 ∧ X (.inl (some (.int 1))) h a b) ∨ (o = .inr E2 ∧ X (.inl (some (.int 2))) h a b)
def LV1 (E1 : String) (X : xc_R → xw_H → Nat → Nat → Prop) : xc_R → xw_H → Nat → Nat → Prop := fun o h a b => (o = .inl none ∧ X (.inl (some (.int 0))) h a b) ∨ (o = .inr E1 ∧ X (.inl (some (.int 1))) h a b)
def LV2 (E1 E2 : String) (X : xc_R → xw_H → Nat → Nat → Prop) : xc_R → xw_H → Nat → Nat → Prop := fun o h a b => (o = .inl none ∧ X (.inl (some (.int 0))) h a b) ∨ (o = .inr E1 ∧ X (.inl (some (.int 1))) h a b) ∨ (o = .inr E2 ∧ X (.inl (some (.int 2))) h a b)
section S9q
variable {u : xu_T} {l : Launch} {h : xw_H} {X : xc_R → xw_H → Nat → Nat → Prop}
theorem s_La_form {p0 : Int32} {p1 : Int32} {p2 : Int32} {p3 : Int32} (hM : xm_M l (y0 u) (KK0 u) m_SS_form [.ref 0, .int p0, .int p1, .int p2, .int p3] h (LV1 "java/lang/IllegalArgumentException" X)) : xm_MH l (y0 u) (KK0 u) m_La_form hh_La_form [.ref 0, .int p0, .int p1, .int p2, .int p3] h X := by
  refine xm_ofH [none] (by simp) (Nat.le_of_ble_eq_true rfl) (by decide) (fun x at0 => ?_)
  have A := xa_ofH at0 (KK0_ok u)
  have ow := at0.2.2.2.2.1
  have hM2 : xm_M (xg_l x) (y0 u) (KK0 u) m_SS_form [.ref 0, .int p0, .int p1, .int p2, .int p3] h (LV1 "java/lang/IllegalArgumentException" X) := by rw [at0.2.2.2.2.2.1]; exact hM
  refine ra_aload_n A d_La_form_0 rfl <| ra_iload_n A d_La_form_1 rfl <| ra_iload_n A d_La_form_2 rfl <| ra_iload_n A d_La_form_3 rfl <| ra_iload A d_La_form_4 rfl <| ?_
  refine ra_callV (As := [_, _, _, _]) A ok_SS_form l_La_7 im_SS_form sl_SS_form d_La_form_6 (Nat.le_of_ble_eq_true rfl) rfl rfl rfl (Nat.le_of_ble_eq_true rfl) (xr_ofH at0 (by decide)) (xm_mono (fun o h' na nb w => ?_) hM2)
  rcases w with ⟨rfl, w⟩ | ⟨rfl, w⟩
  · show xg x (y0 u) (0 + na) (0 + nb) 9 _ _ _
    rw [Nat.zero_add, Nat.zero_add]
    refine ra_goto (q := 16) A d_La_form_9 (by decide) <| ra_iconst A 0 d_La_form_16 (by decide) <| ?_
    exact ra_iret A ow d_La_form_17 w
  · show xgT x (y0 u) (0 + na) (0 + nb) 6 _ _ h'
    rw [Nat.zero_add, Nat.zero_add]
    refine xcatchP2 at0 [] ⟨0, 9, 12, 13⟩ [] rfl (fun w hw => absurd hw (by simp)) (by decide) (by decide) cl_La_13 (List.mem_of_getElem? (i := 0) rfl) d_La_form_12 (by decide) ?_
    show xg x (y0 u) _ _ 14 [_, _, _, _, _, _] _ _
    refine ra_iconst A 1 d_La_form_14 (by decide) <| ?_
    exact ra_iret A ow d_La_form_15 w
theorem s_La_sample {p0 : Int32} {p1 : Int32} (hM : xm_M l (y0 u) (KK0 u) m_SS_sample [.ref 0, .int p0, .int p1] h (LR1 "java/lang/IllegalArgumentException" X)) : xm_MH l (y0 u) (KK0 u) m_La_sample hh_La_sample [.ref 0, .int p0, .int p1, .ref 156] h X := by
  refine xm_ofH [none] (by simp) (Nat.le_of_ble_eq_true rfl) (by decide) (fun x at0 => ?_)
  have A := xa_ofH at0 (KK0_ok u)
  have ow := at0.2.2.2.2.1
  have hM2 : xm_M (xg_l x) (y0 u) (KK0 u) m_SS_sample [.ref 0, .int p0, .int p1] h (LR1 "java/lang/IllegalArgumentException" X) := by rw [at0.2.2.2.2.2.1]; exact hM
  refine ra_aload_n A d_La_sample_0 rfl <| ra_iconst A 0 d_La_sample_1 (by decide) <| ra_aload_n A d_La_sample_2 rfl <| ra_iload_n A d_La_sample_3 rfl <| ra_iload_n A d_La_sample_4 rfl <| ?_
  refine ra_callV (As := [_, _]) A ok_SS_sample l_La_15 im_SS_sample sl_SS_sample d_La_sample_5 (Nat.le_of_ble_eq_true rfl) rfl rfl rfl (Nat.le_of_ble_eq_true rfl) (xr_ofH at0 (by decide)) (xm_mono (fun o h' na nb w => ?_) hM2)
  rcases w with ⟨v, rfl, w⟩ | ⟨rfl, w⟩
  · show xg x (y0 u) (0 + na) (0 + nb) 8 _ _ _
    rw [Nat.zero_add, Nat.zero_add]
    refine ra_i2l A d_La_sample_8 <| ?_
    refine ra_lastore A d_La_sample_9 (Nat.le_of_ble_eq_true rfl) rfl (vp_in_nI (n := 0) (by decide) (by decide)) ?_
    refine ra_goto (q := 17) A d_La_sample_10 (by decide) <| ra_iconst A 0 d_La_sample_17 (by decide) <| ?_
    exact ra_iret A ow d_La_sample_18 w
  · show xgT x (y0 u) (0 + na) (0 + nb) 5 _ _ h'
    rw [Nat.zero_add, Nat.zero_add]
    refine xcatchP2 at0 [] ⟨0, 10, 13, 13⟩ [] rfl (fun w hw => absurd hw (by simp)) (by decide) (by decide) cl_La_13 (List.mem_of_getElem? (i := 0) rfl) d_La_sample_13 (by decide) ?_
    show xg x (y0 u) _ _ 15 [_, _, _, _, _] _ _
    refine ra_iconst A 1 d_La_sample_15 (by decide) <| ?_
    exact ra_iret A ow d_La_sample_16 w
theorem s_La_ramp {p0 : Int32} {p1 : Int32} {p2 : Int32} {p3 : Int32} (hM : xm_M l (y0 u) (KK0 u) m_SS_ramp [.ref 0, .int p0, .int p1, .int p2, .int p3] h (LR1 "java/lang/IllegalArgumentException" X)) : xm_MH l (y0 u) (KK0 u) m_La_ramp hh_La_ramp [.ref 0, .int p0, .int p1, .int p2, .int p3, .ref 156] h X := by
  refine xm_ofH [none] (by simp) (Nat.le_of_ble_eq_true rfl) (by decide) (fun x at0 => ?_)
  have A := xa_ofH at0 (KK0_ok u)
  have ow := at0.2.2.2.2.1
  have hM2 : xm_M (xg_l x) (y0 u) (KK0 u) m_SS_ramp [.ref 0, .int p0, .int p1, .int p2, .int p3] h (LR1 "java/lang/IllegalArgumentException" X) := by rw [at0.2.2.2.2.2.1]; exact hM
  refine ra_aload A d_La_ramp_0 rfl <| ra_iconst A 0 d_La_ramp_2 (by decide) <| ra_aload_n A d_La_ramp_3 rfl <| ra_iload_n A d_La_ramp_4 rfl <| ra_iload_n A d_La_ramp_5 rfl <| ra_iload_n A d_La_ramp_6 rfl <| ra_iload A d_La_ramp_7 rfl <| ?_
  refine ra_callV (As := [_, _, _, _]) A ok_SS_ramp l_La_19 im_SS_ramp sl_SS_ramp d_La_ramp_9 (Nat.le_of_ble_eq_true rfl) rfl rfl rfl (Nat.le_of_ble_eq_true rfl) (xr_ofH at0 (by decide)) (xm_mono (fun o h' na nb w => ?_) hM2)
  rcases w with ⟨v, rfl, w⟩ | ⟨rfl, w⟩
  · show xg x (y0 u) (0 + na) (0 + nb) 12 _ _ _
    rw [Nat.zero_add, Nat.zero_add]
    refine ra_i2l A d_La_ramp_12 <| ?_
    refine ra_lastore A d_La_ramp_13 (Nat.le_of_ble_eq_true rfl) rfl (vp_in_nI (n := 0) (by decide) (by decide)) ?_
    refine ra_goto (q := 21) A d_La_ramp_14 (by decide) <| ra_iconst A 0 d_La_ramp_21 (by decide) <| ?_
    exact ra_iret A ow d_La_ramp_22 w
  · show xgT x (y0 u) (0 + na) (0 + nb) 9 _ _ h'
    rw [Nat.zero_add, Nat.zero_add]
    refine xcatchP2 at0 [] ⟨0, 14, 17, 13⟩ [] rfl (fun w hw => absurd hw (by simp)) (by decide) (by decide) cl_La_13 (List.mem_of_getElem? (i := 0) rfl) d_La_ramp_17 (by decide) ?_
    show xg x (y0 u) _ _ 19 [_, _, _, _, _, _, _] _ _
    refine ra_iconst A 1 d_La_ramp_19 (by decide) <| ?_
    exact ra_iret A ow d_La_ramp_20 w
theorem s_La_noise {p0 : Int32} {p1 : Int32} {p2 : Int32} {p3 : Int32} (hM : xm_M l (y0 u) (KK0 u) m_SS_noise [.ref 0, .int p0, .int p1, .int p2, .int p3] h (LR1 "java/lang/IllegalArgumentException" X)) : xm_MH l (y0 u) (KK0 u) m_La_noise hh_La_noise [.ref 0, .int p0, .int p1, .int p2, .int p3, .ref 156] h X := by
  refine xm_ofH [none] (by simp) (Nat.le_of_ble_eq_true rfl) (by decide) (fun x at0 => ?_)
  have A := xa_ofH at0 (KK0_ok u)
  have ow := at0.2.2.2.2.1
  have hM2 : xm_M (xg_l x) (y0 u) (KK0 u) m_SS_noise [.ref 0, .int p0, .int p1, .int p2, .int p3] h (LR1 "java/lang/IllegalArgumentException" X) := by rw [at0.2.2.2.2.2.1]; exact hM
  refine ra_aload A d_La_noise_0 rfl <| ra_iconst A 0 d_La_noise_2 (by decide) <| ra_aload_n A d_La_noise_3 rfl <| ra_iload_n A d_La_noise_4 rfl <| ra_iload_n A d_La_noise_5 rfl <| ra_iload_n A d_La_noise_6 rfl <| ra_iload A d_La_noise_7 rfl <| ?_
  refine ra_callV (As := [_, _, _, _]) A ok_SS_noise l_La_23 im_SS_noise sl_SS_noise d_La_noise_9 (Nat.le_of_ble_eq_true rfl) rfl rfl rfl (Nat.le_of_ble_eq_true rfl) (xr_ofH at0 (by decide)) (xm_mono (fun o h' na nb w => ?_) hM2)
  rcases w with ⟨v, rfl, w⟩ | ⟨rfl, w⟩
  · show xg x (y0 u) (0 + na) (0 + nb) 12 _ _ _
    rw [Nat.zero_add, Nat.zero_add]
    refine ra_i2l A d_La_noise_12 <| ?_
    refine ra_lastore A d_La_noise_13 (Nat.le_of_ble_eq_true rfl) rfl (vp_in_nI (n := 0) (by decide) (by decide)) ?_
    refine ra_goto (q := 21) A d_La_noise_14 (by decide) <| ra_iconst A 0 d_La_noise_21 (by decide) <| ?_
    exact ra_iret A ow d_La_noise_22 w
  · show xgT x (y0 u) (0 + na) (0 + nb) 9 _ _ h'
    rw [Nat.zero_add, Nat.zero_add]
    refine xcatchP2 at0 [] ⟨0, 14, 17, 13⟩ [] rfl (fun w hw => absurd hw (by simp)) (by decide) (by decide) cl_La_13 (List.mem_of_getElem? (i := 0) rfl) d_La_noise_17 (by decide) ?_
    show xg x (y0 u) _ _ 19 [_, _, _, _, _, _, _] _ _
    refine ra_iconst A 1 d_La_noise_19 (by decide) <| ?_
    exact ra_iret A ow d_La_noise_20 w
theorem s_La_at {p0 : Int32} {p1 : Int32} (hM : xm_M l (y0 u) (KK0 u) m_SS_at [.ref 0, .int p0, .int p1] h (LR2 "java/lang/IllegalArgumentException" "java/lang/IndexOutOfBoundsException" X)) : xm_MH l (y0 u) (KK0 u) m_La_at hh_La_at [.ref 0, .int p0, .int p1, .ref 156] h X := by
  refine xm_ofH [none] (by simp) (Nat.le_of_ble_eq_true rfl) (by decide) (fun x at0 => ?_)
  have A := xa_ofH at0 (KK0_ok u)
  have ow := at0.2.2.2.2.1
  have hM2 : xm_M (xg_l x) (y0 u) (KK0 u) m_SS_at [.ref 0, .int p0, .int p1] h (LR2 "java/lang/IllegalArgumentException" "java/lang/IndexOutOfBoundsException" X) := by rw [at0.2.2.2.2.2.1]; exact hM
  refine ra_aload_n A d_La_at_0 rfl <| ra_iconst A 0 d_La_at_1 (by decide) <| ra_aload_n A d_La_at_2 rfl <| ra_iload_n A d_La_at_3 rfl <| ra_iload_n A d_La_at_4 rfl <| ?_
  refine ra_callV (As := [_, _]) A ok_SS_at l_La_26 im_SS_at sl_SS_at d_La_at_5 (Nat.le_of_ble_eq_true rfl) rfl rfl rfl (Nat.le_of_ble_eq_true rfl) (xr_ofH at0 (by decide)) (xm_mono (fun o h' na nb w => ?_) hM2)
  rcases w with ⟨v, rfl, w⟩ | ⟨rfl, w⟩ | ⟨rfl, w⟩
  · show xg x (y0 u) (0 + na) (0 + nb) 8 _ _ _
    rw [Nat.zero_add, Nat.zero_add]
    refine ra_i2l A d_La_at_8 <| ?_
    refine ra_lastore A d_La_at_9 (Nat.le_of_ble_eq_true rfl) rfl (vp_in_nI (n := 0) (by decide) (by decide)) ?_
    refine ra_goto (q := 21) A d_La_at_10 (by decide) <| ra_iconst A 0 d_La_at_21 (by decide) <| ?_
    exact ra_iret A ow d_La_at_22 w
  · show xgT x (y0 u) (0 + na) (0 + nb) 5 _ _ h'
    rw [Nat.zero_add, Nat.zero_add]
    refine xcatchP2 at0 [] ⟨0, 10, 13, 13⟩ [⟨0, 10, 17, 29⟩] rfl (fun w hw => absurd hw (by simp)) (by decide) (by decide) cl_La_13 (List.mem_of_getElem? (i := 0) rfl) d_La_at_13 (by decide) ?_
    show xg x (y0 u) _ _ 15 [_, _, _, _, _] _ _
    refine ra_iconst A 1 d_La_at_15 (by decide) <| ?_
    exact ra_iret A ow d_La_at_16 w
  · show xgT x (y0 u) (0 + na) (0 + nb) 5 _ _ h'
    rw [Nat.zero_add, Nat.zero_add]
    refine xcatchP2 at0 [⟨0, 10, 13, 13⟩] ⟨0, 10, 17, 29⟩ [] rfl (fun w hw => by
      cases List.mem_singleton.mp hw
      exact ⟨by decide, _, cl_La_13, List.mem_of_getElem? (i := 0) rfl⟩) (by decide) (by decide) cl_La_29 (List.mem_of_getElem? (i := 2) rfl) d_La_at_17 (by decide) ?_
    show xg x (y0 u) _ _ 19 [_, _, _, _, _] _ _
    refine ra_iconst A 2 d_La_at_19 (by decide) <| ?_
    exact ra_iret A ow d_La_at_20 w
theorem s_La_sum {p0 : Int32} (hM : xm_M l (y0 u) (KK0 u) m_SS_sum [.ref 0, .int p0] h (LS2 "java/lang/IllegalArgumentException" "java/lang/IllegalStateException" X)) : xm_MH l (y0 u) (KK0 u) m_La_sum hh_La_sum [.ref 0, .int p0, .ref 156] h X := by
  refine xm_ofH [none] (by simp) (Nat.le_of_ble_eq_true rfl) (by decide) (fun x at0 => ?_)
  have A := xa_ofH at0 (KK0_ok u)
  have ow := at0.2.2.2.2.1
  have hM2 : xm_M (xg_l x) (y0 u) (KK0 u) m_SS_sum [.ref 0, .int p0] h (LS2 "java/lang/IllegalArgumentException" "java/lang/IllegalStateException" X) := by rw [at0.2.2.2.2.2.1]; exact hM
  refine ra_aload_n A d_La_sum_0 rfl <| ra_iconst A 0 d_La_sum_1 (by decide) <| ra_aload_n A d_La_sum_2 rfl <| ra_iload_n A d_La_sum_3 rfl <| ?_
  refine ra_callV (As := [_]) A ok_SS_sum l_La_31 im_SS_sum sl_SS_sum d_La_sum_4 (Nat.le_of_ble_eq_true rfl) rfl rfl rfl (Nat.le_of_ble_eq_true rfl) (xr_ofH at0 (by decide)) (xm_mono (fun o h' na nb w => ?_) hM2)
  rcases w with ⟨v, rfl, w⟩ | ⟨rfl, w⟩ | ⟨rfl, w⟩
  · show xg x (y0 u) (0 + na) (0 + nb) 7 _ _ _
    rw [Nat.zero_add, Nat.zero_add]
    refine ra_lastore A d_La_sum_7 (Nat.le_of_ble_eq_true rfl) rfl (vp_in_nI (n := 0) (by decide) (by decide)) ?_
    refine ra_goto (q := 17) A d_La_sum_8 (by decide) <| ra_iconst A 0 d_La_sum_17 (by decide) <| ?_
    exact ra_iret A ow d_La_sum_18 w
  · show xgT x (y0 u) (0 + na) (0 + nb) 4 _ _ h'
    rw [Nat.zero_add, Nat.zero_add]
    refine xcatchP1 at0 [] ⟨0, 8, 11, 13⟩ [⟨0, 8, 14, 35⟩] rfl (fun w hw => absurd hw (by simp)) (by decide) (by decide) cl_La_13 (List.mem_of_getElem? (i := 0) rfl) d_La_sum_11 (by decide) ?_
    show xg x (y0 u) _ _ 12 [_, _, _, _] _ _
    refine ra_iconst A 1 d_La_sum_12 (by decide) <| ?_
    exact ra_iret A ow d_La_sum_13 w
  · show xgT x (y0 u) (0 + na) (0 + nb) 4 _ _ h'
    rw [Nat.zero_add, Nat.zero_add]
    refine xcatchP1 at0 [⟨0, 8, 11, 13⟩] ⟨0, 8, 14, 35⟩ [] rfl (fun w hw => by
      cases List.mem_singleton.mp hw
      exact ⟨by decide, _, cl_La_13, List.mem_of_getElem? (i := 1) rfl⟩) (by decide) (by decide) cl_La_35 (List.mem_of_getElem? (i := 1) rfl) d_La_sum_14 (by decide) ?_
    show xg x (y0 u) _ _ 15 [_, _, _, _] _ _
    refine ra_iconst A 2 d_La_sum_15 (by decide) <| ?_
    exact ra_iret A ow d_La_sum_16 w
theorem s_La_encode {p0 : Int32} (hM : xm_M l (y0 u) (KK0 u) m_SS_encode [.ref 0, .int p0] h (LR1 "java/lang/IllegalStateException" X)) : xm_MH l (y0 u) (KK0 u) m_La_encode hh_La_encode [.ref 0, .int p0, .ref 156] h X := by
  refine xm_ofH [none] (by simp) (Nat.le_of_ble_eq_true rfl) (by decide) (fun x at0 => ?_)
  have A := xa_ofH at0 (KK0_ok u)
  have ow := at0.2.2.2.2.1
  have hM2 : xm_M (xg_l x) (y0 u) (KK0 u) m_SS_encode [.ref 0, .int p0] h (LR1 "java/lang/IllegalStateException" X) := by rw [at0.2.2.2.2.2.1]; exact hM
  refine ra_aload_n A d_La_encode_0 rfl <| ra_iconst A 0 d_La_encode_1 (by decide) <| ra_aload_n A d_La_encode_2 rfl <| ra_iload_n A d_La_encode_3 rfl <| ?_
  refine ra_callV (As := [_]) A ok_SS_encode l_La_37 im_SS_encode sl_SS_encode d_La_encode_4 (Nat.le_of_ble_eq_true rfl) rfl rfl rfl (Nat.le_of_ble_eq_true rfl) (xr_ofH at0 (by decide)) (xm_mono (fun o h' na nb w => ?_) hM2)
  rcases w with ⟨v, rfl, w⟩ | ⟨rfl, w⟩
  · show xg x (y0 u) (0 + na) (0 + nb) 7 _ _ _
    rw [Nat.zero_add, Nat.zero_add]
    refine ra_i2l A d_La_encode_7 <| ?_
    refine ra_lastore A d_La_encode_8 (Nat.le_of_ble_eq_true rfl) rfl (vp_in_nI (n := 0) (by decide) (by decide)) ?_
    refine ra_goto (q := 15) A d_La_encode_9 (by decide) <| ra_iconst A 0 d_La_encode_15 (by decide) <| ?_
    exact ra_iret A ow d_La_encode_16 w
  · show xgT x (y0 u) (0 + na) (0 + nb) 4 _ _ h'
    rw [Nat.zero_add, Nat.zero_add]
    refine xcatchP1 at0 [] ⟨0, 9, 12, 35⟩ [] rfl (fun w hw => absurd hw (by simp)) (by decide) (by decide) cl_La_35 (List.mem_of_getElem? (i := 1) rfl) d_La_encode_12 (by decide) ?_
    show xg x (y0 u) _ _ 13 [_, _, _, _] _ _
    refine ra_iconst A 1 d_La_encode_13 (by decide) <| ?_
    exact ra_iret A ow d_La_encode_14 w
theorem s_La_told {p0 : Int32} (hM : xm_M l (y0 u) (KK0 u) m_SS_told [.ref 0, .int p0] h (LR1 "java/lang/IllegalArgumentException" X)) : xm_MH l (y0 u) (KK0 u) m_La_told hh_La_told [.ref 0, .int p0, .ref 156] h X := by
  refine xm_ofH [none] (by simp) (Nat.le_of_ble_eq_true rfl) (by decide) (fun x at0 => ?_)
  have A := xa_ofH at0 (KK0_ok u)
  have ow := at0.2.2.2.2.1
  have hM2 : xm_M (xg_l x) (y0 u) (KK0 u) m_SS_told [.ref 0, .int p0] h (LR1 "java/lang/IllegalArgumentException" X) := by rw [at0.2.2.2.2.2.1]; exact hM
  refine ra_aload_n A d_La_told_0 rfl <| ra_iconst A 0 d_La_told_1 (by decide) <| ra_aload_n A d_La_told_2 rfl <| ra_iload_n A d_La_told_3 rfl <| ?_
  refine ra_callV (As := [_]) A ok_SS_told l_La_41 im_SS_told sl_SS_told d_La_told_4 (Nat.le_of_ble_eq_true rfl) rfl rfl rfl (Nat.le_of_ble_eq_true rfl) (xr_ofH at0 (by decide)) (xm_mono (fun o h' na nb w => ?_) hM2)
  rcases w with ⟨v, rfl, w⟩ | ⟨rfl, w⟩
  · show xg x (y0 u) (0 + na) (0 + nb) 7 _ _ _
    rw [Nat.zero_add, Nat.zero_add]
    refine ra_i2l A d_La_told_7 <| ?_
    refine ra_lastore A d_La_told_8 (Nat.le_of_ble_eq_true rfl) rfl (vp_in_nI (n := 0) (by decide) (by decide)) ?_
    refine ra_goto (q := 15) A d_La_told_9 (by decide) <| ra_iconst A 0 d_La_told_15 (by decide) <| ?_
    exact ra_iret A ow d_La_told_16 w
  · show xgT x (y0 u) (0 + na) (0 + nb) 4 _ _ h'
    rw [Nat.zero_add, Nat.zero_add]
    refine xcatchP1 at0 [] ⟨0, 9, 12, 13⟩ [] rfl (fun w hw => absurd hw (by simp)) (by decide) (by decide) cl_La_13 (List.mem_of_getElem? (i := 0) rfl) d_La_told_12 (by decide) ?_
    show xg x (y0 u) _ _ 13 [_, _, _, _] _ _
    refine ra_iconst A 1 d_La_told_13 (by decide) <| ?_
    exact ra_iret A ow d_La_told_14 w
theorem s_La_frame {p0 : Int32} {p1 : Int32} (hM : xm_M l (y0 u) (KK0 u) m_SS_frame [.ref 0, .int p0, .int p1] h (LR2 "java/lang/IllegalArgumentException" "java/lang/IndexOutOfBoundsException" X)) : xm_MH l (y0 u) (KK0 u) m_La_frame hh_La_frame [.ref 0, .int p0, .int p1, .ref 156] h X := by
  refine xm_ofH [none] (by simp) (Nat.le_of_ble_eq_true rfl) (by decide) (fun x at0 => ?_)
  have A := xa_ofH at0 (KK0_ok u)
  have ow := at0.2.2.2.2.1
  have hM2 : xm_M (xg_l x) (y0 u) (KK0 u) m_SS_frame [.ref 0, .int p0, .int p1] h (LR2 "java/lang/IllegalArgumentException" "java/lang/IndexOutOfBoundsException" X) := by rw [at0.2.2.2.2.2.1]; exact hM
  refine ra_aload_n A d_La_frame_0 rfl <| ra_iconst A 0 d_La_frame_1 (by decide) <| ra_aload_n A d_La_frame_2 rfl <| ra_iload_n A d_La_frame_3 rfl <| ra_iload_n A d_La_frame_4 rfl <| ?_
  refine ra_callV (As := [_, _]) A ok_SS_frame l_La_45 im_SS_frame sl_SS_frame d_La_frame_5 (Nat.le_of_ble_eq_true rfl) rfl rfl rfl (Nat.le_of_ble_eq_true rfl) (xr_ofH at0 (by decide)) (xm_mono (fun o h' na nb w => ?_) hM2)
  rcases w with ⟨v, rfl, w⟩ | ⟨rfl, w⟩ | ⟨rfl, w⟩
  · show xg x (y0 u) (0 + na) (0 + nb) 8 _ _ _
    rw [Nat.zero_add, Nat.zero_add]
    refine ra_i2l A d_La_frame_8 <| ?_
    refine ra_lastore A d_La_frame_9 (Nat.le_of_ble_eq_true rfl) rfl (vp_in_nI (n := 0) (by decide) (by decide)) ?_
    refine ra_goto (q := 21) A d_La_frame_10 (by decide) <| ra_iconst A 0 d_La_frame_21 (by decide) <| ?_
    exact ra_iret A ow d_La_frame_22 w
  · show xgT x (y0 u) (0 + na) (0 + nb) 5 _ _ h'
    rw [Nat.zero_add, Nat.zero_add]
    refine xcatchP2 at0 [] ⟨0, 10, 13, 13⟩ [⟨0, 10, 17, 29⟩] rfl (fun w hw => absurd hw (by simp)) (by decide) (by decide) cl_La_13 (List.mem_of_getElem? (i := 0) rfl) d_La_frame_13 (by decide) ?_
    show xg x (y0 u) _ _ 15 [_, _, _, _, _] _ _
    refine ra_iconst A 1 d_La_frame_15 (by decide) <| ?_
    exact ra_iret A ow d_La_frame_16 w
  · show xgT x (y0 u) (0 + na) (0 + nb) 5 _ _ h'
    rw [Nat.zero_add, Nat.zero_add]
    refine xcatchP2 at0 [⟨0, 10, 13, 13⟩] ⟨0, 10, 17, 29⟩ [] rfl (fun w hw => by
      cases List.mem_singleton.mp hw
      exact ⟨by decide, _, cl_La_13, List.mem_of_getElem? (i := 0) rfl⟩) (by decide) (by decide) cl_La_29 (List.mem_of_getElem? (i := 2) rfl) d_La_frame_17 (by decide) ?_
    show xg x (y0 u) _ _ 19 [_, _, _, _, _] _ _
    refine ra_iconst A 2 d_La_frame_19 (by decide) <| ?_
    exact ra_iret A ow d_La_frame_20 w
theorem s_La_feed {p0 : Int32} {p1 : Int64} (hM : xm_M l (y0 u) (KK0 u) m_SS_feed [.ref 0, .int p0, .long p1] h (LR1 "java/lang/IllegalArgumentException" X)) : xm_MH l (y0 u) (KK0 u) m_La_feed hh_La_feed [.ref 0, .int p0, .long p1, .ref 156] h X := by
  refine xm_ofH [none] (by simp) (Nat.le_of_ble_eq_true rfl) (by decide) (fun x at0 => ?_)
  have A := xa_ofH at0 (KK0_ok u)
  have ow := at0.2.2.2.2.1
  have hM2 : xm_M (xg_l x) (y0 u) (KK0 u) m_SS_feed [.ref 0, .int p0, .long p1] h (LR1 "java/lang/IllegalArgumentException" X) := by rw [at0.2.2.2.2.2.1]; exact hM
  refine ra_aload A d_La_feed_0 rfl <| ra_iconst A 0 d_La_feed_2 (by decide) <| ra_aload_n A d_La_feed_3 rfl <| ra_iload_n A d_La_feed_4 rfl <| ra_lload_n A d_La_feed_5 rfl <| ?_
  refine ra_callV (As := [_, _]) A ok_SS_feed l_La_48 im_SS_feed sl_SS_feed d_La_feed_6 (Nat.le_of_ble_eq_true rfl) rfl rfl rfl (Nat.le_of_ble_eq_true rfl) (xr_ofH at0 (by decide)) (xm_mono (fun o h' na nb w => ?_) hM2)
  rcases w with ⟨v, rfl, w⟩ | ⟨rfl, w⟩
  · show xg x (y0 u) (0 + na) (0 + nb) 9 _ _ _
    rw [Nat.zero_add, Nat.zero_add]
    refine ra_i2l A d_La_feed_9 <| ?_
    refine ra_lastore A d_La_feed_10 (Nat.le_of_ble_eq_true rfl) rfl (vp_in_nI (n := 0) (by decide) (by decide)) ?_
    refine ra_goto (q := 18) A d_La_feed_11 (by decide) <| ra_iconst A 0 d_La_feed_18 (by decide) <| ?_
    exact ra_iret A ow d_La_feed_19 w
  · show xgT x (y0 u) (0 + na) (0 + nb) 6 _ _ h'
    rw [Nat.zero_add, Nat.zero_add]
    refine xcatchP2 at0 [] ⟨0, 11, 14, 13⟩ [] rfl (fun w hw => absurd hw (by simp)) (by decide) (by decide) cl_La_13 (List.mem_of_getElem? (i := 0) rfl) d_La_feed_14 (by decide) ?_
    show xg x (y0 u) _ _ 16 [_, _, _, _, _, _] _ _
    refine ra_iconst A 1 d_La_feed_16 (by decide) <| ?_
    exact ra_iret A ow d_La_feed_17 w
theorem s_La_cut {p0 : Int32} (hM : xm_M l (y0 u) (KK0 u) m_SS_cut [.ref 0, .int p0] h (LR1 "java/lang/IllegalArgumentException" X)) : xm_MH l (y0 u) (KK0 u) m_La_cut hh_La_cut [.ref 0, .int p0, .ref 156] h X := by
  refine xm_ofH [none] (by simp) (Nat.le_of_ble_eq_true rfl) (by decide) (fun x at0 => ?_)
  have A := xa_ofH at0 (KK0_ok u)
  have ow := at0.2.2.2.2.1
  have hM2 : xm_M (xg_l x) (y0 u) (KK0 u) m_SS_cut [.ref 0, .int p0] h (LR1 "java/lang/IllegalArgumentException" X) := by rw [at0.2.2.2.2.2.1]; exact hM
  refine ra_aload_n A d_La_cut_0 rfl <| ra_iconst A 0 d_La_cut_1 (by decide) <| ra_aload_n A d_La_cut_2 rfl <| ra_iload_n A d_La_cut_3 rfl <| ?_
  refine ra_callV (As := [_]) A ok_SS_cut l_La_52 im_SS_cut sl_SS_cut d_La_cut_4 (Nat.le_of_ble_eq_true rfl) rfl rfl rfl (Nat.le_of_ble_eq_true rfl) (xr_ofH at0 (by decide)) (xm_mono (fun o h' na nb w => ?_) hM2)
  rcases w with ⟨v, rfl, w⟩ | ⟨rfl, w⟩
  · show xg x (y0 u) (0 + na) (0 + nb) 7 _ _ _
    rw [Nat.zero_add, Nat.zero_add]
    refine ra_i2l A d_La_cut_7 <| ?_
    refine ra_lastore A d_La_cut_8 (Nat.le_of_ble_eq_true rfl) rfl (vp_in_nI (n := 0) (by decide) (by decide)) ?_
    refine ra_goto (q := 15) A d_La_cut_9 (by decide) <| ra_iconst A 0 d_La_cut_15 (by decide) <| ?_
    exact ra_iret A ow d_La_cut_16 w
  · show xgT x (y0 u) (0 + na) (0 + nb) 4 _ _ h'
    rw [Nat.zero_add, Nat.zero_add]
    refine xcatchP1 at0 [] ⟨0, 9, 12, 13⟩ [] rfl (fun w hw => absurd hw (by simp)) (by decide) (by decide) cl_La_13 (List.mem_of_getElem? (i := 0) rfl) d_La_cut_12 (by decide) ?_
    show xg x (y0 u) _ _ 13 [_, _, _, _] _ _
    refine ra_iconst A 1 d_La_cut_13 (by decide) <| ?_
    exact ra_iret A ow d_La_cut_14 w
theorem s_La_spoil {p0 : Int32} {p1 : Int32} (hM : xm_M l (y0 u) (KK0 u) m_SS_spoil [.ref 0, .int p0, .int p1] h (LR2 "java/lang/IndexOutOfBoundsException" "java/lang/IllegalArgumentException" X)) : xm_MH l (y0 u) (KK0 u) m_La_spoil hh_La_spoil [.ref 0, .int p0, .int p1, .ref 156] h X := by
  refine xm_ofH [none] (by simp) (Nat.le_of_ble_eq_true rfl) (by decide) (fun x at0 => ?_)
  have A := xa_ofH at0 (KK0_ok u)
  have ow := at0.2.2.2.2.1
  have hM2 : xm_M (xg_l x) (y0 u) (KK0 u) m_SS_spoil [.ref 0, .int p0, .int p1] h (LR2 "java/lang/IndexOutOfBoundsException" "java/lang/IllegalArgumentException" X) := by rw [at0.2.2.2.2.2.1]; exact hM
  refine ra_aload_n A d_La_spoil_0 rfl <| ra_iconst A 0 d_La_spoil_1 (by decide) <| ra_aload_n A d_La_spoil_2 rfl <| ra_iload_n A d_La_spoil_3 rfl <| ra_iload_n A d_La_spoil_4 rfl <| ?_
  refine ra_callV (As := [_, _]) A ok_SS_spoil l_La_55 im_SS_spoil sl_SS_spoil d_La_spoil_5 (Nat.le_of_ble_eq_true rfl) rfl rfl rfl (Nat.le_of_ble_eq_true rfl) (xr_ofH at0 (by decide)) (xm_mono (fun o h' na nb w => ?_) hM2)
  rcases w with ⟨v, rfl, w⟩ | ⟨rfl, w⟩ | ⟨rfl, w⟩
  · show xg x (y0 u) (0 + na) (0 + nb) 8 _ _ _
    rw [Nat.zero_add, Nat.zero_add]
    refine ra_i2l A d_La_spoil_8 <| ?_
    refine ra_lastore A d_La_spoil_9 (Nat.le_of_ble_eq_true rfl) rfl (vp_in_nI (n := 0) (by decide) (by decide)) ?_
    refine ra_goto (q := 21) A d_La_spoil_10 (by decide) <| ra_iconst A 0 d_La_spoil_21 (by decide) <| ?_
    exact ra_iret A ow d_La_spoil_22 w
  · show xgT x (y0 u) (0 + na) (0 + nb) 5 _ _ h'
    rw [Nat.zero_add, Nat.zero_add]
    refine xcatchP2 at0 [] ⟨0, 10, 13, 29⟩ [⟨0, 10, 17, 13⟩] rfl (fun w hw => absurd hw (by simp)) (by decide) (by decide) cl_La_29 (List.mem_of_getElem? (i := 2) rfl) d_La_spoil_13 (by decide) ?_
    show xg x (y0 u) _ _ 15 [_, _, _, _, _] _ _
    refine ra_iconst A 1 d_La_spoil_15 (by decide) <| ?_
    exact ra_iret A ow d_La_spoil_16 w
  · show xgT x (y0 u) (0 + na) (0 + nb) 5 _ _ h'
    rw [Nat.zero_add, Nat.zero_add]
    refine xcatchP2 at0 [⟨0, 10, 13, 29⟩] ⟨0, 10, 17, 13⟩ [] rfl (fun w hw => by
      cases List.mem_singleton.mp hw
      exact ⟨by decide, _, cl_La_29, List.mem_of_getElem? (i := 2) rfl⟩) (by decide) (by decide) cl_La_13 (List.mem_of_getElem? (i := 0) rfl) d_La_spoil_17 (by decide) ?_
    show xg x (y0 u) _ _ 19 [_, _, _, _, _] _ _
    refine ra_iconst A 2 d_La_spoil_19 (by decide) <| ?_
    exact ra_iret A ow d_La_spoil_20 w
theorem s_La_seal {p0 : Int32} {p1 : Int32} {p2 : Int32} (hM : xm_M l (y0 u) (KK0 u) m_SS_seal [.ref 0, .int p0, .int p1, .int p2] h (LV2 "java/lang/IllegalArgumentException" "java/lang/IndexOutOfBoundsException" X)) : xm_MH l (y0 u) (KK0 u) m_La_seal hh_La_seal [.ref 0, .int p0, .int p1, .int p2] h X := by
  refine xm_ofH [none] (by simp) (Nat.le_of_ble_eq_true rfl) (by decide) (fun x at0 => ?_)
  have A := xa_ofH at0 (KK0_ok u)
  have ow := at0.2.2.2.2.1
  have hM2 : xm_M (xg_l x) (y0 u) (KK0 u) m_SS_seal [.ref 0, .int p0, .int p1, .int p2] h (LV2 "java/lang/IllegalArgumentException" "java/lang/IndexOutOfBoundsException" X) := by rw [at0.2.2.2.2.2.1]; exact hM
  refine ra_aload_n A d_La_seal_0 rfl <| ra_iload_n A d_La_seal_1 rfl <| ra_iload_n A d_La_seal_2 rfl <| ra_iload_n A d_La_seal_3 rfl <| ?_
  refine ra_callV (As := [_, _, _]) A ok_SS_seal l_La_58 im_SS_seal sl_SS_seal d_La_seal_4 (Nat.le_of_ble_eq_true rfl) rfl rfl rfl (Nat.le_of_ble_eq_true rfl) (xr_ofH at0 (by decide)) (xm_mono (fun o h' na nb w => ?_) hM2)
  rcases w with ⟨rfl, w⟩ | ⟨rfl, w⟩ | ⟨rfl, w⟩
  · show xg x (y0 u) (0 + na) (0 + nb) 7 _ _ _
    rw [Nat.zero_add, Nat.zero_add]
    refine ra_goto (q := 18) A d_La_seal_7 (by decide) <| ra_iconst A 0 d_La_seal_18 (by decide) <| ?_
    exact ra_iret A ow d_La_seal_19 w
  · show xgT x (y0 u) (0 + na) (0 + nb) 4 _ _ h'
    rw [Nat.zero_add, Nat.zero_add]
    refine xcatchP2 at0 [] ⟨0, 7, 10, 13⟩ [⟨0, 7, 14, 29⟩] rfl (fun w hw => absurd hw (by simp)) (by decide) (by decide) cl_La_13 (List.mem_of_getElem? (i := 0) rfl) d_La_seal_10 (by decide) ?_
    show xg x (y0 u) _ _ 12 [_, _, _, _, _] _ _
    refine ra_iconst A 1 d_La_seal_12 (by decide) <| ?_
    exact ra_iret A ow d_La_seal_13 w
  · show xgT x (y0 u) (0 + na) (0 + nb) 4 _ _ h'
    rw [Nat.zero_add, Nat.zero_add]
    refine xcatchP2 at0 [⟨0, 7, 10, 13⟩] ⟨0, 7, 14, 29⟩ [] rfl (fun w hw => by
      cases List.mem_singleton.mp hw
      exact ⟨by decide, _, cl_La_13, List.mem_of_getElem? (i := 0) rfl⟩) (by decide) (by decide) cl_La_29 (List.mem_of_getElem? (i := 2) rfl) d_La_seal_14 (by decide) ?_
    show xg x (y0 u) _ _ 16 [_, _, _, _, _] _ _
    refine ra_iconst A 2 d_La_seal_16 (by decide) <| ?_
    exact ra_iret A ow d_La_seal_17 w
theorem s_La_heard {p0 : Int32} {p1 : Int32} (hM : xm_M l (y0 u) (KK0 u) m_SS_heard [.ref 0, .int p0, .int p1] h (LR2 "java/lang/IllegalArgumentException" "java/lang/IndexOutOfBoundsException" X)) : xm_MH l (y0 u) (KK0 u) m_La_heard hh_La_heard [.ref 0, .int p0, .int p1, .ref 156] h X := by
  refine xm_ofH [none] (by simp) (Nat.le_of_ble_eq_true rfl) (by decide) (fun x at0 => ?_)
  have A := xa_ofH at0 (KK0_ok u)
  have ow := at0.2.2.2.2.1
  have hM2 : xm_M (xg_l x) (y0 u) (KK0 u) m_SS_heard [.ref 0, .int p0, .int p1] h (LR2 "java/lang/IllegalArgumentException" "java/lang/IndexOutOfBoundsException" X) := by rw [at0.2.2.2.2.2.1]; exact hM
  refine ra_aload_n A d_La_heard_0 rfl <| ra_iconst A 0 d_La_heard_1 (by decide) <| ra_aload_n A d_La_heard_2 rfl <| ra_iload_n A d_La_heard_3 rfl <| ra_iload_n A d_La_heard_4 rfl <| ?_
  refine ra_callV (As := [_, _]) A ok_SS_heard l_La_62 im_SS_heard sl_SS_heard d_La_heard_5 (Nat.le_of_ble_eq_true rfl) rfl rfl rfl (Nat.le_of_ble_eq_true rfl) (xr_ofH at0 (by decide)) (xm_mono (fun o h' na nb w => ?_) hM2)
  rcases w with ⟨v, rfl, w⟩ | ⟨rfl, w⟩ | ⟨rfl, w⟩
  · show xg x (y0 u) (0 + na) (0 + nb) 8 _ _ _
    rw [Nat.zero_add, Nat.zero_add]
    refine ra_i2l A d_La_heard_8 <| ?_
    refine ra_lastore A d_La_heard_9 (Nat.le_of_ble_eq_true rfl) rfl (vp_in_nI (n := 0) (by decide) (by decide)) ?_
    refine ra_goto (q := 21) A d_La_heard_10 (by decide) <| ra_iconst A 0 d_La_heard_21 (by decide) <| ?_
    exact ra_iret A ow d_La_heard_22 w
  · show xgT x (y0 u) (0 + na) (0 + nb) 5 _ _ h'
    rw [Nat.zero_add, Nat.zero_add]
    refine xcatchP2 at0 [] ⟨0, 10, 13, 13⟩ [⟨0, 10, 17, 29⟩] rfl (fun w hw => absurd hw (by simp)) (by decide) (by decide) cl_La_13 (List.mem_of_getElem? (i := 0) rfl) d_La_heard_13 (by decide) ?_
    show xg x (y0 u) _ _ 15 [_, _, _, _, _] _ _
    refine ra_iconst A 1 d_La_heard_15 (by decide) <| ?_
    exact ra_iret A ow d_La_heard_16 w
  · show xgT x (y0 u) (0 + na) (0 + nb) 5 _ _ h'
    rw [Nat.zero_add, Nat.zero_add]
    refine xcatchP2 at0 [⟨0, 10, 13, 13⟩] ⟨0, 10, 17, 29⟩ [] rfl (fun w hw => by
      cases List.mem_singleton.mp hw
      exact ⟨by decide, _, cl_La_13, List.mem_of_getElem? (i := 0) rfl⟩) (by decide) (by decide) cl_La_29 (List.mem_of_getElem? (i := 2) rfl) d_La_heard_17 (by decide) ?_
    show xg x (y0 u) _ _ 19 [_, _, _, _, _] _ _
    refine ra_iconst A 2 d_La_heard_19 (by decide) <| ?_
    exact ra_iret A ow d_La_heard_20 w
end S9q
