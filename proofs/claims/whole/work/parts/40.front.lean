/-! SoundStream: the calls that touch the rows -/
section S40
variable {u : xu_T} {l : Launch} {KK : State → Prop} {h : xw_H} {X : xc_R → xw_H → Nat → Nat → Prop}
theorem s_SS_clear (K : xk_ok u KK) (hX : X (.inl none) (f_empty_rows h) 0 0) : xm_M l (y0 u) KK m_SS_clear [.ref 0] h X := by
  refine xm_of [] (by simp) (Nat.le_of_ble_eq_true rfl) (by decide) (fun x at0 => ?_)
  have A := xa_of at0 K
  have ow := at0.2.2.2.2.1
  refine ra_aload_n A d_SS_clear_0 rfl <| ra_getR A f_SS_12 d_SS_clear_1 (Nat.le_of_ble_eq_true rfl) rfl rfl rfl <| ?_
  refine ra_callV (As := []) A ok_So_empty l_SS_62 im_So_empty sl_So_empty d_SS_clear_4 (Nat.le_of_ble_eq_true rfl) rfl rfl rfl (Nat.le_of_ble_eq_true rfl) (xr_of at0 (by decide)) (s_So_empty_rows K ?_)
  show xg x (y0 u) 0 0 7 _ _ _
  exact ra_vret A ow d_SS_clear_7 hX
/-- is there such a form? -/
def f_noForm (c d b r : Int32) : Prop := (c < 1 ∨ 2 < c ∨ d < 4 ∨ 24 < d) ∨ (b < 16 ∨ 1024 < b ∨ r < 1 ∨ 655350 < r)
theorem s_SS_form (hl : l.stackTraces = false) {c d b r : Int32} (hX : f_noForm c d b r → X (.inr "java/lang/IllegalArgumentException") h 1 6) (hY : ¬ f_noForm c d b r → X (.inl none) (f_empty_rows (f_shape_rows h c d b r)) 0 0) : xm_M l (y0 u) (KK0 u) m_SS_form [.ref 0, .int c, .int d, .int b, .int r] h X := by
  refine xm_of [] (by simp) (Nat.le_of_ble_eq_true rfl) (by decide) (fun x at0 => ?_)
  have A := xa_of at0 (KK0_ok u)
  have ow := at0.2.2.2.2.1
  refine ra_iload_n A d_SS_form_0 rfl <| ra_iconst A 1 d_SS_form_1 (by decide) <| ?_
  refine ra_icmp_lt (q := 21) A d_SS_form_2 (by decide) (fun c1 => ?_) (fun c1 => ?_)
  · exact xt_throw at0 hl xt_IAE (by decide) (List.mem_of_getElem? (i := 0) rfl) cl_SS_48 xi_IAE (List.mem_of_getElem? (i := 0) rfl) le_SS_52 d_SS_form_21 d_SS_form_24 d_SS_form_25 d_SS_form_27 d_SS_form_30 ⟨by decide, Nat.le_of_ble_eq_true rfl, by decide, by decide⟩ (hX (Or.inl (Or.inl c1)))
  refine ra_iload_n A d_SS_form_5 rfl <| ra_iconst A 2 d_SS_form_6 (by decide) <| ?_
  refine ra_icmp_gt (q := 21) A d_SS_form_7 (by decide) (fun c2 => ?_) (fun c2 => ?_)
  · exact xt_throw at0 hl xt_IAE (by decide) (List.mem_of_getElem? (i := 0) rfl) cl_SS_48 xi_IAE (List.mem_of_getElem? (i := 0) rfl) le_SS_52 d_SS_form_21 d_SS_form_24 d_SS_form_25 d_SS_form_27 d_SS_form_30 ⟨by decide, Nat.le_of_ble_eq_true rfl, by decide, by decide⟩ (hX (Or.inl (Or.inr (Or.inl c2))))
  refine ra_iload_n A d_SS_form_10 rfl <| ra_iconst A 4 d_SS_form_11 (by decide) <| ?_
  refine ra_icmp_lt (q := 21) A d_SS_form_12 (by decide) (fun c3 => ?_) (fun c3 => ?_)
  · exact xt_throw at0 hl xt_IAE (by decide) (List.mem_of_getElem? (i := 0) rfl) cl_SS_48 xi_IAE (List.mem_of_getElem? (i := 0) rfl) le_SS_52 d_SS_form_21 d_SS_form_24 d_SS_form_25 d_SS_form_27 d_SS_form_30 ⟨by decide, Nat.le_of_ble_eq_true rfl, by decide, by decide⟩ (hX (Or.inl (Or.inr (Or.inr (Or.inl c3)))))
  refine ra_iload_n A d_SS_form_15 rfl <| ra_bipush A 24 d_SS_form_16 (by decide) <| ?_
  refine ra_icmp_le (q := 31) A d_SS_form_18 (by decide) (fun c4 => ?_) (fun c4 => ?_)
  rotate_left
  · exact xt_throw at0 hl xt_IAE (by decide) (List.mem_of_getElem? (i := 0) rfl) cl_SS_48 xi_IAE (List.mem_of_getElem? (i := 0) rfl) le_SS_52 d_SS_form_21 d_SS_form_24 d_SS_form_25 d_SS_form_27 d_SS_form_30 ⟨by decide, Nat.le_of_ble_eq_true rfl, by decide, by decide⟩ (hX (Or.inl (Or.inr (Or.inr (Or.inr (Int32.not_le.mp c4))))))
  refine ra_iload_n A d_SS_form_31 rfl <| ra_bipush A 16 d_SS_form_32 (by decide) <| ?_
  refine ra_icmp_lt (q := 57) A d_SS_form_34 (by decide) (fun c5 => ?_) (fun c5 => ?_)
  · exact xt_throw at0 hl xt_IAE (by decide) (List.mem_of_getElem? (i := 0) rfl) cl_SS_48 xi_IAE (List.mem_of_getElem? (i := 1) rfl) le_SS_52 d_SS_form_57 d_SS_form_60 d_SS_form_61 d_SS_form_63 d_SS_form_66 ⟨by decide, Nat.le_of_ble_eq_true rfl, by decide, by decide⟩ (hX (Or.inr (Or.inl c5)))
  refine ra_iload_n A d_SS_form_37 rfl <| ra_sipush A 1024 d_SS_form_38 (by decide) <| ?_
  refine ra_icmp_gt (q := 57) A d_SS_form_41 (by decide) (fun c6 => ?_) (fun c6 => ?_)
  · exact xt_throw at0 hl xt_IAE (by decide) (List.mem_of_getElem? (i := 0) rfl) cl_SS_48 xi_IAE (List.mem_of_getElem? (i := 1) rfl) le_SS_52 d_SS_form_57 d_SS_form_60 d_SS_form_61 d_SS_form_63 d_SS_form_66 ⟨by decide, Nat.le_of_ble_eq_true rfl, by decide, by decide⟩ (hX (Or.inr (Or.inr (Or.inl c6))))
  refine ra_iload A d_SS_form_44 rfl <| ra_iconst A 1 d_SS_form_46 (by decide) <| ?_
  refine ra_icmp_lt (q := 57) A d_SS_form_47 (by decide) (fun c7 => ?_) (fun c7 => ?_)
  · exact xt_throw at0 hl xt_IAE (by decide) (List.mem_of_getElem? (i := 0) rfl) cl_SS_48 xi_IAE (List.mem_of_getElem? (i := 1) rfl) le_SS_52 d_SS_form_57 d_SS_form_60 d_SS_form_61 d_SS_form_63 d_SS_form_66 ⟨by decide, Nat.le_of_ble_eq_true rfl, by decide, by decide⟩ (hX (Or.inr (Or.inr (Or.inr (Or.inl c7)))))
  refine ra_iload A d_SS_form_50 rfl <| ra_ldc A k_SS_55 d_SS_form_52 <| ?_
  refine ra_icmp_le (q := 67) A d_SS_form_54 (by decide) (fun c8 => ?_) (fun c8 => ?_)
  rotate_left
  · exact xt_throw at0 hl xt_IAE (by decide) (List.mem_of_getElem? (i := 0) rfl) cl_SS_48 xi_IAE (List.mem_of_getElem? (i := 1) rfl) le_SS_52 d_SS_form_57 d_SS_form_60 d_SS_form_61 d_SS_form_63 d_SS_form_66 ⟨by decide, Nat.le_of_ble_eq_true rfl, by decide, by decide⟩ (hX (Or.inr (Or.inr (Or.inr (Or.inr (Int32.not_le.mp c8))))))
  refine ra_aload_n A d_SS_form_67 rfl <| ra_getR A f_SS_12 d_SS_form_68 (Nat.le_of_ble_eq_true rfl) rfl rfl rfl <| ra_iload_n A d_SS_form_71 rfl <| ra_iload_n A d_SS_form_72 rfl <| ra_iload_n A d_SS_form_73 rfl <| ra_iload A d_SS_form_74 rfl <| ?_
  refine ra_callV (As := [_, _, _, _]) A ok_So_shape l_SS_58 im_So_shape sl_So_shape d_SS_form_76 (Nat.le_of_ble_eq_true rfl) rfl rfl rfl (Nat.le_of_ble_eq_true rfl) (xr_of at0 (by decide)) (s_So_shape_rows (KK0_ok u) ?_)
  show xg x (y0 u) 0 0 79 _ _ _
  refine ra_aload_n A d_SS_form_79 rfl <| ra_getR A f_SS_12 d_SS_form_80 (Nat.le_of_ble_eq_true rfl) rfl rfl rfl <| ?_
  refine ra_callV (As := []) A ok_So_empty l_SS_62 im_So_empty sl_So_empty d_SS_form_83 (Nat.le_of_ble_eq_true rfl) rfl rfl rfl (Nat.le_of_ble_eq_true rfl) (xr_of at0 (by decide)) (s_So_empty_rows (KK0_ok u) ?_)
  show xg x (y0 u) 0 0 86 _ _ _
  exact ra_vret A ow d_SS_form_86 (hY (fun q => by rcases q with q | q <;> rcases q with q | q | q | q <;> first | contradiction | exact absurd q (Int32.not_lt.mpr (by assumption))))
end S40
