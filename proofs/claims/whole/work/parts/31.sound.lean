/-! SoundStream$Sound, of the rows and of what was decoded -/
theorem rf_2 : ∀ c, c < 2 → rf0 2 c = some (3 + c) ∧ kd0 (3 + c) = .inr (0, 0, 1200) := by decide
theorem rf_137 : ∀ c, c < 2 → rf0 137 c = some (138 + c) ∧ kd0 (138 + c) = .inr (0, 0, 1200) := by decide
section S31
variable {u : xu_T} {l : Launch} {KK : State → Prop} {h : xw_H} {X : xc_R → xw_H → Nat → Nat → Prop}
def f_wrap (d v : Int32) : Int32 := (v <<< ((32 - d) &&& 31)) >>> ((32 - d) &&& 31)
def b_I (b : Bool) : Int32 := if b then 1 else 0
def f_shape_rows (h : xw_H) (c d b r : Int32) : xw_H := xw_I (xw_I (xw_I (xw_I h 1 0 c) 1 1 d) 1 2 b) 1 3 r
theorem s_So_shape_rows (K : xk_ok u KK) {c d b r : Int32} (hX : X (.inl none) (f_shape_rows h c d b r) 0 0) : xm_M l (y0 u) KK m_So_shape [.ref 1, .int c, .int d, .int b, .int r] h X := by
  refine xm_of [] (by simp) (Nat.le_of_ble_eq_true rfl) (by decide) (fun x at0 => ?_)
  have A := xa_of at0 K
  have ow := at0.2.2.2.2.1
  refine ra_aload_n A d_So_shape_0 rfl <| ra_iload_n A d_So_shape_1 rfl <| ra_putI (ty := .int) A f_So_9 rfl rfl (by decide +kernel) rfl rfl d_So_shape_2 (Nat.le_of_ble_eq_true rfl) rfl rfl <| ra_aload_n A d_So_shape_5 rfl <| ra_iload_n A d_So_shape_6 rfl <| ra_putI (ty := .int) A f_So_15 rfl rfl (by decide +kernel) rfl rfl d_So_shape_7 (Nat.le_of_ble_eq_true rfl) rfl rfl <| ra_aload_n A d_So_shape_10 rfl <| ra_iload_n A d_So_shape_11 rfl <| ra_putI (ty := .int) A f_So_18 rfl rfl (by decide +kernel) rfl rfl d_So_shape_12 (Nat.le_of_ble_eq_true rfl) rfl rfl <| ra_aload_n A d_So_shape_15 rfl <| ra_iload A d_So_shape_16 rfl <| ra_putI (ty := .int) A f_So_21 rfl rfl (by decide +kernel) rfl rfl d_So_shape_18 (Nat.le_of_ble_eq_true rfl) rfl rfl <| ?_
  exact ra_vret A ow d_So_shape_21 hX
def f_empty_rows (h : xw_H) : xw_H := xw_I (xw_I h 5 0 0) 5 1 0
theorem s_So_empty_rows (K : xk_ok u KK) (hX : X (.inl none) (f_empty_rows h) 0 0) : xm_M l (y0 u) KK m_So_empty [.ref 1] h X := by
  refine xm_of [] (by simp) (Nat.le_of_ble_eq_true rfl) (by decide) (fun x at0 => ?_)
  have A := xa_of at0 K
  have ow := at0.2.2.2.2.1
  refine ra_aload_n A d_So_empty_0 rfl <| ra_getR A f_So_29 d_So_empty_1 (Nat.le_of_ble_eq_true rfl) rfl rfl rfl <| ra_iconst A 0 d_So_empty_4 (by decide) <| ra_iconst A 0 d_So_empty_5 (by decide) <| ?_
  refine ra_iastore A d_So_empty_6 (Nat.le_of_ble_eq_true rfl) rfl (show vp_in (nI 0) 2 from vp_in_nI (by decide) (by decide)) ?_
  refine ra_aload_n A d_So_empty_7 rfl <| ra_getR A f_So_29 d_So_empty_8 (Nat.le_of_ble_eq_true rfl) rfl rfl rfl <| ra_iconst A 1 d_So_empty_11 (by decide) <| ra_iconst A 0 d_So_empty_12 (by decide) <| ?_
  refine ra_iastore A d_So_empty_13 (Nat.le_of_ble_eq_true rfl) rfl (show vp_in (nI 1) 2 from vp_in_nI (by decide) (by decide)) ?_
  exact ra_vret A ow d_So_empty_14 hX
def f_hasChannel_rows (h : xw_H) (c : Int32) : Int32 := if c < 0 then 0 else if v_rows_channels h ≤ c then 0 else 1
theorem s_So_hasChannel_rows (K : xk_ok u KK) {c : Int32} (hX : X (.inl (some (.int (f_hasChannel_rows h c)))) h 0 0) : xm_M l (y0 u) KK m_So_hasChannel [.ref 1, .int c] h X := by
  refine xm_of [] (by simp) (Nat.le_of_ble_eq_true rfl) (by decide) (fun x at0 => ?_)
  have A := xa_of at0 K
  have ow := at0.2.2.2.2.1
  refine ra_iload_n A d_So_hasChannel_0 rfl <| ?_
  refine ra_if_lt (q := 16) A d_So_hasChannel_1 (by decide) (fun c1 => ?_) (fun c1 => ?_)
  · refine ra_iconst A 0 d_So_hasChannel_16 (by decide) <| ?_
    rw [f_hasChannel_rows, if_pos c1] at hX
    exact ra_zret A ow rfl d_So_hasChannel_17 hX
  · refine ra_iload_n A d_So_hasChannel_4 rfl <| ra_aload_n A d_So_hasChannel_5 rfl <| ra_getI A f_So_9 d_So_hasChannel_6 (Nat.le_of_ble_eq_true rfl) rfl rfl <| ?_
    refine ra_icmp_ge (q := 16) A d_So_hasChannel_9 (by decide) (fun c2 => ?_) (fun c2 => ?_)
    · refine ra_iconst A 0 d_So_hasChannel_16 (by decide) <| ?_
      rw [f_hasChannel_rows, if_neg c1, if_pos c2] at hX
      exact ra_zret A ow rfl d_So_hasChannel_17 hX
    · refine ra_iconst A 1 d_So_hasChannel_12 (by decide) <| ra_goto (q := 17) A d_So_hasChannel_13 (by decide) <| ?_
      rw [f_hasChannel_rows, if_neg c1, if_neg c2] at hX
      exact ra_zret A ow rfl d_So_hasChannel_17 hX
def f_hasSample_rows (h : xw_H) (c : Nat) (i : Int32) : Int32 := if i < 0 then 0 else if h.1 5 c ≤ i then 0 else 1
theorem s_So_hasSample_rows (K : xk_ok u KK) {c : Nat} {i : Int32} (hc : c < 2) (hX : X (.inl (some (.int (f_hasSample_rows h c i)))) h 0 0) : xm_M l (y0 u) KK m_So_hasSample [.ref 1, .int (nI c), .int i] h X := by
  refine xm_of [] (by simp) (Nat.le_of_ble_eq_true rfl) (by decide) (fun x at0 => ?_)
  have A := xa_of at0 K
  have ow := at0.2.2.2.2.1
  refine ra_iload_n A d_So_hasSample_0 rfl <| ?_
  refine ra_if_lt (q := 18) A d_So_hasSample_1 (by decide) (fun c1 => ?_) (fun c1 => ?_)
  · refine ra_iconst A 0 d_So_hasSample_18 (by decide) <| ?_
    rw [f_hasSample_rows, if_pos c1] at hX
    exact ra_zret A ow rfl d_So_hasSample_19 hX
  · refine ra_iload_n A d_So_hasSample_4 rfl <| ra_aload_n A d_So_hasSample_5 rfl <| ra_getR A f_So_29 d_So_hasSample_6 (Nat.le_of_ble_eq_true rfl) rfl rfl rfl <| ra_iload_n A d_So_hasSample_9 rfl <| ?_
    refine ra_iaload A d_So_hasSample_10 (Nat.le_of_ble_eq_true rfl) rfl (vp_in_nI hc (by decide)) ?_
    rw [nI_clamp (by omega)]
    refine ra_icmp_ge (q := 18) A d_So_hasSample_11 (by decide) (fun c2 => ?_) (fun c2 => ?_)
    · refine ra_iconst A 0 d_So_hasSample_18 (by decide) <| ?_
      rw [f_hasSample_rows, if_neg c1, if_pos c2] at hX
      exact ra_zret A ow rfl d_So_hasSample_19 hX
    · refine ra_iconst A 1 d_So_hasSample_14 (by decide) <| ra_goto (q := 19) A d_So_hasSample_15 (by decide) <| ?_
      rw [f_hasSample_rows, if_neg c1, if_neg c2] at hX
      exact ra_zret A ow rfl d_So_hasSample_19 hX
def f_isEven_rows (h : xw_H) : Int32 := if v_rows_channels h = 1 then 1 else if h.1 5 0 = h.1 5 1 then 1 else 0
theorem s_So_isEven_rows (K : xk_ok u KK) (hX : X (.inl (some (.int (f_isEven_rows h)))) h 0 0) : xm_M l (y0 u) KK m_So_isEven [.ref 1] h X := by
  refine xm_of [] (by simp) (Nat.le_of_ble_eq_true rfl) (by decide) (fun x at0 => ?_)
  have A := xa_of at0 K
  have ow := at0.2.2.2.2.1
  refine ra_aload_n A d_So_isEven_0 rfl <| ra_getI A f_So_9 d_So_isEven_1 (Nat.le_of_ble_eq_true rfl) rfl rfl <| ra_iconst A 1 d_So_isEven_4 (by decide) <| ?_
  refine ra_icmp_eq (q := 23) A d_So_isEven_5 (by decide) (fun c1 => ?_) (fun c1 => ?_)
  · refine ra_iconst A 1 d_So_isEven_23 (by decide) <| ra_goto (q := 28) A d_So_isEven_24 (by decide) <| ?_
    rw [f_isEven_rows, if_pos c1] at hX
    exact ra_zret A ow rfl d_So_isEven_28 hX
  · refine ra_aload_n A d_So_isEven_8 rfl <| ra_getR A f_So_29 d_So_isEven_9 (Nat.le_of_ble_eq_true rfl) rfl rfl rfl <| ra_iconst A 0 d_So_isEven_12 (by decide) <| ?_
    refine ra_iaload A d_So_isEven_13 (Nat.le_of_ble_eq_true rfl) rfl (show vp_in (nI 0) 2 from vp_in_nI (by decide) (by decide)) ?_
    refine ra_aload_n A d_So_isEven_14 rfl <| ra_getR A f_So_29 d_So_isEven_15 (Nat.le_of_ble_eq_true rfl) rfl rfl rfl <| ra_iconst A 1 d_So_isEven_18 (by decide) <| ?_
    refine ra_iaload A d_So_isEven_19 (Nat.le_of_ble_eq_true rfl) rfl (show vp_in (nI 1) 2 from vp_in_nI (by decide) (by decide)) ?_
    refine ra_icmp_ne (q := 27) A d_So_isEven_20 (by decide) (fun c2 => ?_) (fun c2 => ?_)
    · refine ra_iconst A 0 d_So_isEven_27 (by decide) <| ?_
      rw [f_isEven_rows, if_neg c1, if_neg (show ¬ h.1 5 0 = h.1 5 1 from c2)] at hX
      exact ra_zret A ow rfl d_So_isEven_28 hX
    · refine ra_iconst A 1 d_So_isEven_23 (by decide) <| ra_goto (q := 28) A d_So_isEven_24 (by decide) <| ?_
      rw [f_isEven_rows, if_neg c1, if_pos (show h.1 5 0 = h.1 5 1 from c2)] at hX
      exact ra_zret A ow rfl d_So_isEven_28 hX
theorem s_So_room_rows (K : xk_ok u KK) {c : Nat} (hc : c < 2) (hX : X (.inl (some (.int (1200 - h.1 5 c)))) h 0 0) : xm_M l (y0 u) KK m_So_room [.ref 1, .int (nI c)] h X := by
  refine xm_of [] (by simp) (Nat.le_of_ble_eq_true rfl) (by decide) (fun x at0 => ?_)
  have A := xa_of at0 K
  have ow := at0.2.2.2.2.1
  refine ra_sipush A 1200 d_So_room_0 (by decide) <| ra_aload_n A d_So_room_3 rfl <| ra_getR A f_So_29 d_So_room_4 (Nat.le_of_ble_eq_true rfl) rfl rfl rfl <| ra_iload_n A d_So_room_7 rfl <| ?_
  refine ra_iaload A d_So_room_8 (Nat.le_of_ble_eq_true rfl) rfl (vp_in_nI hc (by decide)) ?_
  rw [nI_clamp (by omega)]
  refine ra_isub A d_So_room_9 <| ?_
  exact ra_iret A ow d_So_room_10 hX
def f_append_rows (h : xw_H) (c : Nat) (v : Int32) : xw_H := xw_I (xw_I h (3 + c) (h.1 5 c).toNatClampNeg (f_wrap (v_rows_depth h) v)) 5 c (h.1 5 c + 1)
theorem s_So_append_rows (K : xk_ok u KK) {c : Nat} {v : Int32} (hc : c < 2) (hi : vp_in (h.1 5 c) 1200) (hX : X (.inl none) (f_append_rows h c v) 0 0) : xm_M l (y0 u) KK m_So_append [.ref 1, .int (nI c), .int v] h X := by
  refine xm_of [none] (by simp) (Nat.le_of_ble_eq_true rfl) (by decide) (fun x at0 => ?_)
  have A := xa_of at0 K
  have ow := at0.2.2.2.2.1
  have hcl := nI_clamp (n := c) (by omega)
  have hr := rf_2 c hc
  refine ra_bipush A 32 d_So_append_0 (by decide) <| ra_aload_n A d_So_append_2 rfl <| ra_getI A f_So_15 d_So_append_3 (Nat.le_of_ble_eq_true rfl) rfl rfl <| ra_isub A d_So_append_6 <| ra_istore_n (L' := [_, _, _, _]) A d_So_append_7 (by decide) rfl <| ra_aload_n A d_So_append_8 rfl <| ra_getR A f_So_26 d_So_append_9 (Nat.le_of_ble_eq_true rfl) rfl rfl rfl <| ra_iload_n A d_So_append_12 rfl <| ?_
  refine ra_aaload (b := 3 + c) A d_So_append_13 (Nat.le_of_ble_eq_true rfl) rfl rfl (vp_in_nI hc (by decide)) (by rw [hcl]; exact hr.1) ?_
  refine ra_aload_n A d_So_append_14 rfl <| ra_getR A f_So_29 d_So_append_15 (Nat.le_of_ble_eq_true rfl) rfl rfl rfl <| ra_iload_n A d_So_append_18 rfl <| ?_
  refine ra_iaload A d_So_append_19 (Nat.le_of_ble_eq_true rfl) rfl (vp_in_nI hc (by decide)) ?_
  rw [hcl]
  refine ra_iload_n A d_So_append_20 rfl <| ra_iload_n A d_So_append_21 rfl <| ra_ishl A d_So_append_22 <| ra_iload_n A d_So_append_23 rfl <| ra_ishr A d_So_append_24 <| ?_
  refine ra_iastore A d_So_append_25 (show 3 + c < 157 by omega) hr.2 hi ?_
  refine ra_aload_n A d_So_append_26 rfl <| ra_getR A f_So_29 d_So_append_27 (Nat.le_of_ble_eq_true rfl) rfl rfl rfl <| ra_iload_n A d_So_append_30 rfl <| ra_dup2 A d_So_append_31 rfl rfl <| ?_
  refine ra_iaload A d_So_append_32 (Nat.le_of_ble_eq_true rfl) rfl (vp_in_nI hc (by decide)) ?_
  rw [hcl]
  refine ra_iconst A 1 d_So_append_33 (by decide) <| ra_iadd A d_So_append_34 <| ?_
  refine ra_iastore A d_So_append_35 (Nat.le_of_ble_eq_true rfl) rfl (vp_in_nI hc (by decide)) ?_
  rw [hcl]
  exact ra_vret A ow d_So_append_36 (by rw [xI_k (by omega)]; exact hX)
def f_shape_sound (h : xw_H) (c d b r : Int32) : xw_H := xw_I (xw_I (xw_I (xw_I h 136 0 c) 136 1 d) 136 2 b) 136 3 r
theorem s_So_shape_sound (K : xk_ok u KK) {c d b r : Int32} (hX : X (.inl none) (f_shape_sound h c d b r) 0 0) : xm_M l (y0 u) KK m_So_shape [.ref 136, .int c, .int d, .int b, .int r] h X := by
  refine xm_of [] (by simp) (Nat.le_of_ble_eq_true rfl) (by decide) (fun x at0 => ?_)
  have A := xa_of at0 K
  have ow := at0.2.2.2.2.1
  refine ra_aload_n A d_So_shape_0 rfl <| ra_iload_n A d_So_shape_1 rfl <| ra_putI (ty := .int) A f_So_9 rfl rfl (by decide +kernel) rfl rfl d_So_shape_2 (Nat.le_of_ble_eq_true rfl) rfl rfl <| ra_aload_n A d_So_shape_5 rfl <| ra_iload_n A d_So_shape_6 rfl <| ra_putI (ty := .int) A f_So_15 rfl rfl (by decide +kernel) rfl rfl d_So_shape_7 (Nat.le_of_ble_eq_true rfl) rfl rfl <| ra_aload_n A d_So_shape_10 rfl <| ra_iload_n A d_So_shape_11 rfl <| ra_putI (ty := .int) A f_So_18 rfl rfl (by decide +kernel) rfl rfl d_So_shape_12 (Nat.le_of_ble_eq_true rfl) rfl rfl <| ra_aload_n A d_So_shape_15 rfl <| ra_iload A d_So_shape_16 rfl <| ra_putI (ty := .int) A f_So_21 rfl rfl (by decide +kernel) rfl rfl d_So_shape_18 (Nat.le_of_ble_eq_true rfl) rfl rfl <| ?_
  exact ra_vret A ow d_So_shape_21 hX
def f_empty_sound (h : xw_H) : xw_H := xw_I (xw_I h 140 0 0) 140 1 0
theorem s_So_empty_sound (K : xk_ok u KK) (hX : X (.inl none) (f_empty_sound h) 0 0) : xm_M l (y0 u) KK m_So_empty [.ref 136] h X := by
  refine xm_of [] (by simp) (Nat.le_of_ble_eq_true rfl) (by decide) (fun x at0 => ?_)
  have A := xa_of at0 K
  have ow := at0.2.2.2.2.1
  refine ra_aload_n A d_So_empty_0 rfl <| ra_getR A f_So_29 d_So_empty_1 (Nat.le_of_ble_eq_true rfl) rfl rfl rfl <| ra_iconst A 0 d_So_empty_4 (by decide) <| ra_iconst A 0 d_So_empty_5 (by decide) <| ?_
  refine ra_iastore A d_So_empty_6 (Nat.le_of_ble_eq_true rfl) rfl (show vp_in (nI 0) 2 from vp_in_nI (by decide) (by decide)) ?_
  refine ra_aload_n A d_So_empty_7 rfl <| ra_getR A f_So_29 d_So_empty_8 (Nat.le_of_ble_eq_true rfl) rfl rfl rfl <| ra_iconst A 1 d_So_empty_11 (by decide) <| ra_iconst A 0 d_So_empty_12 (by decide) <| ?_
  refine ra_iastore A d_So_empty_13 (Nat.le_of_ble_eq_true rfl) rfl (show vp_in (nI 1) 2 from vp_in_nI (by decide) (by decide)) ?_
  exact ra_vret A ow d_So_empty_14 hX
def f_hasChannel_sound (h : xw_H) (c : Int32) : Int32 := if c < 0 then 0 else if v_sound_channels h ≤ c then 0 else 1
theorem s_So_hasChannel_sound (K : xk_ok u KK) {c : Int32} (hX : X (.inl (some (.int (f_hasChannel_sound h c)))) h 0 0) : xm_M l (y0 u) KK m_So_hasChannel [.ref 136, .int c] h X := by
  refine xm_of [] (by simp) (Nat.le_of_ble_eq_true rfl) (by decide) (fun x at0 => ?_)
  have A := xa_of at0 K
  have ow := at0.2.2.2.2.1
  refine ra_iload_n A d_So_hasChannel_0 rfl <| ?_
  refine ra_if_lt (q := 16) A d_So_hasChannel_1 (by decide) (fun c1 => ?_) (fun c1 => ?_)
  · refine ra_iconst A 0 d_So_hasChannel_16 (by decide) <| ?_
    rw [f_hasChannel_sound, if_pos c1] at hX
    exact ra_zret A ow rfl d_So_hasChannel_17 hX
  · refine ra_iload_n A d_So_hasChannel_4 rfl <| ra_aload_n A d_So_hasChannel_5 rfl <| ra_getI A f_So_9 d_So_hasChannel_6 (Nat.le_of_ble_eq_true rfl) rfl rfl <| ?_
    refine ra_icmp_ge (q := 16) A d_So_hasChannel_9 (by decide) (fun c2 => ?_) (fun c2 => ?_)
    · refine ra_iconst A 0 d_So_hasChannel_16 (by decide) <| ?_
      rw [f_hasChannel_sound, if_neg c1, if_pos c2] at hX
      exact ra_zret A ow rfl d_So_hasChannel_17 hX
    · refine ra_iconst A 1 d_So_hasChannel_12 (by decide) <| ra_goto (q := 17) A d_So_hasChannel_13 (by decide) <| ?_
      rw [f_hasChannel_sound, if_neg c1, if_neg c2] at hX
      exact ra_zret A ow rfl d_So_hasChannel_17 hX
def f_hasSample_sound (h : xw_H) (c : Nat) (i : Int32) : Int32 := if i < 0 then 0 else if h.1 140 c ≤ i then 0 else 1
theorem s_So_hasSample_sound (K : xk_ok u KK) {c : Nat} {i : Int32} (hc : c < 2) (hX : X (.inl (some (.int (f_hasSample_sound h c i)))) h 0 0) : xm_M l (y0 u) KK m_So_hasSample [.ref 136, .int (nI c), .int i] h X := by
  refine xm_of [] (by simp) (Nat.le_of_ble_eq_true rfl) (by decide) (fun x at0 => ?_)
  have A := xa_of at0 K
  have ow := at0.2.2.2.2.1
  refine ra_iload_n A d_So_hasSample_0 rfl <| ?_
  refine ra_if_lt (q := 18) A d_So_hasSample_1 (by decide) (fun c1 => ?_) (fun c1 => ?_)
  · refine ra_iconst A 0 d_So_hasSample_18 (by decide) <| ?_
    rw [f_hasSample_sound, if_pos c1] at hX
    exact ra_zret A ow rfl d_So_hasSample_19 hX
  · refine ra_iload_n A d_So_hasSample_4 rfl <| ra_aload_n A d_So_hasSample_5 rfl <| ra_getR A f_So_29 d_So_hasSample_6 (Nat.le_of_ble_eq_true rfl) rfl rfl rfl <| ra_iload_n A d_So_hasSample_9 rfl <| ?_
    refine ra_iaload A d_So_hasSample_10 (Nat.le_of_ble_eq_true rfl) rfl (vp_in_nI hc (by decide)) ?_
    rw [nI_clamp (by omega)]
    refine ra_icmp_ge (q := 18) A d_So_hasSample_11 (by decide) (fun c2 => ?_) (fun c2 => ?_)
    · refine ra_iconst A 0 d_So_hasSample_18 (by decide) <| ?_
      rw [f_hasSample_sound, if_neg c1, if_pos c2] at hX
      exact ra_zret A ow rfl d_So_hasSample_19 hX
    · refine ra_iconst A 1 d_So_hasSample_14 (by decide) <| ra_goto (q := 19) A d_So_hasSample_15 (by decide) <| ?_
      rw [f_hasSample_sound, if_neg c1, if_neg c2] at hX
      exact ra_zret A ow rfl d_So_hasSample_19 hX
def f_isEven_sound (h : xw_H) : Int32 := if v_sound_channels h = 1 then 1 else if h.1 140 0 = h.1 140 1 then 1 else 0
theorem s_So_isEven_sound (K : xk_ok u KK) (hX : X (.inl (some (.int (f_isEven_sound h)))) h 0 0) : xm_M l (y0 u) KK m_So_isEven [.ref 136] h X := by
  refine xm_of [] (by simp) (Nat.le_of_ble_eq_true rfl) (by decide) (fun x at0 => ?_)
  have A := xa_of at0 K
  have ow := at0.2.2.2.2.1
  refine ra_aload_n A d_So_isEven_0 rfl <| ra_getI A f_So_9 d_So_isEven_1 (Nat.le_of_ble_eq_true rfl) rfl rfl <| ra_iconst A 1 d_So_isEven_4 (by decide) <| ?_
  refine ra_icmp_eq (q := 23) A d_So_isEven_5 (by decide) (fun c1 => ?_) (fun c1 => ?_)
  · refine ra_iconst A 1 d_So_isEven_23 (by decide) <| ra_goto (q := 28) A d_So_isEven_24 (by decide) <| ?_
    rw [f_isEven_sound, if_pos c1] at hX
    exact ra_zret A ow rfl d_So_isEven_28 hX
  · refine ra_aload_n A d_So_isEven_8 rfl <| ra_getR A f_So_29 d_So_isEven_9 (Nat.le_of_ble_eq_true rfl) rfl rfl rfl <| ra_iconst A 0 d_So_isEven_12 (by decide) <| ?_
    refine ra_iaload A d_So_isEven_13 (Nat.le_of_ble_eq_true rfl) rfl (show vp_in (nI 0) 2 from vp_in_nI (by decide) (by decide)) ?_
    refine ra_aload_n A d_So_isEven_14 rfl <| ra_getR A f_So_29 d_So_isEven_15 (Nat.le_of_ble_eq_true rfl) rfl rfl rfl <| ra_iconst A 1 d_So_isEven_18 (by decide) <| ?_
    refine ra_iaload A d_So_isEven_19 (Nat.le_of_ble_eq_true rfl) rfl (show vp_in (nI 1) 2 from vp_in_nI (by decide) (by decide)) ?_
    refine ra_icmp_ne (q := 27) A d_So_isEven_20 (by decide) (fun c2 => ?_) (fun c2 => ?_)
    · refine ra_iconst A 0 d_So_isEven_27 (by decide) <| ?_
      rw [f_isEven_sound, if_neg c1, if_neg (show ¬ h.1 140 0 = h.1 140 1 from c2)] at hX
      exact ra_zret A ow rfl d_So_isEven_28 hX
    · refine ra_iconst A 1 d_So_isEven_23 (by decide) <| ra_goto (q := 28) A d_So_isEven_24 (by decide) <| ?_
      rw [f_isEven_sound, if_neg c1, if_pos (show h.1 140 0 = h.1 140 1 from c2)] at hX
      exact ra_zret A ow rfl d_So_isEven_28 hX
theorem s_So_room_sound (K : xk_ok u KK) {c : Nat} (hc : c < 2) (hX : X (.inl (some (.int (1200 - h.1 140 c)))) h 0 0) : xm_M l (y0 u) KK m_So_room [.ref 136, .int (nI c)] h X := by
  refine xm_of [] (by simp) (Nat.le_of_ble_eq_true rfl) (by decide) (fun x at0 => ?_)
  have A := xa_of at0 K
  have ow := at0.2.2.2.2.1
  refine ra_sipush A 1200 d_So_room_0 (by decide) <| ra_aload_n A d_So_room_3 rfl <| ra_getR A f_So_29 d_So_room_4 (Nat.le_of_ble_eq_true rfl) rfl rfl rfl <| ra_iload_n A d_So_room_7 rfl <| ?_
  refine ra_iaload A d_So_room_8 (Nat.le_of_ble_eq_true rfl) rfl (vp_in_nI hc (by decide)) ?_
  rw [nI_clamp (by omega)]
  refine ra_isub A d_So_room_9 <| ?_
  exact ra_iret A ow d_So_room_10 hX
def f_append_sound (h : xw_H) (c : Nat) (v : Int32) : xw_H := xw_I (xw_I h (138 + c) (h.1 140 c).toNatClampNeg (f_wrap (v_sound_depth h) v)) 140 c (h.1 140 c + 1)
theorem s_So_append_sound (K : xk_ok u KK) {c : Nat} {v : Int32} (hc : c < 2) (hi : vp_in (h.1 140 c) 1200) (hX : X (.inl none) (f_append_sound h c v) 0 0) : xm_M l (y0 u) KK m_So_append [.ref 136, .int (nI c), .int v] h X := by
  refine xm_of [none] (by simp) (Nat.le_of_ble_eq_true rfl) (by decide) (fun x at0 => ?_)
  have A := xa_of at0 K
  have ow := at0.2.2.2.2.1
  have hcl := nI_clamp (n := c) (by omega)
  have hr := rf_137 c hc
  refine ra_bipush A 32 d_So_append_0 (by decide) <| ra_aload_n A d_So_append_2 rfl <| ra_getI A f_So_15 d_So_append_3 (Nat.le_of_ble_eq_true rfl) rfl rfl <| ra_isub A d_So_append_6 <| ra_istore_n (L' := [_, _, _, _]) A d_So_append_7 (by decide) rfl <| ra_aload_n A d_So_append_8 rfl <| ra_getR A f_So_26 d_So_append_9 (Nat.le_of_ble_eq_true rfl) rfl rfl rfl <| ra_iload_n A d_So_append_12 rfl <| ?_
  refine ra_aaload (b := 138 + c) A d_So_append_13 (Nat.le_of_ble_eq_true rfl) rfl rfl (vp_in_nI hc (by decide)) (by rw [hcl]; exact hr.1) ?_
  refine ra_aload_n A d_So_append_14 rfl <| ra_getR A f_So_29 d_So_append_15 (Nat.le_of_ble_eq_true rfl) rfl rfl rfl <| ra_iload_n A d_So_append_18 rfl <| ?_
  refine ra_iaload A d_So_append_19 (Nat.le_of_ble_eq_true rfl) rfl (vp_in_nI hc (by decide)) ?_
  rw [hcl]
  refine ra_iload_n A d_So_append_20 rfl <| ra_iload_n A d_So_append_21 rfl <| ra_ishl A d_So_append_22 <| ra_iload_n A d_So_append_23 rfl <| ra_ishr A d_So_append_24 <| ?_
  refine ra_iastore A d_So_append_25 (show 138 + c < 157 by omega) hr.2 hi ?_
  refine ra_aload_n A d_So_append_26 rfl <| ra_getR A f_So_29 d_So_append_27 (Nat.le_of_ble_eq_true rfl) rfl rfl rfl <| ra_iload_n A d_So_append_30 rfl <| ra_dup2 A d_So_append_31 rfl rfl <| ?_
  refine ra_iaload A d_So_append_32 (Nat.le_of_ble_eq_true rfl) rfl (vp_in_nI hc (by decide)) ?_
  rw [hcl]
  refine ra_iconst A 1 d_So_append_33 (by decide) <| ra_iadd A d_So_append_34 <| ?_
  refine ra_iastore A d_So_append_35 (Nat.le_of_ble_eq_true rfl) rfl (vp_in_nI hc (by decide)) ?_
  rw [hcl]
  exact ra_vret A ow d_So_append_36 (by rw [xI_k (by omega)]; exact hX)
end S31
