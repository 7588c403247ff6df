/-! SoundStream$Bytes -/
/-- room for a call -/
theorem xr_of {x : xg_T} {l : Launch} {y : xw_T} {KK : State → Prop} {M M' : xm_T} {X : xc_R → xw_H → Nat → Nat → Prop} {nc ns : Nat} (a : xg_at x l y KK M X) (hR : M'.2.2.2.2.frames + 1 ≤ M.2.2.2.2.frames ∧ 8 + (M'.2.2.1 + 11) + M'.2.2.2.2.locals ≤ M.2.2.2.2.locals ∧ nc + M'.2.2.2.2.cells ≤ M.2.2.2.2.cells ∧ ns + M'.2.2.2.2.slots ≤ M.2.2.2.2.slots) : xm_room x nc ns M' := by
  unfold xm_room
  rw [a.2.2.2.2.2.2.1]
  exact hR
theorem xi_in {i : Int32} {n : Nat} (h0 : ¬ i < 0) (h1 : i.toInt < n) : vp_in i n := vp_in_iff.mpr ⟨by
  rw [Int32.lt_iff_toInt_lt, Int32.toInt_zero] at h0
  omega, h1⟩
theorem xi_in2 {i len : Int32} {n : Nat} (h0 : ¬ i < 0) (h1 : ¬ len ≤ i) (h2 : len.toInt ≤ n) : vp_in i n := xi_in h0 (by
  rw [Int32.le_iff_toInt_le] at h1
  omega)
section S30
variable {u : xu_T} {l : Launch} {KK : State → Prop} {h : xw_H} {X : xc_R → xw_H → Nat → Nat → Prop}
/-- byte i, 0 for one that is not there -/
def f_get (h : xw_H) (i : Int32) : Int32 := if i < 0 then 0 else if v_bytes_length h ≤ i then 0 else a_data h i.toNatClampNeg &&& 255
theorem s_By_get (K : xk_ok u KK) {i : Int32} (hn : (v_bytes_length h).toInt ≤ 9000) (hX : X (.inl (some (.int (f_get h i)))) h 0 0) : xm_M l (y0 u) KK m_By_get [.ref 6, .int i] h X := by
  refine xm_of [] (by simp) (Nat.le_of_ble_eq_true rfl) (by decide) (fun x at0 => ?_)
  have A := xa_of at0 K
  have ow := at0.2.2.2.2.1
  refine ra_iload_n A d_By_get_0 rfl <| ?_
  refine ra_if_lt (q := 25) A d_By_get_1 (by decide) (fun c1 => ?_) (fun c1 => ?_)
  · refine ra_iconst A 0 d_By_get_25 (by decide) <| ?_
    rw [f_get, if_pos c1] at hX
    exact ra_iret A ow d_By_get_26 hX
  · refine ra_iload_n A d_By_get_4 rfl <| ra_aload_n A d_By_get_5 rfl <| ra_getI A f_By_15 d_By_get_6 (Nat.le_of_ble_eq_true rfl) rfl rfl <| ?_
    refine ra_icmp_ge (q := 25) A d_By_get_9 (by decide) (fun c2 => ?_) (fun c2 => ?_)
    · refine ra_iconst A 0 d_By_get_25 (by decide) <| ?_
      rw [f_get, if_neg c1, if_pos c2] at hX
      exact ra_iret A ow d_By_get_26 hX
    · refine ra_aload_n A d_By_get_12 rfl <| ra_getR A f_By_9 d_By_get_13 (Nat.le_of_ble_eq_true rfl) rfl rfl rfl <| ra_iload_n A d_By_get_16 rfl <| ?_
      refine ra_baload A d_By_get_17 (Nat.le_of_ble_eq_true rfl) rfl (xi_in2 c1 c2 hn) ?_
      refine ra_sipush A 255 d_By_get_18 (by decide) <| ra_iand A d_By_get_21 <| ra_goto (q := 26) A d_By_get_22 (by decide) <| ?_
      rw [f_get, if_neg c1, if_neg c2] at hX
      exact ra_iret A ow d_By_get_26 hX
end S30
