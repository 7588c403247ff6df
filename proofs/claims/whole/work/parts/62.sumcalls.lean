/-! sum(half): the class's and the model's -/
def sumL (v : md_V) (b : Nat) : Int64 := ((if b = 0 then v.2.1 else v.2.2.2).toInt64 <<< ((32 : Int32).toInt64 &&& 63)) ||| ((if b = 0 then v.1 else v.2.2.1).toInt64 &&& 4294967295)
def g_uneven (h : xw_H) : Prop := v_model_channels h = 2 ∧ ¬ h.1 145 0 = h.1 145 1
section S62
variable {u : xu_T} {l : Launch} {KK : State → Prop} {h : xw_H} {X : xc_R → xw_H → Nat → Nat → Prop}
theorem s_SS_sum (hl : l.stackTraces = false) {half : Int32} {ch dp n : Nat} (h1 : ch ≤ 2) (h2 : dp ≤ 24) (h3 : n ≤ 1200) (ech : h.1 1 0 = nI ch) (edp : h.1 1 1 = nI dp) (en : h.1 5 0 = nI n)
    (hX : ¬ half = 0 → ¬ half = 1 → X (.inr "java/lang/IllegalArgumentException") h 1 6) (hY : ∀ b, b < 2 → half = nI b → f_isEven_rows h = 0 → X (.inr "java/lang/IllegalStateException") h 1 6)
    (hZ : ∀ b, b < 2 → half = nI b → ¬ f_isEven_rows h = 0 → ∀ h', fr [8, 9] h h' → X (.inl (some (.long (sumL (mdsum ch dp n (fun c i => h.1 (3 + c) i)) b)))) h' 0 0) : xm_M l (y0 u) (KK0 u) m_SS_sum [.ref 0, .int half] h X := by
  refine xm_of [] (by simp) (Nat.le_of_ble_eq_true rfl) (by decide) (fun x at0 => ?_)
  have A := xa_of at0 (KK0_ok u)
  have ow := at0.2.2.2.2.1
  have main : ∀ b, b < 2 → half = nI b → xg x (y0 u) 0 0 19 [some (.ref 0), some (.int half)] [] h := by
    rintro b hb rfl
    refine ra_aload_n A d_SS_sum_19 rfl <| ra_getR A f_SS_12 d_SS_sum_20 (Nat.le_of_ble_eq_true rfl) rfl rfl rfl <| ?_
    refine ra_callV (As := []) A ok_So_isEven l_SS_107 im_So_isEven sl_So_isEven d_SS_sum_23 (Nat.le_of_ble_eq_true rfl) rfl rfl rfl (Nat.le_of_ble_eq_true rfl) (xr_of at0 (by decide)) (s_So_isEven_rows (KK0_ok u) ?_)
    show xg x (y0 u) 0 0 26 _ _ _
    refine ra_if_ne (q := 39) A d_SS_sum_26 (by decide) (fun c1 => ?_) (fun c1 => ?_)
    rotate_left
    · exact xt_throw at0 hl xt_ISE (by decide) (List.mem_of_getElem? (i := 1) rfl) cl_SS_111 xi_ISE (List.mem_of_getElem? (i := 7) rfl) le_SS_115 d_SS_sum_29 d_SS_sum_32 d_SS_sum_33 d_SS_sum_35 d_SS_sum_38 ⟨by decide, Nat.le_of_ble_eq_true rfl, by decide, by decide⟩ (hY b hb rfl c1)
    refine ra_aload_n A d_SS_sum_39 rfl <| ra_getR A f_SS_26 d_SS_sum_40 (Nat.le_of_ble_eq_true rfl) rfl rfl rfl <| ra_aload_n A d_SS_sum_43 rfl <| ra_getR A f_SS_12 d_SS_sum_44 (Nat.le_of_ble_eq_true rfl) rfl rfl rfl <| ?_
    refine ra_callV (As := [_]) A ok_Di_take l_SS_116 im_Di_take sl_Di_take d_SS_sum_47 (Nat.le_of_ble_eq_true rfl) rfl rfl rfl (Nat.le_of_ble_eq_true rfl) (xr_of at0 (by decide)) (s_Di_take_rows h1 h2 h3 ech edp en (fun g f e => ?_))
    show xg x (y0 u) 0 0 50 _ _ g
    refine ra_aload_n A d_SS_sum_50 rfl <| ra_getR A f_SS_26 d_SS_sum_51 (Nat.le_of_ble_eq_true rfl) rfl rfl rfl <| ra_iload_n A d_SS_sum_54 rfl <| ?_
    refine ra_callV (As := [_]) A ok_Di_half l_SS_120 im_Di_half sl_Di_half d_SS_sum_55 (Nat.le_of_ble_eq_true rfl) rfl rfl rfl (Nat.le_of_ble_eq_true rfl) (xr_of at0 (by decide)) (s_Di_half (KK0_ok u) hb ?_)
    show xg x (y0 u) 0 0 58 _ _ g
    refine ra_lret A ow d_SS_sum_58 ?_
    have := hZ b hb rfl c1 g f
    rw [← e] at this
    exact this
  refine ra_iload_n A d_SS_sum_0 rfl <| ?_
  refine ra_if_eq (q := 19) A d_SS_sum_1 (by decide) (fun c1 => ?_) (fun c1 => ?_)
  · exact main 0 (by decide) c1
  refine ra_iload_n A d_SS_sum_4 rfl <| ra_iconst A 1 d_SS_sum_5 (by decide) <| ?_
  refine ra_icmp_eq (q := 19) A d_SS_sum_6 (by decide) (fun c2 => ?_) (fun c2 => ?_)
  · exact main 1 (by decide) c2
  · exact xt_throw at0 hl xt_IAE (by decide) (List.mem_of_getElem? (i := 0) rfl) cl_SS_48 xi_IAE (List.mem_of_getElem? (i := 6) rfl) le_SS_52 d_SS_sum_9 d_SS_sum_12 d_SS_sum_13 d_SS_sum_15 d_SS_sum_18 ⟨by decide, Nat.le_of_ble_eq_true rfl, by decide, by decide⟩ (hX c1 c2)
theorem s_Mo_isUneven (K : xk_ok u KK) (hX : g_uneven h → X (.inl (some (.int 1))) h 0 0) (hY : ¬ g_uneven h → X (.inl (some (.int 0))) h 0 0) : xm_M l (y0 u) KK m_Mo_isUneven [.ref 141] h X := by
  refine xm_of [] (by simp) (Nat.le_of_ble_eq_true rfl) (by decide) (fun x at0 => ?_)
  have A := xa_of at0 K
  have ow := at0.2.2.2.2.1
  have i0 : vp_in (0 : Int32) 2 := vp_in_nI (n := 0) (by decide) (by decide)
  have i1 : vp_in (1 : Int32) 2 := vp_in_nI (n := 1) (by decide) (by decide)
  refine ra_aload_n A d_Mo_isUneven_0 rfl <| ra_getI A f_Mo_145 d_Mo_isUneven_1 (Nat.le_of_ble_eq_true rfl) rfl rfl <| ra_iconst A 2 d_Mo_isUneven_4 (by decide) <| ?_
  refine ra_icmp_ne (q := 27) A d_Mo_isUneven_5 (by decide) (fun c1 => ?_) (fun c1 => ?_)
  · refine ra_iconst A 0 d_Mo_isUneven_27 (by decide) <| ?_
    exact ra_zret A ow rfl d_Mo_isUneven_28 (hY (fun q => c1 q.1))
  refine ra_aload_n A d_Mo_isUneven_8 rfl <| ra_getR A f_Mo_161 d_Mo_isUneven_9 (Nat.le_of_ble_eq_true rfl) rfl rfl rfl <| ra_iconst A 0 d_Mo_isUneven_12 (by decide) <| ?_
  refine ra_iaload A d_Mo_isUneven_13 (Nat.le_of_ble_eq_true rfl) rfl i0 ?_
  refine ra_aload_n A d_Mo_isUneven_14 rfl <| ra_getR A f_Mo_161 d_Mo_isUneven_15 (Nat.le_of_ble_eq_true rfl) rfl rfl rfl <| ra_iconst A 1 d_Mo_isUneven_18 (by decide) <| ?_
  refine ra_iaload A d_Mo_isUneven_19 (Nat.le_of_ble_eq_true rfl) rfl i1 ?_
  refine ra_icmp_eq (q := 27) A d_Mo_isUneven_20 (by decide) (fun c2 => ?_) (fun c2 => ?_)
  · refine ra_iconst A 0 d_Mo_isUneven_27 (by decide) <| ?_
    exact ra_zret A ow rfl d_Mo_isUneven_28 (hY (fun q => q.2 c2))
  · refine ra_iconst A 1 d_Mo_isUneven_23 (by decide) <| ra_goto (q := 28) A d_Mo_isUneven_24 (by decide) <| ?_
    exact ra_zret A ow rfl d_Mo_isUneven_28 (hX ⟨c1, c2⟩)
theorem s_Mo_sum (K : xk_ok u KK) (C : MC h) {half : Int32} {ch dp n : Nat} (h1 : ch ≤ 2) (h2 : dp ≤ 24) (h3 : n ≤ 1200) (ech : h.1 141 3 = nI ch) (edp : h.1 141 4 = nI dp) (en : h.1 145 0 = nI n)
    (hX : half < 0 ∨ 1 < half → X (.inl (some (.long 0))) (g_thr h 1) 0 0) (hY : ∀ b, b < 2 → half = nI b → g_uneven h → X (.inl (some (.long 0))) (g_thr h 2) 0 0)
    (hZ : ∀ b, b < 2 → half = nI b → ¬ g_uneven h → ∀ h', fr [146, 147] (g_thr h 0) h' → X (.inl (some (.long (sumL (mdsum ch dp n (fun c i => h.1 144 (1200 * c + i))) b)))) h' 0 0) : xm_M l (y0 u) KK m_Mo_sum [.ref 141, .int half] h X := by
  refine xm_of [] (by simp) (Nat.le_of_ble_eq_true rfl) (by decide) (fun x at0 => ?_)
  have A := xa_of at0 K
  have ow := at0.2.2.2.2.1
  have bad : half < 0 ∨ 1 < half → xg x (y0 u) 0 0 10 [some (.ref 141), some (.int half)] [.ref 141] h := by
    intro q
    refine ra_iconst A 1 d_Mo_sum_10 (by decide) <| ra_goto (q := 26) A d_Mo_sum_11 (by decide) <| ra_putI (ty := .int) A f_Mo_197 rfl rfl (by decide +kernel) rfl rfl d_Mo_sum_26 (Nat.le_of_ble_eq_true rfl) rfl rfl <| ra_aload_n A d_Mo_sum_29 rfl <| ra_getI A f_Mo_197 d_Mo_sum_30 (Nat.le_of_ble_eq_true rfl) rfl rfl <| ?_
    rw [xI_e]
    refine ra_if_le (q := 38) A d_Mo_sum_33 (by decide) (fun cc => absurd cc ((by decide))) (fun _ => ?_)
    refine ra_lconst A 0 d_Mo_sum_36 (by decide) <| ?_
    exact ra_lret A ow d_Mo_sum_37 (hX q)
  refine ra_aload_n A d_Mo_sum_0 rfl <| ra_iload_n A d_Mo_sum_1 rfl <| ?_
  refine ra_if_lt (q := 10) A d_Mo_sum_2 (by decide) (fun c1 => ?_) (fun c1 => ?_)
  · exact bad (Or.inl c1)
  refine ra_iload_n A d_Mo_sum_5 rfl <| ra_iconst A 1 d_Mo_sum_6 (by decide) <| ?_
  refine ra_icmp_le (q := 14) A d_Mo_sum_7 (by decide) (fun c2 => ?_) (fun c2 => ?_)
  rotate_left
  · exact bad (Or.inr (Int32.not_le.mp c2))
  obtain ⟨b, hb9, rfl⟩ := nI_of c1
  have hb : b < 2 := by
    have := (nI_leI (b := 1) hb9 (by decide)).mp c2
    omega
  refine ra_aload_n A d_Mo_sum_14 rfl <| ?_
  refine ra_callV (As := []) A ok_Mo_isUneven l_Mo_234 im_Mo_isUneven sl_Mo_isUneven d_Mo_sum_15 (Nat.le_of_ble_eq_true rfl) rfl rfl rfl (Nat.le_of_ble_eq_true rfl) (xr_of at0 (by decide)) (s_Mo_isUneven K (fun c3 => ?_) (fun c3 => ?_))
  · show xg x (y0 u) 0 0 18 _ _ _
    refine ra_if_eq (q := 25) A d_Mo_sum_18 (by decide) (fun cc => absurd cc ((by decide))) (fun _ => ?_)
    refine ra_iconst A 2 d_Mo_sum_21 (by decide) <| ra_goto (q := 26) A d_Mo_sum_22 (by decide) <| ra_putI (ty := .int) A f_Mo_197 rfl rfl (by decide +kernel) rfl rfl d_Mo_sum_26 (Nat.le_of_ble_eq_true rfl) rfl rfl <| ra_aload_n A d_Mo_sum_29 rfl <| ra_getI A f_Mo_197 d_Mo_sum_30 (Nat.le_of_ble_eq_true rfl) rfl rfl <| ?_
    rw [xI_e]
    refine ra_if_le (q := 38) A d_Mo_sum_33 (by decide) (fun cc => absurd cc ((by decide))) (fun _ => ?_)
    refine ra_lconst A 0 d_Mo_sum_36 (by decide) <| ?_
    exact ra_lret A ow d_Mo_sum_37 (hY b hb rfl c3)
  · show xg x (y0 u) 0 0 18 _ _ _
    refine ra_if_eq (q := 25) A d_Mo_sum_18 (by decide) (fun _ => ?_) (fun cc => absurd (rfl) cc)
    refine ra_iconst A 0 d_Mo_sum_25 (by decide) <| ra_putI (ty := .int) A f_Mo_197 rfl rfl (by decide +kernel) rfl rfl d_Mo_sum_26 (Nat.le_of_ble_eq_true rfl) rfl rfl <| ra_aload_n A d_Mo_sum_29 rfl <| ra_getI A f_Mo_197 d_Mo_sum_30 (Nat.le_of_ble_eq_true rfl) rfl rfl <| ?_
    rw [xI_e]
    refine ra_if_le (q := 38) A d_Mo_sum_33 (by decide) (fun _ => ?_) (fun cc => absurd ((by decide)) cc)
    have i0 : vp_in (0 : Int32) 2 := vp_in_nI (n := 0) (by decide) (by decide)
    refine ra_aload_n A d_Mo_sum_38 rfl <| ra_aload_n A d_Mo_sum_39 rfl <| ra_getR A f_Mo_158 d_Mo_sum_40 (Nat.le_of_ble_eq_true rfl) rfl rfl rfl <| ra_aload_n A d_Mo_sum_43 rfl <| ra_getI A f_Mo_145 d_Mo_sum_44 (Nat.le_of_ble_eq_true rfl) rfl rfl <| ra_aload_n A d_Mo_sum_47 rfl <| ra_getI A f_Mo_149 d_Mo_sum_48 (Nat.le_of_ble_eq_true rfl) rfl rfl <| ra_aload_n A d_Mo_sum_51 rfl <| ra_getR A f_Mo_161 d_Mo_sum_52 (Nat.le_of_ble_eq_true rfl) rfl rfl rfl <| ra_iconst A 0 d_Mo_sum_55 (by decide) <| ?_
    refine ra_iaload A d_Mo_sum_56 (Nat.le_of_ble_eq_true rfl) rfl i0 ?_
    rw [xI_j (by decide), xI_j (by decide), xI_k (by decide), ech, edp, show h.1 145 (Int32.toNatClampNeg 0) = nI n from en]
    have C' : MC (xw_I h 141 2 0) := C.fr (fr_I (S := [141]) (by decide)) (by decide) (by decide)
    refine ra_callV (As := [_, _, _, _]) A ok_Mo_sumUp l_Mo_238 im_Mo_sumUp sl_Mo_sumUp d_Mo_sum_57 (Nat.le_of_ble_eq_true rfl) rfl rfl rfl (Nat.le_of_ble_eq_true rfl) (xr_of at0 (by decide)) (s_Mo_sumUp_rows K C' h1 h2 h3 (fun g f e => ?_))
    show xg x (y0 u) 0 0 60 _ _ g
    rw [xI_k (by decide)] at e
    have fin := hZ b hb rfl c3 g f
    rw [← e] at fin
    refine ra_aload_n A d_Mo_sum_60 rfl <| ra_getR A f_Mo_167 d_Mo_sum_61 (Nat.le_of_ble_eq_true rfl) rfl rfl rfl <| ra_iconst A 2 d_Mo_sum_64 (by decide) <| ra_iload_n A d_Mo_sum_65 rfl <| ra_imul A d_Mo_sum_66 <| ?_
    rw [show (2 : Int32) * nI b = nI (2 * b) from pk_mul 2 b]
    refine ra_iaload A d_Mo_sum_67 (Nat.le_of_ble_eq_true rfl) rfl (vp_in_nI (by omega) (by decide)) ?_
    rw [nI_clamp (by omega)]
    refine ra_i2l A d_Mo_sum_68 <| ra_ldc2 A k_Mo_242 d_Mo_sum_69 <| ra_land A d_Mo_sum_72 <| ra_aload_n A d_Mo_sum_73 rfl <| ra_getR A f_Mo_167 d_Mo_sum_74 (Nat.le_of_ble_eq_true rfl) rfl rfl rfl <| ra_iconst A 2 d_Mo_sum_77 (by decide) <| ra_iload_n A d_Mo_sum_78 rfl <| ra_imul A d_Mo_sum_79 <| ra_iconst A 1 d_Mo_sum_80 (by decide) <| ra_iadd A d_Mo_sum_81 <| ?_
    rw [show (2 : Int32) * nI b = nI (2 * b) from pk_mul 2 b, nI_1]
    refine ra_iaload A d_Mo_sum_82 (Nat.le_of_ble_eq_true rfl) rfl (vp_in_nI (by omega) (by decide)) ?_
    rw [nI_clamp (by omega)]
    refine ra_i2l A d_Mo_sum_83 <| ra_bipush A 32 d_Mo_sum_84 (by decide) <| ra_lshl A d_Mo_sum_86 <| ra_lor A d_Mo_sum_87 <| ?_
    refine ra_lret A ow d_Mo_sum_88 ?_
    rw [Int64.or_comm]
    have h01 : b = 0 ∨ b = 1 := by omega
    rcases h01 with rfl | rfl <;> exact fin
end S62
