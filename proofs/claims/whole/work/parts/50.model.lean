/-! SoundStreamModel: thrown, form, rows -/
section S50
variable {u : xu_T} {l : Launch} {KK : State → Prop} {h : xw_H} {X : xc_R → xw_H → Nat → Nat → Prop}
theorem s_Mo_thrown (K : xk_ok u KK) (hX : X (.inl (some (.int (v_model_thrown h)))) h 0 0) : xm_M l (y0 u) KK m_Mo_thrown [.ref 141] h X := by
  refine xm_of [] (by simp) (Nat.le_of_ble_eq_true rfl) (by decide) (fun x at0 => ?_)
  have A := xa_of at0 K
  have ow := at0.2.2.2.2.1
  refine ra_aload_n A d_Mo_thrown_0 rfl <| ra_getI A f_Mo_197 d_Mo_thrown_1 (Nat.le_of_ble_eq_true rfl) rfl rfl <| ?_
  exact ra_iret A ow d_Mo_thrown_4 hX
abbrev g_thr (h : xw_H) (t : Int32) : xw_H := xw_I h 141 2 t
def g_form (h : xw_H) (c d b r : Int32) : xw_H := xw_I (xw_I (xw_I (xw_I (xw_I (xw_I (g_thr h 0) 141 3 c) 141 4 d) 141 5 b) 141 6 r) 145 0 0) 145 1 0
theorem s_Mo_form (K : xk_ok u KK) {c d b r : Int32} (hX : f_noForm c d b r → X (.inl none) (g_thr h 1) 0 0) (hY : ¬ f_noForm c d b r → X (.inl none) (g_form h c d b r) 0 0) : xm_M l (y0 u) KK m_Mo_form [.ref 141, .int c, .int d, .int b, .int r] h X := by
  refine xm_of [] (by simp) (Nat.le_of_ble_eq_true rfl) (by decide) (fun x at0 => ?_)
  have A := xa_of at0 K
  have ow := at0.2.2.2.2.1
  have bad : f_noForm c d b r → xg x (y0 u) 0 0 48 [some (.ref 141), some (.int c), some (.int d), some (.int b), some (.int r)] [.ref 141] h := by
    intro q
    refine ra_iconst A 1 d_Mo_form_48 (by decide) <| ra_goto (q := 53) A d_Mo_form_49 (by decide) <| ra_putI (ty := .int) A f_Mo_197 rfl rfl (by decide +kernel) rfl rfl d_Mo_form_53 (Nat.le_of_ble_eq_true rfl) rfl rfl <| ra_aload_n A d_Mo_form_56 rfl <| ra_getI A f_Mo_197 d_Mo_form_57 (Nat.le_of_ble_eq_true rfl) rfl rfl <| ?_
    rw [xI_e]
    refine ra_if_ne (q := 98) A d_Mo_form_60 (by decide) (fun c1 => ?_) (fun c1 => ?_)
    · exact ra_vret A ow d_Mo_form_98 (hX q)
    · exact absurd c1 (by decide)
  refine ra_aload_n A d_Mo_form_0 rfl <| ra_iload_n A d_Mo_form_1 rfl <| ra_iconst A 1 d_Mo_form_2 (by decide) <| ?_
  refine ra_icmp_lt (q := 48) A d_Mo_form_3 (by decide) (fun c1 => ?_) (fun c1 => ?_)
  · exact bad (Or.inl (Or.inl c1))
  refine ra_iload_n A d_Mo_form_6 rfl <| ra_iconst A 2 d_Mo_form_7 (by decide) <| ?_
  refine ra_icmp_gt (q := 48) A d_Mo_form_8 (by decide) (fun c2 => ?_) (fun c2 => ?_)
  · exact bad (Or.inl (Or.inr (Or.inl c2)))
  refine ra_iload_n A d_Mo_form_11 rfl <| ra_iconst A 4 d_Mo_form_12 (by decide) <| ?_
  refine ra_icmp_lt (q := 48) A d_Mo_form_13 (by decide) (fun c3 => ?_) (fun c3 => ?_)
  · exact bad (Or.inl (Or.inr (Or.inr (Or.inl c3))))
  refine ra_iload_n A d_Mo_form_16 rfl <| ra_bipush A 24 d_Mo_form_17 (by decide) <| ?_
  refine ra_icmp_gt (q := 48) A d_Mo_form_19 (by decide) (fun c4 => ?_) (fun c4 => ?_)
  · exact bad (Or.inl (Or.inr (Or.inr (Or.inr c4))))
  refine ra_iload_n A d_Mo_form_22 rfl <| ra_bipush A 16 d_Mo_form_23 (by decide) <| ?_
  refine ra_icmp_lt (q := 48) A d_Mo_form_25 (by decide) (fun c5 => ?_) (fun c5 => ?_)
  · exact bad (Or.inr (Or.inl c5))
  refine ra_iload_n A d_Mo_form_28 rfl <| ra_sipush A 1024 d_Mo_form_29 (by decide) <| ?_
  refine ra_icmp_gt (q := 48) A d_Mo_form_32 (by decide) (fun c6 => ?_) (fun c6 => ?_)
  · exact bad (Or.inr (Or.inr (Or.inl c6)))
  refine ra_iload A d_Mo_form_35 rfl <| ra_iconst A 1 d_Mo_form_37 (by decide) <| ?_
  refine ra_icmp_lt (q := 48) A d_Mo_form_38 (by decide) (fun c7 => ?_) (fun c7 => ?_)
  · exact bad (Or.inr (Or.inr (Or.inr (Or.inl c7))))
  refine ra_iload A d_Mo_form_41 rfl <| ra_ldc A k_Mo_200 d_Mo_form_43 <| ?_
  refine ra_icmp_le (q := 52) A d_Mo_form_45 (by decide) (fun c8 => ?_) (fun c8 => ?_)
  rotate_left
  · exact bad (Or.inr (Or.inr (Or.inr (Or.inr (Int32.not_le.mp c8)))))
  refine ra_iconst A 0 d_Mo_form_52 (by decide) <| ra_putI (ty := .int) A f_Mo_197 rfl rfl (by decide +kernel) rfl rfl d_Mo_form_53 (Nat.le_of_ble_eq_true rfl) rfl rfl <| ra_aload_n A d_Mo_form_56 rfl <| ra_getI A f_Mo_197 d_Mo_form_57 (Nat.le_of_ble_eq_true rfl) rfl rfl <| ?_
  rw [xI_e]
  refine ra_if_ne (q := 98) A d_Mo_form_60 (by decide) (fun c9 => ?_) (fun c9 => ?_)
  · exact absurd rfl c9
  · refine ra_aload_n A d_Mo_form_63 rfl <| ra_iload_n A d_Mo_form_64 rfl <| ra_putI (ty := .int) A f_Mo_145 rfl rfl (by decide +kernel) rfl rfl d_Mo_form_65 (Nat.le_of_ble_eq_true rfl) rfl rfl <| ra_aload_n A d_Mo_form_68 rfl <| ra_iload_n A d_Mo_form_69 rfl <| ra_putI (ty := .int) A f_Mo_149 rfl rfl (by decide +kernel) rfl rfl d_Mo_form_70 (Nat.le_of_ble_eq_true rfl) rfl rfl <| ra_aload_n A d_Mo_form_73 rfl <| ra_iload_n A d_Mo_form_74 rfl <| ra_putI (ty := .int) A f_Mo_152 rfl rfl (by decide +kernel) rfl rfl d_Mo_form_75 (Nat.le_of_ble_eq_true rfl) rfl rfl <| ra_aload_n A d_Mo_form_78 rfl <| ra_iload A d_Mo_form_79 rfl <| ra_putI (ty := .int) A f_Mo_155 rfl rfl (by decide +kernel) rfl rfl d_Mo_form_81 (Nat.le_of_ble_eq_true rfl) rfl rfl <| ra_aload_n A d_Mo_form_84 rfl <| ra_getR A f_Mo_161 d_Mo_form_85 (Nat.le_of_ble_eq_true rfl) rfl rfl rfl <| ra_iconst A 0 d_Mo_form_88 (by decide) <| ra_iconst A 0 d_Mo_form_89 (by decide) <| ?_
    refine ra_iastore A d_Mo_form_90 (Nat.le_of_ble_eq_true rfl) rfl (show vp_in (nI 0) 2 from vp_in_nI (by decide) (by decide)) ?_
    refine ra_aload_n A d_Mo_form_91 rfl <| ra_getR A f_Mo_161 d_Mo_form_92 (Nat.le_of_ble_eq_true rfl) rfl rfl rfl <| ra_iconst A 1 d_Mo_form_95 (by decide) <| ra_iconst A 0 d_Mo_form_96 (by decide) <| ?_
    refine ra_iastore A d_Mo_form_97 (Nat.le_of_ble_eq_true rfl) rfl (show vp_in (nI 1) 2 from vp_in_nI (by decide) (by decide)) ?_
    exact ra_vret A ow d_Mo_form_98 (hY (fun q => by rcases q with q | q <;> rcases q with q | q | q | q <;> first | contradiction | exact absurd q (Int32.not_lt.mpr (by assumption))))
def g_noChannel (h : xw_H) (c : Int32) : Int32 := if c < 0 then 1 else if c < v_model_channels h then 0 else 1
theorem s_Mo_noChannel (K : xk_ok u KK) {c : Int32} (hX : X (.inl (some (.int (g_noChannel h c)))) h 0 0) : xm_M l (y0 u) KK m_Mo_noChannel [.ref 141, .int c] h X := by
  refine xm_of [] (by simp) (Nat.le_of_ble_eq_true rfl) (by decide) (fun x at0 => ?_)
  have A := xa_of at0 K
  have ow := at0.2.2.2.2.1
  refine ra_iload_n A d_Mo_noChannel_0 rfl <| ?_
  refine ra_if_lt (q := 12) A d_Mo_noChannel_1 (by decide) (fun c1 => ?_) (fun c1 => ?_)
  · refine ra_iconst A 1 d_Mo_noChannel_12 (by decide) <| ra_goto (q := 17) A d_Mo_noChannel_13 (by decide) <| ?_
    rw [g_noChannel, if_pos c1] at hX
    exact ra_zret A ow rfl d_Mo_noChannel_17 hX
  · refine ra_iload_n A d_Mo_noChannel_4 rfl <| ra_aload_n A d_Mo_noChannel_5 rfl <| ra_getI A f_Mo_145 d_Mo_noChannel_6 (Nat.le_of_ble_eq_true rfl) rfl rfl <| ?_
    refine ra_icmp_lt (q := 16) A d_Mo_noChannel_9 (by decide) (fun c2 => ?_) (fun c2 => ?_)
    · refine ra_iconst A 0 d_Mo_noChannel_16 (by decide) <| ?_
      rw [g_noChannel, if_neg c1, if_pos c2] at hX
      exact ra_zret A ow rfl d_Mo_noChannel_17 hX
    · refine ra_iconst A 1 d_Mo_noChannel_12 (by decide) <| ra_goto (q := 17) A d_Mo_noChannel_13 (by decide) <| ?_
      rw [g_noChannel, if_neg c1, if_neg c2] at hX
      exact ra_zret A ow rfl d_Mo_noChannel_17 hX
def g_add (h : xw_H) (c m : Nat) (v : Int32) : xw_H := xw_I (xw_I h 144 (1200 * c + m) (f_wrap (v_model_depth h) v)) 145 c (nI (m + 1))
theorem s_Mo_add (K : xk_ok u KK) {c m : Nat} {v : Int32} (hc : c < 2) (hm : m < 1200) (em : h.1 145 c = nI m) (hX : X (.inl none) (g_add h c m v) 0 0) : xm_M l (y0 u) KK m_Mo_add [.ref 141, .int (nI c), .int v] h X := by
  refine xm_of [] (by simp) (Nat.le_of_ble_eq_true rfl) (by decide) (fun x at0 => ?_)
  have A := xa_of at0 K
  have ow := at0.2.2.2.2.1
  have hcl := nI_clamp (n := c) (by omega)
  have hix : (1200 : Int32) * nI c + nI m = nI (1200 * c + m) := by
    rw [show (1200 : Int32) = nI 1200 from rfl, pk_mul, nI_add]
  refine ra_aload_n A d_Mo_add_0 rfl <| ra_getR A f_Mo_158 d_Mo_add_1 (Nat.le_of_ble_eq_true rfl) rfl rfl rfl <| ra_sipush A 1200 d_Mo_add_4 (by decide) <| ra_iload_n A d_Mo_add_7 rfl <| ra_imul A d_Mo_add_8 <| ra_aload_n A d_Mo_add_9 rfl <| ra_getR A f_Mo_161 d_Mo_add_10 (Nat.le_of_ble_eq_true rfl) rfl rfl rfl <| ra_iload_n A d_Mo_add_13 rfl <| ?_
  refine ra_iaload A d_Mo_add_14 (Nat.le_of_ble_eq_true rfl) rfl (vp_in_nI hc (by decide)) ?_
  rw [hcl, em]
  refine ra_iadd A d_Mo_add_15 <| ?_
  rw [hix]
  refine ra_iload_n A d_Mo_add_16 rfl <| ra_bipush A 32 d_Mo_add_17 (by decide) <| ra_aload_n A d_Mo_add_19 rfl <| ra_getI A f_Mo_149 d_Mo_add_20 (Nat.le_of_ble_eq_true rfl) rfl rfl <| ra_isub A d_Mo_add_23 <| ra_ishl A d_Mo_add_24 <| ra_bipush A 32 d_Mo_add_25 (by decide) <| ra_aload_n A d_Mo_add_27 rfl <| ra_getI A f_Mo_149 d_Mo_add_28 (Nat.le_of_ble_eq_true rfl) rfl rfl <| ra_isub A d_Mo_add_31 <| ra_ishr A d_Mo_add_32 <| ?_
  refine ra_iastore A d_Mo_add_33 (Nat.le_of_ble_eq_true rfl) rfl (vp_in_nI (by omega) (by decide)) ?_
  rw [nI_clamp (by omega)]
  refine ra_aload_n A d_Mo_add_34 rfl <| ra_getR A f_Mo_161 d_Mo_add_35 (Nat.le_of_ble_eq_true rfl) rfl rfl rfl <| ra_iload_n A d_Mo_add_38 rfl <| ra_dup2 A d_Mo_add_39 rfl rfl <| ?_
  refine ra_iaload A d_Mo_add_40 (Nat.le_of_ble_eq_true rfl) rfl (vp_in_nI hc (by decide)) ?_
  rw [hcl, xI_k (by decide), em]
  refine ra_iconst A 1 d_Mo_add_41 (by decide) <| ra_iadd A d_Mo_add_42 <| ?_
  rw [nI_1]
  refine ra_iastore A d_Mo_add_43 (Nat.le_of_ble_eq_true rfl) rfl (vp_in_nI hc (by decide)) ?_
  rw [hcl]
  exact ra_vret A ow d_Mo_add_44 hX
theorem s_Mo_sample (K : xk_ok u KK) {ch v : Int32} (h2 : (v_model_channels h).toInt ≤ 2) (hlen : ∀ c, c < 2 → ∃ m : Nat, m ≤ 1200 ∧ h.1 145 c = nI m)
    (hX : ¬ g_noChannel h ch = 0 → X (.inl (some (.int 0))) (g_thr h 1) 0 0)
    (hY : ∀ c : Nat, c < 2 → ch = nI c → g_noChannel h ch = 0 → h.1 145 c = nI 1200 → X (.inl (some (.int (-1)))) (g_thr h 0) 0 0)
    (hZ : ∀ c m : Nat, c < 2 → ch = nI c → g_noChannel h ch = 0 → h.1 145 c = nI m → m < 1200 → X (.inl (some (.int (nI (m + 1))))) (g_add (g_thr h 0) c m v) 0 0) :
    xm_M l (y0 u) KK m_Mo_sample [.ref 141, .int ch, .int v] h X := by
  refine xm_of [] (by simp) (Nat.le_of_ble_eq_true rfl) (by decide) (fun x at0 => ?_)
  have A := xa_of at0 K
  have ow := at0.2.2.2.2.1
  refine ra_aload_n A d_Mo_sample_0 rfl <| ra_aload_n A d_Mo_sample_1 rfl <| ra_iload_n A d_Mo_sample_2 rfl <| ?_
  refine ra_callV (As := [_]) A ok_Mo_noChannel l_Mo_201 im_Mo_noChannel sl_Mo_noChannel d_Mo_sample_3 (Nat.le_of_ble_eq_true rfl) rfl rfl rfl (Nat.le_of_ble_eq_true rfl) (xr_of at0 (by decide)) (s_Mo_noChannel K ?_)
  show xg x (y0 u) 0 0 6 _ _ _
  refine ra_if_eq (q := 13) A d_Mo_sample_6 (by decide) (fun c1 => ?_) (fun c1 => ?_)
  rotate_left
  · refine ra_iconst A 1 d_Mo_sample_9 (by decide) <| ra_goto (q := 14) A d_Mo_sample_10 (by decide) <| ra_putI (ty := .int) A f_Mo_197 rfl rfl (by decide +kernel) rfl rfl d_Mo_sample_14 (Nat.le_of_ble_eq_true rfl) rfl rfl <| ra_aload_n A d_Mo_sample_17 rfl <| ra_getI A f_Mo_197 d_Mo_sample_18 (Nat.le_of_ble_eq_true rfl) rfl rfl <| ?_
    rw [xI_e]
    refine ra_if_le (q := 26) A d_Mo_sample_21 (by decide) (fun c2 => ?_) (fun c2 => ?_)
    · exact absurd c2 (by decide)
    · refine ra_iconst A 0 d_Mo_sample_24 (by decide) <| ?_
      exact ra_iret A ow d_Mo_sample_25 (hX c1)
  refine ra_iconst A 0 d_Mo_sample_13 (by decide) <| ra_putI (ty := .int) A f_Mo_197 rfl rfl (by decide +kernel) rfl rfl d_Mo_sample_14 (Nat.le_of_ble_eq_true rfl) rfl rfl <| ra_aload_n A d_Mo_sample_17 rfl <| ra_getI A f_Mo_197 d_Mo_sample_18 (Nat.le_of_ble_eq_true rfl) rfl rfl <| ?_
  rw [xI_e]
  refine ra_if_le (q := 26) A d_Mo_sample_21 (by decide) (fun c2 => ?_) (fun c2 => ?_)
  rotate_left
  · exact absurd (by decide) c2
  have hch : ∃ c, c < 2 ∧ ch = nI c := by
    unfold g_noChannel at c1
    by_cases q1 : ch < 0
    · rw [if_pos q1] at c1; exact absurd c1 (by decide)
    · rw [if_neg q1] at c1
      by_cases q2 : ch < v_model_channels h
      · obtain ⟨j, hj, rfl⟩ := nI_of q1
        refine ⟨j, ?_, rfl⟩
        rw [Int32.lt_iff_toInt_lt, nI_toInt hj] at q2
        omega
      · rw [if_neg q2] at c1; exact absurd c1 (by decide)
  obtain ⟨c, hc, rfl⟩ := hch
  obtain ⟨m, hm, em⟩ := hlen c hc
  have hcl := nI_clamp (n := c) (by omega)
  refine ra_aload_n A d_Mo_sample_26 rfl <| ra_getR A f_Mo_161 d_Mo_sample_27 (Nat.le_of_ble_eq_true rfl) rfl rfl rfl <| ra_iload_n A d_Mo_sample_30 rfl <| ?_
  refine ra_iaload A d_Mo_sample_31 (Nat.le_of_ble_eq_true rfl) rfl (vp_in_nI hc (by decide)) ?_
  rw [hcl, xI_k (by decide), em]
  refine ra_sipush A 1200 d_Mo_sample_32 (by decide) <| ?_
  refine ra_icmp_ne (q := 40) A d_Mo_sample_35 (by decide) (fun c3 => ?_) (fun c3 => ?_)
  rotate_left
  · have e : m = 1200 := (nI_eq (by omega) (by decide)).mp (show nI m = nI 1200 from c3)
    subst e
    refine ra_iconst A (-1) d_Mo_sample_38 (by decide) <| ?_
    exact ra_iret A ow d_Mo_sample_39 (hY c hc rfl c1 em)
  have hm2 : m < 1200 := by
    rcases Nat.lt_or_eq_of_le hm with q | q
    · exact q
    · exact absurd (by rw [q]; rfl) c3
  refine ra_aload_n A d_Mo_sample_40 rfl <| ra_iload_n A d_Mo_sample_41 rfl <| ra_iload_n A d_Mo_sample_42 rfl <| ?_
  refine ra_callV (As := [_, _]) A ok_Mo_add l_Mo_205 im_Mo_add sl_Mo_add d_Mo_sample_43 (Nat.le_of_ble_eq_true rfl) rfl rfl rfl (Nat.le_of_ble_eq_true rfl) (xr_of at0 (by decide)) (s_Mo_add K hc hm2 (by rw [xI_k (by decide)]; exact em) ?_)
  show xg x (y0 u) 0 0 46 _ _ _
  refine ra_aload_n A d_Mo_sample_46 rfl <| ra_getR A f_Mo_161 d_Mo_sample_47 (Nat.le_of_ble_eq_true rfl) rfl rfl rfl <| ra_iload_n A d_Mo_sample_50 rfl <| ?_
  refine ra_iaload A d_Mo_sample_51 (Nat.le_of_ble_eq_true rfl) rfl (vp_in_nI hc (by decide)) ?_
  rw [hcl]
  have e : (g_add (g_thr h 0) c m v).1 145 c = nI (m + 1) := xI_e
  rw [e]
  exact ra_iret A ow d_Mo_sample_52 (hZ c m hc rfl c1 em hm2)
end S50
