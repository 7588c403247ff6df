/-! SoundStreamModel: the calls that touch rows and bytes -/
section S51
variable {u : xu_T} {l : Launch} {KK : State → Prop} {h : xw_H} {X : xc_R → xw_H → Nat → Nat → Prop}
theorem xq_chan {h : xw_H} {ch : Int32} (h2 : (v_model_channels h).toInt ≤ 2) (c1 : g_noChannel h ch = 0) : ∃ c, c < 2 ∧ ch = nI c := by
  unfold g_noChannel at c1
  by_cases q1 : ch < 0
  · rw [if_pos q1] at c1; exact absurd c1 (by decide)
  · rw [if_neg q1] at c1
    by_cases q2 : ch < v_model_channels h
    · obtain ⟨j, hj, rfl⟩ := nI_of q1
      refine ⟨j, ?_, rfl⟩
      rw [Int32.lt_iff_toInt_lt, nI_toInt hj] at q2
      omega
    · rw [if_neg q2] at c1; exact absurd c1 (by decide)
def g_clear (h : xw_H) : xw_H := xw_I (xw_I (g_thr h 0) 145 0 0) 145 1 0
theorem s_Mo_clear (K : xk_ok u KK) (hX : X (.inl none) (g_clear h) 0 0) : xm_M l (y0 u) KK m_Mo_clear [.ref 141] h X := by
  refine xm_of [] (by simp) (Nat.le_of_ble_eq_true rfl) (by decide) (fun x at0 => ?_)
  have A := xa_of at0 K
  have ow := at0.2.2.2.2.1
  refine ra_aload_n A d_Mo_clear_0 rfl <| ra_iconst A 0 d_Mo_clear_1 (by decide) <| ra_putI (ty := .int) A f_Mo_197 rfl rfl (by decide +kernel) rfl rfl d_Mo_clear_2 (Nat.le_of_ble_eq_true rfl) rfl rfl <| ra_aload_n A d_Mo_clear_5 rfl <| ra_getR A f_Mo_161 d_Mo_clear_6 (Nat.le_of_ble_eq_true rfl) rfl rfl rfl <| ra_iconst A 0 d_Mo_clear_9 (by decide) <| ra_iconst A 0 d_Mo_clear_10 (by decide) <| ?_
  refine ra_iastore A d_Mo_clear_11 (Nat.le_of_ble_eq_true rfl) rfl (show vp_in (nI 0) 2 from vp_in_nI (by decide) (by decide)) ?_
  refine ra_aload_n A d_Mo_clear_12 rfl <| ra_getR A f_Mo_161 d_Mo_clear_13 (Nat.le_of_ble_eq_true rfl) rfl rfl rfl <| ra_iconst A 1 d_Mo_clear_16 (by decide) <| ra_iconst A 0 d_Mo_clear_17 (by decide) <| ?_
  refine ra_iastore A d_Mo_clear_18 (Nat.le_of_ble_eq_true rfl) rfl (show vp_in (nI 1) 2 from vp_in_nI (by decide) (by decide)) ?_
  exact ra_vret A ow d_Mo_clear_19 hX
def g_ramp (c : Nat) (step v0 : Int32) : Nat → Nat → Nat → xw_H → xw_H
  | 0, _, _, h => h
  | r + 1, i, m, h => g_ramp c step v0 r (i + 1) (m + 1) (g_add h c m (v0 + nI i * step))
def g_badRamp (h : xw_H) (ch n : Int32) : Prop := ¬ g_noChannel h ch = 0 ∨ n < 0
theorem s_Mo_ramp (K : xk_ok u KK) {ch n v step : Int32} (h2 : (v_model_channels h).toInt ≤ 2) (hlen : ∀ c, c < 2 → ∃ m : Nat, m ≤ 1200 ∧ h.1 145 c = nI m)
    (hX : g_badRamp h ch n → X (.inl (some (.int 0))) (g_thr h 1) 0 0)
    (hY : ∀ c m k : Nat, c < 2 → ch = nI c → n = nI k → k < 2 ^ 31 → h.1 145 c = nI m → m ≤ 1200 → ¬ g_badRamp h ch n → 1200 < m + k → X (.inl (some (.int (-1)))) (g_thr h 0) 0 0)
    (hZ : ∀ c m k : Nat, c < 2 → ch = nI c → n = nI k → k < 2 ^ 31 → h.1 145 c = nI m → m ≤ 1200 → ¬ g_badRamp h ch n → m + k ≤ 1200 → X (.inl (some (.int (nI (m + k))))) (g_ramp c step v k 0 m (g_thr h 0)) 0 0) :
    xm_M l (y0 u) KK m_Mo_ramp [.ref 141, .int ch, .int n, .int v, .int step] h X := by
  refine xm_of [none] (by simp) (Nat.le_of_ble_eq_true rfl) (by decide) (fun x at0 => ?_)
  have A := xa_of at0 K
  have ow := at0.2.2.2.2.1
  have bad : g_badRamp h ch n → xg x (y0 u) 0 0 13 [some (.ref 141), some (.int ch), some (.int n), some (.int v), some (.int step), none] [.ref 141] h := by
    intro q
    refine ra_iconst A 1 d_Mo_ramp_13 (by decide) <| ra_goto (q := 18) A d_Mo_ramp_14 (by decide) <| ra_putI (ty := .int) A f_Mo_197 rfl rfl (by decide +kernel) rfl rfl d_Mo_ramp_18 (Nat.le_of_ble_eq_true rfl) rfl rfl <| ra_aload_n A d_Mo_ramp_21 rfl <| ra_getI A f_Mo_197 d_Mo_ramp_22 (Nat.le_of_ble_eq_true rfl) rfl rfl <| ?_
    rw [xI_e]
    refine ra_if_le (q := 30) A d_Mo_ramp_25 (by decide) (fun c1 => ?_) (fun c1 => ?_)
    · exact absurd c1 (by decide)
    · refine ra_iconst A 0 d_Mo_ramp_28 (by decide) <| ?_
      exact ra_iret A ow d_Mo_ramp_29 (hX q)
  refine ra_aload_n A d_Mo_ramp_0 rfl <| ra_aload_n A d_Mo_ramp_1 rfl <| ra_iload_n A d_Mo_ramp_2 rfl <| ?_
  refine ra_callV (As := [_]) A ok_Mo_noChannel l_Mo_201 im_Mo_noChannel sl_Mo_noChannel d_Mo_ramp_3 (Nat.le_of_ble_eq_true rfl) rfl rfl rfl (Nat.le_of_ble_eq_true rfl) (xr_of at0 (by decide)) (s_Mo_noChannel K ?_)
  show xg x (y0 u) 0 0 6 _ _ _
  refine ra_if_ne (q := 13) A d_Mo_ramp_6 (by decide) (fun c1 => ?_) (fun c1 => ?_)
  · exact bad (Or.inl c1)
  refine ra_iload_n A d_Mo_ramp_9 rfl <| ?_
  refine ra_if_ge (q := 17) A d_Mo_ramp_10 (by decide) (fun c2 => ?_) (fun c2 => ?_)
  rotate_left
  · exact bad (Or.inr (Int32.not_le.mp c2))
  have hb : ¬ g_badRamp h ch n := fun q => q.elim (fun q => q c1) (fun q => absurd q (Int32.not_lt.mpr c2))
  refine ra_iconst A 0 d_Mo_ramp_17 (by decide) <| ra_putI (ty := .int) A f_Mo_197 rfl rfl (by decide +kernel) rfl rfl d_Mo_ramp_18 (Nat.le_of_ble_eq_true rfl) rfl rfl <| ra_aload_n A d_Mo_ramp_21 rfl <| ra_getI A f_Mo_197 d_Mo_ramp_22 (Nat.le_of_ble_eq_true rfl) rfl rfl <| ?_
  rw [xI_e]
  refine ra_if_le (q := 30) A d_Mo_ramp_25 (by decide) (fun c5 => ?_) (fun c5 => ?_)
  rotate_left
  · exact absurd (by decide) c5
  obtain ⟨c, hc, rfl⟩ := xq_chan h2 c1
  obtain ⟨k, hk, rfl⟩ := nI_of (Int32.not_lt.mpr c2)
  obtain ⟨m, hm, em⟩ := hlen c hc
  have hcl := nI_clamp (n := c) (by omega)
  refine ra_iload_n A d_Mo_ramp_30 rfl <| ra_sipush A 1200 d_Mo_ramp_31 (by decide) <| ra_aload_n A d_Mo_ramp_34 rfl <| ra_getR A f_Mo_161 d_Mo_ramp_35 (Nat.le_of_ble_eq_true rfl) rfl rfl rfl <| ra_iload_n A d_Mo_ramp_38 rfl <| ?_
  refine ra_iaload A d_Mo_ramp_39 (Nat.le_of_ble_eq_true rfl) rfl (vp_in_nI hc (by decide)) ?_
  rw [hcl, xI_k (by decide), em]
  refine ra_isub A d_Mo_ramp_40 <| ?_
  rw [show (1200 : Int32) - nI m = nI (1200 - m) from pk_sub (a := 1200) hm]
  refine ra_icmp_le (q := 46) A d_Mo_ramp_41 (by decide) (fun c3 => ?_) (fun c3 => ?_)
  rotate_left
  · refine ra_iconst A (-1) d_Mo_ramp_44 (by decide) <| ?_
    exact ra_iret A ow d_Mo_ramp_45 (hY c m k hc rfl rfl hk em hm hb (by rw [nI_leI hk (by omega)] at c3; omega))
  rw [nI_leI hk (by omega)] at c3
  have hZ := hZ c m k hc rfl rfl hk em hm hb (by omega)
  refine ra_iconst A 0 d_Mo_ramp_46 (by decide) <| ra_istore (L' := [_, _, _, _, _, _]) A d_Mo_ramp_47 (by decide) rfl <| ?_
  have loop : ∀ (r i m' : Nat) (g : xw_H), i + r = k → m' + r = m + k → g.1 145 c = nI m' → X (.inl (some (.int (nI (m + k))))) (g_ramp c step v r i m' g) 0 0 →
      xg x (y0 u) 0 0 49 [some (.ref 141), some (.int (nI c)), some (.int (nI k)), some (.int v), some (.int step), some (.int (nI i))] [] g := by
    intro r
    induction r with
    | zero =>
      intro i m' g hi hm' eg hX
      refine ra_iload A d_Mo_ramp_49 rfl <| ra_iload_n A d_Mo_ramp_51 rfl <| ?_
      refine ra_icmp_ge (q := 73) A d_Mo_ramp_52 (by decide) (fun c4 => ?_) (fun c4 => ?_)
      · refine ra_aload_n A d_Mo_ramp_73 rfl <| ra_getR A f_Mo_161 d_Mo_ramp_74 (Nat.le_of_ble_eq_true rfl) rfl rfl rfl <| ra_iload_n A d_Mo_ramp_77 rfl <| ?_
        refine ra_iaload A d_Mo_ramp_78 (Nat.le_of_ble_eq_true rfl) rfl (vp_in_nI hc (by decide)) ?_
        rw [hcl, eg, show m' = m + k by omega]
        exact ra_iret A ow d_Mo_ramp_79 hX
      · exact absurd (nI_le (by omega) (by omega)) c4
    | succ r ih =>
      intro i m' g hi hm' eg hX
      refine ra_iload A d_Mo_ramp_49 rfl <| ra_iload_n A d_Mo_ramp_51 rfl <| ?_
      refine ra_icmp_ge (q := 73) A d_Mo_ramp_52 (by decide) (fun c4 => ?_) (fun c4 => ?_)
      · exact absurd c4 (nI_ge (by omega) (by omega))
      · refine ra_aload_n A d_Mo_ramp_55 rfl <| ra_iload_n A d_Mo_ramp_56 rfl <| ra_iload_n A d_Mo_ramp_57 rfl <| ra_iload A d_Mo_ramp_58 rfl <| ra_iload A d_Mo_ramp_60 rfl <| ra_imul A d_Mo_ramp_62 <| ra_iadd A d_Mo_ramp_63 <| ?_
        refine ra_callV (As := [_, _]) A ok_Mo_add l_Mo_205 im_Mo_add sl_Mo_add d_Mo_ramp_64 (Nat.le_of_ble_eq_true rfl) rfl rfl rfl (Nat.le_of_ble_eq_true rfl) (xr_of at0 (by decide)) (s_Mo_add K hc (by omega) eg ?_)
        show xg x (y0 u) 0 0 67 _ _ _
        refine ra_iinc (L' := [_, _, _, _, _, _]) A 1 d_Mo_ramp_67 rfl (by decide) (by decide) rfl <| ra_goto (q := 49) A d_Mo_ramp_70 (by decide) <| ?_
        rw [nI_1]
        exact ih (i + 1) (m' + 1) _ (by omega) (by omega) xI_e hX
  exact loop k 0 m _ (by omega) (by omega) (by rw [xI_k (by decide)]; exact em) hZ
def g_noise (c : Nat) (bits : Int32) : Nat → Nat → Int32 → xw_H → xw_H
  | 0, _, _, h => h
  | r + 1, m, v, h => g_noise c bits r (m + 1) (f_next v) (g_add h c m (f_next v >>> ((32 - bits) &&& 31)))
def g_badNoise (h : xw_H) (ch n bits : Int32) : Prop := ¬ g_noChannel h ch = 0 ∨ n < 0 ∨ bits < 1 ∨ 24 < bits
theorem s_Mo_noise (K : xk_ok u KK) {ch n v bits : Int32} (h2 : (v_model_channels h).toInt ≤ 2) (hlen : ∀ c, c < 2 → ∃ m : Nat, m ≤ 1200 ∧ h.1 145 c = nI m)
    (hX : g_badNoise h ch n bits → X (.inl (some (.int 0))) (g_thr h 1) 0 0)
    (hY : ∀ c m k : Nat, c < 2 → ch = nI c → n = nI k → k < 2 ^ 31 → h.1 145 c = nI m → m ≤ 1200 → ¬ g_badNoise h ch n bits → 1200 < m + k → X (.inl (some (.int (-1)))) (g_thr h 0) 0 0)
    (hZ : ∀ c m k : Nat, c < 2 → ch = nI c → n = nI k → k < 2 ^ 31 → h.1 145 c = nI m → m ≤ 1200 → ¬ g_badNoise h ch n bits → m + k ≤ 1200 → X (.inl (some (.int (nI (m + k))))) (g_noise c bits k m v (g_thr h 0)) 0 0) :
    xm_M l (y0 u) KK m_Mo_noise [.ref 141, .int ch, .int n, .int v, .int bits] h X := by
  refine xm_of [none, none] (by simp) (Nat.le_of_ble_eq_true rfl) (by decide) (fun x at0 => ?_)
  have A := xa_of at0 K
  have ow := at0.2.2.2.2.1
  have bad : g_badNoise h ch n bits → xg x (y0 u) 0 0 26 [some (.ref 141), some (.int ch), some (.int n), some (.int v), some (.int bits), none, none] [.ref 141] h := by
    intro q
    refine ra_iconst A 1 d_Mo_noise_26 (by decide) <| ra_goto (q := 31) A d_Mo_noise_27 (by decide) <| ra_putI (ty := .int) A f_Mo_197 rfl rfl (by decide +kernel) rfl rfl d_Mo_noise_31 (Nat.le_of_ble_eq_true rfl) rfl rfl <| ra_aload_n A d_Mo_noise_34 rfl <| ra_getI A f_Mo_197 d_Mo_noise_35 (Nat.le_of_ble_eq_true rfl) rfl rfl <| ?_
    rw [xI_e]
    refine ra_if_le (q := 43) A d_Mo_noise_38 (by decide) (fun c1 => ?_) (fun c1 => ?_)
    · exact absurd c1 (by decide)
    · refine ra_iconst A 0 d_Mo_noise_41 (by decide) <| ?_
      exact ra_iret A ow d_Mo_noise_42 (hX q)
  refine ra_aload_n A d_Mo_noise_0 rfl <| ra_aload_n A d_Mo_noise_1 rfl <| ra_iload_n A d_Mo_noise_2 rfl <| ?_
  refine ra_callV (As := [_]) A ok_Mo_noChannel l_Mo_201 im_Mo_noChannel sl_Mo_noChannel d_Mo_noise_3 (Nat.le_of_ble_eq_true rfl) rfl rfl rfl (Nat.le_of_ble_eq_true rfl) (xr_of at0 (by decide)) (s_Mo_noChannel K ?_)
  show xg x (y0 u) 0 0 6 _ _ _
  refine ra_if_ne (q := 26) A d_Mo_noise_6 (by decide) (fun c1 => ?_) (fun c1 => ?_)
  · exact bad (Or.inl c1)
  refine ra_iload_n A d_Mo_noise_9 rfl <| ?_
  refine ra_if_lt (q := 26) A d_Mo_noise_10 (by decide) (fun c2 => ?_) (fun c2 => ?_)
  · exact bad (Or.inr (Or.inl c2))
  refine ra_iload A d_Mo_noise_13 rfl <| ra_iconst A 1 d_Mo_noise_15 (by decide) <| ?_
  refine ra_icmp_lt (q := 26) A d_Mo_noise_16 (by decide) (fun c6 => ?_) (fun c6 => ?_)
  · exact bad (Or.inr (Or.inr (Or.inl c6)))
  refine ra_iload A d_Mo_noise_19 rfl <| ra_bipush A 24 d_Mo_noise_21 (by decide) <| ?_
  refine ra_icmp_le (q := 30) A d_Mo_noise_23 (by decide) (fun c7 => ?_) (fun c7 => ?_)
  rotate_left
  · exact bad (Or.inr (Or.inr (Or.inr (Int32.not_le.mp c7))))
  have hb : ¬ g_badNoise h ch n bits := fun q => q.elim (fun q => q c1) (fun q => q.elim c2 (fun q => q.elim c6 (fun q => absurd q (Int32.not_lt.mpr c7))))
  refine ra_iconst A 0 d_Mo_noise_30 (by decide) <| ra_putI (ty := .int) A f_Mo_197 rfl rfl (by decide +kernel) rfl rfl d_Mo_noise_31 (Nat.le_of_ble_eq_true rfl) rfl rfl <| ra_aload_n A d_Mo_noise_34 rfl <| ra_getI A f_Mo_197 d_Mo_noise_35 (Nat.le_of_ble_eq_true rfl) rfl rfl <| ?_
  rw [xI_e]
  refine ra_if_le (q := 43) A d_Mo_noise_38 (by decide) (fun c5 => ?_) (fun c5 => ?_)
  rotate_left
  · exact absurd (by decide) c5
  obtain ⟨c, hc, rfl⟩ := xq_chan h2 c1
  obtain ⟨k, hk, rfl⟩ := nI_of c2
  obtain ⟨m, hm, em⟩ := hlen c hc
  have hcl := nI_clamp (n := c) (by omega)
  refine ra_iload_n A d_Mo_noise_43 rfl <| ra_sipush A 1200 d_Mo_noise_44 (by decide) <| ra_aload_n A d_Mo_noise_47 rfl <| ra_getR A f_Mo_161 d_Mo_noise_48 (Nat.le_of_ble_eq_true rfl) rfl rfl rfl <| ra_iload_n A d_Mo_noise_51 rfl <| ?_
  refine ra_iaload A d_Mo_noise_52 (Nat.le_of_ble_eq_true rfl) rfl (vp_in_nI hc (by decide)) ?_
  rw [hcl, xI_k (by decide), em]
  refine ra_isub A d_Mo_noise_53 <| ?_
  rw [show (1200 : Int32) - nI m = nI (1200 - m) from pk_sub (a := 1200) hm]
  refine ra_icmp_le (q := 59) A d_Mo_noise_54 (by decide) (fun c3 => ?_) (fun c3 => ?_)
  rotate_left
  · refine ra_iconst A (-1) d_Mo_noise_57 (by decide) <| ?_
    exact ra_iret A ow d_Mo_noise_58 (hY c m k hc rfl rfl hk em hm hb (by rw [nI_leI hk (by omega)] at c3; omega))
  rw [nI_leI hk (by omega)] at c3
  have hZ := hZ c m k hc rfl rfl hk em hm hb (by omega)
  refine ra_iload_n A d_Mo_noise_59 rfl <| ra_istore (L' := [_, _, _, _, _, _, _]) A d_Mo_noise_60 (by decide) rfl <| ra_iconst A 0 d_Mo_noise_62 (by decide) <| ra_istore (L' := [_, _, _, _, _, _, _]) A d_Mo_noise_63 (by decide) rfl <| ?_
  have loop : ∀ (r i m' : Nat) (w : Int32) (g : xw_H), i + r = k → m' + r = m + k → g.1 145 c = nI m' → X (.inl (some (.int (nI (m + k))))) (g_noise c bits r m' w g) 0 0 →
      xg x (y0 u) 0 0 65 [some (.ref 141), some (.int (nI c)), some (.int (nI k)), some (.int v), some (.int bits), some (.int w), some (.int (nI i))] [] g := by
    intro r
    induction r with
    | zero =>
      intro i m' w g hi hm' eg hX
      refine ra_iload A d_Mo_noise_65 rfl <| ra_iload_n A d_Mo_noise_67 rfl <| ?_
      refine ra_icmp_ge (q := 101) A d_Mo_noise_68 (by decide) (fun c4 => ?_) (fun c4 => ?_)
      · refine ra_aload_n A d_Mo_noise_101 rfl <| ra_getR A f_Mo_161 d_Mo_noise_102 (Nat.le_of_ble_eq_true rfl) rfl rfl rfl <| ra_iload_n A d_Mo_noise_105 rfl <| ?_
        refine ra_iaload A d_Mo_noise_106 (Nat.le_of_ble_eq_true rfl) rfl (vp_in_nI hc (by decide)) ?_
        rw [hcl, eg, show m' = m + k by omega]
        exact ra_iret A ow d_Mo_noise_107 hX
      · exact absurd (nI_le (by omega) (by omega)) c4
    | succ r ih =>
      intro i m' w g hi hm' eg hX
      refine ra_iload A d_Mo_noise_65 rfl <| ra_iload_n A d_Mo_noise_67 rfl <| ?_
      refine ra_icmp_ge (q := 101) A d_Mo_noise_68 (by decide) (fun c4 => ?_) (fun c4 => ?_)
      · exact absurd c4 (nI_ge (by omega) (by omega))
      · refine ra_ldc A k_Mo_209 d_Mo_noise_71 <| ra_iload A d_Mo_noise_73 rfl <| ra_imul A d_Mo_noise_75 <| ra_sipush A 12345 d_Mo_noise_76 (by decide) <| ra_iadd A d_Mo_noise_79 <| ra_istore (L' := [_, _, _, _, _, _, _]) A d_Mo_noise_80 (by decide) rfl <| ra_aload_n A d_Mo_noise_82 rfl <| ra_iload_n A d_Mo_noise_83 rfl <| ra_iload A d_Mo_noise_84 rfl <| ra_bipush A 32 d_Mo_noise_86 (by decide) <| ra_iload A d_Mo_noise_88 rfl <| ra_isub A d_Mo_noise_90 <| ra_ishr A d_Mo_noise_91 <| ?_
        refine ra_callV (As := [_, _]) A ok_Mo_add l_Mo_205 im_Mo_add sl_Mo_add d_Mo_noise_92 (Nat.le_of_ble_eq_true rfl) rfl rfl rfl (Nat.le_of_ble_eq_true rfl) (xr_of at0 (by decide)) (s_Mo_add K hc (by omega) eg ?_)
        show xg x (y0 u) 0 0 95 _ _ _
        refine ra_iinc (L' := [_, _, _, _, _, _, _]) A 1 d_Mo_noise_95 rfl (by decide) (by decide) rfl <| ra_goto (q := 65) A d_Mo_noise_98 (by decide) <| ?_
        rw [nI_1]
        exact ih (i + 1) (m' + 1) _ _ (by omega) (by omega) xI_e hX
  exact loop k 0 m v _ (by omega) (by omega) (by rw [xI_k (by decide)]; exact em) hZ
theorem s_Mo_at (K : xk_ok u KK) {ch i : Int32} (h2 : (v_model_channels h).toInt ≤ 2) (hlen : ∀ c, c < 2 → ∃ m : Nat, m ≤ 1200 ∧ h.1 145 c = nI m)
    (hX : ¬ g_noChannel h ch = 0 → X (.inl (some (.int 0))) (g_thr h 1) 0 0)
    (hY : ∀ c : Nat, c < 2 → ch = nI c → g_noChannel h ch = 0 → i < 0 ∨ h.1 145 c ≤ i → X (.inl (some (.int 0))) (g_thr h 2) 0 0)
    (hZ : ∀ c k m : Nat, c < 2 → ch = nI c → g_noChannel h ch = 0 → i = nI k → h.1 145 c = nI m → m ≤ 1200 → k < m → X (.inl (some (.int (h.1 144 (1200 * c + k))))) (g_thr h 0) 0 0) :
    xm_M l (y0 u) KK m_Mo_at [.ref 141, .int ch, .int i] h X := by
  refine xm_of [] (by simp) (Nat.le_of_ble_eq_true rfl) (by decide) (fun x at0 => ?_)
  have A := xa_of at0 K
  have ow := at0.2.2.2.2.1
  refine ra_aload_n A d_Mo_at_0 rfl <| ra_aload_n A d_Mo_at_1 rfl <| ra_iload_n A d_Mo_at_2 rfl <| ?_
  refine ra_callV (As := [_]) A ok_Mo_noChannel l_Mo_201 im_Mo_noChannel sl_Mo_noChannel d_Mo_at_3 (Nat.le_of_ble_eq_true rfl) rfl rfl rfl (Nat.le_of_ble_eq_true rfl) (xr_of at0 (by decide)) (s_Mo_noChannel K ?_)
  show xg x (y0 u) 0 0 6 _ _ _
  refine ra_if_eq (q := 13) A d_Mo_at_6 (by decide) (fun c1 => ?_) (fun c1 => ?_)
  rotate_left
  · refine ra_iconst A 1 d_Mo_at_9 (by decide) <| ra_goto (q := 32) A d_Mo_at_10 (by decide) <| ra_putI (ty := .int) A f_Mo_197 rfl rfl (by decide +kernel) rfl rfl d_Mo_at_32 (Nat.le_of_ble_eq_true rfl) rfl rfl <| ra_aload_n A d_Mo_at_35 rfl <| ra_getI A f_Mo_197 d_Mo_at_36 (Nat.le_of_ble_eq_true rfl) rfl rfl <| ?_
    rw [xI_e]
    refine ra_if_le (q := 46) A d_Mo_at_39 (by decide) (fun c2 => ?_) (fun c2 => ?_)
    · exact absurd c2 (by decide)
    · refine ra_iconst A 0 d_Mo_at_42 (by decide) <| ra_goto (q := 58) A d_Mo_at_43 (by decide) <| ?_
      exact ra_iret A ow d_Mo_at_58 (hX c1)
  obtain ⟨c, hc, rfl⟩ := xq_chan h2 c1
  obtain ⟨m, hm, em⟩ := hlen c hc
  have hcl := nI_clamp (n := c) (by omega)
  have bad : (i < 0 ∨ h.1 145 c ≤ i) → xg x (y0 u) 0 0 27 [some (.ref 141), some (.int (nI c)), some (.int i)] [.ref 141] h := by
    intro q
    refine ra_iconst A 2 d_Mo_at_27 (by decide) <| ra_goto (q := 32) A d_Mo_at_28 (by decide) <| ra_putI (ty := .int) A f_Mo_197 rfl rfl (by decide +kernel) rfl rfl d_Mo_at_32 (Nat.le_of_ble_eq_true rfl) rfl rfl <| ra_aload_n A d_Mo_at_35 rfl <| ra_getI A f_Mo_197 d_Mo_at_36 (Nat.le_of_ble_eq_true rfl) rfl rfl <| ?_
    rw [xI_e]
    refine ra_if_le (q := 46) A d_Mo_at_39 (by decide) (fun c2 => ?_) (fun c2 => ?_)
    · exact absurd c2 (by decide)
    · refine ra_iconst A 0 d_Mo_at_42 (by decide) <| ra_goto (q := 58) A d_Mo_at_43 (by decide) <| ?_
      exact ra_iret A ow d_Mo_at_58 (hY c hc rfl c1 q)
  refine ra_iload_n A d_Mo_at_13 rfl <| ?_
  refine ra_if_lt (q := 27) A d_Mo_at_14 (by decide) (fun c3 => ?_) (fun c3 => ?_)
  · exact bad (Or.inl c3)
  refine ra_iload_n A d_Mo_at_17 rfl <| ra_aload_n A d_Mo_at_18 rfl <| ra_getR A f_Mo_161 d_Mo_at_19 (Nat.le_of_ble_eq_true rfl) rfl rfl rfl <| ra_iload_n A d_Mo_at_22 rfl <| ?_
  refine ra_iaload A d_Mo_at_23 (Nat.le_of_ble_eq_true rfl) rfl (vp_in_nI hc (by decide)) ?_
  rw [hcl]
  refine ra_icmp_lt (q := 31) A d_Mo_at_24 (by decide) (fun c4 => ?_) (fun c4 => ?_)
  rotate_left
  · exact bad (Or.inr (Int32.not_lt.mp c4))
  rw [em] at c4
  obtain ⟨k, hk, rfl⟩ := nI_of c3
  have hkm : k < m := (nI_ltI hk (by omega)).mp c4
  refine ra_iconst A 0 d_Mo_at_31 (by decide) <| ra_putI (ty := .int) A f_Mo_197 rfl rfl (by decide +kernel) rfl rfl d_Mo_at_32 (Nat.le_of_ble_eq_true rfl) rfl rfl <| ra_aload_n A d_Mo_at_35 rfl <| ra_getI A f_Mo_197 d_Mo_at_36 (Nat.le_of_ble_eq_true rfl) rfl rfl <| ?_
  rw [xI_e]
  refine ra_if_le (q := 46) A d_Mo_at_39 (by decide) (fun c2 => ?_) (fun c2 => ?_)
  rotate_left
  · exact absurd (by decide) c2
  refine ra_aload_n A d_Mo_at_46 rfl <| ra_getR A f_Mo_158 d_Mo_at_47 (Nat.le_of_ble_eq_true rfl) rfl rfl rfl <| ra_sipush A 1200 d_Mo_at_50 (by decide) <| ra_iload_n A d_Mo_at_53 rfl <| ra_imul A d_Mo_at_54 <| ra_iload_n A d_Mo_at_55 rfl <| ra_iadd A d_Mo_at_56 <| ?_
  rw [show (1200 : Int32) * nI c + nI k = nI (1200 * c + k) by rw [show (1200 : Int32) = nI 1200 from rfl, pk_mul, nI_add]]
  refine ra_iaload A d_Mo_at_57 (Nat.le_of_ble_eq_true rfl) rfl (vp_in_nI (by omega) (by decide)) ?_
  rw [nI_clamp (by omega), xI_k (by decide)]
  exact ra_iret A ow d_Mo_at_58 (hZ c k m hc rfl c1 rfl em hm hkm)
end S51
