/-! SoundStream: sample, ramp, noise, at -/
theorem xp_len {h : xw_H} {c : Nat} {v : Int32} (hc : c < 2) : (f_append_rows h c v).1 5 c = h.1 5 c + 1 := by
  unfold f_append_rows
  exact xI_e
theorem xp_depth {h : xw_H} {c : Nat} {v : Int32} (hc : c < 2) : v_rows_depth (f_append_rows h c v) = v_rows_depth h := by
  show (f_append_rows h c v).1 1 1 = h.1 1 1
  unfold f_append_rows
  rw [xI_k (by decide), xI_k (by omega)]
/-- there is a channel of that number: it is 0 or 1 -/
theorem xp_chan {h : xw_H} {ch : Int32} (h2 : (v_rows_channels h).toInt ≤ 2) (e : ¬ f_hasChannel_rows h ch = 0) : ∃ c, c < 2 ∧ ch = nI c := by
  unfold f_hasChannel_rows at e
  by_cases c1 : ch < 0
  · rw [if_pos c1] at e; exact absurd rfl e
  · rw [if_neg c1] at e
    by_cases c2 : v_rows_channels h ≤ ch
    · rw [if_pos c2] at e; exact absurd rfl e
    · obtain ⟨j, hj, rfl⟩ := nI_of c1
      refine ⟨j, ?_, rfl⟩
      rw [Int32.le_iff_toInt_le, nI_toInt hj] at c2
      omega
section S41
variable {u : xu_T} {l : Launch} {KK : State → Prop} {h : xw_H} {X : xc_R → xw_H → Nat → Nat → Prop}
/-- n numbers, v, v and step, and so on -/
def f_ramp (c : Nat) (step : Int32) : Nat → Int32 → xw_H → xw_H
  | 0, _, h => h
  | k + 1, v, h => f_ramp c step k (v + step) (f_append_rows h c v)
def f_badRamp (h : xw_H) (ch n : Int32) : Prop := f_hasChannel_rows h ch = 0 ∨ n < 0
theorem s_SS_ramp (hl : l.stackTraces = false) {ch n v step : Int32} (h2 : (v_rows_channels h).toInt ≤ 2) (hlen : ∀ c, c < 2 → ∃ m : Nat, m ≤ 1200 ∧ h.1 5 c = nI m)
    (hX : f_badRamp h ch n → X (.inr "java/lang/IllegalArgumentException") h 1 6)
    (hY : ∀ c m k : Nat, c < 2 → ch = nI c → n = nI k → k < 2 ^ 31 → h.1 5 c = nI m → m ≤ 1200 → ¬ f_badRamp h ch n → 1200 < m + k → X (.inl (some (.int (-1)))) h 0 0)
    (hZ : ∀ c m k : Nat, c < 2 → ch = nI c → n = nI k → k < 2 ^ 31 → h.1 5 c = nI m → m ≤ 1200 → ¬ f_badRamp h ch n → m + k ≤ 1200 → X (.inl (some (.int (nI (m + k))))) (f_ramp c step k v h) 0 0) :
    xm_M l (y0 u) (KK0 u) m_SS_ramp [.ref 0, .int ch, .int n, .int v, .int step] h X := by
  refine xm_of [none, none] (by simp) (Nat.le_of_ble_eq_true rfl) (by decide) (fun x at0 => ?_)
  have A := xa_of at0 (KK0_ok u)
  have ow := at0.2.2.2.2.1
  refine ra_aload_n A d_SS_ramp_0 rfl <| ra_getR A f_SS_12 d_SS_ramp_1 (Nat.le_of_ble_eq_true rfl) rfl rfl rfl <| ra_iload_n A d_SS_ramp_4 rfl <| ?_
  refine ra_callV (As := [_]) A ok_So_hasChannel l_SS_69 im_So_hasChannel sl_So_hasChannel d_SS_ramp_5 (Nat.le_of_ble_eq_true rfl) rfl rfl rfl (Nat.le_of_ble_eq_true rfl) (xr_of at0 (by decide)) (s_So_hasChannel_rows (KK0_ok u) ?_)
  show xg x (y0 u) 0 0 8 _ _ _
  refine ra_if_eq (q := 15) A d_SS_ramp_8 (by decide) (fun c1 => ?_) (fun c1 => ?_)
  · exact xt_throw at0 hl xt_IAE (by decide) (List.mem_of_getElem? (i := 0) rfl) cl_SS_48 xi_IAE (List.mem_of_getElem? (i := 2) rfl) le_SS_52 d_SS_ramp_15 d_SS_ramp_18 d_SS_ramp_19 d_SS_ramp_21 d_SS_ramp_24 ⟨by decide, Nat.le_of_ble_eq_true rfl, by decide, by decide⟩ (hX (Or.inl c1))
  refine ra_iload_n A d_SS_ramp_11 rfl <| ?_
  refine ra_if_ge (q := 25) A d_SS_ramp_12 (by decide) (fun c2 => ?_) (fun c2 => ?_)
  rotate_left
  · exact xt_throw at0 hl xt_IAE (by decide) (List.mem_of_getElem? (i := 0) rfl) cl_SS_48 xi_IAE (List.mem_of_getElem? (i := 2) rfl) le_SS_52 d_SS_ramp_15 d_SS_ramp_18 d_SS_ramp_19 d_SS_ramp_21 d_SS_ramp_24 ⟨by decide, Nat.le_of_ble_eq_true rfl, by decide, by decide⟩ (hX (Or.inr (Int32.not_le.mp c2)))
  have hb : ¬ f_badRamp h ch n := fun q => q.elim c1 (fun q => absurd q (Int32.not_lt.mpr c2))
  obtain ⟨c, hc, rfl⟩ := xp_chan h2 c1
  obtain ⟨k, hk, rfl⟩ := nI_of (Int32.not_lt.mpr c2)
  obtain ⟨m, hm, em⟩ := hlen c hc
  refine ra_iload_n A d_SS_ramp_25 rfl <| ra_aload_n A d_SS_ramp_26 rfl <| ra_getR A f_SS_12 d_SS_ramp_27 (Nat.le_of_ble_eq_true rfl) rfl rfl rfl <| ra_iload_n A d_SS_ramp_30 rfl <| ?_
  refine ra_callV (As := [_]) A ok_So_room l_SS_75 im_So_room sl_So_room d_SS_ramp_31 (Nat.le_of_ble_eq_true rfl) rfl rfl rfl (Nat.le_of_ble_eq_true rfl) (xr_of at0 (by decide)) (s_So_room_rows (KK0_ok u) hc ?_)
  show xg x (y0 u) 0 0 34 _ _ _
  rw [em]
  rw [show (1200 : Int32) - nI m = nI (1200 - m) from pk_sub (a := 1200) hm]
  refine ra_icmp_le (q := 39) A d_SS_ramp_34 (by decide) (fun c3 => ?_) (fun c3 => ?_)
  rotate_left
  · refine ra_iconst A (-1) d_SS_ramp_37 (by decide) <| ?_
    exact ra_iret A ow d_SS_ramp_38 (hY c m k hc rfl rfl hk em hm hb (by rw [nI_leI hk (by omega)] at c3; omega))
  rw [nI_leI hk (by omega)] at c3
  have hZ := hZ c m k hc rfl rfl hk em hm hb (by omega)
  refine ra_iload_n A d_SS_ramp_39 rfl <| ra_istore (L' := [_, _, _, _, _, _, _]) A d_SS_ramp_40 (by decide) rfl <| ra_iconst A 0 d_SS_ramp_42 (by decide) <| ra_istore (L' := [_, _, _, _, _, _, _]) A d_SS_ramp_43 (by decide) rfl <| ?_
  have loop : ∀ (r i m' : Nat) (w : Int32) (g : xw_H), i + r = k → m' + r = m + k → g.1 5 c = nI m' → X (.inl (some (.int (nI (m + k))))) (f_ramp c step r w g) 0 0 →
      xg x (y0 u) 0 0 45 [some (.ref 0), some (.int (nI c)), some (.int (nI k)), some (.int v), some (.int step), some (.int w), some (.int (nI i))] [] g := by
    intro r
    induction r with
    | zero =>
      intro i m' w g hi hm' eg hX
      refine ra_iload A d_SS_ramp_45 rfl <| ra_iload_n A d_SS_ramp_47 rfl <| ?_
      refine ra_icmp_ge (q := 74) A d_SS_ramp_48 (by decide) (fun c4 => ?_) (fun c4 => ?_)
      · refine ra_aload_n A d_SS_ramp_74 rfl <| ra_getR A f_SS_12 d_SS_ramp_75 (Nat.le_of_ble_eq_true rfl) rfl rfl rfl <| ra_getR A f_SS_83 d_SS_ramp_78 (Nat.le_of_ble_eq_true rfl) rfl rfl rfl <| ra_iload_n A d_SS_ramp_81 rfl <| ?_
        refine ra_iaload A d_SS_ramp_82 (Nat.le_of_ble_eq_true rfl) rfl (vp_in_nI hc (by decide)) ?_
        rw [nI_clamp (by omega), eg]
        rw [show m' = m + k by omega]
        exact ra_iret A ow d_SS_ramp_83 hX
      · exact absurd (nI_le (by omega) (by omega)) c4
    | succ r ih =>
      intro i m' w g hi hm' eg hX
      refine ra_iload A d_SS_ramp_45 rfl <| ra_iload_n A d_SS_ramp_47 rfl <| ?_
      refine ra_icmp_ge (q := 74) A d_SS_ramp_48 (by decide) (fun c4 => ?_) (fun c4 => ?_)
      · exact absurd c4 (nI_ge (by omega) (by omega))
      · refine ra_aload_n A d_SS_ramp_51 rfl <| ra_getR A f_SS_12 d_SS_ramp_52 (Nat.le_of_ble_eq_true rfl) rfl rfl rfl <| ra_iload_n A d_SS_ramp_55 rfl <| ra_iload A d_SS_ramp_56 rfl <| ?_
        refine ra_callV (As := [_, _]) A ok_So_append l_SS_79 im_So_append sl_So_append d_SS_ramp_58 (Nat.le_of_ble_eq_true rfl) rfl rfl rfl (Nat.le_of_ble_eq_true rfl) (xr_of at0 (by decide)) (s_So_append_rows (KK0_ok u) hc (by rw [eg]; exact vp_in_nI (by omega) (by decide)) ?_)
        show xg x (y0 u) 0 0 61 _ _ _
        refine ra_iload A d_SS_ramp_61 rfl <| ra_iload A d_SS_ramp_63 rfl <| ra_iadd A d_SS_ramp_65 <| ra_istore (L' := [_, _, _, _, _, _, _]) A d_SS_ramp_66 (by decide) rfl <| ra_iinc (L' := [_, _, _, _, _, _, _]) A 1 d_SS_ramp_68 rfl (by decide) (by decide) rfl <| ra_goto (q := 45) A d_SS_ramp_71 (by decide) <| ?_
        rw [nI_1]
        exact ih (i + 1) (m' + 1) (w + step) _ (by omega) (by omega) (by rw [xp_len hc, eg, nI_1]) hX
  exact loop k 0 m v h (by omega) (by omega) em hZ
theorem s_SS_sample (hl : l.stackTraces = false) {ch v : Int32} (h2 : (v_rows_channels h).toInt ≤ 2) (hlen : ∀ c, c < 2 → ∃ m : Nat, m ≤ 1200 ∧ h.1 5 c = nI m)
    (hX : f_hasChannel_rows h ch = 0 → X (.inr "java/lang/IllegalArgumentException") h 1 6)
    (hY : ∀ c : Nat, c < 2 → ch = nI c → h.1 5 c = nI 1200 → ¬ f_hasChannel_rows h ch = 0 → X (.inl (some (.int (-1)))) h 0 0)
    (hZ : ∀ c m : Nat, c < 2 → ch = nI c → h.1 5 c = nI m → ¬ f_hasChannel_rows h ch = 0 → m < 1200 → X (.inl (some (.int (nI (m + 1))))) (f_append_rows h c v) 0 0) :
    xm_M l (y0 u) (KK0 u) m_SS_sample [.ref 0, .int ch, .int v] h X := by
  refine xm_of [] (by simp) (Nat.le_of_ble_eq_true rfl) (by decide) (fun x at0 => ?_)
  have A := xa_of at0 (KK0_ok u)
  have ow := at0.2.2.2.2.1
  have nb : ∀ {q : Prop}, f_badRamp h ch 1 → (f_hasChannel_rows h ch = 0 → q) → q := fun b k => b.elim k (fun q => absurd q (by decide))
  refine ra_aload_n A d_SS_sample_0 rfl <| ra_iload_n A d_SS_sample_1 rfl <| ra_iconst A 1 d_SS_sample_2 (by decide) <| ra_iload_n A d_SS_sample_3 rfl <| ra_iconst A 0 d_SS_sample_4 (by decide) <| ?_
  have hlx : (xg_l x).stackTraces = false := by rw [at0.2.2.2.2.2.1]; exact hl
  refine ra_callV (As := [_, _, _, _]) A ok_SS_ramp l_SS_65 im_SS_ramp sl_SS_ramp d_SS_sample_5 (Nat.le_of_ble_eq_true rfl) rfl rfl rfl (Nat.le_of_ble_eq_true rfl) (xr_of at0 (by decide)) (s_SS_ramp hlx h2 hlen (fun b => ?_) (fun c m k hc e1 e2 hk2 e3 hm hb hk => ?_) (fun c m k hc e1 e2 hk2 e3 hm hb hk => ?_))
  · show xgT x (y0 u) 1 6 5 _ _ h
    exact nb b (fun e => xgT_out ow at0.2.2.2.2.2.2.2.2.2.2 (hX e))
  · show xg x (y0 u) 0 0 8 _ _ _
    have ek : 1 = k := (nI_eq (by decide) hk2).mp (show nI 1 = nI k from e2)
    rw [show m = 1200 by omega] at e3
    exact ra_iret A ow d_SS_sample_8 (hY c hc e1 e3 (fun e => hb (Or.inl e)))
  · show xg x (y0 u) 0 0 8 _ _ _
    have ek : 1 = k := (nI_eq (by decide) hk2).mp (show nI 1 = nI k from e2)
    subst ek
    exact ra_iret A ow d_SS_sample_8 (hZ c m hc e1 e3 (fun e => hb (Or.inl e)) (by omega))
/-- n numbers out of a seed -/
def f_next (x : Int32) : Int32 := 1103515245 * x + 12345
def f_noise (c : Nat) (bits : Int32) : Nat → Int32 → xw_H → xw_H
  | 0, _, h => h
  | k + 1, v, h => f_noise c bits k (f_next v) (f_append_rows h c (f_next v >>> ((32 - bits) &&& 31)))
def f_badNoise (h : xw_H) (ch n bits : Int32) : Prop := f_hasChannel_rows h ch = 0 ∨ n < 0 ∨ bits < 1 ∨ 24 < bits
theorem s_SS_noise (hl : l.stackTraces = false) {ch n v bits : Int32} (h2 : (v_rows_channels h).toInt ≤ 2) (hlen : ∀ c, c < 2 → ∃ m : Nat, m ≤ 1200 ∧ h.1 5 c = nI m)
    (hX : f_badNoise h ch n bits → X (.inr "java/lang/IllegalArgumentException") h 1 6)
    (hY : ∀ c m k : Nat, c < 2 → ch = nI c → n = nI k → k < 2 ^ 31 → h.1 5 c = nI m → m ≤ 1200 → ¬ f_badNoise h ch n bits → 1200 < m + k → X (.inl (some (.int (-1)))) h 0 0)
    (hZ : ∀ c m k : Nat, c < 2 → ch = nI c → n = nI k → k < 2 ^ 31 → h.1 5 c = nI m → m ≤ 1200 → ¬ f_badNoise h ch n bits → m + k ≤ 1200 → X (.inl (some (.int (nI (m + k))))) (f_noise c bits k v h) 0 0) :
    xm_M l (y0 u) (KK0 u) m_SS_noise [.ref 0, .int ch, .int n, .int v, .int bits] h X := by
  refine xm_of [none, none] (by simp) (Nat.le_of_ble_eq_true rfl) (by decide) (fun x at0 => ?_)
  have A := xa_of at0 (KK0_ok u)
  have ow := at0.2.2.2.2.1
  refine ra_aload_n A d_SS_noise_0 rfl <| ra_getR A f_SS_12 d_SS_noise_1 (Nat.le_of_ble_eq_true rfl) rfl rfl rfl <| ra_iload_n A d_SS_noise_4 rfl <| ?_
  refine ra_callV (As := [_]) A ok_So_hasChannel l_SS_69 im_So_hasChannel sl_So_hasChannel d_SS_noise_5 (Nat.le_of_ble_eq_true rfl) rfl rfl rfl (Nat.le_of_ble_eq_true rfl) (xr_of at0 (by decide)) (s_So_hasChannel_rows (KK0_ok u) ?_)
  show xg x (y0 u) 0 0 8 _ _ _
  refine ra_if_eq (q := 28) A d_SS_noise_8 (by decide) (fun c1 => ?_) (fun c1 => ?_)
  · exact xt_throw at0 hl xt_IAE (by decide) (List.mem_of_getElem? (i := 0) rfl) cl_SS_48 xi_IAE (List.mem_of_getElem? (i := 3) rfl) le_SS_52 d_SS_noise_28 d_SS_noise_31 d_SS_noise_32 d_SS_noise_34 d_SS_noise_37 ⟨by decide, Nat.le_of_ble_eq_true rfl, by decide, by decide⟩ (hX (Or.inl c1))
  refine ra_iload_n A d_SS_noise_11 rfl <| ?_
  refine ra_if_lt (q := 28) A d_SS_noise_12 (by decide) (fun c2 => ?_) (fun c2 => ?_)
  · exact xt_throw at0 hl xt_IAE (by decide) (List.mem_of_getElem? (i := 0) rfl) cl_SS_48 xi_IAE (List.mem_of_getElem? (i := 3) rfl) le_SS_52 d_SS_noise_28 d_SS_noise_31 d_SS_noise_32 d_SS_noise_34 d_SS_noise_37 ⟨by decide, Nat.le_of_ble_eq_true rfl, by decide, by decide⟩ (hX (Or.inr (Or.inl c2)))
  refine ra_iload A d_SS_noise_15 rfl <| ra_iconst A 1 d_SS_noise_17 (by decide) <| ?_
  refine ra_icmp_lt (q := 28) A d_SS_noise_18 (by decide) (fun c5 => ?_) (fun c5 => ?_)
  · exact xt_throw at0 hl xt_IAE (by decide) (List.mem_of_getElem? (i := 0) rfl) cl_SS_48 xi_IAE (List.mem_of_getElem? (i := 3) rfl) le_SS_52 d_SS_noise_28 d_SS_noise_31 d_SS_noise_32 d_SS_noise_34 d_SS_noise_37 ⟨by decide, Nat.le_of_ble_eq_true rfl, by decide, by decide⟩ (hX (Or.inr (Or.inr (Or.inl c5))))
  refine ra_iload A d_SS_noise_21 rfl <| ra_bipush A 24 d_SS_noise_23 (by decide) <| ?_
  refine ra_icmp_le (q := 38) A d_SS_noise_25 (by decide) (fun c6 => ?_) (fun c6 => ?_)
  rotate_left
  · exact xt_throw at0 hl xt_IAE (by decide) (List.mem_of_getElem? (i := 0) rfl) cl_SS_48 xi_IAE (List.mem_of_getElem? (i := 3) rfl) le_SS_52 d_SS_noise_28 d_SS_noise_31 d_SS_noise_32 d_SS_noise_34 d_SS_noise_37 ⟨by decide, Nat.le_of_ble_eq_true rfl, by decide, by decide⟩ (hX (Or.inr (Or.inr (Or.inr (Int32.not_le.mp c6)))))
  have hb : ¬ f_badNoise h ch n bits := fun q => q.elim c1 (fun q => q.elim c2 (fun q => q.elim c5 (fun q => absurd q (Int32.not_lt.mpr c6))))
  obtain ⟨c, hc, rfl⟩ := xp_chan h2 c1
  obtain ⟨k, hk, rfl⟩ := nI_of c2
  obtain ⟨m, hm, em⟩ := hlen c hc
  refine ra_iload_n A d_SS_noise_38 rfl <| ra_aload_n A d_SS_noise_39 rfl <| ra_getR A f_SS_12 d_SS_noise_40 (Nat.le_of_ble_eq_true rfl) rfl rfl rfl <| ra_iload_n A d_SS_noise_43 rfl <| ?_
  refine ra_callV (As := [_]) A ok_So_room l_SS_75 im_So_room sl_So_room d_SS_noise_44 (Nat.le_of_ble_eq_true rfl) rfl rfl rfl (Nat.le_of_ble_eq_true rfl) (xr_of at0 (by decide)) (s_So_room_rows (KK0_ok u) hc ?_)
  show xg x (y0 u) 0 0 47 _ _ _
  rw [em]
  rw [show (1200 : Int32) - nI m = nI (1200 - m) from pk_sub (a := 1200) hm]
  refine ra_icmp_le (q := 52) A d_SS_noise_47 (by decide) (fun c3 => ?_) (fun c3 => ?_)
  rotate_left
  · refine ra_iconst A (-1) d_SS_noise_50 (by decide) <| ?_
    exact ra_iret A ow d_SS_noise_51 (hY c m k hc rfl rfl hk em hm hb (by rw [nI_leI hk (by omega)] at c3; omega))
  rw [nI_leI hk (by omega)] at c3
  have hZ := hZ c m k hc rfl rfl hk em hm hb (by omega)
  refine ra_iload_n A d_SS_noise_52 rfl <| ra_istore (L' := [_, _, _, _, _, _, _]) A d_SS_noise_53 (by decide) rfl <| ra_iconst A 0 d_SS_noise_55 (by decide) <| ra_istore (L' := [_, _, _, _, _, _, _]) A d_SS_noise_56 (by decide) rfl <| ?_
  have loop : ∀ (r i m' : Nat) (w : Int32) (g : xw_H), i + r = k → m' + r = m + k → g.1 5 c = nI m' → X (.inl (some (.int (nI (m + k))))) (f_noise c bits r w g) 0 0 →
      xg x (y0 u) 0 0 58 [some (.ref 0), some (.int (nI c)), some (.int (nI k)), some (.int v), some (.int bits), some (.int w), some (.int (nI i))] [] g := by
    intro r
    induction r with
    | zero =>
      intro i m' w g hi hm' eg hX
      refine ra_iload A d_SS_noise_58 rfl <| ra_iload_n A d_SS_noise_60 rfl <| ?_
      refine ra_icmp_ge (q := 97) A d_SS_noise_61 (by decide) (fun c4 => ?_) (fun c4 => ?_)
      · refine ra_aload_n A d_SS_noise_97 rfl <| ra_getR A f_SS_12 d_SS_noise_98 (Nat.le_of_ble_eq_true rfl) rfl rfl rfl <| ra_getR A f_SS_83 d_SS_noise_101 (Nat.le_of_ble_eq_true rfl) rfl rfl rfl <| ra_iload_n A d_SS_noise_104 rfl <| ?_
        refine ra_iaload A d_SS_noise_105 (Nat.le_of_ble_eq_true rfl) rfl (vp_in_nI hc (by decide)) ?_
        rw [nI_clamp (by omega), eg]
        rw [show m' = m + k by omega]
        exact ra_iret A ow d_SS_noise_106 hX
      · exact absurd (nI_le (by omega) (by omega)) c4
    | succ r ih =>
      intro i m' w g hi hm' eg hX
      refine ra_iload A d_SS_noise_58 rfl <| ra_iload_n A d_SS_noise_60 rfl <| ?_
      refine ra_icmp_ge (q := 97) A d_SS_noise_61 (by decide) (fun c4 => ?_) (fun c4 => ?_)
      · exact absurd c4 (nI_ge (by omega) (by omega))
      · refine ra_ldc A k_SS_89 d_SS_noise_64 <| ra_iload A d_SS_noise_66 rfl <| ra_imul A d_SS_noise_68 <| ra_sipush A 12345 d_SS_noise_69 (by decide) <| ra_iadd A d_SS_noise_72 <| ra_istore (L' := [_, _, _, _, _, _, _]) A d_SS_noise_73 (by decide) rfl <| ra_aload_n A d_SS_noise_75 rfl <| ra_getR A f_SS_12 d_SS_noise_76 (Nat.le_of_ble_eq_true rfl) rfl rfl rfl <| ra_iload_n A d_SS_noise_79 rfl <| ra_iload A d_SS_noise_80 rfl <| ra_bipush A 32 d_SS_noise_82 (by decide) <| ra_iload A d_SS_noise_84 rfl <| ra_isub A d_SS_noise_86 <| ra_ishr A d_SS_noise_87 <| ?_
        refine ra_callV (As := [_, _]) A ok_So_append l_SS_79 im_So_append sl_So_append d_SS_noise_88 (Nat.le_of_ble_eq_true rfl) rfl rfl rfl (Nat.le_of_ble_eq_true rfl) (xr_of at0 (by decide)) (s_So_append_rows (KK0_ok u) hc (by rw [eg]; exact vp_in_nI (by omega) (by decide)) ?_)
        show xg x (y0 u) 0 0 91 _ _ _
        refine ra_iinc (L' := [_, _, _, _, _, _, _]) A 1 d_SS_noise_91 rfl (by decide) (by decide) rfl <| ra_goto (q := 58) A d_SS_noise_94 (by decide) <| ?_
        rw [nI_1]
        exact ih (i + 1) (m' + 1) _ _ (by omega) (by omega) (by rw [xp_len hc, eg, nI_1]) hX
  exact loop k 0 m v h (by omega) (by omega) em hZ
theorem s_SS_at (hl : l.stackTraces = false) {ch i : Int32} (h2 : (v_rows_channels h).toInt ≤ 2) (hlen : ∀ c, c < 2 → ∃ m : Nat, m ≤ 1200 ∧ h.1 5 c = nI m)
    (hX : f_hasChannel_rows h ch = 0 → X (.inr "java/lang/IllegalArgumentException") h 1 6)
    (hY : ∀ c : Nat, c < 2 → ch = nI c → ¬ f_hasChannel_rows h ch = 0 → f_hasSample_rows h c i = 0 → X (.inr "java/lang/IndexOutOfBoundsException") h 1 6)
    (hZ : ∀ c k m : Nat, c < 2 → ch = nI c → ¬ f_hasChannel_rows h ch = 0 → ¬ f_hasSample_rows h c i = 0 → i = nI k → h.1 5 c = nI m → m ≤ 1200 → k < m → X (.inl (some (.int (h.1 (3 + c) k)))) h 0 0) :
    xm_M l (y0 u) (KK0 u) m_SS_at [.ref 0, .int ch, .int i] h X := by
  refine xm_of [] (by simp) (Nat.le_of_ble_eq_true rfl) (by decide) (fun x at0 => ?_)
  have A := xa_of at0 (KK0_ok u)
  have ow := at0.2.2.2.2.1
  refine ra_aload_n A d_SS_at_0 rfl <| ra_getR A f_SS_12 d_SS_at_1 (Nat.le_of_ble_eq_true rfl) rfl rfl rfl <| ra_iload_n A d_SS_at_4 rfl <| ?_
  refine ra_callV (As := [_]) A ok_So_hasChannel l_SS_69 im_So_hasChannel sl_So_hasChannel d_SS_at_5 (Nat.le_of_ble_eq_true rfl) rfl rfl rfl (Nat.le_of_ble_eq_true rfl) (xr_of at0 (by decide)) (s_So_hasChannel_rows (KK0_ok u) ?_)
  show xg x (y0 u) 0 0 8 _ _ _
  refine ra_if_ne (q := 21) A d_SS_at_8 (by decide) (fun c1 => ?_) (fun c1 => ?_)
  rotate_left
  · exact xt_throw at0 hl xt_IAE (by decide) (List.mem_of_getElem? (i := 0) rfl) cl_SS_48 xi_IAE (List.mem_of_getElem? (i := 4) rfl) le_SS_52 d_SS_at_11 d_SS_at_14 d_SS_at_15 d_SS_at_17 d_SS_at_20 ⟨by decide, Nat.le_of_ble_eq_true rfl, by decide, by decide⟩ (hX c1)
  obtain ⟨c, hc, rfl⟩ := xp_chan h2 c1
  obtain ⟨m, hm, em⟩ := hlen c hc
  refine ra_aload_n A d_SS_at_21 rfl <| ra_getR A f_SS_12 d_SS_at_22 (Nat.le_of_ble_eq_true rfl) rfl rfl rfl <| ra_iload_n A d_SS_at_25 rfl <| ra_iload_n A d_SS_at_26 rfl <| ?_
  refine ra_callV (As := [_, _]) A ok_So_hasSample l_SS_92 im_So_hasSample sl_So_hasSample d_SS_at_27 (Nat.le_of_ble_eq_true rfl) rfl rfl rfl (Nat.le_of_ble_eq_true rfl) (xr_of at0 (by decide)) (s_So_hasSample_rows (KK0_ok u) hc ?_)
  show xg x (y0 u) 0 0 30 _ _ _
  refine ra_if_ne (q := 43) A d_SS_at_30 (by decide) (fun c2 => ?_) (fun c2 => ?_)
  rotate_left
  · exact xt_throw at0 hl xt_IOE (by decide) (List.mem_of_getElem? (i := 2) rfl) cl_SS_96 xi_IOE (List.mem_of_getElem? (i := 5) rfl) le_SS_100 d_SS_at_33 d_SS_at_36 d_SS_at_37 d_SS_at_39 d_SS_at_42 ⟨by decide, Nat.le_of_ble_eq_true rfl, by decide, by decide⟩ (hY c hc rfl c1 c2)
  have hs : ¬ i < 0 ∧ ¬ nI m ≤ i := by
    have q := c2
    unfold f_hasSample_rows at q
    rw [em] at q
    by_cases a : i < 0
    · rw [if_pos a] at q; exact absurd rfl q
    · rw [if_neg a] at q
      by_cases b : nI m ≤ i
      · rw [if_pos b] at q; exact absurd rfl q
      · exact ⟨a, b⟩
  obtain ⟨k, hk, rfl⟩ := nI_of hs.1
  have hkm : k < m := by
    have q := hs.2
    rw [nI_leI (by omega) hk] at q
    omega
  have hr := rf_2 c hc
  refine ra_aload_n A d_SS_at_43 rfl <| ra_getR A f_SS_12 d_SS_at_44 (Nat.le_of_ble_eq_true rfl) rfl rfl rfl <| ra_getR A f_SS_101 d_SS_at_47 (Nat.le_of_ble_eq_true rfl) rfl rfl rfl <| ra_iload_n A d_SS_at_50 rfl <| ?_
  refine ra_aaload (b := 3 + c) A d_SS_at_51 (Nat.le_of_ble_eq_true rfl) rfl rfl (vp_in_nI hc (by decide)) (by rw [nI_clamp (by omega)]; exact hr.1) ?_
  refine ra_iload_n A d_SS_at_52 rfl <| ?_
  refine ra_iaload A d_SS_at_53 (show 3 + c < 157 by omega) hr.2 (vp_in_nI (by omega) (by decide)) ?_
  rw [nI_clamp (by omega)]
  exact ra_iret A ow d_SS_at_54 (hZ c k m hc rfl c1 c2 rfl em hm hkm)
end S41
