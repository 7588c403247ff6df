/-! SoundStream: told, frame, stream, feed, cut, spoil, seal, fault, place, heard -/
theorem rf_11 : ∀ k, k < 75 → rf0 11 k = some (12 + k) ∧ kd0 (12 + k) = .inr (0, 0, 9) := by decide +kernel
section S42
variable {u : xu_T} {l : Launch} {KK : State → Prop} {h : xw_H} {X : xc_R → xw_H → Nat → Nat → Prop}
def f_tell (h : xw_H) (w : Nat) : Int32 := if v_decoder_decoded h = 0 then -1 else if w = 2 then v_sound_channels h else if w = 3 then v_sound_depth h else if w = 4 then v_sound_block h else if w = 5 then v_sound_rate h else if w = 6 then h.1 140 0 else if w = 7 then v_decoder_frames h else if v_decoder_sumKnown h = 0 then 0 else 1
theorem s_De_tell (K : xk_ok u KK) {w : Nat} (h2 : 2 ≤ w) (h8 : w ≤ 8) (hX : X (.inl (some (.int (f_tell h w)))) h 0 0) : xm_M l (y0 u) KK m_De_tell [.ref 132, .int (nI w)] h X := by
  refine xm_of [] (by simp) (Nat.le_of_ble_eq_true rfl) (by decide) (fun x at0 => ?_)
  have A := xa_of at0 K
  have ow := at0.2.2.2.2.1
  refine ra_aload_n A d_De_tell_0 rfl <| ra_getI A f_De_50 d_De_tell_1 (Nat.le_of_ble_eq_true rfl) rfl rfl <| ?_
  refine ra_if_ne (q := 9) A d_De_tell_4 (by decide) (fun c1 => ?_) (fun c1 => ?_)
  rotate_left
  · refine ra_iconst A (-1) d_De_tell_7 (by decide) <| ?_
    rw [f_tell, if_pos c1] at hX
    exact ra_iret A ow d_De_tell_8 hX
  rw [f_tell, if_neg c1] at hX
  refine ra_iload_n A d_De_tell_9 rfl <| ?_
  have hw : w = 2 ∨ w = 3 ∨ w = 4 ∨ w = 5 ∨ w = 6 ∨ w = 7 ∨ w = 8 := by omega
  rcases hw with rfl | rfl | rfl | rfl | rfl | rfl | rfl
  · refine ra_tsIn (q := 48) (o := 38) A d_De_tell_10 (by decide) (by decide) (by decide) (by decide) ?_
    refine ra_aload_n A d_De_tell_48 rfl <| ra_getR A f_De_40 d_De_tell_49 (Nat.le_of_ble_eq_true rfl) rfl rfl rfl <| ra_getI A f_De_65 d_De_tell_52 (Nat.le_of_ble_eq_true rfl) rfl rfl <| ?_
    exact ra_iret A ow d_De_tell_55 hX
  · refine ra_tsIn (q := 56) (o := 46) A d_De_tell_10 (by decide) (by decide) (by decide) (by decide) ?_
    refine ra_aload_n A d_De_tell_56 rfl <| ra_getR A f_De_40 d_De_tell_57 (Nat.le_of_ble_eq_true rfl) rfl rfl rfl <| ra_getI A f_De_68 d_De_tell_60 (Nat.le_of_ble_eq_true rfl) rfl rfl <| ?_
    exact ra_iret A ow d_De_tell_63 hX
  · refine ra_tsIn (q := 64) (o := 54) A d_De_tell_10 (by decide) (by decide) (by decide) (by decide) ?_
    refine ra_aload_n A d_De_tell_64 rfl <| ra_getR A f_De_40 d_De_tell_65 (Nat.le_of_ble_eq_true rfl) rfl rfl rfl <| ra_getI A f_De_71 d_De_tell_68 (Nat.le_of_ble_eq_true rfl) rfl rfl <| ?_
    exact ra_iret A ow d_De_tell_71 hX
  · refine ra_tsIn (q := 72) (o := 62) A d_De_tell_10 (by decide) (by decide) (by decide) (by decide) ?_
    refine ra_aload_n A d_De_tell_72 rfl <| ra_getR A f_De_40 d_De_tell_73 (Nat.le_of_ble_eq_true rfl) rfl rfl rfl <| ra_getI A f_De_74 d_De_tell_76 (Nat.le_of_ble_eq_true rfl) rfl rfl <| ?_
    exact ra_iret A ow d_De_tell_79 hX
  · refine ra_tsIn (q := 80) (o := 70) A d_De_tell_10 (by decide) (by decide) (by decide) (by decide) ?_
    refine ra_aload_n A d_De_tell_80 rfl <| ra_getR A f_De_40 d_De_tell_81 (Nat.le_of_ble_eq_true rfl) rfl rfl rfl <| ra_getR A f_De_77 d_De_tell_84 (Nat.le_of_ble_eq_true rfl) rfl rfl rfl <| ra_iconst A 0 d_De_tell_87 (by decide) <| ?_
    refine ra_iaload A d_De_tell_88 (Nat.le_of_ble_eq_true rfl) rfl (show vp_in (nI 0) 2 from vp_in_nI (by decide) (by decide)) ?_
    exact ra_iret A ow d_De_tell_89 hX
  · refine ra_tsIn (q := 90) (o := 80) A d_De_tell_10 (by decide) (by decide) (by decide) (by decide) ?_
    refine ra_aload_n A d_De_tell_90 rfl <| ra_getI A f_De_54 d_De_tell_91 (Nat.le_of_ble_eq_true rfl) rfl rfl <| ?_
    exact ra_iret A ow d_De_tell_94 hX
  · refine ra_tsOut (q := 95) A d_De_tell_10 (by decide) (by decide) ?_
    refine ra_aload_n A d_De_tell_95 rfl <| ra_getI A f_De_81 d_De_tell_96 (Nat.le_of_ble_eq_true rfl) rfl rfl <| ?_
    refine ra_if_eq (q := 106) A d_De_tell_99 (by decide) (fun c2 => ?_) (fun c2 => ?_)
    · refine ra_iconst A 0 d_De_tell_106 (by decide) <| ?_
      rw [show (if (8 : Nat) = 2 then v_sound_channels h else if (8 : Nat) = 3 then v_sound_depth h else if (8 : Nat) = 4 then v_sound_block h else if (8 : Nat) = 5 then v_sound_rate h else if (8 : Nat) = 6 then h.1 140 0 else if (8 : Nat) = 7 then v_decoder_frames h else if v_decoder_sumKnown h = 0 then 0 else 1) = (0 : Int32) by simp; exact c2] at hX
      exact ra_iret A ow d_De_tell_107 hX
    · refine ra_iconst A 1 d_De_tell_102 (by decide) <| ra_goto (q := 107) A d_De_tell_103 (by decide) <| ?_
      rw [show (if (8 : Nat) = 2 then v_sound_channels h else if (8 : Nat) = 3 then v_sound_depth h else if (8 : Nat) = 4 then v_sound_block h else if (8 : Nat) = 5 then v_sound_rate h else if (8 : Nat) = 6 then h.1 140 0 else if (8 : Nat) = 7 then v_decoder_frames h else if v_decoder_sumKnown h = 0 then 0 else 1) = (1 : Int32) by simp; exact c2] at hX
      exact ra_iret A ow d_De_tell_107 hX
def f_told (h : xw_H) (w : Nat) : Int32 := if w = 0 then v_bytes_length h else if w = 1 then v_encoder_frames h else f_tell h w
theorem s_SS_told (hl : l.stackTraces = false) {w : Int32} (hX : w < 0 ∨ 8 < w → X (.inr "java/lang/IllegalArgumentException") h 1 6) (hY : ∀ k : Nat, k ≤ 8 → w = nI k → X (.inl (some (.int (f_told h k)))) h 0 0) : xm_M l (y0 u) (KK0 u) m_SS_told [.ref 0, .int w] h X := by
  refine xm_of [] (by simp) (Nat.le_of_ble_eq_true rfl) (by decide) (fun x at0 => ?_)
  have A := xa_of at0 (KK0_ok u)
  have ow := at0.2.2.2.2.1
  refine ra_iload_n A d_SS_told_0 rfl <| ?_
  refine ra_if_lt (q := 10) A d_SS_told_1 (by decide) (fun c1 => ?_) (fun c1 => ?_)
  · exact xt_throw at0 hl xt_IAE (by decide) (List.mem_of_getElem? (i := 0) rfl) cl_SS_48 xi_IAE (List.mem_of_getElem? (i := 8) rfl) le_SS_52 d_SS_told_10 d_SS_told_13 d_SS_told_14 d_SS_told_16 d_SS_told_19 ⟨by decide, Nat.le_of_ble_eq_true rfl, by decide, by decide⟩ (hX (Or.inl c1))
  refine ra_iload_n A d_SS_told_4 rfl <| ra_bipush A 8 d_SS_told_5 (by decide) <| ?_
  refine ra_icmp_le (q := 20) A d_SS_told_7 (by decide) (fun c2 => ?_) (fun c2 => ?_)
  rotate_left
  · exact xt_throw at0 hl xt_IAE (by decide) (List.mem_of_getElem? (i := 0) rfl) cl_SS_48 xi_IAE (List.mem_of_getElem? (i := 8) rfl) le_SS_52 d_SS_told_10 d_SS_told_13 d_SS_told_14 d_SS_told_16 d_SS_told_19 ⟨by decide, Nat.le_of_ble_eq_true rfl, by decide, by decide⟩ (hX (Or.inr (Int32.not_le.mp c2)))
  obtain ⟨k, hk, rfl⟩ := nI_of c1
  have hk8 : k ≤ 8 := (nI_leI hk (by decide)).mp (show nI k ≤ nI 8 from c2)
  have hY := hY k hk8 rfl
  refine ra_iload_n A d_SS_told_20 rfl <| ?_
  refine ra_if_ne (q := 32) A d_SS_told_21 (by decide) (fun c3 => ?_) (fun c3 => ?_)
  rotate_left
  · have e : k = 0 := (nI_eq hk (by decide)).mp (show nI k = nI 0 from c3)
    subst e
    refine ra_aload_n A d_SS_told_24 rfl <| ra_getR A f_SS_19 d_SS_told_25 (Nat.le_of_ble_eq_true rfl) rfl rfl rfl <| ra_getI A f_SS_128 d_SS_told_28 (Nat.le_of_ble_eq_true rfl) rfl rfl <| ?_
    exact ra_iret A ow d_SS_told_31 hY
  have n0 : k ≠ 0 := fun e => c3 (by rw [e]; rfl)
  refine ra_iload_n A d_SS_told_32 rfl <| ra_iconst A 1 d_SS_told_33 (by decide) <| ?_
  refine ra_icmp_ne (q := 47) A d_SS_told_34 (by decide) (fun c4 => ?_) (fun c4 => ?_)
  rotate_left
  · have e : k = 1 := (nI_eq hk (by decide)).mp (show nI k = nI 1 from c4)
    subst e
    refine ra_aload_n A d_SS_told_37 rfl <| ra_getR A f_SS_35 d_SS_told_38 (Nat.le_of_ble_eq_true rfl) rfl rfl rfl <| ra_getI A f_SS_134 d_SS_told_41 (Nat.le_of_ble_eq_true rfl) rfl rfl <| ra_goto (q := 55) A d_SS_told_44 (by decide) <| ?_
    exact ra_iret A ow d_SS_told_55 hY
  have n1 : k ≠ 1 := fun e => c4 (by rw [e]; rfl)
  refine ra_aload_n A d_SS_told_47 rfl <| ra_getR A f_SS_44 d_SS_told_48 (Nat.le_of_ble_eq_true rfl) rfl rfl rfl <| ra_iload_n A d_SS_told_51 rfl <| ?_
  refine ra_callV (As := [_]) A ok_De_tell l_SS_137 im_De_tell sl_De_tell d_SS_told_52 (Nat.le_of_ble_eq_true rfl) rfl rfl rfl (Nat.le_of_ble_eq_true rfl) (xr_of at0 (by decide)) (s_De_tell (KK0_ok u) (by omega) hk8 ?_)
  show xg x (y0 u) 0 0 55 _ _ _
  rw [f_told, if_neg n0, if_neg n1] at hY
  exact ra_iret A ow d_SS_told_55 hY
theorem s_SS_frame (hl : l.stackTraces = false) {k w : Int32} {F : Nat} (hF : F ≤ 75) (eF : v_encoder_frames h = nI F) (hX : w < 0 ∨ 9 ≤ w → X (.inr "java/lang/IllegalArgumentException") h 1 6) (hY : ¬ (w < 0 ∨ 9 ≤ w) → k < 0 ∨ nI F ≤ k → X (.inr "java/lang/IndexOutOfBoundsException") h 1 6)
    (hZ : ∀ a b : Nat, a < F → b < 9 → k = nI a → w = nI b → X (.inl (some (.int (h.1 (12 + a) b)))) h 0 0) : xm_M l (y0 u) (KK0 u) m_SS_frame [.ref 0, .int k, .int w] h X := by
  refine xm_of [] (by simp) (Nat.le_of_ble_eq_true rfl) (by decide) (fun x at0 => ?_)
  have A := xa_of at0 (KK0_ok u)
  have ow := at0.2.2.2.2.1
  refine ra_iload_n A d_SS_frame_0 rfl <| ?_
  refine ra_if_lt (q := 10) A d_SS_frame_1 (by decide) (fun c1 => ?_) (fun c1 => ?_)
  · exact xt_throw at0 hl xt_IAE (by decide) (List.mem_of_getElem? (i := 0) rfl) cl_SS_48 xi_IAE (List.mem_of_getElem? (i := 8) rfl) le_SS_52 d_SS_frame_10 d_SS_frame_13 d_SS_frame_14 d_SS_frame_16 d_SS_frame_19 ⟨by decide, Nat.le_of_ble_eq_true rfl, by decide, by decide⟩ (hX (Or.inl c1))
  refine ra_iload_n A d_SS_frame_4 rfl <| ra_bipush A 9 d_SS_frame_5 (by decide) <| ?_
  refine ra_icmp_lt (q := 20) A d_SS_frame_7 (by decide) (fun c2 => ?_) (fun c2 => ?_)
  rotate_left
  · exact xt_throw at0 hl xt_IAE (by decide) (List.mem_of_getElem? (i := 0) rfl) cl_SS_48 xi_IAE (List.mem_of_getElem? (i := 8) rfl) le_SS_52 d_SS_frame_10 d_SS_frame_13 d_SS_frame_14 d_SS_frame_16 d_SS_frame_19 ⟨by decide, Nat.le_of_ble_eq_true rfl, by decide, by decide⟩ (hX (Or.inr (Int32.not_lt.mp c2)))
  have hb : ¬ (w < 0 ∨ 9 ≤ w) := fun q => q.elim c1 (fun q => absurd q (Int32.not_le.mpr c2))
  refine ra_iload_n A d_SS_frame_20 rfl <| ?_
  refine ra_if_lt (q := 35) A d_SS_frame_21 (by decide) (fun c3 => ?_) (fun c3 => ?_)
  · exact xt_throw at0 hl xt_IOE (by decide) (List.mem_of_getElem? (i := 2) rfl) cl_SS_96 xi_IOE (List.mem_of_getElem? (i := 9) rfl) le_SS_100 d_SS_frame_35 d_SS_frame_38 d_SS_frame_39 d_SS_frame_41 d_SS_frame_44 ⟨by decide, Nat.le_of_ble_eq_true rfl, by decide, by decide⟩ (hY hb (Or.inl c3))
  refine ra_iload_n A d_SS_frame_24 rfl <| ra_aload_n A d_SS_frame_25 rfl <| ra_getR A f_SS_35 d_SS_frame_26 (Nat.le_of_ble_eq_true rfl) rfl rfl rfl <| ra_getI A f_SS_134 d_SS_frame_29 (Nat.le_of_ble_eq_true rfl) rfl rfl <| ?_
  rw [show h.1 10 9 = nI F from eF]
  refine ra_icmp_lt (q := 45) A d_SS_frame_32 (by decide) (fun c4 => ?_) (fun c4 => ?_)
  rotate_left
  · exact xt_throw at0 hl xt_IOE (by decide) (List.mem_of_getElem? (i := 2) rfl) cl_SS_96 xi_IOE (List.mem_of_getElem? (i := 9) rfl) le_SS_100 d_SS_frame_35 d_SS_frame_38 d_SS_frame_39 d_SS_frame_41 d_SS_frame_44 ⟨by decide, Nat.le_of_ble_eq_true rfl, by decide, by decide⟩ (hY hb (Or.inr (Int32.not_lt.mp c4)))
  obtain ⟨b, hb2, rfl⟩ := nI_of c1
  obtain ⟨a, ha2, rfl⟩ := nI_of c3
  have hb9 : b < 9 := (nI_ltI hb2 (by decide)).mp (show nI b < nI 9 from c2)
  have haF : a < F := (nI_ltI ha2 (by omega)).mp c4
  have hr := rf_11 a (by omega)
  refine ra_aload_n A d_SS_frame_45 rfl <| ra_getR A f_SS_35 d_SS_frame_46 (Nat.le_of_ble_eq_true rfl) rfl rfl rfl <| ra_getR A f_SS_142 d_SS_frame_49 (Nat.le_of_ble_eq_true rfl) rfl rfl rfl <| ra_iload_n A d_SS_frame_52 rfl <| ?_
  refine ra_aaload (b := 12 + a) A d_SS_frame_53 (Nat.le_of_ble_eq_true rfl) rfl rfl (vp_in_nI (by omega) (by decide)) (by rw [nI_clamp (by omega)]; exact hr.1) ?_
  refine ra_iload_n A d_SS_frame_54 rfl <| ?_
  refine ra_iaload A d_SS_frame_55 (show 12 + a < 157 by omega) hr.2 (vp_in_nI hb9 (by decide)) ?_
  rw [nI_clamp (by omega)]
  exact ra_iret A ow d_SS_frame_56 (hZ a b haF hb9 rfl rfl)
/-- eight bytes, the first one the lowest -/
def f_eight (h : xw_H) (i : Int32) : Nat → Int64 → Int64
  | 0, e => e
  | r + 1, e => f_eight h i r ((e <<< ((8 : Int32).toInt64 &&& 63)) ||| (f_get h (i + nI r)).toInt64)
theorem s_SS_stream (K : xk_ok u KK) {i : Int32} (hn : (v_bytes_length h).toInt ≤ 9000) (hX : X (.inl (some (.long (f_eight h i 8 0)))) h 0 0) : xm_M l (y0 u) KK m_SS_stream [.ref 0, .int i] h X := by
  refine xm_of [none, none, none] (by simp) (Nat.le_of_ble_eq_true rfl) (by decide) (fun x at0 => ?_)
  have A := xa_of at0 K
  have ow := at0.2.2.2.2.1
  have loop : ∀ (r : Nat) (e : Int64), r < 8 → X (.inl (some (.long (f_eight h i (r + 1) e)))) h 0 0 → xg x (y0 u) 0 0 6 [some (.ref 0), some (.int i), some (.long e), none, some (.int (nI r))] [] h := by
    intro r
    induction r with
    | zero =>
      intro e h8 hX
      refine ra_iload A d_SS_stream_6 rfl <| ?_
      refine ra_if_lt (q := 35) A d_SS_stream_8 (by decide) (fun c1 => ?_) (fun c1 => ?_)
      · exact absurd c1 (nI_pos (by omega))
      · refine ra_lload_n A d_SS_stream_11 rfl <| ra_bipush A 8 d_SS_stream_12 (by decide) <| ra_lshl A d_SS_stream_14 <| ra_aload_n A d_SS_stream_15 rfl <| ra_getR A f_SS_19 d_SS_stream_16 (Nat.le_of_ble_eq_true rfl) rfl rfl rfl <| ra_iload_n A d_SS_stream_19 rfl <| ra_iload A d_SS_stream_20 rfl <| ra_iadd A d_SS_stream_22 <| ?_
        refine ra_callV (As := [_]) A ok_By_get l_SS_145 im_By_get sl_By_get d_SS_stream_23 (Nat.le_of_ble_eq_true rfl) rfl rfl rfl (Nat.le_of_ble_eq_true rfl) (xr_of at0 (by decide)) (s_By_get K hn ?_)
        show xg x (y0 u) 0 0 26 _ _ _
        refine ra_i2l A d_SS_stream_26 <| ra_lor A d_SS_stream_27 <| ra_lstore_n (L' := [_, _, _, _, _]) A d_SS_stream_28 (by decide) rfl <| ra_iinc (L' := [_, _, _, _, _]) A (-1) d_SS_stream_29 rfl (by decide) (by decide) rfl <| ra_goto (q := 6) A d_SS_stream_32 (by decide) <| ra_iload A d_SS_stream_6 rfl <| ?_
        refine ra_if_lt (q := 35) A d_SS_stream_8 (by decide) (fun c2 => ?_) (fun c2 => ?_)
        · refine ra_lload_n A d_SS_stream_35 rfl <| ?_
          exact ra_lret A ow d_SS_stream_36 hX
        · exact absurd (by decide) c2
    | succ r ih =>
      intro e h8 hX
      refine ra_iload A d_SS_stream_6 rfl <| ?_
      refine ra_if_lt (q := 35) A d_SS_stream_8 (by decide) (fun c1 => ?_) (fun c1 => ?_)
      · exact absurd c1 (nI_pos (by omega))
      · refine ra_lload_n A d_SS_stream_11 rfl <| ra_bipush A 8 d_SS_stream_12 (by decide) <| ra_lshl A d_SS_stream_14 <| ra_aload_n A d_SS_stream_15 rfl <| ra_getR A f_SS_19 d_SS_stream_16 (Nat.le_of_ble_eq_true rfl) rfl rfl rfl <| ra_iload_n A d_SS_stream_19 rfl <| ra_iload A d_SS_stream_20 rfl <| ra_iadd A d_SS_stream_22 <| ?_
        refine ra_callV (As := [_]) A ok_By_get l_SS_145 im_By_get sl_By_get d_SS_stream_23 (Nat.le_of_ble_eq_true rfl) rfl rfl rfl (Nat.le_of_ble_eq_true rfl) (xr_of at0 (by decide)) (s_By_get K hn ?_)
        show xg x (y0 u) 0 0 26 _ _ _
        refine ra_i2l A d_SS_stream_26 <| ra_lor A d_SS_stream_27 <| ra_lstore_n (L' := [_, _, _, _, _]) A d_SS_stream_28 (by decide) rfl <| ra_iinc (L' := [_, _, _, _, _]) A (-1) d_SS_stream_29 rfl (by decide) (by decide) rfl <| ra_goto (q := 6) A d_SS_stream_32 (by decide) <| ?_
        rw [pk_m1]
        exact ih _ (by omega) hX
  refine ra_lconst A 0 d_SS_stream_0 (by decide) <| ra_lstore_n (L' := [_, _, _, _, _]) A d_SS_stream_1 (by decide) rfl <| ra_bipush A 7 d_SS_stream_2 (by decide) <| ra_istore (L' := [_, _, _, _, _]) A d_SS_stream_4 (by decide) rfl <| ?_
  exact loop 7 0 (by decide) hX
/-- n bytes of a long come behind the stream -/
def f_feed (b : Int64) : Nat → Nat → xw_H → xw_H
  | 0, _, h => h
  | r + 1, i, h => f_feed b r (i + 1) (f_add h ((b >>> ((8 * nI i : Int32).toInt64 &&& 63)).toInt32))
theorem xp_add {h : xw_H} {v : Int32} {m : Nat} (em : v_bytes_length h = nI m) (hm : m < 9000) : v_bytes_length (f_add h v) = nI (m + 1) := by
  unfold f_add
  rw [if_neg (by rw [em]; exact nI_ge (b := 9000) hm (by decide))]
  show (xw_I _ 6 1 _).1 6 1 = _
  rw [xI_e, em, nI_1]
theorem s_SS_feed (hl : l.stackTraces = false) {n : Int32} {b : Int64} {m : Nat} (hm : m ≤ 9000) (em : v_bytes_length h = nI m) (hX : n < 1 ∨ 8 < n → X (.inr "java/lang/IllegalArgumentException") h 1 6)
    (hY : ∀ k : Nat, 1 ≤ k → k ≤ 8 → n = nI k → 9000 < m + k → X (.inl (some (.int (-1)))) h 0 0) (hZ : ∀ k : Nat, 1 ≤ k → k ≤ 8 → n = nI k → m + k ≤ 9000 → X (.inl (some (.int (nI (m + k))))) (f_feed b k 0 h) 0 0) : xm_M l (y0 u) (KK0 u) m_SS_feed [.ref 0, .int n, .long b] h X := by
  refine xm_of [none] (by simp) (Nat.le_of_ble_eq_true rfl) (by decide) (fun x at0 => ?_)
  have A := xa_of at0 (KK0_ok u)
  have ow := at0.2.2.2.2.1
  refine ra_iload_n A d_SS_feed_0 rfl <| ra_iconst A 1 d_SS_feed_1 (by decide) <| ?_
  refine ra_icmp_lt (q := 11) A d_SS_feed_2 (by decide) (fun c1 => ?_) (fun c1 => ?_)
  · exact xt_throw at0 hl xt_IAE (by decide) (List.mem_of_getElem? (i := 0) rfl) cl_SS_48 xi_IAE (List.mem_of_getElem? (i := 10) rfl) le_SS_52 d_SS_feed_11 d_SS_feed_14 d_SS_feed_15 d_SS_feed_17 d_SS_feed_20 ⟨by decide, Nat.le_of_ble_eq_true rfl, by decide, by decide⟩ (hX (Or.inl c1))
  refine ra_iload_n A d_SS_feed_5 rfl <| ra_bipush A 8 d_SS_feed_6 (by decide) <| ?_
  refine ra_icmp_le (q := 21) A d_SS_feed_8 (by decide) (fun c2 => ?_) (fun c2 => ?_)
  rotate_left
  · exact xt_throw at0 hl xt_IAE (by decide) (List.mem_of_getElem? (i := 0) rfl) cl_SS_48 xi_IAE (List.mem_of_getElem? (i := 10) rfl) le_SS_52 d_SS_feed_11 d_SS_feed_14 d_SS_feed_15 d_SS_feed_17 d_SS_feed_20 ⟨by decide, Nat.le_of_ble_eq_true rfl, by decide, by decide⟩ (hX (Or.inr (Int32.not_le.mp c2)))
  have c0 : ¬ n < 0 := by
    rw [Int32.lt_iff_toInt_lt] at c1 ⊢
    have e1 : (1 : Int32).toInt = 1 := by decide
    have e0 : (0 : Int32).toInt = 0 := by decide
    omega
  obtain ⟨k, hk, rfl⟩ := nI_of c0
  have k8 : k ≤ 8 := (nI_leI hk (by decide)).mp (show nI k ≤ nI 8 from c2)
  have k1 : 1 ≤ k := Nat.le_of_not_lt (fun q => c1 ((nI_ltI hk (by decide)).mpr q : nI k < nI 1))
  refine ra_iload_n A d_SS_feed_21 rfl <| ra_sipush A 9000 d_SS_feed_22 (by decide) <| ra_aload_n A d_SS_feed_25 rfl <| ra_getR A f_SS_19 d_SS_feed_26 (Nat.le_of_ble_eq_true rfl) rfl rfl rfl <| ra_getI A f_SS_128 d_SS_feed_29 (Nat.le_of_ble_eq_true rfl) rfl rfl <| ra_isub A d_SS_feed_32 <| ?_
  rw [show h.1 6 1 = nI m from em]
  rw [show (9000 : Int32) - nI m = nI (9000 - m) from pk_sub (a := 9000) hm]
  refine ra_icmp_le (q := 38) A d_SS_feed_33 (by decide) (fun c3 => ?_) (fun c3 => ?_)
  rotate_left
  · refine ra_iconst A (-1) d_SS_feed_36 (by decide) <| ?_
    exact ra_iret A ow d_SS_feed_37 (hY k k1 k8 rfl (by rw [nI_leI hk (by omega)] at c3; omega))
  rw [nI_leI hk (by omega)] at c3
  have hZ := hZ k k1 k8 rfl (by omega)
  refine ra_iconst A 0 d_SS_feed_38 (by decide) <| ra_istore (L' := [_, _, _, _, _]) A d_SS_feed_39 (by decide) rfl <| ?_
  have loop : ∀ (r i m' : Nat) (g : xw_H), i + r = k → m' + r = m + k → v_bytes_length g = nI m' → X (.inl (some (.int (nI (m + k))))) (f_feed b r i g) 0 0 →
      xg x (y0 u) 0 0 41 [some (.ref 0), some (.int (nI k)), some (.long b), none, some (.int (nI i))] [] g := by
    intro r
    induction r with
    | zero =>
      intro i m' g hi hm' eg hX
      refine ra_iload A d_SS_feed_41 rfl <| ra_iload_n A d_SS_feed_43 rfl <| ?_
      refine ra_icmp_ge (q := 68) A d_SS_feed_44 (by decide) (fun c4 => ?_) (fun c4 => ?_)
      · refine ra_aload_n A d_SS_feed_68 rfl <| ra_getR A f_SS_19 d_SS_feed_69 (Nat.le_of_ble_eq_true rfl) rfl rfl rfl <| ra_getI A f_SS_128 d_SS_feed_72 (Nat.le_of_ble_eq_true rfl) rfl rfl <| ?_
        rw [show g.1 6 1 = nI m' from eg, show m' = m + k by omega]
        exact ra_iret A ow d_SS_feed_75 hX
      · exact absurd (nI_le (by omega) (by omega)) c4
    | succ r ih =>
      intro i m' g hi hm' eg hX
      refine ra_iload A d_SS_feed_41 rfl <| ra_iload_n A d_SS_feed_43 rfl <| ?_
      refine ra_icmp_ge (q := 68) A d_SS_feed_44 (by decide) (fun c4 => ?_) (fun c4 => ?_)
      · exact absurd c4 (nI_ge (by omega) (by omega))
      · refine ra_aload_n A d_SS_feed_47 rfl <| ra_getR A f_SS_19 d_SS_feed_48 (Nat.le_of_ble_eq_true rfl) rfl rfl rfl <| ra_lload_n A d_SS_feed_51 rfl <| ra_bipush A 8 d_SS_feed_52 (by decide) <| ra_iload A d_SS_feed_54 rfl <| ra_imul A d_SS_feed_56 <| ra_lshr A d_SS_feed_57 <| ra_l2i A d_SS_feed_58 <| ?_
        refine ra_callV (As := [_]) A ok_By_add l_SS_150 im_By_add sl_By_add d_SS_feed_59 (Nat.le_of_ble_eq_true rfl) rfl rfl rfl (Nat.le_of_ble_eq_true rfl) (xr_of at0 (by decide)) (s_By_add (KK0_ok u) (by rw [eg]; exact nI_pos (by omega)) ?_)
        show xg x (y0 u) 0 0 62 _ _ _
        refine ra_iinc (L' := [_, _, _, _, _]) A 1 d_SS_feed_62 rfl (by decide) (by decide) rfl <| ra_goto (q := 41) A d_SS_feed_65 (by decide) <| ?_
        rw [nI_1]
        exact ih (i + 1) (m' + 1) _ (by omega) (by omega) (xp_add eg (by omega)) hX
  exact loop k 0 m h (by omega) (by omega) em hZ
theorem s_SS_cut (hl : l.stackTraces = false) {n : Int32} (hX : n < 0 ∨ v_bytes_length h < n → X (.inr "java/lang/IllegalArgumentException") h 1 6) (hY : ¬ n < 0 → n ≤ v_bytes_length h → X (.inl (some (.int (v_bytes_length h)))) (xw_I h 6 1 n) 0 0) : xm_M l (y0 u) (KK0 u) m_SS_cut [.ref 0, .int n] h X := by
  refine xm_of [none] (by simp) (Nat.le_of_ble_eq_true rfl) (by decide) (fun x at0 => ?_)
  have A := xa_of at0 (KK0_ok u)
  have ow := at0.2.2.2.2.1
  refine ra_iload_n A d_SS_cut_0 rfl <| ?_
  refine ra_if_lt (q := 15) A d_SS_cut_1 (by decide) (fun c1 => ?_) (fun c1 => ?_)
  · exact xt_throw at0 hl xt_IAE (by decide) (List.mem_of_getElem? (i := 0) rfl) cl_SS_48 xi_IAE (List.mem_of_getElem? (i := 11) rfl) le_SS_52 d_SS_cut_15 d_SS_cut_18 d_SS_cut_19 d_SS_cut_21 d_SS_cut_24 ⟨by decide, Nat.le_of_ble_eq_true rfl, by decide, by decide⟩ (hX (Or.inl c1))
  refine ra_iload_n A d_SS_cut_4 rfl <| ra_aload_n A d_SS_cut_5 rfl <| ra_getR A f_SS_19 d_SS_cut_6 (Nat.le_of_ble_eq_true rfl) rfl rfl rfl <| ra_getI A f_SS_128 d_SS_cut_9 (Nat.le_of_ble_eq_true rfl) rfl rfl <| ?_
  refine ra_icmp_le (q := 25) A d_SS_cut_12 (by decide) (fun c2 => ?_) (fun c2 => ?_)
  rotate_left
  · exact xt_throw at0 hl xt_IAE (by decide) (List.mem_of_getElem? (i := 0) rfl) cl_SS_48 xi_IAE (List.mem_of_getElem? (i := 11) rfl) le_SS_52 d_SS_cut_15 d_SS_cut_18 d_SS_cut_19 d_SS_cut_21 d_SS_cut_24 ⟨by decide, Nat.le_of_ble_eq_true rfl, by decide, by decide⟩ (hX (Or.inr (Int32.not_le.mp c2)))
  refine ra_aload_n A d_SS_cut_25 rfl <| ra_getR A f_SS_19 d_SS_cut_26 (Nat.le_of_ble_eq_true rfl) rfl rfl rfl <| ra_getI A f_SS_128 d_SS_cut_29 (Nat.le_of_ble_eq_true rfl) rfl rfl <| ra_istore_n (L' := [_, _, _]) A d_SS_cut_32 (by decide) rfl <| ra_aload_n A d_SS_cut_33 rfl <| ra_getR A f_SS_19 d_SS_cut_34 (Nat.le_of_ble_eq_true rfl) rfl rfl rfl <| ra_iload_n A d_SS_cut_37 rfl <| ra_putI (ty := .int) A f_SS_128 rfl rfl (by decide +kernel) rfl rfl d_SS_cut_38 (Nat.le_of_ble_eq_true rfl) rfl rfl <| ra_iload_n A d_SS_cut_41 rfl <| ?_
  exact ra_iret A ow d_SS_cut_42 (hY c1 c2)
theorem s_SS_spoil (hl : l.stackTraces = false) {i v : Int32} (hn : (v_bytes_length h).toInt ≤ 9000) (hX : i < 0 ∨ v_bytes_length h ≤ i → X (.inr "java/lang/IndexOutOfBoundsException") h 1 6) (hY : ¬ (i < 0 ∨ v_bytes_length h ≤ i) → v < 0 ∨ 255 < v → X (.inr "java/lang/IllegalArgumentException") h 1 6)
    (hZ : ¬ (i < 0 ∨ v_bytes_length h ≤ i) → ¬ (v < 0 ∨ 255 < v) → X (.inl (some (.int (f_get h i)))) (f_set h i v) 0 0) : xm_M l (y0 u) (KK0 u) m_SS_spoil [.ref 0, .int i, .int v] h X := by
  refine xm_of [none] (by simp) (Nat.le_of_ble_eq_true rfl) (by decide) (fun x at0 => ?_)
  have A := xa_of at0 (KK0_ok u)
  have ow := at0.2.2.2.2.1
  refine ra_iload_n A d_SS_spoil_0 rfl <| ?_
  refine ra_if_lt (q := 15) A d_SS_spoil_1 (by decide) (fun c1 => ?_) (fun c1 => ?_)
  · exact xt_throw at0 hl xt_IOE (by decide) (List.mem_of_getElem? (i := 2) rfl) cl_SS_96 xi_IOE (List.mem_of_getElem? (i := 12) rfl) le_SS_100 d_SS_spoil_15 d_SS_spoil_18 d_SS_spoil_19 d_SS_spoil_21 d_SS_spoil_24 ⟨by decide, Nat.le_of_ble_eq_true rfl, by decide, by decide⟩ (hX (Or.inl c1))
  refine ra_iload_n A d_SS_spoil_4 rfl <| ra_aload_n A d_SS_spoil_5 rfl <| ra_getR A f_SS_19 d_SS_spoil_6 (Nat.le_of_ble_eq_true rfl) rfl rfl rfl <| ra_getI A f_SS_128 d_SS_spoil_9 (Nat.le_of_ble_eq_true rfl) rfl rfl <| ?_
  refine ra_icmp_lt (q := 25) A d_SS_spoil_12 (by decide) (fun c2 => ?_) (fun c2 => ?_)
  rotate_left
  · exact xt_throw at0 hl xt_IOE (by decide) (List.mem_of_getElem? (i := 2) rfl) cl_SS_96 xi_IOE (List.mem_of_getElem? (i := 12) rfl) le_SS_100 d_SS_spoil_15 d_SS_spoil_18 d_SS_spoil_19 d_SS_spoil_21 d_SS_spoil_24 ⟨by decide, Nat.le_of_ble_eq_true rfl, by decide, by decide⟩ (hX (Or.inr (Int32.not_lt.mp c2)))
  have hb : ¬ (i < 0 ∨ v_bytes_length h ≤ i) := fun q => q.elim c1 (fun q => absurd q (Int32.not_le.mpr c2))
  refine ra_iload_n A d_SS_spoil_25 rfl <| ?_
  refine ra_if_lt (q := 36) A d_SS_spoil_26 (by decide) (fun c3 => ?_) (fun c3 => ?_)
  · exact xt_throw at0 hl xt_IAE (by decide) (List.mem_of_getElem? (i := 0) rfl) cl_SS_48 xi_IAE (List.mem_of_getElem? (i := 13) rfl) le_SS_52 d_SS_spoil_36 d_SS_spoil_39 d_SS_spoil_40 d_SS_spoil_42 d_SS_spoil_45 ⟨by decide, Nat.le_of_ble_eq_true rfl, by decide, by decide⟩ (hY hb (Or.inl c3))
  refine ra_iload_n A d_SS_spoil_29 rfl <| ra_sipush A 255 d_SS_spoil_30 (by decide) <| ?_
  refine ra_icmp_le (q := 46) A d_SS_spoil_33 (by decide) (fun c4 => ?_) (fun c4 => ?_)
  rotate_left
  · exact xt_throw at0 hl xt_IAE (by decide) (List.mem_of_getElem? (i := 0) rfl) cl_SS_48 xi_IAE (List.mem_of_getElem? (i := 13) rfl) le_SS_52 d_SS_spoil_36 d_SS_spoil_39 d_SS_spoil_40 d_SS_spoil_42 d_SS_spoil_45 ⟨by decide, Nat.le_of_ble_eq_true rfl, by decide, by decide⟩ (hY hb (Or.inr (Int32.not_le.mp c4)))
  refine ra_aload_n A d_SS_spoil_46 rfl <| ra_getR A f_SS_19 d_SS_spoil_47 (Nat.le_of_ble_eq_true rfl) rfl rfl rfl <| ra_iload_n A d_SS_spoil_50 rfl <| ?_
  refine ra_callV (As := [_]) A ok_By_get l_SS_145 im_By_get sl_By_get d_SS_spoil_51 (Nat.le_of_ble_eq_true rfl) rfl rfl rfl (Nat.le_of_ble_eq_true rfl) (xr_of at0 (by decide)) (s_By_get (KK0_ok u) hn ?_)
  show xg x (y0 u) 0 0 54 _ _ _
  refine ra_istore_n (L' := [_, _, _, _]) A d_SS_spoil_54 (by decide) rfl <| ra_aload_n A d_SS_spoil_55 rfl <| ra_getR A f_SS_19 d_SS_spoil_56 (Nat.le_of_ble_eq_true rfl) rfl rfl rfl <| ra_iload_n A d_SS_spoil_59 rfl <| ra_iload_n A d_SS_spoil_60 rfl <| ?_
  refine ra_callV (As := [_, _]) A ok_By_set l_SS_160 im_By_set sl_By_set d_SS_spoil_61 (Nat.le_of_ble_eq_true rfl) rfl rfl rfl (Nat.le_of_ble_eq_true rfl) (xr_of at0 (by decide)) (s_By_set (KK0_ok u) hn ?_)
  show xg x (y0 u) 0 0 64 _ _ _
  refine ra_iload_n A d_SS_spoil_64 rfl <| ?_
  exact ra_iret A ow d_SS_spoil_65 (hZ hb (fun q => q.elim c3 (fun q => absurd q (Int32.not_lt.mpr c4))))
theorem s_SS_fault (K : xk_ok u KK) (hX : X (.inl (some (.int (v_reader_fault h)))) h 0 0) : xm_M l (y0 u) KK m_SS_fault [.ref 0] h X := by
  refine xm_of [] (by simp) (Nat.le_of_ble_eq_true rfl) (by decide) (fun x at0 => ?_)
  have A := xa_of at0 K
  have ow := at0.2.2.2.2.1
  refine ra_aload_n A d_SS_fault_0 rfl <| ra_getR A f_SS_44 d_SS_fault_1 (Nat.le_of_ble_eq_true rfl) rfl rfl rfl <| ra_getR A f_SS_192 d_SS_fault_4 (Nat.le_of_ble_eq_true rfl) rfl rfl rfl <| ra_getI A f_SS_196 d_SS_fault_7 (Nat.le_of_ble_eq_true rfl) rfl rfl <| ?_
  exact ra_iret A ow d_SS_fault_10 hX
def f_place (h : xw_H) : Int32 := if v_reader_fault h = 0 then -1 else v_reader_place h
theorem s_SS_place (K : xk_ok u KK) (hX : X (.inl (some (.int (f_place h)))) h 0 0) : xm_M l (y0 u) KK m_SS_place [.ref 0] h X := by
  refine xm_of [] (by simp) (Nat.le_of_ble_eq_true rfl) (by decide) (fun x at0 => ?_)
  have A := xa_of at0 K
  have ow := at0.2.2.2.2.1
  refine ra_aload_n A d_SS_place_0 rfl <| ra_getR A f_SS_44 d_SS_place_1 (Nat.le_of_ble_eq_true rfl) rfl rfl rfl <| ra_getR A f_SS_192 d_SS_place_4 (Nat.le_of_ble_eq_true rfl) rfl rfl rfl <| ra_getI A f_SS_196 d_SS_place_7 (Nat.le_of_ble_eq_true rfl) rfl rfl <| ?_
  refine ra_if_ne (q := 17) A d_SS_place_10 (by decide) (fun c1 => ?_) (fun c1 => ?_)
  · refine ra_aload_n A d_SS_place_17 rfl <| ra_getR A f_SS_44 d_SS_place_18 (Nat.le_of_ble_eq_true rfl) rfl rfl rfl <| ra_getR A f_SS_192 d_SS_place_21 (Nat.le_of_ble_eq_true rfl) rfl rfl rfl <| ra_getI A f_SS_201 d_SS_place_24 (Nat.le_of_ble_eq_true rfl) rfl rfl <| ?_
    rw [f_place, if_neg c1] at hX
    exact ra_iret A ow d_SS_place_27 hX
  · refine ra_iconst A (-1) d_SS_place_13 (by decide) <| ra_goto (q := 27) A d_SS_place_14 (by decide) <| ?_
    rw [f_place, if_pos c1] at hX
    exact ra_iret A ow d_SS_place_27 hX
theorem s_SS_heard (hl : l.stackTraces = false) {ch i : Int32} (hlen : ∀ c, c < 2 → ∃ m : Nat, m ≤ 1200 ∧ h.1 140 c = nI m)
    (hX : ¬ ch = 0 → ¬ ch = 1 → X (.inr "java/lang/IllegalArgumentException") h 1 6)
    (hY : ∀ c : Nat, c < 2 → ch = nI c → f_hasSample_sound h c i = 0 → X (.inr "java/lang/IndexOutOfBoundsException") h 1 6)
    (hZ : ∀ c k m : Nat, c < 2 → ch = nI c → ¬ f_hasSample_sound h c i = 0 → i = nI k → h.1 140 c = nI m → m ≤ 1200 → k < m → X (.inl (some (.int (h.1 (138 + c) k)))) h 0 0) :
    xm_M l (y0 u) (KK0 u) m_SS_heard [.ref 0, .int ch, .int i] h X := by
  refine xm_of [] (by simp) (Nat.le_of_ble_eq_true rfl) (by decide) (fun x at0 => ?_)
  have A := xa_of at0 (KK0_ok u)
  have ow := at0.2.2.2.2.1
  have rest : ∀ c : Nat, c < 2 → ch = nI c → xg x (y0 u) 0 0 19 [some (.ref 0), some (.int ch), some (.int i)] [] h := by
    intro c hc e
    subst e
    obtain ⟨m, hm, em⟩ := hlen c hc
    refine ra_aload_n A d_SS_heard_19 rfl <| ra_getR A f_SS_44 d_SS_heard_20 (Nat.le_of_ble_eq_true rfl) rfl rfl rfl <| ra_getR A f_SS_189 d_SS_heard_23 (Nat.le_of_ble_eq_true rfl) rfl rfl rfl <| ra_iload_n A d_SS_heard_26 rfl <| ra_iload_n A d_SS_heard_27 rfl <| ?_
    refine ra_callV (As := [_, _]) A ok_So_hasSample l_SS_92 im_So_hasSample sl_So_hasSample d_SS_heard_28 (Nat.le_of_ble_eq_true rfl) rfl rfl rfl (Nat.le_of_ble_eq_true rfl) (xr_of at0 (by decide)) (s_So_hasSample_sound (KK0_ok u) hc ?_)
    show xg x (y0 u) 0 0 31 _ _ _
    refine ra_if_ne (q := 44) A d_SS_heard_31 (by decide) (fun c2 => ?_) (fun c2 => ?_)
    rotate_left
    · exact xt_throw at0 hl xt_IOE (by decide) (List.mem_of_getElem? (i := 2) rfl) cl_SS_96 xi_IOE (List.mem_of_getElem? (i := 5) rfl) le_SS_100 d_SS_heard_34 d_SS_heard_37 d_SS_heard_38 d_SS_heard_40 d_SS_heard_43 ⟨by decide, Nat.le_of_ble_eq_true rfl, by decide, by decide⟩ (hY c hc rfl c2)
    have hs : ¬ i < 0 ∧ ¬ nI m ≤ i := by
      have q := c2
      unfold f_hasSample_sound at q
      rw [em] at q
      by_cases a : i < 0
      · rw [if_pos a] at q; exact absurd rfl q
      · rw [if_neg a] at q
        by_cases b : nI m ≤ i
        · rw [if_pos b] at q; exact absurd rfl q
        · exact ⟨a, b⟩
    obtain ⟨k, hk, rfl⟩ := nI_of hs.1
    have hkm : k < m := by
      have q := hs.2
      rw [nI_leI (by omega) hk] at q
      omega
    have hr := rf_137 c hc
    refine ra_aload_n A d_SS_heard_44 rfl <| ra_getR A f_SS_44 d_SS_heard_45 (Nat.le_of_ble_eq_true rfl) rfl rfl rfl <| ra_getR A f_SS_189 d_SS_heard_48 (Nat.le_of_ble_eq_true rfl) rfl rfl rfl <| ra_getR A f_SS_101 d_SS_heard_51 (Nat.le_of_ble_eq_true rfl) rfl rfl rfl <| ra_iload_n A d_SS_heard_54 rfl <| ?_
    refine ra_aaload (b := 138 + c) A d_SS_heard_55 (Nat.le_of_ble_eq_true rfl) rfl rfl (vp_in_nI hc (by decide)) (by rw [nI_clamp (by omega)]; exact hr.1) ?_
    refine ra_iload_n A d_SS_heard_56 rfl <| ?_
    refine ra_iaload A d_SS_heard_57 (show 138 + c < 157 by omega) hr.2 (vp_in_nI (by omega) (by decide)) ?_
    rw [nI_clamp (by omega)]
    exact ra_iret A ow d_SS_heard_58 (hZ c k m hc rfl c2 rfl em hm hkm)
  refine ra_iload_n A d_SS_heard_0 rfl <| ?_
  refine ra_if_eq (q := 19) A d_SS_heard_1 (by decide) (fun c1 => ?_) (fun c1 => ?_)
  · exact rest 0 (by decide) (by rw [c1]; rfl)
  refine ra_iload_n A d_SS_heard_4 rfl <| ra_iconst A 1 d_SS_heard_5 (by decide) <| ?_
  refine ra_icmp_eq (q := 19) A d_SS_heard_6 (by decide) (fun c3 => ?_) (fun c3 => ?_)
  · exact rest 1 (by decide) (by rw [c3]; rfl)
  · exact xt_throw at0 hl xt_IAE (by decide) (List.mem_of_getElem? (i := 0) rfl) cl_SS_48 xi_IAE (List.mem_of_getElem? (i := 16) rfl) le_SS_52 d_SS_heard_9 d_SS_heard_12 d_SS_heard_13 d_SS_heard_15 d_SS_heard_18 ⟨by decide, Nat.le_of_ble_eq_true rfl, by decide, by decide⟩ (hX c1 c3)
end S42
