/-! SoundStream: sample, ramp, noise, at -/
theorem xp_len {h : xw_H} {c : Nat} {v : Int32} (hc : c < 2) : (f_append_rows h c v).1 5 c = h.1 5 c + 1 := by
  unfold f_append_rows
  exact xI_e
theorem xp_depth {h : xw_H} {c : Nat} {v : Int32} (hc : c < 2) : v_rows_depth (f_append_rows h c v) = v_rows_depth h := by
  show (f_append_rows h c v).1 1 1 = h.1 1 1
  unfold f_append_rows
  rw [xI_k (by decide), xI_k (by omega)]
/-- there is a channel of that number: it is 0 or 1 -/
theorem xp_chan {h : xw_H} {ch : Int32} (h2 : (v_rows_channels h).toInt ≤ 2) (e : ¬ f_hasChannel_rows h ch = 0) : ∃ c, c < 2 ∧ ch = nI c := by
  unfold f_hasChannel_rows at e
  by_cases c1 : ch < 0
  · rw [if_pos c1] at e; exact absurd rfl e
  · rw [if_neg c1] at e
    by_cases c2 : v_rows_channels h ≤ ch
    · rw [if_pos c2] at e; exact absurd rfl e
    · obtain ⟨j, hj, rfl⟩ := nI_of c1
      refine ⟨j, ?_, rfl⟩
      rw [Int32.le_iff_toInt_le, nI_toInt hj] at c2
      omega
section S41
variable {u : xu_T} {l : Launch} {KK : State → Prop} {h : xw_H} {X : xc_R → xw_H → Nat → Nat → Prop}
/-- n numbers, v, v and step, and so on -/
def f_ramp (c : Nat) (step : Int32) : Nat → Int32 → xw_H → xw_H
  | 0, _, h => h
  | k + 1, v, h => f_ramp c step k (v + step) (f_append_rows h c v)
def f_badRamp (h : xw_H) (ch n : Int32) : Prop := f_hasChannel_rows h ch = 0 ∨ n < 0
theorem s_SS_ramp (hl : l.stackTraces = false) {ch n v step : Int32} (h2 : (v_rows_channels h).toInt ≤ 2) (hlen : ∀ c, c < 2 → ∃ m : Nat, m ≤ 1200 ∧ h.1 5 c = nI m)
    (hX : f_badRamp h ch n → X (.inr "java/lang/IllegalArgumentException") h 1 6)
    (hY : ∀ c m k : Nat, c < 2 → ch = nI c → n = nI k → h.1 5 c = nI m → ¬ f_badRamp h ch n → 1200 < m + k → X (.inl (some (.int (-1)))) h 0 0)
    (hZ : ∀ c m k : Nat, c < 2 → ch = nI c → n = nI k → h.1 5 c = nI m → ¬ f_badRamp h ch n → m + k ≤ 1200 → X (.inl (some (.int (nI (m + k))))) (f_ramp c step k v h) 0 0) :
    xm_M l (y0 u) (KK0 u) m_SS_ramp [.ref 0, .int ch, .int n, .int v, .int step] h X := by
  refine xm_of [none, none] (by simp) (Nat.le_of_ble_eq_true rfl) (by decide) (fun x at0 => ?_)
  have A := xa_of at0 (KK0_ok u)
  have ow := at0.2.2.2.2.1
  refine ra_aload_n A d_SS_ramp_0 rfl <| ra_getR A f_SS_12 d_SS_ramp_1 (Nat.le_of_ble_eq_true rfl) rfl rfl rfl <| ra_iload_n A d_SS_ramp_4 rfl <| ?_
  refine ra_callV (As := [_]) A ok_So_hasChannel l_SS_69 im_So_hasChannel sl_So_hasChannel d_SS_ramp_5 (Nat.le_of_ble_eq_true rfl) rfl rfl rfl (Nat.le_of_ble_eq_true rfl) (xr_of at0 (by decide)) (s_So_hasChannel_rows (KK0_ok u) ?_)
  show xg x (y0 u) 0 0 8 _ _ _
  refine ra_if_eq (q := 15) A d_SS_ramp_8 (by decide) (fun c1 => ?_) (fun c1 => ?_)
  · exact xt_throw at0 hl xt_IAE (by decide) (List.mem_of_getElem? (i := 0) rfl) cl_SS_48 xi_IAE (List.mem_of_getElem? (i := 2) rfl) le_SS_52 d_SS_ramp_15 d_SS_ramp_18 d_SS_ramp_19 d_SS_ramp_21 d_SS_ramp_24 ⟨by decide, Nat.le_of_ble_eq_true rfl, by decide, by decide⟩ (hX (Or.inl c1))
  refine ra_iload_n A d_SS_ramp_11 rfl <| ?_
  refine ra_if_ge (q := 25) A d_SS_ramp_12 (by decide) (fun c2 => ?_) (fun c2 => ?_)
  rotate_left
  · exact xt_throw at0 hl xt_IAE (by decide) (List.mem_of_getElem? (i := 0) rfl) cl_SS_48 xi_IAE (List.mem_of_getElem? (i := 2) rfl) le_SS_52 d_SS_ramp_15 d_SS_ramp_18 d_SS_ramp_19 d_SS_ramp_21 d_SS_ramp_24 ⟨by decide, Nat.le_of_ble_eq_true rfl, by decide, by decide⟩ (hX (Or.inr (Int32.not_le.mp c2)))
  have hb : ¬ f_badRamp h ch n := fun q => q.elim c1 (fun q => absurd q (Int32.not_lt.mpr c2))
  obtain ⟨c, hc, rfl⟩ := xp_chan h2 c1
  obtain ⟨k, hk, rfl⟩ := nI_of (Int32.not_lt.mpr c2)
  obtain ⟨m, hm, em⟩ := hlen c hc
  refine ra_iload_n A d_SS_ramp_25 rfl <| ra_aload_n A d_SS_ramp_26 rfl <| ra_getR A f_SS_12 d_SS_ramp_27 (Nat.le_of_ble_eq_true rfl) rfl rfl rfl <| ra_iload_n A d_SS_ramp_30 rfl <| ?_
  refine ra_callV (As := [_]) A ok_So_room l_SS_75 im_So_room sl_So_room d_SS_ramp_31 (Nat.le_of_ble_eq_true rfl) rfl rfl rfl (Nat.le_of_ble_eq_true rfl) (xr_of at0 (by decide)) (s_So_room_rows (KK0_ok u) hc ?_)
  show xg x (y0 u) 0 0 34 _ _ _
  rw [em]
  rw [show (1200 : Int32) - nI m = nI (1200 - m) from pk_sub (a := 1200) hm]
  refine ra_icmp_le (q := 39) A d_SS_ramp_34 (by decide) (fun c3 => ?_) (fun c3 => ?_)
  rotate_left
  · refine ra_iconst A (-1) d_SS_ramp_37 (by decide) <| ?_
    exact ra_iret A ow d_SS_ramp_38 (hY c m k hc rfl rfl em hb (by rw [nI_leI hk (by omega)] at c3; omega))
  rw [nI_leI hk (by omega)] at c3
  have hZ := hZ c m k hc rfl rfl em hb (by omega)
  refine ra_iload_n A d_SS_ramp_39 rfl <| ra_istore (L' := [_, _, _, _, _, _, _]) A d_SS_ramp_40 (by decide) rfl <| ra_iconst A 0 d_SS_ramp_42 (by decide) <| ra_istore (L' := [_, _, _, _, _, _, _]) A d_SS_ramp_43 (by decide) rfl <| ?_
  have loop : ∀ (r i m' : Nat) (w : Int32) (g : xw_H), i + r = k → m' + r = m + k → g.1 5 c = nI m' → X (.inl (some (.int (nI (m + k))))) (f_ramp c step r w g) 0 0 →
      xg x (y0 u) 0 0 45 [some (.ref 0), some (.int (nI c)), some (.int (nI k)), some (.int v), some (.int step), some (.int w), some (.int (nI i))] [] g := by
    intro r
    induction r with
    | zero =>
      intro i m' w g hi hm' eg hX
      refine ra_iload A d_SS_ramp_45 rfl <| ra_iload_n A d_SS_ramp_47 rfl <| ?_
      refine ra_icmp_ge (q := 74) A d_SS_ramp_48 (by decide) (fun c4 => ?_) (fun c4 => ?_)
      · refine ra_aload_n A d_SS_ramp_74 rfl <| ra_getR A f_SS_12 d_SS_ramp_75 (Nat.le_of_ble_eq_true rfl) rfl rfl rfl <| ra_getR A f_SS_83 d_SS_ramp_78 (Nat.le_of_ble_eq_true rfl) rfl rfl rfl <| ra_iload_n A d_SS_ramp_81 rfl <| ?_
        refine ra_iaload A d_SS_ramp_82 (Nat.le_of_ble_eq_true rfl) rfl (vp_in_nI hc (by decide)) ?_
        rw [nI_clamp (by omega), eg]
        rw [show m' = m + k by omega]
        exact ra_iret A ow d_SS_ramp_83 hX
      · exact absurd (nI_le (by omega) (by omega)) c4
    | succ r ih =>
      intro i m' w g hi hm' eg hX
      refine ra_iload A d_SS_ramp_45 rfl <| ra_iload_n A d_SS_ramp_47 rfl <| ?_
      refine ra_icmp_ge (q := 74) A d_SS_ramp_48 (by decide) (fun c4 => ?_) (fun c4 => ?_)
      · exact absurd c4 (nI_ge (by omega) (by omega))
      · refine ra_aload_n A d_SS_ramp_51 rfl <| ra_getR A f_SS_12 d_SS_ramp_52 (Nat.le_of_ble_eq_true rfl) rfl rfl rfl <| ra_iload_n A d_SS_ramp_55 rfl <| ra_iload A d_SS_ramp_56 rfl <| ?_
        refine ra_callV (As := [_, _]) A ok_So_append l_SS_79 im_So_append sl_So_append d_SS_ramp_58 (Nat.le_of_ble_eq_true rfl) rfl rfl rfl (Nat.le_of_ble_eq_true rfl) (xr_of at0 (by decide)) (s_So_append_rows (KK0_ok u) hc (by rw [eg]; exact vp_in_nI (by omega) (by decide)) ?_)
        show xg x (y0 u) 0 0 61 _ _ _
        refine ra_iload A d_SS_ramp_61 rfl <| ra_iload A d_SS_ramp_63 rfl <| ra_iadd A d_SS_ramp_65 <| ra_istore (L' := [_, _, _, _, _, _, _]) A d_SS_ramp_66 (by decide) rfl <| ra_iinc (L' := [_, _, _, _, _, _, _]) A 1 d_SS_ramp_68 rfl (by decide) (by decide) rfl <| ra_goto (q := 45) A d_SS_ramp_71 (by decide) <| ?_
        rw [nI_1]
        exact ih (i + 1) (m' + 1) (w + step) _ (by omega) (by omega) (by rw [xp_len hc, eg, nI_1]) hX
  exact loop k 0 m v h (by omega) (by omega) em hZ
end S41
