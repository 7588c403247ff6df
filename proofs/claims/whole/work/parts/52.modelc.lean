/-! SoundStreamModel: told, frame, stream, feed, cut, spoil, seal, fault, place, heard; SoundStream.seal -/
section S52
variable {u : xu_T} {l : Launch} {KK : State → Prop} {h : xw_H} {X : xc_R → xw_H → Nat → Nat → Prop}
theorem s_Mo_fault (K : xk_ok u KK) (hX : X (.inl (some (.int (v_model_fault h)))) (g_thr h 0) 0 0) : xm_M l (y0 u) KK m_Mo_fault [.ref 141] h X := by
  refine xm_of [] (by simp) (Nat.le_of_ble_eq_true rfl) (by decide) (fun x at0 => ?_)
  have A := xa_of at0 K
  have ow := at0.2.2.2.2.1
  refine ra_aload_n A d_Mo_fault_0 rfl <| ra_iconst A 0 d_Mo_fault_1 (by decide) <| ra_putI (ty := .int) A f_Mo_197 rfl rfl (by decide +kernel) rfl rfl d_Mo_fault_2 (Nat.le_of_ble_eq_true rfl) rfl rfl <| ra_aload_n A d_Mo_fault_5 rfl <| ra_getI A f_Mo_386 d_Mo_fault_6 (Nat.le_of_ble_eq_true rfl) rfl rfl <| ?_
  rw [xI_j (by decide)]
  exact ra_iret A ow d_Mo_fault_9 hX
theorem s_Mo_place (K : xk_ok u KK) (hX : X (.inl (some (.int (v_model_place h)))) (g_thr h 0) 0 0) : xm_M l (y0 u) KK m_Mo_place [.ref 141] h X := by
  refine xm_of [] (by simp) (Nat.le_of_ble_eq_true rfl) (by decide) (fun x at0 => ?_)
  have A := xa_of at0 K
  have ow := at0.2.2.2.2.1
  refine ra_aload_n A d_Mo_place_0 rfl <| ra_iconst A 0 d_Mo_place_1 (by decide) <| ra_putI (ty := .int) A f_Mo_197 rfl rfl (by decide +kernel) rfl rfl d_Mo_place_2 (Nat.le_of_ble_eq_true rfl) rfl rfl <| ra_aload_n A d_Mo_place_5 rfl <| ra_getI A f_Mo_182 d_Mo_place_6 (Nat.le_of_ble_eq_true rfl) rfl rfl <| ?_
  rw [xI_j (by decide)]
  exact ra_iret A ow d_Mo_place_9 hX
theorem s_Mo_cut (K : xk_ok u KK) {n : Int32} (hX : n < 0 ∨ v_model_size h < n → X (.inl (some (.int 0))) (g_thr h 1) 0 0) (hY : ¬ n < 0 → n ≤ v_model_size h → X (.inl (some (.int (v_model_size h)))) (xw_I (g_thr h 0) 141 12 n) 0 0) : xm_M l (y0 u) KK m_Mo_cut [.ref 141, .int n] h X := by
  refine xm_of [none] (by simp) (Nat.le_of_ble_eq_true rfl) (by decide) (fun x at0 => ?_)
  have A := xa_of at0 K
  have ow := at0.2.2.2.2.1
  have bad : n < 0 ∨ v_model_size h < n → xg x (y0 u) 0 0 13 [some (.ref 141), some (.int n), none] [.ref 141] h := by
    intro q
    refine ra_iconst A 1 d_Mo_cut_13 (by decide) <| ra_goto (q := 18) A d_Mo_cut_14 (by decide) <| ra_putI (ty := .int) A f_Mo_197 rfl rfl (by decide +kernel) rfl rfl d_Mo_cut_18 (Nat.le_of_ble_eq_true rfl) rfl rfl <| ra_aload_n A d_Mo_cut_21 rfl <| ra_getI A f_Mo_197 d_Mo_cut_22 (Nat.le_of_ble_eq_true rfl) rfl rfl <| ?_
    rw [xI_e]
    refine ra_if_le (q := 30) A d_Mo_cut_25 (by decide) (fun c1 => ?_) (fun c1 => ?_)
    · exact absurd c1 (by decide)
    · refine ra_iconst A 0 d_Mo_cut_28 (by decide) <| ?_
      exact ra_iret A ow d_Mo_cut_29 (hX q)
  refine ra_aload_n A d_Mo_cut_0 rfl <| ra_iload_n A d_Mo_cut_1 rfl <| ?_
  refine ra_if_lt (q := 13) A d_Mo_cut_2 (by decide) (fun c1 => ?_) (fun c1 => ?_)
  · exact bad (Or.inl c1)
  refine ra_iload_n A d_Mo_cut_5 rfl <| ra_aload_n A d_Mo_cut_6 rfl <| ra_getI A f_Mo_354 d_Mo_cut_7 (Nat.le_of_ble_eq_true rfl) rfl rfl <| ?_
  refine ra_icmp_le (q := 17) A d_Mo_cut_10 (by decide) (fun c2 => ?_) (fun c2 => ?_)
  rotate_left
  · exact bad (Or.inr (Int32.not_le.mp c2))
  refine ra_iconst A 0 d_Mo_cut_17 (by decide) <| ra_putI (ty := .int) A f_Mo_197 rfl rfl (by decide +kernel) rfl rfl d_Mo_cut_18 (Nat.le_of_ble_eq_true rfl) rfl rfl <| ra_aload_n A d_Mo_cut_21 rfl <| ra_getI A f_Mo_197 d_Mo_cut_22 (Nat.le_of_ble_eq_true rfl) rfl rfl <| ?_
  rw [xI_e]
  refine ra_if_le (q := 30) A d_Mo_cut_25 (by decide) (fun c3 => ?_) (fun c3 => ?_)
  rotate_left
  · exact absurd (by decide) c3
  refine ra_aload_n A d_Mo_cut_30 rfl <| ra_getI A f_Mo_354 d_Mo_cut_31 (Nat.le_of_ble_eq_true rfl) rfl rfl <| ?_
  rw [xI_j (by decide)]
  refine ra_istore_n (L' := [_, _, _]) A d_Mo_cut_34 (by decide) rfl <| ra_aload_n A d_Mo_cut_35 rfl <| ra_iload_n A d_Mo_cut_36 rfl <| ra_putI (ty := .int) A f_Mo_354 rfl rfl (by decide +kernel) rfl rfl d_Mo_cut_37 (Nat.le_of_ble_eq_true rfl) rfl rfl <| ra_iload_n A d_Mo_cut_40 rfl <| ?_
  exact ra_iret A ow d_Mo_cut_41 (hY c1 c2)
theorem s_Mo_spoil (K : xk_ok u KK) {i v : Int32} {m : Nat} (hm : m ≤ 9400) (em : v_model_size h = nI m) (hX : i < 0 ∨ v_model_size h ≤ i → X (.inl (some (.int 0))) (g_thr h 1) 0 0) (hY : ¬ (i < 0 ∨ v_model_size h ≤ i) → v < 0 ∨ 255 < v → X (.inl (some (.int 0))) (g_thr h 2) 0 0)
    (hZ : ∀ k : Nat, k < m → i = nI k → ¬ (v < 0 ∨ 255 < v) → X (.inl (some (.int (h.1 148 k)))) (xw_I (g_thr h 0) 148 k v) 0 0) : xm_M l (y0 u) KK m_Mo_spoil [.ref 141, .int i, .int v] h X := by
  refine xm_of [none] (by simp) (Nat.le_of_ble_eq_true rfl) (by decide) (fun x at0 => ?_)
  have A := xa_of at0 K
  have ow := at0.2.2.2.2.1
  have bad : i < 0 ∨ v_model_size h ≤ i → xg x (y0 u) 0 0 13 [some (.ref 141), some (.int i), some (.int v), none] [.ref 141] h := by
    intro q
    refine ra_iconst A 1 d_Mo_spoil_13 (by decide) <| ra_goto (q := 33) A d_Mo_spoil_14 (by decide) <| ra_putI (ty := .int) A f_Mo_197 rfl rfl (by decide +kernel) rfl rfl d_Mo_spoil_33 (Nat.le_of_ble_eq_true rfl) rfl rfl <| ra_aload_n A d_Mo_spoil_36 rfl <| ra_getI A f_Mo_197 d_Mo_spoil_37 (Nat.le_of_ble_eq_true rfl) rfl rfl <| ?_
    rw [xI_e]
    refine ra_if_le (q := 45) A d_Mo_spoil_40 (by decide) (fun c1 => ?_) (fun c1 => ?_)
    · exact absurd c1 (by decide)
    · refine ra_iconst A 0 d_Mo_spoil_43 (by decide) <| ?_
      exact ra_iret A ow d_Mo_spoil_44 (hX q)
  refine ra_aload_n A d_Mo_spoil_0 rfl <| ra_iload_n A d_Mo_spoil_1 rfl <| ?_
  refine ra_if_lt (q := 13) A d_Mo_spoil_2 (by decide) (fun c1 => ?_) (fun c1 => ?_)
  · exact bad (Or.inl c1)
  refine ra_iload_n A d_Mo_spoil_5 rfl <| ra_aload_n A d_Mo_spoil_6 rfl <| ra_getI A f_Mo_354 d_Mo_spoil_7 (Nat.le_of_ble_eq_true rfl) rfl rfl <| ?_
  refine ra_icmp_lt (q := 17) A d_Mo_spoil_10 (by decide) (fun c2 => ?_) (fun c2 => ?_)
  rotate_left
  · exact bad (Or.inr (Int32.not_lt.mp c2))
  have hb : ¬ (i < 0 ∨ v_model_size h ≤ i) := fun q => q.elim c1 (fun q => absurd q (Int32.not_le.mpr c2))
  have bad2 : v < 0 ∨ 255 < v → xg x (y0 u) 0 0 28 [some (.ref 141), some (.int i), some (.int v), none] [.ref 141] h := by
    intro q
    refine ra_iconst A 2 d_Mo_spoil_28 (by decide) <| ra_goto (q := 33) A d_Mo_spoil_29 (by decide) <| ra_putI (ty := .int) A f_Mo_197 rfl rfl (by decide +kernel) rfl rfl d_Mo_spoil_33 (Nat.le_of_ble_eq_true rfl) rfl rfl <| ra_aload_n A d_Mo_spoil_36 rfl <| ra_getI A f_Mo_197 d_Mo_spoil_37 (Nat.le_of_ble_eq_true rfl) rfl rfl <| ?_
    rw [xI_e]
    refine ra_if_le (q := 45) A d_Mo_spoil_40 (by decide) (fun c1 => ?_) (fun c1 => ?_)
    · exact absurd c1 (by decide)
    · refine ra_iconst A 0 d_Mo_spoil_43 (by decide) <| ?_
      exact ra_iret A ow d_Mo_spoil_44 (hY hb q)
  refine ra_iload_n A d_Mo_spoil_17 rfl <| ?_
  refine ra_if_lt (q := 28) A d_Mo_spoil_18 (by decide) (fun c3 => ?_) (fun c3 => ?_)
  · exact bad2 (Or.inl c3)
  refine ra_iload_n A d_Mo_spoil_21 rfl <| ra_sipush A 255 d_Mo_spoil_22 (by decide) <| ?_
  refine ra_icmp_le (q := 32) A d_Mo_spoil_25 (by decide) (fun c4 => ?_) (fun c4 => ?_)
  rotate_left
  · exact bad2 (Or.inr (Int32.not_le.mp c4))
  refine ra_iconst A 0 d_Mo_spoil_32 (by decide) <| ra_putI (ty := .int) A f_Mo_197 rfl rfl (by decide +kernel) rfl rfl d_Mo_spoil_33 (Nat.le_of_ble_eq_true rfl) rfl rfl <| ra_aload_n A d_Mo_spoil_36 rfl <| ra_getI A f_Mo_197 d_Mo_spoil_37 (Nat.le_of_ble_eq_true rfl) rfl rfl <| ?_
  rw [xI_e]
  refine ra_if_le (q := 45) A d_Mo_spoil_40 (by decide) (fun c5 => ?_) (fun c5 => ?_)
  rotate_left
  · exact absurd (by decide) c5
  obtain ⟨k, hk, rfl⟩ := nI_of c1
  have hkm : k < m := (nI_ltI hk (by omega)).mp (show nI k < nI m by rw [← em]; exact c2)
  refine ra_aload_n A d_Mo_spoil_45 rfl <| ra_getR A f_Mo_170 d_Mo_spoil_46 (Nat.le_of_ble_eq_true rfl) rfl rfl rfl <| ra_iload_n A d_Mo_spoil_49 rfl <| ?_
  refine ra_iaload A d_Mo_spoil_50 (Nat.le_of_ble_eq_true rfl) rfl (vp_in_nI (by omega) (by decide)) ?_
  rw [nI_clamp (by omega), xI_k (by decide)]
  refine ra_istore_n (L' := [_, _, _, _]) A d_Mo_spoil_51 (by decide) rfl <| ra_aload_n A d_Mo_spoil_52 rfl <| ra_getR A f_Mo_170 d_Mo_spoil_53 (Nat.le_of_ble_eq_true rfl) rfl rfl rfl <| ra_iload_n A d_Mo_spoil_56 rfl <| ra_iload_n A d_Mo_spoil_57 rfl <| ?_
  refine ra_iastore A d_Mo_spoil_58 (Nat.le_of_ble_eq_true rfl) rfl (vp_in_nI (by omega) (by decide)) ?_
  rw [nI_clamp (by omega)]
  refine ra_iload_n A d_Mo_spoil_59 rfl <| ?_
  exact ra_iret A ow d_Mo_spoil_60 (hZ k hkm rfl (fun q => q.elim c3 (fun q => absurd q (Int32.not_lt.mpr c4))))
theorem s_Mo_frame (K : xk_ok u KK) {k w : Int32} {F : Nat} (hF : F ≤ 75) (eF : v_model_encoded h = nI F) (hX : w < 0 ∨ 8 < w → X (.inl (some (.int 0))) (g_thr h 1) 0 0) (hY : ¬ (w < 0 ∨ 8 < w) → k < 0 ∨ nI F ≤ k → X (.inl (some (.int 0))) (g_thr h 2) 0 0)
    (hZ : ∀ a b : Nat, a < F → b < 9 → k = nI a → w = nI b → X (.inl (some (.int (h.1 149 (9 * a + b))))) (g_thr h 0) 0 0) : xm_M l (y0 u) KK m_Mo_frame [.ref 141, .int k, .int w] h X := by
  refine xm_of [] (by simp) (Nat.le_of_ble_eq_true rfl) (by decide) (fun x at0 => ?_)
  have A := xa_of at0 K
  have ow := at0.2.2.2.2.1
  have bad : w < 0 ∨ 8 < w → xg x (y0 u) 0 0 11 [some (.ref 141), some (.int k), some (.int w)] [.ref 141] h := by
    intro q
    refine ra_iconst A 1 d_Mo_frame_11 (by decide) <| ra_goto (q := 32) A d_Mo_frame_12 (by decide) <| ra_putI (ty := .int) A f_Mo_197 rfl rfl (by decide +kernel) rfl rfl d_Mo_frame_32 (Nat.le_of_ble_eq_true rfl) rfl rfl <| ra_aload_n A d_Mo_frame_35 rfl <| ra_getI A f_Mo_197 d_Mo_frame_36 (Nat.le_of_ble_eq_true rfl) rfl rfl <| ?_
    rw [xI_e]
    refine ra_if_le (q := 46) A d_Mo_frame_39 (by decide) (fun c1 => ?_) (fun c1 => ?_)
    · exact absurd c1 (by decide)
    · refine ra_iconst A 0 d_Mo_frame_42 (by decide) <| ra_goto (q := 57) A d_Mo_frame_43 (by decide) <| ?_
      exact ra_iret A ow d_Mo_frame_57 (hX q)
  refine ra_aload_n A d_Mo_frame_0 rfl <| ra_iload_n A d_Mo_frame_1 rfl <| ?_
  refine ra_if_lt (q := 11) A d_Mo_frame_2 (by decide) (fun c1 => ?_) (fun c1 => ?_)
  · exact bad (Or.inl c1)
  refine ra_iload_n A d_Mo_frame_5 rfl <| ra_bipush A 8 d_Mo_frame_6 (by decide) <| ?_
  refine ra_icmp_le (q := 15) A d_Mo_frame_8 (by decide) (fun c2 => ?_) (fun c2 => ?_)
  rotate_left
  · exact bad (Or.inr (Int32.not_le.mp c2))
  have hb : ¬ (w < 0 ∨ 8 < w) := fun q => q.elim c1 (fun q => absurd q (Int32.not_lt.mpr c2))
  have bad2 : k < 0 ∨ nI F ≤ k → xg x (y0 u) 0 0 27 [some (.ref 141), some (.int k), some (.int w)] [.ref 141] h := by
    intro q
    refine ra_iconst A 2 d_Mo_frame_27 (by decide) <| ra_goto (q := 32) A d_Mo_frame_28 (by decide) <| ra_putI (ty := .int) A f_Mo_197 rfl rfl (by decide +kernel) rfl rfl d_Mo_frame_32 (Nat.le_of_ble_eq_true rfl) rfl rfl <| ra_aload_n A d_Mo_frame_35 rfl <| ra_getI A f_Mo_197 d_Mo_frame_36 (Nat.le_of_ble_eq_true rfl) rfl rfl <| ?_
    rw [xI_e]
    refine ra_if_le (q := 46) A d_Mo_frame_39 (by decide) (fun c1 => ?_) (fun c1 => ?_)
    · exact absurd c1 (by decide)
    · refine ra_iconst A 0 d_Mo_frame_42 (by decide) <| ra_goto (q := 57) A d_Mo_frame_43 (by decide) <| ?_
      exact ra_iret A ow d_Mo_frame_57 (hY hb q)
  refine ra_iload_n A d_Mo_frame_15 rfl <| ?_
  refine ra_if_lt (q := 27) A d_Mo_frame_16 (by decide) (fun c3 => ?_) (fun c3 => ?_)
  · exact bad2 (Or.inl c3)
  refine ra_iload_n A d_Mo_frame_19 rfl <| ra_aload_n A d_Mo_frame_20 rfl <| ra_getI A f_Mo_331 d_Mo_frame_21 (Nat.le_of_ble_eq_true rfl) rfl rfl <| ?_
  rw [show h.1 141 15 = nI F from eF]
  refine ra_icmp_lt (q := 31) A d_Mo_frame_24 (by decide) (fun c4 => ?_) (fun c4 => ?_)
  rotate_left
  · exact bad2 (Or.inr (Int32.not_lt.mp c4))
  obtain ⟨b, hb2, rfl⟩ := nI_of c1
  obtain ⟨a, ha2, rfl⟩ := nI_of c3
  have hb9 : b ≤ 8 := (nI_leI hb2 (by decide)).mp (show nI b ≤ nI 8 from c2)
  have haF : a < F := (nI_ltI ha2 (by omega)).mp c4
  refine ra_iconst A 0 d_Mo_frame_31 (by decide) <| ra_putI (ty := .int) A f_Mo_197 rfl rfl (by decide +kernel) rfl rfl d_Mo_frame_32 (Nat.le_of_ble_eq_true rfl) rfl rfl <| ra_aload_n A d_Mo_frame_35 rfl <| ra_getI A f_Mo_197 d_Mo_frame_36 (Nat.le_of_ble_eq_true rfl) rfl rfl <| ?_
  rw [xI_e]
  refine ra_if_le (q := 46) A d_Mo_frame_39 (by decide) (fun c5 => ?_) (fun c5 => ?_)
  rotate_left
  · exact absurd (by decide) c5
  refine ra_aload_n A d_Mo_frame_46 rfl <| ra_getR A f_Mo_173 d_Mo_frame_47 (Nat.le_of_ble_eq_true rfl) rfl rfl rfl <| ra_bipush A 9 d_Mo_frame_50 (by decide) <| ra_iload_n A d_Mo_frame_52 rfl <| ra_imul A d_Mo_frame_53 <| ra_iload_n A d_Mo_frame_54 rfl <| ra_iadd A d_Mo_frame_55 <| ?_
  rw [show (9 : Int32) * nI a + nI b = nI (9 * a + b) by rw [show (9 : Int32) = nI 9 from rfl, pk_mul, nI_add]]
  refine ra_iaload A d_Mo_frame_56 (Nat.le_of_ble_eq_true rfl) rfl (vp_in_nI (by omega) (by decide)) ?_
  rw [nI_clamp (by omega), xI_k (by decide)]
  exact ra_iret A ow d_Mo_frame_57 (hZ a b haF (by omega) rfl rfl)
def g_feed (b : Int64) : Nat → Nat → Nat → xw_H → xw_H
  | 0, _, _, h => h
  | r + 1, i, m, h => g_feed b r (i + 1) (m + 1) (xw_I (xw_I h 148 m ((b >>> ((8 * nI i : Int32).toInt64 &&& 63)) &&& 255).toInt32) 141 12 (nI (m + 1)))
theorem s_Mo_feed (K : xk_ok u KK) {n : Int32} {b : Int64} {m : Nat} (hm : m ≤ 9000) (em : v_model_size h = nI m) (hX : n < 1 ∨ 8 < n → X (.inl (some (.int 0))) (g_thr h 1) 0 0)
    (hY : ∀ k : Nat, 1 ≤ k → k ≤ 8 → n = nI k → 9000 < m + k → X (.inl (some (.int (-1)))) (g_thr h 0) 0 0) (hZ : ∀ k : Nat, 1 ≤ k → k ≤ 8 → n = nI k → m + k ≤ 9000 → X (.inl (some (.int (nI (m + k))))) (g_feed b k 0 m (g_thr h 0)) 0 0) : xm_M l (y0 u) KK m_Mo_feed [.ref 141, .int n, .long b] h X := by
  refine xm_of [none] (by simp) (Nat.le_of_ble_eq_true rfl) (by decide) (fun x at0 => ?_)
  have A := xa_of at0 K
  have ow := at0.2.2.2.2.1
  have bad : n < 1 ∨ 8 < n → xg x (y0 u) 0 0 12 [some (.ref 141), some (.int n), some (.long b), none, none] [.ref 141] h := by
    intro q
    refine ra_iconst A 1 d_Mo_feed_12 (by decide) <| ra_goto (q := 17) A d_Mo_feed_13 (by decide) <| ra_putI (ty := .int) A f_Mo_197 rfl rfl (by decide +kernel) rfl rfl d_Mo_feed_17 (Nat.le_of_ble_eq_true rfl) rfl rfl <| ra_aload_n A d_Mo_feed_20 rfl <| ra_getI A f_Mo_197 d_Mo_feed_21 (Nat.le_of_ble_eq_true rfl) rfl rfl <| ?_
    rw [xI_e]
    refine ra_if_le (q := 29) A d_Mo_feed_24 (by decide) (fun c1 => ?_) (fun c1 => ?_)
    · exact absurd c1 (by decide)
    · refine ra_iconst A 0 d_Mo_feed_27 (by decide) <| ?_
      exact ra_iret A ow d_Mo_feed_28 (hX q)
  refine ra_aload_n A d_Mo_feed_0 rfl <| ra_iload_n A d_Mo_feed_1 rfl <| ra_iconst A 1 d_Mo_feed_2 (by decide) <| ?_
  refine ra_icmp_lt (q := 12) A d_Mo_feed_3 (by decide) (fun c1 => ?_) (fun c1 => ?_)
  · exact bad (Or.inl c1)
  refine ra_iload_n A d_Mo_feed_6 rfl <| ra_bipush A 8 d_Mo_feed_7 (by decide) <| ?_
  refine ra_icmp_le (q := 16) A d_Mo_feed_9 (by decide) (fun c2 => ?_) (fun c2 => ?_)
  rotate_left
  · exact bad (Or.inr (Int32.not_le.mp c2))
  have c0 : ¬ n < 0 := by
    rw [Int32.lt_iff_toInt_lt] at c1 ⊢
    have e1 : (1 : Int32).toInt = 1 := by decide
    have e0 : (0 : Int32).toInt = 0 := by decide
    omega
  obtain ⟨k, hk, rfl⟩ := nI_of c0
  have k8 : k ≤ 8 := (nI_leI hk (by decide)).mp (show nI k ≤ nI 8 from c2)
  have k1 : 1 ≤ k := Nat.le_of_not_lt (fun q => c1 ((nI_ltI hk (by decide)).mpr q : nI k < nI 1))
  refine ra_iconst A 0 d_Mo_feed_16 (by decide) <| ra_putI (ty := .int) A f_Mo_197 rfl rfl (by decide +kernel) rfl rfl d_Mo_feed_17 (Nat.le_of_ble_eq_true rfl) rfl rfl <| ra_aload_n A d_Mo_feed_20 rfl <| ra_getI A f_Mo_197 d_Mo_feed_21 (Nat.le_of_ble_eq_true rfl) rfl rfl <| ?_
  rw [xI_e]
  refine ra_if_le (q := 29) A d_Mo_feed_24 (by decide) (fun c5 => ?_) (fun c5 => ?_)
  rotate_left
  · exact absurd (by decide) c5
  refine ra_aload_n A d_Mo_feed_29 rfl <| ra_getI A f_Mo_354 d_Mo_feed_30 (Nat.le_of_ble_eq_true rfl) rfl rfl <| ra_iload_n A d_Mo_feed_33 rfl <| ra_iadd A d_Mo_feed_34 <| ?_
  rw [xI_j (by decide), show h.1 141 12 = nI m from em, nI_add]
  refine ra_sipush A 9000 d_Mo_feed_35 (by decide) <| ?_
  refine ra_icmp_le (q := 43) A d_Mo_feed_38 (by decide) (fun c3 => ?_) (fun c3 => ?_)
  rotate_left
  · refine ra_iconst A (-1) d_Mo_feed_41 (by decide) <| ?_
    exact ra_iret A ow d_Mo_feed_42 (hY k k1 k8 rfl (Nat.lt_of_not_le (fun q => c3 (show nI (m + k) ≤ nI 9000 from nI_le q (by decide)))))
  have c3 : m + k ≤ 9000 := (nI_leI (by omega) (by decide)).mp (show nI (m + k) ≤ nI 9000 from c3)
  have hZ := hZ k k1 k8 rfl c3
  refine ra_iconst A 0 d_Mo_feed_43 (by decide) <| ra_istore (L' := [_, _, _, _, _]) A d_Mo_feed_44 (by decide) rfl <| ?_
  have loop : ∀ (r i m' : Nat) (g : xw_H), i + r = k → m' + r = m + k → g.1 141 12 = nI m' → X (.inl (some (.int (nI (m + k))))) (g_feed b r i m' g) 0 0 →
      xg x (y0 u) 0 0 46 [some (.ref 141), some (.int (nI k)), some (.long b), none, some (.int (nI i))] [] g := by
    intro r
    induction r with
    | zero =>
      intro i m' g hi hm' eg hX
      refine ra_iload A d_Mo_feed_46 rfl <| ra_iload_n A d_Mo_feed_48 rfl <| ?_
      refine ra_icmp_ge (q := 89) A d_Mo_feed_49 (by decide) (fun c4 => ?_) (fun c4 => ?_)
      · refine ra_aload_n A d_Mo_feed_89 rfl <| ra_getI A f_Mo_354 d_Mo_feed_90 (Nat.le_of_ble_eq_true rfl) rfl rfl <| ?_
        rw [eg, show m' = m + k by omega]
        exact ra_iret A ow d_Mo_feed_93 hX
      · exact absurd (nI_le (by omega) (by omega)) c4
    | succ r ih =>
      intro i m' g hi hm' eg hX
      refine ra_iload A d_Mo_feed_46 rfl <| ra_iload_n A d_Mo_feed_48 rfl <| ?_
      refine ra_icmp_ge (q := 89) A d_Mo_feed_49 (by decide) (fun c4 => ?_) (fun c4 => ?_)
      · exact absurd c4 (nI_ge (by omega) (by omega))
      · refine ra_aload_n A d_Mo_feed_52 rfl <| ra_getR A f_Mo_170 d_Mo_feed_53 (Nat.le_of_ble_eq_true rfl) rfl rfl rfl <| ra_aload_n A d_Mo_feed_56 rfl <| ra_getI A f_Mo_354 d_Mo_feed_57 (Nat.le_of_ble_eq_true rfl) rfl rfl <| ?_
        rw [eg]
        refine ra_lload_n A d_Mo_feed_60 rfl <| ra_bipush A 8 d_Mo_feed_61 (by decide) <| ra_iload A d_Mo_feed_63 rfl <| ra_imul A d_Mo_feed_65 <| ra_lshr A d_Mo_feed_66 <| ra_ldc2 A k_Mo_224 d_Mo_feed_67 <| ra_land A d_Mo_feed_70 <| ra_l2i A d_Mo_feed_71 <| ?_
        refine ra_iastore A d_Mo_feed_72 (Nat.le_of_ble_eq_true rfl) rfl (vp_in_nI (by omega) (by decide)) ?_
        rw [nI_clamp (by omega)]
        refine ra_aload_n A d_Mo_feed_73 rfl <| ra_dup A d_Mo_feed_74 rfl <| ra_getI A f_Mo_354 d_Mo_feed_75 (Nat.le_of_ble_eq_true rfl) rfl rfl <| ?_
        rw [xI_k (by decide), eg]
        refine ra_iconst A 1 d_Mo_feed_78 (by decide) <| ra_iadd A d_Mo_feed_79 <| ?_
        rw [nI_1]
        refine ra_putI (ty := .int) A f_Mo_354 rfl rfl (by decide +kernel) rfl rfl d_Mo_feed_80 (Nat.le_of_ble_eq_true rfl) rfl rfl <| ra_iinc (L' := [_, _, _, _, _]) A 1 d_Mo_feed_83 rfl (by decide) (by decide) rfl <| ra_goto (q := 46) A d_Mo_feed_86 (by decide) <| ?_
        rw [nI_1]
        exact ih (i + 1) (m' + 1) _ (by omega) (by omega) xI_e hX
  exact loop k 0 m _ (by omega) (by omega) (by rw [xI_j (by decide)]; exact em) hZ
def g_told (h : xw_H) (w : Nat) : Int32 := if w = 0 then v_model_size h else if w = 1 then v_model_encoded h else if v_model_good h = 0 then -1 else if w = 2 then v_model_itsChannels h else if w = 3 then v_model_itsDepth h else if w = 4 then v_model_greatest h else if w = 5 then v_model_itsRate h else if w = 6 then v_model_heard h else if w = 7 then v_model_framesRead h else if v_model_summed h = 0 then 0 else 1
theorem s_Mo_told (K : xk_ok u KK) {w : Int32} (hX : w < 0 ∨ 8 < w → X (.inl (some (.int 0))) (g_thr h 1) 0 0) (hY : ∀ k : Nat, k ≤ 8 → w = nI k → X (.inl (some (.int (g_told h k)))) (g_thr h 0) 0 0) : xm_M l (y0 u) KK m_Mo_told [.ref 141, .int w] h X := by
  refine xm_of [] (by simp) (Nat.le_of_ble_eq_true rfl) (by decide) (fun x at0 => ?_)
  have A := xa_of at0 K
  have ow := at0.2.2.2.2.1
  have bad : w < 0 ∨ 8 < w → xg x (y0 u) 0 0 11 [some (.ref 141), some (.int w)] [.ref 141] h := by
    intro q
    refine ra_iconst A 1 d_Mo_told_11 (by decide) <| ra_goto (q := 16) A d_Mo_told_12 (by decide) <| ra_putI (ty := .int) A f_Mo_197 rfl rfl (by decide +kernel) rfl rfl d_Mo_told_16 (Nat.le_of_ble_eq_true rfl) rfl rfl <| ra_aload_n A d_Mo_told_19 rfl <| ra_getI A f_Mo_197 d_Mo_told_20 (Nat.le_of_ble_eq_true rfl) rfl rfl <| ?_
    rw [xI_e]
    refine ra_if_gt (q := 31) A d_Mo_told_23 (by decide) (fun c1 => ?_) (fun c1 => ?_)
    · refine ra_aload_n A d_Mo_told_31 rfl <| ra_getI A f_Mo_197 d_Mo_told_32 (Nat.le_of_ble_eq_true rfl) rfl rfl <| ?_
      rw [xI_e]
      refine ra_if_le (q := 42) A d_Mo_told_35 (by decide) (fun c2 => ?_) (fun c2 => ?_)
      · exact absurd c2 (by decide)
      · refine ra_iconst A 0 d_Mo_told_38 (by decide) <| ra_goto (q := 57) A d_Mo_told_39 (by decide) <| ?_
        exact ra_iret A ow d_Mo_told_57 (hX q)
    · exact absurd (by decide) c1
  refine ra_aload_n A d_Mo_told_0 rfl <| ra_iload_n A d_Mo_told_1 rfl <| ?_
  refine ra_if_lt (q := 11) A d_Mo_told_2 (by decide) (fun c1 => ?_) (fun c1 => ?_)
  · exact bad (Or.inl c1)
  refine ra_iload_n A d_Mo_told_5 rfl <| ra_bipush A 8 d_Mo_told_6 (by decide) <| ?_
  refine ra_icmp_le (q := 15) A d_Mo_told_8 (by decide) (fun c2 => ?_) (fun c2 => ?_)
  rotate_left
  · exact bad (Or.inr (Int32.not_le.mp c2))
  obtain ⟨k, hk, rfl⟩ := nI_of c1
  have hk8 : k ≤ 8 := (nI_leI hk (by decide)).mp (show nI k ≤ nI 8 from c2)
  have hY := hY k hk8 rfl
  refine ra_iconst A 0 d_Mo_told_15 (by decide) <| ra_putI (ty := .int) A f_Mo_197 rfl rfl (by decide +kernel) rfl rfl d_Mo_told_16 (Nat.le_of_ble_eq_true rfl) rfl rfl <| ra_aload_n A d_Mo_told_19 rfl <| ra_getI A f_Mo_197 d_Mo_told_20 (Nat.le_of_ble_eq_true rfl) rfl rfl <| ?_
  rw [xI_e]
  refine ra_if_gt (q := 31) A d_Mo_told_23 (by decide) (fun c3 => ?_) (fun c3 => ?_)
  · exact absurd c3 (by decide)
  refine ra_iload_n A d_Mo_told_26 rfl <| ra_iconst A 2 d_Mo_told_27 (by decide) <| ?_
  refine ra_icmp_ge (q := 58) A d_Mo_told_28 (by decide) (fun c4 => ?_) (fun c4 => ?_)
  rotate_left
  · have hk2 : k < 2 := (nI_ltI hk (by decide)).mp (show nI k < nI 2 from Int32.not_le.mp c4)
    refine ra_aload_n A d_Mo_told_31 rfl <| ra_getI A f_Mo_197 d_Mo_told_32 (Nat.le_of_ble_eq_true rfl) rfl rfl <| ?_
    rw [xI_e]
    refine ra_if_le (q := 42) A d_Mo_told_35 (by decide) (fun c5 => ?_) (fun c5 => ?_)
    rotate_left
    · exact absurd (by decide) c5
    refine ra_iload_n A d_Mo_told_42 rfl <| ?_
    refine ra_if_ne (q := 53) A d_Mo_told_43 (by decide) (fun c6 => ?_) (fun c6 => ?_)
    · have n0 : k ≠ 0 := fun e => c6 (by rw [e]; rfl)
      have e1 : k = 1 := by omega
      subst e1
      refine ra_aload_n A d_Mo_told_53 rfl <| ra_getI A f_Mo_331 d_Mo_told_54 (Nat.le_of_ble_eq_true rfl) rfl rfl <| ?_
      rw [xI_j (by decide)]
      exact ra_iret A ow d_Mo_told_57 hY
    · have e : k = 0 := (nI_eq hk (by decide)).mp (show nI k = nI 0 from c6)
      subst e
      refine ra_aload_n A d_Mo_told_46 rfl <| ra_getI A f_Mo_354 d_Mo_told_47 (Nat.le_of_ble_eq_true rfl) rfl rfl <| ?_
      rw [xI_j (by decide)]
      refine ra_goto (q := 57) A d_Mo_told_50 (by decide) <| ?_
      exact ra_iret A ow d_Mo_told_57 hY
  have hk2 : 2 ≤ k := (nI_leI (by decide) hk).mp (show nI 2 ≤ nI k from c4)
  refine ra_aload_n A d_Mo_told_58 rfl <| ra_getI A f_Mo_361 d_Mo_told_59 (Nat.le_of_ble_eq_true rfl) rfl rfl <| ?_
  rw [xI_j (by decide)]
  refine ra_if_ne (q := 67) A d_Mo_told_62 (by decide) (fun c7 => ?_) (fun c7 => ?_)
  rotate_left
  · refine ra_iconst A (-1) d_Mo_told_65 (by decide) <| ?_
    rw [g_told, if_neg (by omega), if_neg (by omega), if_pos c7] at hY
    exact ra_iret A ow d_Mo_told_66 hY
  rw [g_told, if_neg (by omega), if_neg (by omega), if_neg c7] at hY
  refine ra_iload_n A d_Mo_told_67 rfl <| ?_
  have hw : k = 2 ∨ k = 3 ∨ k = 4 ∨ k = 5 ∨ k = 6 ∨ k = 7 ∨ k = 8 := by omega
  rcases hw with rfl | rfl | rfl | rfl | rfl | rfl | rfl
  · refine ra_tsIn (q := 108) (o := 40) A d_Mo_told_68 (by decide) (by decide) (by decide) (by decide) ?_
    refine ra_aload_n A d_Mo_told_108 rfl <| ra_getI A f_Mo_365 d_Mo_told_109 (Nat.le_of_ble_eq_true rfl) rfl rfl <| ?_
    rw [xI_j (by decide)]
    exact ra_iret A ow d_Mo_told_112 hY
  · refine ra_tsIn (q := 113) (o := 45) A d_Mo_told_68 (by decide) (by decide) (by decide) (by decide) ?_
    refine ra_aload_n A d_Mo_told_113 rfl <| ra_getI A f_Mo_368 d_Mo_told_114 (Nat.le_of_ble_eq_true rfl) rfl rfl <| ?_
    rw [xI_j (by decide)]
    exact ra_iret A ow d_Mo_told_117 hY
  · refine ra_tsIn (q := 118) (o := 50) A d_Mo_told_68 (by decide) (by decide) (by decide) (by decide) ?_
    refine ra_aload_n A d_Mo_told_118 rfl <| ra_getI A f_Mo_371 d_Mo_told_119 (Nat.le_of_ble_eq_true rfl) rfl rfl <| ?_
    rw [xI_j (by decide)]
    exact ra_iret A ow d_Mo_told_122 hY
  · refine ra_tsIn (q := 123) (o := 55) A d_Mo_told_68 (by decide) (by decide) (by decide) (by decide) ?_
    refine ra_aload_n A d_Mo_told_123 rfl <| ra_getI A f_Mo_374 d_Mo_told_124 (Nat.le_of_ble_eq_true rfl) rfl rfl <| ?_
    rw [xI_j (by decide)]
    exact ra_iret A ow d_Mo_told_127 hY
  · refine ra_tsIn (q := 128) (o := 60) A d_Mo_told_68 (by decide) (by decide) (by decide) (by decide) ?_
    refine ra_aload_n A d_Mo_told_128 rfl <| ra_getI A f_Mo_377 d_Mo_told_129 (Nat.le_of_ble_eq_true rfl) rfl rfl <| ?_
    rw [xI_j (by decide)]
    exact ra_iret A ow d_Mo_told_132 hY
  · refine ra_tsIn (q := 133) (o := 65) A d_Mo_told_68 (by decide) (by decide) (by decide) (by decide) ?_
    refine ra_aload_n A d_Mo_told_133 rfl <| ra_getI A f_Mo_380 d_Mo_told_134 (Nat.le_of_ble_eq_true rfl) rfl rfl <| ?_
    rw [xI_j (by decide)]
    exact ra_iret A ow d_Mo_told_137 hY
  · refine ra_tsOut (q := 138) A d_Mo_told_68 (by decide) (by decide) ?_
    refine ra_aload_n A d_Mo_told_138 rfl <| ra_getI A f_Mo_383 d_Mo_told_139 (Nat.le_of_ble_eq_true rfl) rfl rfl <| ?_
    rw [xI_j (by decide)]
    simp only [show ¬ (8 : Nat) = 2 by decide, show ¬ (8 : Nat) = 3 by decide, show ¬ (8 : Nat) = 4 by decide, show ¬ (8 : Nat) = 5 by decide, show ¬ (8 : Nat) = 6 by decide, show ¬ (8 : Nat) = 7 by decide, if_false] at hY
    refine ra_if_eq (q := 149) A d_Mo_told_142 (by decide) (fun c8 => ?_) (fun c8 => ?_)
    · refine ra_iconst A 0 d_Mo_told_149 (by decide) <| ?_
      rw [if_pos c8] at hY
      exact ra_iret A ow d_Mo_told_150 hY
    · refine ra_iconst A 1 d_Mo_told_145 (by decide) <| ra_goto (q := 150) A d_Mo_told_146 (by decide) <| ?_
      rw [if_neg c8] at hY
      exact ra_iret A ow d_Mo_told_150 hY
theorem s_Mo_heard (K : xk_ok u KK) {ch i : Int32} {m : Nat} (hm : m ≤ 1200) (em0 : ¬ v_model_good h = 0 → v_model_heard h = nI m)
    (hX : ch < 0 ∨ 1 < ch → X (.inl (some (.int 0))) (g_thr h 1) 0 0)
    (hY : ∀ c : Nat, c < 2 → ch = nI c → (v_model_good h = 0 ∨ v_model_itsChannels h ≤ ch ∨ i < 0 ∨ v_model_heard h ≤ i) → X (.inl (some (.int 0))) (g_thr h 2) 0 0)
    (hZ : ∀ c k : Nat, c < 2 → ch = nI c → ¬ v_model_good h = 0 → ¬ v_model_itsChannels h ≤ ch → i = nI k → k < m → X (.inl (some (.int (h.1 153 (1200 * c + k))))) (g_thr h 0) 0 0) :
    xm_M l (y0 u) KK m_Mo_heard [.ref 141, .int ch, .int i] h X := by
  refine xm_of [] (by simp) (Nat.le_of_ble_eq_true rfl) (by decide) (fun x at0 => ?_)
  have A := xa_of at0 K
  have ow := at0.2.2.2.2.1
  have bad : ch < 0 ∨ 1 < ch → xg x (y0 u) 0 0 10 [some (.ref 141), some (.int ch), some (.int i)] [.ref 141] h := by
    intro q
    refine ra_iconst A 1 d_Mo_heard_10 (by decide) <| ra_goto (q := 46) A d_Mo_heard_11 (by decide) <| ra_putI (ty := .int) A f_Mo_197 rfl rfl (by decide +kernel) rfl rfl d_Mo_heard_46 (Nat.le_of_ble_eq_true rfl) rfl rfl <| ra_aload_n A d_Mo_heard_49 rfl <| ra_getI A f_Mo_197 d_Mo_heard_50 (Nat.le_of_ble_eq_true rfl) rfl rfl <| ?_
    rw [xI_e]
    refine ra_if_le (q := 60) A d_Mo_heard_53 (by decide) (fun c1 => ?_) (fun c1 => ?_)
    · exact absurd c1 (by decide)
    · refine ra_iconst A 0 d_Mo_heard_56 (by decide) <| ra_goto (q := 72) A d_Mo_heard_57 (by decide) <| ?_
      exact ra_iret A ow d_Mo_heard_72 (hX q)
  refine ra_aload_n A d_Mo_heard_0 rfl <| ra_iload_n A d_Mo_heard_1 rfl <| ?_
  refine ra_if_lt (q := 10) A d_Mo_heard_2 (by decide) (fun c1 => ?_) (fun c1 => ?_)
  · exact bad (Or.inl c1)
  refine ra_iload_n A d_Mo_heard_5 rfl <| ra_iconst A 1 d_Mo_heard_6 (by decide) <| ?_
  refine ra_icmp_le (q := 14) A d_Mo_heard_7 (by decide) (fun c2 => ?_) (fun c2 => ?_)
  rotate_left
  · exact bad (Or.inr (Int32.not_le.mp c2))
  obtain ⟨c, hc9, rfl⟩ := nI_of c1
  have hc : c < 2 := Nat.lt_succ_of_le ((nI_leI hc9 (by decide)).mp (show nI c ≤ nI 1 from c2))
  have bad2 : (v_model_good h = 0 ∨ v_model_itsChannels h ≤ nI c ∨ i < 0 ∨ v_model_heard h ≤ i) → xg x (y0 u) 0 0 41 [some (.ref 141), some (.int (nI c)), some (.int i)] [.ref 141] h := by
    intro q
    refine ra_iconst A 2 d_Mo_heard_41 (by decide) <| ra_goto (q := 46) A d_Mo_heard_42 (by decide) <| ra_putI (ty := .int) A f_Mo_197 rfl rfl (by decide +kernel) rfl rfl d_Mo_heard_46 (Nat.le_of_ble_eq_true rfl) rfl rfl <| ra_aload_n A d_Mo_heard_49 rfl <| ra_getI A f_Mo_197 d_Mo_heard_50 (Nat.le_of_ble_eq_true rfl) rfl rfl <| ?_
    rw [xI_e]
    refine ra_if_le (q := 60) A d_Mo_heard_53 (by decide) (fun c1 => ?_) (fun c1 => ?_)
    · exact absurd c1 (by decide)
    · refine ra_iconst A 0 d_Mo_heard_56 (by decide) <| ra_goto (q := 72) A d_Mo_heard_57 (by decide) <| ?_
      exact ra_iret A ow d_Mo_heard_72 (hY c hc rfl q)
  refine ra_aload_n A d_Mo_heard_14 rfl <| ra_getI A f_Mo_361 d_Mo_heard_15 (Nat.le_of_ble_eq_true rfl) rfl rfl <| ?_
  refine ra_if_eq (q := 41) A d_Mo_heard_18 (by decide) (fun c3 => ?_) (fun c3 => ?_)
  · exact bad2 (Or.inl c3)
  have em := em0 c3
  refine ra_iload_n A d_Mo_heard_21 rfl <| ra_aload_n A d_Mo_heard_22 rfl <| ra_getI A f_Mo_365 d_Mo_heard_23 (Nat.le_of_ble_eq_true rfl) rfl rfl <| ?_
  refine ra_icmp_ge (q := 41) A d_Mo_heard_26 (by decide) (fun c4 => ?_) (fun c4 => ?_)
  · exact bad2 (Or.inr (Or.inl c4))
  refine ra_iload_n A d_Mo_heard_29 rfl <| ?_
  refine ra_if_lt (q := 41) A d_Mo_heard_30 (by decide) (fun c5 => ?_) (fun c5 => ?_)
  · exact bad2 (Or.inr (Or.inr (Or.inl c5)))
  refine ra_iload_n A d_Mo_heard_33 rfl <| ra_aload_n A d_Mo_heard_34 rfl <| ra_getI A f_Mo_377 d_Mo_heard_35 (Nat.le_of_ble_eq_true rfl) rfl rfl <| ?_
  refine ra_icmp_lt (q := 45) A d_Mo_heard_38 (by decide) (fun c6 => ?_) (fun c6 => ?_)
  rotate_left
  · exact bad2 (Or.inr (Or.inr (Or.inr (Int32.not_lt.mp c6))))
  obtain ⟨k, hk, rfl⟩ := nI_of c5
  have hkm : k < m := (nI_ltI hk (by omega)).mp (show nI k < nI m by rw [← em]; exact c6)
  refine ra_iconst A 0 d_Mo_heard_45 (by decide) <| ra_putI (ty := .int) A f_Mo_197 rfl rfl (by decide +kernel) rfl rfl d_Mo_heard_46 (Nat.le_of_ble_eq_true rfl) rfl rfl <| ra_aload_n A d_Mo_heard_49 rfl <| ra_getI A f_Mo_197 d_Mo_heard_50 (Nat.le_of_ble_eq_true rfl) rfl rfl <| ?_
  rw [xI_e]
  refine ra_if_le (q := 60) A d_Mo_heard_53 (by decide) (fun c7 => ?_) (fun c7 => ?_)
  rotate_left
  · exact absurd (by decide) c7
  refine ra_aload_n A d_Mo_heard_60 rfl <| ra_getR A f_Mo_188 d_Mo_heard_61 (Nat.le_of_ble_eq_true rfl) rfl rfl rfl <| ra_sipush A 1200 d_Mo_heard_64 (by decide) <| ra_iload_n A d_Mo_heard_67 rfl <| ra_imul A d_Mo_heard_68 <| ra_iload_n A d_Mo_heard_69 rfl <| ra_iadd A d_Mo_heard_70 <| ?_
  rw [show (1200 : Int32) * nI c + nI k = nI (1200 * c + k) by rw [show (1200 : Int32) = nI 1200 from rfl, pk_mul, nI_add]]
  refine ra_iaload A d_Mo_heard_71 (Nat.le_of_ble_eq_true rfl) rfl (vp_in_nI (by omega) (by decide)) ?_
  rw [nI_clamp (by omega), xI_k (by decide)]
  exact ra_iret A ow d_Mo_heard_72 (hZ c k hc rfl c3 c4 rfl hkm)
end S52
