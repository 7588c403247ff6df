/-! SoundStream$Bytes -/
/-- room for a call -/
theorem xr_of {x : xg_T} {l : Launch} {y : xw_T} {KK : State → Prop} {M M' : xm_T} {X : xc_R → xw_H → Nat → Nat → Prop} {nc ns : Nat} (a : xg_at x l y KK M X) (hR : M'.2.2.2.2.frames + 1 ≤ M.2.2.2.2.frames ∧ 8 + (M'.2.2.1 + 11) + M'.2.2.2.2.locals ≤ M.2.2.2.2.locals ∧ nc + M'.2.2.2.2.cells ≤ M.2.2.2.2.cells ∧ ns + M'.2.2.2.2.slots ≤ M.2.2.2.2.slots) : xm_room x nc ns M' := by
  unfold xm_room
  rw [a.2.2.2.2.2.2.1]
  exact hR
theorem xi_in {i : Int32} {n : Nat} (h0 : ¬ i < 0) (h1 : i.toInt < n) : vp_in i n := vp_in_iff.mpr ⟨by
  rw [Int32.lt_iff_toInt_lt, Int32.toInt_zero] at h0
  omega, h1⟩
theorem xi_in2 {i len : Int32} {n : Nat} (h0 : ¬ i < 0) (h1 : ¬ len ≤ i) (h2 : len.toInt ≤ n) : vp_in i n := xi_in h0 (by
  rw [Int32.le_iff_toInt_le] at h1
  omega)
/-- the same locals, written otherwise -/
theorem xg_nrm {x : xg_T} {y : xw_T} {nc ns pc : Nat} {L : List (Option Value)} (L' : List (Option Value)) {S : List Value} {h : xw_H} (e : L = L') (k : xg x y nc ns pc L' S h) : xg x y nc ns pc L S h := e ▸ k
theorem nI_z : (nI 0) = 0 := nI_0
section S30
variable {u : xu_T} {l : Launch} {KK : State → Prop} {h : xw_H} {X : xc_R → xw_H → Nat → Nat → Prop}
/-- byte i, 0 for one that is not there -/
def f_get (h : xw_H) (i : Int32) : Int32 := if i < 0 then 0 else if v_bytes_length h ≤ i then 0 else a_data h i.toNatClampNeg &&& 255
theorem s_By_get (K : xk_ok u KK) {i : Int32} (hn : (v_bytes_length h).toInt ≤ 9000) (hX : X (.inl (some (.int (f_get h i)))) h 0 0) : xm_M l (y0 u) KK m_By_get [.ref 6, .int i] h X := by
  refine xm_of [] (by simp) (Nat.le_of_ble_eq_true rfl) (by decide) (fun x at0 => ?_)
  have A := xa_of at0 K
  have ow := at0.2.2.2.2.1
  refine ra_iload_n A d_By_get_0 rfl <| ?_
  refine ra_if_lt (q := 25) A d_By_get_1 (by decide) (fun c1 => ?_) (fun c1 => ?_)
  · refine ra_iconst A 0 d_By_get_25 (by decide) <| ?_
    rw [f_get, if_pos c1] at hX
    exact ra_iret A ow d_By_get_26 hX
  · refine ra_iload_n A d_By_get_4 rfl <| ra_aload_n A d_By_get_5 rfl <| ra_getI A f_By_15 d_By_get_6 (Nat.le_of_ble_eq_true rfl) rfl rfl <| ?_
    refine ra_icmp_ge (q := 25) A d_By_get_9 (by decide) (fun c2 => ?_) (fun c2 => ?_)
    · refine ra_iconst A 0 d_By_get_25 (by decide) <| ?_
      rw [f_get, if_neg c1, if_pos c2] at hX
      exact ra_iret A ow d_By_get_26 hX
    · refine ra_aload_n A d_By_get_12 rfl <| ra_getR A f_By_9 d_By_get_13 (Nat.le_of_ble_eq_true rfl) rfl rfl rfl <| ra_iload_n A d_By_get_16 rfl <| ?_
      refine ra_baload A d_By_get_17 (Nat.le_of_ble_eq_true rfl) rfl (xi_in2 c1 c2 hn) ?_
      refine ra_sipush A 255 d_By_get_18 (by decide) <| ra_iand A d_By_get_21 <| ra_goto (q := 26) A d_By_get_22 (by decide) <| ?_
      rw [f_get, if_neg c1, if_neg c2] at hX
      exact ra_iret A ow d_By_get_26 hX
/-- byte i becomes another one, if it is there -/
def f_set (h : xw_H) (i v : Int32) : xw_H := if i < 0 then h else if v_bytes_length h ≤ i then h else xw_I h 7 i.toNatClampNeg v.toInt8.toInt32
theorem s_By_set (K : xk_ok u KK) {i v : Int32} (hn : (v_bytes_length h).toInt ≤ 9000) (hX : X (.inl none) (f_set h i v) 0 0) : xm_M l (y0 u) KK m_By_set [.ref 6, .int i, .int v] h X := by
  refine xm_of [] (by simp) (Nat.le_of_ble_eq_true rfl) (by decide) (fun x at0 => ?_)
  have A := xa_of at0 K
  have ow := at0.2.2.2.2.1
  refine ra_iload_n A d_By_set_0 rfl <| ?_
  refine ra_if_lt (q := 20) A d_By_set_1 (by decide) (fun c1 => ?_) (fun c1 => ?_)
  · rw [f_set, if_pos c1] at hX
    exact ra_vret A ow d_By_set_20 hX
  · refine ra_iload_n A d_By_set_4 rfl <| ra_aload_n A d_By_set_5 rfl <| ra_getI A f_By_15 d_By_set_6 (Nat.le_of_ble_eq_true rfl) rfl rfl <| ?_
    refine ra_icmp_ge (q := 20) A d_By_set_9 (by decide) (fun c2 => ?_) (fun c2 => ?_)
    · rw [f_set, if_neg c1, if_pos c2] at hX
      exact ra_vret A ow d_By_set_20 hX
    · refine ra_aload_n A d_By_set_12 rfl <| ra_getR A f_By_9 d_By_set_13 (Nat.le_of_ble_eq_true rfl) rfl rfl rfl <| ra_iload_n A d_By_set_16 rfl <| ra_iload_n A d_By_set_17 rfl <| ra_i2b A d_By_set_18 <| ?_
      rw [f_set, if_neg c1, if_neg c2] at hX
      refine ra_bastore A d_By_set_19 (Nat.le_of_ble_eq_true rfl) rfl (xi_in2 c1 c2 hn) ?_
      exact ra_vret A ow d_By_set_20 (by simpa using hX)
/-- a byte comes behind the others -/
def f_add (h : xw_H) (v : Int32) : xw_H := if 9000 ≤ v_bytes_length h then h else xw_I (xw_I h 7 (v_bytes_length h).toNatClampNeg v.toInt8.toInt32) 6 1 (v_bytes_length h + 1)
theorem s_By_add (K : xk_ok u KK) {v : Int32} (h0 : ¬ v_bytes_length h < 0) (hX : X (.inl none) (f_add h v) 0 0) : xm_M l (y0 u) KK m_By_add [.ref 6, .int v] h X := by
  refine xm_of [] (by simp) (Nat.le_of_ble_eq_true rfl) (by decide) (fun x at0 => ?_)
  have A := xa_of at0 K
  have ow := at0.2.2.2.2.1
  refine ra_aload_n A d_By_add_0 rfl <| ra_getI A f_By_15 d_By_add_1 (Nat.le_of_ble_eq_true rfl) rfl rfl <| ra_sipush A 9000 d_By_add_4 (by decide) <| ?_
  refine ra_icmp_ge (q := 31) A d_By_add_7 (by decide) (fun c1 => ?_) (fun c1 => ?_)
  · rw [f_add, if_pos c1] at hX
    exact ra_vret A ow d_By_add_31 hX
  · refine ra_aload_n A d_By_add_10 rfl <| ra_getR A f_By_9 d_By_add_11 (Nat.le_of_ble_eq_true rfl) rfl rfl rfl <| ra_aload_n A d_By_add_14 rfl <| ra_getI A f_By_15 d_By_add_15 (Nat.le_of_ble_eq_true rfl) rfl rfl <| ra_iload_n A d_By_add_18 rfl <| ra_i2b A d_By_add_19 <| ?_
    rw [f_add, if_neg c1] at hX
    refine ra_bastore A d_By_add_20 (Nat.le_of_ble_eq_true rfl) rfl (xi_in2 h0 c1 (by decide)) ?_
    refine ra_aload_n A d_By_add_21 rfl <| ra_dup A d_By_add_22 rfl <| ra_getI A f_By_15 d_By_add_23 (Nat.le_of_ble_eq_true rfl) rfl rfl <| ra_iconst A 1 d_By_add_26 (by decide) <| ra_iadd A d_By_add_27 <| ra_putI (ty := .int) A f_By_15 rfl rfl (by decide +kernel) rfl rfl d_By_add_28 (Nat.le_of_ble_eq_true rfl) rfl rfl <| ?_
    exact ra_vret A ow d_By_add_31 (by simpa [xw_I, va_up] using hX)
/-- a check, bit by bit -/
def ck_bit (hi pat c : Int32) : Int32 := if c &&& hi = 0 then (c &&& (hi - 1)) <<< ((1 : Int32) &&& 31) else ((c &&& (hi - 1)) <<< ((1 : Int32) &&& 31)) ^^^ pat
def ck_bits (hi pat : Int32) : Nat → Int32 → Int32
  | 0, c => c
  | n + 1, c => ck_bits hi pat n (ck_bit hi pat c)
def ck_row (h : xw_H) (n hi pat : Int32) : Nat → Nat → Int32 → Int32
  | 0, _, c => c
  | k + 1, j, c => ck_row h n hi pat k (j + 1) (ck_bits hi pat 8 (c ^^^ (f_get h (nI j) <<< ((n - 8) &&& 31))))
def ck_pat (n : Int32) : Int32 := if n = 8 then 7 else 32773
def f_check (h : xw_H) (n : Int32) (a b : Nat) : Int32 := ck_row h n ((1 : Int32) <<< ((n - 1) &&& 31)) (ck_pat n) (b - a) a 0
theorem s_By_check (K : xk_ok u KK) {n : Int32} {a b : Nat} (hab : a ≤ b) (hb : b ≤ 9000) (hn : (v_bytes_length h).toInt ≤ 9000) (hX : X (.inl (some (.int (f_check h n a b)))) h 0 0) : xm_M l (y0 u) KK m_By_check [.ref 6, .int n, .int (nI a), .int (nI b)] h X := by
  refine xm_of [none, none, none, none, none, none] (by simp) (Nat.le_of_ble_eq_true rfl) (by decide) (fun x at0 => ?_)
  have A := xa_of at0 K
  have ow := at0.2.2.2.2.1
  have inner : ∀ (r q j : Nat) (hi pat c : Int32) (v9 : Option Value), q + r = 8 → (∀ (w8 w9 : Option Value), xg x (y0 u) 0 0 104 [some (.ref 6), some (.int n), some (.int (nI a)), some (.int (nI b)), some (.int hi), some (.int pat), some (.int (ck_bits hi pat r c)), some (.int (nI j)), w8, w9] [] h) →
      xg x (y0 u) 0 0 53 [some (.ref 6), some (.int n), some (.int (nI a)), some (.int (nI b)), some (.int hi), some (.int pat), some (.int c), some (.int (nI j)), some (.int (nI q)), v9] [] h := by
    intro r
    induction r with
    | zero =>
      intro q j hi pat c v9 hq k
      refine ra_iload A d_By_check_53 rfl <| ra_bipush A 8 d_By_check_55 (by decide) <| ?_
      refine ra_icmp_ge (q := 104) A d_By_check_57 (by decide) (fun c1 => ?_) (fun c1 => ?_)
      · exact k _ _
      · exact absurd (show (nI 8) ≤ nI q from nI_le (by omega) (by omega)) c1
    | succ r ih =>
      intro q j hi pat c v9 hq k
      refine ra_iload A d_By_check_53 rfl <| ra_bipush A 8 d_By_check_55 (by decide) <| ?_
      refine ra_icmp_ge (q := 104) A d_By_check_57 (by decide) (fun c1 => ?_) (fun c1 => ?_)
      · exact absurd c1 (show ¬ (nI 8) ≤ nI q from nI_ge (by omega) (by omega))
      · refine ra_iload A d_By_check_60 rfl <| ra_iload A d_By_check_62 rfl <| ra_iand A d_By_check_64 <| ?_
        refine ra_if_eq (q := 72) A d_By_check_65 (by decide) (fun c2 => ?_) (fun c2 => ?_)
        · refine ra_iconst A 0 d_By_check_72 (by decide) <| ra_istore (L' := [_, _, _, _, _, _, _, _, _, _]) A d_By_check_73 (by decide) rfl <| ra_iload A d_By_check_75 rfl <| ra_iload A d_By_check_77 rfl <| ra_iconst A 1 d_By_check_79 (by decide) <| ra_isub A d_By_check_80 <| ra_iand A d_By_check_81 <| ra_iconst A 1 d_By_check_82 (by decide) <| ra_ishl A d_By_check_83 <| ra_istore (L' := [_, _, _, _, _, _, _, _, _, _]) A d_By_check_84 (by decide) rfl <| ra_iload A d_By_check_86 rfl <| ?_
          refine ra_if_eq (q := 98) A d_By_check_88 (by decide) (fun c3 => ?_) (fun c3 => ?_)
          · refine ra_iinc (L' := [_, _, _, _, _, _, _, _, _, _]) A 1 d_By_check_98 rfl (by decide) (by decide) rfl <| ra_goto (q := 53) A d_By_check_101 (by decide) <| ?_
            rw [nI_1]
            refine ih (q + 1) j hi pat _ _ (by omega) (fun w8 w9 => ?_)
            have e := k w8 w9
            rw [ck_bits, ck_bit, if_pos c2] at e
            exact e
          · exact absurd rfl c3
        · refine ra_iconst A 1 d_By_check_68 (by decide) <| ra_goto (q := 73) A d_By_check_69 (by decide) <| ra_istore (L' := [_, _, _, _, _, _, _, _, _, _]) A d_By_check_73 (by decide) rfl <| ra_iload A d_By_check_75 rfl <| ra_iload A d_By_check_77 rfl <| ra_iconst A 1 d_By_check_79 (by decide) <| ra_isub A d_By_check_80 <| ra_iand A d_By_check_81 <| ra_iconst A 1 d_By_check_82 (by decide) <| ra_ishl A d_By_check_83 <| ra_istore (L' := [_, _, _, _, _, _, _, _, _, _]) A d_By_check_84 (by decide) rfl <| ra_iload A d_By_check_86 rfl <| ?_
          refine ra_if_eq (q := 98) A d_By_check_88 (by decide) (fun c3 => ?_) (fun c3 => ?_)
          · exact absurd c3 (by decide)
          · refine ra_iload A d_By_check_91 rfl <| ra_iload A d_By_check_93 rfl <| ra_ixor A d_By_check_95 <| ra_istore (L' := [_, _, _, _, _, _, _, _, _, _]) A d_By_check_96 (by decide) rfl <| ra_iinc (L' := [_, _, _, _, _, _, _, _, _, _]) A 1 d_By_check_98 rfl (by decide) (by decide) rfl <| ra_goto (q := 53) A d_By_check_101 (by decide) <| ?_
            rw [nI_1]
            refine ih (q + 1) j hi pat _ _ (by omega) (fun w8 w9 => ?_)
            have e := k w8 w9
            rw [ck_bits, ck_bit, if_neg c2] at e
            exact e
  have outer : ∀ (r j : Nat) (hi pat c : Int32) (v8 v9 : Option Value), j + r = b → X (.inl (some (.int (ck_row h n hi pat r j c)))) h 0 0 →
      xg x (y0 u) 0 0 28 [some (.ref 6), some (.int n), some (.int (nI a)), some (.int (nI b)), some (.int hi), some (.int pat), some (.int c), some (.int (nI j)), v8, v9] [] h := by
    intro r
    induction r with
    | zero =>
      intro j hi pat c v8 v9 hj hX
      refine ra_iload A d_By_check_28 rfl <| ra_iload_n A d_By_check_30 rfl <| ?_
      refine ra_icmp_ge (q := 110) A d_By_check_31 (by decide) (fun c1 => ?_) (fun c1 => ?_)
      · refine ra_iload A d_By_check_110 rfl <| ?_
        exact ra_iret A ow d_By_check_112 hX
      · exact absurd (nI_le (by omega) (by omega)) c1
    | succ r ih =>
      intro j hi pat c v8 v9 hj hX
      refine ra_iload A d_By_check_28 rfl <| ra_iload_n A d_By_check_30 rfl <| ?_
      refine ra_icmp_ge (q := 110) A d_By_check_31 (by decide) (fun c1 => ?_) (fun c1 => ?_)
      · exact absurd c1 (nI_ge (by omega) (by omega))
      · refine ra_iload A d_By_check_34 rfl <| ra_aload_n A d_By_check_36 rfl <| ra_iload A d_By_check_37 rfl <| ?_
        refine ra_callV (As := [_]) A ok_By_get l_By_20 im_By_get sl_By_get d_By_check_39 (Nat.le_of_ble_eq_true rfl) rfl rfl rfl (Nat.le_of_ble_eq_true rfl) (xr_of at0 (by decide)) (s_By_get K hn ?_)
        show xg x (y0 u) 0 0 42 _ _ h
        refine ra_iload_n A d_By_check_42 rfl <| ra_bipush A 8 d_By_check_43 (by decide) <| ra_isub A d_By_check_45 <| ra_ishl A d_By_check_46 <| ra_ixor A d_By_check_47 <| ra_istore (L' := [_, _, _, _, _, _, _, _, _, _]) A d_By_check_48 (by decide) rfl <| ra_iconst A 0 d_By_check_50 (by decide) <| ra_istore (L' := [_, _, _, _, _, _, _, _, _, _]) A d_By_check_51 (by decide) rfl <| ?_
        refine inner 8 0 j hi pat _ v9 rfl (fun w8 w9 => ?_)
        refine ra_iinc (L' := [_, _, _, _, _, _, _, _, _, _]) A 1 d_By_check_104 rfl (by decide) (by decide) rfl <| ra_goto (q := 28) A d_By_check_107 (by decide) <| ?_
        rw [nI_1]
        exact ih (j + 1) hi pat _ _ _ (by omega) hX
  refine ra_iconst A 1 d_By_check_0 (by decide) <| ra_iload_n A d_By_check_1 rfl <| ra_iconst A 1 d_By_check_2 (by decide) <| ra_isub A d_By_check_3 <| ra_ishl A d_By_check_4 <| ra_istore (L' := [_, _, _, _, _, _, _, _, _, _]) A d_By_check_5 (by decide) rfl <| ra_iload_n A d_By_check_7 rfl <| ra_bipush A 8 d_By_check_8 (by decide) <| ?_
  refine ra_icmp_ne (q := 18) A d_By_check_10 (by decide) (fun c1 => ?_) (fun c1 => ?_)
  · refine ra_ldc A k_By_19 d_By_check_18 <| ra_istore (L' := [_, _, _, _, _, _, _, _, _, _]) A d_By_check_20 (by decide) rfl <| ra_iconst A 0 d_By_check_22 (by decide) <| ra_istore (L' := [_, _, _, _, _, _, _, _, _, _]) A d_By_check_23 (by decide) rfl <| ra_iload_n A d_By_check_25 rfl <| ra_istore (L' := [_, _, _, _, _, _, _, _, _, _]) A d_By_check_26 (by decide) rfl <| ?_
    refine outer (b - a) a _ _ _ _ _ (by omega) ?_
    rw [f_check, ck_pat, if_neg c1] at hX
    exact hX
  · refine ra_bipush A 7 d_By_check_13 (by decide) <| ra_goto (q := 20) A d_By_check_15 (by decide) <| ra_istore (L' := [_, _, _, _, _, _, _, _, _, _]) A d_By_check_20 (by decide) rfl <| ra_iconst A 0 d_By_check_22 (by decide) <| ra_istore (L' := [_, _, _, _, _, _, _, _, _, _]) A d_By_check_23 (by decide) rfl <| ra_iload_n A d_By_check_25 rfl <| ra_istore (L' := [_, _, _, _, _, _, _, _, _, _]) A d_By_check_26 (by decide) rfl <| ?_
    refine outer (b - a) a _ _ _ _ _ (by omega) ?_
    rw [f_check, ck_pat, if_pos c1] at hX
    exact hX
end S30
