/-! SoundStream$Encoder: noteSubframe, note -/
def nts (S : Nat → Nat → Int32) (n D w : Nat) : List Int32 := [nI (sC (S w) n (dW D w)).2.1, nI (sW (S w) n), nI (kb S n D w)]
def ntl (S : Nat → Nat → Int32) (n D c f b : Nat) : List Int32 := [nI f, nI b, nI c] ++ nts S n D (sgo c 0) ++ (if c = 0 then [-1, -1, -1] else nts S n D (sgo c 1))
/-- three of a row's places are put -/
def p3 (h : xw_H) (r a : Nat) (x y z : Int32) : xw_H := xw_I (xw_I (xw_I h r a x) r (a + 1) y) r (a + 2) z
theorem p3_in {h : xw_H} {r a j : Nat} {x y z : Int32} : (p3 h r a x y z).1 r j = if j = a then x else if j = a + 1 then y else if j = a + 2 then z else h.1 r j := by
  unfold p3
  by_cases c2 : j = a + 2
  · subst c2; rw [xI_e, if_neg (by omega), if_neg (by omega), if_pos rfl]
  · rw [xI_j c2]
    by_cases c1 : j = a + 1
    · subst c1; rw [xI_e, if_neg (by omega), if_pos rfl]
    · rw [xI_j c1]
      by_cases c0 : j = a
      · subst c0; rw [xI_e, if_pos rfl]
      · rw [xI_j c0, if_neg c0, if_neg c1, if_neg c2]
theorem p3_k {h : xw_H} {r a k : Nat} {x y z : Int32} (e : k ≠ r) : (p3 h r a x y z).1 k = h.1 k := by
  unfold p3
  rw [xI_k e, xI_k e, xI_k e]
theorem p3_fr {h : xw_H} {r a : Nat} {x y z : Int32} : fr [r] h (p3 h r a x y z) := ((fr_I (by simp)).I (by simp)).I (by simp)
section S79
variable {u : xu_T} {l : Launch} {KK : State → Prop} {h : xw_H} {X : xc_R → xw_H → Nat → Nat → Prop}
theorem s_En_noteSubframe_124 (K : xk_ok u KK) {r a n d : Nat} {sm : Nat → Int32} (hr : r < 157) (hkd : kd0 r = .inr (0, 0, 9)) (hne : 124 ≠ r) (ha : a + 2 < 9) (hS : SF h 124 125 sm n d)
    (hX : X (.inl none) (p3 h r a (nI (sC sm n d).2.1) (nI (sW sm n)) (nI (8 + sW sm n + (sC sm n d).1))) 0 0) : xm_M l (y0 u) KK m_En_noteSubframe [.ref r, .int (nI a), .ref 124] h X := by
  refine xm_of [] (by simp) (Nat.le_of_ble_eq_true rfl) (by decide) (fun x at0 => ?_)
  have A := xa_of at0 K
  have ow := at0.2.2.2.2.1
  refine ra_aload_n A d_En_noteSubframe_0 rfl <| ra_iload_n A d_En_noteSubframe_1 rfl <| ra_aload_n A d_En_noteSubframe_2 rfl <| ra_getI A f_En_192 d_En_noteSubframe_3 (Nat.le_of_ble_eq_true rfl) rfl rfl <| ?_
  rw [hS.1.2.2.1]
  refine ra_iastore A d_En_noteSubframe_6 hr hkd (vp_in_nI (by omega) (by decide)) ?_
  rw [nI_clamp (by omega)]
  refine ra_aload_n A d_En_noteSubframe_7 rfl <| ra_iload_n A d_En_noteSubframe_8 rfl <| ra_iconst A 1 d_En_noteSubframe_9 (by decide) <| ra_iadd A d_En_noteSubframe_10 <| ra_aload_n A d_En_noteSubframe_11 rfl <| ra_getI A f_En_195 d_En_noteSubframe_12 (Nat.le_of_ble_eq_true rfl) rfl rfl <| ?_
  rw [xI_k hne, hS.1.2.2.2.1, nI_1]
  refine ra_iastore A d_En_noteSubframe_15 hr hkd (vp_in_nI (by omega) (by decide)) ?_
  rw [nI_clamp (by omega)]
  refine ra_aload_n A d_En_noteSubframe_16 rfl <| ra_iload_n A d_En_noteSubframe_17 rfl <| ra_iconst A 2 d_En_noteSubframe_18 (by decide) <| ra_iadd A d_En_noteSubframe_19 <| ra_aload_n A d_En_noteSubframe_20 rfl <| ra_getJ A f_En_151 d_En_noteSubframe_21 (Nat.le_of_ble_eq_true rfl) rfl rfl <| ?_
  rw [show (xw_I (xw_I h r a (nI (sC sm n d).2.1)) r (a + 1) (nI (sW sm n))).2 124 7 = h.2 124 7 from rfl, hS.2]
  refine ra_l2i A d_En_noteSubframe_24 <| ?_
  rw [lN_i, show nI a + 2 = nI (a + 2) from nI_add a 2]
  refine ra_iastore A d_En_noteSubframe_25 hr hkd (vp_in_nI (by omega) (by decide)) ?_
  rw [nI_clamp (by omega)]
  exact ra_vret A ow d_En_noteSubframe_26 hX
theorem s_En_noteSubframe_126 (K : xk_ok u KK) {r a n d : Nat} {sm : Nat → Int32} (hr : r < 157) (hkd : kd0 r = .inr (0, 0, 9)) (hne : 126 ≠ r) (ha : a + 2 < 9) (hS : SF h 126 127 sm n d)
    (hX : X (.inl none) (p3 h r a (nI (sC sm n d).2.1) (nI (sW sm n)) (nI (8 + sW sm n + (sC sm n d).1))) 0 0) : xm_M l (y0 u) KK m_En_noteSubframe [.ref r, .int (nI a), .ref 126] h X := by
  refine xm_of [] (by simp) (Nat.le_of_ble_eq_true rfl) (by decide) (fun x at0 => ?_)
  have A := xa_of at0 K
  have ow := at0.2.2.2.2.1
  refine ra_aload_n A d_En_noteSubframe_0 rfl <| ra_iload_n A d_En_noteSubframe_1 rfl <| ra_aload_n A d_En_noteSubframe_2 rfl <| ra_getI A f_En_192 d_En_noteSubframe_3 (Nat.le_of_ble_eq_true rfl) rfl rfl <| ?_
  rw [hS.1.2.2.1]
  refine ra_iastore A d_En_noteSubframe_6 hr hkd (vp_in_nI (by omega) (by decide)) ?_
  rw [nI_clamp (by omega)]
  refine ra_aload_n A d_En_noteSubframe_7 rfl <| ra_iload_n A d_En_noteSubframe_8 rfl <| ra_iconst A 1 d_En_noteSubframe_9 (by decide) <| ra_iadd A d_En_noteSubframe_10 <| ra_aload_n A d_En_noteSubframe_11 rfl <| ra_getI A f_En_195 d_En_noteSubframe_12 (Nat.le_of_ble_eq_true rfl) rfl rfl <| ?_
  rw [xI_k hne, hS.1.2.2.2.1, nI_1]
  refine ra_iastore A d_En_noteSubframe_15 hr hkd (vp_in_nI (by omega) (by decide)) ?_
  rw [nI_clamp (by omega)]
  refine ra_aload_n A d_En_noteSubframe_16 rfl <| ra_iload_n A d_En_noteSubframe_17 rfl <| ra_iconst A 2 d_En_noteSubframe_18 (by decide) <| ra_iadd A d_En_noteSubframe_19 <| ra_aload_n A d_En_noteSubframe_20 rfl <| ra_getJ A f_En_151 d_En_noteSubframe_21 (Nat.le_of_ble_eq_true rfl) rfl rfl <| ?_
  rw [show (xw_I (xw_I h r a (nI (sC sm n d).2.1)) r (a + 1) (nI (sW sm n))).2 126 7 = h.2 126 7 from rfl, hS.2]
  refine ra_l2i A d_En_noteSubframe_24 <| ?_
  rw [lN_i, show nI a + 2 = nI (a + 2) from nI_add a 2]
  refine ra_iastore A d_En_noteSubframe_25 hr hkd (vp_in_nI (by omega) (by decide)) ?_
  rw [nI_clamp (by omega)]
  exact ra_vret A ow d_En_noteSubframe_26 hX
theorem s_En_noteSubframe_128 (K : xk_ok u KK) {r a n d : Nat} {sm : Nat → Int32} (hr : r < 157) (hkd : kd0 r = .inr (0, 0, 9)) (hne : 128 ≠ r) (ha : a + 2 < 9) (hS : SF h 128 129 sm n d)
    (hX : X (.inl none) (p3 h r a (nI (sC sm n d).2.1) (nI (sW sm n)) (nI (8 + sW sm n + (sC sm n d).1))) 0 0) : xm_M l (y0 u) KK m_En_noteSubframe [.ref r, .int (nI a), .ref 128] h X := by
  refine xm_of [] (by simp) (Nat.le_of_ble_eq_true rfl) (by decide) (fun x at0 => ?_)
  have A := xa_of at0 K
  have ow := at0.2.2.2.2.1
  refine ra_aload_n A d_En_noteSubframe_0 rfl <| ra_iload_n A d_En_noteSubframe_1 rfl <| ra_aload_n A d_En_noteSubframe_2 rfl <| ra_getI A f_En_192 d_En_noteSubframe_3 (Nat.le_of_ble_eq_true rfl) rfl rfl <| ?_
  rw [hS.1.2.2.1]
  refine ra_iastore A d_En_noteSubframe_6 hr hkd (vp_in_nI (by omega) (by decide)) ?_
  rw [nI_clamp (by omega)]
  refine ra_aload_n A d_En_noteSubframe_7 rfl <| ra_iload_n A d_En_noteSubframe_8 rfl <| ra_iconst A 1 d_En_noteSubframe_9 (by decide) <| ra_iadd A d_En_noteSubframe_10 <| ra_aload_n A d_En_noteSubframe_11 rfl <| ra_getI A f_En_195 d_En_noteSubframe_12 (Nat.le_of_ble_eq_true rfl) rfl rfl <| ?_
  rw [xI_k hne, hS.1.2.2.2.1, nI_1]
  refine ra_iastore A d_En_noteSubframe_15 hr hkd (vp_in_nI (by omega) (by decide)) ?_
  rw [nI_clamp (by omega)]
  refine ra_aload_n A d_En_noteSubframe_16 rfl <| ra_iload_n A d_En_noteSubframe_17 rfl <| ra_iconst A 2 d_En_noteSubframe_18 (by decide) <| ra_iadd A d_En_noteSubframe_19 <| ra_aload_n A d_En_noteSubframe_20 rfl <| ra_getJ A f_En_151 d_En_noteSubframe_21 (Nat.le_of_ble_eq_true rfl) rfl rfl <| ?_
  rw [show (xw_I (xw_I h r a (nI (sC sm n d).2.1)) r (a + 1) (nI (sW sm n))).2 128 7 = h.2 128 7 from rfl, hS.2]
  refine ra_l2i A d_En_noteSubframe_24 <| ?_
  rw [lN_i, show nI a + 2 = nI (a + 2) from nI_add a 2]
  refine ra_iastore A d_En_noteSubframe_25 hr hkd (vp_in_nI (by omega) (by decide)) ?_
  rw [nI_clamp (by omega)]
  exact ra_vret A ow d_En_noteSubframe_26 hX
theorem s_En_noteSubframe_130 (K : xk_ok u KK) {r a n d : Nat} {sm : Nat → Int32} (hr : r < 157) (hkd : kd0 r = .inr (0, 0, 9)) (hne : 130 ≠ r) (ha : a + 2 < 9) (hS : SF h 130 131 sm n d)
    (hX : X (.inl none) (p3 h r a (nI (sC sm n d).2.1) (nI (sW sm n)) (nI (8 + sW sm n + (sC sm n d).1))) 0 0) : xm_M l (y0 u) KK m_En_noteSubframe [.ref r, .int (nI a), .ref 130] h X := by
  refine xm_of [] (by simp) (Nat.le_of_ble_eq_true rfl) (by decide) (fun x at0 => ?_)
  have A := xa_of at0 K
  have ow := at0.2.2.2.2.1
  refine ra_aload_n A d_En_noteSubframe_0 rfl <| ra_iload_n A d_En_noteSubframe_1 rfl <| ra_aload_n A d_En_noteSubframe_2 rfl <| ra_getI A f_En_192 d_En_noteSubframe_3 (Nat.le_of_ble_eq_true rfl) rfl rfl <| ?_
  rw [hS.1.2.2.1]
  refine ra_iastore A d_En_noteSubframe_6 hr hkd (vp_in_nI (by omega) (by decide)) ?_
  rw [nI_clamp (by omega)]
  refine ra_aload_n A d_En_noteSubframe_7 rfl <| ra_iload_n A d_En_noteSubframe_8 rfl <| ra_iconst A 1 d_En_noteSubframe_9 (by decide) <| ra_iadd A d_En_noteSubframe_10 <| ra_aload_n A d_En_noteSubframe_11 rfl <| ra_getI A f_En_195 d_En_noteSubframe_12 (Nat.le_of_ble_eq_true rfl) rfl rfl <| ?_
  rw [xI_k hne, hS.1.2.2.2.1, nI_1]
  refine ra_iastore A d_En_noteSubframe_15 hr hkd (vp_in_nI (by omega) (by decide)) ?_
  rw [nI_clamp (by omega)]
  refine ra_aload_n A d_En_noteSubframe_16 rfl <| ra_iload_n A d_En_noteSubframe_17 rfl <| ra_iconst A 2 d_En_noteSubframe_18 (by decide) <| ra_iadd A d_En_noteSubframe_19 <| ra_aload_n A d_En_noteSubframe_20 rfl <| ra_getJ A f_En_151 d_En_noteSubframe_21 (Nat.le_of_ble_eq_true rfl) rfl rfl <| ?_
  rw [show (xw_I (xw_I h r a (nI (sC sm n d).2.1)) r (a + 1) (nI (sW sm n))).2 130 7 = h.2 130 7 from rfl, hS.2]
  refine ra_l2i A d_En_noteSubframe_24 <| ?_
  rw [lN_i, show nI a + 2 = nI (a + 2) from nI_add a 2]
  refine ra_iastore A d_En_noteSubframe_25 hr hkd (vp_in_nI (by omega) (by decide)) ?_
  rw [nI_clamp (by omega)]
  exact ra_vret A ow d_En_noteSubframe_26 hX
theorem s_En_note (K : xk_ok u KK) {n D c f k b : Nat} {S : Nat → Nat → Int32} (hk : k < 75) (hc : c = 0 ∨ isC c) (ek : h.1 10 9 = nI k) (eb : h.1 6 1 = nI (f + b)) (hS : SA h S n D c)
    (hX : ∀ h', fr [12 + k] h h' → (∀ j, j < 9 → h'.1 (12 + k) j = (ntl S n D c f b).getD j 0) → X (.inl none) h' 0 0) : xm_M l (y0 u) KK m_En_note [.ref 10, .int (nI f), .int (nI c)] h X := by
  refine xm_of [none] (by simp) (Nat.le_of_ble_eq_true rfl) (by decide) (fun x at0 => ?_)
  have A := xa_of at0 K
  have ow := at0.2.2.2.2.1
  obtain ⟨r1, hkd⟩ := rf_11 k hk
  have hr : 12 + k < 157 := by omega
  have i0 : vp_in (0 : Int32) 9 := vp_in_nI (n := 0) (by decide) (by decide)
  have i1 : vp_in (1 : Int32) 9 := vp_in_nI (n := 1) (by decide) (by decide)
  have i2 : vp_in (2 : Int32) 9 := vp_in_nI (n := 2) (by decide) (by decide)
  refine ra_aload_n A d_En_note_0 rfl <| ra_getR A f_En_13 d_En_note_1 (Nat.le_of_ble_eq_true rfl) rfl rfl rfl <| ra_aload_n A d_En_note_4 rfl <| ra_getI A f_En_64 d_En_note_5 (Nat.le_of_ble_eq_true rfl) rfl rfl <| ?_
  rw [ek]
  refine ra_aaload (b := 12 + k) A d_En_note_8 (Nat.le_of_ble_eq_true rfl) rfl rfl (vp_in_nI hk (by decide)) (by rw [nI_clamp (by omega)]; exact r1) ?_
  refine ra_astore_n (L' := [_, _, _, _]) A d_En_note_9 (by decide) rfl <| ra_aload_n A d_En_note_10 rfl <| ra_iconst A 0 d_En_note_11 (by decide) <| ra_iload_n A d_En_note_12 rfl <| ?_
  refine ra_iastore A d_En_note_13 hr hkd i0 ?_
  refine ra_aload_n A d_En_note_14 rfl <| ra_iconst A 1 d_En_note_15 (by decide) <| ra_aload_n A d_En_note_16 rfl <| ra_getR A f_En_20 d_En_note_17 (Nat.le_of_ble_eq_true rfl) rfl rfl rfl <| ra_getI A f_En_58 d_En_note_20 (Nat.le_of_ble_eq_true rfl) rfl rfl <| ?_
  rw [xI_k (show 6 ≠ 12 + k by omega), eb]
  refine ra_iload_n A d_En_note_23 rfl <| ra_isub A d_En_note_24 <| ?_
  rw [pk_sub (show f ≤ f + b by omega), show f + b - f = b by omega]
  refine ra_iastore A d_En_note_25 hr hkd i1 ?_
  refine ra_aload_n A d_En_note_26 rfl <| ra_iconst A 2 d_En_note_27 (by decide) <| ra_iload_n A d_En_note_28 rfl <| ?_
  refine ra_iastore A d_En_note_29 hr hkd i2 ?_
  show xg x (y0 u) 0 0 30 _ _ (p3 h (12 + k) 0 (nI f) (nI b) (nI c))
  have hS0 : SA (p3 h (12 + k) 0 (nI f) (nI b) (nI c)) S n D c := hS.fr p3_fr (by simp; omega)
  have f0 : fr [12 + k] h (p3 h (12 + k) 0 (nI f) (nI b) (nI c)) := p3_fr
  have hc' := hc
  rcases hc with rfl | rfl | rfl | rfl | rfl
  · refine ra_aload_n A d_En_note_30 rfl <| ra_iconst A 3 d_En_note_31 (by decide) <| ra_aload_n A d_En_note_32 rfl <| ra_iload_n A d_En_note_33 rfl <| ?_
    refine ra_callV (As := [_]) A ok_En_firstOf l_En_147 im_En_firstOf sl_En_firstOf d_En_note_34 (Nat.le_of_ble_eq_true rfl) rfl rfl rfl (Nat.le_of_ble_eq_true rfl) (xr_of at0 (by decide)) (s_En_firstOf K (Or.inl rfl) ?_)
    show xg x (y0 u) 0 0 37 _ _ _
    refine ra_callS (As := [_, _, _]) A ok_En_noteSubframe l_En_182 st_En_noteSubframe d_En_note_37 rfl (Nat.le_of_ble_eq_true rfl) (xr_of at0 (by decide)) (s_En_noteSubframe_124 K hr hkd (by omega) (a := 3) (by decide) hS0.1 ?_)
    show xg x (y0 u) 0 0 40 _ _ _
    refine ra_iload_n A d_En_note_40 rfl <| ?_
    refine ra_if_eq (q := 58) A d_En_note_41 (by decide) (fun _ => ?_) (fun cc => absurd (rfl) cc)
    refine ra_aload_n A d_En_note_58 rfl <| ra_bipush A 6 d_En_note_59 (by decide) <| ra_bipush A 9 d_En_note_61 (by decide) <| ra_iconst A (-1) d_En_note_63 (by decide) <| ?_
    refine ra_callS (As := [_, _, _, _]) A ok_Jfillr l_En_186 st_Jfillr d_En_note_64 rfl (Nat.le_of_ble_eq_true rfl) (xr_of at0 (by decide)) (s_Jfillr K (a := 6) (b := 9) hr hkd (by decide) (by decide) (by decide) ?_)
    show xg x (y0 u) 0 0 67 _ _ _
    refine ra_vret A ow d_En_note_67 (hX _ ((f0.trans p3_fr).trans (fr_s1 (by simp))) (fun j hj => ?_))
    rw [xs1_e]
    simp only [p3_in]
    have hj9 : j = 0 ∨ j = 1 ∨ j = 2 ∨ j = 3 ∨ j = 4 ∨ j = 5 ∨ j = 6 ∨ j = 7 ∨ j = 8 := by omega
    rcases hj9 with rfl | rfl | rfl | rfl | rfl | rfl | rfl | rfl | rfl <;> rfl
  · refine ra_aload_n A d_En_note_30 rfl <| ra_iconst A 3 d_En_note_31 (by decide) <| ra_aload_n A d_En_note_32 rfl <| ra_iload_n A d_En_note_33 rfl <| ?_
    refine ra_callV (As := [_]) A ok_En_firstOf l_En_147 im_En_firstOf sl_En_firstOf d_En_note_34 (Nat.le_of_ble_eq_true rfl) rfl rfl rfl (Nat.le_of_ble_eq_true rfl) (xr_of at0 (by decide)) (s_En_firstOf K hc' ?_)
    show xg x (y0 u) 0 0 37 _ _ _
    refine ra_callS (As := [_, _, _]) A ok_En_noteSubframe l_En_182 st_En_noteSubframe d_En_note_37 rfl (Nat.le_of_ble_eq_true rfl) (xr_of at0 (by decide)) (s_En_noteSubframe_124 K hr hkd (by omega) (a := 3) (by decide) hS0.1 ?_)
    show xg x (y0 u) 0 0 40 _ _ _
    refine ra_iload_n A d_En_note_40 rfl <| ?_
    refine ra_if_eq (q := 58) A d_En_note_41 (by decide) (fun cc => absurd cc ((by decide))) (fun _ => ?_)
    refine ra_aload_n A d_En_note_44 rfl <| ra_bipush A 6 d_En_note_45 (by decide) <| ra_aload_n A d_En_note_47 rfl <| ra_iload_n A d_En_note_48 rfl <| ?_
    refine ra_callV (As := [_]) A ok_En_secondOf l_En_155 im_En_secondOf sl_En_secondOf d_En_note_49 (Nat.le_of_ble_eq_true rfl) rfl rfl rfl (Nat.le_of_ble_eq_true rfl) (xr_of at0 (by decide)) (s_En_secondOf K (hc'.resolve_left (by decide)) ?_)
    show xg x (y0 u) 0 0 52 _ _ _
    refine ra_callS (As := [_, _, _]) A ok_En_noteSubframe l_En_182 st_En_noteSubframe d_En_note_52 rfl (Nat.le_of_ble_eq_true rfl) (xr_of at0 (by decide)) (s_En_noteSubframe_126 K hr hkd (by omega) (a := 6) (by decide) ((hS0.2 (by decide)).1.fr p3_fr (by simp; omega) (by simp; omega)) ?_)
    show xg x (y0 u) 0 0 55 _ _ _
    refine ra_goto (q := 67) A d_En_note_55 (by decide) <| ?_
    refine ra_vret A ow d_En_note_67 (hX _ ((f0.trans p3_fr).trans p3_fr) (fun j hj => ?_))
    simp only [p3_in]
    have hj9 : j = 0 ∨ j = 1 ∨ j = 2 ∨ j = 3 ∨ j = 4 ∨ j = 5 ∨ j = 6 ∨ j = 7 ∨ j = 8 := by omega
    rcases hj9 with rfl | rfl | rfl | rfl | rfl | rfl | rfl | rfl | rfl <;> rfl
  · refine ra_aload_n A d_En_note_30 rfl <| ra_iconst A 3 d_En_note_31 (by decide) <| ra_aload_n A d_En_note_32 rfl <| ra_iload_n A d_En_note_33 rfl <| ?_
    refine ra_callV (As := [_]) A ok_En_firstOf l_En_147 im_En_firstOf sl_En_firstOf d_En_note_34 (Nat.le_of_ble_eq_true rfl) rfl rfl rfl (Nat.le_of_ble_eq_true rfl) (xr_of at0 (by decide)) (s_En_firstOf K hc' ?_)
    show xg x (y0 u) 0 0 37 _ _ _
    refine ra_callS (As := [_, _, _]) A ok_En_noteSubframe l_En_182 st_En_noteSubframe d_En_note_37 rfl (Nat.le_of_ble_eq_true rfl) (xr_of at0 (by decide)) (s_En_noteSubframe_124 K hr hkd (by omega) (a := 3) (by decide) hS0.1 ?_)
    show xg x (y0 u) 0 0 40 _ _ _
    refine ra_iload_n A d_En_note_40 rfl <| ?_
    refine ra_if_eq (q := 58) A d_En_note_41 (by decide) (fun cc => absurd cc ((by decide))) (fun _ => ?_)
    refine ra_aload_n A d_En_note_44 rfl <| ra_bipush A 6 d_En_note_45 (by decide) <| ra_aload_n A d_En_note_47 rfl <| ra_iload_n A d_En_note_48 rfl <| ?_
    refine ra_callV (As := [_]) A ok_En_secondOf l_En_155 im_En_secondOf sl_En_secondOf d_En_note_49 (Nat.le_of_ble_eq_true rfl) rfl rfl rfl (Nat.le_of_ble_eq_true rfl) (xr_of at0 (by decide)) (s_En_secondOf K (hc'.resolve_left (by decide)) ?_)
    show xg x (y0 u) 0 0 52 _ _ _
    refine ra_callS (As := [_, _, _]) A ok_En_noteSubframe l_En_182 st_En_noteSubframe d_En_note_52 rfl (Nat.le_of_ble_eq_true rfl) (xr_of at0 (by decide)) (s_En_noteSubframe_130 K hr hkd (by omega) (a := 6) (by decide) ((hS0.2 (by decide)).2.2.fr p3_fr (by simp; omega) (by simp; omega)) ?_)
    show xg x (y0 u) 0 0 55 _ _ _
    refine ra_goto (q := 67) A d_En_note_55 (by decide) <| ?_
    refine ra_vret A ow d_En_note_67 (hX _ ((f0.trans p3_fr).trans p3_fr) (fun j hj => ?_))
    simp only [p3_in]
    have hj9 : j = 0 ∨ j = 1 ∨ j = 2 ∨ j = 3 ∨ j = 4 ∨ j = 5 ∨ j = 6 ∨ j = 7 ∨ j = 8 := by omega
    rcases hj9 with rfl | rfl | rfl | rfl | rfl | rfl | rfl | rfl | rfl <;> rfl
  · refine ra_aload_n A d_En_note_30 rfl <| ra_iconst A 3 d_En_note_31 (by decide) <| ra_aload_n A d_En_note_32 rfl <| ra_iload_n A d_En_note_33 rfl <| ?_
    refine ra_callV (As := [_]) A ok_En_firstOf l_En_147 im_En_firstOf sl_En_firstOf d_En_note_34 (Nat.le_of_ble_eq_true rfl) rfl rfl rfl (Nat.le_of_ble_eq_true rfl) (xr_of at0 (by decide)) (s_En_firstOf K hc' ?_)
    show xg x (y0 u) 0 0 37 _ _ _
    refine ra_callS (As := [_, _, _]) A ok_En_noteSubframe l_En_182 st_En_noteSubframe d_En_note_37 rfl (Nat.le_of_ble_eq_true rfl) (xr_of at0 (by decide)) (s_En_noteSubframe_130 K hr hkd (by omega) (a := 3) (by decide) (hS0.2 (by decide)).2.2 ?_)
    show xg x (y0 u) 0 0 40 _ _ _
    refine ra_iload_n A d_En_note_40 rfl <| ?_
    refine ra_if_eq (q := 58) A d_En_note_41 (by decide) (fun cc => absurd cc ((by decide))) (fun _ => ?_)
    refine ra_aload_n A d_En_note_44 rfl <| ra_bipush A 6 d_En_note_45 (by decide) <| ra_aload_n A d_En_note_47 rfl <| ra_iload_n A d_En_note_48 rfl <| ?_
    refine ra_callV (As := [_]) A ok_En_secondOf l_En_155 im_En_secondOf sl_En_secondOf d_En_note_49 (Nat.le_of_ble_eq_true rfl) rfl rfl rfl (Nat.le_of_ble_eq_true rfl) (xr_of at0 (by decide)) (s_En_secondOf K (hc'.resolve_left (by decide)) ?_)
    show xg x (y0 u) 0 0 52 _ _ _
    refine ra_callS (As := [_, _, _]) A ok_En_noteSubframe l_En_182 st_En_noteSubframe d_En_note_52 rfl (Nat.le_of_ble_eq_true rfl) (xr_of at0 (by decide)) (s_En_noteSubframe_126 K hr hkd (by omega) (a := 6) (by decide) ((hS0.2 (by decide)).1.fr p3_fr (by simp; omega) (by simp; omega)) ?_)
    show xg x (y0 u) 0 0 55 _ _ _
    refine ra_goto (q := 67) A d_En_note_55 (by decide) <| ?_
    refine ra_vret A ow d_En_note_67 (hX _ ((f0.trans p3_fr).trans p3_fr) (fun j hj => ?_))
    simp only [p3_in]
    have hj9 : j = 0 ∨ j = 1 ∨ j = 2 ∨ j = 3 ∨ j = 4 ∨ j = 5 ∨ j = 6 ∨ j = 7 ∨ j = 8 := by omega
    rcases hj9 with rfl | rfl | rfl | rfl | rfl | rfl | rfl | rfl | rfl <;> rfl
  · refine ra_aload_n A d_En_note_30 rfl <| ra_iconst A 3 d_En_note_31 (by decide) <| ra_aload_n A d_En_note_32 rfl <| ra_iload_n A d_En_note_33 rfl <| ?_
    refine ra_callV (As := [_]) A ok_En_firstOf l_En_147 im_En_firstOf sl_En_firstOf d_En_note_34 (Nat.le_of_ble_eq_true rfl) rfl rfl rfl (Nat.le_of_ble_eq_true rfl) (xr_of at0 (by decide)) (s_En_firstOf K hc' ?_)
    show xg x (y0 u) 0 0 37 _ _ _
    refine ra_callS (As := [_, _, _]) A ok_En_noteSubframe l_En_182 st_En_noteSubframe d_En_note_37 rfl (Nat.le_of_ble_eq_true rfl) (xr_of at0 (by decide)) (s_En_noteSubframe_128 K hr hkd (by omega) (a := 3) (by decide) (hS0.2 (by decide)).2.1 ?_)
    show xg x (y0 u) 0 0 40 _ _ _
    refine ra_iload_n A d_En_note_40 rfl <| ?_
    refine ra_if_eq (q := 58) A d_En_note_41 (by decide) (fun cc => absurd cc ((by decide))) (fun _ => ?_)
    refine ra_aload_n A d_En_note_44 rfl <| ra_bipush A 6 d_En_note_45 (by decide) <| ra_aload_n A d_En_note_47 rfl <| ra_iload_n A d_En_note_48 rfl <| ?_
    refine ra_callV (As := [_]) A ok_En_secondOf l_En_155 im_En_secondOf sl_En_secondOf d_En_note_49 (Nat.le_of_ble_eq_true rfl) rfl rfl rfl (Nat.le_of_ble_eq_true rfl) (xr_of at0 (by decide)) (s_En_secondOf K (hc'.resolve_left (by decide)) ?_)
    show xg x (y0 u) 0 0 52 _ _ _
    refine ra_callS (As := [_, _, _]) A ok_En_noteSubframe l_En_182 st_En_noteSubframe d_En_note_52 rfl (Nat.le_of_ble_eq_true rfl) (xr_of at0 (by decide)) (s_En_noteSubframe_130 K hr hkd (by omega) (a := 6) (by decide) ((hS0.2 (by decide)).2.2.fr p3_fr (by simp; omega) (by simp; omega)) ?_)
    show xg x (y0 u) 0 0 55 _ _ _
    refine ra_goto (q := 67) A d_En_note_55 (by decide) <| ?_
    refine ra_vret A ow d_En_note_67 (hX _ ((f0.trans p3_fr).trans p3_fr) (fun j hj => ?_))
    simp only [p3_in]
    have hj9 : j = 0 ∨ j = 1 ∨ j = 2 ∨ j = 3 ∨ j = 4 ∨ j = 5 ∨ j = 6 ∨ j = 7 ∨ j = 8 := by omega
    rcases hj9 with rfl | rfl | rfl | rfl | rfl | rfl | rfl | rfl | rfl <;> rfl
end S79
