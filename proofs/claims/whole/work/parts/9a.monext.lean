/-! SoundStreamModel: fail, want, next, nextSigned -/
/-- the model reads at the bit p of the stream; its fault is e -/
def MR (h : xw_H) (F : Nat → Bool) (L e p : Nat) : Prop := h.1 141 12 = nI L ∧ (∀ q, q < L → ByF (h.1 148 q) F q) ∧ (h.2 141 13 = lN p ∧ h.1 141 22 = nI e) ∧ p ≤ 8 * L ∧ L ≤ 9000 ∧ e < 16
/-- only the place of reading and the fault have changed -/
def MM (h h' : xw_H) : Prop := fm [] [22] true h h'
theorem MM.rfl {h : xw_H} : MM h h := fm.rfl
theorem MM.trans {h g h' : xw_H} (x : MM h g) (y : MM g h') : MM h h' := fm.trans x y
theorem MR.of {h h' : xw_H} {F : Nat → Bool} {L e p e' p' : Nat} (M : MR h F L e p) (h12 : h'.1 141 12 = h.1 141 12) (h148 : h'.1 148 = h.1 148) (hp : h'.2 141 13 = lN p' ∧ h'.1 141 22 = nI e') (hp' : p' ≤ 8 * L) (he : e' < 16) : MR h' F L e' p' := ⟨by rw [h12]; exact M.1, fun q hq => by rw [h148]; exact M.2.1 q hq, hp, hp', M.2.2.2.2.1, he⟩
theorem MR.fm {h h' : xw_H} {F : Nat → Bool} {L e p : Nat} {C T : List Nat} (M : MR h F L e p) (f : fm C T false h h') (h1 : 148 ∉ C) (h2 : 12 ∉ T) (h3 : 22 ∉ T) : MR h' F L e p := M.of (f.2.1 12 h2) (fmk f h1 (by decide)) ⟨by rw [f.2.2 rfl]; exact M.2.2.1.1, by rw [f.2.1 22 h3]; exact M.2.2.1.2⟩ M.2.2.2.1 M.2.2.2.2.2
theorem xI_id {h : xw_H} {k j : Nat} {v : Int32} (e : h.1 k j = v) : xw_I h k j v = h := by
  subst e
  have h1 : upd (h.1 k) j (h.1 k j) = h.1 k := by
    funext q
    by_cases c : q = j
    · subst c; rw [pk_us]
    · rw [pk_un c]
  show (va_up h.1 k (upd (h.1 k) j (h.1 k j)), h.2) = h
  rw [h1, up_id]
theorem lsub_i {a b : Nat} (ha : a < 2 ^ 31) (hb : b ≤ 2 ^ 31) : (lN a - lN b).toInt32.toInt = (a : Int) - b := by
  have e : (lN a - lN b).toInt = (a : Int) - b := by
    rw [Int64.toInt_sub, pk_lT (by omega), pk_lT (by omega)]
    apply Int.bmod_eq_of_le <;> omega
  rw [Int64.toInt_toInt32, e]
  apply Int.bmod_eq_of_le <;> omega
section S9a
variable {u : xu_T} {l : Launch} {KK : State → Prop} {h : xw_H} {X : xc_R → xw_H → Nat → Nat → Prop}
theorem s_Mo_fail (K : xk_ok u KK) {n : Int32} (e : h.1 141 22 = 0) (hX : X (.inl none) (xw_I h 141 22 n) 0 0) : xm_M l (y0 u) KK m_Mo_fail [.ref 141, .int n] h X := by
  refine xm_of [] (by simp) (Nat.le_of_ble_eq_true rfl) (by decide) (fun x at0 => ?_)
  have A := xa_of at0 K
  have ow := at0.2.2.2.2.1
  refine ra_aload_n A d_Mo_fail_0 rfl <| ra_aload_n A d_Mo_fail_1 rfl <| ra_getI A f_Mo_386 d_Mo_fail_2 (Nat.le_of_ble_eq_true rfl) rfl rfl <| ?_
  rw [e]
  refine ra_if_ne (q := 12) A d_Mo_fail_5 (by decide) (fun cc => absurd (rfl) cc) (fun _ => ?_)
  refine ra_iload_n A d_Mo_fail_8 rfl <| ra_goto (q := 16) A d_Mo_fail_9 (by decide) <| ra_putI (ty := .int) A f_Mo_386 rfl rfl (by decide +kernel) rfl rfl d_Mo_fail_16 (Nat.le_of_ble_eq_true rfl) rfl rfl <| ?_
  exact ra_vret A ow d_Mo_fail_19 hX
theorem s_Mo_failF (K : xk_ok u KK) {n : Int32} (e : ¬ h.1 141 22 = 0) (hX : X (.inl none) h 0 0) : xm_M l (y0 u) KK m_Mo_fail [.ref 141, .int n] h X := by
  refine xm_of [] (by simp) (Nat.le_of_ble_eq_true rfl) (by decide) (fun x at0 => ?_)
  have A := xa_of at0 K
  have ow := at0.2.2.2.2.1
  refine ra_aload_n A d_Mo_fail_0 rfl <| ra_aload_n A d_Mo_fail_1 rfl <| ra_getI A f_Mo_386 d_Mo_fail_2 (Nat.le_of_ble_eq_true rfl) rfl rfl <| ?_
  refine ra_if_ne (q := 12) A d_Mo_fail_5 (by decide) (fun _ => ?_) (fun cc => absurd cc (e))
  refine ra_aload_n A d_Mo_fail_12 rfl <| ra_getI A f_Mo_386 d_Mo_fail_13 (Nat.le_of_ble_eq_true rfl) rfl rfl <| ra_putI (ty := .int) A f_Mo_386 rfl rfl (by decide +kernel) rfl rfl d_Mo_fail_16 (Nat.le_of_ble_eq_true rfl) rfl rfl <| ?_
  rw [xI_id rfl]
  exact ra_vret A ow d_Mo_fail_19 hX
theorem s_Mo_want (K : xk_ok u KK) {b : Bool} {n : Int32} (e : h.1 141 22 = 0) (hX : b = true → X (.inl none) h 0 0) (hY : b = false → X (.inl none) (xw_I h 141 22 n) 0 0) : xm_M l (y0 u) KK m_Mo_want [.ref 141, .int (bz b), .int n] h X := by
  refine xm_of [] (by simp) (Nat.le_of_ble_eq_true rfl) (by decide) (fun x at0 => ?_)
  have A := xa_of at0 K
  have ow := at0.2.2.2.2.1
  refine ra_iload_n A d_Mo_want_0 rfl <| ?_
  cases b
  · refine ra_if_ne (q := 9) A d_Mo_want_1 (by decide) (fun cc => absurd (rfl) cc) (fun _ => ?_)
    refine ra_aload_n A d_Mo_want_4 rfl <| ra_iload_n A d_Mo_want_5 rfl <| ?_
    refine ra_callV (As := [_]) A ok_Mo_fail l_Mo_389 im_Mo_fail sl_Mo_fail d_Mo_want_6 (Nat.le_of_ble_eq_true rfl) rfl rfl rfl (Nat.le_of_ble_eq_true rfl) (xr_of at0 (by decide)) (s_Mo_fail K e ?_)
    show xg x (y0 u) 0 0 9 _ _ _
    exact ra_vret A ow d_Mo_want_9 (hY rfl)
  · refine ra_if_ne (q := 9) A d_Mo_want_1 (by decide) (fun _ => ?_) (fun cc => absurd cc ((by decide)))
    exact ra_vret A ow d_Mo_want_9 (hX rfl)
theorem s_Mo_wantF (K : xk_ok u KK) {b n : Int32} (e : ¬ h.1 141 22 = 0) (hX : X (.inl none) h 0 0) : xm_M l (y0 u) KK m_Mo_want [.ref 141, .int b, .int n] h X := by
  refine xm_of [] (by simp) (Nat.le_of_ble_eq_true rfl) (by decide) (fun x at0 => ?_)
  have A := xa_of at0 K
  have ow := at0.2.2.2.2.1
  refine ra_iload_n A d_Mo_want_0 rfl <| ?_
  by_cases c : b = 0
  · refine ra_if_ne (q := 9) A d_Mo_want_1 (by decide) (fun cc => absurd (c) cc) (fun _ => ?_)
    refine ra_aload_n A d_Mo_want_4 rfl <| ra_iload_n A d_Mo_want_5 rfl <| ?_
    refine ra_callV (As := [_]) A ok_Mo_fail l_Mo_389 im_Mo_fail sl_Mo_fail d_Mo_want_6 (Nat.le_of_ble_eq_true rfl) rfl rfl rfl (Nat.le_of_ble_eq_true rfl) (xr_of at0 (by decide)) (s_Mo_failF K e ?_)
    show xg x (y0 u) 0 0 9 _ _ _
    exact ra_vret A ow d_Mo_want_9 hX
  · refine ra_if_ne (q := 9) A d_Mo_want_1 (by decide) (fun _ => ?_) (fun cc => absurd cc (c))
    exact ra_vret A ow d_Mo_want_9 hX
theorem s_Mo_next (K : xk_ok u KK) {F : Nat → Bool} {L n p : Nat} {Q : Rr Nat} (M : MR h F L 0 p) (hn : n ≤ 48) (hq : rB F L n p = Q) (hX : ∀ v p' h', Q = .inr (v, p') → MM h h' → MR h' F L 0 p' → v < 2 ^ n → X (.inl (some (.long (lN v)))) h' 0 0) (hY : ∀ x h', Q = .inl x → MM h h' → MR h' F L x p → x ≠ 0 → X (.inl (some (.long (lN 0)))) h' 0 0) : xm_M l (y0 u) KK m_Mo_next [.ref 141, .int (nI n)] h X := by
  refine xm_of [none, none, none] (by simp) (Nat.le_of_ble_eq_true rfl) (by decide) (fun x at0 => ?_)
  have A := xa_of at0 K
  have ow := at0.2.2.2.2.1
  obtain ⟨m1, m2, ⟨m3, m4⟩, m5, m6, m7⟩ := id M
  unfold rB at hq
  refine ra_aload_n A d_Mo_next_0 rfl <| ra_getI A f_Mo_386 d_Mo_next_1 (Nat.le_of_ble_eq_true rfl) rfl rfl <| ?_
  rw [m4]
  refine ra_if_gt (q := 27) A d_Mo_next_4 (by decide) (fun cc => absurd cc ((by decide))) (fun _ => ?_)
  refine ra_aload_n A d_Mo_next_7 rfl <| ra_getJ A f_Mo_244 d_Mo_next_8 (Nat.le_of_ble_eq_true rfl) rfl rfl <| ?_
  rw [m3]
  refine ra_iload_n A d_Mo_next_11 rfl <| ra_i2l A d_Mo_next_12 <| ?_
  rw [nI_l (by omega)]
  refine ra_ladd A d_Mo_next_13 <| ?_
  rw [lN_add]
  refine ra_ldc2 A k_Mo_222 d_Mo_next_14 <| ra_aload_n A d_Mo_next_17 rfl <| ra_getI A f_Mo_354 d_Mo_next_18 (Nat.le_of_ble_eq_true rfl) rfl rfl <| ?_
  rw [m1]
  refine ra_i2l A d_Mo_next_21 <| ?_
  rw [nI_l (by omega)]
  refine ra_lmul A d_Mo_next_22 <| ra_lcmp A d_Mo_next_23 <| ?_
  rw [show (8 : Int64) * lN L = lN (8 * L) from lN_mul 8 L]
  by_cases c : p + n ≤ 8 * L
  · rw [if_pos c] at hq
    refine ra_if_le (q := 35) A d_Mo_next_24 (by decide) (fun _ => ?_) (fun cc => absurd (lc_le.mpr ((pk_lLE (by omega) (by omega)).mpr c)) cc)
    refine ra_lconst A 0 d_Mo_next_35 (by decide) <| ra_lstore_n (L' := [_, _, _, _, _]) A d_Mo_next_36 (by decide) rfl <| ra_iconst A 0 d_Mo_next_37 (by decide) <| ra_istore (L' := [_, _, _, _, _]) A d_Mo_next_38 (by decide) rfl <| ?_
    refine lp_up (σ := xw_H) (W := fun j g => xg x (y0 u) 0 0 40 [some (.ref 141), some (.int (nI n)), some (.long (lN (bv F p j))), none, some (.int (nI j))] [] g) (I := fun j g => MM h g ∧ MR g F L 0 (p + j)) n ?_ ?_ 0 h (Nat.zero_le _) ⟨MM.rfl, M⟩
    · rintro g ⟨hf, hR⟩
      refine ra_iload A d_Mo_next_40 rfl <| ra_iload_n A d_Mo_next_42 rfl <| ?_
      refine ra_icmp_ge (q := 99) A d_Mo_next_43 (by decide) (fun _ => ?_) (fun cc => absurd (Int32.le_refl _) cc)
      refine ra_lload_n A d_Mo_next_99 rfl <| ?_
      exact ra_lret A ow d_Mo_next_100 (hX _ _ g hq.symm hf hR (bv_lt n))
    · rintro j g hj ⟨hf, hR⟩ ih
      obtain ⟨q1, q2, ⟨q3, q4⟩, q5, q6, q7⟩ := id hR
      obtain ⟨b, hb, eb, tb⟩ := q2 ((p + j) / 8) (by omega)
      have hbv := bv_lt (F := F) (p := p) j
      have hj48 : 2 ^ j ≤ 2 ^ 47 := Nat.pow_le_pow_right (by decide) (by omega)
      have hFb := bt_lt (F (p + j))
      refine ra_iload A d_Mo_next_40 rfl <| ra_iload_n A d_Mo_next_42 rfl <| ?_
      refine ra_icmp_ge (q := 99) A d_Mo_next_43 (by decide) (fun cc => absurd cc (nI_ge hj (by omega))) (fun _ => ?_)
      refine ra_ldc2 A k_Mo_392 d_Mo_next_46 <| ra_lload_n A d_Mo_next_49 rfl <| ra_lmul A d_Mo_next_50 <| ?_
      rw [show (2 : Int64) * lN (bv F p j) = lN (2 * bv F p j) from lN_mul 2 _]
      refine ra_aload_n A d_Mo_next_51 rfl <| ra_getR A f_Mo_170 d_Mo_next_52 (Nat.le_of_ble_eq_true rfl) rfl rfl rfl <| ra_aload_n A d_Mo_next_55 rfl <| ra_getJ A f_Mo_244 d_Mo_next_56 (Nat.le_of_ble_eq_true rfl) rfl rfl <| ?_
      rw [q3]
      refine ra_ldc2 A k_Mo_222 d_Mo_next_59 <| ra_ldiv A d_Mo_next_62 (by decide) <| ?_
      rw [show lN (p + j) / 8 = lN ((p + j) / 8) from pk_lDiv (b := 8) (by omega) (by decide) (by decide)]
      refine ra_l2i A d_Mo_next_63 <| ?_
      rw [lN_i]
      refine ra_iaload A d_Mo_next_64 (Nat.le_of_ble_eq_true rfl) rfl (vp_in_nI (by omega) (by decide)) ?_
      rw [nI_clamp (by omega), eb]
      refine ra_bipush A 7 d_Mo_next_65 (by decide) <| ra_aload_n A d_Mo_next_67 rfl <| ra_getJ A f_Mo_244 d_Mo_next_68 (Nat.le_of_ble_eq_true rfl) rfl rfl <| ?_
      rw [q3]
      refine ra_ldc2 A k_Mo_222 d_Mo_next_71 <| ra_lrem A d_Mo_next_74 (by decide) <| ?_
      rw [show lN (p + j) - lN (p + j) / 8 * 8 = lN ((p + j) % 8) from pk_lRem (b := 8) (by omega) (by decide) (by decide)]
      refine ra_l2i A d_Mo_next_75 <| ?_
      rw [lN_i]
      refine ra_isub A d_Mo_next_76 <| ?_
      rw [show (7 : Int32) - nI ((p + j) % 8) = nI (7 - (p + j) % 8) from pk_sub (a := 7) (by omega)]
      refine ra_ishr A d_Mo_next_77 <| ra_iconst A 1 d_Mo_next_78 (by decide) <| ra_iand A d_Mo_next_79 <| ?_
      rw [ib_get _ (by omega), pk_tn (by omega), tb _ (Nat.mod_lt _ (by decide)), show 8 * ((p + j) / 8) + (p + j) % 8 = p + j by omega]
      refine ra_i2l A d_Mo_next_80 <| ?_
      rw [nI_l (by omega)]
      refine ra_ladd A d_Mo_next_81 <| ?_
      rw [lN_add, show 2 * bv F p j + (F (p + j)).toNat = bv F p (j + 1) from rfl]
      refine ra_lstore_n (L' := [_, _, _, _, _]) A d_Mo_next_82 (by decide) rfl <| ra_aload_n A d_Mo_next_83 rfl <| ra_dup A d_Mo_next_84 rfl <| ra_getJ A f_Mo_244 d_Mo_next_85 (Nat.le_of_ble_eq_true rfl) rfl rfl <| ?_
      rw [q3]
      refine ra_lconst A 1 d_Mo_next_88 (by decide) <| ra_ladd A d_Mo_next_89 <| ?_
      rw [lN_1]
      refine ra_putJ A f_Mo_244 rfl rfl (by decide +kernel) d_Mo_next_90 (Nat.le_of_ble_eq_true rfl) rfl rfl <| ra_iinc (L' := [_, _, _, _, _]) A 1 d_Mo_next_93 rfl (by decide) (by decide) rfl <| ra_goto (q := 40) A d_Mo_next_96 (by decide) <| ?_
      rw [nI_1]
      exact ih _ ⟨hf.trans fm_J, hR.of (by rw [xJ_1]) (by rw [xJ_1]) ⟨xJ_e, by rw [xJ_1]; exact q4⟩ (by omega) (by omega)⟩
  · rw [if_neg c] at hq
    refine ra_if_le (q := 35) A d_Mo_next_24 (by decide) (fun cc => absurd cc (fun z => c ((pk_lLE (by omega) (by omega)).mp (lc_le.mp z)))) (fun _ => ?_)
    refine ra_aload_n A d_Mo_next_27 rfl <| ra_bipush A 13 d_Mo_next_28 (by decide) <| ?_
    refine ra_callV (As := [_]) A ok_Mo_fail l_Mo_389 im_Mo_fail sl_Mo_fail d_Mo_next_30 (Nat.le_of_ble_eq_true rfl) rfl rfl rfl (Nat.le_of_ble_eq_true rfl) (xr_of at0 (by decide)) (s_Mo_fail K m4 ?_)
    show xg x (y0 u) 0 0 33 _ _ _
    refine ra_lconst A 0 d_Mo_next_33 (by decide) <| ?_
    exact ra_lret A ow d_Mo_next_34 (hY 13 _ hq.symm (fm_F (by decide)) (M.of (xI_j (by decide)) (xI_k (by decide)) ⟨m3, xI_e⟩ m5 (by decide)) (by decide))
theorem s_Mo_nextF (K : xk_ok u KK) {F : Nat → Bool} {L e p : Nat} {n : Int32} (M : MR h F L e p) (he : e ≠ 0) (hX : X (.inl (some (.long (lN 0)))) h 0 0) : xm_M l (y0 u) KK m_Mo_next [.ref 141, .int n] h X := by
  refine xm_of [none, none, none] (by simp) (Nat.le_of_ble_eq_true rfl) (by decide) (fun x at0 => ?_)
  have A := xa_of at0 K
  have ow := at0.2.2.2.2.1
  obtain ⟨m1, m2, ⟨m3, m4⟩, m5, m6, m7⟩ := id M
  refine ra_aload_n A d_Mo_next_0 rfl <| ra_getI A f_Mo_386 d_Mo_next_1 (Nat.le_of_ble_eq_true rfl) rfl rfl <| ?_
  rw [m4]
  refine ra_if_gt (q := 27) A d_Mo_next_4 (by decide) (fun _ => ?_) (fun cc => absurd (nI_lt (a := 0) (by omega) (by omega)) cc)
  refine ra_aload_n A d_Mo_next_27 rfl <| ra_bipush A 13 d_Mo_next_28 (by decide) <| ?_
  refine ra_callV (As := [_]) A ok_Mo_fail l_Mo_389 im_Mo_fail sl_Mo_fail d_Mo_next_30 (Nat.le_of_ble_eq_true rfl) rfl rfl rfl (Nat.le_of_ble_eq_true rfl) (xr_of at0 (by decide)) (s_Mo_failF K (by rw [m4]; exact nI_ne0 (by omega) (by omega)) ?_)
  show xg x (y0 u) 0 0 33 _ _ _
  refine ra_lconst A 0 d_Mo_next_33 (by decide) <| ?_
  exact ra_lret A ow d_Mo_next_34 hX
theorem s_Mo_nextSigned (K : xk_ok u KK) {F : Nat → Bool} {L n p : Nat} {Q : Rr Int32} (M : MR h F L 0 p) (hn : n ≤ 31) (hq : rS F L n p = Q) (hX : ∀ v p' h', Q = .inr (v, p') → MM h h' → MR h' F L 0 p' → X (.inl (some (.int v))) h' 0 0) (hY : ∀ x h', Q = .inl x → MM h h' → MR h' F L x p → x ≠ 0 → X (.inl (some (.int 0))) h' 0 0) : xm_M l (y0 u) KK m_Mo_nextSigned [.ref 141, .int (nI n)] h X := by
  refine xm_of [none, none] (by simp) (Nat.le_of_ble_eq_true rfl) (by decide) (fun x at0 => ?_)
  have A := xa_of at0 K
  have ow := at0.2.2.2.2.1
  unfold rS at hq
  refine ra_aload_n A d_Mo_nextSigned_0 rfl <| ra_iload_n A d_Mo_nextSigned_1 rfl <| ?_
  refine ra_callV (As := [_]) A ok_Mo_next l_Mo_394 im_Mo_next sl_Mo_next d_Mo_nextSigned_2 (Nat.le_of_ble_eq_true rfl) rfl rfl rfl (Nat.le_of_ble_eq_true rfl) (xr_of at0 (by decide)) (s_Mo_next K M (by omega) rfl (fun v p1 g1 e1 f1 M1 hv => ?_) (fun e g1 e1 f1 M1 he => ?_))
  · show xg x (y0 u) 0 0 5 _ _ g1
    rw [e1, rb_r] at hq
    refine ra_lstore_n (L' := [_, _, _, _]) A d_Mo_nextSigned_5 (by decide) rfl <| ra_iload_n A d_Mo_nextSigned_6 rfl <| ?_
    by_cases c0 : n = 0
    · subst c0
      refine ra_if_le (q := 28) A d_Mo_nextSigned_7 (by decide) (fun _ => ?_) (fun cc => absurd ((by decide)) cc)
      obtain rfl : v = 0 := by omega
      refine ra_lload_n A d_Mo_nextSigned_28 rfl <| ra_l2i A d_Mo_nextSigned_29 <| ?_
      rw [lN_i]
      exact ra_iret A ow d_Mo_nextSigned_30 (hX _ _ g1 hq.symm f1 M1)
    · have hp : (2 : Nat) ^ n = 2 * 2 ^ (n - 1) := by rw [← Nat.pow_succ']; congr 1; omega
      have hp30 : (2 : Nat) ^ n ≤ 2 ^ 31 := Nat.pow_le_pow_right (by decide) hn
      have hp0 : 0 < 2 ^ (n - 1) := Nat.two_pow_pos _
      have ht := sx_lt (n := n) (by omega) (by omega) hv
      refine ra_if_le (q := 28) A d_Mo_nextSigned_7 (by decide) (fun cc => absurd cc (nI_nle (by omega) (by omega))) (fun _ => ?_)
      refine ra_lload_n A d_Mo_nextSigned_10 rfl <| ra_iload_n A d_Mo_nextSigned_11 rfl <| ra_iconst A 1 d_Mo_nextSigned_12 (by decide) <| ra_isub A d_Mo_nextSigned_13 <| ?_
      rw [show nI n - 1 = nI (n - 1) from pk_sub (b := 1) (by omega)]
      refine ra_lshr A d_Mo_nextSigned_14 <| ?_
      rw [lN_shr (by omega) (by omega)]
      refine ra_lconst A 1 d_Mo_nextSigned_15 (by decide) <| ra_lcmp A d_Mo_nextSigned_16 <| ?_
      have hd : v / 2 ^ (n - 1) = 1 ↔ 2 ^ (n - 1) ≤ v := by
        constructor
        · intro q
          have := Nat.div_mul_le_self v (2 ^ (n - 1))
          rw [q] at this
          omega
        · intro q
          apply Nat.div_eq_of_lt_le
          · omega
          · omega
      by_cases c : 2 ^ (n - 1) ≤ v
      · refine ra_if_ne (q := 28) A d_Mo_nextSigned_17 (by decide) (fun cc => absurd (lc_eq.mpr (by rw [hd.mpr c]; rfl)) cc) (fun _ => ?_)
        refine ra_lload_n A d_Mo_nextSigned_20 rfl <| ra_lconst A 1 d_Mo_nextSigned_21 (by decide) <| ra_iload_n A d_Mo_nextSigned_22 rfl <| ra_lshl A d_Mo_nextSigned_23 <| ?_
        rw [show (1 : Int64) <<< ((nI n).toInt64 &&& 63) = lN (2 ^ n) by rw [show (1 : Int64) = lN 1 from rfl, wb_shl 1 (by omega), Nat.one_mul]]
        refine ra_lsub A d_Mo_nextSigned_24 <| ra_goto (q := 29) A d_Mo_nextSigned_25 (by decide) <| ra_l2i A d_Mo_nextSigned_29 <| ?_
        rw [show (lN v - lN (2 ^ n)).toInt32 = sx n v by
          apply i_of_toInt
          rw [lsub_i (by omega) (by omega), ht, if_pos c]
          push_cast
          rfl]
        exact ra_iret A ow d_Mo_nextSigned_30 (hX _ _ g1 hq.symm f1 M1)
      · have hle := Nat.div_le_self v (2 ^ (n - 1))
        refine ra_if_ne (q := 28) A d_Mo_nextSigned_17 (by decide) (fun _ => ?_) (fun cc => absurd cc (fun z => c (hd.mp ((pk_lEQ (b := 1) (by omega) (by decide)).mp (lc_eq.mp z)))))
        refine ra_lload_n A d_Mo_nextSigned_28 rfl <| ra_l2i A d_Mo_nextSigned_29 <| ?_
        rw [lN_i, show nI v = sx n v by
          apply i_of_toInt
          rw [nI_toInt (by omega), ht, if_neg c]]
        exact ra_iret A ow d_Mo_nextSigned_30 (hX _ _ g1 hq.symm f1 M1)
  · show xg x (y0 u) 0 0 5 _ _ g1
    rw [e1, rb_l] at hq
    refine ra_lstore_n (L' := [_, _, _, _]) A d_Mo_nextSigned_5 (by decide) rfl <| ra_iload_n A d_Mo_nextSigned_6 rfl <| ?_
    by_cases c0 : n = 0
    · subst c0
      refine ra_if_le (q := 28) A d_Mo_nextSigned_7 (by decide) (fun _ => ?_) (fun cc => absurd ((by decide)) cc)
      refine ra_lload_n A d_Mo_nextSigned_28 rfl <| ra_l2i A d_Mo_nextSigned_29 <| ?_
      exact ra_iret A ow d_Mo_nextSigned_30 (hY e g1 hq.symm f1 M1 he)
    · refine ra_if_le (q := 28) A d_Mo_nextSigned_7 (by decide) (fun cc => absurd cc (nI_nle (by omega) (by omega))) (fun _ => ?_)
      refine ra_lload_n A d_Mo_nextSigned_10 rfl <| ra_iload_n A d_Mo_nextSigned_11 rfl <| ra_iconst A 1 d_Mo_nextSigned_12 (by decide) <| ra_isub A d_Mo_nextSigned_13 <| ?_
      rw [show nI n - 1 = nI (n - 1) from pk_sub (b := 1) (by omega)]
      refine ra_lshr A d_Mo_nextSigned_14 <| ?_
      rw [lN_shr (by decide) (by omega), Nat.zero_div]
      refine ra_lconst A 1 d_Mo_nextSigned_15 (by decide) <| ra_lcmp A d_Mo_nextSigned_16 <| ?_
      refine ra_if_ne (q := 28) A d_Mo_nextSigned_17 (by decide) (fun _ => ?_) (fun cc => absurd cc (fun z => absurd (lc_eq.mp z) (by decide)))
      refine ra_lload_n A d_Mo_nextSigned_28 rfl <| ra_l2i A d_Mo_nextSigned_29 <| ?_
      exact ra_iret A ow d_Mo_nextSigned_30 (hY e g1 hq.symm f1 M1 he)
theorem s_Mo_nextSignedF (K : xk_ok u KK) {F : Nat → Bool} {L e n p : Nat} (M : MR h F L e p) (he : e ≠ 0) (hn : n ≤ 31) (hX : X (.inl (some (.int 0))) h 0 0) : xm_M l (y0 u) KK m_Mo_nextSigned [.ref 141, .int (nI n)] h X := by
  refine xm_of [none, none] (by simp) (Nat.le_of_ble_eq_true rfl) (by decide) (fun x at0 => ?_)
  have A := xa_of at0 K
  have ow := at0.2.2.2.2.1
  refine ra_aload_n A d_Mo_nextSigned_0 rfl <| ra_iload_n A d_Mo_nextSigned_1 rfl <| ?_
  refine ra_callV (As := [_]) A ok_Mo_next l_Mo_394 im_Mo_next sl_Mo_next d_Mo_nextSigned_2 (Nat.le_of_ble_eq_true rfl) rfl rfl rfl (Nat.le_of_ble_eq_true rfl) (xr_of at0 (by decide)) (s_Mo_nextF K M he ?_)
  show xg x (y0 u) 0 0 5 _ _ h
  refine ra_lstore_n (L' := [_, _, _, _]) A d_Mo_nextSigned_5 (by decide) rfl <| ra_iload_n A d_Mo_nextSigned_6 rfl <| ?_
  by_cases c0 : n = 0
  · subst c0
    refine ra_if_le (q := 28) A d_Mo_nextSigned_7 (by decide) (fun _ => ?_) (fun cc => absurd ((by decide)) cc)
    refine ra_lload_n A d_Mo_nextSigned_28 rfl <| ra_l2i A d_Mo_nextSigned_29 <| ?_
    exact ra_iret A ow d_Mo_nextSigned_30 hX
  · refine ra_if_le (q := 28) A d_Mo_nextSigned_7 (by decide) (fun cc => absurd cc (nI_nle (by omega) (by omega))) (fun _ => ?_)
    refine ra_lload_n A d_Mo_nextSigned_10 rfl <| ra_iload_n A d_Mo_nextSigned_11 rfl <| ra_iconst A 1 d_Mo_nextSigned_12 (by decide) <| ra_isub A d_Mo_nextSigned_13 <| ?_
    rw [show nI n - 1 = nI (n - 1) from pk_sub (b := 1) (by omega)]
    refine ra_lshr A d_Mo_nextSigned_14 <| ?_
    rw [lN_shr (by decide) (by omega), Nat.zero_div]
    refine ra_lconst A 1 d_Mo_nextSigned_15 (by decide) <| ra_lcmp A d_Mo_nextSigned_16 <| ?_
    refine ra_if_ne (q := 28) A d_Mo_nextSigned_17 (by decide) (fun _ => ?_) (fun cc => absurd cc (fun z => absurd (lc_eq.mp z) (by decide)))
    refine ra_lload_n A d_Mo_nextSigned_28 rfl <| ra_l2i A d_Mo_nextSigned_29 <| ?_
    exact ra_iret A ow d_Mo_nextSigned_30 hX
end S9a
