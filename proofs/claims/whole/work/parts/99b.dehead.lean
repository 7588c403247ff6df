/-! SoundStream$Decoder: suitsChannels, suitsDepth, readNumber, readSize, suitsSize, readHead -/
/-- only the head's fields and the reader's position have changed -/
def HD (h h' : xw_H) : Prop := fr [132, 133] h h' ∧ h'.1 133 3 = h.1 133 3 ∧ (∀ j, j ≠ 12 → j ≠ 13 → j ≠ 14 → h'.1 132 j = h.1 132 j) ∧ h'.2 132 = h.2 132
theorem HD.trans {h g h' : xw_H} (x : HD h g) (y : HD g h') : HD h h' := ⟨x.1.trans y.1, y.2.1.trans x.2.1, fun j a b c => (y.2.2.1 j a b c).trans (x.2.2.1 j a b c), y.2.2.2.trans x.2.2.2⟩
theorem RM1.hd {h h' : xw_H} (x : RM1 h h') : HD h h' := ⟨fun k hk => ⟨x.1 k (fun q => hk (by rw [q]; decide)), by rw [x.2.2]⟩, x.pl, fun j _ _ _ => by rw [x.1 132 (by decide)], by rw [x.2.2]⟩
theorem HD_I {h : xw_H} {j : Nat} {v : Int32} (hj : j = 12 ∨ j = 13 ∨ j = 14) : HD h (xw_I h 132 j v) := ⟨fr_I (by decide), by rw [xI_k (show 133 ≠ 132 by decide)], fun i a b c => xI_j (by omega), rfl⟩
theorem HD.er {h g h' : xw_H} {e : Nat} (x : HD h g) (E : ER g h' e) : ER h h' e := E.after ⟨x.1.mono (by decide), x.2.2.1 5 (by decide) (by decide) (by decide)⟩ x.2.1
theorem RD_I {h : xw_H} {F : Nat → Bool} {L p k j : Nat} {v : Int32} (R : RD h F L p) (h1 : k ≠ 6) (h2 : k ≠ 7) (h3 : k ≠ 133) : RD (xw_I h k j v) F L p := R.of (xI_k (fun q => h1 q.symm)) (xI_k (fun q => h2 q.symm)) (by rw [xI_k (fun q => h3 q.symm)]; exact R.2.2.1) R.2.2.2.1
section S99b
variable {u : xu_T} {l : Launch} {KK : State → Prop} {h : xw_H} {X : xc_R → xw_H → Nat → Nat → Prop}
theorem s_De_suitsChannels (K : xk_ok u KK) {c C : Nat} (hc : c < 16) (hC1 : 1 ≤ C) (hC : C ≤ 2) (ec : h.1 132 13 = nI c) (eC : h.1 136 0 = nI C) (hX : X (.inl (some (.int (bz (suC C c))))) h 0 0) : xm_M l (y0 u) KK m_De_suitsChannels [.ref 132] h X := by
  refine xm_of [] (by simp) (Nat.le_of_ble_eq_true rfl) (by decide) (fun x at0 => ?_)
  have A := xa_of at0 K
  have ow := at0.2.2.2.2.1
  unfold suC at hX
  refine ra_aload_n A d_De_suitsChannels_0 rfl <| ra_getI A f_De_147 d_De_suitsChannels_1 (Nat.le_of_ble_eq_true rfl) rfl rfl <| ?_
  rw [ec]
  refine ra_bipush A 8 d_De_suitsChannels_4 (by decide) <| ?_
  by_cases c8 : c < 8
  · refine ra_icmp_ge (q := 33) A d_De_suitsChannels_6 (by decide) (fun cc => absurd cc (nI_ge (b := 8) c8 (by decide))) (fun _ => ?_)
    rw [if_pos c8] at hX
    refine ra_aload_n A d_De_suitsChannels_9 rfl <| ra_getI A f_De_147 d_De_suitsChannels_10 (Nat.le_of_ble_eq_true rfl) rfl rfl <| ?_
    rw [ec]
    refine ra_aload_n A d_De_suitsChannels_13 rfl <| ra_getR A f_De_40 d_De_suitsChannels_14 (Nat.le_of_ble_eq_true rfl) rfl rfl rfl <| ra_getI A f_De_65 d_De_suitsChannels_17 (Nat.le_of_ble_eq_true rfl) rfl rfl <| ?_
    rw [eC]
    refine ra_iconst A 1 d_De_suitsChannels_20 (by decide) <| ra_isub A d_De_suitsChannels_21 <| ?_
    rw [show nI C - 1 = nI (C - 1) from pk_sub (b := 1) hC1]
    by_cases q : c + 1 = C
    · refine ra_icmp_ne (q := 29) A d_De_suitsChannels_22 (by decide) (fun cc => absurd ((by rw [show c = C - 1 by omega])) cc) (fun _ => ?_)
      rw [decide_eq_true q] at hX
      refine ra_iconst A 1 d_De_suitsChannels_25 (by decide) <| ra_goto (q := 58) A d_De_suitsChannels_26 (by decide) <| ?_
      exact ra_zret A ow rfl d_De_suitsChannels_58 hX
    · refine ra_icmp_ne (q := 29) A d_De_suitsChannels_22 (by decide) (fun _ => ?_) (fun cc => absurd cc (fun z => q (by have := (nI_eq (by omega) (by omega)).mp z; omega)))
      rw [decide_eq_false q] at hX
      refine ra_iconst A 0 d_De_suitsChannels_29 (by decide) <| ra_goto (q := 58) A d_De_suitsChannels_30 (by decide) <| ?_
      exact ra_zret A ow rfl d_De_suitsChannels_58 hX
  · refine ra_icmp_ge (q := 33) A d_De_suitsChannels_6 (by decide) (fun _ => ?_) (fun cc => absurd (nI_le (a := 8) (by omega) (by omega)) cc)
    rw [if_neg c8] at hX
    refine ra_aload_n A d_De_suitsChannels_33 rfl <| ra_getI A f_De_147 d_De_suitsChannels_34 (Nat.le_of_ble_eq_true rfl) rfl rfl <| ?_
    rw [ec]
    refine ra_bipush A 10 d_De_suitsChannels_37 (by decide) <| ?_
    by_cases c10 : c ≤ 10
    · refine ra_icmp_gt (q := 57) A d_De_suitsChannels_39 (by decide) (fun cc => absurd cc (Int32.not_lt.mpr (nI_le (b := 10) c10 (by decide)))) (fun _ => ?_)
      refine ra_aload_n A d_De_suitsChannels_42 rfl <| ra_getR A f_De_40 d_De_suitsChannels_43 (Nat.le_of_ble_eq_true rfl) rfl rfl rfl <| ra_getI A f_De_65 d_De_suitsChannels_46 (Nat.le_of_ble_eq_true rfl) rfl rfl <| ?_
      rw [eC]
      refine ra_iconst A 2 d_De_suitsChannels_49 (by decide) <| ?_
      by_cases q : C = 2
      · refine ra_icmp_ne (q := 57) A d_De_suitsChannels_50 (by decide) (fun cc => absurd ((by rw [q]; rfl)) cc) (fun _ => ?_)
        rw [decide_eq_true c10, decide_eq_true q] at hX
        refine ra_iconst A 1 d_De_suitsChannels_53 (by decide) <| ra_goto (q := 58) A d_De_suitsChannels_54 (by decide) <| ?_
        exact ra_zret A ow rfl d_De_suitsChannels_58 hX
      · refine ra_icmp_ne (q := 57) A d_De_suitsChannels_50 (by decide) (fun _ => ?_) (fun cc => absurd cc (fun z => q ((nI_eq (b := 2) (by omega) (by decide)).mp z)))
        rw [decide_eq_false q, Bool.and_false] at hX
        refine ra_iconst A 0 d_De_suitsChannels_57 (by decide) <| ?_
        exact ra_zret A ow rfl d_De_suitsChannels_58 hX
    · refine ra_icmp_gt (q := 57) A d_De_suitsChannels_39 (by decide) (fun _ => ?_) (fun cc => absurd (nI_lt (a := 10) (by omega) (by omega)) cc)
      rw [decide_eq_false c10, Bool.false_and] at hX
      refine ra_iconst A 0 d_De_suitsChannels_57 (by decide) <| ?_
      exact ra_zret A ow rfl d_De_suitsChannels_58 hX
theorem s_De_suitsDepth {s D : Nat} (hs : s < 8) (eD : h.1 136 1 = nI D) (hX : X (.inl (some (.int (bz (suD D s))))) h 0 0) : xm_M l (y0 u) (KK0 u) m_De_suitsDepth [.ref 132, .int (nI s)] h X := by
  refine xm_of [] (by simp) (Nat.le_of_ble_eq_true rfl) (by decide) (fun x at0 => ?_)
  have A := xa_of at0 (KK0_ok u)
  have ow := at0.2.2.2.2.1
  unfold suD at hX
  refine ra_iload_n A d_De_suitsDepth_0 rfl <| ?_
  by_cases c0 : s = 0
  · refine ra_if_eq (q := 19) A d_De_suitsDepth_1 (by decide) (fun _ => ?_) (fun cc => absurd ((by rw [c0]; rfl)) cc)
    rw [decide_eq_true c0, Bool.true_or] at hX
    refine ra_iconst A 1 d_De_suitsDepth_19 (by decide) <| ra_goto (q := 24) A d_De_suitsDepth_20 (by decide) <| ?_
    exact ra_zret A ow rfl d_De_suitsDepth_24 hX
  · refine ra_if_eq (q := 19) A d_De_suitsDepth_1 (by decide) (fun cc => absurd cc (nI_ne0 (by omega) (by omega))) (fun _ => ?_)
    rw [decide_eq_false c0, Bool.false_or] at hX
    refine ra_gets A at0.2.2.1.2.2.2.2.2.2.2.2.2.2.2.2.1 fs_De_183 d_De_suitsDepth_4 <| ra_iload_n A d_De_suitsDepth_7 rfl <| ?_
    refine ra_sti A at0.2.2.1.2.2.2.2.2.2.2.2.2.2.2.2.2 (vp_in_nI hs (by decide)) (by rw [nI_clamp (by omega)]) d_De_suitsDepth_8 ?_
    refine ra_aload_n A d_De_suitsDepth_9 rfl <| ra_getR A f_De_40 d_De_suitsDepth_10 (Nat.le_of_ble_eq_true rfl) rfl rfl rfl <| ra_getI A f_De_68 d_De_suitsDepth_13 (Nat.le_of_ble_eq_true rfl) rfl rfl <| ?_
    rw [eD]
    by_cases q : sv_DEPTHS.getD s 0 = nI D
    · refine ra_icmp_ne (q := 23) A d_De_suitsDepth_16 (by decide) (fun cc => absurd (q) cc) (fun _ => ?_)
      rw [decide_eq_true q] at hX
      refine ra_iconst A 1 d_De_suitsDepth_19 (by decide) <| ra_goto (q := 24) A d_De_suitsDepth_20 (by decide) <| ?_
      exact ra_zret A ow rfl d_De_suitsDepth_24 hX
    · refine ra_icmp_ne (q := 23) A d_De_suitsDepth_16 (by decide) (fun _ => ?_) (fun cc => absurd cc (q))
      rw [decide_eq_false q] at hX
      refine ra_iconst A 0 d_De_suitsDepth_23 (by decide) <| ?_
      exact ra_zret A ow rfl d_De_suitsDepth_24 hX
theorem s_De_readNumber (hl : l.stackTraces = false) {F : Nat → Bool} {L p num : Nat} {Q : Rr Unit} (R : RD h F L p) (hn : num < 2048) (hq : rNum F L num p = Q) (hX : ∀ p' h', Q = .inr ((), p') → RM1 h h' → RD h' F L p' → X (.inl none) h' 0 0) (hY : ∀ e h', Q = .inl e → ER h h' e → X (.inr ISE) h' 1 6) : xm_M l (y0 u) (KK0 u) m_De_readNumber [.ref 132, .int (nI num)] h X := by
  refine xm_of [none] (by simp) (Nat.le_of_ble_eq_true rfl) (by decide) (fun x at0 => ?_)
  have A := xa_of at0 (KK0_ok u)
  have K := KK0_ok u
  have ow := at0.2.2.2.2.1
  have hlx : (xg_l x).stackTraces = false := by rw [at0.2.2.2.2.2.1]; exact hl
  have hnl2 : (numB num).length ≤ 2 := by rw [numB_len]; split <;> omega
  unfold rNum at hq
  generalize hst : (fun (i : Nat) (_ : Unit) (p : Nat) => rb (rB F L 8 p) fun v p' => if v = (numB num).getD i 0 then (.inr ((), p') : Rr Unit) else .inl 6) = step at hq
  refine ra_iconst A 0 d_De_readNumber_0 (by decide) <| ra_istore_n (L' := [_, _, _]) A d_De_readNumber_1 (by decide) rfl <| ?_
  refine lp_up (σ := xw_H) (W := fun j g => xg x (y0 u) 0 0 2 [some (.ref 132), some (.int (nI num)), some (.int (nI j))] [] g) (I := fun j g => ∃ p', rL step () p j = .inr ((), p') ∧ RM1 h g ∧ RD g F L p') (numB num).length ?_ ?_ 0 h (Nat.zero_le _) ⟨_, rfl, RM1.rfl, R⟩
  · rintro g ⟨p', e, hf, hR⟩
    refine ra_iload_n A d_De_readNumber_2 rfl <| ra_iload_n A d_De_readNumber_3 rfl <| ?_
    refine ra_callSN (As := [_]) A ok_SS_bytesOfNumber (at0.2.2.1.2.2.2.2.2.2.1 _ (List.mem_of_getElem? (i := 4) rfl)) st_SS_bytesOfNumber d_De_readNumber_4 rfl (Nat.le_of_ble_eq_true rfl) (xr_of at0 (by decide)) (s_SS_bytesOfNumber K hn ?_)
    show xg x (y0 u) 0 0 7 _ _ g
    refine ra_icmp_ge (q := 47) A d_De_readNumber_7 (by decide) (fun _ => ?_) (fun cc => absurd (Int32.le_refl _) cc)
    exact ra_vret A ow d_De_readNumber_47 (hX p' g (hq.symm.trans e) hf hR)
  · rintro j g hj ⟨p', e, hf, hR⟩ ih
    have e2 := rL_s e
    rw [show step j () p' = rb (rB F L 8 p') fun v p' => if v = (numB num).getD j 0 then (.inr ((), p') : Rr Unit) else .inl 6 by rw [← hst]] at e2
    have hlt := numB_lt (i := j) hn
    refine ra_iload_n A d_De_readNumber_2 rfl <| ra_iload_n A d_De_readNumber_3 rfl <| ?_
    refine ra_callSN (As := [_]) A ok_SS_bytesOfNumber (at0.2.2.1.2.2.2.2.2.2.1 _ (List.mem_of_getElem? (i := 4) rfl)) st_SS_bytesOfNumber d_De_readNumber_4 rfl (Nat.le_of_ble_eq_true rfl) (xr_of at0 (by decide)) (s_SS_bytesOfNumber K hn ?_)
    show xg x (y0 u) 0 0 7 _ _ g
    refine ra_icmp_ge (q := 47) A d_De_readNumber_7 (by decide) (fun cc => absurd cc (nI_ge hj (by omega))) (fun _ => ?_)
    refine ra_aload_n A d_De_readNumber_10 rfl <| ra_getR A f_De_24 d_De_readNumber_11 (Nat.le_of_ble_eq_true rfl) rfl rfl rfl <| ra_aload_n A d_De_readNumber_14 rfl <| ra_getR A f_De_24 d_De_readNumber_15 (Nat.le_of_ble_eq_true rfl) rfl rfl rfl <| ra_bipush A 8 d_De_readNumber_18 (by decide) <| ?_
    refine ra_callV (As := [_]) A ok_Rd_bits l_De_96 im_Rd_bits sl_Rd_bits d_De_readNumber_20 (Nat.le_of_ble_eq_true rfl) rfl rfl rfl (Nat.le_of_ble_eq_true rfl) (xr_of at0 (by decide)) (s_Rd_bits hlx (n := 8) hR (by decide) rfl (fun v p1 g1 e1 f1 R1 hv => ?_) (fun e' g1 e1 E => xgT_out ow at0.2.2.2.2.2.2.2.2.2.2 (hY e' g1 (by rw [← hq]; exact rL_err (e2.trans (by rw [e1, rb_l])) hj) (hf.er E))))
    show xg x (y0 u) 0 0 23 _ _ g1
    rw [e1, rb_r] at e2
    refine ra_iload_n A d_De_readNumber_23 rfl <| ra_iload_n A d_De_readNumber_24 rfl <| ?_
    refine ra_callSN (As := [_, _]) A ok_SS_byteOfNumber (at0.2.2.1.2.2.2.2.2.2.1 _ (List.mem_of_getElem? (i := 5) rfl)) st_SS_byteOfNumber d_De_readNumber_25 rfl (Nat.le_of_ble_eq_true rfl) (xr_of at0 (by decide)) (s_SS_byteOfNumber K hn hj ?_)
    show xg x (y0 u) 0 0 28 _ _ g1
    by_cases c : v = (numB num).getD j 0
    · refine ra_icmp_ne (q := 35) A d_De_readNumber_28 (by decide) (fun cc => absurd ((by rw [c])) cc) (fun _ => ?_)
      rw [if_pos c] at e2
      refine ra_iconst A 1 d_De_readNumber_31 (by decide) <| ra_goto (q := 36) A d_De_readNumber_32 (by decide) <| ra_bipush A 6 d_De_readNumber_36 (by decide) <| ?_
      refine ra_callV (As := [_, _]) A ok_Rd_demand l_De_92 im_Rd_demand sl_Rd_demand d_De_readNumber_38 (Nat.le_of_ble_eq_true rfl) rfl rfl rfl (Nat.le_of_ble_eq_true rfl) (xr_of at0 (by decide)) (s_Rd_demand hlx (c := true) (e := 6) (fun _ => ?_) (fun q => by cases q))
      show xg x (y0 u) 0 0 41 _ _ g1
      refine ra_iinc (L' := [_, _, _]) A 1 d_De_readNumber_41 rfl (by decide) (by decide) rfl <| ra_goto (q := 2) A d_De_readNumber_44 (by decide) <| ?_
      rw [nI_1]
      exact ih _ ⟨_, e2, hf.trans f1, R1⟩
    · refine ra_icmp_ne (q := 35) A d_De_readNumber_28 (by decide) (fun _ => ?_) (fun cc => absurd cc (fun z => c ((nI_eq (by omega) (by omega)).mp z)))
      rw [if_neg c] at e2
      refine ra_iconst A 0 d_De_readNumber_35 (by decide) <| ra_bipush A 6 d_De_readNumber_36 (by decide) <| ?_
      refine ra_callV (As := [_, _]) A ok_Rd_demand l_De_92 im_Rd_demand sl_Rd_demand d_De_readNumber_38 (Nat.le_of_ble_eq_true rfl) rfl rfl rfl (Nat.le_of_ble_eq_true rfl) (xr_of at0 (by decide)) (s_Rd_demand hlx (c := false) (e := 6) (fun q => by cases q) (fun _ => xgT_out ow at0.2.2.2.2.2.2.2.2.2.2 (hY 6 _ (by rw [← hq]; exact rL_err e2 hj) ((hf.trans f1).er ER_I))))
theorem s_De_readSize (hl : l.stackTraces = false) {F : Nat → Bool} {L p b : Nat} {Q : Rr Nat} (R : RD h F L p) (hb1 : 1 ≤ b) (hb : b < 16) (hq : rSz F L b p = Q) (hX : ∀ n p' h', Q = .inr (n, p') → RM1 h h' → RD h' F L p' → 1 ≤ n → n < 2 ^ 17 → X (.inl (some (.int (nI n)))) h' 0 0) (hY : ∀ e h', Q = .inl e → ER h h' e → X (.inr ISE) h' 1 6) : xm_M l (y0 u) (KK0 u) m_De_readSize [.ref 132, .int (nI b)] h X := by
  refine xm_of [] (by simp) (Nat.le_of_ble_eq_true rfl) (by decide) (fun x at0 => ?_)
  have A := xa_of at0 (KK0_ok u)
  have ow := at0.2.2.2.2.1
  have hlx : (xg_l x).stackTraces = false := by rw [at0.2.2.2.2.2.1]; exact hl
  unfold rSz at hq
  refine ra_iload_n A d_De_readSize_0 rfl <| ra_bipush A 6 d_De_readSize_1 (by decide) <| ?_
  by_cases c6 : b = 6
  · rw [if_pos c6] at hq
    refine ra_icmp_ne (q := 18) A d_De_readSize_3 (by decide) (fun cc => absurd ((by rw [c6]; rfl)) cc) (fun _ => ?_)
    refine ra_aload_n A d_De_readSize_6 rfl <| ra_getR A f_De_24 d_De_readSize_7 (Nat.le_of_ble_eq_true rfl) rfl rfl rfl <| ra_bipush A 8 d_De_readSize_10 (by decide) <| ?_
    refine ra_callV (As := [_]) A ok_Rd_bits l_De_96 im_Rd_bits sl_Rd_bits d_De_readSize_12 (Nat.le_of_ble_eq_true rfl) rfl rfl rfl (Nat.le_of_ble_eq_true rfl) (xr_of at0 (by decide)) (s_Rd_bits hlx (n := 8) R (by decide) rfl (fun v p1 g1 e1 f1 R1 hv => ?_) (fun e g1 e1 E => xgT_out ow at0.2.2.2.2.2.2.2.2.2.2 (hY e g1 (by rw [← hq, e1, rb_l]) E)))
    show xg x (y0 u) 0 0 15 _ _ g1
    rw [e1, rb_r] at hq
    refine ra_iconst A 1 d_De_readSize_15 (by decide) <| ra_iadd A d_De_readSize_16 <| ?_
    rw [nI_1]
    exact ra_iret A ow d_De_readSize_17 (hX _ _ g1 hq.symm f1 R1 (by omega) (by omega))
  · rw [if_neg c6] at hq
    refine ra_icmp_ne (q := 18) A d_De_readSize_3 (by decide) (fun _ => ?_) (fun cc => absurd cc (fun z => c6 ((nI_eq (b := 6) (by omega) (by decide)).mp z)))
    refine ra_iload_n A d_De_readSize_18 rfl <| ra_bipush A 7 d_De_readSize_19 (by decide) <| ?_
    by_cases c7 : b = 7
    · rw [if_pos c7] at hq
      refine ra_icmp_ne (q := 36) A d_De_readSize_21 (by decide) (fun cc => absurd ((by rw [c7]; rfl)) cc) (fun _ => ?_)
      refine ra_aload_n A d_De_readSize_24 rfl <| ra_getR A f_De_24 d_De_readSize_25 (Nat.le_of_ble_eq_true rfl) rfl rfl rfl <| ra_bipush A 16 d_De_readSize_28 (by decide) <| ?_
      refine ra_callV (As := [_]) A ok_Rd_bits l_De_96 im_Rd_bits sl_Rd_bits d_De_readSize_30 (Nat.le_of_ble_eq_true rfl) rfl rfl rfl (Nat.le_of_ble_eq_true rfl) (xr_of at0 (by decide)) (s_Rd_bits hlx (n := 16) R (by decide) rfl (fun v p1 g1 e1 f1 R1 hv => ?_) (fun e g1 e1 E => xgT_out ow at0.2.2.2.2.2.2.2.2.2.2 (hY e g1 (by rw [← hq, e1, rb_l]) E)))
      show xg x (y0 u) 0 0 33 _ _ g1
      rw [e1, rb_r] at hq
      refine ra_iconst A 1 d_De_readSize_33 (by decide) <| ra_iadd A d_De_readSize_34 <| ?_
      rw [nI_1]
      exact ra_iret A ow d_De_readSize_35 (hX _ _ g1 hq.symm f1 R1 (by omega) (by omega))
    · rw [if_neg c7] at hq
      refine ra_icmp_ne (q := 36) A d_De_readSize_21 (by decide) (fun _ => ?_) (fun cc => absurd cc (fun z => c7 ((nI_eq (b := 7) (by omega) (by decide)).mp z)))
      refine ra_iload_n A d_De_readSize_36 rfl <| ra_iconst A 1 d_De_readSize_37 (by decide) <| ?_
      by_cases c1 : b = 1
      · rw [if_pos c1] at hq
        refine ra_icmp_ne (q := 45) A d_De_readSize_38 (by decide) (fun cc => absurd ((by rw [c1]; rfl)) cc) (fun _ => ?_)
        refine ra_sipush A 192 d_De_readSize_41 (by decide) <| ?_
        exact ra_iret A ow d_De_readSize_44 (hX 192 _ h hq.symm RM1.rfl R (by decide) (by decide))
      · rw [if_neg c1] at hq
        refine ra_icmp_ne (q := 45) A d_De_readSize_38 (by decide) (fun _ => ?_) (fun cc => absurd cc (fun z => c1 ((nI_eq (b := 1) (by omega) (by decide)).mp z)))
        refine ra_iload_n A d_De_readSize_45 rfl <| ra_bipush A 6 d_De_readSize_46 (by decide) <| ?_
        by_cases c5 : b < 6
        · rw [if_pos c5] at hq
          have hp : 2 ^ (b - 2) ≤ 2 ^ 3 := Nat.pow_le_pow_right (n := 2) (by decide) (by omega)
          have hp0 := Nat.two_pow_pos (b - 2)
          refine ra_icmp_ge (q := 61) A d_De_readSize_48 (by decide) (fun cc => absurd cc (nI_ge (b := 6) c5 (by decide))) (fun _ => ?_)
          refine ra_sipush A 576 d_De_readSize_51 (by decide) <| ra_iload_n A d_De_readSize_54 rfl <| ra_iconst A 2 d_De_readSize_55 (by decide) <| ra_isub A d_De_readSize_56 <| ?_
          rw [show nI b - 2 = nI (b - 2) from pk_sub (b := 2) (by omega)]
          refine ra_ishl A d_De_readSize_57 <| ra_goto (q := 69) A d_De_readSize_58 (by decide) <| ?_
          rw [show (576 : Int32) <<< (nI (b - 2) &&& 31) = nI (576 * 2 ^ (b - 2)) from pk_shlN (n := 576) _ (b - 2) (s_l _ (by omega)) (by omega)]
          exact ra_iret A ow d_De_readSize_69 (hX _ _ h hq.symm RM1.rfl R (by omega) (by omega))
        · rw [if_neg c5] at hq
          have hp : 2 ^ (b - 8) ≤ 2 ^ 7 := Nat.pow_le_pow_right (n := 2) (by decide) (by omega)
          have hp0 := Nat.two_pow_pos (b - 8)
          refine ra_icmp_ge (q := 61) A d_De_readSize_48 (by decide) (fun _ => ?_) (fun cc => absurd (nI_le (a := 6) (by omega) (by omega)) cc)
          refine ra_sipush A 256 d_De_readSize_61 (by decide) <| ra_iload_n A d_De_readSize_64 rfl <| ra_bipush A 8 d_De_readSize_65 (by decide) <| ra_isub A d_De_readSize_67 <| ?_
          rw [show nI b - 8 = nI (b - 8) from pk_sub (b := 8) (by omega)]
          refine ra_ishl A d_De_readSize_68 <| ?_
          rw [show (256 : Int32) <<< (nI (b - 8) &&& 31) = nI (256 * 2 ^ (b - 8)) from pk_shlN (n := 256) _ (b - 8) (s_l _ (by omega)) (by omega)]
          exact ra_iret A ow d_De_readSize_69 (hX _ _ h hq.symm RM1.rfl R (by omega) (by omega))
theorem s_De_suitsSize (K : xk_ok u KK) {F : Nat → Bool} {frames len way last size : Nat} (hfr : frames < 2 ^ 31) (hsz : size < 2 ^ 31) (hla : last < 2 ^ 31) (hwy : way < 2) (hlen : len ≤ (if iKn F = 0 then 1200 else iKn F)) (hI : IN h F) (hok : iOk F) (e11 : h.1 132 11 = nI frames) (e12 : h.1 132 12 = nI way) (e14 : h.1 132 14 = nI size) (e40 : h.1 140 0 = nI len) (hX : X (.inl (some (.int (bz (suS F frames len way last size))))) h 0 0) : xm_M l (y0 u) KK m_De_suitsSize [.ref 132, .int (nI last)] h X := by
  refine xm_of [none, none] (by simp) (Nat.le_of_ble_eq_true rfl) (by decide) (fun x at0 => ?_)
  have A := xa_of at0 K
  have ow := at0.2.2.2.2.1
  have i0 : vp_in (0 : Int32) 2 := vp_in_nI (n := 0) (by decide) (by decide)
  have hGr16 : iGr F < 2 ^ 16 := bv_lt 16
  have hLe16 : iLe F < 2 ^ 16 := bv_lt 16
  have hKn := hok.2.1.2
  obtain ⟨⟨n9, n10, -, -, -⟩, m0, m1, m2, m3⟩ := hI
  unfold suS at hX
  generalize hB : (if way = 0 then iGr F else iLe F) = B at hX
  have hB16 : B < 2 ^ 16 := by rw [← hB]; split <;> assumption
  generalize hM : (if iKn F = 0 then 1200 else iKn F) = M at hX hlen
  have hM12 : M ≤ 1200 := by rw [← hM]; split <;> omega
  have at40 : xg x (y0 u) 0 0 40 [some (.ref 132), some (.int (nI last)), some (.int (nI B)), some (.int (nI M))] [] h := by
    have no : ¬ (size ≤ iGr F ∧ (frames = 0 ∨ B ≤ last) ∧ len + size ≤ M) → xg x (y0 u) 0 0 88 [some (.ref 132), some (.int (nI last)), some (.int (nI B)), some (.int (nI M))] [] h := by
      intro q
      rw [show (decide (size ≤ iGr F) && (decide (frames = 0) || decide (B ≤ last)) && decide (len + size ≤ M)) = false by
        cases hh : (decide (size ≤ iGr F) && (decide (frames = 0) || decide (B ≤ last)) && decide (len + size ≤ M)) with
        | false => rfl
        | true => simp at hh; exact absurd ⟨hh.1.1, hh.1.2, hh.2⟩ q] at hX
      refine ra_iconst A 0 d_De_suitsSize_88 (by decide) <| ?_
      exact ra_zret A ow rfl d_De_suitsSize_89 hX
    refine ra_aload_n A d_De_suitsSize_40 rfl <| ra_getI A f_De_58 d_De_suitsSize_41 (Nat.le_of_ble_eq_true rfl) rfl rfl <| ?_
    rw [e14]
    refine ra_aload_n A d_De_suitsSize_44 rfl <| ra_getR A f_De_40 d_De_suitsSize_45 (Nat.le_of_ble_eq_true rfl) rfl rfl rfl <| ra_getI A f_De_71 d_De_suitsSize_48 (Nat.le_of_ble_eq_true rfl) rfl rfl <| ?_
    rw [m2]
    by_cases c1 : size ≤ iGr F
    · refine ra_icmp_gt (q := 88) A d_De_suitsSize_51 (by decide) (fun cc => absurd cc (Int32.not_lt.mpr (nI_le c1 (by omega)))) (fun _ => ?_)
      refine ra_aload_n A d_De_suitsSize_54 rfl <| ra_getI A f_De_54 d_De_suitsSize_55 (Nat.le_of_ble_eq_true rfl) rfl rfl <| ?_
      rw [e11]
      have at66 : (frames = 0 ∨ B ≤ last) → xg x (y0 u) 0 0 66 [some (.ref 132), some (.int (nI last)), some (.int (nI B)), some (.int (nI M))] [] h := by
        intro q2
        refine ra_aload_n A d_De_suitsSize_66 rfl <| ra_getI A f_De_58 d_De_suitsSize_67 (Nat.le_of_ble_eq_true rfl) rfl rfl <| ?_
        rw [e14]
        refine ra_iload_n A d_De_suitsSize_70 rfl <| ra_aload_n A d_De_suitsSize_71 rfl <| ra_getR A f_De_40 d_De_suitsSize_72 (Nat.le_of_ble_eq_true rfl) rfl rfl rfl <| ra_getR A f_De_77 d_De_suitsSize_75 (Nat.le_of_ble_eq_true rfl) rfl rfl rfl <| ra_iconst A 0 d_De_suitsSize_78 (by decide) <| ?_
        refine ra_iaload A d_De_suitsSize_79 (Nat.le_of_ble_eq_true rfl) rfl i0 ?_
        rw [show h.1 140 (Int32.toNatClampNeg 0) = nI len from e40]
        refine ra_isub A d_De_suitsSize_80 <| ?_
        rw [pk_sub hlen]
        by_cases c3 : len + size ≤ M
        · refine ra_icmp_gt (q := 88) A d_De_suitsSize_81 (by decide) (fun cc => absurd cc (Int32.not_lt.mpr (nI_le (by omega) (by omega)))) (fun _ => ?_)
          rw [decide_eq_true c1, decide_eq_true c3, show (decide (frames = 0) || decide (B ≤ last)) = true by simp; exact q2] at hX
          refine ra_iconst A 1 d_De_suitsSize_84 (by decide) <| ra_goto (q := 89) A d_De_suitsSize_85 (by decide) <| ?_
          exact ra_zret A ow rfl d_De_suitsSize_89 hX
        · refine ra_icmp_gt (q := 88) A d_De_suitsSize_81 (by decide) (fun _ => ?_) (fun cc => absurd (nI_lt (by omega) (by omega)) cc)
          exact no (fun z => c3 z.2.2)
      by_cases c2 : frames = 0
      · refine ra_if_eq (q := 66) A d_De_suitsSize_58 (by decide) (fun _ => ?_) (fun cc => absurd ((by rw [c2]; rfl)) cc)
        exact at66 (Or.inl c2)
      · refine ra_if_eq (q := 66) A d_De_suitsSize_58 (by decide) (fun cc => absurd cc (nI_ne0 (by omega) (by omega))) (fun _ => ?_)
        refine ra_iload_n A d_De_suitsSize_61 rfl <| ra_iload_n A d_De_suitsSize_62 rfl <| ?_
        by_cases c4 : B ≤ last
        · refine ra_icmp_lt (q := 88) A d_De_suitsSize_63 (by decide) (fun cc => absurd cc (fun z => absurd ((nI_ltI (by omega) (by omega)).mp z) (by omega))) (fun _ => ?_)
          exact at66 (Or.inr c4)
        · refine ra_icmp_lt (q := 88) A d_De_suitsSize_63 (by decide) (fun _ => ?_) (fun cc => absurd (nI_lt (by omega) (by omega)) cc)
          exact no (fun z => z.2.1.elim c2 c4)
    · refine ra_icmp_gt (q := 88) A d_De_suitsSize_51 (by decide) (fun _ => ?_) (fun cc => absurd (nI_lt (by omega) (by omega)) cc)
      exact no (fun z => c1 z.1)
  have at21 : xg x (y0 u) 0 0 21 [some (.ref 132), some (.int (nI last)), none, none] [.int (nI B)] h := by
    refine ra_istore_n (L' := [_, _, _, _]) A d_De_suitsSize_21 (by decide) rfl <| ra_aload_n A d_De_suitsSize_22 rfl <| ra_getI A f_De_137 d_De_suitsSize_23 (Nat.le_of_ble_eq_true rfl) rfl rfl <| ?_
    rw [n10]
    by_cases c : iKn F = 0
    · refine ra_if_ne (q := 35) A d_De_suitsSize_26 (by decide) (fun cc => absurd ((by rw [c]; rfl)) cc) (fun _ => ?_)
      rw [if_pos c] at hM
      subst hM
      refine ra_sipush A 1200 d_De_suitsSize_29 (by decide) <| ra_goto (q := 39) A d_De_suitsSize_32 (by decide) <| ra_istore_n (L' := [_, _, _, _]) A d_De_suitsSize_39 (by decide) rfl <| ?_
      exact at40
    · refine ra_if_ne (q := 35) A d_De_suitsSize_26 (by decide) (fun _ => ?_) (fun cc => absurd cc (nI_ne0 (by omega) (by omega)))
      rw [if_neg c] at hM
      subst hM
      refine ra_aload_n A d_De_suitsSize_35 rfl <| ra_getI A f_De_137 d_De_suitsSize_36 (Nat.le_of_ble_eq_true rfl) rfl rfl <| ?_
      rw [n10]
      refine ra_istore_n (L' := [_, _, _, _]) A d_De_suitsSize_39 (by decide) rfl <| ?_
      exact at40
  refine ra_aload_n A d_De_suitsSize_0 rfl <| ra_getI A f_De_164 d_De_suitsSize_1 (Nat.le_of_ble_eq_true rfl) rfl rfl <| ?_
  rw [e12]
  by_cases c : way = 0
  · refine ra_if_ne (q := 17) A d_De_suitsSize_4 (by decide) (fun cc => absurd ((by rw [c]; rfl)) cc) (fun _ => ?_)
    rw [if_pos c] at hB
    subst hB
    refine ra_aload_n A d_De_suitsSize_7 rfl <| ra_getR A f_De_40 d_De_suitsSize_8 (Nat.le_of_ble_eq_true rfl) rfl rfl rfl <| ra_getI A f_De_71 d_De_suitsSize_11 (Nat.le_of_ble_eq_true rfl) rfl rfl <| ?_
    rw [m2]
    refine ra_goto (q := 21) A d_De_suitsSize_14 (by decide) <| ?_
    exact at21
  · refine ra_if_ne (q := 17) A d_De_suitsSize_4 (by decide) (fun _ => ?_) (fun cc => absurd cc (nI_ne0 (by omega) (by omega)))
    rw [if_neg c] at hB
    subst hB
    refine ra_aload_n A d_De_suitsSize_17 rfl <| ra_getI A f_De_114 d_De_suitsSize_18 (Nat.le_of_ble_eq_true rfl) rfl rfl <| ?_
    rw [n9]
    exact at21
end S99b
