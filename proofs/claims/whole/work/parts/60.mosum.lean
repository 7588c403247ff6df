/-! THE SUM of the model -/
theorem lshr_toInt (x y : Int64) (k : Nat) (hs : (y.toBitVec.smod 64).toNat = k) : (x >>> y).toInt = x.toInt >>> k := by
  show (x >>> y).toBitVec.toInt = _
  rw [Int64.toBitVec_shiftRight]
  unfold BitVec.sshiftRight'
  rw [BitVec.toInt_sshiftRight, hs]
  rfl
theorem ishr_toInt (x y : Int32) (k : Nat) (hs : (y.toBitVec.smod 32).toNat = k) : (x >>> y).toInt = x.toInt >>> k := by
  show (x >>> y).toBitVec.toInt = _
  rw [Int32.toBitVec_shiftRight]
  unfold BitVec.sshiftRight'
  rw [BitVec.toInt_sshiftRight, hs]
  rfl
theorem i2l_shr (s : Int32) (a : Int64) (b : Int32) (k : Nat) (h1 : (a.toBitVec.smod 64).toNat = k) (h2 : (b.toBitVec.smod 32).toNat = k) : (s.toInt64 >>> a).toInt32 = s >>> b := by
  apply Int32.toInt_inj.mp
  rw [Int64.toInt_toInt32, lshr_toInt _ _ k h1, ishr_toInt _ _ k h2, Int32.toInt_toInt64, Int.shiftRight_eq_div_pow]
  have e1 := s.toInt_lt
  have e2 := s.le_toInt
  have hp : (0 : Int) < 2 ^ k := Int.pow_pos (by decide)
  have h3 : s.toInt / 2 ^ k < 2 ^ 31 := by
    apply Int.ediv_lt_of_lt_mul hp
    have : (1 : Int) ≤ 2 ^ k := hp
    calc s.toInt < 2 ^ 31 * 1 := by omega
      _ ≤ 2 ^ 31 * 2 ^ k := Int.mul_le_mul_of_nonneg_left this (by decide)
  have h4 : -2 ^ 31 ≤ s.toInt / 2 ^ k := by
    apply (Int.le_ediv_iff_mul_le hp).mpr
    have : (1 : Int) ≤ 2 ^ k := hp
    calc -2 ^ 31 * 2 ^ k ≤ -2 ^ 31 * 1 := Int.mul_le_mul_of_nonpos_left (by decide) this
      _ ≤ s.toInt := by omega
  have h5 : ((2 ^ k : Nat) : Int) = (2 : Int) ^ k := by simp
  rw [h5]
  apply Int.bmod_eq_of_le <;> omega
theorem dby_i (s : Int32) {i : Nat} (hi : i < 4) : dby s.toInt64 i = (s >>> ((8 * nI i) &&& 31)) &&& 255 := by
  unfold dby
  have q1 : ∀ i, i < 4 → ((((8 * nI i : Int32).toInt64 &&& 63 : Int64).toBitVec).smod 64).toNat = 8 * i := by decide
  have q2 : ∀ i, i < 4 → ((((8 * nI i : Int32) &&& 31 : Int32).toBitVec).smod 32).toNat = 8 * i := by decide
  rw [i2l_shr s _ _ (8 * i) (q1 i hi) (q2 i hi)]
theorem dby_l (v : Int64) (i : Nat) : ((v >>> ((8 * nI i : Int32).toInt64 &&& 63)) &&& 255).toInt32 = dby v i := by
  unfold dby
  rw [Int64.toInt32_and]
  rfl
/-- the model's constant arrays -/
def MC (h : xw_H) : Prop := (∀ i, i < 64 → h.2 142 i = sv_ADDENDS.getD i 0) ∧ ∀ i, i < 16 → h.1 143 i = sv_TURNS.getD i 0
theorem MC.fr {S : List Nat} {h h' : xw_H} (c : MC h) (f : fr S h h') (h1 : 142 ∉ S) (h2 : 143 ∉ S) : MC h' := by
  refine ⟨fun i hi => ?_, fun i hi => ?_⟩
  · rw [(f 142 h1).2]; exact c.1 i hi
  · rw [(f 143 h2).1]; exact c.2 i hi
/-- the message's bytes -/
def HM (h : xw_H) (F : List Int32) : Prop := ∀ j, j < F.length → h.1 146 j = F.getD j 0
def mo_get (h : xw_H) : md_V := (h.1 147 0, h.1 147 1, h.1 147 2, h.1 147 3)
theorem HM.put {h : xw_H} {F : List Int32} {o : Int32} (H : HM h F) : HM (xw_I h 146 F.length o) (F ++ [o]) := by
  intro j hj
  rw [gD_app]
  by_cases e : j = F.length
  · subst e; rw [xI_e, if_neg (by omega), if_pos rfl]
  · have : (F ++ [o]).length = F.length + 1 := by simp
    rw [xI_j e, if_pos (by omega)]
    exact H j (by omega)
section S60
variable {u : xu_T} {l : Launch} {KK : State → Prop} {h : xw_H} {X : xc_R → xw_H → Nat → Nat → Prop}
theorem s_Mo_mixed (K : xk_ok u KK) {i : Nat} (hi : i < 64) {b c d : Int32} (hX : X (.inl (some (.int (md_F (i / 16) b c d)))) h 0 0) : xm_M l (y0 u) KK m_Mo_mixed [.int (nI i), .int b, .int c, .int d] h X := by
  refine xm_of [] (by simp) (Nat.le_of_ble_eq_true rfl) (by decide) (fun x at0 => ?_)
  have A := xa_of at0 K
  have ow := at0.2.2.2.2.1
  refine ra_iload_n A d_Mo_mixed_0 rfl <| ra_bipush A 16 d_Mo_mixed_1 (by decide) <| ?_
  by_cases c1 : i < 16
  · refine ra_icmp_ge (q := 16) A d_Mo_mixed_3 (by decide) (fun cc => absurd cc (nI_ge (b := 16) c1 (by decide))) (fun _ => ?_)
    rw [show i / 16 = 0 by omega] at hX
    refine ra_iload_n A d_Mo_mixed_6 rfl <| ra_iload_n A d_Mo_mixed_7 rfl <| ra_iand A d_Mo_mixed_8 <| ra_iload_n A d_Mo_mixed_9 rfl <| ra_iconst A (-1) d_Mo_mixed_10 (by decide) <| ra_ixor A d_Mo_mixed_11 <| ra_iload_n A d_Mo_mixed_12 rfl <| ra_iand A d_Mo_mixed_13 <| ra_ior A d_Mo_mixed_14 <| ?_
    exact ra_iret A ow d_Mo_mixed_15 hX
  refine ra_icmp_ge (q := 16) A d_Mo_mixed_3 (by decide) (fun _ => ?_) (fun cc => absurd (nI_le (b := i) (a := 16) (by omega) (by omega)) cc)
  refine ra_iload_n A d_Mo_mixed_16 rfl <| ra_bipush A 32 d_Mo_mixed_17 (by decide) <| ?_
  by_cases c2 : i < 32
  · refine ra_icmp_ge (q := 32) A d_Mo_mixed_19 (by decide) (fun cc => absurd cc (nI_ge (b := 32) c2 (by decide))) (fun _ => ?_)
    rw [show i / 16 = 1 by omega] at hX
    refine ra_iload_n A d_Mo_mixed_22 rfl <| ra_iload_n A d_Mo_mixed_23 rfl <| ra_iand A d_Mo_mixed_24 <| ra_iload_n A d_Mo_mixed_25 rfl <| ra_iconst A (-1) d_Mo_mixed_26 (by decide) <| ra_ixor A d_Mo_mixed_27 <| ra_iload_n A d_Mo_mixed_28 rfl <| ra_iand A d_Mo_mixed_29 <| ra_ior A d_Mo_mixed_30 <| ?_
    exact ra_iret A ow d_Mo_mixed_31 hX
  refine ra_icmp_ge (q := 32) A d_Mo_mixed_19 (by decide) (fun _ => ?_) (fun cc => absurd (nI_le (b := i) (a := 32) (by omega) (by omega)) cc)
  refine ra_iload_n A d_Mo_mixed_32 rfl <| ra_bipush A 48 d_Mo_mixed_33 (by decide) <| ?_
  by_cases c3 : i < 48
  · refine ra_icmp_ge (q := 46) A d_Mo_mixed_35 (by decide) (fun cc => absurd cc (nI_ge (b := 48) c3 (by decide))) (fun _ => ?_)
    rw [show i / 16 = 2 by omega] at hX
    refine ra_iload_n A d_Mo_mixed_38 rfl <| ra_iload_n A d_Mo_mixed_39 rfl <| ra_ixor A d_Mo_mixed_40 <| ra_iload_n A d_Mo_mixed_41 rfl <| ra_ixor A d_Mo_mixed_42 <| ra_goto (q := 53) A d_Mo_mixed_43 (by decide) <| ?_
    exact ra_iret A ow d_Mo_mixed_53 hX
  refine ra_icmp_ge (q := 46) A d_Mo_mixed_35 (by decide) (fun _ => ?_) (fun cc => absurd (nI_le (b := i) (a := 48) (by omega) (by omega)) cc)
  rw [show i / 16 = 3 by omega] at hX
  refine ra_iload_n A d_Mo_mixed_46 rfl <| ra_iload_n A d_Mo_mixed_47 rfl <| ra_iload_n A d_Mo_mixed_48 rfl <| ra_iconst A (-1) d_Mo_mixed_49 (by decide) <| ra_ixor A d_Mo_mixed_50 <| ra_ior A d_Mo_mixed_51 <| ra_ixor A d_Mo_mixed_52 <| ?_
  exact ra_iret A ow d_Mo_mixed_53 hX
theorem s_Mo_which (K : xk_ok u KK) {i : Nat} (hi : i < 64) (hX : X (.inl (some (.int (nI (md_G (i / 16) i))))) h 0 0) : xm_M l (y0 u) KK m_Mo_which [.int (nI i)] h X := by
  refine xm_of [] (by simp) (Nat.le_of_ble_eq_true rfl) (by decide) (fun x at0 => ?_)
  have A := xa_of at0 K
  have ow := at0.2.2.2.2.1
  have fin : ∀ a : Nat, a < 1000 → a % 16 = md_G (i / 16) i → xg x (y0 u) 0 0 42 [some (.int (nI i))] [.int (nI a)] h := by
    intro a ha e
    refine ra_bipush A 16 d_Mo_which_42 (by decide) <| ?_
    refine ra_irem A d_Mo_which_44 (by decide) ?_
    rw [show nI a - nI a / 16 * 16 = nI (a % 16) from pk_rem (d := 16) (by omega) (by decide) (by decide), e]
    exact ra_iret A ow d_Mo_which_45 hX
  refine ra_iload_n A d_Mo_which_0 rfl <| ra_bipush A 16 d_Mo_which_1 (by decide) <| ?_
  by_cases c1 : i < 16
  · refine ra_icmp_ge (q := 10) A d_Mo_which_3 (by decide) (fun cc => absurd cc (nI_ge (b := 16) c1 (by decide))) (fun _ => ?_)
    refine ra_iload_n A d_Mo_which_6 rfl <| ra_goto (q := 42) A d_Mo_which_7 (by decide) <| ?_
    exact fin i (by omega) (by rw [show i / 16 = 0 by omega]; rfl)
  refine ra_icmp_ge (q := 10) A d_Mo_which_3 (by decide) (fun _ => ?_) (fun cc => absurd (nI_le (b := i) (a := 16) (by omega) (by omega)) cc)
  refine ra_iload_n A d_Mo_which_10 rfl <| ra_bipush A 32 d_Mo_which_11 (by decide) <| ?_
  by_cases c2 : i < 32
  · refine ra_icmp_ge (q := 24) A d_Mo_which_13 (by decide) (fun cc => absurd cc (nI_ge (b := 32) c2 (by decide))) (fun _ => ?_)
    refine ra_iconst A 5 d_Mo_which_16 (by decide) <| ra_iload_n A d_Mo_which_17 rfl <| ra_imul A d_Mo_which_18 <| ra_iconst A 1 d_Mo_which_19 (by decide) <| ra_iadd A d_Mo_which_20 <| ra_goto (q := 42) A d_Mo_which_21 (by decide) <| ?_
    rw [show (5 : Int32) * nI i = nI (5 * i) from pk_mul 5 i, nI_1]
    exact fin _ (by omega) (by rw [show i / 16 = 1 by omega]; rfl)
  refine ra_icmp_ge (q := 24) A d_Mo_which_13 (by decide) (fun _ => ?_) (fun cc => absurd (nI_le (b := i) (a := 32) (by omega) (by omega)) cc)
  refine ra_iload_n A d_Mo_which_24 rfl <| ra_bipush A 48 d_Mo_which_25 (by decide) <| ?_
  by_cases c3 : i < 48
  · refine ra_icmp_ge (q := 38) A d_Mo_which_27 (by decide) (fun cc => absurd cc (nI_ge (b := 48) c3 (by decide))) (fun _ => ?_)
    refine ra_iconst A 3 d_Mo_which_30 (by decide) <| ra_iload_n A d_Mo_which_31 rfl <| ra_imul A d_Mo_which_32 <| ra_iconst A 5 d_Mo_which_33 (by decide) <| ra_iadd A d_Mo_which_34 <| ra_goto (q := 42) A d_Mo_which_35 (by decide) <| ?_
    rw [show (3 : Int32) * nI i = nI (3 * i) from pk_mul 3 i, show nI (3 * i) + 5 = nI (3 * i + 5) from nI_add _ 5]
    exact fin _ (by omega) (by rw [show i / 16 = 2 by omega]; rfl)
  refine ra_icmp_ge (q := 38) A d_Mo_which_27 (by decide) (fun _ => ?_) (fun cc => absurd (nI_le (b := i) (a := 48) (by omega) (by omega)) cc)
  refine ra_bipush A 7 d_Mo_which_38 (by decide) <| ra_iload_n A d_Mo_which_40 rfl <| ra_imul A d_Mo_which_41 <| ?_
  rw [show (7 : Int32) * nI i = nI (7 * i) from pk_mul 7 i]
  exact fin _ (by omega) (by rw [show i / 16 = 3 by omega]; rfl)
theorem s_Mo_word (K : xk_ok u KK) {F : List Int32} {b k : Nat} (H : HM h F) (hF : F.length ≤ 7296) (hb : 64 * (b + 1) ≤ F.length) (hk : k < 16) (hX : X (.inl (some (.int (wd F b k)))) h 0 0) : xm_M l (y0 u) KK m_Mo_word [.ref 141, .int (nI (64 * b)), .int (nI k)] h X := by
  refine xm_of [none] (by simp) (Nat.le_of_ble_eq_true rfl) (by decide) (fun x at0 => ?_)
  have A := xa_of at0 K
  have ow := at0.2.2.2.2.1
  refine ra_iload_n A d_Mo_word_0 rfl <| ra_iconst A 4 d_Mo_word_1 (by decide) <| ra_iload_n A d_Mo_word_2 rfl <| ra_imul A d_Mo_word_3 <| ra_iadd A d_Mo_word_4 <| ?_
  rw [show (4 : Int32) * nI k = nI (4 * k) from pk_mul 4 k, nI_add]
  refine ra_istore_n (L' := [_, _, _, _]) A d_Mo_word_5 (by decide) rfl <| ra_aload_n A d_Mo_word_6 rfl <| ra_getR A f_Mo_164 d_Mo_word_7 (Nat.le_of_ble_eq_true rfl) rfl rfl rfl <| ra_iload_n A d_Mo_word_10 rfl <| ?_
  refine ra_iaload A d_Mo_word_11 (Nat.le_of_ble_eq_true rfl) rfl (vp_in_nI (by omega) (by decide)) ?_
  rw [nI_clamp (by omega), H _ (by omega)]
  refine ra_aload_n A d_Mo_word_12 rfl <| ra_getR A f_Mo_164 d_Mo_word_13 (Nat.le_of_ble_eq_true rfl) rfl rfl rfl <| ra_iload_n A d_Mo_word_16 rfl <| ra_iconst A 1 d_Mo_word_17 (by decide) <| ra_iadd A d_Mo_word_18 <| ?_
  rw [nI_1]
  refine ra_iaload A d_Mo_word_19 (Nat.le_of_ble_eq_true rfl) rfl (vp_in_nI (by omega) (by decide)) ?_
  rw [nI_clamp (by omega), H _ (by omega)]
  refine ra_bipush A 8 d_Mo_word_20 (by decide) <| ra_ishl A d_Mo_word_22 <| ra_ior A d_Mo_word_23 <| ra_aload_n A d_Mo_word_24 rfl <| ra_getR A f_Mo_164 d_Mo_word_25 (Nat.le_of_ble_eq_true rfl) rfl rfl rfl <| ra_iload_n A d_Mo_word_28 rfl <| ra_iconst A 2 d_Mo_word_29 (by decide) <| ra_iadd A d_Mo_word_30 <| ?_
  rw [show nI (64 * b + 4 * k) + 2 = nI (64 * b + 4 * k + 2) from nI_add _ 2]
  refine ra_iaload A d_Mo_word_31 (Nat.le_of_ble_eq_true rfl) rfl (vp_in_nI (by omega) (by decide)) ?_
  rw [nI_clamp (by omega), H _ (by omega)]
  refine ra_bipush A 16 d_Mo_word_32 (by decide) <| ra_ishl A d_Mo_word_34 <| ra_ior A d_Mo_word_35 <| ra_aload_n A d_Mo_word_36 rfl <| ra_getR A f_Mo_164 d_Mo_word_37 (Nat.le_of_ble_eq_true rfl) rfl rfl rfl <| ra_iload_n A d_Mo_word_40 rfl <| ra_iconst A 3 d_Mo_word_41 (by decide) <| ra_iadd A d_Mo_word_42 <| ?_
  rw [show nI (64 * b + 4 * k) + 3 = nI (64 * b + 4 * k + 3) from nI_add _ 3]
  refine ra_iaload A d_Mo_word_43 (Nat.le_of_ble_eq_true rfl) rfl (vp_in_nI (by omega) (by decide)) ?_
  rw [nI_clamp (by omega), H _ (by omega)]
  refine ra_bipush A 24 d_Mo_word_44 (by decide) <| ra_ishl A d_Mo_word_46 <| ra_ior A d_Mo_word_47 <| ?_
  rw [show (8 : Int32) &&& 31 = 8 by decide, show (16 : Int32) &&& 31 = 16 by decide, show (24 : Int32) &&& 31 = 24 by decide]
  exact ra_iret A ow d_Mo_word_48 hX
theorem s_Mo_sixtyFour (K : xk_ok u KK) {F : List Int32} {b : Nat} (C : MC h) (H : HM h F) (hF : F.length ≤ 7296) (hb : 64 * (b + 1) ≤ F.length) (hX : ∀ h', fr [147] h h' → mo_get h' = md_blk (wd F b) (mo_get h) → X (.inl none) h' 0 0) : xm_M l (y0 u) KK m_Mo_sixtyFour [.ref 141, .int (nI (64 * b))] h X := by
  refine xm_of [none, none, none, none, none, none, none] (by simp) (Nat.le_of_ble_eq_true rfl) (by decide) (fun x at0 => ?_)
  have A := xa_of at0 K
  have ow := at0.2.2.2.2.1
  have i0 : vp_in (0 : Int32) 4 := vp_in_nI (n := 0) (by decide) (by decide)
  have i1 : vp_in (1 : Int32) 4 := vp_in_nI (n := 1) (by decide) (by decide)
  have i2 : vp_in (2 : Int32) 4 := vp_in_nI (n := 2) (by decide) (by decide)
  have i3 : vp_in (3 : Int32) 4 := vp_in_nI (n := 3) (by decide) (by decide)
  refine ra_aload_n A d_Mo_sixtyFour_0 rfl <| ra_getR A f_Mo_167 d_Mo_sixtyFour_1 (Nat.le_of_ble_eq_true rfl) rfl rfl rfl <| ra_iconst A 0 d_Mo_sixtyFour_4 (by decide) <| ?_
  refine ra_iaload A d_Mo_sixtyFour_5 (Nat.le_of_ble_eq_true rfl) rfl i0 ?_
  refine ra_istore_n (L' := [_, _, _, _, _, _, _, _, _]) A d_Mo_sixtyFour_6 (by decide) rfl <| ra_aload_n A d_Mo_sixtyFour_7 rfl <| ra_getR A f_Mo_167 d_Mo_sixtyFour_8 (Nat.le_of_ble_eq_true rfl) rfl rfl rfl <| ra_iconst A 1 d_Mo_sixtyFour_11 (by decide) <| ?_
  refine ra_iaload A d_Mo_sixtyFour_12 (Nat.le_of_ble_eq_true rfl) rfl i1 ?_
  refine ra_istore_n (L' := [_, _, _, _, _, _, _, _, _]) A d_Mo_sixtyFour_13 (by decide) rfl <| ra_aload_n A d_Mo_sixtyFour_14 rfl <| ra_getR A f_Mo_167 d_Mo_sixtyFour_15 (Nat.le_of_ble_eq_true rfl) rfl rfl rfl <| ra_iconst A 2 d_Mo_sixtyFour_18 (by decide) <| ?_
  refine ra_iaload A d_Mo_sixtyFour_19 (Nat.le_of_ble_eq_true rfl) rfl i2 ?_
  refine ra_istore (L' := [_, _, _, _, _, _, _, _, _]) A d_Mo_sixtyFour_20 (by decide) rfl <| ra_aload_n A d_Mo_sixtyFour_22 rfl <| ra_getR A f_Mo_167 d_Mo_sixtyFour_23 (Nat.le_of_ble_eq_true rfl) rfl rfl rfl <| ra_iconst A 3 d_Mo_sixtyFour_26 (by decide) <| ?_
  refine ra_iaload A d_Mo_sixtyFour_27 (Nat.le_of_ble_eq_true rfl) rfl i3 ?_
  refine ra_istore (L' := [_, _, _, _, _, _, _, _, _]) A d_Mo_sixtyFour_28 (by decide) rfl <| ra_iconst A 0 d_Mo_sixtyFour_30 (by decide) <| ra_istore (L' := [_, _, _, _, _, _, _, _, _]) A d_Mo_sixtyFour_31 (by decide) rfl <| ?_
  refine lp_up (σ := md_V × Option Value × Option Value) (W := fun i s => xg x (y0 u) 0 0 33 [some (.ref 141), some (.int (nI (64 * b))), some (.int s.1.1), some (.int s.1.2.1), some (.int s.1.2.2.1), some (.int s.1.2.2.2), some (.int (nI i)), s.2.1, s.2.2] [] h) (I := fun i s => s.1 = md_run (wd F b) i (mo_get h)) 64 ?_ ?_ 0 (mo_get h, none, none) (by omega) rfl
  · rintro ⟨v, w6, w7⟩ rfl
    refine ra_iload A d_Mo_sixtyFour_33 rfl <| ra_bipush A 64 d_Mo_sixtyFour_35 (by decide) <| ?_
    refine ra_icmp_ge (q := 130) A d_Mo_sixtyFour_37 (by decide) (fun _ => ?_) (fun cc => absurd (Int32.le_refl _) cc)
    refine ra_aload_n A d_Mo_sixtyFour_130 rfl <| ra_getR A f_Mo_167 d_Mo_sixtyFour_131 (Nat.le_of_ble_eq_true rfl) rfl rfl rfl <| ra_iconst A 0 d_Mo_sixtyFour_134 (by decide) <| ra_aload_n A d_Mo_sixtyFour_135 rfl <| ra_getR A f_Mo_167 d_Mo_sixtyFour_136 (Nat.le_of_ble_eq_true rfl) rfl rfl rfl <| ra_iconst A 0 d_Mo_sixtyFour_139 (by decide) <| ?_
    refine ra_iaload A d_Mo_sixtyFour_140 (Nat.le_of_ble_eq_true rfl) rfl i0 ?_
    refine ra_iload_n A d_Mo_sixtyFour_141 rfl <| ra_iadd A d_Mo_sixtyFour_142 <| ?_
    refine ra_iastore A d_Mo_sixtyFour_143 (Nat.le_of_ble_eq_true rfl) rfl i0 ?_
    refine ra_aload_n A d_Mo_sixtyFour_144 rfl <| ra_getR A f_Mo_167 d_Mo_sixtyFour_145 (Nat.le_of_ble_eq_true rfl) rfl rfl rfl <| ra_iconst A 1 d_Mo_sixtyFour_148 (by decide) <| ra_aload_n A d_Mo_sixtyFour_149 rfl <| ra_getR A f_Mo_167 d_Mo_sixtyFour_150 (Nat.le_of_ble_eq_true rfl) rfl rfl rfl <| ra_iconst A 1 d_Mo_sixtyFour_153 (by decide) <| ?_
    refine ra_iaload A d_Mo_sixtyFour_154 (Nat.le_of_ble_eq_true rfl) rfl i1 ?_
    rw [show (Int32.toNatClampNeg 0) = 0 by decide, show (Int32.toNatClampNeg 1) = 1 by decide, xI_j (by decide)]
    refine ra_iload_n A d_Mo_sixtyFour_155 rfl <| ra_iadd A d_Mo_sixtyFour_156 <| ?_
    refine ra_iastore A d_Mo_sixtyFour_157 (Nat.le_of_ble_eq_true rfl) rfl i1 ?_
    rw [show (Int32.toNatClampNeg 1) = 1 by decide]
    refine ra_aload_n A d_Mo_sixtyFour_158 rfl <| ra_getR A f_Mo_167 d_Mo_sixtyFour_159 (Nat.le_of_ble_eq_true rfl) rfl rfl rfl <| ra_iconst A 2 d_Mo_sixtyFour_162 (by decide) <| ra_aload_n A d_Mo_sixtyFour_163 rfl <| ra_getR A f_Mo_167 d_Mo_sixtyFour_164 (Nat.le_of_ble_eq_true rfl) rfl rfl rfl <| ra_iconst A 2 d_Mo_sixtyFour_167 (by decide) <| ?_
    refine ra_iaload A d_Mo_sixtyFour_168 (Nat.le_of_ble_eq_true rfl) rfl i2 ?_
    rw [show (Int32.toNatClampNeg 2) = 2 by decide, xI_j (by decide), xI_j (by decide)]
    refine ra_iload A d_Mo_sixtyFour_169 rfl <| ra_iadd A d_Mo_sixtyFour_171 <| ?_
    refine ra_iastore A d_Mo_sixtyFour_172 (Nat.le_of_ble_eq_true rfl) rfl i2 ?_
    rw [show (Int32.toNatClampNeg 2) = 2 by decide]
    refine ra_aload_n A d_Mo_sixtyFour_173 rfl <| ra_getR A f_Mo_167 d_Mo_sixtyFour_174 (Nat.le_of_ble_eq_true rfl) rfl rfl rfl <| ra_iconst A 3 d_Mo_sixtyFour_177 (by decide) <| ra_aload_n A d_Mo_sixtyFour_178 rfl <| ra_getR A f_Mo_167 d_Mo_sixtyFour_179 (Nat.le_of_ble_eq_true rfl) rfl rfl rfl <| ra_iconst A 3 d_Mo_sixtyFour_182 (by decide) <| ?_
    refine ra_iaload A d_Mo_sixtyFour_183 (Nat.le_of_ble_eq_true rfl) rfl i3 ?_
    rw [show (Int32.toNatClampNeg 3) = 3 by decide, xI_j (by decide), xI_j (by decide), xI_j (by decide)]
    refine ra_iload A d_Mo_sixtyFour_184 rfl <| ra_iadd A d_Mo_sixtyFour_186 <| ?_
    refine ra_iastore A d_Mo_sixtyFour_187 (Nat.le_of_ble_eq_true rfl) rfl i3 ?_
    rw [show (Int32.toNatClampNeg 3) = 3 by decide]
    refine ra_vret A ow d_Mo_sixtyFour_188 (hX _ ?_ ?_)
    · exact (((fr_I (by decide)).I (by decide)).I (by decide)).I (by decide)
    · unfold mo_get md_blk md_plus
      simp [xw_I, va_up, upd]
  · rintro i ⟨v, w6, w7⟩ hi rfl ih
    dsimp only
    refine ra_iload A d_Mo_sixtyFour_33 rfl <| ra_bipush A 64 d_Mo_sixtyFour_35 (by decide) <| ?_
    refine ra_icmp_ge (q := 130) A d_Mo_sixtyFour_37 (by decide) (fun cc => absurd cc (nI_ge (b := 64) hi (by decide))) (fun _ => ?_)
    refine ra_iload_n A d_Mo_sixtyFour_40 rfl <| ra_iload A d_Mo_sixtyFour_41 rfl <| ra_iload_n A d_Mo_sixtyFour_43 rfl <| ra_iload A d_Mo_sixtyFour_44 rfl <| ra_iload A d_Mo_sixtyFour_46 rfl <| ?_
    refine ra_callS (As := [_, _, _, _]) A ok_Mo_mixed l_Mo_210 st_Mo_mixed d_Mo_sixtyFour_48 rfl (Nat.le_of_ble_eq_true rfl) (xr_of at0 (by decide)) (s_Mo_mixed K hi ?_)
    show xg x (y0 u) 0 0 51 _ _ _
    refine ra_iadd A d_Mo_sixtyFour_51 <| ra_aload_n A d_Mo_sixtyFour_52 rfl <| ra_getR A f_Mo_135 d_Mo_sixtyFour_53 (Nat.le_of_ble_eq_true rfl) rfl rfl rfl <| ra_iload A d_Mo_sixtyFour_56 rfl <| ?_
    refine ra_laload A d_Mo_sixtyFour_58 (Nat.le_of_ble_eq_true rfl) rfl (vp_in_nI hi (by decide)) ?_
    rw [nI_clamp (by omega), C.1 i hi]
    refine ra_l2i A d_Mo_sixtyFour_59 <| ra_iadd A d_Mo_sixtyFour_60 <| ra_aload_n A d_Mo_sixtyFour_61 rfl <| ra_iload_n A d_Mo_sixtyFour_62 rfl <| ra_iload A d_Mo_sixtyFour_63 rfl <| ?_
    refine ra_callS (As := [_]) A ok_Mo_which l_Mo_214 st_Mo_which d_Mo_sixtyFour_65 rfl (Nat.le_of_ble_eq_true rfl) (xr_of at0 (by decide)) (s_Mo_which K hi ?_)
    show xg x (y0 u) 0 0 68 _ _ _
    refine ra_callV (As := [_, _]) A ok_Mo_word l_Mo_218 im_Mo_word sl_Mo_word d_Mo_sixtyFour_68 (Nat.le_of_ble_eq_true rfl) rfl rfl rfl (Nat.le_of_ble_eq_true rfl) (xr_of at0 (by decide)) (s_Mo_word K H hF hb (md_G_lt _ _) ?_)
    show xg x (y0 u) 0 0 71 _ _ _
    refine ra_iadd A d_Mo_sixtyFour_71 <| ra_istore (L' := [_, _, _, _, _, _, _, _, _]) A d_Mo_sixtyFour_72 (by decide) rfl <| ra_aload_n A d_Mo_sixtyFour_74 rfl <| ra_getR A f_Mo_141 d_Mo_sixtyFour_75 (Nat.le_of_ble_eq_true rfl) rfl rfl rfl <| ra_iload A d_Mo_sixtyFour_78 rfl <| ra_bipush A 16 d_Mo_sixtyFour_80 (by decide) <| ?_
    refine ra_idiv A d_Mo_sixtyFour_82 (by decide) ?_
    rw [show nI i / 16 = nI (i / 16) from pk_div (d := 16) (by omega) (by decide) (by decide)]
    refine ra_iconst A 4 d_Mo_sixtyFour_83 (by decide) <| ra_imul A d_Mo_sixtyFour_84 <| ?_
    rw [show nI (i / 16) * 4 = nI (i / 16 * 4) from pk_mul _ 4]
    refine ra_iload A d_Mo_sixtyFour_85 rfl <| ra_iconst A 4 d_Mo_sixtyFour_87 (by decide) <| ?_
    refine ra_irem A d_Mo_sixtyFour_88 (by decide) ?_
    rw [show nI i - nI i / 4 * 4 = nI (i % 4) from pk_rem (d := 4) (by omega) (by decide) (by decide)]
    refine ra_iadd A d_Mo_sixtyFour_89 <| ?_
    rw [nI_add]
    refine ra_iaload A d_Mo_sixtyFour_90 (Nat.le_of_ble_eq_true rfl) rfl (vp_in_nI (by omega) (by decide)) ?_
    rw [nI_clamp (by omega), C.2 _ (by omega), show i / 16 * 4 + i % 4 = 4 * (i / 16) + i % 4 by omega]
    refine ra_istore (L' := [_, _, _, _, _, _, _, _, _]) A d_Mo_sixtyFour_91 (by decide) rfl <| ra_iload A d_Mo_sixtyFour_93 rfl <| ra_iload A d_Mo_sixtyFour_95 rfl <| ra_ishl A d_Mo_sixtyFour_97 <| ra_iload A d_Mo_sixtyFour_98 rfl <| ra_bipush A 32 d_Mo_sixtyFour_100 (by decide) <| ra_iload A d_Mo_sixtyFour_102 rfl <| ra_isub A d_Mo_sixtyFour_104 <| ra_iushr A d_Mo_sixtyFour_105 <| ra_ior A d_Mo_sixtyFour_106 <| ra_istore (L' := [_, _, _, _, _, _, _, _, _]) A d_Mo_sixtyFour_107 (by decide) rfl <| ra_iload A d_Mo_sixtyFour_109 rfl <| ra_istore_n (L' := [_, _, _, _, _, _, _, _, _]) A d_Mo_sixtyFour_111 (by decide) rfl <| ra_iload A d_Mo_sixtyFour_112 rfl <| ra_istore (L' := [_, _, _, _, _, _, _, _, _]) A d_Mo_sixtyFour_114 (by decide) rfl <| ra_iload_n A d_Mo_sixtyFour_116 rfl <| ra_istore (L' := [_, _, _, _, _, _, _, _, _]) A d_Mo_sixtyFour_117 (by decide) rfl <| ra_iload_n A d_Mo_sixtyFour_119 rfl <| ra_iload A d_Mo_sixtyFour_120 rfl <| ra_iadd A d_Mo_sixtyFour_122 <| ra_istore_n (L' := [_, _, _, _, _, _, _, _, _]) A d_Mo_sixtyFour_123 (by decide) rfl <| ra_iinc (L' := [_, _, _, _, _, _, _, _, _]) A 1 d_Mo_sixtyFour_124 rfl (by decide) (by decide) rfl <| ra_goto (q := 33) A d_Mo_sixtyFour_127 (by decide) <| ?_
    rw [nI_1]
    exact ih (_, _, _) rfl
end S60
