/-! SoundStreamModel: information -/
theorem e8_0 {F : Nat → Bool} {q : Nat} : ∀ i, e8 F q i = 0 ↔ ∀ k, k < i → bv F (q + 8 * k) 8 = 0
  | 0 => ⟨fun _ k hk => by omega, fun _ => rfl⟩
  | i + 1 => by
    have ih := e8_0 (F := F) (q := q) i
    have hp := Nat.two_pow_pos (8 * i)
    rw [e8]
    constructor
    · intro h k hk
      have h1 : e8 F q i = 0 := by omega
      have h2 : bv F (q + 8 * i) 8 * 2 ^ (8 * i) = 0 := by omega
      by_cases c : k = i
      · subst c
        rcases Nat.mul_eq_zero.mp h2 with h3 | h3
        · exact h3
        · omega
      · exact ih.mp h1 k (by omega)
    · intro h
      rw [ih.mpr (fun k hk => h k (by omega)), h i (by omega), Nat.zero_mul]
/-- whether a byte of the sum is not zero -/
def smB (F : Nat → Bool) : Nat → Bool
  | 0 => false
  | k + 1 => smB F k || decide (bv F (208 + 8 * k) 8 ≠ 0)
theorem smB_f {F : Nat → Bool} : ∀ k, smB F k = false ↔ ∀ j, j < k → bv F (208 + 8 * j) 8 = 0
  | 0 => ⟨fun _ k hk => by omega, fun _ => rfl⟩
  | k + 1 => by
    rw [smB, Bool.or_eq_false_iff, smB_f k, decide_eq_false_iff_not, Decidable.not_not]
    constructor
    · intro h j hj
      by_cases c : j = k
      · subst c; exact h.2
      · exact h.1 j (by omega)
    · intro h
      exact ⟨fun j hj => h j (by omega), h k (by omega)⟩
theorem smB_K {F : Nat → Bool} : smB F 16 = smK F := by
  have key : smB F 16 = false ↔ smK F = false := by
    rw [smB_f]
    unfold smK iLo iHi
    rw [Bool.or_eq_false_iff, decide_eq_false_iff_not, decide_eq_false_iff_not, Decidable.not_not, Decidable.not_not, e8_0, e8_0]
    constructor
    · intro h
      exact ⟨fun k hk => h k (by omega), fun k hk => by have := h (8 + k) (by omega); rwa [show 208 + 8 * (8 + k) = 272 + 8 * k by omega] at this⟩
    · intro h j hj
      by_cases c : j < 8
      · exact h.1 j c
      · have := h.2 (j - 8) (by omega)
        rwa [show 272 + 8 * (j - 8) = 208 + 8 * j by omega] at this
  cases h1 : smB F 16
  · exact (key.mp h1).symm
  · cases h2 : smK F
    · rw [key.mpr h2] at h1; cases h1
    · rfl
abbrev JF (h h' : xw_H) : Prop := fm [152] [22, 24, 25, 26, 27, 28, 29, 30, 32] true h h'
theorem MM.jf {h h' : xw_H} (x : MM h h') : JF h h' := x.mono (by decide) (by decide) (fun q => q)
theorem MR_G {h : xw_H} {F : Nat → Bool} {L e p j : Nat} {v : Int32} (M : MR h F L e p) (h1 : 12 ≠ j) (h2 : 22 ≠ j) : MR (xw_I h 141 j v) F L e p := M.of (xI_j h1) (xI_k (by decide)) ⟨M.2.2.1.1, by rw [xI_j h2]; exact M.2.2.1.2⟩ M.2.2.2.1 M.2.2.2.2.2
section S9j
variable {u : xu_T} {l : Launch} {KK : State → Prop} {h : xw_H} {X : xc_R → xw_H → Nat → Nat → Prop}
theorem s_Mo_information (K : xk_ok u KK) {F : Nat → Bool} {L : Nat} (M : MR h F L 0 64) (h336 : 336 ≤ 8 * L)
    (hX : iOk F → ∀ h', JF h h' → MR h' F L 0 336 → IM h' F → (∀ k, k < 16 → h'.1 152 k = nI (bv F (208 + 8 * k) 8)) → (h'.1 141 32 = bz (smK F) ∧ h'.1 141 27 = nI (iRa F)) → X (.inl none) h' 0 0)
    (hY : ¬ iOk F → ∀ h', JF h h' → MR h' F L 3 336 → h'.1 141 24 = nI 8 → X (.inl none) h' 0 0) : xm_M l (y0 u) KK m_Mo_information [.ref 141] h X := by
  refine xm_of [none, none, none, none, none] (by simp) (Nat.le_of_ble_eq_true rfl) (by decide) (fun x at0 => ?_)
  have A := xa_of at0 K
  have ow := at0.2.2.2.2.1
  refine ra_aload_n A d_Mo_information_0 rfl <| ra_aload_n A d_Mo_information_1 rfl <| ra_bipush A 16 d_Mo_information_2 (by decide) <| ?_
  refine ra_callV (As := [_]) A ok_Mo_next l_Mo_394 im_Mo_next sl_Mo_next d_Mo_information_4 (Nat.le_of_ble_eq_true rfl) rfl rfl rfl (Nat.le_of_ble_eq_true rfl) (xr_of at0 (by decide)) (s_Mo_next K (n := 16) M (by decide) rfl (fun v1 q1 k1 e1 f1 N1 hv1 => ?_) (fun e g e1 f1 N1 he => absurd (rB_err e1).2 (fun z => z (by omega))))
  show xg x (y0 u) 0 0 7 _ _ k1
  obtain ⟨w1, t1, _⟩ := rB_ok e1
  subst w1 t1
  have N1 : MR k1 F L 0 80 := N1
  refine ra_l2i A d_Mo_information_7 <| ?_
  rw [lN_i]
  refine ra_putI (ty := .int) A f_Mo_398 rfl rfl (by decide +kernel) rfl rfl d_Mo_information_8 (Nat.le_of_ble_eq_true rfl) rfl rfl <| ?_
  have T1 : MR (xw_I k1 141 25 (nI (bv F 64 16))) F L 0 80 := MR_G N1 (by decide) (by decide)
  have H1 : JF h (xw_I k1 141 25 (nI (bv F 64 16))) := (f1.jf).trans (fm_F (by decide))
  have a25_1 : (xw_I k1 141 25 (nI (bv F 64 16))).1 141 25 = nI (iLe F) := xI_e
  generalize xw_I k1 141 25 (nI (bv F 64 16)) = b1 at T1 H1 a25_1 ⊢
  refine ra_aload_n A d_Mo_information_11 rfl <| ra_aload_n A d_Mo_information_12 rfl <| ra_bipush A 16 d_Mo_information_13 (by decide) <| ?_
  refine ra_callV (As := [_]) A ok_Mo_next l_Mo_394 im_Mo_next sl_Mo_next d_Mo_information_15 (Nat.le_of_ble_eq_true rfl) rfl rfl rfl (Nat.le_of_ble_eq_true rfl) (xr_of at0 (by decide)) (s_Mo_next K (n := 16) T1 (by decide) rfl (fun v2 q2 k2 e2 f2 N2 hv2 => ?_) (fun e g e2 f2 N2 he => absurd (rB_err e2).2 (fun z => z (by omega))))
  show xg x (y0 u) 0 0 18 _ _ k2
  obtain ⟨w2, t2, _⟩ := rB_ok e2
  subst w2 t2
  have N2 : MR k2 F L 0 96 := N2
  refine ra_l2i A d_Mo_information_18 <| ?_
  rw [lN_i]
  refine ra_putI (ty := .int) A f_Mo_371 rfl rfl (by decide +kernel) rfl rfl d_Mo_information_19 (Nat.le_of_ble_eq_true rfl) rfl rfl <| ?_
  have T2 : MR (xw_I k2 141 26 (nI (bv F 80 16))) F L 0 96 := MR_G N2 (by decide) (by decide)
  have H2 : JF h (xw_I k2 141 26 (nI (bv F 80 16))) := (H1.trans f2.jf).trans (fm_F (by decide))
  have a25_2 : (xw_I k2 141 26 (nI (bv F 80 16))).1 141 25 = nI (iLe F) := by rw [xI_j (by decide), f2.2.1 25 (by decide)]; exact a25_1
  have a26_2 : (xw_I k2 141 26 (nI (bv F 80 16))).1 141 26 = nI (iGr F) := xI_e
  generalize xw_I k2 141 26 (nI (bv F 80 16)) = b2 at T2 H2 a25_2 a26_2 ⊢
  refine ra_aload_n A d_Mo_information_22 rfl <| ra_bipush A 48 d_Mo_information_23 (by decide) <| ?_
  refine ra_callV (As := [_]) A ok_Mo_next l_Mo_394 im_Mo_next sl_Mo_next d_Mo_information_25 (Nat.le_of_ble_eq_true rfl) rfl rfl rfl (Nat.le_of_ble_eq_true rfl) (xr_of at0 (by decide)) (s_Mo_next K (n := 48) T2 (by decide) rfl (fun v3 q3 k3 e3 f3 N3 hv3 => ?_) (fun e g e3 f3 N3 he => absurd (rB_err e3).2 (fun z => z (by omega))))
  show xg x (y0 u) 0 0 28 _ _ k3
  obtain ⟨w3, t3, _⟩ := rB_ok e3
  subst w3 t3
  have N3 : MR k3 F L 0 144 := N3
  have H3 : JF h k3 := H2.trans f3.jf
  have a25_3 : k3.1 141 25 = nI (iLe F) := by rw [f3.2.1 25 (by decide)]; exact a25_2
  have a26_3 : k3.1 141 26 = nI (iGr F) := by rw [f3.2.1 26 (by decide)]; exact a26_2
  refine ra_lstore_n (L' := [_, _, _, _, _, _]) A d_Mo_information_28 (by decide) rfl <| ra_aload_n A d_Mo_information_29 rfl <| ra_aload_n A d_Mo_information_30 rfl <| ra_bipush A 20 d_Mo_information_31 (by decide) <| ?_
  refine ra_callV (As := [_]) A ok_Mo_next l_Mo_394 im_Mo_next sl_Mo_next d_Mo_information_33 (Nat.le_of_ble_eq_true rfl) rfl rfl rfl (Nat.le_of_ble_eq_true rfl) (xr_of at0 (by decide)) (s_Mo_next K (n := 20) N3 (by decide) rfl (fun v4 q4 k4 e4 f4 N4 hv4 => ?_) (fun e g e4 f4 N4 he => absurd (rB_err e4).2 (fun z => z (by omega))))
  show xg x (y0 u) 0 0 36 _ _ k4
  obtain ⟨w4, t4, _⟩ := rB_ok e4
  subst w4 t4
  have N4 : MR k4 F L 0 164 := N4
  refine ra_l2i A d_Mo_information_36 <| ?_
  rw [lN_i]
  refine ra_putI (ty := .int) A f_Mo_374 rfl rfl (by decide +kernel) rfl rfl d_Mo_information_37 (Nat.le_of_ble_eq_true rfl) rfl rfl <| ?_
  have T4 : MR (xw_I k4 141 27 (nI (bv F 144 20))) F L 0 164 := MR_G N4 (by decide) (by decide)
  have H4 : JF h (xw_I k4 141 27 (nI (bv F 144 20))) := (H3.trans f4.jf).trans (fm_F (by decide))
  have a25_4 : (xw_I k4 141 27 (nI (bv F 144 20))).1 141 25 = nI (iLe F) := by rw [xI_j (by decide), f4.2.1 25 (by decide)]; exact a25_3
  have a26_4 : (xw_I k4 141 27 (nI (bv F 144 20))).1 141 26 = nI (iGr F) := by rw [xI_j (by decide), f4.2.1 26 (by decide)]; exact a26_3
  have a27_4 : (xw_I k4 141 27 (nI (bv F 144 20))).1 141 27 = nI (iRa F) := xI_e
  generalize xw_I k4 141 27 (nI (bv F 144 20)) = b4 at T4 H4 a25_4 a26_4 a27_4 ⊢
  refine ra_aload_n A d_Mo_information_40 rfl <| ra_aload_n A d_Mo_information_41 rfl <| ra_iconst A 3 d_Mo_information_42 (by decide) <| ?_
  refine ra_callV (As := [_]) A ok_Mo_next l_Mo_394 im_Mo_next sl_Mo_next d_Mo_information_43 (Nat.le_of_ble_eq_true rfl) rfl rfl rfl (Nat.le_of_ble_eq_true rfl) (xr_of at0 (by decide)) (s_Mo_next K (n := 3) T4 (by decide) rfl (fun v5 q5 k5 e5 f5 N5 hv5 => ?_) (fun e g e5 f5 N5 he => absurd (rB_err e5).2 (fun z => z (by omega))))
  show xg x (y0 u) 0 0 46 _ _ k5
  obtain ⟨w5, t5, _⟩ := rB_ok e5
  subst w5 t5
  have N5 : MR k5 F L 0 167 := N5
  refine ra_l2i A d_Mo_information_46 <| ?_
  rw [lN_i]
  refine ra_iconst A 1 d_Mo_information_47 (by decide) <| ra_iadd A d_Mo_information_48 <| ?_
  rw [nI_1]
  refine ra_putI (ty := .int) A f_Mo_365 rfl rfl (by decide +kernel) rfl rfl d_Mo_information_49 (Nat.le_of_ble_eq_true rfl) rfl rfl <| ?_
  have T5 : MR (xw_I k5 141 28 (nI (bv F 164 3 + 1))) F L 0 167 := MR_G N5 (by decide) (by decide)
  have H5 : JF h (xw_I k5 141 28 (nI (bv F 164 3 + 1))) := (H4.trans f5.jf).trans (fm_F (by decide))
  have a25_5 : (xw_I k5 141 28 (nI (bv F 164 3 + 1))).1 141 25 = nI (iLe F) := by rw [xI_j (by decide), f5.2.1 25 (by decide)]; exact a25_4
  have a26_5 : (xw_I k5 141 28 (nI (bv F 164 3 + 1))).1 141 26 = nI (iGr F) := by rw [xI_j (by decide), f5.2.1 26 (by decide)]; exact a26_4
  have a27_5 : (xw_I k5 141 28 (nI (bv F 164 3 + 1))).1 141 27 = nI (iRa F) := by rw [xI_j (by decide), f5.2.1 27 (by decide)]; exact a27_4
  have a28_5 : (xw_I k5 141 28 (nI (bv F 164 3 + 1))).1 141 28 = nI (iCh F) := xI_e
  generalize xw_I k5 141 28 (nI (bv F 164 3 + 1)) = b5 at T5 H5 a25_5 a26_5 a27_5 a28_5 ⊢
  refine ra_aload_n A d_Mo_information_52 rfl <| ra_aload_n A d_Mo_information_53 rfl <| ra_iconst A 5 d_Mo_information_54 (by decide) <| ?_
  refine ra_callV (As := [_]) A ok_Mo_next l_Mo_394 im_Mo_next sl_Mo_next d_Mo_information_55 (Nat.le_of_ble_eq_true rfl) rfl rfl rfl (Nat.le_of_ble_eq_true rfl) (xr_of at0 (by decide)) (s_Mo_next K (n := 5) T5 (by decide) rfl (fun v6 q6 k6 e6 f6 N6 hv6 => ?_) (fun e g e6 f6 N6 he => absurd (rB_err e6).2 (fun z => z (by omega))))
  show xg x (y0 u) 0 0 58 _ _ k6
  obtain ⟨w6, t6, _⟩ := rB_ok e6
  subst w6 t6
  have N6 : MR k6 F L 0 172 := N6
  refine ra_l2i A d_Mo_information_58 <| ?_
  rw [lN_i]
  refine ra_iconst A 1 d_Mo_information_59 (by decide) <| ra_iadd A d_Mo_information_60 <| ?_
  rw [nI_1]
  refine ra_putI (ty := .int) A f_Mo_368 rfl rfl (by decide +kernel) rfl rfl d_Mo_information_61 (Nat.le_of_ble_eq_true rfl) rfl rfl <| ?_
  have T6 : MR (xw_I k6 141 29 (nI (bv F 167 5 + 1))) F L 0 172 := MR_G N6 (by decide) (by decide)
  have H6 : JF h (xw_I k6 141 29 (nI (bv F 167 5 + 1))) := (H5.trans f6.jf).trans (fm_F (by decide))
  have a25_6 : (xw_I k6 141 29 (nI (bv F 167 5 + 1))).1 141 25 = nI (iLe F) := by rw [xI_j (by decide), f6.2.1 25 (by decide)]; exact a25_5
  have a26_6 : (xw_I k6 141 29 (nI (bv F 167 5 + 1))).1 141 26 = nI (iGr F) := by rw [xI_j (by decide), f6.2.1 26 (by decide)]; exact a26_5
  have a27_6 : (xw_I k6 141 29 (nI (bv F 167 5 + 1))).1 141 27 = nI (iRa F) := by rw [xI_j (by decide), f6.2.1 27 (by decide)]; exact a27_5
  have a28_6 : (xw_I k6 141 29 (nI (bv F 167 5 + 1))).1 141 28 = nI (iCh F) := by rw [xI_j (by decide), f6.2.1 28 (by decide)]; exact a28_5
  have a29_6 : (xw_I k6 141 29 (nI (bv F 167 5 + 1))).1 141 29 = nI (iDp F) := xI_e
  generalize xw_I k6 141 29 (nI (bv F 167 5 + 1)) = b6 at T6 H6 a25_6 a26_6 a27_6 a28_6 a29_6 ⊢
  refine ra_aload_n A d_Mo_information_64 rfl <| ra_bipush A 36 d_Mo_information_65 (by decide) <| ?_
  refine ra_callV (As := [_]) A ok_Mo_next l_Mo_394 im_Mo_next sl_Mo_next d_Mo_information_67 (Nat.le_of_ble_eq_true rfl) rfl rfl rfl (Nat.le_of_ble_eq_true rfl) (xr_of at0 (by decide)) (s_Mo_next K (n := 36) T6 (by decide) rfl (fun v7 q7 k7 e7 f7 N7 hv7 => ?_) (fun e g e7 f7 N7 he => absurd (rB_err e7).2 (fun z => z (by omega))))
  show xg x (y0 u) 0 0 70 _ _ k7
  obtain ⟨w7, t7, _⟩ := rB_ok e7
  subst w7 t7
  have N7 : MR k7 F L 0 208 := N7
  have H7 : JF h k7 := H6.trans f7.jf
  have a25_7 : k7.1 141 25 = nI (iLe F) := by rw [f7.2.1 25 (by decide)]; exact a25_6
  have a26_7 : k7.1 141 26 = nI (iGr F) := by rw [f7.2.1 26 (by decide)]; exact a26_6
  have a27_7 : k7.1 141 27 = nI (iRa F) := by rw [f7.2.1 27 (by decide)]; exact a27_6
  have a28_7 : k7.1 141 28 = nI (iCh F) := by rw [f7.2.1 28 (by decide)]; exact a28_6
  have a29_7 : k7.1 141 29 = nI (iDp F) := by rw [f7.2.1 29 (by decide)]; exact a29_6
  refine ra_lstore_n (L' := [_, _, _, _, _, _]) A d_Mo_information_70 (by decide) rfl <| ra_aload_n A d_Mo_information_71 rfl <| ra_iconst A 0 d_Mo_information_72 (by decide) <| ra_putI (ty := .boolean) A f_Mo_383 rfl rfl (by decide +kernel) rfl rfl d_Mo_information_73 (Nat.le_of_ble_eq_true rfl) rfl rfl <| ra_iconst A 0 d_Mo_information_76 (by decide) <| ra_istore (L' := [_, _, _, _, _, _]) A d_Mo_information_77 (by decide) rfl <| ?_
  have T8 : MR (xw_I k7 141 32 0) F L 0 208 := MR_G N7 (by decide) (by decide)
  have H8 : JF h (xw_I k7 141 32 0) := H7.trans (fm_F (by decide))
  have a25_8 : (xw_I k7 141 32 0).1 141 25 = nI (iLe F) := by rw [xI_j (by decide)]; exact a25_7
  have a26_8 : (xw_I k7 141 32 0).1 141 26 = nI (iGr F) := by rw [xI_j (by decide)]; exact a26_7
  have a27_8 : (xw_I k7 141 32 0).1 141 27 = nI (iRa F) := by rw [xI_j (by decide)]; exact a27_7
  have a28_8 : (xw_I k7 141 32 0).1 141 28 = nI (iCh F) := by rw [xI_j (by decide)]; exact a28_7
  have a29_8 : (xw_I k7 141 32 0).1 141 29 = nI (iDp F) := by rw [xI_j (by decide)]; exact a29_7
  have a32_8 : (xw_I k7 141 32 0).1 141 32 = bz (smB F 0) := xI_e
  generalize xw_I k7 141 32 0 = b8 at T8 H8 a25_8 a26_8 a27_8 a28_8 a29_8 a32_8 ⊢
  have hK : bv F 172 36 = iKn F := rfl
  have hKl : iKn F < 2 ^ 36 := bv_lt 36
  have hSl : bv F 96 48 < 2 ^ 48 := bv_lt 48
  rw [hK]
  refine lp_up (σ := xw_H) (W := fun k g => xg x (y0 u) 0 0 79 [some (.ref 141), some (.long (lN (bv F 96 48))), none, some (.long (lN (iKn F))), none, some (.int (nI k))] [] g) (I := fun k g => fm [152] [22, 32] true b8 g ∧ MR g F L 0 (208 + 8 * k) ∧ (∀ j, j < k → g.1 152 j = nI (bv F (208 + 8 * j) 8)) ∧ g.1 141 32 = bz (smB F k)) 16 ?_ ?_ 0 b8 (Nat.zero_le _) ⟨fm.rfl, T8, fun j hj => by omega, a32_8⟩
  · rintro g ⟨fg, Mg, hg, g32⟩
    have Hg : JF h g := H8.trans (fg.mono (by decide) (by decide) (fun q => q))
    have c25 : g.1 141 25 = nI (iLe F) := (fg.2.1 25 (by decide)).trans a25_8
    have c26 : g.1 141 26 = nI (iGr F) := (fg.2.1 26 (by decide)).trans a26_8
    have c27 : g.1 141 27 = nI (iRa F) := (fg.2.1 27 (by decide)).trans a27_8
    have c28 : g.1 141 28 = nI (iCh F) := (fg.2.1 28 (by decide)).trans a28_8
    have c29 : g.1 141 29 = nI (iDp F) := (fg.2.1 29 (by decide)).trans a29_8
    have l25 : iLe F < 2 ^ 16 := bv_lt 16
    have l26 : iGr F < 2 ^ 16 := bv_lt 16
    have l27 : iRa F < 2 ^ 20 := bv_lt 20
    have l28 : iCh F < 2 ^ 3 + 1 := Nat.add_lt_add_right (bv_lt 3) 1
    have l29 : iDp F < 2 ^ 5 + 1 := Nat.add_lt_add_right (bv_lt 5) 1
    rw [smB_K] at g32
    have bad : ¬ iOk F → ∀ v5 : Int32, xg x (y0 u) 0 0 210 [some (.ref 141), some (.long (lN (bv F 96 48))), none, some (.long (lN (iKn F))), none, some (.int v5)] [] g := by
      intro z v5
      refine ra_aload_n A d_Mo_information_210 rfl <| ra_bipush A 8 d_Mo_information_211 (by decide) <| ra_putI (ty := .int) A f_Mo_403 rfl rfl (by decide +kernel) rfl rfl d_Mo_information_213 (Nat.le_of_ble_eq_true rfl) rfl rfl <| ra_aload_n A d_Mo_information_216 rfl <| ra_iconst A 3 d_Mo_information_217 (by decide) <| ?_
      refine ra_callV (As := [_]) A ok_Mo_fail l_Mo_389 im_Mo_fail sl_Mo_fail d_Mo_information_218 (Nat.le_of_ble_eq_true rfl) rfl rfl rfl (Nat.le_of_ble_eq_true rfl) (xr_of at0 (by decide)) (s_Mo_fail K (by rw [xI_j (by decide)]; exact Mg.2.2.1.2) ?_)
      show xg x (y0 u) 0 0 221 _ _ _
      have M2 : MR (xw_I (xw_I g 141 24 8) 141 22 3) F L 3 336 := MR_F (x := 3) (MR_G Mg (by decide) (by decide)) (by decide)
      refine ra_aload_n A d_Mo_information_221 rfl <| ra_lload_n A d_Mo_information_222 rfl <| ra_l2i A d_Mo_information_223 <| ra_putI (ty := .int) A f_Mo_406 rfl rfl (by decide +kernel) rfl rfl d_Mo_information_224 (Nat.le_of_ble_eq_true rfl) rfl rfl <| ?_
      exact ra_vret A ow d_Mo_information_227 (hY z _ (((Hg.trans (fm_F (by decide))).trans (fm_F (by decide))).trans (fm_F (by decide))) (MR_G M2 (by decide) (by decide)) (by rw [xI_j (by decide), xI_j (by decide), xI_e]; rfl))
    have at170 : ∀ b : Bool, (b = true ↔ 16 ≤ iLe F ∧ iLe F ≤ iGr F ∧ 0 < iRa F) → xg x (y0 u) 0 0 170 [some (.ref 141), some (.long (lN (bv F 96 48))), none, some (.long (lN (iKn F))), none, some (.int (nI 16))] [.int (bz b)] g := by
      intro b hb
      refine ra_istore (L' := [_, _, _, _, _, _]) A d_Mo_information_170 (by decide) rfl <| ra_iload A d_Mo_information_172 rfl <| ?_
      cases b
      · refine ra_if_eq (q := 210) A d_Mo_information_174 (by decide) (fun _ => ?_) (fun cc => absurd (rfl) cc)
        exact bad (fun z => by have := hb.mpr z.1; cases this) _
      · refine ra_if_eq (q := 210) A d_Mo_information_174 (by decide) (fun cc => absurd cc ((by decide))) (fun _ => ?_)
        refine ra_aload_n A d_Mo_information_177 rfl <| ra_getI A f_Mo_365 d_Mo_information_178 (Nat.le_of_ble_eq_true rfl) rfl rfl <| ?_
        rw [c28]
        refine ra_iconst A 2 d_Mo_information_181 (by decide) <| ?_
        by_cases d1 : ¬ iCh F ≤ 2
        · refine ra_icmp_gt (q := 210) A d_Mo_information_182 (by decide) (fun _ => ?_) (fun cc => absurd (nI_lt (a := 2) (by omega) (by omega)) cc)
          exact bad (fun z => d1 z.2.1.1) _
        have d1 := Decidable.not_not.mp d1
        refine ra_icmp_gt (q := 210) A d_Mo_information_182 (by decide) (fun cc => absurd cc (fun z => absurd ((nI_ltI (a := 2) (by decide) (by omega)).mp z) (by omega))) (fun _ => ?_)
        refine ra_aload_n A d_Mo_information_185 rfl <| ra_getI A f_Mo_368 d_Mo_information_186 (Nat.le_of_ble_eq_true rfl) rfl rfl <| ?_
        rw [c29]
        refine ra_iconst A 4 d_Mo_information_189 (by decide) <| ?_
        by_cases d2 : ¬ 4 ≤ iDp F
        · refine ra_icmp_lt (q := 210) A d_Mo_information_190 (by decide) (fun _ => ?_) (fun cc => absurd (nI_lt (b := 4) (by omega) (by omega)) cc)
          exact bad (fun z => d2 z.2.2.1) _
        have d2 := Decidable.not_not.mp d2
        refine ra_icmp_lt (q := 210) A d_Mo_information_190 (by decide) (fun cc => absurd cc (fun z => absurd ((nI_ltI (b := 4) (by omega) (by decide)).mp z) (by omega))) (fun _ => ?_)
        refine ra_aload_n A d_Mo_information_193 rfl <| ra_getI A f_Mo_368 d_Mo_information_194 (Nat.le_of_ble_eq_true rfl) rfl rfl <| ?_
        rw [c29]
        refine ra_bipush A 24 d_Mo_information_197 (by decide) <| ?_
        by_cases d3 : ¬ iDp F ≤ 24
        · refine ra_icmp_gt (q := 210) A d_Mo_information_199 (by decide) (fun _ => ?_) (fun cc => absurd (nI_lt (a := 24) (by omega) (by omega)) cc)
          exact bad (fun z => d3 z.2.2.2) _
        have d3 := Decidable.not_not.mp d3
        refine ra_icmp_gt (q := 210) A d_Mo_information_199 (by decide) (fun cc => absurd cc (fun z => absurd ((nI_ltI (a := 24) (by decide) (by omega)).mp z) (by omega))) (fun _ => ?_)
        refine ra_lload_n A d_Mo_information_202 rfl <| ra_ldc2 A k_Mo_401 d_Mo_information_203 <| ra_lcmp A d_Mo_information_206 <| ?_
        by_cases d4 : ¬ iKn F ≤ 1200
        · refine ra_if_le (q := 221) A d_Mo_information_207 (by decide) (fun cc => absurd cc (fun z => d4 ((pk_lLE (b := 1200) (by omega) (by decide)).mp (lc_le.mp z)))) (fun _ => ?_)
          exact bad (fun z => d4 z.2.1.2) _
        have d4 := Decidable.not_not.mp d4
        refine ra_if_le (q := 221) A d_Mo_information_207 (by decide) (fun _ => ?_) (fun cc => absurd (lc_le.mpr ((pk_lLE (b := 1200) (by omega) (by decide)).mpr d4)) cc)
        refine ra_aload_n A d_Mo_information_221 rfl <| ra_lload_n A d_Mo_information_222 rfl <| ra_l2i A d_Mo_information_223 <| ?_
        rw [lN_i]
        refine ra_putI (ty := .int) A f_Mo_406 rfl rfl (by decide +kernel) rfl rfl d_Mo_information_224 (Nat.le_of_ble_eq_true rfl) rfl rfl <| ?_
        refine ra_vret A ow d_Mo_information_227 (hX ⟨hb.mp rfl, ⟨d1, d4⟩, d2, d3⟩ _ (Hg.trans (fm_F (by decide))) (MR_G Mg (by decide) (by decide)) ⟨⟨?_, ?_⟩, ?_, ?_, ?_⟩ (fun k hk => ?_) ⟨?_, ?_⟩)
        · rw [xI_j (by decide)]; exact c25
        · rw [xI_j (by decide)]; exact c26
        · rw [xI_j (by decide)]; exact c28
        · rw [xI_j (by decide)]; exact c29
        · rw [xI_e]
        · rw [xI_k (by decide)]; exact hg k hk
        · rw [xI_j (by decide)]; exact g32
        · rw [xI_j (by decide)]; exact c27
    refine ra_iload A d_Mo_information_79 rfl <| ra_bipush A 16 d_Mo_information_81 (by decide) <| ?_
    refine ra_icmp_ge (q := 132) A d_Mo_information_83 (by decide) (fun _ => ?_) (fun cc => absurd ((by decide)) cc)
    refine ra_aload_n A d_Mo_information_132 rfl <| ra_getI A f_Mo_398 d_Mo_information_133 (Nat.le_of_ble_eq_true rfl) rfl rfl <| ?_
    rw [c25]
    refine ra_bipush A 16 d_Mo_information_136 (by decide) <| ?_
    by_cases d1 : ¬ 16 ≤ iLe F
    · refine ra_icmp_lt (q := 169) A d_Mo_information_138 (by decide) (fun _ => ?_) (fun cc => absurd (nI_lt (b := 16) (by omega) (by omega)) cc)
      refine ra_iconst A 0 d_Mo_information_169 (by decide) <| ?_
      exact at170 false ⟨fun z => (by cases z), fun z => absurd z.1 d1⟩
    have d1 := Decidable.not_not.mp d1
    refine ra_icmp_lt (q := 169) A d_Mo_information_138 (by decide) (fun cc => absurd cc (fun z => absurd ((nI_ltI (b := 16) (by omega) (by decide)).mp z) (by omega))) (fun _ => ?_)
    refine ra_aload_n A d_Mo_information_141 rfl <| ra_getI A f_Mo_398 d_Mo_information_142 (Nat.le_of_ble_eq_true rfl) rfl rfl <| ?_
    rw [c25]
    refine ra_aload_n A d_Mo_information_145 rfl <| ra_getI A f_Mo_371 d_Mo_information_146 (Nat.le_of_ble_eq_true rfl) rfl rfl <| ?_
    rw [c26]
    by_cases d2 : ¬ iLe F ≤ iGr F
    · refine ra_icmp_gt (q := 169) A d_Mo_information_149 (by decide) (fun _ => ?_) (fun cc => absurd (nI_lt (by omega) (by omega)) cc)
      refine ra_iconst A 0 d_Mo_information_169 (by decide) <| ?_
      exact at170 false ⟨fun z => (by cases z), fun z => absurd z.2.1 d2⟩
    have d2 := Decidable.not_not.mp d2
    refine ra_icmp_gt (q := 169) A d_Mo_information_149 (by decide) (fun cc => absurd cc (fun z => absurd ((nI_ltI (by omega) (by omega)).mp z) (by omega))) (fun _ => ?_)
    refine ra_aload_n A d_Mo_information_152 rfl <| ra_getI A f_Mo_374 d_Mo_information_153 (Nat.le_of_ble_eq_true rfl) rfl rfl <| ?_
    rw [c27]
    by_cases d3 : ¬ 0 < iRa F
    · refine ra_if_le (q := 169) A d_Mo_information_156 (by decide) (fun _ => ?_) (fun cc => absurd (nI_le (b := 0) (by omega) (by decide)) cc)
      refine ra_iconst A 0 d_Mo_information_169 (by decide) <| ?_
      exact at170 false ⟨fun z => (by cases z), fun z => absurd z.2.2 d3⟩
    have d3 := Decidable.not_not.mp d3
    refine ra_if_le (q := 169) A d_Mo_information_156 (by decide) (fun cc => absurd cc (fun z => absurd ((nI_leI (b := 0) (by omega) (by decide)).mp z) (by omega))) (fun _ => ?_)
    refine ra_lload_n A d_Mo_information_159 rfl <| ra_lconst A 0 d_Mo_information_160 (by decide) <| ra_lcmp A d_Mo_information_161 <| ?_
    refine ra_if_lt (q := 169) A d_Mo_information_162 (by decide) (fun cc => absurd cc (fun z => absurd (lc_lt.mp z) (Int64.not_lt.mpr ((pk_lLE (a := 0) (by decide) (by omega)).mpr (Nat.zero_le _))))) (fun _ => ?_)
    refine ra_iconst A 1 d_Mo_information_165 (by decide) <| ra_goto (q := 170) A d_Mo_information_166 (by decide) <| ?_
    exact at170 true ⟨fun _ => ⟨d1, d2, d3⟩, fun _ => rfl⟩
  · rintro k g hk ⟨fg, Mg, hg, g32⟩ ih
    refine ra_iload A d_Mo_information_79 rfl <| ra_bipush A 16 d_Mo_information_81 (by decide) <| ?_
    refine ra_icmp_ge (q := 132) A d_Mo_information_83 (by decide) (fun cc => absurd cc (nI_ge (b := 16) hk (by decide))) (fun _ => ?_)
    refine ra_aload_n A d_Mo_information_86 rfl <| ra_getR A f_Mo_185 d_Mo_information_87 (Nat.le_of_ble_eq_true rfl) rfl rfl rfl <| ra_iload A d_Mo_information_90 rfl <| ra_aload_n A d_Mo_information_92 rfl <| ra_bipush A 8 d_Mo_information_93 (by decide) <| ?_
    refine ra_callV (As := [_]) A ok_Mo_next l_Mo_394 im_Mo_next sl_Mo_next d_Mo_information_95 (Nat.le_of_ble_eq_true rfl) rfl rfl rfl (Nat.le_of_ble_eq_true rfl) (xr_of at0 (by decide)) (s_Mo_next K (n := 8) Mg (by decide) rfl (fun v q k1 e1 f1 N1 hv => ?_) (fun e g' e1 f1 N1 he => absurd (rB_err e1).2 (fun z => z (by omega))))
    show xg x (y0 u) 0 0 98 _ _ k1
    obtain ⟨w1, t1, _⟩ := rB_ok e1
    subst t1
    refine ra_l2i A d_Mo_information_98 <| ?_
    rw [lN_i]
    refine ra_iastore A d_Mo_information_99 (Nat.le_of_ble_eq_true rfl) rfl (vp_in_nI (by omega) (by decide)) ?_
    rw [nI_clamp (by omega)]
    refine ra_aload_n A d_Mo_information_100 rfl <| ra_aload_n A d_Mo_information_101 rfl <| ra_getI A f_Mo_383 d_Mo_information_102 (Nat.le_of_ble_eq_true rfl) rfl rfl <| ?_
    have k32 : (xw_I k1 152 k (nI v)).1 141 32 = bz (smB F k) := by rw [xI_k (by decide), f1.2.1 32 (by decide)]; exact g32
    have N2 : MR (xw_I k1 152 k (nI v)) F L 0 (208 + 8 * (k + 1)) := by
      have := MR_I (k := 152) (i := k) (v := nI v) N1 (by decide) (by decide)
      rwa [show 208 + 8 * k + 8 = 208 + 8 * (k + 1) by omega] at this
    have F2 : fm [152] [22, 32] true b8 (xw_I k1 152 k (nI v)) := (fg.trans (f1.mono (by decide) (by decide) (fun q => q))).trans (fm_I (by decide) (by decide))
    have h2 : ∀ j, j < k + 1 → (xw_I k1 152 k (nI v)).1 152 j = nI (bv F (208 + 8 * j) 8) := by
      intro j hj
      by_cases c : j = k
      · subst c; rw [xI_e, w1]
      · rw [xI_j c, fmk f1 (by decide) (by decide)]; exact hg j (by omega)
    have a152 : (xw_I k1 152 k (nI v)).1 152 k = nI v := xI_e
    generalize xw_I k1 152 k (nI v) = b9 at k32 N2 F2 h2 a152 ⊢
    have fin : ∀ b : Bool, b = smB F (k + 1) → xg x (y0 u) 0 0 123 [some (.ref 141), some (.long (lN (bv F 96 48))), none, some (.long (lN (iKn F))), none, some (.int (nI k))] [.int (bz b), .ref 141] b9 := by
      intro b hb
      cases b
      · refine ra_putI (ty := .boolean) A f_Mo_383 rfl rfl (by decide +kernel) rfl rfl d_Mo_information_123 (Nat.le_of_ble_eq_true rfl) rfl rfl <| ra_iinc (L' := [_, _, _, _, _, _]) A 1 d_Mo_information_126 rfl (by decide) (by decide) rfl <| ra_goto (q := 79) A d_Mo_information_129 (by decide) <| ?_
        rw [nI_1]
        exact ih _ ⟨F2.trans (fm_F (by decide)), MR_G N2 (by decide) (by decide), fun j hj => by rw [xI_k (by decide)]; exact h2 j hj, by rw [xI_e, ← hb]⟩
      · refine ra_putI (ty := .boolean) A f_Mo_383 rfl rfl (by decide +kernel) rfl rfl d_Mo_information_123 (Nat.le_of_ble_eq_true rfl) rfl rfl <| ra_iinc (L' := [_, _, _, _, _, _]) A 1 d_Mo_information_126 rfl (by decide) (by decide) rfl <| ra_goto (q := 79) A d_Mo_information_129 (by decide) <| ?_
        rw [nI_1]
        exact ih _ ⟨F2.trans (fm_F (by decide)), MR_G N2 (by decide) (by decide), fun j hj => by rw [xI_k (by decide)]; exact h2 j hj, by rw [xI_e, ← hb]⟩
    rw [k32]
    cases hs : smB F k
    · refine ra_if_ne (q := 118) A d_Mo_information_105 (by decide) (fun cc => absurd (rfl) cc) (fun _ => ?_)
      refine ra_aload_n A d_Mo_information_108 rfl <| ra_getR A f_Mo_185 d_Mo_information_109 (Nat.le_of_ble_eq_true rfl) rfl rfl rfl <| ra_iload A d_Mo_information_112 rfl <| ?_
      refine ra_iaload A d_Mo_information_114 (Nat.le_of_ble_eq_true rfl) rfl (vp_in_nI (by omega) (by decide)) ?_
      rw [nI_clamp (by omega), a152]
      by_cases c : v = 0
      · refine ra_if_eq (q := 122) A d_Mo_information_115 (by decide) (fun _ => ?_) (fun cc => absurd ((by rw [c]; rfl)) cc)
        refine ra_iconst A 0 d_Mo_information_122 (by decide) <| ?_
        exact fin false (by rw [smB, hs, ← w1, c]; rfl)
      · refine ra_if_eq (q := 122) A d_Mo_information_115 (by decide) (fun cc => absurd cc (nI_ne0 (by omega) (by omega))) (fun _ => ?_)
        refine ra_iconst A 1 d_Mo_information_118 (by decide) <| ra_goto (q := 123) A d_Mo_information_119 (by decide) <| ?_
        exact fin true (by rw [smB, hs, ← w1, decide_eq_true c]; rfl)
    · refine ra_if_ne (q := 118) A d_Mo_information_105 (by decide) (fun _ => ?_) (fun cc => absurd cc ((by decide)))
      refine ra_iconst A 1 d_Mo_information_118 (by decide) <| ra_goto (q := 123) A d_Mo_information_119 (by decide) <| ?_
      exact fin true (by rw [smB, hs]; rfl)
end S9j
