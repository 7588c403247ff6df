/-! SoundStreamModel: sizeOf, isWrongDepth -/
section S9h
variable {u : xu_T} {l : Launch} {KK : State → Prop} {h : xw_H} {X : xc_R → xw_H → Nat → Nat → Prop}
theorem s_Mo_sizeOf (K : xk_ok u KK) {F : Nat → Bool} {L b p : Nat} {Q : Rr Nat} (M : MR h F L 0 p) (hb1 : 1 ≤ b) (hb : b < 16) (hq : rSz F L b p = Q) (hX : ∀ n p' h', Q = .inr (n, p') → MM h h' → MR h' F L 0 p' → 1 ≤ n → n ≤ 65536 → X (.inl (some (.int (nI n)))) h' 0 0) (hY : ∀ e w h', Q = .inl e → MM h h' → MR h' F L e p → e ≠ 0 → X (.inl (some (.int w))) h' 0 0) : xm_M l (y0 u) KK m_Mo_sizeOf [.ref 141, .int (nI b)] h X := by
  refine xm_of [] (by simp) (Nat.le_of_ble_eq_true rfl) (by decide) (fun x at0 => ?_)
  have A := xa_of at0 K
  have ow := at0.2.2.2.2.1
  have eb : ∀ k : Nat, k < 16 → ¬ b = k → ¬ nI b = nI k := fun k hk h1 z => h1 ((nI_eq (by omega) (by omega)).mp z)
  unfold rSz at hq
  refine ra_iload_n A d_Mo_sizeOf_0 rfl <| ra_bipush A 6 d_Mo_sizeOf_1 (by decide) <| ?_
  by_cases c6 : b = 6
  · rw [if_pos c6] at hq
    refine ra_icmp_eq (q := 12) A d_Mo_sizeOf_3 (by decide) (fun _ => ?_) (fun cc => absurd ((by rw [c6]; rfl)) cc)
    refine ra_aload_n A d_Mo_sizeOf_12 rfl <| ra_iload_n A d_Mo_sizeOf_13 rfl <| ra_bipush A 6 d_Mo_sizeOf_14 (by decide) <| ?_
    refine ra_icmp_ne (q := 24) A d_Mo_sizeOf_16 (by decide) (fun cc => absurd ((by rw [c6]; rfl)) cc) (fun _ => ?_)
    refine ra_bipush A 8 d_Mo_sizeOf_19 (by decide) <| ra_goto (q := 26) A d_Mo_sizeOf_21 (by decide) <| ?_
    refine ra_callV (As := [_]) A ok_Mo_next l_Mo_394 im_Mo_next sl_Mo_next d_Mo_sizeOf_26 (Nat.le_of_ble_eq_true rfl) rfl rfl rfl (Nat.le_of_ble_eq_true rfl) (xr_of at0 (by decide)) (s_Mo_next K (n := 8) M (by decide) rfl (fun v p1 g1 e1 f1 M1 hv => ?_) (fun e g1 e1 f1 M1 he => ?_))
    · show xg x (y0 u) 0 0 29 _ _ g1
      rw [e1, rb_r] at hq
      refine ra_l2i A d_Mo_sizeOf_29 <| ?_
      rw [lN_i]
      refine ra_iconst A 1 d_Mo_sizeOf_30 (by decide) <| ra_iadd A d_Mo_sizeOf_31 <| ?_
      rw [nI_1]
      exact ra_iret A ow d_Mo_sizeOf_32 (hX (v + 1) p1 g1 hq.symm f1 M1 (by omega) (by omega))
    · show xg x (y0 u) 0 0 29 _ _ g1
      rw [e1, rb_l] at hq
      refine ra_l2i A d_Mo_sizeOf_29 <| ra_iconst A 1 d_Mo_sizeOf_30 (by decide) <| ra_iadd A d_Mo_sizeOf_31 <| ?_
      exact ra_iret A ow d_Mo_sizeOf_32 (hY e _ g1 hq.symm f1 M1 he)
  · rw [if_neg c6] at hq
    refine ra_icmp_eq (q := 12) A d_Mo_sizeOf_3 (by decide) (fun cc => absurd cc (eb 6 (by decide) c6)) (fun _ => ?_)
    refine ra_iload_n A d_Mo_sizeOf_6 rfl <| ra_bipush A 7 d_Mo_sizeOf_7 (by decide) <| ?_
    by_cases c7 : b = 7
    · rw [if_pos c7] at hq
      refine ra_icmp_ne (q := 33) A d_Mo_sizeOf_9 (by decide) (fun cc => absurd ((by rw [c7]; rfl)) cc) (fun _ => ?_)
      refine ra_aload_n A d_Mo_sizeOf_12 rfl <| ra_iload_n A d_Mo_sizeOf_13 rfl <| ra_bipush A 6 d_Mo_sizeOf_14 (by decide) <| ?_
      refine ra_icmp_ne (q := 24) A d_Mo_sizeOf_16 (by decide) (fun _ => ?_) (fun cc => absurd cc (eb 6 (by decide) c6))
      refine ra_bipush A 16 d_Mo_sizeOf_24 (by decide) <| ?_
      refine ra_callV (As := [_]) A ok_Mo_next l_Mo_394 im_Mo_next sl_Mo_next d_Mo_sizeOf_26 (Nat.le_of_ble_eq_true rfl) rfl rfl rfl (Nat.le_of_ble_eq_true rfl) (xr_of at0 (by decide)) (s_Mo_next K (n := 16) M (by decide) rfl (fun v p1 g1 e1 f1 M1 hv => ?_) (fun e g1 e1 f1 M1 he => ?_))
      · show xg x (y0 u) 0 0 29 _ _ g1
        rw [e1, rb_r] at hq
        refine ra_l2i A d_Mo_sizeOf_29 <| ?_
        rw [lN_i]
        refine ra_iconst A 1 d_Mo_sizeOf_30 (by decide) <| ra_iadd A d_Mo_sizeOf_31 <| ?_
        rw [nI_1]
        exact ra_iret A ow d_Mo_sizeOf_32 (hX (v + 1) p1 g1 hq.symm f1 M1 (by omega) (by omega))
      · show xg x (y0 u) 0 0 29 _ _ g1
        rw [e1, rb_l] at hq
        refine ra_l2i A d_Mo_sizeOf_29 <| ra_iconst A 1 d_Mo_sizeOf_30 (by decide) <| ra_iadd A d_Mo_sizeOf_31 <| ?_
        exact ra_iret A ow d_Mo_sizeOf_32 (hY e _ g1 hq.symm f1 M1 he)
    · rw [if_neg c7] at hq
      refine ra_icmp_ne (q := 33) A d_Mo_sizeOf_9 (by decide) (fun _ => ?_) (fun cc => absurd cc (eb 7 (by decide) c7))
      refine ra_iload_n A d_Mo_sizeOf_33 rfl <| ra_iconst A 1 d_Mo_sizeOf_34 (by decide) <| ?_
      by_cases c1 : b = 1
      · rw [if_pos c1] at hq
        refine ra_icmp_ne (q := 44) A d_Mo_sizeOf_35 (by decide) (fun cc => absurd ((by rw [c1]; rfl)) cc) (fun _ => ?_)
        refine ra_sipush A 192 d_Mo_sizeOf_38 (by decide) <| ra_goto (q := 68) A d_Mo_sizeOf_41 (by decide) <| ?_
        exact ra_iret A ow d_Mo_sizeOf_68 (hX 192 p h hq.symm MM.rfl M (by decide) (by decide))
      · rw [if_neg c1] at hq
        refine ra_icmp_ne (q := 44) A d_Mo_sizeOf_35 (by decide) (fun _ => ?_) (fun cc => absurd cc (eb 1 (by decide) c1))
        refine ra_iload_n A d_Mo_sizeOf_44 rfl <| ra_bipush A 6 d_Mo_sizeOf_45 (by decide) <| ?_
        by_cases c5 : b < 6
        · rw [if_pos c5] at hq
          have hp : 2 ^ (b - 2) ≤ 2 ^ 3 := Nat.pow_le_pow_right (by decide) (by omega)
          have hp0 := Nat.two_pow_pos (b - 2)
          refine ra_icmp_ge (q := 60) A d_Mo_sizeOf_47 (by decide) (fun cc => absurd cc (nI_ge (b := 6) c5 (by decide))) (fun _ => ?_)
          refine ra_sipush A 576 d_Mo_sizeOf_50 (by decide) <| ra_iload_n A d_Mo_sizeOf_53 rfl <| ra_iconst A 2 d_Mo_sizeOf_54 (by decide) <| ra_isub A d_Mo_sizeOf_55 <| ?_
          rw [show nI b - 2 = nI (b - 2) from pk_sub (b := 2) (by omega)]
          refine ra_ishl A d_Mo_sizeOf_56 <| ?_
          rw [show (576 : Int32) = nI 576 from rfl, pk_shlN _ (b - 2) (s_l _ (by omega)) (by omega)]
          refine ra_goto (q := 68) A d_Mo_sizeOf_57 (by decide) <| ?_
          exact ra_iret A ow d_Mo_sizeOf_68 (hX _ p h hq.symm MM.rfl M (by omega) (by omega))
        · rw [if_neg c5] at hq
          have hp : 2 ^ (b - 8) ≤ 2 ^ 7 := Nat.pow_le_pow_right (by decide) (by omega)
          have hp0 := Nat.two_pow_pos (b - 8)
          refine ra_icmp_ge (q := 60) A d_Mo_sizeOf_47 (by decide) (fun _ => ?_) (fun cc => absurd (nI_le (a := 6) (by omega) (by omega)) cc)
          refine ra_sipush A 256 d_Mo_sizeOf_60 (by decide) <| ra_iload_n A d_Mo_sizeOf_63 rfl <| ra_bipush A 8 d_Mo_sizeOf_64 (by decide) <| ra_isub A d_Mo_sizeOf_66 <| ?_
          rw [show nI b - 8 = nI (b - 8) from pk_sub (b := 8) (by omega)]
          refine ra_ishl A d_Mo_sizeOf_67 <| ?_
          rw [show (256 : Int32) = nI 256 from rfl, pk_shlN _ (b - 8) (s_l _ (by omega)) (by omega)]
          exact ra_iret A ow d_Mo_sizeOf_68 (hX _ p h hq.symm MM.rfl M (by omega) (by omega))
theorem s_Mo_isWrongDepth (K : xk_ok u KK) {D s : Nat} (hs : s < 8) (eD : h.1 141 29 = nI D) (hX : X (.inl (some (.int (bz (!suD D s))))) h 0 0) : xm_M l (y0 u) KK m_Mo_isWrongDepth [.ref 141, .int (nI s)] h X := by
  refine xm_of [none] (by simp) (Nat.le_of_ble_eq_true rfl) (by decide) (fun x at0 => ?_)
  have A := xa_of at0 K
  have ow := at0.2.2.2.2.1
  have eb : ∀ k : Nat, k < 16 → ¬ s = k → ¬ nI s = nI k := fun k hk h1 z => h1 ((nI_eq (by omega) (by omega)).mp z)
  have at63 : ∀ v : Int32, (v = nI D ↔ suD D s = true) → xg x (y0 u) 0 0 63 [some (.ref 141), some (.int (nI s)), none] [.int v] h := by
    intro v hv
    refine ra_istore_n (L' := [_, _, _]) A d_Mo_isWrongDepth_63 (by decide) rfl <| ra_iload_n A d_Mo_isWrongDepth_64 rfl <| ra_aload_n A d_Mo_isWrongDepth_65 rfl <| ra_getI A f_Mo_368 d_Mo_isWrongDepth_66 (Nat.le_of_ble_eq_true rfl) rfl rfl <| ?_
    rw [eD]
    by_cases c : v = nI D
    · rw [hv.mp c] at hX
      refine ra_icmp_eq (q := 76) A d_Mo_isWrongDepth_69 (by decide) (fun _ => ?_) (fun cc => absurd (c) cc)
      refine ra_iconst A 0 d_Mo_isWrongDepth_76 (by decide) <| ?_
      exact ra_zret A ow rfl d_Mo_isWrongDepth_77 hX
    · rw [show suD D s = false by cases q : suD D s; rfl; exact absurd (hv.mpr q) c] at hX
      refine ra_icmp_eq (q := 76) A d_Mo_isWrongDepth_69 (by decide) (fun cc => absurd cc (c)) (fun _ => ?_)
      refine ra_iconst A 1 d_Mo_isWrongDepth_72 (by decide) <| ra_goto (q := 77) A d_Mo_isWrongDepth_73 (by decide) <| ?_
      exact ra_zret A ow rfl d_Mo_isWrongDepth_77 hX
  unfold suD at at63
  refine ra_iload_n A d_Mo_isWrongDepth_0 rfl <| ?_
  by_cases c0 : s = 0
  · refine ra_if_ne (q := 11) A d_Mo_isWrongDepth_1 (by decide) (fun cc => absurd ((by rw [c0]; rfl)) cc) (fun _ => ?_)
    refine ra_aload_n A d_Mo_isWrongDepth_4 rfl <| ra_getI A f_Mo_368 d_Mo_isWrongDepth_5 (Nat.le_of_ble_eq_true rfl) rfl rfl <| ?_
    rw [eD]
    refine ra_goto (q := 63) A d_Mo_isWrongDepth_8 (by decide) <| ?_
    exact at63 _ (by rw [decide_eq_true c0]; simp)
  rw [decide_eq_false c0, Bool.false_or] at at63
  simp only [decide_eq_true_iff] at at63
  refine ra_if_ne (q := 11) A d_Mo_isWrongDepth_1 (by decide) (fun _ => ?_) (fun cc => absurd cc (eb 0 (by decide) c0))
  refine ra_iload_n A d_Mo_isWrongDepth_11 rfl <| ra_iconst A 1 d_Mo_isWrongDepth_12 (by decide) <| ?_
  by_cases c1 : s = 1
  · refine ra_icmp_ne (q := 21) A d_Mo_isWrongDepth_13 (by decide) (fun cc => absurd ((by rw [c1]; rfl)) cc) (fun _ => ?_)
    refine ra_bipush A 8 d_Mo_isWrongDepth_16 (by decide) <| ra_goto (q := 63) A d_Mo_isWrongDepth_18 (by decide) <| ?_
    exact at63 _ (by rw [c1]; exact Iff.rfl)
  refine ra_icmp_ne (q := 21) A d_Mo_isWrongDepth_13 (by decide) (fun _ => ?_) (fun cc => absurd cc (eb 1 (by decide) c1))
  refine ra_iload_n A d_Mo_isWrongDepth_21 rfl <| ra_iconst A 2 d_Mo_isWrongDepth_22 (by decide) <| ?_
  by_cases c2 : s = 2
  · refine ra_icmp_ne (q := 31) A d_Mo_isWrongDepth_23 (by decide) (fun cc => absurd ((by rw [c2]; rfl)) cc) (fun _ => ?_)
    refine ra_bipush A 12 d_Mo_isWrongDepth_26 (by decide) <| ra_goto (q := 63) A d_Mo_isWrongDepth_28 (by decide) <| ?_
    exact at63 _ (by rw [c2]; exact Iff.rfl)
  refine ra_icmp_ne (q := 31) A d_Mo_isWrongDepth_23 (by decide) (fun _ => ?_) (fun cc => absurd cc (eb 2 (by decide) c2))
  refine ra_iload_n A d_Mo_isWrongDepth_31 rfl <| ra_iconst A 4 d_Mo_isWrongDepth_32 (by decide) <| ?_
  by_cases c4 : s = 4
  · refine ra_icmp_ne (q := 41) A d_Mo_isWrongDepth_33 (by decide) (fun cc => absurd ((by rw [c4]; rfl)) cc) (fun _ => ?_)
    refine ra_bipush A 16 d_Mo_isWrongDepth_36 (by decide) <| ra_goto (q := 63) A d_Mo_isWrongDepth_38 (by decide) <| ?_
    exact at63 _ (by rw [c4]; exact Iff.rfl)
  refine ra_icmp_ne (q := 41) A d_Mo_isWrongDepth_33 (by decide) (fun _ => ?_) (fun cc => absurd cc (eb 4 (by decide) c4))
  refine ra_iload_n A d_Mo_isWrongDepth_41 rfl <| ra_iconst A 5 d_Mo_isWrongDepth_42 (by decide) <| ?_
  by_cases c5 : s = 5
  · refine ra_icmp_ne (q := 51) A d_Mo_isWrongDepth_43 (by decide) (fun cc => absurd ((by rw [c5]; rfl)) cc) (fun _ => ?_)
    refine ra_bipush A 20 d_Mo_isWrongDepth_46 (by decide) <| ra_goto (q := 63) A d_Mo_isWrongDepth_48 (by decide) <| ?_
    exact at63 _ (by rw [c5]; exact Iff.rfl)
  refine ra_icmp_ne (q := 51) A d_Mo_isWrongDepth_43 (by decide) (fun _ => ?_) (fun cc => absurd cc (eb 5 (by decide) c5))
  refine ra_iload_n A d_Mo_isWrongDepth_51 rfl <| ra_bipush A 6 d_Mo_isWrongDepth_52 (by decide) <| ?_
  by_cases c6 : s = 6
  · refine ra_icmp_ne (q := 62) A d_Mo_isWrongDepth_54 (by decide) (fun cc => absurd ((by rw [c6]; rfl)) cc) (fun _ => ?_)
    refine ra_bipush A 24 d_Mo_isWrongDepth_57 (by decide) <| ra_goto (q := 63) A d_Mo_isWrongDepth_59 (by decide) <| ?_
    exact at63 _ (by rw [c6]; exact Iff.rfl)
  refine ra_icmp_ne (q := 62) A d_Mo_isWrongDepth_54 (by decide) (fun _ => ?_) (fun cc => absurd cc (eb 6 (by decide) c6))
  refine ra_iconst A (-1) d_Mo_isWrongDepth_62 (by decide) <| ?_
  have c37 : s = 3 ∨ s = 7 := by omega
  rcases c37 with c | c
  · exact at63 _ (by rw [c]; exact Iff.rfl)
  · exact at63 _ (by rw [c]; exact Iff.rfl)
end S9h
