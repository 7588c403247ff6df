/-! SoundStreamModel: isType, wasteRead, nextFolded, guess -/
theorem ldiv_neg {m : Nat} (hm : m < 2 ^ 62) : (-(lN (2 * m))) / 2 = -(lN m) := by
  apply Int64.toInt_inj.mp
  have e1 : (-(lN (2 * m))).toInt = -((2 * m : Nat) : Int) := by
    rw [Int64.toInt_neg, pk_lT (by omega), Int.bmod_eq_of_le (by omega) (by omega)]
  have e2 : (-(lN m)).toInt = -((m : Nat) : Int) := by
    rw [Int64.toInt_neg, pk_lT (by omega), Int.bmod_eq_of_le (by omega) (by omega)]
  rw [Int64.toInt_div, e1, e2, show (2 : Int64).toInt = 2 by decide]
  have e3 : (-((2 * m : Nat) : Int)).tdiv 2 = -(m : Int) := by
    rw [Int.neg_tdiv, show ((2 * m : Nat) : Int) = 2 * (m : Int) by push_cast; rfl, Int.mul_tdiv_cancel_left _ (by decide)]
  rw [e3]
  apply Int.bmod_eq_of_le <;> omega
section S9b
variable {u : xu_T} {l : Launch} {KK : State → Prop} {h : xw_H} {X : xc_R → xw_H → Nat → Nat → Prop}
theorem s_Mo_isType (K : xk_ok u KK) {t : Nat} (ht : t < 64) (hX : X (.inl (some (.int (bz (isT t))))) h 0 0) : xm_M l (y0 u) KK m_Mo_isType [.int (nI t)] h X := by
  refine xm_of [] (by simp) (Nat.le_of_ble_eq_true rfl) (by decide) (fun x at0 => ?_)
  have A := xa_of at0 K
  have ow := at0.2.2.2.2.1
  have yes : isT t = true → xg x (y0 u) 0 0 23 [some (.int (nI t))] [] h := by
    intro q
    rw [q] at hX
    refine ra_iconst A 1 d_Mo_isType_23 (by decide) <| ra_goto (q := 28) A d_Mo_isType_24 (by decide) <| ?_
    exact ra_zret A ow rfl d_Mo_isType_28 hX
  have at17 : (8 ≤ t → ¬ t ≤ 12) → ¬ t < 2 → xg x (y0 u) 0 0 17 [some (.int (nI t))] [] h := by
    intro q q2
    refine ra_iload_n A d_Mo_isType_17 rfl <| ra_bipush A 31 d_Mo_isType_18 (by decide) <| ?_
    by_cases c : 32 ≤ t
    · refine ra_icmp_le (q := 27) A d_Mo_isType_20 (by decide) (fun cc => absurd cc (nI_ge (a := 31) (by omega) (by omega))) (fun _ => ?_)
      exact yes (by simp [isT, c])
    · refine ra_icmp_le (q := 27) A d_Mo_isType_20 (by decide) (fun _ => ?_) (fun cc => absurd (nI_le (b := 31) (by omega) (by decide)) cc)
      rw [show isT t = false by simp [isT]; omega] at hX
      refine ra_iconst A 0 d_Mo_isType_27 (by decide) <| ?_
      exact ra_zret A ow rfl d_Mo_isType_28 hX
  refine ra_iload_n A d_Mo_isType_0 rfl <| ra_iconst A 2 d_Mo_isType_1 (by decide) <| ?_
  by_cases c2 : t < 2
  · refine ra_icmp_lt (q := 23) A d_Mo_isType_2 (by decide) (fun _ => ?_) (fun cc => absurd (nI_lt (b := 2) c2 (by decide)) cc)
    exact yes (by simp [isT]; omega)
  · refine ra_icmp_lt (q := 23) A d_Mo_isType_2 (by decide) (fun cc => absurd cc (fun z => absurd ((nI_ltI (b := 2) (by omega) (by decide)).mp z) c2)) (fun _ => ?_)
    refine ra_iload_n A d_Mo_isType_5 rfl <| ra_bipush A 7 d_Mo_isType_6 (by decide) <| ?_
    by_cases c7 : t ≤ 7
    · refine ra_icmp_le (q := 17) A d_Mo_isType_8 (by decide) (fun _ => ?_) (fun cc => absurd (nI_le (b := 7) c7 (by decide)) cc)
      exact at17 (by omega) c2
    · refine ra_icmp_le (q := 17) A d_Mo_isType_8 (by decide) (fun cc => absurd cc (nI_ge (a := 7) (by omega) (by omega))) (fun _ => ?_)
      refine ra_iload_n A d_Mo_isType_11 rfl <| ra_bipush A 13 d_Mo_isType_12 (by decide) <| ?_
      by_cases c13 : t < 13
      · refine ra_icmp_lt (q := 23) A d_Mo_isType_14 (by decide) (fun _ => ?_) (fun cc => absurd (nI_lt (b := 13) c13 (by decide)) cc)
        exact yes (by simp [isT]; omega)
      · refine ra_icmp_lt (q := 23) A d_Mo_isType_14 (by decide) (fun cc => absurd cc (fun z => absurd ((nI_ltI (b := 13) (by omega) (by decide)).mp z) c13)) (fun _ => ?_)
        exact at17 (by omega) c2
theorem s_Mo_wasteRead (K : xk_ok u KK) {F : Nat → Bool} {L b p : Nat} {Q : Rr Nat} (M : MR h F L 0 p) (hb1 : 1 ≤ b) (hb : b ≤ 25) (hq : rZ F L 9 (b - 1) 0 p = Q) (hX : ∀ z p' h', Q = .inr (z, p') → MM h h' → MR h' F L 0 p' → z < b - 1 → X (.inl (some (.int (nI (1 + z))))) h' 0 0) (hY : ∀ x w p' h', Q = .inl x → MM h h' → MR h' F L x p' → x ≠ 0 → X (.inl (some (.int w))) h' 0 0) : xm_M l (y0 u) KK m_Mo_wasteRead [.ref 141, .int (nI b)] h X := by
  refine xm_of [none, none] (by simp) (Nat.le_of_ble_eq_true rfl) (by decide) (fun x at0 => ?_)
  have A := xa_of at0 K
  have ow := at0.2.2.2.2.1
  have fin : ∀ x' w p' m g, Q = .inl x' → MM h g → MR g F L x' p' → x' ≠ 0 → xg x (y0 u) 0 0 4 [some (.ref 141), some (.int (nI b)), some (.int w), some (.int (bz m))] [] g := by
    intro x' w p' m g q hf hM hx
    have ne : ¬ g.1 141 22 = 0 := by rw [hM.2.2.1.2]; exact nI_ne0 (by omega) (by have := hM.2.2.2.2.2; omega)
    refine ra_iload_n A d_Mo_wasteRead_4 rfl <| ?_
    cases m
    · refine ra_if_eq (q := 57) A d_Mo_wasteRead_5 (by decide) (fun _ => ?_) (fun cc => absurd (rfl) cc)
      refine ra_iload_n A d_Mo_wasteRead_57 rfl <| ?_
      exact ra_iret A ow d_Mo_wasteRead_58 (hY x' w p' g q hf hM hx)
    · refine ra_if_eq (q := 57) A d_Mo_wasteRead_5 (by decide) (fun cc => absurd cc ((by decide))) (fun _ => ?_)
      refine ra_aload_n A d_Mo_wasteRead_8 rfl <| ra_getI A f_Mo_386 d_Mo_wasteRead_9 (Nat.le_of_ble_eq_true rfl) rfl rfl <| ?_
      refine ra_if_ne (q := 57) A d_Mo_wasteRead_12 (by decide) (fun _ => ?_) (fun cc => absurd cc (ne))
      refine ra_iload_n A d_Mo_wasteRead_57 rfl <| ?_
      exact ra_iret A ow d_Mo_wasteRead_58 (hY x' w p' g q hf hM hx)
  have loop : ∀ r n p g, n + r = b - 1 → MM h g → MR g F L 0 p → rZ F L 9 r n p = Q → xg x (y0 u) 0 0 4 [some (.ref 141), some (.int (nI b)), some (.int (nI n)), some (.int (bz true))] [] g := by
    intro r
    induction r with
    | zero =>
      intro n p g hr hf hM hQ
      have e22 := hM.2.2.1.2
      refine ra_iload_n A d_Mo_wasteRead_4 rfl <| ?_
      refine ra_if_eq (q := 57) A d_Mo_wasteRead_5 (by decide) (fun cc => absurd cc ((by decide))) (fun _ => ?_)
      refine ra_aload_n A d_Mo_wasteRead_8 rfl <| ra_getI A f_Mo_386 d_Mo_wasteRead_9 (Nat.le_of_ble_eq_true rfl) rfl rfl <| ?_
      refine ra_if_ne (q := 57) A d_Mo_wasteRead_12 (by decide) (fun cc => absurd (e22) cc) (fun _ => ?_)
      refine ra_aload_n A d_Mo_wasteRead_15 rfl <| ra_iload_n A d_Mo_wasteRead_16 rfl <| ra_iload_n A d_Mo_wasteRead_17 rfl <| ra_iconst A 1 d_Mo_wasteRead_18 (by decide) <| ra_iadd A d_Mo_wasteRead_19 <| ra_isub A d_Mo_wasteRead_20 <| ?_
      rw [nI_1, pk_sub (by omega)]
      refine ra_iconst A 1 d_Mo_wasteRead_21 (by decide) <| ?_
      refine ra_icmp_lt (q := 29) A d_Mo_wasteRead_22 (by decide) (fun _ => ?_) (fun cc => absurd ((by rw [show b - (n + 1) = 0 by omega]; decide)) cc)
      refine ra_iconst A 0 d_Mo_wasteRead_29 (by decide) <| ra_bipush A 9 d_Mo_wasteRead_30 (by decide) <| ?_
      refine ra_callV (As := [_, _]) A ok_Mo_want l_Mo_409 im_Mo_want sl_Mo_want d_Mo_wasteRead_32 (Nat.le_of_ble_eq_true rfl) rfl rfl rfl (Nat.le_of_ble_eq_true rfl) (xr_of at0 (by decide)) (s_Mo_want K (b := false) e22 (fun q => by cases q) (fun _ => ?_))
      show xg x (y0 u) 0 0 35 _ _ _
      have M9 : MR (xw_I g 141 22 9) F L 9 p := hM.of (xI_j (by decide)) (xI_k (by decide)) ⟨hM.2.2.1.1, xI_e⟩ hM.2.2.2.1 (by decide)
      refine ra_aload_n A d_Mo_wasteRead_35 rfl <| ra_iconst A 1 d_Mo_wasteRead_36 (by decide) <| ?_
      refine ra_callV (As := [_]) A ok_Mo_next l_Mo_394 im_Mo_next sl_Mo_next d_Mo_wasteRead_37 (Nat.le_of_ble_eq_true rfl) rfl rfl rfl (Nat.le_of_ble_eq_true rfl) (xr_of at0 (by decide)) (s_Mo_nextF K M9 (by decide) ?_)
      show xg x (y0 u) 0 0 40 _ _ _
      refine ra_lconst A 0 d_Mo_wasteRead_40 (by decide) <| ra_lcmp A d_Mo_wasteRead_41 <| ?_
      refine ra_if_ne (q := 49) A d_Mo_wasteRead_42 (by decide) (fun cc => absurd (lc_eq.mpr rfl) cc) (fun _ => ?_)
      refine ra_iconst A 1 d_Mo_wasteRead_45 (by decide) <| ra_goto (q := 50) A d_Mo_wasteRead_46 (by decide) <| ra_istore_n (L' := [_, _, _, _]) A d_Mo_wasteRead_50 (by decide) rfl <| ra_iinc (L' := [_, _, _, _]) A 1 d_Mo_wasteRead_51 rfl (by decide) (by decide) rfl <| ra_goto (q := 4) A d_Mo_wasteRead_54 (by decide) <| ?_
      exact fin 9 _ p true _ hQ.symm (hf.trans (fm_F (by decide))) M9 (by decide)
    | succ r ih =>
      intro n p g hr hf hM hQ
      have e22 := hM.2.2.1.2
      rw [rZ] at hQ
      refine ra_iload_n A d_Mo_wasteRead_4 rfl <| ?_
      refine ra_if_eq (q := 57) A d_Mo_wasteRead_5 (by decide) (fun cc => absurd cc ((by decide))) (fun _ => ?_)
      refine ra_aload_n A d_Mo_wasteRead_8 rfl <| ra_getI A f_Mo_386 d_Mo_wasteRead_9 (Nat.le_of_ble_eq_true rfl) rfl rfl <| ?_
      refine ra_if_ne (q := 57) A d_Mo_wasteRead_12 (by decide) (fun cc => absurd (e22) cc) (fun _ => ?_)
      refine ra_aload_n A d_Mo_wasteRead_15 rfl <| ra_iload_n A d_Mo_wasteRead_16 rfl <| ra_iload_n A d_Mo_wasteRead_17 rfl <| ra_iconst A 1 d_Mo_wasteRead_18 (by decide) <| ra_iadd A d_Mo_wasteRead_19 <| ra_isub A d_Mo_wasteRead_20 <| ?_
      rw [nI_1, pk_sub (by omega)]
      refine ra_iconst A 1 d_Mo_wasteRead_21 (by decide) <| ?_
      refine ra_icmp_lt (q := 29) A d_Mo_wasteRead_22 (by decide) (fun cc => absurd cc (fun z => absurd ((nI_ltI (b := 1) (by omega) (by decide)).mp z) (by omega))) (fun _ => ?_)
      refine ra_iconst A 1 d_Mo_wasteRead_25 (by decide) <| ra_goto (q := 30) A d_Mo_wasteRead_26 (by decide) <| ra_bipush A 9 d_Mo_wasteRead_30 (by decide) <| ?_
      refine ra_callV (As := [_, _]) A ok_Mo_want l_Mo_409 im_Mo_want sl_Mo_want d_Mo_wasteRead_32 (Nat.le_of_ble_eq_true rfl) rfl rfl rfl (Nat.le_of_ble_eq_true rfl) (xr_of at0 (by decide)) (s_Mo_want K (b := true) e22 (fun _ => ?_) (fun q => by cases q))
      show xg x (y0 u) 0 0 35 _ _ g
      refine ra_aload_n A d_Mo_wasteRead_35 rfl <| ra_iconst A 1 d_Mo_wasteRead_36 (by decide) <| ?_
      refine ra_callV (As := [_]) A ok_Mo_next l_Mo_394 im_Mo_next sl_Mo_next d_Mo_wasteRead_37 (Nat.le_of_ble_eq_true rfl) rfl rfl rfl (Nat.le_of_ble_eq_true rfl) (xr_of at0 (by decide)) (s_Mo_next K (n := 1) hM (by decide) rfl (fun v p1 g1 e1 f1 M1 hv => ?_) (fun e g1 e1 f1 M1 he => ?_))
      · show xg x (y0 u) 0 0 40 _ _ g1
        rw [e1, rb_r] at hQ
        refine ra_lconst A 0 d_Mo_wasteRead_40 (by decide) <| ra_lcmp A d_Mo_wasteRead_41 <| ?_
        by_cases c : v = 1
        · rw [if_pos c] at hQ
          subst c
          refine ra_if_ne (q := 49) A d_Mo_wasteRead_42 (by decide) (fun _ => ?_) (fun cc => absurd cc (fun z => absurd (lc_eq.mp z) (by decide)))
          refine ra_iconst A 0 d_Mo_wasteRead_49 (by decide) <| ra_istore_n (L' := [_, _, _, _]) A d_Mo_wasteRead_50 (by decide) rfl <| ra_iinc (L' := [_, _, _, _]) A 1 d_Mo_wasteRead_51 rfl (by decide) (by decide) rfl <| ra_goto (q := 4) A d_Mo_wasteRead_54 (by decide) <| ?_
          rw [nI_1]
          refine ra_iload_n A d_Mo_wasteRead_4 rfl <| ?_
          refine ra_if_eq (q := 57) A d_Mo_wasteRead_5 (by decide) (fun _ => ?_) (fun cc => absurd (rfl) cc)
          refine ra_iload_n A d_Mo_wasteRead_57 rfl <| ?_
          rw [Nat.add_comm n 1]
          exact ra_iret A ow d_Mo_wasteRead_58 (hX n p1 g1 hQ.symm (hf.trans f1) M1 (by omega))
        · rw [if_neg c] at hQ
          obtain rfl : v = 0 := by omega
          refine ra_if_ne (q := 49) A d_Mo_wasteRead_42 (by decide) (fun cc => absurd (lc_eq.mpr rfl) cc) (fun _ => ?_)
          refine ra_iconst A 1 d_Mo_wasteRead_45 (by decide) <| ra_goto (q := 50) A d_Mo_wasteRead_46 (by decide) <| ra_istore_n (L' := [_, _, _, _]) A d_Mo_wasteRead_50 (by decide) rfl <| ra_iinc (L' := [_, _, _, _]) A 1 d_Mo_wasteRead_51 rfl (by decide) (by decide) rfl <| ra_goto (q := 4) A d_Mo_wasteRead_54 (by decide) <| ?_
          rw [nI_1]
          exact ih (n + 1) p1 g1 (by omega) (hf.trans f1) M1 hQ
      · show xg x (y0 u) 0 0 40 _ _ g1
        rw [e1, rb_l] at hQ
        refine ra_lconst A 0 d_Mo_wasteRead_40 (by decide) <| ra_lcmp A d_Mo_wasteRead_41 <| ?_
        refine ra_if_ne (q := 49) A d_Mo_wasteRead_42 (by decide) (fun cc => absurd (lc_eq.mpr rfl) cc) (fun _ => ?_)
        refine ra_iconst A 1 d_Mo_wasteRead_45 (by decide) <| ra_goto (q := 50) A d_Mo_wasteRead_46 (by decide) <| ra_istore_n (L' := [_, _, _, _]) A d_Mo_wasteRead_50 (by decide) rfl <| ra_iinc (L' := [_, _, _, _]) A 1 d_Mo_wasteRead_51 rfl (by decide) (by decide) rfl <| ra_goto (q := 4) A d_Mo_wasteRead_54 (by decide) <| ?_
        exact fin e _ p true g1 hQ.symm (hf.trans f1) M1 he
  refine ra_iconst A 0 d_Mo_wasteRead_0 (by decide) <| ra_istore_n (L' := [_, _, _, _]) A d_Mo_wasteRead_1 (by decide) rfl <| ra_iconst A 1 d_Mo_wasteRead_2 (by decide) <| ra_istore_n (L' := [_, _, _, _]) A d_Mo_wasteRead_3 (by decide) rfl <| ?_
  exact loop (b - 1) 0 p h (Nat.zero_add _) MM.rfl M hq
theorem s_Mo_nextFolded (K : xk_ok u KK) {F : Nat → Bool} {L k p : Nat} {Q : Rr Int64} (M : MR h F L 0 p) (hk : k ≤ 30) (hq : rR F L false 0 k p = Q) (hX : ∀ v p' h', Q = .inr (v, p') → MM h h' → MR h' F L 0 p' → X (.inl (some (.long v))) h' 0 0) (hY : ∀ x w p' h', Q = .inl x → MM h h' → MR h' F L x p' → x ≠ 0 → X (.inl (some (.long w))) h' 0 0) : xm_M l (y0 u) KK m_Mo_nextFolded [.ref 141, .int (nI k)] h X := by
  refine xm_of [none, none, none, none] (by simp) (Nat.le_of_ble_eq_true rfl) (by decide) (fun x at0 => ?_)
  have A := xa_of at0 K
  have ow := at0.2.2.2.2.1
  have hpk : 2 ^ (32 - k) * 2 ^ k = 2 ^ 32 := by rw [← Nat.pow_add]; congr 1; omega
  have hk0 := Nat.two_pow_pos k
  unfold rR at hq
  rw [if_neg (by decide)] at hq
  have fin : ∀ x' (w : Int64) p' g, Q = .inl x' → MM h g → MR g F L x' p' → x' ≠ 0 → xg x (y0 u) 0 0 54 [some (.ref 141), some (.int (nI k)), some (.long w), none, none, none] [] g := by
    intro x' w p' g q hf hM hx
    refine ra_lload_n A d_Mo_nextFolded_54 rfl <| ra_iload_n A d_Mo_nextFolded_55 rfl <| ra_lshl A d_Mo_nextFolded_56 <| ra_aload_n A d_Mo_nextFolded_57 rfl <| ra_iload_n A d_Mo_nextFolded_58 rfl <| ?_
    refine ra_callV (As := [_]) A ok_Mo_next l_Mo_394 im_Mo_next sl_Mo_next d_Mo_nextFolded_59 (Nat.le_of_ble_eq_true rfl) rfl rfl rfl (Nat.le_of_ble_eq_true rfl) (xr_of at0 (by decide)) (s_Mo_nextF K hM hx ?_)
    show xg x (y0 u) 0 0 62 _ _ g
    refine ra_ladd A d_Mo_nextFolded_62 <| ra_lstore (L' := [_, _, _, _, _, _]) A d_Mo_nextFolded_63 (by decide) rfl <| ra_lload A d_Mo_nextFolded_65 rfl <| ra_ldc2 A k_Mo_392 d_Mo_nextFolded_67 <| ra_lrem A d_Mo_nextFolded_70 (by decide) <| ra_lconst A 0 d_Mo_nextFolded_71 (by decide) <| ra_lcmp A d_Mo_nextFolded_72 <| ?_
    refine ra_if_ne (q := 85) A d_Mo_nextFolded_73 (by decide) (fun c => ?_) (fun c => ?_)
    · refine ra_lload A d_Mo_nextFolded_85 rfl <| ra_lconst A 1 d_Mo_nextFolded_87 (by decide) <| ra_ladd A d_Mo_nextFolded_88 <| ra_lneg A d_Mo_nextFolded_89 <| ra_ldc2 A k_Mo_392 d_Mo_nextFolded_90 <| ra_ldiv A d_Mo_nextFolded_93 (by decide) <| ?_
      exact ra_lret A ow d_Mo_nextFolded_94 (hY x' _ p' g q hf hM hx)
    · refine ra_lload A d_Mo_nextFolded_76 rfl <| ra_ldc2 A k_Mo_392 d_Mo_nextFolded_78 <| ra_ldiv A d_Mo_nextFolded_81 (by decide) <| ra_goto (q := 94) A d_Mo_nextFolded_82 (by decide) <| ?_
      exact ra_lret A ow d_Mo_nextFolded_94 (hY x' _ p' g q hf hM hx)
  have fin2 : ∀ x' (w : Int64) p' g, Q = .inl x' → MM h g → MR g F L x' p' → x' ≠ 0 → xg x (y0 u) 0 0 2 [some (.ref 141), some (.int (nI k)), some (.long w), none, none, none] [] g := by
    intro x' w p' g q hf hM hx
    have ne : ¬ g.1 141 22 = 0 := by rw [hM.2.2.1.2]; exact nI_ne0 (by omega) (by have := hM.2.2.2.2.2; omega)
    refine ra_aload_n A d_Mo_nextFolded_2 rfl <| ra_getI A f_Mo_386 d_Mo_nextFolded_3 (Nat.le_of_ble_eq_true rfl) rfl rfl <| ?_
    refine ra_if_ne (q := 54) A d_Mo_nextFolded_6 (by decide) (fun _ => ?_) (fun cc => absurd cc (ne))
    exact fin x' w p' g q hf hM hx
  have loop : ∀ r n p g, 1 ≤ r → n + r = 2 ^ (32 - k) → MM h g → MR g F L 0 p → (rb (rZ F L 11 r n p) fun z p' => rb (rB F L k p') fun b p'' => (.inr (unf (z * 2 ^ k + b), p'') : Rr Int64)) = Q → xg x (y0 u) 0 0 2 [some (.ref 141), some (.int (nI k)), some (.long (lN n)), none, none, none] [] g := by
    intro r
    induction r with
    | zero => intro n p g h1; omega
    | succ r ih =>
      intro n p g _ hr hf hM hQ
      have e22 := hM.2.2.1.2
      have hn32 : (n + 1) * 2 ^ k ≤ 2 ^ 32 := by rw [← hpk]; exact Nat.mul_le_mul_right _ (by omega)
      rw [Nat.add_mul, Nat.one_mul] at hn32
      rw [rZ] at hQ
      refine ra_aload_n A d_Mo_nextFolded_2 rfl <| ra_getI A f_Mo_386 d_Mo_nextFolded_3 (Nat.le_of_ble_eq_true rfl) rfl rfl <| ?_
      refine ra_if_ne (q := 54) A d_Mo_nextFolded_6 (by decide) (fun cc => absurd (e22) cc) (fun _ => ?_)
      refine ra_aload_n A d_Mo_nextFolded_9 rfl <| ra_iconst A 1 d_Mo_nextFolded_10 (by decide) <| ?_
      refine ra_callV (As := [_]) A ok_Mo_next l_Mo_394 im_Mo_next sl_Mo_next d_Mo_nextFolded_11 (Nat.le_of_ble_eq_true rfl) rfl rfl rfl (Nat.le_of_ble_eq_true rfl) (xr_of at0 (by decide)) (s_Mo_next K (n := 1) hM (by decide) rfl (fun v p1 g1 e1 f1 M1 hv => ?_) (fun e g1 e1 f1 M1 he => ?_))
      · show xg x (y0 u) 0 0 14 _ _ g1
        rw [e1, rb_r] at hQ
        refine ra_lconst A 0 d_Mo_nextFolded_14 (by decide) <| ra_lcmp A d_Mo_nextFolded_15 <| ?_
        by_cases c : v = 1
        · rw [if_pos c, rb_r] at hQ
          subst c
          refine ra_if_ne (q := 54) A d_Mo_nextFolded_16 (by decide) (fun _ => ?_) (fun cc => absurd cc (fun z => absurd (lc_eq.mp z) (by decide)))
          refine ra_lload_n A d_Mo_nextFolded_54 rfl <| ra_iload_n A d_Mo_nextFolded_55 rfl <| ra_lshl A d_Mo_nextFolded_56 <| ?_
          rw [wb_shl n (by omega)]
          refine ra_aload_n A d_Mo_nextFolded_57 rfl <| ra_iload_n A d_Mo_nextFolded_58 rfl <| ?_
          refine ra_callV (As := [_]) A ok_Mo_next l_Mo_394 im_Mo_next sl_Mo_next d_Mo_nextFolded_59 (Nat.le_of_ble_eq_true rfl) rfl rfl rfl (Nat.le_of_ble_eq_true rfl) (xr_of at0 (by decide)) (s_Mo_next K (n := k) M1 (by omega) rfl (fun b p2 g2 e2 f2 M2 hb => ?_) (fun e g2 e2 f2 M2 he => ?_))
          · show xg x (y0 u) 0 0 62 _ _ g2
            rw [e2, rb_r] at hQ
            refine ra_ladd A d_Mo_nextFolded_62 <| ?_
            rw [lN_add]
            generalize hV : n * 2 ^ k + b = V at hQ
            have hV32 : V < 2 ^ 32 := by omega
            unfold unf at hQ
            refine ra_lstore (L' := [_, _, _, _, _, _]) A d_Mo_nextFolded_63 (by decide) rfl <| ra_lload A d_Mo_nextFolded_65 rfl <| ra_ldc2 A k_Mo_392 d_Mo_nextFolded_67 <| ra_lrem A d_Mo_nextFolded_70 (by decide) <| ?_
            rw [show lN V - lN V / 2 * 2 = lN (V % 2) from pk_lRem (b := 2) (by omega) (by decide) (by decide)]
            refine ra_lconst A 0 d_Mo_nextFolded_71 (by decide) <| ra_lcmp A d_Mo_nextFolded_72 <| ?_
            by_cases cv : V % 2 = 0
            · refine ra_if_ne (q := 85) A d_Mo_nextFolded_73 (by decide) (fun cc => absurd (lc_eq.mpr (by rw [cv]; rfl)) cc) (fun _ => ?_)
              rw [if_pos cv] at hQ
              refine ra_lload A d_Mo_nextFolded_76 rfl <| ra_ldc2 A k_Mo_392 d_Mo_nextFolded_78 <| ra_ldiv A d_Mo_nextFolded_81 (by decide) <| ra_goto (q := 94) A d_Mo_nextFolded_82 (by decide) <| ?_
              rw [show lN V / 2 = lN (V / 2) from pk_lDiv (b := 2) (by omega) (by decide) (by decide)]
              exact ra_lret A ow d_Mo_nextFolded_94 (hX _ p2 g2 hQ.symm ((hf.trans f1).trans f2) M2)
            · refine ra_if_ne (q := 85) A d_Mo_nextFolded_73 (by decide) (fun _ => ?_) (fun cc => absurd cc (fun z => cv ((pk_lEQ (b := 0) (by omega) (by decide)).mp (lc_eq.mp z))))
              rw [if_neg cv] at hQ
              refine ra_lload A d_Mo_nextFolded_85 rfl <| ra_lconst A 1 d_Mo_nextFolded_87 (by decide) <| ra_ladd A d_Mo_nextFolded_88 <| ra_lneg A d_Mo_nextFolded_89 <| ra_ldc2 A k_Mo_392 d_Mo_nextFolded_90 <| ra_ldiv A d_Mo_nextFolded_93 (by decide) <| ?_
              rw [lN_1, show V + 1 = 2 * (V / 2 + 1) by omega, ldiv_neg (by omega), ← lN_1, show -(lN (V / 2) + 1) = -(lN (V / 2)) - 1 by grind]
              exact ra_lret A ow d_Mo_nextFolded_94 (hX _ p2 g2 hQ.symm ((hf.trans f1).trans f2) M2)
          · show xg x (y0 u) 0 0 62 _ _ g2
            rw [e2, rb_l] at hQ
            refine ra_ladd A d_Mo_nextFolded_62 <| ra_lstore (L' := [_, _, _, _, _, _]) A d_Mo_nextFolded_63 (by decide) rfl <| ra_lload A d_Mo_nextFolded_65 rfl <| ra_ldc2 A k_Mo_392 d_Mo_nextFolded_67 <| ra_lrem A d_Mo_nextFolded_70 (by decide) <| ra_lconst A 0 d_Mo_nextFolded_71 (by decide) <| ra_lcmp A d_Mo_nextFolded_72 <| ?_
            refine ra_if_ne (q := 85) A d_Mo_nextFolded_73 (by decide) (fun c => ?_) (fun c => ?_)
            · refine ra_lload A d_Mo_nextFolded_85 rfl <| ra_lconst A 1 d_Mo_nextFolded_87 (by decide) <| ra_ladd A d_Mo_nextFolded_88 <| ra_lneg A d_Mo_nextFolded_89 <| ra_ldc2 A k_Mo_392 d_Mo_nextFolded_90 <| ra_ldiv A d_Mo_nextFolded_93 (by decide) <| ?_
              exact ra_lret A ow d_Mo_nextFolded_94 (hY e _ p1 g2 hQ.symm ((hf.trans f1).trans f2) M2 he)
            · refine ra_lload A d_Mo_nextFolded_76 rfl <| ra_ldc2 A k_Mo_392 d_Mo_nextFolded_78 <| ra_ldiv A d_Mo_nextFolded_81 (by decide) <| ra_goto (q := 94) A d_Mo_nextFolded_82 (by decide) <| ?_
              exact ra_lret A ow d_Mo_nextFolded_94 (hY e _ p1 g2 hQ.symm ((hf.trans f1).trans f2) M2 he)
        · rw [if_neg c] at hQ
          obtain rfl : v = 0 := by omega
          refine ra_if_ne (q := 54) A d_Mo_nextFolded_16 (by decide) (fun cc => absurd (lc_eq.mpr rfl) cc) (fun _ => ?_)
          refine ra_aload_n A d_Mo_nextFolded_19 rfl <| ra_getI A f_Mo_386 d_Mo_nextFolded_20 (Nat.le_of_ble_eq_true rfl) rfl rfl <| ?_
          refine ra_if_ne (q := 54) A d_Mo_nextFolded_23 (by decide) (fun cc => absurd (M1.2.2.1.2) cc) (fun _ => ?_)
          refine ra_lload_n A d_Mo_nextFolded_26 rfl <| ra_lconst A 1 d_Mo_nextFolded_27 (by decide) <| ra_ladd A d_Mo_nextFolded_28 <| ?_
          rw [lN_1]
          refine ra_lstore_n (L' := [_, _, _, _, _, _]) A d_Mo_nextFolded_29 (by decide) rfl <| ra_aload_n A d_Mo_nextFolded_30 rfl <| ra_lload_n A d_Mo_nextFolded_31 rfl <| ra_iload_n A d_Mo_nextFolded_32 rfl <| ra_lshl A d_Mo_nextFolded_33 <| ?_
          rw [wb_shl (n + 1) (by omega)]
          refine ra_ldc2 A k_Mo_457 d_Mo_nextFolded_34 <| ra_lcmp A d_Mo_nextFolded_37 <| ?_
          by_cases cr : r = 0
          · subst cr
            rw [rZ, rb_l] at hQ
            have hfull : (n + 1) * 2 ^ k = 4294967296 := by rw [show n + 1 = 2 ^ (32 - k) by omega, hpk]
            rw [hfull]
            refine ra_if_ge (q := 45) A d_Mo_nextFolded_38 (by decide) (fun _ => ?_) (fun cc => absurd (lc_ge.mpr (by decide)) cc)
            refine ra_iconst A 0 d_Mo_nextFolded_45 (by decide) <| ra_bipush A 11 d_Mo_nextFolded_46 (by decide) <| ?_
            refine ra_callV (As := [_, _]) A ok_Mo_want l_Mo_409 im_Mo_want sl_Mo_want d_Mo_nextFolded_48 (Nat.le_of_ble_eq_true rfl) rfl rfl rfl (Nat.le_of_ble_eq_true rfl) (xr_of at0 (by decide)) (s_Mo_want K (b := false) M1.2.2.1.2 (fun q => by cases q) (fun _ => ?_))
            show xg x (y0 u) 0 0 51 _ _ _
            refine ra_goto (q := 2) A d_Mo_nextFolded_51 (by decide) <| ?_
            exact fin2 11 _ p1 _ hQ.symm ((hf.trans f1).trans (fm_F (by decide))) (M1.of (xI_j (by decide)) (xI_k (by decide)) ⟨M1.2.2.1.1, xI_e⟩ M1.2.2.2.1 (by decide)) (by decide)
          · have hless : (n + 1) * 2 ^ k < 4294967296 := by
              have h1 : (n + 1 + 1) * 2 ^ k ≤ 2 ^ (32 - k) * 2 ^ k := Nat.mul_le_mul_right _ (by omega)
              rw [hpk, Nat.add_mul (n + 1)] at h1
              omega
            refine ra_if_ge (q := 45) A d_Mo_nextFolded_38 (by decide) (fun cc => absurd cc (fun z => absurd ((pk_lLE (a := 4294967296) (by decide) (by omega)).mp (lc_ge.mp z)) (by omega))) (fun _ => ?_)
            refine ra_iconst A 1 d_Mo_nextFolded_41 (by decide) <| ra_goto (q := 46) A d_Mo_nextFolded_42 (by decide) <| ra_bipush A 11 d_Mo_nextFolded_46 (by decide) <| ?_
            refine ra_callV (As := [_, _]) A ok_Mo_want l_Mo_409 im_Mo_want sl_Mo_want d_Mo_nextFolded_48 (Nat.le_of_ble_eq_true rfl) rfl rfl rfl (Nat.le_of_ble_eq_true rfl) (xr_of at0 (by decide)) (s_Mo_want K (b := true) M1.2.2.1.2 (fun _ => ?_) (fun q => by cases q))
            show xg x (y0 u) 0 0 51 _ _ g1
            refine ra_goto (q := 2) A d_Mo_nextFolded_51 (by decide) <| ?_
            exact ih (n + 1) p1 g1 (by omega) (by omega) (hf.trans f1) M1 hQ
      · show xg x (y0 u) 0 0 14 _ _ g1
        rw [e1, rb_l, rb_l] at hQ
        have ne : ¬ g1.1 141 22 = 0 := by rw [M1.2.2.1.2]; exact nI_ne0 (by omega) (by have := M1.2.2.2.2.2; omega)
        refine ra_lconst A 0 d_Mo_nextFolded_14 (by decide) <| ra_lcmp A d_Mo_nextFolded_15 <| ?_
        refine ra_if_ne (q := 54) A d_Mo_nextFolded_16 (by decide) (fun cc => absurd (lc_eq.mpr rfl) cc) (fun _ => ?_)
        refine ra_aload_n A d_Mo_nextFolded_19 rfl <| ra_getI A f_Mo_386 d_Mo_nextFolded_20 (Nat.le_of_ble_eq_true rfl) rfl rfl <| ?_
        refine ra_if_ne (q := 54) A d_Mo_nextFolded_23 (by decide) (fun _ => ?_) (fun cc => absurd cc (ne))
        exact fin e _ p g1 hQ.symm (hf.trans f1) M1 he
  refine ra_lconst A 0 d_Mo_nextFolded_0 (by decide) <| ra_lstore_n (L' := [_, _, _, _, _, _]) A d_Mo_nextFolded_1 (by decide) rfl <| ?_
  exact loop (2 ^ (32 - k)) 0 p h (Nat.two_pow_pos _) (Nat.zero_add _) MM.rfl M hq
theorem s_Mo_guess (K : xk_ok u KK) {j t o by' i : Nat} {fac row : Nat → Int32} (hj : j < 2) (ht : t < 64) (ho : o ≤ 32) (hoi : o ≤ i) (hi : i < 1200) (hrow : ∀ r, r < i → h.1 154 (1200 * j + r) = row r) (hfac : 32 ≤ t → ∀ k, k < o → h.1 155 k = fac k) (hfix : ¬ 32 ≤ t → o ≤ 4 ∧ by' = 0 ∧ ∀ k, k < o → fac k = fxf o k) (hX : X (.inl (some (.long (prd fac row i o >>> ((nI by').toInt64 &&& 63))))) h 0 0) : xm_M l (y0 u) KK m_Mo_guess [.ref 141, .int (nI j), .int (nI t), .int (nI o), .int (nI by'), .int (nI i)] h X := by
  refine xm_of [none, none, none, none] (by simp) (Nat.le_of_ble_eq_true rfl) (by decide) (fun x at0 => ?_)
  have A := xa_of at0 K
  have ow := at0.2.2.2.2.1
  refine ra_sipush A 1200 d_Mo_guess_0 (by decide) <| ra_iload_n A d_Mo_guess_3 rfl <| ra_imul A d_Mo_guess_4 <| ?_
  rw [show (1200 : Int32) * nI j = nI (1200 * j) from pk_mul 1200 j]
  refine ra_iload A d_Mo_guess_5 rfl <| ra_iadd A d_Mo_guess_7 <| ?_
  rw [nI_add]
  refine ra_istore (L' := [_, _, _, _, _, _, _, _, _, _]) A d_Mo_guess_8 (by decide) rfl <| ra_iload_n A d_Mo_guess_10 rfl <| ra_bipush A 31 d_Mo_guess_11 (by decide) <| ?_
  have hjj : 1200 * j ≤ 1200 := by omega
  by_cases c : 32 ≤ t
  · refine ra_icmp_le (q := 67) A d_Mo_guess_13 (by decide) (fun cc => absurd cc (nI_ge (a := 31) (by omega) (by omega))) (fun _ => ?_)
    refine ra_lconst A 0 d_Mo_guess_16 (by decide) <| ra_lstore (L' := [_, _, _, _, _, _, _, _, _, _]) A d_Mo_guess_17 (by decide) rfl <| ra_iconst A 0 d_Mo_guess_19 (by decide) <| ra_istore (L' := [_, _, _, _, _, _, _, _, _, _]) A d_Mo_guess_20 (by decide) rfl <| ?_
    refine lp_up (σ := Unit) (W := fun k _ => xg x (y0 u) 0 0 22 [some (.ref 141), some (.int (nI j)), some (.int (nI t)), some (.int (nI o)), some (.int (nI by')), some (.int (nI i)), some (.int (nI (1200 * j + i))), some (.long (prd fac row i k)), none, some (.int (nI k))] [] h) (I := fun _ _ => True) o ?_ ?_ 0 () (Nat.zero_le _) trivial
    · rintro - -
      refine ra_iload A d_Mo_guess_22 rfl <| ra_iload_n A d_Mo_guess_24 rfl <| ?_
      refine ra_icmp_ge (q := 61) A d_Mo_guess_25 (by decide) (fun _ => ?_) (fun cc => absurd (Int32.le_refl _) cc)
      refine ra_lload A d_Mo_guess_61 rfl <| ra_iload A d_Mo_guess_63 rfl <| ra_lshr A d_Mo_guess_65 <| ?_
      exact ra_lret A ow d_Mo_guess_66 hX
    · rintro k - hk - ih
      refine ra_iload A d_Mo_guess_22 rfl <| ra_iload_n A d_Mo_guess_24 rfl <| ?_
      refine ra_icmp_ge (q := 61) A d_Mo_guess_25 (by decide) (fun cc => absurd cc (nI_ge hk (by omega))) (fun _ => ?_)
      refine ra_lload A d_Mo_guess_28 rfl <| ra_aload_n A d_Mo_guess_30 rfl <| ra_getR A f_Mo_194 d_Mo_guess_31 (Nat.le_of_ble_eq_true rfl) rfl rfl rfl <| ra_iload A d_Mo_guess_34 rfl <| ?_
      refine ra_iaload A d_Mo_guess_36 (Nat.le_of_ble_eq_true rfl) rfl (vp_in_nI (by omega) (by decide)) ?_
      rw [nI_clamp (by omega), hfac c k hk]
      refine ra_i2l A d_Mo_guess_37 <| ra_aload_n A d_Mo_guess_38 rfl <| ra_getR A f_Mo_191 d_Mo_guess_39 (Nat.le_of_ble_eq_true rfl) rfl rfl rfl <| ra_iload A d_Mo_guess_42 rfl <| ra_iconst A 1 d_Mo_guess_44 (by decide) <| ra_isub A d_Mo_guess_45 <| ra_iload A d_Mo_guess_46 rfl <| ra_isub A d_Mo_guess_48 <| ?_
      rw [show nI (1200 * j + i) - 1 = nI (1200 * j + i - 1) from pk_sub (b := 1) (by omega), pk_sub (by omega), show 1200 * j + i - 1 - k = 1200 * j + (i - 1 - k) by omega]
      refine ra_iaload A d_Mo_guess_49 (Nat.le_of_ble_eq_true rfl) rfl (vp_in_nI (by omega) (by decide)) ?_
      rw [nI_clamp (by omega), hrow _ (by omega)]
      refine ra_i2l A d_Mo_guess_50 <| ra_lmul A d_Mo_guess_51 <| ra_ladd A d_Mo_guess_52 <| ra_lstore (L' := [_, _, _, _, _, _, _, _, _, _]) A d_Mo_guess_53 (by decide) rfl <| ra_iinc (L' := [_, _, _, _, _, _, _, _, _, _]) A 1 d_Mo_guess_55 rfl (by decide) (by decide) rfl <| ra_goto (q := 22) A d_Mo_guess_58 (by decide) <| ?_
      rw [nI_1]
      exact ih () trivial
  · obtain ⟨ho4, hby, hff⟩ := hfix c
    subst hby
    refine ra_icmp_le (q := 67) A d_Mo_guess_13 (by decide) (fun _ => ?_) (fun cc => absurd (nI_le (b := 31) (by omega) (by decide)) cc)
    refine ra_iload_n A d_Mo_guess_67 rfl <| ?_
    have z0 : ∀ v : Int64, v >>> ((nI 0).toInt64 &&& 63) = v := by
      intro v
      apply Int64.toInt_inj.mp
      rw [lshr_toInt _ _ 0 (by decide), Int.shiftRight_zero]
    rw [z0] at hX
    have rd : ∀ q, q ≤ i → 1 ≤ q → (nI (1200 * j + i) - nI q = nI (1200 * j + (i - q)) ∧ h.1 154 (1200 * j + (i - q)) = row (i - q)) := fun q h1 h2 => ⟨by rw [pk_sub (by omega), show 1200 * j + i - q = 1200 * j + (i - q) by omega], hrow _ (by omega)⟩
    have ho' : o = 0 ∨ o = 1 ∨ o = 2 ∨ o = 3 ∨ o = 4 := by omega
    have F0 : ∀ o k, (k < 4) → (fxf o k).toInt64 = (fxf o k).toInt64 := fun _ _ _ => rfl
    rcases ho' with rfl | rfl | rfl | rfl | rfl
    · refine ra_tsIn (q := 100) A d_Mo_guess_68 (by decide) (by decide) rfl (by decide) ?_
      refine ra_lconst A 0 d_Mo_guess_100 (by decide) <| ?_
      exact ra_lret A ow d_Mo_guess_101 hX
    · refine ra_tsIn (q := 102) A d_Mo_guess_68 (by decide) (by decide) rfl (by decide) ?_
      obtain ⟨a1, b1⟩ := rd 1 hoi (by decide)
      refine ra_aload_n A d_Mo_guess_102 rfl <| ra_getR A f_Mo_191 d_Mo_guess_103 (Nat.le_of_ble_eq_true rfl) rfl rfl rfl <| ra_iload A d_Mo_guess_106 rfl <| ra_iconst A 1 d_Mo_guess_108 (by decide) <| ra_isub A d_Mo_guess_109 <| ?_
      rw [show nI (1200 * j + i) - 1 = _ from a1]
      refine ra_iaload A d_Mo_guess_110 (Nat.le_of_ble_eq_true rfl) rfl (vp_in_nI (by omega) (by decide)) ?_
      rw [nI_clamp (by omega), b1]
      refine ra_i2l A d_Mo_guess_111 <| ?_
      simp only [prd] at hX
      rw [hff 0 (by decide), show (fxf 1 0).toInt64 = 1 from rfl, show i - 1 - 0 = i - 1 from rfl, show (0 : Int64) + 1 * (row (i - 1)).toInt64 = (row (i - 1)).toInt64 by grind] at hX
      exact ra_lret A ow d_Mo_guess_112 hX
    · refine ra_tsIn (q := 113) A d_Mo_guess_68 (by decide) (by decide) rfl (by decide) ?_
      obtain ⟨a1, b1⟩ := rd 1 (by omega) (by decide)
      obtain ⟨a2, b2⟩ := rd 2 (by omega) (by decide)
      refine ra_ldc2 A k_Mo_392 d_Mo_guess_113 <| ra_aload_n A d_Mo_guess_116 rfl <| ra_getR A f_Mo_191 d_Mo_guess_117 (Nat.le_of_ble_eq_true rfl) rfl rfl rfl <| ra_iload A d_Mo_guess_120 rfl <| ra_iconst A 1 d_Mo_guess_122 (by decide) <| ra_isub A d_Mo_guess_123 <| ?_
      rw [show nI (1200 * j + i) - 1 = _ from a1]
      refine ra_iaload A d_Mo_guess_124 (Nat.le_of_ble_eq_true rfl) rfl (vp_in_nI (by omega) (by decide)) ?_
      rw [nI_clamp (by omega), b1]
      refine ra_i2l A d_Mo_guess_125 <| ra_lmul A d_Mo_guess_126 <| ra_aload_n A d_Mo_guess_127 rfl <| ra_getR A f_Mo_191 d_Mo_guess_128 (Nat.le_of_ble_eq_true rfl) rfl rfl rfl <| ra_iload A d_Mo_guess_131 rfl <| ra_iconst A 2 d_Mo_guess_133 (by decide) <| ra_isub A d_Mo_guess_134 <| ?_
      rw [show nI (1200 * j + i) - 2 = _ from a2]
      refine ra_iaload A d_Mo_guess_135 (Nat.le_of_ble_eq_true rfl) rfl (vp_in_nI (by omega) (by decide)) ?_
      rw [nI_clamp (by omega), b2]
      refine ra_i2l A d_Mo_guess_136 <| ra_lsub A d_Mo_guess_137 <| ?_
      simp only [prd] at hX
      rw [hff 0 (by decide), hff 1 (by decide), show (fxf 2 0).toInt64 = 2 from rfl, show (fxf 2 1).toInt64 = -1 from rfl, show i - 1 - 0 = i - 1 from rfl, show i - 1 - 1 = i - 2 by omega, show (0 : Int64) + 2 * (row (i - 1)).toInt64 + -1 * (row (i - 2)).toInt64 = 2 * (row (i - 1)).toInt64 - (row (i - 2)).toInt64 by grind] at hX
      exact ra_lret A ow d_Mo_guess_138 hX
    · refine ra_tsIn (q := 139) A d_Mo_guess_68 (by decide) (by decide) rfl (by decide) ?_
      obtain ⟨a1, b1⟩ := rd 1 (by omega) (by decide)
      obtain ⟨a2, b2⟩ := rd 2 (by omega) (by decide)
      obtain ⟨a3, b3⟩ := rd 3 (by omega) (by decide)
      refine ra_ldc2 A k_Mo_459 d_Mo_guess_139 <| ra_aload_n A d_Mo_guess_142 rfl <| ra_getR A f_Mo_191 d_Mo_guess_143 (Nat.le_of_ble_eq_true rfl) rfl rfl rfl <| ra_iload A d_Mo_guess_146 rfl <| ra_iconst A 1 d_Mo_guess_148 (by decide) <| ra_isub A d_Mo_guess_149 <| ?_
      rw [show nI (1200 * j + i) - 1 = _ from a1]
      refine ra_iaload A d_Mo_guess_150 (Nat.le_of_ble_eq_true rfl) rfl (vp_in_nI (by omega) (by decide)) ?_
      rw [nI_clamp (by omega), b1]
      refine ra_i2l A d_Mo_guess_151 <| ra_lmul A d_Mo_guess_152 <| ra_ldc2 A k_Mo_459 d_Mo_guess_153 <| ra_aload_n A d_Mo_guess_156 rfl <| ra_getR A f_Mo_191 d_Mo_guess_157 (Nat.le_of_ble_eq_true rfl) rfl rfl rfl <| ra_iload A d_Mo_guess_160 rfl <| ra_iconst A 2 d_Mo_guess_162 (by decide) <| ra_isub A d_Mo_guess_163 <| ?_
      rw [show nI (1200 * j + i) - 2 = _ from a2]
      refine ra_iaload A d_Mo_guess_164 (Nat.le_of_ble_eq_true rfl) rfl (vp_in_nI (by omega) (by decide)) ?_
      rw [nI_clamp (by omega), b2]
      refine ra_i2l A d_Mo_guess_165 <| ra_lmul A d_Mo_guess_166 <| ra_lsub A d_Mo_guess_167 <| ra_aload_n A d_Mo_guess_168 rfl <| ra_getR A f_Mo_191 d_Mo_guess_169 (Nat.le_of_ble_eq_true rfl) rfl rfl rfl <| ra_iload A d_Mo_guess_172 rfl <| ra_iconst A 3 d_Mo_guess_174 (by decide) <| ra_isub A d_Mo_guess_175 <| ?_
      rw [show nI (1200 * j + i) - 3 = _ from a3]
      refine ra_iaload A d_Mo_guess_176 (Nat.le_of_ble_eq_true rfl) rfl (vp_in_nI (by omega) (by decide)) ?_
      rw [nI_clamp (by omega), b3]
      refine ra_i2l A d_Mo_guess_177 <| ra_ladd A d_Mo_guess_178 <| ?_
      simp only [prd] at hX
      rw [hff 0 (by decide), hff 1 (by decide), hff 2 (by decide), show (fxf 3 0).toInt64 = 3 from rfl, show (fxf 3 1).toInt64 = -3 from rfl, show (fxf 3 2).toInt64 = 1 from rfl, show i - 1 - 0 = i - 1 from rfl, show i - 1 - 1 = i - 2 by omega, show i - 1 - 2 = i - 3 by omega, show (0 : Int64) + 3 * (row (i - 1)).toInt64 + -3 * (row (i - 2)).toInt64 + 1 * (row (i - 3)).toInt64 = 3 * (row (i - 1)).toInt64 - 3 * (row (i - 2)).toInt64 + (row (i - 3)).toInt64 by grind] at hX
      exact ra_lret A ow d_Mo_guess_179 hX
    · refine ra_tsOut (q := 180) A d_Mo_guess_68 (Or.inr (by decide)) (by decide) ?_
      obtain ⟨a1, b1⟩ := rd 1 (by omega) (by decide)
      obtain ⟨a2, b2⟩ := rd 2 (by omega) (by decide)
      obtain ⟨a3, b3⟩ := rd 3 (by omega) (by decide)
      obtain ⟨a4, b4⟩ := rd 4 (by omega) (by decide)
      refine ra_ldc2 A k_Mo_264 d_Mo_guess_180 <| ra_aload_n A d_Mo_guess_183 rfl <| ra_getR A f_Mo_191 d_Mo_guess_184 (Nat.le_of_ble_eq_true rfl) rfl rfl rfl <| ra_iload A d_Mo_guess_187 rfl <| ra_iconst A 1 d_Mo_guess_189 (by decide) <| ra_isub A d_Mo_guess_190 <| ?_
      rw [show nI (1200 * j + i) - 1 = _ from a1]
      refine ra_iaload A d_Mo_guess_191 (Nat.le_of_ble_eq_true rfl) rfl (vp_in_nI (by omega) (by decide)) ?_
      rw [nI_clamp (by omega), b1]
      refine ra_i2l A d_Mo_guess_192 <| ra_lmul A d_Mo_guess_193 <| ra_ldc2 A k_Mo_273 d_Mo_guess_194 <| ra_aload_n A d_Mo_guess_197 rfl <| ra_getR A f_Mo_191 d_Mo_guess_198 (Nat.le_of_ble_eq_true rfl) rfl rfl rfl <| ra_iload A d_Mo_guess_201 rfl <| ra_iconst A 2 d_Mo_guess_203 (by decide) <| ra_isub A d_Mo_guess_204 <| ?_
      rw [show nI (1200 * j + i) - 2 = _ from a2]
      refine ra_iaload A d_Mo_guess_205 (Nat.le_of_ble_eq_true rfl) rfl (vp_in_nI (by omega) (by decide)) ?_
      rw [nI_clamp (by omega), b2]
      refine ra_i2l A d_Mo_guess_206 <| ra_lmul A d_Mo_guess_207 <| ra_lsub A d_Mo_guess_208 <| ra_ldc2 A k_Mo_264 d_Mo_guess_209 <| ra_aload_n A d_Mo_guess_212 rfl <| ra_getR A f_Mo_191 d_Mo_guess_213 (Nat.le_of_ble_eq_true rfl) rfl rfl rfl <| ra_iload A d_Mo_guess_216 rfl <| ra_iconst A 3 d_Mo_guess_218 (by decide) <| ra_isub A d_Mo_guess_219 <| ?_
      rw [show nI (1200 * j + i) - 3 = _ from a3]
      refine ra_iaload A d_Mo_guess_220 (Nat.le_of_ble_eq_true rfl) rfl (vp_in_nI (by omega) (by decide)) ?_
      rw [nI_clamp (by omega), b3]
      refine ra_i2l A d_Mo_guess_221 <| ra_lmul A d_Mo_guess_222 <| ra_ladd A d_Mo_guess_223 <| ra_aload_n A d_Mo_guess_224 rfl <| ra_getR A f_Mo_191 d_Mo_guess_225 (Nat.le_of_ble_eq_true rfl) rfl rfl rfl <| ra_iload A d_Mo_guess_228 rfl <| ra_iconst A 4 d_Mo_guess_230 (by decide) <| ra_isub A d_Mo_guess_231 <| ?_
      rw [show nI (1200 * j + i) - 4 = _ from a4]
      refine ra_iaload A d_Mo_guess_232 (Nat.le_of_ble_eq_true rfl) rfl (vp_in_nI (by omega) (by decide)) ?_
      rw [nI_clamp (by omega), b4]
      refine ra_i2l A d_Mo_guess_233 <| ra_lsub A d_Mo_guess_234 <| ?_
      simp only [prd] at hX
      rw [hff 0 (by decide), hff 1 (by decide), hff 2 (by decide), hff 3 (by decide), show (fxf 4 0).toInt64 = 4 from rfl, show (fxf 4 1).toInt64 = -6 from rfl, show (fxf 4 2).toInt64 = 4 from rfl, show (fxf 4 3).toInt64 = -1 from rfl, show i - 1 - 0 = i - 1 from rfl, show i - 1 - 1 = i - 2 by omega, show i - 1 - 2 = i - 3 by omega, show i - 1 - 3 = i - 4 by omega, show (0 : Int64) + 4 * (row (i - 1)).toInt64 + -6 * (row (i - 2)).toInt64 + 4 * (row (i - 3)).toInt64 + -1 * (row (i - 4)).toInt64 = 4 * (row (i - 1)).toInt64 - 6 * (row (i - 2)).toInt64 + 4 * (row (i - 3)).toInt64 - (row (i - 4)).toInt64 by grind] at hX
      exact ra_lret A ow d_Mo_guess_235 hX
end S9b
