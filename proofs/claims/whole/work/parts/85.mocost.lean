/-! SoundStreamModel: partCost, bestK, partFrom, restCost, fits, bestQ, isOne -/
/-- the rests of order o are there -/
def RT (h : xw_H) (o n : Nat) (r : Nat → Int32) : Prop := ∀ i, o ≤ i → i < n → h.1 151 i = r i ∧ -2 ^ 28 ≤ (r i).toInt ∧ (r i).toInt ≤ 2 ^ 28
theorem pcost_lt {f : Nat → Nat} {a m k : Nat} (hm : m ≤ 1200) (hk : k ≤ 15) (hf : ∀ i, a ≤ i → i < a + m → f i < 2 ^ 30) : pcost f a m k < 2 ^ 62 := by
  have h1 := zs_le2 (t := k) m hf
  have h2 := bln_le (us_lt2 m hf)
  unfold pcost
  split
  · have : bln (us f a m) * m ≤ 30 * 1200 := Nat.mul_le_mul h2 hm
    omega
  · have : (k + 1) * m ≤ 16 * 1200 := Nat.mul_le_mul (by omega) hm
    have : m * 2 ^ 30 ≤ 1200 * 2 ^ 30 := Nat.mul_le_mul_right _ hm
    omega
theorem pA_AM {o e p : Nat} (h : o ≤ e) : o ≤ pA o e p ∧ pA o e p + pM o e p = (p + 1) * e := by
  refine ⟨?_, pAM h⟩
  unfold pA
  split
  · exact Nat.le_refl _
  · have : 1 * e ≤ p * e := Nat.mul_le_mul_right _ (by omega)
    omega
theorem bq_of {t : Nat → Int32} {o n j : Nat} (hF : finq o n ≤ j) : amin (rcost (fun i => fdN (dl o t i)) o n) (min j (finq o n)) = bq t o n := by
  rw [Nat.min_eq_right hF]
  rfl
section S85
variable {u : xu_T} {l : Launch} {KK : State → Prop} {h : xw_H} {X : xc_R → xw_H → Nat → Nat → Prop}
theorem s_Mo_partCost (K : xk_ok u KK) {r : Nat → Int32} {a m k o n : Nat} (R : RT h o n r) (ho : o ≤ a) (ham : a + m ≤ n) (hn : n ≤ 1200) (hk : k ≤ 15) (hX : X (.inl (some (.long (lN (pcost (fun i => fdN (r i)) a m k))))) h 0 0) : xm_M l (y0 u) KK m_Mo_partCost [.ref 141, .int (nI a), .int (nI (a + m)), .int (nI k)] h X := by
  refine xm_of [none, none, none] (by simp) (Nat.le_of_ble_eq_true rfl) (by decide) (fun x at0 => ?_)
  have A := xa_of at0 K
  have ow := at0.2.2.2.2.1
  have hr : ∀ i, a ≤ i → i < a + m → h.1 151 i = r i ∧ -2 ^ 29 ≤ (r i).toInt ∧ (r i).toInt ≤ 2 ^ 29 := by
    intro i h1 h2
    obtain ⟨q1, q2, q3⟩ := R i (by omega) (by omega)
    exact ⟨q1, by omega, by omega⟩
  have hfd : ∀ i, a ≤ i → i < a + m → fdN (r i) < 2 ^ 30 := by
    intro i h1 h2
    have := fdN_lt (R i (by omega) (by omega)).2
    omega
  refine ra_iload_n A d_Mo_partCost_0 rfl <| ra_bipush A 15 d_Mo_partCost_1 (by decide) <| ?_
  by_cases c : k = 15
  · subst c
    refine ra_icmp_ne (q := 23) A d_Mo_partCost_3 (by decide) (fun cc => absurd (rfl) cc) (fun _ => ?_)
    refine ra_ldc2 A k_Mo_259 d_Mo_partCost_6 <| ra_iload_n A d_Mo_partCost_9 rfl <| ra_iload_n A d_Mo_partCost_10 rfl <| ra_isub A d_Mo_partCost_11 <| ?_
    rw [pk_sub (show a ≤ a + m by omega), show a + m - a = m by omega]
    refine ra_i2l A d_Mo_partCost_12 <| ?_
    rw [nI_l (by omega)]
    refine ra_aload_n A d_Mo_partCost_13 rfl <| ra_iload_n A d_Mo_partCost_14 rfl <| ra_iload_n A d_Mo_partCost_15 rfl <| ?_
    refine ra_callV (As := [_, _]) A ok_Mo_room l_Mo_261 im_Mo_room sl_Mo_room d_Mo_partCost_16 (Nat.le_of_ble_eq_true rfl) rfl rfl rfl (Nat.le_of_ble_eq_true rfl) (xr_of at0 (by decide)) (s_Mo_room K (by omega) hr ?_)
    show xg x (y0 u) 0 0 19 _ _ h
    have hb : bln (us (fun i => fdN (r i)) a m) ≤ 30 := bln_le (us_lt2 m hfd)
    refine ra_i2l A d_Mo_partCost_19 <| ?_
    rw [nI_l (by omega)]
    refine ra_lmul A d_Mo_partCost_20 <| ?_
    rw [lN_mul]
    refine ra_ladd A d_Mo_partCost_21 <| ?_
    rw [show (9 : Int64) + lN (m * bln (us (fun i => fdN (r i)) a m)) = lN (pcost (fun i => fdN (r i)) a m 15) by rw [show (9 : Int64) = lN 9 from rfl, lN_add, pcost, if_pos rfl, Nat.mul_comm]]
    exact ra_lret A ow d_Mo_partCost_22 hX
  · refine ra_icmp_ne (q := 23) A d_Mo_partCost_3 (by decide) (fun _ => ?_) (fun cc => absurd cc (fun z => c ((nI_eq (b := 15) (by omega) (by decide)).mp z)))
    refine ra_ldc2 A k_Mo_264 d_Mo_partCost_23 <| ra_lstore (L' := [_, _, _, _, _, _, _]) A d_Mo_partCost_26 (by decide) rfl <| ra_iload_n A d_Mo_partCost_28 rfl <| ra_istore (L' := [_, _, _, _, _, _, _]) A d_Mo_partCost_29 (by decide) rfl <| ?_
    rw [show (4 : Int64) = lN (4 + (k + 1) * 0 + zs (fun i => fdN (r i)) k a 0) from rfl]
    rw [show a = a + 0 from rfl]
    refine lp_up (σ := Unit) (W := fun j _ => xg x (y0 u) 0 0 31 [some (.ref 141), some (.int (nI (a + 0))), some (.int (nI (a + 0 + m))), some (.int (nI k)), some (.long (lN (4 + (k + 1) * j + zs (fun i => fdN (r i)) k a j))), none, some (.int (nI (a + j)))] [] h) (I := fun _ _ => True) m ?_ ?_ 0 () (Nat.zero_le _) trivial
    · rintro - -
      refine ra_iload A d_Mo_partCost_31 rfl <| ra_iload_n A d_Mo_partCost_33 rfl <| ?_
      refine ra_icmp_ge (q := 66) A d_Mo_partCost_34 (by decide) (fun _ => ?_) (fun cc => absurd (Int32.le_refl _) cc)
      refine ra_lload A d_Mo_partCost_66 rfl <| ?_
      rw [show 4 + (k + 1) * m + zs (fun i => fdN (r i)) k a m = pcost (fun i => fdN (r i)) a m k by rw [pcost, if_neg c]]
      exact ra_lret A ow d_Mo_partCost_68 hX
    · rintro j - hj - ih
      obtain ⟨e1, e2⟩ := hr (a + j) (by omega) (by omega)
      have hf := hfd (a + j) (by omega) (by omega)
      have hle := Nat.div_le_self (fdN (r (a + j))) (2 ^ k)
      refine ra_iload A d_Mo_partCost_31 rfl <| ra_iload_n A d_Mo_partCost_33 rfl <| ?_
      refine ra_icmp_ge (q := 66) A d_Mo_partCost_34 (by decide) (fun cc => absurd cc (nI_ge (show a + j < a + 0 + m by omega) (by omega))) (fun _ => ?_)
      refine ra_lload A d_Mo_partCost_37 rfl <| ra_aload_n A d_Mo_partCost_39 rfl <| ra_getR A f_Mo_179 d_Mo_partCost_40 (Nat.le_of_ble_eq_true rfl) rfl rfl rfl <| ra_iload A d_Mo_partCost_43 rfl <| ?_
      refine ra_iaload A d_Mo_partCost_45 (Nat.le_of_ble_eq_true rfl) rfl (vp_in_nI (by omega) (by decide)) ?_
      rw [nI_clamp (by omega), e1]
      refine ra_callS (As := [_]) A ok_Mo_folded l_Mo_266 st_Mo_folded d_Mo_partCost_46 rfl (Nat.le_of_ble_eq_true rfl) (xr_of at0 (by decide)) (s_Mo_folded K e2 ?_)
      show xg x (y0 u) 0 0 49 _ _ h
      refine ra_iload_n A d_Mo_partCost_49 rfl <| ra_ishr A d_Mo_partCost_50 <| ?_
      rw [shrN (by omega) (by omega)]
      refine ra_i2l A d_Mo_partCost_51 <| ?_
      rw [nI_l (by omega)]
      refine ra_ladd A d_Mo_partCost_52 <| ra_lconst A 1 d_Mo_partCost_53 (by decide) <| ?_
      rw [lN_add]
      refine ra_ladd A d_Mo_partCost_54 <| ra_iload_n A d_Mo_partCost_55 rfl <| ra_i2l A d_Mo_partCost_56 <| ?_
      rw [nI_l (by omega), lN_1]
      refine ra_ladd A d_Mo_partCost_57 <| ra_lstore (L' := [_, _, _, _, _, _, _]) A d_Mo_partCost_58 (by decide) rfl <| ra_iinc (L' := [_, _, _, _, _, _, _]) A 1 d_Mo_partCost_60 rfl (by decide) (by decide) rfl <| ra_goto (q := 31) A d_Mo_partCost_63 (by decide) <| ?_
      rw [lN_add, nI_1]
      have ih := ih () trivial
      rw [show 4 + (k + 1) * (j + 1) + zs (fun i => fdN (r i)) k a (j + 1) = 4 + (k + 1) * j + zs (fun i => fdN (r i)) k a j + fdN (r (a + j)) / 2 ^ k + 1 + k by rw [zs, Nat.mul_succ]; omega] at ih
      exact ih
theorem s_Mo_bestK (K : xk_ok u KK) {r : Nat → Int32} {a m o n : Nat} (R : RT h o n r) (ho : o ≤ a) (ham : a + m ≤ n) (hn : n ≤ 1200) (hX : X (.inl (some (.int (nI (pk (fun i => fdN (r i)) a m))))) h 0 0) : xm_M l (y0 u) KK m_Mo_bestK [.ref 141, .int (nI a), .int (nI (a + m))] h X := by
  refine xm_of [none, none] (by simp) (Nat.le_of_ble_eq_true rfl) (by decide) (fun x at0 => ?_)
  have A := xa_of at0 K
  have ow := at0.2.2.2.2.1
  have hfd : ∀ i, a ≤ i → i < a + m → fdN (r i) < 2 ^ 30 := by
    intro i h1 h2
    have := fdN_lt (R i (by omega) (by omega)).2
    omega
  have hpl := fun k hk => pcost_lt (f := fun i => fdN (r i)) (a := a) (m := m) (k := k) (by omega) hk hfd
  refine ra_iconst A 0 d_Mo_bestK_0 (by decide) <| ra_istore_n (L' := [_, _, _, _, _]) A d_Mo_bestK_1 (by decide) rfl <| ra_iconst A 1 d_Mo_bestK_2 (by decide) <| ra_istore (L' := [_, _, _, _, _]) A d_Mo_bestK_3 (by decide) rfl <| ?_
  refine lp_up (σ := Unit) (W := fun j _ => xg x (y0 u) 0 0 5 [some (.ref 141), some (.int (nI a)), some (.int (nI (a + m))), some (.int (nI (amin (pcost (fun i => fdN (r i)) a m) j))), some (.int (nI (j + 1)))] [] h) (I := fun _ _ => True) 15 ?_ ?_ 0 () (Nat.zero_le _) trivial
  · rintro - -
    refine ra_iload A d_Mo_bestK_5 rfl <| ra_bipush A 16 d_Mo_bestK_7 (by decide) <| ?_
    refine ra_icmp_ge (q := 44) A d_Mo_bestK_9 (by decide) (fun _ => ?_) (fun cc => absurd ((by decide)) cc)
    refine ra_iload_n A d_Mo_bestK_44 rfl <| ?_
    exact ra_iret A ow d_Mo_bestK_45 hX
  · rintro j - hj - ih
    have hA := (amin_LM (pcost (fun i => fdN (r i)) a m) j).1
    refine ra_iload A d_Mo_bestK_5 rfl <| ra_bipush A 16 d_Mo_bestK_7 (by decide) <| ?_
    refine ra_icmp_ge (q := 44) A d_Mo_bestK_9 (by decide) (fun cc => absurd cc (nI_ge (b := 16) (by omega) (by decide))) (fun _ => ?_)
    refine ra_aload_n A d_Mo_bestK_12 rfl <| ra_iload_n A d_Mo_bestK_13 rfl <| ra_iload_n A d_Mo_bestK_14 rfl <| ra_iload A d_Mo_bestK_15 rfl <| ?_
    refine ra_callV (As := [_, _, _]) A ok_Mo_partCost l_Mo_269 im_Mo_partCost sl_Mo_partCost d_Mo_bestK_17 (Nat.le_of_ble_eq_true rfl) rfl rfl rfl (Nat.le_of_ble_eq_true rfl) (xr_of at0 (by decide)) (s_Mo_partCost K R ho ham hn (by omega) ?_)
    show xg x (y0 u) 0 0 20 _ _ h
    refine ra_aload_n A d_Mo_bestK_20 rfl <| ra_iload_n A d_Mo_bestK_21 rfl <| ra_iload_n A d_Mo_bestK_22 rfl <| ra_iload_n A d_Mo_bestK_23 rfl <| ?_
    refine ra_callV (As := [_, _, _]) A ok_Mo_partCost l_Mo_269 im_Mo_partCost sl_Mo_partCost d_Mo_bestK_24 (Nat.le_of_ble_eq_true rfl) rfl rfl rfl (Nat.le_of_ble_eq_true rfl) (xr_of at0 (by decide)) (s_Mo_partCost K R ho ham hn (by omega) ?_)
    show xg x (y0 u) 0 0 27 _ _ h
    refine ra_lcmp A d_Mo_bestK_27 <| ?_
    have q1 := hpl (j + 1) (by omega)
    have q2 := hpl (amin (pcost (fun i => fdN (r i)) a m) j) (by omega)
    have ih := ih () trivial
    rw [amin] at ih
    by_cases c : pcost (fun i => fdN (r i)) a m (j + 1) < pcost (fun i => fdN (r i)) a m (amin (pcost (fun i => fdN (r i)) a m) j)
    · refine ra_if_ge (q := 36) A d_Mo_bestK_28 (by decide) (fun cc => absurd cc (fun z => absurd ((pk_lLE (by omega) (by omega)).mp (lc_ge.mp z)) (by omega))) (fun _ => ?_)
      rw [if_pos c] at ih
      refine ra_iload A d_Mo_bestK_31 rfl <| ra_goto (q := 37) A d_Mo_bestK_33 (by decide) <| ra_istore_n (L' := [_, _, _, _, _]) A d_Mo_bestK_37 (by decide) rfl <| ra_iinc (L' := [_, _, _, _, _]) A 1 d_Mo_bestK_38 rfl (by decide) (by decide) rfl <| ra_goto (q := 5) A d_Mo_bestK_41 (by decide) <| ?_
      rw [nI_1]
      exact ih
    · refine ra_if_ge (q := 36) A d_Mo_bestK_28 (by decide) (fun _ => ?_) (fun cc => absurd (lc_ge.mpr ((pk_lLE (by omega) (by omega)).mpr (by omega))) cc)
      rw [if_neg c] at ih
      refine ra_iload_n A d_Mo_bestK_36 rfl <| ra_istore_n (L' := [_, _, _, _, _]) A d_Mo_bestK_37 (by decide) rfl <| ra_iinc (L' := [_, _, _, _, _]) A 1 d_Mo_bestK_38 rfl (by decide) (by decide) rfl <| ra_goto (q := 5) A d_Mo_bestK_41 (by decide) <| ?_
      rw [nI_1]
      exact ih
theorem s_Mo_partFrom (K : xk_ok u KK) {p q o n : Nat} (hp : p < 2 ^ 31) (hn : n < 2 ^ 31) (hq : q < 32) (hX : X (.inl (some (.int (nI (pA o (n / 2 ^ q) p))))) h 0 0) : xm_M l (y0 u) KK m_Mo_partFrom [.int (nI p), .int (nI q), .int (nI o), .int (nI n)] h X := by
  refine xm_of [] (by simp) (Nat.le_of_ble_eq_true rfl) (by decide) (fun x at0 => ?_)
  have A := xa_of at0 K
  have ow := at0.2.2.2.2.1
  unfold pA at hX
  refine ra_iload_n A d_Mo_partFrom_0 rfl <| ?_
  by_cases c : p = 0
  · subst c
    refine ra_if_ne (q := 8) A d_Mo_partFrom_1 (by decide) (fun cc => absurd (rfl) cc) (fun _ => ?_)
    refine ra_iload_n A d_Mo_partFrom_4 rfl <| ra_goto (q := 13) A d_Mo_partFrom_5 (by decide) <| ?_
    exact ra_iret A ow d_Mo_partFrom_13 hX
  · refine ra_if_ne (q := 8) A d_Mo_partFrom_1 (by decide) (fun _ => ?_) (fun cc => absurd cc (nI_ne0 (by omega) hp))
    rw [if_neg c] at hX
    refine ra_iload_n A d_Mo_partFrom_8 rfl <| ra_iload_n A d_Mo_partFrom_9 rfl <| ra_iload_n A d_Mo_partFrom_10 rfl <| ra_ishr A d_Mo_partFrom_11 <| ?_
    rw [shrN hn hq]
    refine ra_imul A d_Mo_partFrom_12 <| ?_
    rw [pk_mul]
    exact ra_iret A ow d_Mo_partFrom_13 hX
theorem s_Mo_restCost (K : xk_ok u KK) {r : Nat → Int32} {o q n : Nat} (R : RT h o n r) (hn : n ≤ 1200) (hq : q ≤ 5) (hfit : pfit o n q) (hX : X (.inl (some (.long (lN (rcost (fun i => fdN (r i)) o n q))))) h 0 0) : xm_M l (y0 u) KK m_Mo_restCost [.ref 141, .int (nI o), .int (nI q), .int (nI n)] h X := by
  refine xm_of [none, none, none, none, none] (by simp) (Nat.le_of_ble_eq_true rfl) (by decide) (fun x at0 => ?_)
  have A := xa_of at0 K
  have ow := at0.2.2.2.2.1
  have hP : 2 ^ q ≤ 32 := Nat.pow_le_pow_right (n := 2) (by decide) hq
  have hPe : 2 ^ q * (n / 2 ^ q) = n := Nat.mul_div_cancel' (Nat.dvd_of_mod_eq_zero hfit.1)
  have hoe := hfit.2
  refine ra_ldc2 A k_Mo_273 d_Mo_restCost_0 <| ra_lstore (L' := [_, _, _, _, _, _, _, _, _]) A d_Mo_restCost_3 (by decide) rfl <| ra_iconst A 0 d_Mo_restCost_5 (by decide) <| ra_istore (L' := [_, _, _, _, _, _, _, _, _]) A d_Mo_restCost_6 (by decide) rfl <| ?_
  refine lp_up (σ := Option Value × Option Value) (W := fun p s => xg x (y0 u) 0 0 8 [some (.ref 141), some (.int (nI o)), some (.int (nI q)), some (.int (nI n)), some (.long (lN (rsum (fun i => fdN (r i)) o (n / 2 ^ q) p))), none, some (.int (nI p)), s.1, s.2] [] h) (I := fun _ _ => True) (2 ^ q) ?_ ?_ 0 (none, none) (Nat.zero_le _) trivial
  · rintro ⟨w7, w8⟩ -
    dsimp only
    refine ra_iload A d_Mo_restCost_8 rfl <| ra_iconst A 1 d_Mo_restCost_10 (by decide) <| ra_iload_n A d_Mo_restCost_11 rfl <| ra_ishl A d_Mo_restCost_12 <| ?_
    rw [shl1 (by omega)]
    refine ra_icmp_ge (q := 63) A d_Mo_restCost_13 (by decide) (fun _ => ?_) (fun cc => absurd (Int32.le_refl _) cc)
    refine ra_lload A d_Mo_restCost_63 rfl <| ?_
    exact ra_lret A ow d_Mo_restCost_65 hX
  · rintro p ⟨w7, w8⟩ hp - ih
    dsimp only
    have hAM := pA_AM (p := p) (Nat.le_of_lt hoe)
    have hle : (p + 1) * (n / 2 ^ q) ≤ 2 ^ q * (n / 2 ^ q) := Nat.mul_le_mul_right _ hp
    refine ra_iload A d_Mo_restCost_8 rfl <| ra_iconst A 1 d_Mo_restCost_10 (by decide) <| ra_iload_n A d_Mo_restCost_11 rfl <| ra_ishl A d_Mo_restCost_12 <| ?_
    rw [shl1 (by omega)]
    refine ra_icmp_ge (q := 63) A d_Mo_restCost_13 (by decide) (fun cc => absurd cc (nI_ge hp (by omega))) (fun _ => ?_)
    refine ra_iload A d_Mo_restCost_16 rfl <| ra_iload_n A d_Mo_restCost_18 rfl <| ra_iload_n A d_Mo_restCost_19 rfl <| ra_iload_n A d_Mo_restCost_20 rfl <| ?_
    refine ra_callS (As := [_, _, _, _]) A ok_Mo_partFrom l_Mo_275 st_Mo_partFrom d_Mo_restCost_21 rfl (Nat.le_of_ble_eq_true rfl) (xr_of at0 (by decide)) (s_Mo_partFrom K (by omega) (by omega) (by omega) ?_)
    show xg x (y0 u) 0 0 24 _ _ h
    refine ra_istore (L' := [_, _, _, _, _, _, _, _, _]) A d_Mo_restCost_24 (by decide) rfl <| ra_iload A d_Mo_restCost_26 rfl <| ra_iconst A 1 d_Mo_restCost_28 (by decide) <| ra_iadd A d_Mo_restCost_29 <| ?_
    rw [nI_1]
    refine ra_iload_n A d_Mo_restCost_30 rfl <| ra_iload_n A d_Mo_restCost_31 rfl <| ra_ishr A d_Mo_restCost_32 <| ?_
    rw [shrN (by omega) (by omega)]
    refine ra_imul A d_Mo_restCost_33 <| ?_
    rw [pk_mul, ← hAM.2]
    refine ra_istore (L' := [_, _, _, _, _, _, _, _, _]) A d_Mo_restCost_34 (by decide) rfl <| ra_lload A d_Mo_restCost_36 rfl <| ra_aload_n A d_Mo_restCost_38 rfl <| ra_iload A d_Mo_restCost_39 rfl <| ra_iload A d_Mo_restCost_41 rfl <| ra_aload_n A d_Mo_restCost_43 rfl <| ra_iload A d_Mo_restCost_44 rfl <| ra_iload A d_Mo_restCost_46 rfl <| ?_
    refine ra_callV (As := [_, _]) A ok_Mo_bestK l_Mo_278 im_Mo_bestK sl_Mo_bestK d_Mo_restCost_48 (Nat.le_of_ble_eq_true rfl) rfl rfl rfl (Nat.le_of_ble_eq_true rfl) (xr_of at0 (by decide)) (s_Mo_bestK K R hAM.1 (by omega) hn ?_)
    show xg x (y0 u) 0 0 51 _ _ h
    have hk15 : pk (fun i => fdN (r i)) (pA o (n / 2 ^ q) p) (pM o (n / 2 ^ q) p) ≤ 15 := (amin_LM _ 15).1
    refine ra_callV (As := [_, _, _]) A ok_Mo_partCost l_Mo_269 im_Mo_partCost sl_Mo_partCost d_Mo_restCost_51 (Nat.le_of_ble_eq_true rfl) rfl rfl rfl (Nat.le_of_ble_eq_true rfl) (xr_of at0 (by decide)) (s_Mo_partCost K R hAM.1 (by omega) hn hk15 ?_)
    show xg x (y0 u) 0 0 54 _ _ h
    refine ra_ladd A d_Mo_restCost_54 <| ra_lstore (L' := [_, _, _, _, _, _, _, _, _]) A d_Mo_restCost_55 (by decide) rfl <| ra_iinc (L' := [_, _, _, _, _, _, _, _, _]) A 1 d_Mo_restCost_57 rfl (by decide) (by decide) rfl <| ra_goto (q := 8) A d_Mo_restCost_60 (by decide) <| ?_
    rw [lN_add, nI_1]
    exact ih (_, _) trivial
theorem s_Mo_fits (K : xk_ok u KK) {o q n : Nat} (hn : n < 2 ^ 31) (ho : o < 2 ^ 31) (hq : q ≤ 5) (hX : X (.inl (some (.int (bz (pfitB o n q))))) h 0 0) : xm_M l (y0 u) KK m_Mo_fits [.int (nI o), .int (nI q), .int (nI n)] h X := by
  refine xm_of [] (by simp) (Nat.le_of_ble_eq_true rfl) (by decide) (fun x at0 => ?_)
  have A := xa_of at0 K
  have ow := at0.2.2.2.2.1
  have hP : 2 ^ q ≤ 32 := Nat.pow_le_pow_right (n := 2) (by decide) hq
  have hP0 : 0 < 2 ^ q := Nat.two_pow_pos q
  have hle := Nat.div_le_self n (2 ^ q)
  refine ra_iload_n A d_Mo_fits_0 rfl <| ra_iconst A 1 d_Mo_fits_1 (by decide) <| ra_iload_n A d_Mo_fits_2 rfl <| ra_ishl A d_Mo_fits_3 <| ?_
  rw [shl1 (by omega)]
  refine ra_irem A d_Mo_fits_4 (nI_ne0 hP0 (by omega)) ?_
  rw [pk_rem hn hP0 (by omega)]
  unfold pfitB at hX
  have hlt := Nat.mod_lt n hP0
  by_cases c1 : n % 2 ^ q = 0
  · refine ra_if_ne (q := 19) A d_Mo_fits_5 (by decide) (fun cc => absurd ((by rw [c1]; rfl)) cc) (fun _ => ?_)
    refine ra_iload_n A d_Mo_fits_8 rfl <| ra_iload_n A d_Mo_fits_9 rfl <| ra_ishr A d_Mo_fits_10 <| ?_
    rw [shrN hn (by omega)]
    refine ra_iload_n A d_Mo_fits_11 rfl <| ?_
    by_cases c2 : o < n / 2 ^ q
    · refine ra_icmp_le (q := 19) A d_Mo_fits_12 (by decide) (fun cc => absurd cc (nI_ge c2 (by omega))) (fun _ => ?_)
      refine ra_iconst A 1 d_Mo_fits_15 (by decide) <| ra_goto (q := 20) A d_Mo_fits_16 (by decide) <| ?_
      rw [c1, decide_eq_true c2] at hX
      exact ra_zret A ow rfl d_Mo_fits_20 hX
    · refine ra_icmp_le (q := 19) A d_Mo_fits_12 (by decide) (fun _ => ?_) (fun cc => absurd (nI_le (by omega) ho) cc)
      refine ra_iconst A 0 d_Mo_fits_19 (by decide) <| ?_
      rw [c1, decide_eq_false c2] at hX
      exact ra_zret A ow rfl d_Mo_fits_20 hX
  · refine ra_if_ne (q := 19) A d_Mo_fits_5 (by decide) (fun _ => ?_) (fun cc => absurd cc (nI_ne0 (by omega) (by omega)))
    refine ra_iconst A 0 d_Mo_fits_19 (by decide) <| ?_
    rw [show (n % 2 ^ q == 0) = false from beq_false_of_ne c1] at hX
    exact ra_zret A ow rfl d_Mo_fits_20 hX
theorem s_Mo_bestQ (K : xk_ok u KK) {t : Nat → Int32} {o n : Nat} (R : RT h o n (dl o t)) (hn : n ≤ 1024) (ho : o < n) (hX : X (.inl (some (.int (nI (bq t o n))))) h 0 0) : xm_M l (y0 u) KK m_Mo_bestQ [.ref 141, .int (nI o), .int (nI n)] h X := by
  refine xm_of [none, none] (by simp) (Nat.le_of_ble_eq_true rfl) (by decide) (fun x at0 => ?_)
  have A := xa_of at0 K
  have ow := at0.2.2.2.2.1
  obtain ⟨hF, fF, nF⟩ := finq_fit ho
  have hfd : ∀ i, o ≤ i → i < n → fdN (dl o t i) < 2 ^ 30 := by
    intro i h1 h2
    have := fdN_lt (R i h1 h2).2
    omega
  have hcb : ∀ q, q ≤ finq o n → rcost (fun i => fdN (dl o t i)) o n q < 2 ^ 21 := fun q hq => rcost_le hn (by omega) (pfit_le fF hq) hfd
  refine ra_iconst A 0 d_Mo_bestQ_0 (by decide) <| ra_istore_n (L' := [_, _, _, _, _]) A d_Mo_bestQ_1 (by decide) rfl <| ra_iconst A 1 d_Mo_bestQ_2 (by decide) <| ra_istore (L' := [_, _, _, _, _]) A d_Mo_bestQ_3 (by decide) rfl <| ?_
  refine lp_up (σ := Unit) (W := fun j _ => xg x (y0 u) 0 0 5 [some (.ref 141), some (.int (nI o)), some (.int (nI n)), some (.int (nI (amin (rcost (fun i => fdN (dl o t i)) o n) (min j (finq o n))))), some (.int (nI (j + 1)))] [] h) (I := fun _ _ => True) 5 ?_ ?_ 0 () (Nat.zero_le _) trivial
  · rintro - -
    refine ra_iload A d_Mo_bestQ_5 rfl <| ra_bipush A 6 d_Mo_bestQ_7 (by decide) <| ?_
    refine ra_icmp_ge (q := 50) A d_Mo_bestQ_9 (by decide) (fun _ => ?_) (fun cc => absurd ((by decide)) cc)
    refine ra_iload_n A d_Mo_bestQ_50 rfl <| ?_
    rw [bq_of hF]
    exact ra_iret A ow d_Mo_bestQ_51 hX
  · rintro j - hj - ih
    have ih := ih () trivial
    have hA := (amin_LM (rcost (fun i => fdN (dl o t i)) o n) (min j (finq o n))).1
    refine ra_iload A d_Mo_bestQ_5 rfl <| ra_bipush A 6 d_Mo_bestQ_7 (by decide) <| ?_
    refine ra_icmp_ge (q := 50) A d_Mo_bestQ_9 (by decide) (fun cc => absurd cc (nI_ge (b := 6) (by omega) (by decide))) (fun _ => ?_)
    refine ra_iload_n A d_Mo_bestQ_12 rfl <| ra_iload A d_Mo_bestQ_13 rfl <| ra_iload_n A d_Mo_bestQ_15 rfl <| ?_
    refine ra_callS (As := [_, _, _]) A ok_Mo_fits l_Mo_281 st_Mo_fits d_Mo_bestQ_16 rfl (Nat.le_of_ble_eq_true rfl) (xr_of at0 (by decide)) (s_Mo_fits K (by omega) (by omega) (by omega) ?_)
    show xg x (y0 u) 0 0 19 _ _ h
    by_cases c : j + 1 ≤ finq o n
    · have hp := pfit_le fF c
      rw [pfitB_iff.mpr hp]
      refine ra_if_eq (q := 44) A d_Mo_bestQ_19 (by decide) (fun cc => absurd cc ((by decide))) (fun _ => ?_)
      refine ra_aload_n A d_Mo_bestQ_22 rfl <| ra_iload_n A d_Mo_bestQ_23 rfl <| ra_iload A d_Mo_bestQ_24 rfl <| ra_iload_n A d_Mo_bestQ_26 rfl <| ?_
      refine ra_callV (As := [_, _, _]) A ok_Mo_restCost l_Mo_285 im_Mo_restCost sl_Mo_restCost d_Mo_bestQ_27 (Nat.le_of_ble_eq_true rfl) rfl rfl rfl (Nat.le_of_ble_eq_true rfl) (xr_of at0 (by decide)) (s_Mo_restCost K R (by omega) (by omega) hp ?_)
      show xg x (y0 u) 0 0 30 _ _ h
      refine ra_aload_n A d_Mo_bestQ_30 rfl <| ra_iload_n A d_Mo_bestQ_31 rfl <| ra_iload_n A d_Mo_bestQ_32 rfl <| ra_iload_n A d_Mo_bestQ_33 rfl <| ?_
      refine ra_callV (As := [_, _, _]) A ok_Mo_restCost l_Mo_285 im_Mo_restCost sl_Mo_restCost d_Mo_bestQ_34 (Nat.le_of_ble_eq_true rfl) rfl rfl rfl (Nat.le_of_ble_eq_true rfl) (xr_of at0 (by decide)) (s_Mo_restCost K R (by omega) (by omega) (pfit_le fF (by omega)) ?_)
      show xg x (y0 u) 0 0 37 _ _ h
      refine ra_lcmp A d_Mo_bestQ_37 <| ?_
      have q1 := hcb (j + 1) c
      have q2 := hcb (amin (rcost (fun i => fdN (dl o t i)) o n) (min j (finq o n))) (by omega)
      rw [show min (j + 1) (finq o n) = j + 1 by omega, amin] at ih
      rw [show min j (finq o n) = j by omega] at q2 ⊢
      by_cases cc : rcost (fun i => fdN (dl o t i)) o n (j + 1) < rcost (fun i => fdN (dl o t i)) o n (amin (rcost (fun i => fdN (dl o t i)) o n) j)
      · refine ra_if_ge (q := 44) A d_Mo_bestQ_38 (by decide) (fun cc => absurd cc (fun z => absurd ((pk_lLE (by omega) (by omega)).mp (lc_ge.mp z)) (by omega))) (fun _ => ?_)
        rw [if_pos cc] at ih
        refine ra_iload A d_Mo_bestQ_41 rfl <| ra_istore_n (L' := [_, _, _, _, _]) A d_Mo_bestQ_43 (by decide) rfl <| ra_iinc (L' := [_, _, _, _, _]) A 1 d_Mo_bestQ_44 rfl (by decide) (by decide) rfl <| ra_goto (q := 5) A d_Mo_bestQ_47 (by decide) <| ?_
        rw [nI_1]
        exact ih
      · refine ra_if_ge (q := 44) A d_Mo_bestQ_38 (by decide) (fun _ => ?_) (fun cc => absurd (lc_ge.mpr ((pk_lLE (by omega) (by omega)).mpr (by omega))) cc)
        rw [if_neg cc] at ih
        refine ra_iinc (L' := [_, _, _, _, _]) A 1 d_Mo_bestQ_44 rfl (by decide) (by decide) rfl <| ra_goto (q := 5) A d_Mo_bestQ_47 (by decide) <| ?_
        rw [nI_1]
        exact ih
    · have hb : pfitB o n (j + 1) = false := by
        cases hb : pfitB o n (j + 1) with
        | false => rfl
        | true => exact absurd (pfitB_iff.mp hb) (nF (j + 1) (by omega) (by omega))
      rw [hb]
      refine ra_if_eq (q := 44) A d_Mo_bestQ_19 (by decide) (fun _ => ?_) (fun cc => absurd (rfl) cc)
      rw [show min (j + 1) (finq o n) = min j (finq o n) by omega] at ih
      refine ra_iinc (L' := [_, _, _, _, _]) A 1 d_Mo_bestQ_44 rfl (by decide) (by decide) rfl <| ra_goto (q := 5) A d_Mo_bestQ_47 (by decide) <| ?_
      rw [nI_1]
      exact ih
theorem s_Mo_isOne (K : xk_ok u KK) {sm : Nat → Int32} {n : Nat} (hn1 : 1 ≤ n) (hn : n ≤ 1200) (hs : ∀ i, i < n → h.1 150 i = sm i) (hX : X (.inl (some (.int (bz (alB sm n))))) h 0 0) : xm_M l (y0 u) KK m_Mo_isOne [.ref 141, .int (nI n)] h X := by
  refine xm_of [none, none] (by simp) (Nat.le_of_ble_eq_true rfl) (by decide) (fun x at0 => ?_)
  have A := xa_of at0 K
  have ow := at0.2.2.2.2.1
  have i0 : vp_in (0 : Int32) 1200 := vp_in_nI (n := 0) (by decide) (by decide)
  refine ra_iconst A 1 d_Mo_isOne_0 (by decide) <| ra_istore_n (L' := [_, _, _, _]) A d_Mo_isOne_1 (by decide) rfl <| ra_iconst A 1 d_Mo_isOne_2 (by decide) <| ra_istore_n (L' := [_, _, _, _]) A d_Mo_isOne_3 (by decide) rfl <| ?_
  have e1 : bz (alB sm (0 + 1)) = 1 := by simp [alB, bz]
  have go : xg x (y0 u) 0 0 4 [some (.ref 141), some (.int (nI n)), some (.int (bz (alB sm (0 + 1)))), some (.int (nI (0 + 1)))] [] h := by
    refine lp_up (σ := Unit) (W := fun i _ => xg x (y0 u) 0 0 4 [some (.ref 141), some (.int (nI n)), some (.int (bz (alB sm (i + 1)))), some (.int (nI (i + 1)))] [] h) (I := fun _ _ => True) (n - 1) ?_ ?_ 0 () (Nat.zero_le _) trivial
    · rintro - -
      rw [show n - 1 + 1 = n by omega]
      refine ra_iload_n A d_Mo_isOne_4 rfl <| ra_iload_n A d_Mo_isOne_5 rfl <| ?_
      refine ra_icmp_ge (q := 40) A d_Mo_isOne_6 (by decide) (fun _ => ?_) (fun cc => absurd (Int32.le_refl _) cc)
      refine ra_iload_n A d_Mo_isOne_40 rfl <| ?_
      cases hb : alB sm n
      · rw [hb] at hX
        exact ra_zret A ow rfl d_Mo_isOne_41 hX
      · rw [hb] at hX
        exact ra_zret A ow rfl d_Mo_isOne_41 hX
    · rintro i - hi - ih
      have ih := ih () trivial
      have ea : alB sm (i + 1 + 1) = (alB sm (i + 1) && decide (sm (i + 1) = sm 0)) := rfl
      rw [ea] at ih
      refine ra_iload_n A d_Mo_isOne_4 rfl <| ra_iload_n A d_Mo_isOne_5 rfl <| ?_
      refine ra_icmp_ge (q := 40) A d_Mo_isOne_6 (by decide) (fun cc => absurd cc (nI_ge (by omega) (by omega))) (fun _ => ?_)
      refine ra_iload_n A d_Mo_isOne_9 rfl <| ?_
      cases hb : alB sm (i + 1)
      · rw [hb, Bool.false_and] at ih
        refine ra_if_eq (q := 32) A d_Mo_isOne_10 (by decide) (fun _ => ?_) (fun cc => absurd (rfl) cc)
        refine ra_iconst A 0 d_Mo_isOne_32 (by decide) <| ra_istore_n (L' := [_, _, _, _]) A d_Mo_isOne_33 (by decide) rfl <| ra_iinc (L' := [_, _, _, _]) A 1 d_Mo_isOne_34 rfl (by decide) (by decide) rfl <| ra_goto (q := 4) A d_Mo_isOne_37 (by decide) <| ?_
        rw [nI_1]
        exact ih
      · rw [hb, Bool.true_and] at ih
        refine ra_if_eq (q := 32) A d_Mo_isOne_10 (by decide) (fun cc => absurd cc ((by decide))) (fun _ => ?_)
        refine ra_aload_n A d_Mo_isOne_13 rfl <| ra_getR A f_Mo_176 d_Mo_isOne_14 (Nat.le_of_ble_eq_true rfl) rfl rfl rfl <| ra_iload_n A d_Mo_isOne_17 rfl <| ?_
        refine ra_iaload A d_Mo_isOne_18 (Nat.le_of_ble_eq_true rfl) rfl (vp_in_nI (by omega) (by decide)) ?_
        rw [nI_clamp (by omega), hs _ (by omega)]
        refine ra_aload_n A d_Mo_isOne_19 rfl <| ra_getR A f_Mo_176 d_Mo_isOne_20 (Nat.le_of_ble_eq_true rfl) rfl rfl rfl <| ra_iconst A 0 d_Mo_isOne_23 (by decide) <| ?_
        refine ra_iaload A d_Mo_isOne_24 (Nat.le_of_ble_eq_true rfl) rfl i0 ?_
        rw [show h.1 150 (Int32.toNatClampNeg 0) = sm 0 from hs 0 (by omega)]
        by_cases c : sm (i + 1) = sm 0
        · refine ra_icmp_ne (q := 32) A d_Mo_isOne_25 (by decide) (fun cc => absurd (c) cc) (fun _ => ?_)
          rw [decide_eq_true c] at ih
          refine ra_iconst A 1 d_Mo_isOne_28 (by decide) <| ra_goto (q := 33) A d_Mo_isOne_29 (by decide) <| ra_istore_n (L' := [_, _, _, _]) A d_Mo_isOne_33 (by decide) rfl <| ra_iinc (L' := [_, _, _, _]) A 1 d_Mo_isOne_34 rfl (by decide) (by decide) rfl <| ra_goto (q := 4) A d_Mo_isOne_37 (by decide) <| ?_
          rw [nI_1]
          exact ih
        · refine ra_icmp_ne (q := 32) A d_Mo_isOne_25 (by decide) (fun _ => ?_) (fun cc => absurd cc (c))
          rw [decide_eq_false c] at ih
          refine ra_iconst A 0 d_Mo_isOne_32 (by decide) <| ra_istore_n (L' := [_, _, _, _]) A d_Mo_isOne_33 (by decide) rfl <| ra_iinc (L' := [_, _, _, _]) A 1 d_Mo_isOne_34 rfl (by decide) (by decide) rfl <| ra_goto (q := 4) A d_Mo_isOne_37 (by decide) <| ?_
          rw [nI_1]
          exact ih
  rw [e1] at go
  exact go
end S85
