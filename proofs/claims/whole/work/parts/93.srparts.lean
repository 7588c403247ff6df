/-! SoundStream$SubframeReader: isType, orderOf, unfold, predict, useFixedFactors, readPlain, readFactors -/
/-- only the reader's position and the row k from f on have changed -/
def SM (k f : Nat) (h h' : xw_H) : Prop := fr [133, k] h h' ∧ h'.1 133 3 = h.1 133 3 ∧ ∀ i, i < f → h'.1 k i = h.1 k i
theorem SM.rfl {k f : Nat} {h : xw_H} : SM k f h h := ⟨fr.rfl, _root_.rfl, fun _ _ => _root_.rfl⟩
theorem SM.trans {k f : Nat} {h g h' : xw_H} (x : SM k f h g) (y : SM k f g h') : SM k f h h' := ⟨x.1.trans y.1, y.2.1.trans x.2.1, fun i hi => (y.2.2 i hi).trans (x.2.2 i hi)⟩
theorem RM1.sm {k f : Nat} {h h' : xw_H} (x : RM1 h h') (hk : k ≠ 133) : SM k f h h' := ⟨fun a ha => ⟨x.1 a (fun q => ha (by simp [q])), by rw [x.2.2]⟩, x.pl, fun i _ => by rw [x.1 k hk]⟩
theorem SM_I {k f i : Nat} {h : xw_H} {v : Int32} (hk : k ≠ 133) (hi : f ≤ i) : SM k f h (xw_I h k i v) := ⟨fr_I (by simp), by rw [xI_k (fun q => hk q.symm)], fun j hj => xI_j (by omega)⟩
def isRow (k : Nat) : Prop := k = 138 ∨ k = 139
theorem isRow.lt {k : Nat} (h : isRow k) : k < 157 ∧ kd0 k = .inr (0, 0, 1200) ∧ k ≠ 133 ∧ k ≠ 134 ∧ k ≠ 135 ∧ k ≠ 6 ∧ k ≠ 7 ∧ k ∈ DLs := by
  rcases h with rfl | rfl <;> refine ⟨by decide, rfl, by decide, by decide, by decide, by decide, by decide, by decide⟩
theorem SM.dl {k f : Nat} {h h' : xw_H} (x : SM k f h h') (hk : isRow k) : FD h h' := FD.of x.1 (by
  intro a ha
  simp at ha
  rcases ha with rfl | rfl
  · decide
  · exact hk.lt.2.2.2.2.2.2.2) (by rcases hk with rfl | rfl <;> decide)
theorem SM.er {k f e : Nat} {h g h' : xw_H} (x : SM k f h g) (hk : isRow k) (E : ER g h' e) : ER h h' e := E.after (x.dl hk) x.2.1
theorem SM.RD {k f L p : Nat} {F : Nat → Bool} {h h' : xw_H} (R : RD h F L p) (hk : isRow k) {i : Nat} {v : Int32} : RD (xw_I h k i v) F L p := by
  obtain ⟨h1, h2, h3, h4, h5, h6, h7, h8⟩ := hk.lt
  exact R.of (xI_k (fun q => h6 q.symm)) (xI_k (fun q => h7 q.symm)) (by rw [xI_k (fun q => h3 q.symm)]; exact R.2.2.1) R.2.2.2.1
/-- the predictor stands in the reader's fields -/
def PF (h : xw_H) (P : Pd) : Prop := h.1 134 2 = nI P.1 ∧ h.1 134 4 = nI P.2.1 ∧ h.1 134 3 = nI P.2.2.1 ∧ ∀ j, j < P.1 → h.1 135 j = P.2.2.2 j
theorem PF.sm {k f : Nat} {h h' : xw_H} {P : Pd} (x : PF h P) (s : SM k f h h') (hk : isRow k) : PF h' P := by
  obtain ⟨h1, h2, h3, h4, h5, h6, h7, h8⟩ := hk.lt
  unfold PF
  rw [fr1 s.1 (show 134 ∉ [133, k] by simp; omega), fr1 s.1 (show 135 ∉ [133, k] by simp; omega)]
  exact x
theorem lN_shr {v k : Nat} (hv : v < 2 ^ 63) (hk : k < 64) : lN v >>> ((nI k).toInt64 &&& 63) = lN (v / 2 ^ k) := by
  apply Int64.toInt_inj.mp
  have hle := Nat.div_le_self v (2 ^ k)
  rw [lshr_toInt _ _ k (lb_sh k hk), pk_lT hv, pk_lT (by omega), Int.shiftRight_eq_div_pow]
  push_cast
  rfl
section S93
variable {u : xu_T} {l : Launch} {KK : State → Prop} {h : xw_H} {X : xc_R → xw_H → Nat → Nat → Prop}
theorem s_Sr_isType (K : xk_ok u KK) {t : Nat} (ht : t < 64) (hX : X (.inl (some (.int (bz (isT t))))) h 0 0) : xm_M l (y0 u) KK m_Sr_isType [.int (nI t)] h X := by
  refine xm_of [] (by simp) (Nat.le_of_ble_eq_true rfl) (by decide) (fun x at0 => ?_)
  have A := xa_of at0 K
  have ow := at0.2.2.2.2.1
  have yes : isT t = true → xg x (y0 u) 0 0 27 [some (.int (nI t))] [] h := by
    intro q
    rw [q] at hX
    refine ra_iconst A 1 d_Sr_isType_27 (by decide) <| ra_goto (q := 32) A d_Sr_isType_28 (by decide) <| ?_
    exact ra_zret A ow rfl d_Sr_isType_32 hX
  have no : isT t = false → xg x (y0 u) 0 0 31 [some (.int (nI t))] [] h := by
    intro q
    rw [q] at hX
    refine ra_iconst A 0 d_Sr_isType_31 (by decide) <| ?_
    exact ra_zret A ow rfl d_Sr_isType_32 hX
  refine ra_iload_n A d_Sr_isType_0 rfl <| ?_
  by_cases c0 : t = 0
  · refine ra_if_eq (q := 27) A d_Sr_isType_1 (by decide) (fun _ => ?_) (fun cc => absurd ((by rw [c0]; rfl)) cc)
    exact yes (by simp [isT, c0])
  · refine ra_if_eq (q := 27) A d_Sr_isType_1 (by decide) (fun cc => absurd cc (nI_ne0 (by omega) (by omega))) (fun _ => ?_)
    refine ra_iload_n A d_Sr_isType_4 rfl <| ra_iconst A 1 d_Sr_isType_5 (by decide) <| ?_
    by_cases c1 : t = 1
    · refine ra_icmp_eq (q := 27) A d_Sr_isType_6 (by decide) (fun _ => ?_) (fun cc => absurd ((by rw [c1]; rfl)) cc)
      exact yes (by simp [isT, c1])
    · refine ra_icmp_eq (q := 27) A d_Sr_isType_6 (by decide) (fun cc => absurd cc (fun z => c1 ((nI_eq (b := 1) (by omega) (by decide)).mp z))) (fun _ => ?_)
      refine ra_iload_n A d_Sr_isType_9 rfl <| ra_bipush A 32 d_Sr_isType_10 (by decide) <| ?_
      by_cases c2 : 32 ≤ t
      · refine ra_icmp_ge (q := 27) A d_Sr_isType_12 (by decide) (fun _ => ?_) (fun cc => absurd (nI_le (a := 32) c2 (by omega)) cc)
        exact yes (by simp [isT, c2])
      · refine ra_icmp_ge (q := 27) A d_Sr_isType_12 (by decide) (fun cc => absurd cc (nI_ge (b := 32) (by omega) (by decide))) (fun _ => ?_)
        refine ra_iload_n A d_Sr_isType_15 rfl <| ra_bipush A 8 d_Sr_isType_16 (by decide) <| ?_
        by_cases c3 : 8 ≤ t
        · refine ra_icmp_lt (q := 31) A d_Sr_isType_18 (by decide) (fun cc => absurd cc (fun z => absurd ((nI_ltI (b := 8) (by omega) (by decide)).mp z) (by omega))) (fun _ => ?_)
          refine ra_iload_n A d_Sr_isType_21 rfl <| ra_bipush A 12 d_Sr_isType_22 (by decide) <| ?_
          by_cases c4 : t ≤ 12
          · refine ra_icmp_gt (q := 31) A d_Sr_isType_24 (by decide) (fun cc => absurd cc (Int32.not_lt.mpr (nI_le (b := 12) c4 (by decide)))) (fun _ => ?_)
            exact yes (by simp [isT, c3, c4])
          · refine ra_icmp_gt (q := 31) A d_Sr_isType_24 (by decide) (fun _ => ?_) (fun cc => absurd (nI_lt (a := 12) (by omega) (by omega)) cc)
            exact no (by simp [isT, c0, c1, c2, c4])
        · refine ra_icmp_lt (q := 31) A d_Sr_isType_18 (by decide) (fun _ => ?_) (fun cc => absurd (nI_lt (b := 8) (by omega) (by decide)) cc)
          exact no (by simp [isT, c0, c1, c2, c3])
theorem s_Sr_orderOf (K : xk_ok u KK) {t : Nat} (ht : t < 64) (hX : X (.inl (some (.int (nI (oT t))))) h 0 0) : xm_M l (y0 u) KK m_Sr_orderOf [.int (nI t)] h X := by
  refine xm_of [] (by simp) (Nat.le_of_ble_eq_true rfl) (by decide) (fun x at0 => ?_)
  have A := xa_of at0 K
  have ow := at0.2.2.2.2.1
  unfold oT at hX
  refine ra_iload_n A d_Sr_orderOf_0 rfl <| ra_bipush A 32 d_Sr_orderOf_1 (by decide) <| ?_
  by_cases c2 : 32 ≤ t
  · refine ra_icmp_lt (q := 13) A d_Sr_orderOf_3 (by decide) (fun cc => absurd cc (fun z => absurd ((nI_ltI (b := 32) (by omega) (by decide)).mp z) (by omega))) (fun _ => ?_)
    rw [if_pos c2] at hX
    refine ra_iload_n A d_Sr_orderOf_6 rfl <| ra_bipush A 32 d_Sr_orderOf_7 (by decide) <| ra_isub A d_Sr_orderOf_9 <| ra_iconst A 1 d_Sr_orderOf_10 (by decide) <| ra_iadd A d_Sr_orderOf_11 <| ?_
    rw [show nI t - 32 = nI (t - 32) from pk_sub (b := 32) c2, nI_1, show t - 32 + 1 = t - 31 by omega]
    exact ra_iret A ow d_Sr_orderOf_12 hX
  · refine ra_icmp_lt (q := 13) A d_Sr_orderOf_3 (by decide) (fun _ => ?_) (fun cc => absurd (nI_lt (b := 32) (by omega) (by decide)) cc)
    rw [if_neg c2] at hX
    refine ra_iload_n A d_Sr_orderOf_13 rfl <| ra_bipush A 8 d_Sr_orderOf_14 (by decide) <| ?_
    by_cases c3 : 8 ≤ t
    · refine ra_icmp_lt (q := 26) A d_Sr_orderOf_16 (by decide) (fun cc => absurd cc (fun z => absurd ((nI_ltI (b := 8) (by omega) (by decide)).mp z) (by omega))) (fun _ => ?_)
      rw [if_pos c3] at hX
      refine ra_iload_n A d_Sr_orderOf_19 rfl <| ra_bipush A 8 d_Sr_orderOf_20 (by decide) <| ra_isub A d_Sr_orderOf_22 <| ra_goto (q := 27) A d_Sr_orderOf_23 (by decide) <| ?_
      rw [show nI t - 8 = nI (t - 8) from pk_sub (b := 8) c3]
      exact ra_iret A ow d_Sr_orderOf_27 hX
    · refine ra_icmp_lt (q := 26) A d_Sr_orderOf_16 (by decide) (fun _ => ?_) (fun cc => absurd (nI_lt (b := 8) (by omega) (by decide)) cc)
      rw [if_neg c3] at hX
      refine ra_iconst A 0 d_Sr_orderOf_26 (by decide) <| ?_
      exact ra_iret A ow d_Sr_orderOf_27 hX
theorem s_Sr_unfold (K : xk_ok u KK) {v : Nat} (hv : v < 2 ^ 63) (hX : X (.inl (some (.long (unf v)))) h 0 0) : xm_M l (y0 u) KK m_Sr_unfold [.long (lN v)] h X := by
  refine xm_of [] (by simp) (Nat.le_of_ble_eq_true rfl) (by decide) (fun x at0 => ?_)
  have A := xa_of at0 K
  have ow := at0.2.2.2.2.1
  unfold unf at hX
  have hs : lN v >>> ((1 : Int32).toInt64 &&& 63) = lN (v / 2) := lN_shr (k := 1) hv (by decide)
  refine ra_lload_n A d_Sr_unfold_0 rfl <| ra_lconst A 1 d_Sr_unfold_1 (by decide) <| ra_land A d_Sr_unfold_2 <| ?_
  rw [wb_a1 (by omega)]
  refine ra_lconst A 0 d_Sr_unfold_3 (by decide) <| ra_lcmp A d_Sr_unfold_4 <| ?_
  by_cases c : v % 2 = 0
  · refine ra_if_ne (q := 14) A d_Sr_unfold_5 (by decide) (fun cc => absurd ((by rw [c]; exact lc_eq.mpr rfl)) cc) (fun _ => ?_)
    rw [if_pos c] at hX
    refine ra_lload_n A d_Sr_unfold_8 rfl <| ra_iconst A 1 d_Sr_unfold_9 (by decide) <| ra_lshr A d_Sr_unfold_10 <| ra_goto (q := 20) A d_Sr_unfold_11 (by decide) <| ?_
    rw [hs]
    exact ra_lret A ow d_Sr_unfold_20 hX
  · refine ra_if_ne (q := 14) A d_Sr_unfold_5 (by decide) (fun _ => ?_) (fun cc => absurd cc (fun z => c ((pk_lEQ (b := 0) (by omega) (by decide)).mp (lc_eq.mp z))))
    rw [if_neg c] at hX
    refine ra_lload_n A d_Sr_unfold_14 rfl <| ra_iconst A 1 d_Sr_unfold_15 (by decide) <| ra_lshr A d_Sr_unfold_16 <| ra_lneg A d_Sr_unfold_17 <| ra_lconst A 1 d_Sr_unfold_18 (by decide) <| ra_lsub A d_Sr_unfold_19 <| ?_
    rw [hs]
    exact ra_lret A ow d_Sr_unfold_20 hX
theorem s_Sr_predict (K : xk_ok u KK) {k f i : Nat} {P : Pd} {row : Nat → Int32} (hk : isRow k) (hP : PF h P) (ho : P.1 ≤ 32) (hoi : P.1 ≤ i) (hi : f + i < 1200) (hrow : ∀ r, r < i → h.1 k (f + r) = row r) (hX : X (.inl (some (.long (prd P.2.2.2 row i P.1 >>> ((nI P.2.2.1).toInt64 &&& 63))))) h 0 0) : xm_M l (y0 u) KK m_Sr_predict [.ref 134, .ref k, .int (nI (f + i))] h X := by
  refine xm_of [none, none, none] (by simp) (Nat.le_of_ble_eq_true rfl) (by decide) (fun x at0 => ?_)
  have A := xa_of at0 K
  have ow := at0.2.2.2.2.1
  obtain ⟨k1, k2, -⟩ := hk.lt
  obtain ⟨p1, p2, p3, p4⟩ := hP
  refine ra_lconst A 0 d_Sr_predict_0 (by decide) <| ra_lstore_n (L' := [_, _, _, _, _, _]) A d_Sr_predict_1 (by decide) rfl <| ra_iconst A 0 d_Sr_predict_2 (by decide) <| ra_istore (L' := [_, _, _, _, _, _]) A d_Sr_predict_3 (by decide) rfl <| ?_
  refine lp_up (σ := Unit) (W := fun j _ => xg x (y0 u) 0 0 5 [some (.ref 134), some (.ref k), some (.int (nI (f + i))), some (.long (prd P.2.2.2 row i j)), none, some (.int (nI j))] [] h) (I := fun _ _ => True) P.1 ?_ ?_ 0 () (Nat.zero_le _) trivial
  · rintro - -
    refine ra_iload A d_Sr_predict_5 rfl <| ra_aload_n A d_Sr_predict_7 rfl <| ra_getI A f_Sr_44 d_Sr_predict_8 (Nat.le_of_ble_eq_true rfl) rfl rfl <| ?_
    rw [p1]
    refine ra_icmp_ge (q := 41) A d_Sr_predict_11 (by decide) (fun _ => ?_) (fun cc => absurd (Int32.le_refl _) cc)
    refine ra_lload_n A d_Sr_predict_41 rfl <| ra_aload_n A d_Sr_predict_42 rfl <| ra_getI A f_Sr_69 d_Sr_predict_43 (Nat.le_of_ble_eq_true rfl) rfl rfl <| ?_
    rw [p3]
    refine ra_lshr A d_Sr_predict_46 <| ?_
    exact ra_lret A ow d_Sr_predict_47 hX
  · rintro j - hj - ih
    refine ra_iload A d_Sr_predict_5 rfl <| ra_aload_n A d_Sr_predict_7 rfl <| ra_getI A f_Sr_44 d_Sr_predict_8 (Nat.le_of_ble_eq_true rfl) rfl rfl <| ?_
    rw [p1]
    refine ra_icmp_ge (q := 41) A d_Sr_predict_11 (by decide) (fun cc => absurd cc (nI_ge hj (by omega))) (fun _ => ?_)
    refine ra_lload_n A d_Sr_predict_14 rfl <| ra_aload_n A d_Sr_predict_15 rfl <| ra_getR A f_Sr_9 d_Sr_predict_16 (Nat.le_of_ble_eq_true rfl) rfl rfl rfl <| ra_iload A d_Sr_predict_19 rfl <| ?_
    refine ra_iaload A d_Sr_predict_21 (Nat.le_of_ble_eq_true rfl) rfl (vp_in_nI (by omega) (by decide)) ?_
    rw [nI_clamp (by omega), p4 j hj]
    refine ra_i2l A d_Sr_predict_22 <| ra_aload_n A d_Sr_predict_23 rfl <| ra_iload_n A d_Sr_predict_24 rfl <| ra_iconst A 1 d_Sr_predict_25 (by decide) <| ra_isub A d_Sr_predict_26 <| ra_iload A d_Sr_predict_27 rfl <| ra_isub A d_Sr_predict_29 <| ?_
    rw [show nI (f + i) - 1 = nI (f + i - 1) from pk_sub (b := 1) (by omega), pk_sub (by omega), show f + i - 1 - j = f + (i - 1 - j) by omega]
    refine ra_iaload A d_Sr_predict_30 k1 k2 (vp_in_nI (by omega) (by decide)) ?_
    rw [nI_clamp (by omega), hrow _ (by omega)]
    refine ra_i2l A d_Sr_predict_31 <| ra_lmul A d_Sr_predict_32 <| ra_ladd A d_Sr_predict_33 <| ra_lstore_n (L' := [_, _, _, _, _, _]) A d_Sr_predict_34 (by decide) rfl <| ra_iinc (L' := [_, _, _, _, _, _]) A 1 d_Sr_predict_35 rfl (by decide) (by decide) rfl <| ra_goto (q := 5) A d_Sr_predict_38 (by decide) <| ?_
    rw [nI_1]
    exact ih () trivial
theorem s_Sr_useFixedFactors {o : Nat} (ho : o ≤ 4) (eo : h.1 134 2 = nI o) (hX : ∀ h', fr [134, 135] h h' → h'.1 134 2 = nI o → h'.1 134 4 = h.1 134 4 → h'.1 134 3 = nI 0 → (∀ j, j < o → h'.1 135 j = fxf o j) → X (.inl none) h' 0 0) : xm_M l (y0 u) (KK0 u) m_Sr_useFixedFactors [.ref 134] h X := by
  refine xm_of [] (by simp) (Nat.le_of_ble_eq_true rfl) (by decide) (fun x at0 => ?_)
  have A := xa_of at0 (KK0_ok u)
  have ow := at0.2.2.2.2.1
  have hro : 1 ≤ (xm_R x).frames ∧ 0 + (nativeFrameWords "java/lang/System" "arraycopy" 5 + 11) ≤ (xm_R x).locals := by
    rw [at0.2.2.2.2.2.2.1]
    decide
  refine ra_aload_n A d_Sr_useFixedFactors_0 rfl <| ra_iconst A 0 d_Sr_useFixedFactors_1 (by decide) <| ra_putI (ty := .int) A f_Sr_69 rfl rfl (by decide +kernel) rfl rfl d_Sr_useFixedFactors_2 (Nat.le_of_ble_eq_true rfl) rfl rfl <| ra_gets A at0.2.2.1.2.2.2.2.2.2.2.2.2.2.2.1.1 fs_Sr_72 d_Sr_useFixedFactors_5 <| ra_iconst A 4 d_Sr_useFixedFactors_8 (by decide) <| ra_aload_n A d_Sr_useFixedFactors_9 rfl <| ra_getI A f_Sr_44 d_Sr_useFixedFactors_10 (Nat.le_of_ble_eq_true rfl) rfl rfl <| ?_
  rw [xI_j (by decide), eo]
  refine ra_imul A d_Sr_useFixedFactors_13 <| ra_aload_n A d_Sr_useFixedFactors_14 rfl <| ra_getR A f_Sr_9 d_Sr_useFixedFactors_15 (Nat.le_of_ble_eq_true rfl) rfl rfl rfl <| ra_iconst A 0 d_Sr_useFixedFactors_18 (by decide) <| ra_iconst A 4 d_Sr_useFixedFactors_19 (by decide) <| ?_
  rw [show (4 : Int32) * nI o = nI (4 * o) from pk_mul 4 o]
  refine ra_copyS (sp := 4 * o) (dp := 0) (n := 4) (lb := 32) A at0.2.2.1.2.2.2.2.2.2.2.2.2.2.2.1.2 l_Sr_75 d_Sr_useFixedFactors_20 (Nat.le_of_ble_eq_true rfl) rfl (by omega) (by decide) (by decide) (by decide) hro ?_
  refine ra_vret A ow d_Sr_useFixedFactors_23 (hX _ ?_ ?_ ?_ ?_ (fun j hj => ?_))
  · exact (fr_I (by decide)).trans (fr_s1 (by decide))
  · rw [xs1_k (by decide), xI_j (by decide)]; exact eo
  · rw [xs1_k (by decide), xI_j (by decide)]
  · rw [xs1_k (by decide), xI_e]; rfl
  · rw [xs1_e, pk_cpy_in (by omega) (by omega), Nat.sub_zero]
    rfl
theorem s_Sr_readPlain (hl : l.stackTraces = false) {F : Nat → Bool} {L p f n wd k : Nat} {Q : Rr (Nat → Int32)} (hk : isRow k) (R : RD h F L p) (ew : h.1 134 4 = nI wd) (hwd : wd ≤ 31) (hfn : f + n ≤ 1200) (hq : rPl F L wd n p = Q)
    (hX : ∀ row p' h', Q = .inr (row, p') → SM k f h h' → RD h' F L p' → (∀ r, r < n → h'.1 k (f + r) = row r) → X (.inl none) h' 0 0) (hY : ∀ e h', Q = .inl e → ER h h' e → X (.inr ISE) h' 1 6) : xm_M l (y0 u) (KK0 u) m_Sr_readPlain [.ref 134, .ref k, .int (nI f), .int (nI n)] h X := by
  refine xm_of [none] (by simp) (Nat.le_of_ble_eq_true rfl) (by decide) (fun x at0 => ?_)
  have A := xa_of at0 (KK0_ok u)
  have ow := at0.2.2.2.2.1
  have hlx : (xg_l x).stackTraces = false := by rw [at0.2.2.2.2.2.1]; exact hl
  obtain ⟨k1, k2, k3, k4, k5, k6, k7, k8⟩ := hk.lt
  unfold rPl at hq
  generalize hst : (fun (i : Nat) (row : Nat → Int32) (p : Nat) => rb (rS F L wd p) fun v p' => (Sum.inr (upd row i v, p') : Rr (Nat → Int32))) = step at hq
  refine ra_iload_n A d_Sr_readPlain_0 rfl <| ra_istore (L' := [_, _, _, _, _]) A d_Sr_readPlain_1 (by decide) rfl <| ?_
  rw [show f = f + 0 from rfl]
  refine lp_up (σ := xw_H) (W := fun j g => xg x (y0 u) 0 0 3 [some (.ref 134), some (.ref k), some (.int (nI (f + 0))), some (.int (nI n)), some (.int (nI (f + j)))] [] g) (I := fun j g => ∃ row p', rL step (fun _ => 0) p j = .inr (row, p') ∧ SM k f h g ∧ RD g F L p' ∧ ∀ r, r < j → g.1 k (f + r) = row r) n ?_ ?_ 0 h (Nat.zero_le _) ⟨_, _, rfl, SM.rfl, R, fun r hr => by omega⟩
  · rintro g ⟨row, p', e, hs, hR, hr⟩
    refine ra_iload A d_Sr_readPlain_3 rfl <| ra_iload_n A d_Sr_readPlain_5 rfl <| ra_iload_n A d_Sr_readPlain_6 rfl <| ra_iadd A d_Sr_readPlain_7 <| ?_
    rw [nI_add]
    refine ra_icmp_ge (q := 32) A d_Sr_readPlain_8 (by decide) (fun _ => ?_) (fun cc => absurd (Int32.le_refl _) cc)
    exact ra_vret A ow d_Sr_readPlain_32 (hX row p' g (hq.symm.trans e) hs hR hr)
  · rintro j g hj ⟨row, p', e, hs, hR, hr⟩ ih
    have e2 := rL_s e
    rw [← hst] at e2
    dsimp only at e2
    refine ra_iload A d_Sr_readPlain_3 rfl <| ra_iload_n A d_Sr_readPlain_5 rfl <| ra_iload_n A d_Sr_readPlain_6 rfl <| ra_iadd A d_Sr_readPlain_7 <| ?_
    rw [nI_add]
    refine ra_icmp_ge (q := 32) A d_Sr_readPlain_8 (by decide) (fun cc => absurd cc (nI_ge (show f + j < f + 0 + n by omega) (by omega))) (fun _ => ?_)
    refine ra_aload_n A d_Sr_readPlain_11 rfl <| ra_iload A d_Sr_readPlain_12 rfl <| ra_aload_n A d_Sr_readPlain_14 rfl <| ra_getR A f_Sr_15 d_Sr_readPlain_15 (Nat.le_of_ble_eq_true rfl) rfl rfl rfl <| ra_aload_n A d_Sr_readPlain_18 rfl <| ra_getI A f_Sr_37 d_Sr_readPlain_19 (Nat.le_of_ble_eq_true rfl) rfl rfl <| ?_
    rw [show g.1 134 4 = nI wd by rw [fr1 hs.1 (by simp; omega)]; exact ew]
    refine ra_callV (As := [_]) A ok_Rd_signed l_Sr_47 im_Rd_signed sl_Rd_signed d_Sr_readPlain_22 (Nat.le_of_ble_eq_true rfl) rfl rfl rfl (Nat.le_of_ble_eq_true rfl) (xr_of at0 (by decide)) (s_Rd_signed hlx hR hwd rfl (fun v p1 g1 e1 f1 R1 => ?_) (fun e' g1 e1 E => xgT_out ow at0.2.2.2.2.2.2.2.2.2.2 (hY e' g1 (by rw [← hq, ← hst]; exact rL_err (by rw [e2, e1, rb_l]) hj) (hs.er hk E))))
    show xg x (y0 u) 0 0 25 _ _ g1
    rw [e1, rb_r] at e2
    refine ra_iastore A d_Sr_readPlain_25 k1 k2 (vp_in_nI (by omega) (by decide)) ?_
    rw [nI_clamp (by omega)]
    refine ra_iinc (L' := [_, _, _, _, _]) A 1 d_Sr_readPlain_26 rfl (by decide) (by decide) rfl <| ra_goto (q := 3) A d_Sr_readPlain_29 (by decide) <| ?_
    rw [nI_1]
    refine ih _ ⟨_, _, by rw [← hst]; exact e2, (hs.trans (f1.sm k3)).trans (SM_I k3 (by omega)), SM.RD (h' := g1) (f := f) R1 hk, fun r hr' => ?_⟩
    by_cases c : r = j
    · subst c; rw [xI_e, pk_us]
    · rw [xI_j (by omega), f1.1 k k3, pk_un c]
      exact hr r (by omega)
end S93
