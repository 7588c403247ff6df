/-! SoundStream$Rests: begin, raiseOrder, fold, addRest, collect, finestParts -/
/-- the rests of order o of n samples -/
def RS (h : xw_H) (n o : Nat) (r : Nat → Int32) : Prop := h.1 88 3 = nI n ∧ h.1 88 4 = nI o ∧ ∀ i, o ≤ i → i < n → h.1 89 i = r i
theorem rf_90 : ∀ p, p < 32 → rf0 90 p = some (91 + p) ∧ kd0 (91 + p) = .inr (1, 1, 15) := by decide +kernel
/-- the cells of zeros and used -/
def ZL : List Nat := [91, 92, 93, 94, 95, 96, 97, 98, 99, 100, 101, 102, 103, 104, 105, 106, 107, 108, 109, 110, 111, 112, 113, 114, 115, 116, 117, 118, 119, 120, 121, 122, 123]
theorem ZL_in : ∀ p, p < 32 → 91 + p ∈ ZL := by decide
def ZC (h : xw_H) (f : Nat → Nat) (o e P : Nat) : Prop := ∀ p, p < P → (∀ t, t < 15 → h.2 (91 + p) t = lN (zs f t (pA o e p) (pM o e p))) ∧ h.1 123 p = nI (us f (pA o e p) (pM o e p))
theorem fr_cp {S : List Nat} {h : xw_H} {a b sp dp n : Nat} (hb : b ∈ S) : fr S h (xw_cp h a b sp dp n) := fun k hk => ⟨va_up_ne _ _ (fun q => hk (q ▸ hb)), rfl⟩
theorem xcp_in {h : xw_H} {a b sp dp n j : Nat} (h1 : dp ≤ j) (h2 : j < dp + n) : (xw_cp h a b sp dp n).1 b j = h.1 a (sp + (j - dp)) := by
  have e : (xw_cp h a b sp dp n).1 b = va_cpy (h.1 a) (h.1 b) sp dp n := by simp [xw_cp, va_up]
  rw [e, pk_cpy_in h1 h2]
theorem xcp_k {h : xw_H} {a b sp dp n k : Nat} (e : k ≠ b) : (xw_cp h a b sp dp n).1 k = h.1 k := va_up_ne _ _ e
section S67
variable {u : xu_T} {l : Launch} {KK : State → Prop} {h : xw_H} {X : xc_R → xw_H → Nat → Nat → Prop}
theorem s_Re_begin (K : xk_ok u KK) {c n : Nat} (hc : c < 157) (hkd : kd0 c = .inr (0, 0, 1024)) (hn : n ≤ 1024) (hX : ∀ h', fr [88, 89] h h' → RS h' n 0 (h.1 c) → X (.inl none) h' 0 0) : xm_M l (y0 u) KK m_Re_begin [.ref 88, .ref c, .int (nI n)] h X := by
  refine xm_of [] (by simp) (Nat.le_of_ble_eq_true rfl) (by decide) (fun x at0 => ?_)
  have A := xa_of at0 K
  have ow := at0.2.2.2.2.1
  refine ra_aload_n A d_Re_begin_0 rfl <| ra_iconst A 0 d_Re_begin_1 (by decide) <| ra_aload_n A d_Re_begin_2 rfl <| ra_getR A f_Re_9 d_Re_begin_3 (Nat.le_of_ble_eq_true rfl) rfl rfl rfl <| ra_iconst A 0 d_Re_begin_6 (by decide) <| ra_iload_n A d_Re_begin_7 rfl <| ?_
  refine ra_copy (sp := 0) (dp := 0) (n := n) A l_Re_23 d_Re_begin_8 hc (Nat.le_of_ble_eq_true rfl) hkd rfl (by omega) (by omega) (by decide) (by decide) ⟨by rw [at0.2.2.2.2.2.2.1]; decide, by rw [at0.2.2.2.2.2.2.1]; decide⟩ ?_
  refine ra_aload_n A d_Re_begin_11 rfl <| ra_iload_n A d_Re_begin_12 rfl <| ra_putI (ty := .int) A f_Re_29 rfl rfl (by decide +kernel) rfl rfl d_Re_begin_13 (Nat.le_of_ble_eq_true rfl) rfl rfl <| ra_aload_n A d_Re_begin_16 rfl <| ra_iconst A 0 d_Re_begin_17 (by decide) <| ra_putI (ty := .int) A f_Re_33 rfl rfl (by decide +kernel) rfl rfl d_Re_begin_18 (Nat.le_of_ble_eq_true rfl) rfl rfl <| ?_
  refine ra_vret A ow d_Re_begin_21 (hX _ ?_ ?_)
  · exact ((fr_cp (by decide)).I (by decide)).I (by decide)
  · refine ⟨?_, ?_, fun i _ hi => ?_⟩
    · rw [xI_j (by decide), xI_e]
    · rw [xI_e]; rfl
    · rw [xI_k (by decide), xI_k (by decide)]
      rw [xcp_in (by omega) (by omega), Nat.zero_add, Nat.sub_zero]
theorem s_Re_raiseOrder (K : xk_ok u KK) {n o : Nat} {r : Nat → Int32} (hn : n ≤ 1024) (ho : o < n) (R : RS h n o r) (hX : ∀ h', fr [88, 89] h h' → RS h' n (o + 1) (fun i => r i - r (i - 1)) → X (.inl none) h' 0 0) : xm_M l (y0 u) KK m_Re_raiseOrder [.ref 88] h X := by
  refine xm_of [none] (by simp) (Nat.le_of_ble_eq_true rfl) (by decide) (fun x at0 => ?_)
  have A := xa_of at0 K
  have ow := at0.2.2.2.2.1
  refine ra_aload_n A d_Re_raiseOrder_0 rfl <| ra_dup A d_Re_raiseOrder_1 rfl <| ra_getI A f_Re_33 d_Re_raiseOrder_2 (Nat.le_of_ble_eq_true rfl) rfl rfl <| ?_
  rw [R.2.1]
  refine ra_iconst A 1 d_Re_raiseOrder_5 (by decide) <| ra_iadd A d_Re_raiseOrder_6 <| ?_
  rw [nI_1]
  refine ra_putI (ty := .int) A f_Re_33 rfl rfl (by decide +kernel) rfl rfl d_Re_raiseOrder_7 (Nat.le_of_ble_eq_true rfl) rfl rfl <| ra_aload_n A d_Re_raiseOrder_10 rfl <| ra_getI A f_Re_29 d_Re_raiseOrder_11 (Nat.le_of_ble_eq_true rfl) rfl rfl <| ?_
  rw [xI_j (by decide), R.1]
  refine ra_iconst A 1 d_Re_raiseOrder_14 (by decide) <| ra_isub A d_Re_raiseOrder_15 <| ?_
  rw [show nI n - 1 = nI (n - 1) from pk_sub (b := 1) (by omega)]
  refine ra_istore_n (L' := [_, _]) A d_Re_raiseOrder_16 (by decide) rfl <| ?_
  rw [show n - 1 = o + (n - 1 - o) by omega]
  refine lp_dn (σ := xw_H) (W := fun j g => xg x (y0 u) 0 0 17 [some (.ref 88), some (.int (nI (o + j)))] [] g) (I := fun j g => o + j < n ∧ fr [88, 89] h g ∧ g.1 88 3 = nI n ∧ g.1 88 4 = nI (o + 1) ∧ ∀ i, o ≤ i → i < n → g.1 89 i = if o + j < i then r i - r (i - 1) else r i) ?_ ?_ (n - 1 - o) _ ⟨by omega, fr_I (by decide), ?_, ?_, ?_⟩
  · rintro g ⟨-, hf, e3, e4, e⟩
    refine ra_iload_n A d_Re_raiseOrder_17 rfl <| ra_aload_n A d_Re_raiseOrder_18 rfl <| ra_getI A f_Re_33 d_Re_raiseOrder_19 (Nat.le_of_ble_eq_true rfl) rfl rfl <| ?_
    rw [e4]
    refine ra_icmp_lt (q := 48) A d_Re_raiseOrder_22 (by decide) (fun _ => ?_) (fun cc => absurd ((nI_ltI (by omega) (by omega)).mpr (by omega)) cc)
    exact ra_vret A ow d_Re_raiseOrder_48 (hX g hf ⟨e3, e4, fun i h1 h2 => by rw [e i (by omega) h2, if_pos (by omega)]⟩)
  · rintro j g ⟨hj, hf, e3, e4, e⟩ ih
    refine ra_iload_n A d_Re_raiseOrder_17 rfl <| ra_aload_n A d_Re_raiseOrder_18 rfl <| ra_getI A f_Re_33 d_Re_raiseOrder_19 (Nat.le_of_ble_eq_true rfl) rfl rfl <| ?_
    rw [e4]
    refine ra_icmp_lt (q := 48) A d_Re_raiseOrder_22 (by decide) (fun cc => absurd cc (fun q => absurd ((nI_ltI (by omega) (by omega)).mp q) (by omega))) (fun _ => ?_)
    refine ra_aload_n A d_Re_raiseOrder_25 rfl <| ra_getR A f_Re_9 d_Re_raiseOrder_26 (Nat.le_of_ble_eq_true rfl) rfl rfl rfl <| ra_iload_n A d_Re_raiseOrder_29 rfl <| ra_dup2 A d_Re_raiseOrder_30 rfl rfl <| ?_
    refine ra_iaload A d_Re_raiseOrder_31 (Nat.le_of_ble_eq_true rfl) rfl (vp_in_nI (by omega) (by decide)) ?_
    rw [nI_clamp (by omega), e _ (by omega) hj, if_neg (by omega)]
    refine ra_aload_n A d_Re_raiseOrder_32 rfl <| ra_getR A f_Re_9 d_Re_raiseOrder_33 (Nat.le_of_ble_eq_true rfl) rfl rfl rfl <| ra_iload_n A d_Re_raiseOrder_36 rfl <| ra_iconst A 1 d_Re_raiseOrder_37 (by decide) <| ra_isub A d_Re_raiseOrder_38 <| ?_
    rw [show nI (o + (j + 1)) - 1 = nI (o + j) from pk_sub (a := o + (j + 1)) (b := 1) (by omega)]
    refine ra_iaload A d_Re_raiseOrder_39 (Nat.le_of_ble_eq_true rfl) rfl (vp_in_nI (by omega) (by decide)) ?_
    rw [nI_clamp (by omega), e _ (by omega) (by omega), if_neg (by omega)]
    refine ra_isub A d_Re_raiseOrder_40 <| ?_
    refine ra_iastore A d_Re_raiseOrder_41 (Nat.le_of_ble_eq_true rfl) rfl (vp_in_nI (by omega) (by decide)) ?_
    rw [nI_clamp (by omega)]
    refine ra_iinc (L' := [_, _]) A (-1) d_Re_raiseOrder_42 rfl (by decide) (by decide) rfl <| ra_goto (q := 17) A d_Re_raiseOrder_45 (by decide) <| ?_
    rw [show nI (o + (j + 1)) + -1 = nI (o + j) from pk_m1 (o + j)]
    refine ih _ ⟨by omega, hf.I (by decide), ?_, ?_, fun i h1 h2 => ?_⟩
    · rw [xI_k (by decide)]; exact e3
    · rw [xI_k (by decide)]; exact e4
    · by_cases c : i = o + (j + 1)
      · subst c
        rw [xI_e, if_pos (by omega), show o + (j + 1) - 1 = o + j by omega]
      · rw [xI_j c, e i h1 h2]
        by_cases c2 : o + (j + 1) < i
        · rw [if_pos c2, if_pos (by omega)]
        · rw [if_neg c2, if_neg (by omega)]
  · rw [xI_j (by decide)]; exact R.1
  · exact xI_e
  · intro i h1 h2
    rw [xI_k (by decide), if_neg (by omega)]
    exact R.2.2 i h1 h2
theorem s_Re_fold (K : xk_ok u KK) {r : Int32} (hr : -2 ^ 29 ≤ r.toInt ∧ r.toInt ≤ 2 ^ 29) (hX : X (.inl (some (.int (nI (fdN r))))) h 0 0) : xm_M l (y0 u) KK m_Re_fold [.int r] h X := by
  refine xm_of [] (by simp) (Nat.le_of_ble_eq_true rfl) (by decide) (fun x at0 => ?_)
  have A := xa_of at0 K
  have ow := at0.2.2.2.2.1
  refine ra_iload_n A d_Re_fold_0 rfl <| ra_iconst A 1 d_Re_fold_1 (by decide) <| ra_ishl A d_Re_fold_2 <| ra_iload_n A d_Re_fold_3 rfl <| ra_bipush A 31 d_Re_fold_4 (by decide) <| ra_ishr A d_Re_fold_6 <| ra_ixor A d_Re_fold_7 <| ?_
  rw [fold_c hr]
  exact ra_iret A ow d_Re_fold_8 hX
def ar (h : xw_H) (p v : Nat) : xw_H := xw_s2 (xw_I h 123 p (h.1 123 p ||| nI v)) (91 + p) (fun t => if t < 15 then h.2 (91 + p) t + lN (v / 2 ^ t) else h.2 (91 + p) t)
theorem s_Re_addRest (K : xk_ok u KK) {p v : Nat} (hp : p < 32) (hv : v < 2 ^ 31) (hX : X (.inl none) (ar h p v) 0 0) : xm_M l (y0 u) KK m_Re_addRest [.ref 88, .int (nI p), .int (nI v)] h X := by
  refine xm_of [none] (by simp) (Nat.le_of_ble_eq_true rfl) (by decide) (fun x at0 => ?_)
  have A := xa_of at0 K
  have ow := at0.2.2.2.2.1
  have rp := rf_90 p hp
  refine ra_aload_n A d_Re_addRest_0 rfl <| ra_getR A f_Re_20 d_Re_addRest_1 (Nat.le_of_ble_eq_true rfl) rfl rfl rfl <| ra_iload_n A d_Re_addRest_4 rfl <| ra_dup2 A d_Re_addRest_5 rfl rfl <| ?_
  refine ra_iaload A d_Re_addRest_6 (Nat.le_of_ble_eq_true rfl) rfl (vp_in_nI hp (by decide)) ?_
  rw [nI_clamp (by omega)]
  refine ra_iload_n A d_Re_addRest_7 rfl <| ra_ior A d_Re_addRest_8 <| ?_
  refine ra_iastore A d_Re_addRest_9 (Nat.le_of_ble_eq_true rfl) rfl (vp_in_nI hp (by decide)) ?_
  rw [nI_clamp (by omega)]
  refine ra_iconst A 0 d_Re_addRest_10 (by decide) <| ra_istore_n (L' := [_, _, _, _]) A d_Re_addRest_11 (by decide) rfl <| ?_
  have fin : ∀ t, (t = 15 ∨ v / 2 ^ t = 0) → X (.inl none) (xw_s2 (xw_I h 123 p (h.1 123 p ||| nI v)) (91 + p) (fun t' => if t' < t ∧ t' < 15 then h.2 (91 + p) t' + lN (v / 2 ^ t') else h.2 (91 + p) t')) 0 0 := by
    intro t ht
    have e : (fun t' => if t' < t ∧ t' < 15 then h.2 (91 + p) t' + lN (v / 2 ^ t') else h.2 (91 + p) t') = (fun t' => if t' < 15 then h.2 (91 + p) t' + lN (v / 2 ^ t') else h.2 (91 + p) t') := by
      funext t'
      by_cases c1 : t' < 15
      · by_cases c2 : t' < t
        · rw [if_pos ⟨c2, c1⟩, if_pos c1]
        · rw [if_neg (fun q => c2 q.1), if_pos c1]
          rcases ht with rfl | ht
          · omega
          · have : v / 2 ^ t' = 0 := by
              have h1 : 2 ^ t ≤ 2 ^ t' := Nat.pow_le_pow_right (by decide) (by omega)
              have h2 : v / 2 ^ t' ≤ v / 2 ^ t := Nat.div_le_div_left h1 (Nat.pow_pos (by decide))
              rw [ht] at h2
              exact Nat.le_zero.mp h2
            rw [this]
            show _ = _ + (0 : Int64)
            simp
      · rw [if_neg (fun q => c1 q.2), if_neg c1]
    rw [e]
    exact hX
  refine lp_up (σ := xw_H) (W := fun t g => xg x (y0 u) 0 0 12 [some (.ref 88), some (.int (nI p)), some (.int (nI v)), some (.int (nI t))] [] g) (I := fun t g => g = xw_s2 (xw_I h 123 p (h.1 123 p ||| nI v)) (91 + p) (fun t' => if t' < t ∧ t' < 15 then h.2 (91 + p) t' + lN (v / 2 ^ t') else h.2 (91 + p) t')) 15 ?_ ?_ 0 _ (by omega) ?_
  · rintro g rfl
    refine ra_iload_n A d_Re_addRest_12 rfl <| ra_bipush A 15 d_Re_addRest_13 (by decide) <| ?_
    refine ra_icmp_ge (q := 45) A d_Re_addRest_15 (by decide) (fun _ => ?_) (fun cc => absurd (Int32.le_refl _) cc)
    exact ra_vret A ow d_Re_addRest_45 (fin 15 (Or.inl rfl))
  · rintro t g ht rfl ih
    refine ra_iload_n A d_Re_addRest_12 rfl <| ra_bipush A 15 d_Re_addRest_13 (by decide) <| ?_
    refine ra_icmp_ge (q := 45) A d_Re_addRest_15 (by decide) (fun cc => absurd cc (nI_ge (b := 15) ht (by decide))) (fun _ => ?_)
    refine ra_iload_n A d_Re_addRest_18 rfl <| ra_iload_n A d_Re_addRest_19 rfl <| ra_ishr A d_Re_addRest_20 <| ?_
    rw [shrN hv (by omega)]
    by_cases c : v / 2 ^ t = 0
    · refine ra_if_le (q := 45) A d_Re_addRest_21 (by decide) (fun _ => ?_) (fun cc => absurd ((by rw [c]; decide)) cc)
      exact ra_vret A ow d_Re_addRest_45 (fin t (Or.inr c))
    · have hd : v / 2 ^ t < 2 ^ 31 := Nat.lt_of_le_of_lt (Nat.div_le_self _ _) hv
      refine ra_if_le (q := 45) A d_Re_addRest_21 (by decide) (fun cc => absurd cc (nI_nle (Nat.pos_of_ne_zero c) hd)) (fun _ => ?_)
      refine ra_aload_n A d_Re_addRest_24 rfl <| ra_getR A f_Re_17 d_Re_addRest_25 (Nat.le_of_ble_eq_true rfl) rfl rfl rfl <| ra_iload_n A d_Re_addRest_28 rfl <| ?_
      refine ra_aaload A d_Re_addRest_29 (Nat.le_of_ble_eq_true rfl) rfl rfl (vp_in_nI hp (by decide)) (by rw [nI_clamp (by omega)]; exact rp.1) ?_
      refine ra_iload_n A d_Re_addRest_30 rfl <| ra_dup2 A d_Re_addRest_31 rfl rfl <| ?_
      refine ra_laload A d_Re_addRest_32 (show 91 + p < 157 by omega) rp.2 (vp_in_nI ht (by decide)) ?_
      rw [nI_clamp (by omega), xs2_e, if_neg (by omega)]
      refine ra_iload_n A d_Re_addRest_33 rfl <| ra_iload_n A d_Re_addRest_34 rfl <| ra_ishr A d_Re_addRest_35 <| ra_i2l A d_Re_addRest_36 <| ?_
      rw [shrN hv (by omega), nI_l hd]
      refine ra_ladd A d_Re_addRest_37 <| ?_
      refine ra_lastore A d_Re_addRest_38 (show 91 + p < 157 by omega) rp.2 (vp_in_nI ht (by decide)) ?_
      rw [nI_clamp (by omega)]
      refine ra_iinc (L' := [_, _, _, _]) A 1 d_Re_addRest_39 rfl (by decide) (by decide) rfl <| ra_goto (q := 12) A d_Re_addRest_42 (by decide) <| ?_
      rw [nI_1]
      refine ih _ (xs2_J (fun q => ?_))
      by_cases e : q = t
      · subst e; rw [if_pos rfl, if_pos (by omega)]
      · rw [if_neg e]
        by_cases e2 : q < t ∧ q < 15
        · rw [if_pos e2, if_pos (by omega)]
        · rw [if_neg e2, if_neg (by omega)]
  · exact (xs2_id (fun j => if_neg (by omega))).symm
theorem s_Re_finestParts (K : xk_ok u KK) {n o : Nat} {r : Nat → Int32} (hn : n ≤ 1024) (ho : o < n) (R : RS h n o r) (hX : ∀ F, F ≤ 5 → pfit o n F → (∀ q, F < q → q ≤ 5 → ¬ pfit o n q) → X (.inl (some (.int (nI F)))) h 0 0) : xm_M l (y0 u) KK m_Re_finestParts [.ref 88] h X := by
  refine xm_of [none] (by simp) (Nat.le_of_ble_eq_true rfl) (by decide) (fun x at0 => ?_)
  have A := xa_of at0 K
  have ow := at0.2.2.2.2.1
  have two : ∀ q, q < 5 → (2 : Int32) <<< (nI q &&& 31) = nI (2 ^ (q + 1)) ∧ 2 ^ (q + 1) ≤ 32 ∧ 1 ≤ 2 ^ (q + 1) ∧ (nI (2 ^ (q + 1) - 1)).toBitVec.toNat = 2 ^ (q + 1) - 1 := by decide
  refine ra_iconst A 0 d_Re_finestParts_0 (by decide) <| ra_istore_n (L' := [_, _]) A d_Re_finestParts_1 (by decide) rfl <| ?_
  refine lp_up (σ := Unit) (W := fun q _ => xg x (y0 u) 0 0 2 [some (.ref 88), some (.int (nI q))] [] h) (I := fun q _ => pfit o n q) 5 ?_ ?_ 0 () (by omega) ⟨Nat.mod_one n, by rw [Nat.pow_zero, Nat.div_one]; exact ho⟩
  · rintro - hq
    refine ra_iload_n A d_Re_finestParts_2 rfl <| ra_iconst A 5 d_Re_finestParts_3 (by decide) <| ?_
    refine ra_icmp_ge (q := 41) A d_Re_finestParts_4 (by decide) (fun _ => ?_) (fun cc => absurd (Int32.le_refl _) cc)
    refine ra_iload_n A d_Re_finestParts_41 rfl <| ?_
    exact ra_iret A ow d_Re_finestParts_42 (hX 5 (by omega) hq (fun q h1 h2 => by omega))
  · rintro q - hq5 hq ih
    have T := two q hq5
    refine ra_iload_n A d_Re_finestParts_2 rfl <| ra_iconst A 5 d_Re_finestParts_3 (by decide) <| ?_
    refine ra_icmp_ge (q := 41) A d_Re_finestParts_4 (by decide) (fun cc => absurd cc (nI_ge (b := 5) hq5 (by decide))) (fun _ => ?_)
    refine ra_aload_n A d_Re_finestParts_7 rfl <| ra_getI A f_Re_29 d_Re_finestParts_8 (Nat.le_of_ble_eq_true rfl) rfl rfl <| ?_
    rw [R.1]
    refine ra_iconst A 2 d_Re_finestParts_11 (by decide) <| ra_iload_n A d_Re_finestParts_12 rfl <| ra_ishl A d_Re_finestParts_13 <| ra_iconst A 1 d_Re_finestParts_14 (by decide) <| ra_isub A d_Re_finestParts_15 <| ?_
    rw [T.1, show nI (2 ^ (q + 1)) - 1 = nI (2 ^ (q + 1) - 1) from pk_sub (b := 1) T.2.2.1]
    refine ra_iand A d_Re_finestParts_16 <| ?_
    rw [pk_andN (k := q + 1) (by omega) T.2.2.2]
    have no : ¬ pfit o n (q + 1) → xg x (y0 u) 0 0 41 [some (.ref 88), some (.int (nI q))] [] h := by
      intro hno
      refine ra_iload_n A d_Re_finestParts_41 rfl <| ?_
      exact ra_iret A ow d_Re_finestParts_42 (hX q (by omega) hq (fun q' h1 h2 hp => hno (pfit_le hp (by omega))))
    have hm : n % 2 ^ (q + 1) < 2 ^ 31 := Nat.lt_of_le_of_lt (Nat.mod_le _ _) (by omega)
    by_cases c : n % 2 ^ (q + 1) = 0
    · refine ra_if_ne (q := 41) A d_Re_finestParts_17 (by decide) (fun cc => absurd ((by rw [c]; rfl)) cc) (fun _ => ?_)
      refine ra_aload_n A d_Re_finestParts_20 rfl <| ra_getI A f_Re_29 d_Re_finestParts_21 (Nat.le_of_ble_eq_true rfl) rfl rfl <| ra_iload_n A d_Re_finestParts_24 rfl <| ra_iconst A 1 d_Re_finestParts_25 (by decide) <| ra_iadd A d_Re_finestParts_26 <| ?_
      rw [R.1, nI_1]
      refine ra_ishr A d_Re_finestParts_27 <| ra_aload_n A d_Re_finestParts_28 rfl <| ra_getI A f_Re_33 d_Re_finestParts_29 (Nat.le_of_ble_eq_true rfl) rfl rfl <| ?_
      rw [shrN (by omega) (by omega), R.2.1]
      have hd : n / 2 ^ (q + 1) < 2 ^ 31 := Nat.lt_of_le_of_lt (Nat.div_le_self _ _) (by omega)
      by_cases c2 : o < n / 2 ^ (q + 1)
      · refine ra_icmp_le (q := 41) A d_Re_finestParts_32 (by decide) (fun cc => absurd cc (nI_ge c2 hd)) (fun _ => ?_)
        refine ra_iinc (L' := [_, _]) A 1 d_Re_finestParts_35 rfl (by decide) (by decide) rfl <| ra_goto (q := 2) A d_Re_finestParts_38 (by decide) <| ?_
        rw [nI_1]
        exact ih () ⟨c, c2⟩
      · refine ra_icmp_le (q := 41) A d_Re_finestParts_32 (by decide) (fun _ => ?_) (fun cc => absurd (nI_le (by omega) (by omega)) cc)
        exact no (fun z => c2 z.2)
    · refine ra_if_ne (q := 41) A d_Re_finestParts_17 (by decide) (fun _ => ?_) (fun cc => absurd cc (nI_ne0 (by omega) hm))
      exact no (fun z => c z.1)
end S67
