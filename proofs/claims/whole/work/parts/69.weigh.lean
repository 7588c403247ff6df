/-! SoundStream$Rests: bitsOfAll, joinPairs, weigh -/
theorem zs_le2 {f : Nat → Nat} {t a b : Nat} : ∀ m, (∀ i, a ≤ i → i < a + m → f i < 2 ^ b) → zs f t a m ≤ m * 2 ^ b
  | 0, _ => by simp [zs]
  | m + 1, h => by
    have := zs_le2 (t := t) m (fun i h1 h2 => h i h1 (by omega))
    have h1 := h (a + m) (by omega) (by omega)
    have h2 := Nat.div_le_self (f (a + m)) (2 ^ t)
    rw [zs, Nat.add_mul]
    omega
theorem us_lt2 {f : Nat → Nat} {a b : Nat} : ∀ m, (∀ i, a ≤ i → i < a + m → f i < 2 ^ b) → us f a m < 2 ^ b
  | 0, _ => by rw [us]; exact Nat.pow_pos (by decide)
  | m + 1, h => Nat.or_lt_two_pow (us_lt2 m (fun i h1 h2 => h i h1 (by omega))) (h _ (by omega) (by omega))
theorem rsum_le {f : Nat → Nat} {o e P : Nat} (hoe : o ≤ e) (he : e ≤ 1024) (h : ∀ i, o ≤ i → i < P * e → f i < 2 ^ 30) : ∀ p, p ≤ P → rsum f o e p ≤ 6 + p * 40000
  | 0, _ => by simp [rsum]
  | p + 1, hp => by
    have ih := rsum_le hoe he h p (by omega)
    have h1 := pmin_le f (pA o e p) (pM o e p)
    have hAM := pAM (p := p) hoe
    have h2 : us f (pA o e p) (pM o e p) < 2 ^ 30 := us_lt2 _ (fun i h3 h4 => h i (by
      unfold pA at h3
      split at h3
      · omega
      · have : 1 * e ≤ p * e := Nat.mul_le_mul_right e (by omega)
        omega) (by
      have : (p + 1) * e ≤ P * e := Nat.mul_le_mul_right e hp
      omega))
    have h5 : pM o e p ≤ 1024 := by unfold pM; split <;> omega
    have h6 : bln (us f (pA o e p) (pM o e p)) * pM o e p ≤ 30 * 1024 := Nat.mul_le_mul (bln_le h2) h5
    rw [rsum, Nat.add_mul]
    omega
/-- the parts of a fitting q are there -/
def RQ (h : xw_H) (n o q : Nat) (f : Nat → Nat) : Prop := n ≤ 1024 ∧ q ≤ 5 ∧ pfit o n q ∧ h.1 88 3 = nI n ∧ h.1 88 4 = nI o ∧ (∀ i, o ≤ i → i < n → f i < 2 ^ 30) ∧ ZC h f o (n / 2 ^ q) (2 ^ q)
theorem RQ.hn {h : xw_H} {n o q : Nat} {f : Nat → Nat} (R : RQ h n o q f) : n ≤ 1024 := R.1
theorem RQ.hq {h : xw_H} {n o q : Nat} {f : Nat → Nat} (R : RQ h n o q f) : q ≤ 5 := R.2.1
theorem RQ.fit {h : xw_H} {n o q : Nat} {f : Nat → Nat} (R : RQ h n o q f) : pfit o n q := R.2.2.1
theorem RQ.size {h : xw_H} {n o q : Nat} {f : Nat → Nat} (R : RQ h n o q f) : h.1 88 3 = nI n := R.2.2.2.1
theorem RQ.order {h : xw_H} {n o q : Nat} {f : Nat → Nat} (R : RQ h n o q f) : h.1 88 4 = nI o := R.2.2.2.2.1
theorem RQ.hf {h : xw_H} {n o q : Nat} {f : Nat → Nat} (R : RQ h n o q f) : ∀ i, o ≤ i → i < n → f i < 2 ^ 30 := R.2.2.2.2.2.1
theorem RQ.zc {h : xw_H} {n o q : Nat} {f : Nat → Nat} (R : RQ h n o q f) : ZC h f o (n / 2 ^ q) (2 ^ q) := R.2.2.2.2.2.2
theorem RQ.f1 {h h' : xw_H} {n o q : Nat} {f : Nat → Nat} {F : List Nat} (R : RQ h n o q f) (x : f1 88 F h h') (h3 : 3 ∉ F) (h4 : 4 ∉ F) : RQ h' n o q f :=
  ⟨R.hn, R.hq, R.fit, by rw [x.2.1 3 h3]; exact R.size, by rw [x.2.1 4 h4]; exact R.order, R.hf, R.zc.congr (fun p _ => ⟨by rw [x.2.2], by rw [x.1 123 (by decide)]⟩)⟩
theorem RQ.Pe {h : xw_H} {n o q : Nat} {f : Nat → Nat} (R : RQ h n o q f) : 2 ^ q * (n / 2 ^ q) = n := by
  have := Nat.div_add_mod n (2 ^ q)
  rw [R.fit.1] at this
  exact this
theorem rcost_le {o n q : Nat} {f : Nat → Nat} (hn : n ≤ 1024) (hq : q ≤ 5) (fit : pfit o n q) (hf : ∀ i, o ≤ i → i < n → f i < 2 ^ 30) : rcost f o n q < 2 ^ 21 := by
  have hP : 2 ^ q ≤ 32 := Nat.pow_le_pow_right (n := 2) (by decide) hq
  have hPe := Nat.mul_div_le n (2 ^ q)
  have := rsum_le (f := f) (P := 2 ^ q) (Nat.le_of_lt fit.2) (Nat.le_trans (Nat.div_le_self _ _) hn) (fun i h1 h2 => hf i h1 (by omega)) (2 ^ q) (Nat.le_refl _)
  have h9 : 2 ^ q * 40000 ≤ 32 * 40000 := Nat.mul_le_mul_right _ hP
  unfold rcost
  omega
section S69
variable {u : xu_T} {l : Launch} {KK : State → Prop} {h : xw_H} {X : xc_R → xw_H → Nat → Nat → Prop}
/-- a part's bits -/
theorem s_Re_part (K : xk_ok u KK) {n o q p : Nat} {f : Nat → Nat} (R : RQ h n o q f) (hp : p < 2 ^ q) (hX : ∀ h', f1 88 [5, 6] h h' → h'.1 88 5 = nI (pk f (pA o (n / 2 ^ q) p) (pM o (n / 2 ^ q) p)) → h'.1 88 6 = nI (bln (us f (pA o (n / 2 ^ q) p) (pM o (n / 2 ^ q) p))) → X (.inl (some (.long (lN (pmin f (pA o (n / 2 ^ q) p) (pM o (n / 2 ^ q) p)))))) h' 0 0) : xm_M l (y0 u) KK m_Re_bitsOf [.ref 88, .int (nI p), .int (nI (pM o (n / 2 ^ q) p))] h X := by
  have hP : 2 ^ q ≤ 32 := Nat.pow_le_pow_right (n := 2) (by decide) R.hq
  have hPe := R.Pe
  have hoe := R.fit.2
  have hn := R.hn
  have hf := R.hf
  obtain ⟨z1, z2⟩ := R.zc p hp
  generalize he : n / 2 ^ q = e at *
  have hen : e ≤ n := by rw [← he]; exact Nat.div_le_self _ _
  have hAM := pAM (p := p) (Nat.le_of_lt hoe)
  have hle : (p + 1) * e ≤ 2 ^ q * e := Nat.mul_le_mul_right e hp
  have hM : pM o e p ≤ 1024 := by unfold pM; split <;> omega
  have hin : ∀ i, pA o e p ≤ i → i < pA o e p + pM o e p → f i < 2 ^ 30 := fun i h3 h4 => hf i (by
      unfold pA at h3
      split at h3
      · omega
      · have : 1 * e ≤ p * e := Nat.mul_le_mul_right e (by omega)
        omega) (by omega)
  refine s_Re_bitsOf K (z := fun t => zs f t (pA o e p) (pM o e p)) (by omega) hM (Nat.lt_of_lt_of_le (us_lt2 _ hin) (by decide)) (fun t ht => ⟨z1 t ht, ?_⟩) z2 hX
  have h1 := zs_le2 (t := t) _ hin
  have h2 : pM o e p * 2 ^ 30 ≤ 1024 * 2 ^ 30 := Nat.mul_le_mul_right _ hM
  show zs f t (pA o e p) (pM o e p) ≤ _
  omega
theorem s_Re_bitsOfAll (K : xk_ok u KK) {n o q : Nat} {f : Nat → Nat} (R : RQ h n o q f) (hX : ∀ h', f1 88 [5, 6] h h' → X (.inl (some (.long (lN (rcost f o n q))))) h' 0 0) : xm_M l (y0 u) KK m_Re_bitsOfAll [.ref 88, .int (nI q)] h X := by
  refine xm_of [none, none, none, none] (by simp) (Nat.le_of_ble_eq_true rfl) (by decide) (fun x at0 => ?_)
  have A := xa_of at0 K
  have ow := at0.2.2.2.2.1
  have hq := R.hq
  have hn := R.hn
  have hP : 2 ^ q ≤ 32 := Nat.pow_le_pow_right (n := 2) (by decide) R.hq
  refine ra_aload_n A d_Re_bitsOfAll_0 rfl <| ra_getI A f_Re_29 d_Re_bitsOfAll_1 (Nat.le_of_ble_eq_true rfl) rfl rfl <| ?_
  rw [R.size]
  refine ra_iload_n A d_Re_bitsOfAll_4 rfl <| ra_ishr A d_Re_bitsOfAll_5 <| ?_
  rw [shrN (by omega) (by omega)]
  refine ra_istore_n (L' := [_, _, _, _, _, _]) A d_Re_bitsOfAll_6 (by decide) rfl <| ra_ldc2 A k_Re_86 d_Re_bitsOfAll_7 <| ra_lstore_n (L' := [_, _, _, _, _, _]) A d_Re_bitsOfAll_10 (by decide) rfl <| ra_iconst A 0 d_Re_bitsOfAll_11 (by decide) <| ra_istore (L' := [_, _, _, _, _, _]) A d_Re_bitsOfAll_12 (by decide) rfl <| ?_
  refine lp_up (σ := xw_H) (W := fun p g => xg x (y0 u) 0 0 14 [some (.ref 88), some (.int (nI q)), some (.int (nI (n / 2 ^ q))), some (.long (lN (rsum f o (n / 2 ^ q) p))), none, some (.int (nI p))] [] g) (I := fun p g => f1 88 [5, 6] h g) (2 ^ q) ?_ ?_ 0 h (Nat.zero_le _) f1.rfl
  · rintro g hf
    refine ra_iload A d_Re_bitsOfAll_14 rfl <| ra_iconst A 1 d_Re_bitsOfAll_16 (by decide) <| ra_iload_n A d_Re_bitsOfAll_17 rfl <| ra_ishl A d_Re_bitsOfAll_18 <| ?_
    rw [shl1 (by omega)]
    refine ra_icmp_ge (q := 52) A d_Re_bitsOfAll_19 (by decide) (fun _ => ?_) (fun cc => absurd (Int32.le_refl _) cc)
    refine ra_lload_n A d_Re_bitsOfAll_52 rfl <| ?_
    exact ra_lret A ow d_Re_bitsOfAll_53 (hX g hf)
  · rintro p g hp hf ih
    have Rg := R.f1 hf (by decide) (by decide)
    refine ra_iload A d_Re_bitsOfAll_14 rfl <| ra_iconst A 1 d_Re_bitsOfAll_16 (by decide) <| ra_iload_n A d_Re_bitsOfAll_17 rfl <| ra_ishl A d_Re_bitsOfAll_18 <| ?_
    rw [shl1 (by omega)]
    refine ra_icmp_ge (q := 52) A d_Re_bitsOfAll_19 (by decide) (fun cc => absurd cc (nI_ge hp (by omega))) (fun _ => ?_)
    refine ra_lload_n A d_Re_bitsOfAll_22 rfl <| ra_aload_n A d_Re_bitsOfAll_23 rfl <| ra_iload A d_Re_bitsOfAll_24 rfl <| ra_iload A d_Re_bitsOfAll_26 rfl <| ?_
    have go : xg x (y0 u) 0 0 41 [some (.ref 88), some (.int (nI q)), some (.int (nI (n / 2 ^ q))), some (.long (lN (rsum f o (n / 2 ^ q) p))), none, some (.int (nI p))] [.int (nI (pM o (n / 2 ^ q) p)), .int (nI p), .ref 88, .long (lN (rsum f o (n / 2 ^ q) p))] g := by
      refine ra_callV (As := [_, _]) A ok_Re_bitsOf l_Re_64 im_Re_bitsOf sl_Re_bitsOf d_Re_bitsOfAll_41 (Nat.le_of_ble_eq_true rfl) rfl rfl rfl (Nat.le_of_ble_eq_true rfl) (xr_of at0 (by decide)) (s_Re_part K Rg hp (fun g2 f2 _ _ => ?_))
      show xg x (y0 u) 0 0 44 _ _ g2
      refine ra_ladd A d_Re_bitsOfAll_44 <| ra_lstore_n (L' := [_, _, _, _, _, _]) A d_Re_bitsOfAll_45 (by decide) rfl <| ra_iinc (L' := [_, _, _, _, _, _]) A 1 d_Re_bitsOfAll_46 rfl (by decide) (by decide) rfl <| ra_goto (q := 14) A d_Re_bitsOfAll_49 (by decide) <| ?_
      rw [lN_add, nI_1]
      exact ih g2 (hf.trans f2)
    by_cases c : p = 0
    · refine ra_if_ne (q := 40) A d_Re_bitsOfAll_28 (by decide) (fun cc => absurd ((by rw [c]; rfl)) cc) (fun _ => ?_)
      refine ra_iload_n A d_Re_bitsOfAll_31 rfl <| ra_aload_n A d_Re_bitsOfAll_32 rfl <| ra_getI A f_Re_33 d_Re_bitsOfAll_33 (Nat.le_of_ble_eq_true rfl) rfl rfl <| ?_
      rw [Rg.order]
      refine ra_isub A d_Re_bitsOfAll_36 <| ra_goto (q := 41) A d_Re_bitsOfAll_37 (by decide) <| ?_
      rw [pk_sub (Nat.le_of_lt R.fit.2)]
      rw [show pM o (n / 2 ^ q) p = n / 2 ^ q - o by unfold pM; rw [if_pos c]] at go
      exact go
    · refine ra_if_ne (q := 40) A d_Re_bitsOfAll_28 (by decide) (fun _ => ?_) (fun cc => absurd cc (nI_ne0 (by omega) (by omega)))
      refine ra_iload_n A d_Re_bitsOfAll_40 rfl <| ?_
      rw [show pM o (n / 2 ^ q) p = n / 2 ^ q by unfold pM; rw [if_neg c]] at go
      exact go
theorem s_Re_joinPairs (K : xk_ok u KK) {n o q : Nat} {f : Nat → Nat} (R : RQ h n o q f) (hX : ∀ h', fr ZL h h' → (∀ q', q = q' + 1 → RQ h' n o q' f) → X (.inl none) h' 0 0) : xm_M l (y0 u) KK m_Re_joinPairs [.ref 88, .int (nI q)] h X := by
  refine xm_of [none, none] (by simp) (Nat.le_of_ble_eq_true rfl) (by decide) (fun x at0 => ?_)
  have A := xa_of at0 K
  have ow := at0.2.2.2.2.1
  have hq := R.hq
  have hn := R.hn
  have hP : 2 ^ q ≤ 32 := Nat.pow_le_pow_right (n := 2) (by decide) R.hq
  have hoe := R.fit.2
  have hPe := R.Pe
  have zc := R.zc
  generalize he : n / 2 ^ q = e at *
  generalize hPq : 2 ^ q = P at *
  have sh : (1 : Int32) <<< (nI q &&& 31) >>> ((1 : Int32) &&& 31) = nI (P / 2) := by
    rw [shl1 (by omega), hPq]
    exact pk_shrN (k := 1) (by omega) _ (by decide)
  refine ra_iconst A 0 d_Re_joinPairs_0 (by decide) <| ra_istore_n (L' := [_, _, _, _]) A d_Re_joinPairs_1 (by decide) rfl <| ?_
  refine lp_up (σ := xw_H × Option Value) (W := fun p s => xg x (y0 u) 0 0 2 [some (.ref 88), some (.int (nI q)), some (.int (nI p)), s.2] [] s.1) (I := fun p s => fr ZL h s.1 ∧ ZC s.1 f o (2 * e) p ∧ ∀ p', 2 * p ≤ p' → p' < P → s.1.2 (91 + p') = h.2 (91 + p') ∧ s.1.1 123 p' = h.1 123 p') (P / 2) ?_ ?_ 0 (h, none) (by omega) ⟨fr.rfl, fun p hp => by omega, fun p' _ _ => ⟨rfl, rfl⟩⟩
  · rintro ⟨g, w⟩ ⟨hf, hz, -⟩
    dsimp only at hf hz ⊢
    refine ra_iload_n A d_Re_joinPairs_2 rfl <| ra_iconst A 1 d_Re_joinPairs_3 (by decide) <| ra_iload_n A d_Re_joinPairs_4 rfl <| ra_ishl A d_Re_joinPairs_5 <| ra_iconst A 1 d_Re_joinPairs_6 (by decide) <| ra_ishr A d_Re_joinPairs_7 <| ?_
    rw [sh]
    refine ra_icmp_ge (q := 87) A d_Re_joinPairs_8 (by decide) (fun _ => ?_) (fun cc => absurd (Int32.le_refl _) cc)
    refine ra_vret A ow d_Re_joinPairs_87 (hX g hf (fun q' e' => ?_))
    subst e'
    have e2 : n / 2 ^ q' = 2 * e := by
      have h1 : 2 ^ (q' + 1) * e = 2 ^ q' * (2 * e) := by rw [Nat.pow_succ, Nat.mul_assoc]
      rw [← hPq, h1] at hPe
      rw [← hPe, Nat.mul_div_cancel_left _ (Nat.pow_pos (by decide))]
    have e3 : P / 2 = 2 ^ q' := by rw [← hPq, Nat.pow_succ]; omega
    refine ⟨hn, by omega, pfit_dn R.fit, ?_, ?_, R.hf, ?_⟩
    · rw [(hf 88 (by decide)).1]; exact R.size
    · rw [(hf 88 (by decide)).1]; exact R.order
    · rw [e2, ← e3]; exact hz
  · rintro p ⟨g, w⟩ hp ⟨hf, hz, hr⟩ ih
    dsimp only at hf hz hr ⊢
    have rp := rf_90 p (by omega)
    have ra' := rf_90 (2 * p) (by omega)
    have rb := rf_90 (2 * p + 1) (by omega)
    obtain ⟨za, ua⟩ := zc (2 * p) (by omega)
    obtain ⟨zb, ub⟩ := zc (2 * p + 1) (by omega)
    obtain ⟨a1, a2⟩ := hr (2 * p) (by omega) (by omega)
    obtain ⟨b1, b2⟩ := hr (2 * p + 1) (by omega) (by omega)
    have eA : pA o (2 * e) p = pA o e (2 * p) := by
      unfold pA
      by_cases c : p = 0
      · rw [if_pos c, if_pos (by omega)]
      · rw [if_neg c, if_neg (by omega), ← Nat.mul_assoc, Nat.mul_comm p 2]
    have eM : pM o (2 * e) p = pM o e (2 * p) + pM o e (2 * p + 1) := by
      unfold pM
      by_cases c : p = 0
      · rw [if_pos c, if_pos (by omega), if_neg (by omega)]; omega
      · rw [if_neg c, if_neg (by omega), if_neg (by omega)]; omega
    have eB : pA o e (2 * p) + pM o e (2 * p) = pA o e (2 * p + 1) := by
      rw [pAM (Nat.le_of_lt hoe), pA_succ]
    refine ra_iload_n A d_Re_joinPairs_2 rfl <| ra_iconst A 1 d_Re_joinPairs_3 (by decide) <| ra_iload_n A d_Re_joinPairs_4 rfl <| ra_ishl A d_Re_joinPairs_5 <| ra_iconst A 1 d_Re_joinPairs_6 (by decide) <| ra_ishr A d_Re_joinPairs_7 <| ?_
    rw [sh]
    refine ra_icmp_ge (q := 87) A d_Re_joinPairs_8 (by decide) (fun cc => absurd cc (nI_ge hp (by omega))) (fun _ => ?_)
    refine ra_iconst A 0 d_Re_joinPairs_11 (by decide) <| ra_istore_n (L' := [_, _, _, _]) A d_Re_joinPairs_12 (by decide) rfl <| ?_
    refine lp_up (σ := xw_H) (W := fun t g' => xg x (y0 u) 0 0 13 [some (.ref 88), some (.int (nI q)), some (.int (nI p)), some (.int (nI t))] [] g') (I := fun t g' => g' = xw_s2 g (91 + p) (fun t' => if t' < t then lN (zs f t' (pA o (2 * e) p) (pM o (2 * e) p)) else g.2 (91 + p) t')) 15 ?_ ?_ 0 _ (by omega) (xs2_id (fun j => if_neg (by omega))).symm
    · rintro g' rfl
      refine ra_iload_n A d_Re_joinPairs_13 rfl <| ra_bipush A 15 d_Re_joinPairs_14 (by decide) <| ?_
      refine ra_icmp_ge (q := 56) A d_Re_joinPairs_16 (by decide) (fun _ => ?_) (fun cc => absurd (Int32.le_refl _) cc)
      refine ra_aload_n A d_Re_joinPairs_56 rfl <| ra_getR A f_Re_20 d_Re_joinPairs_57 (Nat.le_of_ble_eq_true rfl) rfl rfl rfl <| ra_iload_n A d_Re_joinPairs_60 rfl <| ra_aload_n A d_Re_joinPairs_61 rfl <| ra_getR A f_Re_20 d_Re_joinPairs_62 (Nat.le_of_ble_eq_true rfl) rfl rfl rfl <| ra_iconst A 2 d_Re_joinPairs_65 (by decide) <| ra_iload_n A d_Re_joinPairs_66 rfl <| ra_imul A d_Re_joinPairs_67 <| ?_
      rw [show (2 : Int32) * nI p = nI (2 * p) from pk_mul 2 p]
      refine ra_iaload A d_Re_joinPairs_68 (Nat.le_of_ble_eq_true rfl) rfl (vp_in_nI (by omega) (by decide)) ?_
      rw [nI_clamp (by omega), show (xw_s2 g (91 + p) (fun t' => if t' < 15 then lN (zs f t' (pA o (2 * e) p) (pM o (2 * e) p)) else g.2 (91 + p) t')).1 123 (2 * p) = g.1 123 (2 * p) from rfl, a2, ua]
      refine ra_aload_n A d_Re_joinPairs_69 rfl <| ra_getR A f_Re_20 d_Re_joinPairs_70 (Nat.le_of_ble_eq_true rfl) rfl rfl rfl <| ra_iconst A 2 d_Re_joinPairs_73 (by decide) <| ra_iload_n A d_Re_joinPairs_74 rfl <| ra_imul A d_Re_joinPairs_75 <| ra_iconst A 1 d_Re_joinPairs_76 (by decide) <| ra_iadd A d_Re_joinPairs_77 <| ?_
      rw [show (2 : Int32) * nI p = nI (2 * p) from pk_mul 2 p, nI_1]
      refine ra_iaload A d_Re_joinPairs_78 (Nat.le_of_ble_eq_true rfl) rfl (vp_in_nI (by omega) (by decide)) ?_
      rw [nI_clamp (by omega), show (xw_s2 g (91 + p) (fun t' => if t' < 15 then lN (zs f t' (pA o (2 * e) p) (pM o (2 * e) p)) else g.2 (91 + p) t')).1 123 (2 * p + 1) = g.1 123 (2 * p + 1) from rfl, b2, ub]
      refine ra_ior A d_Re_joinPairs_79 <| ?_
      rw [nI_or, ← eB, ← us_app, ← eA, ← eM]
      refine ra_iastore A d_Re_joinPairs_80 (Nat.le_of_ble_eq_true rfl) rfl (vp_in_nI (by omega) (by decide)) ?_
      rw [nI_clamp (by omega)]
      refine ra_iinc (L' := [_, _, _, _]) A 1 d_Re_joinPairs_81 rfl (by decide) (by decide) rfl <| ra_goto (q := 2) A d_Re_joinPairs_84 (by decide) <| ?_
      rw [nI_1]
      refine ih (_, _) ⟨(hf.trans (fr_s2 (ZL_in p (by omega)))).I (by decide), fun p' hp' => ?_, fun p' h1 h2 => ?_⟩
      · by_cases c : p' = p
        · subst c
          refine ⟨fun t ht => ?_, xI_e⟩
          show (xw_s2 g (91 + p') _).2 (91 + p') t = _
          rw [xs2_e, if_pos ht]
        · obtain ⟨y1, y2⟩ := hz p' (by omega)
          refine ⟨fun t ht => ?_, ?_⟩
          · show (xw_s2 g (91 + p) _).2 (91 + p') t = _
            rw [xs2_k (by omega)]
            exact y1 t ht
          · show (xw_I _ 123 p _).1 123 p' = _
            rw [xI_j c]
            exact y2
      · obtain ⟨y1, y2⟩ := hr p' (by omega) h2
        refine ⟨?_, ?_⟩
        · show (xw_s2 g (91 + p) _).2 (91 + p') = _
          rw [xs2_k (by omega)]
          exact y1
        · show (xw_I _ 123 p _).1 123 p' = _
          rw [xI_j (by omega)]
          exact y2
    · rintro t g' ht rfl ih2
      refine ra_iload_n A d_Re_joinPairs_13 rfl <| ra_bipush A 15 d_Re_joinPairs_14 (by decide) <| ?_
      refine ra_icmp_ge (q := 56) A d_Re_joinPairs_16 (by decide) (fun cc => absurd cc (nI_ge (b := 15) ht (by decide))) (fun _ => ?_)
      refine ra_aload_n A d_Re_joinPairs_19 rfl <| ra_getR A f_Re_17 d_Re_joinPairs_20 (Nat.le_of_ble_eq_true rfl) rfl rfl rfl <| ra_iload_n A d_Re_joinPairs_23 rfl <| ?_
      refine ra_aaload A d_Re_joinPairs_24 (Nat.le_of_ble_eq_true rfl) rfl rfl (vp_in_nI (by omega) (by decide)) (by rw [nI_clamp (by omega)]; exact rp.1) ?_
      refine ra_iload_n A d_Re_joinPairs_25 rfl <| ra_aload_n A d_Re_joinPairs_26 rfl <| ra_getR A f_Re_17 d_Re_joinPairs_27 (Nat.le_of_ble_eq_true rfl) rfl rfl rfl <| ra_iconst A 2 d_Re_joinPairs_30 (by decide) <| ra_iload_n A d_Re_joinPairs_31 rfl <| ra_imul A d_Re_joinPairs_32 <| ?_
      rw [show (2 : Int32) * nI p = nI (2 * p) from pk_mul 2 p]
      refine ra_aaload A d_Re_joinPairs_33 (Nat.le_of_ble_eq_true rfl) rfl rfl (vp_in_nI (by omega) (by decide)) (by rw [nI_clamp (by omega)]; exact ra'.1) ?_
      refine ra_iload_n A d_Re_joinPairs_34 rfl <| ?_
      refine ra_laload A d_Re_joinPairs_35 (show 91 + 2 * p < 157 by omega) ra'.2 (vp_in_nI ht (by decide)) ?_
      have rd : ∀ p', (p' = 2 * p ∨ p' = 2 * p + 1) → (xw_s2 g (91 + p) (fun t' => if t' < t then lN (zs f t' (pA o (2 * e) p) (pM o (2 * e) p)) else g.2 (91 + p) t')).2 (91 + p') t = lN (zs f t (pA o e p') (pM o e p')) := by
        intro p' hp'
        by_cases c : p' = p
        · subst c
          obtain rfl : p' = 0 := by omega
          rw [xs2_e, if_neg (by omega)]
          rw [show g.2 (91 + 0) = h.2 (91 + 0) from a1]
          exact za t ht
        · rw [xs2_k (by omega)]
          rcases hp' with rfl | rfl
          · rw [a1]; exact za t ht
          · rw [b1]; exact zb t ht
      rw [nI_clamp (by omega), rd (2 * p) (Or.inl rfl)]
      refine ra_aload_n A d_Re_joinPairs_36 rfl <| ra_getR A f_Re_17 d_Re_joinPairs_37 (Nat.le_of_ble_eq_true rfl) rfl rfl rfl <| ra_iconst A 2 d_Re_joinPairs_40 (by decide) <| ra_iload_n A d_Re_joinPairs_41 rfl <| ra_imul A d_Re_joinPairs_42 <| ra_iconst A 1 d_Re_joinPairs_43 (by decide) <| ra_iadd A d_Re_joinPairs_44 <| ?_
      rw [show (2 : Int32) * nI p = nI (2 * p) from pk_mul 2 p, nI_1]
      refine ra_aaload A d_Re_joinPairs_45 (Nat.le_of_ble_eq_true rfl) rfl rfl (vp_in_nI (by omega) (by decide)) (by rw [nI_clamp (by omega)]; exact rb.1) ?_
      refine ra_iload_n A d_Re_joinPairs_46 rfl <| ?_
      refine ra_laload A d_Re_joinPairs_47 (show 91 + (2 * p + 1) < 157 by omega) rb.2 (vp_in_nI ht (by decide)) ?_
      rw [nI_clamp (by omega), rd (2 * p + 1) (Or.inr rfl)]
      refine ra_ladd A d_Re_joinPairs_48 <| ?_
      rw [lN_add, ← eB, ← zs_app, ← eA, ← eM]
      refine ra_lastore A d_Re_joinPairs_49 (show 91 + p < 157 by omega) rp.2 (vp_in_nI ht (by decide)) ?_
      rw [nI_clamp (by omega)]
      refine ra_iinc (L' := [_, _, _, _]) A 1 d_Re_joinPairs_50 rfl (by decide) (by decide) rfl <| ra_goto (q := 13) A d_Re_joinPairs_53 (by decide) <| ?_
      rw [nI_1]
      refine ih2 _ (xs2_J (fun j => ?_))
      by_cases c : j = t
      · subst c; rw [if_pos rfl, if_pos (by omega)]
      · rw [if_neg c]
        by_cases c2 : j < t
        · rw [if_pos c2, if_pos (by omega)]
        · rw [if_neg c2, if_neg (by omega)]
/-- what weigh may change -/
def fw (h h' : xw_H) : Prop := (∀ k, k ∉ ZL → k ≠ 88 → h'.1 k = h.1 k ∧ h'.2 k = h.2 k) ∧ (∀ j, j ∉ [5, 6, 7] → h'.1 88 j = h.1 88 j) ∧ h'.2 88 = h.2 88
theorem fw.rfl {h : xw_H} : fw h h := ⟨fun _ _ _ => ⟨_root_.rfl, _root_.rfl⟩, fun _ _ => _root_.rfl, _root_.rfl⟩
theorem fw.trans {h h' h'' : xw_H} (x : fw h h') (y : fw h' h'') : fw h h'' := ⟨fun k hk hk' => ⟨(y.1 k hk hk').1.trans (x.1 k hk hk').1, (y.1 k hk hk').2.trans (x.1 k hk hk').2⟩, fun j hj => (y.2.1 j hj).trans (x.2.1 j hj), y.2.2.trans x.2.2⟩
theorem fw_z {h h' : xw_H} (x : fr ZL h h') : fw h h' := ⟨fun k hk _ => x k hk, fun j _ => by rw [(x 88 (by decide)).1], (x 88 (by decide)).2⟩
theorem fw_1 {h h' : xw_H} {F : List Nat} (x : f1 88 F h h') (hF : ∀ j ∈ F, j ∈ [5, 6, 7]) : fw h h' := ⟨fun k _ hk' => ⟨x.1 k hk', by rw [x.2.2]⟩, fun j hj => x.2.1 j (fun q => hj (hF j q)), by rw [x.2.2]⟩
theorem s_Re_weigh (K : xk_ok u KK) {n o : Nat} {r : Nat → Int32} (hn : n ≤ 1024) (ho : o < n) (R : RS h n o r) (hr : ∀ i, o ≤ i → i < n → -2 ^ 28 ≤ (r i).toInt ∧ (r i).toInt ≤ 2 ^ 28)
    (hX : ∀ h' F, F ≤ 5 → pfit o n F → (∀ q, F < q → q ≤ 5 → ¬ pfit o n q) → fw h h' → h'.1 88 7 = nI (amin (rcost (fun i => fdN (r i)) o n) F) → X (.inl (some (.long (lN (rcost (fun i => fdN (r i)) o n (amin (rcost (fun i => fdN (r i)) o n) F)))))) h' 0 0) : xm_M l (y0 u) KK m_Re_weigh [.ref 88] h X := by
  refine xm_of [none, none, none, none, none, none] (by simp) (Nat.le_of_ble_eq_true rfl) (by decide) (fun x at0 => ?_)
  have A := xa_of at0 K
  have ow := at0.2.2.2.2.1
  have hfd : ∀ i, o ≤ i → i < n → fdN (r i) < 2 ^ 30 := by
    intro i h1 h2
    have := fdN_lt (hr i h1 h2)
    omega
  refine ra_aload_n A d_Re_weigh_0 rfl <| ?_
  refine ra_callV (As := []) A ok_Re_finestParts l_Re_36 im_Re_finestParts sl_Re_finestParts d_Re_weigh_1 (Nat.le_of_ble_eq_true rfl) rfl rfl rfl (Nat.le_of_ble_eq_true rfl) (xr_of at0 (by decide)) (s_Re_finestParts K hn ho R (fun F hF fF nF => ?_))
  show xg x (y0 u) 0 0 4 _ _ h
  have hX := fun h' => hX h' F hF fF nF
  refine ra_istore_n (L' := [_, _, _, _, _, _, _]) A d_Re_weigh_4 (by decide) rfl <| ra_aload_n A d_Re_weigh_5 rfl <| ra_iload_n A d_Re_weigh_6 rfl <| ?_
  refine ra_callV (As := [_]) A ok_Re_collect l_Re_40 im_Re_collect sl_Re_collect d_Re_weigh_7 (Nat.le_of_ble_eq_true rfl) rfl rfl rfl (Nat.le_of_ble_eq_true rfl) (xr_of at0 (by decide)) (s_Re_collect K hn hF fF R (fun i h1 h2 => by have := hr i h1 h2; omega) (fun g0 f0 z0 => ?_))
  show xg x (y0 u) 0 0 10 _ _ g0
  refine ra_ldc2 A k_Re_46 d_Re_weigh_10 <| ra_lstore_n (L' := [_, _, _, _, _, _, _]) A d_Re_weigh_13 (by decide) rfl <| ra_iload_n A d_Re_weigh_14 rfl <| ra_istore (L' := [_, _, _, _, _, _, _]) A d_Re_weigh_15 (by decide) rfl <| ?_
  generalize hc : rcost (fun i => fdN (r i)) o n = c at hX
  have hcb : ∀ q, q ≤ F → c q < 2 ^ 21 := fun q hq => by rw [← hc]; exact rcost_le hn (by omega) (pfit_le fF hq) hfd
  have loop : ∀ j (s : xw_H × Int64 × Option Value × Option Value), (j ≤ F + 1 ∧ fw h s.1 ∧ (j = F + 1 → s.2.1 = 9223372036854775807) ∧ (j ≤ F → ∃ b, j ≤ b ∧ b ≤ F ∧ s.2.1 = lN (c b) ∧ s.1.1 88 7 = nI b ∧ ∀ i, j ≤ i → i ≤ F → c b ≤ c i ∧ (i < b → c b < c i)) ∧ (∀ j', j = j' + 1 → RQ s.1 n o j' (fun i => fdN (r i)))) → xg x (y0 u) 0 0 17 [some (.ref 88), some (.int (nI F)), some (.long s.2.1), none, some (.int (nI j + (-1))), s.2.2.1, s.2.2.2] [] s.1 := by
    refine lp_dn ?_ ?_
    · rintro ⟨g, fw0, w5, w6⟩ ⟨-, hf, -, hb, -⟩
      obtain ⟨b, -, hbF, e1, e2, hm⟩ := hb (by omega)
      dsimp only at hf e1 e2 ⊢
      have hb0 : b = amin c F := (show LM c F b from ⟨hbF, fun i hi => hm i (by omega) hi⟩).amin
      subst hb0
      refine ra_iload A d_Re_weigh_17 rfl <| ?_
      refine ra_if_lt (q := 58) A d_Re_weigh_19 (by decide) (fun _ => ?_) (fun cc => absurd ((by decide)) cc)
      refine ra_lload_n A d_Re_weigh_58 rfl <| ?_
      subst e1
      exact ra_lret A ow d_Re_weigh_59 (hX g hf e2)
    · rintro j ⟨g, fw0, w5, w6⟩ ⟨hj, hf, h9, hb, hR⟩ ih
      have Rj := hR j rfl
      dsimp only at hf h9 hb Rj ⊢
      rw [pk_m1]
      refine ra_iload A d_Re_weigh_17 rfl <| ?_
      refine ra_if_lt (q := 58) A d_Re_weigh_19 (by decide) (fun cc => absurd cc (nI_pos (by omega))) (fun _ => ?_)
      refine ra_aload_n A d_Re_weigh_22 rfl <| ra_iload A d_Re_weigh_23 rfl <| ?_
      refine ra_callV (As := [_]) A ok_Re_bitsOfAll l_Re_48 im_Re_bitsOfAll sl_Re_bitsOfAll d_Re_weigh_25 (Nat.le_of_ble_eq_true rfl) rfl rfl rfl (Nat.le_of_ble_eq_true rfl) (xr_of at0 (by decide)) (s_Re_bitsOfAll K Rj (fun g1 f1' => ?_))
      show xg x (y0 u) 0 0 28 _ _ g1
      rw [hc]
      refine ra_lstore (L' := [_, _, _, _, _, _, _]) A d_Re_weigh_28 (by decide) rfl <| ra_lload A d_Re_weigh_30 rfl <| ra_lload_n A d_Re_weigh_32 rfl <| ra_lcmp A d_Re_weigh_33 <| ?_
      have Rg1 := Rj.f1 f1' (by decide) (by decide)
      have hf1 := hf.trans (fw_1 f1' (by decide))
      have bj := hcb j (by omega)
      have next : ∀ (g2 : xw_H) (fw2 : Int64), RQ g2 n o j (fun i => fdN (r i)) → fw h g2 → (∃ b, j ≤ b ∧ b ≤ F ∧ fw2 = lN (c b) ∧ g2.1 88 7 = nI b ∧ ∀ i, j ≤ i → i ≤ F → c b ≤ c i ∧ (i < b → c b < c i)) → xg x (y0 u) 0 0 46 [some (.ref 88), some (.int (nI F)), some (.long fw2), none, some (.int (nI j)), some (.long (lN (c j))), none] [] g2 := by
        intro g2 fw2 R2 f2 hb2
        refine ra_aload_n A d_Re_weigh_46 rfl <| ra_iload A d_Re_weigh_47 rfl <| ?_
        refine ra_callV (As := [_]) A ok_Re_joinPairs l_Re_55 im_Re_joinPairs sl_Re_joinPairs d_Re_weigh_49 (Nat.le_of_ble_eq_true rfl) rfl rfl rfl (Nat.le_of_ble_eq_true rfl) (xr_of at0 (by decide)) (s_Re_joinPairs K R2 (fun g3 f3 R3 => ?_))
        show xg x (y0 u) 0 0 52 _ _ g3
        refine ra_iinc (L' := [_, _, _, _, _, _, _]) A (-1) d_Re_weigh_52 rfl (by decide) (by decide) rfl <| ra_goto (q := 17) A d_Re_weigh_55 (by decide) <| ?_
        refine ih (g3, fw2, _, _) ⟨by omega, f2.trans (fw_z f3), fun q => by omega, fun _ => ?_, fun j' e => R3 j' e⟩
        obtain ⟨b, q1, q2, q3, q4, q5⟩ := hb2
        exact ⟨b, q1, q2, q3, by rw [(f3 88 (by decide)).1]; exact q4, q5⟩
      have take : lg_cmp (lN (c j)) fw0 ≤ 0 → (∀ i, j ≤ i → i ≤ F → c j ≤ c i) → xg x (y0 u) 0 0 34 [some (.ref 88), some (.int (nI F)), some (.long fw0), none, some (.int (nI j)), some (.long (lN (c j))), none] [.int (lg_cmp (lN (c j)) fw0)] g1 := by
        intro q hm
        refine ra_if_gt (q := 46) A d_Re_weigh_34 (by decide) (fun cc => absurd cc (Int32.not_lt.mpr q)) (fun _ => ?_)
        refine ra_lload A d_Re_weigh_37 rfl <| ra_lstore_n (L' := [_, _, _, _, _, _, _]) A d_Re_weigh_39 (by decide) rfl <| ra_aload_n A d_Re_weigh_40 rfl <| ra_iload A d_Re_weigh_41 rfl <| ra_putI (ty := .int) A f_Re_52 rfl rfl (by decide +kernel) rfl rfl d_Re_weigh_43 (Nat.le_of_ble_eq_true rfl) rfl rfl <| ?_
        refine next _ _ (Rg1.f1 (f1_I (F := [7]) (by decide)) (by decide) (by decide)) (hf1.trans (fw_1 (f1_I (F := [7]) (by decide)) (by decide))) ⟨j, Nat.le_refl _, by omega, rfl, xI_e, fun i h1 h2 => ⟨hm i h1 h2, fun q => by omega⟩⟩
      by_cases c9 : j = F
      · have e := h9 (by omega)
        refine take ?_ (fun i h1 h2 => by obtain rfl : i = j := by omega
                                          exact Nat.le_refl _)
        rw [lc_le, e, show (9223372036854775807 : Int64) = lN 9223372036854775807 from rfl, pk_lLE (by omega) (by omega)]
        omega
      · obtain ⟨b, q1, q2, q3, q4, q5⟩ := hb (by omega)
        have bb := hcb b q2
        by_cases q : c j ≤ c b
        · refine take ?_ (fun i h1 h2 => ?_)
          · rw [lc_le, q3, pk_lLE (by omega) (by omega)]
            exact q
          · by_cases e : i = j
            · subst e; exact Nat.le_refl _
            · have := (q5 i (by omega) h2).1
              omega
        · refine ra_if_gt (q := 46) A d_Re_weigh_34 (by decide) (fun _ => ?_) (fun cc => absurd (lc_gt.mpr (by rw [q3]; exact Int64.not_le.mp (fun z => q ((pk_lLE (by omega) (by omega)).mp z)))) cc)
          refine next g1 fw0 Rg1 hf1 ⟨b, by omega, q2, q3, by rw [f1'.2.1 7 (by decide)]; exact q4, fun i h1 h2 => ?_⟩
          by_cases e : i = j
          · subst e; exact ⟨by omega, fun _ => by omega⟩
          · exact q5 i (by omega) h2
  have fin := loop (F + 1) (g0, 9223372036854775807, none, none) ⟨Nat.le_refl _, fw_z f0, fun _ => rfl, fun q => by omega, fun j' e => by
    obtain rfl : F = j' := by omega
    exact ⟨hn, hF, fF, by rw [(f0 88 (by decide)).1]; exact R.1, by rw [(f0 88 (by decide)).1]; exact R.2.1, hfd, z0⟩⟩
  rw [pk_m1] at fin
  exact fin
end S69
