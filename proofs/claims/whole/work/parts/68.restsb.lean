/-! SoundStream$Rests: collect, bitsOf, bitsOfAll, joinPairs -/
theorem ar_2o {h : xw_H} {p v a : Nat} (e : a ≠ 91 + p) : (ar h p v).2 a = h.2 a := by
  unfold ar; rw [xs2_k e]; rfl
theorem ar_2 {h : xw_H} {p v t : Nat} (ht : t < 15) : (ar h p v).2 (91 + p) t = h.2 (91 + p) t + lN (v / 2 ^ t) := by
  unfold ar; rw [xs2_e, if_pos ht]
theorem ar_1o {h : xw_H} {p v a : Nat} (e : a ≠ 123) : (ar h p v).1 a = h.1 a := xI_k e
theorem ar_1 {h : xw_H} {p v : Nat} : (ar h p v).1 123 p = h.1 123 p ||| nI v := by
  show (xw_I h 123 p _).1 123 p = _
  rw [xI_e]
theorem ar_1j {h : xw_H} {p v j : Nat} (e : j ≠ p) : (ar h p v).1 123 j = h.1 123 j := by
  show (xw_I h 123 p _).1 123 j = _
  rw [xI_j e]
theorem fr_ar {h : xw_H} {p v : Nat} (hp : p < 32) : fr ZL h (ar h p v) := (fr_I (by decide)).trans (fr_s2 (ZL_in p hp))
theorem ZC.congr {h h' : xw_H} {f : Nat → Nat} {o e P : Nat} (z : ZC h f o e P) (hx : ∀ p, p < P → h'.2 (91 + p) = h.2 (91 + p) ∧ h'.1 123 p = h.1 123 p) : ZC h' f o e P := by
  intro p hp
  obtain ⟨h1, h2⟩ := z p hp
  obtain ⟨e1, e2⟩ := hx p hp
  exact ⟨fun t ht => by rw [e1]; exact h1 t ht, by rw [e2]; exact h2⟩
theorem pAM {o e p : Nat} (ho : o ≤ e) : pA o e p + pM o e p = (p + 1) * e := by
  unfold pA pM
  split
  · rename_i h; subst h; omega
  · rw [Nat.add_mul]; omega
theorem pA_succ {o e p : Nat} : pA o e (p + 1) = (p + 1) * e := by unfold pA; rw [if_neg (by omega)]
section S68
variable {u : xu_T} {l : Launch} {KK : State → Prop} {h : xw_H} {X : xc_R → xw_H → Nat → Nat → Prop}
theorem s_Re_collect (K : xk_ok u KK) {n o q : Nat} {r : Nat → Int32} (hn : n ≤ 1024) (hq : q ≤ 5) (hfit : pfit o n q) (R : RS h n o r) (hr : ∀ i, o ≤ i → i < n → -2 ^ 29 ≤ (r i).toInt ∧ (r i).toInt ≤ 2 ^ 29) (hX : ∀ h', fr ZL h h' → ZC h' (fun i => fdN (r i)) o (n / 2 ^ q) (2 ^ q) → X (.inl none) h' 0 0) : xm_M l (y0 u) KK m_Re_collect [.ref 88, .int (nI q)] h X := by
  refine xm_of [none, none, none] (by simp) (Nat.le_of_ble_eq_true rfl) (by decide) (fun x at0 => ?_)
  have A := xa_of at0 K
  have ow := at0.2.2.2.2.1
  have hP : 2 ^ q ≤ 32 := Nat.pow_le_pow_right (n := 2) (by decide) hq
  have hoe := hfit.2
  have hPe : 2 ^ q * (n / 2 ^ q) ≤ n := Nat.mul_div_le n (2 ^ q)
  generalize he : n / 2 ^ q = e at *
  generalize hPq : 2 ^ q = P at *
  have hen : e ≤ n := by rw [← he]; exact Nat.div_le_self _ _
  have hpe : ∀ p, p < P → (p + 1) * e ≤ n := fun p hp => Nat.le_trans (Nat.mul_le_mul_right e hp) hPe
  refine ra_aload_n A d_Re_collect_0 rfl <| ra_getI A f_Re_29 d_Re_collect_1 (Nat.le_of_ble_eq_true rfl) rfl rfl <| ?_
  rw [R.1]
  refine ra_iload_n A d_Re_collect_4 rfl <| ra_ishr A d_Re_collect_5 <| ?_
  rw [shrN (by omega) (by omega), show n / 2 ^ q = e by rw [hPq]; exact he]
  refine ra_istore_n (L' := [_, _, _, _, _]) A d_Re_collect_6 (by decide) rfl <| ra_aload_n A d_Re_collect_7 rfl <| ra_getI A f_Re_33 d_Re_collect_8 (Nat.le_of_ble_eq_true rfl) rfl rfl <| ?_
  rw [R.2.1]
  refine ra_istore_n (L' := [_, _, _, _, _]) A d_Re_collect_11 (by decide) rfl <| ra_iconst A 0 d_Re_collect_12 (by decide) <| ra_istore (L' := [_, _, _, _, _]) A d_Re_collect_13 (by decide) rfl <| ?_
  refine lp_up (σ := xw_H) (W := fun p g => xg x (y0 u) 0 0 15 [some (.ref 88), some (.int (nI q)), some (.int (nI e)), some (.int (nI (pA o e p))), some (.int (nI p))] [] g) (I := fun p g => fr ZL h g ∧ ZC g (fun i => fdN (r i)) o e p) P ?_ ?_ 0 h (by omega) ⟨fr.rfl, fun p hp => by omega⟩
  · rintro g ⟨hf, hz⟩
    refine ra_iload A d_Re_collect_15 rfl <| ra_iconst A 1 d_Re_collect_17 (by decide) <| ra_iload_n A d_Re_collect_18 rfl <| ra_ishl A d_Re_collect_19 <| ?_
    rw [shl1 (by omega), hPq]
    refine ra_icmp_ge (q := 79) A d_Re_collect_20 (by decide) (fun _ => ?_) (fun cc => absurd (Int32.le_refl _) cc)
    exact ra_vret A ow d_Re_collect_79 (hX g hf hz)
  · rintro p g hp ⟨hf, hz⟩ ih
    have hp32 : p < 32 := by omega
    have rp := rf_90 p hp32
    have hp1 := hpe p hp
    have hAM := pAM (p := p) (Nat.le_of_lt hoe)
    have hoA : o ≤ pA o e p := by
      unfold pA
      split
      · exact Nat.le_refl _
      · have : 1 * e ≤ p * e := Nat.mul_le_mul_right e (by omega)
        omega
    refine ra_iload A d_Re_collect_15 rfl <| ra_iconst A 1 d_Re_collect_17 (by decide) <| ra_iload_n A d_Re_collect_18 rfl <| ra_ishl A d_Re_collect_19 <| ?_
    rw [shl1 (by omega), hPq]
    refine ra_icmp_ge (q := 79) A d_Re_collect_20 (by decide) (fun cc => absurd cc (nI_ge hp (by omega))) (fun _ => ?_)
    refine ra_aload_n A d_Re_collect_23 rfl <| ra_getR A f_Re_17 d_Re_collect_24 (Nat.le_of_ble_eq_true rfl) rfl rfl rfl <| ra_iload A d_Re_collect_27 rfl <| ?_
    refine ra_aaload A d_Re_collect_29 (Nat.le_of_ble_eq_true rfl) rfl rfl (vp_in_nI hp32 (by decide)) (by rw [nI_clamp (by omega)]; exact rp.1) ?_
    refine ra_lconst A 0 d_Re_collect_30 (by decide) <| ?_
    refine ra_callS (As := [_, _]) A ok_Jfilll l_Re_72 st_Jfilll d_Re_collect_31 rfl (Nat.le_of_ble_eq_true rfl) (xr_of at0 (by decide)) (s_Jfilll K (k := 91 + p) (len := 15) (by omega) rp.2 (by decide) ?_)
    show xg x (y0 u) 0 0 34 _ _ _
    refine ra_aload_n A d_Re_collect_34 rfl <| ra_getR A f_Re_20 d_Re_collect_35 (Nat.le_of_ble_eq_true rfl) rfl rfl rfl <| ra_iload A d_Re_collect_38 rfl <| ra_iconst A 0 d_Re_collect_40 (by decide) <| ?_
    refine ra_iastore A d_Re_collect_41 (Nat.le_of_ble_eq_true rfl) rfl (vp_in_nI hp32 (by decide)) ?_
    rw [nI_clamp (by omega)]
    rw [show pA o e p = pA o e p + 0 from rfl]
    refine lp_up (σ := xw_H) (W := fun m g => xg x (y0 u) 0 0 42 [some (.ref 88), some (.int (nI q)), some (.int (nI e)), some (.int (nI (pA o e p + m))), some (.int (nI p))] [] g) (I := fun m g => fr ZL h g ∧ ZC g (fun i => fdN (r i)) o e p ∧ (∀ t, t < 15 → g.2 (91 + p) t = lN (zs (fun i => fdN (r i)) t (pA o e p) m)) ∧ g.1 123 p = nI (us (fun i => fdN (r i)) (pA o e p) m)) (pM o e p) ?_ ?_ 0 _ (by omega) ⟨(hf.trans (fr_s2 (ZL_in p hp32))).I (by decide), ?_, ?_, ?_⟩
    · rintro g ⟨hf, hz, hz1, hz2⟩
      refine ra_iload_n A d_Re_collect_42 rfl <| ra_iload A d_Re_collect_43 rfl <| ra_iconst A 1 d_Re_collect_45 (by decide) <| ra_iadd A d_Re_collect_46 <| ra_iload_n A d_Re_collect_47 rfl <| ra_imul A d_Re_collect_48 <| ?_
      rw [nI_1, pk_mul, hAM]
      refine ra_icmp_ge (q := 73) A d_Re_collect_49 (by decide) (fun _ => ?_) (fun cc => absurd (Int32.le_refl _) cc)
      refine ra_iinc (L' := [_, _, _, _, _]) A 1 d_Re_collect_73 rfl (by decide) (by decide) rfl <| ra_goto (q := 15) A d_Re_collect_76 (by decide) <| ?_
      rw [nI_1, ← pA_succ (o := o)]
      refine ih g ⟨hf, fun p' hp' => ?_⟩
      by_cases c : p' = p
      · subst c; exact ⟨hz1, hz2⟩
      · exact hz p' (by omega)
    · rintro m g hm ⟨hf, hz, hz1, hz2⟩ ih2
      have hi : pA o e p + m < n := by omega
      have hri := hr (pA o e p + m) (by omega) hi
      have hfd := fdN_lt hri
      refine ra_iload_n A d_Re_collect_42 rfl <| ra_iload A d_Re_collect_43 rfl <| ra_iconst A 1 d_Re_collect_45 (by decide) <| ra_iadd A d_Re_collect_46 <| ra_iload_n A d_Re_collect_47 rfl <| ra_imul A d_Re_collect_48 <| ?_
      rw [nI_1, pk_mul]
      refine ra_icmp_ge (q := 73) A d_Re_collect_49 (by decide) (fun cc => absurd cc (nI_ge (show pA o e p + m < (p + 1) * e by omega) (by omega))) (fun _ => ?_)
      refine ra_aload_n A d_Re_collect_52 rfl <| ra_iload A d_Re_collect_53 rfl <| ra_aload_n A d_Re_collect_55 rfl <| ra_getR A f_Re_9 d_Re_collect_56 (Nat.le_of_ble_eq_true rfl) rfl rfl rfl <| ra_iload_n A d_Re_collect_59 rfl <| ?_
      refine ra_iaload A d_Re_collect_60 (Nat.le_of_ble_eq_true rfl) rfl (vp_in_nI (by omega) (by decide)) ?_
      rw [nI_clamp (by omega), (hf 89 (by decide)).1, R.2.2 _ (by omega) hi]
      refine ra_callS (As := [_]) A ok_Re_fold l_Re_78 st_Re_fold d_Re_collect_61 rfl (Nat.le_of_ble_eq_true rfl) (xr_of at0 (by decide)) (s_Re_fold K hri ?_)
      show xg x (y0 u) 0 0 64 _ _ _
      refine ra_callV (As := [_, _]) A ok_Re_addRest l_Re_82 im_Re_addRest sl_Re_addRest d_Re_collect_64 (Nat.le_of_ble_eq_true rfl) rfl rfl rfl (Nat.le_of_ble_eq_true rfl) (xr_of at0 (by decide)) (s_Re_addRest K hp32 (by omega) ?_)
      show xg x (y0 u) 0 0 67 _ _ _
      refine ra_iinc (L' := [_, _, _, _, _]) A 1 d_Re_collect_67 rfl (by decide) (by decide) rfl <| ra_goto (q := 42) A d_Re_collect_70 (by decide) <| ?_
      rw [nI_1]
      refine ih2 _ ⟨hf.trans (fr_ar hp32), hz.congr (fun p' hp' => ⟨ar_2o (by omega), ar_1j (by omega)⟩), fun t ht => ?_, ?_⟩
      · rw [ar_2 ht, hz1 t ht, lN_add]
        rfl
      · rw [ar_1, hz2, nI_or]
        rfl
    · refine hz.congr (fun p' hp' => ⟨?_, ?_⟩)
      · show (xw_s2 g (91 + p) _).2 (91 + p') = _
        rw [xs2_k (by omega)]
      · rw [xI_j (by omega)]
        rfl
    · intro t ht
      show (xw_s2 g (91 + p) _).2 (91 + p) t = _
      rw [xs2_e, if_pos ht]
      rfl
    · rw [xI_e]
      rfl
theorem s_Re_bitsOf (K : xk_ok u KK) {p m U : Nat} {z : Nat → Nat} (hp : p < 32) (hm : m ≤ 1024) (hU : U < 2 ^ 31) (hz : ∀ t, t < 15 → h.2 (91 + p) t = lN (z t) ∧ z t ≤ 2 ^ 45) (hu : h.1 123 p = nI U) (hX : ∀ h', f1 88 [5, 6] h h' → h'.1 88 5 = nI (amin (fun t => if t = 15 then 9 + bln U * m else 4 + (t + 1) * m + z t) 15) → h'.1 88 6 = nI (bln U) → X (.inl (some (.long (lN ((fun t => if t = 15 then 9 + bln U * m else 4 + (t + 1) * m + z t) (amin (fun t => if t = 15 then 9 + bln U * m else 4 + (t + 1) * m + z t) 15)))))) h' 0 0) : xm_M l (y0 u) KK m_Re_bitsOf [.ref 88, .int (nI p), .int (nI m)] h X := by
  refine xm_of [none, none, none, none, none] (by simp) (Nat.le_of_ble_eq_true rfl) (by decide) (fun x at0 => ?_)
  have A := xa_of at0 K
  have ow := at0.2.2.2.2.1
  have rp := rf_90 p hp
  generalize hc : (fun t => if t = 15 then 9 + bln U * m else 4 + (t + 1) * m + z t) = c at hX
  have hct : ∀ t, t < 15 → c t = 4 + (t + 1) * m + z t := fun t ht => by rw [← hc]; exact if_neg (by omega)
  have hc15 : c 15 = 9 + bln U * m := by rw [← hc]; exact if_pos rfl
  have hbU : bln U ≤ 31 := bln_le hU
  have hcb : ∀ t, t ≤ 15 → c t < 2 ^ 46 := by
    intro t ht
    by_cases e : t = 15
    · subst e
      rw [hc15]
      have : bln U * m ≤ 31 * 1024 := Nat.mul_le_mul hbU hm
      omega
    · rw [hct t (by omega)]
      have h1 : (t + 1) * m ≤ 15 * 1024 := Nat.mul_le_mul (by omega) hm
      have h2 := (hz t (by omega)).2
      omega
  have hle : ∀ F, amin c F ≤ F := fun F => (amin_LM c F).1
  have step : ∀ t, t < 15 → c (t + 1) < c (amin c t) → amin c (t + 1) = t + 1 := fun t _ q => by rw [amin, if_pos q]
  have step' : ∀ t, t < 15 → ¬ c (t + 1) < c (amin c t) → amin c (t + 1) = amin c t := fun t _ q => by rw [amin, if_neg q]
  refine ra_ldc2 A k_Re_46 d_Re_bitsOf_0 <| ra_lstore_n (L' := [_, _, _, _, _, _, _, _]) A d_Re_bitsOf_3 (by decide) rfl <| ra_iconst A 0 d_Re_bitsOf_4 (by decide) <| ra_istore (L' := [_, _, _, _, _, _, _, _]) A d_Re_bitsOf_5 (by decide) rfl <| ?_
  refine lp_up (σ := xw_H × Int64 × Option Value) (W := fun t s => xg x (y0 u) 0 0 7 [some (.ref 88), some (.int (nI p)), some (.int (nI m)), some (.long s.2.1), none, some (.int (nI t)), s.2.2, none] [] s.1) (I := fun t s => f1 88 [5, 6] h s.1 ∧ (t = 0 → s.2.1 = 9223372036854775807) ∧ ∀ t', t = t' + 1 → s.2.1 = lN (c (amin c t')) ∧ s.1.1 88 5 = nI (amin c t')) 15 ?_ ?_ 0 (h, _, none) (by omega) ⟨f1.rfl, fun _ => rfl, fun t' q => by omega⟩
  · rintro ⟨g, fw, w6⟩ ⟨hf, -, hI⟩
    obtain ⟨hfw, hk⟩ := hI 14 rfl
    dsimp only at hf hfw hk ⊢
    subst hfw
    refine ra_iload A d_Re_bitsOf_7 rfl <| ra_bipush A 15 d_Re_bitsOf_9 (by decide) <| ?_
    refine ra_icmp_ge (q := 60) A d_Re_bitsOf_11 (by decide) (fun _ => ?_) (fun cc => absurd (Int32.le_refl _) cc)
    refine ra_aload_n A d_Re_bitsOf_60 rfl <| ra_bipush A 32 d_Re_bitsOf_61 (by decide) <| ra_aload_n A d_Re_bitsOf_63 rfl <| ra_getR A f_Re_20 d_Re_bitsOf_64 (Nat.le_of_ble_eq_true rfl) rfl rfl rfl <| ra_iload_n A d_Re_bitsOf_67 rfl <| ?_
    refine ra_iaload A d_Re_bitsOf_68 (Nat.le_of_ble_eq_true rfl) rfl (vp_in_nI hp (by decide)) ?_
    rw [nI_clamp (by omega), hf.1 123 (by decide), hu]
    refine ra_callS (As := [_]) A ok_Jnlz l_Re_93 st_Jnlz d_Re_bitsOf_69 rfl (Nat.le_of_ble_eq_true rfl) (xr_of at0 (by decide)) (s_Jnlz K hU ?_)
    show xg x (y0 u) 0 0 72 _ _ _
    refine ra_isub A d_Re_bitsOf_72 <| ?_
    rw [show (32 : Int32) - nI (32 - bln U) = nI (32 - (32 - bln U)) from pk_sub (a := 32) (by omega), show 32 - (32 - bln U) = bln U by omega]
    refine ra_putI (ty := .int) A f_Re_98 rfl rfl (by decide +kernel) rfl rfl d_Re_bitsOf_73 (Nat.le_of_ble_eq_true rfl) rfl rfl <| ra_ldc2 A k_Re_101 d_Re_bitsOf_76 <| ra_aload_n A d_Re_bitsOf_79 rfl <| ra_getI A f_Re_98 d_Re_bitsOf_80 (Nat.le_of_ble_eq_true rfl) rfl rfl <| ?_
    rw [xI_e]
    refine ra_i2l A d_Re_bitsOf_83 <| ra_iload_n A d_Re_bitsOf_84 rfl <| ra_i2l A d_Re_bitsOf_85 <| ra_lmul A d_Re_bitsOf_86 <| ra_ladd A d_Re_bitsOf_87 <| ?_
    rw [nI_l (by omega), nI_l (by omega), lN_mul, show (9 : Int64) + lN (bln U * m) = lN (9 + bln U * m) from lN_add 9 _, ← hc15]
    refine ra_lstore (L' := [_, _, _, _, _, _, _, _]) A d_Re_bitsOf_88 (by decide) rfl <| ra_lload A d_Re_bitsOf_90 rfl <| ra_lload_n A d_Re_bitsOf_92 rfl <| ra_lcmp A d_Re_bitsOf_93 <| ?_
    have b1 := hcb 15 (by omega)
    have b2 := hcb (amin c 14) (by have := hle 14; omega)
    have ft : f1 88 [5, 6] h (xw_I g 88 6 (nI (bln U))) := hf.trans (f1_I (by decide))
    by_cases q : c 15 < c (amin c 14)
    · refine ra_if_ge (q := 106) A d_Re_bitsOf_94 (by decide) (fun cc => absurd cc (fun z => absurd ((pk_lLE (by omega) (by omega)).mp (lc_ge.mp z)) (by omega))) (fun _ => ?_)
      refine ra_lload A d_Re_bitsOf_97 rfl <| ra_lstore_n (L' := [_, _, _, _, _, _, _, _]) A d_Re_bitsOf_99 (by decide) rfl <| ra_aload_n A d_Re_bitsOf_100 rfl <| ra_bipush A 15 d_Re_bitsOf_101 (by decide) <| ra_putI (ty := .int) A f_Re_90 rfl rfl (by decide +kernel) rfl rfl d_Re_bitsOf_103 (Nat.le_of_ble_eq_true rfl) rfl rfl <| ra_lload_n A d_Re_bitsOf_106 rfl <| ?_
      refine ra_lret A ow d_Re_bitsOf_107 ?_
      have e := step 14 (by omega) q
      have := hX _ (ft.trans (f1_I (j := 5) (v := 15) (by decide))) (by rw [xI_e, e]; rfl) (by rw [xI_j (by decide), xI_e])
      rw [e] at this
      exact this
    · refine ra_if_ge (q := 106) A d_Re_bitsOf_94 (by decide) (fun _ => ?_) (fun cc => absurd (lc_ge.mpr ((pk_lLE (by omega) (by omega)).mpr (by omega))) cc)
      refine ra_lload_n A d_Re_bitsOf_106 rfl <| ?_
      refine ra_lret A ow d_Re_bitsOf_107 ?_
      have e := step' 14 (by omega) q
      have := hX _ ft (by rw [xI_j (by decide), e]; exact hk) xI_e
      rw [e] at this
      exact this
  · rintro t ⟨g, fw, w6⟩ ht ⟨hf, h0, hI⟩ ih
    dsimp only at hf h0 hI ⊢
    have hzt := hz t ht
    refine ra_iload A d_Re_bitsOf_7 rfl <| ra_bipush A 15 d_Re_bitsOf_9 (by decide) <| ?_
    refine ra_icmp_ge (q := 60) A d_Re_bitsOf_11 (by decide) (fun cc => absurd cc (nI_ge (b := 15) ht (by decide))) (fun _ => ?_)
    refine ra_ldc2 A k_Re_88 d_Re_bitsOf_14 <| ra_iload A d_Re_bitsOf_17 rfl <| ra_i2l A d_Re_bitsOf_19 <| ra_lconst A 1 d_Re_bitsOf_20 (by decide) <| ra_ladd A d_Re_bitsOf_21 <| ra_iload_n A d_Re_bitsOf_22 rfl <| ra_i2l A d_Re_bitsOf_23 <| ra_lmul A d_Re_bitsOf_24 <| ?_
    rw [nI_l (by omega), lN_1, nI_l (by omega), lN_mul]
    refine ra_ladd A d_Re_bitsOf_25 <| ra_aload_n A d_Re_bitsOf_26 rfl <| ra_getR A f_Re_17 d_Re_bitsOf_27 (Nat.le_of_ble_eq_true rfl) rfl rfl rfl <| ra_iload_n A d_Re_bitsOf_30 rfl <| ?_
    rw [show (4 : Int64) + lN ((t + 1) * m) = lN (4 + (t + 1) * m) from lN_add 4 _]
    refine ra_aaload A d_Re_bitsOf_31 (Nat.le_of_ble_eq_true rfl) rfl rfl (vp_in_nI hp (by decide)) (by rw [nI_clamp (by omega)]; exact rp.1) ?_
    refine ra_iload A d_Re_bitsOf_32 rfl <| ?_
    refine ra_laload A d_Re_bitsOf_34 (show 91 + p < 157 by omega) rp.2 (vp_in_nI ht (by decide)) ?_
    rw [nI_clamp (by omega), hf.2.2, hzt.1]
    refine ra_ladd A d_Re_bitsOf_35 <| ?_
    rw [lN_add, ← hct t ht]
    refine ra_lstore (L' := [_, _, _, _, _, _, _, _]) A d_Re_bitsOf_36 (by decide) rfl <| ra_lload A d_Re_bitsOf_38 rfl <| ra_lload_n A d_Re_bitsOf_40 rfl <| ra_lcmp A d_Re_bitsOf_41 <| ?_
    have b1 := hcb t (by omega)
    have next : ∀ g' fw', f1 88 [5, 6] h g' → fw' = lN (c (amin c t)) → g'.1 88 5 = nI (amin c t) → xg x (y0 u) 0 0 54 [some (.ref 88), some (.int (nI p)), some (.int (nI m)), some (.long fw'), none, some (.int (nI t)), some (.long (lN (c t))), none] [] g' := by
      intro g' fw' f' e1 e2
      refine ra_iinc (L' := [_, _, _, _, _, _, _, _]) A 1 d_Re_bitsOf_54 rfl (by decide) (by decide) rfl <| ra_goto (q := 7) A d_Re_bitsOf_57 (by decide) <| ?_
      rw [nI_1]
      refine ih (g', fw', _) ⟨f', fun q => by omega, fun t' q => ?_⟩
      obtain rfl : t = t' := by omega
      exact ⟨e1, e2⟩
    have take : ¬ 0 ≤ lg_cmp (lN (c t)) fw → amin c t = t → xg x (y0 u) 0 0 42 [some (.ref 88), some (.int (nI p)), some (.int (nI m)), some (.long fw), none, some (.int (nI t)), some (.long (lN (c t))), none] [.int (lg_cmp (lN (c t)) fw)] g := by
      intro q e
      refine ra_if_ge (q := 54) A d_Re_bitsOf_42 (by decide) (fun cc => absurd cc (q)) (fun _ => ?_)
      refine ra_lload A d_Re_bitsOf_45 rfl <| ra_lstore_n (L' := [_, _, _, _, _, _, _, _]) A d_Re_bitsOf_47 (by decide) rfl <| ra_aload_n A d_Re_bitsOf_48 rfl <| ra_iload A d_Re_bitsOf_49 rfl <| ra_putI (ty := .int) A f_Re_90 rfl rfl (by decide +kernel) rfl rfl d_Re_bitsOf_51 (Nat.le_of_ble_eq_true rfl) rfl rfl <| ?_
      exact next _ _ (hf.trans (f1_I (by decide))) (by rw [e]) (by rw [xI_e, e])
    by_cases t0 : t = 0
    · have e := h0 t0
      subst t0
      refine take ?_ rfl
      rw [lc_ge, e]
      rw [show (9223372036854775807 : Int64) = lN 9223372036854775807 from rfl, pk_lLE (by omega) (by omega)]
      omega
    · obtain ⟨t', rfl⟩ : ∃ t', t = t' + 1 := ⟨t - 1, by omega⟩
      obtain ⟨e1, e2⟩ := hI t' rfl
      have b2 := hcb (amin c t') (by have := hle t'; omega)
      by_cases q : c (t' + 1) < c (amin c t')
      · refine take ?_ (step t' (by omega) q)
        rw [lc_ge, e1, pk_lLE (by omega) (by omega)]
        omega
      · have e := step' t' (by omega) q
        refine ra_if_ge (q := 54) A d_Re_bitsOf_42 (by decide) (fun _ => ?_) (fun cc => absurd (lc_ge.mpr (by rw [e1, pk_lLE (by omega) (by omega)]; omega)) cc)
        exact next _ _ hf (by rw [e, e1]) (by rw [e]; exact e2)
end S68
