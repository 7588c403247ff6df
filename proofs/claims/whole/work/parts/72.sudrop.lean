/-! SoundStream$Subframe: setSample, dropZeros -/
def bz (b : Bool) : Int32 := if b then 1 else 0
section S72
variable {u : xu_T} {l : Launch} {KK : State → Prop} {h : xw_H} {X : xc_R → xw_H → Nat → Nat → Prop}
theorem s_Su_setSample_124 (K : xk_ok u KK) {i : Nat} {v : Int32} (hi : i < 1024) (hX : X (.inl none) (xw_I h 125 i v) 0 0) : xm_M l (y0 u) KK m_Su_setSample [.ref 124, .int (nI i), .int v] h X := by
  refine xm_of [] (by simp) (Nat.le_of_ble_eq_true rfl) (by decide) (fun x at0 => ?_)
  have A := xa_of at0 K
  have ow := at0.2.2.2.2.1
  refine ra_aload_n A d_Su_setSample_0 rfl <| ra_getR A f_Su_9 d_Su_setSample_1 (Nat.le_of_ble_eq_true rfl) rfl rfl rfl <| ra_iload_n A d_Su_setSample_4 rfl <| ra_iload_n A d_Su_setSample_5 rfl <| ?_
  refine ra_iastore A d_Su_setSample_6 (Nat.le_of_ble_eq_true rfl) rfl (vp_in_nI hi (by decide)) ?_
  rw [nI_clamp (by omega)]
  exact ra_vret A ow d_Su_setSample_7 hX
theorem s_Su_dropZeros_124 (K : xk_ok u KK) {n : Nat} {sm : Nat → Int32} (hn : n ≤ 1024) (e2 : h.1 124 2 = nI n) (es : ∀ i, i < n → h.1 125 i = sm i)
    (hX : ∀ h', h'.2 = h.2 → (∀ c, c ≠ 124 → c ≠ 125 → h'.1 c = h.1 c) → (∀ j, j ≠ 6 → h'.1 124 j = h.1 124 j) → h'.1 124 6 = nI (sW sm n) → (∀ i, i < n → h'.1 125 i = sT sm n i) → X (.inl (some (.int (bz (alB sm n))))) h' 0 0) : xm_M l (y0 u) KK m_Su_dropZeros [.ref 124] h X := by
  refine xm_of [none, none, none] (by simp) (Nat.le_of_ble_eq_true rfl) (by decide) (fun x at0 => ?_)
  have A := xa_of at0 K
  have ow := at0.2.2.2.2.1
  refine ra_iconst A 0 d_Su_dropZeros_0 (by decide) <| ra_istore_n (L' := [_, _, _, _]) A d_Su_dropZeros_1 (by decide) rfl <| ra_iconst A 1 d_Su_dropZeros_2 (by decide) <| ra_istore_n (L' := [_, _, _, _]) A d_Su_dropZeros_3 (by decide) rfl <| ra_iconst A 0 d_Su_dropZeros_4 (by decide) <| ra_istore_n (L' := [_, _, _, _]) A d_Su_dropZeros_5 (by decide) rfl <| ?_
  refine lp_up (σ := Unit) (W := fun i _ => xg x (y0 u) 0 0 6 [some (.ref 124), some (.int (oS sm i)), some (.int (bz (alB sm i))), some (.int (nI i))] [] h) (I := fun _ _ => True) n ?_ ?_ 0 () (Nat.zero_le _) trivial
  · rintro - -
    refine ra_iload_n A d_Su_dropZeros_6 rfl <| ra_aload_n A d_Su_dropZeros_7 rfl <| ra_getI A f_Su_19 d_Su_dropZeros_8 (Nat.le_of_ble_eq_true rfl) rfl rfl <| ?_
    rw [e2]
    refine ra_icmp_ge (q := 54) A d_Su_dropZeros_11 (by decide) (fun _ => ?_) (fun cc => absurd (Int32.le_refl _) cc)
    have e2' : ∀ f w, (xw_s1 (xw_I h 124 6 w) 125 f).1 124 2 = nI n := by
      intro f w
      rw [xs1_k (by decide), xI_j (by decide)]
      exact e2
    have fin : xg x (y0 u) 0 0 70 [some (.ref 124), some (.int (oS sm n)), some (.int (bz (alB sm n))), some (.int (nI n))] [] (xw_I h 124 6 (nI (sW sm n))) := by
      refine ra_iconst A 0 d_Su_dropZeros_70 (by decide) <| ra_istore_n (L' := [_, _, _, _]) A d_Su_dropZeros_71 (by decide) rfl <| ?_
      refine lp_up (σ := xw_H) (W := fun i g => xg x (y0 u) 0 0 72 [some (.ref 124), some (.int (oS sm n)), some (.int (bz (alB sm n))), some (.int (nI i))] [] g) (I := fun i g => g = xw_s1 (xw_I h 124 6 (nI (sW sm n))) 125 (fun j => if j < i then sT sm n j else h.1 125 j)) n ?_ ?_ 0 _ (Nat.zero_le _) (xs1_id (fun j => if_neg (by omega))).symm
      · rintro g rfl
        refine ra_iload_n A d_Su_dropZeros_72 rfl <| ra_aload_n A d_Su_dropZeros_73 rfl <| ra_getI A f_Su_19 d_Su_dropZeros_74 (Nat.le_of_ble_eq_true rfl) rfl rfl <| ?_
        rw [e2']
        refine ra_icmp_ge (q := 99) A d_Su_dropZeros_77 (by decide) (fun _ => ?_) (fun cc => absurd (Int32.le_refl _) cc)
        refine ra_iload_n A d_Su_dropZeros_99 rfl <| ?_
        have fin := hX (xw_s1 (xw_I h 124 6 (nI (sW sm n))) 125 (fun j => if j < n then sT sm n j else h.1 125 j)) rfl (fun c c1 c2 => by rw [xs1_k c2, xI_k c1]) (fun j hj => by rw [xs1_k (by decide), xI_j hj]) (by rw [xs1_k (by decide), xI_e]) (fun i hi => by rw [xs1_e, if_pos hi])
        cases hb : alB sm n
        · rw [hb] at fin
          exact ra_zret A ow rfl d_Su_dropZeros_100 fin
        · rw [hb] at fin
          exact ra_zret A ow rfl d_Su_dropZeros_100 fin
      · rintro i g hi rfl ih
        refine ra_iload_n A d_Su_dropZeros_72 rfl <| ra_aload_n A d_Su_dropZeros_73 rfl <| ra_getI A f_Su_19 d_Su_dropZeros_74 (Nat.le_of_ble_eq_true rfl) rfl rfl <| ?_
        rw [e2']
        refine ra_icmp_ge (q := 99) A d_Su_dropZeros_77 (by decide) (fun cc => absurd cc (nI_ge hi (by omega))) (fun _ => ?_)
        refine ra_aload_n A d_Su_dropZeros_80 rfl <| ra_getR A f_Su_9 d_Su_dropZeros_81 (Nat.le_of_ble_eq_true rfl) rfl rfl rfl <| ra_iload_n A d_Su_dropZeros_84 rfl <| ra_dup2 A d_Su_dropZeros_85 rfl rfl <| ?_
        refine ra_iaload A d_Su_dropZeros_86 (Nat.le_of_ble_eq_true rfl) rfl (vp_in_nI (by omega) (by decide)) ?_
        rw [nI_clamp (by omega), xs1_e, if_neg (by omega), es i hi]
        refine ra_aload_n A d_Su_dropZeros_87 rfl <| ra_getI A f_Su_27 d_Su_dropZeros_88 (Nat.le_of_ble_eq_true rfl) rfl rfl <| ?_
        rw [show (xw_s1 (xw_I h 124 6 (nI (sW sm n))) 125 (fun j => if j < i then sT sm n j else h.1 125 j)).1 124 6 = nI (sW sm n) by rw [xs1_k (by decide), xI_e]]
        refine ra_ishr A d_Su_dropZeros_91 <| ?_
        refine ra_iastore A d_Su_dropZeros_92 (Nat.le_of_ble_eq_true rfl) rfl (vp_in_nI (by omega) (by decide)) ?_
        rw [nI_clamp (by omega)]
        refine ra_iinc (L' := [_, _, _, _]) A 1 d_Su_dropZeros_93 rfl (by decide) (by decide) rfl <| ra_goto (q := 72) A d_Su_dropZeros_96 (by decide) <| ?_
        rw [nI_1]
        refine ih _ (xs1_I (fun q => ?_))
        by_cases c : q = i
        · subst c; rw [if_pos (by omega), if_pos rfl]; rfl
        · rw [if_neg c]
          by_cases c2 : q < i
          · rw [if_pos c2, if_pos (by omega)]
          · rw [if_neg c2, if_neg (by omega)]
    refine ra_aload_n A d_Su_dropZeros_54 rfl <| ra_iload_n A d_Su_dropZeros_55 rfl <| ?_
    by_cases c : oS sm n = 0
    · refine ra_if_ne (q := 63) A d_Su_dropZeros_56 (by decide) (fun cc => absurd (c) cc) (fun _ => ?_)
      refine ra_iconst A 0 d_Su_dropZeros_59 (by decide) <| ra_goto (q := 67) A d_Su_dropZeros_60 (by decide) <| ra_putI (ty := .int) A f_Su_27 rfl rfl (by decide +kernel) rfl rfl d_Su_dropZeros_67 (Nat.le_of_ble_eq_true rfl) rfl rfl <| ?_
      rw [show sW sm n = 0 by unfold sW wz; rw [if_pos c]] at fin
      exact fin
    · refine ra_if_ne (q := 63) A d_Su_dropZeros_56 (by decide) (fun _ => ?_) (fun cc => absurd cc (c))
      refine ra_iload_n A d_Su_dropZeros_63 rfl <| ?_
      refine ra_callS (As := [_]) A ok_Jntz l_Su_67 st_Jntz d_Su_dropZeros_64 rfl (Nat.le_of_ble_eq_true rfl) (xr_of at0 (by decide)) (s_Jntz K (wz_TZ c).1 (wz_TZ c).2 ?_)
      show xg x (y0 u) 0 0 67 _ _ _
      refine ra_putI (ty := .int) A f_Su_27 rfl rfl (by decide +kernel) rfl rfl d_Su_dropZeros_67 (Nat.le_of_ble_eq_true rfl) rfl rfl <| ?_
      exact fin
  · rintro i - hi - ih
    refine ra_iload_n A d_Su_dropZeros_6 rfl <| ra_aload_n A d_Su_dropZeros_7 rfl <| ra_getI A f_Su_19 d_Su_dropZeros_8 (Nat.le_of_ble_eq_true rfl) rfl rfl <| ?_
    rw [e2]
    refine ra_icmp_ge (q := 54) A d_Su_dropZeros_11 (by decide) (fun cc => absurd cc (nI_ge hi (by omega))) (fun _ => ?_)
    refine ra_iload_n A d_Su_dropZeros_14 rfl <| ra_aload_n A d_Su_dropZeros_15 rfl <| ra_getR A f_Su_9 d_Su_dropZeros_16 (Nat.le_of_ble_eq_true rfl) rfl rfl rfl <| ra_iload_n A d_Su_dropZeros_19 rfl <| ?_
    refine ra_iaload A d_Su_dropZeros_20 (Nat.le_of_ble_eq_true rfl) rfl (vp_in_nI (by omega) (by decide)) ?_
    rw [nI_clamp (by omega), es i hi]
    refine ra_ior A d_Su_dropZeros_21 <| ra_istore_n (L' := [_, _, _, _]) A d_Su_dropZeros_22 (by decide) rfl <| ra_iload_n A d_Su_dropZeros_23 rfl <| ?_
    have ih := ih () trivial
    have ea : alB sm (i + 1) = (alB sm i && decide (sm i = sm 0)) := rfl
    have eo : oS sm (i + 1) = oS sm i ||| sm i := rfl
    rw [ea, eo] at ih
    cases hb : alB sm i
    · refine ra_if_eq (q := 46) A d_Su_dropZeros_24 (by decide) (fun _ => ?_) (fun cc => absurd (rfl) cc)
      refine ra_iconst A 0 d_Su_dropZeros_46 (by decide) <| ra_istore_n (L' := [_, _, _, _]) A d_Su_dropZeros_47 (by decide) rfl <| ra_iinc (L' := [_, _, _, _]) A 1 d_Su_dropZeros_48 rfl (by decide) (by decide) rfl <| ra_goto (q := 6) A d_Su_dropZeros_51 (by decide) <| ?_
      rw [nI_1]
      rw [hb, Bool.false_and] at ih
      exact ih
    · rw [hb, Bool.true_and] at ih
      refine ra_if_eq (q := 46) A d_Su_dropZeros_24 (by decide) (fun cc => absurd cc ((by decide))) (fun _ => ?_)
      refine ra_aload_n A d_Su_dropZeros_27 rfl <| ra_getR A f_Su_9 d_Su_dropZeros_28 (Nat.le_of_ble_eq_true rfl) rfl rfl rfl <| ra_iload_n A d_Su_dropZeros_31 rfl <| ?_
      refine ra_iaload A d_Su_dropZeros_32 (Nat.le_of_ble_eq_true rfl) rfl (vp_in_nI (by omega) (by decide)) ?_
      rw [nI_clamp (by omega), es i hi]
      refine ra_aload_n A d_Su_dropZeros_33 rfl <| ra_getR A f_Su_9 d_Su_dropZeros_34 (Nat.le_of_ble_eq_true rfl) rfl rfl rfl <| ra_iconst A 0 d_Su_dropZeros_37 (by decide) <| ?_
      refine ra_iaload A d_Su_dropZeros_38 (Nat.le_of_ble_eq_true rfl) rfl (show vp_in (nI 0) 1024 from vp_in_nI (by decide) (by decide)) ?_
      rw [show (0 : Int32).toNatClampNeg = 0 from rfl, es 0 (by omega)]
      by_cases c : sm i = sm 0
      · refine ra_icmp_ne (q := 46) A d_Su_dropZeros_39 (by decide) (fun cc => absurd (c) cc) (fun _ => ?_)
        refine ra_iconst A 1 d_Su_dropZeros_42 (by decide) <| ra_goto (q := 47) A d_Su_dropZeros_43 (by decide) <| ra_istore_n (L' := [_, _, _, _]) A d_Su_dropZeros_47 (by decide) rfl <| ra_iinc (L' := [_, _, _, _]) A 1 d_Su_dropZeros_48 rfl (by decide) (by decide) rfl <| ra_goto (q := 6) A d_Su_dropZeros_51 (by decide) <| ?_
        rw [nI_1]
        rw [decide_eq_true c] at ih
        exact ih
      · refine ra_icmp_ne (q := 46) A d_Su_dropZeros_39 (by decide) (fun _ => ?_) (fun cc => absurd cc (c))
        refine ra_iconst A 0 d_Su_dropZeros_46 (by decide) <| ra_istore_n (L' := [_, _, _, _]) A d_Su_dropZeros_47 (by decide) rfl <| ra_iinc (L' := [_, _, _, _]) A 1 d_Su_dropZeros_48 rfl (by decide) (by decide) rfl <| ra_goto (q := 6) A d_Su_dropZeros_51 (by decide) <| ?_
        rw [nI_1]
        rw [decide_eq_false c] at ih
        exact ih
theorem s_Su_setSample_126 (K : xk_ok u KK) {i : Nat} {v : Int32} (hi : i < 1024) (hX : X (.inl none) (xw_I h 127 i v) 0 0) : xm_M l (y0 u) KK m_Su_setSample [.ref 126, .int (nI i), .int v] h X := by
  refine xm_of [] (by simp) (Nat.le_of_ble_eq_true rfl) (by decide) (fun x at0 => ?_)
  have A := xa_of at0 K
  have ow := at0.2.2.2.2.1
  refine ra_aload_n A d_Su_setSample_0 rfl <| ra_getR A f_Su_9 d_Su_setSample_1 (Nat.le_of_ble_eq_true rfl) rfl rfl rfl <| ra_iload_n A d_Su_setSample_4 rfl <| ra_iload_n A d_Su_setSample_5 rfl <| ?_
  refine ra_iastore A d_Su_setSample_6 (Nat.le_of_ble_eq_true rfl) rfl (vp_in_nI hi (by decide)) ?_
  rw [nI_clamp (by omega)]
  exact ra_vret A ow d_Su_setSample_7 hX
theorem s_Su_dropZeros_126 (K : xk_ok u KK) {n : Nat} {sm : Nat → Int32} (hn : n ≤ 1024) (e2 : h.1 126 2 = nI n) (es : ∀ i, i < n → h.1 127 i = sm i)
    (hX : ∀ h', h'.2 = h.2 → (∀ c, c ≠ 126 → c ≠ 127 → h'.1 c = h.1 c) → (∀ j, j ≠ 6 → h'.1 126 j = h.1 126 j) → h'.1 126 6 = nI (sW sm n) → (∀ i, i < n → h'.1 127 i = sT sm n i) → X (.inl (some (.int (bz (alB sm n))))) h' 0 0) : xm_M l (y0 u) KK m_Su_dropZeros [.ref 126] h X := by
  refine xm_of [none, none, none] (by simp) (Nat.le_of_ble_eq_true rfl) (by decide) (fun x at0 => ?_)
  have A := xa_of at0 K
  have ow := at0.2.2.2.2.1
  refine ra_iconst A 0 d_Su_dropZeros_0 (by decide) <| ra_istore_n (L' := [_, _, _, _]) A d_Su_dropZeros_1 (by decide) rfl <| ra_iconst A 1 d_Su_dropZeros_2 (by decide) <| ra_istore_n (L' := [_, _, _, _]) A d_Su_dropZeros_3 (by decide) rfl <| ra_iconst A 0 d_Su_dropZeros_4 (by decide) <| ra_istore_n (L' := [_, _, _, _]) A d_Su_dropZeros_5 (by decide) rfl <| ?_
  refine lp_up (σ := Unit) (W := fun i _ => xg x (y0 u) 0 0 6 [some (.ref 126), some (.int (oS sm i)), some (.int (bz (alB sm i))), some (.int (nI i))] [] h) (I := fun _ _ => True) n ?_ ?_ 0 () (Nat.zero_le _) trivial
  · rintro - -
    refine ra_iload_n A d_Su_dropZeros_6 rfl <| ra_aload_n A d_Su_dropZeros_7 rfl <| ra_getI A f_Su_19 d_Su_dropZeros_8 (Nat.le_of_ble_eq_true rfl) rfl rfl <| ?_
    rw [e2]
    refine ra_icmp_ge (q := 54) A d_Su_dropZeros_11 (by decide) (fun _ => ?_) (fun cc => absurd (Int32.le_refl _) cc)
    have e2' : ∀ f w, (xw_s1 (xw_I h 126 6 w) 127 f).1 126 2 = nI n := by
      intro f w
      rw [xs1_k (by decide), xI_j (by decide)]
      exact e2
    have fin : xg x (y0 u) 0 0 70 [some (.ref 126), some (.int (oS sm n)), some (.int (bz (alB sm n))), some (.int (nI n))] [] (xw_I h 126 6 (nI (sW sm n))) := by
      refine ra_iconst A 0 d_Su_dropZeros_70 (by decide) <| ra_istore_n (L' := [_, _, _, _]) A d_Su_dropZeros_71 (by decide) rfl <| ?_
      refine lp_up (σ := xw_H) (W := fun i g => xg x (y0 u) 0 0 72 [some (.ref 126), some (.int (oS sm n)), some (.int (bz (alB sm n))), some (.int (nI i))] [] g) (I := fun i g => g = xw_s1 (xw_I h 126 6 (nI (sW sm n))) 127 (fun j => if j < i then sT sm n j else h.1 127 j)) n ?_ ?_ 0 _ (Nat.zero_le _) (xs1_id (fun j => if_neg (by omega))).symm
      · rintro g rfl
        refine ra_iload_n A d_Su_dropZeros_72 rfl <| ra_aload_n A d_Su_dropZeros_73 rfl <| ra_getI A f_Su_19 d_Su_dropZeros_74 (Nat.le_of_ble_eq_true rfl) rfl rfl <| ?_
        rw [e2']
        refine ra_icmp_ge (q := 99) A d_Su_dropZeros_77 (by decide) (fun _ => ?_) (fun cc => absurd (Int32.le_refl _) cc)
        refine ra_iload_n A d_Su_dropZeros_99 rfl <| ?_
        have fin := hX (xw_s1 (xw_I h 126 6 (nI (sW sm n))) 127 (fun j => if j < n then sT sm n j else h.1 127 j)) rfl (fun c c1 c2 => by rw [xs1_k c2, xI_k c1]) (fun j hj => by rw [xs1_k (by decide), xI_j hj]) (by rw [xs1_k (by decide), xI_e]) (fun i hi => by rw [xs1_e, if_pos hi])
        cases hb : alB sm n
        · rw [hb] at fin
          exact ra_zret A ow rfl d_Su_dropZeros_100 fin
        · rw [hb] at fin
          exact ra_zret A ow rfl d_Su_dropZeros_100 fin
      · rintro i g hi rfl ih
        refine ra_iload_n A d_Su_dropZeros_72 rfl <| ra_aload_n A d_Su_dropZeros_73 rfl <| ra_getI A f_Su_19 d_Su_dropZeros_74 (Nat.le_of_ble_eq_true rfl) rfl rfl <| ?_
        rw [e2']
        refine ra_icmp_ge (q := 99) A d_Su_dropZeros_77 (by decide) (fun cc => absurd cc (nI_ge hi (by omega))) (fun _ => ?_)
        refine ra_aload_n A d_Su_dropZeros_80 rfl <| ra_getR A f_Su_9 d_Su_dropZeros_81 (Nat.le_of_ble_eq_true rfl) rfl rfl rfl <| ra_iload_n A d_Su_dropZeros_84 rfl <| ra_dup2 A d_Su_dropZeros_85 rfl rfl <| ?_
        refine ra_iaload A d_Su_dropZeros_86 (Nat.le_of_ble_eq_true rfl) rfl (vp_in_nI (by omega) (by decide)) ?_
        rw [nI_clamp (by omega), xs1_e, if_neg (by omega), es i hi]
        refine ra_aload_n A d_Su_dropZeros_87 rfl <| ra_getI A f_Su_27 d_Su_dropZeros_88 (Nat.le_of_ble_eq_true rfl) rfl rfl <| ?_
        rw [show (xw_s1 (xw_I h 126 6 (nI (sW sm n))) 127 (fun j => if j < i then sT sm n j else h.1 127 j)).1 126 6 = nI (sW sm n) by rw [xs1_k (by decide), xI_e]]
        refine ra_ishr A d_Su_dropZeros_91 <| ?_
        refine ra_iastore A d_Su_dropZeros_92 (Nat.le_of_ble_eq_true rfl) rfl (vp_in_nI (by omega) (by decide)) ?_
        rw [nI_clamp (by omega)]
        refine ra_iinc (L' := [_, _, _, _]) A 1 d_Su_dropZeros_93 rfl (by decide) (by decide) rfl <| ra_goto (q := 72) A d_Su_dropZeros_96 (by decide) <| ?_
        rw [nI_1]
        refine ih _ (xs1_I (fun q => ?_))
        by_cases c : q = i
        · subst c; rw [if_pos (by omega), if_pos rfl]; rfl
        · rw [if_neg c]
          by_cases c2 : q < i
          · rw [if_pos c2, if_pos (by omega)]
          · rw [if_neg c2, if_neg (by omega)]
    refine ra_aload_n A d_Su_dropZeros_54 rfl <| ra_iload_n A d_Su_dropZeros_55 rfl <| ?_
    by_cases c : oS sm n = 0
    · refine ra_if_ne (q := 63) A d_Su_dropZeros_56 (by decide) (fun cc => absurd (c) cc) (fun _ => ?_)
      refine ra_iconst A 0 d_Su_dropZeros_59 (by decide) <| ra_goto (q := 67) A d_Su_dropZeros_60 (by decide) <| ra_putI (ty := .int) A f_Su_27 rfl rfl (by decide +kernel) rfl rfl d_Su_dropZeros_67 (Nat.le_of_ble_eq_true rfl) rfl rfl <| ?_
      rw [show sW sm n = 0 by unfold sW wz; rw [if_pos c]] at fin
      exact fin
    · refine ra_if_ne (q := 63) A d_Su_dropZeros_56 (by decide) (fun _ => ?_) (fun cc => absurd cc (c))
      refine ra_iload_n A d_Su_dropZeros_63 rfl <| ?_
      refine ra_callS (As := [_]) A ok_Jntz l_Su_67 st_Jntz d_Su_dropZeros_64 rfl (Nat.le_of_ble_eq_true rfl) (xr_of at0 (by decide)) (s_Jntz K (wz_TZ c).1 (wz_TZ c).2 ?_)
      show xg x (y0 u) 0 0 67 _ _ _
      refine ra_putI (ty := .int) A f_Su_27 rfl rfl (by decide +kernel) rfl rfl d_Su_dropZeros_67 (Nat.le_of_ble_eq_true rfl) rfl rfl <| ?_
      exact fin
  · rintro i - hi - ih
    refine ra_iload_n A d_Su_dropZeros_6 rfl <| ra_aload_n A d_Su_dropZeros_7 rfl <| ra_getI A f_Su_19 d_Su_dropZeros_8 (Nat.le_of_ble_eq_true rfl) rfl rfl <| ?_
    rw [e2]
    refine ra_icmp_ge (q := 54) A d_Su_dropZeros_11 (by decide) (fun cc => absurd cc (nI_ge hi (by omega))) (fun _ => ?_)
    refine ra_iload_n A d_Su_dropZeros_14 rfl <| ra_aload_n A d_Su_dropZeros_15 rfl <| ra_getR A f_Su_9 d_Su_dropZeros_16 (Nat.le_of_ble_eq_true rfl) rfl rfl rfl <| ra_iload_n A d_Su_dropZeros_19 rfl <| ?_
    refine ra_iaload A d_Su_dropZeros_20 (Nat.le_of_ble_eq_true rfl) rfl (vp_in_nI (by omega) (by decide)) ?_
    rw [nI_clamp (by omega), es i hi]
    refine ra_ior A d_Su_dropZeros_21 <| ra_istore_n (L' := [_, _, _, _]) A d_Su_dropZeros_22 (by decide) rfl <| ra_iload_n A d_Su_dropZeros_23 rfl <| ?_
    have ih := ih () trivial
    have ea : alB sm (i + 1) = (alB sm i && decide (sm i = sm 0)) := rfl
    have eo : oS sm (i + 1) = oS sm i ||| sm i := rfl
    rw [ea, eo] at ih
    cases hb : alB sm i
    · refine ra_if_eq (q := 46) A d_Su_dropZeros_24 (by decide) (fun _ => ?_) (fun cc => absurd (rfl) cc)
      refine ra_iconst A 0 d_Su_dropZeros_46 (by decide) <| ra_istore_n (L' := [_, _, _, _]) A d_Su_dropZeros_47 (by decide) rfl <| ra_iinc (L' := [_, _, _, _]) A 1 d_Su_dropZeros_48 rfl (by decide) (by decide) rfl <| ra_goto (q := 6) A d_Su_dropZeros_51 (by decide) <| ?_
      rw [nI_1]
      rw [hb, Bool.false_and] at ih
      exact ih
    · rw [hb, Bool.true_and] at ih
      refine ra_if_eq (q := 46) A d_Su_dropZeros_24 (by decide) (fun cc => absurd cc ((by decide))) (fun _ => ?_)
      refine ra_aload_n A d_Su_dropZeros_27 rfl <| ra_getR A f_Su_9 d_Su_dropZeros_28 (Nat.le_of_ble_eq_true rfl) rfl rfl rfl <| ra_iload_n A d_Su_dropZeros_31 rfl <| ?_
      refine ra_iaload A d_Su_dropZeros_32 (Nat.le_of_ble_eq_true rfl) rfl (vp_in_nI (by omega) (by decide)) ?_
      rw [nI_clamp (by omega), es i hi]
      refine ra_aload_n A d_Su_dropZeros_33 rfl <| ra_getR A f_Su_9 d_Su_dropZeros_34 (Nat.le_of_ble_eq_true rfl) rfl rfl rfl <| ra_iconst A 0 d_Su_dropZeros_37 (by decide) <| ?_
      refine ra_iaload A d_Su_dropZeros_38 (Nat.le_of_ble_eq_true rfl) rfl (show vp_in (nI 0) 1024 from vp_in_nI (by decide) (by decide)) ?_
      rw [show (0 : Int32).toNatClampNeg = 0 from rfl, es 0 (by omega)]
      by_cases c : sm i = sm 0
      · refine ra_icmp_ne (q := 46) A d_Su_dropZeros_39 (by decide) (fun cc => absurd (c) cc) (fun _ => ?_)
        refine ra_iconst A 1 d_Su_dropZeros_42 (by decide) <| ra_goto (q := 47) A d_Su_dropZeros_43 (by decide) <| ra_istore_n (L' := [_, _, _, _]) A d_Su_dropZeros_47 (by decide) rfl <| ra_iinc (L' := [_, _, _, _]) A 1 d_Su_dropZeros_48 rfl (by decide) (by decide) rfl <| ra_goto (q := 6) A d_Su_dropZeros_51 (by decide) <| ?_
        rw [nI_1]
        rw [decide_eq_true c] at ih
        exact ih
      · refine ra_icmp_ne (q := 46) A d_Su_dropZeros_39 (by decide) (fun _ => ?_) (fun cc => absurd cc (c))
        refine ra_iconst A 0 d_Su_dropZeros_46 (by decide) <| ra_istore_n (L' := [_, _, _, _]) A d_Su_dropZeros_47 (by decide) rfl <| ra_iinc (L' := [_, _, _, _]) A 1 d_Su_dropZeros_48 rfl (by decide) (by decide) rfl <| ra_goto (q := 6) A d_Su_dropZeros_51 (by decide) <| ?_
        rw [nI_1]
        rw [decide_eq_false c] at ih
        exact ih
theorem s_Su_setSample_128 (K : xk_ok u KK) {i : Nat} {v : Int32} (hi : i < 1024) (hX : X (.inl none) (xw_I h 129 i v) 0 0) : xm_M l (y0 u) KK m_Su_setSample [.ref 128, .int (nI i), .int v] h X := by
  refine xm_of [] (by simp) (Nat.le_of_ble_eq_true rfl) (by decide) (fun x at0 => ?_)
  have A := xa_of at0 K
  have ow := at0.2.2.2.2.1
  refine ra_aload_n A d_Su_setSample_0 rfl <| ra_getR A f_Su_9 d_Su_setSample_1 (Nat.le_of_ble_eq_true rfl) rfl rfl rfl <| ra_iload_n A d_Su_setSample_4 rfl <| ra_iload_n A d_Su_setSample_5 rfl <| ?_
  refine ra_iastore A d_Su_setSample_6 (Nat.le_of_ble_eq_true rfl) rfl (vp_in_nI hi (by decide)) ?_
  rw [nI_clamp (by omega)]
  exact ra_vret A ow d_Su_setSample_7 hX
theorem s_Su_dropZeros_128 (K : xk_ok u KK) {n : Nat} {sm : Nat → Int32} (hn : n ≤ 1024) (e2 : h.1 128 2 = nI n) (es : ∀ i, i < n → h.1 129 i = sm i)
    (hX : ∀ h', h'.2 = h.2 → (∀ c, c ≠ 128 → c ≠ 129 → h'.1 c = h.1 c) → (∀ j, j ≠ 6 → h'.1 128 j = h.1 128 j) → h'.1 128 6 = nI (sW sm n) → (∀ i, i < n → h'.1 129 i = sT sm n i) → X (.inl (some (.int (bz (alB sm n))))) h' 0 0) : xm_M l (y0 u) KK m_Su_dropZeros [.ref 128] h X := by
  refine xm_of [none, none, none] (by simp) (Nat.le_of_ble_eq_true rfl) (by decide) (fun x at0 => ?_)
  have A := xa_of at0 K
  have ow := at0.2.2.2.2.1
  refine ra_iconst A 0 d_Su_dropZeros_0 (by decide) <| ra_istore_n (L' := [_, _, _, _]) A d_Su_dropZeros_1 (by decide) rfl <| ra_iconst A 1 d_Su_dropZeros_2 (by decide) <| ra_istore_n (L' := [_, _, _, _]) A d_Su_dropZeros_3 (by decide) rfl <| ra_iconst A 0 d_Su_dropZeros_4 (by decide) <| ra_istore_n (L' := [_, _, _, _]) A d_Su_dropZeros_5 (by decide) rfl <| ?_
  refine lp_up (σ := Unit) (W := fun i _ => xg x (y0 u) 0 0 6 [some (.ref 128), some (.int (oS sm i)), some (.int (bz (alB sm i))), some (.int (nI i))] [] h) (I := fun _ _ => True) n ?_ ?_ 0 () (Nat.zero_le _) trivial
  · rintro - -
    refine ra_iload_n A d_Su_dropZeros_6 rfl <| ra_aload_n A d_Su_dropZeros_7 rfl <| ra_getI A f_Su_19 d_Su_dropZeros_8 (Nat.le_of_ble_eq_true rfl) rfl rfl <| ?_
    rw [e2]
    refine ra_icmp_ge (q := 54) A d_Su_dropZeros_11 (by decide) (fun _ => ?_) (fun cc => absurd (Int32.le_refl _) cc)
    have e2' : ∀ f w, (xw_s1 (xw_I h 128 6 w) 129 f).1 128 2 = nI n := by
      intro f w
      rw [xs1_k (by decide), xI_j (by decide)]
      exact e2
    have fin : xg x (y0 u) 0 0 70 [some (.ref 128), some (.int (oS sm n)), some (.int (bz (alB sm n))), some (.int (nI n))] [] (xw_I h 128 6 (nI (sW sm n))) := by
      refine ra_iconst A 0 d_Su_dropZeros_70 (by decide) <| ra_istore_n (L' := [_, _, _, _]) A d_Su_dropZeros_71 (by decide) rfl <| ?_
      refine lp_up (σ := xw_H) (W := fun i g => xg x (y0 u) 0 0 72 [some (.ref 128), some (.int (oS sm n)), some (.int (bz (alB sm n))), some (.int (nI i))] [] g) (I := fun i g => g = xw_s1 (xw_I h 128 6 (nI (sW sm n))) 129 (fun j => if j < i then sT sm n j else h.1 129 j)) n ?_ ?_ 0 _ (Nat.zero_le _) (xs1_id (fun j => if_neg (by omega))).symm
      · rintro g rfl
        refine ra_iload_n A d_Su_dropZeros_72 rfl <| ra_aload_n A d_Su_dropZeros_73 rfl <| ra_getI A f_Su_19 d_Su_dropZeros_74 (Nat.le_of_ble_eq_true rfl) rfl rfl <| ?_
        rw [e2']
        refine ra_icmp_ge (q := 99) A d_Su_dropZeros_77 (by decide) (fun _ => ?_) (fun cc => absurd (Int32.le_refl _) cc)
        refine ra_iload_n A d_Su_dropZeros_99 rfl <| ?_
        have fin := hX (xw_s1 (xw_I h 128 6 (nI (sW sm n))) 129 (fun j => if j < n then sT sm n j else h.1 129 j)) rfl (fun c c1 c2 => by rw [xs1_k c2, xI_k c1]) (fun j hj => by rw [xs1_k (by decide), xI_j hj]) (by rw [xs1_k (by decide), xI_e]) (fun i hi => by rw [xs1_e, if_pos hi])
        cases hb : alB sm n
        · rw [hb] at fin
          exact ra_zret A ow rfl d_Su_dropZeros_100 fin
        · rw [hb] at fin
          exact ra_zret A ow rfl d_Su_dropZeros_100 fin
      · rintro i g hi rfl ih
        refine ra_iload_n A d_Su_dropZeros_72 rfl <| ra_aload_n A d_Su_dropZeros_73 rfl <| ra_getI A f_Su_19 d_Su_dropZeros_74 (Nat.le_of_ble_eq_true rfl) rfl rfl <| ?_
        rw [e2']
        refine ra_icmp_ge (q := 99) A d_Su_dropZeros_77 (by decide) (fun cc => absurd cc (nI_ge hi (by omega))) (fun _ => ?_)
        refine ra_aload_n A d_Su_dropZeros_80 rfl <| ra_getR A f_Su_9 d_Su_dropZeros_81 (Nat.le_of_ble_eq_true rfl) rfl rfl rfl <| ra_iload_n A d_Su_dropZeros_84 rfl <| ra_dup2 A d_Su_dropZeros_85 rfl rfl <| ?_
        refine ra_iaload A d_Su_dropZeros_86 (Nat.le_of_ble_eq_true rfl) rfl (vp_in_nI (by omega) (by decide)) ?_
        rw [nI_clamp (by omega), xs1_e, if_neg (by omega), es i hi]
        refine ra_aload_n A d_Su_dropZeros_87 rfl <| ra_getI A f_Su_27 d_Su_dropZeros_88 (Nat.le_of_ble_eq_true rfl) rfl rfl <| ?_
        rw [show (xw_s1 (xw_I h 128 6 (nI (sW sm n))) 129 (fun j => if j < i then sT sm n j else h.1 129 j)).1 128 6 = nI (sW sm n) by rw [xs1_k (by decide), xI_e]]
        refine ra_ishr A d_Su_dropZeros_91 <| ?_
        refine ra_iastore A d_Su_dropZeros_92 (Nat.le_of_ble_eq_true rfl) rfl (vp_in_nI (by omega) (by decide)) ?_
        rw [nI_clamp (by omega)]
        refine ra_iinc (L' := [_, _, _, _]) A 1 d_Su_dropZeros_93 rfl (by decide) (by decide) rfl <| ra_goto (q := 72) A d_Su_dropZeros_96 (by decide) <| ?_
        rw [nI_1]
        refine ih _ (xs1_I (fun q => ?_))
        by_cases c : q = i
        · subst c; rw [if_pos (by omega), if_pos rfl]; rfl
        · rw [if_neg c]
          by_cases c2 : q < i
          · rw [if_pos c2, if_pos (by omega)]
          · rw [if_neg c2, if_neg (by omega)]
    refine ra_aload_n A d_Su_dropZeros_54 rfl <| ra_iload_n A d_Su_dropZeros_55 rfl <| ?_
    by_cases c : oS sm n = 0
    · refine ra_if_ne (q := 63) A d_Su_dropZeros_56 (by decide) (fun cc => absurd (c) cc) (fun _ => ?_)
      refine ra_iconst A 0 d_Su_dropZeros_59 (by decide) <| ra_goto (q := 67) A d_Su_dropZeros_60 (by decide) <| ra_putI (ty := .int) A f_Su_27 rfl rfl (by decide +kernel) rfl rfl d_Su_dropZeros_67 (Nat.le_of_ble_eq_true rfl) rfl rfl <| ?_
      rw [show sW sm n = 0 by unfold sW wz; rw [if_pos c]] at fin
      exact fin
    · refine ra_if_ne (q := 63) A d_Su_dropZeros_56 (by decide) (fun _ => ?_) (fun cc => absurd cc (c))
      refine ra_iload_n A d_Su_dropZeros_63 rfl <| ?_
      refine ra_callS (As := [_]) A ok_Jntz l_Su_67 st_Jntz d_Su_dropZeros_64 rfl (Nat.le_of_ble_eq_true rfl) (xr_of at0 (by decide)) (s_Jntz K (wz_TZ c).1 (wz_TZ c).2 ?_)
      show xg x (y0 u) 0 0 67 _ _ _
      refine ra_putI (ty := .int) A f_Su_27 rfl rfl (by decide +kernel) rfl rfl d_Su_dropZeros_67 (Nat.le_of_ble_eq_true rfl) rfl rfl <| ?_
      exact fin
  · rintro i - hi - ih
    refine ra_iload_n A d_Su_dropZeros_6 rfl <| ra_aload_n A d_Su_dropZeros_7 rfl <| ra_getI A f_Su_19 d_Su_dropZeros_8 (Nat.le_of_ble_eq_true rfl) rfl rfl <| ?_
    rw [e2]
    refine ra_icmp_ge (q := 54) A d_Su_dropZeros_11 (by decide) (fun cc => absurd cc (nI_ge hi (by omega))) (fun _ => ?_)
    refine ra_iload_n A d_Su_dropZeros_14 rfl <| ra_aload_n A d_Su_dropZeros_15 rfl <| ra_getR A f_Su_9 d_Su_dropZeros_16 (Nat.le_of_ble_eq_true rfl) rfl rfl rfl <| ra_iload_n A d_Su_dropZeros_19 rfl <| ?_
    refine ra_iaload A d_Su_dropZeros_20 (Nat.le_of_ble_eq_true rfl) rfl (vp_in_nI (by omega) (by decide)) ?_
    rw [nI_clamp (by omega), es i hi]
    refine ra_ior A d_Su_dropZeros_21 <| ra_istore_n (L' := [_, _, _, _]) A d_Su_dropZeros_22 (by decide) rfl <| ra_iload_n A d_Su_dropZeros_23 rfl <| ?_
    have ih := ih () trivial
    have ea : alB sm (i + 1) = (alB sm i && decide (sm i = sm 0)) := rfl
    have eo : oS sm (i + 1) = oS sm i ||| sm i := rfl
    rw [ea, eo] at ih
    cases hb : alB sm i
    · refine ra_if_eq (q := 46) A d_Su_dropZeros_24 (by decide) (fun _ => ?_) (fun cc => absurd (rfl) cc)
      refine ra_iconst A 0 d_Su_dropZeros_46 (by decide) <| ra_istore_n (L' := [_, _, _, _]) A d_Su_dropZeros_47 (by decide) rfl <| ra_iinc (L' := [_, _, _, _]) A 1 d_Su_dropZeros_48 rfl (by decide) (by decide) rfl <| ra_goto (q := 6) A d_Su_dropZeros_51 (by decide) <| ?_
      rw [nI_1]
      rw [hb, Bool.false_and] at ih
      exact ih
    · rw [hb, Bool.true_and] at ih
      refine ra_if_eq (q := 46) A d_Su_dropZeros_24 (by decide) (fun cc => absurd cc ((by decide))) (fun _ => ?_)
      refine ra_aload_n A d_Su_dropZeros_27 rfl <| ra_getR A f_Su_9 d_Su_dropZeros_28 (Nat.le_of_ble_eq_true rfl) rfl rfl rfl <| ra_iload_n A d_Su_dropZeros_31 rfl <| ?_
      refine ra_iaload A d_Su_dropZeros_32 (Nat.le_of_ble_eq_true rfl) rfl (vp_in_nI (by omega) (by decide)) ?_
      rw [nI_clamp (by omega), es i hi]
      refine ra_aload_n A d_Su_dropZeros_33 rfl <| ra_getR A f_Su_9 d_Su_dropZeros_34 (Nat.le_of_ble_eq_true rfl) rfl rfl rfl <| ra_iconst A 0 d_Su_dropZeros_37 (by decide) <| ?_
      refine ra_iaload A d_Su_dropZeros_38 (Nat.le_of_ble_eq_true rfl) rfl (show vp_in (nI 0) 1024 from vp_in_nI (by decide) (by decide)) ?_
      rw [show (0 : Int32).toNatClampNeg = 0 from rfl, es 0 (by omega)]
      by_cases c : sm i = sm 0
      · refine ra_icmp_ne (q := 46) A d_Su_dropZeros_39 (by decide) (fun cc => absurd (c) cc) (fun _ => ?_)
        refine ra_iconst A 1 d_Su_dropZeros_42 (by decide) <| ra_goto (q := 47) A d_Su_dropZeros_43 (by decide) <| ra_istore_n (L' := [_, _, _, _]) A d_Su_dropZeros_47 (by decide) rfl <| ra_iinc (L' := [_, _, _, _]) A 1 d_Su_dropZeros_48 rfl (by decide) (by decide) rfl <| ra_goto (q := 6) A d_Su_dropZeros_51 (by decide) <| ?_
        rw [nI_1]
        rw [decide_eq_true c] at ih
        exact ih
      · refine ra_icmp_ne (q := 46) A d_Su_dropZeros_39 (by decide) (fun _ => ?_) (fun cc => absurd cc (c))
        refine ra_iconst A 0 d_Su_dropZeros_46 (by decide) <| ra_istore_n (L' := [_, _, _, _]) A d_Su_dropZeros_47 (by decide) rfl <| ra_iinc (L' := [_, _, _, _]) A 1 d_Su_dropZeros_48 rfl (by decide) (by decide) rfl <| ra_goto (q := 6) A d_Su_dropZeros_51 (by decide) <| ?_
        rw [nI_1]
        rw [decide_eq_false c] at ih
        exact ih
theorem s_Su_setSample_130 (K : xk_ok u KK) {i : Nat} {v : Int32} (hi : i < 1024) (hX : X (.inl none) (xw_I h 131 i v) 0 0) : xm_M l (y0 u) KK m_Su_setSample [.ref 130, .int (nI i), .int v] h X := by
  refine xm_of [] (by simp) (Nat.le_of_ble_eq_true rfl) (by decide) (fun x at0 => ?_)
  have A := xa_of at0 K
  have ow := at0.2.2.2.2.1
  refine ra_aload_n A d_Su_setSample_0 rfl <| ra_getR A f_Su_9 d_Su_setSample_1 (Nat.le_of_ble_eq_true rfl) rfl rfl rfl <| ra_iload_n A d_Su_setSample_4 rfl <| ra_iload_n A d_Su_setSample_5 rfl <| ?_
  refine ra_iastore A d_Su_setSample_6 (Nat.le_of_ble_eq_true rfl) rfl (vp_in_nI hi (by decide)) ?_
  rw [nI_clamp (by omega)]
  exact ra_vret A ow d_Su_setSample_7 hX
theorem s_Su_dropZeros_130 (K : xk_ok u KK) {n : Nat} {sm : Nat → Int32} (hn : n ≤ 1024) (e2 : h.1 130 2 = nI n) (es : ∀ i, i < n → h.1 131 i = sm i)
    (hX : ∀ h', h'.2 = h.2 → (∀ c, c ≠ 130 → c ≠ 131 → h'.1 c = h.1 c) → (∀ j, j ≠ 6 → h'.1 130 j = h.1 130 j) → h'.1 130 6 = nI (sW sm n) → (∀ i, i < n → h'.1 131 i = sT sm n i) → X (.inl (some (.int (bz (alB sm n))))) h' 0 0) : xm_M l (y0 u) KK m_Su_dropZeros [.ref 130] h X := by
  refine xm_of [none, none, none] (by simp) (Nat.le_of_ble_eq_true rfl) (by decide) (fun x at0 => ?_)
  have A := xa_of at0 K
  have ow := at0.2.2.2.2.1
  refine ra_iconst A 0 d_Su_dropZeros_0 (by decide) <| ra_istore_n (L' := [_, _, _, _]) A d_Su_dropZeros_1 (by decide) rfl <| ra_iconst A 1 d_Su_dropZeros_2 (by decide) <| ra_istore_n (L' := [_, _, _, _]) A d_Su_dropZeros_3 (by decide) rfl <| ra_iconst A 0 d_Su_dropZeros_4 (by decide) <| ra_istore_n (L' := [_, _, _, _]) A d_Su_dropZeros_5 (by decide) rfl <| ?_
  refine lp_up (σ := Unit) (W := fun i _ => xg x (y0 u) 0 0 6 [some (.ref 130), some (.int (oS sm i)), some (.int (bz (alB sm i))), some (.int (nI i))] [] h) (I := fun _ _ => True) n ?_ ?_ 0 () (Nat.zero_le _) trivial
  · rintro - -
    refine ra_iload_n A d_Su_dropZeros_6 rfl <| ra_aload_n A d_Su_dropZeros_7 rfl <| ra_getI A f_Su_19 d_Su_dropZeros_8 (Nat.le_of_ble_eq_true rfl) rfl rfl <| ?_
    rw [e2]
    refine ra_icmp_ge (q := 54) A d_Su_dropZeros_11 (by decide) (fun _ => ?_) (fun cc => absurd (Int32.le_refl _) cc)
    have e2' : ∀ f w, (xw_s1 (xw_I h 130 6 w) 131 f).1 130 2 = nI n := by
      intro f w
      rw [xs1_k (by decide), xI_j (by decide)]
      exact e2
    have fin : xg x (y0 u) 0 0 70 [some (.ref 130), some (.int (oS sm n)), some (.int (bz (alB sm n))), some (.int (nI n))] [] (xw_I h 130 6 (nI (sW sm n))) := by
      refine ra_iconst A 0 d_Su_dropZeros_70 (by decide) <| ra_istore_n (L' := [_, _, _, _]) A d_Su_dropZeros_71 (by decide) rfl <| ?_
      refine lp_up (σ := xw_H) (W := fun i g => xg x (y0 u) 0 0 72 [some (.ref 130), some (.int (oS sm n)), some (.int (bz (alB sm n))), some (.int (nI i))] [] g) (I := fun i g => g = xw_s1 (xw_I h 130 6 (nI (sW sm n))) 131 (fun j => if j < i then sT sm n j else h.1 131 j)) n ?_ ?_ 0 _ (Nat.zero_le _) (xs1_id (fun j => if_neg (by omega))).symm
      · rintro g rfl
        refine ra_iload_n A d_Su_dropZeros_72 rfl <| ra_aload_n A d_Su_dropZeros_73 rfl <| ra_getI A f_Su_19 d_Su_dropZeros_74 (Nat.le_of_ble_eq_true rfl) rfl rfl <| ?_
        rw [e2']
        refine ra_icmp_ge (q := 99) A d_Su_dropZeros_77 (by decide) (fun _ => ?_) (fun cc => absurd (Int32.le_refl _) cc)
        refine ra_iload_n A d_Su_dropZeros_99 rfl <| ?_
        have fin := hX (xw_s1 (xw_I h 130 6 (nI (sW sm n))) 131 (fun j => if j < n then sT sm n j else h.1 131 j)) rfl (fun c c1 c2 => by rw [xs1_k c2, xI_k c1]) (fun j hj => by rw [xs1_k (by decide), xI_j hj]) (by rw [xs1_k (by decide), xI_e]) (fun i hi => by rw [xs1_e, if_pos hi])
        cases hb : alB sm n
        · rw [hb] at fin
          exact ra_zret A ow rfl d_Su_dropZeros_100 fin
        · rw [hb] at fin
          exact ra_zret A ow rfl d_Su_dropZeros_100 fin
      · rintro i g hi rfl ih
        refine ra_iload_n A d_Su_dropZeros_72 rfl <| ra_aload_n A d_Su_dropZeros_73 rfl <| ra_getI A f_Su_19 d_Su_dropZeros_74 (Nat.le_of_ble_eq_true rfl) rfl rfl <| ?_
        rw [e2']
        refine ra_icmp_ge (q := 99) A d_Su_dropZeros_77 (by decide) (fun cc => absurd cc (nI_ge hi (by omega))) (fun _ => ?_)
        refine ra_aload_n A d_Su_dropZeros_80 rfl <| ra_getR A f_Su_9 d_Su_dropZeros_81 (Nat.le_of_ble_eq_true rfl) rfl rfl rfl <| ra_iload_n A d_Su_dropZeros_84 rfl <| ra_dup2 A d_Su_dropZeros_85 rfl rfl <| ?_
        refine ra_iaload A d_Su_dropZeros_86 (Nat.le_of_ble_eq_true rfl) rfl (vp_in_nI (by omega) (by decide)) ?_
        rw [nI_clamp (by omega), xs1_e, if_neg (by omega), es i hi]
        refine ra_aload_n A d_Su_dropZeros_87 rfl <| ra_getI A f_Su_27 d_Su_dropZeros_88 (Nat.le_of_ble_eq_true rfl) rfl rfl <| ?_
        rw [show (xw_s1 (xw_I h 130 6 (nI (sW sm n))) 131 (fun j => if j < i then sT sm n j else h.1 131 j)).1 130 6 = nI (sW sm n) by rw [xs1_k (by decide), xI_e]]
        refine ra_ishr A d_Su_dropZeros_91 <| ?_
        refine ra_iastore A d_Su_dropZeros_92 (Nat.le_of_ble_eq_true rfl) rfl (vp_in_nI (by omega) (by decide)) ?_
        rw [nI_clamp (by omega)]
        refine ra_iinc (L' := [_, _, _, _]) A 1 d_Su_dropZeros_93 rfl (by decide) (by decide) rfl <| ra_goto (q := 72) A d_Su_dropZeros_96 (by decide) <| ?_
        rw [nI_1]
        refine ih _ (xs1_I (fun q => ?_))
        by_cases c : q = i
        · subst c; rw [if_pos (by omega), if_pos rfl]; rfl
        · rw [if_neg c]
          by_cases c2 : q < i
          · rw [if_pos c2, if_pos (by omega)]
          · rw [if_neg c2, if_neg (by omega)]
    refine ra_aload_n A d_Su_dropZeros_54 rfl <| ra_iload_n A d_Su_dropZeros_55 rfl <| ?_
    by_cases c : oS sm n = 0
    · refine ra_if_ne (q := 63) A d_Su_dropZeros_56 (by decide) (fun cc => absurd (c) cc) (fun _ => ?_)
      refine ra_iconst A 0 d_Su_dropZeros_59 (by decide) <| ra_goto (q := 67) A d_Su_dropZeros_60 (by decide) <| ra_putI (ty := .int) A f_Su_27 rfl rfl (by decide +kernel) rfl rfl d_Su_dropZeros_67 (Nat.le_of_ble_eq_true rfl) rfl rfl <| ?_
      rw [show sW sm n = 0 by unfold sW wz; rw [if_pos c]] at fin
      exact fin
    · refine ra_if_ne (q := 63) A d_Su_dropZeros_56 (by decide) (fun _ => ?_) (fun cc => absurd cc (c))
      refine ra_iload_n A d_Su_dropZeros_63 rfl <| ?_
      refine ra_callS (As := [_]) A ok_Jntz l_Su_67 st_Jntz d_Su_dropZeros_64 rfl (Nat.le_of_ble_eq_true rfl) (xr_of at0 (by decide)) (s_Jntz K (wz_TZ c).1 (wz_TZ c).2 ?_)
      show xg x (y0 u) 0 0 67 _ _ _
      refine ra_putI (ty := .int) A f_Su_27 rfl rfl (by decide +kernel) rfl rfl d_Su_dropZeros_67 (Nat.le_of_ble_eq_true rfl) rfl rfl <| ?_
      exact fin
  · rintro i - hi - ih
    refine ra_iload_n A d_Su_dropZeros_6 rfl <| ra_aload_n A d_Su_dropZeros_7 rfl <| ra_getI A f_Su_19 d_Su_dropZeros_8 (Nat.le_of_ble_eq_true rfl) rfl rfl <| ?_
    rw [e2]
    refine ra_icmp_ge (q := 54) A d_Su_dropZeros_11 (by decide) (fun cc => absurd cc (nI_ge hi (by omega))) (fun _ => ?_)
    refine ra_iload_n A d_Su_dropZeros_14 rfl <| ra_aload_n A d_Su_dropZeros_15 rfl <| ra_getR A f_Su_9 d_Su_dropZeros_16 (Nat.le_of_ble_eq_true rfl) rfl rfl rfl <| ra_iload_n A d_Su_dropZeros_19 rfl <| ?_
    refine ra_iaload A d_Su_dropZeros_20 (Nat.le_of_ble_eq_true rfl) rfl (vp_in_nI (by omega) (by decide)) ?_
    rw [nI_clamp (by omega), es i hi]
    refine ra_ior A d_Su_dropZeros_21 <| ra_istore_n (L' := [_, _, _, _]) A d_Su_dropZeros_22 (by decide) rfl <| ra_iload_n A d_Su_dropZeros_23 rfl <| ?_
    have ih := ih () trivial
    have ea : alB sm (i + 1) = (alB sm i && decide (sm i = sm 0)) := rfl
    have eo : oS sm (i + 1) = oS sm i ||| sm i := rfl
    rw [ea, eo] at ih
    cases hb : alB sm i
    · refine ra_if_eq (q := 46) A d_Su_dropZeros_24 (by decide) (fun _ => ?_) (fun cc => absurd (rfl) cc)
      refine ra_iconst A 0 d_Su_dropZeros_46 (by decide) <| ra_istore_n (L' := [_, _, _, _]) A d_Su_dropZeros_47 (by decide) rfl <| ra_iinc (L' := [_, _, _, _]) A 1 d_Su_dropZeros_48 rfl (by decide) (by decide) rfl <| ra_goto (q := 6) A d_Su_dropZeros_51 (by decide) <| ?_
      rw [nI_1]
      rw [hb, Bool.false_and] at ih
      exact ih
    · rw [hb, Bool.true_and] at ih
      refine ra_if_eq (q := 46) A d_Su_dropZeros_24 (by decide) (fun cc => absurd cc ((by decide))) (fun _ => ?_)
      refine ra_aload_n A d_Su_dropZeros_27 rfl <| ra_getR A f_Su_9 d_Su_dropZeros_28 (Nat.le_of_ble_eq_true rfl) rfl rfl rfl <| ra_iload_n A d_Su_dropZeros_31 rfl <| ?_
      refine ra_iaload A d_Su_dropZeros_32 (Nat.le_of_ble_eq_true rfl) rfl (vp_in_nI (by omega) (by decide)) ?_
      rw [nI_clamp (by omega), es i hi]
      refine ra_aload_n A d_Su_dropZeros_33 rfl <| ra_getR A f_Su_9 d_Su_dropZeros_34 (Nat.le_of_ble_eq_true rfl) rfl rfl rfl <| ra_iconst A 0 d_Su_dropZeros_37 (by decide) <| ?_
      refine ra_iaload A d_Su_dropZeros_38 (Nat.le_of_ble_eq_true rfl) rfl (show vp_in (nI 0) 1024 from vp_in_nI (by decide) (by decide)) ?_
      rw [show (0 : Int32).toNatClampNeg = 0 from rfl, es 0 (by omega)]
      by_cases c : sm i = sm 0
      · refine ra_icmp_ne (q := 46) A d_Su_dropZeros_39 (by decide) (fun cc => absurd (c) cc) (fun _ => ?_)
        refine ra_iconst A 1 d_Su_dropZeros_42 (by decide) <| ra_goto (q := 47) A d_Su_dropZeros_43 (by decide) <| ra_istore_n (L' := [_, _, _, _]) A d_Su_dropZeros_47 (by decide) rfl <| ra_iinc (L' := [_, _, _, _]) A 1 d_Su_dropZeros_48 rfl (by decide) (by decide) rfl <| ra_goto (q := 6) A d_Su_dropZeros_51 (by decide) <| ?_
        rw [nI_1]
        rw [decide_eq_true c] at ih
        exact ih
      · refine ra_icmp_ne (q := 46) A d_Su_dropZeros_39 (by decide) (fun _ => ?_) (fun cc => absurd cc (c))
        refine ra_iconst A 0 d_Su_dropZeros_46 (by decide) <| ra_istore_n (L' := [_, _, _, _]) A d_Su_dropZeros_47 (by decide) rfl <| ra_iinc (L' := [_, _, _, _]) A 1 d_Su_dropZeros_48 rfl (by decide) (by decide) rfl <| ra_goto (q := 6) A d_Su_dropZeros_51 (by decide) <| ?_
        rw [nI_1]
        rw [decide_eq_false c] at ih
        exact ih
end S72
