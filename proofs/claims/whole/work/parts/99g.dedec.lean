/-! SoundStream$Decoder: begin, refuse, hasMore, checkWhole; SoundStream: decode -/
def f_dbegin (h : xw_H) : xw_H := xw_I (xw_I (xw_I (f_empty_sound (xw_I (xw_I (xw_I h 133 1 0) 133 3 0) 133 2 0)) 132 5 0) 132 11 0) 132 14 0
theorem dBl_p {F : Nat → Bool} {L : Nat} : ∀ n p b p', dBl F L n p b = .inr p' → p % 8 = 0 → p' % 8 = 0 := by
  intro n
  induction n with
  | zero => intro p b p' h hp; cases h; exact hp
  | succ n ih =>
    intro p b p' h hp
    rw [dBl] at h
    split at h
    · cases h; exact hp
    · split at h
      · cases h
      · split at h
        · cases h
        · split at h
          · cases h
          · exact ih _ _ _ h (by omega)
theorem dIn_p {F : Nat → Bool} {L p : Nat} (h : dIn F L = .inr p) : p % 8 = 0 := by
  unfold dIn at h
  split at h
  · cases h
  · split at h
    · cases h
    · split at h
      · cases h
      · split at h
        · cases h
        · split at h
          · cases h
          · exact dBl_p _ _ _ _ h (by decide)
section S99g
variable {u : xu_T} {l : Launch} {KK : State → Prop} {h : xw_H} {X : xc_R → xw_H → Nat → Nat → Prop}
theorem s_De_begin (K : xk_ok u KK) (hX : X (.inl none) (f_dbegin h) 0 0) : xm_M l (y0 u) KK m_De_begin [.ref 132] h X := by
  refine xm_of [] (by simp) (Nat.le_of_ble_eq_true rfl) (by decide) (fun x at0 => ?_)
  have A := xa_of at0 K
  have ow := at0.2.2.2.2.1
  refine ra_aload_n A d_De_begin_0 rfl <| ra_getR A f_De_24 d_De_begin_1 (Nat.le_of_ble_eq_true rfl) rfl rfl rfl <| ?_
  refine ra_callV (As := []) A ok_Rd_begin l_De_44 im_Rd_begin sl_Rd_begin d_De_begin_4 (Nat.le_of_ble_eq_true rfl) rfl rfl rfl (Nat.le_of_ble_eq_true rfl) (xr_of at0 (by decide)) (s_Rd_begin K ?_)
  show xg x (y0 u) 0 0 7 _ _ _
  refine ra_aload_n A d_De_begin_7 rfl <| ra_getR A f_De_40 d_De_begin_8 (Nat.le_of_ble_eq_true rfl) rfl rfl rfl <| ?_
  refine ra_callV (As := []) A ok_So_empty l_De_47 im_So_empty sl_So_empty d_De_begin_11 (Nat.le_of_ble_eq_true rfl) rfl rfl rfl (Nat.le_of_ble_eq_true rfl) (xr_of at0 (by decide)) (s_So_empty_sound K ?_)
  show xg x (y0 u) 0 0 14 _ _ _
  refine ra_aload_n A d_De_begin_14 rfl <| ra_iconst A 0 d_De_begin_15 (by decide) <| ra_putI (ty := .boolean) A f_De_50 rfl rfl (by decide +kernel) rfl rfl d_De_begin_16 (Nat.le_of_ble_eq_true rfl) rfl rfl <| ra_aload_n A d_De_begin_19 rfl <| ra_iconst A 0 d_De_begin_20 (by decide) <| ra_putI (ty := .int) A f_De_54 rfl rfl (by decide +kernel) rfl rfl d_De_begin_21 (Nat.le_of_ble_eq_true rfl) rfl rfl <| ra_aload_n A d_De_begin_24 rfl <| ra_iconst A 0 d_De_begin_25 (by decide) <| ra_putI (ty := .int) A f_De_58 rfl rfl (by decide +kernel) rfl rfl d_De_begin_26 (Nat.le_of_ble_eq_true rfl) rfl rfl <| ?_
  exact ra_vret A ow d_De_begin_29 hX
theorem s_De_refuse (K : xk_ok u KK) (hX : X (.inl none) (f_empty_sound h) 0 0) : xm_M l (y0 u) KK m_De_refuse [.ref 132] h X := by
  refine xm_of [] (by simp) (Nat.le_of_ble_eq_true rfl) (by decide) (fun x at0 => ?_)
  have A := xa_of at0 K
  have ow := at0.2.2.2.2.1
  refine ra_aload_n A d_De_refuse_0 rfl <| ra_getR A f_De_40 d_De_refuse_1 (Nat.le_of_ble_eq_true rfl) rfl rfl rfl <| ?_
  refine ra_callV (As := []) A ok_So_empty l_De_47 im_So_empty sl_So_empty d_De_refuse_4 (Nat.le_of_ble_eq_true rfl) rfl rfl rfl (Nat.le_of_ble_eq_true rfl) (xr_of at0 (by decide)) (s_So_empty_sound K ?_)
  show xg x (y0 u) 0 0 7 _ _ _
  exact ra_vret A ow d_De_refuse_7 hX
theorem s_De_hasMore (K : xk_ok u KK) {F : Nat → Bool} {L p : Nat} (R : RD h F L p) (hX : X (.inl (some (.int (bz (decide (p / 8 < L)))))) h 0 0) : xm_M l (y0 u) KK m_De_hasMore [.ref 132] h X := by
  refine xm_of [] (by simp) (Nat.le_of_ble_eq_true rfl) (by decide) (fun x at0 => ?_)
  have A := xa_of at0 K
  have ow := at0.2.2.2.2.1
  refine ra_aload_n A d_De_hasMore_0 rfl <| ra_getR A f_De_24 d_De_hasMore_1 (Nat.le_of_ble_eq_true rfl) rfl rfl rfl <| ?_
  refine ra_callV (As := []) A ok_Rd_hasMore l_De_61 im_Rd_hasMore sl_Rd_hasMore d_De_hasMore_4 (Nat.le_of_ble_eq_true rfl) rfl rfl rfl (Nat.le_of_ble_eq_true rfl) (xr_of at0 (by decide)) (s_Rd_hasMore K R ?_)
  show xg x (y0 u) 0 0 7 _ _ h
  cases hb : decide (p / 8 < L)
  · rw [hb] at hX
    exact ra_zret A ow rfl d_De_hasMore_7 hX
  · rw [hb] at hX
    exact ra_zret A ow rfl d_De_hasMore_7 hX
theorem s_De_checkWhole (hl : l.stackTraces = false) {F : Nat → Bool} {L p : Nat} {s : FS} {Q : (Nat × Nat) ⊕ FS} (R : RD h F L p) (hok : iOk F) (hI : IN h F) (hS : DS h F s) (hB : FB F s) (hq : dEn F s p = Q)
    (hX : ∀ h', Q = .inr s → fr DLs h h' → h'.1 132 5 = 1 → IN h' F → DS h' F s → h'.1 133 2 = 0 → X (.inl none) h' 0 0) (hY : ∀ e pl h', Q = .inl (e, pl) → EP h h' e pl → X (.inr ISE) h' 1 6) : xm_M l (y0 u) (KK0 u) m_De_checkWhole [.ref 132] h X := by
  refine xm_of [none] (by simp) (Nat.le_of_ble_eq_true rfl) (by decide) (fun x at0 => ?_)
  have A := xa_of at0 (KK0_ok u)
  have K := KK0_ok u
  have ow := at0.2.2.2.2.1
  have hlx : (xg_l x).stackTraces = false := by rw [at0.2.2.2.2.2.1]; exact hl
  have i0 : vp_in (0 : Int32) 2 := vp_in_nI (n := 0) (by decide) (by decide)
  have hmost := most_le hok
  have hlen := hB.2.1
  have hKn := hok.2.1.2
  unfold dEn at hq
  refine ra_aload_n A d_De_checkWhole_0 rfl <| ra_getR A f_De_24 d_De_checkWhole_1 (Nat.le_of_ble_eq_true rfl) rfl rfl rfl <| ?_
  refine ra_callV (As := []) A ok_Rd_markPlace l_De_100 im_Rd_markPlace sl_Rd_markPlace d_De_checkWhole_4 (Nat.le_of_ble_eq_true rfl) rfl rfl rfl (Nat.le_of_ble_eq_true rfl) (xr_of at0 (by decide)) (s_Rd_markPlace K R ?_)
  show xg x (y0 u) 0 0 7 _ _ _
  have fa : FD h (xw_I h 133 3 (nI (p / 8))) := FD.rfl.I (by decide) (by decide)
  have Pa : (xw_I h 133 3 (nI (p / 8))).1 133 3 = nI (p / 8) := xI_e
  have Fa : (xw_I h 133 3 (nI (p / 8))).1 133 2 = 0 := by rw [xI_j (by decide)]; exact R.2.2.1.2
  have ka : ∀ k, k ≠ 133 → (xw_I h 133 3 (nI (p / 8))).1 k = h.1 k := fun k hk => xI_k hk
  have ja : (xw_I h 133 3 (nI (p / 8))).2 = h.2 := rfl
  generalize xw_I h 133 3 (nI (p / 8)) = ga at fa Pa Fa ka ja ⊢
  have Ia : IN ga F := hI.of (fun j _ => by rw [ka 132 (by decide)]) (by rw [ja]) (ka 136 (by decide))
  have Sa : DS ga F s := by
    unfold DS
    rw [ka 132 (by decide), ka 140 (by decide), ka 138 (by decide), ka 139 (by decide)]
    exact hS
  have e40 := Sa.1.2.2.2.1
  refine ra_aload_n A d_De_checkWhole_7 rfl <| ra_getR A f_De_24 d_De_checkWhole_8 (Nat.le_of_ble_eq_true rfl) rfl rfl rfl <| ra_aload_n A d_De_checkWhole_11 rfl <| ra_getR A f_De_40 d_De_checkWhole_12 (Nat.le_of_ble_eq_true rfl) rfl rfl rfl <| ra_getR A f_De_77 d_De_checkWhole_15 (Nat.le_of_ble_eq_true rfl) rfl rfl rfl <| ra_iconst A 0 d_De_checkWhole_18 (by decide) <| ?_
  refine ra_iaload A d_De_checkWhole_19 (Nat.le_of_ble_eq_true rfl) rfl i0 ?_
  rw [show ga.1 140 (Int32.toNatClampNeg 0) = nI s.2.1 from e40]
  refine ra_aload_n A d_De_checkWhole_20 rfl <| ra_getI A f_De_137 d_De_checkWhole_21 (Nat.le_of_ble_eq_true rfl) rfl rfl <| ?_
  rw [Ia.1.2.1]
  by_cases c14 : s.2.1 < iKn F
  · rw [if_pos c14] at hq
    refine ra_icmp_lt (q := 31) A d_De_checkWhole_24 (by decide) (fun _ => ?_) (fun cc => absurd (nI_lt c14 (by omega)) cc)
    refine ra_iconst A 0 d_De_checkWhole_31 (by decide) <| ra_bipush A 14 d_De_checkWhole_32 (by decide) <| ?_
    refine ra_callV (As := [_, _]) A ok_Rd_demand l_De_92 im_Rd_demand sl_Rd_demand d_De_checkWhole_34 (Nat.le_of_ble_eq_true rfl) rfl rfl rfl (Nat.le_of_ble_eq_true rfl) (xr_of at0 (by decide)) (s_Rd_demand hlx (c := false) (e := 14) (fun q => by cases q) (fun _ => xgT_out ow at0.2.2.2.2.2.2.2.2.2.2 (hY 14 (p / 8) _ hq.symm ⟨fa.I (by decide) (by decide), xI_e, by rw [xI_j (by decide)]; exact Pa⟩)))
  rw [if_neg c14] at hq
  refine ra_icmp_lt (q := 31) A d_De_checkWhole_24 (by decide) (fun cc => absurd cc (fun z => absurd ((nI_ltI (by omega) (by omega)).mp z) c14)) (fun _ => ?_)
  refine ra_iconst A 1 d_De_checkWhole_27 (by decide) <| ra_goto (q := 32) A d_De_checkWhole_28 (by decide) <| ra_bipush A 14 d_De_checkWhole_32 (by decide) <| ?_
  refine ra_callV (As := [_, _]) A ok_Rd_demand l_De_92 im_Rd_demand sl_Rd_demand d_De_checkWhole_34 (Nat.le_of_ble_eq_true rfl) rfl rfl rfl (Nat.le_of_ble_eq_true rfl) (xr_of at0 (by decide)) (s_Rd_demand hlx (c := true) (e := 14) (fun _ => ?_) (fun q => by cases q))
  show xg x (y0 u) 0 0 37 _ _ ga
  refine ra_aload_n A d_De_checkWhole_37 rfl <| ra_getR A f_De_15 d_De_checkWhole_38 (Nat.le_of_ble_eq_true rfl) rfl rfl rfl <| ra_aload_n A d_De_checkWhole_41 rfl <| ra_getR A f_De_40 d_De_checkWhole_42 (Nat.le_of_ble_eq_true rfl) rfl rfl rfl <| ?_
  refine ra_callV (As := [_]) A ok_Di_take l_De_193 im_Di_take sl_Di_take d_De_checkWhole_45 (Nat.le_of_ble_eq_true rfl) rfl rfl rfl (Nat.le_of_ble_eq_true rfl) (xr_of at0 (by decide)) (s_Di_take_sound hok.2.1.1 hok.2.2.2 (show s.2.1 ≤ 1200 by omega) Ia.2.1 Ia.2.2.1 e40 (fun gd fd hd => ?_))
  show xg x (y0 u) 0 0 48 _ _ gd
  have hd : md_get gd = mdsum (iCh F) (iDp F) s.2.1 (fun c i => if c = 0 then s.2.2.2.2.1 i else s.2.2.2.2.2 i) := by
    rw [hd]
    have hC := hok.2.1.1
    refine mdsum_congr (fun c hc i hi => ?_)
    have hc2 : c = 0 ∨ c = 1 := by omega
    rcases hc2 with rfl | rfl
    · rw [if_pos rfl]; exact Sa.2.1 i hi
    · rw [if_neg (by decide)]; exact Sa.2.2 (by omega) i hi
  have fb : FD h gd := fa.trans (FD.of fd (by decide) (by decide))
  have kb : ∀ k, k ≠ 8 → k ≠ 9 → gd.1 k = ga.1 k := fun k a b => fr1 fd (by simp; omega)
  have jb : gd.2 132 = ga.2 132 := (fd 132 (by decide)).2
  have hv0 : (((if (0 : Nat) = 0 then gd.1 8 3 else gd.1 8 5).toInt64 <<< ((32 : Int32).toInt64 &&& 63)) ||| ((if (0 : Nat) = 0 then gd.1 8 2 else gd.1 8 4).toInt64 &&& 4294967295)) = sml (iCh F) (iDp F) s.2.1 s.2.2.2.2.1 s.2.2.2.2.2 0 := by
    unfold sml
    rw [← hd]
    rfl
  have hv1 : (((if (1 : Nat) = 0 then gd.1 8 3 else gd.1 8 5).toInt64 <<< ((32 : Int32).toInt64 &&& 63)) ||| ((if (1 : Nat) = 0 then gd.1 8 2 else gd.1 8 4).toInt64 &&& 4294967295)) = sml (iCh F) (iDp F) s.2.1 s.2.2.2.2.1 s.2.2.2.2.2 1 := by
    unfold sml
    rw [← hd]
    rfl
  have at85 : ∀ b : Bool, b = smS F s → xg x (y0 u) 0 0 85 [some (.ref 132), none] [.int (bz b)] gd := by
    intro b hb
    have hk6 : gd.1 132 6 = bz (smK F) := by rw [kb 132 (by decide) (by decide)]; exact Ia.1.2.2.2.2
    rw [← hb] at hq
    have fin : (b || !smK F) = true → xg x (y0 u) 0 0 101 [some (.ref 132), some (.int (bz b))] [.ref 133] gd := by
      intro q
      rw [if_pos q] at hq
      refine ra_iconst A 1 d_De_checkWhole_101 (by decide) <| ra_goto (q := 106) A d_De_checkWhole_102 (by decide) <| ra_bipush A 15 d_De_checkWhole_106 (by decide) <| ?_
      refine ra_callV (As := [_, _]) A ok_Rd_demand l_De_92 im_Rd_demand sl_Rd_demand d_De_checkWhole_108 (Nat.le_of_ble_eq_true rfl) rfl rfl rfl (Nat.le_of_ble_eq_true rfl) (xr_of at0 (by decide)) (s_Rd_demand hlx (c := true) (e := 15) (fun _ => ?_) (fun q => by cases q))
      show xg x (y0 u) 0 0 111 _ _ gd
      refine ra_aload_n A d_De_checkWhole_111 rfl <| ra_iconst A 1 d_De_checkWhole_112 (by decide) <| ra_putI (ty := .boolean) A f_De_50 rfl rfl (by decide +kernel) rfl rfl d_De_checkWhole_113 (Nat.le_of_ble_eq_true rfl) rfl rfl <| ?_
      refine ra_vret A ow d_De_checkWhole_116 (hX _ hq.symm (fb.1.I (by decide)) xI_e ?_ ?_ ?_)
      · exact Ia.of (fun j hj => by rw [xI_j (by omega), kb 132 (by decide) (by decide)]) (by show gd.2 132 = _; exact jb) (by rw [xI_k (by decide), kb 136 (by decide) (by decide)])
      · unfold DS
        rw [xI_j (by decide), xI_j (by decide), xI_j (by decide), xI_k (by decide), xI_k (by decide), xI_k (by decide), kb 132 (by decide) (by decide), kb 140 (by decide) (by decide), kb 138 (by decide) (by decide), kb 139 (by decide) (by decide)]
        exact Sa
      · rw [xI_k (by decide), kb 133 (by decide) (by decide)]; exact Fa
    refine ra_istore_n (L' := [_, _]) A d_De_checkWhole_85 (by decide) rfl <| ra_aload_n A d_De_checkWhole_86 rfl <| ra_getR A f_De_24 d_De_checkWhole_87 (Nat.le_of_ble_eq_true rfl) rfl rfl rfl <| ra_iload_n A d_De_checkWhole_90 rfl <| ?_
    cases b
    · refine ra_if_ne (q := 101) A d_De_checkWhole_91 (by decide) (fun cc => absurd (rfl) cc) (fun _ => ?_)
      refine ra_aload_n A d_De_checkWhole_94 rfl <| ra_getI A f_De_81 d_De_checkWhole_95 (Nat.le_of_ble_eq_true rfl) rfl rfl <| ?_
      rw [hk6]
      cases hs : smK F
      · refine ra_if_ne (q := 105) A d_De_checkWhole_98 (by decide) (fun cc => absurd (rfl) cc) (fun _ => ?_)
        exact fin (by rw [hs]; rfl)
      · refine ra_if_ne (q := 105) A d_De_checkWhole_98 (by decide) (fun _ => ?_) (fun cc => absurd cc ((by decide)))
        rw [hs] at hq
        refine ra_iconst A 0 d_De_checkWhole_105 (by decide) <| ra_bipush A 15 d_De_checkWhole_106 (by decide) <| ?_
        refine ra_callV (As := [_, _]) A ok_Rd_demand l_De_92 im_Rd_demand sl_Rd_demand d_De_checkWhole_108 (Nat.le_of_ble_eq_true rfl) rfl rfl rfl (Nat.le_of_ble_eq_true rfl) (xr_of at0 (by decide)) (s_Rd_demand hlx (c := false) (e := 15) (fun q => by cases q) (fun _ => xgT_out ow at0.2.2.2.2.2.2.2.2.2.2 (hY 15 (p / 8) _ hq.symm ⟨fb.I (by decide) (by decide), xI_e, by rw [xI_j (by decide), kb 133 (by decide) (by decide)]; exact Pa⟩)))
    · refine ra_if_ne (q := 101) A d_De_checkWhole_91 (by decide) (fun _ => ?_) (fun cc => absurd cc ((by decide)))
      exact fin rfl
  refine ra_aload_n A d_De_checkWhole_48 rfl <| ra_getR A f_De_15 d_De_checkWhole_49 (Nat.le_of_ble_eq_true rfl) rfl rfl rfl <| ra_iconst A 0 d_De_checkWhole_52 (by decide) <| ?_
  refine ra_callV (As := [_]) A ok_Di_half l_De_199 im_Di_half sl_Di_half d_De_checkWhole_53 (Nat.le_of_ble_eq_true rfl) rfl rfl rfl (Nat.le_of_ble_eq_true rfl) (xr_of at0 (by decide)) (s_Di_half K (b := 0) (by decide) ?_)
  show xg x (y0 u) 0 0 56 _ _ gd
  rw [hv0]
  refine ra_aload_n A d_De_checkWhole_56 rfl <| ra_getJ A f_De_121 d_De_checkWhole_57 (Nat.le_of_ble_eq_true rfl) rfl rfl <| ?_
  rw [show gd.2 132 7 = lN (iLo F) by rw [jb]; exact Ia.1.2.2.1]
  refine ra_lcmp A d_De_checkWhole_60 <| ?_
  by_cases cl : sml (iCh F) (iDp F) s.2.1 s.2.2.2.2.1 s.2.2.2.2.2 0 = lN (iLo F)
  · refine ra_if_ne (q := 84) A d_De_checkWhole_61 (by decide) (fun cc => absurd (lc_eq.mpr cl) cc) (fun _ => ?_)
    refine ra_aload_n A d_De_checkWhole_64 rfl <| ra_getR A f_De_15 d_De_checkWhole_65 (Nat.le_of_ble_eq_true rfl) rfl rfl rfl <| ra_iconst A 1 d_De_checkWhole_68 (by decide) <| ?_
    refine ra_callV (As := [_]) A ok_Di_half l_De_199 im_Di_half sl_Di_half d_De_checkWhole_69 (Nat.le_of_ble_eq_true rfl) rfl rfl rfl (Nat.le_of_ble_eq_true rfl) (xr_of at0 (by decide)) (s_Di_half K (b := 1) (by decide) ?_)
    show xg x (y0 u) 0 0 72 _ _ gd
    rw [hv1]
    refine ra_aload_n A d_De_checkWhole_72 rfl <| ra_getJ A f_De_125 d_De_checkWhole_73 (Nat.le_of_ble_eq_true rfl) rfl rfl <| ?_
    rw [show gd.2 132 8 = lN (iHi F) by rw [jb]; exact Ia.1.2.2.2.1]
    refine ra_lcmp A d_De_checkWhole_76 <| ?_
    by_cases ch : sml (iCh F) (iDp F) s.2.1 s.2.2.2.2.1 s.2.2.2.2.2 1 = lN (iHi F)
    · refine ra_if_ne (q := 84) A d_De_checkWhole_77 (by decide) (fun cc => absurd (lc_eq.mpr ch) cc) (fun _ => ?_)
      refine ra_iconst A 1 d_De_checkWhole_80 (by decide) <| ra_goto (q := 85) A d_De_checkWhole_81 (by decide) <| ?_
      exact at85 true (by unfold smS; rw [decide_eq_true cl, decide_eq_true ch]; rfl)
    · refine ra_if_ne (q := 84) A d_De_checkWhole_77 (by decide) (fun _ => ?_) (fun cc => absurd cc (fun z => ch (lc_eq.mp z)))
      refine ra_iconst A 0 d_De_checkWhole_84 (by decide) <| ?_
      exact at85 false (by unfold smS; rw [decide_eq_false ch, Bool.and_false])
  · refine ra_if_ne (q := 84) A d_De_checkWhole_61 (by decide) (fun _ => ?_) (fun cc => absurd cc (fun z => cl (lc_eq.mp z)))
    refine ra_iconst A 0 d_De_checkWhole_84 (by decide) <| ?_
    exact at85 false (by unfold smS; rw [decide_eq_false cl, Bool.false_and])
theorem s_SS_decode (hl : l.stackTraces = false) {F : Nat → Bool} {L : Nat} {Q : (Nat × Nat) ⊕ FS} (e6 : h.1 6 1 = nI L) (hL : L ≤ 9000) (hF : ∀ q, q < L → ByF (f_get h (nI q)) F q) (hq : dec F L = Q)
    (hX : ∀ s h', Q = .inr s → fr DLs h h' → h'.1 132 5 = 1 → iOk F → IN h' F → DS h' F s → FB F s → h'.1 133 2 = 0 → X (.inl (some (.int (nI s.2.1)))) h' 0 0)
    (hY : ∀ e pl h', Q = .inl (e, pl) → fr DLs h h' → h'.1 132 5 = 0 → h'.1 133 2 = nI e → h'.1 133 3 = nI pl → h'.1 140 0 = 0 → h'.1 140 1 = 0 → X (.inl (some (.int (-1)))) h' 1 6) : xm_MH l (y0 u) (KK0 u) m_SS_decode hh_SS_decode [.ref 0] h X := by
  refine xm_ofH [none] (by simp) (Nat.le_of_ble_eq_true rfl) (by decide) (fun x at0 => ?_)
  have A := xa_ofH at0 (KK0_ok u)
  have K := KK0_ok u
  have ow := at0.2.2.2.2.1
  have hlx : (xg_l x).stackTraces = false := by rw [at0.2.2.2.2.2.1]; exact hl
  have i0 : vp_in (0 : Int32) 2 := vp_in_nI (n := 0) (by decide) (by decide)
  refine ra_aload_n A d_SS_decode_0 rfl <| ra_getR A f_SS_44 d_SS_decode_1 (Nat.le_of_ble_eq_true rfl) rfl rfl rfl <| ?_
  refine ra_callV (As := []) A ok_De_begin l_SS_171 im_De_begin sl_De_begin d_SS_decode_4 (Nat.le_of_ble_eq_true rfl) rfl rfl rfl (Nat.le_of_ble_eq_true rfl) (xr_ofH at0 (by decide)) (s_De_begin K ?_)
  show xg x (y0 u) 0 0 7 _ _ _
  have fb : fr DLs h (f_dbegin h) := by
    unfold f_dbegin f_empty_sound
    exact (((((((fr_I (by decide)).I (by decide)).I (by decide)).I (by decide)).I (by decide)).I (by decide)).I (by decide)).I (by decide)
  have b5 : (f_dbegin h).1 132 5 = 0 := by unfold f_dbegin; rw [xI_j (by decide), xI_j (by decide), xI_e]
  have b11 : (f_dbegin h).1 132 11 = 0 := by unfold f_dbegin; rw [xI_j (by decide), xI_e]
  have b14 : (f_dbegin h).1 132 14 = 0 := by unfold f_dbegin; rw [xI_e]
  have b40 : (f_dbegin h).1 140 0 = 0 := by unfold f_dbegin f_empty_sound; rw [xI_k (by decide), xI_k (by decide), xI_k (by decide), xI_j (by decide), xI_e]
  have b41 : (f_dbegin h).1 140 1 = 0 := by unfold f_dbegin f_empty_sound; rw [xI_k (by decide), xI_k (by decide), xI_k (by decide), xI_e]
  have b1 : (f_dbegin h).1 133 1 = nI 0 := by unfold f_dbegin f_empty_sound; rw [xI_k (by decide), xI_k (by decide), xI_k (by decide), xI_k (by decide), xI_k (by decide), xI_j (by decide), xI_j (by decide), xI_e]; rfl
  have b3 : (f_dbegin h).1 133 3 = nI 0 := by unfold f_dbegin f_empty_sound; rw [xI_k (by decide), xI_k (by decide), xI_k (by decide), xI_k (by decide), xI_k (by decide), xI_j (by decide), xI_e]; rfl
  have b2 : (f_dbegin h).1 133 2 = 0 := by unfold f_dbegin f_empty_sound; rw [xI_k (by decide), xI_k (by decide), xI_k (by decide), xI_k (by decide), xI_k (by decide), xI_e]
  generalize f_dbegin h = hb at fb b5 b11 b14 b40 b41 b1 b2 b3 ⊢
  have n6 : hb.1 6 = h.1 6 := fr1 fb (by decide)
  have n7 : hb.1 7 = h.1 7 := fr1 fb (by decide)
  have R0 : RD hb F L 0 := by
    refine ⟨by rw [n6]; exact e6, fun q hq => ?_, ⟨b1, b2⟩, Nat.zero_le _, hL⟩
    have e : f_get hb (nI q) = f_get h (nI q) := by
      unfold f_get
      rw [show v_bytes_length hb = v_bytes_length h from congrFun n6 1, show a_data hb = a_data h from n7]
    rw [e]
    exact hF q hq
  have bad : ∀ {g : xw_H} {e pl pc : Nat} {w : Option Value}, (7 ≤ pc ∧ pc < 53) → Q = .inl (e, pl) → EP hb g e pl → xgT x (y0 u) (0 + 1) (0 + 6) pc [some (.ref 0), w] ISE g := by
    intro g e pl pc w hpc q E
    refine xcatch at0 ⟨7, 53, 56, 111⟩ rfl (by simp [covers]; omega) (by decide) cl_SS_111 (List.mem_of_getElem? (i := 1) rfl) d_SS_decode_56 (by decide) ?_
    show xg x (y0 u) 1 6 57 [some (.ref 0), none] [] g
    refine ra_aload_n A d_SS_decode_57 rfl <| ra_getR A f_SS_44 d_SS_decode_58 (Nat.le_of_ble_eq_true rfl) rfl rfl rfl <| ?_
    refine ra_callV (As := []) A ok_De_refuse l_SS_186 im_De_refuse sl_De_refuse d_SS_decode_61 (Nat.le_of_ble_eq_true rfl) rfl rfl rfl (Nat.le_of_ble_eq_true rfl) (xr_ofH at0 (by decide)) (s_De_refuse K ?_)
    show xg x (y0 u) 1 6 64 _ _ _
    refine ra_iconst A (-1) d_SS_decode_64 (by decide) <| ?_
    refine ra_iret A ow d_SS_decode_65 (hY e pl _ q ?_ ?_ ?_ ?_ ?_ ?_)
    · unfold f_empty_sound
      exact ((fb.trans E.1.1).I (by decide)).I (by decide)
    · unfold f_empty_sound
      rw [xI_k (by decide), xI_k (by decide)]
      exact E.1.2.trans b5
    · unfold f_empty_sound
      rw [xI_k (by decide), xI_k (by decide)]
      exact E.2.1
    · unfold f_empty_sound
      rw [xI_k (by decide), xI_k (by decide)]
      exact E.2.2
    · unfold f_empty_sound
      rw [xI_j (by decide), xI_e]
    · unfold f_empty_sound
      rw [xI_e]
  unfold dec at hq
  refine ra_aload_n A d_SS_decode_7 rfl <| ra_getR A f_SS_44 d_SS_decode_8 (Nat.le_of_ble_eq_true rfl) rfl rfl rfl <| ?_
  refine ra_callV (As := []) A ok_De_readInformation l_SS_174 im_De_readInformation sl_De_readInformation d_SS_decode_11 (Nat.le_of_ble_eq_true rfl) rfl rfl rfl (Nat.le_of_ble_eq_true rfl) (xr_ofH at0 (by decide)) (s_De_readInformation hlx R0 b3 rfl (fun p g Q1 hok K1 I1 R1 => ?_) (fun e pl g Q1 E => bad (by decide) (by rw [← hq, Q1]) E))
  show xg x (y0 u) 0 0 14 _ _ g
  rw [Q1] at hq
  dsimp only at hq
  have hp8 := dIn_p Q1
  have S1 : DS g F fs0 := by
    refine ⟨⟨?_, fun q => absurd rfl q, ?_, ?_, fun _ => ?_, fun _ => ?_⟩, fun i hi => absurd hi (Nat.not_lt_zero _), fun _ i hi => absurd hi (Nat.not_lt_zero _)⟩
    · rw [K1.2.1]; exact b11
    · rw [K1.2.2.1]; exact b14
    · rw [K1.2.2.2.2]; exact b40
    · rw [K1.2.2.2.2]; exact b41
    · rw [K1.2.2.2.2]; exact b41
  have B1 : FB F fs0 := ⟨Nat.le_refl _, Nat.zero_le _, by decide, by decide⟩
  have at46 : ∀ (s : FS) (p : Nat) (g : xw_H) (w : Option Value), FD hb g → IN g F → DS g F s → FB F s → RD g F L p → dEn F s p = Q → xg x (y0 u) 0 0 46 [some (.ref 0), w] [] g := by
    intro s p g w hf hI hS hB hR hQ
    refine ra_aload_n A d_SS_decode_46 rfl <| ra_getR A f_SS_44 d_SS_decode_47 (Nat.le_of_ble_eq_true rfl) rfl rfl rfl <| ?_
    refine ra_callV (As := []) A ok_De_checkWhole l_SS_183 im_De_checkWhole sl_De_checkWhole d_SS_decode_50 (Nat.le_of_ble_eq_true rfl) rfl rfl rfl (Nat.le_of_ble_eq_true rfl) (xr_ofH at0 (by decide)) (s_De_checkWhole hlx hR hok hI hS hB hQ (fun g2 Q2 f2 d2 I2 S2 z2 => ?_) (fun e pl g2 Q2 E => bad (by decide) Q2 (E.after hf)))
    show xg x (y0 u) 0 0 53 _ _ g2
    refine ra_goto (q := 66) A d_SS_decode_53 (by decide) <| ra_aload_n A d_SS_decode_66 rfl <| ra_getR A f_SS_44 d_SS_decode_67 (Nat.le_of_ble_eq_true rfl) rfl rfl rfl <| ra_getR A f_SS_189 d_SS_decode_70 (Nat.le_of_ble_eq_true rfl) rfl rfl rfl <| ra_getR A f_SS_83 d_SS_decode_73 (Nat.le_of_ble_eq_true rfl) rfl rfl rfl <| ra_iconst A 0 d_SS_decode_76 (by decide) <| ?_
    refine ra_iaload A d_SS_decode_77 (Nat.le_of_ble_eq_true rfl) rfl i0 ?_
    rw [show g2.1 140 (Int32.toNatClampNeg 0) = nI s.2.1 from S2.1.2.2.2.1]
    exact ra_iret A ow d_SS_decode_78 (hX s g2 Q2 ((fb.trans hf.1).trans f2) d2 hok I2 S2 hB z2)
  have loop : ∀ r i (s : FS) p g, i + r = 9000 → FD hb g → IN g F → DS g F s → FB F s → RD g F L p → p % 8 = 0 → (match dFr F L r s p with | .inl e => (.inl e : (Nat × Nat) ⊕ FS) | .inr q => dEn F q.1 q.2) = Q → xg x (y0 u) 0 0 16 [some (.ref 0), some (.int (nI i))] [] g := by
    intro r
    induction r with
    | zero =>
      intro i s p g hi hf hI hS hB hR hp hQ
      refine ra_iload_n A d_SS_decode_16 rfl <| ra_sipush A 9000 d_SS_decode_17 (by decide) <| ?_
      refine ra_icmp_ge (q := 46) A d_SS_decode_20 (by decide) (fun _ => ?_) (fun cc => absurd ((by rw [show i = 9000 by omega]; decide)) cc)
      exact at46 s p g _ hf hI hS hB hR hQ
    | succ r ih =>
      intro i s p g hi hf hI hS hB hR hp hQ
      rw [dFr] at hQ
      refine ra_iload_n A d_SS_decode_16 rfl <| ra_sipush A 9000 d_SS_decode_17 (by decide) <| ?_
      refine ra_icmp_ge (q := 46) A d_SS_decode_20 (by decide) (fun cc => absurd cc (nI_ge (b := 9000) (by omega) (by decide))) (fun _ => ?_)
      refine ra_aload_n A d_SS_decode_23 rfl <| ra_getR A f_SS_44 d_SS_decode_24 (Nat.le_of_ble_eq_true rfl) rfl rfl rfl <| ?_
      refine ra_callV (As := []) A ok_De_hasMore l_SS_177 im_De_hasMore sl_De_hasMore d_SS_decode_27 (Nat.le_of_ble_eq_true rfl) rfl rfl rfl (Nat.le_of_ble_eq_true rfl) (xr_ofH at0 (by decide)) (s_De_hasMore K hR ?_)
      show xg x (y0 u) 0 0 30 _ _ g
      by_cases c : p / 8 < L
      · rw [if_pos c] at hQ
        rw [decide_eq_true c]
        refine ra_if_eq (q := 46) A d_SS_decode_30 (by decide) (fun cc => absurd cc ((by decide))) (fun _ => ?_)
        refine ra_aload_n A d_SS_decode_33 rfl <| ra_getR A f_SS_44 d_SS_decode_34 (Nat.le_of_ble_eq_true rfl) rfl rfl rfl <| ?_
        refine ra_callV (As := []) A ok_De_readFrame l_SS_180 im_De_readFrame sl_De_readFrame d_SS_decode_37 (Nat.le_of_ble_eq_true rfl) rfl rfl rfl (Nat.le_of_ble_eq_true rfl) (xr_ofH at0 (by decide)) (s_De_readFrame hlx hR hp hok hI hS hB rfl (fun s2 p2 g2 Q2 f2 d2 I2 S2 B2 R2 hp2 => ?_) (fun e g2 Q2 E => bad (by decide) (by rw [← hQ, Q2]) (E.after hf)))
        show xg x (y0 u) 0 0 40 _ _ g2
        rw [Q2] at hQ
        refine ra_iinc (L' := [_, _]) A 1 d_SS_decode_40 rfl (by decide) (by decide) rfl <| ra_goto (q := 16) A d_SS_decode_43 (by decide) <| ?_
        rw [nI_1]
        exact ih (i + 1) s2 p2 g2 (by omega) (hf.trans ⟨f2, d2⟩) I2 S2 B2 R2 hp2 hQ
      · rw [if_neg c] at hQ
        rw [decide_eq_false c]
        refine ra_if_eq (q := 46) A d_SS_decode_30 (by decide) (fun _ => ?_) (fun cc => absurd (rfl) cc)
        exact at46 s p g _ hf hI hS hB hR hQ
  refine ra_iconst A 0 d_SS_decode_14 (by decide) <| ra_istore_n (L' := [_, _]) A d_SS_decode_15 (by decide) rfl <| ?_
  exact loop 9000 0 fs0 p g rfl K1.1 I1 S1 B1 R1 hp8 hq
end S99g
