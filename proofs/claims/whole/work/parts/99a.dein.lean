/-! SoundStream$Decoder: readInformation -/
section S99a
variable {u : xu_T} {l : Launch} {h : xw_H} {X : xc_R → xw_H → Nat → Nat → Prop}
theorem s_De_readInformation (hl : l.stackTraces = false) {F : Nat → Bool} {L : Nat} {Q : (Nat × Nat) ⊕ Nat} (R : RD h F L 0) (hp0 : h.1 133 3 = nI 0) (hq : dIn F L = Q)
    (hX : ∀ p h', Q = .inr p → iOk F → KP h h' → IN h' F → RD h' F L p → X (.inl none) h' 0 0) (hY : ∀ e pl h', Q = .inl (e, pl) → EP h h' e pl → X (.inr ISE) h' 1 6) : xm_M l (y0 u) (KK0 u) m_De_readInformation [.ref 132] h X := by
  refine xm_of [none, none, none, none] (by simp) (Nat.le_of_ble_eq_true rfl) (by decide) (fun x at0 => ?_)
  have A := xa_of at0 (KK0_ok u)
  have K := KK0_ok u
  have ow := at0.2.2.2.2.1
  have hlx : (xg_l x).stackTraces = false := by rw [at0.2.2.2.2.2.1]; exact hl
  have hL := R.2.2.2.2
  unfold dIn at hq
  have bad : ∀ {g : xw_H} {e pl pc : Nat} {LL : List (Option Value)}, Q = .inl (e, pl) → FD h g → g.1 133 3 = nI pl → xgT x (y0 u) (0 + 1) (0 + 6) pc LL ISE (xw_I g 133 2 (nI e)) := fun q f p => xgT_out ow at0.2.2.2.2.2.2.2.2.2.2 (hY _ _ _ q ⟨f.I (by decide) (by decide), xI_e, by rw [xI_j (by decide)]; exact p⟩)
  have badE : ∀ {g g' : xw_H} {e pl pc : Nat} {LL : List (Option Value)}, Q = .inl (e, pl) → FD h g → g.1 133 3 = nI pl → ER g g' e → xgT x (y0 u) (0 + 1) (0 + 6) pc LL ISE g' := fun q f p E => xgT_out ow at0.2.2.2.2.2.2.2.2.2.2 (hY _ _ _ q ((E.ep p).after f))
  refine ra_aload_n A d_De_readInformation_0 rfl <| ra_getR A f_De_24 d_De_readInformation_1 (Nat.le_of_ble_eq_true rfl) rfl rfl rfl <| ra_aload_n A d_De_readInformation_4 rfl <| ra_getR A f_De_9 d_De_readInformation_5 (Nat.le_of_ble_eq_true rfl) rfl rfl rfl <| ra_getI A f_De_84 d_De_readInformation_8 (Nat.le_of_ble_eq_true rfl) rfl rfl <| ?_
  rw [R.1]
  refine ra_getsN A at0.2.2.1.2.2.2.2.2.2.2.2.1.1 (at0.2.2.1.2.2.2.2.2.2.2.1 _ (List.mem_of_getElem? (i := 0) rfl)) d_De_readInformation_11 <| ?_
  refine ra_stlen A at0.2.2.1.2.2.2.2.2.2.2.2.1.2 (show Int32.ofNat 4 = 4 from rfl) d_De_readInformation_14 ?_
  by_cases cL : 4 ≤ L
  · refine ra_icmp_lt (q := 22) A d_De_readInformation_15 (by decide) (fun cc => absurd cc (fun z => absurd ((nI_ltI (b := 4) (by omega) (by decide)).mp z) (by omega))) (fun _ => ?_)
    refine ra_iconst A 1 d_De_readInformation_18 (by decide) <| ra_goto (q := 23) A d_De_readInformation_19 (by decide) <| ra_iconst A 1 d_De_readInformation_23 (by decide) <| ?_
    refine ra_callV (As := [_, _]) A ok_Rd_demand l_De_92 im_Rd_demand sl_Rd_demand d_De_readInformation_24 (Nat.le_of_ble_eq_true rfl) rfl rfl rfl (Nat.le_of_ble_eq_true rfl) (xr_of at0 (by decide)) (s_Rd_demand hlx (c := true) (e := 1) (fun _ => ?_) (fun q => by cases q))
    show xg x (y0 u) 0 0 27 _ _ h
    refine ra_getsN A at0.2.2.1.2.2.2.2.2.2.2.2.1.1 (at0.2.2.1.2.2.2.2.2.2.2.1 _ (List.mem_of_getElem? (i := 0) rfl)) d_De_readInformation_27 <| ra_astore_n (L' := [_, _, _, _, _]) A d_De_readInformation_30 (by decide) rfl <| ra_aload_n A d_De_readInformation_31 rfl <| ?_
    refine ra_stlen A at0.2.2.1.2.2.2.2.2.2.2.2.1.2 (show Int32.ofNat 4 = 4 from rfl) d_De_readInformation_32 ?_
    refine ra_istore_n (L' := [_, _, _, _, _]) A d_De_readInformation_33 (by decide) rfl <| ra_iconst A 0 d_De_readInformation_34 (by decide) <| ra_istore_n (L' := [_, _, _, _, _]) A d_De_readInformation_35 (by decide) rfl <| ?_
    refine ra_iload_n A d_De_readInformation_36 rfl <| ra_iload_n A d_De_readInformation_37 rfl <| ?_
    refine ra_icmp_ge (q := 79) A d_De_readInformation_38 (by decide) (fun cc => absurd cc ((by decide))) (fun _ => ?_)
    refine ra_aload_n A d_De_readInformation_41 rfl <| ra_iload_n A d_De_readInformation_42 rfl <| ?_
    refine ra_sti A at0.2.2.1.2.2.2.2.2.2.2.2.1.2 (vp_in_nI (n := 0) (by decide) (by decide)) (show _ = Value.int 102 from rfl) d_De_readInformation_43 ?_
    refine ra_istore (L' := [_, _, _, _, _]) A d_De_readInformation_44 (by decide) rfl <| ra_aload_n A d_De_readInformation_46 rfl <| ra_getR A f_De_24 d_De_readInformation_47 (Nat.le_of_ble_eq_true rfl) rfl rfl rfl <| ra_aload_n A d_De_readInformation_50 rfl <| ra_getR A f_De_24 d_De_readInformation_51 (Nat.le_of_ble_eq_true rfl) rfl rfl rfl <| ra_bipush A 8 d_De_readInformation_54 (by decide) <| ?_
    refine ra_callV (As := [_]) A ok_Rd_bits l_De_96 im_Rd_bits sl_Rd_bits d_De_readInformation_56 (Nat.le_of_ble_eq_true rfl) rfl rfl rfl (Nat.le_of_ble_eq_true rfl) (xr_of at0 (by decide)) (s_Rd_bits hlx (n := 8) R (by decide) rfl (fun v1 p1 g1 e1 f1 R1 hv1 => ?_) (fun e g1 e1 E => absurd (rB_err e1).2 (by omega)))
    show xg x (y0 u) 0 0 59 _ _ g1
    obtain ⟨a1, b1, -⟩ := rB_ok e1
    subst a1 b1
    refine ra_iload A d_De_readInformation_59 rfl <| ?_
    by_cases d1 : ¬ bv F 0 8 = 102
    · refine ra_icmp_ne (q := 68) A d_De_readInformation_61 (by decide) (fun _ => ?_) (fun cc => absurd cc (fun z => d1 ((nI_eq (b := 102) (by omega) (by decide)).mp z)))
      refine ra_iconst A 0 d_De_readInformation_68 (by decide) <| ra_iconst A 1 d_De_readInformation_69 (by decide) <| ?_
      refine ra_callV (As := [_, _]) A ok_Rd_demand l_De_92 im_Rd_demand sl_Rd_demand d_De_readInformation_70 (Nat.le_of_ble_eq_true rfl) rfl rfl rfl (Nat.le_of_ble_eq_true rfl) (xr_of at0 (by decide)) (s_Rd_demand hlx (c := false) (e := 1) (fun q => by cases q) (fun _ => bad (by rw [← hq, if_pos (fun z => d1 z.2.1)]) f1.fr (f1.pl.trans hp0)))
    have c1 := Decidable.not_not.mp d1
    refine ra_icmp_ne (q := 68) A d_De_readInformation_61 (by decide) (fun cc => absurd ((by rw [show bv F _ 8 = 102 from c1]; rfl)) cc) (fun _ => ?_)
    refine ra_iconst A 1 d_De_readInformation_64 (by decide) <| ra_goto (q := 69) A d_De_readInformation_65 (by decide) <| ra_iconst A 1 d_De_readInformation_69 (by decide) <| ?_
    refine ra_callV (As := [_, _]) A ok_Rd_demand l_De_92 im_Rd_demand sl_Rd_demand d_De_readInformation_70 (Nat.le_of_ble_eq_true rfl) rfl rfl rfl (Nat.le_of_ble_eq_true rfl) (xr_of at0 (by decide)) (s_Rd_demand hlx (c := true) (e := 1) (fun _ => ?_) (fun q => by cases q))
    show xg x (y0 u) 0 0 73 _ _ g1
    refine ra_iinc (L' := [_, _, _, _, _]) A 1 d_De_readInformation_73 rfl (by decide) (by decide) rfl <| ra_goto (q := 36) A d_De_readInformation_76 (by decide) <| ?_
    rw [show ((0 : Int32) + 1) = 1 from rfl]
    refine ra_iload_n A d_De_readInformation_36 rfl <| ra_iload_n A d_De_readInformation_37 rfl <| ?_
    refine ra_icmp_ge (q := 79) A d_De_readInformation_38 (by decide) (fun cc => absurd cc ((by decide))) (fun _ => ?_)
    refine ra_aload_n A d_De_readInformation_41 rfl <| ra_iload_n A d_De_readInformation_42 rfl <| ?_
    refine ra_sti A at0.2.2.1.2.2.2.2.2.2.2.2.1.2 (vp_in_nI (n := 1) (by decide) (by decide)) (show _ = Value.int 76 from rfl) d_De_readInformation_43 ?_
    refine ra_istore (L' := [_, _, _, _, _]) A d_De_readInformation_44 (by decide) rfl <| ra_aload_n A d_De_readInformation_46 rfl <| ra_getR A f_De_24 d_De_readInformation_47 (Nat.le_of_ble_eq_true rfl) rfl rfl rfl <| ra_aload_n A d_De_readInformation_50 rfl <| ra_getR A f_De_24 d_De_readInformation_51 (Nat.le_of_ble_eq_true rfl) rfl rfl rfl <| ra_bipush A 8 d_De_readInformation_54 (by decide) <| ?_
    refine ra_callV (As := [_]) A ok_Rd_bits l_De_96 im_Rd_bits sl_Rd_bits d_De_readInformation_56 (Nat.le_of_ble_eq_true rfl) rfl rfl rfl (Nat.le_of_ble_eq_true rfl) (xr_of at0 (by decide)) (s_Rd_bits hlx (n := 8) R1 (by decide) rfl (fun v2 p2 g2 e2 f2 R2 hv2 => ?_) (fun e g2 e2 E => absurd (rB_err e2).2 (by omega)))
    show xg x (y0 u) 0 0 59 _ _ g2
    obtain ⟨a2, b2, -⟩ := rB_ok e2
    subst a2 b2
    have hv2 : bv F 8 8 < 2 ^ 8 := hv2
    have f2 := f1.trans f2
    refine ra_iload A d_De_readInformation_59 rfl <| ?_
    by_cases d2 : ¬ bv F 8 8 = 76
    · refine ra_icmp_ne (q := 68) A d_De_readInformation_61 (by decide) (fun _ => ?_) (fun cc => absurd cc (fun z => d2 ((nI_eq (b := 76) (by omega) (by decide)).mp z)))
      refine ra_iconst A 0 d_De_readInformation_68 (by decide) <| ra_iconst A 1 d_De_readInformation_69 (by decide) <| ?_
      refine ra_callV (As := [_, _]) A ok_Rd_demand l_De_92 im_Rd_demand sl_Rd_demand d_De_readInformation_70 (Nat.le_of_ble_eq_true rfl) rfl rfl rfl (Nat.le_of_ble_eq_true rfl) (xr_of at0 (by decide)) (s_Rd_demand hlx (c := false) (e := 1) (fun q => by cases q) (fun _ => bad (by rw [← hq, if_pos (fun z => d2 z.2.2.1)]) f2.fr (f2.pl.trans hp0)))
    have c2 := Decidable.not_not.mp d2
    refine ra_icmp_ne (q := 68) A d_De_readInformation_61 (by decide) (fun cc => absurd ((by rw [show bv F _ 8 = 76 from c2]; rfl)) cc) (fun _ => ?_)
    refine ra_iconst A 1 d_De_readInformation_64 (by decide) <| ra_goto (q := 69) A d_De_readInformation_65 (by decide) <| ra_iconst A 1 d_De_readInformation_69 (by decide) <| ?_
    refine ra_callV (As := [_, _]) A ok_Rd_demand l_De_92 im_Rd_demand sl_Rd_demand d_De_readInformation_70 (Nat.le_of_ble_eq_true rfl) rfl rfl rfl (Nat.le_of_ble_eq_true rfl) (xr_of at0 (by decide)) (s_Rd_demand hlx (c := true) (e := 1) (fun _ => ?_) (fun q => by cases q))
    show xg x (y0 u) 0 0 73 _ _ g2
    refine ra_iinc (L' := [_, _, _, _, _]) A 1 d_De_readInformation_73 rfl (by decide) (by decide) rfl <| ra_goto (q := 36) A d_De_readInformation_76 (by decide) <| ?_
    rw [show ((1 : Int32) + 1) = 2 from rfl]
    refine ra_iload_n A d_De_readInformation_36 rfl <| ra_iload_n A d_De_readInformation_37 rfl <| ?_
    refine ra_icmp_ge (q := 79) A d_De_readInformation_38 (by decide) (fun cc => absurd cc ((by decide))) (fun _ => ?_)
    refine ra_aload_n A d_De_readInformation_41 rfl <| ra_iload_n A d_De_readInformation_42 rfl <| ?_
    refine ra_sti A at0.2.2.1.2.2.2.2.2.2.2.2.1.2 (vp_in_nI (n := 2) (by decide) (by decide)) (show _ = Value.int 97 from rfl) d_De_readInformation_43 ?_
    refine ra_istore (L' := [_, _, _, _, _]) A d_De_readInformation_44 (by decide) rfl <| ra_aload_n A d_De_readInformation_46 rfl <| ra_getR A f_De_24 d_De_readInformation_47 (Nat.le_of_ble_eq_true rfl) rfl rfl rfl <| ra_aload_n A d_De_readInformation_50 rfl <| ra_getR A f_De_24 d_De_readInformation_51 (Nat.le_of_ble_eq_true rfl) rfl rfl rfl <| ra_bipush A 8 d_De_readInformation_54 (by decide) <| ?_
    refine ra_callV (As := [_]) A ok_Rd_bits l_De_96 im_Rd_bits sl_Rd_bits d_De_readInformation_56 (Nat.le_of_ble_eq_true rfl) rfl rfl rfl (Nat.le_of_ble_eq_true rfl) (xr_of at0 (by decide)) (s_Rd_bits hlx (n := 8) R2 (by decide) rfl (fun v3 p3 g3 e3 f3 R3 hv3 => ?_) (fun e g3 e3 E => absurd (rB_err e3).2 (by omega)))
    show xg x (y0 u) 0 0 59 _ _ g3
    obtain ⟨a3, b3, -⟩ := rB_ok e3
    subst a3 b3
    have hv3 : bv F 16 8 < 2 ^ 8 := hv3
    have f3 := f2.trans f3
    refine ra_iload A d_De_readInformation_59 rfl <| ?_
    by_cases d3 : ¬ bv F 16 8 = 97
    · refine ra_icmp_ne (q := 68) A d_De_readInformation_61 (by decide) (fun _ => ?_) (fun cc => absurd cc (fun z => d3 ((nI_eq (b := 97) (by omega) (by decide)).mp z)))
      refine ra_iconst A 0 d_De_readInformation_68 (by decide) <| ra_iconst A 1 d_De_readInformation_69 (by decide) <| ?_
      refine ra_callV (As := [_, _]) A ok_Rd_demand l_De_92 im_Rd_demand sl_Rd_demand d_De_readInformation_70 (Nat.le_of_ble_eq_true rfl) rfl rfl rfl (Nat.le_of_ble_eq_true rfl) (xr_of at0 (by decide)) (s_Rd_demand hlx (c := false) (e := 1) (fun q => by cases q) (fun _ => bad (by rw [← hq, if_pos (fun z => d3 z.2.2.2.1)]) f3.fr (f3.pl.trans hp0)))
    have c3 := Decidable.not_not.mp d3
    refine ra_icmp_ne (q := 68) A d_De_readInformation_61 (by decide) (fun cc => absurd ((by rw [show bv F _ 8 = 97 from c3]; rfl)) cc) (fun _ => ?_)
    refine ra_iconst A 1 d_De_readInformation_64 (by decide) <| ra_goto (q := 69) A d_De_readInformation_65 (by decide) <| ra_iconst A 1 d_De_readInformation_69 (by decide) <| ?_
    refine ra_callV (As := [_, _]) A ok_Rd_demand l_De_92 im_Rd_demand sl_Rd_demand d_De_readInformation_70 (Nat.le_of_ble_eq_true rfl) rfl rfl rfl (Nat.le_of_ble_eq_true rfl) (xr_of at0 (by decide)) (s_Rd_demand hlx (c := true) (e := 1) (fun _ => ?_) (fun q => by cases q))
    show xg x (y0 u) 0 0 73 _ _ g3
    refine ra_iinc (L' := [_, _, _, _, _]) A 1 d_De_readInformation_73 rfl (by decide) (by decide) rfl <| ra_goto (q := 36) A d_De_readInformation_76 (by decide) <| ?_
    rw [show ((2 : Int32) + 1) = 3 from rfl]
    refine ra_iload_n A d_De_readInformation_36 rfl <| ra_iload_n A d_De_readInformation_37 rfl <| ?_
    refine ra_icmp_ge (q := 79) A d_De_readInformation_38 (by decide) (fun cc => absurd cc ((by decide))) (fun _ => ?_)
    refine ra_aload_n A d_De_readInformation_41 rfl <| ra_iload_n A d_De_readInformation_42 rfl <| ?_
    refine ra_sti A at0.2.2.1.2.2.2.2.2.2.2.2.1.2 (vp_in_nI (n := 3) (by decide) (by decide)) (show _ = Value.int 67 from rfl) d_De_readInformation_43 ?_
    refine ra_istore (L' := [_, _, _, _, _]) A d_De_readInformation_44 (by decide) rfl <| ra_aload_n A d_De_readInformation_46 rfl <| ra_getR A f_De_24 d_De_readInformation_47 (Nat.le_of_ble_eq_true rfl) rfl rfl rfl <| ra_aload_n A d_De_readInformation_50 rfl <| ra_getR A f_De_24 d_De_readInformation_51 (Nat.le_of_ble_eq_true rfl) rfl rfl rfl <| ra_bipush A 8 d_De_readInformation_54 (by decide) <| ?_
    refine ra_callV (As := [_]) A ok_Rd_bits l_De_96 im_Rd_bits sl_Rd_bits d_De_readInformation_56 (Nat.le_of_ble_eq_true rfl) rfl rfl rfl (Nat.le_of_ble_eq_true rfl) (xr_of at0 (by decide)) (s_Rd_bits hlx (n := 8) R3 (by decide) rfl (fun v4 p4 g4 e4 f4 R4 hv4 => ?_) (fun e g4 e4 E => absurd (rB_err e4).2 (by omega)))
    show xg x (y0 u) 0 0 59 _ _ g4
    obtain ⟨a4, b4, -⟩ := rB_ok e4
    subst a4 b4
    have hv4 : bv F 24 8 < 2 ^ 8 := hv4
    have f4 := f3.trans f4
    refine ra_iload A d_De_readInformation_59 rfl <| ?_
    by_cases d4 : ¬ bv F 24 8 = 67
    · refine ra_icmp_ne (q := 68) A d_De_readInformation_61 (by decide) (fun _ => ?_) (fun cc => absurd cc (fun z => d4 ((nI_eq (b := 67) (by omega) (by decide)).mp z)))
      refine ra_iconst A 0 d_De_readInformation_68 (by decide) <| ra_iconst A 1 d_De_readInformation_69 (by decide) <| ?_
      refine ra_callV (As := [_, _]) A ok_Rd_demand l_De_92 im_Rd_demand sl_Rd_demand d_De_readInformation_70 (Nat.le_of_ble_eq_true rfl) rfl rfl rfl (Nat.le_of_ble_eq_true rfl) (xr_of at0 (by decide)) (s_Rd_demand hlx (c := false) (e := 1) (fun q => by cases q) (fun _ => bad (by rw [← hq, if_pos (fun z => d4 z.2.2.2.2)]) f4.fr (f4.pl.trans hp0)))
    have c4 := Decidable.not_not.mp d4
    refine ra_icmp_ne (q := 68) A d_De_readInformation_61 (by decide) (fun cc => absurd ((by rw [show bv F _ 8 = 67 from c4]; rfl)) cc) (fun _ => ?_)
    refine ra_iconst A 1 d_De_readInformation_64 (by decide) <| ra_goto (q := 69) A d_De_readInformation_65 (by decide) <| ra_iconst A 1 d_De_readInformation_69 (by decide) <| ?_
    refine ra_callV (As := [_, _]) A ok_Rd_demand l_De_92 im_Rd_demand sl_Rd_demand d_De_readInformation_70 (Nat.le_of_ble_eq_true rfl) rfl rfl rfl (Nat.le_of_ble_eq_true rfl) (xr_of at0 (by decide)) (s_Rd_demand hlx (c := true) (e := 1) (fun _ => ?_) (fun q => by cases q))
    show xg x (y0 u) 0 0 73 _ _ g4
    refine ra_iinc (L' := [_, _, _, _, _]) A 1 d_De_readInformation_73 rfl (by decide) (by decide) rfl <| ra_goto (q := 36) A d_De_readInformation_76 (by decide) <| ?_
    rw [show ((3 : Int32) + 1) = 4 from rfl]
    refine ra_iload_n A d_De_readInformation_36 rfl <| ra_iload_n A d_De_readInformation_37 rfl <| ?_
    refine ra_icmp_ge (q := 79) A d_De_readInformation_38 (by decide) (fun _ => ?_) (fun cc => absurd ((by decide)) cc)
    rw [if_neg (fun z => z ⟨cL, c1, c2, c3, c4⟩)] at hq
    have R4 : RD g4 F L 32 := R4
    refine ra_aload_n A d_De_readInformation_79 rfl <| ra_getR A f_De_24 d_De_readInformation_80 (Nat.le_of_ble_eq_true rfl) rfl rfl rfl <| ?_
    refine ra_callV (As := []) A ok_Rd_markPlace l_De_100 im_Rd_markPlace sl_Rd_markPlace d_De_readInformation_83 (Nat.le_of_ble_eq_true rfl) rfl rfl rfl (Nat.le_of_ble_eq_true rfl) (xr_of at0 (by decide)) (s_Rd_markPlace K R4 ?_)
    show xg x (y0 u) 0 0 86 _ _ _
    have K5 : KP h (xw_I g4 133 3 (nI (32 / 8))) := f4.kp.trans (KP_k (by decide) (by decide) (by decide))
    have P5 : (xw_I g4 133 3 (nI (32 / 8))).1 133 3 = nI 4 := xI_e
    have R5 : RD (xw_I g4 133 3 (nI (32 / 8))) F L 32 := R4.of (xI_k (by decide)) (xI_k (by decide)) ⟨by rw [xI_j (by decide)]; exact R4.2.2.1.1, by rw [xI_j (by decide)]; exact R4.2.2.1.2⟩ R4.2.2.2.1
    generalize xw_I g4 133 3 (nI (32 / 8)) = g5 at K5 P5 R5 ⊢
    clear f1 f2 f3 f4 R1 R2 R3 R4
    refine ra_aload_n A d_De_readInformation_86 rfl <| ra_getR A f_De_24 d_De_readInformation_87 (Nat.le_of_ble_eq_true rfl) rfl rfl rfl <| ra_iconst A 1 d_De_readInformation_90 (by decide) <| ?_
    refine ra_callV (As := [_]) A ok_Rd_bits l_De_96 im_Rd_bits sl_Rd_bits d_De_readInformation_91 (Nat.le_of_ble_eq_true rfl) rfl rfl rfl (Nat.le_of_ble_eq_true rfl) (xr_of at0 (by decide)) (s_Rd_bits hlx (n := 1) R5 (by decide) rfl (fun v6 p6 g6 e6 f6 R6 hv6 => ?_) (fun e g6 e6 E => badE (by rw [← hq, (rB_err e6).1, if_pos (by have := (rB_err e6).2; omega)]) K5.1 P5 E))
    show xg x (y0 u) 0 0 94 _ _ g6
    obtain ⟨a6, b6, -⟩ := rB_ok e6
    subst a6 b6
    refine ra_iconst A 1 d_De_readInformation_94 (by decide) <| ?_
    have at103 : ∀ bb : Bool, bb = decide (bv F 32 1 = 1) → xg x (y0 u) 0 0 103 [some (.ref 132), some (.ref 1000), some (.int 4), some (.int 4), some (.int 67)] [.int (bz bb)] g6 := by
      intro bb hbb
      refine ra_istore_n (L' := [_, _, _, _, _]) A d_De_readInformation_103 (by decide) rfl <| ra_aload_n A d_De_readInformation_104 rfl <| ra_getR A f_De_24 d_De_readInformation_105 (Nat.le_of_ble_eq_true rfl) rfl rfl rfl <| ra_bipush A 7 d_De_readInformation_108 (by decide) <| ?_
      refine ra_callV (As := [_]) A ok_Rd_bits l_De_96 im_Rd_bits sl_Rd_bits d_De_readInformation_110 (Nat.le_of_ble_eq_true rfl) rfl rfl rfl (Nat.le_of_ble_eq_true rfl) (xr_of at0 (by decide)) (s_Rd_bits hlx (n := 7) R6 (by decide) rfl (fun v7 p7 g7 e7 f7 R7 hv7 => ?_) (fun e g7 e7 E => badE (by rw [← hq, (rB_err e7).1, if_pos (by have := (rB_err e7).2; omega)]) (K5.trans f6.kp).1 (f6.pl.trans P5) E))
      show xg x (y0 u) 0 0 113 _ _ g7
      obtain ⟨a7, b7, -⟩ := rB_ok e7
      subst a7 b7
      have hv7 : bv F 33 7 < 2 ^ 7 := hv7
      have f67 := f6.trans f7
      refine ra_istore_n (L' := [_, _, _, _, _]) A d_De_readInformation_113 (by decide) rfl <| ra_aload_n A d_De_readInformation_114 rfl <| ra_getR A f_De_24 d_De_readInformation_115 (Nat.le_of_ble_eq_true rfl) rfl rfl rfl <| ra_aload_n A d_De_readInformation_118 rfl <| ra_getR A f_De_24 d_De_readInformation_119 (Nat.le_of_ble_eq_true rfl) rfl rfl rfl <| ra_bipush A 24 d_De_readInformation_122 (by decide) <| ?_
      refine ra_callV (As := [_]) A ok_Rd_bits l_De_96 im_Rd_bits sl_Rd_bits d_De_readInformation_124 (Nat.le_of_ble_eq_true rfl) rfl rfl rfl (Nat.le_of_ble_eq_true rfl) (xr_of at0 (by decide)) (s_Rd_bits hlx (n := 24) R7 (by decide) rfl (fun v8 p8 g8 e8' f8 R8 hv8 => ?_) (fun e g8 e8' E => badE (by rw [← hq, (rB_err e8').1, if_pos (by have := (rB_err e8').2; omega)]) (K5.trans f67.kp).1 (f67.pl.trans P5) E))
      show xg x (y0 u) 0 0 127 _ _ g8
      obtain ⟨a8, b8, q64⟩ := rB_ok e8'
      subst a8 b8
      have hv8 : bv F 40 24 < 2 ^ 24 := hv8
      have f68 := f67.trans f8
      have K8 := K5.trans f68.kp
      have P8 := f68.pl.trans P5
      rw [if_neg (by omega)] at hq
      refine ra_bipush A 34 d_De_readInformation_127 (by decide) <| ?_
      have no : ¬ (bv F 33 7 = 0 ∧ bv F 40 24 = 34) → ∀ w3 w4, xg x (y0 u) 0 0 140 [some (.ref 132), some (.int (bz bb)), some (.int (nI (bv F (32 + 1) 7))), w3, w4] [.ref 133] g8 := by
        intro q w3 w4
        rw [if_pos q] at hq
        refine ra_iconst A 0 d_De_readInformation_140 (by decide) <| ra_iconst A 2 d_De_readInformation_141 (by decide) <| ?_
        refine ra_callV (As := [_, _]) A ok_Rd_demand l_De_92 im_Rd_demand sl_Rd_demand d_De_readInformation_142 (Nat.le_of_ble_eq_true rfl) rfl rfl rfl (Nat.le_of_ble_eq_true rfl) (xr_of at0 (by decide)) (s_Rd_demand hlx (c := false) (e := 2) (fun q => by cases q) (fun _ => bad hq.symm K8.1 P8))
      by_cases c8 : bv F 40 24 = 34
      · refine ra_icmp_ne (q := 140) A d_De_readInformation_129 (by decide) (fun cc => absurd ((by rw [show bv F (32 + 1 + 7) 24 = 34 from c8]; rfl)) cc) (fun _ => ?_)
        refine ra_iload_n A d_De_readInformation_132 rfl <| ?_
        by_cases c7 : bv F 33 7 = 0
        · refine ra_if_ne (q := 140) A d_De_readInformation_133 (by decide) (fun cc => absurd ((by rw [show bv F (32 + 1) 7 = 0 from c7]; rfl)) cc) (fun _ => ?_)
          rw [if_neg (fun z => z ⟨c7, c8⟩)] at hq
          refine ra_iconst A 1 d_De_readInformation_136 (by decide) <| ra_goto (q := 141) A d_De_readInformation_137 (by decide) <| ra_iconst A 2 d_De_readInformation_141 (by decide) <| ?_
          refine ra_callV (As := [_, _]) A ok_Rd_demand l_De_92 im_Rd_demand sl_Rd_demand d_De_readInformation_142 (Nat.le_of_ble_eq_true rfl) rfl rfl rfl (Nat.le_of_ble_eq_true rfl) (xr_of at0 (by decide)) (s_Rd_demand hlx (c := true) (e := 2) (fun _ => ?_) (fun q => by cases q))
          show xg x (y0 u) 0 0 145 _ _ g8
          refine ra_aload_n A d_De_readInformation_145 rfl <| ?_
          refine ra_callV (As := []) A ok_De_readSoundInformation l_De_103 im_De_readSoundInformation sl_De_readSoundInformation d_De_readInformation_146 (Nat.le_of_ble_eq_true rfl) rfl rfl rfl (Nat.le_of_ble_eq_true rfl) (xr_of at0 (by decide)) (s_De_readSoundInformation hlx R8 (fun h336 hok g9 K9 I9 R9 => ?_) (fun h336 g9 E => badE (by rw [← hq, if_pos h336]) K8.1 P8 E) (fun h336 hok g9 E => xgT_out ow at0.2.2.2.2.2.2.2.2.2.2 (hY 3 8 g9 (by rw [← hq, if_neg (fun z => z h336)]; exact if_pos hok) (E.after K8.1))))
          show xg x (y0 u) 0 0 149 _ _ g9
          have K9 := K8.trans K9
          have hok' := hok
          unfold iOk at hok'
          rw [if_neg (fun z => z h336), if_neg (fun z => z hok'), ← hbb] at hq
          clear R8 R7 R6 R5 f68 f67 f6 f7 f8 K8 P8 K5 P5 no bad
          refine ra_iconst A 0 d_De_readInformation_149 (by decide) <| ra_istore_n (L' := [_, _, _, _, _]) A d_De_readInformation_150 (by decide) rfl <| ?_
          have loop : ∀ r i p bb g w2 w4, i + r = 9000 → KP h g → IN g F → RD g F L p → p % 8 = 0 → dBl F L r p bb = Q → xg x (y0 u) 0 0 151 [some (.ref 132), some (.int (bz bb)), some (.int w2), some (.int (nI i)), some (.int w4)] [] g := by
            intro r
            induction r with
            | zero =>
              intro i p bb g w2 w4 hi hK hI hR hp8 hQ
              refine ra_iload_n A d_De_readInformation_151 rfl <| ra_sipush A 9000 d_De_readInformation_152 (by decide) <| ?_
              refine ra_icmp_ge (q := 246) A d_De_readInformation_155 (by decide) (fun _ => ?_) (fun cc => absurd ((by rw [show i = 9000 by omega]; decide)) cc)
              exact ra_vret A ow d_De_readInformation_246 (hX p g hQ.symm hok hK hI hR)
            | succ r ih =>
              intro i p bb g w2 w4 hi hK hI hR hp8 hQ
              rw [dBl] at hQ
              refine ra_iload_n A d_De_readInformation_151 rfl <| ra_sipush A 9000 d_De_readInformation_152 (by decide) <| ?_
              refine ra_icmp_ge (q := 246) A d_De_readInformation_155 (by decide) (fun cc => absurd cc (nI_ge (b := 9000) (by omega) (by decide))) (fun _ => ?_)
              refine ra_iload_n A d_De_readInformation_158 rfl <| ?_
              cases bb
              · refine ra_if_ne (q := 246) A d_De_readInformation_159 (by decide) (fun cc => absurd (rfl) cc) (fun _ => ?_)
                rw [if_neg (by decide)] at hQ
                refine ra_aload_n A d_De_readInformation_162 rfl <| ra_getR A f_De_24 d_De_readInformation_163 (Nat.le_of_ble_eq_true rfl) rfl rfl rfl <| ?_
                refine ra_callV (As := []) A ok_Rd_markPlace l_De_100 im_Rd_markPlace sl_Rd_markPlace d_De_readInformation_166 (Nat.le_of_ble_eq_true rfl) rfl rfl rfl (Nat.le_of_ble_eq_true rfl) (xr_of at0 (by decide)) (s_Rd_markPlace K hR ?_)
                show xg x (y0 u) 0 0 169 _ _ _
                have Ka : KP h (xw_I g 133 3 (nI (p / 8))) := hK.trans (KP_k (by decide) (by decide) (by decide))
                have Pa : (xw_I g 133 3 (nI (p / 8))).1 133 3 = nI (p / 8) := xI_e
                have Ra : RD (xw_I g 133 3 (nI (p / 8))) F L p := hR.of (xI_k (by decide)) (xI_k (by decide)) ⟨by rw [xI_j (by decide)]; exact hR.2.2.1.1, by rw [xI_j (by decide)]; exact hR.2.2.1.2⟩ hR.2.2.2.1
                have Ia : IN (xw_I g 133 3 (nI (p / 8))) F := by unfold IN; rw [xI_k (by decide), xI_k (by decide)]; exact hI
                generalize xw_I g 133 3 (nI (p / 8)) = ga at Ka Pa Ra Ia ⊢
                have IM : ∀ {g' : xw_H}, RM1 ga g' → IN g' F := fun f => by unfold IN; rw [f.1 132 (by decide), f.1 136 (by decide), f.2.2]; exact Ia
                refine ra_aload_n A d_De_readInformation_169 rfl <| ra_getR A f_De_24 d_De_readInformation_170 (Nat.le_of_ble_eq_true rfl) rfl rfl rfl <| ra_iconst A 1 d_De_readInformation_173 (by decide) <| ?_
                refine ra_callV (As := [_]) A ok_Rd_bits l_De_96 im_Rd_bits sl_Rd_bits d_De_readInformation_174 (Nat.le_of_ble_eq_true rfl) rfl rfl rfl (Nat.le_of_ble_eq_true rfl) (xr_of at0 (by decide)) (s_Rd_bits hlx (n := 1) Ra (by decide) rfl (fun v1 p1 g1 e1 f1 R1 hv1 => ?_) (fun e g1 e1 E => badE (by rw [← hQ, (rB_err e1).1, if_pos (by have := (rB_err e1).2; omega)]) Ka.1 Pa E))
                show xg x (y0 u) 0 0 177 _ _ g1
                obtain ⟨a1, b1, -⟩ := rB_ok e1
                subst a1 b1
                refine ra_iconst A 1 d_De_readInformation_177 (by decide) <| ?_
                have at186 : ∀ b1 : Bool, b1 = decide (bv F p 1 = 1) → xg x (y0 u) 0 0 186 [some (.ref 132), some (.int (bz false)), some (.int w2), some (.int (nI i)), some (.int w4)] [.int (bz b1)] g1 := by
                  intro b1 hb1
                  refine ra_istore_n (L' := [_, _, _, _, _]) A d_De_readInformation_186 (by decide) rfl <| ra_aload_n A d_De_readInformation_187 rfl <| ra_getR A f_De_24 d_De_readInformation_188 (Nat.le_of_ble_eq_true rfl) rfl rfl rfl <| ra_bipush A 7 d_De_readInformation_191 (by decide) <| ?_
                  refine ra_callV (As := [_]) A ok_Rd_bits l_De_96 im_Rd_bits sl_Rd_bits d_De_readInformation_193 (Nat.le_of_ble_eq_true rfl) rfl rfl rfl (Nat.le_of_ble_eq_true rfl) (xr_of at0 (by decide)) (s_Rd_bits hlx (n := 7) R1 (by decide) rfl (fun v2 p2 g2 e2 f2 R2 hv2 => ?_) (fun e g2 e2 E => badE (by rw [← hQ, (rB_err e2).1, if_pos (by have := (rB_err e2).2; omega)]) (Ka.trans f1.kp).1 (f1.pl.trans Pa) E))
                  show xg x (y0 u) 0 0 196 _ _ g2
                  obtain ⟨a2, b2, -⟩ := rB_ok e2
                  subst a2 b2
                  have f12 := f1.trans f2
                  refine ra_istore_n (L' := [_, _, _, _, _]) A d_De_readInformation_196 (by decide) rfl <| ra_aload_n A d_De_readInformation_197 rfl <| ra_getR A f_De_24 d_De_readInformation_198 (Nat.le_of_ble_eq_true rfl) rfl rfl rfl <| ra_bipush A 24 d_De_readInformation_201 (by decide) <| ?_
                  refine ra_callV (As := [_]) A ok_Rd_bits l_De_96 im_Rd_bits sl_Rd_bits d_De_readInformation_203 (Nat.le_of_ble_eq_true rfl) rfl rfl rfl (Nat.le_of_ble_eq_true rfl) (xr_of at0 (by decide)) (s_Rd_bits hlx (n := 24) R2 (by decide) rfl (fun v3 p3 g3 e3 f3 R3 hv3 => ?_) (fun e g3 e3 E => badE (by rw [← hQ, (rB_err e3).1, if_pos (by have := (rB_err e3).2; omega)]) (Ka.trans f12.kp).1 (f12.pl.trans Pa) E))
                  show xg x (y0 u) 0 0 206 _ _ g3
                  obtain ⟨a3, b3, q3⟩ := rB_ok e3
                  subst a3 b3
                  have f13 := f12.trans f3
                  rw [if_neg (by omega)] at hQ
                  rw [show p + 1 + 7 = p + 8 by omega] at R3 hv3 ⊢
                  refine ra_istore (L' := [_, _, _, _, _]) A d_De_readInformation_206 (by decide) rfl <| ra_aload_n A d_De_readInformation_208 rfl <| ra_getR A f_De_24 d_De_readInformation_209 (Nat.le_of_ble_eq_true rfl) rfl rfl rfl <| ra_iload_n A d_De_readInformation_212 rfl <| ?_
                  have no : (bv F (p + 1) 7 = 0 ∨ bv F (p + 1) 7 = 127) → xg x (y0 u) 0 0 226 [some (.ref 132), some (.int (bz b1)), some (.int (nI (bv F (p + 1) 7))), some (.int (nI i)), some (.int (nI (bv F (p + 8) 24)))] [.ref 133] g3 := by
                    intro q
                    rw [if_pos q] at hQ
                    refine ra_iconst A 0 d_De_readInformation_226 (by decide) <| ra_iconst A 2 d_De_readInformation_227 (by decide) <| ?_
                    refine ra_callV (As := [_, _]) A ok_Rd_demand l_De_92 im_Rd_demand sl_Rd_demand d_De_readInformation_228 (Nat.le_of_ble_eq_true rfl) rfl rfl rfl (Nat.le_of_ble_eq_true rfl) (xr_of at0 (by decide)) (s_Rd_demand hlx (c := false) (e := 2) (fun q => by cases q) (fun _ => badE hQ.symm (Ka.trans f13.kp).1 (f13.pl.trans Pa) ER_I))
                  by_cases c0 : bv F (p + 1) 7 = 0
                  · refine ra_if_eq (q := 226) A d_De_readInformation_213 (by decide) (fun _ => ?_) (fun cc => absurd ((by rw [c0]; rfl)) cc)
                    exact no (Or.inl c0)
                  · refine ra_if_eq (q := 226) A d_De_readInformation_213 (by decide) (fun cc => absurd cc (nI_ne0 (by omega) (by omega))) (fun _ => ?_)
                    refine ra_iload_n A d_De_readInformation_216 rfl <| ra_bipush A 127 d_De_readInformation_217 (by decide) <| ?_
                    by_cases c127 : bv F (p + 1) 7 = 127
                    · refine ra_icmp_eq (q := 226) A d_De_readInformation_219 (by decide) (fun _ => ?_) (fun cc => absurd ((by rw [c127]; rfl)) cc)
                      exact no (Or.inr c127)
                    · refine ra_icmp_eq (q := 226) A d_De_readInformation_219 (by decide) (fun cc => absurd cc (fun z => c127 ((nI_eq (b := 127) (by omega) (by decide)).mp z))) (fun _ => ?_)
                      rw [if_neg (fun z => z.elim c0 c127)] at hQ
                      refine ra_iconst A 1 d_De_readInformation_222 (by decide) <| ra_goto (q := 227) A d_De_readInformation_223 (by decide) <| ra_iconst A 2 d_De_readInformation_227 (by decide) <| ?_
                      refine ra_callV (As := [_, _]) A ok_Rd_demand l_De_92 im_Rd_demand sl_Rd_demand d_De_readInformation_228 (Nat.le_of_ble_eq_true rfl) rfl rfl rfl (Nat.le_of_ble_eq_true rfl) (xr_of at0 (by decide)) (s_Rd_demand hlx (c := true) (e := 2) (fun _ => ?_) (fun q => by cases q))
                      show xg x (y0 u) 0 0 231 _ _ g3
                      refine ra_aload_n A d_De_readInformation_231 rfl <| ra_getR A f_De_24 d_De_readInformation_232 (Nat.le_of_ble_eq_true rfl) rfl rfl rfl <| ra_iload A d_De_readInformation_235 rfl <| ?_
                      refine ra_callV (As := [_]) A ok_Rd_skipBytes l_De_106 im_Rd_skipBytes sl_Rd_skipBytes d_De_readInformation_237 (Nat.le_of_ble_eq_true rfl) rfl rfl rfl (Nat.le_of_ble_eq_true rfl) (xr_of at0 (by decide)) (s_Rd_skipBytes hlx R3 (by omega) (fun hs g4 f4 R4 => ?_) (fun hs g4 E => badE (by rw [← hQ, if_pos (by omega)]) (Ka.trans f13.kp).1 (f13.pl.trans Pa) E))
                      show xg x (y0 u) 0 0 240 _ _ g4
                      have R4 := R4 (by omega)
                      rw [show p + 8 + 24 + 8 * bv F (p + 8) 24 = p + 32 + 8 * bv F (p + 8) 24 by omega] at R4
                      rw [if_neg (by omega), ← hb1] at hQ
                      refine ra_iinc (L' := [_, _, _, _, _]) A 1 d_De_readInformation_240 rfl (by decide) (by decide) rfl <| ra_goto (q := 151) A d_De_readInformation_243 (by decide) <| ?_
                      rw [nI_1]
                      exact ih (i + 1) _ b1 g4 _ _ (by omega) (Ka.trans (f13.trans f4).kp) (IM (f13.trans f4)) R4 (by omega) hQ
                by_cases cb : bv F p 1 = 1
                · refine ra_icmp_ne (q := 185) A d_De_readInformation_178 (by decide) (fun cc => absurd ((by rw [cb]; rfl)) cc) (fun _ => ?_)
                  refine ra_iconst A 1 d_De_readInformation_181 (by decide) <| ra_goto (q := 186) A d_De_readInformation_182 (by decide) <| ?_
                  exact at186 true (by rw [decide_eq_true cb])
                · refine ra_icmp_ne (q := 185) A d_De_readInformation_178 (by decide) (fun _ => ?_) (fun cc => absurd cc (fun z => cb ((nI_eq (b := 1) (by omega) (by decide)).mp z)))
                  refine ra_iconst A 0 d_De_readInformation_185 (by decide) <| ?_
                  exact at186 false (by rw [decide_eq_false cb])
              · refine ra_if_ne (q := 246) A d_De_readInformation_159 (by decide) (fun _ => ?_) (fun cc => absurd cc ((by decide)))
                rw [if_pos rfl] at hQ
                exact ra_vret A ow d_De_readInformation_246 (hX p g hQ.symm hok hK hI hR)
          exact loop 9000 0 336 bb g9 _ _ rfl K9 I9 R9 (by decide) hq
        · refine ra_if_ne (q := 140) A d_De_readInformation_133 (by decide) (fun _ => ?_) (fun cc => absurd cc (nI_ne0 (n := bv F 33 7) (by omega) (by omega)))
          exact no (fun z => c7 z.1) _ _
      · refine ra_icmp_ne (q := 140) A d_De_readInformation_129 (by decide) (fun _ => ?_) (fun cc => absurd cc (fun z => c8 ((nI_eq (b := 34) (by omega) (by decide)).mp z)))
        exact no (fun z => c8 z.2) _ _
    by_cases cb : bv F 32 1 = 1
    · refine ra_icmp_ne (q := 102) A d_De_readInformation_95 (by decide) (fun cc => absurd ((by rw [cb]; rfl)) cc) (fun _ => ?_)
      refine ra_iconst A 1 d_De_readInformation_98 (by decide) <| ra_goto (q := 103) A d_De_readInformation_99 (by decide) <| ?_
      exact at103 true (by rw [decide_eq_true cb])
    · refine ra_icmp_ne (q := 102) A d_De_readInformation_95 (by decide) (fun _ => ?_) (fun cc => absurd cc (fun z => cb ((nI_eq (b := 1) (by omega) (by decide)).mp z)))
      refine ra_iconst A 0 d_De_readInformation_102 (by decide) <| ?_
      exact at103 false (by rw [decide_eq_false cb])
  · refine ra_icmp_lt (q := 22) A d_De_readInformation_15 (by decide) (fun _ => ?_) (fun cc => absurd (nI_lt (b := 4) (by omega) (by decide)) cc)
    refine ra_iconst A 0 d_De_readInformation_22 (by decide) <| ra_iconst A 1 d_De_readInformation_23 (by decide) <| ?_
    refine ra_callV (As := [_, _]) A ok_Rd_demand l_De_92 im_Rd_demand sl_Rd_demand d_De_readInformation_24 (Nat.le_of_ble_eq_true rfl) rfl rfl rfl (Nat.le_of_ble_eq_true rfl) (xr_of at0 (by decide)) (s_Rd_demand hlx (c := false) (e := 1) (fun q => by cases q) (fun _ => bad (by rw [← hq, if_pos (fun z => cL z.1)]) FD.rfl hp0))
end S99a
