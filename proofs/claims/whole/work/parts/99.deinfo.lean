/-! SoundStream$Decoder: readEight, readSoundInformation -/
/-- a fault e at the place pl -/
def EP (h h' : xw_H) (e pl : Nat) : Prop := FD h h' ∧ h'.1 133 2 = nI e ∧ h'.1 133 3 = nI pl
/-- the decoder's counts are kept -/
def KP (h h' : xw_H) : Prop := FD h h' ∧ h'.1 132 11 = h.1 132 11 ∧ h'.1 132 14 = h.1 132 14 ∧ h'.1 132 5 = h.1 132 5 ∧ h'.1 140 = h.1 140
theorem KP.rfl {h : xw_H} : KP h h := ⟨FD.rfl, _root_.rfl, _root_.rfl, _root_.rfl, _root_.rfl⟩
theorem KP.trans {h g h' : xw_H} (x : KP h g) (y : KP g h') : KP h h' := ⟨x.1.trans y.1, y.2.1.trans x.2.1, y.2.2.1.trans x.2.2.1, y.2.2.2.1.trans x.2.2.2.1, y.2.2.2.2.trans x.2.2.2.2⟩
theorem RM1.kp {h h' : xw_H} (x : RM1 h h') : KP h h' := ⟨x.fr, by rw [x.1 132 (by decide)], by rw [x.1 132 (by decide)], by rw [x.1 132 (by decide)], x.1 140 (by decide)⟩
theorem KP_I {h : xw_H} {j : Nat} {v : Int32} (h1 : j ≠ 11) (h2 : j ≠ 14) (h3 : j ≠ 5) : KP h (xw_I h 132 j v) := ⟨FD.rfl.I (by decide) (Or.inr h3), xI_j (fun q => h1 q.symm), xI_j (fun q => h2 q.symm), xI_j (fun q => h3 q.symm), xI_k (by decide)⟩
theorem KP_J {h : xw_H} {j : Nat} {v : Int64} : KP h (xw_J h 132 j v) := ⟨FD.rfl.J (by decide), by rw [xJ_1], by rw [xJ_1], by rw [xJ_1], by rw [xJ_1]⟩
theorem KP_k {h : xw_H} {k j : Nat} {v : Int32} (h1 : k ∈ DLs) (h2 : k ≠ 132) (h3 : k ≠ 140) : KP h (xw_I h k j v) := ⟨FD.rfl.I h1 (Or.inl h2), by rw [xI_k (fun q => h2 q.symm)], by rw [xI_k (fun q => h2 q.symm)], by rw [xI_k (fun q => h2 q.symm)], xI_k (fun q => h3 q.symm)⟩
theorem ER.ep {h h' : xw_H} {e pl : Nat} (E : ER h h' e) (hp : h.1 133 3 = nI pl) : EP h h' e pl := ⟨E.1, E.2.1, E.2.2.trans hp⟩
theorem EP.after {h g h' : xw_H} {e pl : Nat} (E : EP g h' e pl) (f : FD h g) : EP h h' e pl := ⟨f.trans E.1, E.2⟩
/-- what the information has told -/
def IN (h : xw_H) (F : Nat → Bool) : Prop := (h.1 132 9 = nI (iLe F) ∧ h.1 132 10 = nI (iKn F) ∧ h.2 132 7 = lN (iLo F) ∧ h.2 132 8 = lN (iHi F) ∧ h.1 132 6 = bz (smK F)) ∧ h.1 136 0 = nI (iCh F) ∧ h.1 136 1 = nI (iDp F) ∧ h.1 136 2 = nI (iGr F) ∧ h.1 136 3 = nI (iRa F)
section S99
variable {u : xu_T} {l : Launch} {h : xw_H} {X : xc_R → xw_H → Nat → Nat → Prop}
theorem s_De_readEight (hl : l.stackTraces = false) {F : Nat → Bool} {L p : Nat} (R : RD h F L p) (hX : p + 64 ≤ 8 * L → ∀ h', RM1 h h' → RD h' F L (p + 64) → X (.inl (some (.long (lN (e8 F p 8))))) h' 0 0) (hY : ¬ p + 64 ≤ 8 * L → ∀ h', ER h h' 13 → X (.inr ISE) h' 1 6) : xm_M l (y0 u) (KK0 u) m_De_readEight [.ref 132] h X := by
  refine xm_of [none, none, none] (by simp) (Nat.le_of_ble_eq_true rfl) (by decide) (fun x at0 => ?_)
  have A := xa_of at0 (KK0_ok u)
  have ow := at0.2.2.2.2.1
  have hlx : (xg_l x).stackTraces = false := by rw [at0.2.2.2.2.2.1]; exact hl
  refine ra_lconst A 0 d_De_readEight_0 (by decide) <| ra_lstore_n (L' := [_, _, _, _]) A d_De_readEight_1 (by decide) rfl <| ra_iconst A 0 d_De_readEight_2 (by decide) <| ra_istore_n (L' := [_, _, _, _]) A d_De_readEight_3 (by decide) rfl <| ?_
  refine lp_up (σ := xw_H) (W := fun i g => xg x (y0 u) 0 0 4 [some (.ref 132), some (.long (lN (e8 F p i))), none, some (.int (nI i))] [] g) (I := fun i g => RM1 h g ∧ RD g F L (p + 8 * i)) 8 ?_ ?_ 0 h (Nat.zero_le _) ⟨RM1.rfl, R⟩
  · rintro g ⟨hf, hR⟩
    refine ra_iload_n A d_De_readEight_4 rfl <| ra_bipush A 8 d_De_readEight_5 (by decide) <| ?_
    refine ra_icmp_ge (q := 34) A d_De_readEight_7 (by decide) (fun _ => ?_) (fun cc => absurd (Int32.le_refl _) cc)
    refine ra_lload_n A d_De_readEight_34 rfl <| ?_
    exact ra_lret A ow d_De_readEight_35 (hX hR.2.2.2.1 g hf hR)
  · rintro i g hi ⟨hf, hR⟩ ih
    refine ra_iload_n A d_De_readEight_4 rfl <| ra_bipush A 8 d_De_readEight_5 (by decide) <| ?_
    refine ra_icmp_ge (q := 34) A d_De_readEight_7 (by decide) (fun cc => absurd cc (nI_ge (b := 8) hi (by decide))) (fun _ => ?_)
    refine ra_lload_n A d_De_readEight_10 rfl <| ra_aload_n A d_De_readEight_11 rfl <| ra_getR A f_De_24 d_De_readEight_12 (Nat.le_of_ble_eq_true rfl) rfl rfl rfl <| ra_bipush A 8 d_De_readEight_15 (by decide) <| ?_
    refine ra_callV (As := [_]) A ok_Rd_bits l_De_96 im_Rd_bits sl_Rd_bits d_De_readEight_17 (Nat.le_of_ble_eq_true rfl) rfl rfl rfl (Nat.le_of_ble_eq_true rfl) (xr_of at0 (by decide)) (s_Rd_bits hlx (n := 8) hR (by decide) rfl (fun v p1 g1 e1 f1 R1 hv => ?_) (fun e g1 e1 E => xgT_out ow at0.2.2.2.2.2.2.2.2.2.2 (hY (by have := rB_err e1; omega) g1 (by rw [← (rB_err e1).1]; exact hf.er E))))
    show xg x (y0 u) 0 0 20 _ _ g1
    obtain ⟨q1, q2, q3⟩ := rB_ok e1
    subst q1 q2
    have hlt := e8_lt (F := F) (q := p) i
    have hp64 : (2 : Nat) ^ (8 * i) * 2 ^ 8 ≤ 2 ^ 64 := by rw [← Nat.pow_add]; exact Nat.pow_le_pow_right (by decide) (by omega)
    have hmul : bv F (p + 8 * i) 8 * 2 ^ (8 * i) + 2 ^ (8 * i) ≤ 2 ^ 8 * 2 ^ (8 * i) := by
      have := Nat.mul_le_mul_right (2 ^ (8 * i)) hv
      rw [Nat.succ_mul] at this
      exact this
    refine ra_i2l A d_De_readEight_20 <| ?_
    rw [nI_l (by omega)]
    refine ra_bipush A 8 d_De_readEight_21 (by decide) <| ra_iload_n A d_De_readEight_23 rfl <| ra_imul A d_De_readEight_24 <| ?_
    rw [show (8 : Int32) * nI i = nI (8 * i) from pk_mul 8 i]
    refine ra_lshl A d_De_readEight_25 <| ?_
    rw [wb_shl _ (by omega)]
    refine ra_lor A d_De_readEight_26 <| ?_
    rw [wb_or (by omega) (by omega), show e8 F p i ||| bv F (p + 8 * i) 8 * 2 ^ (8 * i) = e8 F p (i + 1) by rw [Nat.or_comm, Nat.mul_comm, ← Nat.two_pow_add_eq_or_of_lt hlt, e8, Nat.mul_comm]; omega]
    refine ra_lstore_n (L' := [_, _, _, _]) A d_De_readEight_27 (by decide) rfl <| ra_iinc (L' := [_, _, _, _]) A 1 d_De_readEight_28 rfl (by decide) (by decide) rfl <| ra_goto (q := 4) A d_De_readEight_31 (by decide) <| ?_
    rw [nI_1]
    exact ih _ ⟨hf.trans f1, by rw [show p + 8 * (i + 1) = p + 8 * i + 8 by omega]; exact R1⟩
theorem s_De_readSoundInformation (hl : l.stackTraces = false) {F : Nat → Bool} {L : Nat} (R : RD h F L 64)
    (hX : 336 ≤ 8 * L → iOk F → ∀ h', KP h h' → IN h' F → RD h' F L 336 → X (.inl none) h' 0 0) (hY : ¬ 336 ≤ 8 * L → ∀ h', ER h h' 13 → X (.inr ISE) h' 1 6) (hZ : 336 ≤ 8 * L → ¬ iOk F → ∀ h', EP h h' 3 8 → X (.inr ISE) h' 1 6) : xm_M l (y0 u) (KK0 u) m_De_readSoundInformation [.ref 132] h X := by
  refine xm_of [none, none, none, none, none, none, none] (by simp) (Nat.le_of_ble_eq_true rfl) (by decide) (fun x at0 => ?_)
  have A := xa_of at0 (KK0_ok u)
  have K := KK0_ok u
  have ow := at0.2.2.2.2.1
  have hlx : (xg_l x).stackTraces = false := by rw [at0.2.2.2.2.2.1]; exact hl
  have out : ∀ {g g' : xw_H} {n p e pc : Nat} {LL : List (Option Value)}, KP h g → g.1 133 3 = h.1 133 3 → rB F L n p = .inl e → p + n ≤ 336 → ER g g' e → xgT x (y0 u) (0 + 1) (0 + 6) pc LL ISE g' := by
    intro g g' n p e pc LL kp pl e1 hp E
    obtain ⟨rfl, q⟩ := rB_err e1
    exact xgT_out ow at0.2.2.2.2.2.2.2.2.2.2 (hY (by omega) g' (E.after kp.1 pl))
  refine ra_aload_n A d_De_readSoundInformation_0 rfl <| ra_getR A f_De_24 d_De_readSoundInformation_1 (Nat.le_of_ble_eq_true rfl) rfl rfl rfl <| ?_
  refine ra_callV (As := []) A ok_Rd_nextByte l_De_110 im_Rd_nextByte sl_Rd_nextByte d_De_readSoundInformation_4 (Nat.le_of_ble_eq_true rfl) rfl rfl rfl (Nat.le_of_ble_eq_true rfl) (xr_of at0 (by decide)) (s_Rd_nextByte K R ?_)
  show xg x (y0 u) 0 0 7 _ _ h
  refine ra_istore_n (L' := [_, _, _, _, _, _, _, _]) A d_De_readSoundInformation_7 (by decide) rfl <| ra_aload_n A d_De_readSoundInformation_8 rfl <| ra_aload_n A d_De_readSoundInformation_9 rfl <| ra_getR A f_De_24 d_De_readSoundInformation_10 (Nat.le_of_ble_eq_true rfl) rfl rfl rfl <| ra_bipush A 16 d_De_readSoundInformation_13 (by decide) <| ?_
  refine ra_callV (As := [_]) A ok_Rd_bits l_De_96 im_Rd_bits sl_Rd_bits d_De_readSoundInformation_15 (Nat.le_of_ble_eq_true rfl) rfl rfl rfl (Nat.le_of_ble_eq_true rfl) (xr_of at0 (by decide)) (s_Rd_bits hlx (n := 16) R (by decide) rfl (fun v1 p1 g1 e1 f1 R1 hv1 => ?_) (fun e g1 e1 E => out KP.rfl rfl e1 (by decide) E))
  show xg x (y0 u) 0 0 18 _ _ g1
  obtain ⟨a1, b1, -⟩ := rB_ok e1
  subst a1 b1
  refine ra_putI (ty := .int) A f_De_114 rfl rfl (by decide +kernel) rfl rfl d_De_readSoundInformation_18 (Nat.le_of_ble_eq_true rfl) rfl rfl <| ?_
  have K1 : KP h (xw_I g1 132 9 (nI (bv F 64 16))) := f1.kp.trans (KP_I (by decide) (by decide) (by decide))
  have P1 : (xw_I g1 132 9 (nI (bv F 64 16))).1 133 3 = h.1 133 3 := by rw [xI_k (by decide)]; exact f1.pl
  have R1 : RD (xw_I g1 132 9 (nI (bv F 64 16))) F L 80 := R1.of (xI_k (by decide)) (xI_k (by decide)) (by rw [xI_k (by decide)]; exact R1.2.2.1) R1.2.2.2.1
  have L1 : (xw_I g1 132 9 (nI (bv F 64 16))).1 132 9 = nI (iLe F) := xI_e
  generalize xw_I g1 132 9 (nI (bv F 64 16)) = ga at K1 P1 R1 L1 ⊢
  clear f1
  refine ra_aload_n A d_De_readSoundInformation_21 rfl <| ra_getR A f_De_24 d_De_readSoundInformation_22 (Nat.le_of_ble_eq_true rfl) rfl rfl rfl <| ra_bipush A 16 d_De_readSoundInformation_25 (by decide) <| ?_
  refine ra_callV (As := [_]) A ok_Rd_bits l_De_96 im_Rd_bits sl_Rd_bits d_De_readSoundInformation_27 (Nat.le_of_ble_eq_true rfl) rfl rfl rfl (Nat.le_of_ble_eq_true rfl) (xr_of at0 (by decide)) (s_Rd_bits hlx (n := 16) R1 (by decide) rfl (fun v2 p2 g2 e2 f2 R2 hv2 => ?_) (fun e g2 e2 E => out K1 P1 e2 (by decide) E))
  show xg x (y0 u) 0 0 30 _ _ g2
  obtain ⟨a2, b2, -⟩ := rB_ok e2
  subst a2 b2
  refine ra_istore_n (L' := [_, _, _, _, _, _, _, _]) A d_De_readSoundInformation_30 (by decide) rfl <| ra_aload_n A d_De_readSoundInformation_31 rfl <| ra_getR A f_De_24 d_De_readSoundInformation_32 (Nat.le_of_ble_eq_true rfl) rfl rfl rfl <| ra_bipush A 6 d_De_readSoundInformation_35 (by decide) <| ?_
  refine ra_callV (As := [_]) A ok_Rd_skipBytes l_De_106 im_Rd_skipBytes sl_Rd_skipBytes d_De_readSoundInformation_37 (Nat.le_of_ble_eq_true rfl) rfl rfl rfl (Nat.le_of_ble_eq_true rfl) (xr_of at0 (by decide)) (s_Rd_skipBytes hlx (n := 6) R2 (by decide) (fun hs g3 f3 R3 => ?_) (fun hs g3 E => xgT_out ow at0.2.2.2.2.2.2.2.2.2.2 (hY (by omega) g3 (E.after (K1.trans f2.kp).1 (f2.pl.trans P1)))))
  show xg x (y0 u) 0 0 40 _ _ g3
  have R3 : RD g3 F L 144 := R3 (by decide)
  have f23 := f2.trans f3
  refine ra_aload_n A d_De_readSoundInformation_40 rfl <| ra_getR A f_De_24 d_De_readSoundInformation_41 (Nat.le_of_ble_eq_true rfl) rfl rfl rfl <| ra_bipush A 20 d_De_readSoundInformation_44 (by decide) <| ?_
  refine ra_callV (As := [_]) A ok_Rd_bits l_De_96 im_Rd_bits sl_Rd_bits d_De_readSoundInformation_46 (Nat.le_of_ble_eq_true rfl) rfl rfl rfl (Nat.le_of_ble_eq_true rfl) (xr_of at0 (by decide)) (s_Rd_bits hlx (n := 20) R3 (by decide) rfl (fun v4 p4 g4 e4 f4 R4 hv4 => ?_) (fun e g4 e4 E => out (K1.trans f23.kp) (f23.pl.trans P1) e4 (by decide) E))
  show xg x (y0 u) 0 0 49 _ _ g4
  obtain ⟨a4, b4, -⟩ := rB_ok e4
  subst a4 b4
  have f24 := f23.trans f4
  refine ra_istore_n (L' := [_, _, _, _, _, _, _, _]) A d_De_readSoundInformation_49 (by decide) rfl <| ra_aload_n A d_De_readSoundInformation_50 rfl <| ra_getR A f_De_24 d_De_readSoundInformation_51 (Nat.le_of_ble_eq_true rfl) rfl rfl rfl <| ra_iconst A 3 d_De_readSoundInformation_54 (by decide) <| ?_
  refine ra_callV (As := [_]) A ok_Rd_bits l_De_96 im_Rd_bits sl_Rd_bits d_De_readSoundInformation_55 (Nat.le_of_ble_eq_true rfl) rfl rfl rfl (Nat.le_of_ble_eq_true rfl) (xr_of at0 (by decide)) (s_Rd_bits hlx (n := 3) R4 (by decide) rfl (fun v5 p5 g5 e5 f5 R5 hv5 => ?_) (fun e g5 e5 E => out (K1.trans f24.kp) (f24.pl.trans P1) e5 (by decide) E))
  show xg x (y0 u) 0 0 58 _ _ g5
  obtain ⟨a5, b5, -⟩ := rB_ok e5
  subst a5 b5
  have f25 := f24.trans f5
  refine ra_iconst A 1 d_De_readSoundInformation_58 (by decide) <| ra_iadd A d_De_readSoundInformation_59 <| ?_
  rw [nI_1]
  refine ra_istore (L' := [_, _, _, _, _, _, _, _]) A d_De_readSoundInformation_60 (by decide) rfl <| ra_aload_n A d_De_readSoundInformation_62 rfl <| ra_getR A f_De_24 d_De_readSoundInformation_63 (Nat.le_of_ble_eq_true rfl) rfl rfl rfl <| ra_iconst A 5 d_De_readSoundInformation_66 (by decide) <| ?_
  refine ra_callV (As := [_]) A ok_Rd_bits l_De_96 im_Rd_bits sl_Rd_bits d_De_readSoundInformation_67 (Nat.le_of_ble_eq_true rfl) rfl rfl rfl (Nat.le_of_ble_eq_true rfl) (xr_of at0 (by decide)) (s_Rd_bits hlx (n := 5) R5 (by decide) rfl (fun v6 p6 g6 e6 f6 R6 hv6 => ?_) (fun e g6 e6 E => out (K1.trans f25.kp) (f25.pl.trans P1) e6 (by decide) E))
  show xg x (y0 u) 0 0 70 _ _ g6
  obtain ⟨a6, b6, -⟩ := rB_ok e6
  subst a6 b6
  have f26 := f25.trans f6
  refine ra_iconst A 1 d_De_readSoundInformation_70 (by decide) <| ra_iadd A d_De_readSoundInformation_71 <| ?_
  rw [nI_1]
  refine ra_istore (L' := [_, _, _, _, _, _, _, _]) A d_De_readSoundInformation_72 (by decide) rfl <| ra_aload_n A d_De_readSoundInformation_74 rfl <| ra_getR A f_De_24 d_De_readSoundInformation_75 (Nat.le_of_ble_eq_true rfl) rfl rfl rfl <| ra_bipush A 18 d_De_readSoundInformation_78 (by decide) <| ?_
  refine ra_callV (As := [_]) A ok_Rd_bits l_De_96 im_Rd_bits sl_Rd_bits d_De_readSoundInformation_80 (Nat.le_of_ble_eq_true rfl) rfl rfl rfl (Nat.le_of_ble_eq_true rfl) (xr_of at0 (by decide)) (s_Rd_bits hlx (n := 18) R6 (by decide) rfl (fun v7 p7 g7 e7 f7 R7 hv7 => ?_) (fun e g7 e7 E => out (K1.trans f26.kp) (f26.pl.trans P1) e7 (by decide) E))
  show xg x (y0 u) 0 0 83 _ _ g7
  obtain ⟨a7, b7, -⟩ := rB_ok e7
  subst a7 b7
  have f27 := f26.trans f7
  refine ra_i2l A d_De_readSoundInformation_83 <| ?_
  rw [nI_l (by omega)]
  refine ra_bipush A 18 d_De_readSoundInformation_84 (by decide) <| ra_lshl A d_De_readSoundInformation_86 <| ?_
  rw [show lN (bv F (144 + 20 + 3 + 5) 18) <<< ((18 : Int32).toInt64 &&& 63) = lN (bv F (144 + 20 + 3 + 5) 18 * 2 ^ 18) from wb_shl _ (k := 18) (by decide)]
  refine ra_aload_n A d_De_readSoundInformation_87 rfl <| ra_getR A f_De_24 d_De_readSoundInformation_88 (Nat.le_of_ble_eq_true rfl) rfl rfl rfl <| ra_bipush A 18 d_De_readSoundInformation_91 (by decide) <| ?_
  refine ra_callV (As := [_]) A ok_Rd_bits l_De_96 im_Rd_bits sl_Rd_bits d_De_readSoundInformation_93 (Nat.le_of_ble_eq_true rfl) rfl rfl rfl (Nat.le_of_ble_eq_true rfl) (xr_of at0 (by decide)) (s_Rd_bits hlx (n := 18) R7 (by decide) rfl (fun v8 p8 g8 e8' f8 R8 hv8 => ?_) (fun e g8 e8' E => out (K1.trans f27.kp) (f27.pl.trans P1) e8' (by decide) E))
  show xg x (y0 u) 0 0 96 _ _ g8
  obtain ⟨a8, b8, -⟩ := rB_ok e8'
  subst a8 b8
  have f28 := f27.trans f8
  have hKn : bv F (144 + 20 + 3 + 5) 18 * 2 ^ 18 ||| bv F (144 + 20 + 3 + 5 + 18) 18 = iKn F := by
    rw [Nat.mul_comm, ← Nat.two_pow_add_eq_or_of_lt hv8, Nat.mul_comm]
    exact (bv_add (F := F) (p := 172) (m := 18) 18).symm
  have hKn36 : iKn F < 2 ^ 36 := bv_lt 36
  refine ra_i2l A d_De_readSoundInformation_96 <| ?_
  rw [nI_l (by omega)]
  refine ra_lor A d_De_readSoundInformation_97 <| ?_
  rw [wb_or (by omega) (by omega), hKn]
  refine ra_lstore (L' := [_, _, _, _, _, _, _, _]) A d_De_readSoundInformation_98 (by decide) rfl <| ra_aload_n A d_De_readSoundInformation_100 rfl <| ra_aload_n A d_De_readSoundInformation_101 rfl <| ?_
  refine ra_callV (As := []) A ok_De_readEight l_De_117 im_De_readEight sl_De_readEight d_De_readSoundInformation_102 (Nat.le_of_ble_eq_true rfl) rfl rfl rfl (Nat.le_of_ble_eq_true rfl) (xr_of at0 (by decide)) (s_De_readEight hlx R8 (fun hp g9 f9 R9 => ?_) (fun hp g9 E => xgT_out ow at0.2.2.2.2.2.2.2.2.2.2 (hY (by omega) g9 (E.after (K1.trans f28.kp).1 (f28.pl.trans P1)))))
  show xg x (y0 u) 0 0 105 _ _ g9
  have f29 := f28.trans f9
  rw [show e8 F (144 + 20 + 3 + 5 + 18 + 18) 8 = iLo F from rfl]
  refine ra_putJ A f_De_121 rfl rfl (by decide +kernel) d_De_readSoundInformation_105 (Nat.le_of_ble_eq_true rfl) rfl rfl <| ?_
  have Kb : KP h (xw_J g9 132 7 (lN (iLo F))) := (K1.trans f29.kp).trans KP_J
  have Pb : (xw_J g9 132 7 (lN (iLo F))).1 133 3 = h.1 133 3 := by rw [xJ_1]; exact f29.pl.trans P1
  have Rb : RD (xw_J g9 132 7 (lN (iLo F))) F L 272 := R9.of (by rw [xJ_1]) (by rw [xJ_1]) (by rw [xJ_1]; exact R9.2.2.1) R9.2.2.2.1
  have Lb : (xw_J g9 132 7 (lN (iLo F))).1 132 9 = nI (iLe F) := by rw [xJ_1, f29.1 132 (by decide)]; exact L1
  have Jb : (xw_J g9 132 7 (lN (iLo F))).2 132 7 = lN (iLo F) := xJ_e
  generalize xw_J g9 132 7 (lN (iLo F)) = gb at Kb Pb Rb Lb Jb ⊢
  clear f29 f28 f27 f26 f25 f24 f23 f9 f8 f7 f6 f5 f4 f3 f2 R9 R8 R7 R6 R5 R4 R3 R2 R1
  refine ra_aload_n A d_De_readSoundInformation_108 rfl <| ra_aload_n A d_De_readSoundInformation_109 rfl <| ?_
  refine ra_callV (As := []) A ok_De_readEight l_De_117 im_De_readEight sl_De_readEight d_De_readSoundInformation_110 (Nat.le_of_ble_eq_true rfl) rfl rfl rfl (Nat.le_of_ble_eq_true rfl) (xr_of at0 (by decide)) (s_De_readEight hlx Rb (fun hp gc fc Rc => ?_) (fun hp g9 E => xgT_out ow at0.2.2.2.2.2.2.2.2.2.2 (hY (by omega) g9 (E.after Kb.1 Pb))))
  show xg x (y0 u) 0 0 113 _ _ gc
  rw [show e8 F 272 8 = iHi F from rfl]
  have hX := hX hp
  have hZ := hZ hp
  refine ra_putJ A f_De_125 rfl rfl (by decide +kernel) d_De_readSoundInformation_113 (Nat.le_of_ble_eq_true rfl) rfl rfl <| ra_aload_n A d_De_readSoundInformation_116 rfl <| ra_getR A f_De_24 d_De_readSoundInformation_117 (Nat.le_of_ble_eq_true rfl) rfl rfl rfl <| ra_iload_n A d_De_readSoundInformation_120 rfl <| ra_putI (ty := .int) A f_De_128 rfl rfl (by decide +kernel) rfl rfl d_De_readSoundInformation_121 (Nat.le_of_ble_eq_true rfl) rfl rfl <| ?_
  have Kd : KP h (xw_I (xw_J gc 132 8 (lN (iHi F))) 133 3 (nI (64 / 8))) := ((Kb.trans fc.kp).trans KP_J).trans (KP_k (by decide) (by decide) (by decide))
  have Pd : (xw_I (xw_J gc 132 8 (lN (iHi F))) 133 3 (nI (64 / 8))).1 133 3 = nI 8 := xI_e
  have Rd' : RD (xw_I (xw_J gc 132 8 (lN (iHi F))) 133 3 (nI (64 / 8))) F L 336 := Rc.of (by rw [xI_k (by decide), xJ_1]) (by rw [xI_k (by decide), xJ_1]) ⟨by rw [xI_j (by decide), xJ_1]; exact Rc.2.2.1.1, by rw [xI_j (by decide), xJ_1]; exact Rc.2.2.1.2⟩ Rc.2.2.2.1
  have Ld : (xw_I (xw_J gc 132 8 (lN (iHi F))) 133 3 (nI (64 / 8))).1 132 9 = nI (iLe F) := by rw [xI_k (by decide), xJ_1, fc.1 132 (by decide)]; exact Lb
  have Jd : (xw_I (xw_J gc 132 8 (lN (iHi F))) 133 3 (nI (64 / 8))).2 132 7 = lN (iLo F) := by show (xw_J gc 132 8 (lN (iHi F))).2 132 7 = _; rw [xJ_j (by decide), fc.2.2]; exact Jb
  have Hd : (xw_I (xw_J gc 132 8 (lN (iHi F))) 133 3 (nI (64 / 8))).2 132 8 = lN (iHi F) := by show (xw_J gc 132 8 (lN (iHi F))).2 132 8 = _; exact xJ_e
  generalize xw_I (xw_J gc 132 8 (lN (iHi F))) 133 3 (nI (64 / 8)) = gd at Kd Pd Rd' Ld Jd Hd ⊢
  have bad : ¬ iOk F → ∀ {pc : Nat} {LL : List (Option Value)}, xgT x (y0 u) (0 + 1) (0 + 6) pc LL ISE (xw_I gd 133 2 (nI 3)) := fun q {pc LL} => xgT_out ow at0.2.2.2.2.2.2.2.2.2.2 (hZ q _ ⟨Kd.1.I (by decide) (by decide), xI_e, by rw [xI_j (by decide)]; exact Pd⟩)
  have hLe16 : iLe F < 2 ^ 16 := bv_lt 16
  have hGr16 : iGr F < 2 ^ 16 := bv_lt 16
  have hRa20 : iRa F < 2 ^ 20 := bv_lt 20
  have hCh8 : iCh F ≤ 8 := by have := bv_lt (F := F) (p := 164) 3; unfold iCh; omega
  have hDp32 : iDp F ≤ 32 := by have := bv_lt (F := F) (p := 167) 5; unfold iDp; omega
  rw [show bv F (64 + 16) 16 = iGr F from rfl, show bv F 144 20 = iRa F from rfl, show bv F (144 + 20) 3 + 1 = iCh F from rfl, show bv F (144 + 20 + 3) 5 + 1 = iDp F from rfl]
  have no1 : ¬ (16 ≤ iLe F ∧ iLe F ≤ iGr F ∧ 0 < iRa F) → xg x (y0 u) 0 0 153 [some (.ref 132), some (.int (nI (64 / 8))), some (.int (nI (iGr F))), some (.int (nI (iRa F))), some (.int (nI (iCh F))), some (.int (nI (iDp F))), some (.long (lN (iKn F))), none] [.ref 133] gd := by
    intro q
    refine ra_iconst A 0 d_De_readSoundInformation_153 (by decide) <| ra_iconst A 3 d_De_readSoundInformation_154 (by decide) <| ?_
    refine ra_callV (As := [_, _]) A ok_Rd_demand l_De_92 im_Rd_demand sl_Rd_demand d_De_readSoundInformation_155 (Nat.le_of_ble_eq_true rfl) rfl rfl rfl (Nat.le_of_ble_eq_true rfl) (xr_of at0 (by decide)) (s_Rd_demand hlx (c := false) (e := 3) (fun q => by cases q) (fun _ => bad (fun z => q z.1)))
  have no2 : ¬ (iCh F ≤ 2 ∧ iKn F ≤ 1200) → xg x (y0 u) 0 0 181 [some (.ref 132), some (.int (nI (64 / 8))), some (.int (nI (iGr F))), some (.int (nI (iRa F))), some (.int (nI (iCh F))), some (.int (nI (iDp F))), some (.long (lN (iKn F))), none] [.ref 133] gd := by
    intro q
    refine ra_iconst A 0 d_De_readSoundInformation_181 (by decide) <| ra_iconst A 3 d_De_readSoundInformation_182 (by decide) <| ?_
    refine ra_callV (As := [_, _]) A ok_Rd_demand l_De_92 im_Rd_demand sl_Rd_demand d_De_readSoundInformation_183 (Nat.le_of_ble_eq_true rfl) rfl rfl rfl (Nat.le_of_ble_eq_true rfl) (xr_of at0 (by decide)) (s_Rd_demand hlx (c := false) (e := 3) (fun q => by cases q) (fun _ => bad (fun z => q z.2.1)))
  have no3 : ¬ (4 ≤ iDp F ∧ iDp F ≤ 24) → xg x (y0 u) 0 0 207 [some (.ref 132), some (.int (nI (64 / 8))), some (.int (nI (iGr F))), some (.int (nI (iRa F))), some (.int (nI (iCh F))), some (.int (nI (iDp F))), some (.long (lN (iKn F))), none] [.ref 133] gd := by
    intro q
    refine ra_iconst A 0 d_De_readSoundInformation_207 (by decide) <| ra_iconst A 3 d_De_readSoundInformation_208 (by decide) <| ?_
    refine ra_callV (As := [_, _]) A ok_Rd_demand l_De_92 im_Rd_demand sl_Rd_demand d_De_readSoundInformation_209 (Nat.le_of_ble_eq_true rfl) rfl rfl rfl (Nat.le_of_ble_eq_true rfl) (xr_of at0 (by decide)) (s_Rd_demand hlx (c := false) (e := 3) (fun q => by cases q) (fun _ => bad (fun z => q z.2.2)))
  refine ra_aload_n A d_De_readSoundInformation_124 rfl <| ra_getR A f_De_24 d_De_readSoundInformation_125 (Nat.le_of_ble_eq_true rfl) rfl rfl rfl <| ra_aload_n A d_De_readSoundInformation_128 rfl <| ra_getI A f_De_114 d_De_readSoundInformation_129 (Nat.le_of_ble_eq_true rfl) rfl rfl <| ?_
  rw [Ld]
  refine ra_bipush A 16 d_De_readSoundInformation_132 (by decide) <| ?_
  by_cases c1 : 16 ≤ iLe F
  · refine ra_icmp_lt (q := 153) A d_De_readSoundInformation_134 (by decide) (fun cc => absurd cc (fun z => absurd ((nI_ltI (b := 16) (by omega) (by decide)).mp z) (by omega))) (fun _ => ?_)
    refine ra_aload_n A d_De_readSoundInformation_137 rfl <| ra_getI A f_De_114 d_De_readSoundInformation_138 (Nat.le_of_ble_eq_true rfl) rfl rfl <| ?_
    rw [Ld]
    refine ra_iload_n A d_De_readSoundInformation_141 rfl <| ?_
    by_cases c2 : iLe F ≤ iGr F
    · refine ra_icmp_gt (q := 153) A d_De_readSoundInformation_142 (by decide) (fun cc => absurd cc (Int32.not_lt.mpr (nI_le c2 (by omega)))) (fun _ => ?_)
      refine ra_iload_n A d_De_readSoundInformation_145 rfl <| ?_
      by_cases c3 : 0 < iRa F
      · refine ra_if_le (q := 153) A d_De_readSoundInformation_146 (by decide) (fun cc => absurd cc (nI_nle c3 (by omega))) (fun _ => ?_)
        refine ra_iconst A 1 d_De_readSoundInformation_149 (by decide) <| ra_goto (q := 154) A d_De_readSoundInformation_150 (by decide) <| ra_iconst A 3 d_De_readSoundInformation_154 (by decide) <| ?_
        refine ra_callV (As := [_, _]) A ok_Rd_demand l_De_92 im_Rd_demand sl_Rd_demand d_De_readSoundInformation_155 (Nat.le_of_ble_eq_true rfl) rfl rfl rfl (Nat.le_of_ble_eq_true rfl) (xr_of at0 (by decide)) (s_Rd_demand hlx (c := true) (e := 3) (fun _ => ?_) (fun q => by cases q))
        show xg x (y0 u) 0 0 158 _ _ gd
        refine ra_aload_n A d_De_readSoundInformation_158 rfl <| ra_getR A f_De_24 d_De_readSoundInformation_159 (Nat.le_of_ble_eq_true rfl) rfl rfl rfl <| ra_iload A d_De_readSoundInformation_162 rfl <| ra_iconst A 2 d_De_readSoundInformation_164 (by decide) <| ?_
        by_cases c4 : iCh F ≤ 2
        · refine ra_icmp_gt (q := 181) A d_De_readSoundInformation_165 (by decide) (fun cc => absurd cc (Int32.not_lt.mpr (nI_le (b := 2) c4 (by decide)))) (fun _ => ?_)
          refine ra_lload A d_De_readSoundInformation_168 rfl <| ra_ldc2 A k_De_131 d_De_readSoundInformation_170 <| ra_lcmp A d_De_readSoundInformation_173 <| ?_
          by_cases c5 : iKn F ≤ 1200
          · refine ra_if_gt (q := 181) A d_De_readSoundInformation_174 (by decide) (fun cc => absurd cc (fun z => absurd (lc_gt.mp z) (Int64.not_lt.mpr ((pk_lLE (b := 1200) (by omega) (by decide)).mpr c5)))) (fun _ => ?_)
            refine ra_iconst A 1 d_De_readSoundInformation_177 (by decide) <| ra_goto (q := 182) A d_De_readSoundInformation_178 (by decide) <| ra_iconst A 3 d_De_readSoundInformation_182 (by decide) <| ?_
            refine ra_callV (As := [_, _]) A ok_Rd_demand l_De_92 im_Rd_demand sl_Rd_demand d_De_readSoundInformation_183 (Nat.le_of_ble_eq_true rfl) rfl rfl rfl (Nat.le_of_ble_eq_true rfl) (xr_of at0 (by decide)) (s_Rd_demand hlx (c := true) (e := 3) (fun _ => ?_) (fun q => by cases q))
            show xg x (y0 u) 0 0 186 _ _ gd
            refine ra_aload_n A d_De_readSoundInformation_186 rfl <| ra_getR A f_De_24 d_De_readSoundInformation_187 (Nat.le_of_ble_eq_true rfl) rfl rfl rfl <| ra_iload A d_De_readSoundInformation_190 rfl <| ra_iconst A 4 d_De_readSoundInformation_192 (by decide) <| ?_
            by_cases c6 : 4 ≤ iDp F
            · refine ra_icmp_lt (q := 207) A d_De_readSoundInformation_193 (by decide) (fun cc => absurd cc (fun z => absurd ((nI_ltI (b := 4) (by omega) (by decide)).mp z) (by omega))) (fun _ => ?_)
              refine ra_iload A d_De_readSoundInformation_196 rfl <| ra_bipush A 24 d_De_readSoundInformation_198 (by decide) <| ?_
              by_cases c7 : iDp F ≤ 24
              · refine ra_icmp_gt (q := 207) A d_De_readSoundInformation_200 (by decide) (fun cc => absurd cc (Int32.not_lt.mpr (nI_le (b := 24) c7 (by decide)))) (fun _ => ?_)
                refine ra_iconst A 1 d_De_readSoundInformation_203 (by decide) <| ra_goto (q := 208) A d_De_readSoundInformation_204 (by decide) <| ra_iconst A 3 d_De_readSoundInformation_208 (by decide) <| ?_
                refine ra_callV (As := [_, _]) A ok_Rd_demand l_De_92 im_Rd_demand sl_Rd_demand d_De_readSoundInformation_209 (Nat.le_of_ble_eq_true rfl) rfl rfl rfl (Nat.le_of_ble_eq_true rfl) (xr_of at0 (by decide)) (s_Rd_demand hlx (c := true) (e := 3) (fun _ => ?_) (fun q => by cases q))
                show xg x (y0 u) 0 0 212 _ _ gd
                have hX := hX ⟨⟨c1, c2, c3⟩, ⟨c4, c5⟩, c6, c7⟩
                refine ra_aload_n A d_De_readSoundInformation_212 rfl <| ra_getR A f_De_40 d_De_readSoundInformation_213 (Nat.le_of_ble_eq_true rfl) rfl rfl rfl <| ra_iload A d_De_readSoundInformation_216 rfl <| ra_iload A d_De_readSoundInformation_218 rfl <| ra_iload_n A d_De_readSoundInformation_220 rfl <| ra_iload_n A d_De_readSoundInformation_221 rfl <| ?_
                refine ra_callV (As := [_, _, _, _]) A ok_So_shape l_De_133 im_So_shape sl_So_shape d_De_readSoundInformation_222 (Nat.le_of_ble_eq_true rfl) rfl rfl rfl (Nat.le_of_ble_eq_true rfl) (xr_of at0 (by decide)) (s_So_shape_sound K ?_)
                show xg x (y0 u) 0 0 225 _ _ _
                refine ra_aload_n A d_De_readSoundInformation_225 rfl <| ra_lload A d_De_readSoundInformation_226 rfl <| ra_l2i A d_De_readSoundInformation_228 <| ?_
                rw [lN_i]
                have shK : KP h (f_shape_sound gd (nI (iCh F)) (nI (iDp F)) (nI (iGr F)) (nI (iRa F))) := (((Kd.trans (KP_k (by decide) (by decide) (by decide))).trans (KP_k (by decide) (by decide) (by decide))).trans (KP_k (by decide) (by decide) (by decide))).trans (KP_k (by decide) (by decide) (by decide))
                have sh0 : (f_shape_sound gd (nI (iCh F)) (nI (iDp F)) (nI (iGr F)) (nI (iRa F))).1 136 0 = nI (iCh F) := by unfold f_shape_sound; rw [xI_j (by decide), xI_j (by decide), xI_j (by decide), xI_e]
                have sh1 : (f_shape_sound gd (nI (iCh F)) (nI (iDp F)) (nI (iGr F)) (nI (iRa F))).1 136 1 = nI (iDp F) := by unfold f_shape_sound; rw [xI_j (by decide), xI_j (by decide), xI_e]
                have sh2 : (f_shape_sound gd (nI (iCh F)) (nI (iDp F)) (nI (iGr F)) (nI (iRa F))).1 136 2 = nI (iGr F) := by unfold f_shape_sound; rw [xI_j (by decide), xI_e]
                have sh3 : (f_shape_sound gd (nI (iCh F)) (nI (iDp F)) (nI (iGr F)) (nI (iRa F))).1 136 3 = nI (iRa F) := by unfold f_shape_sound; rw [xI_e]
                have shk : ∀ k, k ≠ 136 → (f_shape_sound gd (nI (iCh F)) (nI (iDp F)) (nI (iGr F)) (nI (iRa F))).1 k = gd.1 k := fun k hk => by unfold f_shape_sound; rw [xI_k hk, xI_k hk, xI_k hk, xI_k hk]
                have shJ : (f_shape_sound gd (nI (iCh F)) (nI (iDp F)) (nI (iGr F)) (nI (iRa F))).2 = gd.2 := rfl
                generalize f_shape_sound gd (nI (iCh F)) (nI (iDp F)) (nI (iGr F)) (nI (iRa F)) = gs at shK sh0 sh1 sh2 sh3 shk shJ ⊢
                have fin : ∀ b : Bool, b = smK F → X (.inl none) (xw_I (xw_I gs 132 10 (nI (iKn F))) 132 6 (bz b)) 0 0 := by
                  rintro b rfl
                  refine hX _ ((shK.trans (KP_I (by decide) (by decide) (by decide))).trans (KP_I (by decide) (by decide) (by decide))) ⟨⟨?_, ?_, ?_, ?_, xI_e⟩, ?_, ?_, ?_, ?_⟩ ?_
                  · rw [xI_j (by decide), xI_j (by decide), shk 132 (by decide)]; exact Ld
                  · rw [xI_j (by decide), xI_e]
                  · show gs.2 132 7 = _; rw [shJ]; exact Jd
                  · show gs.2 132 8 = _; rw [shJ]; exact Hd
                  · rw [xI_k (by decide), xI_k (by decide)]; exact sh0
                  · rw [xI_k (by decide), xI_k (by decide)]; exact sh1
                  · rw [xI_k (by decide), xI_k (by decide)]; exact sh2
                  · rw [xI_k (by decide), xI_k (by decide)]; exact sh3
                  · exact Rd'.of (by rw [xI_k (by decide), xI_k (by decide), shk 6 (by decide)]) (by rw [xI_k (by decide), xI_k (by decide), shk 7 (by decide)]) (by rw [xI_k (by decide), xI_k (by decide), shk 133 (by decide)]; exact Rd'.2.2.1) Rd'.2.2.2.1
                have hLo : iLo F < 2 ^ 64 := e8_lt 8
                have hHi : iHi F < 2 ^ 64 := e8_lt 8
                have z64 : ∀ v, v < 2 ^ 64 → (lN v = 0 ↔ v = 0) := by
                  intro v hv
                  constructor
                  · intro q
                    have := congrArg (fun z => z.toBitVec.toNat) q
                    rw [wb_tn hv] at this
                    exact this
                  · rintro rfl; rfl
                refine ra_putI (ty := .int) A f_De_137 rfl rfl (by decide +kernel) rfl rfl d_De_readSoundInformation_229 (Nat.le_of_ble_eq_true rfl) rfl rfl <| ra_aload_n A d_De_readSoundInformation_232 rfl <| ra_aload_n A d_De_readSoundInformation_233 rfl <| ra_getJ A f_De_121 d_De_readSoundInformation_234 (Nat.le_of_ble_eq_true rfl) rfl rfl <| ?_
                rw [show (xw_I gs 132 10 (nI (iKn F))).2 132 7 = lN (iLo F) by show gs.2 132 7 = _; rw [shJ]; exact Jd]
                refine ra_lconst A 0 d_De_readSoundInformation_237 (by decide) <| ra_lcmp A d_De_readSoundInformation_238 <| ?_
                by_cases cl : iLo F = 0
                · refine ra_if_ne (q := 251) A d_De_readSoundInformation_239 (by decide) (fun cc => absurd (lc_eq.mpr ((z64 _ hLo).mpr cl)) cc) (fun _ => ?_)
                  refine ra_aload_n A d_De_readSoundInformation_242 rfl <| ra_getJ A f_De_125 d_De_readSoundInformation_243 (Nat.le_of_ble_eq_true rfl) rfl rfl <| ?_
                  rw [show (xw_I gs 132 10 (nI (iKn F))).2 132 8 = lN (iHi F) by show gs.2 132 8 = _; rw [shJ]; exact Hd]
                  refine ra_lconst A 0 d_De_readSoundInformation_246 (by decide) <| ra_lcmp A d_De_readSoundInformation_247 <| ?_
                  by_cases ch : iHi F = 0
                  · refine ra_if_eq (q := 255) A d_De_readSoundInformation_248 (by decide) (fun _ => ?_) (fun cc => absurd (lc_eq.mpr ((z64 _ hHi).mpr ch)) cc)
                    refine ra_iconst A 0 d_De_readSoundInformation_255 (by decide) <| ra_putI (ty := .boolean) A f_De_81 rfl rfl (by decide +kernel) rfl rfl d_De_readSoundInformation_256 (Nat.le_of_ble_eq_true rfl) rfl rfl <| ?_
                    exact ra_vret A ow d_De_readSoundInformation_259 (fin false (by simp [smK, cl, ch]))
                  · refine ra_if_eq (q := 255) A d_De_readSoundInformation_248 (by decide) (fun cc => absurd cc (fun z => ch ((z64 _ hHi).mp (lc_eq.mp z)))) (fun _ => ?_)
                    refine ra_iconst A 1 d_De_readSoundInformation_251 (by decide) <| ra_goto (q := 256) A d_De_readSoundInformation_252 (by decide) <| ra_putI (ty := .boolean) A f_De_81 rfl rfl (by decide +kernel) rfl rfl d_De_readSoundInformation_256 (Nat.le_of_ble_eq_true rfl) rfl rfl <| ?_
                    exact ra_vret A ow d_De_readSoundInformation_259 (fin true (by simp [smK, ch]))
                · refine ra_if_ne (q := 251) A d_De_readSoundInformation_239 (by decide) (fun _ => ?_) (fun cc => absurd cc (fun z => cl ((z64 _ hLo).mp (lc_eq.mp z))))
                  refine ra_iconst A 1 d_De_readSoundInformation_251 (by decide) <| ra_goto (q := 256) A d_De_readSoundInformation_252 (by decide) <| ra_putI (ty := .boolean) A f_De_81 rfl rfl (by decide +kernel) rfl rfl d_De_readSoundInformation_256 (Nat.le_of_ble_eq_true rfl) rfl rfl <| ?_
                  exact ra_vret A ow d_De_readSoundInformation_259 (fin true (by simp [smK, cl]))
              · refine ra_icmp_gt (q := 207) A d_De_readSoundInformation_200 (by decide) (fun _ => ?_) (fun cc => absurd (nI_lt (a := 24) (by omega) (by omega)) cc)
                exact no3 (fun z => c7 z.2)
            · refine ra_icmp_lt (q := 207) A d_De_readSoundInformation_193 (by decide) (fun _ => ?_) (fun cc => absurd (nI_lt (b := 4) (by omega) (by decide)) cc)
              exact no3 (fun z => c6 z.1)
          · refine ra_if_gt (q := 181) A d_De_readSoundInformation_174 (by decide) (fun _ => ?_) (fun cc => absurd (lc_gt.mpr ((pk_lLT (a := 1200) (by decide) (by omega)).mpr (by omega))) cc)
            exact no2 (fun z => c5 z.2)
        · refine ra_icmp_gt (q := 181) A d_De_readSoundInformation_165 (by decide) (fun _ => ?_) (fun cc => absurd (nI_lt (a := 2) (by omega) (by omega)) cc)
          exact no2 (fun z => c4 z.1)
      · refine ra_if_le (q := 153) A d_De_readSoundInformation_146 (by decide) (fun _ => ?_) (fun cc => absurd ((by rw [show iRa F = 0 by omega]; decide)) cc)
        exact no1 (fun z => c3 z.2.2)
    · refine ra_icmp_gt (q := 153) A d_De_readSoundInformation_142 (by decide) (fun _ => ?_) (fun cc => absurd (nI_lt (by omega) (by omega)) cc)
      exact no1 (fun z => c2 z.2.1)
  · refine ra_icmp_lt (q := 153) A d_De_readSoundInformation_134 (by decide) (fun _ => ?_) (fun cc => absurd (nI_lt (b := 16) (by omega) (by decide)) cc)
    exact no1 (fun z => c1 z.1)
end S99
