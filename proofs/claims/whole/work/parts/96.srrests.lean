/-! SoundStream$SubframeReader: readRests, read -/
/-- what reading a subframe may change -/
def S4 (k f : Nat) (h h' : xw_H) : Prop := fr [133, 134, 135, k] h h' ∧ h'.1 133 3 = h.1 133 3 ∧ ∀ i, i < f → h'.1 k i = h.1 k i
theorem S4.trans {k f : Nat} {h g h' : xw_H} (x : S4 k f h g) (y : S4 k f g h') : S4 k f h h' := ⟨x.1.trans y.1, y.2.1.trans x.2.1, fun i hi => (y.2.2 i hi).trans (x.2.2 i hi)⟩
theorem SM.s4 {k f : Nat} {h h' : xw_H} (x : SM k f h h') : S4 k f h h' := ⟨x.1.mono (by intro a ha; simp at ha ⊢; omega), x.2⟩
theorem S4.dl {k f : Nat} {h h' : xw_H} (x : S4 k f h h') (hk : isRow k) : FD h h' := FD.of x.1 (by
  intro a ha
  simp at ha
  rcases ha with rfl | rfl | rfl | rfl
  · decide
  · decide
  · decide
  · exact hk.lt.2.2.2.2.2.2.2) (by rcases hk with rfl | rfl <;> decide)
theorem S4.er {k f e : Nat} {h g h' : xw_H} (x : S4 k f h g) (hk : isRow k) (E : ER g h' e) : ER h h' e := E.after (x.dl hk) x.2.1
theorem S4_fr {k f : Nat} {T : List Nat} {h h' : xw_H} (x : fr T h h') (hT : ∀ a ∈ T, a = 134 ∨ a = 135 ∨ a = 133) (hp : h'.1 133 3 = h.1 133 3) (hk : isRow k) : S4 k f h h' := by
  obtain ⟨k1, k2, k3, k4, k5, -⟩ := hk.lt
  refine ⟨x.mono (fun a ha => by have := hT a ha; simp; omega), hp, fun i _ => by rw [fr1 x (fun q => by have := hT k q; omega)]⟩
section S96
variable {u : xu_T} {l : Launch} {KK : State → Prop} {h : xw_H} {X : xc_R → xw_H → Nat → Nat → Prop}
theorem s_Sr_readRests (hl : l.stackTraces = false) {F : Nat → Bool} {L p f size k : Nat} {P : Pd} {row : Nat → Int32} {Q : Rr (Nat → Int32)} (hk : isRow k) (R : RD h F L p) (hP : PF h P) (ho : P.1 ≤ 32) (hw1 : 1 ≤ P.2.1) (hw2 : P.2.1 ≤ 25) (hf : f + size ≤ 1200) (hrow : ∀ r, r < P.1 → h.1 k (f + r) = row r) (hq : rRs F L P size row p = Q)
    (hX : ∀ row' p' h', Q = .inr (row', p') → SM k f h h' → RD h' F L p' → (∀ r, r < size → h'.1 k (f + r) = row' r) → X (.inl none) h' 0 0) (hY : ∀ e h', Q = .inl e → ER h h' e → X (.inr ISE) h' 1 6) : xm_M l (y0 u) (KK0 u) m_Sr_readRests [.ref 134, .ref k, .int (nI f), .int (nI size)] h X := by
  refine xm_of [none, none, none, none, none] (by simp) (Nat.le_of_ble_eq_true rfl) (by decide) (fun x at0 => ?_)
  have A := xa_of at0 (KK0_ok u)
  have ow := at0.2.2.2.2.1
  have hlx : (xg_l x).stackTraces = false := by rw [at0.2.2.2.2.2.1]; exact hl
  obtain ⟨k1, k2, k3, k4, k5, k6, k7, k8⟩ := hk.lt
  unfold rRs at hq
  refine ra_aload_n A d_Sr_readRests_0 rfl <| ra_getR A f_Sr_15 d_Sr_readRests_1 (Nat.le_of_ble_eq_true rfl) rfl rfl rfl <| ra_iconst A 2 d_Sr_readRests_4 (by decide) <| ?_
  refine ra_callV (As := [_]) A ok_Rd_bits l_Sr_19 im_Rd_bits sl_Rd_bits d_Sr_readRests_5 (Nat.le_of_ble_eq_true rfl) rfl rfl rfl (Nat.le_of_ble_eq_true rfl) (xr_of at0 (by decide)) (s_Rd_bits hlx (n := 2) R (by decide) rfl (fun way p1 g1 e1 f1 R1 hway => ?_) (fun e g1 e1 E => xgT_out ow at0.2.2.2.2.2.2.2.2.2.2 (hY e g1 (by rw [← hq, e1, rb_l]) E)))
  show xg x (y0 u) 0 0 8 _ _ g1
  rw [e1, rb_r] at hq
  refine ra_istore (L' := [_, _, _, _, _, _, _, _, _]) A d_Sr_readRests_8 (by decide) rfl <| ra_aload_n A d_Sr_readRests_10 rfl <| ra_getR A f_Sr_15 d_Sr_readRests_11 (Nat.le_of_ble_eq_true rfl) rfl rfl rfl <| ra_iload A d_Sr_readRests_14 rfl <| ra_iconst A 1 d_Sr_readRests_16 (by decide) <| ?_
  by_cases cw : way ≤ 1
  · rw [if_pos cw] at hq
    refine ra_icmp_gt (q := 24) A d_Sr_readRests_17 (by decide) (fun cc => absurd cc (Int32.not_lt.mpr (nI_le (b := 1) cw (by decide)))) (fun _ => ?_)
    refine ra_iconst A 1 d_Sr_readRests_20 (by decide) <| ra_goto (q := 25) A d_Sr_readRests_21 (by decide) <| ra_bipush A 10 d_Sr_readRests_25 (by decide) <| ?_
    refine ra_callV (As := [_, _]) A ok_Rd_demand l_Sr_29 im_Rd_demand sl_Rd_demand d_Sr_readRests_27 (Nat.le_of_ble_eq_true rfl) rfl rfl rfl (Nat.le_of_ble_eq_true rfl) (xr_of at0 (by decide)) (s_Rd_demand hlx (c := true) (e := 10) (fun _ => ?_) (fun q => by cases q))
    show xg x (y0 u) 0 0 30 _ _ g1
    refine ra_aload_n A d_Sr_readRests_30 rfl <| ra_getR A f_Sr_15 d_Sr_readRests_31 (Nat.le_of_ble_eq_true rfl) rfl rfl rfl <| ra_iconst A 4 d_Sr_readRests_34 (by decide) <| ?_
    refine ra_callV (As := [_]) A ok_Rd_bits l_Sr_19 im_Rd_bits sl_Rd_bits d_Sr_readRests_35 (Nat.le_of_ble_eq_true rfl) rfl rfl rfl (Nat.le_of_ble_eq_true rfl) (xr_of at0 (by decide)) (s_Rd_bits hlx (n := 4) R1 (by decide) rfl (fun q p2 g2 e2 f2 R2 hq16 => ?_) (fun e g2 e2 E => xgT_out ow at0.2.2.2.2.2.2.2.2.2.2 (hY e g2 (by rw [← hq, e2, rb_l]) (f1.er E))))
    show xg x (y0 u) 0 0 38 _ _ g2
    rw [e2, rb_r] at hq
    have f12 := f1.trans f2
    have s2 : SM k f h g2 := f12.sm k3
    have hP2 := hP.sm s2 hk
    have hq15 : q ≤ 15 := by omega
    have hPp : 2 ^ q ≤ 2 ^ 15 := Nat.pow_le_pow_right (n := 2) (by decide) hq15
    have hP0 : 0 < 2 ^ q := Nat.two_pow_pos q
    have hdm := Nat.div_add_mod size (2 ^ q)
    rw [Nat.mul_comm] at hdm
    have hml := Nat.mod_lt size hP0
    have hle : size / 2 ^ q ≤ size := Nat.div_le_self _ _
    refine ra_istore (L' := [_, _, _, _, _, _, _, _, _]) A d_Sr_readRests_38 (by decide) rfl <| ra_iload_n A d_Sr_readRests_40 rfl <| ra_iload A d_Sr_readRests_41 rfl <| ra_ishr A d_Sr_readRests_43 <| ?_
    rw [shrN (by omega) (by omega)]
    refine ra_istore (L' := [_, _, _, _, _, _, _, _, _]) A d_Sr_readRests_44 (by decide) rfl <| ra_aload_n A d_Sr_readRests_46 rfl <| ra_getR A f_Sr_15 d_Sr_readRests_47 (Nat.le_of_ble_eq_true rfl) rfl rfl rfl <| ra_iload A d_Sr_readRests_50 rfl <| ra_iload A d_Sr_readRests_52 rfl <| ra_ishl A d_Sr_readRests_54 <| ?_
    rw [pk_shlN _ q (s_l q (by omega)) (by omega)]
    refine ra_iload_n A d_Sr_readRests_55 rfl <| ?_
    have no : ¬ (size % 2 ^ q = 0 ∧ P.1 ≤ size / 2 ^ q) → xg x (y0 u) 0 0 72 [some (.ref 134), some (.ref k), some (.int (nI f)), some (.int (nI size)), some (.int (nI way)), some (.int (nI q)), some (.int (nI (size / 2 ^ q))), none, none] [.ref 133] g2 := by
      intro c
      rw [if_neg c] at hq
      refine ra_iconst A 0 d_Sr_readRests_72 (by decide) <| ra_bipush A 10 d_Sr_readRests_73 (by decide) <| ?_
      refine ra_callV (As := [_, _]) A ok_Rd_demand l_Sr_29 im_Rd_demand sl_Rd_demand d_Sr_readRests_75 (Nat.le_of_ble_eq_true rfl) rfl rfl rfl (Nat.le_of_ble_eq_true rfl) (xr_of at0 (by decide)) (s_Rd_demand hlx (c := false) (e := 10) (fun q => by cases q) (fun _ => xgT_out ow at0.2.2.2.2.2.2.2.2.2.2 (hY 10 _ hq.symm (f12.er ER_I))))
    by_cases c1 : size % 2 ^ q = 0
    · refine ra_icmp_ne (q := 72) A d_Sr_readRests_56 (by decide) (fun cc => absurd ((by rw [show size / 2 ^ q * 2 ^ q = size by omega])) cc) (fun _ => ?_)
      refine ra_iload A d_Sr_readRests_59 rfl <| ra_aload_n A d_Sr_readRests_61 rfl <| ra_getI A f_Sr_44 d_Sr_readRests_62 (Nat.le_of_ble_eq_true rfl) rfl rfl <| ?_
      rw [hP2.1]
      by_cases c2 : P.1 ≤ size / 2 ^ q
      · rw [if_pos ⟨c1, c2⟩] at hq
        refine ra_icmp_lt (q := 72) A d_Sr_readRests_65 (by decide) (fun cc => absurd cc (fun z => absurd ((nI_ltI (by omega) (by omega)).mp z) (by omega))) (fun _ => ?_)
        refine ra_iconst A 1 d_Sr_readRests_68 (by decide) <| ra_goto (q := 73) A d_Sr_readRests_69 (by decide) <| ra_bipush A 10 d_Sr_readRests_73 (by decide) <| ?_
        refine ra_callV (As := [_, _]) A ok_Rd_demand l_Sr_29 im_Rd_demand sl_Rd_demand d_Sr_readRests_75 (Nat.le_of_ble_eq_true rfl) rfl rfl rfl (Nat.le_of_ble_eq_true rfl) (xr_of at0 (by decide)) (s_Rd_demand hlx (c := true) (e := 10) (fun _ => ?_) (fun q => by cases q))
        show xg x (y0 u) 0 0 78 _ _ g2
        refine ra_iload_n A d_Sr_readRests_78 rfl <| ra_aload_n A d_Sr_readRests_79 rfl <| ra_getI A f_Sr_44 d_Sr_readRests_80 (Nat.le_of_ble_eq_true rfl) rfl rfl <| ?_
        rw [hP2.1]
        refine ra_iadd A d_Sr_readRests_83 <| ?_
        rw [nI_add]
        refine ra_istore (L' := [_, _, _, _, _, _, _, _, _]) A d_Sr_readRests_84 (by decide) rfl <| ra_iconst A 1 d_Sr_readRests_86 (by decide) <| ra_istore (L' := [_, _, _, _, _, _, _, _, _]) A d_Sr_readRests_87 (by decide) rfl <| ?_
        generalize he : size / 2 ^ q = e at *
        have hsz : 2 ^ q * e = size := by rw [Nat.mul_comm]; omega
        refine lp_up (σ := xw_H) (W := fun j g => xg x (y0 u) 0 0 89 [some (.ref 134), some (.ref k), some (.int (nI f)), some (.int (nI size)), some (.int (nI way)), some (.int (nI q)), some (.int (nI e)), some (.int (nI (f + pA P.1 e j))), some (.int (nI (j + 1)))] [] g) (I := fun j g => ∃ row' p', rL (fun part row p => rP F L P way (pA P.1 e part) (pM P.1 e part) row p) row p2 j = .inr (row', p') ∧ SM k f h g ∧ RD g F L p' ∧ ∀ r, r < pA P.1 e j → g.1 k (f + r) = row' r) (2 ^ q) ?_ ?_ 0 g2 (Nat.zero_le _) ⟨_, _, rfl, s2, R2, fun r hr => by rw [f12.1 k k3]; exact hrow r hr⟩
        · rintro g ⟨row', p', e3, hs, hR, hr⟩
          refine ra_iload A d_Sr_readRests_89 rfl <| ra_iconst A 1 d_Sr_readRests_91 (by decide) <| ra_iload A d_Sr_readRests_92 rfl <| ra_ishl A d_Sr_readRests_94 <| ?_
          rw [shl1 (by omega)]
          refine ra_icmp_gt (q := 131) A d_Sr_readRests_95 (by decide) (fun _ => ?_) (fun cc => absurd (nI_lt (by omega) (by omega)) cc)
          have hpe : pA P.1 e (2 ^ q) = size := by unfold pA; rw [if_neg (by omega)]; exact hsz
          rw [hpe] at hr
          exact ra_vret A ow d_Sr_readRests_131 (hX row' p' g (hq.symm.trans e3) hs hR hr)
        · rintro j g hj ⟨row', p', e3, hs, hR, hr⟩ ih
          have e4 := rL_s e3
          have hAM := pA_AM (p := j) c2
          have hle2 : (j + 1) * e ≤ 2 ^ q * e := Nat.mul_le_mul_right _ hj
          have hPg := hP.sm hs hk
          refine ra_iload A d_Sr_readRests_89 rfl <| ra_iconst A 1 d_Sr_readRests_91 (by decide) <| ra_iload A d_Sr_readRests_92 rfl <| ra_ishl A d_Sr_readRests_94 <| ?_
          rw [shl1 (by omega)]
          refine ra_icmp_gt (q := 131) A d_Sr_readRests_95 (by decide) (fun cc => absurd cc (Int32.not_lt.mpr (nI_le (by omega) (by omega)))) (fun _ => ?_)
          refine ra_aload_n A d_Sr_readRests_98 rfl <| ra_aload_n A d_Sr_readRests_99 rfl <| ra_iload A d_Sr_readRests_100 rfl <| ra_iload_n A d_Sr_readRests_102 rfl <| ra_iload A d_Sr_readRests_103 rfl <| ra_iload A d_Sr_readRests_105 rfl <| ra_imul A d_Sr_readRests_107 <| ?_
          rw [pk_mul, ← hAM.2]
          refine ra_iadd A d_Sr_readRests_108 <| ?_
          rw [nI_add]
          refine ra_iconst A 4 d_Sr_readRests_109 (by decide) <| ra_iload A d_Sr_readRests_110 rfl <| ra_iadd A d_Sr_readRests_112 <| ?_
          rw [show (4 : Int32) + nI way = nI (4 + way) from nI_add 4 way]
          refine ra_callV (As := [_, _, _, _]) A ok_Sr_readPart l_Sr_81 im_Sr_readPart sl_Sr_readPart d_Sr_readRests_113 (Nat.le_of_ble_eq_true rfl) rfl rfl rfl (Nat.le_of_ble_eq_true rfl) (xr_of at0 (by decide)) (s_Sr_readPart hlx hk hR hPg ho hw1 hw2 hAM.1 (by omega) cw hr rfl (fun row3 p3 g3 e5 s3 R3 r3 => ?_) (fun e' g3 e5 E => xgT_out ow at0.2.2.2.2.2.2.2.2.2.2 (hY e' g3 (by rw [← hq]; exact rL_err (e4.trans e5) hj) (hs.er hk E))))
          show xg x (y0 u) 0 0 116 _ _ g3
          rw [e5] at e4
          refine ra_iload_n A d_Sr_readRests_116 rfl <| ra_iload A d_Sr_readRests_117 rfl <| ra_iload A d_Sr_readRests_119 rfl <| ra_imul A d_Sr_readRests_121 <| ?_
          rw [pk_mul]
          refine ra_iadd A d_Sr_readRests_122 <| ra_istore (L' := [_, _, _, _, _, _, _, _, _]) A d_Sr_readRests_123 (by decide) rfl <| ra_iinc (L' := [_, _, _, _, _, _, _, _, _]) A 1 d_Sr_readRests_125 rfl (by decide) (by decide) rfl <| ra_goto (q := 89) A d_Sr_readRests_128 (by decide) <| ?_
          rw [nI_add, nI_1, show (j + 1) * e = pA P.1 e (j + 1) by unfold pA; rw [if_neg (by omega)]]
          refine ih _ ⟨_, _, e4, hs.trans s3, R3, fun r hr' => ?_⟩
          rw [pA_succ, ← hAM.2] at hr'
          exact r3 r hr'
      · refine ra_icmp_lt (q := 72) A d_Sr_readRests_65 (by decide) (fun _ => ?_) (fun cc => absurd (nI_lt (by omega) (by omega)) cc)
        exact no (fun z => c2 z.2)
    · refine ra_icmp_ne (q := 72) A d_Sr_readRests_56 (by decide) (fun _ => ?_) (fun cc => absurd cc (fun z => c1 (by have := (nI_eq (by omega) (by omega)).mp z; omega)))
      exact no (fun z => c1 z.1)
  · rw [if_neg cw] at hq
    refine ra_icmp_gt (q := 24) A d_Sr_readRests_17 (by decide) (fun _ => ?_) (fun cc => absurd (nI_lt (a := 1) (by omega) (by omega)) cc)
    refine ra_iconst A 0 d_Sr_readRests_24 (by decide) <| ra_bipush A 10 d_Sr_readRests_25 (by decide) <| ?_
    refine ra_callV (As := [_, _]) A ok_Rd_demand l_Sr_29 im_Rd_demand sl_Rd_demand d_Sr_readRests_27 (Nat.le_of_ble_eq_true rfl) rfl rfl rfl (Nat.le_of_ble_eq_true rfl) (xr_of at0 (by decide)) (s_Rd_demand hlx (c := false) (e := 10) (fun q => by cases q) (fun _ => xgT_out ow at0.2.2.2.2.2.2.2.2.2.2 (hY 10 _ hq.symm (f1.er ER_I))))
end S96
