/-! SoundStreamModel: blocks -/
def dI2 (F : Nat → Bool) (L : Nat) : (Nat × Nat) ⊕ Nat :=
  if ¬ 64 ≤ 8 * L then .inl (13, 4)
  else if ¬ (bv F 33 7 = 0 ∧ bv F 40 24 = 34) then .inl (2, 4)
  else if ¬ 336 ≤ 8 * L then .inl (13, 4)
  else if ¬ ((16 ≤ iLe F ∧ iLe F ≤ iGr F ∧ 0 < iRa F) ∧ (iCh F ≤ 2 ∧ iKn F ≤ 1200) ∧ 4 ≤ iDp F ∧ iDp F ≤ 24) then .inl (3, 8)
  else dBl F L 9000 336 (decide (bv F 32 1 = 1))
/-- the information is known -/
def KI (h : xw_H) (F : Nat → Bool) : Prop := IM h F ∧ (∀ k, k < 16 → h.1 152 k = nI (bv F (208 + 8 * k) 8)) ∧ h.1 141 32 = bz (smK F) ∧ h.1 141 27 = nI (iRa F)
theorem KI.fm {h h' : xw_H} {F : Nat → Bool} {C T : List Nat} {b : Bool} (x : KI h F) (f : fm C T b h h') (h0 : 152 ∉ C) (h1 : 25 ∉ T) (h2 : 26 ∉ T) (h3 : 28 ∉ T) (h4 : 29 ∉ T) (h5 : 30 ∉ T) (h6 : 32 ∉ T) (h7 : 27 ∉ T) : KI h' F :=
  ⟨x.1.fm f h1 h2 h3 h4 h5, fun k hk => by rw [fmk f h0 (by decide)]; exact x.2.1 k hk, ⟨by rw [f.2.1 32 h6]; exact x.2.2.1, by rw [f.2.1 27 h7]; exact x.2.2.2⟩⟩
section S9k
variable {u : xu_T} {l : Launch} {KK : State → Prop} {h : xw_H} {X : xc_R → xw_H → Nat → Nat → Prop}
theorem s_Mo_blocks (K : xk_ok u KK) {F : Nat → Bool} {L : Nat} {Q : (Nat × Nat) ⊕ Nat} (M : MR h F L 0 32) (hq : dI2 F L = Q)
    (hX : ∀ p' h', Q = .inr p' → JF h h' → MR h' F L 0 p' → p' % 8 = 0 → iOk F → KI h' F → X (.inl none) h' 0 0)
    (hY : ∀ e pl p' h', Q = .inl (e, pl) → JF h h' → MR h' F L e p' → e ≠ 0 → h'.1 141 24 = nI pl → X (.inl none) h' 0 0) : xm_M l (y0 u) KK m_Mo_blocks [.ref 141] h X := by
  refine xm_of [none, none, none, none] (by simp) (Nat.le_of_ble_eq_true rfl) (by decide) (fun x at0 => ?_)
  have A := xa_of at0 K
  have ow := at0.2.2.2.2.1
  have ne : ∀ {g : xw_H} {e p : Nat}, MR g F L e p → e ≠ 0 → ¬ g.1 141 22 = 0 := fun M h0 => by rw [M.2.2.1.2]; exact nI_ne0 (by omega) (by have := M.2.2.2.2.2; omega)
  have hL := M.2.2.2.2.1
  have dead190 : ∀ e pl p' g (z1 z2 z3 z4 : Int32), Q = .inl (e, pl) → JF h g → MR g F L e p' → e ≠ 0 → g.1 141 24 = nI pl → xg x (y0 u) 0 0 190 [some (.ref 141), some (.int z1), some (.int z2), some (.int z3), some (.int z4)] [] g := by
    intro e pl p' g z1 z2 z3 z4 hQ hf hM he h24
    refine ra_iconst A 0 d_Mo_blocks_190 (by decide) <| ra_istore_n (L' := [_, _, _, _, _]) A d_Mo_blocks_191 (by decide) rfl <| ra_goto (q := 4) A d_Mo_blocks_192 (by decide) <| ra_iload_n A d_Mo_blocks_4 rfl <| ?_
    refine ra_if_ne (q := 195) A d_Mo_blocks_5 (by decide) (fun z => ?_) (fun z => ?_)
    · exact ra_vret A ow d_Mo_blocks_195 (hY e pl p' g hQ hf hM he h24)
    · refine ra_aload_n A d_Mo_blocks_8 rfl <| ra_getI A f_Mo_386 d_Mo_blocks_9 (Nat.le_of_ble_eq_true rfl) rfl rfl <| ?_
      refine ra_if_ne (q := 195) A d_Mo_blocks_12 (by decide) (fun _ => ?_) (fun cc => absurd cc (ne hM he))
      exact ra_vret A ow d_Mo_blocks_195 (hY e pl p' g hQ hf hM he h24)
  have dead149 : ∀ e pl p' g (z1 z2 z3 z4 : Int32), Q = .inl (e, pl) → JF h g → MR g F L e p' → e ≠ 0 → g.1 141 24 = nI pl → xg x (y0 u) 0 0 149 [some (.ref 141), some (.int z1), some (.int z2), some (.int z3), some (.int z4)] [] g := by
    intro e pl p' g z1 z2 z3 z4 hQ hf hM he h24
    refine ra_aload_n A d_Mo_blocks_149 rfl <| ra_getI A f_Mo_386 d_Mo_blocks_150 (Nat.le_of_ble_eq_true rfl) rfl rfl <| ?_
    refine ra_if_ne (q := 167) A d_Mo_blocks_153 (by decide) (fun _ => ?_) (fun cc => absurd cc (ne hM he))
    refine ra_aload_n A d_Mo_blocks_167 rfl <| ra_getI A f_Mo_386 d_Mo_blocks_168 (Nat.le_of_ble_eq_true rfl) rfl rfl <| ?_
    refine ra_if_ne (q := 190) A d_Mo_blocks_171 (by decide) (fun _ => ?_) (fun cc => absurd cc (ne hM he))
    exact dead190 e pl p' g _ _ _ _ hQ hf hM he h24
  have dead111 : ∀ e pl p' g (z1 z2 z3 z4 : Int32), Q = .inl (e, pl) → JF h g → MR g F L e p' → e ≠ 0 → g.1 141 24 = nI pl → xg x (y0 u) 0 0 111 [some (.ref 141), some (.int z1), some (.int z2), some (.int z3), some (.int z4)] [] g := by
    intro e pl p' g z1 z2 z3 z4 hQ hf hM he h24
    refine ra_aload_n A d_Mo_blocks_111 rfl <| ra_getI A f_Mo_386 d_Mo_blocks_112 (Nat.le_of_ble_eq_true rfl) rfl rfl <| ?_
    refine ra_if_ne (q := 149) A d_Mo_blocks_115 (by decide) (fun _ => ?_) (fun cc => absurd cc (ne hM he))
    exact dead149 e pl p' g _ _ _ _ hQ hf hM he h24
  have dead58 : ∀ e pl p' g (z1 z2 z3 : Int32) v4, Q = .inl (e, pl) → JF h g → MR g F L e p' → e ≠ 0 → g.1 141 24 = nI pl → xg x (y0 u) 0 0 58 [some (.ref 141), some (.int z1), some (.int z2), some (.int z3), v4] [.long (lN 0)] g := by
    intro e pl p' g z1 z2 z3 v4 hQ hf hM he h24
    refine ra_l2i A d_Mo_blocks_58 <| ra_istore (L' := [_, _, _, _, _]) A d_Mo_blocks_59 (by decide) rfl <| ra_aload_n A d_Mo_blocks_61 rfl <| ra_getI A f_Mo_386 d_Mo_blocks_62 (Nat.le_of_ble_eq_true rfl) rfl rfl <| ?_
    refine ra_if_ne (q := 111) A d_Mo_blocks_65 (by decide) (fun _ => ?_) (fun cc => absurd cc (ne hM he))
    exact dead111 e pl p' g _ _ _ _ hQ hf hM he h24
  have dead50 : ∀ e pl p' g (z1 z2 : Int32) v3 v4, Q = .inl (e, pl) → JF h g → MR g F L e p' → e ≠ 0 → g.1 141 24 = nI pl → xg x (y0 u) 0 0 50 [some (.ref 141), some (.int z1), some (.int z2), v3, v4] [.long (lN 0)] g := by
    intro e pl p' g z1 z2 v3 v4 hQ hf hM he h24
    refine ra_l2i A d_Mo_blocks_50 <| ra_istore_n (L' := [_, _, _, _, _]) A d_Mo_blocks_51 (by decide) rfl <| ra_aload_n A d_Mo_blocks_52 rfl <| ra_bipush A 24 d_Mo_blocks_53 (by decide) <| ?_
    refine ra_callV (As := [_]) A ok_Mo_next l_Mo_394 im_Mo_next sl_Mo_next d_Mo_blocks_55 (Nat.le_of_ble_eq_true rfl) rfl rfl rfl (Nat.le_of_ble_eq_true rfl) (xr_of at0 (by decide)) (s_Mo_nextF K hM he ?_)
    show xg x (y0 u) 0 0 58 _ _ g
    exact dead58 e pl p' g _ _ _ _ hQ hf hM he h24
  -- the head of a block
  have hd15 : ∀ p g (z2 : Int32) v1 v3 v4, p % 8 = 0 → MR g F L 0 p → JF h g → (¬ p + 32 ≤ 8 * L → Q = .inl (13, p / 8)) → (p + 32 ≤ 8 * L → ∀ g', fm [] [22, 24] true g g' → MR g' F L 0 (p + 32) → g'.1 141 24 = nI (p / 8) → xg x (y0 u) 0 0 61 [some (.ref 141), some (.int (bz (decide (bv F p 1 = 1)))), some (.int z2), some (.int (nI (bv F (p + 1) 7))), some (.int (nI (bv F (p + 8) 24)))] [] g') → xg x (y0 u) 0 0 15 [some (.ref 141), v1, some (.int z2), v3, v4] [] g := by
    intro p g z2 v1 v3 v4 hp hM hf hbad hgood
    have hpL := hM.2.2.2.1
    refine ra_aload_n A d_Mo_blocks_15 rfl <| ra_aload_n A d_Mo_blocks_16 rfl <| ra_getJ A f_Mo_244 d_Mo_blocks_17 (Nat.le_of_ble_eq_true rfl) rfl rfl <| ?_
    rw [hM.2.2.1.1]
    refine ra_ldc2 A k_Mo_222 d_Mo_blocks_20 <| ra_ldiv A d_Mo_blocks_23 (by decide) <| ?_
    rw [show lN p / 8 = lN (p / 8) from pk_lDiv (b := 8) (by omega) (by decide) (by decide)]
    refine ra_l2i A d_Mo_blocks_24 <| ?_
    rw [lN_i]
    refine ra_putI (ty := .int) A f_Mo_403 rfl rfl (by decide +kernel) rfl rfl d_Mo_blocks_25 (Nat.le_of_ble_eq_true rfl) rfl rfl <| ra_aload_n A d_Mo_blocks_28 rfl <| ra_iconst A 1 d_Mo_blocks_29 (by decide) <| ?_
    have M0 : MR (xw_I g 141 24 (nI (p / 8))) F L 0 p := MR_G hM (by decide) (by decide)
    have f0 : fm [] [22, 24] true g (xw_I g 141 24 (nI (p / 8))) := fm_F (by decide)
    have a24 : (xw_I g 141 24 (nI (p / 8))).1 141 24 = nI (p / 8) := xI_e
    generalize xw_I g 141 24 (nI (p / 8)) = g0 at M0 f0 a24 ⊢
    have mf : ∀ {g1 : xw_H}, MM g0 g1 → fm [] [22, 24] true g g1 := fun f => f0.trans (f.mono (by decide) (by decide) (fun q => q))
    have mj : ∀ {g1 : xw_H}, MM g0 g1 → JF h g1 := fun f => hf.trans ((mf f).mono (by decide) (by decide) (fun q => q))
    have m24 : ∀ {g1 : xw_H}, MM g0 g1 → g1.1 141 24 = nI (p / 8) := fun f => by rw [f.2.1 24 (by decide)]; exact a24
    refine ra_callV (As := [_]) A ok_Mo_next l_Mo_394 im_Mo_next sl_Mo_next d_Mo_blocks_30 (Nat.le_of_ble_eq_true rfl) rfl rfl rfl (Nat.le_of_ble_eq_true rfl) (xr_of at0 (by decide)) (s_Mo_next K (n := 1) M0 (by decide) rfl (fun v1 q1 g1 e1 f1 M1 hv1 => ?_) (fun e g1 e1 f1 M1 he => ?_))
    rotate_left
    · show xg x (y0 u) 0 0 33 _ _ g1
      have hQ := hbad (fun z => (rB_err e1).2 (by omega))
      rw [(rB_err e1).1] at M1
      refine ra_lconst A 1 d_Mo_blocks_33 (by decide) <| ra_lcmp A d_Mo_blocks_34 <| ?_
      refine ra_if_ne (q := 42) A d_Mo_blocks_35 (by decide) (fun _ => ?_) (fun cc => absurd cc (fun z => absurd (lc_eq.mp z) (by decide)))
      refine ra_iconst A 0 d_Mo_blocks_42 (by decide) <| ra_istore_n (L' := [_, _, _, _, _]) A d_Mo_blocks_43 (by decide) rfl <| ra_aload_n A d_Mo_blocks_44 rfl <| ra_bipush A 7 d_Mo_blocks_45 (by decide) <| ?_
      refine ra_callV (As := [_]) A ok_Mo_next l_Mo_394 im_Mo_next sl_Mo_next d_Mo_blocks_47 (Nat.le_of_ble_eq_true rfl) rfl rfl rfl (Nat.le_of_ble_eq_true rfl) (xr_of at0 (by decide)) (s_Mo_nextF K M1 (by decide) ?_)
      show xg x (y0 u) 0 0 50 _ _ g1
      exact dead50 13 _ p g1 _ _ _ _ hQ (mj f1) M1 (by decide) (m24 f1)
    show xg x (y0 u) 0 0 33 _ _ g1
    obtain ⟨w1, t1, _⟩ := rB_ok e1
    subst w1 t1
    have at44 : xg x (y0 u) 0 0 44 [some (.ref 141), some (.int (bz (decide (bv F p 1 = 1)))), some (.int z2), v3, v4] [] g1 := by
      refine ra_aload_n A d_Mo_blocks_44 rfl <| ra_bipush A 7 d_Mo_blocks_45 (by decide) <| ?_
      refine ra_callV (As := [_]) A ok_Mo_next l_Mo_394 im_Mo_next sl_Mo_next d_Mo_blocks_47 (Nat.le_of_ble_eq_true rfl) rfl rfl rfl (Nat.le_of_ble_eq_true rfl) (xr_of at0 (by decide)) (s_Mo_next K (n := 7) M1 (by decide) rfl (fun v2 q2 g2 e2 f2 M2 hv2 => ?_) (fun e g2 e2 f2 M2 he => ?_))
      rotate_left
      · show xg x (y0 u) 0 0 50 _ _ g2
        have hQ := hbad (fun z => (rB_err e2).2 (by omega))
        rw [(rB_err e2).1] at M2
        exact dead50 13 _ _ g2 _ _ _ _ hQ (mj (f1.trans f2)) M2 (by decide) (m24 (f1.trans f2))
      show xg x (y0 u) 0 0 50 _ _ g2
      obtain ⟨w2, t2, _⟩ := rB_ok e2
      subst w2 t2
      refine ra_l2i A d_Mo_blocks_50 <| ?_
      rw [lN_i]
      refine ra_istore_n (L' := [_, _, _, _, _]) A d_Mo_blocks_51 (by decide) rfl <| ra_aload_n A d_Mo_blocks_52 rfl <| ra_bipush A 24 d_Mo_blocks_53 (by decide) <| ?_
      refine ra_callV (As := [_]) A ok_Mo_next l_Mo_394 im_Mo_next sl_Mo_next d_Mo_blocks_55 (Nat.le_of_ble_eq_true rfl) rfl rfl rfl (Nat.le_of_ble_eq_true rfl) (xr_of at0 (by decide)) (s_Mo_next K (n := 24) M2 (by decide) rfl (fun v3 q3 g3 e3 f3 M3 hv3 => ?_) (fun e g3 e3 f3 M3 he => ?_))
      rotate_left
      · show xg x (y0 u) 0 0 58 _ _ g3
        have hQ := hbad (fun z => (rB_err e3).2 (by omega))
        rw [(rB_err e3).1] at M3
        exact dead58 13 _ _ g3 _ _ _ _ hQ (mj ((f1.trans f2).trans f3)) M3 (by decide) (m24 ((f1.trans f2).trans f3))
      show xg x (y0 u) 0 0 58 _ _ g3
      obtain ⟨w3, t3, hle⟩ := rB_ok e3
      subst w3 t3
      refine ra_l2i A d_Mo_blocks_58 <| ?_
      rw [lN_i]
      refine ra_istore (L' := [_, _, _, _, _]) A d_Mo_blocks_59 (by decide) rfl <| ?_
      have e32 : p + 1 + 7 + 24 = p + 32 := by omega
      rw [e32] at M3
      exact hgood (by omega) g3 (mf ((f1.trans f2).trans f3)) M3 (m24 ((f1.trans f2).trans f3))
    refine ra_lconst A 1 d_Mo_blocks_33 (by decide) <| ra_lcmp A d_Mo_blocks_34 <| ?_
    by_cases cl : bv F p 1 = 1
    · rw [decide_eq_true cl] at at44
      refine ra_if_ne (q := 42) A d_Mo_blocks_35 (by decide) (fun cc => absurd (lc_eq.mpr (by rw [cl]; rfl)) cc) (fun _ => ?_)
      refine ra_iconst A 1 d_Mo_blocks_38 (by decide) <| ra_goto (q := 43) A d_Mo_blocks_39 (by decide) <| ra_istore_n (L' := [_, _, _, _, _]) A d_Mo_blocks_43 (by decide) rfl <| ?_
      exact at44
    · rw [decide_eq_false cl] at at44
      refine ra_if_ne (q := 42) A d_Mo_blocks_35 (by decide) (fun _ => ?_) (fun cc => absurd cc (fun z => cl (by have hb := bv_lt (F := F) (p := p) 1; have := congrArg Int64.toInt (lc_eq.mp z); rw [pf_lI (by omega)] at this; have : ((bv F p 1 : Nat) : Int) = 1 := this; omega)))
      refine ra_iconst A 0 d_Mo_blocks_42 (by decide) <| ra_istore_n (L' := [_, _, _, _, _]) A d_Mo_blocks_43 (by decide) rfl <| ?_
      exact at44
  -- behind the first block
  have loop : ∀ n p g (last : Bool) v3 v4, 8 * L < p + 32 * n → p % 8 = 0 → MR g F L 0 p → JF h g → iOk F → KI g F → dBl F L n p last = Q → xg x (y0 u) 0 0 4 [some (.ref 141), some (.int (bz last)), some (.int 0), v3, v4] [] g := by
    clear hq
    intro n
    induction n with
    | zero =>
      intro p g last v3 v4 hn hp hM
      have := hM.2.2.2.1
      omega
    | succ n ih =>
      intro p g last v3 v4 hn hp hM hf hok hK hq
      rw [dBl] at hq
      cases last
      · rw [if_neg (by decide)] at hq
        refine ra_iload_n A d_Mo_blocks_4 rfl <| ?_
        refine ra_if_ne (q := 195) A d_Mo_blocks_5 (by decide) (fun cc => absurd (rfl) cc) (fun _ => ?_)
        refine ra_aload_n A d_Mo_blocks_8 rfl <| ra_getI A f_Mo_386 d_Mo_blocks_9 (Nat.le_of_ble_eq_true rfl) rfl rfl <| ?_
        refine ra_if_ne (q := 195) A d_Mo_blocks_12 (by decide) (fun cc => absurd (hM.2.2.1.2) cc) (fun _ => ?_)
        refine hd15 p g _ _ _ _ hp hM hf (fun c => by rw [if_pos c] at hq; exact hq.symm) (fun c g1 f1 M1 h24 => ?_)
        have hf1 : JF h g1 := hf.trans (f1.mono (by decide) (by decide) (fun q => q))
        have K1 := hK.fm f1 (by decide) (by decide) (by decide) (by decide) (by decide) (by decide) (by decide) (by decide)
        rw [if_neg (fun z => z c)] at hq
        have hk := bv_lt (F := F) (p := p + 1) 7
        have hl := bv_lt (F := F) (p := p + 8) 24
        generalize bv F (p + 1) 7 = k at hq hk ⊢
        generalize bv F (p + 8) 24 = len at hq hl ⊢
        generalize decide (bv F p 1 = 1) = la at hq ⊢
        have bad2 : (k = 0 ∨ k = 127) → xg x (y0 u) 0 0 106 [some (.ref 141), some (.int (bz la)), some (.int 0), some (.int (nI k)), some (.int (nI len))] [.ref 141] g1 := by
          intro z
          rw [if_pos z] at hq
          refine ra_iconst A 0 d_Mo_blocks_106 (by decide) <| ra_iconst A 2 d_Mo_blocks_107 (by decide) <| ?_
          refine ra_callV (As := [_, _]) A ok_Mo_want l_Mo_409 im_Mo_want sl_Mo_want d_Mo_blocks_108 (Nat.le_of_ble_eq_true rfl) rfl rfl rfl (Nat.le_of_ble_eq_true rfl) (xr_of at0 (by decide)) (s_Mo_want K (b := false) M1.2.2.1.2 (fun q => by cases q) (fun _ => ?_))
          show xg x (y0 u) 0 0 111 _ _ _
          exact dead111 2 _ _ _ _ _ _ _ hq.symm (hf1.trans (fm_F (by decide))) (MR_F (x := 2) M1 (by decide)) (by decide) (by rw [xI_j (by decide)]; exact h24)
        refine ra_aload_n A d_Mo_blocks_61 rfl <| ra_getI A f_Mo_386 d_Mo_blocks_62 (Nat.le_of_ble_eq_true rfl) rfl rfl <| ?_
        refine ra_if_ne (q := 111) A d_Mo_blocks_65 (by decide) (fun cc => absurd (M1.2.2.1.2) cc) (fun _ => ?_)
        refine ra_aload_n A d_Mo_blocks_68 rfl <| ra_iload_n A d_Mo_blocks_69 rfl <| ?_
        refine ra_if_eq (q := 92) A d_Mo_blocks_70 (by decide) (fun _ => ?_) (fun cc => absurd (rfl) cc)
        refine ra_iload_n A d_Mo_blocks_92 rfl <| ?_
        by_cases k0 : k = 0
        · refine ra_if_le (q := 106) A d_Mo_blocks_93 (by decide) (fun _ => ?_) (fun cc => absurd ((by rw [k0]; decide)) cc)
          exact bad2 (Or.inl k0)
        refine ra_if_le (q := 106) A d_Mo_blocks_93 (by decide) (fun cc => absurd cc (fun z => absurd ((nI_leI (b := 0) (by omega) (by decide)).mp z) (by omega))) (fun _ => ?_)
        refine ra_iload_n A d_Mo_blocks_96 rfl <| ra_bipush A 127 d_Mo_blocks_97 (by decide) <| ?_
        by_cases k127 : k = 127
        · refine ra_icmp_ge (q := 106) A d_Mo_blocks_99 (by decide) (fun _ => ?_) (fun cc => absurd ((by rw [k127]; decide)) cc)
          exact bad2 (Or.inr k127)
        rw [if_neg (by omega)] at hq
        refine ra_icmp_ge (q := 106) A d_Mo_blocks_99 (by decide) (fun cc => absurd cc (nI_ge (b := 127) (by omega) (by decide))) (fun _ => ?_)
        refine ra_iconst A 1 d_Mo_blocks_102 (by decide) <| ra_goto (q := 107) A d_Mo_blocks_103 (by decide) <| ra_iconst A 2 d_Mo_blocks_107 (by decide) <| ?_
        refine ra_callV (As := [_, _]) A ok_Mo_want l_Mo_409 im_Mo_want sl_Mo_want d_Mo_blocks_108 (Nat.le_of_ble_eq_true rfl) rfl rfl rfl (Nat.le_of_ble_eq_true rfl) (xr_of at0 (by decide)) (s_Mo_want K (b := true) M1.2.2.1.2 (fun _ => ?_) (fun q => by cases q))
        show xg x (y0 u) 0 0 111 _ _ g1
        refine ra_aload_n A d_Mo_blocks_111 rfl <| ra_getI A f_Mo_386 d_Mo_blocks_112 (Nat.le_of_ble_eq_true rfl) rfl rfl <| ?_
        refine ra_if_ne (q := 149) A d_Mo_blocks_115 (by decide) (fun cc => absurd (M1.2.2.1.2) cc) (fun _ => ?_)
        refine ra_aload_n A d_Mo_blocks_118 rfl <| ra_getJ A f_Mo_244 d_Mo_blocks_119 (Nat.le_of_ble_eq_true rfl) rfl rfl <| ?_
        rw [M1.2.2.1.1]
        refine ra_ldc2 A k_Mo_222 d_Mo_blocks_122 <| ra_iload A d_Mo_blocks_125 rfl <| ra_i2l A d_Mo_blocks_127 <| ?_
        rw [nI_l (by omega)]
        refine ra_lmul A d_Mo_blocks_128 <| ?_
        rw [show (8 : Int64) * lN len = lN (8 * len) from lN_mul 8 len]
        refine ra_ladd A d_Mo_blocks_129 <| ?_
        rw [lN_add]
        refine ra_ldc2 A k_Mo_222 d_Mo_blocks_130 <| ra_aload_n A d_Mo_blocks_133 rfl <| ra_getI A f_Mo_354 d_Mo_blocks_134 (Nat.le_of_ble_eq_true rfl) rfl rfl <| ?_
        rw [M1.1]
        refine ra_i2l A d_Mo_blocks_137 <| ?_
        rw [nI_l (by omega)]
        refine ra_lmul A d_Mo_blocks_138 <| ?_
        rw [show (8 : Int64) * lN L = lN (8 * L) from lN_mul 8 L]
        refine ra_lcmp A d_Mo_blocks_139 <| ?_
        by_cases cf : ¬ p + 32 + 8 * len ≤ 8 * L
        · rw [if_pos cf] at hq
          refine ra_if_le (q := 149) A d_Mo_blocks_140 (by decide) (fun cc => absurd cc (fun z => cf ((pk_lLE (by omega) (by omega)).mp (lc_le.mp z)))) (fun _ => ?_)
          refine ra_aload_n A d_Mo_blocks_143 rfl <| ra_bipush A 13 d_Mo_blocks_144 (by decide) <| ?_
          refine ra_callV (As := [_]) A ok_Mo_fail l_Mo_389 im_Mo_fail sl_Mo_fail d_Mo_blocks_146 (Nat.le_of_ble_eq_true rfl) rfl rfl rfl (Nat.le_of_ble_eq_true rfl) (xr_of at0 (by decide)) (s_Mo_fail K M1.2.2.1.2 ?_)
          show xg x (y0 u) 0 0 149 _ _ _
          exact dead149 13 _ _ _ _ _ _ _ hq.symm (hf1.trans (fm_F (by decide))) (MR_F (x := 13) M1 (by decide)) (by decide) (by rw [xI_j (by decide)]; exact h24)
        rw [if_neg cf] at hq
        have cf := Decidable.not_not.mp cf
        refine ra_if_le (q := 149) A d_Mo_blocks_140 (by decide) (fun _ => ?_) (fun cc => absurd (lc_le.mpr ((pk_lLE (by omega) (by omega)).mpr cf)) cc)
        refine ra_aload_n A d_Mo_blocks_149 rfl <| ra_getI A f_Mo_386 d_Mo_blocks_150 (Nat.le_of_ble_eq_true rfl) rfl rfl <| ?_
        refine ra_if_ne (q := 167) A d_Mo_blocks_153 (by decide) (fun cc => absurd (M1.2.2.1.2) cc) (fun _ => ?_)
        refine ra_iload_n A d_Mo_blocks_156 rfl <| ?_
        refine ra_if_eq (q := 167) A d_Mo_blocks_157 (by decide) (fun _ => ?_) (fun cc => absurd (rfl) cc)
        refine ra_aload_n A d_Mo_blocks_167 rfl <| ra_getI A f_Mo_386 d_Mo_blocks_168 (Nat.le_of_ble_eq_true rfl) rfl rfl <| ?_
        refine ra_if_ne (q := 190) A d_Mo_blocks_171 (by decide) (fun cc => absurd (M1.2.2.1.2) cc) (fun _ => ?_)
        refine ra_aload_n A d_Mo_blocks_174 rfl <| ra_aload_n A d_Mo_blocks_175 rfl <| ra_getJ A f_Mo_244 d_Mo_blocks_176 (Nat.le_of_ble_eq_true rfl) rfl rfl <| ?_
        rw [M1.2.2.1.1]
        refine ra_ldc2 A k_Mo_222 d_Mo_blocks_179 <| ra_iload A d_Mo_blocks_182 rfl <| ra_i2l A d_Mo_blocks_184 <| ?_
        rw [nI_l (by omega)]
        refine ra_lmul A d_Mo_blocks_185 <| ?_
        rw [show (8 : Int64) * lN len = lN (8 * len) from lN_mul 8 len]
        refine ra_ladd A d_Mo_blocks_186 <| ?_
        rw [lN_add]
        refine ra_putJ A f_Mo_244 rfl rfl (by decide +kernel) d_Mo_blocks_187 (Nat.le_of_ble_eq_true rfl) rfl rfl <| ra_iconst A 0 d_Mo_blocks_190 (by decide) <| ra_istore_n (L' := [_, _, _, _, _]) A d_Mo_blocks_191 (by decide) rfl <| ra_goto (q := 4) A d_Mo_blocks_192 (by decide) <| ?_
        have f2 : fm [] [22, 24] true g1 (xw_J g1 141 13 (lN (p + 32 + 8 * len))) := fm_J
        refine ih (p + 32 + 8 * len) _ la _ _ (by omega) (by omega) (M1.of (by rw [xJ_1]) (by rw [xJ_1]) ⟨xJ_e, by rw [xJ_1]; exact M1.2.2.1.2⟩ cf (by decide)) (hf1.trans fm_J) hok (K1.fm f2 (by decide) (by decide) (by decide) (by decide) (by decide) (by decide) (by decide) (by decide)) hq
      · rw [if_pos rfl] at hq
        refine ra_iload_n A d_Mo_blocks_4 rfl <| ?_
        refine ra_if_ne (q := 195) A d_Mo_blocks_5 (by decide) (fun _ => ?_) (fun cc => absurd cc ((by decide)))
        exact ra_vret A ow d_Mo_blocks_195 (hX p g hq.symm hf hM hp hok hK)
  -- the first block
  unfold dI2 at hq
  refine ra_iconst A 0 d_Mo_blocks_0 (by decide) <| ra_istore_n (L' := [_, _, _, _, _]) A d_Mo_blocks_1 (by decide) rfl <| ra_iconst A 1 d_Mo_blocks_2 (by decide) <| ra_istore_n (L' := [_, _, _, _, _]) A d_Mo_blocks_3 (by decide) rfl <| ra_iload_n A d_Mo_blocks_4 rfl <| ?_
  refine ra_if_ne (q := 195) A d_Mo_blocks_5 (by decide) (fun cc => absurd (rfl) cc) (fun _ => ?_)
  refine ra_aload_n A d_Mo_blocks_8 rfl <| ra_getI A f_Mo_386 d_Mo_blocks_9 (Nat.le_of_ble_eq_true rfl) rfl rfl <| ?_
  refine ra_if_ne (q := 195) A d_Mo_blocks_12 (by decide) (fun cc => absurd (M.2.2.1.2) cc) (fun _ => ?_)
  refine hd15 32 h _ _ _ _ (by decide) M fm.rfl (fun c => by rw [if_pos (by omega)] at hq; exact hq.symm) (fun c g1 f1 M1 h24 => ?_)
  have hf1 : JF h g1 := f1.mono (by decide) (by decide) (fun q => q)
  rw [if_neg (fun z => z (by omega))] at hq
  have e33 : bv F (32 + 1) 7 = bv F 33 7 := rfl
  have e40 : bv F (32 + 8) 24 = bv F 40 24 := rfl
  rw [e33, e40]
  have hk := bv_lt (F := F) (p := 33) 7
  have hl := bv_lt (F := F) (p := 40) 24
  generalize bv F 33 7 = k at hq hk ⊢
  generalize bv F 40 24 = len at hq hl ⊢
  generalize hla : decide (bv F 32 1 = 1) = la at hq ⊢
  have bad2 : ¬ (k = 0 ∧ len = 34) → xg x (y0 u) 0 0 88 [some (.ref 141), some (.int (bz la)), some (.int 1), some (.int (nI k)), some (.int (nI len))] [.ref 141] g1 := by
    intro z
    rw [if_pos z] at hq
    refine ra_iconst A 0 d_Mo_blocks_88 (by decide) <| ra_goto (q := 107) A d_Mo_blocks_89 (by decide) <| ra_iconst A 2 d_Mo_blocks_107 (by decide) <| ?_
    refine ra_callV (As := [_, _]) A ok_Mo_want l_Mo_409 im_Mo_want sl_Mo_want d_Mo_blocks_108 (Nat.le_of_ble_eq_true rfl) rfl rfl rfl (Nat.le_of_ble_eq_true rfl) (xr_of at0 (by decide)) (s_Mo_want K (b := false) M1.2.2.1.2 (fun q => by cases q) (fun _ => ?_))
    show xg x (y0 u) 0 0 111 _ _ _
    exact dead111 2 4 _ _ _ _ _ _ hq.symm (hf1.trans (fm_F (by decide))) (MR_F (x := 2) M1 (by decide)) (by decide) (by rw [xI_j (by decide)]; exact h24)
  refine ra_aload_n A d_Mo_blocks_61 rfl <| ra_getI A f_Mo_386 d_Mo_blocks_62 (Nat.le_of_ble_eq_true rfl) rfl rfl <| ?_
  refine ra_if_ne (q := 111) A d_Mo_blocks_65 (by decide) (fun cc => absurd (M1.2.2.1.2) cc) (fun _ => ?_)
  refine ra_aload_n A d_Mo_blocks_68 rfl <| ra_iload_n A d_Mo_blocks_69 rfl <| ?_
  refine ra_if_eq (q := 92) A d_Mo_blocks_70 (by decide) (fun cc => absurd cc ((by decide))) (fun _ => ?_)
  refine ra_iload_n A d_Mo_blocks_73 rfl <| ?_
  by_cases k0 : ¬ k = 0
  · refine ra_if_ne (q := 88) A d_Mo_blocks_74 (by decide) (fun _ => ?_) (fun cc => absurd cc (nI_ne0 (by omega) (by omega)))
    exact bad2 (fun z => k0 z.1)
  have k0 := Decidable.not_not.mp k0
  refine ra_if_ne (q := 88) A d_Mo_blocks_74 (by decide) (fun cc => absurd ((by rw [k0]; rfl)) cc) (fun _ => ?_)
  refine ra_iload A d_Mo_blocks_77 rfl <| ra_bipush A 34 d_Mo_blocks_79 (by decide) <| ?_
  by_cases l34 : ¬ len = 34
  · refine ra_icmp_ne (q := 88) A d_Mo_blocks_81 (by decide) (fun _ => ?_) (fun cc => absurd cc (fun z => l34 ((nI_eq (b := 34) (by omega) (by decide)).mp z)))
    exact bad2 (fun z => l34 z.2)
  have l34 := Decidable.not_not.mp l34
  rw [if_neg (fun z => z ⟨k0, l34⟩)] at hq
  clear bad2
  refine ra_icmp_ne (q := 88) A d_Mo_blocks_81 (by decide) (fun cc => absurd ((by rw [l34]; rfl)) cc) (fun _ => ?_)
  refine ra_iconst A 1 d_Mo_blocks_84 (by decide) <| ra_goto (q := 107) A d_Mo_blocks_85 (by decide) <| ra_iconst A 2 d_Mo_blocks_107 (by decide) <| ?_
  refine ra_callV (As := [_, _]) A ok_Mo_want l_Mo_409 im_Mo_want sl_Mo_want d_Mo_blocks_108 (Nat.le_of_ble_eq_true rfl) rfl rfl rfl (Nat.le_of_ble_eq_true rfl) (xr_of at0 (by decide)) (s_Mo_want K (b := true) M1.2.2.1.2 (fun _ => ?_) (fun q => by cases q))
  show xg x (y0 u) 0 0 111 _ _ g1
  refine ra_aload_n A d_Mo_blocks_111 rfl <| ra_getI A f_Mo_386 d_Mo_blocks_112 (Nat.le_of_ble_eq_true rfl) rfl rfl <| ?_
  refine ra_if_ne (q := 149) A d_Mo_blocks_115 (by decide) (fun cc => absurd (M1.2.2.1.2) cc) (fun _ => ?_)
  refine ra_aload_n A d_Mo_blocks_118 rfl <| ra_getJ A f_Mo_244 d_Mo_blocks_119 (Nat.le_of_ble_eq_true rfl) rfl rfl <| ?_
  rw [M1.2.2.1.1]
  refine ra_ldc2 A k_Mo_222 d_Mo_blocks_122 <| ra_iload A d_Mo_blocks_125 rfl <| ra_i2l A d_Mo_blocks_127 <| ?_
  rw [nI_l (by omega)]
  refine ra_lmul A d_Mo_blocks_128 <| ?_
  rw [show (8 : Int64) * lN len = lN (8 * len) from lN_mul 8 len]
  refine ra_ladd A d_Mo_blocks_129 <| ?_
  rw [lN_add]
  refine ra_ldc2 A k_Mo_222 d_Mo_blocks_130 <| ra_aload_n A d_Mo_blocks_133 rfl <| ra_getI A f_Mo_354 d_Mo_blocks_134 (Nat.le_of_ble_eq_true rfl) rfl rfl <| ?_
  rw [M1.1]
  refine ra_i2l A d_Mo_blocks_137 <| ?_
  rw [nI_l (by omega)]
  refine ra_lmul A d_Mo_blocks_138 <| ?_
  rw [show (8 : Int64) * lN L = lN (8 * L) from lN_mul 8 L]
  refine ra_lcmp A d_Mo_blocks_139 <| ?_
  by_cases cf : ¬ 336 ≤ 8 * L
  · rw [if_pos cf] at hq
    refine ra_if_le (q := 149) A d_Mo_blocks_140 (by decide) (fun cc => absurd cc (fun z => cf (by have := (pk_lLE (by omega) (by omega)).mp (lc_le.mp z); omega))) (fun _ => ?_)
    refine ra_aload_n A d_Mo_blocks_143 rfl <| ra_bipush A 13 d_Mo_blocks_144 (by decide) <| ?_
    refine ra_callV (As := [_]) A ok_Mo_fail l_Mo_389 im_Mo_fail sl_Mo_fail d_Mo_blocks_146 (Nat.le_of_ble_eq_true rfl) rfl rfl rfl (Nat.le_of_ble_eq_true rfl) (xr_of at0 (by decide)) (s_Mo_fail K M1.2.2.1.2 ?_)
    show xg x (y0 u) 0 0 149 _ _ _
    exact dead149 13 4 _ _ _ _ _ _ hq.symm (hf1.trans (fm_F (by decide))) (MR_F (x := 13) M1 (by decide)) (by decide) (by rw [xI_j (by decide)]; exact h24)
  rw [if_neg cf] at hq
  have cf := Decidable.not_not.mp cf
  refine ra_if_le (q := 149) A d_Mo_blocks_140 (by decide) (fun _ => ?_) (fun cc => absurd (lc_le.mpr ((pk_lLE (by omega) (by omega)).mpr (by omega))) cc)
  refine ra_aload_n A d_Mo_blocks_149 rfl <| ra_getI A f_Mo_386 d_Mo_blocks_150 (Nat.le_of_ble_eq_true rfl) rfl rfl <| ?_
  refine ra_if_ne (q := 167) A d_Mo_blocks_153 (by decide) (fun cc => absurd (M1.2.2.1.2) cc) (fun _ => ?_)
  refine ra_iload_n A d_Mo_blocks_156 rfl <| ?_
  refine ra_if_eq (q := 167) A d_Mo_blocks_157 (by decide) (fun cc => absurd cc ((by decide))) (fun _ => ?_)
  refine ra_aload_n A d_Mo_blocks_160 rfl <| ?_
  refine ra_callV (As := []) A ok_Mo_information l_Mo_413 im_Mo_information sl_Mo_information d_Mo_blocks_161 (Nat.le_of_ble_eq_true rfl) rfl rfl rfl (Nat.le_of_ble_eq_true rfl) (xr_of at0 (by decide)) (s_Mo_information K M1 cf (fun hok g2 f2 M2 I2 s2 k2 => ?_) (fun hok g2 f2 M2 h24' => ?_))
  · show xg x (y0 u) 0 0 164 _ _ g2
    rw [if_neg (fun z => z hok)] at hq
    refine ra_goto (q := 190) A d_Mo_blocks_164 (by decide) <| ra_iconst A 0 d_Mo_blocks_190 (by decide) <| ra_istore_n (L' := [_, _, _, _, _]) A d_Mo_blocks_191 (by decide) rfl <| ra_goto (q := 4) A d_Mo_blocks_192 (by decide) <| ?_
    exact loop 9000 336 g2 la _ _ (by omega) (by decide) M2 (hf1.trans f2) hok ⟨I2, s2, k2⟩ hq
  · show xg x (y0 u) 0 0 164 _ _ g2
    unfold iOk at hok
    rw [if_pos hok] at hq
    refine ra_goto (q := 190) A d_Mo_blocks_164 (by decide) <| ?_
    exact dead190 3 8 336 g2 _ _ _ _ hq.symm (hf1.trans f2) M2 (by decide) h24'
end S9k
