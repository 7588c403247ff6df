/-! SoundStream$SubframeReader: readPart, readRests -/
theorem neg_l {c : Nat} (h : c < 2 ^ 31) : (-(nI c) : Int32).toInt64 = -(lN c) := by
  apply Int64.toInt_inj.mp
  rw [Int32.toInt_toInt64, Int32.toInt_neg, nI_toInt h, Int64.toInt_neg, pk_lT (by omega), Int.bmod_eq_of_le (by omega) (by omega), Int.bmod_eq_of_le (by omega) (by omega)]
section S95
variable {u : xu_T} {l : Launch} {KK : State → Prop} {h : xw_H} {X : xc_R → xw_H → Nat → Nat → Prop}
theorem s_Sr_readPart (hl : l.stackTraces = false) {F : Nat → Bool} {L p f a m way k : Nat} {P : Pd} {row : Nat → Int32} {Q : Rr (Nat → Int32)} (hk : isRow k) (R : RD h F L p) (hP : PF h P) (ho : P.1 ≤ 32) (hw1 : 1 ≤ P.2.1) (hw2 : P.2.1 ≤ 25) (hoa : P.1 ≤ a) (hf : f + (a + m) ≤ 1200) (hway : way ≤ 1) (hrow : ∀ r, r < a → h.1 k (f + r) = row r) (hq : rP F L P way a m row p = Q)
    (hX : ∀ row' p' h', Q = .inr (row', p') → SM k f h h' → RD h' F L p' → (∀ r, r < a + m → h'.1 k (f + r) = row' r) → X (.inl none) h' 0 0) (hY : ∀ e h', Q = .inl e → ER h h' e → X (.inr ISE) h' 1 6) : xm_M l (y0 u) (KK0 u) m_Sr_readPart [.ref 134, .ref k, .int (nI (f + a)), .int (nI (f + (a + m))), .int (nI (4 + way))] h X := by
  refine xm_of [none, none, none, none, none, none, none, none, none] (by simp) (Nat.le_of_ble_eq_true rfl) (by decide) (fun x at0 => ?_)
  have A := xa_of at0 (KK0_ok u)
  have ow := at0.2.2.2.2.1
  have hlx : (xg_l x).stackTraces = false := by rw [at0.2.2.2.2.2.1]; exact hl
  obtain ⟨k1, k2, k3, k4, k5, k6, k7, k8⟩ := hk.lt
  have hlim : 2 ^ (P.2.1 - 1) ≤ 2 ^ 24 := Nat.pow_le_pow_right (n := 2) (by decide) (by omega)
  have hpw : 2 ^ (4 + way) ≤ 2 ^ 5 := Nat.pow_le_pow_right (n := 2) (by decide) (by omega)
  have hpw0 : 0 < 2 ^ (4 + way) := Nat.two_pow_pos _
  unfold rP at hq
  refine ra_aload_n A d_Sr_readPart_0 rfl <| ra_getR A f_Sr_15 d_Sr_readPart_1 (Nat.le_of_ble_eq_true rfl) rfl rfl rfl <| ra_iload A d_Sr_readPart_4 rfl <| ?_
  refine ra_callV (As := [_]) A ok_Rd_bits l_Sr_19 im_Rd_bits sl_Rd_bits d_Sr_readPart_6 (Nat.le_of_ble_eq_true rfl) rfl rfl rfl (Nat.le_of_ble_eq_true rfl) (xr_of at0 (by decide)) (s_Rd_bits hlx (n := 4 + way) R (by omega) rfl (fun kk p1 g1 e1 f1 R1 hkk => ?_) (fun e g1 e1 E => xgT_out ow at0.2.2.2.2.2.2.2.2.2.2 (hY e g1 (by rw [← hq, e1, rb_l]) E)))
  show xg x (y0 u) 0 0 9 _ _ g1
  rw [e1, rb_r] at hq
  have at46 : ∀ (esc : Bool) (n : Nat) (g : xw_H) (p2 : Nat), n < 32 → (esc = false → kk ≤ 30) → SM k f h g → RD g F L p2 → g.1 k = h.1 k → rL (stp F L P esc n kk a) row p2 m = Q → xg x (y0 u) 0 0 46 [some (.ref 134), some (.ref k), some (.int (nI (f + a))), some (.int (nI (f + (a + m)))), some (.int (nI (4 + way))), some (.int (nI kk)), some (.int (bz esc)), none, none, none, none, none, none, none] [.int (nI n)] g := by
    clear hq
    intro esc n g2 p2 hn hkesc s2 R2 ek2 hq
    have hP2 := hP.sm s2 hk
    refine ra_istore (L' := [_, _, _, _, _, _, _, _, _, _, _, _, _, _]) A d_Sr_readPart_46 (by decide) rfl <| ra_iconst A 1 d_Sr_readPart_48 (by decide) <| ra_aload_n A d_Sr_readPart_49 rfl <| ra_getI A f_Sr_37 d_Sr_readPart_50 (Nat.le_of_ble_eq_true rfl) rfl rfl <| ?_
    rw [hP2.2.1]
    refine ra_iconst A 1 d_Sr_readPart_53 (by decide) <| ra_isub A d_Sr_readPart_54 <| ?_
    rw [show nI P.2.1 - 1 = nI (P.2.1 - 1) from pk_sub (b := 1) hw1]
    refine ra_ishl A d_Sr_readPart_55 <| ?_
    rw [shl1 (by omega)]
    refine ra_istore (L' := [_, _, _, _, _, _, _, _, _, _, _, _, _, _]) A d_Sr_readPart_56 (by decide) rfl <| ra_iload_n A d_Sr_readPart_58 rfl <| ra_istore (L' := [_, _, _, _, _, _, _, _, _, _, _, _, _, _]) A d_Sr_readPart_59 (by decide) rfl <| ?_
    rw [show a = a + 0 from rfl]
    refine lp_up (σ := xw_H) (W := fun j g => ∀ v10 v11 v12 v13, xg x (y0 u) 0 0 61 [some (.ref 134), some (.ref k), some (.int (nI (f + (a + 0)))), some (.int (nI (f + (a + 0 + m)))), some (.int (nI (4 + way))), some (.int (nI kk)), some (.int (bz esc)), some (.int (nI n)), some (.int (nI (2 ^ (P.2.1 - 1)))), some (.int (nI (f + (a + j)))), v10, v11, v12, v13] [] g) (I := fun j g => ∃ row' p', rL (stp F L P esc n kk a) row p2 j = .inr (row', p') ∧ SM k f h g ∧ RD g F L p' ∧ ∀ r, r < a + j → g.1 k (f + r) = row' r) m ?_ ?_ 0 g2 (Nat.zero_le _) ⟨_, _, rfl, s2, R2, fun r hr => ?_⟩ none none none none
    · rintro g ⟨row', p', e, hs, hR, hr⟩ v10 v11 v12 v13
      refine ra_iload A d_Sr_readPart_61 rfl <| ra_iload_n A d_Sr_readPart_63 rfl <| ?_
      refine ra_icmp_ge (q := 178) A d_Sr_readPart_64 (by decide) (fun _ => ?_) (fun cc => absurd (Int32.le_refl _) cc)
      exact ra_vret A ow d_Sr_readPart_178 (hX row' p' g (hq.symm.trans e) hs hR hr)
    · rintro j g hj ⟨row', p', e, hs, hR, hr⟩ ih v10 v11 v12 v13
      have hPg := hP.sm hs hk
      have e2 := rL_s e
      have bad : ∀ e', stp F L P esc n kk a j row' p' = .inl e' → Q = .inl e' := fun e' q => by rw [← hq]; exact rL_err (e2.trans q) hj
      refine ra_iload A d_Sr_readPart_61 rfl <| ra_iload_n A d_Sr_readPart_63 rfl <| ?_
      refine ra_icmp_ge (q := 178) A d_Sr_readPart_64 (by decide) (fun cc => absurd cc (nI_ge (show f + (a + j) < f + (a + 0 + m) by omega) (by omega))) (fun _ => ?_)
      refine ra_iload A d_Sr_readPart_67 rfl <| ?_
      have at118 : ∀ r p3 g3, rR F L esc n kk p' = .inr (r, p3) → RM1 g g3 → RD g3 F L p3 → xg x (y0 u) 0 0 118 [some (.ref 134), some (.ref k), some (.int (nI (f + (a + 0)))), some (.int (nI (f + (a + 0 + m)))), some (.int (nI (4 + way))), some (.int (nI kk)), some (.int (bz esc)), some (.int (nI n)), some (.int (nI (2 ^ (P.2.1 - 1)))), some (.int (nI (f + (a + j)))), v10, v11, v12, v13] [.long r] g3 := by
        intro r p3 g3 e3 f3 R3
        have hs3 := hs.trans (f3.sm (k := k) (f := f) k3)
        have hP3 := hP.sm hs3 hk
        unfold stp at e2 bad
        rw [e3, rb_r] at e2 bad
        refine ra_lstore (L' := [_, _, _, _, _, _, _, _, _, _, _, _, _, _]) A d_Sr_readPart_118 (by decide) rfl <| ra_aload_n A d_Sr_readPart_120 rfl <| ra_aload_n A d_Sr_readPart_121 rfl <| ra_iload A d_Sr_readPart_122 rfl <| ?_
        refine ra_callV (As := [_, _]) A ok_Sr_predict l_Sr_88 im_Sr_predict sl_Sr_predict d_Sr_readPart_124 (Nat.le_of_ble_eq_true rfl) rfl rfl rfl (Nat.le_of_ble_eq_true rfl) (xr_of at0 (by decide)) (s_Sr_predict (KK0_ok u) (row := row') hk hP3 ho (i := a + j) (by omega) (by omega) (fun r hr' => by rw [f3.1 k k3]; exact hr r hr') ?_)
        show xg x (y0 u) 0 0 127 _ _ g3
        generalize prd P.2.2.2 row' (a + j) P.1 >>> ((nI P.2.2.1).toInt64 &&& 63) = V at e2 bad ⊢
        refine ra_lload A d_Sr_readPart_127 rfl <| ra_ladd A d_Sr_readPart_129 <| ?_
        refine ra_lstore (L' := [_, _, _, _, _, _, _, _, _, _, _, _, _, _]) A d_Sr_readPart_130 (by decide) rfl <| ra_aload_n A d_Sr_readPart_132 rfl <| ra_getR A f_Sr_15 d_Sr_readPart_133 (Nat.le_of_ble_eq_true rfl) rfl rfl rfl <| ra_lload A d_Sr_readPart_136 rfl <| ra_iload A d_Sr_readPart_138 rfl <| ra_ineg A d_Sr_readPart_140 <| ?_
        refine ra_i2l A d_Sr_readPart_141 <| ?_
        rw [neg_l (by omega)]
        refine ra_lcmp A d_Sr_readPart_142 <| ?_
        have no : inR P.2.1 (V + r) = false → ∀ v10 v11 v12 v13, xg x (y0 u) 0 0 159 [some (.ref 134), some (.ref k), some (.int (nI (f + (a + 0)))), some (.int (nI (f + (a + 0 + m)))), some (.int (nI (4 + way))), some (.int (nI kk)), some (.int (bz esc)), some (.int (nI n)), some (.int (nI (2 ^ (P.2.1 - 1)))), some (.int (nI (f + (a + j)))), v10, v11, v12, v13] [.ref 133] g3 := by
          intro q v10 v11 v12 v13
          refine ra_iconst A 0 d_Sr_readPart_159 (by decide) <| ra_bipush A 11 d_Sr_readPart_160 (by decide) <| ?_
          refine ra_callV (As := [_, _]) A ok_Rd_demand l_Sr_29 im_Rd_demand sl_Rd_demand d_Sr_readPart_162 (Nat.le_of_ble_eq_true rfl) rfl rfl rfl (Nat.le_of_ble_eq_true rfl) (xr_of at0 (by decide)) (s_Rd_demand hlx (c := false) (e := 11) (fun q => by cases q) (fun _ => xgT_out ow at0.2.2.2.2.2.2.2.2.2.2 (hY 11 _ (bad 11 (by rw [q]; rfl)) (hs3.er hk ER_I))))
        by_cases c1 : -(lN (2 ^ (P.2.1 - 1))) ≤ V + r
        · refine ra_if_lt (q := 159) A d_Sr_readPart_143 (by decide) (fun cc => absurd cc (fun z => absurd (lc_lt.mp z) (Int64.not_lt.mpr c1))) (fun _ => ?_)
          refine ra_lload A d_Sr_readPart_146 rfl <| ra_iload A d_Sr_readPart_148 rfl <| ra_i2l A d_Sr_readPart_150 <| ?_
          rw [nI_l (by omega)]
          refine ra_lcmp A d_Sr_readPart_151 <| ?_
          by_cases c2 : V + r < lN (2 ^ (P.2.1 - 1))
          · refine ra_if_ge (q := 159) A d_Sr_readPart_152 (by decide) (fun cc => absurd cc (fun z => absurd (lc_ge.mp z) (Int64.not_le.mpr c2))) (fun _ => ?_)
            refine ra_iconst A 1 d_Sr_readPart_155 (by decide) <| ra_goto (q := 160) A d_Sr_readPart_156 (by decide) <| ra_bipush A 11 d_Sr_readPart_160 (by decide) <| ?_
            refine ra_callV (As := [_, _]) A ok_Rd_demand l_Sr_29 im_Rd_demand sl_Rd_demand d_Sr_readPart_162 (Nat.le_of_ble_eq_true rfl) rfl rfl rfl (Nat.le_of_ble_eq_true rfl) (xr_of at0 (by decide)) (s_Rd_demand hlx (c := true) (e := 11) (fun _ => ?_) (fun q => by cases q))
            show xg x (y0 u) 0 0 165 _ _ g3
            rw [show inR P.2.1 (V + r) = true by unfold inR; rw [decide_eq_true c1, decide_eq_true c2]; rfl, if_pos rfl] at e2
            refine ra_aload_n A d_Sr_readPart_165 rfl <| ra_iload A d_Sr_readPart_166 rfl <| ra_lload A d_Sr_readPart_168 rfl <| ra_l2i A d_Sr_readPart_170 <| ?_
            refine ra_iastore A d_Sr_readPart_171 k1 k2 (vp_in_nI (by omega) (by decide)) ?_
            rw [nI_clamp (by omega)]
            refine ra_iinc (L' := [_, _, _, _, _, _, _, _, _, _, _, _, _, _]) A 1 d_Sr_readPart_172 rfl (by decide) (by decide) rfl <| ra_goto (q := 61) A d_Sr_readPart_175 (by decide) <| ?_
            rw [nI_1]
            refine ih _ ⟨_, _, e2, hs3.trans (SM_I k3 (by omega)), SM.RD (h' := g3) (f := f) R3 hk, fun r' hr' => ?_⟩ _ _ _ _
            by_cases c : r' = a + j
            · subst c; rw [xI_e, pk_us]
            · rw [xI_j (by omega), f3.1 k k3, pk_un c]
              exact hr r' (by omega)
          · refine ra_if_ge (q := 159) A d_Sr_readPart_152 (by decide) (fun _ => ?_) (fun cc => absurd (lc_ge.mpr (Int64.not_lt.mp c2)) cc)
            exact no (by unfold inR; rw [decide_eq_false c2, Bool.and_false]) _ _ _ _
        · refine ra_if_lt (q := 159) A d_Sr_readPart_143 (by decide) (fun _ => ?_) (fun cc => absurd (lc_lt.mpr (Int64.not_le.mp c1)) cc)
          exact no (by unfold inR; rw [decide_eq_false c1, Bool.false_and]) _ _ _ _
      cases esc
      · refine ra_if_eq (q := 85) A d_Sr_readPart_69 (by decide) (fun _ => ?_) (fun cc => absurd (rfl) cc)
        have hk30 := hkesc rfl
        have hz32 : 2 ^ (32 - kk) ≤ 2 ^ 32 := Nat.pow_le_pow_right (n := 2) (by decide) (by omega)
        refine ra_aload_n A d_Sr_readPart_85 rfl <| ra_getR A f_Sr_15 d_Sr_readPart_86 (Nat.le_of_ble_eq_true rfl) rfl rfl rfl <| ra_lconst A 1 d_Sr_readPart_89 (by decide) <| ra_bipush A 32 d_Sr_readPart_90 (by decide) <| ra_iload A d_Sr_readPart_92 rfl <| ra_isub A d_Sr_readPart_94 <| ?_
        rw [show (32 : Int32) - nI kk = nI (32 - kk) from pk_sub (a := 32) (by omega)]
        refine ra_lshl A d_Sr_readPart_95 <| ?_
        rw [show (1 : Int64) <<< ((nI (32 - kk)).toInt64 &&& 63) = lN (2 ^ (32 - kk)) by rw [show (1 : Int64) = lN 1 from rfl, wb_shl 1 (by omega), Nat.one_mul]]
        refine ra_bipush A 11 d_Sr_readPart_96 (by decide) <| ?_
        have hstp : ∀ e', (rb (rZ F L 11 (2 ^ (32 - kk)) 0 p') fun z p' => rb (rB F L kk p') fun b p'' => (.inr (unf (z * 2 ^ kk + b), p'') : Rr Int64)) = .inl e' → stp F L P false n kk a j row' p' = .inl e' := by
          intro e' q
          unfold stp rR
          rw [if_neg (by decide), q, rb_l]
        refine ra_callV (As := [_, _]) A ok_Rd_zeros l_Sr_33 im_Rd_zeros sl_Rd_zeros d_Sr_readPart_98 (Nat.le_of_ble_eq_true rfl) rfl rfl rfl (Nat.le_of_ble_eq_true rfl) (xr_of at0 (by decide)) (s_Rd_zeros hlx hR (by omega) rfl (fun z p3 g3 e3 f3 R3 hz => ?_) (fun e' g3 e3 E => xgT_out ow at0.2.2.2.2.2.2.2.2.2.2 (hY e' g3 (bad e' (hstp e' (by rw [e3, rb_l]))) (hs.er hk E))))
        show xg x (y0 u) 0 0 101 _ _ g3
        rw [e3] at hstp
        simp only [rb_r] at hstp
        refine ra_iload A d_Sr_readPart_101 rfl <| ra_lshl A d_Sr_readPart_103 <| ?_
        rw [wb_shl z (by omega)]
        refine ra_aload_n A d_Sr_readPart_104 rfl <| ra_getR A f_Sr_15 d_Sr_readPart_105 (Nat.le_of_ble_eq_true rfl) rfl rfl rfl <| ra_iload A d_Sr_readPart_108 rfl <| ?_
        refine ra_callV (As := [_]) A ok_Rd_bits l_Sr_19 im_Rd_bits sl_Rd_bits d_Sr_readPart_110 (Nat.le_of_ble_eq_true rfl) rfl rfl rfl (Nat.le_of_ble_eq_true rfl) (xr_of at0 (by decide)) (s_Rd_bits hlx (n := kk) R3 (by omega) rfl (fun b p4 g4 e4 f4 R4 hb => ?_) (fun e' g4 e4 E => xgT_out ow at0.2.2.2.2.2.2.2.2.2.2 (hY e' g4 (bad e' (hstp e' (by rw [e4, rb_l]))) (hs.er hk (f3.er E)))))
        show xg x (y0 u) 0 0 113 _ _ g4
        have hzk : z * 2 ^ kk + 2 ^ kk ≤ 2 ^ 32 := by
          have h1 : (z + 1) * 2 ^ kk ≤ 2 ^ (32 - kk) * 2 ^ kk := Nat.mul_le_mul_right _ hz
          rw [← Nat.pow_add, show 32 - kk + kk = 32 by omega, Nat.add_mul, Nat.one_mul] at h1
          exact h1
        have hb31 : 2 ^ kk ≤ 2 ^ 30 := Nat.pow_le_pow_right (n := 2) (by decide) hk30
        refine ra_i2l A d_Sr_readPart_113 <| ?_
        rw [nI_l (by omega)]
        refine ra_lor A d_Sr_readPart_114 <| ?_
        rw [wb_or (by omega) (by omega), show z * 2 ^ kk ||| b = z * 2 ^ kk + b by rw [Nat.mul_comm, ← Nat.two_pow_add_eq_or_of_lt hb]]
        refine ra_callS (As := [_]) A ok_Sr_unfold l_Sr_84 st_Sr_unfold d_Sr_readPart_115 rfl (Nat.le_of_ble_eq_true rfl) (xr_of at0 (by decide)) (s_Sr_unfold (KK0_ok u) (by omega) ?_)
        show xg x (y0 u) 0 0 118 _ _ g4
        exact at118 _ p4 g4 (by unfold rR; rw [if_neg (by decide), e3, rb_r, e4, rb_r]) (f3.trans f4) R4
      · refine ra_if_eq (q := 85) A d_Sr_readPart_69 (by decide) (fun cc => absurd cc ((by decide))) (fun _ => ?_)
        have hstp : ∀ e', rS F L n p' = .inl e' → stp F L P true n kk a j row' p' = .inl e' := by
          intro e' q
          unfold stp rR
          rw [if_pos rfl, q, rb_l, rb_l]
        refine ra_aload_n A d_Sr_readPart_72 rfl <| ra_getR A f_Sr_15 d_Sr_readPart_73 (Nat.le_of_ble_eq_true rfl) rfl rfl rfl <| ra_iload A d_Sr_readPart_76 rfl <| ?_
        refine ra_callV (As := [_]) A ok_Rd_signed l_Sr_47 im_Rd_signed sl_Rd_signed d_Sr_readPart_78 (Nat.le_of_ble_eq_true rfl) rfl rfl rfl (Nat.le_of_ble_eq_true rfl) (xr_of at0 (by decide)) (s_Rd_signed hlx (n := n) hR (by omega) rfl (fun v p3 g3 e3 f3 R3 => ?_) (fun e' g3 e3 E => xgT_out ow at0.2.2.2.2.2.2.2.2.2.2 (hY e' g3 (bad e' (hstp e' e3)) (hs.er hk E))))
        show xg x (y0 u) 0 0 81 _ _ g3
        refine ra_i2l A d_Sr_readPart_81 <| ra_goto (q := 118) A d_Sr_readPart_82 (by decide) <| ?_
        exact at118 _ p3 g3 (by unfold rR; rw [if_pos rfl, e3, rb_r]) f3 R3
    · rw [ek2]
      exact hrow r hr
  refine ra_istore (L' := [_, _, _, _, _, _, _, _, _, _, _, _, _, _]) A d_Sr_readPart_9 (by decide) rfl <| ra_iload A d_Sr_readPart_11 rfl <| ra_iconst A 1 d_Sr_readPart_13 (by decide) <| ra_iload A d_Sr_readPart_14 rfl <| ra_ishl A d_Sr_readPart_16 <| ?_
  rw [shl1 (by omega)]
  refine ra_iconst A 1 d_Sr_readPart_17 (by decide) <| ra_isub A d_Sr_readPart_18 <| ?_
  rw [show nI (2 ^ (4 + way)) - 1 = nI (2 ^ (4 + way) - 1) from pk_sub (b := 1) hpw0]
  by_cases ce : kk = 2 ^ (4 + way) - 1
  · rw [if_pos ce] at hq
    refine ra_icmp_ne (q := 26) A d_Sr_readPart_19 (by decide) (fun cc => absurd ((by rw [ce])) cc) (fun _ => ?_)
    refine ra_iconst A 1 d_Sr_readPart_22 (by decide) <| ra_goto (q := 27) A d_Sr_readPart_23 (by decide) <| ra_istore (L' := [_, _, _, _, _, _, _, _, _, _, _, _, _, _]) A d_Sr_readPart_27 (by decide) rfl <| ra_iload A d_Sr_readPart_29 rfl <| ?_
    refine ra_if_eq (q := 45) A d_Sr_readPart_31 (by decide) (fun cc => absurd cc ((by decide))) (fun _ => ?_)
    refine ra_aload_n A d_Sr_readPart_34 rfl <| ra_getR A f_Sr_15 d_Sr_readPart_35 (Nat.le_of_ble_eq_true rfl) rfl rfl rfl <| ra_iconst A 5 d_Sr_readPart_38 (by decide) <| ?_
    refine ra_callV (As := [_]) A ok_Rd_bits l_Sr_19 im_Rd_bits sl_Rd_bits d_Sr_readPart_39 (Nat.le_of_ble_eq_true rfl) rfl rfl rfl (Nat.le_of_ble_eq_true rfl) (xr_of at0 (by decide)) (s_Rd_bits hlx (n := 5) R1 (by decide) rfl (fun n p2 g2 e2 f2 R2 hn => ?_) (fun e g2 e2 E => xgT_out ow at0.2.2.2.2.2.2.2.2.2.2 (hY e g2 (by rw [← hq, e2, rb_l]) (f1.er E))))
    show xg x (y0 u) 0 0 42 _ _ g2
    rw [e2, rb_r] at hq
    refine ra_goto (q := 46) A d_Sr_readPart_42 (by decide) <| ?_
    exact at46 true n g2 p2 (by omega) (fun q => by cases q) ((f1.trans f2).sm k3) R2 ((f1.trans f2).1 k k3) hq
  · rw [if_neg ce] at hq
    refine ra_icmp_ne (q := 26) A d_Sr_readPart_19 (by decide) (fun _ => ?_) (fun cc => absurd cc (fun z => ce ((nI_eq (by omega) (by omega)).mp z)))
    refine ra_iconst A 0 d_Sr_readPart_26 (by decide) <| ra_istore (L' := [_, _, _, _, _, _, _, _, _, _, _, _, _, _]) A d_Sr_readPart_27 (by decide) rfl <| ra_iload A d_Sr_readPart_29 rfl <| ?_
    refine ra_if_eq (q := 45) A d_Sr_readPart_31 (by decide) (fun _ => ?_) (fun cc => absurd (rfl) cc)
    refine ra_iconst A 0 d_Sr_readPart_45 (by decide) <| ?_
    exact at46 false 0 g1 p1 (by decide) (fun _ => by omega) (f1.sm k3) R1 (f1.1 k k3) hq
end S95
