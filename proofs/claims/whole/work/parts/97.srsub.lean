/-! SoundStream$SubframeReader: read -/
section S97
variable {u : xu_T} {l : Launch} {KK : State → Prop} {h : xw_H} {X : xc_R → xw_H → Nat → Nat → Prop}
theorem s_Sr_read (hl : l.stackTraces = false) {F : Nat → Bool} {L p f size depth k : Nat} {Q : Rr (Nat → Int32)} (hk : isRow k) (R : RD h F L p) (hd1 : 2 ≤ depth) (hd2 : depth ≤ 25) (hf : f + size ≤ 1200) (hq : rSub F L size depth p = Q)
    (hX : ∀ row' p' h', Q = .inr (row', p') → S4 k f h h' → RD h' F L p' → (∀ r, r < size → h'.1 k (f + r) = row' r) → X (.inl none) h' 0 0) (hY : ∀ e h', Q = .inl e → ER h h' e → X (.inr ISE) h' 1 6) : xm_M l (y0 u) (KK0 u) m_Sr_read [.ref 134, .ref k, .int (nI f), .int (nI size), .int (nI depth)] h X := by
  refine xm_of [none, none, none, none] (by simp) (Nat.le_of_ble_eq_true rfl) (by decide) (fun x at0 => ?_)
  have A := xa_of at0 (KK0_ok u)
  have K := KK0_ok u
  have ow := at0.2.2.2.2.1
  have hlx : (xg_l x).stackTraces = false := by rw [at0.2.2.2.2.2.1]; exact hl
  obtain ⟨k1, k2, k3, k4, k5, k6, k7, k8⟩ := hk.lt
  unfold rSub at hq
  refine ra_aload_n A d_Sr_read_0 rfl <| ra_getR A f_Sr_15 d_Sr_read_1 (Nat.le_of_ble_eq_true rfl) rfl rfl rfl <| ra_bipush A 8 d_Sr_read_4 (by decide) <| ?_
  refine ra_callV (As := [_]) A ok_Rd_bits l_Sr_19 im_Rd_bits sl_Rd_bits d_Sr_read_6 (Nat.le_of_ble_eq_true rfl) rfl rfl rfl (Nat.le_of_ble_eq_true rfl) (xr_of at0 (by decide)) (s_Rd_bits hlx (n := 8) R (by decide) rfl (fun lead p1 g1 e1 f1 R1 hlead => ?_) (fun e g1 e1 E => xgT_out ow at0.2.2.2.2.2.2.2.2.2.2 (hY e g1 (by rw [← hq, e1, rb_l]) E)))
  show xg x (y0 u) 0 0 9 _ _ g1
  rw [e1, rb_r] at hq
  refine ra_istore (L' := [_, _, _, _, _, _, _, _, _]) A d_Sr_read_9 (by decide) rfl <| ra_iload A d_Sr_read_11 rfl <| ra_iconst A 1 d_Sr_read_13 (by decide) <| ra_ishr A d_Sr_read_14 <| ?_
  rw [pk_shrN (k := 1) (by omega) _ (by decide)]
  refine ra_bipush A 63 d_Sr_read_15 (by decide) <| ra_iand A d_Sr_read_17 <| ?_
  rw [pk_andN (k := 6) (by omega) (by decide), show lead / 2 ^ 1 % 2 ^ 6 = lead / 2 % 64 from rfl]
  have ht64 : lead / 2 % 64 < 64 := Nat.mod_lt _ (by decide)
  generalize ht : lead / 2 % 64 = t at hq ht64 ⊢
  refine ra_istore (L' := [_, _, _, _, _, _, _, _, _]) A d_Sr_read_18 (by decide) rfl <| ra_aload_n A d_Sr_read_20 rfl <| ra_getR A f_Sr_15 d_Sr_read_21 (Nat.le_of_ble_eq_true rfl) rfl rfl rfl <| ra_iload A d_Sr_read_24 rfl <| ra_sipush A 128 d_Sr_read_26 (by decide) <| ?_
  have no : ¬ (lead < 128 ∧ isT t = true) → xg x (y0 u) 0 0 44 [some (.ref 134), some (.ref k), some (.int (nI f)), some (.int (nI size)), some (.int (nI depth)), some (.int (nI lead)), some (.int (nI t)), none, none] [.ref 133] g1 := by
    intro c
    rw [if_neg c] at hq
    refine ra_iconst A 0 d_Sr_read_44 (by decide) <| ra_bipush A 9 d_Sr_read_45 (by decide) <| ?_
    refine ra_callV (As := [_, _]) A ok_Rd_demand l_Sr_29 im_Rd_demand sl_Rd_demand d_Sr_read_47 (Nat.le_of_ble_eq_true rfl) rfl rfl rfl (Nat.le_of_ble_eq_true rfl) (xr_of at0 (by decide)) (s_Rd_demand hlx (c := false) (e := 9) (fun q => by cases q) (fun _ => xgT_out ow at0.2.2.2.2.2.2.2.2.2.2 (hY 9 _ hq.symm (f1.er ER_I))))
  by_cases c1 : lead < 128
  · refine ra_icmp_ge (q := 44) A d_Sr_read_29 (by decide) (fun cc => absurd cc (nI_ge (b := 128) c1 (by decide))) (fun _ => ?_)
    refine ra_iload A d_Sr_read_32 rfl <| ?_
    refine ra_callS (As := [_]) A ok_Sr_isType l_Sr_25 st_Sr_isType d_Sr_read_34 rfl (Nat.le_of_ble_eq_true rfl) (xr_of at0 (by decide)) (s_Sr_isType K ht64 ?_)
    show xg x (y0 u) 0 0 37 _ _ g1
    cases c2 : isT t
    · refine ra_if_eq (q := 44) A d_Sr_read_37 (by decide) (fun _ => ?_) (fun cc => absurd (rfl) cc)
      exact no (fun z => by rw [c2] at z; exact absurd z.2 (by decide))
    · rw [if_pos ⟨c1, c2⟩] at hq
      refine ra_if_eq (q := 44) A d_Sr_read_37 (by decide) (fun cc => absurd cc ((by decide))) (fun _ => ?_)
      refine ra_iconst A 1 d_Sr_read_40 (by decide) <| ra_goto (q := 45) A d_Sr_read_41 (by decide) <| ra_bipush A 9 d_Sr_read_45 (by decide) <| ?_
      refine ra_callV (As := [_, _]) A ok_Rd_demand l_Sr_29 im_Rd_demand sl_Rd_demand d_Sr_read_47 (Nat.le_of_ble_eq_true rfl) rfl rfl rfl (Nat.le_of_ble_eq_true rfl) (xr_of at0 (by decide)) (s_Rd_demand hlx (c := true) (e := 9) (fun _ => ?_) (fun q => by cases q))
      show xg x (y0 u) 0 0 50 _ _ g1
      refine ra_iconst A 0 d_Sr_read_50 (by decide) <| ra_istore (L' := [_, _, _, _, _, _, _, _, _]) A d_Sr_read_51 (by decide) rfl <| ra_iload A d_Sr_read_53 rfl <| ra_iconst A 1 d_Sr_read_55 (by decide) <| ra_iand A d_Sr_read_56 <| ?_
      rw [pk_andN (k := 1) (by omega) (by decide), show lead % 2 ^ 1 = lead % 2 from rfl]
      refine ra_iconst A 1 d_Sr_read_57 (by decide) <| ?_
      have hT : t = 0 ∨ t = 1 ∨ 8 ≤ t := by
        unfold isT at c2
        simp at c2
        omega
      have at80 : ∀ w g2 p2 , w < depth → RM1 h g2 → RD g2 F L p2 → rSb F L t w size depth p2 = Q → xg x (y0 u) 0 0 80 [some (.ref 134), some (.ref k), some (.int (nI f)), some (.int (nI size)), some (.int (nI depth)), some (.int (nI lead)), some (.int (nI t)), some (.int (nI w)), none] [] g2 := by
        clear hq
        intro w g2 p2 hw f2 R2 hq
        have ho32 : oT t ≤ 32 := by
          unfold oT
          split
          · omega
          · split <;> omega
        unfold rSb at hq
        refine ra_aload_n A d_Sr_read_80 rfl <| ra_iload A d_Sr_read_81 rfl <| ra_iload A d_Sr_read_83 rfl <| ra_isub A d_Sr_read_85 <| ?_
        rw [pk_sub (Nat.le_of_lt hw)]
        refine ra_putI (ty := .int) A f_Sr_37 rfl rfl (by decide +kernel) rfl rfl d_Sr_read_86 (Nat.le_of_ble_eq_true rfl) rfl rfl <| ra_aload_n A d_Sr_read_89 rfl <| ra_iload A d_Sr_read_90 rfl <| ?_
        refine ra_callS (As := [_]) A ok_Sr_orderOf l_Sr_41 st_Sr_orderOf d_Sr_read_92 rfl (Nat.le_of_ble_eq_true rfl) (xr_of at0 (by decide)) (s_Sr_orderOf K ht64 ?_)
        show xg x (y0 u) 0 0 95 _ _ _
        refine ra_putI (ty := .int) A f_Sr_44 rfl rfl (by decide +kernel) rfl rfl d_Sr_read_95 (Nat.le_of_ble_eq_true rfl) rfl rfl <| ?_
        have fa : fr [133, 134, 135] h (xw_I (xw_I g2 134 4 (nI (depth - w))) 134 2 (nI (oT t))) := ((show fr [133, 134, 135] h g2 from fun a ha => ⟨f2.1 a (fun q => ha (by rw [q]; decide)), by rw [f2.2.2]⟩).I (by decide)).I (by decide)
        have pa : (xw_I (xw_I g2 134 4 (nI (depth - w))) 134 2 (nI (oT t))).1 133 3 = h.1 133 3 := by rw [xI_k (by decide), xI_k (by decide)]; exact f2.pl
        have Ra : RD (xw_I (xw_I g2 134 4 (nI (depth - w))) 134 2 (nI (oT t))) F L p2 := R2.of (by rw [xI_k (by decide), xI_k (by decide)]) (by rw [xI_k (by decide), xI_k (by decide)]) (by rw [xI_k (by decide), xI_k (by decide)]; exact R2.2.2.1) R2.2.2.2.1
        have a2 : (xw_I (xw_I g2 134 4 (nI (depth - w))) 134 2 (nI (oT t))).1 134 2 = nI (oT t) := xI_e
        have a4 : (xw_I (xw_I g2 134 4 (nI (depth - w))) 134 2 (nI (oT t))).1 134 4 = nI (depth - w) := by rw [xI_j (by decide), xI_e]
        generalize xw_I (xw_I g2 134 4 (nI (depth - w))) 134 2 (nI (oT t)) = ga at fa pa Ra a2 a4 ⊢
        have Sa : S4 k f h ga := S4_fr fa (by intro a ha; simp at ha; omega) pa hk
        refine ra_aload_n A d_Sr_read_98 rfl <| ra_getR A f_Sr_15 d_Sr_read_99 (Nat.le_of_ble_eq_true rfl) rfl rfl rfl <| ra_aload_n A d_Sr_read_102 rfl <| ra_getI A f_Sr_44 d_Sr_read_103 (Nat.le_of_ble_eq_true rfl) rfl rfl <| ?_
        rw [a2]
        refine ra_iload_n A d_Sr_read_106 rfl <| ?_
        by_cases co : oT t ≤ size
        · rw [if_pos co] at hq
          refine ra_icmp_gt (q := 114) A d_Sr_read_107 (by decide) (fun cc => absurd cc (Int32.not_lt.mpr (nI_le co (by omega)))) (fun _ => ?_)
          refine ra_iconst A 1 d_Sr_read_110 (by decide) <| ra_goto (q := 115) A d_Sr_read_111 (by decide) <| ra_bipush A 9 d_Sr_read_115 (by decide) <| ?_
          refine ra_callV (As := [_, _]) A ok_Rd_demand l_Sr_29 im_Rd_demand sl_Rd_demand d_Sr_read_117 (Nat.le_of_ble_eq_true rfl) rfl rfl rfl (Nat.le_of_ble_eq_true rfl) (xr_of at0 (by decide)) (s_Rd_demand hlx (c := true) (e := 9) (fun _ => ?_) (fun q => by cases q))
          show xg x (y0 u) 0 0 120 _ _ ga
          -- the end: the zeros come back
          have at206 : ∀ (g : xw_H) (p5 : Nat) (row : Nat → Int32), S4 k f h g → RD g F L p5 → (∀ r, r < size → g.1 k (f + r) = row r) → Q = .inr ((fun i => row i <<< (nI w &&& 31)), p5) → xg x (y0 u) 0 0 206 [some (.ref 134), some (.ref k), some (.int (nI f)), some (.int (nI size)), some (.int (nI depth)), some (.int (nI lead)), some (.int (nI t)), some (.int (nI w)), none] [] g := by
            intro g0 p5 row S5 R5 r5 hQ
            refine ra_iload_n A d_Sr_read_206 rfl <| ra_istore (L' := [_, _, _, _, _, _, _, _, _]) A d_Sr_read_207 (by decide) rfl <| ?_
            rw [show f = f + 0 from rfl]
            refine lp_up (σ := xw_H) (W := fun j g => xg x (y0 u) 0 0 209 [some (.ref 134), some (.ref k), some (.int (nI (f + 0))), some (.int (nI size)), some (.int (nI depth)), some (.int (nI lead)), some (.int (nI t)), some (.int (nI w)), some (.int (nI (f + j)))] [] g) (I := fun j g => S4 k f h g ∧ RD g F L p5 ∧ ∀ r, r < size → g.1 k (f + r) = if r < j then row r <<< (nI w &&& 31) else row r) size ?_ ?_ 0 g0 (Nat.zero_le _) ⟨S5, R5, fun r hr => by rw [if_neg (by omega)]; exact r5 r hr⟩
            · rintro g ⟨hS, hR, hr⟩
              refine ra_iload A d_Sr_read_209 rfl <| ra_iload_n A d_Sr_read_211 rfl <| ra_iload_n A d_Sr_read_212 rfl <| ra_iadd A d_Sr_read_213 <| ?_
              rw [nI_add]
              refine ra_icmp_ge (q := 232) A d_Sr_read_214 (by decide) (fun _ => ?_) (fun cc => absurd (Int32.le_refl _) cc)
              exact ra_vret A ow d_Sr_read_232 (hX _ p5 g hQ hS hR (fun r hr' => by rw [hr r hr', if_pos hr']))
            · rintro j g hj ⟨hS, hR, hr⟩ ih
              refine ra_iload A d_Sr_read_209 rfl <| ra_iload_n A d_Sr_read_211 rfl <| ra_iload_n A d_Sr_read_212 rfl <| ra_iadd A d_Sr_read_213 <| ?_
              rw [nI_add]
              refine ra_icmp_ge (q := 232) A d_Sr_read_214 (by decide) (fun cc => absurd cc (nI_ge (show f + j < f + 0 + size by omega) (by omega))) (fun _ => ?_)
              refine ra_aload_n A d_Sr_read_217 rfl <| ra_iload A d_Sr_read_218 rfl <| ra_dup2 A d_Sr_read_220 rfl rfl <| ?_
              refine ra_iaload A d_Sr_read_221 k1 k2 (vp_in_nI (by omega) (by decide)) ?_
              rw [nI_clamp (by omega), hr j hj, if_neg (by omega)]
              refine ra_iload A d_Sr_read_222 rfl <| ra_ishl A d_Sr_read_224 <| ?_
              refine ra_iastore A d_Sr_read_225 k1 k2 (vp_in_nI (by omega) (by decide)) ?_
              rw [nI_clamp (by omega)]
              refine ra_iinc (L' := [_, _, _, _, _, _, _, _, _]) A 1 d_Sr_read_226 rfl (by decide) (by decide) rfl <| ra_goto (q := 209) A d_Sr_read_229 (by decide) <| ?_
              rw [nI_1]
              refine ih _ ⟨hS.trans (SM_I k3 (by omega)).s4, SM.RD (h' := g) (f := f) hR hk, fun r hr' => ?_⟩
              by_cases c : r = j
              · subst c; rw [xI_e, if_pos (by omega)]
              · rw [xI_j (by omega), hr r hr']
                by_cases c9 : r < j
                · rw [if_pos c9, if_pos (by omega)]
                · rw [if_neg c9, if_neg (by omega)]
          -- behind the plain samples
          have at167 : ∀ (g3 : xw_H) (p3 : Nat) (row : Nat → Int32), SM k f ga g3 → RD g3 F L p3 → (∀ r, r < (if t < 8 then size else oT t) → g3.1 k (f + r) = row r) → (rb (if 32 ≤ t then rF F L (oT t) p3 else .inr ((0, fxf (oT t)), p3)) fun f p2 => rb (if 8 ≤ t then rRs F L (oT t, depth - w, f.1, f.2) size row p2 else .inr (row, p2)) fun row p3 => (.inr ((fun i => row i <<< (nI w &&& 31)), p3) : Rr (Nat → Int32))) = Q → xg x (y0 u) 0 0 167 [some (.ref 134), some (.ref k), some (.int (nI f)), some (.int (nI size)), some (.int (nI depth)), some (.int (nI lead)), some (.int (nI t)), some (.int (nI w)), none] [] g3 := by
            clear hq
            intro g3 p3 row s3 R3 r3 hq
            have S3 := Sa.trans s3.s4
            have e134 : g3.1 134 = ga.1 134 := fr1 s3.1 (by simp; omega)
            -- the rests
            have at192 : 8 ≤ t → ∀ (g4 : xw_H) (p4 sh : Nat) (fac : Nat → Int32), S4 k f h g4 → RD g4 F L p4 → PF g4 (oT t, depth - w, sh, fac) → (∀ r, r < oT t → g4.1 k (f + r) = row r) → (rb (rRs F L (oT t, depth - w, sh, fac) size row p4) fun row p3 => (.inr ((fun i => row i <<< (nI w &&& 31)), p3) : Rr (Nat → Int32))) = Q → xg x (y0 u) 0 0 192 [some (.ref 134), some (.ref k), some (.int (nI f)), some (.int (nI size)), some (.int (nI depth)), some (.int (nI lead)), some (.int (nI t)), some (.int (nI w)), none] [] g4 := by
              clear hq
              intro h8 g4 p4 sh fac S4' R4 P4 r4 hq
              refine ra_iload A d_Sr_read_192 rfl <| ra_bipush A 8 d_Sr_read_194 (by decide) <| ?_
              refine ra_icmp_lt (q := 206) A d_Sr_read_196 (by decide) (fun cc => absurd cc (fun z => absurd ((nI_ltI (b := 8) (by omega) (by decide)).mp z) (by omega))) (fun _ => ?_)
              refine ra_aload_n A d_Sr_read_199 rfl <| ra_aload_n A d_Sr_read_200 rfl <| ra_iload_n A d_Sr_read_201 rfl <| ra_iload_n A d_Sr_read_202 rfl <| ?_
              refine ra_callV (As := [_, _, _]) A ok_Sr_readRests l_Sr_66 im_Sr_readRests sl_Sr_readRests d_Sr_read_203 (Nat.le_of_ble_eq_true rfl) rfl rfl rfl (Nat.le_of_ble_eq_true rfl) (xr_of at0 (by decide)) (s_Sr_readRests hlx hk R4 P4 ho32 (show 1 ≤ depth - w by omega) (show depth - w ≤ 25 by omega) hf r4 rfl (fun row5 p5 g5 e5 s5 R5 r5 => ?_) (fun e' g5 e5 E => xgT_out ow at0.2.2.2.2.2.2.2.2.2.2 (hY e' g5 (by rw [← hq, e5, rb_l]) (S4'.er hk E))))
              show xg x (y0 u) 0 0 206 _ _ g5
              rw [e5, rb_r] at hq
              exact at206 g5 p5 row5 (S4'.trans s5.s4) R5 r5 hq.symm
            refine ra_iload A d_Sr_read_167 rfl <| ra_bipush A 32 d_Sr_read_169 (by decide) <| ?_
            by_cases c32 : 32 ≤ t
            · rw [if_pos c32] at hq
              rw [if_neg (by omega)] at r3
              refine ra_icmp_lt (q := 181) A d_Sr_read_171 (by decide) (fun cc => absurd cc (fun z => absurd ((nI_ltI (b := 32) (by omega) (by decide)).mp z) (by omega))) (fun _ => ?_)
              refine ra_aload_n A d_Sr_read_174 rfl <| ?_
              refine ra_callV (As := []) A ok_Sr_readFactors l_Sr_60 im_Sr_readFactors sl_Sr_readFactors d_Sr_read_175 (Nat.le_of_ble_eq_true rfl) rfl rfl rfl (Nat.le_of_ble_eq_true rfl) (xr_of at0 (by decide)) (s_Sr_readFactors hlx R3 ho32 (by rw [e134]; exact a2) rfl (fun sh fac p4 g4 e4 f4 pl4 R4 o4 w4 s4 hs16 fac4 => ?_) (fun e' g4 e4 E => xgT_out ow at0.2.2.2.2.2.2.2.2.2.2 (hY e' g4 (by rw [← hq, e4, rb_l]) (S3.er hk E))))
              show xg x (y0 u) 0 0 178 _ _ g4
              rw [e4, rb_r] at hq
              simp only [if_pos (show 8 ≤ t by omega)] at hq
              refine ra_goto (q := 192) A d_Sr_read_178 (by decide) <| ?_
              refine at192 (by omega) g4 p4 sh fac (S3.trans (S4_fr f4 (by intro a ha; simp at ha; omega) pl4 hk)) R4 ⟨o4, by rw [w4, e134]; exact a4, s4, fac4⟩ (fun r hr => ?_) hq
              rw [fr1 f4 (by simp; omega)]
              exact r3 r hr
            · rw [if_neg c32, rb_r] at hq
              refine ra_icmp_lt (q := 181) A d_Sr_read_171 (by decide) (fun _ => ?_) (fun cc => absurd (nI_lt (b := 32) (by omega) (by decide)) cc)
              refine ra_iload A d_Sr_read_181 rfl <| ra_bipush A 8 d_Sr_read_183 (by decide) <| ?_
              by_cases c8 : 8 ≤ t
              · simp only [if_pos c8] at hq
                rw [if_neg (by omega)] at r3
                refine ra_icmp_lt (q := 192) A d_Sr_read_185 (by decide) (fun cc => absurd cc (fun z => absurd ((nI_ltI (b := 8) (by omega) (by decide)).mp z) (by omega))) (fun _ => ?_)
                refine ra_aload_n A d_Sr_read_188 rfl <| ?_
                have ho4 : oT t ≤ 4 := by
                  unfold isT at c2
                  simp at c2
                  unfold oT
                  rw [if_neg c32, if_pos c8]
                  omega
                refine ra_callV (As := []) A ok_Sr_useFixedFactors l_Sr_63 im_Sr_useFixedFactors sl_Sr_useFixedFactors d_Sr_read_189 (Nat.le_of_ble_eq_true rfl) rfl rfl rfl (Nat.le_of_ble_eq_true rfl) (xr_of at0 (by decide)) (s_Sr_useFixedFactors ho4 (by rw [e134]; exact a2) (fun g4 f4 o4 w4 s4 fac4 => ?_))
                show xg x (y0 u) 0 0 192 _ _ g4
                have pl4 : g4.1 133 3 = g3.1 133 3 := by rw [fr1 f4 (by decide)]
                refine at192 c8 g4 p3 0 (fxf (oT t)) (S3.trans (S4_fr f4 (by intro a ha; simp at ha; omega) pl4 hk)) (R3.fr f4 (by decide) (by decide) (by decide)) ⟨o4, by rw [w4, e134]; exact a4, s4, fac4⟩ (fun r hr => ?_) hq
                rw [fr1 f4 (by simp; omega)]
                exact r3 r hr
              · simp only [if_neg c8, rb_r] at hq
                rw [if_pos (by omega)] at r3
                refine ra_icmp_lt (q := 192) A d_Sr_read_185 (by decide) (fun _ => ?_) (fun cc => absurd (nI_lt (b := 8) (by omega) (by decide)) cc)
                refine ra_iload A d_Sr_read_192 rfl <| ra_bipush A 8 d_Sr_read_194 (by decide) <| ?_
                refine ra_icmp_lt (q := 206) A d_Sr_read_196 (by decide) (fun _ => ?_) (fun cc => absurd (nI_lt (b := 8) (by omega) (by decide)) cc)
                exact at206 g3 p3 row S3 R3 r3 hq.symm
          refine ra_iload A d_Sr_read_120 rfl <| ?_
          by_cases c0 : t = 0
          · rw [if_pos c0] at hq
            refine ra_if_ne (q := 147) A d_Sr_read_122 (by decide) (fun cc => absurd ((by rw [c0]; rfl)) cc) (fun _ => ?_)
            refine ra_aload_n A d_Sr_read_125 rfl <| ra_iload_n A d_Sr_read_126 rfl <| ra_iload_n A d_Sr_read_127 rfl <| ra_iload_n A d_Sr_read_128 rfl <| ra_iadd A d_Sr_read_129 <| ?_
            rw [nI_add]
            refine ra_aload_n A d_Sr_read_130 rfl <| ra_getR A f_Sr_15 d_Sr_read_131 (Nat.le_of_ble_eq_true rfl) rfl rfl rfl <| ra_aload_n A d_Sr_read_134 rfl <| ra_getI A f_Sr_37 d_Sr_read_135 (Nat.le_of_ble_eq_true rfl) rfl rfl <| ?_
            rw [a4]
            refine ra_callV (As := [_]) A ok_Rd_signed l_Sr_47 im_Rd_signed sl_Rd_signed d_Sr_read_138 (Nat.le_of_ble_eq_true rfl) rfl rfl rfl (Nat.le_of_ble_eq_true rfl) (xr_of at0 (by decide)) (s_Rd_signed hlx (n := depth - w) Ra (by omega) rfl (fun v p3 g3 e3 f3 R3 => ?_) (fun e' g3 e3 E => xgT_out ow at0.2.2.2.2.2.2.2.2.2.2 (hY e' g3 (by rw [← hq, e3, rb_l, rb_l]) (Sa.er hk E))))
            show xg x (y0 u) 0 0 141 _ _ g3
            rw [e3, rb_r, rb_r] at hq
            refine ra_callS (As := [_, _, _, _]) A ok_Jfillr l_Sr_50 st_Jfillr d_Sr_read_141 rfl (Nat.le_of_ble_eq_true rfl) (xr_of at0 (by decide)) (s_Jfillr K (k := k) (len := 1200) (a := f) (b := f + size) k1 k2 (by decide) (by omega) hf ?_)
            show xg x (y0 u) 0 0 144 _ _ _
            refine ra_goto (q := 167) A d_Sr_read_144 (by decide) <| ?_
            refine at167 _ p3 (fun _ => v) ((f3.sm k3).trans ⟨fr_s1 (by simp), by rw [xs1_k (fun q => k3 q.symm)], fun i hi => by rw [xs1_e, if_neg (by omega)]⟩) (R3.of (xs1_k (fun q => k6 q.symm)) (xs1_k (fun q => k7 q.symm)) (by rw [xs1_k (fun q => k3 q.symm)]; exact R3.2.2.1) R3.2.2.2.1) (fun r hr => ?_) hq
            rw [if_pos (by omega)] at hr
            rw [xs1_e, if_pos (by omega)]
          · rw [if_neg c0] at hq
            refine ra_if_ne (q := 147) A d_Sr_read_122 (by decide) (fun _ => ?_) (fun cc => absurd cc (nI_ne0 (by omega) (by omega)))
            refine ra_aload_n A d_Sr_read_147 rfl <| ra_aload_n A d_Sr_read_148 rfl <| ra_iload_n A d_Sr_read_149 rfl <| ra_iload A d_Sr_read_150 rfl <| ra_iconst A 1 d_Sr_read_152 (by decide) <| ?_
            have at164 : ∀ n, n = (if t = 1 then size else oT t) → xg x (y0 u) 0 0 164 [some (.ref 134), some (.ref k), some (.int (nI f)), some (.int (nI size)), some (.int (nI depth)), some (.int (nI lead)), some (.int (nI t)), some (.int (nI w)), none] [.int (nI n), .int (nI f), .ref k, .ref 134] ga := by
              intro n hn
              rw [← hn] at hq
              have hns : n ≤ size := by rw [hn]; split <;> omega
              refine ra_callV (As := [_, _, _]) A ok_Sr_readPlain l_Sr_56 im_Sr_readPlain sl_Sr_readPlain d_Sr_read_164 (Nat.le_of_ble_eq_true rfl) rfl rfl rfl (Nat.le_of_ble_eq_true rfl) (xr_of at0 (by decide)) (s_Sr_readPlain hlx hk Ra a4 (by omega) (by omega) rfl (fun row p3 g3 e3 s3 R3 r3 => ?_) (fun e' g3 e3 E => xgT_out ow at0.2.2.2.2.2.2.2.2.2.2 (hY e' g3 (by rw [← hq, e3, rb_l]) (Sa.er hk E))))
              show xg x (y0 u) 0 0 167 _ _ g3
              rw [e3, rb_r] at hq
              refine at167 g3 p3 row s3 R3 (fun r hr => r3 r ?_) hq
              rw [hn]
              by_cases c8 : t < 8
              · rw [if_pos c8] at hr
                rw [if_pos (by omega)]
                exact hr
              · rw [if_neg c8] at hr
                rw [if_neg (by omega)]
                exact hr
            by_cases ct : t = 1
            · refine ra_icmp_ne (q := 160) A d_Sr_read_153 (by decide) (fun cc => absurd ((by rw [ct]; rfl)) cc) (fun _ => ?_)
              refine ra_iload_n A d_Sr_read_156 rfl <| ra_goto (q := 164) A d_Sr_read_157 (by decide) <| ?_
              exact at164 size (by rw [if_pos ct])
            · refine ra_icmp_ne (q := 160) A d_Sr_read_153 (by decide) (fun _ => ?_) (fun cc => absurd cc (fun z => ct ((nI_eq (b := 1) (by omega) (by decide)).mp z)))
              refine ra_aload_n A d_Sr_read_160 rfl <| ra_getI A f_Sr_44 d_Sr_read_161 (Nat.le_of_ble_eq_true rfl) rfl rfl <| ?_
              rw [a2]
              exact at164 (oT t) (by rw [if_neg ct])
        · rw [if_neg co] at hq
          refine ra_icmp_gt (q := 114) A d_Sr_read_107 (by decide) (fun _ => ?_) (fun cc => absurd (nI_lt (by omega) (by omega)) cc)
          refine ra_iconst A 0 d_Sr_read_114 (by decide) <| ra_bipush A 9 d_Sr_read_115 (by decide) <| ?_
          refine ra_callV (As := [_, _]) A ok_Rd_demand l_Sr_29 im_Rd_demand sl_Rd_demand d_Sr_read_117 (Nat.le_of_ble_eq_true rfl) rfl rfl rfl (Nat.le_of_ble_eq_true rfl) (xr_of at0 (by decide)) (s_Rd_demand hlx (c := false) (e := 9) (fun q => by cases q) (fun _ => xgT_out ow at0.2.2.2.2.2.2.2.2.2.2 (hY 9 _ hq.symm (Sa.er hk ER_I))))
      by_cases c3 : lead % 2 = 1
      · rw [if_pos c3] at hq
        refine ra_icmp_ne (q := 80) A d_Sr_read_58 (by decide) (fun cc => absurd ((by rw [c3]; rfl)) cc) (fun _ => ?_)
        refine ra_iconst A 1 d_Sr_read_61 (by decide) <| ra_aload_n A d_Sr_read_62 rfl <| ra_getR A f_Sr_15 d_Sr_read_63 (Nat.le_of_ble_eq_true rfl) rfl rfl rfl <| ra_iload A d_Sr_read_66 rfl <| ra_iconst A 1 d_Sr_read_68 (by decide) <| ra_isub A d_Sr_read_69 <| ?_
        rw [show nI depth - 1 = nI (depth - 1) from pk_sub (b := 1) (by omega)]
        refine ra_i2l A d_Sr_read_70 <| ?_
        rw [nI_l (by omega)]
        refine ra_bipush A 9 d_Sr_read_71 (by decide) <| ?_
        refine ra_callV (As := [_, _]) A ok_Rd_zeros l_Sr_33 im_Rd_zeros sl_Rd_zeros d_Sr_read_73 (Nat.le_of_ble_eq_true rfl) rfl rfl rfl (Nat.le_of_ble_eq_true rfl) (xr_of at0 (by decide)) (s_Rd_zeros hlx (m := depth - 1) (e := 9) R1 (by omega) rfl (fun z p2 g2 e2 f2 R2 hz => ?_) (fun e' g2 e2 E => xgT_out ow at0.2.2.2.2.2.2.2.2.2.2 (hY e' g2 (by rw [← hq, e2, rb_l, rb_l]) (f1.er E))))
        show xg x (y0 u) 0 0 76 _ _ g2
        rw [e2, rb_r, rb_r] at hq
        refine ra_l2i A d_Sr_read_76 <| ?_
        rw [lN_i]
        refine ra_iadd A d_Sr_read_77 <| ?_
        rw [show (1 : Int32) + nI z = nI (1 + z) from nI_add 1 z]
        refine ra_istore (L' := [_, _, _, _, _, _, _, _, _]) A d_Sr_read_78 (by decide) rfl <| ?_
        exact at80 (1 + z) g2 p2 (by omega) (f1.trans f2) R2 hq
      · rw [if_neg c3, rb_r] at hq
        refine ra_icmp_ne (q := 80) A d_Sr_read_58 (by decide) (fun _ => ?_) (fun cc => absurd cc (fun z => c3 ((nI_eq (b := 1) (by omega) (by decide)).mp z)))
        exact at80 0 g1 p1 (by omega) f1 R1 hq
  · refine ra_icmp_ge (q := 44) A d_Sr_read_29 (by decide) (fun _ => ?_) (fun cc => absurd (nI_le (a := 128) (by omega) (by omega)) cc)
    exact no (fun z => c1 z.1)
end S97
