/-! SoundStream$SubframeReader: readFactors, readPart, readRests -/
theorem sx_lt {n v : Nat} (hn : 1 ≤ n) (hn2 : n ≤ 31) (hv : v < 2 ^ n) : (sx n v).toInt = if 2 ^ (n - 1) ≤ v then (v : Int) - 2 ^ n else v := by
  have hp : (2 : Nat) ^ n = 2 * 2 ^ (n - 1) := by rw [← Nat.pow_succ']; congr 1; omega
  have h32 : (2 : Nat) ^ n * 2 ^ (32 - n) = 2 ^ 32 := by rw [← Nat.pow_add]; congr 1; omega
  have hlt : v * 2 ^ (32 - n) < 2 ^ 32 := by rw [← h32]; exact Nat.mul_lt_mul_of_pos_right hv (Nat.two_pow_pos _)
  unfold sx
  rw [if_neg (by omega), pk_shlN _ (32 - n) (s_l _ (by omega)) hlt, ishr_toInt _ _ (32 - n) (s_l _ (by omega)), Int.shiftRight_eq_div_pow]
  have hti : (nI (v * 2 ^ (32 - n))).toInt = if 2 * (v * 2 ^ (32 - n)) < 2 ^ 32 then ((v * 2 ^ (32 - n) : Nat) : Int) else ((v * 2 ^ (32 - n) : Nat) : Int) - 2 ^ 32 := by
    have e := BitVec.toInt_eq_toNat_cond (nI (v * 2 ^ (32 - n))).toBitVec
    rw [pk_tn hlt] at e
    exact e
  have h31 : (2 : Nat) ^ (n - 1) * 2 ^ (32 - n) = 2 ^ 31 := by rw [← Nat.pow_add]; congr 1; omega
  have hpos : 0 < 2 ^ (32 - n) := Nat.two_pow_pos _
  have hposi : ((2 ^ (32 - n) : Nat) : Int) ≠ 0 := by omega
  rw [hti]
  by_cases c : 2 ^ (n - 1) ≤ v
  · have : 2 ^ (n - 1) * 2 ^ (32 - n) ≤ v * 2 ^ (32 - n) := Nat.mul_le_mul_right _ c
    rw [if_neg (by omega), if_pos c]
    have e : ((v * 2 ^ (32 - n) : Nat) : Int) - 2 ^ 32 = ((v : Int) - 2 ^ n) * ((2 ^ (32 - n) : Nat) : Int) := by
      have : ((2 : Int) ^ 32) = (2 : Int) ^ n * ((2 ^ (32 - n) : Nat) : Int) := by exact_mod_cast h32.symm
      rw [this, Int.sub_mul]
      push_cast
      rfl
    rw [e, Int.mul_ediv_cancel _ hposi]
  · have : v * 2 ^ (32 - n) < 2 ^ (n - 1) * 2 ^ (32 - n) := Nat.mul_lt_mul_of_pos_right (by omega) hpos
    rw [if_pos (by omega), if_neg c]
    rw [show ((v * 2 ^ (32 - n) : Nat) : Int) = (v : Int) * ((2 ^ (32 - n) : Nat) : Int) by push_cast; rfl, Int.mul_ediv_cancel _ hposi]
section S94
variable {u : xu_T} {l : Launch} {KK : State → Prop} {h : xw_H} {X : xc_R → xw_H → Nat → Nat → Prop}
theorem s_Sr_readFactors (hl : l.stackTraces = false) {F : Nat → Bool} {L p o : Nat} {Q : Rr (Nat × (Nat → Int32))} (R : RD h F L p) (ho : o ≤ 32) (eo : h.1 134 2 = nI o) (hq : rF F L o p = Q)
    (hX : ∀ s fac p' h', Q = .inr ((s, fac), p') → fr [133, 134, 135] h h' → h'.1 133 3 = h.1 133 3 → RD h' F L p' → h'.1 134 2 = nI o → h'.1 134 4 = h.1 134 4 → h'.1 134 3 = nI s → s < 16 → (∀ j, j < o → h'.1 135 j = fac j) → X (.inl none) h' 0 0) (hY : ∀ e h', Q = .inl e → ER h h' e → X (.inr ISE) h' 1 6) : xm_M l (y0 u) (KK0 u) m_Sr_readFactors [.ref 134] h X := by
  refine xm_of [none, none] (by simp) (Nat.le_of_ble_eq_true rfl) (by decide) (fun x at0 => ?_)
  have A := xa_of at0 (KK0_ok u)
  have ow := at0.2.2.2.2.1
  have hlx : (xg_l x).stackTraces = false := by rw [at0.2.2.2.2.2.1]; exact hl
  unfold rF at hq
  refine ra_aload_n A d_Sr_readFactors_0 rfl <| ra_getR A f_Sr_15 d_Sr_readFactors_1 (Nat.le_of_ble_eq_true rfl) rfl rfl rfl <| ra_iconst A 4 d_Sr_readFactors_4 (by decide) <| ?_
  refine ra_callV (As := [_]) A ok_Rd_bits l_Sr_19 im_Rd_bits sl_Rd_bits d_Sr_readFactors_5 (Nat.le_of_ble_eq_true rfl) rfl rfl rfl (Nat.le_of_ble_eq_true rfl) (xr_of at0 (by decide)) (s_Rd_bits hlx (n := 4) R (by decide) rfl (fun v p1 g1 e1 f1 R1 hv => ?_) (fun e g1 e1 E => xgT_out ow at0.2.2.2.2.2.2.2.2.2.2 (hY e g1 (by rw [← hq, e1, rb_l]) E)))
  show xg x (y0 u) 0 0 8 _ _ g1
  rw [e1, rb_r] at hq
  refine ra_iconst A 1 d_Sr_readFactors_8 (by decide) <| ra_iadd A d_Sr_readFactors_9 <| ?_
  rw [nI_1]
  refine ra_istore_n (L' := [_, _, _]) A d_Sr_readFactors_10 (by decide) rfl <| ra_aload_n A d_Sr_readFactors_11 rfl <| ra_getR A f_Sr_15 d_Sr_readFactors_12 (Nat.le_of_ble_eq_true rfl) rfl rfl rfl <| ra_iload_n A d_Sr_readFactors_15 rfl <| ra_bipush A 16 d_Sr_readFactors_16 (by decide) <| ?_
  by_cases c : v + 1 < 16
  · rw [if_pos c] at hq
    refine ra_icmp_ge (q := 25) A d_Sr_readFactors_18 (by decide) (fun cc => absurd cc (nI_ge (b := 16) c (by decide))) (fun _ => ?_)
    refine ra_iconst A 1 d_Sr_readFactors_21 (by decide) <| ra_goto (q := 26) A d_Sr_readFactors_22 (by decide) <| ra_bipush A 10 d_Sr_readFactors_26 (by decide) <| ?_
    refine ra_callV (As := [_, _]) A ok_Rd_demand l_Sr_29 im_Rd_demand sl_Rd_demand d_Sr_readFactors_28 (Nat.le_of_ble_eq_true rfl) rfl rfl rfl (Nat.le_of_ble_eq_true rfl) (xr_of at0 (by decide)) (s_Rd_demand hlx (c := true) (e := 10) (fun _ => ?_) (fun q => by cases q))
    show xg x (y0 u) 0 0 31 _ _ g1
    refine ra_aload_n A d_Sr_readFactors_31 rfl <| ra_aload_n A d_Sr_readFactors_32 rfl <| ra_getR A f_Sr_15 d_Sr_readFactors_33 (Nat.le_of_ble_eq_true rfl) rfl rfl rfl <| ra_iconst A 5 d_Sr_readFactors_36 (by decide) <| ?_
    refine ra_callV (As := [_]) A ok_Rd_signed l_Sr_47 im_Rd_signed sl_Rd_signed d_Sr_readFactors_37 (Nat.le_of_ble_eq_true rfl) rfl rfl rfl (Nat.le_of_ble_eq_true rfl) (xr_of at0 (by decide)) (s_Rd_signed hlx (n := 5) R1 (by decide) rfl (fun s p2 g2 e2 f2 R2 => ?_) (fun e g2 e2 E => xgT_out ow at0.2.2.2.2.2.2.2.2.2.2 (hY e g2 (by rw [← hq, e2, rb_l]) (f1.er E))))
    show xg x (y0 u) 0 0 40 _ _ g2
    have hs5 := e2
    rw [e2, rb_r] at hq
    have f12 := f1.trans f2
    have fa : fr [133, 134, 135] h (xw_I g2 134 3 s) := (show fr [133, 134, 135] h g2 from fun a ha => ⟨f12.1 a (fun q => ha (by rw [q]; decide)), by rw [f12.2.2]⟩).I (by decide)
    have pa : (xw_I g2 134 3 s).1 133 3 = h.1 133 3 := by rw [xI_k (by decide)]; exact f12.pl
    have Ra : RD (xw_I g2 134 3 s) F L p2 := R2.of (xI_k (by decide)) (xI_k (by decide)) (by rw [xI_k (by decide)]; exact R2.2.2.1) R2.2.2.2.1
    have o2 : (xw_I g2 134 3 s).1 134 2 = nI o := by rw [xI_j (by decide), f12.1 134 (by decide)]; exact eo
    have o4 : (xw_I g2 134 3 s).1 134 4 = h.1 134 4 := by rw [xI_j (by decide), f12.1 134 (by decide)]
    have o3 : (xw_I g2 134 3 s).1 134 3 = s := xI_e
    have toDL : ∀ {g : xw_H}, fr [133, 134, 135] h g → FD h g := fun f => FD.of f (by decide) (by decide)
    refine ra_putI (ty := .int) A f_Sr_69 rfl rfl (by decide +kernel) rfl rfl d_Sr_readFactors_40 (Nat.le_of_ble_eq_true rfl) rfl rfl <| ra_aload_n A d_Sr_readFactors_43 rfl <| ra_getR A f_Sr_15 d_Sr_readFactors_44 (Nat.le_of_ble_eq_true rfl) rfl rfl rfl <| ra_aload_n A d_Sr_readFactors_47 rfl <| ra_getI A f_Sr_69 d_Sr_readFactors_48 (Nat.le_of_ble_eq_true rfl) rfl rfl <| ?_
    rw [xI_e]
    generalize xw_I g2 134 3 s = ga at fa pa Ra o2 o4 o3 ⊢
    by_cases cs : (0 : Int32) ≤ s
    · rw [if_pos cs] at hq
      have hs16 : s = nI s.toNatClampNeg ∧ s.toNatClampNeg < 16 := by
        unfold rS at hs5
        unfold rB at hs5
        split at hs5
        · rw [rb_r] at hs5
          have e := congrArg (fun q => match q with | Sum.inr (a, _) => a | _ => 0) hs5
          dsimp only at e
          have hb := bv_lt (F := F) (p := p1) 5
          have ht := sx_lt (n := 5) (by decide) (by decide) hb
          rw [e] at ht
          have h0 : 0 ≤ s.toInt := by simpa using Int32.le_iff_toInt_le.mp cs
          have hlt : s.toInt < 16 := by
            rw [ht]
            split
            · omega
            · rename_i q; simp at q; omega
          have hc : (s.toNatClampNeg : Int) = s.toInt := by
            show ((s.toInt.toNat : Nat) : Int) = _
            omega
          refine ⟨?_, by omega⟩
          apply i_of_toInt
          rw [nI_toInt (by omega), hc]
        · cases hs5
      refine ra_if_lt (q := 58) A d_Sr_readFactors_51 (by decide) (fun cc => absurd cc (Int32.not_lt.mpr cs)) (fun _ => ?_)
      refine ra_iconst A 1 d_Sr_readFactors_54 (by decide) <| ra_goto (q := 59) A d_Sr_readFactors_55 (by decide) <| ra_bipush A 10 d_Sr_readFactors_59 (by decide) <| ?_
      refine ra_callV (As := [_, _]) A ok_Rd_demand l_Sr_29 im_Rd_demand sl_Rd_demand d_Sr_readFactors_61 (Nat.le_of_ble_eq_true rfl) rfl rfl rfl (Nat.le_of_ble_eq_true rfl) (xr_of at0 (by decide)) (s_Rd_demand hlx (c := true) (e := 10) (fun _ => ?_) (fun q => by cases q))
      show xg x (y0 u) 0 0 64 _ _ ga
      generalize hst : (fun (j : Nat) (f : Nat → Int32) (p : Nat) => rb (rS F L (v + 1) p) fun c p' => (Sum.inr (upd f j c, p') : Rr (Nat → Int32))) = step at hq
      refine ra_iconst A 0 d_Sr_readFactors_64 (by decide) <| ra_istore_n (L' := [_, _, _]) A d_Sr_readFactors_65 (by decide) rfl <| ?_
      refine lp_up (σ := xw_H) (W := fun j g => xg x (y0 u) 0 0 66 [some (.ref 134), some (.int (nI (v + 1))), some (.int (nI j))] [] g) (I := fun j g => ∃ fac p', rL step (fun _ => 0) p2 j = .inr (fac, p') ∧ fr [133, 134, 135] h g ∧ g.1 133 3 = h.1 133 3 ∧ RD g F L p' ∧ g.1 134 = ga.1 134 ∧ ∀ r, r < j → g.1 135 r = fac r) o ?_ ?_ 0 ga (Nat.zero_le _) ⟨_, _, rfl, fa, pa, Ra, rfl, fun r hr => by omega⟩
      · rintro g ⟨fac, p', e, hf, hp, hR, h134, hr⟩
        refine ra_iload_n A d_Sr_readFactors_66 rfl <| ra_aload_n A d_Sr_readFactors_67 rfl <| ra_getI A f_Sr_44 d_Sr_readFactors_68 (Nat.le_of_ble_eq_true rfl) rfl rfl <| ?_
        rw [h134, o2]
        refine ra_icmp_ge (q := 94) A d_Sr_readFactors_71 (by decide) (fun _ => ?_) (fun cc => absurd (Int32.le_refl _) cc)
        rw [e, rb_r] at hq
        exact ra_vret A ow d_Sr_readFactors_94 (hX _ fac p' g hq.symm hf hp hR (by rw [h134]; exact o2) (by rw [h134]; exact o4) (by rw [h134, o3]; exact hs16.1) hs16.2 hr)
      · rintro j g hj ⟨fac, p', e, hf, hp, hR, h134, hr⟩ ih
        have e2 := rL_s e
        rw [show step j fac p' = rb (rS F L (v + 1) p') fun c p' => (Sum.inr (upd fac j c, p') : Rr (Nat → Int32)) by rw [← hst]] at e2
        refine ra_iload_n A d_Sr_readFactors_66 rfl <| ra_aload_n A d_Sr_readFactors_67 rfl <| ra_getI A f_Sr_44 d_Sr_readFactors_68 (Nat.le_of_ble_eq_true rfl) rfl rfl <| ?_
        rw [h134, o2]
        refine ra_icmp_ge (q := 94) A d_Sr_readFactors_71 (by decide) (fun cc => absurd cc (nI_ge hj (by omega))) (fun _ => ?_)
        refine ra_aload_n A d_Sr_readFactors_74 rfl <| ra_getR A f_Sr_9 d_Sr_readFactors_75 (Nat.le_of_ble_eq_true rfl) rfl rfl rfl <| ra_iload_n A d_Sr_readFactors_78 rfl <| ra_aload_n A d_Sr_readFactors_79 rfl <| ra_getR A f_Sr_15 d_Sr_readFactors_80 (Nat.le_of_ble_eq_true rfl) rfl rfl rfl <| ra_iload_n A d_Sr_readFactors_83 rfl <| ?_
        refine ra_callV (As := [_]) A ok_Rd_signed l_Sr_47 im_Rd_signed sl_Rd_signed d_Sr_readFactors_84 (Nat.le_of_ble_eq_true rfl) rfl rfl rfl (Nat.le_of_ble_eq_true rfl) (xr_of at0 (by decide)) (s_Rd_signed hlx (n := v + 1) hR (by omega) rfl (fun c3 p3 g3 e3 f3 R3 => ?_) (fun e' g3 e3 E => xgT_out ow at0.2.2.2.2.2.2.2.2.2.2 (hY e' g3 (by rw [← hq, rL_err (e2.trans (by rw [e3, rb_l])) hj, rb_l]) (E.after (toDL hf) hp))))
        show xg x (y0 u) 0 0 87 _ _ g3
        rw [e3, rb_r] at e2
        refine ra_iastore A d_Sr_readFactors_87 (Nat.le_of_ble_eq_true rfl) rfl (vp_in_nI (by omega) (by decide)) ?_
        rw [nI_clamp (by omega)]
        refine ra_iinc (L' := [_, _, _]) A 1 d_Sr_readFactors_88 rfl (by decide) (by decide) rfl <| ra_goto (q := 66) A d_Sr_readFactors_91 (by decide) <| ?_
        rw [nI_1]
        refine ih _ ⟨_, _, e2, (hf.trans (fun a ha => ⟨f3.1 a (fun q => ha (by rw [q]; decide)), by rw [f3.2.2]⟩)).I (by decide), by rw [xI_k (by decide)]; exact f3.pl.trans hp, R3.of (xI_k (by decide)) (xI_k (by decide)) (by rw [xI_k (by decide)]; exact R3.2.2.1) R3.2.2.2.1, by rw [xI_k (by decide), f3.1 134 (by decide)]; exact h134, fun r hr' => ?_⟩
        by_cases cr : r = j
        · subst cr; rw [xI_e, pk_us]
        · rw [xI_j cr, f3.1 135 (by decide), pk_un cr]
          exact hr r (by omega)
    · rw [if_neg cs] at hq
      refine ra_if_lt (q := 58) A d_Sr_readFactors_51 (by decide) (fun _ => ?_) (fun cc => absurd (Int32.not_le.mp cs) cc)
      refine ra_iconst A 0 d_Sr_readFactors_58 (by decide) <| ra_bipush A 10 d_Sr_readFactors_59 (by decide) <| ?_
      refine ra_callV (As := [_, _]) A ok_Rd_demand l_Sr_29 im_Rd_demand sl_Rd_demand d_Sr_readFactors_61 (Nat.le_of_ble_eq_true rfl) rfl rfl rfl (Nat.le_of_ble_eq_true rfl) (xr_of at0 (by decide)) (s_Rd_demand hlx (c := false) (e := 10) (fun q => by cases q) (fun _ => xgT_out ow at0.2.2.2.2.2.2.2.2.2.2 (hY 10 _ hq.symm (ER_I.after (toDL fa) pa))))
  · rw [if_neg c] at hq
    refine ra_icmp_ge (q := 25) A d_Sr_readFactors_18 (by decide) (fun _ => ?_) (fun cc => absurd (nI_le (a := 16) (by omega) (by omega)) cc)
    refine ra_iconst A 0 d_Sr_readFactors_25 (by decide) <| ra_bipush A 10 d_Sr_readFactors_26 (by decide) <| ?_
    refine ra_callV (As := [_, _]) A ok_Rd_demand l_Sr_29 im_Rd_demand sl_Rd_demand d_Sr_readFactors_28 (Nat.le_of_ble_eq_true rfl) rfl rfl rfl (Nat.le_of_ble_eq_true rfl) (xr_of at0 (by decide)) (s_Rd_demand hlx (c := false) (e := 10) (fun q => by cases q) (fun _ => xgT_out ow at0.2.2.2.2.2.2.2.2.2.2 (hY 10 _ hq.symm (f1.er ER_I))))
end S94
