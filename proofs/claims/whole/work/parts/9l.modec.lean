/-! SoundStreamModel: isSum, decode -/
theorem and255_toInt (y : Int32) : (y &&& 255).toInt = y.toInt % 256 := by
  have e : (y &&& 255).toBitVec.toNat = y.toBitVec.toNat % 256 := by
    rw [Int32.toBitVec_and, BitVec.toNat_and]
    exact Nat.and_two_pow_sub_one_eq_mod _ 8
  have h1 : (y &&& 255).toInt = ((y &&& 255).toBitVec.toNat : Int) := by
    show (y &&& 255).toBitVec.toInt = _
    rw [BitVec.toInt_eq_toNat_cond, if_pos (by omega)]
  have h2 : y.toInt = if 2 * y.toBitVec.toNat < 2 ^ 32 then (y.toBitVec.toNat : Int) else (y.toBitVec.toNat : Int) - ((2 ^ 32 : Nat) : Int) := BitVec.toInt_eq_toNat_cond _
  rw [h1, e, h2]
  split <;> omega
theorem sb8 (w : Int32) {i : Nat} (hi : i < 4) : (w >>> (nI (8 * i) &&& 31)) &&& 255 = nI (w.toBitVec.toNat / 2 ^ (8 * i) % 256) := by
  apply i_of_toInt
  have h2 : w.toInt = if 2 * w.toBitVec.toNat < 2 ^ 32 then (w.toBitVec.toNat : Int) else (w.toBitVec.toNat : Int) - ((2 ^ 32 : Nat) : Int) := BitVec.toInt_eq_toNat_cond _
  rw [and255_toInt, ishr_toInt _ _ (8 * i) (s_l _ (by omega)), Int.shiftRight_eq_div_pow, nI_toInt (by omega)]
  have h4 : i = 0 ∨ i = 1 ∨ i = 2 ∨ i = 3 := by omega
  rw [h2]
  rcases h4 with rfl | rfl | rfl | rfl <;> split <;> simp <;> omega
theorem sumL_nat (v : md_V) (b : Nat) : (sumL v b).toBitVec.toNat = (if b = 0 then v.2.1 else v.2.2.2).toBitVec.toNat * 2 ^ 32 + (if b = 0 then v.1 else v.2.2.1).toBitVec.toNat := by
  have e : (sumL v b).toBitVec = (if b = 0 then v.2.1 else v.2.2.2).toBitVec ++ (if b = 0 then v.1 else v.2.2.1).toBitVec := by
    refine BitVec.eq_of_getLsbD_eq (fun i hi => ?_)
    rw [sumL_get v hi, BitVec.getLsbD_append]
  rw [e, BitVec.toNat_append, ← Nat.shiftLeft_add_eq_or_of_lt (BitVec.isLt _), Nat.shiftLeft_eq]
theorem lN_bn {n : Nat} (h : n < 2 ^ 64) : (lN n).toBitVec.toNat = n := by
  show (BitVec.ofNat 64 n).toNat = n
  rw [BitVec.toNat_ofNat, Nat.mod_eq_of_lt h]
theorem by4 {w b0 b1 b2 b3 : Nat} (hw : w < 2 ^ 32) (h0 : b0 < 2 ^ 8) (h1 : b1 < 2 ^ 8) (h2 : b2 < 2 ^ 8) (h3 : b3 < 2 ^ 8) : (w = b0 + b1 * 256 + b2 * 65536 + b3 * 16777216) ↔ (b0 = w % 256 ∧ b1 = w / 256 % 256 ∧ b2 = w / 65536 % 256 ∧ b3 = w / 16777216 % 256) := by
  constructor
  · intro h; omega
  · intro h; omega
theorem sum8 {F : Nat → Bool} {q : Nat} {lo hi : Nat} (hl : lo < 2 ^ 32) (hh : hi < 2 ^ 32) : hi * 2 ^ 32 + lo = e8 F q 8 ↔ ∀ k, k < 8 → bv F (q + 8 * k) 8 = (if k < 4 then lo else hi) / 2 ^ (8 * (k % 4)) % 256 := by
  have g0 := bv_lt (F := F) (p := q + 8 * 0) 8
  have g1 := bv_lt (F := F) (p := q + 8 * 1) 8
  have g2 := bv_lt (F := F) (p := q + 8 * 2) 8
  have g3 := bv_lt (F := F) (p := q + 8 * 3) 8
  have g4 := bv_lt (F := F) (p := q + 8 * 4) 8
  have g5 := bv_lt (F := F) (p := q + 8 * 5) 8
  have g6 := bv_lt (F := F) (p := q + 8 * 6) 8
  have g7 := bv_lt (F := F) (p := q + 8 * 7) 8
  have ee : e8 F q 8 = (bv F (q + 8 * 0) 8 + bv F (q + 8 * 1) 8 * 256 + bv F (q + 8 * 2) 8 * 65536 + bv F (q + 8 * 3) 8 * 16777216) + (bv F (q + 8 * 4) 8 + bv F (q + 8 * 5) 8 * 256 + bv F (q + 8 * 6) 8 * 65536 + bv F (q + 8 * 7) 8 * 16777216) * 2 ^ 32 := by
    show ((((((((0 + bv F (q + 8 * 0) 8 * 2 ^ (8 * 0)) + bv F (q + 8 * 1) 8 * 2 ^ (8 * 1)) + bv F (q + 8 * 2) 8 * 2 ^ (8 * 2)) + bv F (q + 8 * 3) 8 * 2 ^ (8 * 3)) + bv F (q + 8 * 4) 8 * 2 ^ (8 * 4)) + bv F (q + 8 * 5) 8 * 2 ^ (8 * 5)) + bv F (q + 8 * 6) 8 * 2 ^ (8 * 6)) + bv F (q + 8 * 7) 8 * 2 ^ (8 * 7)) = _
    omega
  have b1 := by4 hl g0 g1 g2 g3
  have b2 := by4 hh g4 g5 g6 g7
  rw [ee]
  constructor
  · intro h
    have d1 : lo = bv F (q + 8 * 0) 8 + bv F (q + 8 * 1) 8 * 256 + bv F (q + 8 * 2) 8 * 65536 + bv F (q + 8 * 3) 8 * 16777216 := by omega
    have d2 : hi = bv F (q + 8 * 4) 8 + bv F (q + 8 * 5) 8 * 256 + bv F (q + 8 * 6) 8 * 65536 + bv F (q + 8 * 7) 8 * 16777216 := by omega
    obtain ⟨x0, x1, x2, x3⟩ := b1.mp d1
    obtain ⟨x4, x5, x6, x7⟩ := b2.mp d2
    intro k hk
    have hk8 : k = 0 ∨ k = 1 ∨ k = 2 ∨ k = 3 ∨ k = 4 ∨ k = 5 ∨ k = 6 ∨ k = 7 := by omega
    rcases hk8 with rfl | rfl | rfl | rfl | rfl | rfl | rfl | rfl
    · rw [x0]; simp
    · rw [x1]; simp
    · rw [x2]; simp
    · rw [x3]; simp
    · rw [x4]; simp
    · rw [x5]; simp
    · rw [x6]; simp
    · rw [x7]; simp
  · intro h
    have d1 := b1.mpr ⟨by have := h 0 (by decide); simpa using this, by have := h 1 (by decide); simpa using this, by have := h 2 (by decide); simpa using this, by have := h 3 (by decide); simpa using this⟩
    have d2 := b2.mpr ⟨by have := h 4 (by decide); simpa using this, by have := h 5 (by decide); simpa using this, by have := h 6 (by decide); simpa using this, by have := h 7 (by decide); simpa using this⟩
    omega
/-- whether the first k bytes of the sum agree -/
def smQ (F : Nat → Bool) (v : md_V) : Nat → Bool
  | 0 => true
  | k + 1 => smQ F v k && decide (nI (bv F (208 + 8 * k) 8) = (wsel v (k / 4) >>> (nI (8 * (k % 4)) &&& 31)) &&& 255)
theorem smQ_t {F : Nat → Bool} {v : md_V} : ∀ k, smQ F v k = true ↔ ∀ j, j < k → nI (bv F (208 + 8 * j) 8) = (wsel v (j / 4) >>> (nI (8 * (j % 4)) &&& 31)) &&& 255
  | 0 => ⟨fun _ k hk => by omega, fun _ => rfl⟩
  | k + 1 => by
    rw [smQ, Bool.and_eq_true, smQ_t k, decide_eq_true_iff]
    constructor
    · intro h j hj
      by_cases c : j = k
      · subst c; exact h.2
      · exact h.1 j (by omega)
    · intro h
      exact ⟨fun j hj => h j (by omega), h k (by omega)⟩
theorem smQ_S {F : Nat → Bool} {v : md_V} : smQ F v 16 = (decide (sumL v 0 = lN (iLo F)) && decide (sumL v 1 = lN (iHi F))) := by
  have n64 : ∀ {a b : Int64}, a = b ↔ a.toBitVec.toNat = b.toBitVec.toNat := fun {a b} => ⟨fun h => by rw [h], fun h => Int64.toBitVec_inj.mp (BitVec.eq_of_toNat_eq h)⟩
  have key : smQ F v 16 = true ↔ (decide (sumL v 0 = lN (iLo F)) && decide (sumL v 1 = lN (iHi F))) = true := by
    rw [smQ_t, Bool.and_eq_true, decide_eq_true_iff, decide_eq_true_iff, n64, n64, sumL_nat, sumL_nat]
    unfold iLo iHi
    rw [lN_bn (e8_lt 8), lN_bn (e8_lt 8)]
    rw [if_pos rfl, if_pos rfl, if_neg (by decide), if_neg (by decide), sum8 (BitVec.isLt _) (BitVec.isLt _), sum8 (BitVec.isLt _) (BitVec.isLt _)]
    have one : ∀ j, j < 16 → (nI (bv F (208 + 8 * j) 8) = (wsel v (j / 4) >>> (nI (8 * (j % 4)) &&& 31)) &&& 255 ↔ bv F (208 + 8 * j) 8 = (wsel v (j / 4)).toBitVec.toNat / 2 ^ (8 * (j % 4)) % 256) := by
      intro j hj
      have hb := bv_lt (F := F) (p := 208 + 8 * j) 8
      rw [sb8 _ (Nat.mod_lt _ (by decide)), nI_eq (by omega) (by omega)]
    constructor
    · intro h
      refine ⟨fun k hk => ?_, fun k hk => ?_⟩
      · rw [(one k (by omega)).mp (h k (by omega))]
        unfold wsel
        by_cases c : k < 4
        · rw [if_pos c, if_pos (by omega)]
        · rw [if_neg c, if_neg (by omega), if_pos (by omega)]
      · have := (one (8 + k) (by omega)).mp (h (8 + k) (by omega))
        rw [show 208 + 8 * (8 + k) = 272 + 8 * k by omega, show (8 + k) % 4 = k % 4 by omega] at this
        rw [this]
        unfold wsel
        by_cases c : k < 4
        · rw [if_pos c, if_neg (by omega), if_neg (by omega), if_pos (by omega)]
        · rw [if_neg c, if_neg (by omega), if_neg (by omega), if_neg (by omega)]
    · intro h j hj
      refine (one j hj).mpr ?_
      by_cases c8 : j < 8
      · rw [h.1 j c8]
        unfold wsel
        by_cases c : j < 4
        · rw [if_pos c, if_pos (by omega)]
        · rw [if_neg c, if_neg (by omega), if_pos (by omega)]
      · have := h.2 (j - 8) (by omega)
        rw [show 272 + 8 * (j - 8) = 208 + 8 * j by omega, show (j - 8) % 4 = j % 4 by omega] at this
        rw [this]
        unfold wsel
        by_cases c : j - 8 < 4
        · rw [if_pos c, if_neg (by omega), if_neg (by omega), if_pos (by omega)]
        · rw [if_neg c, if_neg (by omega), if_neg (by omega), if_neg (by omega)]
  cases h1 : smQ F v 16
  · cases h2 : (decide (sumL v 0 = lN (iLo F)) && decide (sumL v 1 = lN (iHi F)))
    · rfl
    · rw [key.mpr h2] at h1; cases h1
  · exact (key.mp h1).symm
theorem rFr_len {F : Nat → Bool} {L p p' : Nat} {s s' : FS} (h : rFr F L s p = .inr (s', p')) : s'.2.1 ≤ most F ∧ p + 16 ≤ p' := by
  obtain ⟨frm, len, way, last, s0, s1⟩ := s
  rw [rFr_eq] at h
  obtain ⟨q, p1, e1, e2⟩ := rb_inr h
  obtain ⟨v, p2, e3, e4⟩ := rb_inr e2
  split at e4
  · obtain ⟨rr, p6, e5, e6⟩ := rb_inr e4
    obtain ⟨a, p4, e7, e8⟩ := rb_inr e5
    unfold rEnd at e8
    obtain ⟨z, p5, e9, e10⟩ := rb_inr e8
    split at e10
    · obtain ⟨v2, p7, e11, e12⟩ := rb_inr e10
      split at e12
      · obtain ⟨c, size, w⟩ := q
        have hs := suS_len (rHd_ok e1).2.2.1
        have hp := (rHd_p e1).1
        have t1 := (rB_ok e3).2.1
        have t2 := rBd_g _ _ e7
        have t3 := (rB_ok e9).2.1
        have t4 := (rB_ok e11).2.1
        have t5 : p7 = p6 := congrArg Prod.snd (Sum.inr.inj e12)
        have t6 : p6 = p' := congrArg Prod.snd (Sum.inr.inj e6)
        have t7 := inr_fst e6
        rw [← t7]
        refine ⟨hs, ?_⟩
        omega
      · cases e12
    · cases e10
  · cases e4
section S9l
variable {u : xu_T} {l : Launch} {KK : State → Prop} {h : xw_H} {X : xc_R → xw_H → Nat → Nat → Prop}
theorem s_Mo_isSum (K : xk_ok u KK) (C : MC h) {F : Nat → Bool} {ch dp n : Nat} (h1 : ch ≤ 2) (h2 : dp ≤ 24) (h3 : n ≤ 1200) (e28 : h.1 141 28 = nI ch) (e29 : h.1 141 29 = nI dp) (e33 : h.1 141 33 = nI n) (h152 : ∀ k, k < 16 → h.1 152 k = nI (bv F (208 + 8 * k) 8))
    (hX : ∀ h', fr [146, 147] h h' → X (.inl (some (.int (bz (smQ F (mdsum ch dp n (fun c i => h.1 153 (1200 * c + i))) 16))))) h' 0 0) : xm_M l (y0 u) KK m_Mo_isSum [.ref 141] h X := by
  refine xm_of [none, none] (by simp) (Nat.le_of_ble_eq_true rfl) (by decide) (fun x at0 => ?_)
  have A := xa_of at0 K
  have ow := at0.2.2.2.2.1
  refine ra_aload_n A d_Mo_isSum_0 rfl <| ra_aload_n A d_Mo_isSum_1 rfl <| ra_getR A f_Mo_188 d_Mo_isSum_2 (Nat.le_of_ble_eq_true rfl) rfl rfl rfl <| ra_aload_n A d_Mo_isSum_5 rfl <| ra_getI A f_Mo_365 d_Mo_isSum_6 (Nat.le_of_ble_eq_true rfl) rfl rfl <| ?_
  rw [e28]
  refine ra_aload_n A d_Mo_isSum_9 rfl <| ra_getI A f_Mo_368 d_Mo_isSum_10 (Nat.le_of_ble_eq_true rfl) rfl rfl <| ?_
  rw [e29]
  refine ra_aload_n A d_Mo_isSum_13 rfl <| ra_getI A f_Mo_377 d_Mo_isSum_14 (Nat.le_of_ble_eq_true rfl) rfl rfl <| ?_
  rw [e33]
  refine ra_callV (As := [_, _, _, _]) A ok_Mo_sumUp l_Mo_238 im_Mo_sumUp sl_Mo_sumUp d_Mo_isSum_17 (Nat.le_of_ble_eq_true rfl) rfl rfl rfl (Nat.le_of_ble_eq_true rfl) (xr_of at0 (by decide)) (s_Mo_sumUp_sound K C h1 h2 h3 (fun g fg hg => ?_))
  show xg x (y0 u) 0 0 20 _ _ g
  have hX := hX g fg
  generalize mdsum ch dp n (fun c i => h.1 153 (1200 * c + i)) = v at hX hg
  refine ra_iconst A 1 d_Mo_isSum_20 (by decide) <| ra_istore_n (L' := [_, _, _]) A d_Mo_isSum_21 (by decide) rfl <| ra_iconst A 0 d_Mo_isSum_22 (by decide) <| ra_istore_n (L' := [_, _, _]) A d_Mo_isSum_23 (by decide) rfl <| ?_
  refine lp_up (σ := Unit) (W := fun k _ => xg x (y0 u) 0 0 24 [some (.ref 141), some (.int (bz (smQ F v k))), some (.int (nI k))] [] g) (I := fun _ _ => True) 16 ?_ ?_ 0 () (Nat.zero_le _) trivial
  · intro _ _
    refine ra_iload_n A d_Mo_isSum_24 rfl <| ra_bipush A 16 d_Mo_isSum_25 (by decide) <| ?_
    refine ra_icmp_ge (q := 74) A d_Mo_isSum_27 (by decide) (fun _ => ?_) (fun cc => absurd ((by decide)) cc)
    refine ra_iload_n A d_Mo_isSum_74 rfl <| ?_
    cases hb : smQ F v 16
    · rw [hb] at hX
      exact ra_zret A ow rfl d_Mo_isSum_75 hX
    · rw [hb] at hX
      exact ra_zret A ow rfl d_Mo_isSum_75 hX
  · rintro k _ hk _ ih
    have ih := ih () trivial
    have hv : g.1 147 (k / 4) = wsel (mo_get g) (k / 4) := by
      have h4 : k / 4 = 0 ∨ k / 4 = 1 ∨ k / 4 = 2 ∨ k / 4 = 3 := by omega
      rcases h4 with e | e | e | e <;> rw [e] <;> rfl
    have at67 : ∀ b : Bool, b = smQ F v (k + 1) → ∀ v1 : Int32, xg x (y0 u) 0 0 67 [some (.ref 141), some (.int v1), some (.int (nI k))] [.int (bz b)] g := by
      intro b hb v1
      refine ra_istore_n (L' := [_, _, _]) A d_Mo_isSum_67 (by decide) rfl <| ra_iinc (L' := [_, _, _]) A 1 d_Mo_isSum_68 rfl (by decide) (by decide) rfl <| ra_goto (q := 24) A d_Mo_isSum_71 (by decide) <| ?_
      rw [nI_1, hb]
      exact ih
    refine ra_iload_n A d_Mo_isSum_24 rfl <| ra_bipush A 16 d_Mo_isSum_25 (by decide) <| ?_
    refine ra_icmp_ge (q := 74) A d_Mo_isSum_27 (by decide) (fun cc => absurd cc (nI_ge (b := 16) hk (by decide))) (fun _ => ?_)
    refine ra_iload_n A d_Mo_isSum_30 rfl <| ?_
    cases hb : smQ F v k
    · refine ra_if_eq (q := 66) A d_Mo_isSum_31 (by decide) (fun _ => ?_) (fun cc => absurd (rfl) cc)
      refine ra_iconst A 0 d_Mo_isSum_66 (by decide) <| ?_
      exact at67 false (by rw [smQ, hb]; rfl) _
    · refine ra_if_eq (q := 66) A d_Mo_isSum_31 (by decide) (fun cc => absurd cc ((by decide))) (fun _ => ?_)
      refine ra_aload_n A d_Mo_isSum_34 rfl <| ra_getR A f_Mo_185 d_Mo_isSum_35 (Nat.le_of_ble_eq_true rfl) rfl rfl rfl <| ra_iload_n A d_Mo_isSum_38 rfl <| ?_
      refine ra_iaload A d_Mo_isSum_39 (Nat.le_of_ble_eq_true rfl) rfl (vp_in_nI (by omega) (by decide)) ?_
      rw [nI_clamp (by omega), fr1 fg (by decide), h152 k hk]
      refine ra_aload_n A d_Mo_isSum_40 rfl <| ra_getR A f_Mo_167 d_Mo_isSum_41 (Nat.le_of_ble_eq_true rfl) rfl rfl rfl <| ra_iload_n A d_Mo_isSum_44 rfl <| ra_iconst A 4 d_Mo_isSum_45 (by decide) <| ?_
      refine ra_idiv A d_Mo_isSum_46 (by decide) ?_
      rw [show nI k / 4 = nI (k / 4) from pk_div (d := 4) (by omega) (by decide) (by decide)]
      refine ra_iaload A d_Mo_isSum_47 (Nat.le_of_ble_eq_true rfl) rfl (vp_in_nI (by omega) (by decide)) ?_
      rw [nI_clamp (by omega), hv, hg]
      refine ra_bipush A 8 d_Mo_isSum_48 (by decide) <| ra_iload_n A d_Mo_isSum_50 rfl <| ra_iconst A 4 d_Mo_isSum_51 (by decide) <| ?_
      refine ra_irem A d_Mo_isSum_52 (by decide) ?_
      rw [show nI k - nI k / 4 * 4 = nI (k % 4) from pk_rem (d := 4) (by omega) (by decide) (by decide)]
      refine ra_imul A d_Mo_isSum_53 <| ?_
      rw [show (8 : Int32) * nI (k % 4) = nI (8 * (k % 4)) from pk_mul 8 _]
      refine ra_ishr A d_Mo_isSum_54 <| ra_sipush A 255 d_Mo_isSum_55 (by decide) <| ra_iand A d_Mo_isSum_58 <| ?_
      by_cases c : nI (bv F (208 + 8 * k) 8) = (wsel v (k / 4) >>> (nI (8 * (k % 4)) &&& 31)) &&& 255
      · refine ra_icmp_ne (q := 66) A d_Mo_isSum_59 (by decide) (fun cc => absurd (c) cc) (fun _ => ?_)
        refine ra_iconst A 1 d_Mo_isSum_62 (by decide) <| ra_goto (q := 67) A d_Mo_isSum_63 (by decide) <| ?_
        exact at67 true (by rw [smQ, hb, decide_eq_true c]; rfl) _
      · refine ra_icmp_ne (q := 66) A d_Mo_isSum_59 (by decide) (fun _ => ?_) (fun cc => absurd cc (c))
        refine ra_iconst A 0 d_Mo_isSum_66 (by decide) <| ?_
        exact at67 false (by rw [smQ, hb, decide_eq_false c]; rfl) _
end S9l
