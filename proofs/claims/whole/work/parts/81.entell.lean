/-! SoundStream$Encoder: tellFrameSizes, writeInformation -/
theorem WB.set {h : xw_H} {B B' : List Bool} {i : Nat} {x : Int32} (W : WB h B) (hi : 8 * i + 8 ≤ B.length) (hB : B.length ≤ 72000) (hl : B'.length = B.length) (ho : ∀ j, j < 8 * i ∨ 8 * i + 8 ≤ j → B'.getD j false = B.getD j false) (hx : ∀ t, t < 8 → x.toBitVec.toNat.testBit (7 - t) = B'.getD (8 * i + t) false) : WB (f_set h (nI i) x) B' := by
  have e : f_set h (nI i) x = xw_I h 7 i x.toInt8.toInt32 := by
    unfold f_set
    rw [if_neg (nI_pos (by omega)), show v_bytes_length h = nI (B.length / 8) from W.1, if_neg (nI_ge (show i < B.length / 8 by omega) (by omega)), nI_clamp (by omega)]
  obtain ⟨w1, w2, ⟨p, w3, w4, w5⟩, w6⟩ := W
  rw [e]
  refine ⟨?_, ?_, ⟨p, ?_, ?_, fun b hb => ?_⟩, fun j hj => ?_⟩
  · rw [xI_k (by decide), hl]; exact w1
  · rw [xI_k (by decide), hl]; exact w2
  · rw [hl]; exact w3
  · rw [xI_k (by decide)]; exact w4
  · rw [hl] at hb ⊢
    rw [ho _ (by omega)]
    exact w5 b hb
  · rw [hl] at hj
    by_cases c : j = i
    · subst c
      rw [xI_e, bp_b, pk_and x 8 (by decide)]
      refine ⟨_, Nat.mod_lt _ (by decide), rfl, fun b hb => ?_⟩
      show (x.toBitVec.toNat % 2 ^ 8).testBit (7 - b) = _
      rw [Nat.testBit_mod_two_pow, decide_eq_true (show 7 - b < 8 by omega), Bool.true_and]
      exact hx b hb
    · rw [xI_j c]
      obtain ⟨d, d1, d2, d3⟩ := w6 j hj
      exact ⟨d, d1, d2, fun b hb => by rw [d3 b hb, ho _ (by omega)]⟩
theorem fr_set {h : xw_H} {i x : Int32} : fr [7] h (f_set h i x) := by
  unfold f_set
  split
  · exact fr.rfl
  · split
    · exact fr.rfl
    · exact fr_I (by decide)
theorem put2_len {B : List Bool} {lo hi m : Nat} : (put2 B lo hi m).length = B.length := lst_len
theorem put2_get {B : List Bool} {lo hi m j : Nat} (h : j < B.length) : (put2 B lo hi m).getD j false = if 96 ≤ j ∧ j < 96 + 8 * m then lo.testBit (119 - j) else if 120 ≤ j ∧ j < 120 + 8 * m then hi.testBit (143 - j) else B.getD j false := lst_get h
theorem put2_ge {B : List Bool} {lo hi m j : Nat} (h : B.length ≤ j) : (put2 B lo hi m).getD j false = B.getD j false := by
  rw [ga_ge (by rw [put2_len]; exact h), ga_ge h]
/-- the low one of the two is put already -/
def putm (B : List Bool) (lo hi m : Nat) : List Bool := lst B.length (fun j => if 96 + 8 * m ≤ j ∧ j < 96 + 8 * (m + 1) then lo.testBit (119 - j) else (put2 B lo hi m).getD j false)
theorem tb_sh {v m t : Nat} (hv : v < 2 ^ 31) (hm : m < 3) (ht : t < 8) : (nI v >>> (((16 : Int32) - 8 * nI m) &&& 31)).toBitVec.toNat.testBit (7 - t) = v.testBit (23 - (8 * m + t)) := by
  have e : ∀ m, m < 3 → ((((16 : Int32) - 8 * nI m) &&& 31 : Int32).toBitVec.smod 32).toNat = 16 - 8 * m := by decide
  have hle : v / 2 ^ (16 - 8 * m) ≤ v := Nat.div_le_self _ _
  rw [pk_shrN hv _ (16 - 8 * m) (e m hm), pk_tn (by omega), Nat.testBit_div_two_pow]
  congr 1
  omega
theorem WB_lo {h : xw_H} {B : List Bool} {lo hi m : Nat} (W : WB h (put2 B lo hi m)) (hB : B.length ≤ 72000) (hB2 : 144 ≤ B.length) (hlo : lo < 2 ^ 31) (hm : m < 3) : WB (f_set h (nI (12 + m)) (nI lo >>> (((16 : Int32) - 8 * nI m) &&& 31))) (putm B lo hi m) := by
  refine W.set (by rw [put2_len]; omega) (by rw [put2_len]; exact hB) (by rw [put2_len]; exact lst_len) (fun j hj => ?_) (fun t ht => ?_)
  · by_cases c : j < B.length
    · unfold putm
      rw [lst_get c, if_neg (by omega)]
    · rw [ga_ge (by unfold putm; rw [lst_len]; omega), ga_ge (by rw [put2_len]; omega)]
  · unfold putm
    rw [tb_sh hlo hm ht, lst_get (by omega), if_pos (by omega)]
    congr 1
    omega
theorem WB_hi {h : xw_H} {B : List Bool} {lo hi m : Nat} (W : WB h (putm B lo hi m)) (hB : B.length ≤ 72000) (hB2 : 144 ≤ B.length) (hhi : hi < 2 ^ 31) (hm : m < 3) : WB (f_set h (nI (15 + m)) (nI hi >>> (((16 : Int32) - 8 * nI m) &&& 31))) (put2 B lo hi (m + 1)) := by
  have hl : (putm B lo hi m).length = B.length := lst_len
  refine W.set (by rw [hl]; omega) (by rw [hl]; exact hB) (by rw [hl]; exact lst_len) (fun j hj => ?_) (fun t ht => ?_)
  · by_cases c : j < B.length
    · unfold putm
      rw [put2_get c, lst_get c]
      by_cases c1 : 96 + 8 * m ≤ j ∧ j < 96 + 8 * (m + 1)
      · rw [if_pos (by omega), if_pos c1]
      · rw [if_neg c1, put2_get c]
        by_cases c2 : 96 ≤ j ∧ j < 96 + 8 * m
        · rw [if_pos (by omega), if_pos c2]
        · rw [if_neg (by omega), if_neg c2]
          by_cases c3 : 120 ≤ j ∧ j < 120 + 8 * m
          · rw [if_pos (by omega), if_pos c3]
          · rw [if_neg (by omega), if_neg c3]
    · rw [put2_ge (by omega), ga_ge (show B.length ≤ j by omega), ga_ge (by rw [hl]; omega)]
  · rw [tb_sh hhi hm ht, put2_get (by omega), if_neg (by omega), if_pos (by omega)]
    congr 1
    omega
section S81
variable {u : xu_T} {l : Launch} {KK : State → Prop} {h : xw_H} {X : xc_R → xw_H → Nat → Nat → Prop}
theorem s_En_tellFrameSizes (K : xk_ok u KK) {k : Nat} {f : Nat → Nat} {B : List Bool} (hk : k ≤ 75) (ek : h.1 10 9 = nI k) (hf : ∀ j, j < k → h.1 (12 + j) 1 = nI (f j) ∧ f j < 2 ^ 31) (W : WB h B) (hB : B.length ≤ 72000) (hB2 : 144 ≤ B.length)
    (hX : ∀ h', fr [7] h h' → WB h' (put2 B (minF f k) (maxF f k) 3) → X (.inl none) h' 0 0) : xm_M l (y0 u) KK m_En_tellFrameSizes [.ref 10] h X := by
  refine xm_of [none, none, none] (by simp) (Nat.le_of_ble_eq_true rfl) (by decide) (fun x at0 => ?_)
  have A := xa_of at0 K
  have ow := at0.2.2.2.2.1
  have i1 : vp_in (1 : Int32) 9 := vp_in_nI (n := 1) (by decide) (by decide)
  have i0 : vp_in (0 : Int32) 75 := vp_in_nI (n := 0) (by decide) (by decide)
  have hb : ∀ j, j ≤ k → minF f j < 2 ^ 31 ∧ maxF f j < 2 ^ 31 := by
    intro j hj
    induction j with
    | zero => exact ⟨by simp [minF], by simp [maxF]⟩
    | succ j ih =>
      have h1 := ih (by omega)
      have h2 := (hf j (by omega)).2
      cases j with
      | zero => exact ⟨h2, h2⟩
      | succ j =>
        rw [minF, maxF]
        omega
  have hro : ((1 ≤ (xm_R x).frames ∧ 13 ≤ (xm_R x).locals) ∧ 0 ≤ (xm_R x).cells) ∧ 0 ≤ (xm_R x).slots := by
    rw [at0.2.2.2.2.2.2.1]
    decide
  have at64 : ∀ w3, xg x (y0 u) 0 0 64 [some (.ref 10), some (.int (nI (minF f k))), some (.int (nI (maxF f k))), w3] [] h := by
    intro w3
    obtain ⟨q1, q2⟩ := hb k (Nat.le_refl _)
    refine ra_iconst A 0 d_En_tellFrameSizes_64 (by decide) <| ra_istore_n (L' := [_, _, _, _]) A d_En_tellFrameSizes_65 (by decide) rfl <| ?_
    refine lp_up (σ := xw_H) (W := fun m g => xg x (y0 u) 0 0 66 [some (.ref 10), some (.int (nI (minF f k))), some (.int (nI (maxF f k))), some (.int (nI m))] [] g) (I := fun m g => fr [7] h g ∧ WB g (put2 B (minF f k) (maxF f k) m)) 3 ?_ ?_ 0 h (by omega) ⟨fr.rfl, by rw [put2_0]; exact W⟩
    · rintro g ⟨hf, hW⟩
      refine ra_iload_n A d_En_tellFrameSizes_66 rfl <| ra_iconst A 3 d_En_tellFrameSizes_67 (by decide) <| ?_
      refine ra_icmp_ge (q := 117) A d_En_tellFrameSizes_68 (by decide) (fun _ => ?_) (fun cc => absurd (Int32.le_refl _) cc)
      exact ra_vret A ow d_En_tellFrameSizes_117 (hX g hf hW)
    · rintro m g hm ⟨hf, hW⟩ ih
      refine ra_iload_n A d_En_tellFrameSizes_66 rfl <| ra_iconst A 3 d_En_tellFrameSizes_67 (by decide) <| ?_
      refine ra_icmp_ge (q := 117) A d_En_tellFrameSizes_68 (by decide) (fun cc => absurd cc (nI_ge (b := 3) hm (by decide))) (fun _ => ?_)
      refine ra_aload_n A d_En_tellFrameSizes_71 rfl <| ra_getR A f_En_20 d_En_tellFrameSizes_72 (Nat.le_of_ble_eq_true rfl) rfl rfl rfl <| ra_bipush A 12 d_En_tellFrameSizes_75 (by decide) <| ra_iload_n A d_En_tellFrameSizes_77 rfl <| ra_iadd A d_En_tellFrameSizes_78 <| ra_iload_n A d_En_tellFrameSizes_79 rfl <| ra_bipush A 16 d_En_tellFrameSizes_80 (by decide) <| ra_bipush A 8 d_En_tellFrameSizes_82 (by decide) <| ra_iload_n A d_En_tellFrameSizes_84 rfl <| ra_imul A d_En_tellFrameSizes_85 <| ra_isub A d_En_tellFrameSizes_86 <| ra_ishr A d_En_tellFrameSizes_87 <| ?_
      rw [show (12 : Int32) + nI m = nI (12 + m) from nI_add 12 m]
      refine ra_callV (As := [_, _]) A ok_By_set l_En_201 im_By_set sl_By_set d_En_tellFrameSizes_88 (Nat.le_of_ble_eq_true rfl) rfl rfl rfl (Nat.le_of_ble_eq_true rfl) (xr_of at0 (by decide)) (s_By_set K (hW.len (by rw [put2_len]; exact hB)) ?_)
      show xg x (y0 u) 0 0 91 _ _ _
      have W2 := WB_lo hW hB hB2 q1 hm
      refine ra_aload_n A d_En_tellFrameSizes_91 rfl <| ra_getR A f_En_20 d_En_tellFrameSizes_92 (Nat.le_of_ble_eq_true rfl) rfl rfl rfl <| ra_bipush A 15 d_En_tellFrameSizes_95 (by decide) <| ra_iload_n A d_En_tellFrameSizes_97 rfl <| ra_iadd A d_En_tellFrameSizes_98 <| ra_iload_n A d_En_tellFrameSizes_99 rfl <| ra_bipush A 16 d_En_tellFrameSizes_100 (by decide) <| ra_bipush A 8 d_En_tellFrameSizes_102 (by decide) <| ra_iload_n A d_En_tellFrameSizes_104 rfl <| ra_imul A d_En_tellFrameSizes_105 <| ra_isub A d_En_tellFrameSizes_106 <| ra_ishr A d_En_tellFrameSizes_107 <| ?_
      rw [show (15 : Int32) + nI m = nI (15 + m) from nI_add 15 m]
      refine ra_callV (As := [_, _]) A ok_By_set l_En_201 im_By_set sl_By_set d_En_tellFrameSizes_108 (Nat.le_of_ble_eq_true rfl) rfl rfl rfl (Nat.le_of_ble_eq_true rfl) (xr_of at0 (by decide)) (s_By_set K (W2.len (by rw [show (putm B (minF f k) (maxF f k) m).length = B.length from lst_len]; exact hB)) ?_)
      show xg x (y0 u) 0 0 111 _ _ _
      have W3 := WB_hi W2 hB hB2 q2 hm
      refine ra_iinc (L' := [_, _, _, _]) A 1 d_En_tellFrameSizes_111 rfl (by decide) (by decide) rfl <| ra_goto (q := 66) A d_En_tellFrameSizes_114 (by decide) <| ?_
      rw [nI_1]
      exact ih _ ⟨(hf.trans fr_set).trans fr_set, W3⟩
  have at22 : ∀ z, z = minF f (min k 1) → xg x (y0 u) 0 0 19 [some (.ref 10), none, none, none] [.int (nI z)] h := by
    rintro z rfl
    refine ra_istore_n (L' := [_, _, _, _]) A d_En_tellFrameSizes_19 (by decide) rfl <| ra_iload_n A d_En_tellFrameSizes_20 rfl <| ra_istore_n (L' := [_, _, _, _]) A d_En_tellFrameSizes_21 (by decide) rfl <| ra_iconst A 1 d_En_tellFrameSizes_22 (by decide) <| ra_istore_n (L' := [_, _, _, _]) A d_En_tellFrameSizes_23 (by decide) rfl <| ?_
    by_cases c : k = 0
    · subst c
      refine ra_iload_n A d_En_tellFrameSizes_24 rfl <| ra_aload_n A d_En_tellFrameSizes_25 rfl <| ra_getI A f_En_64 d_En_tellFrameSizes_26 (Nat.le_of_ble_eq_true rfl) rfl rfl <| ?_
      rw [ek]
      refine ra_icmp_ge (q := 64) A d_En_tellFrameSizes_29 (by decide) (fun _ => ?_) (fun cc => absurd ((by decide)) cc)
      exact at64 _
    · have h0 : minF f (min k 1) = minF f (0 + 1) ∧ minF f (0 + 1) = maxF f (0 + 1) := ⟨by rw [show min k 1 = 0 + 1 by omega], rfl⟩
      rw [h0.1]
      obtain ⟨k', rfl⟩ : ∃ k', k = k' + 1 := ⟨k - 1, by omega⟩
      rw [show (some (.int (nI (minF f (0 + 1)))) : Option Value) = some (.int (nI (minF f (0 + 1)))) from rfl]
      have go : xg x (y0 u) 0 0 24 [some (.ref 10), some (.int (nI (minF f (0 + 1)))), some (.int (nI (maxF f (0 + 1)))), some (.int (nI (0 + 1)))] [] h := by
        refine lp_up (σ := Unit) (W := fun j _ => xg x (y0 u) 0 0 24 [some (.ref 10), some (.int (nI (minF f (j + 1)))), some (.int (nI (maxF f (j + 1)))), some (.int (nI (j + 1)))] [] h) (I := fun _ _ => True) k' ?_ ?_ 0 () (Nat.zero_le _) trivial
        · rintro - -
          refine ra_iload_n A d_En_tellFrameSizes_24 rfl <| ra_aload_n A d_En_tellFrameSizes_25 rfl <| ra_getI A f_En_64 d_En_tellFrameSizes_26 (Nat.le_of_ble_eq_true rfl) rfl rfl <| ?_
          rw [ek]
          refine ra_icmp_ge (q := 64) A d_En_tellFrameSizes_29 (by decide) (fun _ => ?_) (fun cc => absurd (Int32.le_refl _) cc)
          exact at64 _
        · rintro j - hj - ih
          obtain ⟨r1, hkd⟩ := rf_11 (j + 1) (by omega)
          obtain ⟨e1, e2⟩ := hf (j + 1) (by omega)
          obtain ⟨q1, q2⟩ := hb (j + 1) (by omega)
          refine ra_iload_n A d_En_tellFrameSizes_24 rfl <| ra_aload_n A d_En_tellFrameSizes_25 rfl <| ra_getI A f_En_64 d_En_tellFrameSizes_26 (Nat.le_of_ble_eq_true rfl) rfl rfl <| ?_
          rw [ek]
          refine ra_icmp_ge (q := 64) A d_En_tellFrameSizes_29 (by decide) (fun cc => absurd cc (nI_ge (by omega) (by omega))) (fun _ => ?_)
          refine ra_iload_n A d_En_tellFrameSizes_32 rfl <| ra_aload_n A d_En_tellFrameSizes_33 rfl <| ra_getR A f_En_13 d_En_tellFrameSizes_34 (Nat.le_of_ble_eq_true rfl) rfl rfl rfl <| ra_iload_n A d_En_tellFrameSizes_37 rfl <| ?_
          refine ra_aaload (b := 12 + (j + 1)) A d_En_tellFrameSizes_38 (Nat.le_of_ble_eq_true rfl) rfl rfl (vp_in_nI (by omega) (by decide)) (by rw [nI_clamp (by omega)]; exact r1) ?_
          refine ra_iconst A 1 d_En_tellFrameSizes_39 (by decide) <| ?_
          refine ra_iaload A d_En_tellFrameSizes_40 (by show 12 + (j + 1) < 157; omega) hkd i1 ?_
          rw [show h.1 (12 + (j + 1)) (Int32.toNatClampNeg 1) = nI (f (j + 1)) from e1]
          refine ra_mmin A q1 e2 l_En_79 d_En_tellFrameSizes_41 ⟨hro.1.1.1, hro.1.1.2, hro.1.2, hro.2⟩ ?_
          refine ra_istore_n (L' := [_, _, _, _]) A d_En_tellFrameSizes_44 (by decide) rfl <| ra_iload_n A d_En_tellFrameSizes_45 rfl <| ra_aload_n A d_En_tellFrameSizes_46 rfl <| ra_getR A f_En_13 d_En_tellFrameSizes_47 (Nat.le_of_ble_eq_true rfl) rfl rfl rfl <| ra_iload_n A d_En_tellFrameSizes_50 rfl <| ?_
          refine ra_aaload (b := 12 + (j + 1)) A d_En_tellFrameSizes_51 (Nat.le_of_ble_eq_true rfl) rfl rfl (vp_in_nI (by omega) (by decide)) (by rw [nI_clamp (by omega)]; exact r1) ?_
          refine ra_iconst A 1 d_En_tellFrameSizes_52 (by decide) <| ?_
          refine ra_iaload A d_En_tellFrameSizes_53 (by show 12 + (j + 1) < 157; omega) hkd i1 ?_
          rw [show h.1 (12 + (j + 1)) (Int32.toNatClampNeg 1) = nI (f (j + 1)) from e1]
          refine ra_mmax A q2 e2 l_En_198 d_En_tellFrameSizes_54 ⟨hro.1.1.1, hro.1.1.2, hro.1.2, hro.2⟩ ?_
          refine ra_istore_n (L' := [_, _, _, _]) A d_En_tellFrameSizes_57 (by decide) rfl <| ra_iinc (L' := [_, _, _, _]) A 1 d_En_tellFrameSizes_58 rfl (by decide) (by decide) rfl <| ra_goto (q := 24) A d_En_tellFrameSizes_61 (by decide) <| ?_
          rw [nI_1]
          exact ih () trivial
      exact go
  refine ra_aload_n A d_En_tellFrameSizes_0 rfl <| ra_getI A f_En_64 d_En_tellFrameSizes_1 (Nat.le_of_ble_eq_true rfl) rfl rfl <| ?_
  rw [ek]
  by_cases c : k = 0
  · subst c
    refine ra_if_ne (q := 11) A d_En_tellFrameSizes_4 (by decide) (fun cc => absurd (rfl) cc) (fun _ => ?_)
    refine ra_iconst A 0 d_En_tellFrameSizes_7 (by decide) <| ra_goto (q := 19) A d_En_tellFrameSizes_8 (by decide) <| ?_
    exact at22 0 rfl
  · refine ra_if_ne (q := 11) A d_En_tellFrameSizes_4 (by decide) (fun _ => ?_) (fun cc => absurd cc (nI_ne0 (by omega) (by omega)))
    obtain ⟨r1, hkd⟩ := rf_11 0 (by omega)
    refine ra_aload_n A d_En_tellFrameSizes_11 rfl <| ra_getR A f_En_13 d_En_tellFrameSizes_12 (Nat.le_of_ble_eq_true rfl) rfl rfl rfl <| ra_iconst A 0 d_En_tellFrameSizes_15 (by decide) <| ?_
    refine ra_aaload (b := 12) A d_En_tellFrameSizes_16 (Nat.le_of_ble_eq_true rfl) rfl rfl i0 rfl ?_
    refine ra_iconst A 1 d_En_tellFrameSizes_17 (by decide) <| ?_
    refine ra_iaload A d_En_tellFrameSizes_18 (Nat.le_of_ble_eq_true rfl) rfl i1 ?_
    rw [show h.1 12 (Int32.toNatClampNeg 1) = nI (f 0) from (hf 0 (by omega)).1]
    exact at22 (f 0) (by rw [show min k 1 = 1 by omega]; rfl)
end S81
