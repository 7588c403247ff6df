/-! SoundStream$Encoder: writeInformation -/
theorem flat_congr {α β : Type} {f g : α → List β} : ∀ xs : List α, (∀ a ∈ xs, f a = g a) → xs.flatMap f = xs.flatMap g
  | [], _ => rfl
  | a :: xs, h => by rw [List.flatMap_cons, List.flatMap_cons, h a (by simp), flat_congr xs (fun b hb => h b (by simp [hb]))]
theorem mdsum_congr {ch dp n : Nat} {sm sm' : Nat → Nat → Int32} (h : ∀ c, c < ch → ∀ i, i < n → sm c i = sm' c i) : mdsum ch dp n sm = mdsum ch dp n sm' := by
  have e : mdat ch ((dp + 7) / 8) n sm = mdat ch ((dp + 7) / 8) n sm' := by
    unfold mdat
    refine flat_congr _ (fun k hk => flat_congr _ (fun c hc => ?_))
    rw [h c (List.mem_range.mp hc) k (List.mem_range.mp hk)]
  unfold mdsum
  rw [e]
/-- the two halves of the sum of rows -/
def sml (C D N : Nat) (s0 s1 : Nat → Int32) (b : Nat) : Int64 := sumL (mdsum C D N (fun c i => if c = 0 then s0 i else s1 i)) b
section S82
variable {u : xu_T} {l : Launch} {h : xw_H} {X : xc_R → xw_H → Nat → Nat → Prop}
theorem s_En_writeInformation {b r C D N : Nat} {s0 s1 : Nat → Int32} (hb : b < 2 ^ 31) (hr : r < 2 ^ 31) (hC : 1 ≤ C) (hC2 : C ≤ 2) (hD : 1 ≤ D) (hD2 : D ≤ 24) (hN : N ≤ 1200) (e0 : h.1 1 0 = nI C) (e1 : h.1 1 1 = nI D) (e2 : h.1 1 2 = nI b) (e3 : h.1 1 3 = nI r) (e5 : h.1 5 0 = nI N) (es0 : ∀ i, i < 1200 → h.1 3 i = s0 i) (es1 : ∀ i, i < 1200 → h.1 4 i = s1 i) (W : WB h [])
    (hX : ∀ h', fr [6, 7, 87, 8, 9] h h' → WB h' (info b 0 0 r C D N (sml C D N s0 s1 0) (sml C D N s0 s1 1)) → X (.inl none) h' 0 0) : xm_M l (y0 u) (KK0 u) m_En_writeInformation [.ref 10] h X := by
  refine xm_of [none, none, none, none] (by simp) (Nat.le_of_ble_eq_true rfl) (by decide) (fun x at0 => ?_)
  have A := xa_of at0 (KK0_ok u)
  have K := KK0_ok u
  have ow := at0.2.2.2.2.1
  have i0 : vp_in (0 : Int32) 2 := vp_in_nI (n := 0) (by decide) (by decide)
  have g0 : ∀ (g : xw_H), fr [6, 7, 87] h g → g.1 1 = h.1 1 ∧ g.1 5 = h.1 5 := fun g f => ⟨fr1 f (by decide), fr1 f (by decide)⟩
  refine ra_getsN A at0.2.2.1.2.2.2.2.2.2.2.2.1.1 (at0.2.2.1.2.2.2.2.2.2.2.1 _ (List.mem_of_getElem? (i := 1) rfl)) d_En_writeInformation_0 <| ra_astore_n (L' := [_, _, _, _, _]) A d_En_writeInformation_3 (by decide) rfl <| ra_aload_n A d_En_writeInformation_4 rfl <| ?_
  refine ra_stlen A at0.2.2.1.2.2.2.2.2.2.2.2.1.2 (show Int32.ofNat 4 = 4 from rfl) d_En_writeInformation_5 ?_
  refine ra_istore_n (L' := [_, _, _, _, _]) A d_En_writeInformation_6 (by decide) rfl <| ra_iconst A 0 d_En_writeInformation_7 (by decide) <| ra_istore_n (L' := [_, _, _, _, _]) A d_En_writeInformation_8 (by decide) rfl <| ?_
  refine ra_iload_n A d_En_writeInformation_9 rfl <| ra_iload_n A d_En_writeInformation_10 rfl <| ?_
  refine ra_icmp_ge (q := 37) A d_En_writeInformation_11 (by decide) (fun cc => absurd cc ((by decide))) (fun _ => ?_)
  refine ra_aload_n A d_En_writeInformation_14 rfl <| ra_iload_n A d_En_writeInformation_15 rfl <| ?_
  refine ra_sti A at0.2.2.1.2.2.2.2.2.2.2.2.1.2 (vp_in_nI (n := 0) (by decide) (by decide)) (show _ = Value.int 102 from rfl) d_En_writeInformation_16 ?_
  refine ra_istore (L' := [_, _, _, _, _]) A d_En_writeInformation_17 (by decide) rfl <| ra_aload_n A d_En_writeInformation_19 rfl <| ra_getR A f_En_33 d_En_writeInformation_20 (Nat.le_of_ble_eq_true rfl) rfl rfl rfl <| ra_bipush A 8 d_En_writeInformation_23 (by decide) <| ra_iload A d_En_writeInformation_25 rfl <| ra_i2l A d_En_writeInformation_27 <| ?_
  refine ra_callV (As := [_, _]) A ok_Wr_put l_En_111 im_Wr_put sl_Wr_put d_En_writeInformation_28 (Nat.le_of_ble_eq_true rfl) rfl rfl rfl (Nat.le_of_ble_eq_true rfl) (xr_of at0 (by decide)) (s_Wr_put K (n := 8) W (by decide) (fun g1 f1 W1 => ?_))
  show xg x (y0 u) 0 0 31 _ _ g1
  refine ra_iinc (L' := [_, _, _, _, _]) A 1 d_En_writeInformation_31 rfl (by decide) (by decide) rfl <| ra_goto (q := 9) A d_En_writeInformation_34 (by decide) <| ?_
  rw [show ((0 : Int32) + 1) = 1 from rfl]
  refine ra_iload_n A d_En_writeInformation_9 rfl <| ra_iload_n A d_En_writeInformation_10 rfl <| ?_
  refine ra_icmp_ge (q := 37) A d_En_writeInformation_11 (by decide) (fun cc => absurd cc ((by decide))) (fun _ => ?_)
  refine ra_aload_n A d_En_writeInformation_14 rfl <| ra_iload_n A d_En_writeInformation_15 rfl <| ?_
  refine ra_sti A at0.2.2.1.2.2.2.2.2.2.2.2.1.2 (vp_in_nI (n := 1) (by decide) (by decide)) (show _ = Value.int 76 from rfl) d_En_writeInformation_16 ?_
  refine ra_istore (L' := [_, _, _, _, _]) A d_En_writeInformation_17 (by decide) rfl <| ra_aload_n A d_En_writeInformation_19 rfl <| ra_getR A f_En_33 d_En_writeInformation_20 (Nat.le_of_ble_eq_true rfl) rfl rfl rfl <| ra_bipush A 8 d_En_writeInformation_23 (by decide) <| ra_iload A d_En_writeInformation_25 rfl <| ra_i2l A d_En_writeInformation_27 <| ?_
  refine ra_callV (As := [_, _]) A ok_Wr_put l_En_111 im_Wr_put sl_Wr_put d_En_writeInformation_28 (Nat.le_of_ble_eq_true rfl) rfl rfl rfl (Nat.le_of_ble_eq_true rfl) (xr_of at0 (by decide)) (s_Wr_put K (n := 8) W1 (by simp only [List.length_append, bitsL_len, List.length_nil]; omega) (fun g2 f2 W2 => ?_))
  show xg x (y0 u) 0 0 31 _ _ g2
  have f2 := f1.trans f2
  refine ra_iinc (L' := [_, _, _, _, _]) A 1 d_En_writeInformation_31 rfl (by decide) (by decide) rfl <| ra_goto (q := 9) A d_En_writeInformation_34 (by decide) <| ?_
  rw [show ((1 : Int32) + 1) = 2 from rfl]
  refine ra_iload_n A d_En_writeInformation_9 rfl <| ra_iload_n A d_En_writeInformation_10 rfl <| ?_
  refine ra_icmp_ge (q := 37) A d_En_writeInformation_11 (by decide) (fun cc => absurd cc ((by decide))) (fun _ => ?_)
  refine ra_aload_n A d_En_writeInformation_14 rfl <| ra_iload_n A d_En_writeInformation_15 rfl <| ?_
  refine ra_sti A at0.2.2.1.2.2.2.2.2.2.2.2.1.2 (vp_in_nI (n := 2) (by decide) (by decide)) (show _ = Value.int 97 from rfl) d_En_writeInformation_16 ?_
  refine ra_istore (L' := [_, _, _, _, _]) A d_En_writeInformation_17 (by decide) rfl <| ra_aload_n A d_En_writeInformation_19 rfl <| ra_getR A f_En_33 d_En_writeInformation_20 (Nat.le_of_ble_eq_true rfl) rfl rfl rfl <| ra_bipush A 8 d_En_writeInformation_23 (by decide) <| ra_iload A d_En_writeInformation_25 rfl <| ra_i2l A d_En_writeInformation_27 <| ?_
  refine ra_callV (As := [_, _]) A ok_Wr_put l_En_111 im_Wr_put sl_Wr_put d_En_writeInformation_28 (Nat.le_of_ble_eq_true rfl) rfl rfl rfl (Nat.le_of_ble_eq_true rfl) (xr_of at0 (by decide)) (s_Wr_put K (n := 8) W2 (by simp only [List.length_append, bitsL_len, List.length_nil]; omega) (fun g3 f3 W3 => ?_))
  show xg x (y0 u) 0 0 31 _ _ g3
  have f3 := f2.trans f3
  refine ra_iinc (L' := [_, _, _, _, _]) A 1 d_En_writeInformation_31 rfl (by decide) (by decide) rfl <| ra_goto (q := 9) A d_En_writeInformation_34 (by decide) <| ?_
  rw [show ((2 : Int32) + 1) = 3 from rfl]
  refine ra_iload_n A d_En_writeInformation_9 rfl <| ra_iload_n A d_En_writeInformation_10 rfl <| ?_
  refine ra_icmp_ge (q := 37) A d_En_writeInformation_11 (by decide) (fun cc => absurd cc ((by decide))) (fun _ => ?_)
  refine ra_aload_n A d_En_writeInformation_14 rfl <| ra_iload_n A d_En_writeInformation_15 rfl <| ?_
  refine ra_sti A at0.2.2.1.2.2.2.2.2.2.2.2.1.2 (vp_in_nI (n := 3) (by decide) (by decide)) (show _ = Value.int 67 from rfl) d_En_writeInformation_16 ?_
  refine ra_istore (L' := [_, _, _, _, _]) A d_En_writeInformation_17 (by decide) rfl <| ra_aload_n A d_En_writeInformation_19 rfl <| ra_getR A f_En_33 d_En_writeInformation_20 (Nat.le_of_ble_eq_true rfl) rfl rfl rfl <| ra_bipush A 8 d_En_writeInformation_23 (by decide) <| ra_iload A d_En_writeInformation_25 rfl <| ra_i2l A d_En_writeInformation_27 <| ?_
  refine ra_callV (As := [_, _]) A ok_Wr_put l_En_111 im_Wr_put sl_Wr_put d_En_writeInformation_28 (Nat.le_of_ble_eq_true rfl) rfl rfl rfl (Nat.le_of_ble_eq_true rfl) (xr_of at0 (by decide)) (s_Wr_put K (n := 8) W3 (by simp only [List.length_append, bitsL_len, List.length_nil]; omega) (fun g4 f4 W4 => ?_))
  show xg x (y0 u) 0 0 31 _ _ g4
  have f4 := f3.trans f4
  refine ra_iinc (L' := [_, _, _, _, _]) A 1 d_En_writeInformation_31 rfl (by decide) (by decide) rfl <| ra_goto (q := 9) A d_En_writeInformation_34 (by decide) <| ?_
  rw [show ((3 : Int32) + 1) = 4 from rfl]
  refine ra_iload_n A d_En_writeInformation_9 rfl <| ra_iload_n A d_En_writeInformation_10 rfl <| ?_
  refine ra_icmp_ge (q := 37) A d_En_writeInformation_11 (by decide) (fun _ => ?_) (fun cc => absurd ((by decide)) cc)
  refine ra_aload_n A d_En_writeInformation_37 rfl <| ra_getR A f_En_33 d_En_writeInformation_38 (Nat.le_of_ble_eq_true rfl) rfl rfl rfl <| ra_bipush A 8 d_En_writeInformation_41 (by decide) <| ra_ldc2 A k_En_115 d_En_writeInformation_43 <| ?_
  refine ra_callV (As := [_, _]) A ok_Wr_put l_En_111 im_Wr_put sl_Wr_put d_En_writeInformation_46 (Nat.le_of_ble_eq_true rfl) rfl rfl rfl (Nat.le_of_ble_eq_true rfl) (xr_of at0 (by decide)) (s_Wr_put K (n := 8) W4 (by simp only [List.length_append, bitsL_len, List.length_nil]; omega) (fun g5 f5 W5 => ?_))
  show xg x (y0 u) 0 0 49 _ _ g5
  have f5 := f4.trans f5
  refine ra_aload_n A d_En_writeInformation_49 rfl <| ra_getR A f_En_33 d_En_writeInformation_50 (Nat.le_of_ble_eq_true rfl) rfl rfl rfl <| ra_bipush A 24 d_En_writeInformation_53 (by decide) <| ra_ldc2 A k_En_117 d_En_writeInformation_55 <| ?_
  refine ra_callV (As := [_, _]) A ok_Wr_put l_En_111 im_Wr_put sl_Wr_put d_En_writeInformation_58 (Nat.le_of_ble_eq_true rfl) rfl rfl rfl (Nat.le_of_ble_eq_true rfl) (xr_of at0 (by decide)) (s_Wr_put K (n := 24) W5 (by simp only [List.length_append, bitsL_len, List.length_nil]; omega) (fun g6 f6 W6 => ?_))
  show xg x (y0 u) 0 0 61 _ _ g6
  have f6 := f5.trans f6
  refine ra_aload_n A d_En_writeInformation_61 rfl <| ra_getR A f_En_33 d_En_writeInformation_62 (Nat.le_of_ble_eq_true rfl) rfl rfl rfl <| ra_bipush A 16 d_En_writeInformation_65 (by decide) <| ra_aload_n A d_En_writeInformation_67 rfl <| ra_getR A f_En_16 d_En_writeInformation_68 (Nat.le_of_ble_eq_true rfl) rfl rfl rfl <| ra_getI A f_En_76 d_En_writeInformation_71 (Nat.le_of_ble_eq_true rfl) rfl rfl <| ?_
  rw [(g0 _ f6).1, e2]
  refine ra_i2l A d_En_writeInformation_74 <| ?_
  rw [nI_l (by omega)]
  refine ra_callV (As := [_, _]) A ok_Wr_put l_En_111 im_Wr_put sl_Wr_put d_En_writeInformation_75 (Nat.le_of_ble_eq_true rfl) rfl rfl rfl (Nat.le_of_ble_eq_true rfl) (xr_of at0 (by decide)) (s_Wr_put K (n := 16) W6 (by simp only [List.length_append, bitsL_len, List.length_nil]; omega) (fun g7 f7 W7 => ?_))
  show xg x (y0 u) 0 0 78 _ _ g7
  have f7 := f6.trans f7
  refine ra_aload_n A d_En_writeInformation_78 rfl <| ra_getR A f_En_33 d_En_writeInformation_79 (Nat.le_of_ble_eq_true rfl) rfl rfl rfl <| ra_bipush A 16 d_En_writeInformation_82 (by decide) <| ra_aload_n A d_En_writeInformation_84 rfl <| ra_getR A f_En_16 d_En_writeInformation_85 (Nat.le_of_ble_eq_true rfl) rfl rfl rfl <| ra_getI A f_En_76 d_En_writeInformation_88 (Nat.le_of_ble_eq_true rfl) rfl rfl <| ?_
  rw [(g0 _ f7).1, e2]
  refine ra_i2l A d_En_writeInformation_91 <| ?_
  rw [nI_l (by omega)]
  refine ra_callV (As := [_, _]) A ok_Wr_put l_En_111 im_Wr_put sl_Wr_put d_En_writeInformation_92 (Nat.le_of_ble_eq_true rfl) rfl rfl rfl (Nat.le_of_ble_eq_true rfl) (xr_of at0 (by decide)) (s_Wr_put K (n := 16) W7 (by simp only [List.length_append, bitsL_len, List.length_nil]; omega) (fun g8 f8 W8 => ?_))
  show xg x (y0 u) 0 0 95 _ _ g8
  have f8 := f7.trans f8
  refine ra_aload_n A d_En_writeInformation_95 rfl <| ra_getR A f_En_33 d_En_writeInformation_96 (Nat.le_of_ble_eq_true rfl) rfl rfl rfl <| ra_bipush A 48 d_En_writeInformation_99 (by decide) <| ra_lconst A 0 d_En_writeInformation_101 (by decide) <| ?_
  refine ra_callV (As := [_, _]) A ok_Wr_put l_En_111 im_Wr_put sl_Wr_put d_En_writeInformation_102 (Nat.le_of_ble_eq_true rfl) rfl rfl rfl (Nat.le_of_ble_eq_true rfl) (xr_of at0 (by decide)) (s_Wr_put K (n := 48) W8 (by simp only [List.length_append, bitsL_len, List.length_nil]; omega) (fun g9 f9 W9 => ?_))
  show xg x (y0 u) 0 0 105 _ _ g9
  have f9 := f8.trans f9
  refine ra_aload_n A d_En_writeInformation_105 rfl <| ra_getR A f_En_33 d_En_writeInformation_106 (Nat.le_of_ble_eq_true rfl) rfl rfl rfl <| ra_bipush A 20 d_En_writeInformation_109 (by decide) <| ra_aload_n A d_En_writeInformation_111 rfl <| ra_getR A f_En_16 d_En_writeInformation_112 (Nat.le_of_ble_eq_true rfl) rfl rfl rfl <| ra_getI A f_En_119 d_En_writeInformation_115 (Nat.le_of_ble_eq_true rfl) rfl rfl <| ?_
  rw [(g0 _ f9).1, e3]
  refine ra_i2l A d_En_writeInformation_118 <| ?_
  rw [nI_l (by omega)]
  refine ra_callV (As := [_, _]) A ok_Wr_put l_En_111 im_Wr_put sl_Wr_put d_En_writeInformation_119 (Nat.le_of_ble_eq_true rfl) rfl rfl rfl (Nat.le_of_ble_eq_true rfl) (xr_of at0 (by decide)) (s_Wr_put K (n := 20) W9 (by simp only [List.length_append, bitsL_len, List.length_nil]; omega) (fun g10 f10 W10 => ?_))
  show xg x (y0 u) 0 0 122 _ _ g10
  have f10 := f9.trans f10
  refine ra_aload_n A d_En_writeInformation_122 rfl <| ra_getR A f_En_33 d_En_writeInformation_123 (Nat.le_of_ble_eq_true rfl) rfl rfl rfl <| ra_iconst A 3 d_En_writeInformation_126 (by decide) <| ra_aload_n A d_En_writeInformation_127 rfl <| ra_getR A f_En_16 d_En_writeInformation_128 (Nat.le_of_ble_eq_true rfl) rfl rfl rfl <| ra_getI A f_En_85 d_En_writeInformation_131 (Nat.le_of_ble_eq_true rfl) rfl rfl <| ?_
  rw [(g0 _ f10).1, e0]
  refine ra_iconst A 1 d_En_writeInformation_134 (by decide) <| ra_isub A d_En_writeInformation_135 <| ?_
  rw [show nI C - 1 = nI (C - 1) from pk_sub (b := 1) hC]
  refine ra_i2l A d_En_writeInformation_136 <| ?_
  rw [nI_l (by omega)]
  refine ra_callV (As := [_, _]) A ok_Wr_put l_En_111 im_Wr_put sl_Wr_put d_En_writeInformation_137 (Nat.le_of_ble_eq_true rfl) rfl rfl rfl (Nat.le_of_ble_eq_true rfl) (xr_of at0 (by decide)) (s_Wr_put K (n := 3) W10 (by simp only [List.length_append, bitsL_len, List.length_nil]; omega) (fun g11 f11 W11 => ?_))
  show xg x (y0 u) 0 0 140 _ _ g11
  have f11 := f10.trans f11
  refine ra_aload_n A d_En_writeInformation_140 rfl <| ra_getR A f_En_33 d_En_writeInformation_141 (Nat.le_of_ble_eq_true rfl) rfl rfl rfl <| ra_iconst A 5 d_En_writeInformation_144 (by decide) <| ra_aload_n A d_En_writeInformation_145 rfl <| ra_getR A f_En_16 d_En_writeInformation_146 (Nat.le_of_ble_eq_true rfl) rfl rfl rfl <| ra_getI A f_En_122 d_En_writeInformation_149 (Nat.le_of_ble_eq_true rfl) rfl rfl <| ?_
  rw [(g0 _ f11).1, e1]
  refine ra_iconst A 1 d_En_writeInformation_152 (by decide) <| ra_isub A d_En_writeInformation_153 <| ?_
  rw [show nI D - 1 = nI (D - 1) from pk_sub (b := 1) hD]
  refine ra_i2l A d_En_writeInformation_154 <| ?_
  rw [nI_l (by omega)]
  refine ra_callV (As := [_, _]) A ok_Wr_put l_En_111 im_Wr_put sl_Wr_put d_En_writeInformation_155 (Nat.le_of_ble_eq_true rfl) rfl rfl rfl (Nat.le_of_ble_eq_true rfl) (xr_of at0 (by decide)) (s_Wr_put K (n := 5) W11 (by simp only [List.length_append, bitsL_len, List.length_nil]; omega) (fun g12 f12 W12 => ?_))
  show xg x (y0 u) 0 0 158 _ _ g12
  have f12 := f11.trans f12
  refine ra_aload_n A d_En_writeInformation_158 rfl <| ra_getR A f_En_33 d_En_writeInformation_159 (Nat.le_of_ble_eq_true rfl) rfl rfl rfl <| ra_bipush A 36 d_En_writeInformation_162 (by decide) <| ra_aload_n A d_En_writeInformation_164 rfl <| ra_getR A f_En_16 d_En_writeInformation_165 (Nat.le_of_ble_eq_true rfl) rfl rfl rfl <| ra_getR A f_En_70 d_En_writeInformation_168 (Nat.le_of_ble_eq_true rfl) rfl rfl rfl <| ra_iconst A 0 d_En_writeInformation_171 (by decide) <| ?_
  refine ra_iaload A d_En_writeInformation_172 (Nat.le_of_ble_eq_true rfl) rfl i0 ?_
  rw [(g0 _ f12).2, show h.1 5 (Int32.toNatClampNeg 0) = nI N from e5]
  refine ra_i2l A d_En_writeInformation_173 <| ?_
  rw [nI_l (by omega)]
  refine ra_callV (As := [_, _]) A ok_Wr_put l_En_111 im_Wr_put sl_Wr_put d_En_writeInformation_174 (Nat.le_of_ble_eq_true rfl) rfl rfl rfl (Nat.le_of_ble_eq_true rfl) (xr_of at0 (by decide)) (s_Wr_put K (n := 36) W12 (by simp only [List.length_append, bitsL_len, List.length_nil]; omega) (fun g13 f13 W13 => ?_))
  show xg x (y0 u) 0 0 177 _ _ g13
  have f13 := f12.trans f13
  have e48 : bitsL 48 0 = bitsL 24 (lN 0) ++ bitsL 24 (lN 0) := by
    rw [bitsL_z, show lN 0 = (0 : Int64) from rfl, bitsL_z]
    rfl
  rw [e48, List.nil_append] at W13
  have WP : WB g13 (info0 ++ bitsL 16 (lN b) ++ bitsL 16 (lN b) ++ bitsL 24 (lN 0) ++ bitsL 24 (lN 0) ++ bitsL 20 (lN r) ++ bitsL 3 (lN (C - 1)) ++ bitsL 5 (lN (D - 1)) ++ bitsL 36 (lN N)) := by
    unfold info0
    rw [show Int32.toInt64 102 = 102 from rfl, show Int32.toInt64 76 = 76 from rfl, show Int32.toInt64 97 = 97 from rfl, show Int32.toInt64 67 = 67 from rfl] at W13
    simpa only [List.append_assoc] using W13
  unfold info at hX
  have hPl : (info0 ++ bitsL 16 (lN b) ++ bitsL 16 (lN b) ++ bitsL 24 (lN 0) ++ bitsL 24 (lN 0) ++ bitsL 20 (lN r) ++ bitsL 3 (lN (C - 1)) ++ bitsL 5 (lN (D - 1)) ++ bitsL 36 (lN N)).length = 208 := by
    unfold info0
    simp only [List.length_append, bitsL_len]
  generalize info0 ++ bitsL 16 (lN b) ++ bitsL 16 (lN b) ++ bitsL 24 (lN 0) ++ bitsL 24 (lN 0) ++ bitsL 20 (lN r) ++ bitsL 3 (lN (C - 1)) ++ bitsL 5 (lN (D - 1)) ++ bitsL 36 (lN N) = P at hX WP hPl
  have G := g0 _ f13
  refine ra_aload_n A d_En_writeInformation_177 rfl <| ra_getR A f_En_24 d_En_writeInformation_178 (Nat.le_of_ble_eq_true rfl) rfl rfl rfl <| ra_aload_n A d_En_writeInformation_181 rfl <| ra_getR A f_En_16 d_En_writeInformation_182 (Nat.le_of_ble_eq_true rfl) rfl rfl rfl <| ?_
  refine ra_callV (As := [_]) A ok_Di_take l_En_125 im_Di_take sl_Di_take d_En_writeInformation_185 (Nat.le_of_ble_eq_true rfl) rfl rfl rfl (Nat.le_of_ble_eq_true rfl) (xr_of at0 (by decide)) (s_Di_take_rows hC2 hD2 hN (by rw [G.1]; exact e0) (by rw [G.1]; exact e1) (by rw [G.2]; exact e5) (fun gd fd hd => ?_))
  show xg x (y0 u) 0 0 188 _ _ gd
  have hd : md_get gd = mdsum C D N (fun c i => if c = 0 then s0 i else s1 i) := by
    rw [hd]
    refine mdsum_congr (fun c hc i hi => ?_)
    have hc2 : c = 0 ∨ c = 1 := by omega
    rcases hc2 with rfl | rfl
    · rw [if_pos rfl, ← es0 i (by omega)]
      exact congrFun (fr1 f13 (show 3 ∉ [6, 7, 87] by decide)) i
    · rw [if_neg (by decide), ← es1 i (by omega)]
      exact congrFun (fr1 f13 (show 4 ∉ [6, 7, 87] by decide)) i
  have fD : fr [6, 7, 87, 8, 9] h gd := (f13.mono (by decide)).trans (fd.mono (by decide))
  refine ra_iconst A 0 d_En_writeInformation_188 (by decide) <| ra_istore_n (L' := [_, _, _, _, _]) A d_En_writeInformation_189 (by decide) rfl <| ?_
  refine lp_up (σ := xw_H × Option Value × Option Value × Option Value) (W := fun i s => xg x (y0 u) 0 0 190 [some (.ref 10), some (.int (nI i)), s.2.1, s.2.2.1, s.2.2.2] [] s.1) (I := fun i s => fr [6, 7, 87, 8, 9] h s.1 ∧ md_get s.1 = mdsum C D N (fun c i => if c = 0 then s0 i else s1 i) ∧ WB s.1 (P ++ sumbits (sml C D N s0 s1 0) (sml C D N s0 s1 1) i)) 16 ?_ ?_ 0 (gd, _, _, _) (Nat.zero_le _) ⟨fD, hd, by simpa [sumbits] using WP.fr fd (by decide) (by decide) (by decide)⟩
  · rintro ⟨g, v2, v3, v4⟩ ⟨hf, -, hW⟩
    dsimp only at hf hW ⊢
    refine ra_iload_n A d_En_writeInformation_190 rfl <| ra_bipush A 16 d_En_writeInformation_191 (by decide) <| ?_
    refine ra_icmp_ge (q := 229) A d_En_writeInformation_193 (by decide) (fun _ => ?_) (fun cc => absurd (Int32.le_refl _) cc)
    exact ra_vret A ow d_En_writeInformation_229 (hX g hf hW)
  · rintro i ⟨g, v2, v3, v4⟩ hi ⟨hf, hm, hW⟩ ih
    dsimp only at hf hm hW ⊢
    refine ra_iload_n A d_En_writeInformation_190 rfl <| ra_bipush A 16 d_En_writeInformation_191 (by decide) <| ?_
    refine ra_icmp_ge (q := 229) A d_En_writeInformation_193 (by decide) (fun cc => absurd cc (nI_ge (b := 16) hi (by decide))) (fun _ => ?_)
    refine ra_aload_n A d_En_writeInformation_196 rfl <| ra_getR A f_En_33 d_En_writeInformation_197 (Nat.le_of_ble_eq_true rfl) rfl rfl rfl <| ra_bipush A 8 d_En_writeInformation_200 (by decide) <| ra_aload_n A d_En_writeInformation_202 rfl <| ra_getR A f_En_24 d_En_writeInformation_203 (Nat.le_of_ble_eq_true rfl) rfl rfl rfl <| ra_iload_n A d_En_writeInformation_206 rfl <| ra_iconst A 3 d_En_writeInformation_207 (by decide) <| ra_ishr A d_En_writeInformation_208 <| ?_
    rw [pk_shrN (k := 3) (by omega) _ (by decide)]
    refine ra_callV (As := [_]) A ok_Di_half l_En_131 im_Di_half sl_Di_half d_En_writeInformation_209 (Nat.le_of_ble_eq_true rfl) rfl rfl rfl (Nat.le_of_ble_eq_true rfl) (xr_of at0 (by decide)) (s_Di_half K (b := i / 2 ^ 3) (by omega) ?_)
    show xg x (y0 u) 0 0 212 _ _ g
    have hv : ((if i / 2 ^ 3 = 0 then g.1 8 3 else g.1 8 5).toInt64 <<< ((32 : Int32).toInt64 &&& 63)) ||| ((if i / 2 ^ 3 = 0 then g.1 8 2 else g.1 8 4).toInt64 &&& 4294967295) = if i / 8 = 0 then sml C D N s0 s1 0 else sml C D N s0 s1 1 := by
      unfold sml
      rw [← hm]
      by_cases c : i / 8 = 0
      · rw [if_pos c, if_pos c, if_pos c]; rfl
      · rw [if_neg c, if_neg c, if_neg c]; rfl
    rw [hv]
    refine ra_bipush A 8 d_En_writeInformation_212 (by decide) <| ra_iload_n A d_En_writeInformation_214 rfl <| ra_bipush A 7 d_En_writeInformation_215 (by decide) <| ra_iand A d_En_writeInformation_217 <| ?_
    rw [pk_andN (k := 3) (by omega) (by decide)]
    refine ra_imul A d_En_writeInformation_218 <| ?_
    rw [show (8 : Int32) * nI (i % 2 ^ 3) = nI (8 * (i % 8)) from pk_mul 8 _]
    refine ra_lshr A d_En_writeInformation_219 <| ?_
    refine ra_callV (As := [_, _]) A ok_Wr_put l_En_111 im_Wr_put sl_Wr_put d_En_writeInformation_220 (Nat.le_of_ble_eq_true rfl) rfl rfl rfl (Nat.le_of_ble_eq_true rfl) (xr_of at0 (by decide)) (s_Wr_put K (n := 8) hW (by rw [List.length_append, hPl, sumbits_len]; omega) (fun g2 f2 W2 => ?_))
    show xg x (y0 u) 0 0 223 _ _ g2
    refine ra_iinc (L' := [_, _, _, _, _]) A 1 d_En_writeInformation_223 rfl (by decide) (by decide) rfl <| ra_goto (q := 190) A d_En_writeInformation_226 (by decide) <| ?_
    rw [nI_1]
    refine ih (g2, _, _, _) ⟨hf.trans (f2.mono (by decide)), ?_, ?_⟩
    · dsimp only
      unfold md_get at hm ⊢
      rw [fr1 f2 (by decide)]
      exact hm
    · rw [sumbits, ← List.append_assoc]
      exact W2
end S82
