/-! SoundStream$Digest: begin, take, half -/
def mdat (ch nb n : Nat) (sm : Nat → Nat → Int32) : List Int32 := (List.range n).flatMap fun k => (List.range ch).flatMap fun c => (List.range nb).map (dby (sm c k).toInt64)
def mpad (L : Nat) : Nat := (119 - L % 64) % 64
def mfin (M : List Int32) : List Int32 := M ++ [128] ++ List.replicate (mpad M.length) 0 ++ (List.range 8).map (dby (lN (8 * M.length)))
def mdsum (ch dp n : Nat) (sm : Nat → Nat → Int32) : md_V := md_all (mfin (mdat ch ((dp + 7) / 8) n sm)) ((mfin (mdat ch ((dp + 7) / 8) n sm)).length / 64)
theorem fm_len {α β : Type} (f : α → List β) (k : Nat) : ∀ xs : List α, (∀ a, (f a).length = k) → (xs.flatMap f).length = xs.length * k
  | [], _ => by simp
  | a :: xs, h => by rw [List.flatMap_cons, List.length_append, h a, fm_len f k xs h, List.length_cons, Nat.add_mul]; omega
theorem mdat_len {ch nb n : Nat} {sm : Nat → Nat → Int32} : (mdat ch nb n sm).length = n * (ch * nb) := by
  unfold mdat
  rw [fm_len _ (ch * nb), List.length_range]
  intro k
  rw [fm_len _ nb, List.length_range]
  intro c
  simp
theorem mdat_succ {ch nb n : Nat} {sm : Nat → Nat → Int32} : mdat ch nb (n + 1) sm = mdat ch nb n sm ++ (List.range ch).flatMap fun c => (List.range nb).map (dby (sm c n).toInt64) := by
  unfold mdat
  rw [List.range_succ, List.flatMap_append]
  simp
theorem mch_succ {ch nb n : Nat} {sm : Nat → Nat → Int32} : ((List.range (ch + 1)).flatMap fun c => (List.range nb).map (dby (sm c n).toInt64)) = ((List.range ch).flatMap fun c => (List.range nb).map (dby (sm c n).toInt64)) ++ (List.range nb).map (dby (sm ch n).toInt64) := by
  rw [List.range_succ, List.flatMap_append]
  simp
section S59
variable {u : xu_T} {l : Launch} {KK : State → Prop} {h : xw_H} {X : xc_R → xw_H → Nat → Nat → Prop}
theorem s_Di_begin (hX : ∀ h', fr [8, 9] h h' → DG h' [] → X (.inl none) h' 0 0) : xm_M l (y0 u) (KK0 u) m_Di_begin [.ref 8] h X := by
  refine xm_of [] (by simp) (Nat.le_of_ble_eq_true rfl) (by decide) (fun x at0 => ?_)
  have A := xa_of at0 (KK0_ok u)
  have ow := at0.2.2.2.2.1
  refine ra_aload_n A d_Di_begin_0 rfl <| ra_getR A f_Di_7 d_Di_begin_1 (Nat.le_of_ble_eq_true rfl) rfl rfl rfl <| ra_iconst A 0 d_Di_begin_4 (by decide) <| ?_
  refine ra_callS (As := [_, _]) A ok_Jfill l_Di_57 st_Jfill d_Di_begin_5 rfl (Nat.le_of_ble_eq_true rfl) (xr_of at0 (by decide)) (s_Jfill (KK0_ok u) (k := 9) (len := 16) (by decide) rfl (by decide) ?_)
  show xg x (y0 u) 0 0 8 _ _ _
  refine ra_aload_n A d_Di_begin_8 rfl <| ra_iconst A 0 d_Di_begin_9 (by decide) <| ra_putI (ty := .int) A f_Di_38 rfl rfl (by decide +kernel) rfl rfl d_Di_begin_10 (Nat.le_of_ble_eq_true rfl) rfl rfl <| ra_aload_n A d_Di_begin_13 rfl <| ra_ldc A k_Di_63 d_Di_begin_14 <| ra_putI (ty := .int) A f_Di_43 rfl rfl (by decide +kernel) rfl rfl d_Di_begin_16 (Nat.le_of_ble_eq_true rfl) rfl rfl <| ra_aload_n A d_Di_begin_19 rfl <| ra_ldc A k_Di_64 d_Di_begin_20 <| ra_putI (ty := .int) A f_Di_49 rfl rfl (by decide +kernel) rfl rfl d_Di_begin_22 (Nat.le_of_ble_eq_true rfl) rfl rfl <| ra_aload_n A d_Di_begin_25 rfl <| ra_ldc A k_Di_65 d_Di_begin_26 <| ra_putI (ty := .int) A f_Di_46 rfl rfl (by decide +kernel) rfl rfl d_Di_begin_28 (Nat.le_of_ble_eq_true rfl) rfl rfl <| ra_aload_n A d_Di_begin_31 rfl <| ra_ldc A k_Di_66 d_Di_begin_32 <| ra_putI (ty := .int) A f_Di_52 rfl rfl (by decide +kernel) rfl rfl d_Di_begin_34 (Nat.le_of_ble_eq_true rfl) rfl rfl <| ?_
  refine ra_vret A ow d_Di_begin_37 (hX _ ?_ ?_)
  · exact (((((fr_s1 (by decide)).I (by decide)).I (by decide)).I (by decide)).I (by decide)).I (by decide)
  · refine ⟨?_, ?_, ?_⟩
    · rw [xI_j (by decide), xI_j (by decide), xI_j (by decide), xI_j (by decide), xI_e]; rfl
    · show md_get _ = md_0
      unfold md_get md_0
      simp [xw_I, va_up, upd]
    · intro k hk
      rw [xI_k (by decide), xI_k (by decide), xI_k (by decide), xI_k (by decide), xI_k (by decide), xs1_e, if_pos hk, wd_ge (by simp)]
theorem s_Di_half (K : xk_ok u KK) {b : Nat} (hb : b < 2) (hX : X (.inl (some (.long (((if b = 0 then h.1 8 3 else h.1 8 5).toInt64 <<< ((32 : Int32).toInt64 &&& 63)) ||| ((if b = 0 then h.1 8 2 else h.1 8 4).toInt64 &&& 4294967295))))) h 0 0) : xm_M l (y0 u) KK m_Di_half [.ref 8, .int (nI b)] h X := by
  refine xm_of [none, none] (by simp) (Nat.le_of_ble_eq_true rfl) (by decide) (fun x at0 => ?_)
  have A := xa_of at0 K
  have ow := at0.2.2.2.2.1
  have h2 : b = 0 ∨ b = 1 := by omega
  rcases h2 with rfl | rfl
  · refine ra_iload_n A d_Di_half_0 rfl <| ?_
    refine ra_if_ne (q := 11) A d_Di_half_1 (by decide) (fun cc => absurd (rfl) cc) (fun _ => ?_)
    refine ra_aload_n A d_Di_half_4 rfl <| ra_getI A f_Di_43 d_Di_half_5 (Nat.le_of_ble_eq_true rfl) rfl rfl <| ra_goto (q := 15) A d_Di_half_8 (by decide) <| ra_istore_n (L' := [_, _, _, _]) A d_Di_half_15 (by decide) rfl <| ra_iload_n A d_Di_half_16 rfl <| ?_
    refine ra_if_ne (q := 27) A d_Di_half_17 (by decide) (fun cc => absurd (rfl) cc) (fun _ => ?_)
    refine ra_aload_n A d_Di_half_20 rfl <| ra_getI A f_Di_49 d_Di_half_21 (Nat.le_of_ble_eq_true rfl) rfl rfl <| ra_goto (q := 31) A d_Di_half_24 (by decide) <| ra_istore_n (L' := [_, _, _, _]) A d_Di_half_31 (by decide) rfl <| ra_iload_n A d_Di_half_32 rfl <| ra_i2l A d_Di_half_33 <| ra_bipush A 32 d_Di_half_34 (by decide) <| ra_lshl A d_Di_half_36 <| ra_iload_n A d_Di_half_37 rfl <| ra_i2l A d_Di_half_38 <| ra_ldc2 A k_Di_55 d_Di_half_39 <| ra_land A d_Di_half_42 <| ra_lor A d_Di_half_43 <| ?_
    exact ra_lret A ow d_Di_half_44 hX
  · refine ra_iload_n A d_Di_half_0 rfl <| ?_
    refine ra_if_ne (q := 11) A d_Di_half_1 (by decide) (fun _ => ?_) (fun cc => absurd cc ((by decide)))
    refine ra_aload_n A d_Di_half_11 rfl <| ra_getI A f_Di_46 d_Di_half_12 (Nat.le_of_ble_eq_true rfl) rfl rfl <| ra_istore_n (L' := [_, _, _, _]) A d_Di_half_15 (by decide) rfl <| ra_iload_n A d_Di_half_16 rfl <| ?_
    refine ra_if_ne (q := 27) A d_Di_half_17 (by decide) (fun _ => ?_) (fun cc => absurd cc ((by decide)))
    refine ra_aload_n A d_Di_half_27 rfl <| ra_getI A f_Di_52 d_Di_half_28 (Nat.le_of_ble_eq_true rfl) rfl rfl <| ra_istore_n (L' := [_, _, _, _]) A d_Di_half_31 (by decide) rfl <| ra_iload_n A d_Di_half_32 rfl <| ra_i2l A d_Di_half_33 <| ra_bipush A 32 d_Di_half_34 (by decide) <| ra_lshl A d_Di_half_36 <| ra_iload_n A d_Di_half_37 rfl <| ra_i2l A d_Di_half_38 <| ra_ldc2 A k_Di_55 d_Di_half_39 <| ra_land A d_Di_half_42 <| ra_lor A d_Di_half_43 <| ?_
    exact ra_lret A ow d_Di_half_44 hX
theorem s_Di_take_rows {ch dp n : Nat} (h1 : ch ≤ 2) (h2 : dp ≤ 24) (h3 : n ≤ 1200) (ech : h.1 1 0 = nI ch) (edp : h.1 1 1 = nI dp) (en : h.1 5 0 = nI n)
    (hX : ∀ h', fr [8, 9] h h' → md_get h' = mdsum ch dp n (fun c i => h.1 (3 + c) i) → X (.inl none) h' 0 0) : xm_M l (y0 u) (KK0 u) m_Di_take [.ref 8, .ref 1] h X := by
  refine xm_of [none, none, none, none] (by simp) (Nat.le_of_ble_eq_true rfl) (by decide) (fun x at0 => ?_)
  have A := xa_of at0 (KK0_ok u)
  have ow := at0.2.2.2.2.1
  have hbig : ∀ i c, i ≤ 1200 → c ≤ 2 → ((mdat ch ((dp + 7) / 8) i (fun c i => h.1 (3 + c) i)) ++ ((List.range c).flatMap fun c => (List.range ((dp + 7) / 8)).map (dby (h.1 (3 + c) i).toInt64))).length ≤ 8000 := by
    intro i c hi hc
    rw [List.length_append, mdat_len, fm_len _ ((dp + 7) / 8), List.length_range]
    · have q1 : (dp + 7) / 8 ≤ 3 := by omega
      have q2 : ch * ((dp + 7) / 8) ≤ 2 * 3 := Nat.mul_le_mul h1 q1
      have q3 : i * (ch * ((dp + 7) / 8)) ≤ 1200 * 6 := Nat.mul_le_mul hi q2
      have q4 : c * ((dp + 7) / 8) ≤ 2 * 3 := Nat.mul_le_mul hc q1
      omega
    · intro c; simp
  refine ra_aload_n A d_Di_take_0 rfl <| ?_
  refine ra_callV (As := []) A ok_Di_begin l_Di_13 im_Di_begin sl_Di_begin d_Di_take_1 (Nat.le_of_ble_eq_true rfl) rfl rfl rfl (Nat.le_of_ble_eq_true rfl) (xr_of at0 (by decide)) (s_Di_begin (fun g f0 d0 => ?_))
  show xg x (y0 u) 0 0 4 _ _ g
  refine ra_aload_n A d_Di_take_4 rfl <| ra_getI A f_Di_16 d_Di_take_5 (Nat.le_of_ble_eq_true rfl) rfl rfl <| ?_
  rw [(f0 1 (by decide)).1, edp]
  refine ra_bipush A 7 d_Di_take_8 (by decide) <| ra_iadd A d_Di_take_10 <| ra_iconst A 3 d_Di_take_11 (by decide) <| ra_ishr A d_Di_take_12 <| ?_
  rw [show nI dp + 7 = nI (dp + 7) from nI_add dp 7, pk_shrN (k := 3) (by omega) _ (by decide), show (dp + 7) / 2 ^ 3 = (dp + 7) / 8 from rfl]
  refine ra_istore_n (L' := [_, _, _, _, _, _]) A d_Di_take_13 (by decide) rfl <| ra_iconst A 0 d_Di_take_14 (by decide) <| ra_istore_n (L' := [_, _, _, _, _, _]) A d_Di_take_15 (by decide) rfl <| ?_
  refine lp_up (σ := xw_H × Option Value) (W := fun i s => xg x (y0 u) 0 0 16 [some (.ref 8), some (.ref 1), some (.int (nI ((dp + 7) / 8))), some (.int (nI i)), s.2, none] [] s.1) (I := fun i s => fr [8, 9] h s.1 ∧ DG s.1 (mdat ch ((dp + 7) / 8) i (fun c i => h.1 (3 + c) i))) n ?_ ?_ 0 (g, none) (by omega) ⟨f0, by simpa [mdat] using d0⟩
  · rintro ⟨g, w⟩ ⟨hf, hg⟩
    dsimp only at hf hg ⊢
    generalize hM : mdat ch ((dp + 7) / 8) n (fun c i => h.1 (3 + c) i) = M at hg
    have hML : M.length ≤ 8000 := by
      have := hbig n 0 h3 (by omega)
      rw [hM] at this
      simpa using this
    refine ra_iload_n A d_Di_take_16 rfl <| ra_aload_n A d_Di_take_17 rfl <| ra_getR A f_Di_22 d_Di_take_18 (Nat.le_of_ble_eq_true rfl) rfl rfl rfl <| ra_iconst A 0 d_Di_take_21 (by decide) <| ?_
    refine ra_iaload A d_Di_take_22 (Nat.le_of_ble_eq_true rfl) rfl (show vp_in (nI 0) 2 from vp_in_nI (by decide) (by decide)) ?_
    rw [show g.1 5 (Int32.toNatClampNeg 0) = nI n by rw [(hf 5 (by decide)).1]; exact en]
    refine ra_icmp_ge (q := 65) A d_Di_take_23 (by decide) (fun _ => ?_) (fun cc => absurd (Int32.le_refl _) cc)
    refine ra_ldc2 A k_Di_36 d_Di_take_65 <| ra_aload_n A d_Di_take_68 rfl <| ra_getI A f_Di_38 d_Di_take_69 (Nat.le_of_ble_eq_true rfl) rfl rfl <| ?_
    rw [hg.1]
    refine ra_i2l A d_Di_take_72 <| ra_lmul A d_Di_take_73 <| ?_
    rw [nI_l (by omega), show (8 : Int64) * lN M.length = lN (8 * M.length) from lN_mul 8 _]
    refine ra_lstore_n (L' := [_, _, _, _, _, _]) A d_Di_take_74 (by decide) rfl <| ra_aload_n A d_Di_take_75 rfl <| ra_iconst A 1 d_Di_take_76 (by decide) <| ra_ldc2 A k_Di_41 d_Di_take_77 <| ?_
    refine ra_callV (As := [_, _]) A ok_Di_add l_Di_32 im_Di_add sl_Di_add d_Di_take_80 (Nat.le_of_ble_eq_true rfl) rfl rfl rfl (Nat.le_of_ble_eq_true rfl) (xr_of at0 (by decide)) (s_Di_add (n := 1) (by decide) (by omega) hg (fun g1 f1 d1 => ?_))
    show xg x (y0 u) 0 0 83 _ _ g1
    rw [show (List.range 1).map (dby 128) = [128] by decide] at d1
    have hf1 := hf.trans f1
    clear hg f1 hf
    refine ra_iconst A 0 d_Di_take_83 (by decide) <| ra_istore (L' := [_, _, _, _, _, _]) A d_Di_take_84 (by decide) rfl <| ?_
    have hz : mpad M.length < 64 := by unfold mpad; omega
    refine lp_up (σ := xw_H) (W := fun i g => xg x (y0 u) 0 0 86 [some (.ref 8), some (.ref 1), some (.int (nI ((dp + 7) / 8))), some (.long (lN (8 * M.length))), none, some (.int (nI i))] [] g) (I := fun i g => fr [8, 9] h g ∧ DG g (M ++ [128] ++ List.replicate i 0)) (mpad M.length) ?_ ?_ 0 g1 (by omega) ⟨hf1, by simpa using d1⟩
    · rintro g ⟨hf, hg⟩
      refine ra_iload A d_Di_take_86 rfl <| ra_bipush A 64 d_Di_take_88 (by decide) <| ?_
      refine ra_icmp_ge (q := 117) A d_Di_take_90 (by decide) (fun cc => absurd cc (nI_ge (b := 64) hz (by decide))) (fun _ => ?_)
      refine ra_aload_n A d_Di_take_93 rfl <| ra_getI A f_Di_38 d_Di_take_94 (Nat.le_of_ble_eq_true rfl) rfl rfl <| ?_
      rw [hg.1]
      have hlen : (M ++ [128] ++ List.replicate (mpad M.length) 0).length = M.length + 1 + mpad M.length := by simp; omega
      rw [hlen]
      refine ra_bipush A 63 d_Di_take_97 (by decide) <| ra_iand A d_Di_take_99 <| ra_bipush A 56 d_Di_take_100 (by decide) <| ?_
      rw [pk_andN (k := 6) (by omega) (by decide)]
      refine ra_icmp_eq (q := 117) A d_Di_take_102 (by decide) (fun _ => ?_) (fun cc => absurd ((by rw [show (M.length + 1 + mpad M.length) % 2 ^ 6 = 56 by unfold mpad; omega]; rfl)) cc)
      refine ra_aload_n A d_Di_take_117 rfl <| ra_bipush A 8 d_Di_take_118 (by decide) <| ra_lload_n A d_Di_take_120 rfl <| ?_
      refine ra_callV (As := [_, _]) A ok_Di_add l_Di_32 im_Di_add sl_Di_add d_Di_take_121 (Nat.le_of_ble_eq_true rfl) rfl rfl rfl (Nat.le_of_ble_eq_true rfl) (xr_of at0 (by decide)) (s_Di_add (n := 8) (by decide) (by rw [hlen]; omega) hg (fun g2 f2 d2 => ?_))
      show xg x (y0 u) 0 0 124 _ _ g2
      exact ra_vret A ow d_Di_take_124 (hX g2 (hf.trans f2) (by rw [d2.2.1]; unfold mdsum mfin; rw [hM]))
    · rintro i g hi ⟨hf, hg⟩ ih
      have hlen : (M ++ [128] ++ List.replicate i 0).length = M.length + 1 + i := by simp; omega
      refine ra_iload A d_Di_take_86 rfl <| ra_bipush A 64 d_Di_take_88 (by decide) <| ?_
      refine ra_icmp_ge (q := 117) A d_Di_take_90 (by decide) (fun cc => absurd cc (nI_ge (b := 64) (by omega) (by decide))) (fun _ => ?_)
      refine ra_aload_n A d_Di_take_93 rfl <| ra_getI A f_Di_38 d_Di_take_94 (Nat.le_of_ble_eq_true rfl) rfl rfl <| ?_
      rw [hg.1, hlen]
      refine ra_bipush A 63 d_Di_take_97 (by decide) <| ra_iand A d_Di_take_99 <| ra_bipush A 56 d_Di_take_100 (by decide) <| ?_
      rw [pk_andN (k := 6) (by omega) (by decide)]
      have hq : ¬ nI ((M.length + 1 + i) % 2 ^ 6) = 56 := fun q => by
        have := (nI_eq (b := 56) (by omega) (by decide)).mp q
        unfold mpad at hi
        omega
      refine ra_icmp_eq (q := 117) A d_Di_take_102 (by decide) (fun cc => absurd cc (hq)) (fun _ => ?_)
      refine ra_aload_n A d_Di_take_105 rfl <| ra_iconst A 1 d_Di_take_106 (by decide) <| ra_lconst A 0 d_Di_take_107 (by decide) <| ?_
      refine ra_callV (As := [_, _]) A ok_Di_add l_Di_32 im_Di_add sl_Di_add d_Di_take_108 (Nat.le_of_ble_eq_true rfl) rfl rfl rfl (Nat.le_of_ble_eq_true rfl) (xr_of at0 (by decide)) (s_Di_add (n := 1) (by decide) (by rw [hlen]; omega) hg (fun g2 f2 d2 => ?_))
      show xg x (y0 u) 0 0 111 _ _ g2
      refine ra_iinc (L' := [_, _, _, _, _, _]) A 1 d_Di_take_111 rfl (by decide) (by decide) rfl <| ra_goto (q := 86) A d_Di_take_114 (by decide) <| ?_
      rw [nI_1]
      refine ih g2 ⟨hf.trans f2, ?_⟩
      rw [show (List.range 1).map (dby 0) = [0] by decide] at d2
      rw [List.replicate_succ', ← List.append_assoc]
      exact d2
  · rintro i ⟨g, w⟩ hi ⟨hf, hg⟩ ih
    dsimp only at hf hg ⊢
    refine ra_iload_n A d_Di_take_16 rfl <| ra_aload_n A d_Di_take_17 rfl <| ra_getR A f_Di_22 d_Di_take_18 (Nat.le_of_ble_eq_true rfl) rfl rfl rfl <| ra_iconst A 0 d_Di_take_21 (by decide) <| ?_
    refine ra_iaload A d_Di_take_22 (Nat.le_of_ble_eq_true rfl) rfl (show vp_in (nI 0) 2 from vp_in_nI (by decide) (by decide)) ?_
    rw [show g.1 5 (Int32.toNatClampNeg 0) = nI n by rw [(hf 5 (by decide)).1]; exact en]
    refine ra_icmp_ge (q := 65) A d_Di_take_23 (by decide) (fun cc => absurd cc (nI_ge hi (by omega))) (fun _ => ?_)
    refine ra_iconst A 0 d_Di_take_26 (by decide) <| ra_istore (L' := [_, _, _, _, _, _]) A d_Di_take_27 (by decide) rfl <| ?_
    refine lp_up (σ := xw_H) (W := fun c g => xg x (y0 u) 0 0 29 [some (.ref 8), some (.ref 1), some (.int (nI ((dp + 7) / 8))), some (.int (nI i)), some (.int (nI c)), none] [] g) (I := fun c g => fr [8, 9] h g ∧ DG g (mdat ch ((dp + 7) / 8) i (fun c i => h.1 (3 + c) i) ++ ((List.range c).flatMap fun c => (List.range ((dp + 7) / 8)).map (dby (h.1 (3 + c) i).toInt64)))) ch ?_ ?_ 0 g (by omega) ⟨hf, by simpa using hg⟩
    · rintro g ⟨hf, hg⟩
      refine ra_iload A d_Di_take_29 rfl <| ra_aload_n A d_Di_take_31 rfl <| ra_getI A f_Di_25 d_Di_take_32 (Nat.le_of_ble_eq_true rfl) rfl rfl <| ?_
      rw [(hf 1 (by decide)).1, ech]
      refine ra_icmp_ge (q := 59) A d_Di_take_35 (by decide) (fun _ => ?_) (fun cc => absurd (Int32.le_refl _) cc)
      refine ra_iinc (L' := [_, _, _, _, _, _]) A 1 d_Di_take_59 rfl (by decide) (by decide) rfl <| ra_goto (q := 16) A d_Di_take_62 (by decide) <| ?_
      rw [nI_1]
      exact ih (g, _) ⟨hf, by rw [mdat_succ]; exact hg⟩
    · rintro c g hc ⟨hf, hg⟩ ih2
      refine ra_iload A d_Di_take_29 rfl <| ra_aload_n A d_Di_take_31 rfl <| ra_getI A f_Di_25 d_Di_take_32 (Nat.le_of_ble_eq_true rfl) rfl rfl <| ?_
      rw [(hf 1 (by decide)).1, ech]
      refine ra_icmp_ge (q := 59) A d_Di_take_35 (by decide) (fun cc => absurd cc (nI_ge hc (by omega))) (fun _ => ?_)
      refine ra_aload_n A d_Di_take_38 rfl <| ra_iload_n A d_Di_take_39 rfl <| ra_aload_n A d_Di_take_40 rfl <| ra_getR A f_Di_28 d_Di_take_41 (Nat.le_of_ble_eq_true rfl) rfl rfl rfl <| ra_iload A d_Di_take_44 rfl <| ?_
      refine ra_aaload A d_Di_take_46 (Nat.le_of_ble_eq_true rfl) rfl rfl (vp_in_nI (by omega) (by decide)) (by rw [nI_clamp (by omega)]; exact (rf_2 c (by omega)).1) ?_
      refine ra_iload_n A d_Di_take_47 rfl <| ?_
      refine ra_iaload A d_Di_take_48 (show 3 + c < 157 by omega) (rf_2 c (by omega)).2 (vp_in_nI (by omega) (by decide)) ?_
      rw [nI_clamp (by omega), (hf (3 + c) (by simp; omega)).1]
      refine ra_i2l A d_Di_take_49 <| ?_
      refine ra_callV (As := [_, _]) A ok_Di_add l_Di_32 im_Di_add sl_Di_add d_Di_take_50 (Nat.le_of_ble_eq_true rfl) rfl rfl rfl (Nat.le_of_ble_eq_true rfl) (xr_of at0 (by decide)) (s_Di_add (n := (dp + 7) / 8) (by omega) (by have := hbig i c (by omega) (by omega); omega) hg (fun g2 f2 d2 => ?_))
      show xg x (y0 u) 0 0 53 _ _ g2
      refine ra_iinc (L' := [_, _, _, _, _, _]) A 1 d_Di_take_53 rfl (by decide) (by decide) rfl <| ra_goto (q := 29) A d_Di_take_56 (by decide) <| ?_
      rw [nI_1]
      refine ih2 g2 ⟨hf.trans f2, ?_⟩
      rw [mch_succ (sm := fun c i => h.1 (3 + c) i), ← List.append_assoc]
      exact d2
theorem s_Di_take_sound {ch dp n : Nat} (h1 : ch ≤ 2) (h2 : dp ≤ 24) (h3 : n ≤ 1200) (ech : h.1 136 0 = nI ch) (edp : h.1 136 1 = nI dp) (en : h.1 140 0 = nI n)
    (hX : ∀ h', fr [8, 9] h h' → md_get h' = mdsum ch dp n (fun c i => h.1 (138 + c) i) → X (.inl none) h' 0 0) : xm_M l (y0 u) (KK0 u) m_Di_take [.ref 8, .ref 136] h X := by
  refine xm_of [none, none, none, none] (by simp) (Nat.le_of_ble_eq_true rfl) (by decide) (fun x at0 => ?_)
  have A := xa_of at0 (KK0_ok u)
  have ow := at0.2.2.2.2.1
  have hbig : ∀ i c, i ≤ 1200 → c ≤ 2 → ((mdat ch ((dp + 7) / 8) i (fun c i => h.1 (138 + c) i)) ++ ((List.range c).flatMap fun c => (List.range ((dp + 7) / 8)).map (dby (h.1 (138 + c) i).toInt64))).length ≤ 8000 := by
    intro i c hi hc
    rw [List.length_append, mdat_len, fm_len _ ((dp + 7) / 8), List.length_range]
    · have q1 : (dp + 7) / 8 ≤ 3 := by omega
      have q2 : ch * ((dp + 7) / 8) ≤ 2 * 3 := Nat.mul_le_mul h1 q1
      have q3 : i * (ch * ((dp + 7) / 8)) ≤ 1200 * 6 := Nat.mul_le_mul hi q2
      have q4 : c * ((dp + 7) / 8) ≤ 2 * 3 := Nat.mul_le_mul hc q1
      omega
    · intro c; simp
  refine ra_aload_n A d_Di_take_0 rfl <| ?_
  refine ra_callV (As := []) A ok_Di_begin l_Di_13 im_Di_begin sl_Di_begin d_Di_take_1 (Nat.le_of_ble_eq_true rfl) rfl rfl rfl (Nat.le_of_ble_eq_true rfl) (xr_of at0 (by decide)) (s_Di_begin (fun g f0 d0 => ?_))
  show xg x (y0 u) 0 0 4 _ _ g
  refine ra_aload_n A d_Di_take_4 rfl <| ra_getI A f_Di_16 d_Di_take_5 (Nat.le_of_ble_eq_true rfl) rfl rfl <| ?_
  rw [(f0 136 (by decide)).1, edp]
  refine ra_bipush A 7 d_Di_take_8 (by decide) <| ra_iadd A d_Di_take_10 <| ra_iconst A 3 d_Di_take_11 (by decide) <| ra_ishr A d_Di_take_12 <| ?_
  rw [show nI dp + 7 = nI (dp + 7) from nI_add dp 7, pk_shrN (k := 3) (by omega) _ (by decide), show (dp + 7) / 2 ^ 3 = (dp + 7) / 8 from rfl]
  refine ra_istore_n (L' := [_, _, _, _, _, _]) A d_Di_take_13 (by decide) rfl <| ra_iconst A 0 d_Di_take_14 (by decide) <| ra_istore_n (L' := [_, _, _, _, _, _]) A d_Di_take_15 (by decide) rfl <| ?_
  refine lp_up (σ := xw_H × Option Value) (W := fun i s => xg x (y0 u) 0 0 16 [some (.ref 8), some (.ref 136), some (.int (nI ((dp + 7) / 8))), some (.int (nI i)), s.2, none] [] s.1) (I := fun i s => fr [8, 9] h s.1 ∧ DG s.1 (mdat ch ((dp + 7) / 8) i (fun c i => h.1 (138 + c) i))) n ?_ ?_ 0 (g, none) (by omega) ⟨f0, by simpa [mdat] using d0⟩
  · rintro ⟨g, w⟩ ⟨hf, hg⟩
    dsimp only at hf hg ⊢
    generalize hM : mdat ch ((dp + 7) / 8) n (fun c i => h.1 (138 + c) i) = M at hg
    have hML : M.length ≤ 8000 := by
      have := hbig n 0 h3 (by omega)
      rw [hM] at this
      simpa using this
    refine ra_iload_n A d_Di_take_16 rfl <| ra_aload_n A d_Di_take_17 rfl <| ra_getR A f_Di_22 d_Di_take_18 (Nat.le_of_ble_eq_true rfl) rfl rfl rfl <| ra_iconst A 0 d_Di_take_21 (by decide) <| ?_
    refine ra_iaload A d_Di_take_22 (Nat.le_of_ble_eq_true rfl) rfl (show vp_in (nI 0) 2 from vp_in_nI (by decide) (by decide)) ?_
    rw [show g.1 140 (Int32.toNatClampNeg 0) = nI n by rw [(hf 140 (by decide)).1]; exact en]
    refine ra_icmp_ge (q := 65) A d_Di_take_23 (by decide) (fun _ => ?_) (fun cc => absurd (Int32.le_refl _) cc)
    refine ra_ldc2 A k_Di_36 d_Di_take_65 <| ra_aload_n A d_Di_take_68 rfl <| ra_getI A f_Di_38 d_Di_take_69 (Nat.le_of_ble_eq_true rfl) rfl rfl <| ?_
    rw [hg.1]
    refine ra_i2l A d_Di_take_72 <| ra_lmul A d_Di_take_73 <| ?_
    rw [nI_l (by omega), show (8 : Int64) * lN M.length = lN (8 * M.length) from lN_mul 8 _]
    refine ra_lstore_n (L' := [_, _, _, _, _, _]) A d_Di_take_74 (by decide) rfl <| ra_aload_n A d_Di_take_75 rfl <| ra_iconst A 1 d_Di_take_76 (by decide) <| ra_ldc2 A k_Di_41 d_Di_take_77 <| ?_
    refine ra_callV (As := [_, _]) A ok_Di_add l_Di_32 im_Di_add sl_Di_add d_Di_take_80 (Nat.le_of_ble_eq_true rfl) rfl rfl rfl (Nat.le_of_ble_eq_true rfl) (xr_of at0 (by decide)) (s_Di_add (n := 1) (by decide) (by omega) hg (fun g1 f1 d1 => ?_))
    show xg x (y0 u) 0 0 83 _ _ g1
    rw [show (List.range 1).map (dby 128) = [128] by decide] at d1
    have hf1 := hf.trans f1
    clear hg f1 hf
    refine ra_iconst A 0 d_Di_take_83 (by decide) <| ra_istore (L' := [_, _, _, _, _, _]) A d_Di_take_84 (by decide) rfl <| ?_
    have hz : mpad M.length < 64 := by unfold mpad; omega
    refine lp_up (σ := xw_H) (W := fun i g => xg x (y0 u) 0 0 86 [some (.ref 8), some (.ref 136), some (.int (nI ((dp + 7) / 8))), some (.long (lN (8 * M.length))), none, some (.int (nI i))] [] g) (I := fun i g => fr [8, 9] h g ∧ DG g (M ++ [128] ++ List.replicate i 0)) (mpad M.length) ?_ ?_ 0 g1 (by omega) ⟨hf1, by simpa using d1⟩
    · rintro g ⟨hf, hg⟩
      refine ra_iload A d_Di_take_86 rfl <| ra_bipush A 64 d_Di_take_88 (by decide) <| ?_
      refine ra_icmp_ge (q := 117) A d_Di_take_90 (by decide) (fun cc => absurd cc (nI_ge (b := 64) hz (by decide))) (fun _ => ?_)
      refine ra_aload_n A d_Di_take_93 rfl <| ra_getI A f_Di_38 d_Di_take_94 (Nat.le_of_ble_eq_true rfl) rfl rfl <| ?_
      rw [hg.1]
      have hlen : (M ++ [128] ++ List.replicate (mpad M.length) 0).length = M.length + 1 + mpad M.length := by simp; omega
      rw [hlen]
      refine ra_bipush A 63 d_Di_take_97 (by decide) <| ra_iand A d_Di_take_99 <| ra_bipush A 56 d_Di_take_100 (by decide) <| ?_
      rw [pk_andN (k := 6) (by omega) (by decide)]
      refine ra_icmp_eq (q := 117) A d_Di_take_102 (by decide) (fun _ => ?_) (fun cc => absurd ((by rw [show (M.length + 1 + mpad M.length) % 2 ^ 6 = 56 by unfold mpad; omega]; rfl)) cc)
      refine ra_aload_n A d_Di_take_117 rfl <| ra_bipush A 8 d_Di_take_118 (by decide) <| ra_lload_n A d_Di_take_120 rfl <| ?_
      refine ra_callV (As := [_, _]) A ok_Di_add l_Di_32 im_Di_add sl_Di_add d_Di_take_121 (Nat.le_of_ble_eq_true rfl) rfl rfl rfl (Nat.le_of_ble_eq_true rfl) (xr_of at0 (by decide)) (s_Di_add (n := 8) (by decide) (by rw [hlen]; omega) hg (fun g2 f2 d2 => ?_))
      show xg x (y0 u) 0 0 124 _ _ g2
      exact ra_vret A ow d_Di_take_124 (hX g2 (hf.trans f2) (by rw [d2.2.1]; unfold mdsum mfin; rw [hM]))
    · rintro i g hi ⟨hf, hg⟩ ih
      have hlen : (M ++ [128] ++ List.replicate i 0).length = M.length + 1 + i := by simp; omega
      refine ra_iload A d_Di_take_86 rfl <| ra_bipush A 64 d_Di_take_88 (by decide) <| ?_
      refine ra_icmp_ge (q := 117) A d_Di_take_90 (by decide) (fun cc => absurd cc (nI_ge (b := 64) (by omega) (by decide))) (fun _ => ?_)
      refine ra_aload_n A d_Di_take_93 rfl <| ra_getI A f_Di_38 d_Di_take_94 (Nat.le_of_ble_eq_true rfl) rfl rfl <| ?_
      rw [hg.1, hlen]
      refine ra_bipush A 63 d_Di_take_97 (by decide) <| ra_iand A d_Di_take_99 <| ra_bipush A 56 d_Di_take_100 (by decide) <| ?_
      rw [pk_andN (k := 6) (by omega) (by decide)]
      have hq : ¬ nI ((M.length + 1 + i) % 2 ^ 6) = 56 := fun q => by
        have := (nI_eq (b := 56) (by omega) (by decide)).mp q
        unfold mpad at hi
        omega
      refine ra_icmp_eq (q := 117) A d_Di_take_102 (by decide) (fun cc => absurd cc (hq)) (fun _ => ?_)
      refine ra_aload_n A d_Di_take_105 rfl <| ra_iconst A 1 d_Di_take_106 (by decide) <| ra_lconst A 0 d_Di_take_107 (by decide) <| ?_
      refine ra_callV (As := [_, _]) A ok_Di_add l_Di_32 im_Di_add sl_Di_add d_Di_take_108 (Nat.le_of_ble_eq_true rfl) rfl rfl rfl (Nat.le_of_ble_eq_true rfl) (xr_of at0 (by decide)) (s_Di_add (n := 1) (by decide) (by rw [hlen]; omega) hg (fun g2 f2 d2 => ?_))
      show xg x (y0 u) 0 0 111 _ _ g2
      refine ra_iinc (L' := [_, _, _, _, _, _]) A 1 d_Di_take_111 rfl (by decide) (by decide) rfl <| ra_goto (q := 86) A d_Di_take_114 (by decide) <| ?_
      rw [nI_1]
      refine ih g2 ⟨hf.trans f2, ?_⟩
      rw [show (List.range 1).map (dby 0) = [0] by decide] at d2
      rw [List.replicate_succ', ← List.append_assoc]
      exact d2
  · rintro i ⟨g, w⟩ hi ⟨hf, hg⟩ ih
    dsimp only at hf hg ⊢
    refine ra_iload_n A d_Di_take_16 rfl <| ra_aload_n A d_Di_take_17 rfl <| ra_getR A f_Di_22 d_Di_take_18 (Nat.le_of_ble_eq_true rfl) rfl rfl rfl <| ra_iconst A 0 d_Di_take_21 (by decide) <| ?_
    refine ra_iaload A d_Di_take_22 (Nat.le_of_ble_eq_true rfl) rfl (show vp_in (nI 0) 2 from vp_in_nI (by decide) (by decide)) ?_
    rw [show g.1 140 (Int32.toNatClampNeg 0) = nI n by rw [(hf 140 (by decide)).1]; exact en]
    refine ra_icmp_ge (q := 65) A d_Di_take_23 (by decide) (fun cc => absurd cc (nI_ge hi (by omega))) (fun _ => ?_)
    refine ra_iconst A 0 d_Di_take_26 (by decide) <| ra_istore (L' := [_, _, _, _, _, _]) A d_Di_take_27 (by decide) rfl <| ?_
    refine lp_up (σ := xw_H) (W := fun c g => xg x (y0 u) 0 0 29 [some (.ref 8), some (.ref 136), some (.int (nI ((dp + 7) / 8))), some (.int (nI i)), some (.int (nI c)), none] [] g) (I := fun c g => fr [8, 9] h g ∧ DG g (mdat ch ((dp + 7) / 8) i (fun c i => h.1 (138 + c) i) ++ ((List.range c).flatMap fun c => (List.range ((dp + 7) / 8)).map (dby (h.1 (138 + c) i).toInt64)))) ch ?_ ?_ 0 g (by omega) ⟨hf, by simpa using hg⟩
    · rintro g ⟨hf, hg⟩
      refine ra_iload A d_Di_take_29 rfl <| ra_aload_n A d_Di_take_31 rfl <| ra_getI A f_Di_25 d_Di_take_32 (Nat.le_of_ble_eq_true rfl) rfl rfl <| ?_
      rw [(hf 136 (by decide)).1, ech]
      refine ra_icmp_ge (q := 59) A d_Di_take_35 (by decide) (fun _ => ?_) (fun cc => absurd (Int32.le_refl _) cc)
      refine ra_iinc (L' := [_, _, _, _, _, _]) A 1 d_Di_take_59 rfl (by decide) (by decide) rfl <| ra_goto (q := 16) A d_Di_take_62 (by decide) <| ?_
      rw [nI_1]
      exact ih (g, _) ⟨hf, by rw [mdat_succ]; exact hg⟩
    · rintro c g hc ⟨hf, hg⟩ ih2
      refine ra_iload A d_Di_take_29 rfl <| ra_aload_n A d_Di_take_31 rfl <| ra_getI A f_Di_25 d_Di_take_32 (Nat.le_of_ble_eq_true rfl) rfl rfl <| ?_
      rw [(hf 136 (by decide)).1, ech]
      refine ra_icmp_ge (q := 59) A d_Di_take_35 (by decide) (fun cc => absurd cc (nI_ge hc (by omega))) (fun _ => ?_)
      refine ra_aload_n A d_Di_take_38 rfl <| ra_iload_n A d_Di_take_39 rfl <| ra_aload_n A d_Di_take_40 rfl <| ra_getR A f_Di_28 d_Di_take_41 (Nat.le_of_ble_eq_true rfl) rfl rfl rfl <| ra_iload A d_Di_take_44 rfl <| ?_
      refine ra_aaload A d_Di_take_46 (Nat.le_of_ble_eq_true rfl) rfl rfl (vp_in_nI (by omega) (by decide)) (by rw [nI_clamp (by omega)]; exact (rf_137 c (by omega)).1) ?_
      refine ra_iload_n A d_Di_take_47 rfl <| ?_
      refine ra_iaload A d_Di_take_48 (show 138 + c < 157 by omega) (rf_137 c (by omega)).2 (vp_in_nI (by omega) (by decide)) ?_
      rw [nI_clamp (by omega), (hf (138 + c) (by simp; omega)).1]
      refine ra_i2l A d_Di_take_49 <| ?_
      refine ra_callV (As := [_, _]) A ok_Di_add l_Di_32 im_Di_add sl_Di_add d_Di_take_50 (Nat.le_of_ble_eq_true rfl) rfl rfl rfl (Nat.le_of_ble_eq_true rfl) (xr_of at0 (by decide)) (s_Di_add (n := (dp + 7) / 8) (by omega) (by have := hbig i c (by omega) (by omega); omega) hg (fun g2 f2 d2 => ?_))
      show xg x (y0 u) 0 0 53 _ _ g2
      refine ra_iinc (L' := [_, _, _, _, _, _]) A 1 d_Di_take_53 rfl (by decide) (by decide) rfl <| ra_goto (q := 29) A d_Di_take_56 (by decide) <| ?_
      rw [nI_1]
      refine ih2 g2 ⟨hf.trans f2, ?_⟩
      rw [mch_succ (sm := fun c i => h.1 (138 + c) i), ← List.append_assoc]
      exact d2
end S59
