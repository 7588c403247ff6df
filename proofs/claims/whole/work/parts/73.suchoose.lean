/-! SoundStream$Subframe: choose -/
/-- what a chosen subframe's fields say -/
def SI (g : xw_H) (k s n wd w : Nat) (t : Nat → Int32) (c : Nat × Nat × Nat) : Prop := g.1 k 2 = nI n ∧ g.1 k 3 = nI wd ∧ g.1 k 5 = nI c.2.1 ∧ g.1 k 6 = nI w ∧ (8 ≤ c.2.1 → g.1 k 4 = nI c.2.2) ∧ ∀ i, i < n → g.1 s i = t i
theorem SI.of {g g' : xw_H} {k s n wd w : Nat} {t : Nat → Int32} {c : Nat × Nat × Nat} (x : SI g k s n wd w t c) (h1 : g'.1 k = g.1 k) (h2 : g'.1 s = g.1 s) : SI g' k s n wd w t c := by
  unfold SI
  rw [h1, h2]
  exact x
def SF (h : xw_H) (k s : Nat) (sm : Nat → Int32) (n d : Nat) : Prop := SI h k s n (d - sW sm n) (sW sm n) (sT sm n) (sC sm n d) ∧ h.2 k 7 = lN (8 + sW sm n + (sC sm n d).1)
theorem SF.of {g g' : xw_H} {k s n d : Nat} {sm : Nat → Int32} (x : SF g k s sm n d) (h1 : g'.1 k = g.1 k) (h2 : g'.1 s = g.1 s) (h3 : g'.2 k = g.2 k) : SF g' k s sm n d := ⟨x.1.of h1 h2, by rw [h3]; exact x.2⟩
theorem fw.fr {S : List Nat} {h h' : xw_H} (f : fw h h') (h1 : ∀ k ∈ ZL, k ∈ S) (h2 : 88 ∈ S) : fr S h h' := fun k hk => f.1 k (fun q => hk (h1 k q)) (fun q => hk (q ▸ h2))
theorem fr1 {S : List Nat} {h h' : xw_H} (f : fr S h h') {k : Nat} (hk : k ∉ S) : h'.1 k = h.1 k := (f k hk).1
/-- samples of d bits -/
def inD (sm : Nat → Int32) (n d : Nat) : Prop := ∀ i, i < n → -(2 ^ (d - 1)) ≤ (sm i).toInt ∧ (sm i).toInt < 2 ^ (d - 1)
theorem inD.b {sm : Nat → Int32} {n d : Nat} (h : inD sm n d) (hd : d ≤ 25) : ∀ i, i < n → -(2 ^ 24) ≤ (sT sm n i).toInt ∧ (sT sm n i).toInt ≤ 2 ^ 24 := by
  intro i hi
  have h1 := h i hi
  have h2 : (2 : Int) ^ (d - 1) ≤ 2 ^ 24 := by
    have : 2 ^ (d - 1) ≤ 2 ^ 24 := Nat.pow_le_pow_right (n := 2) (by decide) (by omega)
    exact_mod_cast this
  exact sh_b (wz_lt _) (by decide) ⟨by omega, by omega⟩
theorem inD.w {sm : Nat → Int32} {n d : Nat} (h : inD sm n d) (hd0 : 1 ≤ d) (hd : d ≤ 25) : sW sm n < d := wz_d hd0 (by omega) h
theorem inD.dl {sm : Nat → Int32} {n d : Nat} (h : inD sm n d) (hd : d ≤ 25) {o : Nat} (ho : o ≤ 4) : ∀ i, o ≤ i → i < n → -2 ^ 28 ≤ (dl o (sT sm n) i).toInt ∧ (dl o (sT sm n) i).toInt ≤ 2 ^ 28 := by
  intro i h1 h2
  have h3 := dl_b (h.b hd) (by decide) o ho i h1 h2
  have h4 : o = 0 ∨ o = 1 ∨ o = 2 ∨ o = 3 ∨ o = 4 := by omega
  rcases h4 with rfl | rfl | rfl | rfl | rfl <;> omega
section S73
variable {u : xu_T} {l : Launch} {KK : State → Prop} {h : xw_H} {X : xc_R → xw_H → Nat → Nat → Prop}
theorem s_Su_choose_124 (K : xk_ok u KK) {n d : Nat} {sm : Nat → Int32} (hn : n ≤ 1024) (hd0 : 1 ≤ d) (hd : d ≤ 25) (es : ∀ i, i < n → h.1 125 i = sm i) (hb : inD sm n d)
    (hX : ∀ h', fr (124 :: 125 :: 88 :: 89 :: ZL) h h' → SF h' 124 125 sm n d → X (.inl none) h' 0 0) : xm_M l (y0 u) KK m_Su_choose [.ref 124, .int (nI n), .int (nI d)] h X := by
  refine xm_of [none, none, none, none, none, none] (by simp) (Nat.le_of_ble_eq_true rfl) (by decide) (fun x at0 => ?_)
  have A := xa_of at0 K
  have ow := at0.2.2.2.2.1
  have hw := hb.w hd0 hd
  refine ra_aload_n A d_Su_choose_0 rfl <| ra_iload_n A d_Su_choose_1 rfl <| ra_putI (ty := .int) A f_Su_19 rfl rfl (by decide +kernel) rfl rfl d_Su_choose_2 (Nat.le_of_ble_eq_true rfl) rfl rfl <| ra_aload_n A d_Su_choose_5 rfl <| ?_
  refine ra_callV (As := []) A ok_Su_dropZeros l_Su_23 im_Su_dropZeros sl_Su_dropZeros d_Su_choose_6 (Nat.le_of_ble_eq_true rfl) rfl rfl rfl (Nat.le_of_ble_eq_true rfl) (xr_of at0 (by decide)) (s_Su_dropZeros_124 K (sm := sm) hn xI_e (fun i hi => by rw [xI_k (by decide)]; exact es i hi) (fun g1 a1 a2 a3 a4 a5 => ?_))
  show xg x (y0 u) 0 0 9 _ _ g1
  have f1 : fr (124 :: 125 :: 88 :: 89 :: ZL) h g1 := fun c hc => by
    have c1 : c ≠ 124 := fun q => hc (by rw [q]; decide)
    have c2 : c ≠ 125 := fun q => hc (by rw [q]; decide)
    exact ⟨(a2 c c1 c2).trans (xI_k c1), by rw [a1]; rfl⟩
  have a2' : g1.1 124 2 = nI n := (a3 2 (by decide)).trans xI_e
  refine ra_istore_n (L' := [_, _, _, _, _, _, _, _, _]) A d_Su_choose_9 (by decide) rfl <| ra_aload_n A d_Su_choose_10 rfl <| ra_iload_n A d_Su_choose_11 rfl <| ra_aload_n A d_Su_choose_12 rfl <| ra_getI A f_Su_27 d_Su_choose_13 (Nat.le_of_ble_eq_true rfl) rfl rfl <| ?_
  rw [a4]
  refine ra_isub A d_Su_choose_16 <| ?_
  rw [pk_sub (Nat.le_of_lt hw)]
  have hC : sC sm n d = ch (sT sm n) (alB sm n) (d - sW sm n) n (min 5 n) := rfl
  unfold SF at hX
  rw [hC] at hX
  have hdl := fun o ho => hb.dl hd (o := o) ho
  generalize hwd : d - sW sm n = wd at hX ⊢
  generalize hww : sW sm n = w at hX a4 hw hwd
  generalize htt : sT sm n = t at hX a5 hdl
  generalize hal : alB sm n = al at hX ⊢
  have hcb : ∀ o, (ch t al wd n o).1 < 2 ^ 31 := by
    intro o
    have h1 := ch_le (t := t) (al := al) (wd := wd) (n := n) o
    have h2 : wd * n ≤ 25 * 1024 := Nat.mul_le_mul (by omega) hn
    split at h1 <;> omega
  have main : xg x (y0 u) 0 0 55 [some (.ref 124), some (.int (nI n)), some (.int (nI d)), some (.int (bz al)), some (.long (lN (ch t al wd n 0).1)), none, none, none, none] [] (xw_I (xw_I g1 124 3 (nI wd)) 124 5 (nI (ch t al wd n 0).2.1)) := by
    refine ra_aload_n A d_Su_choose_55 rfl <| ra_getR A f_Su_15 d_Su_choose_56 (Nat.le_of_ble_eq_true rfl) rfl rfl rfl <| ra_aload_n A d_Su_choose_59 rfl <| ra_getR A f_Su_9 d_Su_choose_60 (Nat.le_of_ble_eq_true rfl) rfl rfl rfl <| ra_iload_n A d_Su_choose_63 rfl <| ?_
    refine ra_callV (As := [_, _]) A ok_Re_begin l_Su_36 im_Re_begin sl_Re_begin d_Su_choose_64 (Nat.le_of_ble_eq_true rfl) rfl rfl rfl (Nat.le_of_ble_eq_true rfl) (xr_of at0 (by decide)) (s_Re_begin K (c := 125) (n := n) (by decide) rfl hn (fun g2 f2 R2 => ?_))
    show xg x (y0 u) 0 0 67 _ _ g2
    refine ra_iconst A 0 d_Su_choose_67 (by decide) <| ra_istore (L' := [_, _, _, _, _, _, _, _, _]) A d_Su_choose_68 (by decide) rfl <| ?_
    refine lp_up (σ := xw_H) (W := fun o g => ∀ v1 v2, xg x (y0 u) 0 0 70 [some (.ref 124), some (.int (nI n)), some (.int (nI d)), some (.int (bz al)), some (.long (lN (ch t al wd n o).1)), none, some (.int (nI o)), v1, v2] [] g) (I := fun o g => fr (124 :: 125 :: 88 :: 89 :: ZL) h g ∧ SI g 124 125 n wd w t (ch t al wd n o) ∧ RS g n (o - 1) (dl (o - 1) t)) (min 5 n) ?_ ?_ 0 g2 (Nat.zero_le _) ⟨?_, ?_, ?_⟩ none none
    · rintro g ⟨hf, hS, hR⟩ v1 v2
      have fin : xg x (y0 u) 0 0 151 [some (.ref 124), some (.int (nI n)), some (.int (nI d)), some (.int (bz al)), some (.long (lN (ch t al wd n (min 5 n)).1)), none, some (.int (nI (min 5 n))), v1, v2] [] g := by
        refine ra_aload_n A d_Su_choose_151 rfl <| ra_bipush A 8 d_Su_choose_152 (by decide) <| ra_aload_n A d_Su_choose_154 rfl <| ra_getI A f_Su_27 d_Su_choose_155 (Nat.le_of_ble_eq_true rfl) rfl rfl <| ?_
        rw [hS.2.2.2.1]
        refine ra_iadd A d_Su_choose_158 <| ?_
        rw [show (8 : Int32) + nI w = nI (8 + w) from nI_add 8 w]
        refine ra_i2l A d_Su_choose_159 <| ?_
        rw [nI_l (by omega)]
        refine ra_lload A d_Su_choose_160 rfl <| ra_ladd A d_Su_choose_162 <| ?_
        rw [lN_add]
        refine ra_putJ A f_Su_53 rfl rfl (by decide +kernel) d_Su_choose_163 (Nat.le_of_ble_eq_true rfl) rfl rfl <| ?_
        exact ra_vret A ow d_Su_choose_166 (hX _ (hf.J (by decide)) ⟨hS.of rfl rfl, xJ_e⟩)
      refine ra_iload A d_Su_choose_70 rfl <| ra_iconst A 4 d_Su_choose_72 (by decide) <| ?_
      by_cases c : 5 ≤ n
      · refine ra_icmp_gt (q := 151) A d_Su_choose_73 (by decide) (fun _ => ?_) (fun cc => absurd ((by rw [Nat.min_eq_left c]; decide)) cc)
        exact fin
      · refine ra_icmp_gt (q := 151) A d_Su_choose_73 (by decide) (fun cc => absurd cc ((by rw [Nat.min_eq_right (by omega)]; exact Int32.not_lt.mpr (nI_le (b := 4) (by omega) (by decide))))) (fun _ => ?_)
        refine ra_iload A d_Su_choose_76 rfl <| ra_iload_n A d_Su_choose_78 rfl <| ?_
        refine ra_icmp_ge (q := 151) A d_Su_choose_79 (by decide) (fun _ => ?_) (fun cc => absurd ((by rw [Nat.min_eq_right (by omega)]; exact Int32.le_refl _)) cc)
        exact fin
    · rintro o g ho ⟨hf, hS, hR⟩ ih v1 v2
      have ho1 : o < n := by omega
      have ho4 : o ≤ 4 := by omega
      have at94 : ∀ g, fr (124 :: 125 :: 88 :: 89 :: ZL) h g → SI g 124 125 n wd w t (ch t al wd n o) → RS g n o (dl o t) → xg x (y0 u) 0 0 94 [some (.ref 124), some (.int (nI n)), some (.int (nI d)), some (.int (bz al)), some (.long (lN (ch t al wd n o).1)), none, some (.int (nI o)), v1, v2] [] g := by
        clear hf hS hR g
        intro g hf hS hR
        refine ra_aload_n A d_Su_choose_94 rfl <| ra_getI A f_Su_30 d_Su_choose_95 (Nat.le_of_ble_eq_true rfl) rfl rfl <| ?_
        rw [hS.2.1]
        refine ra_i2l A d_Su_choose_98 <| ?_
        rw [nI_l (by omega)]
        refine ra_iload A d_Su_choose_99 rfl <| ra_i2l A d_Su_choose_101 <| ?_
        rw [nI_l (by omega)]
        refine ra_lmul A d_Su_choose_102 <| ?_
        rw [lN_mul]
        refine ra_aload_n A d_Su_choose_103 rfl <| ra_getR A f_Su_15 d_Su_choose_104 (Nat.le_of_ble_eq_true rfl) rfl rfl rfl <| ?_
        refine ra_callV (As := []) A ok_Re_weigh l_Su_45 im_Re_weigh sl_Re_weigh d_Su_choose_107 (Nat.le_of_ble_eq_true rfl) rfl rfl rfl (Nat.le_of_ble_eq_true rfl) (xr_of at0 (by decide)) (s_Re_weigh K hn ho1 hR (hdl o ho4) (fun g3 F hF fF nF f3 q3 => ?_))
        show xg x (y0 u) 0 0 110 _ _ g3
        obtain rfl : F = finq o n := finq_eq hF fF nF
        rw [show rcost (fun i => fdN (dl o t i)) o n (amin (rcost (fun i => fdN (dl o t i)) o n) (finq o n)) = wcost t o n from rfl]
        rw [show amin (rcost (fun i => fdN (dl o t i)) o n) (finq o n) = bq t o n from rfl] at q3
        have hwb : wcost t o n < 2 ^ 21 := rcost_le hn (Nat.le_trans (amin_LM _ _).1 hF) (pfit_le fF (amin_LM _ _).1) (fun i h1 h2 => by have := fdN_lt (hdl o ho4 i h1 h2); omega)
        have hwo : wd * o ≤ 25 * 4 := Nat.mul_le_mul (by omega) ho4
        have f3' : fr (124 :: 125 :: 88 :: 89 :: ZL) h g3 := hf.trans (f3.fr (by decide) (by decide))
        have S3 := hS.of (f3.1 124 (by decide) (by decide)).1 (f3.1 125 (by decide) (by decide)).1
        have R3 : RS g3 n o (dl o t) := ⟨by rw [f3.2.1 3 (by decide)]; exact hR.1, by rw [f3.2.1 4 (by decide)]; exact hR.2.1, fun i h1 h2 => by rw [(f3.1 89 (by decide) (by decide)).1]; exact hR.2.2 i h1 h2⟩
        refine ra_ladd A d_Su_choose_110 <| ?_
        rw [lN_add]
        refine ra_lstore (L' := [_, _, _, _, _, _, _, _, _]) A d_Su_choose_111 (by decide) rfl <| ra_lload A d_Su_choose_113 rfl <| ra_lload A d_Su_choose_115 rfl <| ra_lcmp A d_Su_choose_117 <| ?_
        by_cases c : wd * o + wcost t o n < (ch t al wd n o).1
        · refine ra_if_ge (q := 145) A d_Su_choose_118 (by decide) (fun cc => absurd cc (fun z => absurd ((pk_lLE (by have := hcb o; omega) (by omega)).mp (lc_ge.mp z)) (by omega))) (fun _ => ?_)
          have e : ch t al wd n (o + 1) = (wd * o + wcost t o n, 8 + o, bq t o n) := by rw [ch, if_pos c]
          rw [e] at ih
          refine ra_lload A d_Su_choose_121 rfl <| ra_lstore (L' := [_, _, _, _, _, _, _, _, _]) A d_Su_choose_123 (by decide) rfl <| ra_aload_n A d_Su_choose_125 rfl <| ra_bipush A 8 d_Su_choose_126 (by decide) <| ra_iload A d_Su_choose_128 rfl <| ra_iadd A d_Su_choose_130 <| ?_
          rw [show (8 : Int32) + nI o = nI (8 + o) from nI_add 8 o]
          refine ra_putI (ty := .int) A f_Su_33 rfl rfl (by decide +kernel) rfl rfl d_Su_choose_131 (Nat.le_of_ble_eq_true rfl) rfl rfl <| ra_aload_n A d_Su_choose_134 rfl <| ra_aload_n A d_Su_choose_135 rfl <| ra_getR A f_Su_15 d_Su_choose_136 (Nat.le_of_ble_eq_true rfl) rfl rfl rfl <| ra_getI A f_Su_49 d_Su_choose_139 (Nat.le_of_ble_eq_true rfl) rfl rfl <| ?_
          rw [xI_k (by decide), q3]
          refine ra_putI (ty := .int) A f_Su_52 rfl rfl (by decide +kernel) rfl rfl d_Su_choose_142 (Nat.le_of_ble_eq_true rfl) rfl rfl <| ra_iinc (L' := [_, _, _, _, _, _, _, _, _]) A 1 d_Su_choose_145 rfl (by decide) (by decide) rfl <| ra_goto (q := 70) A d_Su_choose_148 (by decide) <| ?_
          rw [nI_1]
          refine ih _ ⟨(f3'.I (by decide)).I (by decide), ⟨?_, ?_, ?_, ?_, fun _ => xI_e, fun i hi => ?_⟩, ?_⟩ _ _
          · rw [xI_j (by decide), xI_j (by decide)]; exact S3.1
          · rw [xI_j (by decide), xI_j (by decide)]; exact S3.2.1
          · rw [xI_j (by decide), xI_e]
          · rw [xI_j (by decide), xI_j (by decide)]; exact S3.2.2.2.1
          · rw [xI_k (by decide), xI_k (by decide)]; exact S3.2.2.2.2.2 i hi
          · refine ⟨?_, ?_, fun i h1 h2 => ?_⟩
            · rw [xI_k (by decide), xI_k (by decide)]; exact R3.1
            · rw [xI_k (by decide), xI_k (by decide)]; exact R3.2.1
            · rw [xI_k (by decide), xI_k (by decide)]; exact R3.2.2 i h1 h2
        · refine ra_if_ge (q := 145) A d_Su_choose_118 (by decide) (fun _ => ?_) (fun cc => absurd (lc_ge.mpr ((pk_lLE (by have := hcb o; omega) (by omega)).mpr (by omega))) cc)
          have e : ch t al wd n (o + 1) = ch t al wd n o := by rw [ch, if_neg c]
          rw [e] at ih
          refine ra_iinc (L' := [_, _, _, _, _, _, _, _, _]) A 1 d_Su_choose_145 rfl (by decide) (by decide) rfl <| ra_goto (q := 70) A d_Su_choose_148 (by decide) <| ?_
          rw [nI_1]
          exact ih g3 ⟨f3', S3, R3⟩ _ _
      refine ra_iload A d_Su_choose_70 rfl <| ra_iconst A 4 d_Su_choose_72 (by decide) <| ?_
      refine ra_icmp_gt (q := 151) A d_Su_choose_73 (by decide) (fun cc => absurd cc (Int32.not_lt.mpr (nI_le (b := 4) ho4 (by decide)))) (fun _ => ?_)
      refine ra_iload A d_Su_choose_76 rfl <| ra_iload_n A d_Su_choose_78 rfl <| ?_
      refine ra_icmp_ge (q := 151) A d_Su_choose_79 (by decide) (fun cc => absurd cc (nI_ge ho1 (by omega))) (fun _ => ?_)
      refine ra_iload A d_Su_choose_82 rfl <| ?_
      by_cases c : o = 0
      · subst c
        refine ra_if_le (q := 94) A d_Su_choose_84 (by decide) (fun _ => ?_) (fun cc => absurd ((by decide)) cc)
        exact at94 g hf hS hR
      · refine ra_if_le (q := 94) A d_Su_choose_84 (by decide) (fun cc => absurd cc (nI_nle (by omega) (by omega))) (fun _ => ?_)
        refine ra_aload_n A d_Su_choose_87 rfl <| ra_getR A f_Su_15 d_Su_choose_88 (Nat.le_of_ble_eq_true rfl) rfl rfl rfl <| ?_
        refine ra_callV (As := []) A ok_Re_raiseOrder l_Su_42 im_Re_raiseOrder sl_Re_raiseOrder d_Su_choose_91 (Nat.le_of_ble_eq_true rfl) rfl rfl rfl (Nat.le_of_ble_eq_true rfl) (xr_of at0 (by decide)) (s_Re_raiseOrder K hn (show o - 1 < n by omega) hR (fun g3 f3 R3 => ?_))
        show xg x (y0 u) 0 0 94 _ _ g3
        refine at94 g3 (hf.trans (f3.mono (by decide))) (hS.of (fr1 f3 (by decide)) (fr1 f3 (by decide))) ?_
        obtain ⟨o', rfl⟩ : ∃ o', o = o' + 1 := ⟨o - 1, by omega⟩
        exact R3
    · exact ((f1.I (by decide)).I (by decide)).trans (f2.mono (by decide))
    · have e1 := fr1 f2 (show 124 ∉ [88, 89] by decide)
      have e2 := fr1 f2 (show 125 ∉ [88, 89] by decide)
      unfold SI
      rw [e1, e2]
      refine ⟨?_, ?_, xI_e, ?_, fun q => ?_, fun i hi => ?_⟩
      · rw [xI_j (by decide), xI_j (by decide)]; exact a2'
      · rw [xI_j (by decide), xI_e]
      · rw [xI_j (by decide), xI_j (by decide)]; exact a4
      · unfold ch at q
        dsimp only at q
        split at q <;> omega
      · rw [xI_k (by decide), xI_k (by decide)]; exact a5 i hi
    · refine ⟨R2.1, R2.2.1, fun i h1 h2 => ?_⟩
      rw [R2.2.2 i h1 h2, xI_k (by decide), xI_k (by decide)]
      exact a5 i h2
  refine ra_putI (ty := .int) A f_Su_30 rfl rfl (by decide +kernel) rfl rfl d_Su_choose_17 (Nat.le_of_ble_eq_true rfl) rfl rfl <| ra_aload_n A d_Su_choose_20 rfl <| ra_iload_n A d_Su_choose_21 rfl <| ?_
  cases al
  · refine ra_if_eq (q := 29) A d_Su_choose_22 (by decide) (fun _ => ?_) (fun cc => absurd (rfl) cc)
    refine ra_iconst A 1 d_Su_choose_29 (by decide) <| ra_putI (ty := .int) A f_Su_33 rfl rfl (by decide +kernel) rfl rfl d_Su_choose_30 (Nat.le_of_ble_eq_true rfl) rfl rfl <| ra_iload_n A d_Su_choose_33 rfl <| ?_
    refine ra_if_eq (q := 45) A d_Su_choose_34 (by decide) (fun _ => ?_) (fun cc => absurd (rfl) cc)
    refine ra_aload_n A d_Su_choose_45 rfl <| ra_getI A f_Su_30 d_Su_choose_46 (Nat.le_of_ble_eq_true rfl) rfl rfl <| ?_
    rw [xI_j (by decide), xI_e]
    refine ra_i2l A d_Su_choose_49 <| ?_
    rw [nI_l (by omega)]
    refine ra_iload_n A d_Su_choose_50 rfl <| ra_i2l A d_Su_choose_51 <| ?_
    rw [nI_l (by omega)]
    refine ra_lmul A d_Su_choose_52 <| ?_
    rw [lN_mul]
    refine ra_lstore (L' := [_, _, _, _, _, _, _, _, _]) A d_Su_choose_53 (by decide) rfl <| ?_
    exact main
  · refine ra_if_eq (q := 29) A d_Su_choose_22 (by decide) (fun cc => absurd cc ((by decide))) (fun _ => ?_)
    refine ra_iconst A 0 d_Su_choose_25 (by decide) <| ra_goto (q := 30) A d_Su_choose_26 (by decide) <| ra_putI (ty := .int) A f_Su_33 rfl rfl (by decide +kernel) rfl rfl d_Su_choose_30 (Nat.le_of_ble_eq_true rfl) rfl rfl <| ra_iload_n A d_Su_choose_33 rfl <| ?_
    refine ra_if_eq (q := 45) A d_Su_choose_34 (by decide) (fun cc => absurd cc ((by decide))) (fun _ => ?_)
    refine ra_aload_n A d_Su_choose_37 rfl <| ra_getI A f_Su_30 d_Su_choose_38 (Nat.le_of_ble_eq_true rfl) rfl rfl <| ?_
    rw [xI_j (by decide), xI_e]
    refine ra_i2l A d_Su_choose_41 <| ?_
    rw [nI_l (by omega)]
    refine ra_goto (q := 53) A d_Su_choose_42 (by decide) <| ra_lstore (L' := [_, _, _, _, _, _, _, _, _]) A d_Su_choose_53 (by decide) rfl <| ?_
    exact main
theorem s_Su_choose_126 (K : xk_ok u KK) {n d : Nat} {sm : Nat → Int32} (hn : n ≤ 1024) (hd0 : 1 ≤ d) (hd : d ≤ 25) (es : ∀ i, i < n → h.1 127 i = sm i) (hb : inD sm n d)
    (hX : ∀ h', fr (126 :: 127 :: 88 :: 89 :: ZL) h h' → SF h' 126 127 sm n d → X (.inl none) h' 0 0) : xm_M l (y0 u) KK m_Su_choose [.ref 126, .int (nI n), .int (nI d)] h X := by
  refine xm_of [none, none, none, none, none, none] (by simp) (Nat.le_of_ble_eq_true rfl) (by decide) (fun x at0 => ?_)
  have A := xa_of at0 K
  have ow := at0.2.2.2.2.1
  have hw := hb.w hd0 hd
  refine ra_aload_n A d_Su_choose_0 rfl <| ra_iload_n A d_Su_choose_1 rfl <| ra_putI (ty := .int) A f_Su_19 rfl rfl (by decide +kernel) rfl rfl d_Su_choose_2 (Nat.le_of_ble_eq_true rfl) rfl rfl <| ra_aload_n A d_Su_choose_5 rfl <| ?_
  refine ra_callV (As := []) A ok_Su_dropZeros l_Su_23 im_Su_dropZeros sl_Su_dropZeros d_Su_choose_6 (Nat.le_of_ble_eq_true rfl) rfl rfl rfl (Nat.le_of_ble_eq_true rfl) (xr_of at0 (by decide)) (s_Su_dropZeros_126 K (sm := sm) hn xI_e (fun i hi => by rw [xI_k (by decide)]; exact es i hi) (fun g1 a1 a2 a3 a4 a5 => ?_))
  show xg x (y0 u) 0 0 9 _ _ g1
  have f1 : fr (126 :: 127 :: 88 :: 89 :: ZL) h g1 := fun c hc => by
    have c1 : c ≠ 126 := fun q => hc (by rw [q]; decide)
    have c2 : c ≠ 127 := fun q => hc (by rw [q]; decide)
    exact ⟨(a2 c c1 c2).trans (xI_k c1), by rw [a1]; rfl⟩
  have a2' : g1.1 126 2 = nI n := (a3 2 (by decide)).trans xI_e
  refine ra_istore_n (L' := [_, _, _, _, _, _, _, _, _]) A d_Su_choose_9 (by decide) rfl <| ra_aload_n A d_Su_choose_10 rfl <| ra_iload_n A d_Su_choose_11 rfl <| ra_aload_n A d_Su_choose_12 rfl <| ra_getI A f_Su_27 d_Su_choose_13 (Nat.le_of_ble_eq_true rfl) rfl rfl <| ?_
  rw [a4]
  refine ra_isub A d_Su_choose_16 <| ?_
  rw [pk_sub (Nat.le_of_lt hw)]
  have hC : sC sm n d = ch (sT sm n) (alB sm n) (d - sW sm n) n (min 5 n) := rfl
  unfold SF at hX
  rw [hC] at hX
  have hdl := fun o ho => hb.dl hd (o := o) ho
  generalize hwd : d - sW sm n = wd at hX ⊢
  generalize hww : sW sm n = w at hX a4 hw hwd
  generalize htt : sT sm n = t at hX a5 hdl
  generalize hal : alB sm n = al at hX ⊢
  have hcb : ∀ o, (ch t al wd n o).1 < 2 ^ 31 := by
    intro o
    have h1 := ch_le (t := t) (al := al) (wd := wd) (n := n) o
    have h2 : wd * n ≤ 25 * 1024 := Nat.mul_le_mul (by omega) hn
    split at h1 <;> omega
  have main : xg x (y0 u) 0 0 55 [some (.ref 126), some (.int (nI n)), some (.int (nI d)), some (.int (bz al)), some (.long (lN (ch t al wd n 0).1)), none, none, none, none] [] (xw_I (xw_I g1 126 3 (nI wd)) 126 5 (nI (ch t al wd n 0).2.1)) := by
    refine ra_aload_n A d_Su_choose_55 rfl <| ra_getR A f_Su_15 d_Su_choose_56 (Nat.le_of_ble_eq_true rfl) rfl rfl rfl <| ra_aload_n A d_Su_choose_59 rfl <| ra_getR A f_Su_9 d_Su_choose_60 (Nat.le_of_ble_eq_true rfl) rfl rfl rfl <| ra_iload_n A d_Su_choose_63 rfl <| ?_
    refine ra_callV (As := [_, _]) A ok_Re_begin l_Su_36 im_Re_begin sl_Re_begin d_Su_choose_64 (Nat.le_of_ble_eq_true rfl) rfl rfl rfl (Nat.le_of_ble_eq_true rfl) (xr_of at0 (by decide)) (s_Re_begin K (c := 127) (n := n) (by decide) rfl hn (fun g2 f2 R2 => ?_))
    show xg x (y0 u) 0 0 67 _ _ g2
    refine ra_iconst A 0 d_Su_choose_67 (by decide) <| ra_istore (L' := [_, _, _, _, _, _, _, _, _]) A d_Su_choose_68 (by decide) rfl <| ?_
    refine lp_up (σ := xw_H) (W := fun o g => ∀ v1 v2, xg x (y0 u) 0 0 70 [some (.ref 126), some (.int (nI n)), some (.int (nI d)), some (.int (bz al)), some (.long (lN (ch t al wd n o).1)), none, some (.int (nI o)), v1, v2] [] g) (I := fun o g => fr (126 :: 127 :: 88 :: 89 :: ZL) h g ∧ SI g 126 127 n wd w t (ch t al wd n o) ∧ RS g n (o - 1) (dl (o - 1) t)) (min 5 n) ?_ ?_ 0 g2 (Nat.zero_le _) ⟨?_, ?_, ?_⟩ none none
    · rintro g ⟨hf, hS, hR⟩ v1 v2
      have fin : xg x (y0 u) 0 0 151 [some (.ref 126), some (.int (nI n)), some (.int (nI d)), some (.int (bz al)), some (.long (lN (ch t al wd n (min 5 n)).1)), none, some (.int (nI (min 5 n))), v1, v2] [] g := by
        refine ra_aload_n A d_Su_choose_151 rfl <| ra_bipush A 8 d_Su_choose_152 (by decide) <| ra_aload_n A d_Su_choose_154 rfl <| ra_getI A f_Su_27 d_Su_choose_155 (Nat.le_of_ble_eq_true rfl) rfl rfl <| ?_
        rw [hS.2.2.2.1]
        refine ra_iadd A d_Su_choose_158 <| ?_
        rw [show (8 : Int32) + nI w = nI (8 + w) from nI_add 8 w]
        refine ra_i2l A d_Su_choose_159 <| ?_
        rw [nI_l (by omega)]
        refine ra_lload A d_Su_choose_160 rfl <| ra_ladd A d_Su_choose_162 <| ?_
        rw [lN_add]
        refine ra_putJ A f_Su_53 rfl rfl (by decide +kernel) d_Su_choose_163 (Nat.le_of_ble_eq_true rfl) rfl rfl <| ?_
        exact ra_vret A ow d_Su_choose_166 (hX _ (hf.J (by decide)) ⟨hS.of rfl rfl, xJ_e⟩)
      refine ra_iload A d_Su_choose_70 rfl <| ra_iconst A 4 d_Su_choose_72 (by decide) <| ?_
      by_cases c : 5 ≤ n
      · refine ra_icmp_gt (q := 151) A d_Su_choose_73 (by decide) (fun _ => ?_) (fun cc => absurd ((by rw [Nat.min_eq_left c]; decide)) cc)
        exact fin
      · refine ra_icmp_gt (q := 151) A d_Su_choose_73 (by decide) (fun cc => absurd cc ((by rw [Nat.min_eq_right (by omega)]; exact Int32.not_lt.mpr (nI_le (b := 4) (by omega) (by decide))))) (fun _ => ?_)
        refine ra_iload A d_Su_choose_76 rfl <| ra_iload_n A d_Su_choose_78 rfl <| ?_
        refine ra_icmp_ge (q := 151) A d_Su_choose_79 (by decide) (fun _ => ?_) (fun cc => absurd ((by rw [Nat.min_eq_right (by omega)]; exact Int32.le_refl _)) cc)
        exact fin
    · rintro o g ho ⟨hf, hS, hR⟩ ih v1 v2
      have ho1 : o < n := by omega
      have ho4 : o ≤ 4 := by omega
      have at94 : ∀ g, fr (126 :: 127 :: 88 :: 89 :: ZL) h g → SI g 126 127 n wd w t (ch t al wd n o) → RS g n o (dl o t) → xg x (y0 u) 0 0 94 [some (.ref 126), some (.int (nI n)), some (.int (nI d)), some (.int (bz al)), some (.long (lN (ch t al wd n o).1)), none, some (.int (nI o)), v1, v2] [] g := by
        clear hf hS hR g
        intro g hf hS hR
        refine ra_aload_n A d_Su_choose_94 rfl <| ra_getI A f_Su_30 d_Su_choose_95 (Nat.le_of_ble_eq_true rfl) rfl rfl <| ?_
        rw [hS.2.1]
        refine ra_i2l A d_Su_choose_98 <| ?_
        rw [nI_l (by omega)]
        refine ra_iload A d_Su_choose_99 rfl <| ra_i2l A d_Su_choose_101 <| ?_
        rw [nI_l (by omega)]
        refine ra_lmul A d_Su_choose_102 <| ?_
        rw [lN_mul]
        refine ra_aload_n A d_Su_choose_103 rfl <| ra_getR A f_Su_15 d_Su_choose_104 (Nat.le_of_ble_eq_true rfl) rfl rfl rfl <| ?_
        refine ra_callV (As := []) A ok_Re_weigh l_Su_45 im_Re_weigh sl_Re_weigh d_Su_choose_107 (Nat.le_of_ble_eq_true rfl) rfl rfl rfl (Nat.le_of_ble_eq_true rfl) (xr_of at0 (by decide)) (s_Re_weigh K hn ho1 hR (hdl o ho4) (fun g3 F hF fF nF f3 q3 => ?_))
        show xg x (y0 u) 0 0 110 _ _ g3
        obtain rfl : F = finq o n := finq_eq hF fF nF
        rw [show rcost (fun i => fdN (dl o t i)) o n (amin (rcost (fun i => fdN (dl o t i)) o n) (finq o n)) = wcost t o n from rfl]
        rw [show amin (rcost (fun i => fdN (dl o t i)) o n) (finq o n) = bq t o n from rfl] at q3
        have hwb : wcost t o n < 2 ^ 21 := rcost_le hn (Nat.le_trans (amin_LM _ _).1 hF) (pfit_le fF (amin_LM _ _).1) (fun i h1 h2 => by have := fdN_lt (hdl o ho4 i h1 h2); omega)
        have hwo : wd * o ≤ 25 * 4 := Nat.mul_le_mul (by omega) ho4
        have f3' : fr (126 :: 127 :: 88 :: 89 :: ZL) h g3 := hf.trans (f3.fr (by decide) (by decide))
        have S3 := hS.of (f3.1 126 (by decide) (by decide)).1 (f3.1 127 (by decide) (by decide)).1
        have R3 : RS g3 n o (dl o t) := ⟨by rw [f3.2.1 3 (by decide)]; exact hR.1, by rw [f3.2.1 4 (by decide)]; exact hR.2.1, fun i h1 h2 => by rw [(f3.1 89 (by decide) (by decide)).1]; exact hR.2.2 i h1 h2⟩
        refine ra_ladd A d_Su_choose_110 <| ?_
        rw [lN_add]
        refine ra_lstore (L' := [_, _, _, _, _, _, _, _, _]) A d_Su_choose_111 (by decide) rfl <| ra_lload A d_Su_choose_113 rfl <| ra_lload A d_Su_choose_115 rfl <| ra_lcmp A d_Su_choose_117 <| ?_
        by_cases c : wd * o + wcost t o n < (ch t al wd n o).1
        · refine ra_if_ge (q := 145) A d_Su_choose_118 (by decide) (fun cc => absurd cc (fun z => absurd ((pk_lLE (by have := hcb o; omega) (by omega)).mp (lc_ge.mp z)) (by omega))) (fun _ => ?_)
          have e : ch t al wd n (o + 1) = (wd * o + wcost t o n, 8 + o, bq t o n) := by rw [ch, if_pos c]
          rw [e] at ih
          refine ra_lload A d_Su_choose_121 rfl <| ra_lstore (L' := [_, _, _, _, _, _, _, _, _]) A d_Su_choose_123 (by decide) rfl <| ra_aload_n A d_Su_choose_125 rfl <| ra_bipush A 8 d_Su_choose_126 (by decide) <| ra_iload A d_Su_choose_128 rfl <| ra_iadd A d_Su_choose_130 <| ?_
          rw [show (8 : Int32) + nI o = nI (8 + o) from nI_add 8 o]
          refine ra_putI (ty := .int) A f_Su_33 rfl rfl (by decide +kernel) rfl rfl d_Su_choose_131 (Nat.le_of_ble_eq_true rfl) rfl rfl <| ra_aload_n A d_Su_choose_134 rfl <| ra_aload_n A d_Su_choose_135 rfl <| ra_getR A f_Su_15 d_Su_choose_136 (Nat.le_of_ble_eq_true rfl) rfl rfl rfl <| ra_getI A f_Su_49 d_Su_choose_139 (Nat.le_of_ble_eq_true rfl) rfl rfl <| ?_
          rw [xI_k (by decide), q3]
          refine ra_putI (ty := .int) A f_Su_52 rfl rfl (by decide +kernel) rfl rfl d_Su_choose_142 (Nat.le_of_ble_eq_true rfl) rfl rfl <| ra_iinc (L' := [_, _, _, _, _, _, _, _, _]) A 1 d_Su_choose_145 rfl (by decide) (by decide) rfl <| ra_goto (q := 70) A d_Su_choose_148 (by decide) <| ?_
          rw [nI_1]
          refine ih _ ⟨(f3'.I (by decide)).I (by decide), ⟨?_, ?_, ?_, ?_, fun _ => xI_e, fun i hi => ?_⟩, ?_⟩ _ _
          · rw [xI_j (by decide), xI_j (by decide)]; exact S3.1
          · rw [xI_j (by decide), xI_j (by decide)]; exact S3.2.1
          · rw [xI_j (by decide), xI_e]
          · rw [xI_j (by decide), xI_j (by decide)]; exact S3.2.2.2.1
          · rw [xI_k (by decide), xI_k (by decide)]; exact S3.2.2.2.2.2 i hi
          · refine ⟨?_, ?_, fun i h1 h2 => ?_⟩
            · rw [xI_k (by decide), xI_k (by decide)]; exact R3.1
            · rw [xI_k (by decide), xI_k (by decide)]; exact R3.2.1
            · rw [xI_k (by decide), xI_k (by decide)]; exact R3.2.2 i h1 h2
        · refine ra_if_ge (q := 145) A d_Su_choose_118 (by decide) (fun _ => ?_) (fun cc => absurd (lc_ge.mpr ((pk_lLE (by have := hcb o; omega) (by omega)).mpr (by omega))) cc)
          have e : ch t al wd n (o + 1) = ch t al wd n o := by rw [ch, if_neg c]
          rw [e] at ih
          refine ra_iinc (L' := [_, _, _, _, _, _, _, _, _]) A 1 d_Su_choose_145 rfl (by decide) (by decide) rfl <| ra_goto (q := 70) A d_Su_choose_148 (by decide) <| ?_
          rw [nI_1]
          exact ih g3 ⟨f3', S3, R3⟩ _ _
      refine ra_iload A d_Su_choose_70 rfl <| ra_iconst A 4 d_Su_choose_72 (by decide) <| ?_
      refine ra_icmp_gt (q := 151) A d_Su_choose_73 (by decide) (fun cc => absurd cc (Int32.not_lt.mpr (nI_le (b := 4) ho4 (by decide)))) (fun _ => ?_)
      refine ra_iload A d_Su_choose_76 rfl <| ra_iload_n A d_Su_choose_78 rfl <| ?_
      refine ra_icmp_ge (q := 151) A d_Su_choose_79 (by decide) (fun cc => absurd cc (nI_ge ho1 (by omega))) (fun _ => ?_)
      refine ra_iload A d_Su_choose_82 rfl <| ?_
      by_cases c : o = 0
      · subst c
        refine ra_if_le (q := 94) A d_Su_choose_84 (by decide) (fun _ => ?_) (fun cc => absurd ((by decide)) cc)
        exact at94 g hf hS hR
      · refine ra_if_le (q := 94) A d_Su_choose_84 (by decide) (fun cc => absurd cc (nI_nle (by omega) (by omega))) (fun _ => ?_)
        refine ra_aload_n A d_Su_choose_87 rfl <| ra_getR A f_Su_15 d_Su_choose_88 (Nat.le_of_ble_eq_true rfl) rfl rfl rfl <| ?_
        refine ra_callV (As := []) A ok_Re_raiseOrder l_Su_42 im_Re_raiseOrder sl_Re_raiseOrder d_Su_choose_91 (Nat.le_of_ble_eq_true rfl) rfl rfl rfl (Nat.le_of_ble_eq_true rfl) (xr_of at0 (by decide)) (s_Re_raiseOrder K hn (show o - 1 < n by omega) hR (fun g3 f3 R3 => ?_))
        show xg x (y0 u) 0 0 94 _ _ g3
        refine at94 g3 (hf.trans (f3.mono (by decide))) (hS.of (fr1 f3 (by decide)) (fr1 f3 (by decide))) ?_
        obtain ⟨o', rfl⟩ : ∃ o', o = o' + 1 := ⟨o - 1, by omega⟩
        exact R3
    · exact ((f1.I (by decide)).I (by decide)).trans (f2.mono (by decide))
    · have e1 := fr1 f2 (show 126 ∉ [88, 89] by decide)
      have e2 := fr1 f2 (show 127 ∉ [88, 89] by decide)
      unfold SI
      rw [e1, e2]
      refine ⟨?_, ?_, xI_e, ?_, fun q => ?_, fun i hi => ?_⟩
      · rw [xI_j (by decide), xI_j (by decide)]; exact a2'
      · rw [xI_j (by decide), xI_e]
      · rw [xI_j (by decide), xI_j (by decide)]; exact a4
      · unfold ch at q
        dsimp only at q
        split at q <;> omega
      · rw [xI_k (by decide), xI_k (by decide)]; exact a5 i hi
    · refine ⟨R2.1, R2.2.1, fun i h1 h2 => ?_⟩
      rw [R2.2.2 i h1 h2, xI_k (by decide), xI_k (by decide)]
      exact a5 i h2
  refine ra_putI (ty := .int) A f_Su_30 rfl rfl (by decide +kernel) rfl rfl d_Su_choose_17 (Nat.le_of_ble_eq_true rfl) rfl rfl <| ra_aload_n A d_Su_choose_20 rfl <| ra_iload_n A d_Su_choose_21 rfl <| ?_
  cases al
  · refine ra_if_eq (q := 29) A d_Su_choose_22 (by decide) (fun _ => ?_) (fun cc => absurd (rfl) cc)
    refine ra_iconst A 1 d_Su_choose_29 (by decide) <| ra_putI (ty := .int) A f_Su_33 rfl rfl (by decide +kernel) rfl rfl d_Su_choose_30 (Nat.le_of_ble_eq_true rfl) rfl rfl <| ra_iload_n A d_Su_choose_33 rfl <| ?_
    refine ra_if_eq (q := 45) A d_Su_choose_34 (by decide) (fun _ => ?_) (fun cc => absurd (rfl) cc)
    refine ra_aload_n A d_Su_choose_45 rfl <| ra_getI A f_Su_30 d_Su_choose_46 (Nat.le_of_ble_eq_true rfl) rfl rfl <| ?_
    rw [xI_j (by decide), xI_e]
    refine ra_i2l A d_Su_choose_49 <| ?_
    rw [nI_l (by omega)]
    refine ra_iload_n A d_Su_choose_50 rfl <| ra_i2l A d_Su_choose_51 <| ?_
    rw [nI_l (by omega)]
    refine ra_lmul A d_Su_choose_52 <| ?_
    rw [lN_mul]
    refine ra_lstore (L' := [_, _, _, _, _, _, _, _, _]) A d_Su_choose_53 (by decide) rfl <| ?_
    exact main
  · refine ra_if_eq (q := 29) A d_Su_choose_22 (by decide) (fun cc => absurd cc ((by decide))) (fun _ => ?_)
    refine ra_iconst A 0 d_Su_choose_25 (by decide) <| ra_goto (q := 30) A d_Su_choose_26 (by decide) <| ra_putI (ty := .int) A f_Su_33 rfl rfl (by decide +kernel) rfl rfl d_Su_choose_30 (Nat.le_of_ble_eq_true rfl) rfl rfl <| ra_iload_n A d_Su_choose_33 rfl <| ?_
    refine ra_if_eq (q := 45) A d_Su_choose_34 (by decide) (fun cc => absurd cc ((by decide))) (fun _ => ?_)
    refine ra_aload_n A d_Su_choose_37 rfl <| ra_getI A f_Su_30 d_Su_choose_38 (Nat.le_of_ble_eq_true rfl) rfl rfl <| ?_
    rw [xI_j (by decide), xI_e]
    refine ra_i2l A d_Su_choose_41 <| ?_
    rw [nI_l (by omega)]
    refine ra_goto (q := 53) A d_Su_choose_42 (by decide) <| ra_lstore (L' := [_, _, _, _, _, _, _, _, _]) A d_Su_choose_53 (by decide) rfl <| ?_
    exact main
theorem s_Su_choose_128 (K : xk_ok u KK) {n d : Nat} {sm : Nat → Int32} (hn : n ≤ 1024) (hd0 : 1 ≤ d) (hd : d ≤ 25) (es : ∀ i, i < n → h.1 129 i = sm i) (hb : inD sm n d)
    (hX : ∀ h', fr (128 :: 129 :: 88 :: 89 :: ZL) h h' → SF h' 128 129 sm n d → X (.inl none) h' 0 0) : xm_M l (y0 u) KK m_Su_choose [.ref 128, .int (nI n), .int (nI d)] h X := by
  refine xm_of [none, none, none, none, none, none] (by simp) (Nat.le_of_ble_eq_true rfl) (by decide) (fun x at0 => ?_)
  have A := xa_of at0 K
  have ow := at0.2.2.2.2.1
  have hw := hb.w hd0 hd
  refine ra_aload_n A d_Su_choose_0 rfl <| ra_iload_n A d_Su_choose_1 rfl <| ra_putI (ty := .int) A f_Su_19 rfl rfl (by decide +kernel) rfl rfl d_Su_choose_2 (Nat.le_of_ble_eq_true rfl) rfl rfl <| ra_aload_n A d_Su_choose_5 rfl <| ?_
  refine ra_callV (As := []) A ok_Su_dropZeros l_Su_23 im_Su_dropZeros sl_Su_dropZeros d_Su_choose_6 (Nat.le_of_ble_eq_true rfl) rfl rfl rfl (Nat.le_of_ble_eq_true rfl) (xr_of at0 (by decide)) (s_Su_dropZeros_128 K (sm := sm) hn xI_e (fun i hi => by rw [xI_k (by decide)]; exact es i hi) (fun g1 a1 a2 a3 a4 a5 => ?_))
  show xg x (y0 u) 0 0 9 _ _ g1
  have f1 : fr (128 :: 129 :: 88 :: 89 :: ZL) h g1 := fun c hc => by
    have c1 : c ≠ 128 := fun q => hc (by rw [q]; decide)
    have c2 : c ≠ 129 := fun q => hc (by rw [q]; decide)
    exact ⟨(a2 c c1 c2).trans (xI_k c1), by rw [a1]; rfl⟩
  have a2' : g1.1 128 2 = nI n := (a3 2 (by decide)).trans xI_e
  refine ra_istore_n (L' := [_, _, _, _, _, _, _, _, _]) A d_Su_choose_9 (by decide) rfl <| ra_aload_n A d_Su_choose_10 rfl <| ra_iload_n A d_Su_choose_11 rfl <| ra_aload_n A d_Su_choose_12 rfl <| ra_getI A f_Su_27 d_Su_choose_13 (Nat.le_of_ble_eq_true rfl) rfl rfl <| ?_
  rw [a4]
  refine ra_isub A d_Su_choose_16 <| ?_
  rw [pk_sub (Nat.le_of_lt hw)]
  have hC : sC sm n d = ch (sT sm n) (alB sm n) (d - sW sm n) n (min 5 n) := rfl
  unfold SF at hX
  rw [hC] at hX
  have hdl := fun o ho => hb.dl hd (o := o) ho
  generalize hwd : d - sW sm n = wd at hX ⊢
  generalize hww : sW sm n = w at hX a4 hw hwd
  generalize htt : sT sm n = t at hX a5 hdl
  generalize hal : alB sm n = al at hX ⊢
  have hcb : ∀ o, (ch t al wd n o).1 < 2 ^ 31 := by
    intro o
    have h1 := ch_le (t := t) (al := al) (wd := wd) (n := n) o
    have h2 : wd * n ≤ 25 * 1024 := Nat.mul_le_mul (by omega) hn
    split at h1 <;> omega
  have main : xg x (y0 u) 0 0 55 [some (.ref 128), some (.int (nI n)), some (.int (nI d)), some (.int (bz al)), some (.long (lN (ch t al wd n 0).1)), none, none, none, none] [] (xw_I (xw_I g1 128 3 (nI wd)) 128 5 (nI (ch t al wd n 0).2.1)) := by
    refine ra_aload_n A d_Su_choose_55 rfl <| ra_getR A f_Su_15 d_Su_choose_56 (Nat.le_of_ble_eq_true rfl) rfl rfl rfl <| ra_aload_n A d_Su_choose_59 rfl <| ra_getR A f_Su_9 d_Su_choose_60 (Nat.le_of_ble_eq_true rfl) rfl rfl rfl <| ra_iload_n A d_Su_choose_63 rfl <| ?_
    refine ra_callV (As := [_, _]) A ok_Re_begin l_Su_36 im_Re_begin sl_Re_begin d_Su_choose_64 (Nat.le_of_ble_eq_true rfl) rfl rfl rfl (Nat.le_of_ble_eq_true rfl) (xr_of at0 (by decide)) (s_Re_begin K (c := 129) (n := n) (by decide) rfl hn (fun g2 f2 R2 => ?_))
    show xg x (y0 u) 0 0 67 _ _ g2
    refine ra_iconst A 0 d_Su_choose_67 (by decide) <| ra_istore (L' := [_, _, _, _, _, _, _, _, _]) A d_Su_choose_68 (by decide) rfl <| ?_
    refine lp_up (σ := xw_H) (W := fun o g => ∀ v1 v2, xg x (y0 u) 0 0 70 [some (.ref 128), some (.int (nI n)), some (.int (nI d)), some (.int (bz al)), some (.long (lN (ch t al wd n o).1)), none, some (.int (nI o)), v1, v2] [] g) (I := fun o g => fr (128 :: 129 :: 88 :: 89 :: ZL) h g ∧ SI g 128 129 n wd w t (ch t al wd n o) ∧ RS g n (o - 1) (dl (o - 1) t)) (min 5 n) ?_ ?_ 0 g2 (Nat.zero_le _) ⟨?_, ?_, ?_⟩ none none
    · rintro g ⟨hf, hS, hR⟩ v1 v2
      have fin : xg x (y0 u) 0 0 151 [some (.ref 128), some (.int (nI n)), some (.int (nI d)), some (.int (bz al)), some (.long (lN (ch t al wd n (min 5 n)).1)), none, some (.int (nI (min 5 n))), v1, v2] [] g := by
        refine ra_aload_n A d_Su_choose_151 rfl <| ra_bipush A 8 d_Su_choose_152 (by decide) <| ra_aload_n A d_Su_choose_154 rfl <| ra_getI A f_Su_27 d_Su_choose_155 (Nat.le_of_ble_eq_true rfl) rfl rfl <| ?_
        rw [hS.2.2.2.1]
        refine ra_iadd A d_Su_choose_158 <| ?_
        rw [show (8 : Int32) + nI w = nI (8 + w) from nI_add 8 w]
        refine ra_i2l A d_Su_choose_159 <| ?_
        rw [nI_l (by omega)]
        refine ra_lload A d_Su_choose_160 rfl <| ra_ladd A d_Su_choose_162 <| ?_
        rw [lN_add]
        refine ra_putJ A f_Su_53 rfl rfl (by decide +kernel) d_Su_choose_163 (Nat.le_of_ble_eq_true rfl) rfl rfl <| ?_
        exact ra_vret A ow d_Su_choose_166 (hX _ (hf.J (by decide)) ⟨hS.of rfl rfl, xJ_e⟩)
      refine ra_iload A d_Su_choose_70 rfl <| ra_iconst A 4 d_Su_choose_72 (by decide) <| ?_
      by_cases c : 5 ≤ n
      · refine ra_icmp_gt (q := 151) A d_Su_choose_73 (by decide) (fun _ => ?_) (fun cc => absurd ((by rw [Nat.min_eq_left c]; decide)) cc)
        exact fin
      · refine ra_icmp_gt (q := 151) A d_Su_choose_73 (by decide) (fun cc => absurd cc ((by rw [Nat.min_eq_right (by omega)]; exact Int32.not_lt.mpr (nI_le (b := 4) (by omega) (by decide))))) (fun _ => ?_)
        refine ra_iload A d_Su_choose_76 rfl <| ra_iload_n A d_Su_choose_78 rfl <| ?_
        refine ra_icmp_ge (q := 151) A d_Su_choose_79 (by decide) (fun _ => ?_) (fun cc => absurd ((by rw [Nat.min_eq_right (by omega)]; exact Int32.le_refl _)) cc)
        exact fin
    · rintro o g ho ⟨hf, hS, hR⟩ ih v1 v2
      have ho1 : o < n := by omega
      have ho4 : o ≤ 4 := by omega
      have at94 : ∀ g, fr (128 :: 129 :: 88 :: 89 :: ZL) h g → SI g 128 129 n wd w t (ch t al wd n o) → RS g n o (dl o t) → xg x (y0 u) 0 0 94 [some (.ref 128), some (.int (nI n)), some (.int (nI d)), some (.int (bz al)), some (.long (lN (ch t al wd n o).1)), none, some (.int (nI o)), v1, v2] [] g := by
        clear hf hS hR g
        intro g hf hS hR
        refine ra_aload_n A d_Su_choose_94 rfl <| ra_getI A f_Su_30 d_Su_choose_95 (Nat.le_of_ble_eq_true rfl) rfl rfl <| ?_
        rw [hS.2.1]
        refine ra_i2l A d_Su_choose_98 <| ?_
        rw [nI_l (by omega)]
        refine ra_iload A d_Su_choose_99 rfl <| ra_i2l A d_Su_choose_101 <| ?_
        rw [nI_l (by omega)]
        refine ra_lmul A d_Su_choose_102 <| ?_
        rw [lN_mul]
        refine ra_aload_n A d_Su_choose_103 rfl <| ra_getR A f_Su_15 d_Su_choose_104 (Nat.le_of_ble_eq_true rfl) rfl rfl rfl <| ?_
        refine ra_callV (As := []) A ok_Re_weigh l_Su_45 im_Re_weigh sl_Re_weigh d_Su_choose_107 (Nat.le_of_ble_eq_true rfl) rfl rfl rfl (Nat.le_of_ble_eq_true rfl) (xr_of at0 (by decide)) (s_Re_weigh K hn ho1 hR (hdl o ho4) (fun g3 F hF fF nF f3 q3 => ?_))
        show xg x (y0 u) 0 0 110 _ _ g3
        obtain rfl : F = finq o n := finq_eq hF fF nF
        rw [show rcost (fun i => fdN (dl o t i)) o n (amin (rcost (fun i => fdN (dl o t i)) o n) (finq o n)) = wcost t o n from rfl]
        rw [show amin (rcost (fun i => fdN (dl o t i)) o n) (finq o n) = bq t o n from rfl] at q3
        have hwb : wcost t o n < 2 ^ 21 := rcost_le hn (Nat.le_trans (amin_LM _ _).1 hF) (pfit_le fF (amin_LM _ _).1) (fun i h1 h2 => by have := fdN_lt (hdl o ho4 i h1 h2); omega)
        have hwo : wd * o ≤ 25 * 4 := Nat.mul_le_mul (by omega) ho4
        have f3' : fr (128 :: 129 :: 88 :: 89 :: ZL) h g3 := hf.trans (f3.fr (by decide) (by decide))
        have S3 := hS.of (f3.1 128 (by decide) (by decide)).1 (f3.1 129 (by decide) (by decide)).1
        have R3 : RS g3 n o (dl o t) := ⟨by rw [f3.2.1 3 (by decide)]; exact hR.1, by rw [f3.2.1 4 (by decide)]; exact hR.2.1, fun i h1 h2 => by rw [(f3.1 89 (by decide) (by decide)).1]; exact hR.2.2 i h1 h2⟩
        refine ra_ladd A d_Su_choose_110 <| ?_
        rw [lN_add]
        refine ra_lstore (L' := [_, _, _, _, _, _, _, _, _]) A d_Su_choose_111 (by decide) rfl <| ra_lload A d_Su_choose_113 rfl <| ra_lload A d_Su_choose_115 rfl <| ra_lcmp A d_Su_choose_117 <| ?_
        by_cases c : wd * o + wcost t o n < (ch t al wd n o).1
        · refine ra_if_ge (q := 145) A d_Su_choose_118 (by decide) (fun cc => absurd cc (fun z => absurd ((pk_lLE (by have := hcb o; omega) (by omega)).mp (lc_ge.mp z)) (by omega))) (fun _ => ?_)
          have e : ch t al wd n (o + 1) = (wd * o + wcost t o n, 8 + o, bq t o n) := by rw [ch, if_pos c]
          rw [e] at ih
          refine ra_lload A d_Su_choose_121 rfl <| ra_lstore (L' := [_, _, _, _, _, _, _, _, _]) A d_Su_choose_123 (by decide) rfl <| ra_aload_n A d_Su_choose_125 rfl <| ra_bipush A 8 d_Su_choose_126 (by decide) <| ra_iload A d_Su_choose_128 rfl <| ra_iadd A d_Su_choose_130 <| ?_
          rw [show (8 : Int32) + nI o = nI (8 + o) from nI_add 8 o]
          refine ra_putI (ty := .int) A f_Su_33 rfl rfl (by decide +kernel) rfl rfl d_Su_choose_131 (Nat.le_of_ble_eq_true rfl) rfl rfl <| ra_aload_n A d_Su_choose_134 rfl <| ra_aload_n A d_Su_choose_135 rfl <| ra_getR A f_Su_15 d_Su_choose_136 (Nat.le_of_ble_eq_true rfl) rfl rfl rfl <| ra_getI A f_Su_49 d_Su_choose_139 (Nat.le_of_ble_eq_true rfl) rfl rfl <| ?_
          rw [xI_k (by decide), q3]
          refine ra_putI (ty := .int) A f_Su_52 rfl rfl (by decide +kernel) rfl rfl d_Su_choose_142 (Nat.le_of_ble_eq_true rfl) rfl rfl <| ra_iinc (L' := [_, _, _, _, _, _, _, _, _]) A 1 d_Su_choose_145 rfl (by decide) (by decide) rfl <| ra_goto (q := 70) A d_Su_choose_148 (by decide) <| ?_
          rw [nI_1]
          refine ih _ ⟨(f3'.I (by decide)).I (by decide), ⟨?_, ?_, ?_, ?_, fun _ => xI_e, fun i hi => ?_⟩, ?_⟩ _ _
          · rw [xI_j (by decide), xI_j (by decide)]; exact S3.1
          · rw [xI_j (by decide), xI_j (by decide)]; exact S3.2.1
          · rw [xI_j (by decide), xI_e]
          · rw [xI_j (by decide), xI_j (by decide)]; exact S3.2.2.2.1
          · rw [xI_k (by decide), xI_k (by decide)]; exact S3.2.2.2.2.2 i hi
          · refine ⟨?_, ?_, fun i h1 h2 => ?_⟩
            · rw [xI_k (by decide), xI_k (by decide)]; exact R3.1
            · rw [xI_k (by decide), xI_k (by decide)]; exact R3.2.1
            · rw [xI_k (by decide), xI_k (by decide)]; exact R3.2.2 i h1 h2
        · refine ra_if_ge (q := 145) A d_Su_choose_118 (by decide) (fun _ => ?_) (fun cc => absurd (lc_ge.mpr ((pk_lLE (by have := hcb o; omega) (by omega)).mpr (by omega))) cc)
          have e : ch t al wd n (o + 1) = ch t al wd n o := by rw [ch, if_neg c]
          rw [e] at ih
          refine ra_iinc (L' := [_, _, _, _, _, _, _, _, _]) A 1 d_Su_choose_145 rfl (by decide) (by decide) rfl <| ra_goto (q := 70) A d_Su_choose_148 (by decide) <| ?_
          rw [nI_1]
          exact ih g3 ⟨f3', S3, R3⟩ _ _
      refine ra_iload A d_Su_choose_70 rfl <| ra_iconst A 4 d_Su_choose_72 (by decide) <| ?_
      refine ra_icmp_gt (q := 151) A d_Su_choose_73 (by decide) (fun cc => absurd cc (Int32.not_lt.mpr (nI_le (b := 4) ho4 (by decide)))) (fun _ => ?_)
      refine ra_iload A d_Su_choose_76 rfl <| ra_iload_n A d_Su_choose_78 rfl <| ?_
      refine ra_icmp_ge (q := 151) A d_Su_choose_79 (by decide) (fun cc => absurd cc (nI_ge ho1 (by omega))) (fun _ => ?_)
      refine ra_iload A d_Su_choose_82 rfl <| ?_
      by_cases c : o = 0
      · subst c
        refine ra_if_le (q := 94) A d_Su_choose_84 (by decide) (fun _ => ?_) (fun cc => absurd ((by decide)) cc)
        exact at94 g hf hS hR
      · refine ra_if_le (q := 94) A d_Su_choose_84 (by decide) (fun cc => absurd cc (nI_nle (by omega) (by omega))) (fun _ => ?_)
        refine ra_aload_n A d_Su_choose_87 rfl <| ra_getR A f_Su_15 d_Su_choose_88 (Nat.le_of_ble_eq_true rfl) rfl rfl rfl <| ?_
        refine ra_callV (As := []) A ok_Re_raiseOrder l_Su_42 im_Re_raiseOrder sl_Re_raiseOrder d_Su_choose_91 (Nat.le_of_ble_eq_true rfl) rfl rfl rfl (Nat.le_of_ble_eq_true rfl) (xr_of at0 (by decide)) (s_Re_raiseOrder K hn (show o - 1 < n by omega) hR (fun g3 f3 R3 => ?_))
        show xg x (y0 u) 0 0 94 _ _ g3
        refine at94 g3 (hf.trans (f3.mono (by decide))) (hS.of (fr1 f3 (by decide)) (fr1 f3 (by decide))) ?_
        obtain ⟨o', rfl⟩ : ∃ o', o = o' + 1 := ⟨o - 1, by omega⟩
        exact R3
    · exact ((f1.I (by decide)).I (by decide)).trans (f2.mono (by decide))
    · have e1 := fr1 f2 (show 128 ∉ [88, 89] by decide)
      have e2 := fr1 f2 (show 129 ∉ [88, 89] by decide)
      unfold SI
      rw [e1, e2]
      refine ⟨?_, ?_, xI_e, ?_, fun q => ?_, fun i hi => ?_⟩
      · rw [xI_j (by decide), xI_j (by decide)]; exact a2'
      · rw [xI_j (by decide), xI_e]
      · rw [xI_j (by decide), xI_j (by decide)]; exact a4
      · unfold ch at q
        dsimp only at q
        split at q <;> omega
      · rw [xI_k (by decide), xI_k (by decide)]; exact a5 i hi
    · refine ⟨R2.1, R2.2.1, fun i h1 h2 => ?_⟩
      rw [R2.2.2 i h1 h2, xI_k (by decide), xI_k (by decide)]
      exact a5 i h2
  refine ra_putI (ty := .int) A f_Su_30 rfl rfl (by decide +kernel) rfl rfl d_Su_choose_17 (Nat.le_of_ble_eq_true rfl) rfl rfl <| ra_aload_n A d_Su_choose_20 rfl <| ra_iload_n A d_Su_choose_21 rfl <| ?_
  cases al
  · refine ra_if_eq (q := 29) A d_Su_choose_22 (by decide) (fun _ => ?_) (fun cc => absurd (rfl) cc)
    refine ra_iconst A 1 d_Su_choose_29 (by decide) <| ra_putI (ty := .int) A f_Su_33 rfl rfl (by decide +kernel) rfl rfl d_Su_choose_30 (Nat.le_of_ble_eq_true rfl) rfl rfl <| ra_iload_n A d_Su_choose_33 rfl <| ?_
    refine ra_if_eq (q := 45) A d_Su_choose_34 (by decide) (fun _ => ?_) (fun cc => absurd (rfl) cc)
    refine ra_aload_n A d_Su_choose_45 rfl <| ra_getI A f_Su_30 d_Su_choose_46 (Nat.le_of_ble_eq_true rfl) rfl rfl <| ?_
    rw [xI_j (by decide), xI_e]
    refine ra_i2l A d_Su_choose_49 <| ?_
    rw [nI_l (by omega)]
    refine ra_iload_n A d_Su_choose_50 rfl <| ra_i2l A d_Su_choose_51 <| ?_
    rw [nI_l (by omega)]
    refine ra_lmul A d_Su_choose_52 <| ?_
    rw [lN_mul]
    refine ra_lstore (L' := [_, _, _, _, _, _, _, _, _]) A d_Su_choose_53 (by decide) rfl <| ?_
    exact main
  · refine ra_if_eq (q := 29) A d_Su_choose_22 (by decide) (fun cc => absurd cc ((by decide))) (fun _ => ?_)
    refine ra_iconst A 0 d_Su_choose_25 (by decide) <| ra_goto (q := 30) A d_Su_choose_26 (by decide) <| ra_putI (ty := .int) A f_Su_33 rfl rfl (by decide +kernel) rfl rfl d_Su_choose_30 (Nat.le_of_ble_eq_true rfl) rfl rfl <| ra_iload_n A d_Su_choose_33 rfl <| ?_
    refine ra_if_eq (q := 45) A d_Su_choose_34 (by decide) (fun cc => absurd cc ((by decide))) (fun _ => ?_)
    refine ra_aload_n A d_Su_choose_37 rfl <| ra_getI A f_Su_30 d_Su_choose_38 (Nat.le_of_ble_eq_true rfl) rfl rfl <| ?_
    rw [xI_j (by decide), xI_e]
    refine ra_i2l A d_Su_choose_41 <| ?_
    rw [nI_l (by omega)]
    refine ra_goto (q := 53) A d_Su_choose_42 (by decide) <| ra_lstore (L' := [_, _, _, _, _, _, _, _, _]) A d_Su_choose_53 (by decide) rfl <| ?_
    exact main
theorem s_Su_choose_130 (K : xk_ok u KK) {n d : Nat} {sm : Nat → Int32} (hn : n ≤ 1024) (hd0 : 1 ≤ d) (hd : d ≤ 25) (es : ∀ i, i < n → h.1 131 i = sm i) (hb : inD sm n d)
    (hX : ∀ h', fr (130 :: 131 :: 88 :: 89 :: ZL) h h' → SF h' 130 131 sm n d → X (.inl none) h' 0 0) : xm_M l (y0 u) KK m_Su_choose [.ref 130, .int (nI n), .int (nI d)] h X := by
  refine xm_of [none, none, none, none, none, none] (by simp) (Nat.le_of_ble_eq_true rfl) (by decide) (fun x at0 => ?_)
  have A := xa_of at0 K
  have ow := at0.2.2.2.2.1
  have hw := hb.w hd0 hd
  refine ra_aload_n A d_Su_choose_0 rfl <| ra_iload_n A d_Su_choose_1 rfl <| ra_putI (ty := .int) A f_Su_19 rfl rfl (by decide +kernel) rfl rfl d_Su_choose_2 (Nat.le_of_ble_eq_true rfl) rfl rfl <| ra_aload_n A d_Su_choose_5 rfl <| ?_
  refine ra_callV (As := []) A ok_Su_dropZeros l_Su_23 im_Su_dropZeros sl_Su_dropZeros d_Su_choose_6 (Nat.le_of_ble_eq_true rfl) rfl rfl rfl (Nat.le_of_ble_eq_true rfl) (xr_of at0 (by decide)) (s_Su_dropZeros_130 K (sm := sm) hn xI_e (fun i hi => by rw [xI_k (by decide)]; exact es i hi) (fun g1 a1 a2 a3 a4 a5 => ?_))
  show xg x (y0 u) 0 0 9 _ _ g1
  have f1 : fr (130 :: 131 :: 88 :: 89 :: ZL) h g1 := fun c hc => by
    have c1 : c ≠ 130 := fun q => hc (by rw [q]; decide)
    have c2 : c ≠ 131 := fun q => hc (by rw [q]; decide)
    exact ⟨(a2 c c1 c2).trans (xI_k c1), by rw [a1]; rfl⟩
  have a2' : g1.1 130 2 = nI n := (a3 2 (by decide)).trans xI_e
  refine ra_istore_n (L' := [_, _, _, _, _, _, _, _, _]) A d_Su_choose_9 (by decide) rfl <| ra_aload_n A d_Su_choose_10 rfl <| ra_iload_n A d_Su_choose_11 rfl <| ra_aload_n A d_Su_choose_12 rfl <| ra_getI A f_Su_27 d_Su_choose_13 (Nat.le_of_ble_eq_true rfl) rfl rfl <| ?_
  rw [a4]
  refine ra_isub A d_Su_choose_16 <| ?_
  rw [pk_sub (Nat.le_of_lt hw)]
  have hC : sC sm n d = ch (sT sm n) (alB sm n) (d - sW sm n) n (min 5 n) := rfl
  unfold SF at hX
  rw [hC] at hX
  have hdl := fun o ho => hb.dl hd (o := o) ho
  generalize hwd : d - sW sm n = wd at hX ⊢
  generalize hww : sW sm n = w at hX a4 hw hwd
  generalize htt : sT sm n = t at hX a5 hdl
  generalize hal : alB sm n = al at hX ⊢
  have hcb : ∀ o, (ch t al wd n o).1 < 2 ^ 31 := by
    intro o
    have h1 := ch_le (t := t) (al := al) (wd := wd) (n := n) o
    have h2 : wd * n ≤ 25 * 1024 := Nat.mul_le_mul (by omega) hn
    split at h1 <;> omega
  have main : xg x (y0 u) 0 0 55 [some (.ref 130), some (.int (nI n)), some (.int (nI d)), some (.int (bz al)), some (.long (lN (ch t al wd n 0).1)), none, none, none, none] [] (xw_I (xw_I g1 130 3 (nI wd)) 130 5 (nI (ch t al wd n 0).2.1)) := by
    refine ra_aload_n A d_Su_choose_55 rfl <| ra_getR A f_Su_15 d_Su_choose_56 (Nat.le_of_ble_eq_true rfl) rfl rfl rfl <| ra_aload_n A d_Su_choose_59 rfl <| ra_getR A f_Su_9 d_Su_choose_60 (Nat.le_of_ble_eq_true rfl) rfl rfl rfl <| ra_iload_n A d_Su_choose_63 rfl <| ?_
    refine ra_callV (As := [_, _]) A ok_Re_begin l_Su_36 im_Re_begin sl_Re_begin d_Su_choose_64 (Nat.le_of_ble_eq_true rfl) rfl rfl rfl (Nat.le_of_ble_eq_true rfl) (xr_of at0 (by decide)) (s_Re_begin K (c := 131) (n := n) (by decide) rfl hn (fun g2 f2 R2 => ?_))
    show xg x (y0 u) 0 0 67 _ _ g2
    refine ra_iconst A 0 d_Su_choose_67 (by decide) <| ra_istore (L' := [_, _, _, _, _, _, _, _, _]) A d_Su_choose_68 (by decide) rfl <| ?_
    refine lp_up (σ := xw_H) (W := fun o g => ∀ v1 v2, xg x (y0 u) 0 0 70 [some (.ref 130), some (.int (nI n)), some (.int (nI d)), some (.int (bz al)), some (.long (lN (ch t al wd n o).1)), none, some (.int (nI o)), v1, v2] [] g) (I := fun o g => fr (130 :: 131 :: 88 :: 89 :: ZL) h g ∧ SI g 130 131 n wd w t (ch t al wd n o) ∧ RS g n (o - 1) (dl (o - 1) t)) (min 5 n) ?_ ?_ 0 g2 (Nat.zero_le _) ⟨?_, ?_, ?_⟩ none none
    · rintro g ⟨hf, hS, hR⟩ v1 v2
      have fin : xg x (y0 u) 0 0 151 [some (.ref 130), some (.int (nI n)), some (.int (nI d)), some (.int (bz al)), some (.long (lN (ch t al wd n (min 5 n)).1)), none, some (.int (nI (min 5 n))), v1, v2] [] g := by
        refine ra_aload_n A d_Su_choose_151 rfl <| ra_bipush A 8 d_Su_choose_152 (by decide) <| ra_aload_n A d_Su_choose_154 rfl <| ra_getI A f_Su_27 d_Su_choose_155 (Nat.le_of_ble_eq_true rfl) rfl rfl <| ?_
        rw [hS.2.2.2.1]
        refine ra_iadd A d_Su_choose_158 <| ?_
        rw [show (8 : Int32) + nI w = nI (8 + w) from nI_add 8 w]
        refine ra_i2l A d_Su_choose_159 <| ?_
        rw [nI_l (by omega)]
        refine ra_lload A d_Su_choose_160 rfl <| ra_ladd A d_Su_choose_162 <| ?_
        rw [lN_add]
        refine ra_putJ A f_Su_53 rfl rfl (by decide +kernel) d_Su_choose_163 (Nat.le_of_ble_eq_true rfl) rfl rfl <| ?_
        exact ra_vret A ow d_Su_choose_166 (hX _ (hf.J (by decide)) ⟨hS.of rfl rfl, xJ_e⟩)
      refine ra_iload A d_Su_choose_70 rfl <| ra_iconst A 4 d_Su_choose_72 (by decide) <| ?_
      by_cases c : 5 ≤ n
      · refine ra_icmp_gt (q := 151) A d_Su_choose_73 (by decide) (fun _ => ?_) (fun cc => absurd ((by rw [Nat.min_eq_left c]; decide)) cc)
        exact fin
      · refine ra_icmp_gt (q := 151) A d_Su_choose_73 (by decide) (fun cc => absurd cc ((by rw [Nat.min_eq_right (by omega)]; exact Int32.not_lt.mpr (nI_le (b := 4) (by omega) (by decide))))) (fun _ => ?_)
        refine ra_iload A d_Su_choose_76 rfl <| ra_iload_n A d_Su_choose_78 rfl <| ?_
        refine ra_icmp_ge (q := 151) A d_Su_choose_79 (by decide) (fun _ => ?_) (fun cc => absurd ((by rw [Nat.min_eq_right (by omega)]; exact Int32.le_refl _)) cc)
        exact fin
    · rintro o g ho ⟨hf, hS, hR⟩ ih v1 v2
      have ho1 : o < n := by omega
      have ho4 : o ≤ 4 := by omega
      have at94 : ∀ g, fr (130 :: 131 :: 88 :: 89 :: ZL) h g → SI g 130 131 n wd w t (ch t al wd n o) → RS g n o (dl o t) → xg x (y0 u) 0 0 94 [some (.ref 130), some (.int (nI n)), some (.int (nI d)), some (.int (bz al)), some (.long (lN (ch t al wd n o).1)), none, some (.int (nI o)), v1, v2] [] g := by
        clear hf hS hR g
        intro g hf hS hR
        refine ra_aload_n A d_Su_choose_94 rfl <| ra_getI A f_Su_30 d_Su_choose_95 (Nat.le_of_ble_eq_true rfl) rfl rfl <| ?_
        rw [hS.2.1]
        refine ra_i2l A d_Su_choose_98 <| ?_
        rw [nI_l (by omega)]
        refine ra_iload A d_Su_choose_99 rfl <| ra_i2l A d_Su_choose_101 <| ?_
        rw [nI_l (by omega)]
        refine ra_lmul A d_Su_choose_102 <| ?_
        rw [lN_mul]
        refine ra_aload_n A d_Su_choose_103 rfl <| ra_getR A f_Su_15 d_Su_choose_104 (Nat.le_of_ble_eq_true rfl) rfl rfl rfl <| ?_
        refine ra_callV (As := []) A ok_Re_weigh l_Su_45 im_Re_weigh sl_Re_weigh d_Su_choose_107 (Nat.le_of_ble_eq_true rfl) rfl rfl rfl (Nat.le_of_ble_eq_true rfl) (xr_of at0 (by decide)) (s_Re_weigh K hn ho1 hR (hdl o ho4) (fun g3 F hF fF nF f3 q3 => ?_))
        show xg x (y0 u) 0 0 110 _ _ g3
        obtain rfl : F = finq o n := finq_eq hF fF nF
        rw [show rcost (fun i => fdN (dl o t i)) o n (amin (rcost (fun i => fdN (dl o t i)) o n) (finq o n)) = wcost t o n from rfl]
        rw [show amin (rcost (fun i => fdN (dl o t i)) o n) (finq o n) = bq t o n from rfl] at q3
        have hwb : wcost t o n < 2 ^ 21 := rcost_le hn (Nat.le_trans (amin_LM _ _).1 hF) (pfit_le fF (amin_LM _ _).1) (fun i h1 h2 => by have := fdN_lt (hdl o ho4 i h1 h2); omega)
        have hwo : wd * o ≤ 25 * 4 := Nat.mul_le_mul (by omega) ho4
        have f3' : fr (130 :: 131 :: 88 :: 89 :: ZL) h g3 := hf.trans (f3.fr (by decide) (by decide))
        have S3 := hS.of (f3.1 130 (by decide) (by decide)).1 (f3.1 131 (by decide) (by decide)).1
        have R3 : RS g3 n o (dl o t) := ⟨by rw [f3.2.1 3 (by decide)]; exact hR.1, by rw [f3.2.1 4 (by decide)]; exact hR.2.1, fun i h1 h2 => by rw [(f3.1 89 (by decide) (by decide)).1]; exact hR.2.2 i h1 h2⟩
        refine ra_ladd A d_Su_choose_110 <| ?_
        rw [lN_add]
        refine ra_lstore (L' := [_, _, _, _, _, _, _, _, _]) A d_Su_choose_111 (by decide) rfl <| ra_lload A d_Su_choose_113 rfl <| ra_lload A d_Su_choose_115 rfl <| ra_lcmp A d_Su_choose_117 <| ?_
        by_cases c : wd * o + wcost t o n < (ch t al wd n o).1
        · refine ra_if_ge (q := 145) A d_Su_choose_118 (by decide) (fun cc => absurd cc (fun z => absurd ((pk_lLE (by have := hcb o; omega) (by omega)).mp (lc_ge.mp z)) (by omega))) (fun _ => ?_)
          have e : ch t al wd n (o + 1) = (wd * o + wcost t o n, 8 + o, bq t o n) := by rw [ch, if_pos c]
          rw [e] at ih
          refine ra_lload A d_Su_choose_121 rfl <| ra_lstore (L' := [_, _, _, _, _, _, _, _, _]) A d_Su_choose_123 (by decide) rfl <| ra_aload_n A d_Su_choose_125 rfl <| ra_bipush A 8 d_Su_choose_126 (by decide) <| ra_iload A d_Su_choose_128 rfl <| ra_iadd A d_Su_choose_130 <| ?_
          rw [show (8 : Int32) + nI o = nI (8 + o) from nI_add 8 o]
          refine ra_putI (ty := .int) A f_Su_33 rfl rfl (by decide +kernel) rfl rfl d_Su_choose_131 (Nat.le_of_ble_eq_true rfl) rfl rfl <| ra_aload_n A d_Su_choose_134 rfl <| ra_aload_n A d_Su_choose_135 rfl <| ra_getR A f_Su_15 d_Su_choose_136 (Nat.le_of_ble_eq_true rfl) rfl rfl rfl <| ra_getI A f_Su_49 d_Su_choose_139 (Nat.le_of_ble_eq_true rfl) rfl rfl <| ?_
          rw [xI_k (by decide), q3]
          refine ra_putI (ty := .int) A f_Su_52 rfl rfl (by decide +kernel) rfl rfl d_Su_choose_142 (Nat.le_of_ble_eq_true rfl) rfl rfl <| ra_iinc (L' := [_, _, _, _, _, _, _, _, _]) A 1 d_Su_choose_145 rfl (by decide) (by decide) rfl <| ra_goto (q := 70) A d_Su_choose_148 (by decide) <| ?_
          rw [nI_1]
          refine ih _ ⟨(f3'.I (by decide)).I (by decide), ⟨?_, ?_, ?_, ?_, fun _ => xI_e, fun i hi => ?_⟩, ?_⟩ _ _
          · rw [xI_j (by decide), xI_j (by decide)]; exact S3.1
          · rw [xI_j (by decide), xI_j (by decide)]; exact S3.2.1
          · rw [xI_j (by decide), xI_e]
          · rw [xI_j (by decide), xI_j (by decide)]; exact S3.2.2.2.1
          · rw [xI_k (by decide), xI_k (by decide)]; exact S3.2.2.2.2.2 i hi
          · refine ⟨?_, ?_, fun i h1 h2 => ?_⟩
            · rw [xI_k (by decide), xI_k (by decide)]; exact R3.1
            · rw [xI_k (by decide), xI_k (by decide)]; exact R3.2.1
            · rw [xI_k (by decide), xI_k (by decide)]; exact R3.2.2 i h1 h2
        · refine ra_if_ge (q := 145) A d_Su_choose_118 (by decide) (fun _ => ?_) (fun cc => absurd (lc_ge.mpr ((pk_lLE (by have := hcb o; omega) (by omega)).mpr (by omega))) cc)
          have e : ch t al wd n (o + 1) = ch t al wd n o := by rw [ch, if_neg c]
          rw [e] at ih
          refine ra_iinc (L' := [_, _, _, _, _, _, _, _, _]) A 1 d_Su_choose_145 rfl (by decide) (by decide) rfl <| ra_goto (q := 70) A d_Su_choose_148 (by decide) <| ?_
          rw [nI_1]
          exact ih g3 ⟨f3', S3, R3⟩ _ _
      refine ra_iload A d_Su_choose_70 rfl <| ra_iconst A 4 d_Su_choose_72 (by decide) <| ?_
      refine ra_icmp_gt (q := 151) A d_Su_choose_73 (by decide) (fun cc => absurd cc (Int32.not_lt.mpr (nI_le (b := 4) ho4 (by decide)))) (fun _ => ?_)
      refine ra_iload A d_Su_choose_76 rfl <| ra_iload_n A d_Su_choose_78 rfl <| ?_
      refine ra_icmp_ge (q := 151) A d_Su_choose_79 (by decide) (fun cc => absurd cc (nI_ge ho1 (by omega))) (fun _ => ?_)
      refine ra_iload A d_Su_choose_82 rfl <| ?_
      by_cases c : o = 0
      · subst c
        refine ra_if_le (q := 94) A d_Su_choose_84 (by decide) (fun _ => ?_) (fun cc => absurd ((by decide)) cc)
        exact at94 g hf hS hR
      · refine ra_if_le (q := 94) A d_Su_choose_84 (by decide) (fun cc => absurd cc (nI_nle (by omega) (by omega))) (fun _ => ?_)
        refine ra_aload_n A d_Su_choose_87 rfl <| ra_getR A f_Su_15 d_Su_choose_88 (Nat.le_of_ble_eq_true rfl) rfl rfl rfl <| ?_
        refine ra_callV (As := []) A ok_Re_raiseOrder l_Su_42 im_Re_raiseOrder sl_Re_raiseOrder d_Su_choose_91 (Nat.le_of_ble_eq_true rfl) rfl rfl rfl (Nat.le_of_ble_eq_true rfl) (xr_of at0 (by decide)) (s_Re_raiseOrder K hn (show o - 1 < n by omega) hR (fun g3 f3 R3 => ?_))
        show xg x (y0 u) 0 0 94 _ _ g3
        refine at94 g3 (hf.trans (f3.mono (by decide))) (hS.of (fr1 f3 (by decide)) (fr1 f3 (by decide))) ?_
        obtain ⟨o', rfl⟩ : ∃ o', o = o' + 1 := ⟨o - 1, by omega⟩
        exact R3
    · exact ((f1.I (by decide)).I (by decide)).trans (f2.mono (by decide))
    · have e1 := fr1 f2 (show 130 ∉ [88, 89] by decide)
      have e2 := fr1 f2 (show 131 ∉ [88, 89] by decide)
      unfold SI
      rw [e1, e2]
      refine ⟨?_, ?_, xI_e, ?_, fun q => ?_, fun i hi => ?_⟩
      · rw [xI_j (by decide), xI_j (by decide)]; exact a2'
      · rw [xI_j (by decide), xI_e]
      · rw [xI_j (by decide), xI_j (by decide)]; exact a4
      · unfold ch at q
        dsimp only at q
        split at q <;> omega
      · rw [xI_k (by decide), xI_k (by decide)]; exact a5 i hi
    · refine ⟨R2.1, R2.2.1, fun i h1 h2 => ?_⟩
      rw [R2.2.2 i h1 h2, xI_k (by decide), xI_k (by decide)]
      exact a5 i h2
  refine ra_putI (ty := .int) A f_Su_30 rfl rfl (by decide +kernel) rfl rfl d_Su_choose_17 (Nat.le_of_ble_eq_true rfl) rfl rfl <| ra_aload_n A d_Su_choose_20 rfl <| ra_iload_n A d_Su_choose_21 rfl <| ?_
  cases al
  · refine ra_if_eq (q := 29) A d_Su_choose_22 (by decide) (fun _ => ?_) (fun cc => absurd (rfl) cc)
    refine ra_iconst A 1 d_Su_choose_29 (by decide) <| ra_putI (ty := .int) A f_Su_33 rfl rfl (by decide +kernel) rfl rfl d_Su_choose_30 (Nat.le_of_ble_eq_true rfl) rfl rfl <| ra_iload_n A d_Su_choose_33 rfl <| ?_
    refine ra_if_eq (q := 45) A d_Su_choose_34 (by decide) (fun _ => ?_) (fun cc => absurd (rfl) cc)
    refine ra_aload_n A d_Su_choose_45 rfl <| ra_getI A f_Su_30 d_Su_choose_46 (Nat.le_of_ble_eq_true rfl) rfl rfl <| ?_
    rw [xI_j (by decide), xI_e]
    refine ra_i2l A d_Su_choose_49 <| ?_
    rw [nI_l (by omega)]
    refine ra_iload_n A d_Su_choose_50 rfl <| ra_i2l A d_Su_choose_51 <| ?_
    rw [nI_l (by omega)]
    refine ra_lmul A d_Su_choose_52 <| ?_
    rw [lN_mul]
    refine ra_lstore (L' := [_, _, _, _, _, _, _, _, _]) A d_Su_choose_53 (by decide) rfl <| ?_
    exact main
  · refine ra_if_eq (q := 29) A d_Su_choose_22 (by decide) (fun cc => absurd cc ((by decide))) (fun _ => ?_)
    refine ra_iconst A 0 d_Su_choose_25 (by decide) <| ra_goto (q := 30) A d_Su_choose_26 (by decide) <| ra_putI (ty := .int) A f_Su_33 rfl rfl (by decide +kernel) rfl rfl d_Su_choose_30 (Nat.le_of_ble_eq_true rfl) rfl rfl <| ra_iload_n A d_Su_choose_33 rfl <| ?_
    refine ra_if_eq (q := 45) A d_Su_choose_34 (by decide) (fun cc => absurd cc ((by decide))) (fun _ => ?_)
    refine ra_aload_n A d_Su_choose_37 rfl <| ra_getI A f_Su_30 d_Su_choose_38 (Nat.le_of_ble_eq_true rfl) rfl rfl <| ?_
    rw [xI_j (by decide), xI_e]
    refine ra_i2l A d_Su_choose_41 <| ?_
    rw [nI_l (by omega)]
    refine ra_goto (q := 53) A d_Su_choose_42 (by decide) <| ra_lstore (L' := [_, _, _, _, _, _, _, _, _]) A d_Su_choose_53 (by decide) rfl <| ?_
    exact main
end S73
