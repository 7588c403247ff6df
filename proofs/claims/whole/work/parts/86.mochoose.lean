/-! SoundStreamModel: choose, writePart -/
/-- a subframe is chosen in the model -/
def MS (h : xw_H) (sm : Nat → Int32) (n d : Nat) : Prop := (∀ i, i < n → h.1 150 i = sm i) ∧ h.1 141 18 = nI (sC sm n d).2.1 ∧ h.1 141 19 = nI (sW sm n) ∧ (8 ≤ (sC sm n d).2.1 → h.1 141 20 = nI (sC sm n d).2.2)
theorem fmk {C F : List Nat} {b : Bool} {h h' : xw_H} (f : fm C F b h h') {k : Nat} (hk : k ∉ C) (h1 : k ≠ 141) : h'.1 k = h.1 k := (f.1 k hk h1).1
theorem SW.sr {a : Nat} {B : List Bool} {h h' : xw_H} (x : SW a B h h') : SR h' := x.2.1
section S86
variable {u : xu_T} {l : Launch} {KK : State → Prop} {h : xw_H} {X : xc_R → xw_H → Nat → Nat → Prop}
theorem s_Mo_choose (K : xk_ok u KK) {sm : Nat → Int32} {n d : Nat} (hn1 : 1 ≤ n) (hn : n ≤ 1024) (hd0 : 1 ≤ d) (hd : d ≤ 25) (hs : ∀ i, i < n → h.1 150 i = sm i) (hb : inD sm n d)
    (hX : ∀ h', fm [151] [18, 19, 20] false h h' → MS h' sm n d → X (.inl (some (.long (lN (8 + sW sm n + (sC sm n d).1))))) h' 0 0) : xm_M l (y0 u) KK m_Mo_choose [.ref 141, .int (nI n), .int (nI d)] h X := by
  refine xm_of [none, none, none, none, none, none] (by simp) (Nat.le_of_ble_eq_true rfl) (by decide) (fun x at0 => ?_)
  have A := xa_of at0 K
  have ow := at0.2.2.2.2.1
  have hw := hb.w hd0 hd
  have hdl := fun o ho => hb.dl hd (o := o) ho
  have hC : sC sm n d = ch (sT sm n) (alB sm n) (d - sW sm n) n (min 5 n) := rfl
  unfold MS at hX
  rw [hC] at hX
  have htt : sT sm n = sh sm (sW sm n) := rfl
  rw [htt] at hX hdl
  refine ra_aload_n A d_Mo_choose_0 rfl <| ra_aload_n A d_Mo_choose_1 rfl <| ra_iload_n A d_Mo_choose_2 rfl <| ?_
  refine ra_callV (As := [_]) A ok_Mo_wasted l_Mo_288 im_Mo_wasted sl_Mo_wasted d_Mo_choose_3 (Nat.le_of_ble_eq_true rfl) rfl rfl rfl (Nat.le_of_ble_eq_true rfl) (xr_of at0 (by decide)) (s_Mo_wasted K (by omega) hs ?_)
  show xg x (y0 u) 0 0 6 _ _ h
  generalize hww : sW sm n = w at hX hw hdl ⊢
  refine ra_putI (ty := .int) A f_Mo_253 rfl rfl (by decide +kernel) rfl rfl d_Mo_choose_6 (Nat.le_of_ble_eq_true rfl) rfl rfl <| ra_aload_n A d_Mo_choose_9 rfl <| ra_iconst A 1 d_Mo_choose_10 (by decide) <| ra_putI (ty := .int) A f_Mo_291 rfl rfl (by decide +kernel) rfl rfl d_Mo_choose_11 (Nat.le_of_ble_eq_true rfl) rfl rfl <| ra_ldc2 A k_Mo_222 d_Mo_choose_14 <| ra_aload_n A d_Mo_choose_17 rfl <| ra_getI A f_Mo_253 d_Mo_choose_18 (Nat.le_of_ble_eq_true rfl) rfl rfl <| ?_
  rw [show (xw_I (xw_I h 141 19 (nI w)) 141 18 1).1 141 19 = nI w by rw [xI_j (by decide), xI_e]]
  refine ra_i2l A d_Mo_choose_21 <| ?_
  rw [nI_l (by omega)]
  refine ra_ladd A d_Mo_choose_22 <| ?_
  rw [show (8 : Int64) + lN w = lN (8 + w) from lN_add 8 w]
  refine ra_iload_n A d_Mo_choose_23 rfl <| ra_i2l A d_Mo_choose_24 <| ?_
  rw [nI_l (by omega)]
  refine ra_iload_n A d_Mo_choose_25 rfl <| ra_aload_n A d_Mo_choose_26 rfl <| ra_getI A f_Mo_253 d_Mo_choose_27 (Nat.le_of_ble_eq_true rfl) rfl rfl <| ?_
  rw [show (xw_I (xw_I h 141 19 (nI w)) 141 18 1).1 141 19 = nI w by rw [xI_j (by decide), xI_e]]
  refine ra_isub A d_Mo_choose_30 <| ?_
  rw [pk_sub (Nat.le_of_lt hw)]
  refine ra_i2l A d_Mo_choose_31 <| ?_
  rw [nI_l (by omega)]
  refine ra_lmul A d_Mo_choose_32 <| ?_
  rw [lN_mul]
  refine ra_ladd A d_Mo_choose_33 <| ?_
  rw [lN_add]
  refine ra_lstore_n (L' := [_, _, _, _, _, _, _, _, _]) A d_Mo_choose_34 (by decide) rfl <| ra_aload_n A d_Mo_choose_35 rfl <| ra_iload_n A d_Mo_choose_36 rfl <| ?_
  have f0 : fm [151] [18, 19, 20] false h (xw_I (xw_I h 141 19 (nI w)) 141 18 1) := (fm_F (by decide)).trans (fm_F (by decide))
  refine ra_callV (As := [_]) A ok_Mo_isOne l_Mo_294 im_Mo_isOne sl_Mo_isOne d_Mo_choose_37 (Nat.le_of_ble_eq_true rfl) rfl rfl rfl (Nat.le_of_ble_eq_true rfl) (xr_of at0 (by decide)) (s_Mo_isOne K hn1 (by omega) (sm := sm) (fun i hi => by rw [xI_k (by decide), xI_k (by decide)]; exact hs i hi) ?_)
  show xg x (y0 u) 0 0 40 _ _ _
  generalize hwd : d - w = wd at hX ⊢
  generalize hal : alB sm n = al at hX ⊢
  have hwn : wd * 1 ≤ wd * n := Nat.mul_le_mul_left _ hn1
  have hwn2 : wd * n ≤ 25 * 1024 := Nat.mul_le_mul (by omega) hn
  have hcb : ∀ o, (ch (sh sm w) al wd n o).1 ≤ 25 * 1024 := by
    intro o
    have h1 := ch_le (t := sh sm w) (al := al) (wd := wd) (n := n) o
    split at h1 <;> omega
  have at66 : ∀ g, fm [151] [18, 19, 20] false h g → g.1 141 18 = nI (ch (sh sm w) al wd n 0).2.1 → g.1 141 19 = nI w → xg x (y0 u) 0 0 66 [some (.ref 141), some (.int (nI n)), some (.int (nI d)), some (.long (lN (8 + w + (ch (sh sm w) al wd n 0).1))), none, none, none, none, none] [] g := by
    intro g0 fg e18 e19
    refine ra_iconst A 0 d_Mo_choose_66 (by decide) <| ra_istore (L' := [_, _, _, _, _, _, _, _, _]) A d_Mo_choose_67 (by decide) rfl <| ?_
    refine lp_up (σ := xw_H) (W := fun o g => ∀ v1 v2 v3, xg x (y0 u) 0 0 69 [some (.ref 141), some (.int (nI n)), some (.int (nI d)), some (.long (lN (8 + w + (ch (sh sm w) al wd n o).1))), none, some (.int (nI o)), v1, v2, v3] [] g) (I := fun o g => fm [151] [18, 19, 20] false h g ∧ g.1 141 18 = nI (ch (sh sm w) al wd n o).2.1 ∧ g.1 141 19 = nI w ∧ (8 ≤ (ch (sh sm w) al wd n o).2.1 → g.1 141 20 = nI (ch (sh sm w) al wd n o).2.2)) (min 5 n) ?_ ?_ 0 g0 (Nat.zero_le _) ⟨fg, e18, e19, fun q => ?_⟩ none none none
    · rintro g ⟨hf, q1, q2, q3⟩ v1 v2 v3
      have fin : xg x (y0 u) 0 0 161 [some (.ref 141), some (.int (nI n)), some (.int (nI d)), some (.long (lN (8 + w + (ch (sh sm w) al wd n (min 5 n)).1))), none, some (.int (nI (min 5 n))), v1, v2, v3] [] g := by
        refine ra_lload_n A d_Mo_choose_161 rfl <| ?_
        exact ra_lret A ow d_Mo_choose_162 (hX g hf ⟨fun i hi => by rw [fmk hf (by decide) (by decide)]; exact hs i hi, q1, q2, q3⟩)
      refine ra_iload A d_Mo_choose_69 rfl <| ra_iconst A 5 d_Mo_choose_71 (by decide) <| ?_
      by_cases c : 5 ≤ n
      · refine ra_icmp_ge (q := 161) A d_Mo_choose_72 (by decide) (fun _ => ?_) (fun cc => absurd ((by rw [Nat.min_eq_left c]; decide)) cc)
        exact fin
      · refine ra_icmp_ge (q := 161) A d_Mo_choose_72 (by decide) (fun cc => absurd cc ((by rw [Nat.min_eq_right (by omega)]; exact nI_ge (b := 5) (by omega) (by decide)))) (fun _ => ?_)
        refine ra_iload A d_Mo_choose_75 rfl <| ra_iload_n A d_Mo_choose_77 rfl <| ?_
        refine ra_icmp_ge (q := 161) A d_Mo_choose_78 (by decide) (fun _ => ?_) (fun cc => absurd ((by rw [Nat.min_eq_right (by omega)]; exact Int32.le_refl _)) cc)
        exact fin
    · rintro o g ho ⟨hf, q1, q2, q3⟩ ih v1 v2 v3
      have ho1 : o < n := by omega
      have ho4 : o ≤ 4 := by omega
      have es : ∀ i, i < n → g.1 150 i = sm i := fun i hi => by rw [fmk hf (by decide) (by decide)]; exact hs i hi
      refine ra_iload A d_Mo_choose_69 rfl <| ra_iconst A 5 d_Mo_choose_71 (by decide) <| ?_
      refine ra_icmp_ge (q := 161) A d_Mo_choose_72 (by decide) (fun cc => absurd cc (nI_ge (b := 5) (by omega) (by decide))) (fun _ => ?_)
      refine ra_iload A d_Mo_choose_75 rfl <| ra_iload_n A d_Mo_choose_77 rfl <| ?_
      refine ra_icmp_ge (q := 161) A d_Mo_choose_78 (by decide) (fun cc => absurd cc (nI_ge ho1 (by omega))) (fun _ => ?_)
      refine ra_aload_n A d_Mo_choose_81 rfl <| ra_iload A d_Mo_choose_82 rfl <| ra_iload_n A d_Mo_choose_84 rfl <| ?_
      refine ra_callV (As := [_, _]) A ok_Mo_leave l_Mo_297 im_Mo_leave sl_Mo_leave d_Mo_choose_85 (Nat.le_of_ble_eq_true rfl) rfl rfl rfl (Nat.le_of_ble_eq_true rfl) (xr_of at0 (by decide)) (s_Mo_leave K ho4 (by omega) es q2 (fun g2 f2 R2 => ?_))
      show xg x (y0 u) 0 0 88 _ _ g2
      have RT2 : RT g2 o n (dl o (sh sm w)) := fun i h1 h2 => ⟨R2 i h1 h2, hdl o ho4 i h1 h2⟩
      have hf2 : fm [151] [18, 19, 20] false h g2 := hf.trans (f2.mono (by decide) (by decide) (fun q => q))
      have w2 : g2.1 141 19 = nI w := by rw [f2.2.1 19 (by decide)]; exact q2
      refine ra_aload_n A d_Mo_choose_88 rfl <| ra_iload A d_Mo_choose_89 rfl <| ra_iload_n A d_Mo_choose_91 rfl <| ?_
      refine ra_callV (As := [_, _]) A ok_Mo_bestQ l_Mo_300 im_Mo_bestQ sl_Mo_bestQ d_Mo_choose_92 (Nat.le_of_ble_eq_true rfl) rfl rfl rfl (Nat.le_of_ble_eq_true rfl) (xr_of at0 (by decide)) (s_Mo_bestQ K RT2 hn ho1 ?_)
      show xg x (y0 u) 0 0 95 _ _ g2
      obtain ⟨hF, fF, nF⟩ := finq_fit ho1
      have hbq : bq (sh sm w) o n ≤ finq o n := (amin_LM _ _).1
      have hwb : wcost (sh sm w) o n < 2 ^ 21 := rcost_le hn (Nat.le_trans hbq hF) (pfit_le fF hbq) (fun i h1 h2 => by have := fdN_lt (hdl o ho4 i h1 h2); omega)
      have hwo : wd * o ≤ 25 * 4 := Nat.mul_le_mul (by omega) ho4
      refine ra_istore (L' := [_, _, _, _, _, _, _, _, _]) A d_Mo_choose_95 (by decide) rfl <| ra_ldc2 A k_Mo_222 d_Mo_choose_97 <| ra_aload_n A d_Mo_choose_100 rfl <| ra_getI A f_Mo_253 d_Mo_choose_101 (Nat.le_of_ble_eq_true rfl) rfl rfl <| ?_
      rw [w2]
      refine ra_i2l A d_Mo_choose_104 <| ?_
      rw [nI_l (by omega)]
      refine ra_ladd A d_Mo_choose_105 <| ?_
      rw [show (8 : Int64) + lN w = lN (8 + w) from lN_add 8 w]
      refine ra_iload A d_Mo_choose_106 rfl <| ra_i2l A d_Mo_choose_108 <| ?_
      rw [nI_l (by omega)]
      refine ra_iload_n A d_Mo_choose_109 rfl <| ra_aload_n A d_Mo_choose_110 rfl <| ra_getI A f_Mo_253 d_Mo_choose_111 (Nat.le_of_ble_eq_true rfl) rfl rfl <| ?_
      rw [w2]
      refine ra_isub A d_Mo_choose_114 <| ?_
      rw [pk_sub (Nat.le_of_lt hw), hwd]
      refine ra_i2l A d_Mo_choose_115 <| ?_
      rw [nI_l (by omega)]
      refine ra_lmul A d_Mo_choose_116 <| ?_
      rw [lN_mul]
      refine ra_ladd A d_Mo_choose_117 <| ?_
      rw [lN_add]
      refine ra_aload_n A d_Mo_choose_118 rfl <| ra_iload A d_Mo_choose_119 rfl <| ra_iload A d_Mo_choose_121 rfl <| ra_iload_n A d_Mo_choose_123 rfl <| ?_
      refine ra_callV (As := [_, _, _]) A ok_Mo_restCost l_Mo_285 im_Mo_restCost sl_Mo_restCost d_Mo_choose_124 (Nat.le_of_ble_eq_true rfl) rfl rfl rfl (Nat.le_of_ble_eq_true rfl) (xr_of at0 (by decide)) (s_Mo_restCost K RT2 (by omega) (by omega) (pfit_le fF hbq) ?_)
      show xg x (y0 u) 0 0 127 _ _ g2
      rw [show rcost (fun i => fdN (dl o (sh sm w) i)) o n (bq (sh sm w) o n) = wcost (sh sm w) o n from rfl]
      refine ra_ladd A d_Mo_choose_127 <| ?_
      rw [lN_add, show 8 + w + o * wd + wcost (sh sm w) o n = 8 + w + (wd * o + wcost (sh sm w) o n) by rw [Nat.mul_comm]; omega]
      refine ra_lstore (L' := [_, _, _, _, _, _, _, _, _]) A d_Mo_choose_128 (by decide) rfl <| ra_lload A d_Mo_choose_130 rfl <| ra_lload_n A d_Mo_choose_132 rfl <| ra_lcmp A d_Mo_choose_133 <| ?_
      have hco := hcb o
      by_cases c : wd * o + wcost (sh sm w) o n < (ch (sh sm w) al wd n o).1
      · refine ra_if_ge (q := 155) A d_Mo_choose_134 (by decide) (fun cc => absurd cc (fun z => absurd ((pk_lLE (by omega) (by omega)).mp (lc_ge.mp z)) (by omega))) (fun _ => ?_)
        have e : ch (sh sm w) al wd n (o + 1) = (wd * o + wcost (sh sm w) o n, 8 + o, bq (sh sm w) o n) := by rw [ch, if_pos c]
        rw [e] at ih
        refine ra_lload A d_Mo_choose_137 rfl <| ra_lstore_n (L' := [_, _, _, _, _, _, _, _, _]) A d_Mo_choose_139 (by decide) rfl <| ra_aload_n A d_Mo_choose_140 rfl <| ra_bipush A 8 d_Mo_choose_141 (by decide) <| ra_iload A d_Mo_choose_143 rfl <| ra_iadd A d_Mo_choose_145 <| ?_
        rw [show (8 : Int32) + nI o = nI (8 + o) from nI_add 8 o]
        refine ra_putI (ty := .int) A f_Mo_291 rfl rfl (by decide +kernel) rfl rfl d_Mo_choose_146 (Nat.le_of_ble_eq_true rfl) rfl rfl <| ra_aload_n A d_Mo_choose_149 rfl <| ra_iload A d_Mo_choose_150 rfl <| ra_putI (ty := .int) A f_Mo_303 rfl rfl (by decide +kernel) rfl rfl d_Mo_choose_152 (Nat.le_of_ble_eq_true rfl) rfl rfl <| ra_iinc (L' := [_, _, _, _, _, _, _, _, _]) A 1 d_Mo_choose_155 rfl (by decide) (by decide) rfl <| ra_goto (q := 69) A d_Mo_choose_158 (by decide) <| ?_
        rw [nI_1]
        refine ih _ ⟨(hf2.trans (fm_F (by decide))).trans (fm_F (by decide)), ?_, ?_, fun _ => xI_e⟩ _ _ _
        · rw [xI_j (by decide), xI_e]
        · rw [xI_j (by decide), xI_j (by decide)]; exact w2
      · refine ra_if_ge (q := 155) A d_Mo_choose_134 (by decide) (fun _ => ?_) (fun cc => absurd (lc_ge.mpr ((pk_lLE (by omega) (by omega)).mpr (by omega))) cc)
        have e : ch (sh sm w) al wd n (o + 1) = ch (sh sm w) al wd n o := by rw [ch, if_neg c]
        rw [e] at ih
        refine ra_iinc (L' := [_, _, _, _, _, _, _, _, _]) A 1 d_Mo_choose_155 rfl (by decide) (by decide) rfl <| ra_goto (q := 69) A d_Mo_choose_158 (by decide) <| ?_
        rw [nI_1]
        exact ih g2 ⟨hf2, by rw [f2.2.1 18 (by decide)]; exact q1, w2, fun q => by rw [f2.2.1 20 (by decide)]; exact q3 q⟩ _ _ _
    · unfold ch at q
      dsimp only at q
      split at q <;> omega
  cases al
  · refine ra_if_eq (q := 66) A d_Mo_choose_40 (by decide) (fun _ => ?_) (fun cc => absurd (rfl) cc)
    have := at66 (xw_I (xw_I h 141 19 (nI w)) 141 18 1) f0 xI_e (by rw [xI_j (by decide), xI_e])
    rw [show (ch (sh sm w) false wd n 0).1 = n * wd by rw [Nat.mul_comm]; rfl] at this
    exact this
  · refine ra_if_eq (q := 66) A d_Mo_choose_40 (by decide) (fun cc => absurd cc ((by decide))) (fun _ => ?_)
    refine ra_ldc2 A k_Mo_222 d_Mo_choose_43 <| ra_iload_n A d_Mo_choose_46 rfl <| ra_i2l A d_Mo_choose_47 <| ?_
    rw [nI_l (by omega)]
    refine ra_ladd A d_Mo_choose_48 <| ra_lload_n A d_Mo_choose_49 rfl <| ra_lcmp A d_Mo_choose_50 <| ?_
    rw [show (8 : Int64) + lN d = lN (8 + d) from lN_add 8 d]
    have hc : 8 + d ≤ 8 + w + n * wd := by rw [Nat.mul_comm]; omega
    have hc2 : n * wd ≤ 25 * 1024 := by rw [Nat.mul_comm]; exact hwn2
    refine ra_if_gt (q := 66) A d_Mo_choose_51 (by decide) (fun cc => absurd cc (fun z => absurd (Int64.not_lt.mpr ((pk_lLE (by omega) (by omega)).mpr hc)) (fun q => q (lc_gt.mp z)))) (fun _ => ?_)
    refine ra_ldc2 A k_Mo_222 d_Mo_choose_54 <| ra_iload_n A d_Mo_choose_57 rfl <| ra_i2l A d_Mo_choose_58 <| ?_
    rw [nI_l (by omega)]
    refine ra_ladd A d_Mo_choose_59 <| ?_
    rw [show (8 : Int64) + lN d = lN (8 + d) from lN_add 8 d]
    refine ra_lstore_n (L' := [_, _, _, _, _, _, _, _, _]) A d_Mo_choose_60 (by decide) rfl <| ra_aload_n A d_Mo_choose_61 rfl <| ra_iconst A 0 d_Mo_choose_62 (by decide) <| ra_putI (ty := .int) A f_Mo_291 rfl rfl (by decide +kernel) rfl rfl d_Mo_choose_63 (Nat.le_of_ble_eq_true rfl) rfl rfl <| ?_
    have := at66 (xw_I (xw_I (xw_I h 141 19 (nI w)) 141 18 1) 141 18 0) (f0.trans (fm_F (by decide))) xI_e (by rw [xI_j (by decide), xI_j (by decide), xI_e])
    rw [show 8 + w + (ch (sh sm w) true wd n 0).1 = 8 + d by show 8 + w + wd = 8 + d; omega] at this
    exact this
theorem s_Mo_writePart (K : xk_ok u KK) {r : Nat → Int32} {a m o n p : Nat} (R : RT h o n r) (ho : o ≤ a) (ham : a + m ≤ n) (hn : n ≤ 1200) (hR : SR h) (hp : h.2 141 13 = lN p) (hroom : p + (partbits r (pk (fun i => fdN (r i)) a m) (bln (us (fun i => fdN (r i)) a m)) a m).length ≤ 75200)
    (hX : ∀ h', fm [148] [] true h h' → SW p (partbits r (pk (fun i => fdN (r i)) a m) (bln (us (fun i => fdN (r i)) a m)) a m) h h' → X (.inl none) h' 0 0) : xm_M l (y0 u) KK m_Mo_writePart [.ref 141, .int (nI a), .int (nI (a + m))] h X := by
  refine xm_of [none, none, none, none, none] (by simp) (Nat.le_of_ble_eq_true rfl) (by decide) (fun x at0 => ?_)
  have A := xa_of at0 K
  have ow := at0.2.2.2.2.1
  have hr : ∀ i, a ≤ i → i < a + m → h.1 151 i = r i ∧ -2 ^ 29 ≤ (r i).toInt ∧ (r i).toInt ≤ 2 ^ 29 := by
    intro i h1 h2
    obtain ⟨q1, q2, q3⟩ := R i (by omega) (by omega)
    exact ⟨q1, by omega, by omega⟩
  have hfd : ∀ i, a ≤ i → i < a + m → fdN (r i) < 2 ^ 30 := by
    intro i h1 h2
    have := fdN_lt (R i (by omega) (by omega)).2
    omega
  have hk15 : pk (fun i => fdN (r i)) a m ≤ 15 := (amin_LM _ 15).1
  have hnb : bln (us (fun i => fdN (r i)) a m) ≤ 30 := bln_le (us_lt2 m hfd)
  refine ra_aload_n A d_Mo_writePart_0 rfl <| ra_iload_n A d_Mo_writePart_1 rfl <| ra_iload_n A d_Mo_writePart_2 rfl <| ?_
  refine ra_callV (As := [_, _]) A ok_Mo_bestK l_Mo_278 im_Mo_bestK sl_Mo_bestK d_Mo_writePart_3 (Nat.le_of_ble_eq_true rfl) rfl rfl rfl (Nat.le_of_ble_eq_true rfl) (xr_of at0 (by decide)) (s_Mo_bestK K R ho ham hn ?_)
  show xg x (y0 u) 0 0 6 _ _ h
  refine ra_istore_n (L' := [_, _, _, _, _, _, _, _]) A d_Mo_writePart_6 (by decide) rfl <| ra_aload_n A d_Mo_writePart_7 rfl <| ra_iload_n A d_Mo_writePart_8 rfl <| ra_iload_n A d_Mo_writePart_9 rfl <| ?_
  refine ra_callV (As := [_, _]) A ok_Mo_room l_Mo_261 im_Mo_room sl_Mo_room d_Mo_writePart_10 (Nat.le_of_ble_eq_true rfl) rfl rfl rfl (Nat.le_of_ble_eq_true rfl) (xr_of at0 (by decide)) (s_Mo_room K (by omega) hr ?_)
  show xg x (y0 u) 0 0 13 _ _ h
  generalize pk (fun i => fdN (r i)) a m = k at *
  generalize bln (us (fun i => fdN (r i)) a m) = nn at *
  have k15 : nI k = 15 ↔ k = 15 := nI_eq (b := 15) (by omega) (by decide)
  have hl : (partbits r k nn a m).length = (phead k nn).length + (pb r k nn a m).length := by unfold partbits; rw [List.length_append]
  have hlh : (phead k nn).length = 4 + (if k = 15 then 5 else 0) := by
    unfold phead
    rw [List.length_append, bitsL_len]
    split
    · rw [bitsL_len]
    · rfl
  refine ra_istore (L' := [_, _, _, _, _, _, _, _]) A d_Mo_writePart_13 (by decide) rfl <| ra_aload_n A d_Mo_writePart_15 rfl <| ra_iload_n A d_Mo_writePart_16 rfl <| ra_i2l A d_Mo_writePart_17 <| ?_
  rw [nI_l (by omega)]
  refine ra_iconst A 4 d_Mo_writePart_18 (by decide) <| ?_
  refine ra_callV (As := [_, _]) A ok_Mo_put l_Mo_306 im_Mo_put sl_Mo_put d_Mo_writePart_19 (Nat.le_of_ble_eq_true rfl) rfl rfl rfl (Nat.le_of_ble_eq_true rfl) (xr_of at0 (by decide)) (s_Mo_put K (n := 4) hR hp (by omega) (fun g1 f1 W1 => ?_))
  show xg x (y0 u) 0 0 22 _ _ g1
  have loop : ∀ g w5 w6 w7, fm [148] [] true h g → SW p (phead k nn) h g → xg x (y0 u) 0 0 36 [some (.ref 141), some (.int (nI a)), some (.int (nI (a + m))), some (.int (nI k)), some (.int (nI nn)), w5, w6, w7] [] g := by
    intro g0 w5 w6 w7 f0 W0
    refine ra_iload_n A d_Mo_writePart_36 rfl <| ra_istore (L' := [_, _, _, _, _, _, _, _]) A d_Mo_writePart_37 (by decide) rfl <| ?_
    rw [show a = a + 0 from rfl]
    refine lp_up (σ := xw_H × Option Value × Option Value) (W := fun j s => xg x (y0 u) 0 0 39 [some (.ref 141), some (.int (nI (a + 0))), some (.int (nI (a + 0 + m))), some (.int (nI k)), some (.int (nI nn)), some (.int (nI (a + j))), s.2.1, s.2.2] [] s.1) (I := fun j s => fm [148] [] true h s.1 ∧ SW p (phead k nn ++ pb r k nn a j) h s.1) m ?_ ?_ 0 (g0, w6, w7) (Nat.zero_le _) ⟨f0, by simpa [pb] using W0⟩
    · rintro ⟨g, w6, w7⟩ ⟨hf, hW⟩
      dsimp only at hf hW ⊢
      refine ra_iload A d_Mo_writePart_39 rfl <| ra_iload_n A d_Mo_writePart_41 rfl <| ?_
      refine ra_icmp_ge (q := 123) A d_Mo_writePart_42 (by decide) (fun _ => ?_) (fun cc => absurd (Int32.le_refl _) cc)
      exact ra_vret A ow d_Mo_writePart_123 (hX g hf hW)
    · rintro j ⟨g, w6, w7⟩ hj ⟨hf, hW⟩ ih
      dsimp only at hf hW ⊢
      obtain ⟨r1, r2⟩ := hr (a + j) (by omega) (by omega)
      have hfj := hfd (a + j) (by omega) (by omega)
      have hmono : (pb r k nn a (j + 1)).length ≤ (pb r k nn a m).length := pb_mono hj
      rw [pb, List.length_append, rbits_len] at hmono
      have hCl : (phead k nn ++ pb r k nn a j).length = (phead k nn).length + (pb r k nn a j).length := List.length_append
      rw [pb, ← List.append_assoc] at ih
      generalize phead k nn ++ pb r k nn a j = C at hW hCl ih
      have e151 : g.1 151 = h.1 151 := fmk hf (by decide) (by decide)
      refine ra_iload A d_Mo_writePart_39 rfl <| ra_iload_n A d_Mo_writePart_41 rfl <| ?_
      refine ra_icmp_ge (q := 123) A d_Mo_writePart_42 (by decide) (fun cc => absurd cc (nI_ge (show a + j < a + 0 + m by omega) (by omega))) (fun _ => ?_)
      refine ra_iload_n A d_Mo_writePart_45 rfl <| ra_bipush A 15 d_Mo_writePart_46 (by decide) <| ?_
      by_cases c : k = 15
      · rw [if_pos c] at hmono
        refine ra_icmp_ne (q := 68) A d_Mo_writePart_48 (by decide) (fun cc => absurd (k15.mpr c) cc) (fun _ => ?_)
        refine ra_aload_n A d_Mo_writePart_51 rfl <| ra_aload_n A d_Mo_writePart_52 rfl <| ra_getR A f_Mo_179 d_Mo_writePart_53 (Nat.le_of_ble_eq_true rfl) rfl rfl rfl <| ra_iload A d_Mo_writePart_56 rfl <| ?_
        refine ra_iaload A d_Mo_writePart_58 (Nat.le_of_ble_eq_true rfl) rfl (vp_in_nI (by omega) (by decide)) ?_
        rw [nI_clamp (by omega), e151, r1]
        refine ra_i2l A d_Mo_writePart_59 <| ra_iload A d_Mo_writePart_60 rfl <| ?_
        refine ra_callV (As := [_, _]) A ok_Mo_put l_Mo_306 im_Mo_put sl_Mo_put d_Mo_writePart_62 (Nat.le_of_ble_eq_true rfl) rfl rfl rfl (Nat.le_of_ble_eq_true rfl) (xr_of at0 (by decide)) (s_Mo_put K (n := nn) hW.sr hW.1 (by omega) (fun g2 f2 W2 => ?_))
        show xg x (y0 u) 0 0 65 _ _ g2
        refine ra_goto (q := 117) A d_Mo_writePart_65 (by decide) <| ra_iinc (L' := [_, _, _, _, _, _, _, _]) A 1 d_Mo_writePart_117 rfl (by decide) (by decide) rfl <| ra_goto (q := 39) A d_Mo_writePart_120 (by decide) <| ?_
        rw [nI_1]
        refine ih (g2, _, _) ⟨hf.trans f2, ?_⟩
        unfold rbits
        rw [if_pos c]
        exact hW.trans W2
      · rw [if_neg c] at hmono
        refine ra_icmp_ne (q := 68) A d_Mo_writePart_48 (by decide) (fun _ => ?_) (fun cc => absurd cc (fun z => c (k15.mp z)))
        refine ra_aload_n A d_Mo_writePart_68 rfl <| ra_getR A f_Mo_179 d_Mo_writePart_69 (Nat.le_of_ble_eq_true rfl) rfl rfl rfl <| ra_iload A d_Mo_writePart_72 rfl <| ?_
        refine ra_iaload A d_Mo_writePart_74 (Nat.le_of_ble_eq_true rfl) rfl (vp_in_nI (by omega) (by decide)) ?_
        rw [nI_clamp (by omega), e151, r1]
        refine ra_callS (As := [_]) A ok_Mo_folded l_Mo_266 st_Mo_folded d_Mo_writePart_75 rfl (Nat.le_of_ble_eq_true rfl) (xr_of at0 (by decide)) (s_Mo_folded K r2 ?_)
        show xg x (y0 u) 0 0 78 _ _ g
        have hle := Nat.div_le_self (fdN (r (a + j))) (2 ^ k)
        refine ra_istore (L' := [_, _, _, _, _, _, _, _]) A d_Mo_writePart_78 (by decide) rfl <| ra_iload A d_Mo_writePart_80 rfl <| ra_iload_n A d_Mo_writePart_82 rfl <| ra_ishr A d_Mo_writePart_83 <| ?_
        rw [shrN (by omega) (by omega)]
        refine ra_istore (L' := [_, _, _, _, _, _, _, _]) A d_Mo_writePart_84 (by decide) rfl <| ?_
        have zl : ∀ z (g' : xw_H), (fm [148] [] true h g' ∧ ∃ y, y + z = fdN (r (a + j)) / 2 ^ k ∧ SW p (C ++ List.replicate y false) h g') → xg x (y0 u) 0 0 86 [some (.ref 141), some (.int (nI (a + 0))), some (.int (nI (a + 0 + m))), some (.int (nI k)), some (.int (nI nn)), some (.int (nI (a + j))), some (.int (nI (fdN (r (a + j))))), some (.int (nI z))] [] g' := by
          intro z
          induction z with
          | zero =>
            rintro g' ⟨hf', y, hy, hW'⟩
            obtain rfl : y = fdN (r (a + j)) / 2 ^ k := by omega
            have hl' : (C ++ List.replicate (fdN (r (a + j)) / 2 ^ k) false).length = C.length + fdN (r (a + j)) / 2 ^ k := by rw [List.length_append, List.length_replicate]
            refine ra_iload A d_Mo_writePart_86 rfl <| ?_
            refine ra_if_le (q := 103) A d_Mo_writePart_88 (by decide) (fun _ => ?_) (fun cc => absurd ((by decide)) cc)
            refine ra_aload_n A d_Mo_writePart_103 rfl <| ra_lconst A 1 d_Mo_writePart_104 (by decide) <| ra_iconst A 1 d_Mo_writePart_105 (by decide) <| ?_
            refine ra_callV (As := [_, _]) A ok_Mo_put l_Mo_306 im_Mo_put sl_Mo_put d_Mo_writePart_106 (Nat.le_of_ble_eq_true rfl) rfl rfl rfl (Nat.le_of_ble_eq_true rfl) (xr_of at0 (by decide)) (s_Mo_put K (n := 1) hW'.sr hW'.1 (by omega) (fun g3 f3 W3 => ?_))
            show xg x (y0 u) 0 0 109 _ _ g3
            rw [bitsL_1] at W3
            have W3' := hW'.trans W3
            refine ra_aload_n A d_Mo_writePart_109 rfl <| ra_iload A d_Mo_writePart_110 rfl <| ra_i2l A d_Mo_writePart_112 <| ?_
            rw [nI_l (by omega)]
            refine ra_iload_n A d_Mo_writePart_113 rfl <| ?_
            refine ra_callV (As := [_, _]) A ok_Mo_put l_Mo_306 im_Mo_put sl_Mo_put d_Mo_writePart_114 (Nat.le_of_ble_eq_true rfl) rfl rfl rfl (Nat.le_of_ble_eq_true rfl) (xr_of at0 (by decide)) (s_Mo_put K (n := k) W3'.sr W3'.1 (by rw [List.length_append, hl', List.length_singleton]; omega) (fun g4 f4 W4 => ?_))
            show xg x (y0 u) 0 0 117 _ _ g4
            refine ra_iinc (L' := [_, _, _, _, _, _, _, _]) A 1 d_Mo_writePart_117 rfl (by decide) (by decide) rfl <| ra_goto (q := 39) A d_Mo_writePart_120 (by decide) <| ?_
            rw [nI_1]
            refine ih (g4, _, _) ⟨(hf'.trans f3).trans f4, ?_⟩
            unfold rbits
            rw [if_neg c, ← List.append_assoc, ← List.append_assoc]
            exact W3'.trans W4
          | succ z ihz =>
            rintro g' ⟨hf', y, hy, hW'⟩
            have hl' : (C ++ List.replicate y false).length = C.length + y := by rw [List.length_append, List.length_replicate]
            refine ra_iload A d_Mo_writePart_86 rfl <| ?_
            refine ra_if_le (q := 103) A d_Mo_writePart_88 (by decide) (fun cc => absurd cc (nI_nle (by omega) (by omega))) (fun _ => ?_)
            refine ra_aload_n A d_Mo_writePart_91 rfl <| ra_lconst A 0 d_Mo_writePart_92 (by decide) <| ra_iconst A 1 d_Mo_writePart_93 (by decide) <| ?_
            refine ra_callV (As := [_, _]) A ok_Mo_put l_Mo_306 im_Mo_put sl_Mo_put d_Mo_writePart_94 (Nat.le_of_ble_eq_true rfl) rfl rfl rfl (Nat.le_of_ble_eq_true rfl) (xr_of at0 (by decide)) (s_Mo_put K (n := 1) hW'.sr hW'.1 (by omega) (fun g3 f3 W3 => ?_))
            show xg x (y0 u) 0 0 97 _ _ g3
            rw [bitsL_z] at W3
            refine ra_iinc (L' := [_, _, _, _, _, _, _, _]) A (-1) d_Mo_writePart_97 rfl (by decide) (by decide) rfl <| ra_goto (q := 86) A d_Mo_writePart_100 (by decide) <| ?_
            rw [pk_m1]
            refine ihz g3 ⟨hf'.trans f3, y + 1, by omega, ?_⟩
            rw [← List.replicate_append_replicate, ← List.append_assoc]
            exact hW'.trans W3
        exact zl (fdN (r (a + j)) / 2 ^ k) g ⟨hf, 0, by omega, by simpa using hW⟩
  by_cases c : k = 15
  · refine ra_iload_n A d_Mo_writePart_22 rfl <| ra_bipush A 15 d_Mo_writePart_23 (by decide) <| ?_
    refine ra_icmp_ne (q := 36) A d_Mo_writePart_25 (by decide) (fun cc => absurd (k15.mpr c) cc) (fun _ => ?_)
    refine ra_aload_n A d_Mo_writePart_28 rfl <| ra_iload A d_Mo_writePart_29 rfl <| ra_i2l A d_Mo_writePart_31 <| ?_
    rw [nI_l (by omega)]
    refine ra_iconst A 5 d_Mo_writePart_32 (by decide) <| ?_
    refine ra_callV (As := [_, _]) A ok_Mo_put l_Mo_306 im_Mo_put sl_Mo_put d_Mo_writePart_33 (Nat.le_of_ble_eq_true rfl) rfl rfl rfl (Nat.le_of_ble_eq_true rfl) (xr_of at0 (by decide)) (s_Mo_put K (n := 5) W1.sr W1.1 (by rw [bitsL_len]; rw [if_pos c] at hlh; omega) (fun g2 f2 W2 => ?_))
    show xg x (y0 u) 0 0 36 _ _ g2
    refine loop g2 _ _ _ (f1.trans f2) ?_
    unfold phead
    rw [if_pos c]
    exact W1.trans W2
  · refine ra_iload_n A d_Mo_writePart_22 rfl <| ra_bipush A 15 d_Mo_writePart_23 (by decide) <| ?_
    refine ra_icmp_ne (q := 36) A d_Mo_writePart_25 (by decide) (fun _ => ?_) (fun cc => absurd cc (fun z => c (k15.mp z)))
    refine loop g1 _ _ _ f1 ?_
    unfold phead
    rw [if_neg c, List.append_nil]
    exact W1
end S86
