/-! SoundStream$Subframe: write -/
theorem sbits_mono {t : Nat → Int32} {wd m m' : Nat} (h : m ≤ m') : (sbits t wd m).length ≤ (sbits t wd m').length := by
  rw [sbits_len, sbits_len]
  exact Nat.mul_le_mul_left _ h
section S74
variable {u : xu_T} {l : Launch} {KK : State → Prop} {h : xw_H} {X : xc_R → xw_H → Nat → Nat → Prop}
theorem s_Su_write_124 (K : xk_ok u KK) {n d : Nat} {sm : Nat → Int32} {B : List Bool} (hn0 : 0 < n) (hn : n ≤ 1024) (hd0 : 1 ≤ d) (hd : d ≤ 25) (hb : inD sm n d) (S : SF h 124 125 sm n d) (W : WB h B) (hroom : B.length + (sfbits sm n d).length ≤ 72000)
    (hX : ∀ h', fr WL h h' → WB h' (B ++ sfbits sm n d) → X (.inl none) h' 0 0) : xm_M l (y0 u) KK m_Su_write [.ref 124, .ref 87] h X := by
  refine xm_of [none, none] (by simp) (Nat.le_of_ble_eq_true rfl) (by decide) (fun x at0 => ?_)
  have A := xa_of at0 K
  have ow := at0.2.2.2.2.1
  have hw := hb.w hd0 hd
  have hdl := fun o ho => hb.dl hd (o := o) ho
  obtain ⟨S, -⟩ := S
  have hty := ch_ty (t := sT sm n) (al := alB sm n) (wd := d - sW sm n) (n := n) (min 5 n) (Nat.min_le_right _ _)
  rw [show ch (sT sm n) (alB sm n) (d - sW sm n) n (min 5 n) = sC sm n d from rfl] at hty
  replace hty : ((sC sm n d).2.1 = 0 ∨ (sC sm n d).2.1 = 1) ∨ ∃ o, o < min 5 n ∧ (sC sm n d).2.1 = 8 + o ∧ (sC sm n d).2.2 = bq (sT sm n) o n := by
    rcases hty with ⟨q, -⟩ | ⟨o, q1, q2, q3, -⟩
    · left
      rw [q]
      split
      · exact Or.inl rfl
      · exact Or.inr rfl
    · exact Or.inr ⟨o, q1, q2, q3⟩
  obtain ⟨s1, s2, s3, s4, s5, s6⟩ := S
  unfold sfbits at hroom hX
  generalize (sC sm n d).2.1 = ty at *
  generalize (sC sm n d).2.2 = q at *
  generalize hwd : d - sW sm n = wd at *
  generalize hww : sW sm n = w at *
  generalize htt : sT sm n = t at *
  have hX : ∀ h', fr WL h h' → WB h' (B ++ bitsL 7 (lN ty) ++ bitsL 1 (if 0 < w then 1 else 0) ++ bitsL w 1 ++ sbits t wd (sfirst ty n) ++ (if ty < 8 then [] else restbits (dl (ty - 8) t) (ty - 8) n q)) → X (.inl none) h' 0 0 := fun h' f W => hX h' f (by simpa only [List.append_assoc] using W)
  simp only [List.length_append, bitsL_len, sbits_len] at hroom
  have hty31 : ty < 2 ^ 31 := by omega
  refine ra_aload_n A d_Su_write_0 rfl <| ra_bipush A 7 d_Su_write_1 (by decide) <| ra_aload_n A d_Su_write_3 rfl <| ra_getI A f_Su_33 d_Su_write_4 (Nat.le_of_ble_eq_true rfl) rfl rfl <| ?_
  rw [s3]
  refine ra_i2l A d_Su_write_7 <| ?_
  rw [nI_l hty31]
  refine ra_callV (As := [_, _]) A ok_Wr_put l_Su_57 im_Wr_put sl_Wr_put d_Su_write_8 (Nat.le_of_ble_eq_true rfl) rfl rfl rfl (Nat.le_of_ble_eq_true rfl) (xr_of at0 (by decide)) (s_Wr_put K (n := 7) W (by omega) (fun g1 f1 W1 => ?_))
  show xg x (y0 u) 0 0 11 _ _ g1
  refine ra_aload_n A d_Su_write_11 rfl <| ra_iconst A 1 d_Su_write_12 (by decide) <| ra_aload_n A d_Su_write_13 rfl <| ra_getI A f_Su_27 d_Su_write_14 (Nat.le_of_ble_eq_true rfl) rfl rfl <| ?_
  rw [fr1 f1 (by decide), s4]
  have at25 : xg x (y0 u) 0 0 25 [some (.ref 124), some (.ref 87), none, none] [.long (if 0 < w then 1 else 0), .int 1, .ref 87] g1 := by
    refine ra_callV (As := [_, _]) A ok_Wr_put l_Su_57 im_Wr_put sl_Wr_put d_Su_write_25 (Nat.le_of_ble_eq_true rfl) rfl rfl rfl (Nat.le_of_ble_eq_true rfl) (xr_of at0 (by decide)) (s_Wr_put K (n := 1) W1 (by rw [List.length_append, bitsL_len]; omega) (fun g2 f2 W2 => ?_))
    show xg x (y0 u) 0 0 28 _ _ g2
    have f12 := f1.trans f2
    refine ra_aload_n A d_Su_write_28 rfl <| ra_aload_n A d_Su_write_29 rfl <| ra_getI A f_Su_27 d_Su_write_30 (Nat.le_of_ble_eq_true rfl) rfl rfl <| ?_
    rw [fr1 f12 (by decide), s4]
    refine ra_lconst A 1 d_Su_write_33 (by decide) <| ?_
    refine ra_callV (As := [_, _]) A ok_Wr_put l_Su_57 im_Wr_put sl_Wr_put d_Su_write_34 (Nat.le_of_ble_eq_true rfl) rfl rfl rfl (Nat.le_of_ble_eq_true rfl) (xr_of at0 (by decide)) (s_Wr_put K (n := w) W2 (by rw [List.length_append, List.length_append, bitsL_len, bitsL_len]; omega) (fun g3 f3 W3 => ?_))
    show xg x (y0 u) 0 0 37 _ _ g3
    have f3' := f12.trans f3
    have hPl : (B ++ bitsL 7 (lN ty) ++ bitsL 1 (if 0 < w then 1 else 0) ++ bitsL w 1).length = B.length + 8 + w := by
      rw [List.length_append, List.length_append, List.length_append, bitsL_len, bitsL_len, bitsL_len]
    generalize B ++ bitsL 7 (lN ty) ++ bitsL 1 (if 0 < w then 1 else 0) ++ bitsL w 1 = P at W3 hX hPl
    refine ra_aload_n A d_Su_write_37 rfl <| ra_getI A f_Su_33 d_Su_write_38 (Nat.le_of_ble_eq_true rfl) rfl rfl <| ?_
    rw [fr1 f3' (by decide), s3]
    have at82 : ∀ F, F ≤ n → sfirst ty n = F → ¬ ty = 0 → xg x (y0 u) 0 0 82 [some (.ref 124), some (.ref 87), none, none] [.int (nI F)] g3 := by
      intro F hF eF hne
      rw [eF] at hroom hX
      refine ra_istore_n (L' := [_, _, _, _]) A d_Su_write_82 (by decide) rfl <| ra_iconst A 0 d_Su_write_83 (by decide) <| ra_istore_n (L' := [_, _, _, _]) A d_Su_write_84 (by decide) rfl <| ?_
      refine lp_up (σ := xw_H) (W := fun i g => xg x (y0 u) 0 0 85 [some (.ref 124), some (.ref 87), some (.int (nI F)), some (.int (nI i))] [] g) (I := fun i g => fr [6, 7, 87] h g ∧ WB g (P ++ sbits t wd i)) F ?_ ?_ 0 g3 (Nat.zero_le _) ⟨f3', by simpa [sbits] using W3⟩
      · rintro g ⟨hf, hW⟩
        refine ra_iload_n A d_Su_write_85 rfl <| ra_iload_n A d_Su_write_86 rfl <| ?_
        refine ra_icmp_ge (q := 111) A d_Su_write_87 (by decide) (fun _ => ?_) (fun cc => absurd (Int32.le_refl _) cc)
        refine ra_aload_n A d_Su_write_111 rfl <| ra_getI A f_Su_33 d_Su_write_112 (Nat.le_of_ble_eq_true rfl) rfl rfl <| ?_
        rw [fr1 hf (by decide), s3]
        refine ra_iconst A 1 d_Su_write_115 (by decide) <| ?_
        rcases hty with (e | e) | ⟨o, ho, e, eq⟩
        · exact absurd e hne
        · subst e
          refine ra_icmp_eq (q := 166) A d_Su_write_116 (by decide) (fun _ => ?_) (fun cc => absurd (rfl) cc)
          rw [if_pos (by decide), List.append_nil] at hX
          exact ra_vret A ow d_Su_write_166 (hX g (hf.mono (by decide)) hW)
        · subst e
          have ho1 : o < n := by omega
          obtain rfl : F = o := by
            rw [← eF]
            unfold sfirst
            rw [if_neg (by omega), if_neg (by omega)]
            omega
          rw [if_neg (show ¬ 8 + F < 8 by omega), show 8 + F - 8 = F by omega] at hX hroom
          refine ra_icmp_eq (q := 166) A d_Su_write_116 (by decide) (fun cc => absurd cc (fun z => absurd ((nI_eq (b := 1) hty31 (by decide)).mp z) (by omega))) (fun _ => ?_)
          refine ra_aload_n A d_Su_write_119 rfl <| ra_getR A f_Su_15 d_Su_write_120 (Nat.le_of_ble_eq_true rfl) rfl rfl rfl <| ra_aload_n A d_Su_write_123 rfl <| ra_getR A f_Su_9 d_Su_write_124 (Nat.le_of_ble_eq_true rfl) rfl rfl rfl <| ra_aload_n A d_Su_write_127 rfl <| ra_getI A f_Su_19 d_Su_write_128 (Nat.le_of_ble_eq_true rfl) rfl rfl <| ?_
          rw [fr1 hf (by decide), s1]
          refine ra_callV (As := [_, _]) A ok_Re_begin l_Su_36 im_Re_begin sl_Re_begin d_Su_write_131 (Nat.le_of_ble_eq_true rfl) rfl rfl rfl (Nat.le_of_ble_eq_true rfl) (xr_of at0 (by decide)) (s_Re_begin K (c := 125) (n := n) (by decide) rfl hn (fun g4 f4 R4 => ?_))
          show xg x (y0 u) 0 0 134 _ _ g4
          have hff := finq_fit ho1
          have hbq : bq t F n ≤ finq F n := (amin_LM _ _).1
          have e4 := s5 (by omega)
          refine ra_iconst A 0 d_Su_write_134 (by decide) <| ra_istore_n (L' := [_, _, _, _]) A d_Su_write_135 (by decide) rfl <| ?_
          refine lp_up (σ := xw_H) (W := fun j g => xg x (y0 u) 0 0 136 [some (.ref 124), some (.ref 87), some (.int (nI F)), some (.int (nI j))] [] g) (I := fun j g => fr WL h g ∧ WB g (P ++ sbits t wd F) ∧ RS g n j (dl j t)) F ?_ ?_ 0 g4 (Nat.zero_le _) ⟨(hf.mono (by decide)).trans (f4.mono (by decide)), hW.fr f4 (by decide) (by decide) (by decide), R4.1, R4.2.1, fun i h1 h2 => ?_⟩
          · rintro g' ⟨hf', hW', hR'⟩
            refine ra_iload_n A d_Su_write_136 rfl <| ra_iload_n A d_Su_write_137 rfl <| ?_
            refine ra_icmp_ge (q := 154) A d_Su_write_138 (by decide) (fun _ => ?_) (fun cc => absurd (Int32.le_refl _) cc)
            refine ra_aload_n A d_Su_write_154 rfl <| ra_getR A f_Su_15 d_Su_write_155 (Nat.le_of_ble_eq_true rfl) rfl rfl rfl <| ra_aload_n A d_Su_write_158 rfl <| ra_aload_n A d_Su_write_159 rfl <| ra_getI A f_Su_52 d_Su_write_160 (Nat.le_of_ble_eq_true rfl) rfl rfl <| ?_
            rw [fr1 hf' (by decide), e4]
            refine ra_callV (As := [_, _]) A ok_Re_write l_Su_63 im_Re_write sl_Re_write d_Su_write_163 (Nat.le_of_ble_eq_true rfl) rfl rfl rfl (Nat.le_of_ble_eq_true rfl) (xr_of at0 (by decide)) (s_Re_write K hn (by omega) (by rw [eq]; exact pfit_le hff.2.1 hbq) hR' (hdl F (by omega)) hW' (by rw [List.length_append, hPl, sbits_len]; omega) (fun g5 f5 W5 => ?_))
            show xg x (y0 u) 0 0 166 _ _ g5
            exact ra_vret A ow d_Su_write_166 (hX g5 (hf'.trans f5) W5)
          · rintro j g' hj ⟨hf', hW', hR'⟩ ih
            refine ra_iload_n A d_Su_write_136 rfl <| ra_iload_n A d_Su_write_137 rfl <| ?_
            refine ra_icmp_ge (q := 154) A d_Su_write_138 (by decide) (fun cc => absurd cc (nI_ge hj (by omega))) (fun _ => ?_)
            refine ra_aload_n A d_Su_write_141 rfl <| ra_getR A f_Su_15 d_Su_write_142 (Nat.le_of_ble_eq_true rfl) rfl rfl rfl <| ?_
            refine ra_callV (As := []) A ok_Re_raiseOrder l_Su_42 im_Re_raiseOrder sl_Re_raiseOrder d_Su_write_145 (Nat.le_of_ble_eq_true rfl) rfl rfl rfl (Nat.le_of_ble_eq_true rfl) (xr_of at0 (by decide)) (s_Re_raiseOrder K hn (show j < n by omega) hR' (fun g5 f5 R5 => ?_))
            show xg x (y0 u) 0 0 148 _ _ g5
            refine ra_iinc (L' := [_, _, _, _]) A 1 d_Su_write_148 rfl (by decide) (by decide) rfl <| ra_goto (q := 136) A d_Su_write_151 (by decide) <| ?_
            rw [nI_1]
            exact ih g5 ⟨hf'.trans (f5.mono (by decide)), hW'.fr f5 (by decide) (by decide) (by decide), R5⟩
          · rw [R4.2.2 i h1 h2, fr1 hf (by decide)]
            exact s6 i h2
      · rintro i g hi ⟨hf, hW⟩ ih
        have hmul : wd * i + wd ≤ wd * F := by
          have := Nat.mul_le_mul_left wd (show i + 1 ≤ F from hi)
          rw [Nat.mul_succ] at this
          exact this
        refine ra_iload_n A d_Su_write_85 rfl <| ra_iload_n A d_Su_write_86 rfl <| ?_
        refine ra_icmp_ge (q := 111) A d_Su_write_87 (by decide) (fun cc => absurd cc (nI_ge hi (by omega))) (fun _ => ?_)
        refine ra_aload_n A d_Su_write_90 rfl <| ra_aload_n A d_Su_write_91 rfl <| ra_getI A f_Su_30 d_Su_write_92 (Nat.le_of_ble_eq_true rfl) rfl rfl <| ?_
        rw [fr1 hf (by decide), s2]
        refine ra_aload_n A d_Su_write_95 rfl <| ra_getR A f_Su_9 d_Su_write_96 (Nat.le_of_ble_eq_true rfl) rfl rfl rfl <| ra_iload_n A d_Su_write_99 rfl <| ?_
        refine ra_iaload A d_Su_write_100 (Nat.le_of_ble_eq_true rfl) rfl (vp_in_nI (by omega) (by decide)) ?_
        rw [nI_clamp (by omega), fr1 hf (by decide), s6 i (by omega)]
        refine ra_i2l A d_Su_write_101 <| ?_
        refine ra_callV (As := [_, _]) A ok_Wr_put l_Su_57 im_Wr_put sl_Wr_put d_Su_write_102 (Nat.le_of_ble_eq_true rfl) rfl rfl rfl (Nat.le_of_ble_eq_true rfl) (xr_of at0 (by decide)) (s_Wr_put K (n := wd) hW (by rw [List.length_append, hPl, sbits_len]; omega) (fun g4 f4 W4 => ?_))
        show xg x (y0 u) 0 0 105 _ _ g4
        refine ra_iinc (L' := [_, _, _, _]) A 1 d_Su_write_105 rfl (by decide) (by decide) rfl <| ra_goto (q := 85) A d_Su_write_108 (by decide) <| ?_
        rw [nI_1]
        refine ih g4 ⟨hf.trans f4, ?_⟩
        rw [sbits, ← List.append_assoc]
        exact W4
    rcases hty with (e | e) | ⟨o, ho, e, -⟩
    · subst e
      refine ra_if_ne (q := 60) A d_Su_write_41 (by decide) (fun cc => absurd (rfl) cc) (fun _ => ?_)
      refine ra_aload_n A d_Su_write_44 rfl <| ra_aload_n A d_Su_write_45 rfl <| ra_getI A f_Su_30 d_Su_write_46 (Nat.le_of_ble_eq_true rfl) rfl rfl <| ?_
      rw [fr1 f3' (by decide), s2]
      refine ra_aload_n A d_Su_write_49 rfl <| ra_getR A f_Su_9 d_Su_write_50 (Nat.le_of_ble_eq_true rfl) rfl rfl rfl <| ra_iconst A 0 d_Su_write_53 (by decide) <| ?_
      refine ra_iaload A d_Su_write_54 (Nat.le_of_ble_eq_true rfl) rfl (show vp_in (nI 0) 1024 from vp_in_nI (by decide) (by decide)) ?_
      rw [show (0 : Int32).toNatClampNeg = 0 from rfl, fr1 f3' (by decide), s6 0 hn0]
      refine ra_i2l A d_Su_write_55 <| ?_
      have e1 : sfirst 0 n = 1 := rfl
      rw [e1] at hroom hX
      refine ra_callV (As := [_, _]) A ok_Wr_put l_Su_57 im_Wr_put sl_Wr_put d_Su_write_56 (Nat.le_of_ble_eq_true rfl) rfl rfl rfl (Nat.le_of_ble_eq_true rfl) (xr_of at0 (by decide)) (s_Wr_put K (n := wd) W3 (by rw [hPl]; omega) (fun g4 f4 W4 => ?_))
      show xg x (y0 u) 0 0 59 _ _ g4
      rw [if_pos (by decide), List.append_nil, show sbits t wd 1 = bitsL wd (t 0).toInt64 from rfl] at hX
      exact ra_vret A ow d_Su_write_59 (hX g4 ((f3'.trans f4).mono (by decide)) W4)
    · subst e
      refine ra_if_ne (q := 60) A d_Su_write_41 (by decide) (fun _ => ?_) (fun cc => absurd cc ((by decide)))
      refine ra_aload_n A d_Su_write_60 rfl <| ra_getI A f_Su_33 d_Su_write_61 (Nat.le_of_ble_eq_true rfl) rfl rfl <| ?_
      rw [fr1 f3' (by decide), s3]
      refine ra_iconst A 1 d_Su_write_64 (by decide) <| ?_
      refine ra_icmp_ne (q := 75) A d_Su_write_65 (by decide) (fun cc => absurd (rfl) cc) (fun _ => ?_)
      refine ra_aload_n A d_Su_write_68 rfl <| ra_getI A f_Su_19 d_Su_write_69 (Nat.le_of_ble_eq_true rfl) rfl rfl <| ?_
      rw [fr1 f3' (by decide), s1]
      refine ra_goto (q := 82) A d_Su_write_72 (by decide) <| ?_
      exact at82 n (Nat.le_refl _) rfl (by decide)
    · subst e
      refine ra_if_ne (q := 60) A d_Su_write_41 (by decide) (fun _ => ?_) (fun cc => absurd cc (nI_ne0 (by omega) hty31))
      refine ra_aload_n A d_Su_write_60 rfl <| ra_getI A f_Su_33 d_Su_write_61 (Nat.le_of_ble_eq_true rfl) rfl rfl <| ?_
      rw [fr1 f3' (by decide), s3]
      refine ra_iconst A 1 d_Su_write_64 (by decide) <| ?_
      refine ra_icmp_ne (q := 75) A d_Su_write_65 (by decide) (fun _ => ?_) (fun cc => absurd cc (fun z => absurd ((nI_eq (b := 1) hty31 (by decide)).mp z) (by omega)))
      refine ra_aload_n A d_Su_write_75 rfl <| ra_getI A f_Su_33 d_Su_write_76 (Nat.le_of_ble_eq_true rfl) rfl rfl <| ?_
      rw [fr1 f3' (by decide), s3]
      refine ra_bipush A 8 d_Su_write_79 (by decide) <| ra_isub A d_Su_write_81 <| ?_
      rw [show nI (8 + o) - 8 = nI o by rw [show (8 : Int32) = nI 8 from rfl, pk_sub (by omega), show 8 + o - 8 = o by omega]]
      refine at82 o (by omega) ?_ (by omega)
      unfold sfirst
      rw [if_neg (by omega), if_neg (by omega)]
      omega
  by_cases c : 0 < w
  · refine ra_if_le (q := 24) A d_Su_write_17 (by decide) (fun cc => absurd cc (nI_nle c (by omega))) (fun _ => ?_)
    refine ra_lconst A 1 d_Su_write_20 (by decide) <| ra_goto (q := 25) A d_Su_write_21 (by decide) <| ?_
    rw [if_pos c] at at25
    exact at25
  · refine ra_if_le (q := 24) A d_Su_write_17 (by decide) (fun _ => ?_) (fun cc => absurd ((by rw [show w = 0 by omega]; decide)) cc)
    refine ra_lconst A 0 d_Su_write_24 (by decide) <| ?_
    rw [if_neg c] at at25
    exact at25
theorem s_Su_write_126 (K : xk_ok u KK) {n d : Nat} {sm : Nat → Int32} {B : List Bool} (hn0 : 0 < n) (hn : n ≤ 1024) (hd0 : 1 ≤ d) (hd : d ≤ 25) (hb : inD sm n d) (S : SF h 126 127 sm n d) (W : WB h B) (hroom : B.length + (sfbits sm n d).length ≤ 72000)
    (hX : ∀ h', fr WL h h' → WB h' (B ++ sfbits sm n d) → X (.inl none) h' 0 0) : xm_M l (y0 u) KK m_Su_write [.ref 126, .ref 87] h X := by
  refine xm_of [none, none] (by simp) (Nat.le_of_ble_eq_true rfl) (by decide) (fun x at0 => ?_)
  have A := xa_of at0 K
  have ow := at0.2.2.2.2.1
  have hw := hb.w hd0 hd
  have hdl := fun o ho => hb.dl hd (o := o) ho
  obtain ⟨S, -⟩ := S
  have hty := ch_ty (t := sT sm n) (al := alB sm n) (wd := d - sW sm n) (n := n) (min 5 n) (Nat.min_le_right _ _)
  rw [show ch (sT sm n) (alB sm n) (d - sW sm n) n (min 5 n) = sC sm n d from rfl] at hty
  replace hty : ((sC sm n d).2.1 = 0 ∨ (sC sm n d).2.1 = 1) ∨ ∃ o, o < min 5 n ∧ (sC sm n d).2.1 = 8 + o ∧ (sC sm n d).2.2 = bq (sT sm n) o n := by
    rcases hty with ⟨q, -⟩ | ⟨o, q1, q2, q3, -⟩
    · left
      rw [q]
      split
      · exact Or.inl rfl
      · exact Or.inr rfl
    · exact Or.inr ⟨o, q1, q2, q3⟩
  obtain ⟨s1, s2, s3, s4, s5, s6⟩ := S
  unfold sfbits at hroom hX
  generalize (sC sm n d).2.1 = ty at *
  generalize (sC sm n d).2.2 = q at *
  generalize hwd : d - sW sm n = wd at *
  generalize hww : sW sm n = w at *
  generalize htt : sT sm n = t at *
  have hX : ∀ h', fr WL h h' → WB h' (B ++ bitsL 7 (lN ty) ++ bitsL 1 (if 0 < w then 1 else 0) ++ bitsL w 1 ++ sbits t wd (sfirst ty n) ++ (if ty < 8 then [] else restbits (dl (ty - 8) t) (ty - 8) n q)) → X (.inl none) h' 0 0 := fun h' f W => hX h' f (by simpa only [List.append_assoc] using W)
  simp only [List.length_append, bitsL_len, sbits_len] at hroom
  have hty31 : ty < 2 ^ 31 := by omega
  refine ra_aload_n A d_Su_write_0 rfl <| ra_bipush A 7 d_Su_write_1 (by decide) <| ra_aload_n A d_Su_write_3 rfl <| ra_getI A f_Su_33 d_Su_write_4 (Nat.le_of_ble_eq_true rfl) rfl rfl <| ?_
  rw [s3]
  refine ra_i2l A d_Su_write_7 <| ?_
  rw [nI_l hty31]
  refine ra_callV (As := [_, _]) A ok_Wr_put l_Su_57 im_Wr_put sl_Wr_put d_Su_write_8 (Nat.le_of_ble_eq_true rfl) rfl rfl rfl (Nat.le_of_ble_eq_true rfl) (xr_of at0 (by decide)) (s_Wr_put K (n := 7) W (by omega) (fun g1 f1 W1 => ?_))
  show xg x (y0 u) 0 0 11 _ _ g1
  refine ra_aload_n A d_Su_write_11 rfl <| ra_iconst A 1 d_Su_write_12 (by decide) <| ra_aload_n A d_Su_write_13 rfl <| ra_getI A f_Su_27 d_Su_write_14 (Nat.le_of_ble_eq_true rfl) rfl rfl <| ?_
  rw [fr1 f1 (by decide), s4]
  have at25 : xg x (y0 u) 0 0 25 [some (.ref 126), some (.ref 87), none, none] [.long (if 0 < w then 1 else 0), .int 1, .ref 87] g1 := by
    refine ra_callV (As := [_, _]) A ok_Wr_put l_Su_57 im_Wr_put sl_Wr_put d_Su_write_25 (Nat.le_of_ble_eq_true rfl) rfl rfl rfl (Nat.le_of_ble_eq_true rfl) (xr_of at0 (by decide)) (s_Wr_put K (n := 1) W1 (by rw [List.length_append, bitsL_len]; omega) (fun g2 f2 W2 => ?_))
    show xg x (y0 u) 0 0 28 _ _ g2
    have f12 := f1.trans f2
    refine ra_aload_n A d_Su_write_28 rfl <| ra_aload_n A d_Su_write_29 rfl <| ra_getI A f_Su_27 d_Su_write_30 (Nat.le_of_ble_eq_true rfl) rfl rfl <| ?_
    rw [fr1 f12 (by decide), s4]
    refine ra_lconst A 1 d_Su_write_33 (by decide) <| ?_
    refine ra_callV (As := [_, _]) A ok_Wr_put l_Su_57 im_Wr_put sl_Wr_put d_Su_write_34 (Nat.le_of_ble_eq_true rfl) rfl rfl rfl (Nat.le_of_ble_eq_true rfl) (xr_of at0 (by decide)) (s_Wr_put K (n := w) W2 (by rw [List.length_append, List.length_append, bitsL_len, bitsL_len]; omega) (fun g3 f3 W3 => ?_))
    show xg x (y0 u) 0 0 37 _ _ g3
    have f3' := f12.trans f3
    have hPl : (B ++ bitsL 7 (lN ty) ++ bitsL 1 (if 0 < w then 1 else 0) ++ bitsL w 1).length = B.length + 8 + w := by
      rw [List.length_append, List.length_append, List.length_append, bitsL_len, bitsL_len, bitsL_len]
    generalize B ++ bitsL 7 (lN ty) ++ bitsL 1 (if 0 < w then 1 else 0) ++ bitsL w 1 = P at W3 hX hPl
    refine ra_aload_n A d_Su_write_37 rfl <| ra_getI A f_Su_33 d_Su_write_38 (Nat.le_of_ble_eq_true rfl) rfl rfl <| ?_
    rw [fr1 f3' (by decide), s3]
    have at82 : ∀ F, F ≤ n → sfirst ty n = F → ¬ ty = 0 → xg x (y0 u) 0 0 82 [some (.ref 126), some (.ref 87), none, none] [.int (nI F)] g3 := by
      intro F hF eF hne
      rw [eF] at hroom hX
      refine ra_istore_n (L' := [_, _, _, _]) A d_Su_write_82 (by decide) rfl <| ra_iconst A 0 d_Su_write_83 (by decide) <| ra_istore_n (L' := [_, _, _, _]) A d_Su_write_84 (by decide) rfl <| ?_
      refine lp_up (σ := xw_H) (W := fun i g => xg x (y0 u) 0 0 85 [some (.ref 126), some (.ref 87), some (.int (nI F)), some (.int (nI i))] [] g) (I := fun i g => fr [6, 7, 87] h g ∧ WB g (P ++ sbits t wd i)) F ?_ ?_ 0 g3 (Nat.zero_le _) ⟨f3', by simpa [sbits] using W3⟩
      · rintro g ⟨hf, hW⟩
        refine ra_iload_n A d_Su_write_85 rfl <| ra_iload_n A d_Su_write_86 rfl <| ?_
        refine ra_icmp_ge (q := 111) A d_Su_write_87 (by decide) (fun _ => ?_) (fun cc => absurd (Int32.le_refl _) cc)
        refine ra_aload_n A d_Su_write_111 rfl <| ra_getI A f_Su_33 d_Su_write_112 (Nat.le_of_ble_eq_true rfl) rfl rfl <| ?_
        rw [fr1 hf (by decide), s3]
        refine ra_iconst A 1 d_Su_write_115 (by decide) <| ?_
        rcases hty with (e | e) | ⟨o, ho, e, eq⟩
        · exact absurd e hne
        · subst e
          refine ra_icmp_eq (q := 166) A d_Su_write_116 (by decide) (fun _ => ?_) (fun cc => absurd (rfl) cc)
          rw [if_pos (by decide), List.append_nil] at hX
          exact ra_vret A ow d_Su_write_166 (hX g (hf.mono (by decide)) hW)
        · subst e
          have ho1 : o < n := by omega
          obtain rfl : F = o := by
            rw [← eF]
            unfold sfirst
            rw [if_neg (by omega), if_neg (by omega)]
            omega
          rw [if_neg (show ¬ 8 + F < 8 by omega), show 8 + F - 8 = F by omega] at hX hroom
          refine ra_icmp_eq (q := 166) A d_Su_write_116 (by decide) (fun cc => absurd cc (fun z => absurd ((nI_eq (b := 1) hty31 (by decide)).mp z) (by omega))) (fun _ => ?_)
          refine ra_aload_n A d_Su_write_119 rfl <| ra_getR A f_Su_15 d_Su_write_120 (Nat.le_of_ble_eq_true rfl) rfl rfl rfl <| ra_aload_n A d_Su_write_123 rfl <| ra_getR A f_Su_9 d_Su_write_124 (Nat.le_of_ble_eq_true rfl) rfl rfl rfl <| ra_aload_n A d_Su_write_127 rfl <| ra_getI A f_Su_19 d_Su_write_128 (Nat.le_of_ble_eq_true rfl) rfl rfl <| ?_
          rw [fr1 hf (by decide), s1]
          refine ra_callV (As := [_, _]) A ok_Re_begin l_Su_36 im_Re_begin sl_Re_begin d_Su_write_131 (Nat.le_of_ble_eq_true rfl) rfl rfl rfl (Nat.le_of_ble_eq_true rfl) (xr_of at0 (by decide)) (s_Re_begin K (c := 127) (n := n) (by decide) rfl hn (fun g4 f4 R4 => ?_))
          show xg x (y0 u) 0 0 134 _ _ g4
          have hff := finq_fit ho1
          have hbq : bq t F n ≤ finq F n := (amin_LM _ _).1
          have e4 := s5 (by omega)
          refine ra_iconst A 0 d_Su_write_134 (by decide) <| ra_istore_n (L' := [_, _, _, _]) A d_Su_write_135 (by decide) rfl <| ?_
          refine lp_up (σ := xw_H) (W := fun j g => xg x (y0 u) 0 0 136 [some (.ref 126), some (.ref 87), some (.int (nI F)), some (.int (nI j))] [] g) (I := fun j g => fr WL h g ∧ WB g (P ++ sbits t wd F) ∧ RS g n j (dl j t)) F ?_ ?_ 0 g4 (Nat.zero_le _) ⟨(hf.mono (by decide)).trans (f4.mono (by decide)), hW.fr f4 (by decide) (by decide) (by decide), R4.1, R4.2.1, fun i h1 h2 => ?_⟩
          · rintro g' ⟨hf', hW', hR'⟩
            refine ra_iload_n A d_Su_write_136 rfl <| ra_iload_n A d_Su_write_137 rfl <| ?_
            refine ra_icmp_ge (q := 154) A d_Su_write_138 (by decide) (fun _ => ?_) (fun cc => absurd (Int32.le_refl _) cc)
            refine ra_aload_n A d_Su_write_154 rfl <| ra_getR A f_Su_15 d_Su_write_155 (Nat.le_of_ble_eq_true rfl) rfl rfl rfl <| ra_aload_n A d_Su_write_158 rfl <| ra_aload_n A d_Su_write_159 rfl <| ra_getI A f_Su_52 d_Su_write_160 (Nat.le_of_ble_eq_true rfl) rfl rfl <| ?_
            rw [fr1 hf' (by decide), e4]
            refine ra_callV (As := [_, _]) A ok_Re_write l_Su_63 im_Re_write sl_Re_write d_Su_write_163 (Nat.le_of_ble_eq_true rfl) rfl rfl rfl (Nat.le_of_ble_eq_true rfl) (xr_of at0 (by decide)) (s_Re_write K hn (by omega) (by rw [eq]; exact pfit_le hff.2.1 hbq) hR' (hdl F (by omega)) hW' (by rw [List.length_append, hPl, sbits_len]; omega) (fun g5 f5 W5 => ?_))
            show xg x (y0 u) 0 0 166 _ _ g5
            exact ra_vret A ow d_Su_write_166 (hX g5 (hf'.trans f5) W5)
          · rintro j g' hj ⟨hf', hW', hR'⟩ ih
            refine ra_iload_n A d_Su_write_136 rfl <| ra_iload_n A d_Su_write_137 rfl <| ?_
            refine ra_icmp_ge (q := 154) A d_Su_write_138 (by decide) (fun cc => absurd cc (nI_ge hj (by omega))) (fun _ => ?_)
            refine ra_aload_n A d_Su_write_141 rfl <| ra_getR A f_Su_15 d_Su_write_142 (Nat.le_of_ble_eq_true rfl) rfl rfl rfl <| ?_
            refine ra_callV (As := []) A ok_Re_raiseOrder l_Su_42 im_Re_raiseOrder sl_Re_raiseOrder d_Su_write_145 (Nat.le_of_ble_eq_true rfl) rfl rfl rfl (Nat.le_of_ble_eq_true rfl) (xr_of at0 (by decide)) (s_Re_raiseOrder K hn (show j < n by omega) hR' (fun g5 f5 R5 => ?_))
            show xg x (y0 u) 0 0 148 _ _ g5
            refine ra_iinc (L' := [_, _, _, _]) A 1 d_Su_write_148 rfl (by decide) (by decide) rfl <| ra_goto (q := 136) A d_Su_write_151 (by decide) <| ?_
            rw [nI_1]
            exact ih g5 ⟨hf'.trans (f5.mono (by decide)), hW'.fr f5 (by decide) (by decide) (by decide), R5⟩
          · rw [R4.2.2 i h1 h2, fr1 hf (by decide)]
            exact s6 i h2
      · rintro i g hi ⟨hf, hW⟩ ih
        have hmul : wd * i + wd ≤ wd * F := by
          have := Nat.mul_le_mul_left wd (show i + 1 ≤ F from hi)
          rw [Nat.mul_succ] at this
          exact this
        refine ra_iload_n A d_Su_write_85 rfl <| ra_iload_n A d_Su_write_86 rfl <| ?_
        refine ra_icmp_ge (q := 111) A d_Su_write_87 (by decide) (fun cc => absurd cc (nI_ge hi (by omega))) (fun _ => ?_)
        refine ra_aload_n A d_Su_write_90 rfl <| ra_aload_n A d_Su_write_91 rfl <| ra_getI A f_Su_30 d_Su_write_92 (Nat.le_of_ble_eq_true rfl) rfl rfl <| ?_
        rw [fr1 hf (by decide), s2]
        refine ra_aload_n A d_Su_write_95 rfl <| ra_getR A f_Su_9 d_Su_write_96 (Nat.le_of_ble_eq_true rfl) rfl rfl rfl <| ra_iload_n A d_Su_write_99 rfl <| ?_
        refine ra_iaload A d_Su_write_100 (Nat.le_of_ble_eq_true rfl) rfl (vp_in_nI (by omega) (by decide)) ?_
        rw [nI_clamp (by omega), fr1 hf (by decide), s6 i (by omega)]
        refine ra_i2l A d_Su_write_101 <| ?_
        refine ra_callV (As := [_, _]) A ok_Wr_put l_Su_57 im_Wr_put sl_Wr_put d_Su_write_102 (Nat.le_of_ble_eq_true rfl) rfl rfl rfl (Nat.le_of_ble_eq_true rfl) (xr_of at0 (by decide)) (s_Wr_put K (n := wd) hW (by rw [List.length_append, hPl, sbits_len]; omega) (fun g4 f4 W4 => ?_))
        show xg x (y0 u) 0 0 105 _ _ g4
        refine ra_iinc (L' := [_, _, _, _]) A 1 d_Su_write_105 rfl (by decide) (by decide) rfl <| ra_goto (q := 85) A d_Su_write_108 (by decide) <| ?_
        rw [nI_1]
        refine ih g4 ⟨hf.trans f4, ?_⟩
        rw [sbits, ← List.append_assoc]
        exact W4
    rcases hty with (e | e) | ⟨o, ho, e, -⟩
    · subst e
      refine ra_if_ne (q := 60) A d_Su_write_41 (by decide) (fun cc => absurd (rfl) cc) (fun _ => ?_)
      refine ra_aload_n A d_Su_write_44 rfl <| ra_aload_n A d_Su_write_45 rfl <| ra_getI A f_Su_30 d_Su_write_46 (Nat.le_of_ble_eq_true rfl) rfl rfl <| ?_
      rw [fr1 f3' (by decide), s2]
      refine ra_aload_n A d_Su_write_49 rfl <| ra_getR A f_Su_9 d_Su_write_50 (Nat.le_of_ble_eq_true rfl) rfl rfl rfl <| ra_iconst A 0 d_Su_write_53 (by decide) <| ?_
      refine ra_iaload A d_Su_write_54 (Nat.le_of_ble_eq_true rfl) rfl (show vp_in (nI 0) 1024 from vp_in_nI (by decide) (by decide)) ?_
      rw [show (0 : Int32).toNatClampNeg = 0 from rfl, fr1 f3' (by decide), s6 0 hn0]
      refine ra_i2l A d_Su_write_55 <| ?_
      have e1 : sfirst 0 n = 1 := rfl
      rw [e1] at hroom hX
      refine ra_callV (As := [_, _]) A ok_Wr_put l_Su_57 im_Wr_put sl_Wr_put d_Su_write_56 (Nat.le_of_ble_eq_true rfl) rfl rfl rfl (Nat.le_of_ble_eq_true rfl) (xr_of at0 (by decide)) (s_Wr_put K (n := wd) W3 (by rw [hPl]; omega) (fun g4 f4 W4 => ?_))
      show xg x (y0 u) 0 0 59 _ _ g4
      rw [if_pos (by decide), List.append_nil, show sbits t wd 1 = bitsL wd (t 0).toInt64 from rfl] at hX
      exact ra_vret A ow d_Su_write_59 (hX g4 ((f3'.trans f4).mono (by decide)) W4)
    · subst e
      refine ra_if_ne (q := 60) A d_Su_write_41 (by decide) (fun _ => ?_) (fun cc => absurd cc ((by decide)))
      refine ra_aload_n A d_Su_write_60 rfl <| ra_getI A f_Su_33 d_Su_write_61 (Nat.le_of_ble_eq_true rfl) rfl rfl <| ?_
      rw [fr1 f3' (by decide), s3]
      refine ra_iconst A 1 d_Su_write_64 (by decide) <| ?_
      refine ra_icmp_ne (q := 75) A d_Su_write_65 (by decide) (fun cc => absurd (rfl) cc) (fun _ => ?_)
      refine ra_aload_n A d_Su_write_68 rfl <| ra_getI A f_Su_19 d_Su_write_69 (Nat.le_of_ble_eq_true rfl) rfl rfl <| ?_
      rw [fr1 f3' (by decide), s1]
      refine ra_goto (q := 82) A d_Su_write_72 (by decide) <| ?_
      exact at82 n (Nat.le_refl _) rfl (by decide)
    · subst e
      refine ra_if_ne (q := 60) A d_Su_write_41 (by decide) (fun _ => ?_) (fun cc => absurd cc (nI_ne0 (by omega) hty31))
      refine ra_aload_n A d_Su_write_60 rfl <| ra_getI A f_Su_33 d_Su_write_61 (Nat.le_of_ble_eq_true rfl) rfl rfl <| ?_
      rw [fr1 f3' (by decide), s3]
      refine ra_iconst A 1 d_Su_write_64 (by decide) <| ?_
      refine ra_icmp_ne (q := 75) A d_Su_write_65 (by decide) (fun _ => ?_) (fun cc => absurd cc (fun z => absurd ((nI_eq (b := 1) hty31 (by decide)).mp z) (by omega)))
      refine ra_aload_n A d_Su_write_75 rfl <| ra_getI A f_Su_33 d_Su_write_76 (Nat.le_of_ble_eq_true rfl) rfl rfl <| ?_
      rw [fr1 f3' (by decide), s3]
      refine ra_bipush A 8 d_Su_write_79 (by decide) <| ra_isub A d_Su_write_81 <| ?_
      rw [show nI (8 + o) - 8 = nI o by rw [show (8 : Int32) = nI 8 from rfl, pk_sub (by omega), show 8 + o - 8 = o by omega]]
      refine at82 o (by omega) ?_ (by omega)
      unfold sfirst
      rw [if_neg (by omega), if_neg (by omega)]
      omega
  by_cases c : 0 < w
  · refine ra_if_le (q := 24) A d_Su_write_17 (by decide) (fun cc => absurd cc (nI_nle c (by omega))) (fun _ => ?_)
    refine ra_lconst A 1 d_Su_write_20 (by decide) <| ra_goto (q := 25) A d_Su_write_21 (by decide) <| ?_
    rw [if_pos c] at at25
    exact at25
  · refine ra_if_le (q := 24) A d_Su_write_17 (by decide) (fun _ => ?_) (fun cc => absurd ((by rw [show w = 0 by omega]; decide)) cc)
    refine ra_lconst A 0 d_Su_write_24 (by decide) <| ?_
    rw [if_neg c] at at25
    exact at25
theorem s_Su_write_128 (K : xk_ok u KK) {n d : Nat} {sm : Nat → Int32} {B : List Bool} (hn0 : 0 < n) (hn : n ≤ 1024) (hd0 : 1 ≤ d) (hd : d ≤ 25) (hb : inD sm n d) (S : SF h 128 129 sm n d) (W : WB h B) (hroom : B.length + (sfbits sm n d).length ≤ 72000)
    (hX : ∀ h', fr WL h h' → WB h' (B ++ sfbits sm n d) → X (.inl none) h' 0 0) : xm_M l (y0 u) KK m_Su_write [.ref 128, .ref 87] h X := by
  refine xm_of [none, none] (by simp) (Nat.le_of_ble_eq_true rfl) (by decide) (fun x at0 => ?_)
  have A := xa_of at0 K
  have ow := at0.2.2.2.2.1
  have hw := hb.w hd0 hd
  have hdl := fun o ho => hb.dl hd (o := o) ho
  obtain ⟨S, -⟩ := S
  have hty := ch_ty (t := sT sm n) (al := alB sm n) (wd := d - sW sm n) (n := n) (min 5 n) (Nat.min_le_right _ _)
  rw [show ch (sT sm n) (alB sm n) (d - sW sm n) n (min 5 n) = sC sm n d from rfl] at hty
  replace hty : ((sC sm n d).2.1 = 0 ∨ (sC sm n d).2.1 = 1) ∨ ∃ o, o < min 5 n ∧ (sC sm n d).2.1 = 8 + o ∧ (sC sm n d).2.2 = bq (sT sm n) o n := by
    rcases hty with ⟨q, -⟩ | ⟨o, q1, q2, q3, -⟩
    · left
      rw [q]
      split
      · exact Or.inl rfl
      · exact Or.inr rfl
    · exact Or.inr ⟨o, q1, q2, q3⟩
  obtain ⟨s1, s2, s3, s4, s5, s6⟩ := S
  unfold sfbits at hroom hX
  generalize (sC sm n d).2.1 = ty at *
  generalize (sC sm n d).2.2 = q at *
  generalize hwd : d - sW sm n = wd at *
  generalize hww : sW sm n = w at *
  generalize htt : sT sm n = t at *
  have hX : ∀ h', fr WL h h' → WB h' (B ++ bitsL 7 (lN ty) ++ bitsL 1 (if 0 < w then 1 else 0) ++ bitsL w 1 ++ sbits t wd (sfirst ty n) ++ (if ty < 8 then [] else restbits (dl (ty - 8) t) (ty - 8) n q)) → X (.inl none) h' 0 0 := fun h' f W => hX h' f (by simpa only [List.append_assoc] using W)
  simp only [List.length_append, bitsL_len, sbits_len] at hroom
  have hty31 : ty < 2 ^ 31 := by omega
  refine ra_aload_n A d_Su_write_0 rfl <| ra_bipush A 7 d_Su_write_1 (by decide) <| ra_aload_n A d_Su_write_3 rfl <| ra_getI A f_Su_33 d_Su_write_4 (Nat.le_of_ble_eq_true rfl) rfl rfl <| ?_
  rw [s3]
  refine ra_i2l A d_Su_write_7 <| ?_
  rw [nI_l hty31]
  refine ra_callV (As := [_, _]) A ok_Wr_put l_Su_57 im_Wr_put sl_Wr_put d_Su_write_8 (Nat.le_of_ble_eq_true rfl) rfl rfl rfl (Nat.le_of_ble_eq_true rfl) (xr_of at0 (by decide)) (s_Wr_put K (n := 7) W (by omega) (fun g1 f1 W1 => ?_))
  show xg x (y0 u) 0 0 11 _ _ g1
  refine ra_aload_n A d_Su_write_11 rfl <| ra_iconst A 1 d_Su_write_12 (by decide) <| ra_aload_n A d_Su_write_13 rfl <| ra_getI A f_Su_27 d_Su_write_14 (Nat.le_of_ble_eq_true rfl) rfl rfl <| ?_
  rw [fr1 f1 (by decide), s4]
  have at25 : xg x (y0 u) 0 0 25 [some (.ref 128), some (.ref 87), none, none] [.long (if 0 < w then 1 else 0), .int 1, .ref 87] g1 := by
    refine ra_callV (As := [_, _]) A ok_Wr_put l_Su_57 im_Wr_put sl_Wr_put d_Su_write_25 (Nat.le_of_ble_eq_true rfl) rfl rfl rfl (Nat.le_of_ble_eq_true rfl) (xr_of at0 (by decide)) (s_Wr_put K (n := 1) W1 (by rw [List.length_append, bitsL_len]; omega) (fun g2 f2 W2 => ?_))
    show xg x (y0 u) 0 0 28 _ _ g2
    have f12 := f1.trans f2
    refine ra_aload_n A d_Su_write_28 rfl <| ra_aload_n A d_Su_write_29 rfl <| ra_getI A f_Su_27 d_Su_write_30 (Nat.le_of_ble_eq_true rfl) rfl rfl <| ?_
    rw [fr1 f12 (by decide), s4]
    refine ra_lconst A 1 d_Su_write_33 (by decide) <| ?_
    refine ra_callV (As := [_, _]) A ok_Wr_put l_Su_57 im_Wr_put sl_Wr_put d_Su_write_34 (Nat.le_of_ble_eq_true rfl) rfl rfl rfl (Nat.le_of_ble_eq_true rfl) (xr_of at0 (by decide)) (s_Wr_put K (n := w) W2 (by rw [List.length_append, List.length_append, bitsL_len, bitsL_len]; omega) (fun g3 f3 W3 => ?_))
    show xg x (y0 u) 0 0 37 _ _ g3
    have f3' := f12.trans f3
    have hPl : (B ++ bitsL 7 (lN ty) ++ bitsL 1 (if 0 < w then 1 else 0) ++ bitsL w 1).length = B.length + 8 + w := by
      rw [List.length_append, List.length_append, List.length_append, bitsL_len, bitsL_len, bitsL_len]
    generalize B ++ bitsL 7 (lN ty) ++ bitsL 1 (if 0 < w then 1 else 0) ++ bitsL w 1 = P at W3 hX hPl
    refine ra_aload_n A d_Su_write_37 rfl <| ra_getI A f_Su_33 d_Su_write_38 (Nat.le_of_ble_eq_true rfl) rfl rfl <| ?_
    rw [fr1 f3' (by decide), s3]
    have at82 : ∀ F, F ≤ n → sfirst ty n = F → ¬ ty = 0 → xg x (y0 u) 0 0 82 [some (.ref 128), some (.ref 87), none, none] [.int (nI F)] g3 := by
      intro F hF eF hne
      rw [eF] at hroom hX
      refine ra_istore_n (L' := [_, _, _, _]) A d_Su_write_82 (by decide) rfl <| ra_iconst A 0 d_Su_write_83 (by decide) <| ra_istore_n (L' := [_, _, _, _]) A d_Su_write_84 (by decide) rfl <| ?_
      refine lp_up (σ := xw_H) (W := fun i g => xg x (y0 u) 0 0 85 [some (.ref 128), some (.ref 87), some (.int (nI F)), some (.int (nI i))] [] g) (I := fun i g => fr [6, 7, 87] h g ∧ WB g (P ++ sbits t wd i)) F ?_ ?_ 0 g3 (Nat.zero_le _) ⟨f3', by simpa [sbits] using W3⟩
      · rintro g ⟨hf, hW⟩
        refine ra_iload_n A d_Su_write_85 rfl <| ra_iload_n A d_Su_write_86 rfl <| ?_
        refine ra_icmp_ge (q := 111) A d_Su_write_87 (by decide) (fun _ => ?_) (fun cc => absurd (Int32.le_refl _) cc)
        refine ra_aload_n A d_Su_write_111 rfl <| ra_getI A f_Su_33 d_Su_write_112 (Nat.le_of_ble_eq_true rfl) rfl rfl <| ?_
        rw [fr1 hf (by decide), s3]
        refine ra_iconst A 1 d_Su_write_115 (by decide) <| ?_
        rcases hty with (e | e) | ⟨o, ho, e, eq⟩
        · exact absurd e hne
        · subst e
          refine ra_icmp_eq (q := 166) A d_Su_write_116 (by decide) (fun _ => ?_) (fun cc => absurd (rfl) cc)
          rw [if_pos (by decide), List.append_nil] at hX
          exact ra_vret A ow d_Su_write_166 (hX g (hf.mono (by decide)) hW)
        · subst e
          have ho1 : o < n := by omega
          obtain rfl : F = o := by
            rw [← eF]
            unfold sfirst
            rw [if_neg (by omega), if_neg (by omega)]
            omega
          rw [if_neg (show ¬ 8 + F < 8 by omega), show 8 + F - 8 = F by omega] at hX hroom
          refine ra_icmp_eq (q := 166) A d_Su_write_116 (by decide) (fun cc => absurd cc (fun z => absurd ((nI_eq (b := 1) hty31 (by decide)).mp z) (by omega))) (fun _ => ?_)
          refine ra_aload_n A d_Su_write_119 rfl <| ra_getR A f_Su_15 d_Su_write_120 (Nat.le_of_ble_eq_true rfl) rfl rfl rfl <| ra_aload_n A d_Su_write_123 rfl <| ra_getR A f_Su_9 d_Su_write_124 (Nat.le_of_ble_eq_true rfl) rfl rfl rfl <| ra_aload_n A d_Su_write_127 rfl <| ra_getI A f_Su_19 d_Su_write_128 (Nat.le_of_ble_eq_true rfl) rfl rfl <| ?_
          rw [fr1 hf (by decide), s1]
          refine ra_callV (As := [_, _]) A ok_Re_begin l_Su_36 im_Re_begin sl_Re_begin d_Su_write_131 (Nat.le_of_ble_eq_true rfl) rfl rfl rfl (Nat.le_of_ble_eq_true rfl) (xr_of at0 (by decide)) (s_Re_begin K (c := 129) (n := n) (by decide) rfl hn (fun g4 f4 R4 => ?_))
          show xg x (y0 u) 0 0 134 _ _ g4
          have hff := finq_fit ho1
          have hbq : bq t F n ≤ finq F n := (amin_LM _ _).1
          have e4 := s5 (by omega)
          refine ra_iconst A 0 d_Su_write_134 (by decide) <| ra_istore_n (L' := [_, _, _, _]) A d_Su_write_135 (by decide) rfl <| ?_
          refine lp_up (σ := xw_H) (W := fun j g => xg x (y0 u) 0 0 136 [some (.ref 128), some (.ref 87), some (.int (nI F)), some (.int (nI j))] [] g) (I := fun j g => fr WL h g ∧ WB g (P ++ sbits t wd F) ∧ RS g n j (dl j t)) F ?_ ?_ 0 g4 (Nat.zero_le _) ⟨(hf.mono (by decide)).trans (f4.mono (by decide)), hW.fr f4 (by decide) (by decide) (by decide), R4.1, R4.2.1, fun i h1 h2 => ?_⟩
          · rintro g' ⟨hf', hW', hR'⟩
            refine ra_iload_n A d_Su_write_136 rfl <| ra_iload_n A d_Su_write_137 rfl <| ?_
            refine ra_icmp_ge (q := 154) A d_Su_write_138 (by decide) (fun _ => ?_) (fun cc => absurd (Int32.le_refl _) cc)
            refine ra_aload_n A d_Su_write_154 rfl <| ra_getR A f_Su_15 d_Su_write_155 (Nat.le_of_ble_eq_true rfl) rfl rfl rfl <| ra_aload_n A d_Su_write_158 rfl <| ra_aload_n A d_Su_write_159 rfl <| ra_getI A f_Su_52 d_Su_write_160 (Nat.le_of_ble_eq_true rfl) rfl rfl <| ?_
            rw [fr1 hf' (by decide), e4]
            refine ra_callV (As := [_, _]) A ok_Re_write l_Su_63 im_Re_write sl_Re_write d_Su_write_163 (Nat.le_of_ble_eq_true rfl) rfl rfl rfl (Nat.le_of_ble_eq_true rfl) (xr_of at0 (by decide)) (s_Re_write K hn (by omega) (by rw [eq]; exact pfit_le hff.2.1 hbq) hR' (hdl F (by omega)) hW' (by rw [List.length_append, hPl, sbits_len]; omega) (fun g5 f5 W5 => ?_))
            show xg x (y0 u) 0 0 166 _ _ g5
            exact ra_vret A ow d_Su_write_166 (hX g5 (hf'.trans f5) W5)
          · rintro j g' hj ⟨hf', hW', hR'⟩ ih
            refine ra_iload_n A d_Su_write_136 rfl <| ra_iload_n A d_Su_write_137 rfl <| ?_
            refine ra_icmp_ge (q := 154) A d_Su_write_138 (by decide) (fun cc => absurd cc (nI_ge hj (by omega))) (fun _ => ?_)
            refine ra_aload_n A d_Su_write_141 rfl <| ra_getR A f_Su_15 d_Su_write_142 (Nat.le_of_ble_eq_true rfl) rfl rfl rfl <| ?_
            refine ra_callV (As := []) A ok_Re_raiseOrder l_Su_42 im_Re_raiseOrder sl_Re_raiseOrder d_Su_write_145 (Nat.le_of_ble_eq_true rfl) rfl rfl rfl (Nat.le_of_ble_eq_true rfl) (xr_of at0 (by decide)) (s_Re_raiseOrder K hn (show j < n by omega) hR' (fun g5 f5 R5 => ?_))
            show xg x (y0 u) 0 0 148 _ _ g5
            refine ra_iinc (L' := [_, _, _, _]) A 1 d_Su_write_148 rfl (by decide) (by decide) rfl <| ra_goto (q := 136) A d_Su_write_151 (by decide) <| ?_
            rw [nI_1]
            exact ih g5 ⟨hf'.trans (f5.mono (by decide)), hW'.fr f5 (by decide) (by decide) (by decide), R5⟩
          · rw [R4.2.2 i h1 h2, fr1 hf (by decide)]
            exact s6 i h2
      · rintro i g hi ⟨hf, hW⟩ ih
        have hmul : wd * i + wd ≤ wd * F := by
          have := Nat.mul_le_mul_left wd (show i + 1 ≤ F from hi)
          rw [Nat.mul_succ] at this
          exact this
        refine ra_iload_n A d_Su_write_85 rfl <| ra_iload_n A d_Su_write_86 rfl <| ?_
        refine ra_icmp_ge (q := 111) A d_Su_write_87 (by decide) (fun cc => absurd cc (nI_ge hi (by omega))) (fun _ => ?_)
        refine ra_aload_n A d_Su_write_90 rfl <| ra_aload_n A d_Su_write_91 rfl <| ra_getI A f_Su_30 d_Su_write_92 (Nat.le_of_ble_eq_true rfl) rfl rfl <| ?_
        rw [fr1 hf (by decide), s2]
        refine ra_aload_n A d_Su_write_95 rfl <| ra_getR A f_Su_9 d_Su_write_96 (Nat.le_of_ble_eq_true rfl) rfl rfl rfl <| ra_iload_n A d_Su_write_99 rfl <| ?_
        refine ra_iaload A d_Su_write_100 (Nat.le_of_ble_eq_true rfl) rfl (vp_in_nI (by omega) (by decide)) ?_
        rw [nI_clamp (by omega), fr1 hf (by decide), s6 i (by omega)]
        refine ra_i2l A d_Su_write_101 <| ?_
        refine ra_callV (As := [_, _]) A ok_Wr_put l_Su_57 im_Wr_put sl_Wr_put d_Su_write_102 (Nat.le_of_ble_eq_true rfl) rfl rfl rfl (Nat.le_of_ble_eq_true rfl) (xr_of at0 (by decide)) (s_Wr_put K (n := wd) hW (by rw [List.length_append, hPl, sbits_len]; omega) (fun g4 f4 W4 => ?_))
        show xg x (y0 u) 0 0 105 _ _ g4
        refine ra_iinc (L' := [_, _, _, _]) A 1 d_Su_write_105 rfl (by decide) (by decide) rfl <| ra_goto (q := 85) A d_Su_write_108 (by decide) <| ?_
        rw [nI_1]
        refine ih g4 ⟨hf.trans f4, ?_⟩
        rw [sbits, ← List.append_assoc]
        exact W4
    rcases hty with (e | e) | ⟨o, ho, e, -⟩
    · subst e
      refine ra_if_ne (q := 60) A d_Su_write_41 (by decide) (fun cc => absurd (rfl) cc) (fun _ => ?_)
      refine ra_aload_n A d_Su_write_44 rfl <| ra_aload_n A d_Su_write_45 rfl <| ra_getI A f_Su_30 d_Su_write_46 (Nat.le_of_ble_eq_true rfl) rfl rfl <| ?_
      rw [fr1 f3' (by decide), s2]
      refine ra_aload_n A d_Su_write_49 rfl <| ra_getR A f_Su_9 d_Su_write_50 (Nat.le_of_ble_eq_true rfl) rfl rfl rfl <| ra_iconst A 0 d_Su_write_53 (by decide) <| ?_
      refine ra_iaload A d_Su_write_54 (Nat.le_of_ble_eq_true rfl) rfl (show vp_in (nI 0) 1024 from vp_in_nI (by decide) (by decide)) ?_
      rw [show (0 : Int32).toNatClampNeg = 0 from rfl, fr1 f3' (by decide), s6 0 hn0]
      refine ra_i2l A d_Su_write_55 <| ?_
      have e1 : sfirst 0 n = 1 := rfl
      rw [e1] at hroom hX
      refine ra_callV (As := [_, _]) A ok_Wr_put l_Su_57 im_Wr_put sl_Wr_put d_Su_write_56 (Nat.le_of_ble_eq_true rfl) rfl rfl rfl (Nat.le_of_ble_eq_true rfl) (xr_of at0 (by decide)) (s_Wr_put K (n := wd) W3 (by rw [hPl]; omega) (fun g4 f4 W4 => ?_))
      show xg x (y0 u) 0 0 59 _ _ g4
      rw [if_pos (by decide), List.append_nil, show sbits t wd 1 = bitsL wd (t 0).toInt64 from rfl] at hX
      exact ra_vret A ow d_Su_write_59 (hX g4 ((f3'.trans f4).mono (by decide)) W4)
    · subst e
      refine ra_if_ne (q := 60) A d_Su_write_41 (by decide) (fun _ => ?_) (fun cc => absurd cc ((by decide)))
      refine ra_aload_n A d_Su_write_60 rfl <| ra_getI A f_Su_33 d_Su_write_61 (Nat.le_of_ble_eq_true rfl) rfl rfl <| ?_
      rw [fr1 f3' (by decide), s3]
      refine ra_iconst A 1 d_Su_write_64 (by decide) <| ?_
      refine ra_icmp_ne (q := 75) A d_Su_write_65 (by decide) (fun cc => absurd (rfl) cc) (fun _ => ?_)
      refine ra_aload_n A d_Su_write_68 rfl <| ra_getI A f_Su_19 d_Su_write_69 (Nat.le_of_ble_eq_true rfl) rfl rfl <| ?_
      rw [fr1 f3' (by decide), s1]
      refine ra_goto (q := 82) A d_Su_write_72 (by decide) <| ?_
      exact at82 n (Nat.le_refl _) rfl (by decide)
    · subst e
      refine ra_if_ne (q := 60) A d_Su_write_41 (by decide) (fun _ => ?_) (fun cc => absurd cc (nI_ne0 (by omega) hty31))
      refine ra_aload_n A d_Su_write_60 rfl <| ra_getI A f_Su_33 d_Su_write_61 (Nat.le_of_ble_eq_true rfl) rfl rfl <| ?_
      rw [fr1 f3' (by decide), s3]
      refine ra_iconst A 1 d_Su_write_64 (by decide) <| ?_
      refine ra_icmp_ne (q := 75) A d_Su_write_65 (by decide) (fun _ => ?_) (fun cc => absurd cc (fun z => absurd ((nI_eq (b := 1) hty31 (by decide)).mp z) (by omega)))
      refine ra_aload_n A d_Su_write_75 rfl <| ra_getI A f_Su_33 d_Su_write_76 (Nat.le_of_ble_eq_true rfl) rfl rfl <| ?_
      rw [fr1 f3' (by decide), s3]
      refine ra_bipush A 8 d_Su_write_79 (by decide) <| ra_isub A d_Su_write_81 <| ?_
      rw [show nI (8 + o) - 8 = nI o by rw [show (8 : Int32) = nI 8 from rfl, pk_sub (by omega), show 8 + o - 8 = o by omega]]
      refine at82 o (by omega) ?_ (by omega)
      unfold sfirst
      rw [if_neg (by omega), if_neg (by omega)]
      omega
  by_cases c : 0 < w
  · refine ra_if_le (q := 24) A d_Su_write_17 (by decide) (fun cc => absurd cc (nI_nle c (by omega))) (fun _ => ?_)
    refine ra_lconst A 1 d_Su_write_20 (by decide) <| ra_goto (q := 25) A d_Su_write_21 (by decide) <| ?_
    rw [if_pos c] at at25
    exact at25
  · refine ra_if_le (q := 24) A d_Su_write_17 (by decide) (fun _ => ?_) (fun cc => absurd ((by rw [show w = 0 by omega]; decide)) cc)
    refine ra_lconst A 0 d_Su_write_24 (by decide) <| ?_
    rw [if_neg c] at at25
    exact at25
theorem s_Su_write_130 (K : xk_ok u KK) {n d : Nat} {sm : Nat → Int32} {B : List Bool} (hn0 : 0 < n) (hn : n ≤ 1024) (hd0 : 1 ≤ d) (hd : d ≤ 25) (hb : inD sm n d) (S : SF h 130 131 sm n d) (W : WB h B) (hroom : B.length + (sfbits sm n d).length ≤ 72000)
    (hX : ∀ h', fr WL h h' → WB h' (B ++ sfbits sm n d) → X (.inl none) h' 0 0) : xm_M l (y0 u) KK m_Su_write [.ref 130, .ref 87] h X := by
  refine xm_of [none, none] (by simp) (Nat.le_of_ble_eq_true rfl) (by decide) (fun x at0 => ?_)
  have A := xa_of at0 K
  have ow := at0.2.2.2.2.1
  have hw := hb.w hd0 hd
  have hdl := fun o ho => hb.dl hd (o := o) ho
  obtain ⟨S, -⟩ := S
  have hty := ch_ty (t := sT sm n) (al := alB sm n) (wd := d - sW sm n) (n := n) (min 5 n) (Nat.min_le_right _ _)
  rw [show ch (sT sm n) (alB sm n) (d - sW sm n) n (min 5 n) = sC sm n d from rfl] at hty
  replace hty : ((sC sm n d).2.1 = 0 ∨ (sC sm n d).2.1 = 1) ∨ ∃ o, o < min 5 n ∧ (sC sm n d).2.1 = 8 + o ∧ (sC sm n d).2.2 = bq (sT sm n) o n := by
    rcases hty with ⟨q, -⟩ | ⟨o, q1, q2, q3, -⟩
    · left
      rw [q]
      split
      · exact Or.inl rfl
      · exact Or.inr rfl
    · exact Or.inr ⟨o, q1, q2, q3⟩
  obtain ⟨s1, s2, s3, s4, s5, s6⟩ := S
  unfold sfbits at hroom hX
  generalize (sC sm n d).2.1 = ty at *
  generalize (sC sm n d).2.2 = q at *
  generalize hwd : d - sW sm n = wd at *
  generalize hww : sW sm n = w at *
  generalize htt : sT sm n = t at *
  have hX : ∀ h', fr WL h h' → WB h' (B ++ bitsL 7 (lN ty) ++ bitsL 1 (if 0 < w then 1 else 0) ++ bitsL w 1 ++ sbits t wd (sfirst ty n) ++ (if ty < 8 then [] else restbits (dl (ty - 8) t) (ty - 8) n q)) → X (.inl none) h' 0 0 := fun h' f W => hX h' f (by simpa only [List.append_assoc] using W)
  simp only [List.length_append, bitsL_len, sbits_len] at hroom
  have hty31 : ty < 2 ^ 31 := by omega
  refine ra_aload_n A d_Su_write_0 rfl <| ra_bipush A 7 d_Su_write_1 (by decide) <| ra_aload_n A d_Su_write_3 rfl <| ra_getI A f_Su_33 d_Su_write_4 (Nat.le_of_ble_eq_true rfl) rfl rfl <| ?_
  rw [s3]
  refine ra_i2l A d_Su_write_7 <| ?_
  rw [nI_l hty31]
  refine ra_callV (As := [_, _]) A ok_Wr_put l_Su_57 im_Wr_put sl_Wr_put d_Su_write_8 (Nat.le_of_ble_eq_true rfl) rfl rfl rfl (Nat.le_of_ble_eq_true rfl) (xr_of at0 (by decide)) (s_Wr_put K (n := 7) W (by omega) (fun g1 f1 W1 => ?_))
  show xg x (y0 u) 0 0 11 _ _ g1
  refine ra_aload_n A d_Su_write_11 rfl <| ra_iconst A 1 d_Su_write_12 (by decide) <| ra_aload_n A d_Su_write_13 rfl <| ra_getI A f_Su_27 d_Su_write_14 (Nat.le_of_ble_eq_true rfl) rfl rfl <| ?_
  rw [fr1 f1 (by decide), s4]
  have at25 : xg x (y0 u) 0 0 25 [some (.ref 130), some (.ref 87), none, none] [.long (if 0 < w then 1 else 0), .int 1, .ref 87] g1 := by
    refine ra_callV (As := [_, _]) A ok_Wr_put l_Su_57 im_Wr_put sl_Wr_put d_Su_write_25 (Nat.le_of_ble_eq_true rfl) rfl rfl rfl (Nat.le_of_ble_eq_true rfl) (xr_of at0 (by decide)) (s_Wr_put K (n := 1) W1 (by rw [List.length_append, bitsL_len]; omega) (fun g2 f2 W2 => ?_))
    show xg x (y0 u) 0 0 28 _ _ g2
    have f12 := f1.trans f2
    refine ra_aload_n A d_Su_write_28 rfl <| ra_aload_n A d_Su_write_29 rfl <| ra_getI A f_Su_27 d_Su_write_30 (Nat.le_of_ble_eq_true rfl) rfl rfl <| ?_
    rw [fr1 f12 (by decide), s4]
    refine ra_lconst A 1 d_Su_write_33 (by decide) <| ?_
    refine ra_callV (As := [_, _]) A ok_Wr_put l_Su_57 im_Wr_put sl_Wr_put d_Su_write_34 (Nat.le_of_ble_eq_true rfl) rfl rfl rfl (Nat.le_of_ble_eq_true rfl) (xr_of at0 (by decide)) (s_Wr_put K (n := w) W2 (by rw [List.length_append, List.length_append, bitsL_len, bitsL_len]; omega) (fun g3 f3 W3 => ?_))
    show xg x (y0 u) 0 0 37 _ _ g3
    have f3' := f12.trans f3
    have hPl : (B ++ bitsL 7 (lN ty) ++ bitsL 1 (if 0 < w then 1 else 0) ++ bitsL w 1).length = B.length + 8 + w := by
      rw [List.length_append, List.length_append, List.length_append, bitsL_len, bitsL_len, bitsL_len]
    generalize B ++ bitsL 7 (lN ty) ++ bitsL 1 (if 0 < w then 1 else 0) ++ bitsL w 1 = P at W3 hX hPl
    refine ra_aload_n A d_Su_write_37 rfl <| ra_getI A f_Su_33 d_Su_write_38 (Nat.le_of_ble_eq_true rfl) rfl rfl <| ?_
    rw [fr1 f3' (by decide), s3]
    have at82 : ∀ F, F ≤ n → sfirst ty n = F → ¬ ty = 0 → xg x (y0 u) 0 0 82 [some (.ref 130), some (.ref 87), none, none] [.int (nI F)] g3 := by
      intro F hF eF hne
      rw [eF] at hroom hX
      refine ra_istore_n (L' := [_, _, _, _]) A d_Su_write_82 (by decide) rfl <| ra_iconst A 0 d_Su_write_83 (by decide) <| ra_istore_n (L' := [_, _, _, _]) A d_Su_write_84 (by decide) rfl <| ?_
      refine lp_up (σ := xw_H) (W := fun i g => xg x (y0 u) 0 0 85 [some (.ref 130), some (.ref 87), some (.int (nI F)), some (.int (nI i))] [] g) (I := fun i g => fr [6, 7, 87] h g ∧ WB g (P ++ sbits t wd i)) F ?_ ?_ 0 g3 (Nat.zero_le _) ⟨f3', by simpa [sbits] using W3⟩
      · rintro g ⟨hf, hW⟩
        refine ra_iload_n A d_Su_write_85 rfl <| ra_iload_n A d_Su_write_86 rfl <| ?_
        refine ra_icmp_ge (q := 111) A d_Su_write_87 (by decide) (fun _ => ?_) (fun cc => absurd (Int32.le_refl _) cc)
        refine ra_aload_n A d_Su_write_111 rfl <| ra_getI A f_Su_33 d_Su_write_112 (Nat.le_of_ble_eq_true rfl) rfl rfl <| ?_
        rw [fr1 hf (by decide), s3]
        refine ra_iconst A 1 d_Su_write_115 (by decide) <| ?_
        rcases hty with (e | e) | ⟨o, ho, e, eq⟩
        · exact absurd e hne
        · subst e
          refine ra_icmp_eq (q := 166) A d_Su_write_116 (by decide) (fun _ => ?_) (fun cc => absurd (rfl) cc)
          rw [if_pos (by decide), List.append_nil] at hX
          exact ra_vret A ow d_Su_write_166 (hX g (hf.mono (by decide)) hW)
        · subst e
          have ho1 : o < n := by omega
          obtain rfl : F = o := by
            rw [← eF]
            unfold sfirst
            rw [if_neg (by omega), if_neg (by omega)]
            omega
          rw [if_neg (show ¬ 8 + F < 8 by omega), show 8 + F - 8 = F by omega] at hX hroom
          refine ra_icmp_eq (q := 166) A d_Su_write_116 (by decide) (fun cc => absurd cc (fun z => absurd ((nI_eq (b := 1) hty31 (by decide)).mp z) (by omega))) (fun _ => ?_)
          refine ra_aload_n A d_Su_write_119 rfl <| ra_getR A f_Su_15 d_Su_write_120 (Nat.le_of_ble_eq_true rfl) rfl rfl rfl <| ra_aload_n A d_Su_write_123 rfl <| ra_getR A f_Su_9 d_Su_write_124 (Nat.le_of_ble_eq_true rfl) rfl rfl rfl <| ra_aload_n A d_Su_write_127 rfl <| ra_getI A f_Su_19 d_Su_write_128 (Nat.le_of_ble_eq_true rfl) rfl rfl <| ?_
          rw [fr1 hf (by decide), s1]
          refine ra_callV (As := [_, _]) A ok_Re_begin l_Su_36 im_Re_begin sl_Re_begin d_Su_write_131 (Nat.le_of_ble_eq_true rfl) rfl rfl rfl (Nat.le_of_ble_eq_true rfl) (xr_of at0 (by decide)) (s_Re_begin K (c := 131) (n := n) (by decide) rfl hn (fun g4 f4 R4 => ?_))
          show xg x (y0 u) 0 0 134 _ _ g4
          have hff := finq_fit ho1
          have hbq : bq t F n ≤ finq F n := (amin_LM _ _).1
          have e4 := s5 (by omega)
          refine ra_iconst A 0 d_Su_write_134 (by decide) <| ra_istore_n (L' := [_, _, _, _]) A d_Su_write_135 (by decide) rfl <| ?_
          refine lp_up (σ := xw_H) (W := fun j g => xg x (y0 u) 0 0 136 [some (.ref 130), some (.ref 87), some (.int (nI F)), some (.int (nI j))] [] g) (I := fun j g => fr WL h g ∧ WB g (P ++ sbits t wd F) ∧ RS g n j (dl j t)) F ?_ ?_ 0 g4 (Nat.zero_le _) ⟨(hf.mono (by decide)).trans (f4.mono (by decide)), hW.fr f4 (by decide) (by decide) (by decide), R4.1, R4.2.1, fun i h1 h2 => ?_⟩
          · rintro g' ⟨hf', hW', hR'⟩
            refine ra_iload_n A d_Su_write_136 rfl <| ra_iload_n A d_Su_write_137 rfl <| ?_
            refine ra_icmp_ge (q := 154) A d_Su_write_138 (by decide) (fun _ => ?_) (fun cc => absurd (Int32.le_refl _) cc)
            refine ra_aload_n A d_Su_write_154 rfl <| ra_getR A f_Su_15 d_Su_write_155 (Nat.le_of_ble_eq_true rfl) rfl rfl rfl <| ra_aload_n A d_Su_write_158 rfl <| ra_aload_n A d_Su_write_159 rfl <| ra_getI A f_Su_52 d_Su_write_160 (Nat.le_of_ble_eq_true rfl) rfl rfl <| ?_
            rw [fr1 hf' (by decide), e4]
            refine ra_callV (As := [_, _]) A ok_Re_write l_Su_63 im_Re_write sl_Re_write d_Su_write_163 (Nat.le_of_ble_eq_true rfl) rfl rfl rfl (Nat.le_of_ble_eq_true rfl) (xr_of at0 (by decide)) (s_Re_write K hn (by omega) (by rw [eq]; exact pfit_le hff.2.1 hbq) hR' (hdl F (by omega)) hW' (by rw [List.length_append, hPl, sbits_len]; omega) (fun g5 f5 W5 => ?_))
            show xg x (y0 u) 0 0 166 _ _ g5
            exact ra_vret A ow d_Su_write_166 (hX g5 (hf'.trans f5) W5)
          · rintro j g' hj ⟨hf', hW', hR'⟩ ih
            refine ra_iload_n A d_Su_write_136 rfl <| ra_iload_n A d_Su_write_137 rfl <| ?_
            refine ra_icmp_ge (q := 154) A d_Su_write_138 (by decide) (fun cc => absurd cc (nI_ge hj (by omega))) (fun _ => ?_)
            refine ra_aload_n A d_Su_write_141 rfl <| ra_getR A f_Su_15 d_Su_write_142 (Nat.le_of_ble_eq_true rfl) rfl rfl rfl <| ?_
            refine ra_callV (As := []) A ok_Re_raiseOrder l_Su_42 im_Re_raiseOrder sl_Re_raiseOrder d_Su_write_145 (Nat.le_of_ble_eq_true rfl) rfl rfl rfl (Nat.le_of_ble_eq_true rfl) (xr_of at0 (by decide)) (s_Re_raiseOrder K hn (show j < n by omega) hR' (fun g5 f5 R5 => ?_))
            show xg x (y0 u) 0 0 148 _ _ g5
            refine ra_iinc (L' := [_, _, _, _]) A 1 d_Su_write_148 rfl (by decide) (by decide) rfl <| ra_goto (q := 136) A d_Su_write_151 (by decide) <| ?_
            rw [nI_1]
            exact ih g5 ⟨hf'.trans (f5.mono (by decide)), hW'.fr f5 (by decide) (by decide) (by decide), R5⟩
          · rw [R4.2.2 i h1 h2, fr1 hf (by decide)]
            exact s6 i h2
      · rintro i g hi ⟨hf, hW⟩ ih
        have hmul : wd * i + wd ≤ wd * F := by
          have := Nat.mul_le_mul_left wd (show i + 1 ≤ F from hi)
          rw [Nat.mul_succ] at this
          exact this
        refine ra_iload_n A d_Su_write_85 rfl <| ra_iload_n A d_Su_write_86 rfl <| ?_
        refine ra_icmp_ge (q := 111) A d_Su_write_87 (by decide) (fun cc => absurd cc (nI_ge hi (by omega))) (fun _ => ?_)
        refine ra_aload_n A d_Su_write_90 rfl <| ra_aload_n A d_Su_write_91 rfl <| ra_getI A f_Su_30 d_Su_write_92 (Nat.le_of_ble_eq_true rfl) rfl rfl <| ?_
        rw [fr1 hf (by decide), s2]
        refine ra_aload_n A d_Su_write_95 rfl <| ra_getR A f_Su_9 d_Su_write_96 (Nat.le_of_ble_eq_true rfl) rfl rfl rfl <| ra_iload_n A d_Su_write_99 rfl <| ?_
        refine ra_iaload A d_Su_write_100 (Nat.le_of_ble_eq_true rfl) rfl (vp_in_nI (by omega) (by decide)) ?_
        rw [nI_clamp (by omega), fr1 hf (by decide), s6 i (by omega)]
        refine ra_i2l A d_Su_write_101 <| ?_
        refine ra_callV (As := [_, _]) A ok_Wr_put l_Su_57 im_Wr_put sl_Wr_put d_Su_write_102 (Nat.le_of_ble_eq_true rfl) rfl rfl rfl (Nat.le_of_ble_eq_true rfl) (xr_of at0 (by decide)) (s_Wr_put K (n := wd) hW (by rw [List.length_append, hPl, sbits_len]; omega) (fun g4 f4 W4 => ?_))
        show xg x (y0 u) 0 0 105 _ _ g4
        refine ra_iinc (L' := [_, _, _, _]) A 1 d_Su_write_105 rfl (by decide) (by decide) rfl <| ra_goto (q := 85) A d_Su_write_108 (by decide) <| ?_
        rw [nI_1]
        refine ih g4 ⟨hf.trans f4, ?_⟩
        rw [sbits, ← List.append_assoc]
        exact W4
    rcases hty with (e | e) | ⟨o, ho, e, -⟩
    · subst e
      refine ra_if_ne (q := 60) A d_Su_write_41 (by decide) (fun cc => absurd (rfl) cc) (fun _ => ?_)
      refine ra_aload_n A d_Su_write_44 rfl <| ra_aload_n A d_Su_write_45 rfl <| ra_getI A f_Su_30 d_Su_write_46 (Nat.le_of_ble_eq_true rfl) rfl rfl <| ?_
      rw [fr1 f3' (by decide), s2]
      refine ra_aload_n A d_Su_write_49 rfl <| ra_getR A f_Su_9 d_Su_write_50 (Nat.le_of_ble_eq_true rfl) rfl rfl rfl <| ra_iconst A 0 d_Su_write_53 (by decide) <| ?_
      refine ra_iaload A d_Su_write_54 (Nat.le_of_ble_eq_true rfl) rfl (show vp_in (nI 0) 1024 from vp_in_nI (by decide) (by decide)) ?_
      rw [show (0 : Int32).toNatClampNeg = 0 from rfl, fr1 f3' (by decide), s6 0 hn0]
      refine ra_i2l A d_Su_write_55 <| ?_
      have e1 : sfirst 0 n = 1 := rfl
      rw [e1] at hroom hX
      refine ra_callV (As := [_, _]) A ok_Wr_put l_Su_57 im_Wr_put sl_Wr_put d_Su_write_56 (Nat.le_of_ble_eq_true rfl) rfl rfl rfl (Nat.le_of_ble_eq_true rfl) (xr_of at0 (by decide)) (s_Wr_put K (n := wd) W3 (by rw [hPl]; omega) (fun g4 f4 W4 => ?_))
      show xg x (y0 u) 0 0 59 _ _ g4
      rw [if_pos (by decide), List.append_nil, show sbits t wd 1 = bitsL wd (t 0).toInt64 from rfl] at hX
      exact ra_vret A ow d_Su_write_59 (hX g4 ((f3'.trans f4).mono (by decide)) W4)
    · subst e
      refine ra_if_ne (q := 60) A d_Su_write_41 (by decide) (fun _ => ?_) (fun cc => absurd cc ((by decide)))
      refine ra_aload_n A d_Su_write_60 rfl <| ra_getI A f_Su_33 d_Su_write_61 (Nat.le_of_ble_eq_true rfl) rfl rfl <| ?_
      rw [fr1 f3' (by decide), s3]
      refine ra_iconst A 1 d_Su_write_64 (by decide) <| ?_
      refine ra_icmp_ne (q := 75) A d_Su_write_65 (by decide) (fun cc => absurd (rfl) cc) (fun _ => ?_)
      refine ra_aload_n A d_Su_write_68 rfl <| ra_getI A f_Su_19 d_Su_write_69 (Nat.le_of_ble_eq_true rfl) rfl rfl <| ?_
      rw [fr1 f3' (by decide), s1]
      refine ra_goto (q := 82) A d_Su_write_72 (by decide) <| ?_
      exact at82 n (Nat.le_refl _) rfl (by decide)
    · subst e
      refine ra_if_ne (q := 60) A d_Su_write_41 (by decide) (fun _ => ?_) (fun cc => absurd cc (nI_ne0 (by omega) hty31))
      refine ra_aload_n A d_Su_write_60 rfl <| ra_getI A f_Su_33 d_Su_write_61 (Nat.le_of_ble_eq_true rfl) rfl rfl <| ?_
      rw [fr1 f3' (by decide), s3]
      refine ra_iconst A 1 d_Su_write_64 (by decide) <| ?_
      refine ra_icmp_ne (q := 75) A d_Su_write_65 (by decide) (fun _ => ?_) (fun cc => absurd cc (fun z => absurd ((nI_eq (b := 1) hty31 (by decide)).mp z) (by omega)))
      refine ra_aload_n A d_Su_write_75 rfl <| ra_getI A f_Su_33 d_Su_write_76 (Nat.le_of_ble_eq_true rfl) rfl rfl <| ?_
      rw [fr1 f3' (by decide), s3]
      refine ra_bipush A 8 d_Su_write_79 (by decide) <| ra_isub A d_Su_write_81 <| ?_
      rw [show nI (8 + o) - 8 = nI o by rw [show (8 : Int32) = nI 8 from rfl, pk_sub (by omega), show 8 + o - 8 = o by omega]]
      refine at82 o (by omega) ?_ (by omega)
      unfold sfirst
      rw [if_neg (by omega), if_neg (by omega)]
      omega
  by_cases c : 0 < w
  · refine ra_if_le (q := 24) A d_Su_write_17 (by decide) (fun cc => absurd cc (nI_nle c (by omega))) (fun _ => ?_)
    refine ra_lconst A 1 d_Su_write_20 (by decide) <| ra_goto (q := 25) A d_Su_write_21 (by decide) <| ?_
    rw [if_pos c] at at25
    exact at25
  · refine ra_if_le (q := 24) A d_Su_write_17 (by decide) (fun _ => ?_) (fun cc => absurd ((by rw [show w = 0 by omega]; decide)) cc)
    refine ra_lconst A 0 d_Su_write_24 (by decide) <| ?_
    rw [if_neg c] at at25
    exact at25
end S74
