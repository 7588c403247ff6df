/-! SoundStreamModel: writeSubframe, signalOf, costOf, bestC -/
theorem type_bits {ty w0 : Nat} (h : w0 < 2) : bitsL 8 (lN (2 * ty + w0)) = bitsL 7 (lN ty) ++ bitsL 1 (lN w0) := by
  rw [bitsL_N _ (by decide), bitsL_N _ (by decide), bitsL_N _ (by decide), show 8 = 7 + 1 from rfl, nbits_split 7, show (2 * ty + w0) / 2 ^ 1 = ty by omega]
  congr 1
  refine nbits_mod 1 (fun i hi => ?_)
  obtain rfl : i = 0 := by omega
  rw [Nat.testBit_zero, Nat.testBit_zero]
  congr 1
  rw [show (2 * ty + w0) % 2 = w0 % 2 by omega]
theorem MS.fm {g g' : xw_H} {sm : Nat → Int32} {n d : Nat} {C F : List Nat} {b : Bool} (x : MS g sm n d) (f : fm C F b g g') (h1 : 150 ∉ C) (h2 : ∀ j ∈ [18, 19, 20], j ∉ F) : MS g' sm n d := by
  unfold MS
  rw [fmk f h1 (by decide), f.2.1 18 (h2 18 (by decide)), f.2.1 19 (h2 19 (by decide)), f.2.1 20 (h2 20 (by decide))]
  exact x
section S87
variable {u : xu_T} {l : Launch} {KK : State → Prop} {h : xw_H} {X : xc_R → xw_H → Nat → Nat → Prop}
theorem s_Mo_writeSubframe (K : xk_ok u KK) {sm : Nat → Int32} {n d p : Nat} (hn1 : 1 ≤ n) (hn : n ≤ 1024) (hd0 : 1 ≤ d) (hd : d ≤ 25) (hb : inD sm n d) (S : MS h sm n d) (hR : SR h) (hp : h.2 141 13 = lN p) (hroom : p + (sfbits sm n d).length ≤ 75200)
    (hX : ∀ h', fm [148, 151] [] true h h' → SW p (sfbits sm n d) h h' → X (.inl none) h' 0 0) : xm_M l (y0 u) KK m_Mo_writeSubframe [.ref 141, .int (nI n), .int (nI d)] h X := by
  refine xm_of [none, none, none] (by simp) (Nat.le_of_ble_eq_true rfl) (by decide) (fun x at0 => ?_)
  have A := xa_of at0 K
  have ow := at0.2.2.2.2.1
  have hw := hb.w hd0 hd
  have hdl := fun o ho => hb.dl hd (o := o) ho
  have hty := ch_ty (t := sT sm n) (al := alB sm n) (wd := d - sW sm n) (n := n) (min 5 n) (Nat.min_le_right _ _)
  rw [show ch (sT sm n) (alB sm n) (d - sW sm n) n (min 5 n) = sC sm n d from rfl] at hty
  replace hty : ((sC sm n d).2.1 = 0 ∨ (sC sm n d).2.1 = 1) ∨ ∃ o, o < min 5 n ∧ (sC sm n d).2.1 = 8 + o ∧ (sC sm n d).2.2 = bq (sT sm n) o n := by
    rcases hty with ⟨q, -⟩ | ⟨o, q1, q2, q3, -⟩
    · left
      rw [q]
      split
      · exact Or.inl rfl
      · exact Or.inr rfl
    · exact Or.inr ⟨o, q1, q2, q3⟩
  obtain ⟨s1, s2, s3, s4⟩ := S
  have htt : sT sm n = sh sm (sW sm n) := rfl
  unfold sfbits at hroom hX
  rw [htt] at hroom hX hdl hty
  generalize (sC sm n d).2.1 = ty at *
  generalize (sC sm n d).2.2 = q at *
  generalize hwd : d - sW sm n = wd at *
  generalize hww : sW sm n = w at *
  simp only [List.length_append, bitsL_len, sbits_len] at hroom
  have hty31 : ty < 2 ^ 30 := by omega
  refine ra_aload_n A d_Mo_writeSubframe_0 rfl <| ra_aload_n A d_Mo_writeSubframe_1 rfl <| ra_getI A f_Mo_291 d_Mo_writeSubframe_2 (Nat.le_of_ble_eq_true rfl) rfl rfl <| ?_
  rw [s2]
  refine ra_i2l A d_Mo_writeSubframe_5 <| ?_
  rw [nI_l (by omega)]
  refine ra_iconst A 1 d_Mo_writeSubframe_6 (by decide) <| ra_lshl A d_Mo_writeSubframe_7 <| ?_
  rw [show lN ty <<< ((1 : Int32).toInt64 &&& 63) = lN (ty * 2 ^ 1) from wb_shl ty (k := 1) (by decide)]
  refine ra_aload_n A d_Mo_writeSubframe_8 rfl <| ra_getI A f_Mo_253 d_Mo_writeSubframe_9 (Nat.le_of_ble_eq_true rfl) rfl rfl <| ?_
  rw [s3]
  have at20 : ∀ w0 : Nat, w0 < 2 → lN w0 = (if 0 < w then 1 else 0) → xg x (y0 u) 0 0 20 [some (.ref 141), some (.int (nI n)), some (.int (nI d)), none, none, none] [.long (lN w0), .long (lN (ty * 2 ^ 1)), .ref 141] h := by
    intro w0 hw0 ew0
    refine ra_lor A d_Mo_writeSubframe_20 <| ra_bipush A 8 d_Mo_writeSubframe_21 (by decide) <| ?_
    rw [wb_or (by omega) (by omega), show ty * 2 ^ 1 ||| w0 = 2 * ty + w0 by rw [show ty * 2 ^ 1 = 2 ^ 1 * ty by omega, ← Nat.two_pow_add_eq_or_of_lt (by omega)]]
    refine ra_callV (As := [_, _]) A ok_Mo_put l_Mo_306 im_Mo_put sl_Mo_put d_Mo_writeSubframe_23 (Nat.le_of_ble_eq_true rfl) rfl rfl rfl (Nat.le_of_ble_eq_true rfl) (xr_of at0 (by decide)) (s_Mo_put K (n := 8) hR hp (by omega) (fun g1 f1 W1 => ?_))
    show xg x (y0 u) 0 0 26 _ _ g1
    rw [type_bits hw0, ew0] at W1
    have at42 : ∀ g2, fm [148, 151] [] true h g2 → SW p (bitsL 7 (lN ty) ++ bitsL 1 (if 0 < w then 1 else 0) ++ bitsL w 1) h g2 → xg x (y0 u) 0 0 42 [some (.ref 141), some (.int (nI n)), some (.int (nI d)), none, none, none] [] g2 := by
      intro g2 f2 W2
      have hPl : (bitsL 7 (lN ty) ++ bitsL 1 (if 0 < w then 1 else 0) ++ bitsL w 1).length = 8 + w := by
        rw [List.length_append, List.length_append, bitsL_len, bitsL_len, bitsL_len]
      generalize bitsL 7 (lN ty) ++ bitsL 1 (if 0 < w then 1 else 0) ++ bitsL w 1 = P at W2 hX hPl
      have F : ∀ g, fm [148, 151] [] true h g → g.1 141 18 = nI ty ∧ g.1 141 19 = nI w ∧ (∀ i, i < n → g.1 150 i = sm i) ∧ (8 ≤ ty → g.1 141 20 = nI q) := by
        intro g f
        rw [f.2.1 18 (by decide), f.2.1 19 (by decide), f.2.1 20 (by decide), fmk f (by decide) (by decide)]
        exact ⟨s2, s3, s1, s4⟩
      refine ra_iload_n A d_Mo_writeSubframe_42 rfl <| ra_aload_n A d_Mo_writeSubframe_43 rfl <| ra_getI A f_Mo_253 d_Mo_writeSubframe_44 (Nat.le_of_ble_eq_true rfl) rfl rfl <| ?_
      rw [(F g2 f2).2.1]
      refine ra_isub A d_Mo_writeSubframe_47 <| ?_
      rw [pk_sub (Nat.le_of_lt hw), hwd]
      refine ra_istore_n (L' := [_, _, _, _, _, _]) A d_Mo_writeSubframe_48 (by decide) rfl <| ra_aload_n A d_Mo_writeSubframe_49 rfl <| ra_getI A f_Mo_291 d_Mo_writeSubframe_50 (Nat.le_of_ble_eq_true rfl) rfl rfl <| ?_
      rw [(F g2 f2).1]
      have at79 : ∀ N, N ≤ n → sfirst ty n = N → xg x (y0 u) 0 0 79 [some (.ref 141), some (.int (nI n)), some (.int (nI d)), some (.int (nI wd)), none, none] [.int (nI N)] g2 := by
        intro N hN eN
        rw [eN] at hroom hX
        refine ra_istore (L' := [_, _, _, _, _, _]) A d_Mo_writeSubframe_79 (by decide) rfl <| ra_iconst A 0 d_Mo_writeSubframe_81 (by decide) <| ra_istore (L' := [_, _, _, _, _, _]) A d_Mo_writeSubframe_82 (by decide) rfl <| ?_
        refine lp_up (σ := xw_H) (W := fun i g => xg x (y0 u) 0 0 84 [some (.ref 141), some (.int (nI n)), some (.int (nI d)), some (.int (nI wd)), some (.int (nI N)), some (.int (nI i))] [] g) (I := fun i g => fm [148, 151] [] true h g ∧ SW p (P ++ sbits (sh sm w) wd i) h g) N ?_ ?_ 0 g2 (Nat.zero_le _) ⟨f2, by simpa [sbits] using W2⟩
        · rintro g ⟨hf, hW⟩
          refine ra_iload A d_Mo_writeSubframe_84 rfl <| ra_iload A d_Mo_writeSubframe_86 rfl <| ?_
          refine ra_icmp_ge (q := 109) A d_Mo_writeSubframe_88 (by decide) (fun _ => ?_) (fun cc => absurd (Int32.le_refl _) cc)
          refine ra_aload_n A d_Mo_writeSubframe_109 rfl <| ra_getI A f_Mo_291 d_Mo_writeSubframe_110 (Nat.le_of_ble_eq_true rfl) rfl rfl <| ?_
          rw [(F g hf).1]
          refine ra_bipush A 8 d_Mo_writeSubframe_113 (by decide) <| ?_
          rcases hty with e | ⟨o, ho, e, eq⟩
          · refine ra_icmp_ge (q := 119) A d_Mo_writeSubframe_115 (by decide) (fun cc => absurd cc (nI_ge (b := 8) (by omega) (by decide))) (fun _ => ?_)
            rw [if_pos (by omega), List.append_nil] at hX
            exact ra_vret A ow d_Mo_writeSubframe_118 (hX g hf hW)
          · subst e
            have ho1 : o < n := by omega
            obtain rfl : N = o := by
              rw [← eN]
              unfold sfirst
              rw [if_neg (by omega), if_neg (by omega)]
              omega
            rw [if_neg (show ¬ 8 + N < 8 by omega), show 8 + N - 8 = N by omega] at hX hroom
            have es8 : nI (8 + N) - 8 = nI N := by rw [show (8 : Int32) = nI 8 from rfl, pk_sub (by omega), show 8 + N - 8 = N by omega]
            obtain ⟨hFq, fF, nF⟩ := finq_fit ho1
            have hbq : bq (sh sm w) N n ≤ finq N n := (amin_LM _ _).1
            rw [← eq] at hbq
            have hq5 : q ≤ 5 := by omega
            have hfit : pfit N n q := pfit_le fF hbq
            have hP : 2 ^ q ≤ 32 := Nat.pow_le_pow_right (n := 2) (by decide) hq5
            have hPe : 2 ^ q * (n / 2 ^ q) = n := Nat.mul_div_cancel' (Nat.dvd_of_mod_eq_zero hfit.1)
            have hoe := hfit.2
            have hrl : (restbits (dl N (sh sm w)) N n q).length = 6 + (wparts (dl N (sh sm w)) N (n / 2 ^ q) (2 ^ q)).length := by
              unfold restbits
              rw [List.length_append, List.length_append, bitsL_len, bitsL_len]
            have hQl : (P ++ sbits (sh sm w) wd N).length = 8 + w + wd * N := by rw [List.length_append, hPl, sbits_len]
            refine ra_icmp_ge (q := 119) A d_Mo_writeSubframe_115 (by decide) (fun _ => ?_) (fun cc => absurd (nI_le (a := 8) (by omega) (by omega)) cc)
            refine ra_aload_n A d_Mo_writeSubframe_119 rfl <| ra_aload_n A d_Mo_writeSubframe_120 rfl <| ra_getI A f_Mo_291 d_Mo_writeSubframe_121 (Nat.le_of_ble_eq_true rfl) rfl rfl <| ?_
            rw [(F g hf).1]
            refine ra_bipush A 8 d_Mo_writeSubframe_124 (by decide) <| ra_isub A d_Mo_writeSubframe_126 <| ra_iload_n A d_Mo_writeSubframe_127 rfl <| ?_
            rw [es8]
            refine ra_callV (As := [_, _]) A ok_Mo_leave l_Mo_297 im_Mo_leave sl_Mo_leave d_Mo_writeSubframe_128 (Nat.le_of_ble_eq_true rfl) rfl rfl rfl (Nat.le_of_ble_eq_true rfl) (xr_of at0 (by decide)) (s_Mo_leave K (by omega) (by omega) (F g hf).2.2.1 (F g hf).2.1 (fun g3 f3 R3 => ?_))
            show xg x (y0 u) 0 0 131 _ _ g3
            have W3 : SW p (P ++ sbits (sh sm w) wd N) h g3 := hW.fm (f3.2.2 rfl) (fmk f3 (by decide) (by decide))
            have f3' : fm [148, 151] [] true h g3 := hf.trans (f3.mono (by decide) (by decide) (fun q => by cases q))
            refine ra_aload_n A d_Mo_writeSubframe_131 rfl <| ra_lconst A 0 d_Mo_writeSubframe_132 (by decide) <| ra_iconst A 2 d_Mo_writeSubframe_133 (by decide) <| ?_
            refine ra_callV (As := [_, _]) A ok_Mo_put l_Mo_306 im_Mo_put sl_Mo_put d_Mo_writeSubframe_134 (Nat.le_of_ble_eq_true rfl) rfl rfl rfl (Nat.le_of_ble_eq_true rfl) (xr_of at0 (by decide)) (s_Mo_put K (n := 2) W3.sr W3.1 (by omega) (fun g4 f4 W4 => ?_))
            show xg x (y0 u) 0 0 137 _ _ g4
            have f4' : fm [148, 151] [] true h g4 := f3'.trans (f4.mono (by decide) (by decide) (fun q => q))
            have W4 := W3.trans W4
            refine ra_aload_n A d_Mo_writeSubframe_137 rfl <| ra_aload_n A d_Mo_writeSubframe_138 rfl <| ra_getI A f_Mo_303 d_Mo_writeSubframe_139 (Nat.le_of_ble_eq_true rfl) rfl rfl <| ?_
            rw [(F g4 f4').2.2.2 (by omega)]
            refine ra_i2l A d_Mo_writeSubframe_142 <| ?_
            rw [nI_l (by omega)]
            refine ra_iconst A 4 d_Mo_writeSubframe_143 (by decide) <| ?_
            refine ra_callV (As := [_, _]) A ok_Mo_put l_Mo_306 im_Mo_put sl_Mo_put d_Mo_writeSubframe_144 (Nat.le_of_ble_eq_true rfl) rfl rfl rfl (Nat.le_of_ble_eq_true rfl) (xr_of at0 (by decide)) (s_Mo_put K (n := 4) W4.sr W4.1 (by rw [List.length_append, bitsL_len]; omega) (fun g5 f5 W5 => ?_))
            show xg x (y0 u) 0 0 147 _ _ g5
            have f5' : fm [148, 151] [] true h g5 := f4'.trans (f5.mono (by decide) (by decide) (fun q => q))
            have W5 := W4.trans W5
            have e5 : g5.1 151 = g3.1 151 := (fmk f5 (by decide) (by decide)).trans (fmk f4 (by decide) (by decide))
            refine ra_iconst A 0 d_Mo_writeSubframe_147 (by decide) <| ra_istore (L' := [_, _, _, _, _, _]) A d_Mo_writeSubframe_148 (by decide) rfl <| ?_
            refine lp_up (σ := xw_H) (W := fun i g => xg x (y0 u) 0 0 150 [some (.ref 141), some (.int (nI n)), some (.int (nI d)), some (.int (nI wd)), some (.int (nI N)), some (.int (nI i))] [] g) (I := fun i g => fm [148, 151] [] true h g ∧ g.1 151 = g3.1 151 ∧ SW p (P ++ sbits (sh sm w) wd N ++ bitsL 2 0 ++ bitsL 4 (lN q) ++ wparts (dl N (sh sm w)) N (n / 2 ^ q) i) h g) (2 ^ q) ?_ ?_ 0 g5 (Nat.zero_le _) ⟨f5', e5, by simpa [wparts] using W5⟩
            · rintro g' ⟨hf', -, hW'⟩
              refine ra_iload A d_Mo_writeSubframe_150 rfl <| ra_iconst A 1 d_Mo_writeSubframe_152 (by decide) <| ra_aload_n A d_Mo_writeSubframe_153 rfl <| ra_getI A f_Mo_303 d_Mo_writeSubframe_154 (Nat.le_of_ble_eq_true rfl) rfl rfl <| ?_
              rw [(F g' hf').2.2.2 (by omega)]
              refine ra_ishl A d_Mo_writeSubframe_157 <| ?_
              rw [shl1 (by omega)]
              refine ra_icmp_ge (q := 199) A d_Mo_writeSubframe_158 (by decide) (fun _ => ?_) (fun cc => absurd (Int32.le_refl _) cc)
              refine ra_vret A ow d_Mo_writeSubframe_199 (hX g' hf' ?_)
              unfold restbits
              rw [← List.append_assoc, ← List.append_assoc]
              exact hW'
            · rintro i g' hi ⟨hf', e', hW'⟩ ih
              have hmono := wparts_mono (r := dl N (sh sm w)) (o := N) (e := n / 2 ^ q) (show i + 1 ≤ 2 ^ q from hi)
              rw [wparts, List.length_append] at hmono
              have hCl : (P ++ sbits (sh sm w) wd N ++ bitsL 2 0 ++ bitsL 4 (lN q) ++ wparts (dl N (sh sm w)) N (n / 2 ^ q) i).length = 14 + w + wd * N + (wparts (dl N (sh sm w)) N (n / 2 ^ q) i).length := by
                rw [List.length_append, List.length_append, List.length_append, hQl, bitsL_len, bitsL_len]
                omega
              rw [wparts, ← List.append_assoc] at ih
              generalize P ++ sbits (sh sm w) wd N ++ bitsL 2 0 ++ bitsL 4 (lN q) ++ wparts (dl N (sh sm w)) N (n / 2 ^ q) i = C at hW' hCl ih
              have hAM := pA_AM (p := i) (Nat.le_of_lt hoe)
              have hle : (i + 1) * (n / 2 ^ q) ≤ 2 ^ q * (n / 2 ^ q) := Nat.mul_le_mul_right _ hi
              have RT' : RT g' N n (dl N (sh sm w)) := fun j h1 h2 => ⟨by rw [e']; exact R3 j h1 h2, hdl N (by omega) j h1 h2⟩
              have e20 := (F g' hf').2.2.2 (by omega)
              refine ra_iload A d_Mo_writeSubframe_150 rfl <| ra_iconst A 1 d_Mo_writeSubframe_152 (by decide) <| ra_aload_n A d_Mo_writeSubframe_153 rfl <| ra_getI A f_Mo_303 d_Mo_writeSubframe_154 (Nat.le_of_ble_eq_true rfl) rfl rfl <| ?_
              rw [e20]
              refine ra_ishl A d_Mo_writeSubframe_157 <| ?_
              rw [shl1 (by omega)]
              refine ra_icmp_ge (q := 199) A d_Mo_writeSubframe_158 (by decide) (fun cc => absurd cc (nI_ge hi (by omega))) (fun _ => ?_)
              refine ra_aload_n A d_Mo_writeSubframe_161 rfl <| ra_iload A d_Mo_writeSubframe_162 rfl <| ra_aload_n A d_Mo_writeSubframe_164 rfl <| ra_getI A f_Mo_303 d_Mo_writeSubframe_165 (Nat.le_of_ble_eq_true rfl) rfl rfl <| ?_
              rw [e20]
              refine ra_aload_n A d_Mo_writeSubframe_168 rfl <| ra_getI A f_Mo_291 d_Mo_writeSubframe_169 (Nat.le_of_ble_eq_true rfl) rfl rfl <| ?_
              rw [(F g' hf').1]
              refine ra_bipush A 8 d_Mo_writeSubframe_172 (by decide) <| ra_isub A d_Mo_writeSubframe_174 <| ra_iload_n A d_Mo_writeSubframe_175 rfl <| ?_
              rw [es8]
              refine ra_callS (As := [_, _, _, _]) A ok_Mo_partFrom l_Mo_275 st_Mo_partFrom d_Mo_writeSubframe_176 rfl (Nat.le_of_ble_eq_true rfl) (xr_of at0 (by decide)) (s_Mo_partFrom K (by omega) (by omega) (by omega) ?_)
              show xg x (y0 u) 0 0 179 _ _ g'
              refine ra_iload A d_Mo_writeSubframe_179 rfl <| ra_iconst A 1 d_Mo_writeSubframe_181 (by decide) <| ra_iadd A d_Mo_writeSubframe_182 <| ra_iload_n A d_Mo_writeSubframe_183 rfl <| ra_aload_n A d_Mo_writeSubframe_184 rfl <| ra_getI A f_Mo_303 d_Mo_writeSubframe_185 (Nat.le_of_ble_eq_true rfl) rfl rfl <| ?_
              rw [nI_1, e20]
              refine ra_ishr A d_Mo_writeSubframe_188 <| ?_
              rw [shrN (by omega) (by omega)]
              refine ra_imul A d_Mo_writeSubframe_189 <| ?_
              rw [pk_mul, ← hAM.2]
              refine ra_callV (As := [_, _]) A ok_Mo_writePart l_Mo_310 im_Mo_writePart sl_Mo_writePart d_Mo_writeSubframe_190 (Nat.le_of_ble_eq_true rfl) rfl rfl rfl (Nat.le_of_ble_eq_true rfl) (xr_of at0 (by decide)) (s_Mo_writePart K RT' hAM.1 (by omega) (by omega) hW'.sr hW'.1 (by omega) (fun g6 f6 W6 => ?_))
              show xg x (y0 u) 0 0 193 _ _ g6
              refine ra_iinc (L' := [_, _, _, _, _, _]) A 1 d_Mo_writeSubframe_193 rfl (by decide) (by decide) rfl <| ra_goto (q := 150) A d_Mo_writeSubframe_196 (by decide) <| ?_
              rw [nI_1]
              exact ih g6 ⟨hf'.trans (f6.mono (by decide) (by decide) (fun q => q)), (fmk f6 (by decide) (by decide)).trans e', hW'.trans W6⟩
        · rintro i g hi ⟨hf, hW⟩ ih
          have hmul : wd * i + wd ≤ wd * N := by
            have := Nat.mul_le_mul_left wd (show i + 1 ≤ N from hi)
            rw [Nat.mul_succ] at this
            exact this
          refine ra_iload A d_Mo_writeSubframe_84 rfl <| ra_iload A d_Mo_writeSubframe_86 rfl <| ?_
          refine ra_icmp_ge (q := 109) A d_Mo_writeSubframe_88 (by decide) (fun cc => absurd cc (nI_ge hi (by omega))) (fun _ => ?_)
          refine ra_aload_n A d_Mo_writeSubframe_91 rfl <| ra_aload_n A d_Mo_writeSubframe_92 rfl <| ra_iload A d_Mo_writeSubframe_93 rfl <| ?_
          refine ra_callV (As := [_]) A ok_Mo_shifted l_Mo_256 im_Mo_shifted sl_Mo_shifted d_Mo_writeSubframe_95 (Nat.le_of_ble_eq_true rfl) rfl rfl rfl (Nat.le_of_ble_eq_true rfl) (xr_of at0 (by decide)) (s_Mo_shifted K (by omega) ((F g hf).2.2.1 i (by omega)) (F g hf).2.1 ?_)
          show xg x (y0 u) 0 0 98 _ _ g
          refine ra_i2l A d_Mo_writeSubframe_98 <| ra_iload_n A d_Mo_writeSubframe_99 rfl <| ?_
          refine ra_callV (As := [_, _]) A ok_Mo_put l_Mo_306 im_Mo_put sl_Mo_put d_Mo_writeSubframe_100 (Nat.le_of_ble_eq_true rfl) rfl rfl rfl (Nat.le_of_ble_eq_true rfl) (xr_of at0 (by decide)) (s_Mo_put K (n := wd) hW.sr hW.1 (by rw [List.length_append, hPl, sbits_len]; omega) (fun g4 f4 W4 => ?_))
          show xg x (y0 u) 0 0 103 _ _ g4
          refine ra_iinc (L' := [_, _, _, _, _, _]) A 1 d_Mo_writeSubframe_103 rfl (by decide) (by decide) rfl <| ra_goto (q := 84) A d_Mo_writeSubframe_106 (by decide) <| ?_
          rw [nI_1]
          refine ih g4 ⟨hf.trans (f4.mono (by decide) (by decide) (fun q => q)), ?_⟩
          rw [sbits, ← List.append_assoc]
          exact hW.trans W4
      rcases hty with (e | e) | ⟨o, ho, e, -⟩
      · subst e
        refine ra_if_ne (q := 60) A d_Mo_writeSubframe_53 (by decide) (fun cc => absurd (rfl) cc) (fun _ => ?_)
        refine ra_iconst A 1 d_Mo_writeSubframe_56 (by decide) <| ra_goto (q := 79) A d_Mo_writeSubframe_57 (by decide) <| ?_
        exact at79 1 hn1 rfl
      · subst e
        refine ra_if_ne (q := 60) A d_Mo_writeSubframe_53 (by decide) (fun _ => ?_) (fun cc => absurd cc ((by decide)))
        refine ra_aload_n A d_Mo_writeSubframe_60 rfl <| ra_getI A f_Mo_291 d_Mo_writeSubframe_61 (Nat.le_of_ble_eq_true rfl) rfl rfl <| ?_
        rw [(F g2 f2).1]
        refine ra_iconst A 1 d_Mo_writeSubframe_64 (by decide) <| ?_
        refine ra_icmp_ne (q := 72) A d_Mo_writeSubframe_65 (by decide) (fun cc => absurd (rfl) cc) (fun _ => ?_)
        refine ra_iload_n A d_Mo_writeSubframe_68 rfl <| ra_goto (q := 79) A d_Mo_writeSubframe_69 (by decide) <| ?_
        exact at79 n (Nat.le_refl _) rfl
      · subst e
        refine ra_if_ne (q := 60) A d_Mo_writeSubframe_53 (by decide) (fun _ => ?_) (fun cc => absurd cc (nI_ne0 (by omega) (by omega)))
        refine ra_aload_n A d_Mo_writeSubframe_60 rfl <| ra_getI A f_Mo_291 d_Mo_writeSubframe_61 (Nat.le_of_ble_eq_true rfl) rfl rfl <| ?_
        rw [(F g2 f2).1]
        refine ra_iconst A 1 d_Mo_writeSubframe_64 (by decide) <| ?_
        refine ra_icmp_ne (q := 72) A d_Mo_writeSubframe_65 (by decide) (fun _ => ?_) (fun cc => absurd cc (fun z => absurd ((nI_eq (b := 1) (by omega) (by decide)).mp z) (by omega)))
        refine ra_aload_n A d_Mo_writeSubframe_72 rfl <| ra_getI A f_Mo_291 d_Mo_writeSubframe_73 (Nat.le_of_ble_eq_true rfl) rfl rfl <| ?_
        rw [(F g2 f2).1]
        refine ra_bipush A 8 d_Mo_writeSubframe_76 (by decide) <| ra_isub A d_Mo_writeSubframe_78 <| ?_
        rw [show nI (8 + o) - 8 = nI o by rw [show (8 : Int32) = nI 8 from rfl, pk_sub (by omega), show 8 + o - 8 = o by omega]]
        refine at79 o (by omega) ?_
        unfold sfirst
        rw [if_neg (by omega), if_neg (by omega)]
        omega
    have f1' : fm [148, 151] [] true h g1 := f1.mono (by decide) (by decide) (fun q => q)
    refine ra_aload_n A d_Mo_writeSubframe_26 rfl <| ra_getI A f_Mo_253 d_Mo_writeSubframe_27 (Nat.le_of_ble_eq_true rfl) rfl rfl <| ?_
    rw [f1.2.1 19 (by decide), s3]
    by_cases c : 0 < w
    · refine ra_if_le (q := 42) A d_Mo_writeSubframe_30 (by decide) (fun cc => absurd cc (nI_nle c (by omega))) (fun _ => ?_)
      refine ra_aload_n A d_Mo_writeSubframe_33 rfl <| ra_lconst A 1 d_Mo_writeSubframe_34 (by decide) <| ra_aload_n A d_Mo_writeSubframe_35 rfl <| ra_getI A f_Mo_253 d_Mo_writeSubframe_36 (Nat.le_of_ble_eq_true rfl) rfl rfl <| ?_
      rw [f1.2.1 19 (by decide), s3]
      refine ra_callV (As := [_, _]) A ok_Mo_put l_Mo_306 im_Mo_put sl_Mo_put d_Mo_writeSubframe_39 (Nat.le_of_ble_eq_true rfl) rfl rfl rfl (Nat.le_of_ble_eq_true rfl) (xr_of at0 (by decide)) (s_Mo_put K (n := w) W1.sr W1.1 (by rw [List.length_append, bitsL_len, bitsL_len]; omega) (fun g2 f2 W2 => ?_))
      show xg x (y0 u) 0 0 42 _ _ g2
      exact at42 g2 (f1'.trans (f2.mono (by decide) (by decide) (fun q => q))) (W1.trans W2)
    · refine ra_if_le (q := 42) A d_Mo_writeSubframe_30 (by decide) (fun _ => ?_) (fun cc => absurd ((by rw [show w = 0 by omega]; decide)) cc)
      obtain rfl : w = 0 := by omega
      refine at42 g1 f1' ?_
      rw [show bitsL 0 1 = [] from rfl, List.append_nil]
      exact W1
  by_cases c : 0 < w
  · refine ra_if_le (q := 19) A d_Mo_writeSubframe_12 (by decide) (fun cc => absurd cc (nI_nle c (by omega))) (fun _ => ?_)
    refine ra_lconst A 1 d_Mo_writeSubframe_15 (by decide) <| ra_goto (q := 20) A d_Mo_writeSubframe_16 (by decide) <| ?_
    exact at20 1 (by decide) (by rw [if_pos c]; rfl)
  · refine ra_if_le (q := 19) A d_Mo_writeSubframe_12 (by decide) (fun _ => ?_) (fun cc => absurd ((by rw [show w = 0 by omega]; decide)) cc)
    refine ra_lconst A 0 d_Mo_writeSubframe_19 (by decide) <| ?_
    exact at20 0 (by decide) (by rw [if_neg c]; rfl)
theorem s_Mo_signalOf (K : xk_ok u KK) {c j : Nat} (hc : c = 0 ∨ isC c) (hj : j < 2) (h0 : c = 0 → j = 0) (hX : X (.inl (some (.int (nI (sgo c j))))) h 0 0) : xm_M l (y0 u) KK m_Mo_signalOf [.int (nI c), .int (nI j)] h X := by
  refine xm_of [] (by simp) (Nat.le_of_ble_eq_true rfl) (by decide) (fun x at0 => ?_)
  have A := xa_of at0 K
  have ow := at0.2.2.2.2.1
  have hj2 : j = 0 ∨ j = 1 := by omega
  rcases hj2 with rfl | rfl
  · rcases hc with rfl | rfl | rfl | rfl | rfl
    · refine ra_iload_n A d_Mo_signalOf_0 rfl <| ?_
      refine ra_if_ne (q := 28) A d_Mo_signalOf_1 (by decide) (fun cc => absurd (rfl) cc) (fun _ => ?_)
      refine ra_iload_n A d_Mo_signalOf_4 rfl <| ra_bipush A 9 d_Mo_signalOf_5 (by decide) <| ?_
      refine ra_icmp_ne (q := 14) A d_Mo_signalOf_7 (by decide) (fun _ => ?_) (fun cc => absurd cc ((by decide)))
      refine ra_iload_n A d_Mo_signalOf_14 rfl <| ra_bipush A 10 d_Mo_signalOf_15 (by decide) <| ?_
      refine ra_icmp_ne (q := 24) A d_Mo_signalOf_17 (by decide) (fun _ => ?_) (fun cc => absurd cc ((by decide)))
      refine ra_iconst A 0 d_Mo_signalOf_24 (by decide) <| ra_goto (q := 44) A d_Mo_signalOf_25 (by decide) <| ?_
      exact ra_iret A ow d_Mo_signalOf_44 hX
    · refine ra_iload_n A d_Mo_signalOf_0 rfl <| ?_
      refine ra_if_ne (q := 28) A d_Mo_signalOf_1 (by decide) (fun cc => absurd (rfl) cc) (fun _ => ?_)
      refine ra_iload_n A d_Mo_signalOf_4 rfl <| ra_bipush A 9 d_Mo_signalOf_5 (by decide) <| ?_
      refine ra_icmp_ne (q := 14) A d_Mo_signalOf_7 (by decide) (fun _ => ?_) (fun cc => absurd cc ((by decide)))
      refine ra_iload_n A d_Mo_signalOf_14 rfl <| ra_bipush A 10 d_Mo_signalOf_15 (by decide) <| ?_
      refine ra_icmp_ne (q := 24) A d_Mo_signalOf_17 (by decide) (fun _ => ?_) (fun cc => absurd cc ((by decide)))
      refine ra_iconst A 0 d_Mo_signalOf_24 (by decide) <| ra_goto (q := 44) A d_Mo_signalOf_25 (by decide) <| ?_
      exact ra_iret A ow d_Mo_signalOf_44 hX
    · refine ra_iload_n A d_Mo_signalOf_0 rfl <| ?_
      refine ra_if_ne (q := 28) A d_Mo_signalOf_1 (by decide) (fun cc => absurd (rfl) cc) (fun _ => ?_)
      refine ra_iload_n A d_Mo_signalOf_4 rfl <| ra_bipush A 9 d_Mo_signalOf_5 (by decide) <| ?_
      refine ra_icmp_ne (q := 14) A d_Mo_signalOf_7 (by decide) (fun _ => ?_) (fun cc => absurd cc ((by decide)))
      refine ra_iload_n A d_Mo_signalOf_14 rfl <| ra_bipush A 10 d_Mo_signalOf_15 (by decide) <| ?_
      refine ra_icmp_ne (q := 24) A d_Mo_signalOf_17 (by decide) (fun _ => ?_) (fun cc => absurd cc ((by decide)))
      refine ra_iconst A 0 d_Mo_signalOf_24 (by decide) <| ra_goto (q := 44) A d_Mo_signalOf_25 (by decide) <| ?_
      exact ra_iret A ow d_Mo_signalOf_44 hX
    · refine ra_iload_n A d_Mo_signalOf_0 rfl <| ?_
      refine ra_if_ne (q := 28) A d_Mo_signalOf_1 (by decide) (fun cc => absurd (rfl) cc) (fun _ => ?_)
      refine ra_iload_n A d_Mo_signalOf_4 rfl <| ra_bipush A 9 d_Mo_signalOf_5 (by decide) <| ?_
      refine ra_icmp_ne (q := 14) A d_Mo_signalOf_7 (by decide) (fun cc => absurd (rfl) cc) (fun _ => ?_)
      refine ra_iconst A 2 d_Mo_signalOf_10 (by decide) <| ra_goto (q := 44) A d_Mo_signalOf_11 (by decide) <| ?_
      exact ra_iret A ow d_Mo_signalOf_44 hX
    · refine ra_iload_n A d_Mo_signalOf_0 rfl <| ?_
      refine ra_if_ne (q := 28) A d_Mo_signalOf_1 (by decide) (fun cc => absurd (rfl) cc) (fun _ => ?_)
      refine ra_iload_n A d_Mo_signalOf_4 rfl <| ra_bipush A 9 d_Mo_signalOf_5 (by decide) <| ?_
      refine ra_icmp_ne (q := 14) A d_Mo_signalOf_7 (by decide) (fun _ => ?_) (fun cc => absurd cc ((by decide)))
      refine ra_iload_n A d_Mo_signalOf_14 rfl <| ra_bipush A 10 d_Mo_signalOf_15 (by decide) <| ?_
      refine ra_icmp_ne (q := 24) A d_Mo_signalOf_17 (by decide) (fun cc => absurd (rfl) cc) (fun _ => ?_)
      refine ra_iconst A 3 d_Mo_signalOf_20 (by decide) <| ra_goto (q := 44) A d_Mo_signalOf_21 (by decide) <| ?_
      exact ra_iret A ow d_Mo_signalOf_44 hX
  · rcases hc with rfl | rfl | rfl | rfl | rfl
    · exact absurd (h0 rfl) (by decide)
    · refine ra_iload_n A d_Mo_signalOf_0 rfl <| ?_
      refine ra_if_ne (q := 28) A d_Mo_signalOf_1 (by decide) (fun _ => ?_) (fun cc => absurd cc ((by decide)))
      refine ra_iload_n A d_Mo_signalOf_28 rfl <| ra_iconst A 1 d_Mo_signalOf_29 (by decide) <| ?_
      refine ra_icmp_eq (q := 39) A d_Mo_signalOf_30 (by decide) (fun _ => ?_) (fun cc => absurd (rfl) cc)
      refine ra_iconst A 1 d_Mo_signalOf_39 (by decide) <| ra_goto (q := 44) A d_Mo_signalOf_40 (by decide) <| ?_
      exact ra_iret A ow d_Mo_signalOf_44 hX
    · refine ra_iload_n A d_Mo_signalOf_0 rfl <| ?_
      refine ra_if_ne (q := 28) A d_Mo_signalOf_1 (by decide) (fun _ => ?_) (fun cc => absurd cc ((by decide)))
      refine ra_iload_n A d_Mo_signalOf_28 rfl <| ra_iconst A 1 d_Mo_signalOf_29 (by decide) <| ?_
      refine ra_icmp_eq (q := 39) A d_Mo_signalOf_30 (by decide) (fun cc => absurd cc ((by decide))) (fun _ => ?_)
      refine ra_iload_n A d_Mo_signalOf_33 rfl <| ra_bipush A 9 d_Mo_signalOf_34 (by decide) <| ?_
      refine ra_icmp_ne (q := 43) A d_Mo_signalOf_36 (by decide) (fun _ => ?_) (fun cc => absurd cc ((by decide)))
      refine ra_iconst A 2 d_Mo_signalOf_43 (by decide) <| ?_
      exact ra_iret A ow d_Mo_signalOf_44 hX
    · refine ra_iload_n A d_Mo_signalOf_0 rfl <| ?_
      refine ra_if_ne (q := 28) A d_Mo_signalOf_1 (by decide) (fun _ => ?_) (fun cc => absurd cc ((by decide)))
      refine ra_iload_n A d_Mo_signalOf_28 rfl <| ra_iconst A 1 d_Mo_signalOf_29 (by decide) <| ?_
      refine ra_icmp_eq (q := 39) A d_Mo_signalOf_30 (by decide) (fun cc => absurd cc ((by decide))) (fun _ => ?_)
      refine ra_iload_n A d_Mo_signalOf_33 rfl <| ra_bipush A 9 d_Mo_signalOf_34 (by decide) <| ?_
      refine ra_icmp_ne (q := 43) A d_Mo_signalOf_36 (by decide) (fun cc => absurd (rfl) cc) (fun _ => ?_)
      refine ra_iconst A 1 d_Mo_signalOf_39 (by decide) <| ra_goto (q := 44) A d_Mo_signalOf_40 (by decide) <| ?_
      exact ra_iret A ow d_Mo_signalOf_44 hX
    · refine ra_iload_n A d_Mo_signalOf_0 rfl <| ?_
      refine ra_if_ne (q := 28) A d_Mo_signalOf_1 (by decide) (fun _ => ?_) (fun cc => absurd cc ((by decide)))
      refine ra_iload_n A d_Mo_signalOf_28 rfl <| ra_iconst A 1 d_Mo_signalOf_29 (by decide) <| ?_
      refine ra_icmp_eq (q := 39) A d_Mo_signalOf_30 (by decide) (fun cc => absurd cc ((by decide))) (fun _ => ?_)
      refine ra_iload_n A d_Mo_signalOf_33 rfl <| ra_bipush A 9 d_Mo_signalOf_34 (by decide) <| ?_
      refine ra_icmp_ne (q := 43) A d_Mo_signalOf_36 (by decide) (fun _ => ?_) (fun cc => absurd cc ((by decide)))
      refine ra_iconst A 2 d_Mo_signalOf_43 (by decide) <| ?_
      exact ra_iret A ow d_Mo_signalOf_44 hX
/-- every signal that the choice c may use has its width -/
def IB (S : Nat → Nat → Int32) (n D c : Nat) : Prop := ∀ j, j < 2 → (c = 0 → j = 0) → inD (S (sgo c j)) n (dW D (sgo c j))
theorem sgo_lt {c j : Nat} : sgo c j < 4 := by
  unfold sgo
  split
  · split
    · decide
    · split <;> decide
  · split <;> decide
theorem s_Mo_costOf (K : xk_ok u KK) {s0 s1 : Nat → Int32} {c j a n D : Nat} (hc : c = 0 ∨ isC c) (hj : j < 2) (h0 : c = 0 → j = 0) (R : RM h s0 s1) (hn1 : 1 ≤ n) (hn : n ≤ 1024) (han : a + n ≤ 1200) (hD0 : 1 ≤ D) (hD : D ≤ 24) (eD : h.1 141 4 = nI D) (hI : IB (sg s0 s1 a) n D c)
    (hX : ∀ h', fm [150, 151] [18, 19, 20] false h h' → MS h' (sg s0 s1 a (sgo c j)) n (dW D (sgo c j)) → X (.inl (some (.long (lN (kb (sg s0 s1 a) n D (sgo c j)))))) h' 0 0) : xm_M l (y0 u) KK m_Mo_costOf [.ref 141, .int (nI c), .int (nI j), .int (nI a), .int (nI n)] h X := by
  refine xm_of [none] (by simp) (Nat.le_of_ble_eq_true rfl) (by decide) (fun x at0 => ?_)
  have A := xa_of at0 K
  have ow := at0.2.2.2.2.1
  have hin := hI j hj h0
  have hw4 := sgo_lt (c := c) (j := j)
  unfold kb at hX
  refine ra_iload_n A d_Mo_costOf_0 rfl <| ra_iload_n A d_Mo_costOf_1 rfl <| ?_
  refine ra_callS (As := [_, _]) A ok_Mo_signalOf l_Mo_313 st_Mo_signalOf d_Mo_costOf_2 rfl (Nat.le_of_ble_eq_true rfl) (xr_of at0 (by decide)) (s_Mo_signalOf K hc hj h0 ?_)
  show xg x (y0 u) 0 0 5 _ _ h
  generalize sgo c j = w at hin hw4 hX ⊢
  refine ra_istore (L' := [_, _, _, _, _, _]) A d_Mo_costOf_5 (by decide) rfl <| ra_aload_n A d_Mo_costOf_7 rfl <| ra_iload A d_Mo_costOf_8 rfl <| ra_iload_n A d_Mo_costOf_10 rfl <| ra_iload A d_Mo_costOf_11 rfl <| ?_
  refine ra_callV (As := [_, _, _]) A ok_Mo_take l_Mo_316 im_Mo_take sl_Mo_take d_Mo_costOf_13 (Nat.le_of_ble_eq_true rfl) rfl rfl rfl (Nat.le_of_ble_eq_true rfl) (xr_of at0 (by decide)) (s_Mo_take K R hw4 han (fun g1 f1 s1' => ?_))
  show xg x (y0 u) 0 0 16 _ _ g1
  have eD1 : g1.1 141 4 = nI D := by rw [f1.2.1 4 (by decide)]; exact eD
  have at38 : ∀ dd, dd = dW D w → xg x (y0 u) 0 0 38 [some (.ref 141), some (.int (nI c)), some (.int (nI j)), some (.int (nI a)), some (.int (nI n)), some (.int (nI w))] [.int (nI dd), .int (nI n), .ref 141] g1 := by
    rintro dd rfl
    have hd25 : 1 ≤ dW D w ∧ dW D w ≤ 25 := by unfold dW; split <;> omega
    refine ra_callV (As := [_, _]) A ok_Mo_choose l_Mo_320 im_Mo_choose sl_Mo_choose d_Mo_costOf_38 (Nat.le_of_ble_eq_true rfl) rfl rfl rfl (Nat.le_of_ble_eq_true rfl) (xr_of at0 (by decide)) (s_Mo_choose K hn1 hn hd25.1 hd25.2 s1' hin (fun g2 f2 M2 => ?_))
    show xg x (y0 u) 0 0 41 _ _ g2
    exact ra_lret A ow d_Mo_costOf_41 (hX g2 ((f1.mono (by decide) (by decide) (fun q => q)).trans (f2.mono (by decide) (by decide) (fun q => q))) M2)
  refine ra_aload_n A d_Mo_costOf_16 rfl <| ra_iload A d_Mo_costOf_17 rfl <| ra_iload A d_Mo_costOf_19 rfl <| ra_iconst A 2 d_Mo_costOf_21 (by decide) <| ?_
  by_cases c2 : w = 2
  · refine ra_icmp_ne (q := 34) A d_Mo_costOf_22 (by decide) (fun cc => absurd ((by rw [c2]; rfl)) cc) (fun _ => ?_)
    refine ra_aload_n A d_Mo_costOf_25 rfl <| ra_getI A f_Mo_149 d_Mo_costOf_26 (Nat.le_of_ble_eq_true rfl) rfl rfl <| ?_
    rw [eD1]
    refine ra_iconst A 1 d_Mo_costOf_29 (by decide) <| ra_iadd A d_Mo_costOf_30 <| ra_goto (q := 38) A d_Mo_costOf_31 (by decide) <| ?_
    rw [nI_1]
    exact at38 (D + 1) (by unfold dW; rw [if_pos c2])
  · refine ra_icmp_ne (q := 34) A d_Mo_costOf_22 (by decide) (fun _ => ?_) (fun cc => absurd cc (fun z => c2 ((nI_eq (b := 2) (by omega) (by decide)).mp z)))
    refine ra_aload_n A d_Mo_costOf_34 rfl <| ra_getI A f_Mo_149 d_Mo_costOf_35 (Nat.le_of_ble_eq_true rfl) rfl rfl <| ?_
    rw [eD1]
    exact at38 D (by unfold dW; rw [if_neg c2])
theorem kb_lt {S : Nat → Nat → Int32} {n D w : Nat} (hn1 : 1 ≤ n) (hn : n ≤ 1024) (hD0 : 1 ≤ D) (hD : D ≤ 24) (hb : inD (S w) n (dW D w)) : kb S n D w ≤ 8 + 25 * 1024 := by
  have hd25 : 1 ≤ dW D w ∧ dW D w ≤ 25 := by unfold dW; split <;> omega
  have h1 := kb_le hn1 (Nat.le_of_lt (hb.w hd25.1 hd25.2))
  have h2 : dW D w * n ≤ 25 * 1024 := Nat.mul_le_mul hd25.2 hn
  unfold kb
  omega
theorem s_Mo_bestC (K : xk_ok u KK) {s0 s1 : Nat → Int32} {a n C D : Nat} (R : RM h s0 s1) (hn1 : 1 ≤ n) (hn : n ≤ 1024) (han : a + n ≤ 1200) (hC1 : 1 ≤ C) (hC2 : C ≤ 2) (hD0 : 1 ≤ D) (hD : D ≤ 24) (eC : h.1 141 3 = nI C) (eD : h.1 141 4 = nI D) (hI : C ≠ 1 → ∀ c, isC c → IB (sg s0 s1 a) n D c)
    (hX : ∀ h', fm [150, 151] [18, 19, 20] false h h' → X (.inl (some (.int (nI (fc C (sg s0 s1 a) n D))))) h' 0 0) : xm_M l (y0 u) KK m_Mo_bestC [.ref 141, .int (nI a), .int (nI n)] h X := by
  refine xm_of [none, none, none, none, none, none] (by simp) (Nat.le_of_ble_eq_true rfl) (by decide) (fun x at0 => ?_)
  have A := xa_of at0 K
  have ow := at0.2.2.2.2.1
  unfold fc at hX
  refine ra_aload_n A d_Mo_bestC_0 rfl <| ra_getI A f_Mo_145 d_Mo_bestC_1 (Nat.le_of_ble_eq_true rfl) rfl rfl <| ?_
  rw [eC]
  refine ra_iconst A 1 d_Mo_bestC_4 (by decide) <| ?_
  by_cases cC : C = 1
  · refine ra_icmp_ne (q := 10) A d_Mo_bestC_5 (by decide) (fun cc => absurd ((by rw [cC]; rfl)) cc) (fun _ => ?_)
    refine ra_iconst A 0 d_Mo_bestC_8 (by decide) <| ?_
    rw [if_pos cC] at hX
    exact ra_iret A ow d_Mo_bestC_9 (hX h fm.rfl)
  · refine ra_icmp_ne (q := 10) A d_Mo_bestC_5 (by decide) (fun _ => ?_) (fun cc => absurd cc (fun z => cC ((nI_eq (b := 1) (by omega) (by decide)).mp z)))
    rw [if_neg cC] at hX
    have hI := hI cC
    have hkb : ∀ c j, isC c → j < 2 → kb (sg s0 s1 a) n D (sgo c j) ≤ 8 + 25 * 1024 := fun c j hc hj => kb_lt hn1 hn hD0 hD (hI c hc j hj (fun q => by rcases hc with e | e | e | e <;> omega))
    have ne0 : ∀ c j, isC c → (c = 0 → j = 0) := fun c j hc q => by rcases hc with e | e | e | e <;> omega
    have RG : ∀ g, fm [150, 151] [18, 19, 20] false h g → RM g s0 s1 ∧ g.1 141 4 = nI D := fun g f => ⟨fun i hi => by rw [fmk f (by decide) (by decide)]; exact R i hi, by rw [f.2.1 4 (by decide)]; exact eD⟩
    have h1C : isC 1 := Or.inl rfl
    rw [show bC (sg s0 s1 a) n D = bsN (sg s0 s1 a) n D 3 from rfl] at hX
    refine ra_iconst A 1 d_Mo_bestC_10 (by decide) <| ra_istore_n (L' := [_, _, _, _, _, _, _, _, _]) A d_Mo_bestC_11 (by decide) rfl <| ra_aload_n A d_Mo_bestC_12 rfl <| ra_iconst A 1 d_Mo_bestC_13 (by decide) <| ra_iconst A 0 d_Mo_bestC_14 (by decide) <| ra_iload_n A d_Mo_bestC_15 rfl <| ra_iload_n A d_Mo_bestC_16 rfl <| ?_
    refine ra_callV (As := [_, _, _, _]) A ok_Mo_costOf l_Mo_324 im_Mo_costOf sl_Mo_costOf d_Mo_bestC_17 (Nat.le_of_ble_eq_true rfl) rfl rfl rfl (Nat.le_of_ble_eq_true rfl) (xr_of at0 (by decide)) (s_Mo_costOf K (c := 1) (j := 0) (Or.inr h1C) (by decide) (fun _ => rfl) R hn1 hn han hD0 hD eD (hI 1 h1C) (fun g1 f1 _ => ?_))
    show xg x (y0 u) 0 0 20 _ _ g1
    refine ra_aload_n A d_Mo_bestC_20 rfl <| ra_iconst A 1 d_Mo_bestC_21 (by decide) <| ra_iconst A 1 d_Mo_bestC_22 (by decide) <| ra_iload_n A d_Mo_bestC_23 rfl <| ra_iload_n A d_Mo_bestC_24 rfl <| ?_
    refine ra_callV (As := [_, _, _, _]) A ok_Mo_costOf l_Mo_324 im_Mo_costOf sl_Mo_costOf d_Mo_bestC_25 (Nat.le_of_ble_eq_true rfl) rfl rfl rfl (Nat.le_of_ble_eq_true rfl) (xr_of at0 (by decide)) (s_Mo_costOf K (c := 1) (j := 1) (Or.inr h1C) (by decide) (ne0 1 1 h1C) (RG g1 f1).1 hn1 hn han hD0 hD (RG g1 f1).2 (hI 1 h1C) (fun g2 f2 _ => ?_))
    show xg x (y0 u) 0 0 28 _ _ g2
    refine ra_ladd A d_Mo_bestC_28 <| ?_
    rw [lN_add, show kb (sg s0 s1 a) n D (sgo 1 0) + kb (sg s0 s1 a) n D (sgo 1 1) = kc (sg s0 s1 a) n D (bsN (sg s0 s1 a) n D 0) from rfl]
    refine ra_lstore (L' := [_, _, _, _, _, _, _, _, _]) A d_Mo_bestC_29 (by decide) rfl <| ra_bipush A 8 d_Mo_bestC_31 (by decide) <| ra_istore (L' := [_, _, _, _, _, _, _, _, _]) A d_Mo_bestC_33 (by decide) rfl <| ?_
    refine lp_up (σ := xw_H × Option Value × Option Value) (W := fun j s => xg x (y0 u) 0 0 35 [some (.ref 141), some (.int (nI a)), some (.int (nI n)), some (.int (nI (bsN (sg s0 s1 a) n D j))), some (.long (lN (kc (sg s0 s1 a) n D (bsN (sg s0 s1 a) n D j)))), none, some (.int (nI (8 + j))), s.2.1, s.2.2] [] s.1) (I := fun j s => fm [150, 151] [18, 19, 20] false h s.1) 3 ?_ ?_ 0 (g2, none, none) (Nat.zero_le _) (f1.trans f2)
    · rintro ⟨g, v1, v2⟩ hf
      dsimp only at hf ⊢
      refine ra_iload A d_Mo_bestC_35 rfl <| ra_bipush A 11 d_Mo_bestC_37 (by decide) <| ?_
      refine ra_icmp_ge (q := 84) A d_Mo_bestC_39 (by decide) (fun _ => ?_) (fun cc => absurd ((by decide)) cc)
      refine ra_iload_n A d_Mo_bestC_84 rfl <| ?_
      exact ra_iret A ow d_Mo_bestC_85 (hX g hf)
    · rintro j ⟨g, v1, v2⟩ hj hf ih
      dsimp only at hf ⊢
      have hc : isC (8 + j) := by unfold isC; omega
      have hb := bsN_C (S := sg s0 s1 a) (n := n) (D := D) j (by omega)
      refine ra_iload A d_Mo_bestC_35 rfl <| ra_bipush A 11 d_Mo_bestC_37 (by decide) <| ?_
      refine ra_icmp_ge (q := 84) A d_Mo_bestC_39 (by decide) (fun cc => absurd cc (nI_ge (b := 11) (by omega) (by decide))) (fun _ => ?_)
      refine ra_aload_n A d_Mo_bestC_42 rfl <| ra_iload A d_Mo_bestC_43 rfl <| ra_iconst A 0 d_Mo_bestC_45 (by decide) <| ra_iload_n A d_Mo_bestC_46 rfl <| ra_iload_n A d_Mo_bestC_47 rfl <| ?_
      refine ra_callV (As := [_, _, _, _]) A ok_Mo_costOf l_Mo_324 im_Mo_costOf sl_Mo_costOf d_Mo_bestC_48 (Nat.le_of_ble_eq_true rfl) rfl rfl rfl (Nat.le_of_ble_eq_true rfl) (xr_of at0 (by decide)) (s_Mo_costOf K (c := 8 + j) (j := 0) (Or.inr hc) (by decide) (fun _ => rfl) (RG g hf).1 hn1 hn han hD0 hD (RG g hf).2 (hI _ hc) (fun g3 f3 _ => ?_))
      show xg x (y0 u) 0 0 51 _ _ g3
      have hf3 := hf.trans f3
      refine ra_aload_n A d_Mo_bestC_51 rfl <| ra_iload A d_Mo_bestC_52 rfl <| ra_iconst A 1 d_Mo_bestC_54 (by decide) <| ra_iload_n A d_Mo_bestC_55 rfl <| ra_iload_n A d_Mo_bestC_56 rfl <| ?_
      refine ra_callV (As := [_, _, _, _]) A ok_Mo_costOf l_Mo_324 im_Mo_costOf sl_Mo_costOf d_Mo_bestC_57 (Nat.le_of_ble_eq_true rfl) rfl rfl rfl (Nat.le_of_ble_eq_true rfl) (xr_of at0 (by decide)) (s_Mo_costOf K (c := 8 + j) (j := 1) (Or.inr hc) (by decide) (ne0 _ 1 hc) (RG g3 hf3).1 hn1 hn han hD0 hD (RG g3 hf3).2 (hI _ hc) (fun g4 f4 _ => ?_))
      show xg x (y0 u) 0 0 60 _ _ g4
      refine ra_ladd A d_Mo_bestC_60 <| ?_
      rw [lN_add, show kb (sg s0 s1 a) n D (sgo (8 + j) 0) + kb (sg s0 s1 a) n D (sgo (8 + j) 1) = kc (sg s0 s1 a) n D (8 + j) from rfl]
      refine ra_lstore (L' := [_, _, _, _, _, _, _, _, _]) A d_Mo_bestC_61 (by decide) rfl <| ra_lload A d_Mo_bestC_63 rfl <| ra_lload A d_Mo_bestC_65 rfl <| ra_lcmp A d_Mo_bestC_67 <| ?_
      have q1 : kc (sg s0 s1 a) n D (8 + j) < 2 ^ 31 := by
        have := hkb _ 0 hc (by decide)
        have := hkb _ 1 hc (by decide)
        unfold kc; omega
      have q2 : kc (sg s0 s1 a) n D (bsN (sg s0 s1 a) n D j) < 2 ^ 31 := by
        have := hkb _ 0 hb (by decide)
        have := hkb _ 1 hb (by decide)
        unfold kc; omega
      have ih := ih (g4, some (.long (lN (kc (sg s0 s1 a) n D (8 + j)))), none) (hf3.trans f4)
      have e : bsN (sg s0 s1 a) n D (j + 1) = bst (sg s0 s1 a) n D (8 + j) (bsN (sg s0 s1 a) n D j) := rfl
      rw [e] at ih
      unfold bst at ih
      by_cases c : kc (sg s0 s1 a) n D (8 + j) < kc (sg s0 s1 a) n D (bsN (sg s0 s1 a) n D j)
      · refine ra_if_ge (q := 78) A d_Mo_bestC_68 (by decide) (fun cc => absurd cc (fun z => absurd ((pk_lLE (by omega) (by omega)).mp (lc_ge.mp z)) (by omega))) (fun _ => ?_)
        rw [if_pos c] at ih
        refine ra_lload A d_Mo_bestC_71 rfl <| ra_lstore (L' := [_, _, _, _, _, _, _, _, _]) A d_Mo_bestC_73 (by decide) rfl <| ra_iload A d_Mo_bestC_75 rfl <| ra_istore_n (L' := [_, _, _, _, _, _, _, _, _]) A d_Mo_bestC_77 (by decide) rfl <| ra_iinc (L' := [_, _, _, _, _, _, _, _, _]) A 1 d_Mo_bestC_78 rfl (by decide) (by decide) rfl <| ra_goto (q := 35) A d_Mo_bestC_81 (by decide) <| ?_
        rw [nI_1]
        exact ih
      · refine ra_if_ge (q := 78) A d_Mo_bestC_68 (by decide) (fun _ => ?_) (fun cc => absurd (lc_ge.mpr ((pk_lLE (by omega) (by omega)).mpr (by omega))) cc)
        rw [if_neg c] at ih
        refine ra_iinc (L' := [_, _, _, _, _, _, _, _, _]) A 1 d_Mo_bestC_78 rfl (by decide) (by decide) rfl <| ra_goto (q := 35) A d_Mo_bestC_81 (by decide) <| ?_
        rw [nI_1]
        exact ih
end S87
