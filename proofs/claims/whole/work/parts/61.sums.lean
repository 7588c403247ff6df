/-! sumUp, sum: the model's and the class's -/
theorem HM.fr {S : List Nat} {h h' : xw_H} {F : List Int32} (H : HM h F) (f : fr S h h') (h1 : 146 ∉ S) : HM h' F := fun j hj => by rw [(f 146 h1).1]; exact H j hj
theorem mfin_len (M : List Int32) : (mfin M).length = M.length + 1 + mpad M.length + 8 := by
  unfold mfin; simp; omega
theorem mr_succ {v : Int64} {i : Nat} : (List.range (i + 1)).map (dby v) = (List.range i).map (dby v) ++ [dby v i] := by
  rw [List.range_succ, List.map_append]; rfl
section S61
variable {u : xu_T} {l : Launch} {KK : State → Prop} {h : xw_H} {X : xc_R → xw_H → Nat → Nat → Prop}
theorem s_Mo_sumUp_rows (K : xk_ok u KK) (C : MC h) {ch dp n : Nat} (h1 : ch ≤ 2) (h2 : dp ≤ 24) (h3 : n ≤ 1200)
    (hX : ∀ h', fr [146, 147] h h' → mo_get h' = mdsum ch dp n (fun c i => h.1 144 (1200 * c + i)) → X (.inl none) h' 0 0) : xm_M l (y0 u) KK m_Mo_sumUp [.ref 141, .ref 144, .int (nI ch), .int (nI dp), .int (nI n)] h X := by
  refine xm_of [none, none, none, none, none] (by simp) (Nat.le_of_ble_eq_true rfl) (by decide) (fun x at0 => ?_)
  have A := xa_of at0 K
  have ow := at0.2.2.2.2.1
  generalize hsm : (fun (c i : Nat) => h.1 144 (1200 * c + i)) = sm at hX
  have esm : ∀ c i, h.1 144 (1200 * c + i) = sm c i := fun c i => by rw [← hsm]
  have hbig : ∀ i c, i ≤ 1200 → c ≤ 2 → ((mdat ch ((dp + 7) / 8) i sm) ++ ((List.range c).flatMap fun c => (List.range ((dp + 7) / 8)).map (dby (sm c i).toInt64))).length = i * (ch * ((dp + 7) / 8)) + c * ((dp + 7) / 8) ∧ i * (ch * ((dp + 7) / 8)) ≤ i * 6 ∧ c * ((dp + 7) / 8) ≤ c * 3 := by
    intro i c hi hc
    rw [List.length_append, mdat_len, fm_len _ ((dp + 7) / 8), List.length_range]
    · have q1 : (dp + 7) / 8 ≤ 3 := by omega
      have q2 : ch * ((dp + 7) / 8) ≤ 2 * 3 := Nat.mul_le_mul h1 q1
      exact ⟨rfl, Nat.mul_le_mul_left i q2, Nat.mul_le_mul_left c q1⟩
    · intro c; simp
  refine ra_iload_n A d_Mo_sumUp_0 rfl <| ra_bipush A 7 d_Mo_sumUp_1 (by decide) <| ra_iadd A d_Mo_sumUp_3 <| ra_bipush A 8 d_Mo_sumUp_4 (by decide) <| ?_
  rw [show nI dp + 7 = nI (dp + 7) from nI_add dp 7]
  refine ra_idiv A d_Mo_sumUp_6 (by decide) ?_
  rw [show nI (dp + 7) / 8 = nI ((dp + 7) / 8) from pk_div (d := 8) (by omega) (by decide) (by decide)]
  refine ra_istore (L' := [_, _, _, _, _, _, _, _, _, _]) A d_Mo_sumUp_7 (by decide) rfl <| ra_iconst A 0 d_Mo_sumUp_9 (by decide) <| ra_istore (L' := [_, _, _, _, _, _, _, _, _, _]) A d_Mo_sumUp_10 (by decide) rfl <| ra_iconst A 0 d_Mo_sumUp_12 (by decide) <| ra_istore (L' := [_, _, _, _, _, _, _, _, _, _]) A d_Mo_sumUp_13 (by decide) rfl <| ?_
  refine lp_up (σ := xw_H × Option Value × Option Value) (W := fun k s => xg x (y0 u) 0 0 15 [some (.ref 141), some (.ref 144), some (.int (nI ch)), some (.int (nI dp)), some (.int (nI n)), some (.int (nI ((dp + 7) / 8))), some (.int (nI (mdat ch ((dp + 7) / 8) k sm).length)), some (.int (nI k)), s.2.1, s.2.2] [] s.1) (I := fun k s => fr [146, 147] h s.1 ∧ HM s.1 (mdat ch ((dp + 7) / 8) k sm)) n ?_ ?_ 0 (h, none, none) (by omega) ⟨fr.rfl, by intro j hj; simp [mdat] at hj⟩
  · rintro ⟨g, w8, w9⟩ ⟨hf, hg⟩
    dsimp only at hf hg ⊢
    have hML : (mdat ch ((dp + 7) / 8) n sm).length ≤ 7200 := by
      have := hbig n 0 h3 (by omega)
      rw [mdat_len]
      omega
    generalize hM : mdat ch ((dp + 7) / 8) n sm = M at hg hML
    have hmd : mdsum ch dp n sm = md_all (mfin M) ((mfin M).length / 64) := by unfold mdsum; rw [hM]
    have hz : mpad M.length < 64 := by unfold mpad; omega
    refine ra_iload A d_Mo_sumUp_15 rfl <| ra_iload A d_Mo_sumUp_17 rfl <| ?_
    refine ra_icmp_ge (q := 90) A d_Mo_sumUp_19 (by decide) (fun _ => ?_) (fun cc => absurd (Int32.le_refl _) cc)
    refine ra_ldc2 A k_Mo_222 d_Mo_sumUp_90 <| ra_iload A d_Mo_sumUp_93 rfl <| ra_i2l A d_Mo_sumUp_95 <| ra_lmul A d_Mo_sumUp_96 <| ?_
    rw [nI_l (by omega), show (8 : Int64) * lN M.length = lN (8 * M.length) from lN_mul 8 _]
    refine ra_lstore (L' := [_, _, _, _, _, _, _, _, _, _]) A d_Mo_sumUp_97 (by decide) rfl <| ra_aload_n A d_Mo_sumUp_99 rfl <| ra_getR A f_Mo_164 d_Mo_sumUp_100 (Nat.le_of_ble_eq_true rfl) rfl rfl rfl <| ra_iload A d_Mo_sumUp_103 rfl <| ra_sipush A 128 d_Mo_sumUp_105 (by decide) <| ?_
    refine ra_iastore A d_Mo_sumUp_108 (Nat.le_of_ble_eq_true rfl) rfl (vp_in_nI (by omega) (by decide)) ?_
    rw [nI_clamp (by omega)]
    refine ra_iinc (L' := [_, _, _, _, _, _, _, _, _, _]) A 1 d_Mo_sumUp_109 rfl (by decide) (by decide) rfl <| ?_
    rw [nI_1]
    refine lp_up (σ := xw_H) (W := fun i g => xg x (y0 u) 0 0 112 [some (.ref 141), some (.ref 144), some (.int (nI ch)), some (.int (nI dp)), some (.int (nI n)), some (.int (nI ((dp + 7) / 8))), some (.int (nI (M.length + 1 + i))), some (.long (lN (8 * M.length))), none, w9] [] g) (I := fun i g => fr [146, 147] h g ∧ HM g (M ++ [128] ++ List.replicate i 0)) (mpad M.length) ?_ ?_ 0 _ (by omega) ⟨hf.I (by decide), by simpa using hg.put (o := 128)⟩
    · rintro g ⟨hf, hg⟩
      refine ra_iload A d_Mo_sumUp_112 rfl <| ra_bipush A 64 d_Mo_sumUp_114 (by decide) <| ?_
      refine ra_irem A d_Mo_sumUp_116 (by decide) ?_
      rw [show nI (M.length + 1 + mpad M.length) - nI (M.length + 1 + mpad M.length) / 64 * 64 = nI ((M.length + 1 + mpad M.length) % 64) from pk_rem (d := 64) (by omega) (by decide) (by decide), show (M.length + 1 + mpad M.length) % 64 = 56 by unfold mpad; omega]
      refine ra_bipush A 56 d_Mo_sumUp_117 (by decide) <| ?_
      refine ra_icmp_eq (q := 136) A d_Mo_sumUp_119 (by decide) (fun _ => ?_) (fun cc => absurd (rfl) cc)
      refine ra_iconst A 0 d_Mo_sumUp_136 (by decide) <| ra_istore (L' := [_, _, _, _, _, _, _, _, _, _]) A d_Mo_sumUp_137 (by decide) rfl <| ?_
      generalize hN : M ++ [128] ++ List.replicate (mpad M.length) 0 = N at hg
      have hNl : N.length = M.length + 1 + mpad M.length := by rw [← hN]; simp; omega
      rw [← hNl]
      refine lp_up (σ := xw_H) (W := fun i g => xg x (y0 u) 0 0 139 [some (.ref 141), some (.ref 144), some (.int (nI ch)), some (.int (nI dp)), some (.int (nI n)), some (.int (nI ((dp + 7) / 8))), some (.int (nI (N.length + i))), some (.long (lN (8 * M.length))), none, some (.int (nI i))] [] g) (I := fun i g => fr [146, 147] h g ∧ HM g (N ++ (List.range i).map (dby (lN (8 * M.length))))) 8 ?_ ?_ 0 _ (by omega) ⟨hf, by simpa using hg⟩
      · rintro g ⟨hf, hg⟩
        refine ra_iload A d_Mo_sumUp_139 rfl <| ra_bipush A 8 d_Mo_sumUp_141 (by decide) <| ?_
        refine ra_icmp_ge (q := 175) A d_Mo_sumUp_143 (by decide) (fun _ => ?_) (fun cc => absurd (Int32.le_refl _) cc)
        have hF : N ++ (List.range 8).map (dby (lN (8 * M.length))) = mfin M := by rw [← hN]; rfl
        rw [hF] at hg
        have hFl := mfin_len M
        have i0 : vp_in (0 : Int32) 4 := vp_in_nI (n := 0) (by decide) (by decide)
        have i1 : vp_in (1 : Int32) 4 := vp_in_nI (n := 1) (by decide) (by decide)
        have i2 : vp_in (2 : Int32) 4 := vp_in_nI (n := 2) (by decide) (by decide)
        have i3 : vp_in (3 : Int32) 4 := vp_in_nI (n := 3) (by decide) (by decide)
        refine ra_aload_n A d_Mo_sumUp_175 rfl <| ra_getR A f_Mo_167 d_Mo_sumUp_176 (Nat.le_of_ble_eq_true rfl) rfl rfl rfl <| ra_iconst A 0 d_Mo_sumUp_179 (by decide) <| ra_ldc A k_Mo_226 d_Mo_sumUp_180 <| ?_
        refine ra_iastore A d_Mo_sumUp_182 (Nat.le_of_ble_eq_true rfl) rfl i0 ?_
        refine ra_aload_n A d_Mo_sumUp_183 rfl <| ra_getR A f_Mo_167 d_Mo_sumUp_184 (Nat.le_of_ble_eq_true rfl) rfl rfl rfl <| ra_iconst A 1 d_Mo_sumUp_187 (by decide) <| ra_ldc A k_Mo_227 d_Mo_sumUp_188 <| ?_
        refine ra_iastore A d_Mo_sumUp_190 (Nat.le_of_ble_eq_true rfl) rfl i1 ?_
        refine ra_aload_n A d_Mo_sumUp_191 rfl <| ra_getR A f_Mo_167 d_Mo_sumUp_192 (Nat.le_of_ble_eq_true rfl) rfl rfl rfl <| ra_iconst A 2 d_Mo_sumUp_195 (by decide) <| ra_ldc A k_Mo_228 d_Mo_sumUp_196 <| ?_
        refine ra_iastore A d_Mo_sumUp_198 (Nat.le_of_ble_eq_true rfl) rfl i2 ?_
        refine ra_aload_n A d_Mo_sumUp_199 rfl <| ra_getR A f_Mo_167 d_Mo_sumUp_200 (Nat.le_of_ble_eq_true rfl) rfl rfl rfl <| ra_iconst A 3 d_Mo_sumUp_203 (by decide) <| ra_ldc A k_Mo_229 d_Mo_sumUp_204 <| ?_
        refine ra_iastore A d_Mo_sumUp_206 (Nat.le_of_ble_eq_true rfl) rfl i3 ?_
        refine ra_iconst A 0 d_Mo_sumUp_207 (by decide) <| ra_istore (L' := [_, _, _, _, _, _, _, _, _, _]) A d_Mo_sumUp_208 (by decide) rfl <| ?_
        have h64 : (mfin M).length = 64 * ((mfin M).length / 64) := by
          have : (M.length + 1 + mpad M.length + 8) % 64 = 0 := by unfold mpad; omega
          omega
        rw [show N.length + 8 = (mfin M).length by omega]
        refine lp_up (σ := xw_H) (W := fun b g => xg x (y0 u) 0 0 210 [some (.ref 141), some (.ref 144), some (.int (nI ch)), some (.int (nI dp)), some (.int (nI n)), some (.int (nI ((dp + 7) / 8))), some (.int (nI (mfin M).length)), some (.long (lN (8 * M.length))), none, some (.int (nI (64 * b)))] [] g) (I := fun b g => fr [146, 147] h g ∧ HM g (mfin M) ∧ mo_get g = md_all (mfin M) b) ((mfin M).length / 64) ?_ ?_ 0 _ (by omega) ⟨(((hf.I (by decide)).I (by decide)).I (by decide)).I (by decide), ?_, ?_⟩
        · rintro g ⟨hf, -, e⟩
          refine ra_iload A d_Mo_sumUp_210 rfl <| ra_iload A d_Mo_sumUp_212 rfl <| ?_
          refine ra_icmp_ge (q := 229) A d_Mo_sumUp_214 (by decide) (fun _ => ?_) (fun cc => absurd (nI_le (by omega) (by omega)) cc)
          exact ra_vret A ow d_Mo_sumUp_229 (hX g hf (by rw [e, hmd]))
        · rintro b g hb ⟨hf, hg, e⟩ ih
          refine ra_iload A d_Mo_sumUp_210 rfl <| ra_iload A d_Mo_sumUp_212 rfl <| ?_
          refine ra_icmp_ge (q := 229) A d_Mo_sumUp_214 (by decide) (fun cc => absurd cc (nI_ge (by omega) (by omega))) (fun _ => ?_)
          refine ra_aload_n A d_Mo_sumUp_217 rfl <| ra_iload A d_Mo_sumUp_218 rfl <| ?_
          refine ra_callV (As := [_]) A ok_Mo_sixtyFour l_Mo_230 im_Mo_sixtyFour sl_Mo_sixtyFour d_Mo_sumUp_220 (Nat.le_of_ble_eq_true rfl) rfl rfl rfl (Nat.le_of_ble_eq_true rfl) (xr_of at0 (by decide)) (s_Mo_sixtyFour K (C.fr hf (by decide) (by decide)) hg (by omega) (by omega) (fun g2 f2 e2 => ?_))
          show xg x (y0 u) 0 0 223 _ _ g2
          refine ra_iinc (L' := [_, _, _, _, _, _, _, _, _, _]) A 64 d_Mo_sumUp_223 rfl (by decide) (by decide) rfl <| ra_goto (q := 210) A d_Mo_sumUp_226 (by decide) <| ?_
          rw [show nI (64 * b) + 64 = nI (64 * (b + 1)) from nI_add (64 * b) 64]
          refine ih g2 ⟨hf.trans (f2.mono (by decide)), hg.fr f2 (by decide), ?_⟩
          rw [e2, e]
          rfl
        · exact fun j hj => by
            rw [xI_k (by decide), xI_k (by decide), xI_k (by decide), xI_k (by decide)]
            exact hg j hj
        · unfold mo_get
          simp [xw_I, va_up, upd]
          rfl
      · rintro i g hi ⟨hf, hg⟩ ih
        have hl : (N ++ (List.range i).map (dby (lN (8 * M.length)))).length = N.length + i := by simp
        refine ra_iload A d_Mo_sumUp_139 rfl <| ra_bipush A 8 d_Mo_sumUp_141 (by decide) <| ?_
        refine ra_icmp_ge (q := 175) A d_Mo_sumUp_143 (by decide) (fun cc => absurd cc (nI_ge (b := 8) hi (by decide))) (fun _ => ?_)
        refine ra_aload_n A d_Mo_sumUp_146 rfl <| ra_getR A f_Mo_164 d_Mo_sumUp_147 (Nat.le_of_ble_eq_true rfl) rfl rfl rfl <| ra_iload A d_Mo_sumUp_150 rfl <| ra_lload A d_Mo_sumUp_152 rfl <| ra_bipush A 8 d_Mo_sumUp_154 (by decide) <| ra_iload A d_Mo_sumUp_156 rfl <| ra_imul A d_Mo_sumUp_158 <| ra_lshr A d_Mo_sumUp_159 <| ra_ldc2 A k_Mo_224 d_Mo_sumUp_160 <| ra_land A d_Mo_sumUp_163 <| ra_l2i A d_Mo_sumUp_164 <| ?_
        rw [dby_l]
        refine ra_iastore A d_Mo_sumUp_165 (Nat.le_of_ble_eq_true rfl) rfl (vp_in_nI (by omega) (by decide)) ?_
        rw [nI_clamp (by omega)]
        refine ra_iinc (L' := [_, _, _, _, _, _, _, _, _, _]) A 1 d_Mo_sumUp_166 rfl (by decide) (by decide) rfl <| ra_iinc (L' := [_, _, _, _, _, _, _, _, _, _]) A 1 d_Mo_sumUp_169 rfl (by decide) (by decide) rfl <| ra_goto (q := 139) A d_Mo_sumUp_172 (by decide) <| ?_
        rw [nI_1, nI_1]
        refine ih _ ⟨hf.I (by decide), ?_⟩
        rw [mr_succ, ← List.append_assoc, ← hl]
        exact hg.put
    · rintro i g hi ⟨hf, hg⟩ ih
      have hlen : (M ++ [128] ++ List.replicate i 0).length = M.length + 1 + i := by simp; omega
      refine ra_iload A d_Mo_sumUp_112 rfl <| ra_bipush A 64 d_Mo_sumUp_114 (by decide) <| ?_
      refine ra_irem A d_Mo_sumUp_116 (by decide) ?_
      rw [show nI (M.length + 1 + i) - nI (M.length + 1 + i) / 64 * 64 = nI ((M.length + 1 + i) % 64) from pk_rem (d := 64) (by omega) (by decide) (by decide)]
      have hq : ¬ nI ((M.length + 1 + i) % 64) = 56 := fun q => by
        have := (nI_eq (b := 56) (by omega) (by decide)).mp q
        unfold mpad at hi
        omega
      refine ra_bipush A 56 d_Mo_sumUp_117 (by decide) <| ?_
      refine ra_icmp_eq (q := 136) A d_Mo_sumUp_119 (by decide) (fun cc => absurd cc (hq)) (fun _ => ?_)
      refine ra_aload_n A d_Mo_sumUp_122 rfl <| ra_getR A f_Mo_164 d_Mo_sumUp_123 (Nat.le_of_ble_eq_true rfl) rfl rfl rfl <| ra_iload A d_Mo_sumUp_126 rfl <| ra_iconst A 0 d_Mo_sumUp_128 (by decide) <| ?_
      refine ra_iastore A d_Mo_sumUp_129 (Nat.le_of_ble_eq_true rfl) rfl (vp_in_nI (by omega) (by decide)) ?_
      rw [nI_clamp (by omega)]
      refine ra_iinc (L' := [_, _, _, _, _, _, _, _, _, _]) A 1 d_Mo_sumUp_130 rfl (by decide) (by decide) rfl <| ra_goto (q := 112) A d_Mo_sumUp_133 (by decide) <| ?_
      rw [nI_1]
      refine ih _ ⟨hf.I (by decide), ?_⟩
      rw [List.replicate_succ', ← List.append_assoc, ← hlen]
      exact hg.put
  · rintro k ⟨g, w8, w9⟩ hk ⟨hf, hg⟩ ih
    dsimp only at hf hg ⊢
    refine ra_iload A d_Mo_sumUp_15 rfl <| ra_iload A d_Mo_sumUp_17 rfl <| ?_
    refine ra_icmp_ge (q := 90) A d_Mo_sumUp_19 (by decide) (fun cc => absurd cc (nI_ge hk (by omega))) (fun _ => ?_)
    refine ra_iconst A 0 d_Mo_sumUp_22 (by decide) <| ra_istore (L' := [_, _, _, _, _, _, _, _, _, _]) A d_Mo_sumUp_23 (by decide) rfl <| ?_
    rw [show (mdat ch ((dp + 7) / 8) k sm).length = (mdat ch ((dp + 7) / 8) k sm ++ ((List.range 0).flatMap fun c => (List.range ((dp + 7) / 8)).map (dby (sm c k).toInt64))).length by simp]
    refine lp_up (σ := xw_H × Option Value) (W := fun c s => xg x (y0 u) 0 0 25 [some (.ref 141), some (.ref 144), some (.int (nI ch)), some (.int (nI dp)), some (.int (nI n)), some (.int (nI ((dp + 7) / 8))), some (.int (nI (mdat ch ((dp + 7) / 8) k sm ++ ((List.range c).flatMap fun c => (List.range ((dp + 7) / 8)).map (dby (sm c k).toInt64))).length)), some (.int (nI k)), some (.int (nI c)), s.2] [] s.1) (I := fun c s => fr [146, 147] h s.1 ∧ HM s.1 (mdat ch ((dp + 7) / 8) k sm ++ ((List.range c).flatMap fun c => (List.range ((dp + 7) / 8)).map (dby (sm c k).toInt64)))) ch ?_ ?_ 0 (g, w9) (by omega) ⟨hf, by simpa using hg⟩
    · rintro ⟨g, w9⟩ ⟨hf, hg⟩
      dsimp only at hf hg ⊢
      refine ra_iload A d_Mo_sumUp_25 rfl <| ra_iload_n A d_Mo_sumUp_27 rfl <| ?_
      refine ra_icmp_ge (q := 84) A d_Mo_sumUp_28 (by decide) (fun _ => ?_) (fun cc => absurd (Int32.le_refl _) cc)
      refine ra_iinc (L' := [_, _, _, _, _, _, _, _, _, _]) A 1 d_Mo_sumUp_84 rfl (by decide) (by decide) rfl <| ra_goto (q := 15) A d_Mo_sumUp_87 (by decide) <| ?_
      rw [nI_1, ← mdat_succ]
      rw [← mdat_succ] at hg
      exact ih (g, _, _) ⟨hf, hg⟩
    · rintro c ⟨g, w9⟩ hc ⟨hf, hg⟩ ih2
      dsimp only at hf hg ⊢
      have hb := hbig k c (by omega) (by omega)
      rw [mch_succ, ← List.append_assoc] at ih2
      generalize hM : mdat ch ((dp + 7) / 8) k sm ++ ((List.range c).flatMap fun c => (List.range ((dp + 7) / 8)).map (dby (sm c k).toInt64)) = M at hg ih2 hb
      refine ra_iload A d_Mo_sumUp_25 rfl <| ra_iload_n A d_Mo_sumUp_27 rfl <| ?_
      refine ra_icmp_ge (q := 84) A d_Mo_sumUp_28 (by decide) (fun cc => absurd cc (nI_ge hc (by omega))) (fun _ => ?_)
      refine ra_iconst A 0 d_Mo_sumUp_31 (by decide) <| ra_istore (L' := [_, _, _, _, _, _, _, _, _, _]) A d_Mo_sumUp_32 (by decide) rfl <| ?_
      rw [show M.length = (M ++ (List.range 0).map (dby (sm c k).toInt64)).length by simp]
      refine lp_up (σ := xw_H) (W := fun i g => xg x (y0 u) 0 0 34 [some (.ref 141), some (.ref 144), some (.int (nI ch)), some (.int (nI dp)), some (.int (nI n)), some (.int (nI ((dp + 7) / 8))), some (.int (nI (M ++ (List.range i).map (dby (sm c k).toInt64)).length)), some (.int (nI k)), some (.int (nI c)), some (.int (nI i))] [] g) (I := fun i g => fr [146, 147] h g ∧ HM g (M ++ (List.range i).map (dby (sm c k).toInt64))) ((dp + 7) / 8) ?_ ?_ 0 g (by omega) ⟨hf, by simpa using hg⟩
      · rintro g ⟨hf, hg⟩
        refine ra_iload A d_Mo_sumUp_34 rfl <| ra_iload A d_Mo_sumUp_36 rfl <| ?_
        refine ra_icmp_ge (q := 78) A d_Mo_sumUp_38 (by decide) (fun _ => ?_) (fun cc => absurd (Int32.le_refl _) cc)
        refine ra_iinc (L' := [_, _, _, _, _, _, _, _, _, _]) A 1 d_Mo_sumUp_78 rfl (by decide) (by decide) rfl <| ra_goto (q := 25) A d_Mo_sumUp_81 (by decide) <| ?_
        rw [nI_1]
        exact ih2 (g, _) ⟨hf, hg⟩
      · rintro i g hi ⟨hf, hg⟩ ih3
        have hl : (M ++ (List.range i).map (dby (sm c k).toInt64)).length = M.length + i := by simp
        rw [mr_succ, ← List.append_assoc] at ih3
        generalize hN : M ++ (List.range i).map (dby (sm c k).toInt64) = N at hg ih3 hl
        refine ra_iload A d_Mo_sumUp_34 rfl <| ra_iload A d_Mo_sumUp_36 rfl <| ?_
        refine ra_icmp_ge (q := 78) A d_Mo_sumUp_38 (by decide) (fun cc => absurd cc (nI_ge hi (by omega))) (fun _ => ?_)
        refine ra_aload_n A d_Mo_sumUp_41 rfl <| ra_getR A f_Mo_164 d_Mo_sumUp_42 (Nat.le_of_ble_eq_true rfl) rfl rfl rfl <| ra_iload A d_Mo_sumUp_45 rfl <| ra_aload_n A d_Mo_sumUp_47 rfl <| ra_sipush A 1200 d_Mo_sumUp_48 (by decide) <| ra_iload A d_Mo_sumUp_51 rfl <| ra_imul A d_Mo_sumUp_53 <| ra_iload A d_Mo_sumUp_54 rfl <| ra_iadd A d_Mo_sumUp_56 <| ?_
        rw [show (1200 : Int32) * nI c = nI (1200 * c) from pk_mul 1200 c, nI_add]
        refine ra_iaload A d_Mo_sumUp_57 (Nat.le_of_ble_eq_true rfl) rfl (vp_in_nI (by omega) (by decide)) ?_
        rw [nI_clamp (by omega), (hf 144 (by decide)).1, esm]
        refine ra_bipush A 8 d_Mo_sumUp_58 (by decide) <| ra_iload A d_Mo_sumUp_60 rfl <| ra_imul A d_Mo_sumUp_62 <| ra_ishr A d_Mo_sumUp_63 <| ra_sipush A 255 d_Mo_sumUp_64 (by decide) <| ra_iand A d_Mo_sumUp_67 <| ?_
        rw [← dby_i _ (by omega)]
        refine ra_iastore A d_Mo_sumUp_68 (Nat.le_of_ble_eq_true rfl) rfl (vp_in_nI (by omega) (by decide)) ?_
        rw [nI_clamp (by omega)]
        refine ra_iinc (L' := [_, _, _, _, _, _, _, _, _, _]) A 1 d_Mo_sumUp_69 rfl (by decide) (by decide) rfl <| ra_iinc (L' := [_, _, _, _, _, _, _, _, _, _]) A 1 d_Mo_sumUp_72 rfl (by decide) (by decide) rfl <| ra_goto (q := 34) A d_Mo_sumUp_75 (by decide) <| ?_
        rw [nI_1, nI_1, show N.length + 1 = (N ++ [dby (sm c k).toInt64 i]).length by simp]
        exact ih3 _ ⟨hf.I (by decide), hg.put⟩
theorem s_Mo_sumUp_sound (K : xk_ok u KK) (C : MC h) {ch dp n : Nat} (h1 : ch ≤ 2) (h2 : dp ≤ 24) (h3 : n ≤ 1200)
    (hX : ∀ h', fr [146, 147] h h' → mo_get h' = mdsum ch dp n (fun c i => h.1 153 (1200 * c + i)) → X (.inl none) h' 0 0) : xm_M l (y0 u) KK m_Mo_sumUp [.ref 141, .ref 153, .int (nI ch), .int (nI dp), .int (nI n)] h X := by
  refine xm_of [none, none, none, none, none] (by simp) (Nat.le_of_ble_eq_true rfl) (by decide) (fun x at0 => ?_)
  have A := xa_of at0 K
  have ow := at0.2.2.2.2.1
  generalize hsm : (fun (c i : Nat) => h.1 153 (1200 * c + i)) = sm at hX
  have esm : ∀ c i, h.1 153 (1200 * c + i) = sm c i := fun c i => by rw [← hsm]
  have hbig : ∀ i c, i ≤ 1200 → c ≤ 2 → ((mdat ch ((dp + 7) / 8) i sm) ++ ((List.range c).flatMap fun c => (List.range ((dp + 7) / 8)).map (dby (sm c i).toInt64))).length = i * (ch * ((dp + 7) / 8)) + c * ((dp + 7) / 8) ∧ i * (ch * ((dp + 7) / 8)) ≤ i * 6 ∧ c * ((dp + 7) / 8) ≤ c * 3 := by
    intro i c hi hc
    rw [List.length_append, mdat_len, fm_len _ ((dp + 7) / 8), List.length_range]
    · have q1 : (dp + 7) / 8 ≤ 3 := by omega
      have q2 : ch * ((dp + 7) / 8) ≤ 2 * 3 := Nat.mul_le_mul h1 q1
      exact ⟨rfl, Nat.mul_le_mul_left i q2, Nat.mul_le_mul_left c q1⟩
    · intro c; simp
  refine ra_iload_n A d_Mo_sumUp_0 rfl <| ra_bipush A 7 d_Mo_sumUp_1 (by decide) <| ra_iadd A d_Mo_sumUp_3 <| ra_bipush A 8 d_Mo_sumUp_4 (by decide) <| ?_
  rw [show nI dp + 7 = nI (dp + 7) from nI_add dp 7]
  refine ra_idiv A d_Mo_sumUp_6 (by decide) ?_
  rw [show nI (dp + 7) / 8 = nI ((dp + 7) / 8) from pk_div (d := 8) (by omega) (by decide) (by decide)]
  refine ra_istore (L' := [_, _, _, _, _, _, _, _, _, _]) A d_Mo_sumUp_7 (by decide) rfl <| ra_iconst A 0 d_Mo_sumUp_9 (by decide) <| ra_istore (L' := [_, _, _, _, _, _, _, _, _, _]) A d_Mo_sumUp_10 (by decide) rfl <| ra_iconst A 0 d_Mo_sumUp_12 (by decide) <| ra_istore (L' := [_, _, _, _, _, _, _, _, _, _]) A d_Mo_sumUp_13 (by decide) rfl <| ?_
  refine lp_up (σ := xw_H × Option Value × Option Value) (W := fun k s => xg x (y0 u) 0 0 15 [some (.ref 141), some (.ref 153), some (.int (nI ch)), some (.int (nI dp)), some (.int (nI n)), some (.int (nI ((dp + 7) / 8))), some (.int (nI (mdat ch ((dp + 7) / 8) k sm).length)), some (.int (nI k)), s.2.1, s.2.2] [] s.1) (I := fun k s => fr [146, 147] h s.1 ∧ HM s.1 (mdat ch ((dp + 7) / 8) k sm)) n ?_ ?_ 0 (h, none, none) (by omega) ⟨fr.rfl, by intro j hj; simp [mdat] at hj⟩
  · rintro ⟨g, w8, w9⟩ ⟨hf, hg⟩
    dsimp only at hf hg ⊢
    have hML : (mdat ch ((dp + 7) / 8) n sm).length ≤ 7200 := by
      have := hbig n 0 h3 (by omega)
      rw [mdat_len]
      omega
    generalize hM : mdat ch ((dp + 7) / 8) n sm = M at hg hML
    have hmd : mdsum ch dp n sm = md_all (mfin M) ((mfin M).length / 64) := by unfold mdsum; rw [hM]
    have hz : mpad M.length < 64 := by unfold mpad; omega
    refine ra_iload A d_Mo_sumUp_15 rfl <| ra_iload A d_Mo_sumUp_17 rfl <| ?_
    refine ra_icmp_ge (q := 90) A d_Mo_sumUp_19 (by decide) (fun _ => ?_) (fun cc => absurd (Int32.le_refl _) cc)
    refine ra_ldc2 A k_Mo_222 d_Mo_sumUp_90 <| ra_iload A d_Mo_sumUp_93 rfl <| ra_i2l A d_Mo_sumUp_95 <| ra_lmul A d_Mo_sumUp_96 <| ?_
    rw [nI_l (by omega), show (8 : Int64) * lN M.length = lN (8 * M.length) from lN_mul 8 _]
    refine ra_lstore (L' := [_, _, _, _, _, _, _, _, _, _]) A d_Mo_sumUp_97 (by decide) rfl <| ra_aload_n A d_Mo_sumUp_99 rfl <| ra_getR A f_Mo_164 d_Mo_sumUp_100 (Nat.le_of_ble_eq_true rfl) rfl rfl rfl <| ra_iload A d_Mo_sumUp_103 rfl <| ra_sipush A 128 d_Mo_sumUp_105 (by decide) <| ?_
    refine ra_iastore A d_Mo_sumUp_108 (Nat.le_of_ble_eq_true rfl) rfl (vp_in_nI (by omega) (by decide)) ?_
    rw [nI_clamp (by omega)]
    refine ra_iinc (L' := [_, _, _, _, _, _, _, _, _, _]) A 1 d_Mo_sumUp_109 rfl (by decide) (by decide) rfl <| ?_
    rw [nI_1]
    refine lp_up (σ := xw_H) (W := fun i g => xg x (y0 u) 0 0 112 [some (.ref 141), some (.ref 153), some (.int (nI ch)), some (.int (nI dp)), some (.int (nI n)), some (.int (nI ((dp + 7) / 8))), some (.int (nI (M.length + 1 + i))), some (.long (lN (8 * M.length))), none, w9] [] g) (I := fun i g => fr [146, 147] h g ∧ HM g (M ++ [128] ++ List.replicate i 0)) (mpad M.length) ?_ ?_ 0 _ (by omega) ⟨hf.I (by decide), by simpa using hg.put (o := 128)⟩
    · rintro g ⟨hf, hg⟩
      refine ra_iload A d_Mo_sumUp_112 rfl <| ra_bipush A 64 d_Mo_sumUp_114 (by decide) <| ?_
      refine ra_irem A d_Mo_sumUp_116 (by decide) ?_
      rw [show nI (M.length + 1 + mpad M.length) - nI (M.length + 1 + mpad M.length) / 64 * 64 = nI ((M.length + 1 + mpad M.length) % 64) from pk_rem (d := 64) (by omega) (by decide) (by decide), show (M.length + 1 + mpad M.length) % 64 = 56 by unfold mpad; omega]
      refine ra_bipush A 56 d_Mo_sumUp_117 (by decide) <| ?_
      refine ra_icmp_eq (q := 136) A d_Mo_sumUp_119 (by decide) (fun _ => ?_) (fun cc => absurd (rfl) cc)
      refine ra_iconst A 0 d_Mo_sumUp_136 (by decide) <| ra_istore (L' := [_, _, _, _, _, _, _, _, _, _]) A d_Mo_sumUp_137 (by decide) rfl <| ?_
      generalize hN : M ++ [128] ++ List.replicate (mpad M.length) 0 = N at hg
      have hNl : N.length = M.length + 1 + mpad M.length := by rw [← hN]; simp; omega
      rw [← hNl]
      refine lp_up (σ := xw_H) (W := fun i g => xg x (y0 u) 0 0 139 [some (.ref 141), some (.ref 153), some (.int (nI ch)), some (.int (nI dp)), some (.int (nI n)), some (.int (nI ((dp + 7) / 8))), some (.int (nI (N.length + i))), some (.long (lN (8 * M.length))), none, some (.int (nI i))] [] g) (I := fun i g => fr [146, 147] h g ∧ HM g (N ++ (List.range i).map (dby (lN (8 * M.length))))) 8 ?_ ?_ 0 _ (by omega) ⟨hf, by simpa using hg⟩
      · rintro g ⟨hf, hg⟩
        refine ra_iload A d_Mo_sumUp_139 rfl <| ra_bipush A 8 d_Mo_sumUp_141 (by decide) <| ?_
        refine ra_icmp_ge (q := 175) A d_Mo_sumUp_143 (by decide) (fun _ => ?_) (fun cc => absurd (Int32.le_refl _) cc)
        have hF : N ++ (List.range 8).map (dby (lN (8 * M.length))) = mfin M := by rw [← hN]; rfl
        rw [hF] at hg
        have hFl := mfin_len M
        have i0 : vp_in (0 : Int32) 4 := vp_in_nI (n := 0) (by decide) (by decide)
        have i1 : vp_in (1 : Int32) 4 := vp_in_nI (n := 1) (by decide) (by decide)
        have i2 : vp_in (2 : Int32) 4 := vp_in_nI (n := 2) (by decide) (by decide)
        have i3 : vp_in (3 : Int32) 4 := vp_in_nI (n := 3) (by decide) (by decide)
        refine ra_aload_n A d_Mo_sumUp_175 rfl <| ra_getR A f_Mo_167 d_Mo_sumUp_176 (Nat.le_of_ble_eq_true rfl) rfl rfl rfl <| ra_iconst A 0 d_Mo_sumUp_179 (by decide) <| ra_ldc A k_Mo_226 d_Mo_sumUp_180 <| ?_
        refine ra_iastore A d_Mo_sumUp_182 (Nat.le_of_ble_eq_true rfl) rfl i0 ?_
        refine ra_aload_n A d_Mo_sumUp_183 rfl <| ra_getR A f_Mo_167 d_Mo_sumUp_184 (Nat.le_of_ble_eq_true rfl) rfl rfl rfl <| ra_iconst A 1 d_Mo_sumUp_187 (by decide) <| ra_ldc A k_Mo_227 d_Mo_sumUp_188 <| ?_
        refine ra_iastore A d_Mo_sumUp_190 (Nat.le_of_ble_eq_true rfl) rfl i1 ?_
        refine ra_aload_n A d_Mo_sumUp_191 rfl <| ra_getR A f_Mo_167 d_Mo_sumUp_192 (Nat.le_of_ble_eq_true rfl) rfl rfl rfl <| ra_iconst A 2 d_Mo_sumUp_195 (by decide) <| ra_ldc A k_Mo_228 d_Mo_sumUp_196 <| ?_
        refine ra_iastore A d_Mo_sumUp_198 (Nat.le_of_ble_eq_true rfl) rfl i2 ?_
        refine ra_aload_n A d_Mo_sumUp_199 rfl <| ra_getR A f_Mo_167 d_Mo_sumUp_200 (Nat.le_of_ble_eq_true rfl) rfl rfl rfl <| ra_iconst A 3 d_Mo_sumUp_203 (by decide) <| ra_ldc A k_Mo_229 d_Mo_sumUp_204 <| ?_
        refine ra_iastore A d_Mo_sumUp_206 (Nat.le_of_ble_eq_true rfl) rfl i3 ?_
        refine ra_iconst A 0 d_Mo_sumUp_207 (by decide) <| ra_istore (L' := [_, _, _, _, _, _, _, _, _, _]) A d_Mo_sumUp_208 (by decide) rfl <| ?_
        have h64 : (mfin M).length = 64 * ((mfin M).length / 64) := by
          have : (M.length + 1 + mpad M.length + 8) % 64 = 0 := by unfold mpad; omega
          omega
        rw [show N.length + 8 = (mfin M).length by omega]
        refine lp_up (σ := xw_H) (W := fun b g => xg x (y0 u) 0 0 210 [some (.ref 141), some (.ref 153), some (.int (nI ch)), some (.int (nI dp)), some (.int (nI n)), some (.int (nI ((dp + 7) / 8))), some (.int (nI (mfin M).length)), some (.long (lN (8 * M.length))), none, some (.int (nI (64 * b)))] [] g) (I := fun b g => fr [146, 147] h g ∧ HM g (mfin M) ∧ mo_get g = md_all (mfin M) b) ((mfin M).length / 64) ?_ ?_ 0 _ (by omega) ⟨(((hf.I (by decide)).I (by decide)).I (by decide)).I (by decide), ?_, ?_⟩
        · rintro g ⟨hf, -, e⟩
          refine ra_iload A d_Mo_sumUp_210 rfl <| ra_iload A d_Mo_sumUp_212 rfl <| ?_
          refine ra_icmp_ge (q := 229) A d_Mo_sumUp_214 (by decide) (fun _ => ?_) (fun cc => absurd (nI_le (by omega) (by omega)) cc)
          exact ra_vret A ow d_Mo_sumUp_229 (hX g hf (by rw [e, hmd]))
        · rintro b g hb ⟨hf, hg, e⟩ ih
          refine ra_iload A d_Mo_sumUp_210 rfl <| ra_iload A d_Mo_sumUp_212 rfl <| ?_
          refine ra_icmp_ge (q := 229) A d_Mo_sumUp_214 (by decide) (fun cc => absurd cc (nI_ge (by omega) (by omega))) (fun _ => ?_)
          refine ra_aload_n A d_Mo_sumUp_217 rfl <| ra_iload A d_Mo_sumUp_218 rfl <| ?_
          refine ra_callV (As := [_]) A ok_Mo_sixtyFour l_Mo_230 im_Mo_sixtyFour sl_Mo_sixtyFour d_Mo_sumUp_220 (Nat.le_of_ble_eq_true rfl) rfl rfl rfl (Nat.le_of_ble_eq_true rfl) (xr_of at0 (by decide)) (s_Mo_sixtyFour K (C.fr hf (by decide) (by decide)) hg (by omega) (by omega) (fun g2 f2 e2 => ?_))
          show xg x (y0 u) 0 0 223 _ _ g2
          refine ra_iinc (L' := [_, _, _, _, _, _, _, _, _, _]) A 64 d_Mo_sumUp_223 rfl (by decide) (by decide) rfl <| ra_goto (q := 210) A d_Mo_sumUp_226 (by decide) <| ?_
          rw [show nI (64 * b) + 64 = nI (64 * (b + 1)) from nI_add (64 * b) 64]
          refine ih g2 ⟨hf.trans (f2.mono (by decide)), hg.fr f2 (by decide), ?_⟩
          rw [e2, e]
          rfl
        · exact fun j hj => by
            rw [xI_k (by decide), xI_k (by decide), xI_k (by decide), xI_k (by decide)]
            exact hg j hj
        · unfold mo_get
          simp [xw_I, va_up, upd]
          rfl
      · rintro i g hi ⟨hf, hg⟩ ih
        have hl : (N ++ (List.range i).map (dby (lN (8 * M.length)))).length = N.length + i := by simp
        refine ra_iload A d_Mo_sumUp_139 rfl <| ra_bipush A 8 d_Mo_sumUp_141 (by decide) <| ?_
        refine ra_icmp_ge (q := 175) A d_Mo_sumUp_143 (by decide) (fun cc => absurd cc (nI_ge (b := 8) hi (by decide))) (fun _ => ?_)
        refine ra_aload_n A d_Mo_sumUp_146 rfl <| ra_getR A f_Mo_164 d_Mo_sumUp_147 (Nat.le_of_ble_eq_true rfl) rfl rfl rfl <| ra_iload A d_Mo_sumUp_150 rfl <| ra_lload A d_Mo_sumUp_152 rfl <| ra_bipush A 8 d_Mo_sumUp_154 (by decide) <| ra_iload A d_Mo_sumUp_156 rfl <| ra_imul A d_Mo_sumUp_158 <| ra_lshr A d_Mo_sumUp_159 <| ra_ldc2 A k_Mo_224 d_Mo_sumUp_160 <| ra_land A d_Mo_sumUp_163 <| ra_l2i A d_Mo_sumUp_164 <| ?_
        rw [dby_l]
        refine ra_iastore A d_Mo_sumUp_165 (Nat.le_of_ble_eq_true rfl) rfl (vp_in_nI (by omega) (by decide)) ?_
        rw [nI_clamp (by omega)]
        refine ra_iinc (L' := [_, _, _, _, _, _, _, _, _, _]) A 1 d_Mo_sumUp_166 rfl (by decide) (by decide) rfl <| ra_iinc (L' := [_, _, _, _, _, _, _, _, _, _]) A 1 d_Mo_sumUp_169 rfl (by decide) (by decide) rfl <| ra_goto (q := 139) A d_Mo_sumUp_172 (by decide) <| ?_
        rw [nI_1, nI_1]
        refine ih _ ⟨hf.I (by decide), ?_⟩
        rw [mr_succ, ← List.append_assoc, ← hl]
        exact hg.put
    · rintro i g hi ⟨hf, hg⟩ ih
      have hlen : (M ++ [128] ++ List.replicate i 0).length = M.length + 1 + i := by simp; omega
      refine ra_iload A d_Mo_sumUp_112 rfl <| ra_bipush A 64 d_Mo_sumUp_114 (by decide) <| ?_
      refine ra_irem A d_Mo_sumUp_116 (by decide) ?_
      rw [show nI (M.length + 1 + i) - nI (M.length + 1 + i) / 64 * 64 = nI ((M.length + 1 + i) % 64) from pk_rem (d := 64) (by omega) (by decide) (by decide)]
      have hq : ¬ nI ((M.length + 1 + i) % 64) = 56 := fun q => by
        have := (nI_eq (b := 56) (by omega) (by decide)).mp q
        unfold mpad at hi
        omega
      refine ra_bipush A 56 d_Mo_sumUp_117 (by decide) <| ?_
      refine ra_icmp_eq (q := 136) A d_Mo_sumUp_119 (by decide) (fun cc => absurd cc (hq)) (fun _ => ?_)
      refine ra_aload_n A d_Mo_sumUp_122 rfl <| ra_getR A f_Mo_164 d_Mo_sumUp_123 (Nat.le_of_ble_eq_true rfl) rfl rfl rfl <| ra_iload A d_Mo_sumUp_126 rfl <| ra_iconst A 0 d_Mo_sumUp_128 (by decide) <| ?_
      refine ra_iastore A d_Mo_sumUp_129 (Nat.le_of_ble_eq_true rfl) rfl (vp_in_nI (by omega) (by decide)) ?_
      rw [nI_clamp (by omega)]
      refine ra_iinc (L' := [_, _, _, _, _, _, _, _, _, _]) A 1 d_Mo_sumUp_130 rfl (by decide) (by decide) rfl <| ra_goto (q := 112) A d_Mo_sumUp_133 (by decide) <| ?_
      rw [nI_1]
      refine ih _ ⟨hf.I (by decide), ?_⟩
      rw [List.replicate_succ', ← List.append_assoc, ← hlen]
      exact hg.put
  · rintro k ⟨g, w8, w9⟩ hk ⟨hf, hg⟩ ih
    dsimp only at hf hg ⊢
    refine ra_iload A d_Mo_sumUp_15 rfl <| ra_iload A d_Mo_sumUp_17 rfl <| ?_
    refine ra_icmp_ge (q := 90) A d_Mo_sumUp_19 (by decide) (fun cc => absurd cc (nI_ge hk (by omega))) (fun _ => ?_)
    refine ra_iconst A 0 d_Mo_sumUp_22 (by decide) <| ra_istore (L' := [_, _, _, _, _, _, _, _, _, _]) A d_Mo_sumUp_23 (by decide) rfl <| ?_
    rw [show (mdat ch ((dp + 7) / 8) k sm).length = (mdat ch ((dp + 7) / 8) k sm ++ ((List.range 0).flatMap fun c => (List.range ((dp + 7) / 8)).map (dby (sm c k).toInt64))).length by simp]
    refine lp_up (σ := xw_H × Option Value) (W := fun c s => xg x (y0 u) 0 0 25 [some (.ref 141), some (.ref 153), some (.int (nI ch)), some (.int (nI dp)), some (.int (nI n)), some (.int (nI ((dp + 7) / 8))), some (.int (nI (mdat ch ((dp + 7) / 8) k sm ++ ((List.range c).flatMap fun c => (List.range ((dp + 7) / 8)).map (dby (sm c k).toInt64))).length)), some (.int (nI k)), some (.int (nI c)), s.2] [] s.1) (I := fun c s => fr [146, 147] h s.1 ∧ HM s.1 (mdat ch ((dp + 7) / 8) k sm ++ ((List.range c).flatMap fun c => (List.range ((dp + 7) / 8)).map (dby (sm c k).toInt64)))) ch ?_ ?_ 0 (g, w9) (by omega) ⟨hf, by simpa using hg⟩
    · rintro ⟨g, w9⟩ ⟨hf, hg⟩
      dsimp only at hf hg ⊢
      refine ra_iload A d_Mo_sumUp_25 rfl <| ra_iload_n A d_Mo_sumUp_27 rfl <| ?_
      refine ra_icmp_ge (q := 84) A d_Mo_sumUp_28 (by decide) (fun _ => ?_) (fun cc => absurd (Int32.le_refl _) cc)
      refine ra_iinc (L' := [_, _, _, _, _, _, _, _, _, _]) A 1 d_Mo_sumUp_84 rfl (by decide) (by decide) rfl <| ra_goto (q := 15) A d_Mo_sumUp_87 (by decide) <| ?_
      rw [nI_1, ← mdat_succ]
      rw [← mdat_succ] at hg
      exact ih (g, _, _) ⟨hf, hg⟩
    · rintro c ⟨g, w9⟩ hc ⟨hf, hg⟩ ih2
      dsimp only at hf hg ⊢
      have hb := hbig k c (by omega) (by omega)
      rw [mch_succ, ← List.append_assoc] at ih2
      generalize hM : mdat ch ((dp + 7) / 8) k sm ++ ((List.range c).flatMap fun c => (List.range ((dp + 7) / 8)).map (dby (sm c k).toInt64)) = M at hg ih2 hb
      refine ra_iload A d_Mo_sumUp_25 rfl <| ra_iload_n A d_Mo_sumUp_27 rfl <| ?_
      refine ra_icmp_ge (q := 84) A d_Mo_sumUp_28 (by decide) (fun cc => absurd cc (nI_ge hc (by omega))) (fun _ => ?_)
      refine ra_iconst A 0 d_Mo_sumUp_31 (by decide) <| ra_istore (L' := [_, _, _, _, _, _, _, _, _, _]) A d_Mo_sumUp_32 (by decide) rfl <| ?_
      rw [show M.length = (M ++ (List.range 0).map (dby (sm c k).toInt64)).length by simp]
      refine lp_up (σ := xw_H) (W := fun i g => xg x (y0 u) 0 0 34 [some (.ref 141), some (.ref 153), some (.int (nI ch)), some (.int (nI dp)), some (.int (nI n)), some (.int (nI ((dp + 7) / 8))), some (.int (nI (M ++ (List.range i).map (dby (sm c k).toInt64)).length)), some (.int (nI k)), some (.int (nI c)), some (.int (nI i))] [] g) (I := fun i g => fr [146, 147] h g ∧ HM g (M ++ (List.range i).map (dby (sm c k).toInt64))) ((dp + 7) / 8) ?_ ?_ 0 g (by omega) ⟨hf, by simpa using hg⟩
      · rintro g ⟨hf, hg⟩
        refine ra_iload A d_Mo_sumUp_34 rfl <| ra_iload A d_Mo_sumUp_36 rfl <| ?_
        refine ra_icmp_ge (q := 78) A d_Mo_sumUp_38 (by decide) (fun _ => ?_) (fun cc => absurd (Int32.le_refl _) cc)
        refine ra_iinc (L' := [_, _, _, _, _, _, _, _, _, _]) A 1 d_Mo_sumUp_78 rfl (by decide) (by decide) rfl <| ra_goto (q := 25) A d_Mo_sumUp_81 (by decide) <| ?_
        rw [nI_1]
        exact ih2 (g, _) ⟨hf, hg⟩
      · rintro i g hi ⟨hf, hg⟩ ih3
        have hl : (M ++ (List.range i).map (dby (sm c k).toInt64)).length = M.length + i := by simp
        rw [mr_succ, ← List.append_assoc] at ih3
        generalize hN : M ++ (List.range i).map (dby (sm c k).toInt64) = N at hg ih3 hl
        refine ra_iload A d_Mo_sumUp_34 rfl <| ra_iload A d_Mo_sumUp_36 rfl <| ?_
        refine ra_icmp_ge (q := 78) A d_Mo_sumUp_38 (by decide) (fun cc => absurd cc (nI_ge hi (by omega))) (fun _ => ?_)
        refine ra_aload_n A d_Mo_sumUp_41 rfl <| ra_getR A f_Mo_164 d_Mo_sumUp_42 (Nat.le_of_ble_eq_true rfl) rfl rfl rfl <| ra_iload A d_Mo_sumUp_45 rfl <| ra_aload_n A d_Mo_sumUp_47 rfl <| ra_sipush A 1200 d_Mo_sumUp_48 (by decide) <| ra_iload A d_Mo_sumUp_51 rfl <| ra_imul A d_Mo_sumUp_53 <| ra_iload A d_Mo_sumUp_54 rfl <| ra_iadd A d_Mo_sumUp_56 <| ?_
        rw [show (1200 : Int32) * nI c = nI (1200 * c) from pk_mul 1200 c, nI_add]
        refine ra_iaload A d_Mo_sumUp_57 (Nat.le_of_ble_eq_true rfl) rfl (vp_in_nI (by omega) (by decide)) ?_
        rw [nI_clamp (by omega), (hf 153 (by decide)).1, esm]
        refine ra_bipush A 8 d_Mo_sumUp_58 (by decide) <| ra_iload A d_Mo_sumUp_60 rfl <| ra_imul A d_Mo_sumUp_62 <| ra_ishr A d_Mo_sumUp_63 <| ra_sipush A 255 d_Mo_sumUp_64 (by decide) <| ra_iand A d_Mo_sumUp_67 <| ?_
        rw [← dby_i _ (by omega)]
        refine ra_iastore A d_Mo_sumUp_68 (Nat.le_of_ble_eq_true rfl) rfl (vp_in_nI (by omega) (by decide)) ?_
        rw [nI_clamp (by omega)]
        refine ra_iinc (L' := [_, _, _, _, _, _, _, _, _, _]) A 1 d_Mo_sumUp_69 rfl (by decide) (by decide) rfl <| ra_iinc (L' := [_, _, _, _, _, _, _, _, _, _]) A 1 d_Mo_sumUp_72 rfl (by decide) (by decide) rfl <| ra_goto (q := 34) A d_Mo_sumUp_75 (by decide) <| ?_
        rw [nI_1, nI_1, show N.length + 1 = (N ++ [dby (sm c k).toInt64 i]).length by simp]
        exact ih3 _ ⟨hf.I (by decide), hg.put⟩
end S61
