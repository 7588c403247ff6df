/-! SoundStreamModel: decode -/
theorem ByF_bv {x : Int32} {F : Nat → Bool} {j : Nat} (h : ByF x F j) : x = nI (bv F (8 * j) 8) := by
  obtain ⟨e, he, hx, hb⟩ := h
  have key : ∀ n, n ≤ 8 → bv F (8 * j) n = e / 2 ^ (8 - n) := by
    intro n
    induction n with
    | zero => intro _; rw [bv]; simp; omega
    | succ n ih =>
      intro hn
      have hbn := hb n (by omega)
      have e1 : 8 - n = (8 - (n + 1)) + 1 := by omega
      rw [bv, ih (by omega), ← hbn, show 7 - n = 8 - (n + 1) by omega, e1, Nat.pow_succ, ← Nat.div_div_eq_div_mul]
      generalize hm : 8 - (n + 1) = m
      rw [Nat.testBit_eq_decide_div_mod_eq]
      generalize e / 2 ^ m = q
      have : q % 2 = 0 ∨ q % 2 = 1 := by omega
      rcases this with h2 | h2 <;> rw [h2] <;> simp <;> omega
  rw [hx, key 8 (Nat.le_refl _)]
  simp
abbrev DQ (h h' : xw_H) : Prop := fm [146, 147, 152, 153, 154, 155] [2, 21, 22, 23, 24, 25, 26, 27, 28, 29, 30, 32, 33, 34, 35, 36] true h h'
theorem MC.fm {C T : List Nat} {b : Bool} {h h' : xw_H} (c : MC h) (f : fm C T b h h') (h1 : 142 ∉ C) (h2 : 143 ∉ C) : MC h' :=
  ⟨fun i hi => by rw [(f.1 142 h1 (by decide)).2]; exact c.1 i hi, fun i hi => by rw [(f.1 143 h2 (by decide)).1]; exact c.2 i hi⟩
theorem dec_eq {F : Nat → Bool} {L : Nat} : dec F L = if ¬ (4 ≤ L ∧ bv F 0 8 = 102 ∧ bv F 8 8 = 76 ∧ bv F 16 8 = 97 ∧ bv F 24 8 = 67) then .inl (1, 0) else match dI2 F L with
  | .inl e => .inl e
  | .inr p => match dFr F L 9000 fs0 p with
    | .inl e => .inl e
    | .inr q => dEn F q.1 q.2 := by
  unfold dec dIn
  by_cases c : ¬ (4 ≤ L ∧ bv F 0 8 = 102 ∧ bv F 8 8 = 76 ∧ bv F 16 8 = 97 ∧ bv F 24 8 = 67)
  · rw [if_pos c, if_pos c]
  · rw [if_neg c, if_neg c]
    rfl
section S9m
variable {u : xu_T} {l : Launch} {KK : State → Prop} {h : xw_H} {X : xc_R → xw_H → Nat → Nat → Prop}
theorem s_Mo_decode (K : xk_ok u KK) (C : MC h) {F : Nat → Bool} {L : Nat} {Q : (Nat × Nat) ⊕ FS} (h12 : h.1 141 12 = nI L) (hL : L ≤ 9000) (hF : ∀ q, q < L → ByF (h.1 148 q) F q) (hq : dec F L = Q)
    (hX : ∀ s h', Q = .inr s → DQ h h' → (h'.1 141 2 = 0 ∧ h'.1 141 21 = 1 ∧ h'.1 141 22 = 0 ∧ h'.1 141 23 = -1) → (h'.1 141 33 = nI s.2.1 ∧ h'.1 141 34 = nI s.1 ∧ h'.1 141 32 = bz (smK F) ∧ h'.1 141 26 = nI (iGr F) ∧ h'.1 141 27 = nI (iRa F) ∧ h'.1 141 29 = nI (iDp F)) → h'.1 141 28 = nI (iCh F) → iCh F ≤ 2 → s.2.1 ≤ 1200 → (∀ i, i < s.2.1 → h'.1 153 i = s.2.2.2.2.1 i ∧ (iCh F = 2 → h'.1 153 (1200 + i) = s.2.2.2.2.2 i)) → X (.inl (some (.int (nI s.2.1)))) h' 0 0)
    (hY : ∀ e pl h', Q = .inl (e, pl) → DQ h h' → (h'.1 141 2 = 0 ∧ h'.1 141 21 = 0 ∧ h'.1 141 22 = nI e ∧ h'.1 141 23 = nI pl) → (e ≠ 0 ∧ e < 16) → X (.inl (some (.int (-1)))) h' 0 0) : xm_M l (y0 u) KK m_Mo_decode [.ref 141] h X := by
  refine xm_of [] (by simp) (Nat.le_of_ble_eq_true rfl) (by decide) (fun x at0 => ?_)
  have A := xa_of at0 K
  have ow := at0.2.2.2.2.1
  -- a fault
  have dead213 : ∀ e pl g, Q = .inl (e, pl) → DQ h g → (g.1 141 2 = 0 ∧ g.1 141 21 = 0) → g.1 141 22 = nI e → g.1 141 24 = nI pl → e ≠ 0 → e < 16 → xg x (y0 u) 0 0 213 [some (.ref 141)] [] g := by
    intro e pl g hQ hf hg k22 k24 he he2
    refine ra_aload_n A d_Mo_decode_213 rfl <| ra_getI A f_Mo_386 d_Mo_decode_214 (Nat.le_of_ble_eq_true rfl) rfl rfl <| ?_
    rw [k22]
    refine ra_if_le (q := 230) A d_Mo_decode_217 (by decide) (fun cc => absurd cc (fun z => absurd ((nI_leI (b := 0) (by omega) (by decide)).mp z) (by omega))) (fun _ => ?_)
    refine ra_aload_n A d_Mo_decode_220 rfl <| ra_aload_n A d_Mo_decode_221 rfl <| ra_getI A f_Mo_403 d_Mo_decode_222 (Nat.le_of_ble_eq_true rfl) rfl rfl <| ?_
    rw [k24]
    refine ra_putI (ty := .int) A f_Mo_182 rfl rfl (by decide +kernel) rfl rfl d_Mo_decode_225 (Nat.le_of_ble_eq_true rfl) rfl rfl <| ra_iconst A (-1) d_Mo_decode_228 (by decide) <| ?_
    refine ra_iret A ow d_Mo_decode_229 (hY e pl _ hQ (hf.trans (fm_F (by decide))) ⟨?_, ?_, ?_, xI_e⟩ ⟨he, he2⟩)
    · rw [xI_j (by decide)]; exact hg.1
    · rw [xI_j (by decide)]; exact hg.2
    · rw [xI_j (by decide)]; exact k22
  have dead106 : ∀ e pl g, Q = .inl (e, pl) → DQ h g → (g.1 141 2 = 0 ∧ g.1 141 21 = 0) → g.1 141 22 = nI e → g.1 141 24 = nI pl → e ≠ 0 → e < 16 → xg x (y0 u) 0 0 106 [some (.ref 141)] [] g := by
    intro e pl g hQ hf hg k22 k24 he he2
    have hn : ¬ g.1 141 22 = 0 := by rw [k22]; exact nI_ne0 (by omega) (by omega)
    refine ra_aload_n A d_Mo_decode_106 rfl <| ra_getI A f_Mo_386 d_Mo_decode_107 (Nat.le_of_ble_eq_true rfl) rfl rfl <| ?_
    refine ra_if_ne (q := 137) A d_Mo_decode_110 (by decide) (fun _ => ?_) (fun cc => absurd cc (hn))
    refine ra_aload_n A d_Mo_decode_137 rfl <| ra_getI A f_Mo_386 d_Mo_decode_138 (Nat.le_of_ble_eq_true rfl) rfl rfl <| ?_
    refine ra_if_ne (q := 181) A d_Mo_decode_141 (by decide) (fun _ => ?_) (fun cc => absurd cc (hn))
    refine ra_aload_n A d_Mo_decode_181 rfl <| ra_getI A f_Mo_386 d_Mo_decode_182 (Nat.le_of_ble_eq_true rfl) rfl rfl <| ?_
    refine ra_if_ne (q := 213) A d_Mo_decode_185 (by decide) (fun _ => ?_) (fun cc => absurd cc (hn))
    exact dead213 e pl g hQ hf hg k22 k24 he he2
  -- the end
  have fin : ∀ s p g, iOk F → ¬ p / 8 < L → MF g F L s p → KI g F → s.2.1 ≤ most F → DQ h g → (g.1 141 2 = 0 ∧ g.1 141 21 = 0 ∧ g.1 141 23 = -1) → dEn F s p = Q → xg x (y0 u) 0 0 106 [some (.ref 141)] [] g := by
    clear hq
    intro s p g hok hpL S KI' hmo hf hg hq
    obtain ⟨⟨M, I⟩, ⟨e33, e34⟩, hfr, hrow, hfl, hlen, hp8⟩ := S
    have hp := M.2.2.2.1
    have hKn := hok.2.1.2
    have hCh := hok.2.1.1
    unfold dEn at hq
    refine ra_aload_n A d_Mo_decode_106 rfl <| ra_getI A f_Mo_386 d_Mo_decode_107 (Nat.le_of_ble_eq_true rfl) rfl rfl <| ?_
    refine ra_if_ne (q := 137) A d_Mo_decode_110 (by decide) (fun cc => absurd (M.2.2.1.2) cc) (fun _ => ?_)
    refine ra_aload_n A d_Mo_decode_113 rfl <| ra_getJ A f_Mo_244 d_Mo_decode_114 (Nat.le_of_ble_eq_true rfl) rfl rfl <| ?_
    rw [M.2.2.1.1]
    refine ra_ldc2 A k_Mo_222 d_Mo_decode_117 <| ra_aload_n A d_Mo_decode_120 rfl <| ra_getI A f_Mo_354 d_Mo_decode_121 (Nat.le_of_ble_eq_true rfl) rfl rfl <| ?_
    rw [M.1]
    refine ra_i2l A d_Mo_decode_124 <| ?_
    rw [nI_l (by omega)]
    refine ra_lmul A d_Mo_decode_125 <| ?_
    rw [show (8 : Int64) * lN L = lN (8 * L) from lN_mul 8 L]
    refine ra_lcmp A d_Mo_decode_126 <| ?_
    refine ra_if_ge (q := 137) A d_Mo_decode_127 (by decide) (fun _ => ?_) (fun cc => absurd (lc_ge.mpr ((pk_lLE (by omega) (by omega)).mpr (by omega))) cc)
    refine ra_aload_n A d_Mo_decode_137 rfl <| ra_getI A f_Mo_386 d_Mo_decode_138 (Nat.le_of_ble_eq_true rfl) rfl rfl <| ?_
    refine ra_if_ne (q := 181) A d_Mo_decode_141 (by decide) (fun cc => absurd (M.2.2.1.2) cc) (fun _ => ?_)
    refine ra_aload_n A d_Mo_decode_144 rfl <| ra_aload_n A d_Mo_decode_145 rfl <| ra_getI A f_Mo_354 d_Mo_decode_146 (Nat.le_of_ble_eq_true rfl) rfl rfl <| ?_
    rw [M.1]
    refine ra_putI (ty := .int) A f_Mo_403 rfl rfl (by decide +kernel) rfl rfl d_Mo_decode_149 (Nat.le_of_ble_eq_true rfl) rfl rfl <| ?_
    have pL : p / 8 = L := by omega
    have q22 : (xw_I g 141 24 (nI L)).1 141 22 = 0 := by rw [xI_j (by decide)]; exact M.2.2.1.2
    have q24 : (xw_I g 141 24 (nI L)).1 141 24 = nI (p / 8) := by rw [xI_e, pL]
    have q33 : (xw_I g 141 24 (nI L)).1 141 33 = nI s.2.1 := by rw [xI_j (by decide)]; exact e33
    have q34 : (xw_I g 141 24 (nI L)).1 141 34 = nI s.1 := by rw [xI_j (by decide)]; exact e34
    have qg : (xw_I g 141 24 (nI L)).1 141 2 = 0 ∧ (xw_I g 141 24 (nI L)).1 141 21 = 0 ∧ (xw_I g 141 24 (nI L)).1 141 23 = -1 := by rw [xI_j (by decide), xI_j (by decide), xI_j (by decide)]; exact hg
    have f1 : fm [] [24] false g (xw_I g 141 24 (nI L)) := fm_F (by decide)
    have qK : KI (xw_I g 141 24 (nI L)) F := KI'.fm f1 (by decide) (by decide) (by decide) (by decide) (by decide) (by decide) (by decide) (by decide)
    have qf : DQ h (xw_I g 141 24 (nI L)) := hf.trans (fm_F (by decide))
    have q153 : (xw_I g 141 24 (nI L)).1 153 = g.1 153 := xI_k (by decide)
    generalize xw_I g 141 24 (nI L) = ga at q22 q24 q33 q34 qg qK qf q153 ⊢
    rw [← q153] at hrow
    clear q153 f1
    -- all good
    have good : ∀ gb, DQ h gb → (gb.1 141 2 = 0 ∧ gb.1 141 21 = 0 ∧ gb.1 141 23 = -1) → gb.1 141 22 = 0 → (gb.1 141 33 = nI s.2.1 ∧ gb.1 141 34 = nI s.1) → KI gb F → gb.1 153 = ga.1 153 → ¬ s.2.1 < iKn F → (smS F s || !smK F) = true → xg x (y0 u) 0 0 203 [some (.ref 141)] [.ref 141] gb := by
      intro gb fb hb b22 ⟨b33, b34⟩ bK b153 c1 c2
      rw [if_neg c1, if_pos c2] at hq
      refine ra_iconst A 1 d_Mo_decode_203 (by decide) <| ra_goto (q := 208) A d_Mo_decode_204 (by decide) <| ra_bipush A 15 d_Mo_decode_208 (by decide) <| ?_
      refine ra_callV (As := [_, _]) A ok_Mo_want l_Mo_409 im_Mo_want sl_Mo_want d_Mo_decode_210 (Nat.le_of_ble_eq_true rfl) rfl rfl rfl (Nat.le_of_ble_eq_true rfl) (xr_of at0 (by decide)) (s_Mo_want K (b := true) b22 (fun _ => ?_) (fun q => by cases q))
      show xg x (y0 u) 0 0 213 _ _ gb
      refine ra_aload_n A d_Mo_decode_213 rfl <| ra_getI A f_Mo_386 d_Mo_decode_214 (Nat.le_of_ble_eq_true rfl) rfl rfl <| ?_
      rw [b22]
      refine ra_if_le (q := 230) A d_Mo_decode_217 (by decide) (fun _ => ?_) (fun cc => absurd ((by decide)) cc)
      refine ra_aload_n A d_Mo_decode_230 rfl <| ra_iconst A 1 d_Mo_decode_231 (by decide) <| ra_putI (ty := .boolean) A f_Mo_361 rfl rfl (by decide +kernel) rfl rfl d_Mo_decode_232 (Nat.le_of_ble_eq_true rfl) rfl rfl <| ra_aload_n A d_Mo_decode_235 rfl <| ra_getI A f_Mo_377 d_Mo_decode_236 (Nat.le_of_ble_eq_true rfl) rfl rfl <| ?_
      rw [xI_j (by decide), b33]
      refine ra_iret A ow d_Mo_decode_239 (hX s _ hq.symm (fb.trans (fm_F (by decide))) ⟨?_, xI_e, ?_, ?_⟩ ⟨?_, ?_, ?_, ?_, ?_, ?_⟩ ?_ hCh hlen (fun i hi => ?_))
      · rw [xI_j (by decide)]; exact hb.1
      · rw [xI_j (by decide)]; exact b22
      · rw [xI_j (by decide)]; exact hb.2.2
      · rw [xI_j (by decide)]; exact b33
      · rw [xI_j (by decide)]; exact b34
      · rw [xI_j (by decide)]; exact bK.2.2.1
      · rw [xI_j (by decide)]; exact bK.1.1.2
      · rw [xI_j (by decide)]; exact bK.2.2.2
      · rw [xI_j (by decide)]; exact bK.1.2.2.1
      · rw [xI_j (by decide)]; exact bK.1.2.1
      · rw [xI_k (by decide), b153]; exact hrow i hi
    have at171 : ¬ s.2.1 < iKn F → xg x (y0 u) 0 0 171 [some (.ref 141)] [.ref 141] ga := by
      intro c1
      refine ra_iconst A 1 d_Mo_decode_171 (by decide) <| ra_goto (q := 176) A d_Mo_decode_172 (by decide) <| ra_bipush A 14 d_Mo_decode_176 (by decide) <| ?_
      refine ra_callV (As := [_, _]) A ok_Mo_want l_Mo_409 im_Mo_want sl_Mo_want d_Mo_decode_178 (Nat.le_of_ble_eq_true rfl) rfl rfl rfl (Nat.le_of_ble_eq_true rfl) (xr_of at0 (by decide)) (s_Mo_want K (b := true) q22 (fun _ => ?_) (fun q => by cases q))
      show xg x (y0 u) 0 0 181 _ _ ga
      refine ra_aload_n A d_Mo_decode_181 rfl <| ra_getI A f_Mo_386 d_Mo_decode_182 (Nat.le_of_ble_eq_true rfl) rfl rfl <| ?_
      refine ra_if_ne (q := 213) A d_Mo_decode_185 (by decide) (fun cc => absurd (q22) cc) (fun _ => ?_)
      refine ra_aload_n A d_Mo_decode_188 rfl <| ra_aload_n A d_Mo_decode_189 rfl <| ra_getI A f_Mo_383 d_Mo_decode_190 (Nat.le_of_ble_eq_true rfl) rfl rfl <| ?_
      rw [qK.2.2.1]
      cases hk : smK F
      · refine ra_if_eq (q := 203) A d_Mo_decode_193 (by decide) (fun _ => ?_) (fun cc => absurd (rfl) cc)
        exact good ga qf qg q22 ⟨q33, q34⟩ qK rfl c1 (by rw [hk]; simp)
      · refine ra_if_eq (q := 203) A d_Mo_decode_193 (by decide) (fun cc => absurd cc ((by decide))) (fun _ => ?_)
        refine ra_aload_n A d_Mo_decode_196 rfl <| ?_
        refine ra_callV (As := []) A ok_Mo_isSum l_Mo_469 im_Mo_isSum sl_Mo_isSum d_Mo_decode_197 (Nat.le_of_ble_eq_true rfl) rfl rfl rfl (Nat.le_of_ble_eq_true rfl) (xr_of at0 (by decide)) (s_Mo_isSum K (C.fm qf (by decide) (by decide)) (F := F) (ch := iCh F) (dp := iDp F) (n := s.2.1) hCh hok.2.2.2 hlen qK.1.2.1 qK.1.2.2.1 q33 qK.2.1 (fun gb fb => ?_))
        show xg x (y0 u) 0 0 200 _ _ gb
        have fb' : fm [146, 147] [] false ga gb := fm_fr fb (by decide)
        have hS : smQ F (mdsum (iCh F) (iDp F) s.2.1 (fun c i => ga.1 153 (1200 * c + i))) 16 = smS F s := by
          rw [smQ_S]
          unfold smS sml
          rw [mdsum_congr (sm' := fun c i => if c = 0 then s.2.2.2.2.1 i else s.2.2.2.2.2 i)]
          intro c hc i hi
          have hr := hrow i hi
          have hc2 : c = 0 ∨ c = 1 := by omega
          rcases hc2 with rfl | rfl
          · rw [if_pos rfl, show 1200 * 0 + i = i by omega]; exact hr.1
          · rw [if_neg (by decide), show 1200 * 1 + i = 1200 + i by omega]; exact hr.2 (by omega)
        rw [hS]
        have fq : DQ h gb := qf.trans (fb'.mono (by decide) (by decide) (fun q => by cases q))
        have b22 : gb.1 141 22 = 0 := by rw [fb'.2.1 22 (by decide)]; exact q22
        have b24 : gb.1 141 24 = nI (p / 8) := by rw [fb'.2.1 24 (by decide)]; exact q24
        have b33 : gb.1 141 33 = nI s.2.1 := by rw [fb'.2.1 33 (by decide)]; exact q33
        have bg : gb.1 141 2 = 0 ∧ gb.1 141 21 = 0 ∧ gb.1 141 23 = -1 := by rw [fb'.2.1 2 (by decide), fb'.2.1 21 (by decide), fb'.2.1 23 (by decide)]; exact qg
        cases hs : smS F s
        · refine ra_if_eq (q := 207) A d_Mo_decode_200 (by decide) (fun _ => ?_) (fun cc => absurd (rfl) cc)
          rw [if_neg c1, if_neg (by rw [hs, hk]; decide)] at hq
          refine ra_iconst A 0 d_Mo_decode_207 (by decide) <| ra_bipush A 15 d_Mo_decode_208 (by decide) <| ?_
          refine ra_callV (As := [_, _]) A ok_Mo_want l_Mo_409 im_Mo_want sl_Mo_want d_Mo_decode_210 (Nat.le_of_ble_eq_true rfl) rfl rfl rfl (Nat.le_of_ble_eq_true rfl) (xr_of at0 (by decide)) (s_Mo_want K (b := false) b22 (fun q => by cases q) (fun _ => ?_))
          show xg x (y0 u) 0 0 213 _ _ _
          exact dead213 15 (p / 8) _ hq.symm (fq.trans (fm_F (by decide))) ⟨by rw [xI_j (by decide)]; exact bg.1, by rw [xI_j (by decide)]; exact bg.2.1⟩ xI_e (by rw [xI_j (by decide)]; exact b24) (by decide) (by decide)
        · refine ra_if_eq (q := 207) A d_Mo_decode_200 (by decide) (fun cc => absurd cc ((by decide))) (fun _ => ?_)
          exact good gb fq bg b22 ⟨b33, by rw [fb'.2.1 34 (by decide)]; exact q34⟩ (qK.fm fb' (by decide) (by decide) (by decide) (by decide) (by decide) (by decide) (by decide) (by decide)) (fmk fb' (by decide) (by decide)) c1 (by rw [hs]; rfl)
    refine ra_aload_n A d_Mo_decode_152 rfl <| ra_aload_n A d_Mo_decode_153 rfl <| ra_getI A f_Mo_406 d_Mo_decode_154 (Nat.le_of_ble_eq_true rfl) rfl rfl <| ?_
    rw [qK.1.2.2.2]
    by_cases k0 : iKn F = 0
    · refine ra_if_eq (q := 171) A d_Mo_decode_157 (by decide) (fun _ => ?_) (fun cc => absurd ((by rw [k0]; rfl)) cc)
      exact at171 (by omega)
    · refine ra_if_eq (q := 171) A d_Mo_decode_157 (by decide) (fun cc => absurd cc (nI_ne0 (by omega) (by omega))) (fun _ => ?_)
      refine ra_aload_n A d_Mo_decode_160 rfl <| ra_getI A f_Mo_377 d_Mo_decode_161 (Nat.le_of_ble_eq_true rfl) rfl rfl <| ?_
      rw [q33]
      refine ra_aload_n A d_Mo_decode_164 rfl <| ra_getI A f_Mo_406 d_Mo_decode_165 (Nat.le_of_ble_eq_true rfl) rfl rfl <| ?_
      rw [qK.1.2.2.2]
      unfold most at hmo
      rw [if_neg k0] at hmo
      by_cases c1 : s.2.1 = iKn F
      · refine ra_icmp_ne (q := 175) A d_Mo_decode_168 (by decide) (fun cc => absurd ((by rw [c1])) cc) (fun _ => ?_)
        exact at171 (by omega)
      · refine ra_icmp_ne (q := 175) A d_Mo_decode_168 (by decide) (fun _ => ?_) (fun cc => absurd cc (fun z => c1 ((nI_eq (by omega) (by omega)).mp z)))
        rw [if_pos (by omega)] at hq
        refine ra_iconst A 0 d_Mo_decode_175 (by decide) <| ra_bipush A 14 d_Mo_decode_176 (by decide) <| ?_
        refine ra_callV (As := [_, _]) A ok_Mo_want l_Mo_409 im_Mo_want sl_Mo_want d_Mo_decode_178 (Nat.le_of_ble_eq_true rfl) rfl rfl rfl (Nat.le_of_ble_eq_true rfl) (xr_of at0 (by decide)) (s_Mo_want K (b := false) q22 (fun q => by cases q) (fun _ => ?_))
        show xg x (y0 u) 0 0 181 _ _ _
        refine ra_aload_n A d_Mo_decode_181 rfl <| ra_getI A f_Mo_386 d_Mo_decode_182 (Nat.le_of_ble_eq_true rfl) rfl rfl <| ?_
        refine ra_if_ne (q := 213) A d_Mo_decode_185 (by decide) (fun _ => ?_) (fun cc => absurd cc ((by rw [xI_e]; decide)))
        exact dead213 14 (p / 8) _ hq.symm (qf.trans (fm_F (by decide))) ⟨by rw [xI_j (by decide)]; exact qg.1, by rw [xI_j (by decide)]; exact qg.2.1⟩ xI_e (by rw [xI_j (by decide)]; exact q24) (by decide) (by decide)
  -- the frames
  have loop : ∀ n s p g, iOk F → L ≤ p / 8 + n → MF g F L s p → KI g F → s.2.1 ≤ most F → DQ h g → (g.1 141 2 = 0 ∧ g.1 141 21 = 0 ∧ g.1 141 23 = -1) → (match dFr F L n s p with | .inl e => .inl e | .inr q => dEn F q.1 q.2) = Q → xg x (y0 u) 0 0 106 [some (.ref 141)] [] g := by
    clear hq
    intro n
    induction n with
    | zero =>
      intro s p g hok hn S KI' hmo hf hg hq
      exact fin s p g hok (by omega) S KI' hmo hf hg hq
    | succ n ih =>
      intro s p g hok hn S KI' hmo hf hg hq
      rw [dFr] at hq
      by_cases c : p / 8 < L
      · rw [if_pos c] at hq
        have M := S.1.1
        have hp := M.2.2.2.1
        refine ra_aload_n A d_Mo_decode_106 rfl <| ra_getI A f_Mo_386 d_Mo_decode_107 (Nat.le_of_ble_eq_true rfl) rfl rfl <| ?_
        refine ra_if_ne (q := 137) A d_Mo_decode_110 (by decide) (fun cc => absurd (M.2.2.1.2) cc) (fun _ => ?_)
        refine ra_aload_n A d_Mo_decode_113 rfl <| ra_getJ A f_Mo_244 d_Mo_decode_114 (Nat.le_of_ble_eq_true rfl) rfl rfl <| ?_
        rw [M.2.2.1.1]
        refine ra_ldc2 A k_Mo_222 d_Mo_decode_117 <| ra_aload_n A d_Mo_decode_120 rfl <| ra_getI A f_Mo_354 d_Mo_decode_121 (Nat.le_of_ble_eq_true rfl) rfl rfl <| ?_
        rw [M.1]
        refine ra_i2l A d_Mo_decode_124 <| ?_
        rw [nI_l (by omega)]
        refine ra_lmul A d_Mo_decode_125 <| ?_
        rw [show (8 : Int64) * lN L = lN (8 * L) from lN_mul 8 L]
        refine ra_lcmp A d_Mo_decode_126 <| ?_
        refine ra_if_ge (q := 137) A d_Mo_decode_127 (by decide) (fun cc => absurd cc (fun z => absurd ((pk_lLE (by omega) (by omega)).mp (lc_ge.mp z)) (by omega))) (fun _ => ?_)
        refine ra_aload_n A d_Mo_decode_130 rfl <| ?_
        refine ra_callV (As := []) A ok_Mo_oneFrame l_Mo_466 im_Mo_oneFrame sl_Mo_oneFrame d_Mo_decode_131 (Nat.le_of_ble_eq_true rfl) rfl rfl rfl (Nat.le_of_ble_eq_true rfl) (xr_of at0 (by decide)) (s_Mo_oneFrame K S hok rfl (fun s' p' g1 e1 f1 S1 => ?_) (fun e p' g1 e1 f1 M1 he h24 => ?_))
        · show xg x (y0 u) 0 0 134 _ _ g1
          rw [e1] at hq
          have hle := rFr_len e1
          refine ra_goto (q := 106) A d_Mo_decode_134 (by decide) <| ?_
          exact ih s' p' g1 hok (by omega) S1 (KI'.fm f1 (by decide) (by decide) (by decide) (by decide) (by decide) (by decide) (by decide) (by decide)) hle.1 (hf.trans (f1.mono (by decide) (by decide) (fun q => q))) (by rw [f1.2.1 2 (by decide), f1.2.1 21 (by decide), f1.2.1 23 (by decide)]; exact hg) hq
        · show xg x (y0 u) 0 0 134 _ _ g1
          rw [e1] at hq
          refine ra_goto (q := 106) A d_Mo_decode_134 (by decide) <| ?_
          exact dead106 e (p / 8) g1 hq.symm (hf.trans (f1.mono (by decide) (by decide) (fun q => q))) ⟨by rw [f1.2.1 2 (by decide)]; exact hg.1, by rw [f1.2.1 21 (by decide)]; exact hg.2.1⟩ M1.2.2.1.2 h24 he M1.2.2.2.2.2
      · rw [if_neg c] at hq
        exact fin s p g hok c S KI' hmo hf hg hq
  -- the start
  rw [dec_eq] at hq
  have hB : ∀ q, q < L → h.1 148 q = nI (bv F (8 * q) 8) := fun q hq => ByF_bv (hF q hq)
  refine ra_aload_n A d_Mo_decode_0 rfl <| ra_iconst A 0 d_Mo_decode_1 (by decide) <| ra_putI (ty := .int) A f_Mo_197 rfl rfl (by decide +kernel) rfl rfl d_Mo_decode_2 (Nat.le_of_ble_eq_true rfl) rfl rfl <| ra_aload_n A d_Mo_decode_5 rfl <| ra_iconst A 0 d_Mo_decode_6 (by decide) <| ra_putI (ty := .boolean) A f_Mo_361 rfl rfl (by decide +kernel) rfl rfl d_Mo_decode_7 (Nat.le_of_ble_eq_true rfl) rfl rfl <| ra_aload_n A d_Mo_decode_10 rfl <| ra_iconst A 0 d_Mo_decode_11 (by decide) <| ra_putI (ty := .int) A f_Mo_386 rfl rfl (by decide +kernel) rfl rfl d_Mo_decode_12 (Nat.le_of_ble_eq_true rfl) rfl rfl <| ra_aload_n A d_Mo_decode_15 rfl <| ra_iconst A (-1) d_Mo_decode_16 (by decide) <| ra_putI (ty := .int) A f_Mo_182 rfl rfl (by decide +kernel) rfl rfl d_Mo_decode_17 (Nat.le_of_ble_eq_true rfl) rfl rfl <| ra_aload_n A d_Mo_decode_20 rfl <| ra_iconst A 0 d_Mo_decode_21 (by decide) <| ra_putI (ty := .int) A f_Mo_377 rfl rfl (by decide +kernel) rfl rfl d_Mo_decode_22 (Nat.le_of_ble_eq_true rfl) rfl rfl <| ra_aload_n A d_Mo_decode_25 rfl <| ra_iconst A 0 d_Mo_decode_26 (by decide) <| ra_putI (ty := .int) A f_Mo_380 rfl rfl (by decide +kernel) rfl rfl d_Mo_decode_27 (Nat.le_of_ble_eq_true rfl) rfl rfl <| ra_aload_n A d_Mo_decode_30 rfl <| ra_ldc2 A k_Mo_461 d_Mo_decode_31 <| ra_putJ A f_Mo_244 rfl rfl (by decide +kernel) d_Mo_decode_34 (Nat.le_of_ble_eq_true rfl) rfl rfl <| ra_aload_n A d_Mo_decode_37 rfl <| ra_iconst A 0 d_Mo_decode_38 (by decide) <| ra_putI (ty := .int) A f_Mo_403 rfl rfl (by decide +kernel) rfl rfl d_Mo_decode_39 (Nat.le_of_ble_eq_true rfl) rfl rfl <| ?_
  have fa : DQ h (xw_I (xw_J (xw_I (xw_I (xw_I (xw_I (xw_I (xw_I h 141 2 0) 141 21 0) 141 22 0) 141 23 (-1)) 141 33 0) 141 34 0) 141 13 32) 141 24 0) := (((((((fm_F (by decide)).trans (fm_F (by decide))).trans (fm_F (by decide))).trans (fm_F (by decide))).trans (fm_F (by decide))).trans (fm_F (by decide))).trans fm_J).trans (fm_F (by decide))
  have a2 : (xw_I (xw_J (xw_I (xw_I (xw_I (xw_I (xw_I (xw_I h 141 2 0) 141 21 0) 141 22 0) 141 23 (-1)) 141 33 0) 141 34 0) 141 13 32) 141 24 0).1 141 2 = 0 := by rw [xI_j (by decide), xJ_1, xI_j (by decide), xI_j (by decide), xI_j (by decide), xI_j (by decide), xI_j (by decide), xI_e]
  have a21 : (xw_I (xw_J (xw_I (xw_I (xw_I (xw_I (xw_I (xw_I h 141 2 0) 141 21 0) 141 22 0) 141 23 (-1)) 141 33 0) 141 34 0) 141 13 32) 141 24 0).1 141 21 = 0 := by rw [xI_j (by decide), xJ_1, xI_j (by decide), xI_j (by decide), xI_j (by decide), xI_j (by decide), xI_e]
  have a22 : (xw_I (xw_J (xw_I (xw_I (xw_I (xw_I (xw_I (xw_I h 141 2 0) 141 21 0) 141 22 0) 141 23 (-1)) 141 33 0) 141 34 0) 141 13 32) 141 24 0).1 141 22 = 0 := by rw [xI_j (by decide), xJ_1, xI_j (by decide), xI_j (by decide), xI_j (by decide), xI_e]
  have a23 : (xw_I (xw_J (xw_I (xw_I (xw_I (xw_I (xw_I (xw_I h 141 2 0) 141 21 0) 141 22 0) 141 23 (-1)) 141 33 0) 141 34 0) 141 13 32) 141 24 0).1 141 23 = -1 := by rw [xI_j (by decide), xJ_1, xI_j (by decide), xI_j (by decide), xI_e]
  have a33 : (xw_I (xw_J (xw_I (xw_I (xw_I (xw_I (xw_I (xw_I h 141 2 0) 141 21 0) 141 22 0) 141 23 (-1)) 141 33 0) 141 34 0) 141 13 32) 141 24 0).1 141 33 = 0 := by rw [xI_j (by decide), xJ_1, xI_j (by decide), xI_e]
  have a34 : (xw_I (xw_J (xw_I (xw_I (xw_I (xw_I (xw_I (xw_I h 141 2 0) 141 21 0) 141 22 0) 141 23 (-1)) 141 33 0) 141 34 0) 141 13 32) 141 24 0).1 141 34 = 0 := by rw [xI_j (by decide), xJ_1, xI_e]
  have a24 : (xw_I (xw_J (xw_I (xw_I (xw_I (xw_I (xw_I (xw_I h 141 2 0) 141 21 0) 141 22 0) 141 23 (-1)) 141 33 0) 141 34 0) 141 13 32) 141 24 0).1 141 24 = 0 := xI_e
  have a12 : (xw_I (xw_J (xw_I (xw_I (xw_I (xw_I (xw_I (xw_I h 141 2 0) 141 21 0) 141 22 0) 141 23 (-1)) 141 33 0) 141 34 0) 141 13 32) 141 24 0).1 141 12 = nI L := by rw [xI_j (by decide), xJ_1, xI_j (by decide), xI_j (by decide), xI_j (by decide), xI_j (by decide), xI_j (by decide), xI_j (by decide)]; exact h12
  have a13 : (xw_I (xw_J (xw_I (xw_I (xw_I (xw_I (xw_I (xw_I h 141 2 0) 141 21 0) 141 22 0) 141 23 (-1)) 141 33 0) 141 34 0) 141 13 32) 141 24 0).2 141 13 = lN 32 := by rw [xI_2, xJ_e]; rfl
  have a148 : (xw_I (xw_J (xw_I (xw_I (xw_I (xw_I (xw_I (xw_I h 141 2 0) 141 21 0) 141 22 0) 141 23 (-1)) 141 33 0) 141 34 0) 141 13 32) 141 24 0).1 148 = h.1 148 := fmk fa (by decide) (by decide)
  generalize xw_I (xw_J (xw_I (xw_I (xw_I (xw_I (xw_I (xw_I h 141 2 0) 141 21 0) 141 22 0) 141 23 (-1)) 141 33 0) 141 34 0) 141 13 32) 141 24 0 = ga at fa a2 a21 a22 a23 a33 a34 a24 a12 a13 a148 ⊢
  have bad1 : ¬ (4 ≤ L ∧ bv F 0 8 = 102 ∧ bv F 8 8 = 76 ∧ bv F 16 8 = 97 ∧ bv F 24 8 = 67) → xg x (y0 u) 0 0 94 [some (.ref 141)] [] ga := by
    intro c
    rw [if_pos c] at hq
    refine ra_aload_n A d_Mo_decode_94 rfl <| ra_iconst A 1 d_Mo_decode_95 (by decide) <| ra_putI (ty := .int) A f_Mo_386 rfl rfl (by decide +kernel) rfl rfl d_Mo_decode_96 (Nat.le_of_ble_eq_true rfl) rfl rfl <| ra_goto (q := 106) A d_Mo_decode_99 (by decide) <| ?_
    exact dead106 1 0 _ hq.symm (fa.trans (fm_F (by decide))) ⟨by rw [xI_j (by decide)]; exact a2, by rw [xI_j (by decide)]; exact a21⟩ xI_e (by rw [xI_j (by decide)]; exact a24) (by decide) (by decide)
  refine ra_aload_n A d_Mo_decode_42 rfl <| ra_getI A f_Mo_354 d_Mo_decode_43 (Nat.le_of_ble_eq_true rfl) rfl rfl <| ?_
  rw [a12]
  refine ra_iconst A 4 d_Mo_decode_46 (by decide) <| ?_
  by_cases c4 : ¬ 4 ≤ L
  · refine ra_icmp_lt (q := 94) A d_Mo_decode_47 (by decide) (fun _ => ?_) (fun cc => absurd (nI_lt (b := 4) (by omega) (by decide)) cc)
    exact bad1 (fun z => c4 z.1)
  have c4 := Decidable.not_not.mp c4
  refine ra_icmp_lt (q := 94) A d_Mo_decode_47 (by decide) (fun cc => absurd cc (fun z => absurd ((nI_ltI (b := 4) (by omega) (by decide)).mp z) (by omega))) (fun _ => ?_)
  have l0 := bv_lt (F := F) (p := 0) 8
  have l1 := bv_lt (F := F) (p := 8) 8
  have l2 := bv_lt (F := F) (p := 16) 8
  have l3 := bv_lt (F := F) (p := 24) 8
  refine ra_aload_n A d_Mo_decode_50 rfl <| ra_getR A f_Mo_170 d_Mo_decode_51 (Nat.le_of_ble_eq_true rfl) rfl rfl rfl <| ra_iconst A 0 d_Mo_decode_54 (by decide) <| ?_
  refine ra_iaload A d_Mo_decode_55 (Nat.le_of_ble_eq_true rfl) rfl (vp_in_nI (n := 0) (by decide) (by decide)) ?_
  rw [a148, show h.1 148 (Int32.toNatClampNeg 0) = nI (bv F 0 8) from hB 0 (by omega)]
  refine ra_bipush A 102 d_Mo_decode_56 (by decide) <| ?_
  by_cases d0 : ¬ bv F 0 8 = 102
  · refine ra_icmp_ne (q := 94) A d_Mo_decode_58 (by decide) (fun _ => ?_) (fun cc => absurd cc (fun z => d0 ((nI_eq (b := 102) (by omega) (by decide)).mp z)))
    exact bad1 (fun z => d0 z.2.1)
  have d0 := Decidable.not_not.mp d0
  refine ra_icmp_ne (q := 94) A d_Mo_decode_58 (by decide) (fun cc => absurd ((by rw [d0]; rfl)) cc) (fun _ => ?_)
  refine ra_aload_n A d_Mo_decode_61 rfl <| ra_getR A f_Mo_170 d_Mo_decode_62 (Nat.le_of_ble_eq_true rfl) rfl rfl rfl <| ra_iconst A 1 d_Mo_decode_65 (by decide) <| ?_
  refine ra_iaload A d_Mo_decode_66 (Nat.le_of_ble_eq_true rfl) rfl (vp_in_nI (n := 1) (by decide) (by decide)) ?_
  rw [a148, show h.1 148 (Int32.toNatClampNeg 1) = nI (bv F 8 8) from hB 1 (by omega)]
  refine ra_bipush A 76 d_Mo_decode_67 (by decide) <| ?_
  by_cases d1 : ¬ bv F 8 8 = 76
  · refine ra_icmp_ne (q := 94) A d_Mo_decode_69 (by decide) (fun _ => ?_) (fun cc => absurd cc (fun z => d1 ((nI_eq (b := 76) (by omega) (by decide)).mp z)))
    exact bad1 (fun z => d1 z.2.2.1)
  have d1 := Decidable.not_not.mp d1
  refine ra_icmp_ne (q := 94) A d_Mo_decode_69 (by decide) (fun cc => absurd ((by rw [d1]; rfl)) cc) (fun _ => ?_)
  refine ra_aload_n A d_Mo_decode_72 rfl <| ra_getR A f_Mo_170 d_Mo_decode_73 (Nat.le_of_ble_eq_true rfl) rfl rfl rfl <| ra_iconst A 2 d_Mo_decode_76 (by decide) <| ?_
  refine ra_iaload A d_Mo_decode_77 (Nat.le_of_ble_eq_true rfl) rfl (vp_in_nI (n := 2) (by decide) (by decide)) ?_
  rw [a148, show h.1 148 (Int32.toNatClampNeg 2) = nI (bv F 16 8) from hB 2 (by omega)]
  refine ra_bipush A 97 d_Mo_decode_78 (by decide) <| ?_
  by_cases d2 : ¬ bv F 16 8 = 97
  · refine ra_icmp_ne (q := 94) A d_Mo_decode_80 (by decide) (fun _ => ?_) (fun cc => absurd cc (fun z => d2 ((nI_eq (b := 97) (by omega) (by decide)).mp z)))
    exact bad1 (fun z => d2 z.2.2.2.1)
  have d2 := Decidable.not_not.mp d2
  refine ra_icmp_ne (q := 94) A d_Mo_decode_80 (by decide) (fun cc => absurd ((by rw [d2]; rfl)) cc) (fun _ => ?_)
  refine ra_aload_n A d_Mo_decode_83 rfl <| ra_getR A f_Mo_170 d_Mo_decode_84 (Nat.le_of_ble_eq_true rfl) rfl rfl rfl <| ra_iconst A 3 d_Mo_decode_87 (by decide) <| ?_
  refine ra_iaload A d_Mo_decode_88 (Nat.le_of_ble_eq_true rfl) rfl (vp_in_nI (n := 3) (by decide) (by decide)) ?_
  rw [a148, show h.1 148 (Int32.toNatClampNeg 3) = nI (bv F 24 8) from hB 3 (by omega)]
  refine ra_bipush A 67 d_Mo_decode_89 (by decide) <| ?_
  by_cases d3 : ¬ bv F 24 8 = 67
  · refine ra_icmp_eq (q := 102) A d_Mo_decode_91 (by decide) (fun cc => absurd cc (fun z => d3 ((nI_eq (b := 67) (by omega) (by decide)).mp z))) (fun _ => ?_)
    exact bad1 (fun z => d3 z.2.2.2.2)
  have d3 := Decidable.not_not.mp d3
  refine ra_icmp_eq (q := 102) A d_Mo_decode_91 (by decide) (fun _ => ?_) (fun cc => absurd ((by rw [d3]; rfl)) cc)
  rw [if_neg (fun z => z ⟨c4, d0, d1, d2, d3⟩)] at hq
  refine ra_aload_n A d_Mo_decode_102 rfl <| ?_
  have Ma : MR ga F L 0 32 := ⟨a12, fun q hq => by rw [a148]; exact hF q hq, ⟨a13, a22⟩, by omega, hL, by decide⟩
  refine ra_callV (As := []) A ok_Mo_blocks l_Mo_463 im_Mo_blocks sl_Mo_blocks d_Mo_decode_103 (Nat.le_of_ble_eq_true rfl) rfl rfl rfl (Nat.le_of_ble_eq_true rfl) (xr_of at0 (by decide)) (s_Mo_blocks K Ma rfl (fun p' g1 e1 f1 M1 hp8 hok K1 => ?_) (fun e pl p' g1 e1 f1 M1 he h24 => ?_))
  · show xg x (y0 u) 0 0 106 _ _ g1
    rw [e1] at hq
    refine loop 9000 fs0 p' g1 hok (by omega) ⟨⟨M1, K1.1⟩, ⟨?_, ?_⟩, fun z => absurd rfl z, fun i hi => absurd hi (Nat.not_lt_zero _), Nat.le_refl _, Nat.zero_le _, hp8⟩ K1 (Nat.zero_le _) (fa.trans (f1.mono (by decide) (by decide) (fun q => q))) ?_ hq
    · rw [f1.2.1 33 (by decide)]; exact a33
    · rw [f1.2.1 34 (by decide)]; exact a34
    · rw [f1.2.1 2 (by decide), f1.2.1 21 (by decide), f1.2.1 23 (by decide)]; exact ⟨a2, a21, a23⟩
  · show xg x (y0 u) 0 0 106 _ _ g1
    rw [e1] at hq
    exact dead106 e pl g1 hq.symm (fa.trans (f1.mono (by decide) (by decide) (fun q => q))) ⟨by rw [f1.2.1 2 (by decide)]; exact a2, by rw [f1.2.1 21 (by decide)]; exact a21⟩ M1.2.2.1.2 h24 he M1.2.2.2.2.2
end S9m
