/-! SoundStream$Decoder: readHead -/
/-- the decoder between frames -/
def DS (h : xw_H) (F : Nat → Bool) (s : FS) : Prop := (h.1 132 11 = nI s.1 ∧ (s.1 ≠ 0 → h.1 132 12 = nI s.2.2.1) ∧ h.1 132 14 = nI s.2.2.2.1 ∧ h.1 140 0 = nI s.2.1 ∧ (iCh F = 2 → h.1 140 1 = nI s.2.1) ∧ (iCh F ≠ 2 → h.1 140 1 = 0)) ∧ (∀ i, i < s.2.1 → h.1 138 i = s.2.2.2.2.1 i) ∧ (iCh F = 2 → ∀ i, i < s.2.1 → h.1 139 i = s.2.2.2.2.2 i)
def most (F : Nat → Bool) : Nat := if iKn F = 0 then 1200 else iKn F
theorem most_le {F : Nat → Bool} (hok : iOk F) : most F ≤ 1200 := by
  have := hok.2.1.2
  unfold most
  split <;> omega
theorem rHd_ok {F : Nat → Bool} {L frames len way last p c size w p' : Nat} (h : rHd F L frames len way last p = .inr ((c, size, w), p')) : c < 16 ∧ suC (iCh F) c = true ∧ suS F frames len w last size = true ∧ w < 2 := by
  unfold rHd at h
  cases e1 : rB F L 16 p with
  | inl e => rw [e1, rb_l] at h; cases h
  | inr q =>
    rw [e1, rb_r] at h
    split at h
    · cases e2 : rB F L 16 q.2 with
      | inl e => rw [e2, rb_l] at h; cases h
      | inr q2 =>
        rw [e2, rb_r] at h
        split at h
        · rename_i c5
          cases e3 : rNum F L (if q.1 % 2 = 0 then frames else len) q2.2 with
          | inl e => rw [e3, rb_l] at h; cases h
          | inr q3 =>
            rw [e3, rb_r] at h
            cases e4 : rSz F L (q2.1 / 4096) q3.2 with
            | inl e => rw [e4, rb_l] at h; cases h
            | inr q4 =>
              rw [e4, rb_r] at h
              cases e5 : (if 12 ≤ q2.1 / 256 % 16 then rB F L (if q2.1 / 256 % 16 = 12 then 8 else 16) q4.2 else .inr (0, q4.2)) with
              | inl e => rw [e5, rb_l] at h; cases h
              | inr q5 =>
                rw [e5, rb_r] at h
                split at h
                · rename_i c7
                  have e := Sum.inr.inj h
                  have e1 := congrArg (fun z => z.1.1) e
                  have e2 := congrArg (fun z => z.1.2.1) e
                  have e3 := congrArg (fun z => z.1.2.2) e
                  dsimp only at e1 e2 e3
                  subst e1 e2 e3
                  exact ⟨Nat.mod_lt _ (by decide), c5.1.2.2, c7, Nat.mod_lt _ (by decide)⟩
                · cases h
        · cases h
    · cases h
section S99c
variable {u : xu_T} {l : Launch} {h : xw_H} {X : xc_R → xw_H → Nat → Nat → Prop}
theorem s_De_readHead (hl : l.stackTraces = false) {F : Nat → Bool} {L p : Nat} {s : FS} {Q : Rr (Nat × Nat × Nat)} (R : RD h F L p) (hok : iOk F) (hI : IN h F) (hS : DS h F s) (hfr : s.1 ≤ s.2.1) (hlen : s.2.1 ≤ most F) (hla : s.2.2.2.1 < 2 ^ 17) (hwy : s.2.2.1 < 2) (hq : rHd F L s.1 s.2.1 s.2.2.1 s.2.2.2.1 p = Q)
    (hX : ∀ c size w p' h', Q = .inr ((c, size, w), p') → HD h h' → RD h' F L p' → h'.1 132 12 = nI w → h'.1 132 13 = nI c → h'.1 132 14 = nI size → 1 ≤ size → size < 2 ^ 17 → X (.inl none) h' 0 0) (hY : ∀ e h', Q = .inl e → ER h h' e → X (.inr ISE) h' 1 6) : xm_M l (y0 u) (KK0 u) m_De_readHead [.ref 132] h X := by
  refine xm_of [none, none, none, none, none, none] (by simp) (Nat.le_of_ble_eq_true rfl) (by decide) (fun x at0 => ?_)
  have A := xa_of at0 (KK0_ok u)
  have K := KK0_ok u
  have ow := at0.2.2.2.2.1
  have hlx : (xg_l x).stackTraces = false := by rw [at0.2.2.2.2.2.1]; exact hl
  have i0 : vp_in (0 : Int32) 2 := vp_in_nI (n := 0) (by decide) (by decide)
  obtain ⟨frames, len, way, last, s0, s1⟩ := s
  obtain ⟨⟨d11, d12, d14, d40, d41⟩, -, -⟩ := hS
  dsimp only at d11 d12 d14 d40 d41 hq hfr hlen hla hwy
  have hmost := most_le hok
  have out : ∀ {g g' : xw_H} {e pc : Nat} {LL : List (Option Value)}, Q = .inl e → HD h g → ER g g' e → xgT x (y0 u) (0 + 1) (0 + 6) pc LL ISE g' := fun q f E => xgT_out ow at0.2.2.2.2.2.2.2.2.2.2 (hY _ _ q (f.er E))
  unfold rHd at hq
  refine ra_aload_n A d_De_readHead_0 rfl <| ra_getR A f_De_24 d_De_readHead_1 (Nat.le_of_ble_eq_true rfl) rfl rfl rfl <| ra_bipush A 16 d_De_readHead_4 (by decide) <| ?_
  refine ra_callV (As := [_]) A ok_Rd_bits l_De_96 im_Rd_bits sl_Rd_bits d_De_readHead_6 (Nat.le_of_ble_eq_true rfl) rfl rfl rfl (Nat.le_of_ble_eq_true rfl) (xr_of at0 (by decide)) (s_Rd_bits hlx (n := 16) R (by decide) rfl (fun lead p1 g1 e1 f1 R1 hlead => ?_) (fun e g1 e1 E => xgT_out ow at0.2.2.2.2.2.2.2.2.2.2 (hY e g1 (by rw [← hq, e1, rb_l]) E)))
  show xg x (y0 u) 0 0 9 _ _ g1
  rw [e1, rb_r] at hq
  have lm : nI lead &&& 1 = nI (lead % 2) := pk_andN (k := 1) (by omega) (by decide)
  have h1 := f1.hd
  refine ra_istore_n (L' := [_, _, _, _, _, _, _]) A d_De_readHead_9 (by decide) rfl <| ra_aload_n A d_De_readHead_10 rfl <| ra_getI A f_De_54 d_De_readHead_11 (Nat.le_of_ble_eq_true rfl) rfl rfl <| ?_
  rw [h1.2.2.1 11 (by decide) (by decide) (by decide), d11]
  have at32 : ∀ b : Bool, b = decide (frames = 0 ∨ way = lead % 2) → ∀ w3 w4 w5 w6, xg x (y0 u) 0 0 32 [some (.ref 132), some (.int (nI lead)), none, w3, w4, w5, w6] [.int (bz b)] g1 := by
    intro b hb w3 w4 w5 w6
    refine ra_istore_n (L' := [_, _, _, _, _, _, _]) A d_De_readHead_32 (by decide) rfl <| ra_aload_n A d_De_readHead_33 rfl <| ra_getR A f_De_24 d_De_readHead_34 (Nat.le_of_ble_eq_true rfl) rfl rfl rfl <| ra_iload_n A d_De_readHead_37 rfl <| ra_iconst A 1 d_De_readHead_38 (by decide) <| ra_ishr A d_De_readHead_39 <| ?_
    rw [pk_shrN (k := 1) (by omega) _ (by decide), show lead / 2 ^ 1 = lead / 2 from rfl]
    refine ra_sipush A 32764 d_De_readHead_40 (by decide) <| ?_
    have no : ¬ (lead / 2 = 32764 ∧ (frames = 0 ∨ way = lead % 2)) → xg x (y0 u) 0 0 54 [some (.ref 132), some (.int (nI lead)), some (.int (bz b)), w3, w4, w5, w6] [.ref 133] g1 := by
      intro c
      rw [if_neg c] at hq
      refine ra_iconst A 0 d_De_readHead_54 (by decide) <| ra_iconst A 4 d_De_readHead_55 (by decide) <| ?_
      refine ra_callV (As := [_, _]) A ok_Rd_demand l_De_92 im_Rd_demand sl_Rd_demand d_De_readHead_56 (Nat.le_of_ble_eq_true rfl) rfl rfl rfl (Nat.le_of_ble_eq_true rfl) (xr_of at0 (by decide)) (s_Rd_demand hlx (c := false) (e := 4) (fun q => by cases q) (fun _ => out hq.symm h1 ER_I))
    by_cases c1 : lead / 2 = 32764
    · refine ra_icmp_ne (q := 54) A d_De_readHead_43 (by decide) (fun cc => absurd ((by rw [c1]; rfl)) cc) (fun _ => ?_)
      refine ra_iload_n A d_De_readHead_46 rfl <| ?_
      by_cases c2 : frames = 0 ∨ way = lead % 2
      · rw [decide_eq_true c2] at hb
        subst hb
        rw [if_pos ⟨c1, c2⟩] at hq
        refine ra_if_eq (q := 54) A d_De_readHead_47 (by decide) (fun cc => absurd cc ((by decide))) (fun _ => ?_)
        refine ra_iconst A 1 d_De_readHead_50 (by decide) <| ra_goto (q := 55) A d_De_readHead_51 (by decide) <| ra_iconst A 4 d_De_readHead_55 (by decide) <| ?_
        refine ra_callV (As := [_, _]) A ok_Rd_demand l_De_92 im_Rd_demand sl_Rd_demand d_De_readHead_56 (Nat.le_of_ble_eq_true rfl) rfl rfl rfl (Nat.le_of_ble_eq_true rfl) (xr_of at0 (by decide)) (s_Rd_demand hlx (c := true) (e := 4) (fun _ => ?_) (fun q => by cases q))
        show xg x (y0 u) 0 0 59 _ _ g1
        refine ra_aload_n A d_De_readHead_59 rfl <| ra_iload_n A d_De_readHead_60 rfl <| ra_iconst A 1 d_De_readHead_61 (by decide) <| ra_iand A d_De_readHead_62 <| ?_
        rw [lm]
        refine ra_putI (ty := .int) A f_De_164 rfl rfl (by decide +kernel) rfl rfl d_De_readHead_63 (Nat.le_of_ble_eq_true rfl) rfl rfl <| ?_
        have h2 := h1.trans (HD_I (h := g1) (j := 12) (v := nI (lead % 2)) (by decide))
        have R2 : RD (xw_I g1 132 12 (nI (lead % 2))) F L p1 := RD_I R1 (by decide) (by decide) (by decide)
        have w2 : (xw_I g1 132 12 (nI (lead % 2))).1 132 12 = nI (lead % 2) := xI_e
        have z2 : (xw_I g1 132 12 (nI (lead % 2))).1 132 14 = nI last := by rw [xI_j (by decide), f1.1 132 (by decide)]; exact d14
        generalize xw_I g1 132 12 (nI (lead % 2)) = g2 at h2 R2 w2 z2 ⊢
        refine ra_aload_n A d_De_readHead_66 rfl <| ra_getR A f_De_24 d_De_readHead_67 (Nat.le_of_ble_eq_true rfl) rfl rfl rfl <| ra_bipush A 16 d_De_readHead_70 (by decide) <| ?_
        refine ra_callV (As := [_]) A ok_Rd_bits l_De_96 im_Rd_bits sl_Rd_bits d_De_readHead_72 (Nat.le_of_ble_eq_true rfl) rfl rfl rfl (Nat.le_of_ble_eq_true rfl) (xr_of at0 (by decide)) (s_Rd_bits hlx (n := 16) R2 (by decide) rfl (fun g p3 g3 e3 f3 R3 hg => ?_) (fun e g3 e3 E => out (by rw [← hq, e3, rb_l]) h2 E))
        show xg x (y0 u) 0 0 75 _ _ g3
        rw [e3, rb_r] at hq
        have h3 := h2.trans f3.hd
        refine ra_istore_n (L' := [_, _, _, _, _, _, _]) A d_De_readHead_75 (by decide) rfl <| ra_iload_n A d_De_readHead_76 rfl <| ra_bipush A 12 d_De_readHead_77 (by decide) <| ra_ishr A d_De_readHead_79 <| ?_
        rw [pk_shrN (k := 12) (by omega) _ (by decide), show g / 2 ^ 12 = g / 4096 from rfl]
        refine ra_istore (L' := [_, _, _, _, _, _, _]) A d_De_readHead_80 (by decide) rfl <| ra_iload_n A d_De_readHead_82 rfl <| ra_bipush A 8 d_De_readHead_83 (by decide) <| ra_ishr A d_De_readHead_85 <| ?_
        rw [pk_shrN (k := 8) (by omega) _ (by decide), show g / 2 ^ 8 = g / 256 from rfl]
        refine ra_bipush A 15 d_De_readHead_86 (by decide) <| ra_iand A d_De_readHead_88 <| ?_
        rw [pk_andN (k := 4) (by omega) (by decide), show g / 256 % 2 ^ 4 = g / 256 % 16 from rfl]
        refine ra_istore (L' := [_, _, _, _, _, _, _]) A d_De_readHead_89 (by decide) rfl <| ra_aload_n A d_De_readHead_91 rfl <| ra_iload_n A d_De_readHead_92 rfl <| ra_iconst A 4 d_De_readHead_93 (by decide) <| ra_ishr A d_De_readHead_94 <| ?_
        rw [pk_shrN (k := 4) (by omega) _ (by decide), show g / 2 ^ 4 = g / 16 from rfl]
        refine ra_bipush A 15 d_De_readHead_95 (by decide) <| ra_iand A d_De_readHead_97 <| ?_
        rw [pk_andN (k := 4) (by omega) (by decide), show g / 16 % 2 ^ 4 = g / 16 % 16 from rfl]
        refine ra_putI (ty := .int) A f_De_147 rfl rfl (by decide +kernel) rfl rfl d_De_readHead_98 (Nat.le_of_ble_eq_true rfl) rfl rfl <| ?_
        have h4 := h3.trans (HD_I (h := g3) (j := 13) (v := nI (g / 16 % 16)) (by decide))
        have R4 : RD (xw_I g3 132 13 (nI (g / 16 % 16))) F L p3 := RD_I R3 (by decide) (by decide) (by decide)
        have c4 : (xw_I g3 132 13 (nI (g / 16 % 16))).1 132 13 = nI (g / 16 % 16) := xI_e
        have w4' : (xw_I g3 132 13 (nI (g / 16 % 16))).1 132 12 = nI (lead % 2) := by rw [xI_j (by decide), f3.1 132 (by decide)]; exact w2
        have z4 : (xw_I g3 132 13 (nI (g / 16 % 16))).1 132 14 = nI last := by rw [xI_j (by decide), f3.1 132 (by decide)]; exact z2
        generalize xw_I g3 132 13 (nI (g / 16 % 16)) = g4 at h4 R4 c4 w4' z4 ⊢
        clear h1 h2 h3 R1 R2 R3 f3 w2 z2
        have n136 : ∀ {g' : xw_H}, HD h g' → g'.1 136 = h.1 136 := fun f => fr1 f.1 (by decide)
        have n140 : ∀ {g' : xw_H}, HD h g' → g'.1 140 = h.1 140 := fun f => fr1 f.1 (by decide)
        have no5 : ¬ ((g / 4096 ≠ 0 ∧ g / 256 % 16 ≠ 15 ∧ suC (iCh F) (g / 16 % 16) = true) ∧ suD (iDp F) (g / 2 % 8) = true ∧ g % 2 = 0) → ∀ {pc : Nat} {LL : List (Option Value)}, xgT x (y0 u) (0 + 1) (0 + 6) pc LL ISE (xw_I g4 133 2 (nI 5)) := by
          intro c pc LL
          rw [if_neg c] at hq
          exact out hq.symm h4 ER_I
        have no5a : ¬ (g / 4096 ≠ 0 ∧ g / 256 % 16 ≠ 15 ∧ suC (iCh F) (g / 16 % 16) = true) → xg x (y0 u) 0 0 128 [some (.ref 132), some (.int (nI lead)), some (.int (bz true)), some (.int (nI g)), some (.int (nI (g / 4096))), some (.int (nI (g / 256 % 16))), w6] [.ref 133] g4 := by
          intro c
          refine ra_iconst A 0 d_De_readHead_128 (by decide) <| ra_iconst A 5 d_De_readHead_129 (by decide) <| ?_
          refine ra_callV (As := [_, _]) A ok_Rd_demand l_De_92 im_Rd_demand sl_Rd_demand d_De_readHead_130 (Nat.le_of_ble_eq_true rfl) rfl rfl rfl (Nat.le_of_ble_eq_true rfl) (xr_of at0 (by decide)) (s_Rd_demand hlx (c := false) (e := 5) (fun q => by cases q) (fun _ => no5 (fun z => c z.1)))
        have no5b : ¬ (suD (iDp F) (g / 2 % 8) = true ∧ g % 2 = 0) → xg x (y0 u) 0 0 160 [some (.ref 132), some (.int (nI lead)), some (.int (bz true)), some (.int (nI g)), some (.int (nI (g / 4096))), some (.int (nI (g / 256 % 16))), w6] [.ref 133] g4 := by
          intro c
          refine ra_iconst A 0 d_De_readHead_160 (by decide) <| ra_iconst A 5 d_De_readHead_161 (by decide) <| ?_
          refine ra_callV (As := [_, _]) A ok_Rd_demand l_De_92 im_Rd_demand sl_Rd_demand d_De_readHead_162 (Nat.le_of_ble_eq_true rfl) rfl rfl rfl (Nat.le_of_ble_eq_true rfl) (xr_of at0 (by decide)) (s_Rd_demand hlx (c := false) (e := 5) (fun q => by cases q) (fun _ => no5 (fun z => c z.2)))
        refine ra_aload_n A d_De_readHead_101 rfl <| ra_getR A f_De_24 d_De_readHead_102 (Nat.le_of_ble_eq_true rfl) rfl rfl rfl <| ra_iload A d_De_readHead_105 rfl <| ?_
        by_cases cb : g / 4096 = 0
        · refine ra_if_eq (q := 128) A d_De_readHead_107 (by decide) (fun _ => ?_) (fun cc => absurd ((by rw [cb]; rfl)) cc)
          exact no5a (fun z => z.1 cb)
        refine ra_if_eq (q := 128) A d_De_readHead_107 (by decide) (fun cc => absurd cc (nI_ne0 (by omega) (by omega))) (fun _ => ?_)
        refine ra_iload A d_De_readHead_110 rfl <| ra_bipush A 15 d_De_readHead_112 (by decide) <| ?_
        by_cases cr : g / 256 % 16 = 15
        · refine ra_icmp_eq (q := 128) A d_De_readHead_114 (by decide) (fun _ => ?_) (fun cc => absurd ((by rw [cr]; rfl)) cc)
          exact no5a (fun z => z.2.1 cr)
        refine ra_icmp_eq (q := 128) A d_De_readHead_114 (by decide) (fun cc => absurd cc (fun z => cr ((nI_eq (b := 15) (by omega) (by decide)).mp z))) (fun _ => ?_)
        refine ra_aload_n A d_De_readHead_117 rfl <| ?_
        refine ra_callV (As := []) A ok_De_suitsChannels l_De_167 im_De_suitsChannels sl_De_suitsChannels d_De_readHead_118 (Nat.le_of_ble_eq_true rfl) rfl rfl rfl (Nat.le_of_ble_eq_true rfl) (xr_of at0 (by decide)) (s_De_suitsChannels K (C := iCh F) (Nat.mod_lt _ (by decide)) (by unfold iCh; omega) hok.2.1.1 c4 (by rw [n136 h4]; exact hI.2.1) ?_)
        show xg x (y0 u) 0 0 121 _ _ g4
        cases cC : suC (iCh F) (g / 16 % 16)
        · refine ra_if_eq (q := 128) A d_De_readHead_121 (by decide) (fun _ => ?_) (fun cc => absurd (rfl) cc)
          exact no5a (fun z => by rw [cC] at z; exact absurd z.2.2 (by decide))
        refine ra_if_eq (q := 128) A d_De_readHead_121 (by decide) (fun cc => absurd cc ((by decide))) (fun _ => ?_)
        refine ra_iconst A 1 d_De_readHead_124 (by decide) <| ra_goto (q := 129) A d_De_readHead_125 (by decide) <| ra_iconst A 5 d_De_readHead_129 (by decide) <| ?_
        refine ra_callV (As := [_, _]) A ok_Rd_demand l_De_92 im_Rd_demand sl_Rd_demand d_De_readHead_130 (Nat.le_of_ble_eq_true rfl) rfl rfl rfl (Nat.le_of_ble_eq_true rfl) (xr_of at0 (by decide)) (s_Rd_demand hlx (c := true) (e := 5) (fun _ => ?_) (fun q => by cases q))
        show xg x (y0 u) 0 0 133 _ _ g4
        refine ra_aload_n A d_De_readHead_133 rfl <| ra_getR A f_De_24 d_De_readHead_134 (Nat.le_of_ble_eq_true rfl) rfl rfl rfl <| ra_aload_n A d_De_readHead_137 rfl <| ra_iload_n A d_De_readHead_138 rfl <| ra_iconst A 1 d_De_readHead_139 (by decide) <| ra_ishr A d_De_readHead_140 <| ?_
        rw [pk_shrN (k := 1) (by omega) _ (by decide), show g / 2 ^ 1 = g / 2 from rfl]
        refine ra_bipush A 7 d_De_readHead_141 (by decide) <| ra_iand A d_De_readHead_143 <| ?_
        rw [pk_andN (k := 3) (by omega) (by decide), show g / 2 % 2 ^ 3 = g / 2 % 8 from rfl]
        refine ra_callV (As := [_]) A ok_De_suitsDepth l_De_170 im_De_suitsDepth sl_De_suitsDepth d_De_readHead_144 (Nat.le_of_ble_eq_true rfl) rfl rfl rfl (Nat.le_of_ble_eq_true rfl) (xr_of at0 (by decide)) (s_De_suitsDepth (D := iDp F) (Nat.mod_lt _ (by decide)) (by rw [n136 h4]; exact hI.2.2.1) ?_)
        show xg x (y0 u) 0 0 147 _ _ g4
        cases cD : suD (iDp F) (g / 2 % 8)
        · refine ra_if_eq (q := 160) A d_De_readHead_147 (by decide) (fun _ => ?_) (fun cc => absurd (rfl) cc)
          exact no5b (fun z => by rw [cD] at z; exact absurd z.1 (by decide))
        refine ra_if_eq (q := 160) A d_De_readHead_147 (by decide) (fun cc => absurd cc ((by decide))) (fun _ => ?_)
        refine ra_iload_n A d_De_readHead_150 rfl <| ra_iconst A 1 d_De_readHead_151 (by decide) <| ra_iand A d_De_readHead_152 <| ?_
        rw [pk_andN (k := 1) (by omega) (by decide), show g % 2 ^ 1 = g % 2 from rfl]
        by_cases cg : ¬ g % 2 = 0
        · refine ra_if_ne (q := 160) A d_De_readHead_153 (by decide) (fun _ => ?_) (fun cc => absurd cc (nI_ne0 (by omega) (by omega)))
          exact no5b (fun z => cg z.2)
        have cg := Decidable.not_not.mp cg
        refine ra_if_ne (q := 160) A d_De_readHead_153 (by decide) (fun cc => absurd ((by rw [cg]; rfl)) cc) (fun _ => ?_)
        rw [if_pos ⟨⟨cb, cr, cC⟩, cD, cg⟩] at hq
        refine ra_iconst A 1 d_De_readHead_156 (by decide) <| ra_goto (q := 161) A d_De_readHead_157 (by decide) <| ra_iconst A 5 d_De_readHead_161 (by decide) <| ?_
        refine ra_callV (As := [_, _]) A ok_Rd_demand l_De_92 im_Rd_demand sl_Rd_demand d_De_readHead_162 (Nat.le_of_ble_eq_true rfl) rfl rfl rfl (Nat.le_of_ble_eq_true rfl) (xr_of at0 (by decide)) (s_Rd_demand hlx (c := true) (e := 5) (fun _ => ?_) (fun q => by cases q))
        show xg x (y0 u) 0 0 165 _ _ g4
        clear no5 no5a no5b
        have hl2 : lead % 2 < 2 := Nat.mod_lt _ (by decide)
        have hnum : (if lead % 2 = 0 then frames else len) < 2048 := by split <;> omega
        generalize hnn : (if lead % 2 = 0 then frames else len) = num at hq hnum
        refine ra_aload_n A d_De_readHead_165 rfl <| ra_aload_n A d_De_readHead_166 rfl <| ra_getI A f_De_164 d_De_readHead_167 (Nat.le_of_ble_eq_true rfl) rfl rfl <| ?_
        rw [w4']
        have at189 : xg x (y0 u) 0 0 189 [some (.ref 132), some (.int (nI lead)), some (.int (bz true)), some (.int (nI g)), some (.int (nI (g / 4096))), some (.int (nI (g / 256 % 16))), w6] [.int (nI num), .ref 132] g4 := by
          refine ra_callV (As := [_]) A ok_De_readNumber l_De_174 im_De_readNumber sl_De_readNumber d_De_readHead_189 (Nat.le_of_ble_eq_true rfl) rfl rfl rfl (Nat.le_of_ble_eq_true rfl) (xr_of at0 (by decide)) (s_De_readNumber hlx R4 hnum rfl (fun p5 g5 e5 f5 R5 => ?_) (fun e g5 e5 E => out (by rw [← hq, e5, rb_l]) h4 E))
          show xg x (y0 u) 0 0 192 _ _ g5
          rw [e5, rb_r] at hq
          have h5 := h4.trans f5.hd
          refine ra_aload_n A d_De_readHead_192 rfl <| ra_getI A f_De_58 d_De_readHead_193 (Nat.le_of_ble_eq_true rfl) rfl rfl <| ?_
          rw [f5.1 132 (by decide), z4]
          refine ra_istore (L' := [_, _, _, _, _, _, _]) A d_De_readHead_196 (by decide) rfl <| ra_aload_n A d_De_readHead_198 rfl <| ra_aload_n A d_De_readHead_199 rfl <| ra_iload A d_De_readHead_200 rfl <| ?_
          refine ra_callV (As := [_]) A ok_De_readSize l_De_177 im_De_readSize sl_De_readSize d_De_readHead_202 (Nat.le_of_ble_eq_true rfl) rfl rfl rfl (Nat.le_of_ble_eq_true rfl) (xr_of at0 (by decide)) (s_De_readSize hlx R5 (by omega) (by omega) rfl (fun size p6 g6 e6 f6 R6 hz1 hz2 => ?_) (fun e g6 e6 E => out (by rw [← hq, e6, rb_l]) h5 E))
          show xg x (y0 u) 0 0 205 _ _ g6
          rw [e6, rb_r] at hq
          refine ra_putI (ty := .int) A f_De_58 rfl rfl (by decide +kernel) rfl rfl d_De_readHead_205 (Nat.le_of_ble_eq_true rfl) rfl rfl <| ?_
          have h7 := (h5.trans f6.hd).trans (HD_I (h := g6) (j := 14) (v := nI size) (by decide))
          have R7 : RD (xw_I g6 132 14 (nI size)) F L p6 := RD_I R6 (by decide) (by decide) (by decide)
          have z7 : (xw_I g6 132 14 (nI size)).1 132 14 = nI size := xI_e
          have c7 : (xw_I g6 132 14 (nI size)).1 132 13 = nI (g / 16 % 16) := by rw [xI_j (by decide), f6.1 132 (by decide), f5.1 132 (by decide)]; exact c4
          have w7 : (xw_I g6 132 14 (nI size)).1 132 12 = nI (lead % 2) := by rw [xI_j (by decide), f6.1 132 (by decide), f5.1 132 (by decide)]; exact w4'
          generalize xw_I g6 132 14 (nI size) = g7 at h7 R7 z7 c7 w7 ⊢
          have at237 : ∀ g8 p8, RM1 g7 g8 → RD g8 F L p8 → (if suS F frames len (lead % 2) last size = true then (.inr ((g / 16 % 16, size, lead % 2), p8) : Rr (Nat × Nat × Nat)) else .inl 7) = Q → xg x (y0 u) 0 0 237 [some (.ref 132), some (.int (nI lead)), some (.int (bz true)), some (.int (nI g)), some (.int (nI (g / 4096))), some (.int (nI (g / 256 % 16))), some (.int (nI last))] [] g8 := by
            clear hq
            intro g8 p8 f8 R8 hq
            have h8 := h7.trans f8.hd
            have I8 : IN g8 F := by
              unfold IN
              rw [n136 h8, h8.2.2.1 9 (by decide) (by decide) (by decide), h8.2.2.1 10 (by decide) (by decide) (by decide), h8.2.2.1 6 (by decide) (by decide) (by decide), h8.2.2.2]
              exact hI
            refine ra_aload_n A d_De_readHead_237 rfl <| ra_getR A f_De_24 d_De_readHead_238 (Nat.le_of_ble_eq_true rfl) rfl rfl rfl <| ra_aload_n A d_De_readHead_241 rfl <| ra_iload A d_De_readHead_242 rfl <| ?_
            refine ra_callV (As := [_]) A ok_De_suitsSize l_De_180 im_De_suitsSize sl_De_suitsSize d_De_readHead_244 (Nat.le_of_ble_eq_true rfl) rfl rfl rfl (Nat.le_of_ble_eq_true rfl) (xr_of at0 (by decide)) (s_De_suitsSize K (frames := frames) (len := len) (way := lead % 2) (last := last) (size := size) (by omega) (by omega) (by omega) hl2 hlen I8 hok (by rw [h8.2.2.1 11 (by decide) (by decide) (by decide)]; exact d11) (by rw [f8.1 132 (by decide)]; exact w7) (by rw [f8.1 132 (by decide)]; exact z7) (by rw [n140 h8]; exact d40) ?_)
            show xg x (y0 u) 0 0 247 _ _ g8
            refine ra_bipush A 7 d_De_readHead_247 (by decide) <| ?_
            refine ra_callV (As := [_, _]) A ok_Rd_demand l_De_92 im_Rd_demand sl_Rd_demand d_De_readHead_249 (Nat.le_of_ble_eq_true rfl) rfl rfl rfl (Nat.le_of_ble_eq_true rfl) (xr_of at0 (by decide)) (s_Rd_demand hlx (c := suS F frames len (lead % 2) last size) (e := 7) (fun q => ?_) (fun q => out (by rw [← hq, q]; rfl) h8 ER_I))
            show xg x (y0 u) 0 0 252 _ _ g8
            rw [if_pos q] at hq
            exact ra_vret A ow d_De_readHead_252 (hX _ _ _ p8 g8 hq.symm h8 R8 (by rw [f8.1 132 (by decide)]; exact w7) (by rw [f8.1 132 (by decide)]; exact c7) (by rw [f8.1 132 (by decide)]; exact z7) hz1 hz2)
          refine ra_iload A d_De_readHead_208 rfl <| ra_bipush A 12 d_De_readHead_210 (by decide) <| ?_
          by_cases c12 : 12 ≤ g / 256 % 16
          · rw [if_pos c12] at hq
            refine ra_icmp_lt (q := 237) A d_De_readHead_212 (by decide) (fun cc => absurd cc (fun z => absurd ((nI_ltI (b := 12) (by omega) (by decide)).mp z) (by omega))) (fun _ => ?_)
            refine ra_aload_n A d_De_readHead_215 rfl <| ra_getR A f_De_24 d_De_readHead_216 (Nat.le_of_ble_eq_true rfl) rfl rfl rfl <| ra_iload A d_De_readHead_219 rfl <| ra_bipush A 12 d_De_readHead_221 (by decide) <| ?_
            have at233 : ∀ n, n = (if g / 256 % 16 = 12 then 8 else 16) → xg x (y0 u) 0 0 233 [some (.ref 132), some (.int (nI lead)), some (.int (bz true)), some (.int (nI g)), some (.int (nI (g / 4096))), some (.int (nI (g / 256 % 16))), some (.int (nI last))] [.int (nI n), .ref 133] g7 := by
              intro n hn
              rw [← hn] at hq
              have hn16 : n ≤ 16 := by rw [hn]; split <;> omega
              refine ra_callV (As := [_]) A ok_Rd_bits l_De_96 im_Rd_bits sl_Rd_bits d_De_readHead_233 (Nat.le_of_ble_eq_true rfl) rfl rfl rfl (Nat.le_of_ble_eq_true rfl) (xr_of at0 (by decide)) (s_Rd_bits hlx (n := n) R7 (by omega) rfl (fun v p8 g8 e8' f8 R8 hv => ?_) (fun e g8 e8' E => out (by rw [← hq, e8', rb_l]) h7 E))
              show xg x (y0 u) 0 0 236 _ _ g8
              rw [e8', rb_r] at hq
              refine ra_pop A d_De_readHead_236 rfl <| ?_
              exact at237 g8 p8 f8 R8 hq
            by_cases ce : g / 256 % 16 = 12
            · refine ra_icmp_ne (q := 231) A d_De_readHead_223 (by decide) (fun cc => absurd ((by rw [ce]; rfl)) cc) (fun _ => ?_)
              refine ra_bipush A 8 d_De_readHead_226 (by decide) <| ra_goto (q := 233) A d_De_readHead_228 (by decide) <| ?_
              exact at233 8 (by rw [if_pos ce])
            · refine ra_icmp_ne (q := 231) A d_De_readHead_223 (by decide) (fun _ => ?_) (fun cc => absurd cc (fun z => ce ((nI_eq (b := 12) (by omega) (by decide)).mp z)))
              refine ra_bipush A 16 d_De_readHead_231 (by decide) <| ?_
              exact at233 16 (by rw [if_neg ce])
          · rw [if_neg c12, rb_r] at hq
            refine ra_icmp_lt (q := 237) A d_De_readHead_212 (by decide) (fun _ => ?_) (fun cc => absurd (nI_lt (b := 12) (by omega) (by decide)) cc)
            exact at237 g7 p6 RM1.rfl R7 hq
        by_cases cw : lead % 2 = 0
        · refine ra_if_ne (q := 180) A d_De_readHead_170 (by decide) (fun cc => absurd ((by rw [cw]; rfl)) cc) (fun _ => ?_)
          rw [if_pos cw] at hnn
          subst hnn
          refine ra_aload_n A d_De_readHead_173 rfl <| ra_getI A f_De_54 d_De_readHead_174 (Nat.le_of_ble_eq_true rfl) rfl rfl <| ?_
          rw [h4.2.2.1 11 (by decide) (by decide) (by decide), d11]
          refine ra_goto (q := 189) A d_De_readHead_177 (by decide) <| ?_
          exact at189
        · refine ra_if_ne (q := 180) A d_De_readHead_170 (by decide) (fun _ => ?_) (fun cc => absurd cc (nI_ne0 (by omega) (by omega)))
          rw [if_neg cw] at hnn
          subst hnn
          refine ra_aload_n A d_De_readHead_180 rfl <| ra_getR A f_De_40 d_De_readHead_181 (Nat.le_of_ble_eq_true rfl) rfl rfl rfl <| ra_getR A f_De_77 d_De_readHead_184 (Nat.le_of_ble_eq_true rfl) rfl rfl rfl <| ra_iconst A 0 d_De_readHead_187 (by decide) <| ?_
          refine ra_iaload A d_De_readHead_188 (Nat.le_of_ble_eq_true rfl) rfl i0 ?_
          rw [show g4.1 140 (Int32.toNatClampNeg 0) = nI len by rw [n140 h4]; exact d40]
          exact at189
      · rw [decide_eq_false c2] at hb
        subst hb
        refine ra_if_eq (q := 54) A d_De_readHead_47 (by decide) (fun _ => ?_) (fun cc => absurd (rfl) cc)
        exact no (fun z => c2 z.2)
    · refine ra_icmp_ne (q := 54) A d_De_readHead_43 (by decide) (fun _ => ?_) (fun cc => absurd cc (fun z => c1 ((nI_eq (b := 32764) (by omega) (by decide)).mp z)))
      exact no (fun z => c1 z.1)
  by_cases cf : frames = 0
  · refine ra_if_eq (q := 27) A d_De_readHead_14 (by decide) (fun _ => ?_) (fun cc => absurd ((by rw [cf]; rfl)) cc)
    refine ra_iconst A 1 d_De_readHead_27 (by decide) <| ra_goto (q := 32) A d_De_readHead_28 (by decide) <| ?_
    exact at32 true (by rw [decide_eq_true (Or.inl cf)]) _ _ _ _
  · refine ra_if_eq (q := 27) A d_De_readHead_14 (by decide) (fun cc => absurd cc (nI_ne0 (by omega) (by omega))) (fun _ => ?_)
    refine ra_aload_n A d_De_readHead_17 rfl <| ra_getI A f_De_164 d_De_readHead_18 (Nat.le_of_ble_eq_true rfl) rfl rfl <| ?_
    rw [f1.1 132 (by decide), d12 cf]
    refine ra_iload_n A d_De_readHead_21 rfl <| ra_iconst A 1 d_De_readHead_22 (by decide) <| ra_iand A d_De_readHead_23 <| ?_
    rw [lm]
    by_cases cw : way = lead % 2
    · refine ra_icmp_ne (q := 31) A d_De_readHead_24 (by decide) (fun cc => absurd ((by rw [cw])) cc) (fun _ => ?_)
      refine ra_iconst A 1 d_De_readHead_27 (by decide) <| ra_goto (q := 32) A d_De_readHead_28 (by decide) <| ?_
      exact at32 true (by rw [decide_eq_true (Or.inr cw)]) _ _ _ _
    · refine ra_icmp_ne (q := 31) A d_De_readHead_24 (by decide) (fun _ => ?_) (fun cc => absurd cc (fun z => cw ((nI_eq (by omega) (by omega)).mp z)))
      refine ra_iconst A 0 d_De_readHead_31 (by decide) <| ?_
      exact at32 false (by rw [decide_eq_false (fun z => z.elim cf cw)]) _ _ _ _
end S99c
