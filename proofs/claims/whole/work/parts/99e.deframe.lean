/-! SoundStream$Decoder: readFrame -/
/-- bounds between frames -/
def FB (F : Nat → Bool) (s : FS) : Prop := s.1 ≤ s.2.1 ∧ s.2.1 ≤ most F ∧ s.2.2.2.1 < 2 ^ 17 ∧ s.2.2.1 < 2
theorem suS_len {F : Nat → Bool} {frames len way last size : Nat} (h : suS F frames len way last size = true) : len + size ≤ most F := by
  unfold suS at h
  simp at h
  exact h.2
theorem IN.of {h h' : xw_H} {F : Nat → Bool} (x : IN h F) (h1 : ∀ j, j = 6 ∨ j = 9 ∨ j = 10 → h'.1 132 j = h.1 132 j) (h2 : h'.2 132 = h.2 132) (h3 : h'.1 136 = h.1 136) : IN h' F := by
  unfold IN
  rw [h1 6 (by decide), h1 9 (by decide), h1 10 (by decide), h2, h3]
  exact x
theorem RD.ck {h : xw_H} {F : Nat → Bool} {L p a b : Nat} {n : Int32} {w c : Nat} (R : RD h F L p) (hw : CW n w c) (hb : b ≤ L) : f_check h n a b = nI (crI w c F (8 * a) (8 * (b - a)) 0) := f_check_I hw (fun q _ h2 => R.2.1 q (by omega))
section S99e
variable {u : xu_T} {l : Launch} {h : xw_H} {X : xc_R → xw_H → Nat → Nat → Prop}
theorem s_De_readFrame (hl : l.stackTraces = false) {F : Nat → Bool} {L p : Nat} {s : FS} {Q : Rr FS} (R : RD h F L p) (hp8 : p % 8 = 0) (hok : iOk F) (hI : IN h F) (hS : DS h F s) (hB : FB F s) (hq : rFr F L s p = Q)
    (hX : ∀ s' p' h', Q = .inr (s', p') → fr DLs h h' → h'.1 132 5 = h.1 132 5 → IN h' F → DS h' F s' → FB F s' → RD h' F L p' → p' % 8 = 0 → X (.inl none) h' 0 0) (hY : ∀ e h', Q = .inl e → EP h h' e (p / 8) → X (.inr ISE) h' 1 6) : xm_M l (y0 u) (KK0 u) m_De_readFrame [.ref 132] h X := by
  refine xm_of [none, none, none, none] (by simp) (Nat.le_of_ble_eq_true rfl) (by decide) (fun x at0 => ?_)
  have A := xa_of at0 (KK0_ok u)
  have K := KK0_ok u
  have ow := at0.2.2.2.2.1
  have hlx : (xg_l x).stackTraces = false := by rw [at0.2.2.2.2.2.1]; exact hl
  have i0 : vp_in (0 : Int32) 2 := vp_in_nI (n := 0) (by decide) (by decide)
  have i1 : vp_in (1 : Int32) 2 := vp_in_nI (n := 1) (by decide) (by decide)
  have hmost := most_le hok
  obtain ⟨frames, len, way, last, s0, s1⟩ := s
  obtain ⟨hfr, hlen, hla, hwy⟩ := hB
  dsimp only at hfr hlen hla hwy
  unfold rFr at hq
  dsimp only at hq
  refine ra_aload_n A d_De_readFrame_0 rfl <| ra_getR A f_De_24 d_De_readFrame_1 (Nat.le_of_ble_eq_true rfl) rfl rfl rfl <| ?_
  refine ra_callV (As := []) A ok_Rd_markPlace l_De_100 im_Rd_markPlace sl_Rd_markPlace d_De_readFrame_4 (Nat.le_of_ble_eq_true rfl) rfl rfl rfl (Nat.le_of_ble_eq_true rfl) (xr_of at0 (by decide)) (s_Rd_markPlace K R ?_)
  show xg x (y0 u) 0 0 7 _ _ _
  have fa : FD h (xw_I h 133 3 (nI (p / 8))) := FD.rfl.I (by decide) (by decide)
  have Pa : (xw_I h 133 3 (nI (p / 8))).1 133 3 = nI (p / 8) := xI_e
  have Ra : RD (xw_I h 133 3 (nI (p / 8))) F L p := R.of (xI_k (by decide)) (xI_k (by decide)) ⟨by rw [xI_j (by decide)]; exact R.2.2.1.1, by rw [xI_j (by decide)]; exact R.2.2.1.2⟩ R.2.2.2.1
  have ka : ∀ k, k ≠ 133 → (xw_I h 133 3 (nI (p / 8))).1 k = h.1 k := fun k hk => xI_k hk
  have ja : (xw_I h 133 3 (nI (p / 8))).2 = h.2 := rfl
  generalize xw_I h 133 3 (nI (p / 8)) = ga at fa Pa Ra ka ja ⊢
  have Ia : IN ga F := hI.of (fun j _ => by rw [ka 132 (by decide)]) (by rw [ja]) (ka 136 (by decide))
  have Sa : DS ga F (frames, len, way, last, s0, s1) := by
    unfold DS
    rw [ka 132 (by decide), ka 140 (by decide), ka 138 (by decide), ka 139 (by decide)]
    exact hS
  have out : ∀ {g g' : xw_H} {e pc : Nat} {LL : List (Option Value)}, Q = .inl e → FD ga g → g.1 133 3 = ga.1 133 3 → ER g g' e → xgT x (y0 u) (0 + 1) (0 + 6) pc LL ISE g' := fun q f pl E => xgT_out ow at0.2.2.2.2.2.2.2.2.2.2 (hY _ _ q ⟨(fa.trans f).trans E.1, E.2.1, E.2.2.trans (pl.trans Pa)⟩)
  refine ra_aload_n A d_De_readFrame_7 rfl <| ?_
  refine ra_callV (As := []) A ok_De_readHead l_De_140 im_De_readHead sl_De_readHead d_De_readFrame_8 (Nat.le_of_ble_eq_true rfl) rfl rfl rfl (Nat.le_of_ble_eq_true rfl) (xr_of at0 (by decide)) (s_De_readHead hlx Ra hok Ia Sa hfr hlen hla hwy rfl (fun c size w p1 g1 e1 h1 R1 w1 c1 z1 hz1 hz2 => ?_) (fun e g1 e1 E => out (by rw [← hq, e1, rb_l]) FD.rfl rfl E))
  show xg x (y0 u) 0 0 11 _ _ g1
  dsimp only at e1
  rw [e1, rb_r] at hq
  dsimp only at hq
  obtain ⟨hc16, hsuC, hsuS, hw2⟩ := rHd_ok e1
  obtain ⟨hp1, hp18⟩ := rHd_p e1
  have hls := suS_len hsuS
  have hp1L := R1.2.2.2.1
  have hL := R1.2.2.2.2
  have d1 : FD ga g1 := ⟨h1.1.mono (by decide), h1.2.2.1 5 (by decide) (by decide) (by decide)⟩
  have I1 : IN g1 F := Ia.of (fun j hj => h1.2.2.1 j (by omega) (by omega) (by omega)) h1.2.2.2 (fr1 h1.1 (by decide))
  have hD24 := hok.2.2.2
  have hD4 := hok.2.2.1
  obtain ⟨⟨a11, a12, a14, a40, a41, a41n⟩, a138, a139⟩ := Sa
  dsimp only at a11 a12 a14 a40 a41 a41n a138 a139
  have n140 : g1.1 140 = ga.1 140 := fr1 h1.1 (by decide)
  have n138 : g1.1 138 = ga.1 138 := fr1 h1.1 (by decide)
  have n139 : g1.1 139 = ga.1 139 := fr1 h1.1 (by decide)
  refine ra_aload_n A d_De_readFrame_11 rfl <| ra_getR A f_De_9 d_De_readFrame_12 (Nat.le_of_ble_eq_true rfl) rfl rfl rfl <| ra_bipush A 8 d_De_readFrame_15 (by decide) <| ra_aload_n A d_De_readFrame_17 rfl <| ra_getR A f_De_24 d_De_readFrame_18 (Nat.le_of_ble_eq_true rfl) rfl rfl rfl <| ra_getI A f_De_128 d_De_readFrame_21 (Nat.le_of_ble_eq_true rfl) rfl rfl <| ?_
  rw [h1.2.1, Pa]
  refine ra_aload_n A d_De_readFrame_24 rfl <| ra_getR A f_De_24 d_De_readFrame_25 (Nat.le_of_ble_eq_true rfl) rfl rfl rfl <| ?_
  refine ra_callV (As := []) A ok_Rd_nextByte l_De_110 im_Rd_nextByte sl_Rd_nextByte d_De_readFrame_28 (Nat.le_of_ble_eq_true rfl) rfl rfl rfl (Nat.le_of_ble_eq_true rfl) (xr_of at0 (by decide)) (s_Rd_nextByte K R1 ?_)
  show xg x (y0 u) 0 0 31 _ _ g1
  refine ra_callV (As := [_, _, _]) A ok_By_check l_De_143 im_By_check sl_By_check d_De_readFrame_31 (Nat.le_of_ble_eq_true rfl) rfl rfl rfl (Nat.le_of_ble_eq_true rfl) (xr_of at0 (by decide)) (s_By_check K (n := 8) (a := p / 8) (b := p1 / 8) (by omega) (by omega) (show (v_bytes_length g1).toInt ≤ 9000 by rw [show v_bytes_length g1 = nI L from R1.1, nI_toInt (by omega)]; omega) ?_)
  show xg x (y0 u) 0 0 34 _ _ g1
  rw [R1.ck (Or.inl ⟨rfl, rfl, rfl⟩) (by omega), show 8 * (p / 8) = p by omega, show 8 * (p1 / 8 - p / 8) = p1 - p by omega]
  have hcl8 : crI 8 7 F p (p1 - p) 0 < 2 ^ 8 := crI_lt (by decide) (by decide) _
  generalize crI 8 7 F p (p1 - p) 0 = ck8 at hq hcl8 ⊢
  refine ra_istore_n (L' := [_, _, _, _, _]) A d_De_readFrame_34 (by decide) rfl <| ra_aload_n A d_De_readFrame_35 rfl <| ra_getR A f_De_24 d_De_readFrame_36 (Nat.le_of_ble_eq_true rfl) rfl rfl rfl <| ra_aload_n A d_De_readFrame_39 rfl <| ra_getR A f_De_24 d_De_readFrame_40 (Nat.le_of_ble_eq_true rfl) rfl rfl rfl <| ra_bipush A 8 d_De_readFrame_43 (by decide) <| ?_
  refine ra_callV (As := [_]) A ok_Rd_bits l_De_96 im_Rd_bits sl_Rd_bits d_De_readFrame_45 (Nat.le_of_ble_eq_true rfl) rfl rfl rfl (Nat.le_of_ble_eq_true rfl) (xr_of at0 (by decide)) (s_Rd_bits hlx (n := 8) R1 (by decide) rfl (fun v p2 g2 e2 f2 R2 hv => ?_) (fun e g2 e2 E => out (by rw [← hq, e2, rb_l]) d1 h1.2.1 E))
  show xg x (y0 u) 0 0 48 _ _ g2
  rw [e2, rb_r] at hq
  have d2 := d1.trans f2.fr
  have P2 := f2.pl.trans h1.2.1
  have hp2 := (rB_ok e2).2.1
  refine ra_iload_n A d_De_readFrame_48 rfl <| ?_
  by_cases c8 : ¬ v = ck8
  · rw [if_neg c8] at hq
    refine ra_icmp_ne (q := 56) A d_De_readFrame_49 (by decide) (fun _ => ?_) (fun cc => absurd cc (fun z => c8 ((nI_eq (by omega) (by omega)).mp z)))
    refine ra_iconst A 0 d_De_readFrame_56 (by decide) <| ra_bipush A 8 d_De_readFrame_57 (by decide) <| ?_
    refine ra_callV (As := [_, _]) A ok_Rd_demand l_De_92 im_Rd_demand sl_Rd_demand d_De_readFrame_59 (Nat.le_of_ble_eq_true rfl) rfl rfl rfl (Nat.le_of_ble_eq_true rfl) (xr_of at0 (by decide)) (s_Rd_demand hlx (c := false) (e := 8) (fun q => by cases q) (fun _ => out hq.symm d2 P2 ER_I))
  have c8 := Decidable.not_not.mp c8
  rw [if_pos c8] at hq
  refine ra_icmp_ne (q := 56) A d_De_readFrame_49 (by decide) (fun cc => absurd ((by rw [c8])) cc) (fun _ => ?_)
  refine ra_iconst A 1 d_De_readFrame_52 (by decide) <| ra_goto (q := 57) A d_De_readFrame_53 (by decide) <| ra_bipush A 8 d_De_readFrame_57 (by decide) <| ?_
  refine ra_callV (As := [_, _]) A ok_Rd_demand l_De_92 im_Rd_demand sl_Rd_demand d_De_readFrame_59 (Nat.le_of_ble_eq_true rfl) rfl rfl rfl (Nat.le_of_ble_eq_true rfl) (xr_of at0 (by decide)) (s_Rd_demand hlx (c := true) (e := 8) (fun _ => ?_) (fun q => by cases q))
  show xg x (y0 u) 0 0 62 _ _ g2
  have q2 : ∀ k, k ≠ 133 → g2.1 k = g1.1 k := fun k hk => f2.1 k hk
  refine ra_aload_n A d_De_readFrame_62 rfl <| ra_getR A f_De_40 d_De_readFrame_63 (Nat.le_of_ble_eq_true rfl) rfl rfl rfl <| ra_getR A f_De_77 d_De_readFrame_66 (Nat.le_of_ble_eq_true rfl) rfl rfl rfl <| ra_iconst A 0 d_De_readFrame_69 (by decide) <| ?_
  refine ra_iaload A d_De_readFrame_70 (Nat.le_of_ble_eq_true rfl) rfl i0 ?_
  rw [show g2.1 140 (Int32.toNatClampNeg 0) = nI len by rw [q2 140 (by decide), n140]; exact a40]
  refine ra_istore_n (L' := [_, _, _, _, _]) A d_De_readFrame_71 (by decide) rfl <| ra_aload_n A d_De_readFrame_72 rfl <| ra_getI A f_De_147 d_De_readFrame_73 (Nat.le_of_ble_eq_true rfl) rfl rfl <| ?_
  rw [q2 132 (by decide), c1]
  refine ra_bipush A 9 d_De_readFrame_76 (by decide) <| ?_
  have ne : ∀ n : Nat, n < 16 → ¬ c = n → ¬ nI c = nI n := fun n hn q z => q ((nI_eq (by omega) (by omega)).mp z)
  -- the whole bytes' end
  have at221 : ∀ (g : xw_H) (p4 : Nat) (rr : (Nat → Int32) × (Nat → Int32)) (z3 : Int32) (w4 : Option Value), FD ga g → g.1 133 3 = ga.1 133 3 → RD g F L p4 → p2 ≤ p4 → (∀ j, j ≠ 12 → j ≠ 13 → j ≠ 14 → g.1 132 j = ga.1 132 j) → g.1 132 12 = nI w → g.1 132 14 = nI size → g.2 132 = ga.2 132 → g.1 136 = ga.1 136 → g.1 140 0 = nI len → ((iCh F = 2 → g.1 140 1 = nI (len + size)) ∧ (iCh F ≠ 2 → g.1 140 1 = 0)) → (∀ i, i < len → g.1 138 i = s0 i) → (iCh F = 2 → ∀ i, i < len → g.1 139 i = s1 i) → (∀ r, r < size → g.1 138 (len + r) = rr.1 r) → (iCh F = 2 → ∀ r, r < size → g.1 139 (len + r) = rr.2 r) → (rb (rB F L ((8 - p4 % 8) % 8) p4) fun z p5 => if z = 0 then rb (rB F L 16 p5) fun v p6 => if v = crI 16 32773 F p (p5 - p) 0 then (.inr ((frames + 1, len + size, w, size, app s0 len rr.1, app s1 len rr.2), p6) : Rr FS) else .inl 12 else .inl 12) = Q → xg x (y0 u) 0 0 221 [some (.ref 132), some (.int (nI ck8)), some (.int (nI len)), some (.int z3), w4] [] g := by
    clear hq
    intro g p4 rr z3 w4 dg Pg Rg hp24 g132 g12 g14 gJ g136 g40 g41 l0 l1 r0 r1 hq
    refine ra_aload_n A d_De_readFrame_221 rfl <| ra_getR A f_De_24 d_De_readFrame_222 (Nat.le_of_ble_eq_true rfl) rfl rfl rfl <| ra_aload_n A d_De_readFrame_225 rfl <| ra_getR A f_De_24 d_De_readFrame_226 (Nat.le_of_ble_eq_true rfl) rfl rfl rfl <| ?_
    refine ra_callV (As := []) A ok_Rd_bitsToWholeByte l_De_161 im_Rd_bitsToWholeByte sl_Rd_bitsToWholeByte d_De_readFrame_229 (Nat.le_of_ble_eq_true rfl) rfl rfl rfl (Nat.le_of_ble_eq_true rfl) (xr_of at0 (by decide)) (s_Rd_bitsToWholeByte hlx Rg rfl (fun z p5 g5 e5 f5 R5 hz => ?_) (fun e g5 e5 E => out (by rw [← hq, e5, rb_l]) dg Pg E))
    show xg x (y0 u) 0 0 232 _ _ g5
    rw [e5, rb_r] at hq
    obtain ⟨-, b5, -⟩ := rB_ok e5
    have d5 := dg.trans f5.fr
    have P5 := f5.pl.trans Pg
    have hp5 : p5 % 8 = 0 := by omega
    have hp5L := R5.2.2.2.1
    by_cases cz : ¬ z = 0
    · rw [if_neg cz] at hq
      refine ra_if_ne (q := 239) A d_De_readFrame_232 (by decide) (fun _ => ?_) (fun cc => absurd cc (nI_ne0 (by omega) (by omega)))
      refine ra_iconst A 0 d_De_readFrame_239 (by decide) <| ra_bipush A 12 d_De_readFrame_240 (by decide) <| ?_
      refine ra_callV (As := [_, _]) A ok_Rd_demand l_De_92 im_Rd_demand sl_Rd_demand d_De_readFrame_242 (Nat.le_of_ble_eq_true rfl) rfl rfl rfl (Nat.le_of_ble_eq_true rfl) (xr_of at0 (by decide)) (s_Rd_demand hlx (c := false) (e := 12) (fun q => by cases q) (fun _ => out hq.symm d5 P5 ER_I))
    have cz := Decidable.not_not.mp cz
    rw [if_pos cz] at hq
    refine ra_if_ne (q := 239) A d_De_readFrame_232 (by decide) (fun cc => absurd ((by rw [cz]; rfl)) cc) (fun _ => ?_)
    refine ra_iconst A 1 d_De_readFrame_235 (by decide) <| ra_goto (q := 240) A d_De_readFrame_236 (by decide) <| ra_bipush A 12 d_De_readFrame_240 (by decide) <| ?_
    refine ra_callV (As := [_, _]) A ok_Rd_demand l_De_92 im_Rd_demand sl_Rd_demand d_De_readFrame_242 (Nat.le_of_ble_eq_true rfl) rfl rfl rfl (Nat.le_of_ble_eq_true rfl) (xr_of at0 (by decide)) (s_Rd_demand hlx (c := true) (e := 12) (fun _ => ?_) (fun q => by cases q))
    show xg x (y0 u) 0 0 245 _ _ g5
    refine ra_aload_n A d_De_readFrame_245 rfl <| ra_getR A f_De_9 d_De_readFrame_246 (Nat.le_of_ble_eq_true rfl) rfl rfl rfl <| ra_bipush A 16 d_De_readFrame_249 (by decide) <| ra_aload_n A d_De_readFrame_251 rfl <| ra_getR A f_De_24 d_De_readFrame_252 (Nat.le_of_ble_eq_true rfl) rfl rfl rfl <| ra_getI A f_De_128 d_De_readFrame_255 (Nat.le_of_ble_eq_true rfl) rfl rfl <| ?_
    rw [P5, Pa]
    refine ra_aload_n A d_De_readFrame_258 rfl <| ra_getR A f_De_24 d_De_readFrame_259 (Nat.le_of_ble_eq_true rfl) rfl rfl rfl <| ?_
    refine ra_callV (As := []) A ok_Rd_nextByte l_De_110 im_Rd_nextByte sl_Rd_nextByte d_De_readFrame_262 (Nat.le_of_ble_eq_true rfl) rfl rfl rfl (Nat.le_of_ble_eq_true rfl) (xr_of at0 (by decide)) (s_Rd_nextByte K R5 ?_)
    show xg x (y0 u) 0 0 265 _ _ g5
    refine ra_callV (As := [_, _, _]) A ok_By_check l_De_143 im_By_check sl_By_check d_De_readFrame_265 (Nat.le_of_ble_eq_true rfl) rfl rfl rfl (Nat.le_of_ble_eq_true rfl) (xr_of at0 (by decide)) (s_By_check K (n := 16) (a := p / 8) (b := p5 / 8) (by omega) (by omega) (show (v_bytes_length g5).toInt ≤ 9000 by rw [show v_bytes_length g5 = nI L from R5.1, nI_toInt (by omega)]; omega) ?_)
    show xg x (y0 u) 0 0 268 _ _ g5
    rw [R5.ck (Or.inr ⟨rfl, rfl, rfl⟩) (by omega), show 8 * (p / 8) = p by omega, show 8 * (p5 / 8 - p / 8) = p5 - p by omega]
    have hcl16 : crI 16 32773 F p (p5 - p) 0 < 2 ^ 16 := crI_lt (by decide) (by decide) _
    generalize crI 16 32773 F p (p5 - p) 0 = ck16 at hq hcl16 ⊢
    refine ra_istore (L' := [_, _, _, _, _]) A d_De_readFrame_268 (by decide) rfl <| ra_aload_n A d_De_readFrame_270 rfl <| ra_getR A f_De_24 d_De_readFrame_271 (Nat.le_of_ble_eq_true rfl) rfl rfl rfl <| ra_aload_n A d_De_readFrame_274 rfl <| ra_getR A f_De_24 d_De_readFrame_275 (Nat.le_of_ble_eq_true rfl) rfl rfl rfl <| ra_bipush A 16 d_De_readFrame_278 (by decide) <| ?_
    refine ra_callV (As := [_]) A ok_Rd_bits l_De_96 im_Rd_bits sl_Rd_bits d_De_readFrame_280 (Nat.le_of_ble_eq_true rfl) rfl rfl rfl (Nat.le_of_ble_eq_true rfl) (xr_of at0 (by decide)) (s_Rd_bits hlx (n := 16) R5 (by decide) rfl (fun v6 p6 g6 e6 f6 R6 hv6 => ?_) (fun e g6 e6 E => out (by rw [← hq, e6, rb_l]) d5 P5 E))
    show xg x (y0 u) 0 0 283 _ _ g6
    rw [e6, rb_r] at hq
    have f56 := f5.trans f6
    have d6 := dg.trans f56.fr
    have P6 := f56.pl.trans Pg
    have hp6 := (rB_ok e6).2.1
    refine ra_iload A d_De_readFrame_283 rfl <| ?_
    by_cases c16 : ¬ v6 = ck16
    · rw [if_neg c16] at hq
      refine ra_icmp_ne (q := 292) A d_De_readFrame_285 (by decide) (fun _ => ?_) (fun cc => absurd cc (fun z => c16 ((nI_eq (by omega) (by omega)).mp z)))
      refine ra_iconst A 0 d_De_readFrame_292 (by decide) <| ra_bipush A 12 d_De_readFrame_293 (by decide) <| ?_
      refine ra_callV (As := [_, _]) A ok_Rd_demand l_De_92 im_Rd_demand sl_Rd_demand d_De_readFrame_295 (Nat.le_of_ble_eq_true rfl) rfl rfl rfl (Nat.le_of_ble_eq_true rfl) (xr_of at0 (by decide)) (s_Rd_demand hlx (c := false) (e := 12) (fun q => by cases q) (fun _ => out hq.symm d6 P6 ER_I))
    have c16 := Decidable.not_not.mp c16
    rw [if_pos c16] at hq
    refine ra_icmp_ne (q := 292) A d_De_readFrame_285 (by decide) (fun cc => absurd ((by rw [c16])) cc) (fun _ => ?_)
    refine ra_iconst A 1 d_De_readFrame_288 (by decide) <| ra_goto (q := 293) A d_De_readFrame_289 (by decide) <| ra_bipush A 12 d_De_readFrame_293 (by decide) <| ?_
    refine ra_callV (As := [_, _]) A ok_Rd_demand l_De_92 im_Rd_demand sl_Rd_demand d_De_readFrame_295 (Nat.le_of_ble_eq_true rfl) rfl rfl rfl (Nat.le_of_ble_eq_true rfl) (xr_of at0 (by decide)) (s_Rd_demand hlx (c := true) (e := 12) (fun _ => ?_) (fun q => by cases q))
    show xg x (y0 u) 0 0 298 _ _ g6
    have k6 : ∀ k, k ≠ 133 → g6.1 k = g.1 k := fun k hk => f56.1 k hk
    refine ra_aload_n A d_De_readFrame_298 rfl <| ra_getR A f_De_40 d_De_readFrame_299 (Nat.le_of_ble_eq_true rfl) rfl rfl rfl <| ra_getR A f_De_77 d_De_readFrame_302 (Nat.le_of_ble_eq_true rfl) rfl rfl rfl <| ra_iconst A 0 d_De_readFrame_305 (by decide) <| ra_dup2 A d_De_readFrame_306 rfl rfl <| ?_
    refine ra_iaload A d_De_readFrame_307 (Nat.le_of_ble_eq_true rfl) rfl i0 ?_
    rw [show g6.1 140 (Int32.toNatClampNeg 0) = nI len by rw [k6 140 (by decide)]; exact g40]
    refine ra_aload_n A d_De_readFrame_308 rfl <| ra_getI A f_De_58 d_De_readFrame_309 (Nat.le_of_ble_eq_true rfl) rfl rfl <| ?_
    rw [k6 132 (by decide), g14]
    refine ra_iadd A d_De_readFrame_312 <| ?_
    rw [nI_add]
    refine ra_iastore A d_De_readFrame_313 (Nat.le_of_ble_eq_true rfl) rfl i0 ?_
    refine ra_aload_n A d_De_readFrame_314 rfl <| ra_dup A d_De_readFrame_315 rfl <| ra_getI A f_De_54 d_De_readFrame_316 (Nat.le_of_ble_eq_true rfl) rfl rfl <| ?_
    rw [show (xw_I g6 140 (Int32.toNatClampNeg 0) (nI (len + size))).1 132 11 = nI frames by rw [xI_k (by decide), k6 132 (by decide), g132 11 (by decide) (by decide) (by decide)]; exact a11]
    refine ra_iconst A 1 d_De_readFrame_319 (by decide) <| ra_iadd A d_De_readFrame_320 <| ?_
    rw [nI_1]
    refine ra_putI (ty := .int) A f_De_54 rfl rfl (by decide +kernel) rfl rfl d_De_readFrame_321 (Nat.le_of_ble_eq_true rfl) rfl rfl <| ?_
    refine ra_vret A ow d_De_readFrame_324 (hX _ _ _ hq.symm ?_ ?_ ?_ ⟨⟨xI_e, fun _ => ?_, ?_, ?_, fun q => ?_, fun q => ?_⟩, fun i hi => ?_, fun q i hi => ?_⟩ ⟨?_, ?_, ?_, ?_⟩ ?_ ?_)
    · exact (((fa.trans d6).I (by decide) (by decide)).I (by decide) (by decide)).1
    · rw [xI_j (by decide), xI_k (by decide), k6 132 (by decide), g132 5 (by decide) (by decide) (by decide), ka 132 (by decide)]
    · refine Ia.of (fun j hj => ?_) ?_ ?_
      · rw [xI_j (by omega), xI_k (by decide), k6 132 (by decide), g132 j (by omega) (by omega) (by omega)]
      · show g6.2 132 = _
        rw [f56.2.2, gJ]
      · rw [xI_k (by decide), xI_k (by decide), k6 136 (by decide), g136]
    · rw [xI_j (by decide), xI_k (by decide), k6 132 (by decide)]; exact g12
    · rw [xI_j (by decide), xI_k (by decide), k6 132 (by decide)]; exact g14
    · rw [xI_k (by decide)]; exact xI_e
    · rw [xI_k (by decide), xI_j (by decide), k6 140 (by decide)]; exact g41.1 q
    · rw [xI_k (by decide), xI_j (by decide), k6 140 (by decide)]; exact g41.2 q
    · rw [xI_k (by decide), xI_k (by decide), k6 138 (by decide)]
      dsimp only at hi ⊢
      unfold app
      by_cases z : i < len
      · rw [if_pos z]; exact l0 i z
      · rw [if_neg z, ← r0 (i - len) (by omega), show len + (i - len) = i by omega]
    · rw [xI_k (by decide), xI_k (by decide), k6 139 (by decide)]
      dsimp only at hi ⊢
      unfold app
      by_cases z : i < len
      · rw [if_pos z]; exact l1 q i z
      · rw [if_neg z, ← r1 q (i - len) (by omega), show len + (i - len) = i by omega]
    · show frames + 1 ≤ len + size; omega
    · exact hls
    · exact hz2
    · exact hw2
    · exact RD_I (RD_I R6 (by decide) (by decide) (by decide)) (by decide) (by decide) (by decide)
    · omega
  have at86 : ∀ b : Bool, b = decide (c = 9) → xg x (y0 u) 0 0 86 [some (.ref 132), some (.int (nI ck8)), some (.int (nI len)), none, none] [.int (bz b)] g2 := by
    intro b hb
    unfold rBd at hq
    refine ra_istore_n (L' := [_, _, _, _, _]) A d_De_readFrame_86 (by decide) rfl <| ra_aload_n A d_De_readFrame_87 rfl <| ra_getR A f_De_33 d_De_readFrame_88 (Nat.le_of_ble_eq_true rfl) rfl rfl rfl <| ra_aload_n A d_De_readFrame_91 rfl <| ra_getR A f_De_40 d_De_readFrame_92 (Nat.le_of_ble_eq_true rfl) rfl rfl rfl <| ra_getR A f_De_150 d_De_readFrame_95 (Nat.le_of_ble_eq_true rfl) rfl rfl rfl <| ra_iconst A 0 d_De_readFrame_98 (by decide) <| ?_
    refine ra_aaload (b := 138) A d_De_readFrame_99 (Nat.le_of_ble_eq_true rfl) rfl rfl i0 rfl ?_
    refine ra_iload_n A d_De_readFrame_100 rfl <| ra_aload_n A d_De_readFrame_101 rfl <| ra_getI A f_De_58 d_De_readFrame_102 (Nat.le_of_ble_eq_true rfl) rfl rfl <| ?_
    rw [q2 132 (by decide), z1]
    refine ra_aload_n A d_De_readFrame_105 rfl <| ra_getR A f_De_40 d_De_readFrame_106 (Nat.le_of_ble_eq_true rfl) rfl rfl rfl <| ra_getI A f_De_68 d_De_readFrame_109 (Nat.le_of_ble_eq_true rfl) rfl rfl <| ?_
    rw [show g2.1 136 1 = nI (iDp F) by rw [q2 136 (by decide)]; exact I1.2.2.1]
    refine ra_iload_n A d_De_readFrame_112 rfl <| ?_
    have at121 : ∀ d : Nat, d = (if c = 9 then 1 else 0) → xg x (y0 u) 0 0 121 [some (.ref 132), some (.int (nI ck8)), some (.int (nI len)), some (.int (bz b)), none] [.int (nI d), .int (nI (iDp F)), .int (nI size), .int (nI len), .ref 138, .ref 134] g2 := by
      intro d hd
      rw [← hd] at hq
      have hd1 : d ≤ 1 := by rw [hd]; split <;> omega
      refine ra_iadd A d_De_readFrame_121 <| ?_
      rw [nI_add]
      refine ra_callV (As := [_, _, _, _]) A ok_Sr_read l_De_154 im_Sr_read sl_Sr_read d_De_readFrame_122 (Nat.le_of_ble_eq_true rfl) rfl rfl rfl (Nat.le_of_ble_eq_true rfl) (xr_of at0 (by decide)) (s_Sr_read hlx (k := 138) (f := len) (Or.inl rfl) R2 (by omega) (by omega) (by omega) rfl (fun r0 p3 g3 e3 t3 R3 r3 => ?_) (fun e g3 e3 E => out (by rw [← hq, e3, rb_l, rb_l]) d2 P2 E))
      show xg x (y0 u) 0 0 125 _ _ g3
      rw [e3, rb_r] at hq
      have hp3 := rSub_g _ _ e3
      have d3 := d2.trans (t3.dl (Or.inl rfl))
      have P3 := t3.2.1.trans P2
      have k3 : ∀ k, k ≠ 133 → k ≠ 134 → k ≠ 135 → k ≠ 138 → g3.1 k = g1.1 k := fun k a b c d => (fr1 t3.1 (by simp; omega)).trans (q2 k a)
      have j3 : g3.2 132 = ga.2 132 := ((t3.1 132 (by decide)).2.trans (by rw [f2.2.2])).trans h1.2.2.2
      have l3 : ∀ i, i < len → g3.1 138 i = s0 i := fun i hi => by rw [t3.2.2 i hi, q2 138 (by decide), n138]; exact a138 i hi
      refine ra_aload_n A d_De_readFrame_125 rfl <| ra_getR A f_De_40 d_De_readFrame_126 (Nat.le_of_ble_eq_true rfl) rfl rfl rfl <| ra_getI A f_De_65 d_De_readFrame_129 (Nat.le_of_ble_eq_true rfl) rfl rfl <| ?_
      rw [show g3.1 136 0 = nI (iCh F) by rw [k3 136 (by decide) (by decide) (by decide) (by decide)]; exact I1.2.1]
      refine ra_iconst A 2 d_De_readFrame_132 (by decide) <| ?_
      have hC2 := hok.2.1.1
      have hC1 : 1 ≤ iCh F := by unfold iCh; omega
      by_cases cC : ¬ iCh F = 2
      · rw [if_neg cC, rb_r] at hq
        refine ra_icmp_ne (q := 221) A d_De_readFrame_133 (by decide) (fun _ => ?_) (fun cc => absurd cc (fun z => cC ((nI_eq (b := 2) (by omega) (by decide)).mp z)))
        refine at221 g3 p3 (r0, fun _ => 0) _ _ d3 P3 R3 hp3 (fun j u v w => ?_) ?_ ?_ j3 ?_ ?_ ⟨fun q => absurd q cC, fun q => ?_⟩ l3 (fun q => absurd q cC) r3 (fun q => absurd q cC) hq
        · rw [k3 132 (by decide) (by decide) (by decide) (by decide)]; exact h1.2.2.1 j u v w
        · rw [k3 132 (by decide) (by decide) (by decide) (by decide)]; exact w1
        · rw [k3 132 (by decide) (by decide) (by decide) (by decide)]; exact z1
        · rw [k3 136 (by decide) (by decide) (by decide) (by decide)]; exact fr1 h1.1 (by decide)
        · rw [k3 140 (by decide) (by decide) (by decide) (by decide), n140]; exact a40
        · rw [k3 140 (by decide) (by decide) (by decide) (by decide), n140]; exact a41n q
      have cC := Decidable.not_not.mp cC
      rw [if_pos cC] at hq
      refine ra_icmp_ne (q := 221) A d_De_readFrame_133 (by decide) (fun cc => absurd ((by rw [cC]; rfl)) cc) (fun _ => ?_)
      have c3 : g3.1 132 13 = nI c := by rw [k3 132 (by decide) (by decide) (by decide) (by decide)]; exact c1
      refine ra_aload_n A d_De_readFrame_136 rfl <| ra_getI A f_De_147 d_De_readFrame_137 (Nat.le_of_ble_eq_true rfl) rfl rfl <| ?_
      rw [c3]
      refine ra_bipush A 8 d_De_readFrame_140 (by decide) <| ?_
      have at159 : ∀ b2 : Bool, b2 = decide (c = 8 ∨ c = 10) → xg x (y0 u) 0 0 159 [some (.ref 132), some (.int (nI ck8)), some (.int (nI len)), some (.int (bz b)), none] [.int (bz b2)] g3 := by
        intro b2 hb2
        refine ra_istore (L' := [_, _, _, _, _]) A d_De_readFrame_159 (by decide) rfl <| ra_aload_n A d_De_readFrame_161 rfl <| ra_getR A f_De_33 d_De_readFrame_162 (Nat.le_of_ble_eq_true rfl) rfl rfl rfl <| ra_aload_n A d_De_readFrame_165 rfl <| ra_getR A f_De_40 d_De_readFrame_166 (Nat.le_of_ble_eq_true rfl) rfl rfl rfl <| ra_getR A f_De_150 d_De_readFrame_169 (Nat.le_of_ble_eq_true rfl) rfl rfl rfl <| ra_iconst A 1 d_De_readFrame_172 (by decide) <| ?_
        refine ra_aaload (b := 139) A d_De_readFrame_173 (Nat.le_of_ble_eq_true rfl) rfl rfl i1 rfl ?_
        refine ra_iload_n A d_De_readFrame_174 rfl <| ra_aload_n A d_De_readFrame_175 rfl <| ra_getI A f_De_58 d_De_readFrame_176 (Nat.le_of_ble_eq_true rfl) rfl rfl <| ?_
        rw [show g3.1 132 14 = nI size by rw [k3 132 (by decide) (by decide) (by decide) (by decide)]; exact z1]
        refine ra_aload_n A d_De_readFrame_179 rfl <| ra_getR A f_De_40 d_De_readFrame_180 (Nat.le_of_ble_eq_true rfl) rfl rfl rfl <| ra_getI A f_De_68 d_De_readFrame_183 (Nat.le_of_ble_eq_true rfl) rfl rfl <| ?_
        rw [show g3.1 136 1 = nI (iDp F) by rw [k3 136 (by decide) (by decide) (by decide) (by decide)]; exact I1.2.2.1]
        refine ra_iload A d_De_readFrame_186 rfl <| ?_
        have at196 : ∀ d2 : Nat, d2 = (if c = 8 ∨ c = 10 then 1 else 0) → xg x (y0 u) 0 0 196 [some (.ref 132), some (.int (nI ck8)), some (.int (nI len)), some (.int (bz b)), some (.int (bz b2))] [.int (nI d2), .int (nI (iDp F)), .int (nI size), .int (nI len), .ref 139, .ref 134] g3 := by
          intro d2' hd2
          rw [← hd2] at hq
          have hd21 : d2' ≤ 1 := by rw [hd2]; split <;> omega
          refine ra_iadd A d_De_readFrame_196 <| ?_
          rw [nI_add]
          refine ra_callV (As := [_, _, _, _]) A ok_Sr_read l_De_154 im_Sr_read sl_Sr_read d_De_readFrame_197 (Nat.le_of_ble_eq_true rfl) rfl rfl rfl (Nat.le_of_ble_eq_true rfl) (xr_of at0 (by decide)) (s_Sr_read hlx (k := 139) (f := len) (Or.inr rfl) R3 (by omega) (by omega) (by omega) rfl (fun r1 p4 g4 e4 t4 R4 r4 => ?_) (fun e g4 e4 E => out (by rw [← hq, e4, rb_l, rb_l]) d3 P3 E))
          show xg x (y0 u) 0 0 200 _ _ g4
          rw [e4, rb_r] at hq
          have hp4 := rSub_g _ _ e4
          have d4 := d3.trans (t4.dl (Or.inr rfl))
          have P4 := t4.2.1.trans P3
          have k4 : ∀ k, k ≠ 133 → k ≠ 134 → k ≠ 135 → k ≠ 138 → k ≠ 139 → g4.1 k = g1.1 k := fun k a b c d e => (fr1 t4.1 (by simp; omega)).trans (k3 k a b c d)
          have j4 : g4.2 132 = ga.2 132 := (t4.1 132 (by decide)).2.trans j3
          have m138 : g4.1 138 = g3.1 138 := fr1 t4.1 (by decide)
          have l4 : ∀ i, i < len → g4.1 139 i = s1 i := fun i hi => by rw [t4.2.2 i hi, k3 139 (by decide) (by decide) (by decide) (by decide), n139]; exact a139 cC i hi
          refine ra_aload_n A d_De_readFrame_200 rfl <| ra_iload_n A d_De_readFrame_201 rfl <| ?_
          refine ra_callV (As := [_]) A ok_De_separate l_De_158 im_De_separate sl_De_separate d_De_readFrame_202 (Nat.le_of_ble_eq_true rfl) rfl rfl rfl (Nat.le_of_ble_eq_true rfl) (xr_of at0 (by decide)) (s_De_separate hlx (c := c) (size := size) (D := iDp F) (f := len) (r0 := r0) (r1 := r1) hc16 (by omega) hD24 (by omega) (by rw [k4 132 (by decide) (by decide) (by decide) (by decide) (by decide)]; exact c1) (by rw [k4 132 (by decide) (by decide) (by decide) (by decide) (by decide)]; exact z1) (by rw [k4 136 (by decide) (by decide) (by decide) (by decide) (by decide)]; exact I1.2.2.1) (fun r hr => by rw [m138]; exact r3 r hr) r4 (fun hokS g5 f5 lo5 r5 => ?_) (fun hno g5 E => out (by rw [← hq, if_neg hno, rb_l]) d4 P4 E))
          show xg x (y0 u) 0 0 205 _ _ g5
          rw [if_pos hokS, rb_r] at hq
          have k5 : ∀ k, k ≠ 138 → k ≠ 139 → g5.1 k = g4.1 k := fun k a b => fr1 f5 (by simp; omega)
          refine ra_aload_n A d_De_readFrame_205 rfl <| ra_getR A f_De_40 d_De_readFrame_206 (Nat.le_of_ble_eq_true rfl) rfl rfl rfl <| ra_getR A f_De_77 d_De_readFrame_209 (Nat.le_of_ble_eq_true rfl) rfl rfl rfl <| ra_iconst A 1 d_De_readFrame_212 (by decide) <| ra_dup2 A d_De_readFrame_213 rfl rfl <| ?_
          refine ra_iaload A d_De_readFrame_214 (Nat.le_of_ble_eq_true rfl) rfl i1 ?_
          rw [show g5.1 140 (Int32.toNatClampNeg 1) = nI len by rw [k5 140 (by decide) (by decide), k4 140 (by decide) (by decide) (by decide) (by decide) (by decide), n140]; exact a41 cC]
          refine ra_aload_n A d_De_readFrame_215 rfl <| ra_getI A f_De_58 d_De_readFrame_216 (Nat.le_of_ble_eq_true rfl) rfl rfl <| ?_
          rw [show g5.1 132 14 = nI size by rw [k5 132 (by decide) (by decide), k4 132 (by decide) (by decide) (by decide) (by decide) (by decide)]; exact z1]
          refine ra_iadd A d_De_readFrame_219 <| ?_
          rw [nI_add]
          refine ra_iastore A d_De_readFrame_220 (Nat.le_of_ble_eq_true rfl) rfl i1 ?_
          refine at221 _ p4 (fun i => (sep c (r0 i) (r1 i)).1, fun i => (sep c (r0 i) (r1 i)).2) _ _ ((d4.trans (FD.of f5 (by decide) (by decide))).I (by decide) (by decide)) ?_ (RD_I (R4.fr f5 (by decide) (by decide) (by decide)) (by decide) (by decide) (by decide)) (by omega) (fun j u v w => ?_) ?_ ?_ ?_ ?_ ?_ ⟨fun _ => xI_e, fun q => absurd cC q⟩ (fun i hi => ?_) (fun _ i hi => ?_) (fun r hr => ?_) (fun _ r hr => ?_) hq
          · rw [xI_k (by decide), k5 133 (by decide) (by decide)]; exact P4
          · rw [xI_k (by decide), k5 132 (by decide) (by decide), k4 132 (by decide) (by decide) (by decide) (by decide) (by decide)]; exact h1.2.2.1 j u v w
          · rw [xI_k (by decide), k5 132 (by decide) (by decide), k4 132 (by decide) (by decide) (by decide) (by decide) (by decide)]; exact w1
          · rw [xI_k (by decide), k5 132 (by decide) (by decide), k4 132 (by decide) (by decide) (by decide) (by decide) (by decide)]; exact z1
          · show g5.2 132 = _; rw [(f5 132 (by decide)).2]; exact j4
          · rw [xI_k (by decide), k5 136 (by decide) (by decide), k4 136 (by decide) (by decide) (by decide) (by decide) (by decide)]; exact fr1 h1.1 (by decide)
          · rw [xI_j (by decide), k5 140 (by decide) (by decide), k4 140 (by decide) (by decide) (by decide) (by decide) (by decide), n140]; exact a40
          · rw [xI_k (by decide), (lo5 i hi).1, m138]; exact l3 i hi
          · rw [xI_k (by decide), (lo5 i hi).2]; exact l4 i hi
          · rw [xI_k (by decide)]; exact (r5 r hr).1
          · rw [xI_k (by decide)]; exact (r5 r hr).2
        by_cases q : c = 8 ∨ c = 10
        · rw [decide_eq_true q] at hb2
          subst hb2
          refine ra_if_eq (q := 195) A d_De_readFrame_188 (by decide) (fun cc => absurd cc ((by decide))) (fun _ => ?_)
          refine ra_iconst A 1 d_De_readFrame_191 (by decide) <| ra_goto (q := 196) A d_De_readFrame_192 (by decide) <| ?_
          exact at196 1 (by rw [if_pos q])
        · rw [decide_eq_false q] at hb2
          subst hb2
          refine ra_if_eq (q := 195) A d_De_readFrame_188 (by decide) (fun _ => ?_) (fun cc => absurd (rfl) cc)
          refine ra_iconst A 0 d_De_readFrame_195 (by decide) <| ?_
          exact at196 0 (by rw [if_neg q])
      by_cases e8' : c = 8
      · refine ra_icmp_eq (q := 154) A d_De_readFrame_142 (by decide) (fun _ => ?_) (fun cc => absurd ((by rw [e8']; rfl)) cc)
        refine ra_iconst A 1 d_De_readFrame_154 (by decide) <| ra_goto (q := 159) A d_De_readFrame_155 (by decide) <| ?_
        exact at159 true (by rw [decide_eq_true (Or.inl e8')])
      · refine ra_icmp_eq (q := 154) A d_De_readFrame_142 (by decide) (fun cc => absurd cc (ne 8 (by decide) e8')) (fun _ => ?_)
        refine ra_aload_n A d_De_readFrame_145 rfl <| ra_getI A f_De_147 d_De_readFrame_146 (Nat.le_of_ble_eq_true rfl) rfl rfl <| ?_
        rw [c3]
        refine ra_bipush A 10 d_De_readFrame_149 (by decide) <| ?_
        by_cases e10 : c = 10
        · refine ra_icmp_ne (q := 158) A d_De_readFrame_151 (by decide) (fun cc => absurd ((by rw [e10]; rfl)) cc) (fun _ => ?_)
          refine ra_iconst A 1 d_De_readFrame_154 (by decide) <| ra_goto (q := 159) A d_De_readFrame_155 (by decide) <| ?_
          exact at159 true (by rw [decide_eq_true (Or.inr e10)])
        · refine ra_icmp_ne (q := 158) A d_De_readFrame_151 (by decide) (fun _ => ?_) (fun cc => absurd cc (ne 10 (by decide) e10))
          refine ra_iconst A 0 d_De_readFrame_158 (by decide) <| ?_
          exact at159 false (by rw [decide_eq_false (fun z => z.elim e8' e10)])
    by_cases q : c = 9
    · rw [decide_eq_true q] at hb
      subst hb
      refine ra_if_eq (q := 120) A d_De_readFrame_113 (by decide) (fun cc => absurd cc ((by decide))) (fun _ => ?_)
      refine ra_iconst A 1 d_De_readFrame_116 (by decide) <| ra_goto (q := 121) A d_De_readFrame_117 (by decide) <| ?_
      exact at121 1 (by rw [if_pos q])
    · rw [decide_eq_false q] at hb
      subst hb
      refine ra_if_eq (q := 120) A d_De_readFrame_113 (by decide) (fun _ => ?_) (fun cc => absurd (rfl) cc)
      refine ra_iconst A 0 d_De_readFrame_120 (by decide) <| ?_
      exact at121 0 (by rw [if_neg q])
  by_cases q : c = 9
  · refine ra_icmp_ne (q := 85) A d_De_readFrame_78 (by decide) (fun cc => absurd ((by rw [q]; rfl)) cc) (fun _ => ?_)
    refine ra_iconst A 1 d_De_readFrame_81 (by decide) <| ra_goto (q := 86) A d_De_readFrame_82 (by decide) <| ?_
    exact at86 true (by rw [decide_eq_true q])
  · refine ra_icmp_ne (q := 85) A d_De_readFrame_78 (by decide) (fun _ => ?_) (fun cc => absurd cc (ne 9 (by decide) q))
    refine ra_iconst A 0 d_De_readFrame_85 (by decide) <| ?_
    exact at86 false (by rw [decide_eq_false q])
end S99e
