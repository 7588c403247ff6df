/-! SoundStreamModel: encode -/
theorem start_bits : bitsL 32 1716281667 = bitsL 8 102 ++ bitsL 8 76 ++ bitsL 8 97 ++ bitsL 8 67 := by decide +kernel
theorem block_bits : bitsL 32 2147483682 = bitsL 8 128 ++ bitsL 24 34 := by decide +kernel
theorem bitsL_congr {x y : Int64} : ∀ n, (∀ i, i < n → lb x i = lb y i) → bitsL n x = bitsL n y
  | 0, _ => rfl
  | n + 1, h => by rw [bitsL, bitsL, h n (by omega), bitsL_congr n (fun i hi => h i (by omega))]
def wsel (v : md_V) (k : Nat) : Int32 := if k = 0 then v.1 else if k = 1 then v.2.1 else if k = 2 then v.2.2.1 else v.2.2.2
theorem ishr_get (x : Int32) {s i : Nat} (hs : s < 32) (hi : s + i < 32) : (x >>> (nI s &&& 31)).toBitVec.getLsbD i = x.toBitVec.getLsbD (s + i) := by
  rw [Int32.toBitVec_shiftRight]
  unfold BitVec.sshiftRight'
  rw [s_l s hs, BitVec.getLsbD_sshiftRight]
  simp [hi]
  omega
theorem lshr_get (x : Int64) {s i : Nat} (hi : s + i < 64) : (x >>> ((nI s).toInt64 &&& 63)).toBitVec.getLsbD i = x.toBitVec.getLsbD (s + i) := by
  rw [Int64.toBitVec_shiftRight]
  unfold BitVec.sshiftRight'
  rw [lb_sh s (by omega), BitVec.getLsbD_sshiftRight]
  simp [hi]
  omega
theorem sumL_get (v : md_V) {b i : Nat} (hi : i < 64) : (sumL v b).toBitVec.getLsbD i = if i < 32 then (if b = 0 then v.1 else v.2.2.1).toBitVec.getLsbD i else (if b = 0 then v.2.1 else v.2.2.2).toBitVec.getLsbD (i - 32) := by
  unfold sumL
  generalize (if b = 0 then v.1 else v.2.2.1) = lo
  generalize (if b = 0 then v.2.1 else v.2.2.2) = hi'
  rw [Int64.toBitVec_or, BitVec.getLsbD_or, Int64.toBitVec_and, BitVec.getLsbD_and, Int64.toBitVec_shiftLeft]
  have e1 : (((32 : Int32).toInt64 &&& 63 : Int64).toBitVec.smod 64) = 32#64 := by decide
  have e2 : (4294967295 : Int64).toBitVec.getLsbD i = decide (i < 32) := by
    show (BitVec.ofNat 64 4294967295).getLsbD i = _
    rw [BitVec.getLsbD_ofNat, show 4294967295 = 2 ^ 32 - 1 from rfl, Nat.testBit_two_pow_sub_one]
    simp [hi]
  rw [e1, e2, Int32.toBitVec_toInt64, Int32.toBitVec_toInt64, BitVec.shiftLeft_eq', BitVec.getLsbD_shiftLeft, BitVec.getLsbD_signExtend, BitVec.getLsbD_signExtend, show (32#64).toNat = 32 from rfl]
  by_cases c : i < 32
  · simp [c, hi]
  · simp [c, hi]
    rw [if_pos (by omega), decide_eq_true (show i - 32 < 64 by omega), Bool.true_and]
theorem sum_byte (v : md_V) {k : Nat} (hk : k < 16) : bitsL 8 ((wsel v (k / 4) >>> (nI (8 * (k % 4)) &&& 31)) &&& 255).toInt64 = bitsL 8 ((if k / 8 = 0 then sumL v 0 else sumL v 1) >>> ((nI (8 * (k % 8))).toInt64 &&& 63)) := by
  refine bitsL_congr 8 (fun i hi => ?_)
  have e255 : (255 : Int32).toBitVec.getLsbD i = true := by
    have : i = 0 ∨ i = 1 ∨ i = 2 ∨ i = 3 ∨ i = 4 ∨ i = 5 ∨ i = 6 ∨ i = 7 := by omega
    rcases this with rfl | rfl | rfl | rfl | rfl | rfl | rfl | rfl <;> rfl
  rw [lb_get _ (by omega), lb_get _ (by omega), Int32.toBitVec_toInt64, BitVec.getLsbD_signExtend, Int32.toBitVec_and, BitVec.getLsbD_and, e255, Bool.and_true, ishr_get _ (by omega) (by omega), lshr_get _ (by omega)]
  rw [show (decide (i < 64)) = true by simp; omega, Bool.true_and, if_pos (by omega)]
  by_cases c8 : k / 8 = 0
  · rw [if_pos c8, sumL_get v (by omega), if_pos rfl, if_pos rfl]
    unfold wsel
    by_cases c4 : k < 4
    · rw [if_pos (by omega), if_pos (by omega)]
      congr 1
      omega
    · rw [if_neg (by omega), if_pos (by omega), if_neg (by omega)]
      congr 1
      omega
  · rw [if_neg c8, sumL_get v (by omega), if_neg (show ¬ (1 : Nat) = 0 by decide), if_neg (show ¬ (1 : Nat) = 0 by decide)]
    unfold wsel
    by_cases c12 : k < 12
    · rw [if_neg (by omega), if_neg (by omega), if_pos (by omega), if_pos (by omega)]
      congr 1
      omega
    · rw [if_neg (by omega), if_neg (by omega), if_neg (by omega), if_neg (by omega)]
      congr 1
      omega
theorem maxF_s {f : Nat → Nat} : ∀ j, maxF f (j + 1) = max (maxF f j) (f j)
  | 0 => by rw [maxF, maxF, Nat.zero_max]
  | j + 1 => rfl
theorem fm_fr {S : List Nat} {h h' : xw_H} (f : fr S h h') (h1 : 141 ∉ S) : fm S [] false h h' := ⟨fun k hk _ => f k hk, fun j _ => by rw [fr1 f h1], fun _ => (f 141 h1).2⟩
/-- the model's form and rows -/
def MB (h : xw_H) (C D b r N : Nat) (s0 s1 : Nat → Int32) : Prop := (h.1 141 3 = nI C ∧ h.1 141 4 = nI D ∧ h.1 141 5 = nI b ∧ h.1 141 6 = nI r ∧ h.1 145 0 = nI N) ∧ RM h s0 s1
theorem MB.fm {h g : xw_H} {C D b r N : Nat} {s0 s1 : Nat → Int32} {T F : List Nat} {z : Bool} (x : MB h C D b r N s0 s1) (f : fm T F z h g) (h1 : 144 ∉ T) (h2 : 145 ∉ T) (h3 : ∀ j ∈ [3, 4, 5, 6], j ∉ F) : MB g C D b r N s0 s1 := by
  unfold MB RM
  rw [f.2.1 3 (h3 3 (by decide)), f.2.1 4 (h3 4 (by decide)), f.2.1 5 (h3 5 (by decide)), f.2.1 6 (h3 6 (by decide)), fmk f h1 (by decide), fmk f h2 (by decide)]
  exact x
theorem EB.IB {C D b r N : Nat} {s0 s1 : Nat → Int32} (x : EB C D b r N s0 s1) {k : Nat} (hk : k * b < N) : ∀ c, (c = 0 ∨ (C ≠ 1 ∧ isC c)) → IB (sg s0 s1 (k * b)) (fsz N b k) D c := by
  obtain ⟨⟨c1, c2, d1, d2, b1, b2, -, -⟩, h0, h1⟩ := x
  have hz := fsz_b hk (by omega) b2
  intro c hc j hj h0j
  rcases hc with rfl | ⟨q, hc⟩
  · obtain rfl : j = 0 := h0j rfl
    exact sg_inD (w := 0) h0 (fun q => absurd rfl q) (by omega) d2 hz.2.2
  · exact sg_inD h0 (fun _ => h1 q) (by omega) d2 hz.2.2
def MEL : List Nat := [146, 147, 148, 149, 150, 151]
section S89
variable {u : xu_T} {l : Launch} {KK : State → Prop} {h : xw_H} {X : xc_R → xw_H → Nat → Nat → Prop}
theorem s_Mo_encode (K : xk_ok u KK) (MCh : MC h) {C D b r N : Nat} {s0 s1 : Nat → Int32} {v : Bool} (hE : ¬ g_uneven h → EB C D b r N s0 s1) (hM : MB h C D b r N s0 s1) (hR : SR h)
    (hY : g_uneven h → X (.inl (some (.int 0))) (g_thr h 1) 0 0)
    (hX : ¬ g_uneven h → ∀ h', fm MEL [2, 12, 15, 18, 19, 20] true h h' → h'.1 141 2 = 0 → h'.1 141 12 = nI ((est s0 s1 C D b r N v).length / 8) → h'.1 141 15 = nI (fN N b) → SR h' → (∀ j, j < (est s0 s1 C D b r N v).length → sb h' j = (est s0 s1 C D b r N v).getD j false) → (∀ j, j < fN N b → ∀ t, t < 9 → h'.1 149 (9 * j + t) = (ntf s0 s1 C D b N v j).getD t 0) → X (.inl (some (.int (nI ((est s0 s1 C D b r N v).length / 8))))) h' 0 0) : xm_M l (y0 u) KK m_Mo_encode [.ref 141, .int (bz v)] h X := by
  refine xm_of [none, none, none] (by simp) (Nat.le_of_ble_eq_true rfl) (by decide) (fun x at0 => ?_)
  have A := xa_of at0 K
  have ow := at0.2.2.2.2.1
  have i0 : vp_in (0 : Int32) 2 := vp_in_nI (n := 0) (by decide) (by decide)
  refine ra_aload_n A d_Mo_encode_0 rfl <| ra_aload_n A d_Mo_encode_1 rfl <| ?_
  by_cases gu : g_uneven h
  · refine ra_callV (As := []) A ok_Mo_isUneven l_Mo_234 im_Mo_isUneven sl_Mo_isUneven d_Mo_encode_2 (Nat.le_of_ble_eq_true rfl) rfl rfl rfl (Nat.le_of_ble_eq_true rfl) (xr_of at0 (by decide)) (s_Mo_isUneven K (fun _ => ?_) (fun q => absurd gu q))
    show xg x (y0 u) 0 0 5 _ _ h
    refine ra_if_eq (q := 12) A d_Mo_encode_5 (by decide) (fun cc => absurd cc ((by decide))) (fun _ => ?_)
    refine ra_iconst A 1 d_Mo_encode_8 (by decide) <| ra_goto (q := 13) A d_Mo_encode_9 (by decide) <| ra_putI (ty := .int) A f_Mo_197 rfl rfl (by decide +kernel) rfl rfl d_Mo_encode_13 (Nat.le_of_ble_eq_true rfl) rfl rfl <| ra_aload_n A d_Mo_encode_16 rfl <| ra_getI A f_Mo_197 d_Mo_encode_17 (Nat.le_of_ble_eq_true rfl) rfl rfl <| ?_
    rw [xI_e]
    refine ra_if_le (q := 25) A d_Mo_encode_20 (by decide) (fun cc => absurd cc ((by decide))) (fun _ => ?_)
    refine ra_iconst A 0 d_Mo_encode_23 (by decide) <| ?_
    exact ra_iret A ow d_Mo_encode_24 (hY gu)
  have hE := hE gu
  have hX := hX gu
  obtain ⟨⟨c1, c2, d1, d2, b1, b2, r2, n2⟩, hD0, hD1⟩ := id hE
  have hfN := fN_le b1 n2
  have hsl := info_len (b := b) (lo := minF (fby s0 s1 C D b N v) (fN N b)) (hi := maxF (fby s0 s1 C D b N v) (fN N b)) (r := r) (C := C) (D := D) (N := N) (L0 := sml C D N s0 s1 0) (L1 := sml C D N s0 s1 1)
  have hel : (est s0 s1 C D b r N v).length = 336 + (frms s0 s1 C D b N v (fN N b)).length := by unfold est; rw [List.length_append, hsl]
  refine ra_callV (As := []) A ok_Mo_isUneven l_Mo_234 im_Mo_isUneven sl_Mo_isUneven d_Mo_encode_2 (Nat.le_of_ble_eq_true rfl) rfl rfl rfl (Nat.le_of_ble_eq_true rfl) (xr_of at0 (by decide)) (s_Mo_isUneven K (fun q => absurd q gu) (fun _ => ?_))
  show xg x (y0 u) 0 0 5 _ _ h
  refine ra_if_eq (q := 12) A d_Mo_encode_5 (by decide) (fun _ => ?_) (fun cc => absurd (rfl) cc)
  refine ra_iconst A 0 d_Mo_encode_12 (by decide) <| ra_putI (ty := .int) A f_Mo_197 rfl rfl (by decide +kernel) rfl rfl d_Mo_encode_13 (Nat.le_of_ble_eq_true rfl) rfl rfl <| ra_aload_n A d_Mo_encode_16 rfl <| ra_getI A f_Mo_197 d_Mo_encode_17 (Nat.le_of_ble_eq_true rfl) rfl rfl <| ?_
  rw [xI_e]
  refine ra_if_le (q := 25) A d_Mo_encode_20 (by decide) (fun _ => ?_) (fun cc => absurd ((by decide)) cc)
  refine ra_aload_n A d_Mo_encode_25 rfl <| ra_iconst A 0 d_Mo_encode_26 (by decide) <| ra_putI (ty := .int) A f_Mo_331 rfl rfl (by decide +kernel) rfl rfl d_Mo_encode_27 (Nat.le_of_ble_eq_true rfl) rfl rfl <| ra_aload_n A d_Mo_encode_30 rfl <| ra_ldc2 A k_Mo_348 d_Mo_encode_31 <| ra_putJ A f_Mo_244 rfl rfl (by decide +kernel) d_Mo_encode_34 (Nat.le_of_ble_eq_true rfl) rfl rfl <| ra_iconst A 0 d_Mo_encode_37 (by decide) <| ra_istore_n (L' := [_, _, _, _, _]) A d_Mo_encode_38 (by decide) rfl <| ?_
  have fa : fm MEL [2, 12, 15, 18, 19, 20] true h (xw_J (xw_I (xw_I h 141 2 0) 141 15 0) 141 13 336) := ((fm_F (by decide)).trans (fm_F (by decide))).trans fm_J
  have a2 : (xw_J (xw_I (xw_I h 141 2 0) 141 15 0) 141 13 336).1 141 2 = 0 := by rw [xJ_1, xI_j (by decide), xI_e]
  have a15 : (xw_J (xw_I (xw_I h 141 2 0) 141 15 0) 141 13 336).1 141 15 = nI 0 := by rw [xJ_1, xI_e]; rfl
  have a13 : (xw_J (xw_I (xw_I h 141 2 0) 141 15 0) 141 13 336).2 141 13 = lN 336 := xJ_e
  have aR : SR (xw_J (xw_I (xw_I h 141 2 0) 141 15 0) 141 13 336) := fun i hi => by rw [xJ_1, xI_k (by decide), xI_k (by decide)]; exact hR i hi
  generalize xw_J (xw_I (xw_I h 141 2 0) 141 15 0) 141 13 336 = ga at fa a2 a15 a13 aR ⊢
  have G : ∀ g, fm MEL [2, 12, 15, 18, 19, 20] true h g → MB g C D b r N s0 s1 := fun g f => hM.fm f (by decide) (by decide) (by decide)
  rw [show (0 : Int32) = nI (0 * b) by rw [Nat.zero_mul]; rfl]
  refine lp_up (σ := xw_H) (W := fun k g => xg x (y0 u) 0 0 39 [some (.ref 141), some (.int (bz v)), some (.int (nI (k * b))), none, none] [] g) (I := fun k g => fm MEL [2, 12, 15, 18, 19, 20] true h g ∧ g.1 141 2 = 0 ∧ g.1 141 15 = nI k ∧ SW 336 (frms s0 s1 C D b N v k) ga g ∧ ∀ j, j < k → ∀ t, t < 9 → g.1 149 (9 * j + t) = (ntf s0 s1 C D b N v j).getD t 0) (fN N b) ?_ ?_ 0 ga (Nat.zero_le _) ⟨fa, a2, a15, SW.nil a13 aR, fun j hj => by omega⟩
  · rintro g ⟨hf, g2, gk, hW, hN⟩
    have hlen := hE.len (v := v) (Nat.le_refl _)
    have h8 := frms_8 (s0 := s0) (s1 := s1) (C := C) (D := D) (b := b) (N := N) (v := v) (fN N b)
    have hge := fN_ge (N := N) (b := b) (k := fN N b) (by omega) (Nat.le_refl _)
    have hlt : fN N b * b ≤ 75 * 1024 := Nat.mul_le_mul hfN b2
    have hfb : ∀ j, j < fN N b → fby s0 s1 C D b N v j < 2 ^ 31 := by
      intro j hj
      have h1 : (frms s0 s1 C D b N v (j + 1)).length ≤ 66000 := hE.len hj
      rw [frms, List.length_append] at h1
      unfold fby
      omega
    have hmm : ∀ j, j ≤ fN N b → minF (fby s0 s1 C D b N v) j < 2 ^ 31 ∧ maxF (fby s0 s1 C D b N v) j < 2 ^ 31 := by
      intro j hj
      induction j with
      | zero => exact ⟨by simp [minF], by simp [maxF]⟩
      | succ j ih =>
        have h1 := ih (by omega)
        have h2 := hfb j (by omega)
        cases j with
        | zero => exact ⟨h2, h2⟩
        | succ j =>
          rw [minF, maxF]
          omega
    refine ra_iload_n A d_Mo_encode_39 rfl <| ra_aload_n A d_Mo_encode_40 rfl <| ra_getR A f_Mo_161 d_Mo_encode_41 (Nat.le_of_ble_eq_true rfl) rfl rfl rfl <| ra_iconst A 0 d_Mo_encode_44 (by decide) <| ?_
    refine ra_iaload A d_Mo_encode_45 (Nat.le_of_ble_eq_true rfl) rfl i0 ?_
    rw [show g.1 145 (Int32.toNatClampNeg 0) = nI N from (G g hf).1.2.2.2.2]
    refine ra_icmp_ge (q := 95) A d_Mo_encode_46 (by decide) (fun _ => ?_) (fun cc => absurd (nI_le hge (by omega)) cc)
    refine ra_aload_n A d_Mo_encode_95 rfl <| ra_aload_n A d_Mo_encode_96 rfl <| ra_getJ A f_Mo_244 d_Mo_encode_97 (Nat.le_of_ble_eq_true rfl) rfl rfl <| ?_
    rw [hW.1]
    refine ra_ldc2 A k_Mo_222 d_Mo_encode_100 <| ra_ldiv A d_Mo_encode_103 (by decide) <| ?_
    rw [show lN (336 + (frms s0 s1 C D b N v (fN N b)).length) / 8 = lN ((336 + (frms s0 s1 C D b N v (fN N b)).length) / 8) from pk_lDiv (b := 8) (by omega) (by decide) (by decide)]
    refine ra_l2i A d_Mo_encode_104 <| ?_
    rw [lN_i, ← hel]
    refine ra_putI (ty := .int) A f_Mo_354 rfl rfl (by decide +kernel) rfl rfl d_Mo_encode_105 (Nat.le_of_ble_eq_true rfl) rfl rfl <| ra_iconst A 0 d_Mo_encode_108 (by decide) <| ra_istore_n (L' := [_, _, _, _, _]) A d_Mo_encode_109 (by decide) rfl <| ra_iconst A 0 d_Mo_encode_110 (by decide) <| ra_istore_n (L' := [_, _, _, _, _]) A d_Mo_encode_111 (by decide) rfl <| ra_iconst A 0 d_Mo_encode_112 (by decide) <| ra_istore (L' := [_, _, _, _, _]) A d_Mo_encode_113 (by decide) rfl <| ?_
    have fb : fm MEL [2, 12, 15, 18, 19, 20] true h (xw_I g 141 12 (nI ((est s0 s1 C D b r N v).length / 8))) := hf.trans (fm_F (by decide))
    have b2' : (xw_I g 141 12 (nI ((est s0 s1 C D b r N v).length / 8))).1 141 2 = 0 := by rw [xI_j (by decide)]; exact g2
    have b12 : (xw_I g 141 12 (nI ((est s0 s1 C D b r N v).length / 8))).1 141 12 = nI ((est s0 s1 C D b r N v).length / 8) := xI_e
    have b15 : (xw_I g 141 12 (nI ((est s0 s1 C D b r N v).length / 8))).1 141 15 = nI (fN N b) := by rw [xI_j (by decide)]; exact gk
    have bN : ∀ j, j < fN N b → ∀ t, t < 9 → (xw_I g 141 12 (nI ((est s0 s1 C D b r N v).length / 8))).1 149 (9 * j + t) = (ntf s0 s1 C D b N v j).getD t 0 := fun j hj t ht => by rw [xI_k (by decide)]; exact hN j hj t ht
    have bW : SW 336 (frms s0 s1 C D b N v (fN N b)) ga (xw_I g 141 12 (nI ((est s0 s1 C D b r N v).length / 8))) := hW.fm rfl (xI_k (by decide))
    generalize xw_I g 141 12 (nI ((est s0 s1 C D b r N v).length / 8)) = gb at fb b2' b12 b15 bN bW ⊢
    clear hf g2 gk hW hN
    refine lp_up (σ := Unit) (W := fun j _ => xg x (y0 u) 0 0 115 [some (.ref 141), some (.int (bz v)), some (.int (nI (minF (fby s0 s1 C D b N v) j))), some (.int (nI (maxF (fby s0 s1 C D b N v) j))), some (.int (nI j))] [] gb) (I := fun _ _ => True) (fN N b) ?_ ?_ 0 () (Nat.zero_le _) trivial
    · rintro - -
      refine ra_iload A d_Mo_encode_115 rfl <| ra_aload_n A d_Mo_encode_117 rfl <| ra_getI A f_Mo_331 d_Mo_encode_118 (Nat.le_of_ble_eq_true rfl) rfl rfl <| ?_
      rw [b15]
      refine ra_icmp_ge (q := 201) A d_Mo_encode_121 (by decide) (fun _ => ?_) (fun cc => absurd (Int32.le_refl _) cc)
      refine ra_aload_n A d_Mo_encode_201 rfl <| ra_lconst A 0 d_Mo_encode_202 (by decide) <| ra_putJ A f_Mo_244 rfl rfl (by decide +kernel) d_Mo_encode_203 (Nat.le_of_ble_eq_true rfl) rfl rfl <| ?_
      have fcc : fm MEL [2, 12, 15, 18, 19, 20] true h (xw_J gb 141 13 0) := fb.trans fm_J
      have cR : SR (xw_J gb 141 13 0) := fun i hi => by rw [xJ_1]; exact bW.sr i hi
      have W0 : SW 0 [] (xw_J gb 141 13 0) (xw_J gb 141 13 0) := SW.nil xJ_e cR
      have cb1 : (xw_J gb 141 13 0).1 = gb.1 := xJ_1
      have mp : ∀ {g g' : xw_H}, fm [148] [] true g g' → fm [146, 147, 148] [] true g g' := fun f => f.mono (by decide) (by decide) (fun q => q)
      have up : ∀ {g : xw_H}, fm [146, 147, 148] [] true (xw_J gb 141 13 0) g → fm MEL [2, 12, 15, 18, 19, 20] true h g := fun f => fcc.trans (f.mono (by decide) (by decide) (fun q => q))
      have F0 : fm [146, 147, 148] [] true (xw_J gb 141 13 0) (xw_J gb 141 13 0) := fm.rfl
      have hq1 : minF (fby s0 s1 C D b N v) (fN N b) < 2 ^ 31 := (hmm (fN N b) (Nat.le_refl _)).1
      have hq2 : maxF (fby s0 s1 C D b N v) (fN N b) < 2 ^ 31 := (hmm (fN N b) (Nat.le_refl _)).2
      generalize hlo : minF (fby s0 s1 C D b N v) (fN N b) = lo at hq1 ⊢
      generalize hhi : maxF (fby s0 s1 C D b N v) (fN N b) = hi at hq2 ⊢
      refine ra_aload_n A d_Mo_encode_206 rfl <| ra_ldc2 A k_Mo_357 d_Mo_encode_207 <| ra_bipush A 32 d_Mo_encode_210 (by decide) <| ?_
      refine ra_callV (As := [_, _]) A ok_Mo_put l_Mo_306 im_Mo_put sl_Mo_put d_Mo_encode_212 (Nat.le_of_ble_eq_true rfl) rfl rfl rfl (Nat.le_of_ble_eq_true rfl) (xr_of at0 (by decide)) (s_Mo_put K (n := 32) W0.sr W0.1 (by simp only [List.length_append, bitsL_len, List.length_nil]; omega) (fun g1 f1 W1 => ?_))
      show xg x (y0 u) 0 0 215 _ _ g1
      have F1 := F0.trans (mp f1)
      have W1 := W0.trans W1
      rw [List.nil_append, start_bits] at W1
      refine ra_aload_n A d_Mo_encode_215 rfl <| ra_ldc2 A k_Mo_359 d_Mo_encode_216 <| ra_bipush A 32 d_Mo_encode_219 (by decide) <| ?_
      refine ra_callV (As := [_, _]) A ok_Mo_put l_Mo_306 im_Mo_put sl_Mo_put d_Mo_encode_221 (Nat.le_of_ble_eq_true rfl) rfl rfl rfl (Nat.le_of_ble_eq_true rfl) (xr_of at0 (by decide)) (s_Mo_put K (n := 32) W1.sr W1.1 (by simp only [List.length_append, bitsL_len, List.length_nil]; omega) (fun g2 f2 W2 => ?_))
      show xg x (y0 u) 0 0 224 _ _ g2
      have F2 := F1.trans (mp f2)
      have W2 := W1.trans W2
      rw [block_bits] at W2
      refine ra_aload_n A d_Mo_encode_224 rfl <| ra_aload_n A d_Mo_encode_225 rfl <| ra_getI A f_Mo_152 d_Mo_encode_226 (Nat.le_of_ble_eq_true rfl) rfl rfl <| ?_
      rw [(G _ (up F2)).1.2.2.1]
      refine ra_i2l A d_Mo_encode_229 <| ?_
      rw [nI_l (by omega)]
      refine ra_bipush A 16 d_Mo_encode_230 (by decide) <| ?_
      refine ra_callV (As := [_, _]) A ok_Mo_put l_Mo_306 im_Mo_put sl_Mo_put d_Mo_encode_232 (Nat.le_of_ble_eq_true rfl) rfl rfl rfl (Nat.le_of_ble_eq_true rfl) (xr_of at0 (by decide)) (s_Mo_put K (n := 16) W2.sr W2.1 (by simp only [List.length_append, bitsL_len, List.length_nil]; omega) (fun g3 f3 W3 => ?_))
      show xg x (y0 u) 0 0 235 _ _ g3
      have F3 := F2.trans (mp f3)
      have W3 := W2.trans W3
      refine ra_aload_n A d_Mo_encode_235 rfl <| ra_aload_n A d_Mo_encode_236 rfl <| ra_getI A f_Mo_152 d_Mo_encode_237 (Nat.le_of_ble_eq_true rfl) rfl rfl <| ?_
      rw [(G _ (up F3)).1.2.2.1]
      refine ra_i2l A d_Mo_encode_240 <| ?_
      rw [nI_l (by omega)]
      refine ra_bipush A 16 d_Mo_encode_241 (by decide) <| ?_
      refine ra_callV (As := [_, _]) A ok_Mo_put l_Mo_306 im_Mo_put sl_Mo_put d_Mo_encode_243 (Nat.le_of_ble_eq_true rfl) rfl rfl rfl (Nat.le_of_ble_eq_true rfl) (xr_of at0 (by decide)) (s_Mo_put K (n := 16) W3.sr W3.1 (by simp only [List.length_append, bitsL_len, List.length_nil]; omega) (fun g4 f4 W4 => ?_))
      show xg x (y0 u) 0 0 246 _ _ g4
      have F4 := F3.trans (mp f4)
      have W4 := W3.trans W4
      refine ra_aload_n A d_Mo_encode_246 rfl <| ra_iload_n A d_Mo_encode_247 rfl <| ra_i2l A d_Mo_encode_248 <| ?_
      rw [nI_l (by omega)]
      refine ra_bipush A 24 d_Mo_encode_249 (by decide) <| ?_
      refine ra_callV (As := [_, _]) A ok_Mo_put l_Mo_306 im_Mo_put sl_Mo_put d_Mo_encode_251 (Nat.le_of_ble_eq_true rfl) rfl rfl rfl (Nat.le_of_ble_eq_true rfl) (xr_of at0 (by decide)) (s_Mo_put K (n := 24) W4.sr W4.1 (by simp only [List.length_append, bitsL_len, List.length_nil]; omega) (fun g5 f5 W5 => ?_))
      show xg x (y0 u) 0 0 254 _ _ g5
      have F5 := F4.trans (mp f5)
      have W5 := W4.trans W5
      refine ra_aload_n A d_Mo_encode_254 rfl <| ra_iload_n A d_Mo_encode_255 rfl <| ra_i2l A d_Mo_encode_256 <| ?_
      rw [nI_l (by omega)]
      refine ra_bipush A 24 d_Mo_encode_257 (by decide) <| ?_
      refine ra_callV (As := [_, _]) A ok_Mo_put l_Mo_306 im_Mo_put sl_Mo_put d_Mo_encode_259 (Nat.le_of_ble_eq_true rfl) rfl rfl rfl (Nat.le_of_ble_eq_true rfl) (xr_of at0 (by decide)) (s_Mo_put K (n := 24) W5.sr W5.1 (by simp only [List.length_append, bitsL_len, List.length_nil]; omega) (fun g6 f6 W6 => ?_))
      show xg x (y0 u) 0 0 262 _ _ g6
      have F6 := F5.trans (mp f6)
      have W6 := W5.trans W6
      refine ra_aload_n A d_Mo_encode_262 rfl <| ra_aload_n A d_Mo_encode_263 rfl <| ra_getI A f_Mo_155 d_Mo_encode_264 (Nat.le_of_ble_eq_true rfl) rfl rfl <| ?_
      rw [(G _ (up F6)).1.2.2.2.1]
      refine ra_i2l A d_Mo_encode_267 <| ?_
      rw [nI_l (by omega)]
      refine ra_bipush A 20 d_Mo_encode_268 (by decide) <| ?_
      refine ra_callV (As := [_, _]) A ok_Mo_put l_Mo_306 im_Mo_put sl_Mo_put d_Mo_encode_270 (Nat.le_of_ble_eq_true rfl) rfl rfl rfl (Nat.le_of_ble_eq_true rfl) (xr_of at0 (by decide)) (s_Mo_put K (n := 20) W6.sr W6.1 (by simp only [List.length_append, bitsL_len, List.length_nil]; omega) (fun g7 f7 W7 => ?_))
      show xg x (y0 u) 0 0 273 _ _ g7
      have F7 := F6.trans (mp f7)
      have W7 := W6.trans W7
      refine ra_aload_n A d_Mo_encode_273 rfl <| ra_aload_n A d_Mo_encode_274 rfl <| ra_getI A f_Mo_145 d_Mo_encode_275 (Nat.le_of_ble_eq_true rfl) rfl rfl <| ?_
      rw [(G _ (up F7)).1.1]
      refine ra_i2l A d_Mo_encode_278 <| ?_
      rw [nI_l (by omega)]
      refine ra_lconst A 1 d_Mo_encode_279 (by decide) <| ra_lsub A d_Mo_encode_280 <| ?_
      rw [show lN C - 1 = lN (C - 1) from lN_sub (b := 1) c1]
      refine ra_iconst A 3 d_Mo_encode_281 (by decide) <| ?_
      refine ra_callV (As := [_, _]) A ok_Mo_put l_Mo_306 im_Mo_put sl_Mo_put d_Mo_encode_282 (Nat.le_of_ble_eq_true rfl) rfl rfl rfl (Nat.le_of_ble_eq_true rfl) (xr_of at0 (by decide)) (s_Mo_put K (n := 3) W7.sr W7.1 (by simp only [List.length_append, bitsL_len, List.length_nil]; omega) (fun g8 f8 W8 => ?_))
      show xg x (y0 u) 0 0 285 _ _ g8
      have F8 := F7.trans (mp f8)
      have W8 := W7.trans W8
      refine ra_aload_n A d_Mo_encode_285 rfl <| ra_aload_n A d_Mo_encode_286 rfl <| ra_getI A f_Mo_149 d_Mo_encode_287 (Nat.le_of_ble_eq_true rfl) rfl rfl <| ?_
      rw [(G _ (up F8)).1.2.1]
      refine ra_i2l A d_Mo_encode_290 <| ?_
      rw [nI_l (by omega)]
      refine ra_lconst A 1 d_Mo_encode_291 (by decide) <| ra_lsub A d_Mo_encode_292 <| ?_
      rw [show lN D - 1 = lN (D - 1) from lN_sub (b := 1) (by omega)]
      refine ra_iconst A 5 d_Mo_encode_293 (by decide) <| ?_
      refine ra_callV (As := [_, _]) A ok_Mo_put l_Mo_306 im_Mo_put sl_Mo_put d_Mo_encode_294 (Nat.le_of_ble_eq_true rfl) rfl rfl rfl (Nat.le_of_ble_eq_true rfl) (xr_of at0 (by decide)) (s_Mo_put K (n := 5) W8.sr W8.1 (by simp only [List.length_append, bitsL_len, List.length_nil]; omega) (fun g9 f9 W9 => ?_))
      show xg x (y0 u) 0 0 297 _ _ g9
      have F9 := F8.trans (mp f9)
      have W9 := W8.trans W9
      refine ra_aload_n A d_Mo_encode_297 rfl <| ra_aload_n A d_Mo_encode_298 rfl <| ra_getR A f_Mo_161 d_Mo_encode_299 (Nat.le_of_ble_eq_true rfl) rfl rfl rfl <| ra_iconst A 0 d_Mo_encode_302 (by decide) <| ?_
      refine ra_iaload A d_Mo_encode_303 (Nat.le_of_ble_eq_true rfl) rfl i0 ?_
      rw [show g9.1 145 (Int32.toNatClampNeg 0) = nI N from (G _ (up F9)).1.2.2.2.2]
      refine ra_i2l A d_Mo_encode_304 <| ?_
      rw [nI_l (by omega)]
      refine ra_bipush A 36 d_Mo_encode_305 (by decide) <| ?_
      refine ra_callV (As := [_, _]) A ok_Mo_put l_Mo_306 im_Mo_put sl_Mo_put d_Mo_encode_307 (Nat.le_of_ble_eq_true rfl) rfl rfl rfl (Nat.le_of_ble_eq_true rfl) (xr_of at0 (by decide)) (s_Mo_put K (n := 36) W9.sr W9.1 (by simp only [List.length_append, bitsL_len, List.length_nil]; omega) (fun g10 f10 W10 => ?_))
      show xg x (y0 u) 0 0 310 _ _ g10
      have F10 := F9.trans (mp f10)
      have W10 := W9.trans W10
      have WP : SW 0 (info0 ++ bitsL 16 (lN b) ++ bitsL 16 (lN b) ++ bitsL 24 (lN lo) ++ bitsL 24 (lN hi) ++ bitsL 20 (lN r) ++ bitsL 3 (lN (C - 1)) ++ bitsL 5 (lN (D - 1)) ++ bitsL 36 (lN N)) (xw_J gb 141 13 0) g10 := by
        unfold info0
        simpa only [List.append_assoc] using W10
      have hPl : (info0 ++ bitsL 16 (lN b) ++ bitsL 16 (lN b) ++ bitsL 24 (lN lo) ++ bitsL 24 (lN hi) ++ bitsL 20 (lN r) ++ bitsL 3 (lN (C - 1)) ++ bitsL 5 (lN (D - 1)) ++ bitsL 36 (lN N)).length = 208 := by
        unfold info0
        simp only [List.length_append, bitsL_len]
      have hinfo : est s0 s1 C D b r N v = info0 ++ bitsL 16 (lN b) ++ bitsL 16 (lN b) ++ bitsL 24 (lN lo) ++ bitsL 24 (lN hi) ++ bitsL 20 (lN r) ++ bitsL 3 (lN (C - 1)) ++ bitsL 5 (lN (D - 1)) ++ bitsL 36 (lN N) ++ sumbits (sml C D N s0 s1 0) (sml C D N s0 s1 1) 16 ++ frms s0 s1 C D b N v (fN N b) := by
        unfold est info
        rw [hlo, hhi]
      generalize info0 ++ bitsL 16 (lN b) ++ bitsL 16 (lN b) ++ bitsL 24 (lN lo) ++ bitsL 24 (lN hi) ++ bitsL 20 (lN r) ++ bitsL 3 (lN (C - 1)) ++ bitsL 5 (lN (D - 1)) ++ bitsL 36 (lN N) = P at WP hPl hinfo
      have MG : MC g10 := by
        refine ⟨fun i hi => ?_, fun i hi => ?_⟩
        · rw [((up F10).1 142 (by decide) (by decide)).2]; exact MCh.1 i hi
        · rw [((up F10).1 143 (by decide) (by decide)).1]; exact MCh.2 i hi
      refine ra_aload_n A d_Mo_encode_310 rfl <| ra_aload_n A d_Mo_encode_311 rfl <| ra_getR A f_Mo_158 d_Mo_encode_312 (Nat.le_of_ble_eq_true rfl) rfl rfl rfl <| ra_aload_n A d_Mo_encode_315 rfl <| ra_getI A f_Mo_145 d_Mo_encode_316 (Nat.le_of_ble_eq_true rfl) rfl rfl <| ?_
      rw [(G _ (up F10)).1.1]
      refine ra_aload_n A d_Mo_encode_319 rfl <| ra_getI A f_Mo_149 d_Mo_encode_320 (Nat.le_of_ble_eq_true rfl) rfl rfl <| ?_
      rw [(G _ (up F10)).1.2.1]
      refine ra_aload_n A d_Mo_encode_323 rfl <| ra_getR A f_Mo_161 d_Mo_encode_324 (Nat.le_of_ble_eq_true rfl) rfl rfl rfl <| ra_iconst A 0 d_Mo_encode_327 (by decide) <| ?_
      refine ra_iaload A d_Mo_encode_328 (Nat.le_of_ble_eq_true rfl) rfl i0 ?_
      rw [show g10.1 145 (Int32.toNatClampNeg 0) = nI N from (G _ (up F10)).1.2.2.2.2]
      refine ra_callV (As := [_, _, _, _]) A ok_Mo_sumUp l_Mo_238 im_Mo_sumUp sl_Mo_sumUp d_Mo_encode_329 (Nat.le_of_ble_eq_true rfl) rfl rfl rfl (Nat.le_of_ble_eq_true rfl) (xr_of at0 (by decide)) (s_Mo_sumUp_rows K MG c2 d2 n2 (fun gd fd hd => ?_))
      show xg x (y0 u) 0 0 332 _ _ gd
      have hd : mo_get gd = mdsum C D N (fun c i => if c = 0 then s0 i else s1 i) := by
        rw [hd]
        refine mdsum_congr (fun c hc i hi => ?_)
        have RG := (G _ (up F10)).2 i (by omega)
        have hc2 : c = 0 ∨ c = 1 := by omega
        rcases hc2 with rfl | rfl
        · rw [if_pos rfl, ← RG.1, Nat.mul_zero, Nat.zero_add]
        · rw [if_neg (by decide), ← RG.2]
      have fd' : fm [146, 147] [] false g10 gd := fm_fr fd (by decide)
      have FD : fm [146, 147, 148] [] true (xw_J gb 141 13 0) gd := F10.trans (fd'.mono (by decide) (by decide) (fun q => by cases q))
      have WD : SW 0 P (xw_J gb 141 13 0) gd := WP.fm (fd'.2.2 rfl) (fmk fd' (by decide) (by decide))
      refine ra_iconst A 0 d_Mo_encode_332 (by decide) <| ra_istore (L' := [_, _, _, _, _]) A d_Mo_encode_333 (by decide) rfl <| ?_
      refine lp_up (σ := xw_H) (W := fun i g => xg x (y0 u) 0 0 335 [some (.ref 141), some (.int (bz v)), some (.int (nI lo)), some (.int (nI hi)), some (.int (nI i))] [] g) (I := fun i g => fm [146, 147, 148] [] true (xw_J gb 141 13 0) g ∧ mo_get g = mdsum C D N (fun c i => if c = 0 then s0 i else s1 i) ∧ SW 0 (P ++ sumbits (sml C D N s0 s1 0) (sml C D N s0 s1 1) i) (xw_J gb 141 13 0) g) 16 ?_ ?_ 0 gd (Nat.zero_le _) ⟨FD, hd, by simpa [sumbits] using WD⟩
      · rintro g ⟨hf, -, hW⟩
        have hl16 : (P ++ sumbits (sml C D N s0 s1 0) (sml C D N s0 s1 1) 16).length = 336 := by rw [List.length_append, hPl, sumbits_len]
        refine ra_iload A d_Mo_encode_335 rfl <| ra_bipush A 16 d_Mo_encode_337 (by decide) <| ?_
        refine ra_icmp_ge (q := 376) A d_Mo_encode_339 (by decide) (fun _ => ?_) (fun cc => absurd (Int32.le_refl _) cc)
        refine ra_aload_n A d_Mo_encode_376 rfl <| ra_getI A f_Mo_354 d_Mo_encode_377 (Nat.le_of_ble_eq_true rfl) rfl rfl <| ?_
        have g12 : g.1 141 12 = nI ((est s0 s1 C D b r N v).length / 8) := by rw [hf.2.1 12 (by decide), cb1]; exact b12
        rw [g12]
        refine ra_iret A ow d_Mo_encode_380 (hX g (up hf) ?_ g12 ?_ hW.sr (fun j hj => ?_) (fun j hj t ht => ?_))
        · rw [hf.2.1 2 (by decide), cb1]; exact b2'
        · rw [hf.2.1 15 (by decide), cb1]; exact b15
        · rw [hel] at hj
          rw [hW.2.2 j (by omega), hinfo, hl16]
          by_cases c : j < 336
          · rw [if_pos (by omega), Nat.sub_zero]
            exact (ga_lt (by rw [hl16]; exact c)).symm
          · rw [if_neg (by omega), ga_r (by rw [hl16]; omega), hl16]
            have e := bW.2.2 j (by omega)
            rw [if_pos (by omega)] at e
            rw [← e]
            unfold sb
            rw [cb1]
        · rw [fmk hf (by decide) (by decide), cb1]
          exact bN j hj t ht
      · rintro i g hi ⟨hf, hm, hW⟩ ih
        refine ra_iload A d_Mo_encode_335 rfl <| ra_bipush A 16 d_Mo_encode_337 (by decide) <| ?_
        refine ra_icmp_ge (q := 376) A d_Mo_encode_339 (by decide) (fun cc => absurd cc (nI_ge (b := 16) hi (by decide))) (fun _ => ?_)
        refine ra_aload_n A d_Mo_encode_342 rfl <| ra_aload_n A d_Mo_encode_343 rfl <| ra_getR A f_Mo_167 d_Mo_encode_344 (Nat.le_of_ble_eq_true rfl) rfl rfl rfl <| ra_iload A d_Mo_encode_347 rfl <| ra_iconst A 4 d_Mo_encode_349 (by decide) <| ra_idiv A d_Mo_encode_350 (by decide) <| ?_
        rw [show nI i / 4 = nI (i / 4) from pk_div (d := 4) (by omega) (by decide) (by decide)]
        refine ra_iaload A d_Mo_encode_351 (Nat.le_of_ble_eq_true rfl) rfl (vp_in_nI (by omega) (by decide)) ?_
        rw [nI_clamp (by omega)]
        have hv : g.1 147 (i / 4) = wsel (mo_get g) (i / 4) := by
          have h4 : i / 4 = 0 ∨ i / 4 = 1 ∨ i / 4 = 2 ∨ i / 4 = 3 := by omega
          rcases h4 with e | e | e | e <;> rw [e] <;> rfl
        rw [hv, hm]
        refine ra_bipush A 8 d_Mo_encode_352 (by decide) <| ra_iload A d_Mo_encode_354 rfl <| ra_iconst A 4 d_Mo_encode_356 (by decide) <| ra_irem A d_Mo_encode_357 (by decide) <| ?_
        rw [show nI i - nI i / 4 * 4 = nI (i % 4) from pk_rem (d := 4) (by omega) (by decide) (by decide)]
        refine ra_imul A d_Mo_encode_358 <| ?_
        rw [show (8 : Int32) * nI (i % 4) = nI (8 * (i % 4)) from pk_mul 8 _]
        refine ra_ishr A d_Mo_encode_359 <| ra_sipush A 255 d_Mo_encode_360 (by decide) <| ra_iand A d_Mo_encode_363 <| ra_i2l A d_Mo_encode_364 <| ra_bipush A 8 d_Mo_encode_365 (by decide) <| ?_
        refine ra_callV (As := [_, _]) A ok_Mo_put l_Mo_306 im_Mo_put sl_Mo_put d_Mo_encode_367 (Nat.le_of_ble_eq_true rfl) rfl rfl rfl (Nat.le_of_ble_eq_true rfl) (xr_of at0 (by decide)) (s_Mo_put K (n := 8) hW.sr hW.1 (by rw [List.length_append, hPl, sumbits_len]; omega) (fun g2 f2 W2 => ?_))
        show xg x (y0 u) 0 0 370 _ _ g2
        rw [sum_byte _ hi] at W2
        refine ra_iinc (L' := [_, _, _, _, _]) A 1 d_Mo_encode_370 rfl (by decide) (by decide) rfl <| ra_goto (q := 335) A d_Mo_encode_373 (by decide) <| ?_
        rw [nI_1]
        refine ih g2 ⟨hf.trans (mp f2), ?_, ?_⟩
        · unfold mo_get at hm ⊢
          rw [fmk f2 (by decide) (by decide)]
          exact hm
        · rw [sumbits, ← List.append_assoc]
          exact hW.trans W2
    · rintro j - hj - ih
      have fv : gb.1 149 (9 * j + 1) = nI (fby s0 s1 C D b N v j) := bN j hj 1 (by decide)
      have hfj := hfb j hj
      have hmj := hmm j (by omega)
      have eix : (9 : Int32) * nI j + 1 = nI (9 * j + 1) := by rw [show (9 : Int32) * nI j = nI (9 * j) from pk_mul 9 j, nI_1]
      have ih := ih () trivial
      have at161 : xg x (y0 u) 0 0 161 [some (.ref 141), some (.int (bz v)), some (.int (nI (minF (fby s0 s1 C D b N v) j))), some (.int (nI (maxF (fby s0 s1 C D b N v) j))), some (.int (nI j))] [.int (nI (minF (fby s0 s1 C D b N v) (j + 1)))] gb := by
        rw [maxF_s] at ih
        refine ra_istore_n (L' := [_, _, _, _, _]) A d_Mo_encode_161 (by decide) rfl <| ra_aload_n A d_Mo_encode_162 rfl <| ra_getR A f_Mo_173 d_Mo_encode_163 (Nat.le_of_ble_eq_true rfl) rfl rfl rfl <| ra_bipush A 9 d_Mo_encode_166 (by decide) <| ra_iload A d_Mo_encode_168 rfl <| ra_imul A d_Mo_encode_170 <| ra_iconst A 1 d_Mo_encode_171 (by decide) <| ?_
        rw [show (9 : Int32) * nI j = nI (9 * j) from pk_mul 9 j]
        refine ra_iadd A d_Mo_encode_172 <| ?_
        rw [nI_1]
        refine ra_iaload A d_Mo_encode_173 (Nat.le_of_ble_eq_true rfl) rfl (vp_in_nI (by omega) (by decide)) ?_
        rw [nI_clamp (by omega), fv]
        refine ra_iload_n A d_Mo_encode_174 rfl <| ?_
        by_cases c : fby s0 s1 C D b N v j ≤ maxF (fby s0 s1 C D b N v) j
        · refine ra_icmp_le (q := 193) A d_Mo_encode_175 (by decide) (fun _ => ?_) (fun cc => absurd (nI_le c (by omega)) cc)
          rw [Nat.max_eq_left c] at ih
          refine ra_iload_n A d_Mo_encode_193 rfl <| ra_istore_n (L' := [_, _, _, _, _]) A d_Mo_encode_194 (by decide) rfl <| ra_iinc (L' := [_, _, _, _, _]) A 1 d_Mo_encode_195 rfl (by decide) (by decide) rfl <| ra_goto (q := 115) A d_Mo_encode_198 (by decide) <| ?_
          rw [nI_1]
          exact ih
        · refine ra_icmp_le (q := 193) A d_Mo_encode_175 (by decide) (fun cc => absurd cc (nI_ge (by omega) (by omega))) (fun _ => ?_)
          rw [Nat.max_eq_right (by omega)] at ih
          refine ra_aload_n A d_Mo_encode_178 rfl <| ra_getR A f_Mo_173 d_Mo_encode_179 (Nat.le_of_ble_eq_true rfl) rfl rfl rfl <| ra_bipush A 9 d_Mo_encode_182 (by decide) <| ra_iload A d_Mo_encode_184 rfl <| ra_imul A d_Mo_encode_186 <| ra_iconst A 1 d_Mo_encode_187 (by decide) <| ?_
          rw [show (9 : Int32) * nI j = nI (9 * j) from pk_mul 9 j]
          refine ra_iadd A d_Mo_encode_188 <| ?_
          rw [nI_1]
          refine ra_iaload A d_Mo_encode_189 (Nat.le_of_ble_eq_true rfl) rfl (vp_in_nI (by omega) (by decide)) ?_
          rw [nI_clamp (by omega), fv]
          refine ra_goto (q := 194) A d_Mo_encode_190 (by decide) <| ra_istore_n (L' := [_, _, _, _, _]) A d_Mo_encode_194 (by decide) rfl <| ra_iinc (L' := [_, _, _, _, _]) A 1 d_Mo_encode_195 rfl (by decide) (by decide) rfl <| ra_goto (q := 115) A d_Mo_encode_198 (by decide) <| ?_
          rw [nI_1]
          exact ih
      have at145 : minF (fby s0 s1 C D b N v) (j + 1) = fby s0 s1 C D b N v j → xg x (y0 u) 0 0 145 [some (.ref 141), some (.int (bz v)), some (.int (nI (minF (fby s0 s1 C D b N v) j))), some (.int (nI (maxF (fby s0 s1 C D b N v) j))), some (.int (nI j))] [] gb := by
        intro e
        refine ra_aload_n A d_Mo_encode_145 rfl <| ra_getR A f_Mo_173 d_Mo_encode_146 (Nat.le_of_ble_eq_true rfl) rfl rfl rfl <| ra_bipush A 9 d_Mo_encode_149 (by decide) <| ra_iload A d_Mo_encode_151 rfl <| ra_imul A d_Mo_encode_153 <| ra_iconst A 1 d_Mo_encode_154 (by decide) <| ?_
        rw [show (9 : Int32) * nI j = nI (9 * j) from pk_mul 9 j]
        refine ra_iadd A d_Mo_encode_155 <| ?_
        rw [nI_1]
        refine ra_iaload A d_Mo_encode_156 (Nat.le_of_ble_eq_true rfl) rfl (vp_in_nI (by omega) (by decide)) ?_
        rw [nI_clamp (by omega), fv]
        refine ra_goto (q := 161) A d_Mo_encode_157 (by decide) <| ?_
        rw [e] at at161
        exact at161
      refine ra_iload A d_Mo_encode_115 rfl <| ra_aload_n A d_Mo_encode_117 rfl <| ra_getI A f_Mo_331 d_Mo_encode_118 (Nat.le_of_ble_eq_true rfl) rfl rfl <| ?_
      rw [b15]
      refine ra_icmp_ge (q := 201) A d_Mo_encode_121 (by decide) (fun cc => absurd cc (nI_ge hj (by omega))) (fun _ => ?_)
      refine ra_iload A d_Mo_encode_124 rfl <| ?_
      by_cases c0 : j = 0
      · subst c0
        refine ra_if_eq (q := 145) A d_Mo_encode_126 (by decide) (fun _ => ?_) (fun cc => absurd (rfl) cc)
        exact at145 rfl
      · refine ra_if_eq (q := 145) A d_Mo_encode_126 (by decide) (fun cc => absurd cc (nI_ne0 (by omega) (by omega))) (fun _ => ?_)
        have es : minF (fby s0 s1 C D b N v) (j + 1) = min (minF (fby s0 s1 C D b N v) j) (fby s0 s1 C D b N v j) := by
          obtain ⟨j', rfl⟩ : ∃ j', j = j' + 1 := ⟨j - 1, by omega⟩
          rfl
        refine ra_aload_n A d_Mo_encode_129 rfl <| ra_getR A f_Mo_173 d_Mo_encode_130 (Nat.le_of_ble_eq_true rfl) rfl rfl rfl <| ra_bipush A 9 d_Mo_encode_133 (by decide) <| ra_iload A d_Mo_encode_135 rfl <| ra_imul A d_Mo_encode_137 <| ra_iconst A 1 d_Mo_encode_138 (by decide) <| ?_
        rw [show (9 : Int32) * nI j = nI (9 * j) from pk_mul 9 j]
        refine ra_iadd A d_Mo_encode_139 <| ?_
        rw [nI_1]
        refine ra_iaload A d_Mo_encode_140 (Nat.le_of_ble_eq_true rfl) rfl (vp_in_nI (by omega) (by decide)) ?_
        rw [nI_clamp (by omega), fv]
        refine ra_iload_n A d_Mo_encode_141 rfl <| ?_
        by_cases c : minF (fby s0 s1 C D b N v) j ≤ fby s0 s1 C D b N v j
        · refine ra_icmp_ge (q := 160) A d_Mo_encode_142 (by decide) (fun _ => ?_) (fun cc => absurd (nI_le c hfj) cc)
          refine ra_iload_n A d_Mo_encode_160 rfl <| ?_
          rw [es, Nat.min_eq_left c] at at161
          exact at161
        · refine ra_icmp_ge (q := 160) A d_Mo_encode_142 (by decide) (fun cc => absurd cc (nI_ge (by omega) (by omega))) (fun _ => ?_)
          exact at145 (by rw [es, Nat.min_eq_right (by omega)])
  · rintro k g hk ⟨hf, g2, gk, hW, hN⟩ ih
    have hkb := fN_k (by omega) hk
    have hz := fsz_b hkb (by omega) b2
    have hg := G g hf
    have hlen := hE.len (v := v) (Nat.le_of_lt hk)
    have hlen1 : (frms s0 s1 C D b N v (k + 1)).length ≤ 66000 := hE.len hk
    have h8 := frms_8 (s0 := s0) (s1 := s1) (C := C) (D := D) (b := b) (N := N) (v := v) k
    rw [frms, List.length_append] at hlen1
    have at81 : xg x (y0 u) 0 0 81 [some (.ref 141), some (.int (bz v)), some (.int (nI (k * b))), none, none] [.int (nI (fsz N b k)), .int (nI (k * b)), .ref 141] g := by
      refine ra_iload_n A d_Mo_encode_81 rfl <| ?_
      refine ra_callV (As := [_, _, _]) A ok_Mo_writeFrame l_Mo_350 im_Mo_writeFrame sl_Mo_writeFrame d_Mo_encode_82 (Nat.le_of_ble_eq_true rfl) rfl rfl rfl (Nat.le_of_ble_eq_true rfl) (xr_of at0 (by decide)) (s_Mo_writeFrame K (a := k * b) (n := fsz N b k) (C := C) (D := D) (k := k) (p := 336 + (frms s0 s1 C D b N v k).length) (v := v) hg.2 hz.1 hz.2.1 (by omega) c1 c2 (by omega) d2 (by omega) hg.1.1 hg.1.2.1 gk hW.sr hW.1 (by omega) rfl rfl (hE.IB hkb) (show _ + (frm s0 s1 C D b N v k).length ≤ _ by omega) (fun g' f' W' k' n1 n2 => ?_))
      show xg x (y0 u) 0 0 85 _ _ g'
      have F' : fm MEL [2, 12, 15, 18, 19, 20] true h g' := hf.trans (f'.mono (by decide) (by decide) (fun q => q))
      refine ra_iload_n A d_Mo_encode_85 rfl <| ra_aload_n A d_Mo_encode_86 rfl <| ra_getI A f_Mo_152 d_Mo_encode_87 (Nat.le_of_ble_eq_true rfl) rfl rfl <| ?_
      rw [(G g' F').1.2.2.1]
      refine ra_iadd A d_Mo_encode_90 <| ra_istore_n (L' := [_, _, _, _, _]) A d_Mo_encode_91 (by decide) rfl <| ra_goto (q := 39) A d_Mo_encode_92 (by decide) <| ?_
      rw [nI_add, show k * b + b = (k + 1) * b by rw [Nat.add_mul, Nat.one_mul]]
      refine ih g' ⟨F', by rw [f'.2.1 2 (by decide)]; exact g2, k', hW.trans W', fun j hj t ht => ?_⟩
      by_cases cj : j = k
      · subst cj
        rw [n1 t ht]
        unfold ntf
        rw [show (336 + (frms s0 s1 C D b N v j).length) / 8 = 42 + (frms s0 s1 C D b N v j).length / 8 by omega]
        rfl
      · rw [n2 _ (by omega)]
        exact hN j (by omega) t ht
    refine ra_iload_n A d_Mo_encode_39 rfl <| ra_aload_n A d_Mo_encode_40 rfl <| ra_getR A f_Mo_161 d_Mo_encode_41 (Nat.le_of_ble_eq_true rfl) rfl rfl rfl <| ra_iconst A 0 d_Mo_encode_44 (by decide) <| ?_
    refine ra_iaload A d_Mo_encode_45 (Nat.le_of_ble_eq_true rfl) rfl i0 ?_
    rw [show g.1 145 (Int32.toNatClampNeg 0) = nI N from hg.1.2.2.2.2]
    refine ra_icmp_ge (q := 95) A d_Mo_encode_46 (by decide) (fun cc => absurd cc (nI_ge hkb (by omega))) (fun _ => ?_)
    refine ra_aload_n A d_Mo_encode_49 rfl <| ra_iload_n A d_Mo_encode_50 rfl <| ra_aload_n A d_Mo_encode_51 rfl <| ra_getR A f_Mo_161 d_Mo_encode_52 (Nat.le_of_ble_eq_true rfl) rfl rfl rfl <| ra_iconst A 0 d_Mo_encode_55 (by decide) <| ?_
    refine ra_iaload A d_Mo_encode_56 (Nat.le_of_ble_eq_true rfl) rfl i0 ?_
    rw [show g.1 145 (Int32.toNatClampNeg 0) = nI N from hg.1.2.2.2.2]
    refine ra_iload_n A d_Mo_encode_57 rfl <| ra_isub A d_Mo_encode_58 <| ?_
    rw [pk_sub (Nat.le_of_lt hkb)]
    refine ra_aload_n A d_Mo_encode_59 rfl <| ra_getI A f_Mo_152 d_Mo_encode_60 (Nat.le_of_ble_eq_true rfl) rfl rfl <| ?_
    rw [hg.1.2.2.1]
    by_cases q : b ≤ N - k * b
    · refine ra_icmp_ge (q := 77) A d_Mo_encode_63 (by decide) (fun _ => ?_) (fun cc => absurd (nI_le q (by omega)) cc)
      refine ra_aload_n A d_Mo_encode_77 rfl <| ra_getI A f_Mo_152 d_Mo_encode_78 (Nat.le_of_ble_eq_true rfl) rfl rfl <| ?_
      rw [hg.1.2.2.1]
      rw [show fsz N b k = b from Nat.min_eq_left q] at at81
      exact at81
    · refine ra_icmp_ge (q := 77) A d_Mo_encode_63 (by decide) (fun cc => absurd cc (nI_ge (by omega) (by omega))) (fun _ => ?_)
      refine ra_aload_n A d_Mo_encode_66 rfl <| ra_getR A f_Mo_161 d_Mo_encode_67 (Nat.le_of_ble_eq_true rfl) rfl rfl rfl <| ra_iconst A 0 d_Mo_encode_70 (by decide) <| ?_
      refine ra_iaload A d_Mo_encode_71 (Nat.le_of_ble_eq_true rfl) rfl i0 ?_
      rw [show g.1 145 (Int32.toNatClampNeg 0) = nI N from hg.1.2.2.2.2]
      refine ra_iload_n A d_Mo_encode_72 rfl <| ra_isub A d_Mo_encode_73 <| ?_
      rw [pk_sub (Nat.le_of_lt hkb)]
      refine ra_goto (q := 81) A d_Mo_encode_74 (by decide) <| ?_
      rw [show fsz N b k = N - k * b from Nat.min_eq_right (by omega)] at at81
      exact at81
end S89
