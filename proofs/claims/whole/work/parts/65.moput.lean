/-! BITS OF THE MODEL's STREAM: put; a frame's number -/
/-- only these cells, these of the model's int fields, and 'at' if b, may differ -/
def fm (C F : List Nat) (b : Bool) (h h' : xw_H) : Prop := (∀ k, k ∉ C → k ≠ 141 → h'.1 k = h.1 k ∧ h'.2 k = h.2 k) ∧ (∀ j, j ∉ F → h'.1 141 j = h.1 141 j) ∧ (b = false → h'.2 141 = h.2 141)
theorem fm.rfl {C F : List Nat} {b : Bool} {h : xw_H} : fm C F b h h := ⟨fun _ _ _ => ⟨_root_.rfl, _root_.rfl⟩, fun _ _ => _root_.rfl, fun _ => _root_.rfl⟩
theorem fm.trans {C F : List Nat} {b : Bool} {h h' h'' : xw_H} (x : fm C F b h h') (y : fm C F b h' h'') : fm C F b h h'' :=
  ⟨fun k hk hk' => ⟨(y.1 k hk hk').1.trans (x.1 k hk hk').1, (y.1 k hk hk').2.trans (x.1 k hk hk').2⟩, fun j hj => (y.2.1 j hj).trans (x.2.1 j hj), fun e => (y.2.2 e).trans (x.2.2 e)⟩
theorem fm.mono {C F C' F' : List Nat} {b b' : Bool} {h h' : xw_H} (x : fm C F b h h') (hC : ∀ k ∈ C, k ∈ C') (hF : ∀ k ∈ F, k ∈ F') (hb : b' = false → b = false) : fm C' F' b' h h' :=
  ⟨fun k hk hk' => x.1 k (fun q => hk (hC k q)) hk', fun j hj => x.2.1 j (fun q => hj (hF j q)), fun e => x.2.2 (hb e)⟩
theorem fm_I {C F : List Nat} {b : Bool} {h : xw_H} {k j : Nat} {v : Int32} (hk : k ∈ C) (h1 : k ≠ 141) : fm C F b h (xw_I h k j v) :=
  ⟨fun a ha _ => ⟨xI_k (fun q => ha (q ▸ hk)), _root_.rfl⟩, fun a _ => by rw [xI_k (fun q => h1 q.symm)], fun _ => _root_.rfl⟩
theorem fm_F {C F : List Nat} {b : Bool} {h : xw_H} {j : Nat} {v : Int32} (hj : j ∈ F) : fm C F b h (xw_I h 141 j v) :=
  ⟨fun a _ ha => ⟨xI_k ha, _root_.rfl⟩, fun a ha => xI_j (fun q => ha (q ▸ hj)), fun _ => _root_.rfl⟩
theorem fm_J {C F : List Nat} {h : xw_H} {j : Nat} {v : Int64} : fm C F true h (xw_J h 141 j v) :=
  ⟨fun a _ ha => ⟨_root_.rfl, xJ_k ha⟩, fun a ha => _root_.rfl, fun q => by cases q⟩
/-- the model's stream holds bytes -/
def SR (h : xw_H) : Prop := ∀ i, i < 9400 → ∃ s, s < 256 ∧ h.1 148 i = nI s
/-- bit j of the model's stream -/
def sb (h : xw_H) (j : Nat) : Bool := (h.1 148 (j / 8)).toBitVec.toNat.testBit (7 - j % 8)
/-- the bits B were put from bit a on -/
def SW (a : Nat) (B : List Bool) (h h' : xw_H) : Prop := h'.2 141 13 = lN (a + B.length) ∧ SR h' ∧ ∀ j, j < 75200 → sb h' j = if a ≤ j ∧ j < a + B.length then B.getD (j - a) false else sb h j
theorem SW.trans {a : Nat} {B C : List Bool} {h h' h'' : xw_H} (x : SW a B h h') (y : SW (a + B.length) C h' h'') : SW a (B ++ C) h h'' := by
  refine ⟨?_, y.2.1, fun j hj => ?_⟩
  · rw [y.1, List.length_append, Nat.add_assoc]
  · rw [y.2.2 j hj, x.2.2 j hj, List.length_append]
    by_cases c1 : a ≤ j ∧ j < a + B.length
    · rw [if_neg (by omega), if_pos c1, if_pos (by omega), ga_lt (by omega)]
    · rw [if_neg c1]
      by_cases c2 : a + B.length ≤ j ∧ j < a + B.length + C.length
      · rw [if_pos c2, if_pos (by omega), ga_r (by omega)]
        congr 1
        omega
      · rw [if_neg c2, if_neg (by omega)]
theorem SW.nil {a : Nat} {h : xw_H} (h1 : h.2 141 13 = lN a) (h2 : SR h) : SW a [] h h := ⟨by simpa using h1, h2, fun j _ => by rw [if_neg (by simp only [List.length_nil]; omega)]⟩
theorem SW.fm {a : Nat} {B : List Bool} {h h' h'' : xw_H} (x : SW a B h h') (e1 : h''.2 141 = h'.2 141) (e2 : h''.1 148 = h'.1 148) : SW a B h h'' :=
  ⟨by rw [e1]; exact x.1, fun i hi => by rw [e2]; exact x.2.1 i hi, fun j hj => by unfold sb; rw [e2]; exact x.2.2 j hj⟩
theorem SW_1 {h : xw_H} {a s : Nat} {t : Bool} (ha : a < 75200) (R : SR h) (hs : s < 256) (es : h.1 148 (a / 8) = nI s) :
    SW a [t] h (xw_J (xw_I h 148 (a / 8) (nI (s / 2 ^ (7 - a % 8 + 1) * 2 ^ (7 - a % 8 + 1) + t.toNat * 2 ^ (7 - a % 8) + s % 2 ^ (7 - a % 8)))) 141 13 (lN (a + 1))) := by
  have N := bitput_N s hs (7 - a % 8) (by omega) t.toNat (bt_lt t)
  refine ⟨xJ_e, fun i hi => ?_, fun j hj => ?_⟩
  · rw [xJ_1]
    by_cases c : i = a / 8
    · subst c; rw [xI_e]; exact ⟨_, N.1, rfl⟩
    · rw [xI_j c]; exact R i hi
  · unfold sb
    rw [xJ_1]
    by_cases c : j / 8 = a / 8
    · rw [c, xI_e, es, pk_tn (by omega), N.2 (7 - j % 8) (by omega)]
      by_cases c2 : j = a
      · subst c2
        rw [if_pos rfl, if_pos (by simp), Nat.sub_self]
        cases t <;> rfl
      · rw [if_neg (by omega), if_neg (by simp; omega), pk_tn (by omega)]
    · rw [xI_j c, if_neg (by simp; omega)]
section S65
variable {u : xu_T} {l : Launch} {KK : State → Prop} {h : xw_H} {X : xc_R → xw_H → Nat → Nat → Prop}
theorem s_Mo_put (K : xk_ok u KK) {n a : Nat} {v : Int64} (R : SR h) (ha : h.2 141 13 = lN a) (hroom : a + n ≤ 75200) (hX : ∀ h', fm [148] [] true h h' → SW a (bitsL n v) h h' → X (.inl none) h' 0 0) : xm_M l (y0 u) KK m_Mo_put [.ref 141, .long v, .int (nI n)] h X := by
  refine xm_of [none, none, none] (by simp) (Nat.le_of_ble_eq_true rfl) (by decide) (fun x at0 => ?_)
  have A := xa_of at0 K
  have ow := at0.2.2.2.2.1
  refine ra_iload_n A d_Mo_put_0 rfl <| ra_iconst A 1 d_Mo_put_1 (by decide) <| ra_isub A d_Mo_put_2 <| ?_
  rw [show nI n - 1 = nI n + (-1) from Int32.sub_eq_add_neg _ _]
  refine ra_istore (L' := [_, _, _, _, _, _, _]) A d_Mo_put_3 (by decide) rfl <| ?_
  refine lp_dn (σ := xw_H × Option Value × Option Value) (W := fun i s => xg x (y0 u) 0 0 5 [some (.ref 141), some (.long v), none, some (.int (nI n)), some (.int (nI i + (-1))), s.2.1, s.2.2] [] s.1) (I := fun i s => fm [148] [] true h s.1 ∧ ∃ C, SW a C h s.1 ∧ C ++ bitsL i v = bitsL n v) ?_ ?_ n (h, none, none) ⟨fm.rfl, [], SW.nil ha R, rfl⟩
  · rintro ⟨g, w5, w6⟩ ⟨hf, C, hC, e⟩
    dsimp only at hf hC ⊢
    refine ra_iload A d_Mo_put_5 rfl <| ?_
    refine ra_if_lt (q := 83) A d_Mo_put_7 (by decide) (fun _ => ?_) (fun cc => absurd ((by decide)) cc)
    rw [bitsL, List.append_nil] at e
    rw [e] at hC
    exact ra_vret A ow d_Mo_put_83 (hX g hf hC)
  · rintro i ⟨g, w5, w6⟩ ⟨hf, C, hC, e⟩ ih
    dsimp only at hf hC ⊢
    have hlen : C.length + (i + 1) = n := by
      have := congrArg List.length e
      rw [List.length_append, bitsL_len, bitsL_len] at this
      exact this
    rw [pk_m1]
    generalize hA : a + C.length = c at hC
    have hat : g.2 141 13 = lN c := by rw [← hA]; exact hC.1
    obtain ⟨s, hs, es⟩ := hC.2.1 (c / 8) (by omega)
    have ht := bt_lt (lb v i)
    refine ra_iload A d_Mo_put_5 rfl <| ?_
    refine ra_if_lt (q := 83) A d_Mo_put_7 (by decide) (fun cc => absurd cc (nI_pos (by omega))) (fun _ => ?_)
    refine ra_aload_n A d_Mo_put_10 rfl <| ra_getJ A f_Mo_244 d_Mo_put_11 (Nat.le_of_ble_eq_true rfl) rfl rfl <| ?_
    rw [hat]
    refine ra_ldc2 A k_Mo_222 d_Mo_put_14 <| ra_ldiv A d_Mo_put_17 (by decide) <| ra_l2i A d_Mo_put_18 <| ?_
    rw [show lN c / 8 = lN (c / 8) from pk_lDiv (b := 8) (by omega) (by decide) (by decide), lN_i]
    refine ra_istore (L' := [_, _, _, _, _, _, _]) A d_Mo_put_19 (by decide) rfl <| ra_bipush A 7 d_Mo_put_21 (by decide) <| ra_aload_n A d_Mo_put_23 rfl <| ra_getJ A f_Mo_244 d_Mo_put_24 (Nat.le_of_ble_eq_true rfl) rfl rfl <| ?_
    rw [hat]
    refine ra_ldc2 A k_Mo_222 d_Mo_put_27 <| ra_lrem A d_Mo_put_30 (by decide) <| ra_l2i A d_Mo_put_31 <| ra_isub A d_Mo_put_32 <| ?_
    rw [show lN c - lN c / 8 * 8 = lN (c % 8) from pk_lRem (b := 8) (by omega) (by decide) (by decide), lN_i, show (7 : Int32) - nI (c % 8) = nI (7 - c % 8) from pk_sub (a := 7) (by omega)]
    refine ra_istore (L' := [_, _, _, _, _, _, _]) A d_Mo_put_33 (by decide) rfl <| ra_aload_n A d_Mo_put_35 rfl <| ra_getR A f_Mo_170 d_Mo_put_36 (Nat.le_of_ble_eq_true rfl) rfl rfl rfl <| ra_iload A d_Mo_put_39 rfl <| ra_aload_n A d_Mo_put_41 rfl <| ra_getR A f_Mo_170 d_Mo_put_42 (Nat.le_of_ble_eq_true rfl) rfl rfl rfl <| ra_iload A d_Mo_put_45 rfl <| ?_
    refine ra_iaload A d_Mo_put_47 (Nat.le_of_ble_eq_true rfl) rfl (vp_in_nI (by omega) (by decide)) ?_
    rw [nI_clamp (by omega), es]
    refine ra_iconst A 1 d_Mo_put_48 (by decide) <| ra_iload A d_Mo_put_49 rfl <| ra_ishl A d_Mo_put_51 <| ra_iconst A (-1) d_Mo_put_52 (by decide) <| ra_ixor A d_Mo_put_53 <| ra_iand A d_Mo_put_54 <| ra_lload_n A d_Mo_put_55 rfl <| ra_iload A d_Mo_put_56 rfl <| ra_lshr A d_Mo_put_58 <| ra_lconst A 1 d_Mo_put_59 (by decide) <| ra_land A d_Mo_put_60 <| ra_l2i A d_Mo_put_61 <| ?_
    rw [lb_L]
    refine ra_iload A d_Mo_put_62 rfl <| ra_ishl A d_Mo_put_64 <| ra_ior A d_Mo_put_65 <| ?_
    rw [bitput_I s hs _ (by omega) _ ht]
    refine ra_iastore A d_Mo_put_66 (Nat.le_of_ble_eq_true rfl) rfl (vp_in_nI (by omega) (by decide)) ?_
    rw [nI_clamp (by omega)]
    refine ra_aload_n A d_Mo_put_67 rfl <| ra_dup A d_Mo_put_68 rfl <| ra_getJ A f_Mo_244 d_Mo_put_69 (Nat.le_of_ble_eq_true rfl) rfl rfl <| ?_
    rw [show (xw_I g 148 (c / 8) (nI (s / 2 ^ (7 - c % 8 + 1) * 2 ^ (7 - c % 8 + 1) + (lb v i).toNat * 2 ^ (7 - c % 8) + s % 2 ^ (7 - c % 8)))).2 141 13 = lN c from hat]
    refine ra_lconst A 1 d_Mo_put_72 (by decide) <| ra_ladd A d_Mo_put_73 <| ?_
    rw [lN_1]
    refine ra_putJ A f_Mo_244 rfl rfl (by decide +kernel) d_Mo_put_74 (Nat.le_of_ble_eq_true rfl) rfl rfl <| ra_iinc (L' := [_, _, _, _, _, _, _]) A (-1) d_Mo_put_77 rfl (by decide) (by decide) rfl <| ra_goto (q := 5) A d_Mo_put_80 (by decide) <| ?_
    refine ih (_, _, _) ⟨hf.trans ((fm_I (by decide) (by decide)).trans fm_J), C ++ [lb v i], ?_, ?_⟩
    · subst hA
      exact hC.trans (SW_1 (t := lb v i) (by omega) hC.2.1 hs es)
    · rw [← e, bitsL, List.append_assoc]
      rfl
def numB (v : Nat) : List Nat := if v < 128 then [v] else [192 + v / 64, 128 + v % 64]
theorem or192 {x : Nat} (h : x < 64) : (192 : Int32) ||| nI x = nI (192 + x) := by
  rw [show (192 : Int32) = nI 192 from rfl, nI_or, show 192 + x = 2 ^ 6 * 3 + x by omega, Nat.two_pow_add_eq_or_of_lt h]
theorem or128 {x : Nat} (h : x < 64) : (128 : Int32) ||| nI x = nI (128 + x) := by
  rw [show (128 : Int32) = nI 128 from rfl, nI_or, show 128 + x = 2 ^ 6 * 2 + x by omega, Nat.two_pow_add_eq_or_of_lt h]
theorem s_SS_bytesOfNumber (K : xk_ok u KK) {v : Nat} (hv : v < 2048) (hX : X (.inl (some (.int (nI (numB v).length)))) h 0 0) : xm_M l (y0 u) KK m_SS_bytesOfNumber [.int (nI v)] h X := by
  refine xm_of [] (by simp) (Nat.le_of_ble_eq_true rfl) (by decide) (fun x at0 => ?_)
  have A := xa_of at0 K
  have ow := at0.2.2.2.2.1
  refine ra_iload_n A d_SS_bytesOfNumber_0 rfl <| ra_sipush A 128 d_SS_bytesOfNumber_1 (by decide) <| ?_
  by_cases c : v < 128
  · rw [numB, if_pos c] at hX
    refine ra_icmp_ge (q := 11) A d_SS_bytesOfNumber_4 (by decide) (fun cc => absurd cc (nI_ge (b := 128) c (by decide))) (fun _ => ?_)
    refine ra_iconst A 1 d_SS_bytesOfNumber_7 (by decide) <| ra_goto (q := 12) A d_SS_bytesOfNumber_8 (by decide) <| ?_
    exact ra_iret A ow d_SS_bytesOfNumber_12 hX
  · rw [numB, if_neg c] at hX
    refine ra_icmp_ge (q := 11) A d_SS_bytesOfNumber_4 (by decide) (fun _ => ?_) (fun cc => absurd (nI_le (a := 128) (by omega) (by omega)) cc)
    refine ra_iconst A 2 d_SS_bytesOfNumber_11 (by decide) <| ?_
    exact ra_iret A ow d_SS_bytesOfNumber_12 hX
theorem s_SS_byteOfNumber (K : xk_ok u KK) {v i : Nat} (hv : v < 2048) (hi : i < (numB v).length) (hX : X (.inl (some (.int (nI ((numB v).getD i 0))))) h 0 0) : xm_M l (y0 u) KK m_SS_byteOfNumber [.int (nI v), .int (nI i)] h X := by
  refine xm_of [] (by simp) (Nat.le_of_ble_eq_true rfl) (by decide) (fun x at0 => ?_)
  have A := xa_of at0 K
  have ow := at0.2.2.2.2.1
  refine ra_iload_n A d_SS_byteOfNumber_0 rfl <| ra_sipush A 128 d_SS_byteOfNumber_1 (by decide) <| ?_
  by_cases c : v < 128
  · rw [numB, if_pos c] at hX hi
    obtain rfl : i = 0 := by simp at hi; omega
    refine ra_icmp_ge (q := 9) A d_SS_byteOfNumber_4 (by decide) (fun cc => absurd cc (nI_ge (b := 128) c (by decide))) (fun _ => ?_)
    refine ra_iload_n A d_SS_byteOfNumber_7 rfl <| ?_
    exact ra_iret A ow d_SS_byteOfNumber_8 hX
  · rw [numB, if_neg c] at hX hi
    refine ra_icmp_ge (q := 9) A d_SS_byteOfNumber_4 (by decide) (fun _ => ?_) (fun cc => absurd (nI_le (a := 128) (by omega) (by omega)) cc)
    refine ra_iload_n A d_SS_byteOfNumber_9 rfl <| ?_
    have hi2 : i = 0 ∨ i = 1 := by simp at hi; omega
    rcases hi2 with rfl | rfl
    · refine ra_if_ne (q := 24) A d_SS_byteOfNumber_10 (by decide) (fun cc => absurd (rfl) cc) (fun _ => ?_)
      refine ra_sipush A 192 d_SS_byteOfNumber_13 (by decide) <| ra_iload_n A d_SS_byteOfNumber_16 rfl <| ra_bipush A 6 d_SS_byteOfNumber_17 (by decide) <| ra_ishr A d_SS_byteOfNumber_19 <| ?_
      rw [pk_shrN (k := 6) (by omega) _ (by decide)]
      refine ra_ior A d_SS_byteOfNumber_20 <| ?_
      rw [or192 (by omega)]
      refine ra_goto (q := 32) A d_SS_byteOfNumber_21 (by decide) <| ?_
      exact ra_iret A ow d_SS_byteOfNumber_32 hX
    · refine ra_if_ne (q := 24) A d_SS_byteOfNumber_10 (by decide) (fun _ => ?_) (fun cc => absurd cc ((by decide)))
      refine ra_sipush A 128 d_SS_byteOfNumber_24 (by decide) <| ra_iload_n A d_SS_byteOfNumber_27 rfl <| ra_bipush A 63 d_SS_byteOfNumber_28 (by decide) <| ra_iand A d_SS_byteOfNumber_30 <| ?_
      rw [pk_andN (k := 6) (by omega) (by decide)]
      refine ra_ior A d_SS_byteOfNumber_31 <| ?_
      rw [or128 (by omega)]
      exact ra_iret A ow d_SS_byteOfNumber_32 hX
theorem s_Mo_numberByte (K : xk_ok u KK) {v i : Nat} (hv : v < 2048) (hi : i ≤ (numB v).length) (hX : i < (numB v).length → X (.inl (some (.int (nI ((numB v).getD i 0))))) h 0 0) (hY : i = (numB v).length → X (.inl (some (.int (-1)))) h 0 0) : xm_M l (y0 u) KK m_Mo_numberByte [.int (nI v), .int (nI i)] h X := by
  refine xm_of [] (by simp) (Nat.le_of_ble_eq_true rfl) (by decide) (fun x at0 => ?_)
  have A := xa_of at0 K
  have ow := at0.2.2.2.2.1
  refine ra_iload_n A d_Mo_numberByte_0 rfl <| ra_sipush A 128 d_Mo_numberByte_1 (by decide) <| ?_
  by_cases c : v < 128
  · rw [numB, if_pos c] at hX hY hi
    refine ra_icmp_ge (q := 17) A d_Mo_numberByte_4 (by decide) (fun cc => absurd cc (nI_ge (b := 128) c (by decide))) (fun _ => ?_)
    refine ra_iload_n A d_Mo_numberByte_7 rfl <| ?_
    have hi2 : i = 0 ∨ i = 1 := by simp at hi; omega
    rcases hi2 with rfl | rfl
    · refine ra_if_ne (q := 15) A d_Mo_numberByte_8 (by decide) (fun cc => absurd (rfl) cc) (fun _ => ?_)
      refine ra_iload_n A d_Mo_numberByte_11 rfl <| ra_goto (q := 16) A d_Mo_numberByte_12 (by decide) <| ?_
      exact ra_iret A ow d_Mo_numberByte_16 (hX (by simp))
    · refine ra_if_ne (q := 15) A d_Mo_numberByte_8 (by decide) (fun _ => ?_) (fun cc => absurd cc ((by decide)))
      refine ra_iconst A (-1) d_Mo_numberByte_15 (by decide) <| ?_
      exact ra_iret A ow d_Mo_numberByte_16 (hY rfl)
  · rw [numB, if_neg c] at hX hY hi
    refine ra_icmp_ge (q := 17) A d_Mo_numberByte_4 (by decide) (fun _ => ?_) (fun cc => absurd (nI_le (a := 128) (by omega) (by omega)) cc)
    refine ra_iload_n A d_Mo_numberByte_17 rfl <| ?_
    have hi2 : i = 0 ∨ i = 1 ∨ i = 2 := by simp at hi; omega
    rcases hi2 with rfl | rfl | rfl
    · refine ra_if_ne (q := 32) A d_Mo_numberByte_18 (by decide) (fun cc => absurd (rfl) cc) (fun _ => ?_)
      refine ra_sipush A 192 d_Mo_numberByte_21 (by decide) <| ra_iload_n A d_Mo_numberByte_24 rfl <| ra_bipush A 6 d_Mo_numberByte_25 (by decide) <| ra_ishr A d_Mo_numberByte_27 <| ?_
      rw [pk_shrN (k := 6) (by omega) _ (by decide)]
      refine ra_ior A d_Mo_numberByte_28 <| ?_
      rw [or192 (by omega)]
      refine ra_goto (q := 49) A d_Mo_numberByte_29 (by decide) <| ?_
      exact ra_iret A ow d_Mo_numberByte_49 (hX (by simp))
    · refine ra_if_ne (q := 32) A d_Mo_numberByte_18 (by decide) (fun _ => ?_) (fun cc => absurd cc ((by decide)))
      refine ra_iload_n A d_Mo_numberByte_32 rfl <| ra_iconst A 1 d_Mo_numberByte_33 (by decide) <| ?_
      refine ra_icmp_ne (q := 48) A d_Mo_numberByte_34 (by decide) (fun cc => absurd (rfl) cc) (fun _ => ?_)
      refine ra_sipush A 128 d_Mo_numberByte_37 (by decide) <| ra_iload_n A d_Mo_numberByte_40 rfl <| ra_bipush A 63 d_Mo_numberByte_41 (by decide) <| ra_iand A d_Mo_numberByte_43 <| ?_
      rw [pk_andN (k := 6) (by omega) (by decide)]
      refine ra_ior A d_Mo_numberByte_44 <| ?_
      rw [or128 (by omega)]
      refine ra_goto (q := 49) A d_Mo_numberByte_45 (by decide) <| ?_
      exact ra_iret A ow d_Mo_numberByte_49 (hX (by simp))
    · refine ra_if_ne (q := 32) A d_Mo_numberByte_18 (by decide) (fun _ => ?_) (fun cc => absurd cc ((by decide)))
      refine ra_iload_n A d_Mo_numberByte_32 rfl <| ra_iconst A 1 d_Mo_numberByte_33 (by decide) <| ?_
      refine ra_icmp_ne (q := 48) A d_Mo_numberByte_34 (by decide) (fun _ => ?_) (fun cc => absurd cc ((by decide)))
      refine ra_iconst A (-1) d_Mo_numberByte_48 (by decide) <| ?_
      exact ra_iret A ow d_Mo_numberByte_49 (hY rfl)
end S65
