/-! SoundStreamModel: signal, take, wasted, shifted, folded, leave, room -/
theorem ib_get (x : Int32) {i : Nat} (hi : i < 32) : (x >>> (nI i &&& 31)) &&& 1 = nI (x.toBitVec.toNat.testBit i).toNat := by
  rw [bI_and1]
  congr 2
  have e : ∀ y : BitVec 32, decide (y.toNat % 2 = 1) = y.getLsbD 0 := by
    intro y
    unfold BitVec.getLsbD
    rw [Nat.testBit_zero]
  rw [e, Int32.toBitVec_shiftRight]
  unfold BitVec.sshiftRight'
  rw [s_l i hi, BitVec.getLsbD_sshiftRight]
  simp [hi, BitVec.getLsbD]
theorem tz_at {x : Int32} {t : Nat} (h : TZ x t) : x.toBitVec.toNat.testBit t = true := by
  obtain ⟨q, e⟩ := h
  rw [e, Nat.testBit_two_pow_mul, decide_eq_true (Nat.le_refl t), Bool.true_and, Nat.sub_self, Nat.testBit_zero]
  simp
theorem fd_pos {r : Int32} (h : -2 ^ 29 ≤ r.toInt ∧ r.toInt ≤ 2 ^ 29) (c : 0 ≤ r.toInt) : (2 : Int32) * r = nI (fdN r) := by
  apply i_of_toInt
  unfold fdN
  rw [if_pos c, nI_toInt (by omega), Int32.toInt_mul, show (2 : Int32).toInt = 2 by decide, Int.bmod_eq_of_le (by omega) (by omega)]
  omega
theorem fd_neg {r : Int32} (h : -2 ^ 29 ≤ r.toInt ∧ r.toInt ≤ 2 ^ 29) (c : ¬ 0 ≤ r.toInt) : (-2 : Int32) * r - 1 = nI (fdN r) := by
  apply i_of_toInt
  unfold fdN
  have e : ((-2 : Int32) * r).toInt = -2 * r.toInt := by
    rw [Int32.toInt_mul, show (-2 : Int32).toInt = -2 by decide, Int.bmod_eq_of_le (by omega) (by omega)]
  rw [if_neg c, nI_toInt (by omega), Int32.toInt_sub, e, show (1 : Int32).toInt = 1 by decide, Int.bmod_eq_of_le (by omega) (by omega)]
  omega
theorem i_lt0 {r : Int32} : r < 0 ↔ ¬ 0 ≤ r.toInt := by
  rw [Int32.lt_iff_toInt_lt, Int32.toInt_zero]
  omega
theorem not_i (r : Int32) : r ^^^ (-1) = -r - 1 := by
  apply Int32.toBitVec_inj.mp
  rw [Int32.toBitVec_xor, Int32.toBitVec_sub, show Int32.toBitVec (-1) = BitVec.allOnes 32 by decide, BitVec.xor_allOnes, Int32.toBitVec_neg, show Int32.toBitVec 1 = 1#32 by decide, BitVec.neg_eq_not_add]
  exact (BitVec.add_sub_cancel _ _).symm
/-- the half of a folded rest -/
theorem fd_half_pos {r : Int32} (h : -2 ^ 29 ≤ r.toInt ∧ r.toInt ≤ 2 ^ 29) (c : 0 ≤ r.toInt) : r = nI (fdN r / 2) := by
  apply i_of_toInt
  unfold fdN
  rw [if_pos c, nI_toInt (by omega)]
  omega
theorem fd_half_neg {r : Int32} (h : -2 ^ 29 ≤ r.toInt ∧ r.toInt ≤ 2 ^ 29) (c : ¬ 0 ≤ r.toInt) : r ^^^ (-1) = nI (fdN r / 2) := by
  rw [not_i]
  apply i_of_toInt
  have e : (-r).toInt = -r.toInt := by
    rw [Int32.toInt_neg, Int.bmod_eq_of_le (by omega) (by omega)]
  unfold fdN
  rw [if_neg c, nI_toInt (by omega), Int32.toInt_sub, e, show (1 : Int32).toInt = 1 by decide, Int.bmod_eq_of_le (by omega) (by omega)]
  omega
theorem fd_0 {r : Int32} (h : -2 ^ 29 ≤ r.toInt ∧ r.toInt ≤ 2 ^ 29) : r = 0 ↔ fdN r = 0 := by
  constructor
  · rintro rfl; rfl
  · intro q
    by_cases c : 0 ≤ r.toInt
    · rw [fd_half_pos h c, q]; rfl
    · unfold fdN at q
      rw [if_neg c] at q
      omega
theorem bln_half {v : Nat} (h : v ≠ 0) : bln v = bln (v / 2) + 1 := by
  obtain ⟨n, rfl⟩ : ∃ n, v = n + 1 := ⟨v - 1, by omega⟩
  rw [bln]
/-- the model's rows -/
def RM (h : xw_H) (s0 s1 : Nat → Int32) : Prop := ∀ i, i < 1200 → h.1 144 i = s0 i ∧ h.1 144 (1200 + i) = s1 i
section S84
variable {u : xu_T} {l : Launch} {KK : State → Prop} {h : xw_H} {X : xc_R → xw_H → Nat → Nat → Prop}
theorem s_Mo_signal (K : xk_ok u KK) {s0 s1 : Nat → Int32} {a w i : Nat} (R : RM h s0 s1) (hw : w < 4) (hi : a + i < 1200) (hX : X (.inl (some (.int (sg s0 s1 a w i)))) h 0 0) : xm_M l (y0 u) KK m_Mo_signal [.ref 141, .int (nI w), .int (nI (a + i))] h X := by
  refine xm_of [none, none] (by simp) (Nat.le_of_ble_eq_true rfl) (by decide) (fun x at0 => ?_)
  have A := xa_of at0 K
  have ow := at0.2.2.2.2.1
  obtain ⟨r0, r1⟩ := R (a + i) hi
  refine ra_aload_n A d_Mo_signal_0 rfl <| ra_getR A f_Mo_158 d_Mo_signal_1 (Nat.le_of_ble_eq_true rfl) rfl rfl rfl <| ra_iload_n A d_Mo_signal_4 rfl <| ?_
  refine ra_iaload A d_Mo_signal_5 (Nat.le_of_ble_eq_true rfl) rfl (vp_in_nI (by omega) (by decide)) ?_
  rw [nI_clamp (by omega), r0]
  refine ra_istore_n (L' := [_, _, _, _, _]) A d_Mo_signal_6 (by decide) rfl <| ra_aload_n A d_Mo_signal_7 rfl <| ra_getR A f_Mo_158 d_Mo_signal_8 (Nat.le_of_ble_eq_true rfl) rfl rfl rfl <| ra_sipush A 1200 d_Mo_signal_11 (by decide) <| ra_iload_n A d_Mo_signal_14 rfl <| ra_iadd A d_Mo_signal_15 <| ?_
  rw [show (1200 : Int32) + nI (a + i) = nI (1200 + (a + i)) from nI_add 1200 _]
  refine ra_iaload A d_Mo_signal_16 (Nat.le_of_ble_eq_true rfl) rfl (vp_in_nI (by omega) (by decide)) ?_
  rw [nI_clamp (by omega), r1]
  refine ra_istore (L' := [_, _, _, _, _]) A d_Mo_signal_17 (by decide) rfl <| ra_iload_n A d_Mo_signal_19 rfl <| ?_
  unfold sg at hX
  have hw' : w = 0 ∨ w = 1 ∨ w = 2 ∨ w = 3 := by omega
  rcases hw' with rfl | rfl | rfl | rfl
  · refine ra_if_ne (q := 27) A d_Mo_signal_20 (by decide) (fun cc => absurd (rfl) cc) (fun _ => ?_)
    refine ra_iload_n A d_Mo_signal_23 rfl <| ra_goto (q := 55) A d_Mo_signal_24 (by decide) <| ?_
    exact ra_iret A ow d_Mo_signal_55 hX
  · refine ra_if_ne (q := 27) A d_Mo_signal_20 (by decide) (fun _ => ?_) (fun cc => absurd cc ((by decide)))
    refine ra_iload_n A d_Mo_signal_27 rfl <| ra_iconst A 1 d_Mo_signal_28 (by decide) <| ?_
    refine ra_icmp_ne (q := 37) A d_Mo_signal_29 (by decide) (fun cc => absurd (rfl) cc) (fun _ => ?_)
    refine ra_iload A d_Mo_signal_32 rfl <| ra_goto (q := 55) A d_Mo_signal_34 (by decide) <| ?_
    exact ra_iret A ow d_Mo_signal_55 hX
  · refine ra_if_ne (q := 27) A d_Mo_signal_20 (by decide) (fun _ => ?_) (fun cc => absurd cc ((by decide)))
    refine ra_iload_n A d_Mo_signal_27 rfl <| ra_iconst A 1 d_Mo_signal_28 (by decide) <| ?_
    refine ra_icmp_ne (q := 37) A d_Mo_signal_29 (by decide) (fun _ => ?_) (fun cc => absurd cc ((by decide)))
    refine ra_iload_n A d_Mo_signal_37 rfl <| ra_iconst A 2 d_Mo_signal_38 (by decide) <| ?_
    refine ra_icmp_ne (q := 49) A d_Mo_signal_39 (by decide) (fun cc => absurd (rfl) cc) (fun _ => ?_)
    refine ra_iload_n A d_Mo_signal_42 rfl <| ra_iload A d_Mo_signal_43 rfl <| ra_isub A d_Mo_signal_45 <| ra_goto (q := 55) A d_Mo_signal_46 (by decide) <| ?_
    exact ra_iret A ow d_Mo_signal_55 hX
  · refine ra_if_ne (q := 27) A d_Mo_signal_20 (by decide) (fun _ => ?_) (fun cc => absurd cc ((by decide)))
    refine ra_iload_n A d_Mo_signal_27 rfl <| ra_iconst A 1 d_Mo_signal_28 (by decide) <| ?_
    refine ra_icmp_ne (q := 37) A d_Mo_signal_29 (by decide) (fun _ => ?_) (fun cc => absurd cc ((by decide)))
    refine ra_iload_n A d_Mo_signal_37 rfl <| ra_iconst A 2 d_Mo_signal_38 (by decide) <| ?_
    refine ra_icmp_ne (q := 49) A d_Mo_signal_39 (by decide) (fun _ => ?_) (fun cc => absurd cc ((by decide)))
    refine ra_iload_n A d_Mo_signal_49 rfl <| ra_iload A d_Mo_signal_50 rfl <| ra_iadd A d_Mo_signal_52 <| ra_iconst A 1 d_Mo_signal_53 (by decide) <| ra_ishr A d_Mo_signal_54 <| ?_
    exact ra_iret A ow d_Mo_signal_55 hX
theorem s_Mo_take (K : xk_ok u KK) {s0 s1 : Nat → Int32} {a w n : Nat} (R : RM h s0 s1) (hw : w < 4) (hn : a + n ≤ 1200) (hX : ∀ h', fm [150] [] false h h' → (∀ j, j < n → h'.1 150 j = sg s0 s1 a w j) → X (.inl none) h' 0 0) : xm_M l (y0 u) KK m_Mo_take [.ref 141, .int (nI w), .int (nI a), .int (nI n)] h X := by
  refine xm_of [none] (by simp) (Nat.le_of_ble_eq_true rfl) (by decide) (fun x at0 => ?_)
  have A := xa_of at0 K
  have ow := at0.2.2.2.2.1
  refine ra_iconst A 0 d_Mo_take_0 (by decide) <| ra_istore (L' := [_, _, _, _, _]) A d_Mo_take_1 (by decide) rfl <| ?_
  refine lp_up (σ := xw_H) (W := fun i g => xg x (y0 u) 0 0 3 [some (.ref 141), some (.int (nI w)), some (.int (nI a)), some (.int (nI n)), some (.int (nI i))] [] g) (I := fun i g => fm [150] [] false h g ∧ ∀ j, j < i → g.1 150 j = sg s0 s1 a w j) n ?_ ?_ 0 h (Nat.zero_le _) ⟨fm.rfl, fun j hj => by omega⟩
  · rintro g ⟨hf, hs⟩
    refine ra_iload A d_Mo_take_3 rfl <| ra_iload_n A d_Mo_take_5 rfl <| ?_
    refine ra_icmp_ge (q := 31) A d_Mo_take_6 (by decide) (fun _ => ?_) (fun cc => absurd (Int32.le_refl _) cc)
    exact ra_vret A ow d_Mo_take_31 (hX g hf hs)
  · rintro i g hi ⟨hf, hs⟩ ih
    refine ra_iload A d_Mo_take_3 rfl <| ra_iload_n A d_Mo_take_5 rfl <| ?_
    refine ra_icmp_ge (q := 31) A d_Mo_take_6 (by decide) (fun cc => absurd cc (nI_ge hi (by omega))) (fun _ => ?_)
    refine ra_aload_n A d_Mo_take_9 rfl <| ra_getR A f_Mo_176 d_Mo_take_10 (Nat.le_of_ble_eq_true rfl) rfl rfl rfl <| ra_iload A d_Mo_take_13 rfl <| ra_aload_n A d_Mo_take_15 rfl <| ra_iload_n A d_Mo_take_16 rfl <| ra_iload_n A d_Mo_take_17 rfl <| ra_iload A d_Mo_take_18 rfl <| ra_iadd A d_Mo_take_20 <| ?_
    rw [nI_add]
    refine ra_callV (As := [_, _]) A ok_Mo_signal l_Mo_250 im_Mo_signal sl_Mo_signal d_Mo_take_21 (Nat.le_of_ble_eq_true rfl) rfl rfl rfl (Nat.le_of_ble_eq_true rfl) (xr_of at0 (by decide)) (s_Mo_signal K (fun j hj => by rw [(hf.1 144 (by decide) (by decide)).1]; exact R j hj) hw (by omega) ?_)
    show xg x (y0 u) 0 0 24 _ _ g
    refine ra_iastore A d_Mo_take_24 (Nat.le_of_ble_eq_true rfl) rfl (vp_in_nI (by omega) (by decide)) ?_
    rw [nI_clamp (by omega)]
    refine ra_iinc (L' := [_, _, _, _, _]) A 1 d_Mo_take_25 rfl (by decide) (by decide) rfl <| ra_goto (q := 3) A d_Mo_take_28 (by decide) <| ?_
    rw [nI_1]
    refine ih _ ⟨hf.trans (fm_I (by decide) (by decide)), fun j hj => ?_⟩
    by_cases c : j = i
    · subst c; rw [xI_e]
    · rw [xI_j c]; exact hs j (by omega)
theorem s_Mo_wasted (K : xk_ok u KK) {sm : Nat → Int32} {n : Nat} (hn : n ≤ 1200) (hs : ∀ i, i < n → h.1 150 i = sm i) (hX : X (.inl (some (.int (nI (sW sm n))))) h 0 0) : xm_M l (y0 u) KK m_Mo_wasted [.ref 141, .int (nI n)] h X := by
  refine xm_of [none, none] (by simp) (Nat.le_of_ble_eq_true rfl) (by decide) (fun x at0 => ?_)
  have A := xa_of at0 K
  have ow := at0.2.2.2.2.1
  refine ra_iconst A 0 d_Mo_wasted_0 (by decide) <| ra_istore_n (L' := [_, _, _, _]) A d_Mo_wasted_1 (by decide) rfl <| ra_iconst A 0 d_Mo_wasted_2 (by decide) <| ra_istore_n (L' := [_, _, _, _]) A d_Mo_wasted_3 (by decide) rfl <| ?_
  refine lp_up (σ := Unit) (W := fun i _ => xg x (y0 u) 0 0 4 [some (.ref 141), some (.int (nI n)), some (.int (oS sm i)), some (.int (nI i))] [] h) (I := fun _ _ => True) n ?_ ?_ 0 () (Nat.zero_le _) trivial
  · rintro - -
    refine ra_iload_n A d_Mo_wasted_4 rfl <| ra_iload_n A d_Mo_wasted_5 rfl <| ?_
    refine ra_icmp_ge (q := 24) A d_Mo_wasted_6 (by decide) (fun _ => ?_) (fun cc => absurd (Int32.le_refl _) cc)
    refine ra_iconst A 0 d_Mo_wasted_24 (by decide) <| ra_istore_n (L' := [_, _, _, _]) A d_Mo_wasted_25 (by decide) rfl <| ?_
    unfold sW at hX
    by_cases c : oS sm n = 0
    · refine ra_iload_n A d_Mo_wasted_26 rfl <| ?_
      refine ra_if_eq (q := 44) A d_Mo_wasted_27 (by decide) (fun _ => ?_) (fun cc => absurd (c) cc)
      refine ra_iload_n A d_Mo_wasted_44 rfl <| ?_
      rw [show wz (oS sm n) = 0 by unfold wz; rw [if_pos c]] at hX
      exact ra_iret A ow d_Mo_wasted_45 hX
    · obtain ⟨hw, hT⟩ := wz_TZ c
      refine lp_up (σ := Unit) (W := fun i _ => xg x (y0 u) 0 0 26 [some (.ref 141), some (.int (nI n)), some (.int (oS sm n)), some (.int (nI i))] [] h) (I := fun _ _ => True) (wz (oS sm n)) ?_ ?_ 0 () (Nat.zero_le _) trivial
      · rintro - -
        refine ra_iload_n A d_Mo_wasted_26 rfl <| ?_
        refine ra_if_eq (q := 44) A d_Mo_wasted_27 (by decide) (fun cc => absurd cc (c)) (fun _ => ?_)
        refine ra_iload_n A d_Mo_wasted_30 rfl <| ra_iload_n A d_Mo_wasted_31 rfl <| ra_ishr A d_Mo_wasted_32 <| ra_iconst A 1 d_Mo_wasted_33 (by decide) <| ra_iand A d_Mo_wasted_34 <| ?_
        rw [ib_get _ hw, tz_at hT]
        refine ra_if_ne (q := 44) A d_Mo_wasted_35 (by decide) (fun _ => ?_) (fun cc => absurd cc ((by decide)))
        refine ra_iload_n A d_Mo_wasted_44 rfl <| ?_
        exact ra_iret A ow d_Mo_wasted_45 hX
      · rintro i - hi - ih
        refine ra_iload_n A d_Mo_wasted_26 rfl <| ?_
        refine ra_if_eq (q := 44) A d_Mo_wasted_27 (by decide) (fun cc => absurd cc (c)) (fun _ => ?_)
        refine ra_iload_n A d_Mo_wasted_30 rfl <| ra_iload_n A d_Mo_wasted_31 rfl <| ra_ishr A d_Mo_wasted_32 <| ra_iconst A 1 d_Mo_wasted_33 (by decide) <| ra_iand A d_Mo_wasted_34 <| ?_
        have hb : (oS sm n).toBitVec.toNat.testBit i = false := by
          cases hb : (oS sm n).toBitVec.toNat.testBit i with
          | false => rfl
          | true => have := tz_bit hT i hb; omega
        rw [ib_get _ (by omega), hb]
        refine ra_if_ne (q := 44) A d_Mo_wasted_35 (by decide) (fun cc => absurd (rfl) cc) (fun _ => ?_)
        refine ra_iinc (L' := [_, _, _, _]) A 1 d_Mo_wasted_38 rfl (by decide) (by decide) rfl <| ra_goto (q := 26) A d_Mo_wasted_41 (by decide) <| ?_
        rw [nI_1]
        exact ih () trivial
  · rintro i - hi - ih
    refine ra_iload_n A d_Mo_wasted_4 rfl <| ra_iload_n A d_Mo_wasted_5 rfl <| ?_
    refine ra_icmp_ge (q := 24) A d_Mo_wasted_6 (by decide) (fun cc => absurd cc (nI_ge hi (by omega))) (fun _ => ?_)
    refine ra_iload_n A d_Mo_wasted_9 rfl <| ra_aload_n A d_Mo_wasted_10 rfl <| ra_getR A f_Mo_176 d_Mo_wasted_11 (Nat.le_of_ble_eq_true rfl) rfl rfl rfl <| ra_iload_n A d_Mo_wasted_14 rfl <| ?_
    refine ra_iaload A d_Mo_wasted_15 (Nat.le_of_ble_eq_true rfl) rfl (vp_in_nI (by omega) (by decide)) ?_
    rw [nI_clamp (by omega), hs i hi]
    refine ra_ior A d_Mo_wasted_16 <| ra_istore_n (L' := [_, _, _, _]) A d_Mo_wasted_17 (by decide) rfl <| ra_iinc (L' := [_, _, _, _]) A 1 d_Mo_wasted_18 rfl (by decide) (by decide) rfl <| ra_goto (q := 4) A d_Mo_wasted_21 (by decide) <| ?_
    rw [nI_1]
    exact ih () trivial
theorem s_Mo_shifted (K : xk_ok u KK) {sm : Nat → Int32} {i w : Nat} (hi : i < 1200) (hs : h.1 150 i = sm i) (ew : h.1 141 19 = nI w) (hX : X (.inl (some (.int (sh sm w i)))) h 0 0) : xm_M l (y0 u) KK m_Mo_shifted [.ref 141, .int (nI i)] h X := by
  refine xm_of [] (by simp) (Nat.le_of_ble_eq_true rfl) (by decide) (fun x at0 => ?_)
  have A := xa_of at0 K
  have ow := at0.2.2.2.2.1
  refine ra_aload_n A d_Mo_shifted_0 rfl <| ra_getR A f_Mo_176 d_Mo_shifted_1 (Nat.le_of_ble_eq_true rfl) rfl rfl rfl <| ra_iload_n A d_Mo_shifted_4 rfl <| ?_
  refine ra_iaload A d_Mo_shifted_5 (Nat.le_of_ble_eq_true rfl) rfl (vp_in_nI hi (by decide)) ?_
  rw [nI_clamp (by omega), hs]
  refine ra_aload_n A d_Mo_shifted_6 rfl <| ra_getI A f_Mo_253 d_Mo_shifted_7 (Nat.le_of_ble_eq_true rfl) rfl rfl <| ?_
  rw [ew]
  refine ra_ishr A d_Mo_shifted_10 <| ?_
  exact ra_iret A ow d_Mo_shifted_11 hX
theorem s_Mo_folded (K : xk_ok u KK) {r : Int32} (hr : -2 ^ 29 ≤ r.toInt ∧ r.toInt ≤ 2 ^ 29) (hX : X (.inl (some (.int (nI (fdN r))))) h 0 0) : xm_M l (y0 u) KK m_Mo_folded [.int r] h X := by
  refine xm_of [] (by simp) (Nat.le_of_ble_eq_true rfl) (by decide) (fun x at0 => ?_)
  have A := xa_of at0 K
  have ow := at0.2.2.2.2.1
  refine ra_iload_n A d_Mo_folded_0 rfl <| ?_
  by_cases c : 0 ≤ r.toInt
  · refine ra_if_lt (q := 10) A d_Mo_folded_1 (by decide) (fun cc => absurd cc (fun z => i_lt0.mp z c)) (fun _ => ?_)
    refine ra_iconst A 2 d_Mo_folded_4 (by decide) <| ra_iload_n A d_Mo_folded_5 rfl <| ra_imul A d_Mo_folded_6 <| ra_goto (q := 16) A d_Mo_folded_7 (by decide) <| ?_
    rw [fd_pos hr c]
    exact ra_iret A ow d_Mo_folded_16 hX
  · refine ra_if_lt (q := 10) A d_Mo_folded_1 (by decide) (fun _ => ?_) (fun cc => absurd (i_lt0.mpr c) cc)
    refine ra_bipush A (-2) d_Mo_folded_10 (by decide) <| ra_iload_n A d_Mo_folded_12 rfl <| ra_imul A d_Mo_folded_13 <| ra_iconst A 1 d_Mo_folded_14 (by decide) <| ra_isub A d_Mo_folded_15 <| ?_
    rw [fd_neg hr c]
    exact ra_iret A ow d_Mo_folded_16 hX
theorem s_Mo_leave (K : xk_ok u KK) {sm : Nat → Int32} {o n w : Nat} (ho : o ≤ 4) (hn : n ≤ 1200) (hs : ∀ i, i < n → h.1 150 i = sm i) (ew : h.1 141 19 = nI w) (hX : ∀ h', fm [151] [] false h h' → (∀ i, o ≤ i → i < n → h'.1 151 i = dl o (sh sm w) i) → X (.inl none) h' 0 0) : xm_M l (y0 u) KK m_Mo_leave [.ref 141, .int (nI o), .int (nI n)] h X := by
  refine xm_of [none, none] (by simp) (Nat.le_of_ble_eq_true rfl) (by decide) (fun x at0 => ?_)
  have A := xa_of at0 K
  have ow := at0.2.2.2.2.1
  by_cases hon : n < o
  · refine ra_iload_n A d_Mo_leave_0 rfl <| ra_istore_n (L' := [_, _, _, _, _]) A d_Mo_leave_1 (by decide) rfl <| ra_iload_n A d_Mo_leave_2 rfl <| ra_iload_n A d_Mo_leave_3 rfl <| ?_
    refine ra_icmp_ge (q := 150) A d_Mo_leave_4 (by decide) (fun _ => ?_) (fun cc => absurd (nI_le (Nat.le_of_lt hon) (by omega)) cc)
    exact ra_vret A ow d_Mo_leave_150 (hX h fm.rfl (fun i h1 h2 => by omega))
  refine ra_iload_n A d_Mo_leave_0 rfl <| ra_istore_n (L' := [_, _, _, _, _]) A d_Mo_leave_1 (by decide) rfl <| ?_
  refine lp_up (σ := xw_H) (W := fun i g => ∀ w4, xg x (y0 u) 0 0 2 [some (.ref 141), some (.int (nI o)), some (.int (nI n)), some (.int (nI i)), w4] [] g) (I := fun i g => o ≤ i ∧ fm [151] [] false h g ∧ ∀ j, o ≤ j → j < i → g.1 151 j = dl o (sh sm w) j) n ?_ ?_ o h (by omega) ⟨Nat.le_refl _, fm.rfl, fun j h1 h2 => by omega⟩ none
  · rintro g ⟨-, hf, hs⟩ w4
    refine ra_iload_n A d_Mo_leave_2 rfl <| ra_iload_n A d_Mo_leave_3 rfl <| ?_
    refine ra_icmp_ge (q := 150) A d_Mo_leave_4 (by decide) (fun _ => ?_) (fun cc => absurd (Int32.le_refl _) cc)
    exact ra_vret A ow d_Mo_leave_150 (hX g hf hs)
  · rintro i g hi ⟨hoi, hf, hd⟩ ih w4
    have es : ∀ j, j < n → g.1 150 j = sm j := fun j hj => by rw [(hf.1 150 (by decide) (by decide)).1]; exact hs j hj
    have eg : g.1 141 19 = nI w := by rw [hf.2.1 19 (by decide)]; exact ew
    have at128 : ∀ p, sh sm w i - p = dl o (sh sm w) i → xg x (y0 u) 0 0 128 [some (.ref 141), some (.int (nI o)), some (.int (nI n)), some (.int (nI i)), w4] [.int p] g := by
      intro p hp
      refine ra_istore (L' := [_, _, _, _, _]) A d_Mo_leave_128 (by decide) rfl <| ra_aload_n A d_Mo_leave_130 rfl <| ra_getR A f_Mo_179 d_Mo_leave_131 (Nat.le_of_ble_eq_true rfl) rfl rfl rfl <| ra_iload_n A d_Mo_leave_134 rfl <| ra_aload_n A d_Mo_leave_135 rfl <| ra_iload_n A d_Mo_leave_136 rfl <| ?_
      refine ra_callV (As := [_]) A ok_Mo_shifted l_Mo_256 im_Mo_shifted sl_Mo_shifted d_Mo_leave_137 (Nat.le_of_ble_eq_true rfl) rfl rfl rfl (Nat.le_of_ble_eq_true rfl) (xr_of at0 (by decide)) (s_Mo_shifted K (by omega) (es i hi) eg ?_)
      show xg x (y0 u) 0 0 140 _ _ g
      refine ra_iload A d_Mo_leave_140 rfl <| ra_isub A d_Mo_leave_142 <| ?_
      rw [hp]
      refine ra_iastore A d_Mo_leave_143 (Nat.le_of_ble_eq_true rfl) rfl (vp_in_nI (by omega) (by decide)) ?_
      rw [nI_clamp (by omega)]
      refine ra_iinc (L' := [_, _, _, _, _]) A 1 d_Mo_leave_144 rfl (by decide) (by decide) rfl <| ra_goto (q := 2) A d_Mo_leave_147 (by decide) <| ?_
      rw [nI_1]
      refine ih _ ⟨by omega, hf.trans (fm_I (by decide) (by decide)), fun j h1 h2 => ?_⟩ _
      by_cases c : j = i
      · subst c; rw [xI_e]
      · rw [xI_j c]; exact hd j h1 (by omega)
    refine ra_iload_n A d_Mo_leave_2 rfl <| ra_iload_n A d_Mo_leave_3 rfl <| ?_
    refine ra_icmp_ge (q := 150) A d_Mo_leave_4 (by decide) (fun cc => absurd cc (nI_ge hi (by omega))) (fun _ => ?_)
    refine ra_iload_n A d_Mo_leave_7 rfl <| ?_
    have ho' : o = 0 ∨ o = 1 ∨ o = 2 ∨ o = 3 ∨ o = 4 := by omega
    have s1 : 1 ≤ i → nI i - 1 = nI (i - 1) := fun q => pk_sub (b := 1) q
    have s2 : 2 ≤ i → nI i - 2 = nI (i - 2) := fun q => pk_sub (b := 2) q
    have s3 : 3 ≤ i → nI i - 3 = nI (i - 3) := fun q => pk_sub (b := 3) q
    have s4 : 4 ≤ i → nI i - 4 = nI (i - 4) := fun q => pk_sub (b := 4) q
    rcases ho' with rfl | rfl | rfl | rfl | rfl
    · refine ra_if_ne (q := 15) A d_Mo_leave_8 (by decide) (fun cc => absurd (rfl) cc) (fun _ => ?_)
      refine ra_iconst A 0 d_Mo_leave_11 (by decide) <| ra_goto (q := 128) A d_Mo_leave_12 (by decide) <| ?_
      refine at128 _ ?_
      simp [dl]
    · refine ra_if_ne (q := 15) A d_Mo_leave_8 (by decide) (fun _ => ?_) (fun cc => absurd cc ((by decide)))
      refine ra_iload_n A d_Mo_leave_15 rfl <| ra_iconst A 1 d_Mo_leave_16 (by decide) <| ?_
      refine ra_icmp_ne (q := 30) A d_Mo_leave_17 (by decide) (fun cc => absurd (rfl) cc) (fun _ => ?_)
      refine ra_aload_n A d_Mo_leave_20 rfl <| ra_iload_n A d_Mo_leave_21 rfl <| ra_iconst A 1 d_Mo_leave_22 (by decide) <| ra_isub A d_Mo_leave_23 <| ?_
      rw [s1 hoi]
      refine ra_callV (As := [_]) A ok_Mo_shifted l_Mo_256 im_Mo_shifted sl_Mo_shifted d_Mo_leave_24 (Nat.le_of_ble_eq_true rfl) rfl rfl rfl (Nat.le_of_ble_eq_true rfl) (xr_of at0 (by decide)) (s_Mo_shifted K (by omega) (es _ (by omega)) eg ?_)
      show xg x (y0 u) 0 0 27 _ _ g
      refine ra_goto (q := 128) A d_Mo_leave_27 (by decide) <| ?_
      exact at128 _ rfl
    · refine ra_if_ne (q := 15) A d_Mo_leave_8 (by decide) (fun _ => ?_) (fun cc => absurd cc ((by decide)))
      refine ra_iload_n A d_Mo_leave_15 rfl <| ra_iconst A 1 d_Mo_leave_16 (by decide) <| ?_
      refine ra_icmp_ne (q := 30) A d_Mo_leave_17 (by decide) (fun _ => ?_) (fun cc => absurd cc ((by decide)))
      refine ra_iload_n A d_Mo_leave_30 rfl <| ra_iconst A 2 d_Mo_leave_31 (by decide) <| ?_
      refine ra_icmp_ne (q := 55) A d_Mo_leave_32 (by decide) (fun cc => absurd (rfl) cc) (fun _ => ?_)
      refine ra_iconst A 2 d_Mo_leave_35 (by decide) <| ra_aload_n A d_Mo_leave_36 rfl <| ra_iload_n A d_Mo_leave_37 rfl <| ra_iconst A 1 d_Mo_leave_38 (by decide) <| ra_isub A d_Mo_leave_39 <| ?_
      rw [s1 (by omega)]
      refine ra_callV (As := [_]) A ok_Mo_shifted l_Mo_256 im_Mo_shifted sl_Mo_shifted d_Mo_leave_40 (Nat.le_of_ble_eq_true rfl) rfl rfl rfl (Nat.le_of_ble_eq_true rfl) (xr_of at0 (by decide)) (s_Mo_shifted K (by omega) (es _ (by omega)) eg ?_)
      show xg x (y0 u) 0 0 43 _ _ g
      refine ra_imul A d_Mo_leave_43 <| ra_aload_n A d_Mo_leave_44 rfl <| ra_iload_n A d_Mo_leave_45 rfl <| ra_iconst A 2 d_Mo_leave_46 (by decide) <| ra_isub A d_Mo_leave_47 <| ?_
      rw [s2 (by omega)]
      refine ra_callV (As := [_]) A ok_Mo_shifted l_Mo_256 im_Mo_shifted sl_Mo_shifted d_Mo_leave_48 (Nat.le_of_ble_eq_true rfl) rfl rfl rfl (Nat.le_of_ble_eq_true rfl) (xr_of at0 (by decide)) (s_Mo_shifted K (by omega) (es _ (by omega)) eg ?_)
      show xg x (y0 u) 0 0 51 _ _ g
      refine ra_isub A d_Mo_leave_51 <| ra_goto (q := 128) A d_Mo_leave_52 (by decide) <| ?_
      refine at128 _ ?_
      simp only [dl]
      rw [show i - 1 - 1 = i - 2 by omega]
      grind
    · refine ra_if_ne (q := 15) A d_Mo_leave_8 (by decide) (fun _ => ?_) (fun cc => absurd cc ((by decide)))
      refine ra_iload_n A d_Mo_leave_15 rfl <| ra_iconst A 1 d_Mo_leave_16 (by decide) <| ?_
      refine ra_icmp_ne (q := 30) A d_Mo_leave_17 (by decide) (fun _ => ?_) (fun cc => absurd cc ((by decide)))
      refine ra_iload_n A d_Mo_leave_30 rfl <| ra_iconst A 2 d_Mo_leave_31 (by decide) <| ?_
      refine ra_icmp_ne (q := 55) A d_Mo_leave_32 (by decide) (fun _ => ?_) (fun cc => absurd cc ((by decide)))
      refine ra_iload_n A d_Mo_leave_55 rfl <| ra_iconst A 3 d_Mo_leave_56 (by decide) <| ?_
      refine ra_icmp_ne (q := 90) A d_Mo_leave_57 (by decide) (fun cc => absurd (rfl) cc) (fun _ => ?_)
      refine ra_iconst A 3 d_Mo_leave_60 (by decide) <| ra_aload_n A d_Mo_leave_61 rfl <| ra_iload_n A d_Mo_leave_62 rfl <| ra_iconst A 1 d_Mo_leave_63 (by decide) <| ra_isub A d_Mo_leave_64 <| ?_
      rw [s1 (by omega)]
      refine ra_callV (As := [_]) A ok_Mo_shifted l_Mo_256 im_Mo_shifted sl_Mo_shifted d_Mo_leave_65 (Nat.le_of_ble_eq_true rfl) rfl rfl rfl (Nat.le_of_ble_eq_true rfl) (xr_of at0 (by decide)) (s_Mo_shifted K (by omega) (es _ (by omega)) eg ?_)
      show xg x (y0 u) 0 0 68 _ _ g
      refine ra_imul A d_Mo_leave_68 <| ra_iconst A 3 d_Mo_leave_69 (by decide) <| ra_aload_n A d_Mo_leave_70 rfl <| ra_iload_n A d_Mo_leave_71 rfl <| ra_iconst A 2 d_Mo_leave_72 (by decide) <| ra_isub A d_Mo_leave_73 <| ?_
      rw [s2 (by omega)]
      refine ra_callV (As := [_]) A ok_Mo_shifted l_Mo_256 im_Mo_shifted sl_Mo_shifted d_Mo_leave_74 (Nat.le_of_ble_eq_true rfl) rfl rfl rfl (Nat.le_of_ble_eq_true rfl) (xr_of at0 (by decide)) (s_Mo_shifted K (by omega) (es _ (by omega)) eg ?_)
      show xg x (y0 u) 0 0 77 _ _ g
      refine ra_imul A d_Mo_leave_77 <| ra_isub A d_Mo_leave_78 <| ra_aload_n A d_Mo_leave_79 rfl <| ra_iload_n A d_Mo_leave_80 rfl <| ra_iconst A 3 d_Mo_leave_81 (by decide) <| ra_isub A d_Mo_leave_82 <| ?_
      rw [s3 (by omega)]
      refine ra_callV (As := [_]) A ok_Mo_shifted l_Mo_256 im_Mo_shifted sl_Mo_shifted d_Mo_leave_83 (Nat.le_of_ble_eq_true rfl) rfl rfl rfl (Nat.le_of_ble_eq_true rfl) (xr_of at0 (by decide)) (s_Mo_shifted K (by omega) (es _ (by omega)) eg ?_)
      show xg x (y0 u) 0 0 86 _ _ g
      refine ra_iadd A d_Mo_leave_86 <| ra_goto (q := 128) A d_Mo_leave_87 (by decide) <| ?_
      refine at128 _ ?_
      simp only [dl]
      rw [show i - 1 - 1 = i - 2 by omega, show i - 2 - 1 = i - 3 by omega]
      grind
    · refine ra_if_ne (q := 15) A d_Mo_leave_8 (by decide) (fun _ => ?_) (fun cc => absurd cc ((by decide)))
      refine ra_iload_n A d_Mo_leave_15 rfl <| ra_iconst A 1 d_Mo_leave_16 (by decide) <| ?_
      refine ra_icmp_ne (q := 30) A d_Mo_leave_17 (by decide) (fun _ => ?_) (fun cc => absurd cc ((by decide)))
      refine ra_iload_n A d_Mo_leave_30 rfl <| ra_iconst A 2 d_Mo_leave_31 (by decide) <| ?_
      refine ra_icmp_ne (q := 55) A d_Mo_leave_32 (by decide) (fun _ => ?_) (fun cc => absurd cc ((by decide)))
      refine ra_iload_n A d_Mo_leave_55 rfl <| ra_iconst A 3 d_Mo_leave_56 (by decide) <| ?_
      refine ra_icmp_ne (q := 90) A d_Mo_leave_57 (by decide) (fun _ => ?_) (fun cc => absurd cc ((by decide)))
      refine ra_iconst A 4 d_Mo_leave_90 (by decide) <| ra_aload_n A d_Mo_leave_91 rfl <| ra_iload_n A d_Mo_leave_92 rfl <| ra_iconst A 1 d_Mo_leave_93 (by decide) <| ra_isub A d_Mo_leave_94 <| ?_
      rw [s1 (by omega)]
      refine ra_callV (As := [_]) A ok_Mo_shifted l_Mo_256 im_Mo_shifted sl_Mo_shifted d_Mo_leave_95 (Nat.le_of_ble_eq_true rfl) rfl rfl rfl (Nat.le_of_ble_eq_true rfl) (xr_of at0 (by decide)) (s_Mo_shifted K (by omega) (es _ (by omega)) eg ?_)
      show xg x (y0 u) 0 0 98 _ _ g
      refine ra_imul A d_Mo_leave_98 <| ra_bipush A 6 d_Mo_leave_99 (by decide) <| ra_aload_n A d_Mo_leave_101 rfl <| ra_iload_n A d_Mo_leave_102 rfl <| ra_iconst A 2 d_Mo_leave_103 (by decide) <| ra_isub A d_Mo_leave_104 <| ?_
      rw [s2 (by omega)]
      refine ra_callV (As := [_]) A ok_Mo_shifted l_Mo_256 im_Mo_shifted sl_Mo_shifted d_Mo_leave_105 (Nat.le_of_ble_eq_true rfl) rfl rfl rfl (Nat.le_of_ble_eq_true rfl) (xr_of at0 (by decide)) (s_Mo_shifted K (by omega) (es _ (by omega)) eg ?_)
      show xg x (y0 u) 0 0 108 _ _ g
      refine ra_imul A d_Mo_leave_108 <| ra_isub A d_Mo_leave_109 <| ra_iconst A 4 d_Mo_leave_110 (by decide) <| ra_aload_n A d_Mo_leave_111 rfl <| ra_iload_n A d_Mo_leave_112 rfl <| ra_iconst A 3 d_Mo_leave_113 (by decide) <| ra_isub A d_Mo_leave_114 <| ?_
      rw [s3 (by omega)]
      refine ra_callV (As := [_]) A ok_Mo_shifted l_Mo_256 im_Mo_shifted sl_Mo_shifted d_Mo_leave_115 (Nat.le_of_ble_eq_true rfl) rfl rfl rfl (Nat.le_of_ble_eq_true rfl) (xr_of at0 (by decide)) (s_Mo_shifted K (by omega) (es _ (by omega)) eg ?_)
      show xg x (y0 u) 0 0 118 _ _ g
      refine ra_imul A d_Mo_leave_118 <| ra_iadd A d_Mo_leave_119 <| ra_aload_n A d_Mo_leave_120 rfl <| ra_iload_n A d_Mo_leave_121 rfl <| ra_iconst A 4 d_Mo_leave_122 (by decide) <| ra_isub A d_Mo_leave_123 <| ?_
      rw [s4 (by omega)]
      refine ra_callV (As := [_]) A ok_Mo_shifted l_Mo_256 im_Mo_shifted sl_Mo_shifted d_Mo_leave_124 (Nat.le_of_ble_eq_true rfl) rfl rfl rfl (Nat.le_of_ble_eq_true rfl) (xr_of at0 (by decide)) (s_Mo_shifted K (by omega) (es _ (by omega)) eg ?_)
      show xg x (y0 u) 0 0 127 _ _ g
      refine ra_isub A d_Mo_leave_127 <| ?_
      refine at128 _ ?_
      simp only [dl]
      rw [show i - 1 - 1 = i - 2 by omega, show i - 2 - 1 = i - 3 by omega, show i - 3 - 1 = i - 4 by omega]
      grind
theorem s_Mo_room (K : xk_ok u KK) {r : Nat → Int32} {a m : Nat} (ham : a + m ≤ 1200) (hr : ∀ i, a ≤ i → i < a + m → h.1 151 i = r i ∧ -2 ^ 29 ≤ (r i).toInt ∧ (r i).toInt ≤ 2 ^ 29) (hX : X (.inl (some (.int (nI (bln (us (fun i => fdN (r i)) a m)))))) h 0 0) : xm_M l (y0 u) KK m_Mo_room [.ref 141, .int (nI a), .int (nI (a + m))] h X := by
  refine xm_of [none, none, none, none, none] (by simp) (Nat.le_of_ble_eq_true rfl) (by decide) (fun x at0 => ?_)
  have A := xa_of at0 K
  have ow := at0.2.2.2.2.1
  have hfd : ∀ i, a ≤ i → i < a + m → fdN (r i) < 2 ^ 31 := by
    intro i h1 h2
    have := fdN_lt (hr i h1 h2).2
    omega
  have hbl : ∀ v, v < 2 ^ 31 → bln v ≤ 31 := fun v hv => bln_le hv
  have hus : ∀ j, j ≤ m → bln (us (fun i => fdN (r i)) a j) ≤ 31 := fun j hj => hbl _ (us_lt2 _ (fun i h1 h2 => hfd i h1 (by omega)))
  refine ra_iconst A 0 d_Mo_room_0 (by decide) <| ra_istore_n (L' := [_, _, _, _, _, _, _, _]) A d_Mo_room_1 (by decide) rfl <| ra_iload_n A d_Mo_room_2 rfl <| ra_istore (L' := [_, _, _, _, _, _, _, _]) A d_Mo_room_3 (by decide) rfl <| ?_
  have e0 : bln (us (fun i => fdN (r i)) a 0) = 0 := by simp [us, bln]
  rw [show (0 : Int32) = nI (bln (us (fun i => fdN (r i)) a 0)) by rw [e0]; rfl]
  rw [show a = a + 0 from rfl]
  refine lp_up (σ := Option Value × Option Value × Option Value) (W := fun j s => xg x (y0 u) 0 0 5 [some (.ref 141), some (.int (nI (a + 0))), some (.int (nI (a + 0 + m))), some (.int (nI (bln (us (fun i => fdN (r i)) a j)))), some (.int (nI (a + j))), s.1, s.2.1, s.2.2] [] h) (I := fun _ _ => True) m ?_ ?_ 0 (none, none, none) (Nat.zero_le _) trivial
  · rintro ⟨w5, w6, w7⟩ -
    dsimp only
    refine ra_iload A d_Mo_room_5 rfl <| ra_iload_n A d_Mo_room_7 rfl <| ?_
    refine ra_icmp_ge (q := 99) A d_Mo_room_8 (by decide) (fun _ => ?_) (fun cc => absurd (Int32.le_refl _) cc)
    refine ra_iload_n A d_Mo_room_99 rfl <| ?_
    exact ra_iret A ow d_Mo_room_100 hX
  · rintro j ⟨w5, w6, w7⟩ hj - ih
    dsimp only
    obtain ⟨e1, e2⟩ := hr (a + j) (by omega) (by omega)
    have hf := hfd (a + j) (by omega) (by omega)
    have eu : us (fun i => fdN (r i)) a (j + 1) = us (fun i => fdN (r i)) a j ||| fdN (r (a + j)) := rfl
    have eb : bln (us (fun i => fdN (r i)) a (j + 1)) = max (bln (us (fun i => fdN (r i)) a j)) (bln (fdN (r (a + j)))) := by rw [eu, bln_or]
    have hu := hus j (by omega)
    have hb := hbl _ hf
    refine ra_iload A d_Mo_room_5 rfl <| ra_iload_n A d_Mo_room_7 rfl <| ?_
    refine ra_icmp_ge (q := 99) A d_Mo_room_8 (by decide) (fun cc => absurd cc (nI_ge (show a + j < a + 0 + m by omega) (by omega))) (fun _ => ?_)
    refine ra_aload_n A d_Mo_room_11 rfl <| ra_getR A f_Mo_179 d_Mo_room_12 (Nat.le_of_ble_eq_true rfl) rfl rfl rfl <| ra_iload A d_Mo_room_15 rfl <| ?_
    refine ra_iaload A d_Mo_room_17 (Nat.le_of_ble_eq_true rfl) rfl (vp_in_nI (by omega) (by decide)) ?_
    rw [nI_clamp (by omega), e1]
    have at80 : ∀ w5 w7, xg x (y0 u) 0 0 80 [some (.ref 141), some (.int (nI (a + 0))), some (.int (nI (a + 0 + m))), some (.int (nI (bln (us (fun i => fdN (r i)) a j)))), some (.int (nI (a + j))), w5, some (.int (nI (bln (fdN (r (a + j)))))), w7] [] h := by
      intro w5 w7
      rw [eb] at ih
      refine ra_iload A d_Mo_room_80 rfl <| ra_iload_n A d_Mo_room_82 rfl <| ?_
      by_cases c : bln (fdN (r (a + j))) ≤ bln (us (fun i => fdN (r i)) a j)
      · refine ra_icmp_le (q := 91) A d_Mo_room_83 (by decide) (fun _ => ?_) (fun cc => absurd (nI_le c (by omega)) cc)
        refine ra_iload_n A d_Mo_room_91 rfl <| ra_istore_n (L' := [_, _, _, _, _, _, _, _]) A d_Mo_room_92 (by decide) rfl <| ra_iinc (L' := [_, _, _, _, _, _, _, _]) A 1 d_Mo_room_93 rfl (by decide) (by decide) rfl <| ra_goto (q := 5) A d_Mo_room_96 (by decide) <| ?_
        rw [nI_1]
        rw [Nat.max_eq_left c] at ih
        exact ih (_, _, _) trivial
      · refine ra_icmp_le (q := 91) A d_Mo_room_83 (by decide) (fun cc => absurd cc (nI_ge (by omega) (by omega))) (fun _ => ?_)
        refine ra_iload A d_Mo_room_86 rfl <| ra_goto (q := 92) A d_Mo_room_88 (by decide) <| ra_istore_n (L' := [_, _, _, _, _, _, _, _]) A d_Mo_room_92 (by decide) rfl <| ra_iinc (L' := [_, _, _, _, _, _, _, _]) A 1 d_Mo_room_93 rfl (by decide) (by decide) rfl <| ra_goto (q := 5) A d_Mo_room_96 (by decide) <| ?_
        rw [nI_1]
        rw [Nat.max_eq_right (by omega)] at ih
        exact ih (_, _, _) trivial
    have at63 : ∀ p v (z : Int32), p + bln v = bln (fdN (r (a + j))) → v < 2 ^ 31 → xg x (y0 u) 0 0 63 [some (.ref 141), some (.int (nI (a + 0))), some (.int (nI (a + 0 + m))), some (.int (nI (bln (us (fun i => fdN (r i)) a j)))), some (.int (nI (a + j))), some (.int z), some (.int (nI p)), some (.int (nI v))] [] h := by
      intro p v
      induction v using Nat.strongRecOn generalizing p with
      | _ v ihv =>
        intro z hp hv
        refine ra_iload A d_Mo_room_63 rfl <| ?_
        by_cases c : v = 0
        · subst c
          refine ra_if_le (q := 80) A d_Mo_room_65 (by decide) (fun _ => ?_) (fun cc => absurd ((by decide)) cc)
          rw [show p = bln (fdN (r (a + j))) by simpa [bln] using hp]
          exact at80 _ _
        · refine ra_if_le (q := 80) A d_Mo_room_65 (by decide) (fun cc => absurd cc (nI_nle (by omega) hv)) (fun _ => ?_)
          refine ra_iinc (L' := [_, _, _, _, _, _, _, _]) A 1 d_Mo_room_68 rfl (by decide) (by decide) rfl <| ?_
          refine ra_iload A d_Mo_room_71 rfl <| ra_iconst A 1 d_Mo_room_73 (by decide) <| ra_ishr A d_Mo_room_74 <| ?_
          rw [nI_1, pk_shrN (k := 1) hv _ (by decide)]
          refine ra_istore (L' := [_, _, _, _, _, _, _, _]) A d_Mo_room_75 (by decide) rfl <| ra_goto (q := 63) A d_Mo_room_77 (by decide) <| ?_
          refine ihv (v / 2 ^ 1) (by omega) (p + 1) z ?_ (by omega)
          rw [bln_half c] at hp
          rw [show v / 2 ^ 1 = v / 2 from rfl]
          omega
    have at40 : xg x (y0 u) 0 0 40 [some (.ref 141), some (.int (nI (a + 0))), some (.int (nI (a + 0 + m))), some (.int (nI (bln (us (fun i => fdN (r i)) a j)))), some (.int (nI (a + j))), w5, w6, w7] [.int (nI (fdN (r (a + j)) / 2))] h := by
      refine ra_istore (L' := [_, _, _, _, _, _, _, _]) A d_Mo_room_40 (by decide) rfl <| ra_aload_n A d_Mo_room_42 rfl <| ra_getR A f_Mo_179 d_Mo_room_43 (Nat.le_of_ble_eq_true rfl) rfl rfl rfl <| ra_iload A d_Mo_room_46 rfl <| ?_
      refine ra_iaload A d_Mo_room_48 (Nat.le_of_ble_eq_true rfl) rfl (vp_in_nI (by omega) (by decide)) ?_
      rw [nI_clamp (by omega), e1]
      by_cases c : fdN (r (a + j)) = 0
      · refine ra_if_ne (q := 56) A d_Mo_room_49 (by decide) (fun cc => absurd ((fd_0 e2).mpr c) cc) (fun _ => ?_)
        refine ra_iconst A 0 d_Mo_room_52 (by decide) <| ra_goto (q := 57) A d_Mo_room_53 (by decide) <| ra_istore (L' := [_, _, _, _, _, _, _, _]) A d_Mo_room_57 (by decide) rfl <| ra_iload A d_Mo_room_59 rfl <| ra_istore (L' := [_, _, _, _, _, _, _, _]) A d_Mo_room_61 (by decide) rfl <| ?_
        rw [c]
        exact at63 0 0 _ (by rw [c, Nat.zero_add]) (by decide)
      · refine ra_if_ne (q := 56) A d_Mo_room_49 (by decide) (fun _ => ?_) (fun cc => absurd cc (fun z => c ((fd_0 e2).mp z)))
        refine ra_iconst A 1 d_Mo_room_56 (by decide) <| ra_istore (L' := [_, _, _, _, _, _, _, _]) A d_Mo_room_57 (by decide) rfl <| ra_iload A d_Mo_room_59 rfl <| ra_istore (L' := [_, _, _, _, _, _, _, _]) A d_Mo_room_61 (by decide) rfl <| ?_
        exact at63 1 (fdN (r (a + j)) / 2) _ (by rw [bln_half c]; omega) (by omega)
    by_cases c : 0 ≤ (r (a + j)).toInt
    · refine ra_if_ge (q := 33) A d_Mo_room_18 (by decide) (fun _ => ?_) (fun cc => absurd ((by rw [Int32.le_iff_toInt_le, Int32.toInt_zero]; exact c)) cc)
      refine ra_aload_n A d_Mo_room_33 rfl <| ra_getR A f_Mo_179 d_Mo_room_34 (Nat.le_of_ble_eq_true rfl) rfl rfl rfl <| ra_iload A d_Mo_room_37 rfl <| ?_
      refine ra_iaload A d_Mo_room_39 (Nat.le_of_ble_eq_true rfl) rfl (vp_in_nI (by omega) (by decide)) ?_
      rw [nI_clamp (by omega), e1]
      rw [← fd_half_pos e2 c] at at40
      exact at40
    · refine ra_if_ge (q := 33) A d_Mo_room_18 (by decide) (fun cc => absurd cc ((by rw [Int32.le_iff_toInt_le, Int32.toInt_zero]; exact c))) (fun _ => ?_)
      refine ra_aload_n A d_Mo_room_21 rfl <| ra_getR A f_Mo_179 d_Mo_room_22 (Nat.le_of_ble_eq_true rfl) rfl rfl rfl <| ra_iload A d_Mo_room_25 rfl <| ?_
      refine ra_iaload A d_Mo_room_27 (Nat.le_of_ble_eq_true rfl) rfl (vp_in_nI (by omega) (by decide)) ?_
      rw [nI_clamp (by omega), e1]
      refine ra_iconst A (-1) d_Mo_room_28 (by decide) <| ra_ixor A d_Mo_room_29 <| ra_goto (q := 40) A d_Mo_room_30 (by decide) <| ?_
      rw [fd_half_neg e2 c]
      exact at40
end S84
