/-! BITS OF A STREAM: SoundStream$Writer -/
theorem bitput_I : ∀ s, s < 256 → ∀ b, b < 8 → ∀ t, t < 2 → ((nI s &&& (((1 : Int32) <<< (nI b &&& 31)) ^^^ (-1))) ||| (nI t <<< (nI b &&& 31))) = nI (s / 2 ^ (b + 1) * 2 ^ (b + 1) + t * 2 ^ b + s % 2 ^ b) := by decide +kernel
theorem bitput_N : ∀ s, s < 256 → ∀ b, b < 8 → ∀ t, t < 2 → (s / 2 ^ (b + 1) * 2 ^ (b + 1) + t * 2 ^ b + s % 2 ^ b) < 256 ∧ ∀ c, c < 8 → (s / 2 ^ (b + 1) * 2 ^ (b + 1) + t * 2 ^ b + s % 2 ^ b).testBit c = if c = b then t == 1 else s.testBit c := by decide +kernel
theorem nI_or (a b : Nat) : nI a ||| nI b = nI (a ||| b) := by
  apply Int32.toBitVec_inj.mp
  rw [Int32.toBitVec_or]
  show BitVec.ofNat 32 a ||| BitVec.ofNat 32 b = BitVec.ofNat 32 (a ||| b)
  rw [BitVec.ofNat_or]
theorem ga_app {α : Type} {M : List α} {o d : α} {i : Nat} : (M ++ [o]).getD i d = if i < M.length then M.getD i d else if i = M.length then o else d := by
  rw [List.getD_eq_getElem?_getD, List.getD_eq_getElem?_getD, List.getElem?_append]
  by_cases h : i < M.length
  · rw [if_pos h, if_pos h]
  · rw [if_neg h, if_neg h]
    by_cases h2 : i = M.length
    · subst h2; simp
    · rw [if_neg h2, List.getElem?_eq_none (by simp; omega)]; rfl
theorem ga_lt {α : Type} {M N : List α} {d : α} {i : Nat} (h : i < M.length) : (M ++ N).getD i d = M.getD i d := by
  rw [List.getD_eq_getElem?_getD, List.getD_eq_getElem?_getD, List.getElem?_append_left h]
theorem ga_ge {α : Type} {M : List α} {d : α} {i : Nat} (h : M.length ≤ i) : M.getD i d = d := by
  rw [List.getD_eq_getElem?_getD, List.getElem?_eq_none h]; rfl
theorem ga_r {α : Type} {M N : List α} {d : α} {i : Nat} (h : M.length ≤ i) : (M ++ N).getD i d = N.getD (i - M.length) d := by
  rw [List.getD_eq_getElem?_getD, List.getD_eq_getElem?_getD, List.getElem?_append_right h]
/-- bit i of a long -/
def lb (v : Int64) (i : Nat) : Bool := decide ((v >>> ((nI i).toInt64 &&& 63)).toInt32.toBitVec.toNat % 2 = 1)
def bitsL : Nat → Int64 → List Bool
  | 0, _ => []
  | n + 1, v => lb v n :: bitsL n v
theorem bitsL_len : ∀ n v, (bitsL n v).length = n
  | 0, _ => rfl
  | n + 1, v => by rw [bitsL, List.length_cons, bitsL_len n v]
theorem bI_and1 (x : Int32) : x &&& 1 = nI (decide (x.toBitVec.toNat % 2 = 1)).toNat := by
  rw [pk_and x (m := 1) 1 (by decide)]
  by_cases h : x.toBitVec.toNat % 2 = 1
  · rw [show x.toBitVec.toNat % 2 ^ 1 = 1 from h]; simp [h]
  · rw [show x.toBitVec.toNat % 2 ^ 1 = 0 by omega]; simp [h]
theorem lb_I (v : Int64) (i : Nat) : (v >>> ((nI i).toInt64 &&& 63)).toInt32 &&& 1 = nI (lb v i).toNat := bI_and1 _
theorem lb_L (v : Int64) (i : Nat) : ((v >>> ((nI i).toInt64 &&& 63)) &&& 1).toInt32 = nI (lb v i).toNat := by
  rw [Int64.toInt32_and]
  exact lb_I v i
theorem bt_lt (t : Bool) : t.toNat < 2 := by cases t <;> decide
theorem or_b (p : Nat) (t : Bool) : nI (p * 2 ^ 1) ||| nI t.toNat = nI (2 * p + t.toNat) := by
  rw [nI_or, show p * 2 ^ 1 = 2 ^ 1 * p by omega, ← Nat.two_pow_add_eq_or_of_lt (by have := bt_lt t; omega)]
theorem tb_0 (p : Nat) (t : Bool) : (2 * p + t.toNat).testBit 0 = t := by
  rw [Nat.testBit_zero]
  cases t <;> simp <;> omega
theorem tb_s (p : Nat) (t : Bool) (i : Nat) : (2 * p + t.toNat).testBit (i + 1) = p.testBit i := by
  rw [Nat.testBit_succ, show (2 * p + t.toNat) / 2 = p by have := bt_lt t; omega]
/-- a byte's number, by the bits of a list -/
def BY (x : Int32) (B : List Bool) (j : Nat) : Prop := ∃ d, d < 256 ∧ x = nI d ∧ ∀ b, b < 8 → d.testBit (7 - b) = B.getD (8 * j + b) false
/-- the class's stream holds the bits B -/
def WB (h : xw_H) (B : List Bool) : Prop := h.1 6 1 = nI (B.length / 8) ∧ h.1 87 2 = nI (B.length % 8) ∧ (∃ p, p < 2 ^ (B.length % 8) ∧ h.1 87 1 = nI p ∧ ∀ b, b < B.length % 8 → p.testBit (B.length % 8 - 1 - b) = B.getD (8 * (B.length / 8) + b) false) ∧ ∀ j, j < B.length / 8 → BY (h.1 7 j &&& 255) B j
theorem BY.app {x : Int32} {B C : List Bool} {j : Nat} (h : BY x B j) (hj : 8 * j + 8 ≤ B.length) : BY x (B ++ C) j := by
  obtain ⟨d, h1, h2, h3⟩ := h
  exact ⟨d, h1, h2, fun b hb => by rw [h3 b hb, ga_lt (by omega)]⟩
theorem WB_A {h : xw_H} {B : List Bool} {t : Bool} {p : Nat} (W : WB h B) (hp : h.1 87 1 = nI p) (hp2 : p < 2 ^ (B.length % 8)) (hq : B.length % 8 < 7) : WB (xw_I (xw_I h 87 1 (nI (2 * p + t.toNat))) 87 2 (nI (B.length % 8 + 1))) (B ++ [t]) := by
  obtain ⟨w1, w2, ⟨p', w3, w4, w5⟩, w6⟩ := W
  have hl : (B ++ [t]).length = B.length + 1 := by simp
  have e1 : (B.length + 1) / 8 = B.length / 8 := by omega
  have e2 : (B.length + 1) % 8 = B.length % 8 + 1 := by omega
  have hb31 : (2 : Nat) ^ (B.length % 8) ≤ 2 ^ 7 := Nat.pow_le_pow_right (by decide) (by omega)
  obtain rfl : p = p' := (nI_eq (by omega) (by omega)).mp (hp.symm.trans w4)
  refine ⟨?_, ?_, ⟨2 * p + t.toNat, ?_, ?_, ?_⟩, ?_⟩
  · rw [xI_k (by decide), xI_k (by decide), hl, e1]; exact w1
  · rw [xI_e, hl, e2]
  · rw [hl, e2, Nat.pow_succ]; have := bt_lt t; omega
  · rw [xI_j (by decide), xI_e]
  · intro b hb
    rw [hl, e2] at hb ⊢
    rw [e1, ga_app]
    by_cases c : b = B.length % 8
    · subst c
      rw [if_neg (by omega), if_pos (by omega), show B.length % 8 + 1 - 1 - B.length % 8 = 0 by omega, tb_0]
    · rw [if_pos (by omega), show B.length % 8 + 1 - 1 - b = (B.length % 8 - 1 - b) + 1 by omega, tb_s]
      exact w5 b (by omega)
  · intro j hj
    rw [hl, e1] at hj
    rw [xI_k (by decide), xI_k (by decide)]
    exact (w6 j hj).app (by omega)
theorem WB_B {h : xw_H} {B : List Bool} {t : Bool} {p : Nat} (W : WB h B) (hp : h.1 87 1 = nI p) (hp2 : p < 2 ^ (B.length % 8)) (hq : B.length % 8 = 7) (hm : B.length / 8 < 9000) : WB (xw_I (xw_I (f_add (xw_I (xw_I h 87 1 (nI (2 * p + t.toNat))) 87 2 (nI (B.length % 8 + 1))) (nI (2 * p + t.toNat))) 87 1 0) 87 2 0) (B ++ [t]) := by
  obtain ⟨w1, w2, ⟨p', w3, w4, w5⟩, w6⟩ := W
  have hl : (B ++ [t]).length = B.length + 1 := by simp
  have e1 : (B.length + 1) / 8 = B.length / 8 + 1 := by omega
  have e2 : (B.length + 1) % 8 = 0 := by omega
  rw [hq] at hp2 w3
  have ht := bt_lt t
  obtain rfl : p = p' := (nI_eq (by omega) (by omega)).mp (hp.symm.trans w4)
  have el : (xw_I (xw_I h 87 1 (nI (2 * p + t.toNat))) 87 2 (nI (B.length % 8 + 1))).1 6 1 = nI (B.length / 8) := by
    rw [xI_k (by decide), xI_k (by decide)]; exact w1
  have ef : f_add (xw_I (xw_I h 87 1 (nI (2 * p + t.toNat))) 87 2 (nI (B.length % 8 + 1))) (nI (2 * p + t.toNat)) = xw_I (xw_I (xw_I (xw_I h 87 1 (nI (2 * p + t.toNat))) 87 2 (nI (B.length % 8 + 1))) 7 (B.length / 8) ((nI (2 * p + t.toNat)).toInt8.toInt32)) 6 1 (nI (B.length / 8 + 1)) := by
    unfold f_add
    rw [show v_bytes_length (xw_I (xw_I h 87 1 (nI (2 * p + t.toNat))) 87 2 (nI (B.length % 8 + 1))) = nI (B.length / 8) from el, if_neg (show ¬ (9000 : Int32) ≤ nI (B.length / 8) from nI_ge (b := 9000) hm (by decide)), nI_clamp (by omega), nI_1]
  rw [ef]
  refine ⟨?_, ?_, ⟨0, ?_, ?_, ?_⟩, ?_⟩
  · rw [xI_k (by decide), xI_k (by decide), hl, e1, xI_e]
  · rw [xI_e, hl, e2]; rfl
  · rw [hl, e2]; decide
  · rw [xI_j (by decide), xI_e]; rfl
  · intro b hb
    rw [hl, e2] at hb
    omega
  · intro j hj
    rw [hl, e1] at hj
    rw [xI_k (by decide), xI_k (by decide), xI_k (by decide)]
    by_cases c : j = B.length / 8
    · subst c
      rw [xI_e, bp_b, pk_andN (k := 8) (by omega) (by decide), Nat.mod_eq_of_lt (by omega)]
      refine ⟨_, by omega, rfl, fun b hb => ?_⟩
      rw [ga_app]
      by_cases c2 : b = 7
      · subst c2
        rw [if_neg (by omega), if_pos (by omega), show 7 - 7 = 0 from rfl, tb_0]
      · rw [if_pos (by omega), show 7 - b = (6 - b) + 1 by omega, tb_s]
        have := w5 b (by omega)
        rw [hq] at this
        exact this
    · rw [xI_j c, xI_k (by decide), xI_k (by decide)]
      exact (w6 j (by omega)).app (by omega)
theorem fr_add {h : xw_H} {v : Int32} : fr [6, 7, 87] h (f_add h v) := by
  unfold f_add
  split
  · exact fr.rfl
  · exact (fr_I (by decide)).I (by decide)
section S64
variable {u : xu_T} {l : Launch} {KK : State → Prop} {h : xw_H} {X : xc_R → xw_H → Nat → Nat → Prop}
theorem s_Wr_put (K : xk_ok u KK) {n : Nat} {v : Int64} {B : List Bool} (W : WB h B) (hroom : B.length + n ≤ 72000) (hX : ∀ h', fr [6, 7, 87] h h' → WB h' (B ++ bitsL n v) → X (.inl none) h' 0 0) : xm_M l (y0 u) KK m_Wr_put [.ref 87, .int (nI n), .long v] h X := by
  refine xm_of [none] (by simp) (Nat.le_of_ble_eq_true rfl) (by decide) (fun x at0 => ?_)
  have A := xa_of at0 K
  have ow := at0.2.2.2.2.1
  refine ra_iload_n A d_Wr_put_0 rfl <| ra_iconst A 1 d_Wr_put_1 (by decide) <| ra_isub A d_Wr_put_2 <| ?_
  rw [show nI n - 1 = nI n + (-1) from Int32.sub_eq_add_neg _ _]
  refine ra_istore (L' := [_, _, _, _, _]) A d_Wr_put_3 (by decide) rfl <| ?_
  refine lp_dn (σ := xw_H) (W := fun i g => xg x (y0 u) 0 0 5 [some (.ref 87), some (.int (nI n)), some (.long v), none, some (.int (nI i + (-1)))] [] g) (I := fun i g => fr [6, 7, 87] h g ∧ ∃ C, WB g C ∧ C ++ bitsL i v = B ++ bitsL n v) ?_ ?_ n h ⟨fr.rfl, B, W, rfl⟩
  · rintro g ⟨hf, C, hC, e⟩
    refine ra_iload A d_Wr_put_5 rfl <| ?_
    refine ra_if_lt (q := 74) A d_Wr_put_7 (by decide) (fun _ => ?_) (fun cc => absurd ((by decide)) cc)
    rw [bitsL, List.append_nil] at e
    rw [e] at hC
    exact ra_vret A ow d_Wr_put_74 (hX g hf hC)
  · rintro i g ⟨hf, C, hC, e⟩ ih
    have hlen : C.length + (i + 1) = B.length + n := by
      have := congrArg List.length e
      rw [List.length_append, List.length_append, bitsL_len, bitsL_len] at this
      exact this
    rw [pk_m1]
    obtain ⟨w1, w2, ⟨p, w3, w4, w5⟩, w6⟩ := id hC
    have hb31 : (2 : Nat) ^ (C.length % 8) ≤ 2 ^ 7 := Nat.pow_le_pow_right (by decide) (by omega)
    have ht := bt_lt (lb v i)
    refine ra_iload A d_Wr_put_5 rfl <| ?_
    refine ra_if_lt (q := 74) A d_Wr_put_7 (by decide) (fun cc => absurd cc (nI_pos (by omega))) (fun _ => ?_)
    refine ra_aload_n A d_Wr_put_10 rfl <| ra_aload_n A d_Wr_put_11 rfl <| ra_getI A f_Wr_13 d_Wr_put_12 (Nat.le_of_ble_eq_true rfl) rfl rfl <| ra_iconst A 1 d_Wr_put_15 (by decide) <| ra_ishl A d_Wr_put_16 <| ?_
    rw [w4, pk_shlN _ 1 (by decide) (by omega)]
    refine ra_lload_n A d_Wr_put_17 rfl <| ra_iload A d_Wr_put_18 rfl <| ra_lshr A d_Wr_put_20 <| ra_l2i A d_Wr_put_21 <| ra_iconst A 1 d_Wr_put_22 (by decide) <| ra_iand A d_Wr_put_23 <| ?_
    rw [lb_I]
    refine ra_ior A d_Wr_put_24 <| ?_
    rw [or_b]
    refine ra_putI (ty := .int) A f_Wr_13 rfl rfl (by decide +kernel) rfl rfl d_Wr_put_25 (Nat.le_of_ble_eq_true rfl) rfl rfl <| ra_aload_n A d_Wr_put_28 rfl <| ra_dup A d_Wr_put_29 rfl <| ra_getI A f_Wr_17 d_Wr_put_30 (Nat.le_of_ble_eq_true rfl) rfl rfl <| ?_
    rw [xI_j (by decide), w2]
    refine ra_iconst A 1 d_Wr_put_33 (by decide) <| ra_iadd A d_Wr_put_34 <| ?_
    rw [nI_1]
    refine ra_putI (ty := .int) A f_Wr_17 rfl rfl (by decide +kernel) rfl rfl d_Wr_put_35 (Nat.le_of_ble_eq_true rfl) rfl rfl <| ra_aload_n A d_Wr_put_38 rfl <| ra_getI A f_Wr_17 d_Wr_put_39 (Nat.le_of_ble_eq_true rfl) rfl rfl <| ?_
    rw [xI_e]
    refine ra_bipush A 8 d_Wr_put_42 (by decide) <| ?_
    have next : ∀ g', fr [6, 7, 87] g g' → WB g' (C ++ [lb v i]) → xg x (y0 u) 0 0 68 [some (.ref 87), some (.int (nI n)), some (.long v), none, some (.int (nI i))] [] g' := by
      intro g' f' W'
      refine ra_iinc (L' := [_, _, _, _, _]) A (-1) d_Wr_put_68 rfl (by decide) (by decide) rfl <| ra_goto (q := 5) A d_Wr_put_71 (by decide) <| ?_
      refine ih g' ⟨hf.trans f', _, W', ?_⟩
      rw [← e, bitsL, List.append_assoc]
      rfl
    by_cases c : C.length % 8 = 7
    · refine ra_icmp_ne (q := 68) A d_Wr_put_44 (by decide) (fun cc => absurd ((by rw [c]; rfl)) cc) (fun _ => ?_)
      refine ra_aload_n A d_Wr_put_47 rfl <| ra_getR A f_Wr_7 d_Wr_put_48 (Nat.le_of_ble_eq_true rfl) rfl rfl rfl <| ra_aload_n A d_Wr_put_51 rfl <| ra_getI A f_Wr_13 d_Wr_put_52 (Nat.le_of_ble_eq_true rfl) rfl rfl <| ?_
      rw [xI_j (by decide), xI_e]
      have hl0 : ∀ a b : Int32, v_bytes_length (xw_I (xw_I g 87 1 a) 87 2 b) = nI (C.length / 8) := by
        intro a b
        show (xw_I _ _ _ _).1 6 1 = _
        rw [xI_k (by decide), xI_k (by decide)]
        exact w1
      refine ra_callV (As := [_]) A ok_By_add l_Wr_20 im_By_add sl_By_add d_Wr_put_55 (Nat.le_of_ble_eq_true rfl) rfl rfl rfl (Nat.le_of_ble_eq_true rfl) (xr_of at0 (by decide)) (s_By_add K (by rw [hl0]; exact nI_pos (by omega)) ?_)
      show xg x (y0 u) 0 0 58 _ _ _
      refine ra_aload_n A d_Wr_put_58 rfl <| ra_iconst A 0 d_Wr_put_59 (by decide) <| ra_putI (ty := .int) A f_Wr_13 rfl rfl (by decide +kernel) rfl rfl d_Wr_put_60 (Nat.le_of_ble_eq_true rfl) rfl rfl <| ra_aload_n A d_Wr_put_63 rfl <| ra_iconst A 0 d_Wr_put_64 (by decide) <| ra_putI (ty := .int) A f_Wr_17 rfl rfl (by decide +kernel) rfl rfl d_Wr_put_65 (Nat.le_of_ble_eq_true rfl) rfl rfl <| ?_
      refine next _ ?_ (WB_B hC w4 w3 c (by omega))
      exact ((((fr_I (by decide)).I (by decide)).trans fr_add).I (by decide)).I (by decide)
    · have hq : ¬ nI (C.length % 8 + 1) = 8 := fun q => c (by
        have := (nI_eq (b := 8) (by omega) (by decide)).mp q
        omega)
      refine ra_icmp_ne (q := 68) A d_Wr_put_44 (by decide) (fun _ => ?_) (fun cc => absurd cc (hq))
      exact next _ ((fr_I (by decide)).I (by decide)) (WB_A hC w4 w3 (by omega))
theorem s_Wr_fillByte (K : xk_ok u KK) {B : List Bool} (W : WB h B) (hroom : B.length + 8 ≤ 72000) (hX : ∀ h', fr [6, 7, 87] h h' → WB h' (B ++ List.replicate ((8 - B.length % 8) % 8) false) → X (.inl none) h' 0 0) : xm_M l (y0 u) KK m_Wr_fillByte [.ref 87] h X := by
  refine xm_of [] (by simp) (Nat.le_of_ble_eq_true rfl) (by decide) (fun x at0 => ?_)
  have A := xa_of at0 K
  have ow := at0.2.2.2.2.1
  have hz : ∀ n, bitsL n 0 = List.replicate n false := by
    intro n
    induction n with
    | zero => rfl
    | succ n ih =>
      rw [bitsL, ih, List.replicate_succ]
      congr 1
      unfold lb
      have : (0 : Int64) >>> ((nI n).toInt64 &&& 63) = 0 := by simp
      rw [this]
      decide
  refine ra_aload_n A d_Wr_fillByte_0 rfl <| ra_bipush A 8 d_Wr_fillByte_1 (by decide) <| ra_aload_n A d_Wr_fillByte_3 rfl <| ra_getI A f_Wr_17 d_Wr_fillByte_4 (Nat.le_of_ble_eq_true rfl) rfl rfl <| ?_
  rw [W.2.1]
  refine ra_isub A d_Wr_fillByte_7 <| ra_bipush A 7 d_Wr_fillByte_8 (by decide) <| ra_iand A d_Wr_fillByte_10 <| ?_
  rw [show (8 : Int32) - nI (B.length % 8) = nI (8 - B.length % 8) from pk_sub (a := 8) (by omega), pk_andN (k := 3) (by omega) (by decide)]
  refine ra_lconst A 0 d_Wr_fillByte_11 (by decide) <| ?_
  refine ra_callV (As := [_, _]) A ok_Wr_put l_Wr_26 im_Wr_put sl_Wr_put d_Wr_fillByte_12 (Nat.le_of_ble_eq_true rfl) rfl rfl rfl (Nat.le_of_ble_eq_true rfl) (xr_of at0 (by decide)) (s_Wr_put K (n := (8 - B.length % 8) % 2 ^ 3) W (by omega) (fun g f W' => ?_))
  show xg x (y0 u) 0 0 15 _ _ g
  rw [hz] at W'
  exact ra_vret A ow d_Wr_fillByte_15 (hX g f W')
end S64
