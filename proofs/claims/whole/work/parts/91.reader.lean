/-! SoundStream$Reader -/
def ISE : String := "java/lang/IllegalStateException"
/-- what decoding may change -/
def DLs : List Nat := [8, 9, 132, 133, 134, 135, 136, 138, 139, 140]
/-- the reader stands at the bit p of the stream -/
def RD (h : xw_H) (F : Nat → Bool) (L p : Nat) : Prop := h.1 6 1 = nI L ∧ (∀ q, q < L → ByF (f_get h (nI q)) F q) ∧ (h.1 133 1 = nI p ∧ h.1 133 2 = 0) ∧ p ≤ 8 * L ∧ L ≤ 9000
theorem RD.of {h h' : xw_H} {F : Nat → Bool} {L p p' : Nat} (R : RD h F L p) (h6 : h'.1 6 = h.1 6) (h7 : h'.1 7 = h.1 7) (hp : h'.1 133 1 = nI p' ∧ h'.1 133 2 = 0) (hp' : p' ≤ 8 * L) : RD h' F L p' := by
  refine ⟨by rw [h6]; exact R.1, fun q hq => ?_, hp, hp', R.2.2.2.2⟩
  have e : f_get h' (nI q) = f_get h (nI q) := by
    unfold f_get
    rw [show v_bytes_length h' = v_bytes_length h from congrFun h6 1, show a_data h' = a_data h from h7]
  rw [e]
  exact R.2.1 q hq
theorem RD.fr {h h' : xw_H} {F : Nat → Bool} {L p : Nat} {T : List Nat} (R : RD h F L p) (f : fr T h h') (h6 : 6 ∉ T) (h7 : 7 ∉ T) (h3 : 133 ∉ T) : RD h' F L p := R.of (fr1 f h6) (fr1 f h7) (by rw [fr1 f h3]; exact R.2.2.1) R.2.2.2.1
/-- what decoding may change; 'decoded' is kept -/
def FD (h h' : xw_H) : Prop := fr DLs h h' ∧ h'.1 132 5 = h.1 132 5
theorem FD.rfl {h : xw_H} : FD h h := ⟨fr.rfl, _root_.rfl⟩
theorem FD.trans {h g h' : xw_H} (x : FD h g) (y : FD g h') : FD h h' := ⟨x.1.trans y.1, y.2.trans x.2⟩
theorem FD.of {T : List Nat} {h h' : xw_H} (x : fr T h h') (hT : ∀ k ∈ T, k ∈ DLs) (h1 : 132 ∉ T) : FD h h' := ⟨x.mono hT, by rw [fr1 x h1]⟩
theorem FD.I {h g : xw_H} {k j : Nat} {v : Int32} (x : FD h g) (hk : k ∈ DLs) (h5 : k ≠ 132 ∨ j ≠ 5) : FD h (xw_I g k j v) := by
  refine ⟨x.1.I hk, ?_⟩
  by_cases c : k = 132
  · subst c
    rw [xI_j (fun q => h5.elim (fun z => z (Eq.refl 132)) (fun z => z q.symm))]
    exact x.2
  · rw [xI_k (fun q => c q.symm)]
    exact x.2
theorem FD.J {h g : xw_H} {k j : Nat} {v : Int64} (x : FD h g) (hk : k ∈ DLs) : FD h (xw_J g k j v) := ⟨x.1.J hk, by rw [xJ_1]; exact x.2⟩
/-- a fault was met -/
def ER (h h' : xw_H) (e : Nat) : Prop := FD h h' ∧ h'.1 133 2 = nI e ∧ h'.1 133 3 = h.1 133 3
theorem ER_I {h : xw_H} {e : Nat} : ER h (xw_I h 133 2 (nI e)) e := ⟨FD.rfl.I (by decide) (by decide), xI_e, xI_j (by decide)⟩
theorem ER.after {h g h' : xw_H} {e : Nat} (E : ER g h' e) (f : FD h g) (e3 : g.1 133 3 = h.1 133 3) : ER h h' e := ⟨f.trans E.1, E.2.1, E.2.2.trans e3⟩
/-- only the reader's position has changed -/
def RM1 (h h' : xw_H) : Prop := f1 133 [1] h h'
theorem RM1.fr {h h' : xw_H} (f : RM1 h h') : FD h h' := ⟨fun k hk => ⟨f.1 k (fun q => hk (by rw [q]; decide)), by rw [f.2.2]⟩, by rw [f.1 132 (by decide)]⟩
theorem RM1.pl {h h' : xw_H} (f : RM1 h h') : h'.1 133 3 = h.1 133 3 := f.2.1 3 (by decide)
theorem RM1.er {h g h' : xw_H} {e : Nat} (f : RM1 h g) (E : ER g h' e) : ER h h' e := E.after f.fr f.pl
theorem RM1.trans {h g h' : xw_H} (f : RM1 h g) (f' : RM1 g h') : RM1 h h' := f1.trans f f'
theorem RM1.rfl {h : xw_H} : RM1 h h := f1.rfl
theorem neg7 {p : Nat} (hp : p < 2 ^ 31) : (-(nI p) : Int32) &&& 7 = nI ((8 - p % 8) % 8) := by
  rw [pk_and _ 3 (by decide)]
  congr 1
  rw [Int32.toBitVec_neg, BitVec.toNat_neg, pk_tn (by omega)]
  omega
section S91
variable {u : xu_T} {l : Launch} {KK : State → Prop} {h : xw_H} {X : xc_R → xw_H → Nat → Nat → Prop}
theorem s_Rd_begin (K : xk_ok u KK) (hX : X (.inl none) (xw_I (xw_I (xw_I h 133 1 0) 133 3 0) 133 2 0) 0 0) : xm_M l (y0 u) KK m_Rd_begin [.ref 133] h X := by
  refine xm_of [] (by simp) (Nat.le_of_ble_eq_true rfl) (by decide) (fun x at0 => ?_)
  have A := xa_of at0 K
  have ow := at0.2.2.2.2.1
  refine ra_aload_n A d_Rd_begin_0 rfl <| ra_iconst A 0 d_Rd_begin_1 (by decide) <| ra_putI (ty := .int) A f_Rd_15 rfl rfl (by decide +kernel) rfl rfl d_Rd_begin_2 (Nat.le_of_ble_eq_true rfl) rfl rfl <| ra_aload_n A d_Rd_begin_5 rfl <| ra_iconst A 0 d_Rd_begin_6 (by decide) <| ra_putI (ty := .int) A f_Rd_19 rfl rfl (by decide +kernel) rfl rfl d_Rd_begin_7 (Nat.le_of_ble_eq_true rfl) rfl rfl <| ra_aload_n A d_Rd_begin_10 rfl <| ra_iconst A 0 d_Rd_begin_11 (by decide) <| ra_putI (ty := .int) A f_Rd_22 rfl rfl (by decide +kernel) rfl rfl d_Rd_begin_12 (Nat.le_of_ble_eq_true rfl) rfl rfl <| ?_
  exact ra_vret A ow d_Rd_begin_15 hX
theorem s_Rd_nextByte (K : xk_ok u KK) {F : Nat → Bool} {L p : Nat} (R : RD h F L p) (hX : X (.inl (some (.int (nI (p / 8))))) h 0 0) : xm_M l (y0 u) KK m_Rd_nextByte [.ref 133] h X := by
  refine xm_of [] (by simp) (Nat.le_of_ble_eq_true rfl) (by decide) (fun x at0 => ?_)
  have A := xa_of at0 K
  have ow := at0.2.2.2.2.1
  obtain ⟨r1, r2, r3, r4, r5⟩ := R
  refine ra_aload_n A d_Rd_nextByte_0 rfl <| ra_getI A f_Rd_15 d_Rd_nextByte_1 (Nat.le_of_ble_eq_true rfl) rfl rfl <| ?_
  rw [r3.1]
  refine ra_iconst A 3 d_Rd_nextByte_4 (by decide) <| ra_ishr A d_Rd_nextByte_5 <| ?_
  rw [pk_shrN (k := 3) (by omega) _ (by decide)]
  exact ra_iret A ow d_Rd_nextByte_6 hX
theorem s_Rd_hasMore (K : xk_ok u KK) {F : Nat → Bool} {L p : Nat} (R : RD h F L p) (hX : X (.inl (some (.int (bz (decide (p / 8 < L)))))) h 0 0) : xm_M l (y0 u) KK m_Rd_hasMore [.ref 133] h X := by
  refine xm_of [] (by simp) (Nat.le_of_ble_eq_true rfl) (by decide) (fun x at0 => ?_)
  have A := xa_of at0 K
  have ow := at0.2.2.2.2.1
  refine ra_aload_n A d_Rd_hasMore_0 rfl <| ?_
  refine ra_callV (As := []) A ok_Rd_nextByte l_Rd_25 im_Rd_nextByte sl_Rd_nextByte d_Rd_hasMore_1 (Nat.le_of_ble_eq_true rfl) rfl rfl rfl (Nat.le_of_ble_eq_true rfl) (xr_of at0 (by decide)) (s_Rd_nextByte K R ?_)
  show xg x (y0 u) 0 0 4 _ _ h
  obtain ⟨r1, r2, r3, r4, r5⟩ := R
  refine ra_aload_n A d_Rd_hasMore_4 rfl <| ra_getR A f_Rd_9 d_Rd_hasMore_5 (Nat.le_of_ble_eq_true rfl) rfl rfl rfl <| ra_getI A f_Rd_29 d_Rd_hasMore_8 (Nat.le_of_ble_eq_true rfl) rfl rfl <| ?_
  rw [r1]
  by_cases c : p / 8 < L
  · refine ra_icmp_ge (q := 18) A d_Rd_hasMore_11 (by decide) (fun cc => absurd cc (nI_ge c (by omega))) (fun _ => ?_)
    rw [decide_eq_true c] at hX
    refine ra_iconst A 1 d_Rd_hasMore_14 (by decide) <| ra_goto (q := 19) A d_Rd_hasMore_15 (by decide) <| ?_
    exact ra_zret A ow rfl d_Rd_hasMore_19 hX
  · refine ra_icmp_ge (q := 18) A d_Rd_hasMore_11 (by decide) (fun _ => ?_) (fun cc => absurd (nI_le (by omega) (by omega)) cc)
    rw [decide_eq_false c] at hX
    refine ra_iconst A 0 d_Rd_hasMore_18 (by decide) <| ?_
    exact ra_zret A ow rfl d_Rd_hasMore_19 hX
theorem s_Rd_markPlace (K : xk_ok u KK) {F : Nat → Bool} {L p : Nat} (R : RD h F L p) (hX : X (.inl none) (xw_I h 133 3 (nI (p / 8))) 0 0) : xm_M l (y0 u) KK m_Rd_markPlace [.ref 133] h X := by
  refine xm_of [] (by simp) (Nat.le_of_ble_eq_true rfl) (by decide) (fun x at0 => ?_)
  have A := xa_of at0 K
  have ow := at0.2.2.2.2.1
  refine ra_aload_n A d_Rd_markPlace_0 rfl <| ra_aload_n A d_Rd_markPlace_1 rfl <| ?_
  refine ra_callV (As := []) A ok_Rd_nextByte l_Rd_25 im_Rd_nextByte sl_Rd_nextByte d_Rd_markPlace_2 (Nat.le_of_ble_eq_true rfl) rfl rfl rfl (Nat.le_of_ble_eq_true rfl) (xr_of at0 (by decide)) (s_Rd_nextByte K R ?_)
  show xg x (y0 u) 0 0 5 _ _ h
  refine ra_putI (ty := .int) A f_Rd_19 rfl rfl (by decide +kernel) rfl rfl d_Rd_markPlace_5 (Nat.le_of_ble_eq_true rfl) rfl rfl <| ?_
  exact ra_vret A ow d_Rd_markPlace_8 hX
theorem s_Rd_demand (hl : l.stackTraces = false) {c : Bool} {e : Nat} (hX : c = true → X (.inl none) h 0 0) (hY : c = false → X (.inr ISE) (xw_I h 133 2 (nI e)) 1 6) : xm_M l (y0 u) (KK0 u) m_Rd_demand [.ref 133, .int (bz c), .int (nI e)] h X := by
  refine xm_of [] (by simp) (Nat.le_of_ble_eq_true rfl) (by decide) (fun x at0 => ?_)
  have A := xa_of at0 (KK0_ok u)
  have ow := at0.2.2.2.2.1
  refine ra_iload_n A d_Rd_demand_0 rfl <| ?_
  cases c
  · refine ra_if_ne (q := 19) A d_Rd_demand_1 (by decide) (fun cc => absurd (rfl) cc) (fun _ => ?_)
    refine ra_aload_n A d_Rd_demand_4 rfl <| ra_iload_n A d_Rd_demand_5 rfl <| ra_putI (ty := .int) A f_Rd_22 rfl rfl (by decide +kernel) rfl rfl d_Rd_demand_6 (Nat.le_of_ble_eq_true rfl) rfl rfl <| ?_
    exact xt_throw at0 hl xt_ISE (by decide) (List.mem_of_getElem? (i := 1) rfl) cl_Rd_34 xi_ISE (List.mem_of_getElem? (i := 17) rfl) le_Rd_38 d_Rd_demand_9 d_Rd_demand_12 d_Rd_demand_13 d_Rd_demand_15 d_Rd_demand_18 ⟨by decide, Nat.le_of_ble_eq_true rfl, by decide, by decide⟩ (hY rfl)
  · refine ra_if_ne (q := 19) A d_Rd_demand_1 (by decide) (fun _ => ?_) (fun cc => absurd cc ((by decide)))
    exact ra_vret A ow d_Rd_demand_19 (hX rfl)
theorem s_Rd_bits (hl : l.stackTraces = false) {F : Nat → Bool} {L n p : Nat} {Q : Rr Nat} (R : RD h F L p) (hn : n ≤ 31) (hq : rB F L n p = Q) (hX : ∀ v p' h', Q = .inr (v, p') → RM1 h h' → RD h' F L p' → v < 2 ^ n → X (.inl (some (.int (nI v)))) h' 0 0) (hY : ∀ e h', Q = .inl e → ER h h' e → X (.inr ISE) h' 1 6) : xm_M l (y0 u) (KK0 u) m_Rd_bits [.ref 133, .int (nI n)] h X := by
  refine xm_of [none, none] (by simp) (Nat.le_of_ble_eq_true rfl) (by decide) (fun x at0 => ?_)
  have A := xa_of at0 (KK0_ok u)
  have ow := at0.2.2.2.2.1
  obtain ⟨r1, r2, r3, r4, r5⟩ := id R
  unfold rB at hq
  refine ra_iload_n A d_Rd_bits_0 rfl <| ra_bipush A 8 d_Rd_bits_1 (by decide) <| ra_aload_n A d_Rd_bits_3 rfl <| ra_getR A f_Rd_9 d_Rd_bits_4 (Nat.le_of_ble_eq_true rfl) rfl rfl rfl <| ra_getI A f_Rd_29 d_Rd_bits_7 (Nat.le_of_ble_eq_true rfl) rfl rfl <| ?_
  rw [r1]
  refine ra_imul A d_Rd_bits_10 <| ra_aload_n A d_Rd_bits_11 rfl <| ra_getI A f_Rd_15 d_Rd_bits_12 (Nat.le_of_ble_eq_true rfl) rfl rfl <| ?_
  rw [show (8 : Int32) * nI L = nI (8 * L) from pk_mul 8 L, r3.1]
  refine ra_isub A d_Rd_bits_15 <| ?_
  rw [pk_sub r4]
  by_cases c : p + n ≤ 8 * L
  · rw [if_pos c] at hq
    refine ra_icmp_le (q := 35) A d_Rd_bits_16 (by decide) (fun _ => ?_) (fun cc => absurd (nI_le (by omega) (by omega)) cc)
    refine ra_iconst A 0 d_Rd_bits_35 (by decide) <| ra_istore_n (L' := [_, _, _, _]) A d_Rd_bits_36 (by decide) rfl <| ra_iconst A 0 d_Rd_bits_37 (by decide) <| ra_istore_n (L' := [_, _, _, _]) A d_Rd_bits_38 (by decide) rfl <| ?_
    refine lp_up (σ := xw_H) (W := fun j g => xg x (y0 u) 0 0 39 [some (.ref 133), some (.int (nI n)), some (.int (nI (bv F p j))), some (.int (nI j))] [] g) (I := fun j g => RM1 h g ∧ RD g F L (p + j)) n ?_ ?_ 0 h (Nat.zero_le _) ⟨RM1.rfl, R⟩
    · rintro g ⟨hf, hR⟩
      refine ra_iload_n A d_Rd_bits_39 rfl <| ra_iload_n A d_Rd_bits_40 rfl <| ?_
      refine ra_icmp_ge (q := 91) A d_Rd_bits_41 (by decide) (fun _ => ?_) (fun cc => absurd (Int32.le_refl _) cc)
      refine ra_iload_n A d_Rd_bits_91 rfl <| ?_
      exact ra_iret A ow d_Rd_bits_92 (hX _ _ g hq.symm hf hR (bv_lt n))
    · rintro j g hj ⟨hf, hR⟩ ih
      obtain ⟨q1, q2, q3, q4, q5⟩ := id hR
      obtain ⟨b, hb, eb, tb⟩ := q2 ((p + j) / 8) (by omega)
      have hbv := bv_lt (F := F) (p := p) j
      have hj30 : 2 ^ j ≤ 2 ^ 30 := Nat.pow_le_pow_right (by decide) (by omega)
      refine ra_iload_n A d_Rd_bits_39 rfl <| ra_iload_n A d_Rd_bits_40 rfl <| ?_
      refine ra_icmp_ge (q := 91) A d_Rd_bits_41 (by decide) (fun cc => absurd cc (nI_ge hj (by omega))) (fun _ => ?_)
      refine ra_iload_n A d_Rd_bits_44 rfl <| ra_iconst A 1 d_Rd_bits_45 (by decide) <| ra_ishl A d_Rd_bits_46 <| ?_
      rw [pk_shlN _ 1 (by decide) (by omega)]
      refine ra_aload_n A d_Rd_bits_47 rfl <| ra_getR A f_Rd_9 d_Rd_bits_48 (Nat.le_of_ble_eq_true rfl) rfl rfl rfl <| ra_aload_n A d_Rd_bits_51 rfl <| ra_getI A f_Rd_15 d_Rd_bits_52 (Nat.le_of_ble_eq_true rfl) rfl rfl <| ?_
      rw [q3.1]
      refine ra_iconst A 3 d_Rd_bits_55 (by decide) <| ra_ishr A d_Rd_bits_56 <| ?_
      rw [pk_shrN (k := 3) (by omega) _ (by decide)]
      refine ra_callV (As := [_]) A ok_By_get l_Rd_43 im_By_get sl_By_get d_Rd_bits_57 (Nat.le_of_ble_eq_true rfl) rfl rfl rfl (Nat.le_of_ble_eq_true rfl) (xr_of at0 (by decide)) (s_By_get (KK0_ok u) (show (v_bytes_length g).toInt ≤ 9000 by rw [show v_bytes_length g = nI L from q1, nI_toInt (by omega)]; omega) ?_)
      show xg x (y0 u) 0 0 60 _ _ g
      rw [show f_get g (nI ((p + j) / 2 ^ 3)) = nI b from eb]
      refine ra_bipush A 7 d_Rd_bits_60 (by decide) <| ra_aload_n A d_Rd_bits_62 rfl <| ra_getI A f_Rd_15 d_Rd_bits_63 (Nat.le_of_ble_eq_true rfl) rfl rfl <| ?_
      rw [q3.1]
      refine ra_bipush A 7 d_Rd_bits_66 (by decide) <| ra_iand A d_Rd_bits_68 <| ?_
      rw [pk_andN (k := 3) (by omega) (by decide)]
      refine ra_isub A d_Rd_bits_69 <| ?_
      rw [show (7 : Int32) - nI ((p + j) % 2 ^ 3) = nI (7 - (p + j) % 8) from pk_sub (a := 7) (by omega)]
      refine ra_ishr A d_Rd_bits_70 <| ra_iconst A 1 d_Rd_bits_71 (by decide) <| ra_iand A d_Rd_bits_72 <| ?_
      rw [ib_get _ (by omega), pk_tn (by omega), tb _ (Nat.mod_lt _ (by decide)), show 8 * ((p + j) / 8) + (p + j) % 8 = p + j by omega]
      refine ra_ior A d_Rd_bits_73 <| ?_
      rw [or_b, show 2 * bv F p j + (F (p + j)).toNat = bv F p (j + 1) from rfl]
      refine ra_istore_n (L' := [_, _, _, _]) A d_Rd_bits_74 (by decide) rfl <| ra_aload_n A d_Rd_bits_75 rfl <| ra_dup A d_Rd_bits_76 rfl <| ra_getI A f_Rd_15 d_Rd_bits_77 (Nat.le_of_ble_eq_true rfl) rfl rfl <| ?_
      rw [q3.1]
      refine ra_iconst A 1 d_Rd_bits_80 (by decide) <| ra_iadd A d_Rd_bits_81 <| ?_
      rw [nI_1]
      refine ra_putI (ty := .int) A f_Rd_15 rfl rfl (by decide +kernel) rfl rfl d_Rd_bits_82 (Nat.le_of_ble_eq_true rfl) rfl rfl <| ra_iinc (L' := [_, _, _, _]) A 1 d_Rd_bits_85 rfl (by decide) (by decide) rfl <| ra_goto (q := 39) A d_Rd_bits_88 (by decide) <| ?_
      rw [nI_1]
      exact ih _ ⟨hf.trans (f1_I (by decide)), hR.of (xI_k (by decide)) (xI_k (by decide)) ⟨xI_e, by rw [xI_j (by decide)]; exact q3.2⟩ (by omega)⟩
  · rw [if_neg c] at hq
    refine ra_icmp_le (q := 35) A d_Rd_bits_16 (by decide) (fun cc => absurd cc (nI_ge (by omega) (by omega))) (fun _ => ?_)
    refine ra_aload_n A d_Rd_bits_19 rfl <| ra_bipush A 13 d_Rd_bits_20 (by decide) <| ra_putI (ty := .int) A f_Rd_22 rfl rfl (by decide +kernel) rfl rfl d_Rd_bits_22 (Nat.le_of_ble_eq_true rfl) rfl rfl <| ?_
    exact xt_throw at0 hl xt_ISE (by decide) (List.mem_of_getElem? (i := 1) rfl) cl_Rd_34 xi_ISE (List.mem_of_getElem? (i := 18) rfl) le_Rd_38 d_Rd_bits_25 d_Rd_bits_28 d_Rd_bits_29 d_Rd_bits_31 d_Rd_bits_34 ⟨by decide, Nat.le_of_ble_eq_true rfl, by decide, by decide⟩ (hY 13 _ hq.symm ER_I)
theorem s_Rd_signed (hl : l.stackTraces = false) {F : Nat → Bool} {L n p : Nat} {Q : Rr Int32} (R : RD h F L p) (hn : n ≤ 31) (hq : rS F L n p = Q) (hX : ∀ v p' h', Q = .inr (v, p') → RM1 h h' → RD h' F L p' → X (.inl (some (.int v))) h' 0 0) (hY : ∀ e h', Q = .inl e → ER h h' e → X (.inr ISE) h' 1 6) : xm_M l (y0 u) (KK0 u) m_Rd_signed [.ref 133, .int (nI n)] h X := by
  refine xm_of [none] (by simp) (Nat.le_of_ble_eq_true rfl) (by decide) (fun x at0 => ?_)
  have A := xa_of at0 (KK0_ok u)
  have ow := at0.2.2.2.2.1
  have hlx : (xg_l x).stackTraces = false := by rw [at0.2.2.2.2.2.1]; exact hl
  unfold rS at hq
  refine ra_bipush A 32 d_Rd_signed_0 (by decide) <| ra_iload_n A d_Rd_signed_2 rfl <| ra_isub A d_Rd_signed_3 <| ?_
  rw [show (32 : Int32) - nI n = nI (32 - n) from pk_sub (a := 32) (by omega)]
  refine ra_istore_n (L' := [_, _, _]) A d_Rd_signed_4 (by decide) rfl <| ra_iload_n A d_Rd_signed_5 rfl <| ?_
  by_cases c : n = 0
  · subst c
    refine ra_if_ne (q := 13) A d_Rd_signed_6 (by decide) (fun cc => absurd (rfl) cc) (fun _ => ?_)
    refine ra_iconst A 0 d_Rd_signed_9 (by decide) <| ra_goto (q := 22) A d_Rd_signed_10 (by decide) <| ?_
    have e : rB F L 0 p = .inr (0, p) := by unfold rB; rw [if_pos (by have := R.2.2.2.1; omega)]; rfl
    rw [e, rb_r] at hq
    exact ra_iret A ow d_Rd_signed_22 (hX _ _ h hq.symm RM1.rfl R)
  · refine ra_if_ne (q := 13) A d_Rd_signed_6 (by decide) (fun _ => ?_) (fun cc => absurd cc (nI_ne0 (by omega) (by omega)))
    refine ra_aload_n A d_Rd_signed_13 rfl <| ra_iload_n A d_Rd_signed_14 rfl <| ?_
    refine ra_callV (As := [_]) A ok_Rd_bits l_Rd_47 im_Rd_bits sl_Rd_bits d_Rd_signed_15 (Nat.le_of_ble_eq_true rfl) rfl rfl rfl (Nat.le_of_ble_eq_true rfl) (xr_of at0 (by decide)) (s_Rd_bits hlx R hn rfl (fun v p1 g1 e1 f1 R1 hv => ?_) (fun e g1 e1 E => xgT_out ow at0.2.2.2.2.2.2.2.2.2.2 (hY e g1 (by rw [← hq, e1, rb_l]) E)))
    show xg x (y0 u) 0 0 18 _ _ g1
    rw [e1, rb_r] at hq
    unfold sx at hq
    rw [if_neg c] at hq
    refine ra_iload_n A d_Rd_signed_18 rfl <| ra_ishl A d_Rd_signed_19 <| ra_iload_n A d_Rd_signed_20 rfl <| ra_ishr A d_Rd_signed_21 <| ?_
    exact ra_iret A ow d_Rd_signed_22 (hX _ _ g1 hq.symm f1 R1)
theorem s_Rd_zeros (hl : l.stackTraces = false) {F : Nat → Bool} {L m e p : Nat} {Q : Rr Nat} (R : RD h F L p) (hm : m < 2 ^ 62) (hq : rZ F L e m 0 p = Q) (hX : ∀ n p' h', Q = .inr (n, p') → RM1 h h' → RD h' F L p' → n < m → X (.inl (some (.long (lN n)))) h' 0 0) (hY : ∀ e h', Q = .inl e → ER h h' e → X (.inr ISE) h' 1 6) : xm_M l (y0 u) (KK0 u) m_Rd_zeros [.ref 133, .long (lN m), .int (nI e)] h X := by
  refine xm_of [none, none] (by simp) (Nat.le_of_ble_eq_true rfl) (by decide) (fun x at0 => ?_)
  have A := xa_of at0 (KK0_ok u)
  have ow := at0.2.2.2.2.1
  have hlx : (xg_l x).stackTraces = false := by rw [at0.2.2.2.2.2.1]; exact hl
  refine ra_lconst A 0 d_Rd_zeros_0 (by decide) <| ra_lstore (L' := [_, _, _, _, _, _]) A d_Rd_zeros_1 (by decide) rfl <| ?_
  have loop : ∀ r n p g, n + r = m → RM1 h g → RD g F L p → rZ F L e r n p = Q → xg x (y0 u) 0 0 3 [some (.ref 133), some (.long (lN m)), none, some (.int (nI e)), some (.long (lN n)), none] [] g := by
    intro r
    induction r with
    | zero =>
      intro n p g hr hf hR hQ
      obtain rfl : n = m := by omega
      refine ra_lload A d_Rd_zeros_3 rfl <| ra_lload_n A d_Rd_zeros_5 rfl <| ra_lcmp A d_Rd_zeros_6 <| ?_
      refine ra_if_ge (q := 31) A d_Rd_zeros_7 (by decide) (fun _ => ?_) (fun cc => absurd (lc_ge.mpr (Int64.le_refl _)) cc)
      refine ra_aload_n A d_Rd_zeros_31 rfl <| ra_iconst A 0 d_Rd_zeros_32 (by decide) <| ra_iload_n A d_Rd_zeros_33 rfl <| ?_
      refine ra_callV (As := [_, _]) A ok_Rd_demand l_Rd_50 im_Rd_demand sl_Rd_demand d_Rd_zeros_34 (Nat.le_of_ble_eq_true rfl) rfl rfl rfl (Nat.le_of_ble_eq_true rfl) (xr_of at0 (by decide)) (s_Rd_demand hlx (c := false) (e := e) (fun q => by cases q) (fun _ => xgT_out ow at0.2.2.2.2.2.2.2.2.2.2 (hY e _ hQ.symm (hf.er ER_I))))
    | succ r ih =>
      intro n p g hr hf hR hQ
      rw [rZ] at hQ
      refine ra_lload A d_Rd_zeros_3 rfl <| ra_lload_n A d_Rd_zeros_5 rfl <| ra_lcmp A d_Rd_zeros_6 <| ?_
      refine ra_if_ge (q := 31) A d_Rd_zeros_7 (by decide) (fun cc => absurd cc (fun z => absurd ((pk_lLE (by omega) (by omega)).mp (lc_ge.mp z)) (by omega))) (fun _ => ?_)
      refine ra_aload_n A d_Rd_zeros_10 rfl <| ra_iconst A 1 d_Rd_zeros_11 (by decide) <| ?_
      refine ra_callV (As := [_]) A ok_Rd_bits l_Rd_47 im_Rd_bits sl_Rd_bits d_Rd_zeros_12 (Nat.le_of_ble_eq_true rfl) rfl rfl rfl (Nat.le_of_ble_eq_true rfl) (xr_of at0 (by decide)) (s_Rd_bits hlx (n := 1) hR (by decide) rfl (fun v p1 g1 e1 f1 R1 hv => ?_) (fun e' g1 e1 E => xgT_out ow at0.2.2.2.2.2.2.2.2.2.2 (hY e' g1 (by rw [← hQ, e1, rb_l]) (hf.er E))))
      show xg x (y0 u) 0 0 15 _ _ g1
      rw [e1, rb_r] at hQ
      refine ra_iconst A 1 d_Rd_zeros_15 (by decide) <| ?_
      by_cases c : v = 1
      · subst c
        refine ra_icmp_ne (q := 22) A d_Rd_zeros_16 (by decide) (fun cc => absurd (rfl) cc) (fun _ => ?_)
        refine ra_lload A d_Rd_zeros_19 rfl <| ?_
        rw [if_pos rfl] at hQ
        exact ra_lret A ow d_Rd_zeros_21 (hX _ _ g1 hQ.symm (hf.trans f1) R1 (by omega))
      · rw [if_neg c] at hQ
        refine ra_icmp_ne (q := 22) A d_Rd_zeros_16 (by decide) (fun _ => ?_) (fun cc => absurd cc (fun z => c ((nI_eq (b := 1) (by omega) (by decide)).mp z)))
        refine ra_lload A d_Rd_zeros_22 rfl <| ra_lconst A 1 d_Rd_zeros_24 (by decide) <| ra_ladd A d_Rd_zeros_25 <| ?_
        rw [lN_1]
        refine ra_lstore (L' := [_, _, _, _, _, _]) A d_Rd_zeros_26 (by decide) rfl <| ra_goto (q := 3) A d_Rd_zeros_28 (by decide) <| ?_
        exact ih (n + 1) p1 g1 (by omega) (hf.trans f1) R1 hQ
  exact loop m 0 p h (Nat.zero_add _) RM1.rfl R hq
theorem s_Rd_bitsToWholeByte (hl : l.stackTraces = false) {F : Nat → Bool} {L p : Nat} {Q : Rr Nat} (R : RD h F L p) (hq : rB F L ((8 - p % 8) % 8) p = Q) (hX : ∀ v p' h', Q = .inr (v, p') → RM1 h h' → RD h' F L p' → v < 2 ^ 8 → X (.inl (some (.int (nI v)))) h' 0 0) (hY : ∀ e h', Q = .inl e → ER h h' e → X (.inr ISE) h' 1 6) : xm_M l (y0 u) (KK0 u) m_Rd_bitsToWholeByte [.ref 133] h X := by
  refine xm_of [] (by simp) (Nat.le_of_ble_eq_true rfl) (by decide) (fun x at0 => ?_)
  have A := xa_of at0 (KK0_ok u)
  have ow := at0.2.2.2.2.1
  have hlx : (xg_l x).stackTraces = false := by rw [at0.2.2.2.2.2.1]; exact hl
  obtain ⟨r1, r2, r3, r4, r5⟩ := id R
  refine ra_aload_n A d_Rd_bitsToWholeByte_0 rfl <| ra_aload_n A d_Rd_bitsToWholeByte_1 rfl <| ra_getI A f_Rd_15 d_Rd_bitsToWholeByte_2 (Nat.le_of_ble_eq_true rfl) rfl rfl <| ?_
  rw [r3.1]
  refine ra_ineg A d_Rd_bitsToWholeByte_5 <| ra_bipush A 7 d_Rd_bitsToWholeByte_6 (by decide) <| ra_iand A d_Rd_bitsToWholeByte_8 <| ?_
  rw [neg7 (by omega)]
  refine ra_callV (As := [_]) A ok_Rd_bits l_Rd_47 im_Rd_bits sl_Rd_bits d_Rd_bitsToWholeByte_9 (Nat.le_of_ble_eq_true rfl) rfl rfl rfl (Nat.le_of_ble_eq_true rfl) (xr_of at0 (by decide)) (s_Rd_bits hlx R (by omega) hq (fun v p1 g1 e1 f1 R1 hv => ?_) (fun e g1 e1 E => xgT_out ow at0.2.2.2.2.2.2.2.2.2.2 (hY e g1 e1 E)))
  show xg x (y0 u) 0 0 12 _ _ g1
  have : (2 : Nat) ^ ((8 - p % 8) % 8) ≤ 2 ^ 8 := Nat.pow_le_pow_right (by decide) (by omega)
  exact ra_iret A ow d_Rd_bitsToWholeByte_12 (hX _ _ g1 e1 f1 R1 (by omega))
theorem s_Rd_skipBytes (hl : l.stackTraces = false) {F : Nat → Bool} {L n p : Nat} (R : RD h F L p) (hn : n < 2 ^ 25) (hX : p / 8 + n ≤ L → ∀ h', RM1 h h' → (p % 8 = 0 → RD h' F L (p + 8 * n)) → X (.inl none) h' 0 0) (hY : ¬ p / 8 + n ≤ L → ∀ h', ER h h' 13 → X (.inr ISE) h' 1 6) : xm_M l (y0 u) (KK0 u) m_Rd_skipBytes [.ref 133, .int (nI n)] h X := by
  refine xm_of [] (by simp) (Nat.le_of_ble_eq_true rfl) (by decide) (fun x at0 => ?_)
  have A := xa_of at0 (KK0_ok u)
  have ow := at0.2.2.2.2.1
  have hlx : (xg_l x).stackTraces = false := by rw [at0.2.2.2.2.2.1]; exact hl
  obtain ⟨r1, r2, r3, r4, r5⟩ := id R
  refine ra_aload_n A d_Rd_skipBytes_0 rfl <| ra_iload_n A d_Rd_skipBytes_1 rfl <| ra_aload_n A d_Rd_skipBytes_2 rfl <| ra_getR A f_Rd_9 d_Rd_skipBytes_3 (Nat.le_of_ble_eq_true rfl) rfl rfl rfl <| ra_getI A f_Rd_29 d_Rd_skipBytes_6 (Nat.le_of_ble_eq_true rfl) rfl rfl <| ?_
  rw [r1]
  refine ra_aload_n A d_Rd_skipBytes_9 rfl <| ?_
  refine ra_callV (As := []) A ok_Rd_nextByte l_Rd_25 im_Rd_nextByte sl_Rd_nextByte d_Rd_skipBytes_10 (Nat.le_of_ble_eq_true rfl) rfl rfl rfl (Nat.le_of_ble_eq_true rfl) (xr_of at0 (by decide)) (s_Rd_nextByte (KK0_ok u) R ?_)
  show xg x (y0 u) 0 0 13 _ _ h
  refine ra_isub A d_Rd_skipBytes_13 <| ?_
  rw [pk_sub (show p / 8 ≤ L by omega)]
  by_cases c : p / 8 + n ≤ L
  · refine ra_icmp_gt (q := 21) A d_Rd_skipBytes_14 (by decide) (fun cc => absurd cc (Int32.not_lt.mpr (nI_le (by omega) (by omega)))) (fun _ => ?_)
    refine ra_iconst A 1 d_Rd_skipBytes_17 (by decide) <| ra_goto (q := 22) A d_Rd_skipBytes_18 (by decide) <| ra_bipush A 13 d_Rd_skipBytes_22 (by decide) <| ?_
    refine ra_callV (As := [_, _]) A ok_Rd_demand l_Rd_50 im_Rd_demand sl_Rd_demand d_Rd_skipBytes_24 (Nat.le_of_ble_eq_true rfl) rfl rfl rfl (Nat.le_of_ble_eq_true rfl) (xr_of at0 (by decide)) (s_Rd_demand hlx (c := true) (e := 13) (fun _ => ?_) (fun q => by cases q))
    show xg x (y0 u) 0 0 27 _ _ h
    refine ra_aload_n A d_Rd_skipBytes_27 rfl <| ra_dup A d_Rd_skipBytes_28 rfl <| ra_getI A f_Rd_15 d_Rd_skipBytes_29 (Nat.le_of_ble_eq_true rfl) rfl rfl <| ?_
    rw [r3.1]
    refine ra_bipush A 8 d_Rd_skipBytes_32 (by decide) <| ra_iload_n A d_Rd_skipBytes_34 rfl <| ra_imul A d_Rd_skipBytes_35 <| ra_iadd A d_Rd_skipBytes_36 <| ?_
    rw [show (8 : Int32) * nI n = nI (8 * n) from pk_mul 8 n, nI_add]
    refine ra_putI (ty := .int) A f_Rd_15 rfl rfl (by decide +kernel) rfl rfl d_Rd_skipBytes_37 (Nat.le_of_ble_eq_true rfl) rfl rfl <| ?_
    exact ra_vret A ow d_Rd_skipBytes_40 (hX c _ (f1_I (by decide)) (fun h8 => R.of (xI_k (by decide)) (xI_k (by decide)) ⟨xI_e, by rw [xI_j (by decide)]; exact r3.2⟩ (by omega)))
  · refine ra_icmp_gt (q := 21) A d_Rd_skipBytes_14 (by decide) (fun _ => ?_) (fun cc => absurd (nI_lt (by omega) (by omega)) cc)
    refine ra_iconst A 0 d_Rd_skipBytes_21 (by decide) <| ra_bipush A 13 d_Rd_skipBytes_22 (by decide) <| ?_
    refine ra_callV (As := [_, _]) A ok_Rd_demand l_Rd_50 im_Rd_demand sl_Rd_demand d_Rd_skipBytes_24 (Nat.le_of_ble_eq_true rfl) rfl rfl rfl (Nat.le_of_ble_eq_true rfl) (xr_of at0 (by decide)) (s_Rd_demand hlx (c := false) (e := 13) (fun q => by cases q) (fun _ => xgT_out ow at0.2.2.2.2.2.2.2.2.2.2 (hY c _ ER_I)))
end S91
