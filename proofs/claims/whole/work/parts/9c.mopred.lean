/-! SoundStreamModel: predicted -/
/-- only what was read of the channel j, the factors, the place and the fault have changed -/
def MP (j : Nat) (h h' : xw_H) : Prop := fm [154, 155] [22] true h h' ∧ ∀ i, (i < 1200 * j ∨ 1200 * j + 1200 ≤ i) → h'.1 154 i = h.1 154 i
theorem MP.rfl {j : Nat} {h : xw_H} : MP j h h := ⟨fm.rfl, fun _ _ => _root_.rfl⟩
theorem MP.trans {j : Nat} {h g h' : xw_H} (x : MP j h g) (y : MP j g h') : MP j h h' := ⟨x.1.trans y.1, fun i hi => (y.2 i hi).trans (x.2 i hi)⟩
theorem MM.mp {j : Nat} {h h' : xw_H} (x : MM h h') : MP j h h' := ⟨x.mono (by decide) (by decide) (fun q => q), fun i _ => by rw [fmk x (by decide) (by decide)]⟩
theorem MP_F {j : Nat} {h : xw_H} {v : Int32} : MP j h (xw_I h 141 22 v) := MM.mp (fm_F (by decide))
theorem MP_I {j i : Nat} {h : xw_H} {v : Int32} (h1 : 1200 * j ≤ i) (h2 : i < 1200 * j + 1200) : MP j h (xw_I h 154 i v) := ⟨fm_I (by decide) (by decide), fun q hq => xI_j (by omega)⟩
theorem MP_f {j i : Nat} {h : xw_H} {v : Int32} : MP j h (xw_I h 155 i v) := ⟨fm_I (by decide) (by decide), fun q hq => by rw [xI_k (by decide)]⟩
theorem MR_I {h : xw_H} {F : Nat → Bool} {L e p k i : Nat} {v : Int32} (M : MR h F L e p) (h1 : k ≠ 141) (h2 : k ≠ 148) : MR (xw_I h k i v) F L e p := M.of (by rw [xI_k (fun q => h1 q.symm)]) (xI_k (fun q => h2 q.symm)) ⟨M.2.2.1.1, by rw [xI_k (fun q => h1 q.symm)]; exact M.2.2.1.2⟩ M.2.2.2.1 M.2.2.2.2.2
theorem MR_F {h : xw_H} {F : Nat → Bool} {L e p x : Nat} (M : MR h F L e p) (hx : x < 16) : MR (xw_I h 141 22 (nI x)) F L x p := M.of (xI_j (by decide)) (xI_k (by decide)) ⟨M.2.2.1.1, xI_e⟩ M.2.2.2.1 hx
theorem sx5 {F : Nat → Bool} {L p p' : Nat} {s : Int32} (h : rS F L 5 p = .inr (s, p')) (h0 : (0 : Int32) ≤ s) : s = nI s.toNatClampNeg ∧ s.toNatClampNeg < 16 := by
  unfold rS rB at h
  split at h
  · rw [rb_r] at h
    have e := congrArg (fun q => match q with | Sum.inr (a, _) => a | _ => 0) h
    dsimp only at e
    have hb := bv_lt (F := F) (p := p) 5
    have ht := sx_lt (n := 5) (by decide) (by decide) hb
    rw [e] at ht
    have h0' : 0 ≤ s.toInt := by simpa using Int32.le_iff_toInt_le.mp h0
    have hlt : s.toInt < 16 := by
      rw [ht]
      split
      · omega
      · rename_i q; simp at q; omega
    have hc : (s.toNatClampNeg : Int) = s.toInt := by
      show ((s.toInt.toNat : Nat) : Int) = _
      omega
    refine ⟨?_, by omega⟩
    apply i_of_toInt
    rw [nI_toInt (by omega), hc]
  · cases h
section S9c
variable {u : xu_T} {l : Launch} {KK : State → Prop} {h : xw_H} {X : xc_R → xw_H → Nat → Nat → Prop}
theorem s_Mo_predicted (K : xk_ok u KK) {F : Nat → Bool} {L p j t o bits n : Nat} {row : Nat → Int32} {Q : Rr (Nat → Int32)} (M : MR h F L 0 p) (hj : j < 2) (ht : t < 64) (ho : o ≤ 32) (ho4 : ¬ 32 ≤ t → o ≤ 4) (hb1 : 1 ≤ bits) (hb : bits ≤ 25) (hon : o ≤ n) (hn : n ≤ 1200) (hrow : ∀ r, r < o → h.1 154 (1200 * j + r) = row r)
    (hq : (rb (if 32 ≤ t then rF F L o p else .inr ((0, fxf o), p)) fun f p2 => rRs F L (o, bits, f.1, f.2) n row p2) = Q)
    (hX : ∀ row' p' h', Q = .inr (row', p') → MP j h h' → MR h' F L 0 p' → (∀ r, r < n → h'.1 154 (1200 * j + r) = row' r) → X (.inl none) h' 0 0) (hY : ∀ x p' h', Q = .inl x → MP j h h' → MR h' F L x p' → x ≠ 0 → X (.inl none) h' 0 0) : xm_M l (y0 u) KK m_Mo_predicted [.ref 141, .int (nI j), .int (nI t), .int (nI o), .int (nI bits), .int (nI n)] h X := by
  refine xm_of [none, none, none, none, none, none, none, none, none, none, none] (by simp) (Nat.le_of_ble_eq_true rfl) (by decide) (fun x at0 => ?_)
  have A := xa_of at0 K
  have ow := at0.2.2.2.2.1
  have ne : ∀ {g : xw_H} {e p : Nat}, MR g F L e p → e ≠ 0 → ¬ g.1 141 22 = 0 := fun M h0 => by rw [M.2.2.1.2]; exact nI_ne0 (by omega) (by have := M.2.2.2.2.2; omega)
  -- a fault: the loops end
  have dead161 : ∀ e p' g (z6 z7 z8 z9 : Int32) v10 v11 v12 v13 v14 v15 v16, Q = .inl e → MP j h g → MR g F L e p' → e ≠ 0 → xg x (y0 u) 0 0 161 [some (.ref 141), some (.int (nI j)), some (.int (nI t)), some (.int (nI o)), some (.int (nI bits)), some (.int (nI n)), some (.int z6), some (.int z7), some (.int z8), some (.int z9), v10, v11, v12, v13, v14, v15, v16] [] g := by
    intro e p' g z6 z7 z8 z9 v10 v11 v12 v13 v14 v15 v16 hQ hf hM he
    refine ra_iload A d_Mo_predicted_161 rfl <| ra_iconst A 1 d_Mo_predicted_163 (by decide) <| ra_iload A d_Mo_predicted_164 rfl <| ra_ishl A d_Mo_predicted_166 <| ?_
    refine ra_icmp_ge (q := 354) A d_Mo_predicted_167 (by decide) (fun c => ?_) (fun c => ?_)
    · exact ra_vret A ow d_Mo_predicted_354 (hY e p' g hQ hf hM he)
    · refine ra_aload_n A d_Mo_predicted_170 rfl <| ra_getI A f_Mo_386 d_Mo_predicted_171 (Nat.le_of_ble_eq_true rfl) rfl rfl <| ?_
      refine ra_if_ne (q := 354) A d_Mo_predicted_174 (by decide) (fun _ => ?_) (fun cc => absurd cc (ne hM he))
      exact ra_vret A ow d_Mo_predicted_354 (hY e p' g hQ hf hM he)
  have dead158 : ∀ e p' g (z6 z7 z8 : Int32) v9 v10 v11 v12 v13 v14 v15 v16, Q = .inl e → MP j h g → MR g F L e p' → e ≠ 0 → xg x (y0 u) 0 0 158 [some (.ref 141), some (.int (nI j)), some (.int (nI t)), some (.int (nI o)), some (.int (nI bits)), some (.int (nI n)), some (.int z6), some (.int z7), some (.int z8), v9, v10, v11, v12, v13, v14, v15, v16] [] g := by
    intro e p' g z6 z7 z8 v9 v10 v11 v12 v13 v14 v15 v16 hQ hf hM he
    refine ra_iconst A 0 d_Mo_predicted_158 (by decide) <| ra_istore (L' := [_, _, _, _, _, _, _, _, _, _, _, _, _, _, _, _, _]) A d_Mo_predicted_159 (by decide) rfl <| ?_
    exact dead161 e p' g _ _ _ _ _ _ _ _ _ _ _ hQ hf hM he
  have dead125 : ∀ e p' g (z6 z7 : Int32) v8, Q = .inl e → MP j h g → MR g F L e p' → e ≠ 0 → xg x (y0 u) 0 0 125 [some (.ref 141), some (.int (nI j)), some (.int (nI t)), some (.int (nI o)), some (.int (nI bits)), some (.int (nI n)), some (.int z6), some (.int z7), v8, none, none, none, none, none, none, none, none] [.long (lN 0)] g := by
    intro e p' g z6 z7 v8 hQ hf hM he
    refine ra_l2i A d_Mo_predicted_125 <| ?_
    rw [lN_i]
    refine ra_istore (L' := [_, _, _, _, _, _, _, _, _, _, _, _, _, _, _, _, _]) A d_Mo_predicted_126 (by decide) rfl <| ra_aload_n A d_Mo_predicted_128 rfl <| ra_iload A d_Mo_predicted_129 rfl <| ra_iconst A 1 d_Mo_predicted_131 (by decide) <| ra_iload A d_Mo_predicted_132 rfl <| ra_ishl A d_Mo_predicted_134 <| ?_
    refine ra_irem A d_Mo_predicted_135 (by decide) ?_
    have at153 : ∀ b : Int32, xg x (y0 u) 0 0 153 [some (.ref 141), some (.int (nI j)), some (.int (nI t)), some (.int (nI o)), some (.int (nI bits)), some (.int (nI n)), some (.int z6), some (.int z7), some (.int (nI 0)), none, none, none, none, none, none, none, none] [.int b, .ref 141] g := by
      intro b
      refine ra_bipush A 10 d_Mo_predicted_153 (by decide) <| ?_
      refine ra_callV (As := [_, _]) A ok_Mo_want l_Mo_409 im_Mo_want sl_Mo_want d_Mo_predicted_155 (Nat.le_of_ble_eq_true rfl) rfl rfl rfl (Nat.le_of_ble_eq_true rfl) (xr_of at0 (by decide)) (s_Mo_wantF K (ne hM he) ?_)
      show xg x (y0 u) 0 0 158 _ _ g
      exact dead158 e p' g _ _ _ _ _ _ _ _ _ _ _ hQ hf hM he
    refine ra_if_ne (q := 152) A d_Mo_predicted_136 (by decide) (fun c => ?_) (fun c => ?_)
    · refine ra_iconst A 0 d_Mo_predicted_152 (by decide) <| ?_
      exact at153 _
    · refine ra_iload A d_Mo_predicted_139 rfl <| ra_iload A d_Mo_predicted_141 rfl <| ra_ishr A d_Mo_predicted_143 <| ra_iload_n A d_Mo_predicted_144 rfl <| ?_
      refine ra_icmp_lt (q := 152) A d_Mo_predicted_145 (by decide) (fun c => ?_) (fun c => ?_)
      · refine ra_iconst A 0 d_Mo_predicted_152 (by decide) <| ?_
        exact at153 _
      · refine ra_iconst A 1 d_Mo_predicted_148 (by decide) <| ra_goto (q := 153) A d_Mo_predicted_149 (by decide) <| ?_
        exact at153 _
  have dead120 : ∀ e p' g (z6 z7 : Int32) v8, Q = .inl e → MP j h g → MR g F L e p' → e ≠ 0 → xg x (y0 u) 0 0 120 [some (.ref 141), some (.int (nI j)), some (.int (nI t)), some (.int (nI o)), some (.int (nI bits)), some (.int (nI n)), some (.int z6), some (.int z7), v8, none, none, none, none, none, none, none, none] [] g := by
    intro e p' g z6 z7 v8 hQ hf hM he
    refine ra_aload_n A d_Mo_predicted_120 rfl <| ra_iconst A 4 d_Mo_predicted_121 (by decide) <| ?_
    refine ra_callV (As := [_]) A ok_Mo_next l_Mo_394 im_Mo_next sl_Mo_next d_Mo_predicted_122 (Nat.le_of_ble_eq_true rfl) rfl rfl rfl (Nat.le_of_ble_eq_true rfl) (xr_of at0 (by decide)) (s_Mo_nextF K hM he ?_)
    show xg x (y0 u) 0 0 125 _ _ g
    exact dead125 e p' g _ _ _ hQ hf hM he
  have dead100 : ∀ e p' g (z6 : Int32) v7 v8, Q = .inl e → MP j h g → MR g F L e p' → e ≠ 0 → xg x (y0 u) 0 0 100 [some (.ref 141), some (.int (nI j)), some (.int (nI t)), some (.int (nI o)), some (.int (nI bits)), some (.int (nI n)), some (.int z6), v7, v8, none, none, none, none, none, none, none, none] [.long (lN 0)] g := by
    intro e p' g z6 v7 v8 hQ hf hM he
    refine ra_l2i A d_Mo_predicted_100 <| ?_
    rw [lN_i]
    refine ra_istore (L' := [_, _, _, _, _, _, _, _, _, _, _, _, _, _, _, _, _]) A d_Mo_predicted_101 (by decide) rfl <| ra_aload_n A d_Mo_predicted_103 rfl <| ra_iload A d_Mo_predicted_104 rfl <| ra_iconst A 2 d_Mo_predicted_106 (by decide) <| ?_
    refine ra_icmp_ge (q := 114) A d_Mo_predicted_107 (by decide) (fun cc => absurd cc ((by decide))) (fun _ => ?_)
    refine ra_iconst A 1 d_Mo_predicted_110 (by decide) <| ra_goto (q := 115) A d_Mo_predicted_111 (by decide) <| ra_bipush A 10 d_Mo_predicted_115 (by decide) <| ?_
    refine ra_callV (As := [_, _]) A ok_Mo_want l_Mo_409 im_Mo_want sl_Mo_want d_Mo_predicted_117 (Nat.le_of_ble_eq_true rfl) rfl rfl rfl (Nat.le_of_ble_eq_true rfl) (xr_of at0 (by decide)) (s_Mo_wantF K (ne hM he) ?_)
    show xg x (y0 u) 0 0 120 _ _ g
    exact dead120 e p' g _ _ _ hQ hf hM he
  have dead95 : ∀ e p' g (z6 : Int32) v7 v8, Q = .inl e → MP j h g → MR g F L e p' → e ≠ 0 → xg x (y0 u) 0 0 95 [some (.ref 141), some (.int (nI j)), some (.int (nI t)), some (.int (nI o)), some (.int (nI bits)), some (.int (nI n)), some (.int z6), v7, v8, none, none, none, none, none, none, none, none] [] g := by
    intro e p' g z6 v7 v8 hQ hf hM he
    refine ra_aload_n A d_Mo_predicted_95 rfl <| ra_iconst A 2 d_Mo_predicted_96 (by decide) <| ?_
    refine ra_callV (As := [_]) A ok_Mo_next l_Mo_394 im_Mo_next sl_Mo_next d_Mo_predicted_97 (Nat.le_of_ble_eq_true rfl) rfl rfl rfl (Nat.le_of_ble_eq_true rfl) (xr_of at0 (by decide)) (s_Mo_nextF K hM he ?_)
    show xg x (y0 u) 0 0 100 _ _ g
    exact dead100 e p' g _ _ _ hQ hf hM he
  -- alive: the rests
  have at95 : ∀ (sh : Nat) (fac : Nat → Int32) p2 g v7 v8, sh < 16 → MP j h g → MR g F L 0 p2 → (32 ≤ t → ∀ k, k < o → g.1 155 k = fac k) → (¬ 32 ≤ t → o ≤ 4 ∧ sh = 0 ∧ ∀ k, k < o → fac k = fxf o k) → (∀ r, r < o → g.1 154 (1200 * j + r) = row r) → rRs F L (o, bits, sh, fac) n row p2 = Q → xg x (y0 u) 0 0 95 [some (.ref 141), some (.int (nI j)), some (.int (nI t)), some (.int (nI o)), some (.int (nI bits)), some (.int (nI n)), some (.int (nI sh)), v7, v8, none, none, none, none, none, none, none, none] [] g := by
    clear hq
    intro sh fac p2 g v7 v8 hsh hf hM hfac hfix hr0 hq
    unfold rRs at hq
    dsimp only at hq
    refine ra_aload_n A d_Mo_predicted_95 rfl <| ra_iconst A 2 d_Mo_predicted_96 (by decide) <| ?_
    refine ra_callV (As := [_]) A ok_Mo_next l_Mo_394 im_Mo_next sl_Mo_next d_Mo_predicted_97 (Nat.le_of_ble_eq_true rfl) rfl rfl rfl (Nat.le_of_ble_eq_true rfl) (xr_of at0 (by decide)) (s_Mo_next K (n := 2) hM (by decide) rfl (fun way p3 g3 e3 f3 M3 hway => ?_) (fun e g3 e3 f3 M3 he => ?_))
    rotate_left
    · show xg x (y0 u) 0 0 100 _ _ g3
      rw [e3, rb_l] at hq
      exact dead100 e p2 g3 _ _ _ hq.symm (hf.trans (f3.mp (j := j))) M3 he
    show xg x (y0 u) 0 0 100 _ _ g3
    rw [e3, rb_r] at hq
    have hf3 := hf.trans (f3.mp (j := j))
    refine ra_l2i A d_Mo_predicted_100 <| ?_
    rw [lN_i]
    refine ra_istore (L' := [_, _, _, _, _, _, _, _, _, _, _, _, _, _, _, _, _]) A d_Mo_predicted_101 (by decide) rfl <| ra_aload_n A d_Mo_predicted_103 rfl <| ra_iload A d_Mo_predicted_104 rfl <| ra_iconst A 2 d_Mo_predicted_106 (by decide) <| ?_
    by_cases cw : ¬ way ≤ 1
    · rw [if_neg cw] at hq
      refine ra_icmp_ge (q := 114) A d_Mo_predicted_107 (by decide) (fun _ => ?_) (fun cc => absurd (nI_le (a := 2) (by omega) (by omega)) cc)
      refine ra_iconst A 0 d_Mo_predicted_114 (by decide) <| ra_bipush A 10 d_Mo_predicted_115 (by decide) <| ?_
      refine ra_callV (As := [_, _]) A ok_Mo_want l_Mo_409 im_Mo_want sl_Mo_want d_Mo_predicted_117 (Nat.le_of_ble_eq_true rfl) rfl rfl rfl (Nat.le_of_ble_eq_true rfl) (xr_of at0 (by decide)) (s_Mo_want K (b := false) M3.2.2.1.2 (fun q => by cases q) (fun _ => ?_))
      show xg x (y0 u) 0 0 120 _ _ _
      exact dead120 10 p3 _ _ _ _ hq.symm (hf3.trans MP_F) (MR_F (x := 10) M3 (by decide)) (by decide)
    have cw := Decidable.not_not.mp cw
    rw [if_pos cw] at hq
    refine ra_icmp_ge (q := 114) A d_Mo_predicted_107 (by decide) (fun cc => absurd cc (nI_ge (b := 2) (by omega) (by decide))) (fun _ => ?_)
    refine ra_iconst A 1 d_Mo_predicted_110 (by decide) <| ra_goto (q := 115) A d_Mo_predicted_111 (by decide) <| ra_bipush A 10 d_Mo_predicted_115 (by decide) <| ?_
    refine ra_callV (As := [_, _]) A ok_Mo_want l_Mo_409 im_Mo_want sl_Mo_want d_Mo_predicted_117 (Nat.le_of_ble_eq_true rfl) rfl rfl rfl (Nat.le_of_ble_eq_true rfl) (xr_of at0 (by decide)) (s_Mo_want K (b := true) M3.2.2.1.2 (fun _ => ?_) (fun q => by cases q))
    show xg x (y0 u) 0 0 120 _ _ g3
    refine ra_aload_n A d_Mo_predicted_120 rfl <| ra_iconst A 4 d_Mo_predicted_121 (by decide) <| ?_
    refine ra_callV (As := [_]) A ok_Mo_next l_Mo_394 im_Mo_next sl_Mo_next d_Mo_predicted_122 (Nat.le_of_ble_eq_true rfl) rfl rfl rfl (Nat.le_of_ble_eq_true rfl) (xr_of at0 (by decide)) (s_Mo_next K (n := 4) M3 (by decide) rfl (fun q p4 g4 e4 f4 M4 hq16 => ?_) (fun e g4 e4 f4 M4 he => ?_))
    rotate_left
    · show xg x (y0 u) 0 0 125 _ _ g4
      rw [e4, rb_l] at hq
      exact dead125 e p3 g4 _ _ _ hq.symm (hf3.trans (f4.mp (j := j))) M4 he
    show xg x (y0 u) 0 0 125 _ _ g4
    rw [e4, rb_r] at hq
    have hf4 := hf3.trans (f4.mp (j := j))
    have hq15 : q ≤ 15 := by omega
    have hPp : 2 ^ q ≤ 2 ^ 15 := Nat.pow_le_pow_right (n := 2) (by decide) hq15
    have hP0 : 0 < 2 ^ q := Nat.two_pow_pos q
    have hml := Nat.mod_lt n hP0
    have hle : n / 2 ^ q ≤ n := Nat.div_le_self _ _
    have k154 : g4.1 154 = g.1 154 := (fmk f4 (by decide) (by decide)).trans (fmk f3 (by decide) (by decide))
    have k155 : g4.1 155 = g.1 155 := (fmk f4 (by decide) (by decide)).trans (fmk f3 (by decide) (by decide))
    refine ra_l2i A d_Mo_predicted_125 <| ?_
    rw [lN_i]
    refine ra_istore (L' := [_, _, _, _, _, _, _, _, _, _, _, _, _, _, _, _, _]) A d_Mo_predicted_126 (by decide) rfl <| ra_aload_n A d_Mo_predicted_128 rfl <| ra_iload A d_Mo_predicted_129 rfl <| ra_iconst A 1 d_Mo_predicted_131 (by decide) <| ra_iload A d_Mo_predicted_132 rfl <| ra_ishl A d_Mo_predicted_134 <| ?_
    rw [shl1 (by omega)]
    refine ra_irem A d_Mo_predicted_135 (nI_ne0 hP0 (by omega)) ?_
    rw [pk_rem (by omega) hP0 (by omega)]
    have no : ¬ (n % 2 ^ q = 0 ∧ o ≤ n / 2 ^ q) → xg x (y0 u) 0 0 152 [some (.ref 141), some (.int (nI j)), some (.int (nI t)), some (.int (nI o)), some (.int (nI bits)), some (.int (nI n)), some (.int (nI sh)), some (.int (nI way)), some (.int (nI q)), none, none, none, none, none, none, none, none] [.ref 141] g4 := by
      intro c
      rw [if_neg c] at hq
      refine ra_iconst A 0 d_Mo_predicted_152 (by decide) <| ra_bipush A 10 d_Mo_predicted_153 (by decide) <| ?_
      refine ra_callV (As := [_, _]) A ok_Mo_want l_Mo_409 im_Mo_want sl_Mo_want d_Mo_predicted_155 (Nat.le_of_ble_eq_true rfl) rfl rfl rfl (Nat.le_of_ble_eq_true rfl) (xr_of at0 (by decide)) (s_Mo_want K (b := false) M4.2.2.1.2 (fun q => by cases q) (fun _ => ?_))
      show xg x (y0 u) 0 0 158 _ _ _
      exact dead158 10 p4 _ _ _ _ _ _ _ _ _ _ _ _ hq.symm (hf4.trans MP_F) (MR_F (x := 10) M4 (by decide)) (by decide)
    by_cases c1 : ¬ n % 2 ^ q = 0
    · refine ra_if_ne (q := 152) A d_Mo_predicted_136 (by decide) (fun _ => ?_) (fun cc => absurd cc (nI_ne0 (by omega) (by omega)))
      exact no (fun z => c1 z.1)
    have c1 := Decidable.not_not.mp c1
    refine ra_if_ne (q := 152) A d_Mo_predicted_136 (by decide) (fun cc => absurd ((by rw [c1]; rfl)) cc) (fun _ => ?_)
    refine ra_iload A d_Mo_predicted_139 rfl <| ra_iload A d_Mo_predicted_141 rfl <| ra_ishr A d_Mo_predicted_143 <| ?_
    rw [shrN (by omega) (by omega)]
    refine ra_iload_n A d_Mo_predicted_144 rfl <| ?_
    by_cases c2 : ¬ o ≤ n / 2 ^ q
    · refine ra_icmp_lt (q := 152) A d_Mo_predicted_145 (by decide) (fun _ => ?_) (fun cc => absurd (nI_lt (by omega) (by omega)) cc)
      exact no (fun z => c2 z.2)
    have c2 := Decidable.not_not.mp c2
    rw [if_pos ⟨c1, c2⟩] at hq
    refine ra_icmp_lt (q := 152) A d_Mo_predicted_145 (by decide) (fun cc => absurd cc (fun z => absurd ((nI_ltI (by omega) (by omega)).mp z) (by omega))) (fun _ => ?_)
    refine ra_iconst A 1 d_Mo_predicted_148 (by decide) <| ra_goto (q := 153) A d_Mo_predicted_149 (by decide) <| ra_bipush A 10 d_Mo_predicted_153 (by decide) <| ?_
    refine ra_callV (As := [_, _]) A ok_Mo_want l_Mo_409 im_Mo_want sl_Mo_want d_Mo_predicted_155 (Nat.le_of_ble_eq_true rfl) rfl rfl rfl (Nat.le_of_ble_eq_true rfl) (xr_of at0 (by decide)) (s_Mo_want K (b := true) M4.2.2.1.2 (fun _ => ?_) (fun q => by cases q))
    show xg x (y0 u) 0 0 158 _ _ g4
    clear no
    have hdm := Nat.div_add_mod n (2 ^ q)
    generalize he : n / 2 ^ q = e at *
    have hsz : 2 ^ q * e = n := by omega
    have shn : nI n >>> (nI q &&& 31) = nI e := by rw [shrN (by omega) (by omega), he]
    generalize hst : (fun (part : Nat) (row : Nat → Int32) (p : Nat) => rP F L (o, bits, sh, fac) way (pA o e part) (pM o e part) row p) = step at hq
    -- a fault inside of a part
    have dead229 : ∀ x' p' g' (pt : Nat) (z10 z11 z12 : Int32) v13 v14 v15 v16, Q = .inl x' → MP j h g' → MR g' F L x' p' → x' ≠ 0 → xg x (y0 u) 0 0 229 [some (.ref 141), some (.int (nI j)), some (.int (nI t)), some (.int (nI o)), some (.int (nI bits)), some (.int (nI n)), some (.int (nI sh)), some (.int (nI way)), some (.int (nI q)), some (.int (nI pt)), some (.int z10), some (.int z11), some (.int z12), v13, v14, v15, v16] [] g' := by
      intro x' p' g' pt z10 z11 z12 v13 v14 v15 v16 hQ hf' hM' hx
      refine ra_iload A d_Mo_predicted_229 rfl <| ra_iload A d_Mo_predicted_231 rfl <| ra_iconst A 1 d_Mo_predicted_233 (by decide) <| ra_iadd A d_Mo_predicted_234 <| ra_iload A d_Mo_predicted_235 rfl <| ra_iload A d_Mo_predicted_237 rfl <| ra_ishr A d_Mo_predicted_239 <| ra_imul A d_Mo_predicted_240 <| ?_
      refine ra_icmp_ge (q := 348) A d_Mo_predicted_241 (by decide) (fun c => ?_) (fun c => ?_)
      · refine ra_iinc (L' := [_, _, _, _, _, _, _, _, _, _, _, _, _, _, _, _, _]) A 1 d_Mo_predicted_348 rfl (by decide) (by decide) rfl <| ra_goto (q := 161) A d_Mo_predicted_351 (by decide) <| ?_
        exact dead161 x' p' g' _ _ _ _ _ _ _ _ _ _ _ hQ hf' hM' hx
      · refine ra_aload_n A d_Mo_predicted_244 rfl <| ra_getI A f_Mo_386 d_Mo_predicted_245 (Nat.le_of_ble_eq_true rfl) rfl rfl <| ?_
        refine ra_if_ne (q := 348) A d_Mo_predicted_248 (by decide) (fun _ => ?_) (fun cc => absurd cc (ne hM' hx))
        refine ra_iinc (L' := [_, _, _, _, _, _, _, _, _, _, _, _, _, _, _, _, _]) A 1 d_Mo_predicted_348 rfl (by decide) (by decide) rfl <| ra_goto (q := 161) A d_Mo_predicted_351 (by decide) <| ?_
        exact dead161 x' p' g' _ _ _ _ _ _ _ _ _ _ _ hQ hf' hM' hx
    have dead215 : ∀ x' p' g' (pt : Nat) (z10 z : Int32) v11 v12 v13 v14 v15 v16, pt < 2 ^ 31 → Q = .inl x' → MP j h g' → MR g' F L x' p' → x' ≠ 0 → xg x (y0 u) 0 0 215 [some (.ref 141), some (.int (nI j)), some (.int (nI t)), some (.int (nI o)), some (.int (nI bits)), some (.int (nI n)), some (.int (nI sh)), some (.int (nI way)), some (.int (nI q)), some (.int (nI pt)), some (.int z10), v11, v12, v13, v14, v15, v16] [.int z] g' := by
      intro x' p' g' pt z10 z v11 v12 v13 v14 v15 v16 hpt hQ hf' hM' hx
      refine ra_istore (L' := [_, _, _, _, _, _, _, _, _, _, _, _, _, _, _, _, _]) A d_Mo_predicted_215 (by decide) rfl <| ra_iload A d_Mo_predicted_217 rfl <| ra_iload A d_Mo_predicted_219 rfl <| ra_iload_n A d_Mo_predicted_221 rfl <| ra_iload A d_Mo_predicted_222 rfl <| ?_
      refine ra_callS (As := [_, _, _, _]) A ok_Mo_partFrom l_Mo_275 st_Mo_partFrom d_Mo_predicted_224 rfl (Nat.le_of_ble_eq_true rfl) (xr_of at0 (by decide)) (s_Mo_partFrom K hpt (by omega) (by omega) ?_)
      show xg x (y0 u) 0 0 227 _ _ g'
      refine ra_istore (L' := [_, _, _, _, _, _, _, _, _, _, _, _, _, _, _, _, _]) A d_Mo_predicted_227 (by decide) rfl <| ?_
      exact dead229 x' p' g' pt _ _ _ _ _ _ _ hQ hf' hM' hx
    refine ra_iconst A 0 d_Mo_predicted_158 (by decide) <| ra_istore (L' := [_, _, _, _, _, _, _, _, _, _, _, _, _, _, _, _, _]) A d_Mo_predicted_159 (by decide) rfl <| ?_
    refine lp_up (σ := xw_H) (W := fun pt g' => ∀ v10 v11 v12 v13 v14 v15 v16, xg x (y0 u) 0 0 161 [some (.ref 141), some (.int (nI j)), some (.int (nI t)), some (.int (nI o)), some (.int (nI bits)), some (.int (nI n)), some (.int (nI sh)), some (.int (nI way)), some (.int (nI q)), some (.int (nI pt)), v10, v11, v12, v13, v14, v15, v16] [] g') (I := fun pt g' => ∃ row' p', rL step row p4 pt = .inr (row', p') ∧ MP j h g' ∧ MR g' F L 0 p' ∧ g'.1 155 = g.1 155 ∧ ∀ r, r < pA o e pt → g'.1 154 (1200 * j + r) = row' r) (2 ^ q) ?_ ?_ 0 g4 (Nat.zero_le _) ⟨_, _, rfl, hf4, M4, k155, fun r hr => by rw [k154]; exact hr0 r hr⟩ none none none none none none none
    · rintro g' ⟨row', p', e5, hf', hM', h155, hr⟩ v10 v11 v12 v13 v14 v15 v16
      refine ra_iload A d_Mo_predicted_161 rfl <| ra_iconst A 1 d_Mo_predicted_163 (by decide) <| ra_iload A d_Mo_predicted_164 rfl <| ra_ishl A d_Mo_predicted_166 <| ?_
      rw [shl1 (by omega)]
      refine ra_icmp_ge (q := 354) A d_Mo_predicted_167 (by decide) (fun _ => ?_) (fun cc => absurd (Int32.le_refl _) cc)
      have hpe : pA o e (2 ^ q) = n := by unfold pA; rw [if_neg (by omega)]; exact hsz
      rw [hpe] at hr
      exact ra_vret A ow d_Mo_predicted_354 (hX row' p' g' (hq.symm.trans e5) hf' hM' hr)
    · rintro pt g' hpt ⟨row1, p5, e5, hf', hM', h155, hr⟩ ih v10 v11 v12 v13 v14 v15 v16
      have e6 := rL_s e5
      rw [← hst] at e6
      dsimp only at e6
      rw [hst] at e6
      have bad : ∀ x', rP F L (o, bits, sh, fac) way (pA o e pt) (pM o e pt) row1 p5 = .inl x' → Q = .inl x' := fun x' z => by rw [← hq]; exact rL_err (e6.trans z) hpt
      have hAM := pA_AM (p := pt) c2
      have hle2 : (pt + 1) * e ≤ 2 ^ q * e := Nat.mul_le_mul_right _ hpt
      have hpw : 2 ^ (4 + way) ≤ 2 ^ 5 := Nat.pow_le_pow_right (n := 2) (by decide) (by omega)
      unfold rP at e6 bad
      refine ra_iload A d_Mo_predicted_161 rfl <| ra_iconst A 1 d_Mo_predicted_163 (by decide) <| ra_iload A d_Mo_predicted_164 rfl <| ra_ishl A d_Mo_predicted_166 <| ?_
      rw [shl1 (by omega)]
      refine ra_icmp_ge (q := 354) A d_Mo_predicted_167 (by decide) (fun cc => absurd cc (nI_ge hpt (by omega))) (fun _ => ?_)
      refine ra_aload_n A d_Mo_predicted_170 rfl <| ra_getI A f_Mo_386 d_Mo_predicted_171 (Nat.le_of_ble_eq_true rfl) rfl rfl <| ?_
      refine ra_if_ne (q := 354) A d_Mo_predicted_174 (by decide) (fun cc => absurd (hM'.2.2.1.2) cc) (fun _ => ?_)
      refine ra_aload_n A d_Mo_predicted_177 rfl <| ra_iconst A 4 d_Mo_predicted_178 (by decide) <| ra_iload A d_Mo_predicted_179 rfl <| ra_iadd A d_Mo_predicted_181 <| ?_
      rw [show (4 : Int32) + nI way = nI (4 + way) from nI_add 4 way]
      refine ra_callV (As := [_]) A ok_Mo_next l_Mo_394 im_Mo_next sl_Mo_next d_Mo_predicted_182 (Nat.le_of_ble_eq_true rfl) rfl rfl rfl (Nat.le_of_ble_eq_true rfl) (xr_of at0 (by decide)) (s_Mo_next K (n := 4 + way) hM' (by omega) rfl (fun k p6 g6 e7 f6 M6 hk => ?_) (fun x' g6 e7 f6 M6 hx => ?_))
      rotate_left
      · show xg x (y0 u) 0 0 185 _ _ g6
        have hQ := bad x' (by rw [e7, rb_l])
        refine ra_l2i A d_Mo_predicted_185 <| ?_
        rw [lN_i]
        refine ra_istore (L' := [_, _, _, _, _, _, _, _, _, _, _, _, _, _, _, _, _]) A d_Mo_predicted_186 (by decide) rfl <| ra_iload A d_Mo_predicted_188 rfl <| ra_iload A d_Mo_predicted_190 rfl <| ?_
        have at202' : ∀ z : Int32, ¬ nI 0 = z → xg x (y0 u) 0 0 202 [some (.ref 141), some (.int (nI j)), some (.int (nI t)), some (.int (nI o)), some (.int (nI bits)), some (.int (nI n)), some (.int (nI sh)), some (.int (nI way)), some (.int (nI q)), some (.int (nI pt)), some (.int (nI 0)), v11, v12, v13, v14, v15, v16] [.int z, .int (nI 0)] g6 := by
          intro z hz
          refine ra_icmp_ne (q := 214) A d_Mo_predicted_202 (by decide) (fun _ => ?_) (fun cc => absurd cc (hz))
          refine ra_iconst A (-1) d_Mo_predicted_214 (by decide) <| ?_
          exact dead215 x' p5 g6 pt _ _ _ _ _ _ _ _ (by omega) hQ (hf'.trans (f6.mp (j := j))) M6 hx
        refine ra_if_ne (q := 200) A d_Mo_predicted_192 (by decide) (fun c => ?_) (fun c => ?_)
        · refine ra_bipush A 31 d_Mo_predicted_200 (by decide) <| ?_
          exact at202' _ (by decide)
        · refine ra_bipush A 15 d_Mo_predicted_195 (by decide) <| ra_goto (q := 202) A d_Mo_predicted_197 (by decide) <| ?_
          exact at202' _ (by decide)
      show xg x (y0 u) 0 0 185 _ _ g6
      rw [e7] at e6 bad
      simp only [rb_r] at e6 bad
      have hf6 := hf'.trans (f6.mp (j := j))
      refine ra_l2i A d_Mo_predicted_185 <| ?_
      rw [lN_i]
      refine ra_istore (L' := [_, _, _, _, _, _, _, _, _, _, _, _, _, _, _, _, _]) A d_Mo_predicted_186 (by decide) rfl <| ra_iload A d_Mo_predicted_188 rfl <| ra_iload A d_Mo_predicted_190 rfl <| ?_
      -- the samples of a part
      have at215 : ∀ (esc : Bool) (nn : Nat) (z11 : Int32) p7 g7 v11 v12, (esc = true → z11 = nI nn ∧ nn < 32) → (esc = false → z11 = -1 ∧ k ≤ 30 ∧ nn = 0) → MP j h g7 → MR g7 F L 0 p7 → g7.1 155 = g.1 155 → g7.1 154 = g'.1 154 → rL step row p4 (pt + 1) = rL (stp F L (o, bits, sh, fac) esc nn k (pA o e pt)) row1 p7 (pM o e pt) → (∀ x', rL (stp F L (o, bits, sh, fac) esc nn k (pA o e pt)) row1 p7 (pM o e pt) = .inl x' → Q = .inl x') → xg x (y0 u) 0 0 215 [some (.ref 141), some (.int (nI j)), some (.int (nI t)), some (.int (nI o)), some (.int (nI bits)), some (.int (nI n)), some (.int (nI sh)), some (.int (nI way)), some (.int (nI q)), some (.int (nI pt)), some (.int (nI k)), v11, v12, v13, v14, v15, v16] [.int z11] g7 := by
        intro esc nn z11 p7 g7 v11 v12 hz1 hz2 hf7 hM7 h155' h154' e8' bad'
        refine ra_istore (L' := [_, _, _, _, _, _, _, _, _, _, _, _, _, _, _, _, _]) A d_Mo_predicted_215 (by decide) rfl <| ra_iload A d_Mo_predicted_217 rfl <| ra_iload A d_Mo_predicted_219 rfl <| ra_iload_n A d_Mo_predicted_221 rfl <| ra_iload A d_Mo_predicted_222 rfl <| ?_
        refine ra_callS (As := [_, _, _, _]) A ok_Mo_partFrom l_Mo_275 st_Mo_partFrom d_Mo_predicted_224 rfl (Nat.le_of_ble_eq_true rfl) (xr_of at0 (by decide)) (s_Mo_partFrom K (by omega) (by omega) (by omega) ?_)
        show xg x (y0 u) 0 0 227 _ _ g7
        rw [he]
        refine ra_istore (L' := [_, _, _, _, _, _, _, _, _, _, _, _, _, _, _, _, _]) A d_Mo_predicted_227 (by decide) rfl <| ?_
        generalize ha : pA o e pt = a at *
        generalize hm : pM o e pt = m at *
        rw [show a = a + 0 from rfl]
        refine lp_up (σ := xw_H) (W := fun jj g8 => ∀ v13 v14 v15 v16, xg x (y0 u) 0 0 229 [some (.ref 141), some (.int (nI j)), some (.int (nI t)), some (.int (nI o)), some (.int (nI bits)), some (.int (nI n)), some (.int (nI sh)), some (.int (nI way)), some (.int (nI q)), some (.int (nI pt)), some (.int (nI k)), some (.int z11), some (.int (nI (a + jj))), v13, v14, v15, v16] [] g8) (I := fun jj g8 => ∃ row8 p8, rL (stp F L (o, bits, sh, fac) esc nn k a) row1 p7 jj = .inr (row8, p8) ∧ MP j h g8 ∧ MR g8 F L 0 p8 ∧ g8.1 155 = g.1 155 ∧ ∀ r, r < a + jj → g8.1 154 (1200 * j + r) = row8 r) m ?_ ?_ 0 g7 (Nat.zero_le _) ⟨_, _, rfl, hf7, hM7, h155', fun r hr' => by rw [h154']; exact hr r hr'⟩ _ _ _ _
        · rintro g8 ⟨row8, p8, e9, hf8, hM8, h155b, hr8⟩ v13 v14 v15 v16
          refine ra_iload A d_Mo_predicted_229 rfl <| ra_iload A d_Mo_predicted_231 rfl <| ra_iconst A 1 d_Mo_predicted_233 (by decide) <| ra_iadd A d_Mo_predicted_234 <| ?_
          rw [nI_1]
          refine ra_iload A d_Mo_predicted_235 rfl <| ra_iload A d_Mo_predicted_237 rfl <| ra_ishr A d_Mo_predicted_239 <| ?_
          rw [shn]
          refine ra_imul A d_Mo_predicted_240 <| ?_
          rw [pk_mul, ← hAM.2]
          refine ra_icmp_ge (q := 348) A d_Mo_predicted_241 (by decide) (fun _ => ?_) (fun cc => absurd (Int32.le_refl _) cc)
          refine ra_iinc (L' := [_, _, _, _, _, _, _, _, _, _, _, _, _, _, _, _, _]) A 1 d_Mo_predicted_348 rfl (by decide) (by decide) rfl <| ra_goto (q := 161) A d_Mo_predicted_351 (by decide) <| ?_
          rw [nI_1]
          refine ih g8 ⟨row8, p8, e8'.trans e9, hf8, hM8, h155b, fun r hr' => ?_⟩ _ _ _ _ _ _ _
          rw [pA_succ, ← hAM.2] at hr'
          exact hr8 r hr'
        · rintro jj g8 hjj ⟨row8, p8, e9, hf8, hM8, h155b, hr8⟩ ih2 v13 v14 v15 v16
          have e10 := rL_s e9
          have bad8 : ∀ x', stp F L (o, bits, sh, fac) esc nn k a jj row8 p8 = .inl x' → Q = .inl x' := fun x' z => bad' x' (rL_err (e10.trans z) hjj)
          unfold stp at e10 bad8
          dsimp only at e10 bad8
          refine ra_iload A d_Mo_predicted_229 rfl <| ra_iload A d_Mo_predicted_231 rfl <| ra_iconst A 1 d_Mo_predicted_233 (by decide) <| ra_iadd A d_Mo_predicted_234 <| ?_
          rw [nI_1]
          refine ra_iload A d_Mo_predicted_235 rfl <| ra_iload A d_Mo_predicted_237 rfl <| ra_ishr A d_Mo_predicted_239 <| ?_
          rw [shn]
          refine ra_imul A d_Mo_predicted_240 <| ?_
          rw [pk_mul, ← hAM.2]
          refine ra_icmp_ge (q := 348) A d_Mo_predicted_241 (by decide) (fun cc => absurd cc (nI_ge (by omega) (by omega))) (fun _ => ?_)
          refine ra_aload_n A d_Mo_predicted_244 rfl <| ra_getI A f_Mo_386 d_Mo_predicted_245 (Nat.le_of_ble_eq_true rfl) rfl rfl <| ?_
          refine ra_if_ne (q := 348) A d_Mo_predicted_248 (by decide) (fun cc => absurd (hM8.2.2.1.2) cc) (fun _ => ?_)
          refine ra_iload A d_Mo_predicted_251 rfl <| ?_
          have hl24 : 2 ^ (bits - 1) ≤ 2 ^ 24 := Nat.pow_le_pow_right (n := 2) (by decide) (by omega)
          have lsh : (1 : Int64) <<< ((nI (bits - 1)).toInt64 &&& 63) = lN (2 ^ (bits - 1)) := by rw [show (1 : Int64) = lN 1 from rfl, wb_shl 1 (by omega), Nat.one_mul]
          -- behind the rest
          have at272 : ∀ (r : Int64) g9 p9 x', MP j h g9 → MR g9 F L x' p9 → g9.1 154 = g8.1 154 → g9.1 155 = g8.1 155 → (x' = 0 → rR F L esc nn k p8 = .inr (r, p9)) → (x' ≠ 0 → Q = .inl x') → xg x (y0 u) 0 0 272 [some (.ref 141), some (.int (nI j)), some (.int (nI t)), some (.int (nI o)), some (.int (nI bits)), some (.int (nI n)), some (.int (nI sh)), some (.int (nI way)), some (.int (nI q)), some (.int (nI pt)), some (.int (nI k)), some (.int z11), some (.int (nI (a + jj))), v13, v14, v15, v16] [.long r] g9 := by
            intro r g9 p9 x' hf9 hM9 k154' k155' hal hde
            refine ra_lstore (L' := [_, _, _, _, _, _, _, _, _, _, _, _, _, _, _, _, _]) A d_Mo_predicted_272 (by decide) rfl <| ra_aload_n A d_Mo_predicted_274 rfl <| ra_iload_n A d_Mo_predicted_275 rfl <| ra_iload_n A d_Mo_predicted_276 rfl <| ra_iload_n A d_Mo_predicted_277 rfl <| ra_iload A d_Mo_predicted_278 rfl <| ra_iload A d_Mo_predicted_280 rfl <| ?_
            refine ra_callV (As := [_, _, _, _, _]) A ok_Mo_guess l_Mo_453 im_Mo_guess sl_Mo_guess d_Mo_predicted_282 (Nat.le_of_ble_eq_true rfl) rfl rfl rfl (Nat.le_of_ble_eq_true rfl) (xr_of at0 (by decide)) (s_Mo_guess K (fac := fac) (row := row8) hj ht ho (by omega) (by omega) (fun r hr' => by rw [k154']; exact hr8 r hr') (fun h32 k hk => by rw [k155', h155b]; exact hfac h32 k hk) hfix ?_)
            show xg x (y0 u) 0 0 285 _ _ g9
            generalize hV : prd fac row8 (a + jj) o >>> ((nI sh).toInt64 &&& 63) = V at e10 bad8 ⊢
            refine ra_lload A d_Mo_predicted_285 rfl <| ra_ladd A d_Mo_predicted_287 <| ra_lstore (L' := [_, _, _, _, _, _, _, _, _, _, _, _, _, _, _, _, _]) A d_Mo_predicted_288 (by decide) rfl <| ra_aload_n A d_Mo_predicted_290 rfl <| ra_lload A d_Mo_predicted_291 rfl <| ra_lconst A 1 d_Mo_predicted_293 (by decide) <| ra_iload A d_Mo_predicted_294 rfl <| ra_iconst A 1 d_Mo_predicted_296 (by decide) <| ra_isub A d_Mo_predicted_297 <| ?_
            rw [show nI bits - 1 = nI (bits - 1) from pk_sub (b := 1) hb1]
            refine ra_lshl A d_Mo_predicted_298 <| ?_
            rw [lsh]
            refine ra_lneg A d_Mo_predicted_299 <| ra_lcmp A d_Mo_predicted_300 <| ?_
            have at321 : ∀ b : Bool, b = inR bits (V + r) → ∀ v13 v14, xg x (y0 u) 0 0 321 [some (.ref 141), some (.int (nI j)), some (.int (nI t)), some (.int (nI o)), some (.int (nI bits)), some (.int (nI n)), some (.int (nI sh)), some (.int (nI way)), some (.int (nI q)), some (.int (nI pt)), some (.int (nI k)), some (.int z11), some (.int (nI (a + jj))), v13, v14, some (.long (V + r)), none] [.int (bz b), .ref 141] g9 := by
              intro b hb' v13 v14
              have idx : (1200 : Int32) * nI j + nI (a + jj) = nI (1200 * j + (a + jj)) := by rw [show (1200 : Int32) * nI j = nI (1200 * j) from pk_mul 1200 j, nI_add]
              have put : ∀ g10 x10, MP j h g10 → MR g10 F L x10 p9 → g10.1 154 = g8.1 154 → g10.1 155 = g8.1 155 → (x10 = 0 → b = true ∧ x' = 0) → (x10 ≠ 0 → Q = .inl x10) → xg x (y0 u) 0 0 326 [some (.ref 141), some (.int (nI j)), some (.int (nI t)), some (.int (nI o)), some (.int (nI bits)), some (.int (nI n)), some (.int (nI sh)), some (.int (nI way)), some (.int (nI q)), some (.int (nI pt)), some (.int (nI k)), some (.int z11), some (.int (nI (a + jj))), v13, v14, some (.long (V + r)), none] [] g10 := by
                intro g10 x10 hf10 hM10 l154 l155 hal10 hde10
                refine ra_aload_n A d_Mo_predicted_326 rfl <| ra_getR A f_Mo_191 d_Mo_predicted_327 (Nat.le_of_ble_eq_true rfl) rfl rfl rfl <| ra_sipush A 1200 d_Mo_predicted_330 (by decide) <| ra_iload_n A d_Mo_predicted_333 rfl <| ra_imul A d_Mo_predicted_334 <| ?_
                rw [show (1200 : Int32) * nI j = nI (1200 * j) from pk_mul 1200 j]
                refine ra_iload A d_Mo_predicted_335 rfl <| ra_iadd A d_Mo_predicted_337 <| ?_
                rw [nI_add]
                refine ra_lload A d_Mo_predicted_338 rfl <| ra_l2i A d_Mo_predicted_340 <| ?_
                refine ra_iastore A d_Mo_predicted_341 (Nat.le_of_ble_eq_true rfl) rfl (vp_in_nI (by omega) (by decide)) ?_
                rw [nI_clamp (by omega)]
                refine ra_iinc (L' := [_, _, _, _, _, _, _, _, _, _, _, _, _, _, _, _, _]) A 1 d_Mo_predicted_342 rfl (by decide) (by decide) rfl <| ra_goto (q := 229) A d_Mo_predicted_345 (by decide) <| ?_
                rw [nI_1]
                by_cases cx : x10 = 0
                · obtain ⟨hb1', hx0⟩ := hal10 cx
                  subst cx
                  rw [hal hx0, rb_r, ← hb', hb1', if_pos rfl] at e10
                  refine ih2 _ ⟨_, _, e10, hf10.trans (MP_I (by omega) (by omega)), MR_I hM10 (by decide) (by decide), by rw [xI_k (by decide), l155]; exact h155b, fun r' hr' => ?_⟩ _ _ _ _
                  by_cases c : r' = a + jj
                  · subst c; rw [xI_e, pk_us]
                  · rw [xI_j (by omega), l154, pk_un c]
                    exact hr8 r' (by omega)
                · exact dead229 x10 p9 _ pt _ _ _ _ _ _ _ (hde10 cx) (hf10.trans (MP_I (by omega) (by omega))) (MR_I hM10 (by decide) (by decide)) cx
              refine ra_bipush A 11 d_Mo_predicted_321 (by decide) <| ?_
              by_cases cx : x' = 0
              · have hM9' := hM9
                rw [cx] at hM9'
                refine ra_callV (As := [_, _]) A ok_Mo_want l_Mo_409 im_Mo_want sl_Mo_want d_Mo_predicted_323 (Nat.le_of_ble_eq_true rfl) rfl rfl rfl (Nat.le_of_ble_eq_true rfl) (xr_of at0 (by decide)) (s_Mo_want K (b := b) hM9'.2.2.1.2 (fun q => ?_) (fun q => ?_))
                · show xg x (y0 u) 0 0 326 _ _ g9
                  exact put g9 0 hf9 hM9' k154' k155' (fun _ => ⟨q, cx⟩) (fun z => absurd rfl z)
                · show xg x (y0 u) 0 0 326 _ _ _
                  refine put _ 11 (hf9.trans MP_F) (MR_F (x := 11) hM9' (by decide)) (by rw [xI_k (by decide)]; exact k154') (by rw [xI_k (by decide)]; exact k155') (fun z => by cases z) (fun _ => bad8 11 ?_)
                  rw [hal cx, rb_r, ← hb', q, if_neg (by decide)]
              · refine ra_callV (As := [_, _]) A ok_Mo_want l_Mo_409 im_Mo_want sl_Mo_want d_Mo_predicted_323 (Nat.le_of_ble_eq_true rfl) rfl rfl rfl (Nat.le_of_ble_eq_true rfl) (xr_of at0 (by decide)) (s_Mo_wantF K (ne hM9 cx) ?_)
                show xg x (y0 u) 0 0 326 _ _ g9
                exact put g9 x' hf9 hM9 k154' k155' (fun z => absurd z cx) hde
            by_cases d1 : -(lN (2 ^ (bits - 1))) ≤ V + r
            · refine ra_if_lt (q := 320) A d_Mo_predicted_301 (by decide) (fun cc => absurd cc (fun z => absurd (lc_lt.mp z) (Int64.not_lt.mpr d1))) (fun _ => ?_)
              refine ra_lload A d_Mo_predicted_304 rfl <| ra_lconst A 1 d_Mo_predicted_306 (by decide) <| ra_iload A d_Mo_predicted_307 rfl <| ra_iconst A 1 d_Mo_predicted_309 (by decide) <| ra_isub A d_Mo_predicted_310 <| ?_
              rw [show nI bits - 1 = nI (bits - 1) from pk_sub (b := 1) hb1]
              refine ra_lshl A d_Mo_predicted_311 <| ?_
              rw [lsh]
              refine ra_lcmp A d_Mo_predicted_312 <| ?_
              by_cases d2 : V + r < lN (2 ^ (bits - 1))
              · refine ra_if_ge (q := 320) A d_Mo_predicted_313 (by decide) (fun cc => absurd cc (fun z => absurd (lc_ge.mp z) (Int64.not_le.mpr d2))) (fun _ => ?_)
                refine ra_iconst A 1 d_Mo_predicted_316 (by decide) <| ra_goto (q := 321) A d_Mo_predicted_317 (by decide) <| ?_
                exact at321 true (by unfold inR; rw [decide_eq_true d1, decide_eq_true d2]; rfl) _ _
              · refine ra_if_ge (q := 320) A d_Mo_predicted_313 (by decide) (fun _ => ?_) (fun cc => absurd (lc_ge.mpr (Int64.not_lt.mp d2)) cc)
                refine ra_iconst A 0 d_Mo_predicted_320 (by decide) <| ?_
                exact at321 false (by unfold inR; rw [decide_eq_false d2, Bool.and_false]) _ _
            · refine ra_if_lt (q := 320) A d_Mo_predicted_301 (by decide) (fun _ => ?_) (fun cc => absurd (lc_lt.mpr (Int64.not_le.mp d1)) cc)
              refine ra_iconst A 0 d_Mo_predicted_320 (by decide) <| ?_
              exact at321 false (by unfold inR; rw [decide_eq_false d1, Bool.false_and]) _ _
          cases esc
          · obtain ⟨q1, q2, q3⟩ := hz2 rfl
            subst q1 q3
            refine ra_if_lt (q := 266) A d_Mo_predicted_253 (by decide) (fun _ => ?_) (fun cc => absurd ((by decide)) cc)
            refine ra_aload_n A d_Mo_predicted_266 rfl <| ra_iload A d_Mo_predicted_267 rfl <| ?_
            refine ra_callV (As := [_]) A ok_Mo_nextFolded l_Mo_450 im_Mo_nextFolded sl_Mo_nextFolded d_Mo_predicted_269 (Nat.le_of_ble_eq_true rfl) rfl rfl rfl (Nat.le_of_ble_eq_true rfl) (xr_of at0 (by decide)) (s_Mo_nextFolded K hM8 q2 rfl (fun r p9 g9 e11 f9 M9 => ?_) (fun x' r p9 g9 e11 f9 M9 hx => ?_))
            · show xg x (y0 u) 0 0 272 _ _ g9
              exact at272 r g9 p9 0 (hf8.trans (f9.mp (j := j))) M9 (fmk f9 (by decide) (by decide)) (fmk f9 (by decide) (by decide)) (fun _ => e11) (fun z => absurd rfl z)
            · show xg x (y0 u) 0 0 272 _ _ g9
              exact at272 r g9 p9 x' (hf8.trans (f9.mp (j := j))) M9 (fmk f9 (by decide) (by decide)) (fmk f9 (by decide) (by decide)) (fun z => absurd z hx) (fun _ => bad8 x' (by rw [e11, rb_l]))
          · obtain ⟨q1, q2⟩ := hz1 rfl
            subst q1
            refine ra_if_lt (q := 266) A d_Mo_predicted_253 (by decide) (fun cc => absurd cc (nI_pos (by omega))) (fun _ => ?_)
            refine ra_aload_n A d_Mo_predicted_256 rfl <| ra_iload A d_Mo_predicted_257 rfl <| ?_
            refine ra_callV (As := [_]) A ok_Mo_nextSigned l_Mo_443 im_Mo_nextSigned sl_Mo_nextSigned d_Mo_predicted_259 (Nat.le_of_ble_eq_true rfl) rfl rfl rfl (Nat.le_of_ble_eq_true rfl) (xr_of at0 (by decide)) (s_Mo_nextSigned K (n := nn) hM8 (by omega) rfl (fun r p9 g9 e11 f9 M9 => ?_) (fun x' g9 e11 f9 M9 hx => ?_))
            · show xg x (y0 u) 0 0 262 _ _ g9
              refine ra_i2l A d_Mo_predicted_262 <| ra_goto (q := 272) A d_Mo_predicted_263 (by decide) <| ?_
              exact at272 _ g9 p9 0 (hf8.trans (f9.mp (j := j))) M9 (fmk f9 (by decide) (by decide)) (fmk f9 (by decide) (by decide)) (fun _ => by unfold rR; rw [if_pos rfl, e11, rb_r]) (fun z => absurd rfl z)
            · show xg x (y0 u) 0 0 262 _ _ g9
              refine ra_i2l A d_Mo_predicted_262 <| ra_goto (q := 272) A d_Mo_predicted_263 (by decide) <| ?_
              exact at272 _ g9 p8 x' (hf8.trans (f9.mp (j := j))) M9 (fmk f9 (by decide) (by decide)) (fmk f9 (by decide) (by decide)) (fun z => absurd z hx) (fun _ => bad8 x' (by unfold rR; rw [if_pos rfl, e11, rb_l, rb_l]))
      have k6 : g6.1 154 = g'.1 154 := fmk f6 (by decide) (by decide)
      have k65 : g6.1 155 = g.1 155 := (fmk f6 (by decide) (by decide)).trans h155
      have at202 : ∀ c15 : Nat, c15 = 2 ^ (4 + way) - 1 → xg x (y0 u) 0 0 202 [some (.ref 141), some (.int (nI j)), some (.int (nI t)), some (.int (nI o)), some (.int (nI bits)), some (.int (nI n)), some (.int (nI sh)), some (.int (nI way)), some (.int (nI q)), some (.int (nI pt)), some (.int (nI k)), v11, v12, v13, v14, v15, v16] [.int (nI c15), .int (nI k)] g6 := by
        intro c15 hc15
        rw [← hc15] at e6 bad
        have hc31 : c15 ≤ 31 := by omega
        by_cases ck : k = c15
        · rw [if_pos ck] at e6 bad
          refine ra_icmp_ne (q := 214) A d_Mo_predicted_202 (by decide) (fun cc => absurd ((by rw [ck])) cc) (fun _ => ?_)
          refine ra_aload_n A d_Mo_predicted_205 rfl <| ra_iconst A 5 d_Mo_predicted_206 (by decide) <| ?_
          refine ra_callV (As := [_]) A ok_Mo_next l_Mo_394 im_Mo_next sl_Mo_next d_Mo_predicted_207 (Nat.le_of_ble_eq_true rfl) rfl rfl rfl (Nat.le_of_ble_eq_true rfl) (xr_of at0 (by decide)) (s_Mo_next K (n := 5) M6 (by decide) rfl (fun nn p7 g7 e8' f7 M7 hnn => ?_) (fun x' g7 e8' f7 M7 hx => ?_))
          · show xg x (y0 u) 0 0 210 _ _ g7
            rw [e8'] at e6 bad
            simp only [rb_r] at e6 bad
            refine ra_l2i A d_Mo_predicted_210 <| ?_
            rw [lN_i]
            refine ra_goto (q := 215) A d_Mo_predicted_211 (by decide) <| ?_
            exact at215 true nn (nI nn) p7 g7 _ _ (fun _ => ⟨rfl, by omega⟩) (fun z => by cases z) (hf6.trans (f7.mp (j := j))) M7 ((fmk f7 (by decide) (by decide)).trans k65) ((fmk f7 (by decide) (by decide)).trans k6) e6 bad
          · show xg x (y0 u) 0 0 210 _ _ g7
            refine ra_l2i A d_Mo_predicted_210 <| ra_goto (q := 215) A d_Mo_predicted_211 (by decide) <| ?_
            exact dead215 x' p6 g7 pt _ _ _ _ _ _ _ _ (by omega) (bad x' (by rw [e8', rb_l])) (hf6.trans (f7.mp (j := j))) M7 hx
        · rw [if_neg ck] at e6 bad
          refine ra_icmp_ne (q := 214) A d_Mo_predicted_202 (by decide) (fun _ => ?_) (fun cc => absurd cc (fun z => ck ((nI_eq (by omega) (by omega)).mp z)))
          refine ra_iconst A (-1) d_Mo_predicted_214 (by decide) <| ?_
          exact at215 false 0 (-1) p6 g6 _ _ (fun z => by cases z) (fun _ => ⟨rfl, by omega, rfl⟩) hf6 M6 k65 k6 e6 bad
      have hway2 : way = 0 ∨ way = 1 := by omega
      rcases hway2 with rfl | rfl
      · refine ra_if_ne (q := 200) A d_Mo_predicted_192 (by decide) (fun cc => absurd (rfl) cc) (fun _ => ?_)
        refine ra_bipush A 15 d_Mo_predicted_195 (by decide) <| ra_goto (q := 202) A d_Mo_predicted_197 (by decide) <| ?_
        exact at202 15 (by decide)
      · refine ra_if_ne (q := 200) A d_Mo_predicted_192 (by decide) (fun _ => ?_) (fun cc => absurd cc ((by decide)))
        refine ra_bipush A 31 d_Mo_predicted_200 (by decide) <| ?_
        exact at202 31 (by decide)
  -- the beginning
  refine ra_iconst A 0 d_Mo_predicted_0 (by decide) <| ra_istore (L' := [_, _, _, _, _, _, _, _, _, _, _, _, _, _, _, _, _]) A d_Mo_predicted_1 (by decide) rfl <| ra_iload_n A d_Mo_predicted_3 rfl <| ra_bipush A 31 d_Mo_predicted_4 (by decide) <| ?_
  by_cases c32 : ¬ 32 ≤ t
  · rw [if_neg c32, rb_r] at hq
    refine ra_icmp_le (q := 95) A d_Mo_predicted_6 (by decide) (fun _ => ?_) (fun cc => absurd (nI_le (b := 31) (by omega) (by decide)) cc)
    exact at95 0 (fxf o) p h _ _ (by decide) MP.rfl M (fun z => absurd z c32) (fun _ => ⟨ho4 c32, rfl, fun _ _ => rfl⟩) hrow hq
  have c32 := Decidable.not_not.mp c32
  rw [if_pos c32] at hq
  have dead60 : ∀ e p' g (z6 z7 : Int32), Q = .inl e → MP j h g → MR g F L e p' → e ≠ 0 → xg x (y0 u) 0 0 60 [some (.ref 141), some (.int (nI j)), some (.int (nI t)), some (.int (nI o)), some (.int (nI bits)), some (.int (nI n)), some (.int z6), some (.int z7), none, none, none, none, none, none, none, none, none] [] g := by
    intro e p' g z6 z7 hQ hf hM he
    refine ra_iconst A 0 d_Mo_predicted_60 (by decide) <| ra_istore (L' := [_, _, _, _, _, _, _, _, _, _, _, _, _, _, _, _, _]) A d_Mo_predicted_61 (by decide) rfl <| ra_iload A d_Mo_predicted_63 rfl <| ra_iload_n A d_Mo_predicted_65 rfl <| ?_
    refine ra_icmp_ge (q := 95) A d_Mo_predicted_66 (by decide) (fun c => ?_) (fun c => ?_)
    · exact dead95 e p' g _ _ _ hQ hf hM he
    · refine ra_aload_n A d_Mo_predicted_69 rfl <| ra_getI A f_Mo_386 d_Mo_predicted_70 (Nat.le_of_ble_eq_true rfl) rfl rfl <| ?_
      refine ra_if_ne (q := 95) A d_Mo_predicted_73 (by decide) (fun _ => ?_) (fun cc => absurd cc (ne hM he))
      exact dead95 e p' g _ _ _ hQ hf hM he
  have dead37 : ∀ e p' g (z6 z7 : Int32), Q = .inl e → MP j h g → MR g F L e p' → e ≠ 0 → xg x (y0 u) 0 0 37 [some (.ref 141), some (.int (nI j)), some (.int (nI t)), some (.int (nI o)), some (.int (nI bits)), some (.int (nI n)), some (.int z6), some (.int z7), none, none, none, none, none, none, none, none, none] [] g := by
    intro e p' g z6 z7 hQ hf hM he
    refine ra_aload_n A d_Mo_predicted_37 rfl <| ra_iconst A 5 d_Mo_predicted_38 (by decide) <| ?_
    refine ra_callV (As := [_]) A ok_Mo_nextSigned l_Mo_443 im_Mo_nextSigned sl_Mo_nextSigned d_Mo_predicted_39 (Nat.le_of_ble_eq_true rfl) rfl rfl rfl (Nat.le_of_ble_eq_true rfl) (xr_of at0 (by decide)) (s_Mo_nextSignedF K (n := 5) hM he (by decide) ?_)
    show xg x (y0 u) 0 0 42 _ _ g
    refine ra_istore (L' := [_, _, _, _, _, _, _, _, _, _, _, _, _, _, _, _, _]) A d_Mo_predicted_42 (by decide) rfl <| ra_aload_n A d_Mo_predicted_44 rfl <| ra_iload A d_Mo_predicted_45 rfl <| ?_
    refine ra_if_lt (q := 54) A d_Mo_predicted_47 (by decide) (fun cc => absurd cc ((by decide))) (fun _ => ?_)
    refine ra_iconst A 1 d_Mo_predicted_50 (by decide) <| ra_goto (q := 55) A d_Mo_predicted_51 (by decide) <| ra_bipush A 10 d_Mo_predicted_55 (by decide) <| ?_
    refine ra_callV (As := [_, _]) A ok_Mo_want l_Mo_409 im_Mo_want sl_Mo_want d_Mo_predicted_57 (Nat.le_of_ble_eq_true rfl) rfl rfl rfl (Nat.le_of_ble_eq_true rfl) (xr_of at0 (by decide)) (s_Mo_wantF K (ne hM he) ?_)
    show xg x (y0 u) 0 0 60 _ _ g
    exact dead60 e p' g _ _ hQ hf hM he
  refine ra_icmp_le (q := 95) A d_Mo_predicted_6 (by decide) (fun cc => absurd cc (fun z => absurd ((nI_leI (b := 31) (by omega) (by decide)).mp z) (by omega))) (fun _ => ?_)
  unfold rF at hq
  refine ra_aload_n A d_Mo_predicted_9 rfl <| ra_iconst A 4 d_Mo_predicted_10 (by decide) <| ?_
  refine ra_callV (As := [_]) A ok_Mo_next l_Mo_394 im_Mo_next sl_Mo_next d_Mo_predicted_11 (Nat.le_of_ble_eq_true rfl) rfl rfl rfl (Nat.le_of_ble_eq_true rfl) (xr_of at0 (by decide)) (s_Mo_next K (n := 4) M (by decide) rfl (fun v p1 g1 e1 f1 M1 hv => ?_) (fun e g1 e1 f1 M1 he => ?_))
  rotate_left
  · show xg x (y0 u) 0 0 14 _ _ g1
    rw [e1, rb_l, rb_l] at hq
    refine ra_l2i A d_Mo_predicted_14 <| ?_
    rw [lN_i]
    refine ra_iconst A 1 d_Mo_predicted_15 (by decide) <| ra_iadd A d_Mo_predicted_16 <| ra_istore (L' := [_, _, _, _, _, _, _, _, _, _, _, _, _, _, _, _, _]) A d_Mo_predicted_17 (by decide) rfl <| ra_aload_n A d_Mo_predicted_19 rfl <| ra_iload A d_Mo_predicted_20 rfl <| ra_bipush A 16 d_Mo_predicted_22 (by decide) <| ?_
    refine ra_icmp_ge (q := 31) A d_Mo_predicted_24 (by decide) (fun cc => absurd cc ((by decide))) (fun _ => ?_)
    refine ra_iconst A 1 d_Mo_predicted_27 (by decide) <| ra_goto (q := 32) A d_Mo_predicted_28 (by decide) <| ra_bipush A 10 d_Mo_predicted_32 (by decide) <| ?_
    refine ra_callV (As := [_, _]) A ok_Mo_want l_Mo_409 im_Mo_want sl_Mo_want d_Mo_predicted_34 (Nat.le_of_ble_eq_true rfl) rfl rfl rfl (Nat.le_of_ble_eq_true rfl) (xr_of at0 (by decide)) (s_Mo_wantF K (ne M1 he) ?_)
    show xg x (y0 u) 0 0 37 _ _ g1
    exact dead37 e p g1 _ _ hq.symm (f1.mp (j := j)) M1 he
  show xg x (y0 u) 0 0 14 _ _ g1
  rw [e1, rb_r] at hq
  have hf1 : MP j h g1 := f1.mp (j := j)
  refine ra_l2i A d_Mo_predicted_14 <| ?_
  rw [lN_i]
  refine ra_iconst A 1 d_Mo_predicted_15 (by decide) <| ra_iadd A d_Mo_predicted_16 <| ?_
  rw [nI_1]
  refine ra_istore (L' := [_, _, _, _, _, _, _, _, _, _, _, _, _, _, _, _, _]) A d_Mo_predicted_17 (by decide) rfl <| ra_aload_n A d_Mo_predicted_19 rfl <| ra_iload A d_Mo_predicted_20 rfl <| ra_bipush A 16 d_Mo_predicted_22 (by decide) <| ?_
  by_cases c : ¬ v + 1 < 16
  · rw [if_neg c, rb_l] at hq
    refine ra_icmp_ge (q := 31) A d_Mo_predicted_24 (by decide) (fun _ => ?_) (fun cc => absurd (nI_le (a := 16) (by omega) (by omega)) cc)
    refine ra_iconst A 0 d_Mo_predicted_31 (by decide) <| ra_bipush A 10 d_Mo_predicted_32 (by decide) <| ?_
    refine ra_callV (As := [_, _]) A ok_Mo_want l_Mo_409 im_Mo_want sl_Mo_want d_Mo_predicted_34 (Nat.le_of_ble_eq_true rfl) rfl rfl rfl (Nat.le_of_ble_eq_true rfl) (xr_of at0 (by decide)) (s_Mo_want K (b := false) M1.2.2.1.2 (fun q => by cases q) (fun _ => ?_))
    show xg x (y0 u) 0 0 37 _ _ _
    exact dead37 10 p1 _ _ _ hq.symm (hf1.trans MP_F) (MR_F (x := 10) M1 (by decide)) (by decide)
  have c := Decidable.not_not.mp c
  rw [if_pos c] at hq
  refine ra_icmp_ge (q := 31) A d_Mo_predicted_24 (by decide) (fun cc => absurd cc (nI_ge (b := 16) c (by decide))) (fun _ => ?_)
  refine ra_iconst A 1 d_Mo_predicted_27 (by decide) <| ra_goto (q := 32) A d_Mo_predicted_28 (by decide) <| ra_bipush A 10 d_Mo_predicted_32 (by decide) <| ?_
  refine ra_callV (As := [_, _]) A ok_Mo_want l_Mo_409 im_Mo_want sl_Mo_want d_Mo_predicted_34 (Nat.le_of_ble_eq_true rfl) rfl rfl rfl (Nat.le_of_ble_eq_true rfl) (xr_of at0 (by decide)) (s_Mo_want K (b := true) M1.2.2.1.2 (fun _ => ?_) (fun q => by cases q))
  show xg x (y0 u) 0 0 37 _ _ g1
  refine ra_aload_n A d_Mo_predicted_37 rfl <| ra_iconst A 5 d_Mo_predicted_38 (by decide) <| ?_
  refine ra_callV (As := [_]) A ok_Mo_nextSigned l_Mo_443 im_Mo_nextSigned sl_Mo_nextSigned d_Mo_predicted_39 (Nat.le_of_ble_eq_true rfl) rfl rfl rfl (Nat.le_of_ble_eq_true rfl) (xr_of at0 (by decide)) (s_Mo_nextSigned K (n := 5) M1 (by decide) rfl (fun s p2 g2 e2 f2 M2 => ?_) (fun e g2 e2 f2 M2 he => ?_))
  rotate_left
  · show xg x (y0 u) 0 0 42 _ _ g2
    rw [e2, rb_l, rb_l] at hq
    refine ra_istore (L' := [_, _, _, _, _, _, _, _, _, _, _, _, _, _, _, _, _]) A d_Mo_predicted_42 (by decide) rfl <| ra_aload_n A d_Mo_predicted_44 rfl <| ra_iload A d_Mo_predicted_45 rfl <| ?_
    refine ra_if_lt (q := 54) A d_Mo_predicted_47 (by decide) (fun cc => absurd cc ((by decide))) (fun _ => ?_)
    refine ra_iconst A 1 d_Mo_predicted_50 (by decide) <| ra_goto (q := 55) A d_Mo_predicted_51 (by decide) <| ra_bipush A 10 d_Mo_predicted_55 (by decide) <| ?_
    refine ra_callV (As := [_, _]) A ok_Mo_want l_Mo_409 im_Mo_want sl_Mo_want d_Mo_predicted_57 (Nat.le_of_ble_eq_true rfl) rfl rfl rfl (Nat.le_of_ble_eq_true rfl) (xr_of at0 (by decide)) (s_Mo_wantF K (ne M2 he) ?_)
    show xg x (y0 u) 0 0 60 _ _ g2
    exact dead60 e p1 g2 _ _ hq.symm (hf1.trans (f2.mp (j := j))) M2 he
  show xg x (y0 u) 0 0 42 _ _ g2
  have hs5 := e2
  rw [e2, rb_r] at hq
  have hf2 := hf1.trans (f2.mp (j := j))
  refine ra_istore (L' := [_, _, _, _, _, _, _, _, _, _, _, _, _, _, _, _, _]) A d_Mo_predicted_42 (by decide) rfl <| ra_aload_n A d_Mo_predicted_44 rfl <| ra_iload A d_Mo_predicted_45 rfl <| ?_
  by_cases cs : ¬ (0 : Int32) ≤ s
  · rw [if_neg cs, rb_l] at hq
    refine ra_if_lt (q := 54) A d_Mo_predicted_47 (by decide) (fun _ => ?_) (fun cc => absurd (Int32.not_le.mp cs) cc)
    refine ra_iconst A 0 d_Mo_predicted_54 (by decide) <| ra_bipush A 10 d_Mo_predicted_55 (by decide) <| ?_
    refine ra_callV (As := [_, _]) A ok_Mo_want l_Mo_409 im_Mo_want sl_Mo_want d_Mo_predicted_57 (Nat.le_of_ble_eq_true rfl) rfl rfl rfl (Nat.le_of_ble_eq_true rfl) (xr_of at0 (by decide)) (s_Mo_want K (b := false) M2.2.2.1.2 (fun q => by cases q) (fun _ => ?_))
    show xg x (y0 u) 0 0 60 _ _ _
    exact dead60 10 p2 _ _ _ hq.symm (hf2.trans MP_F) (MR_F (x := 10) M2 (by decide)) (by decide)
  have cs := Decidable.not_not.mp cs
  rw [if_pos cs] at hq
  have hs16 := sx5 hs5 cs
  refine ra_if_lt (q := 54) A d_Mo_predicted_47 (by decide) (fun cc => absurd cc (Int32.not_lt.mpr cs)) (fun _ => ?_)
  refine ra_iconst A 1 d_Mo_predicted_50 (by decide) <| ra_goto (q := 55) A d_Mo_predicted_51 (by decide) <| ra_bipush A 10 d_Mo_predicted_55 (by decide) <| ?_
  refine ra_callV (As := [_, _]) A ok_Mo_want l_Mo_409 im_Mo_want sl_Mo_want d_Mo_predicted_57 (Nat.le_of_ble_eq_true rfl) rfl rfl rfl (Nat.le_of_ble_eq_true rfl) (xr_of at0 (by decide)) (s_Mo_want K (b := true) M2.2.2.1.2 (fun _ => ?_) (fun q => by cases q))
  show xg x (y0 u) 0 0 60 _ _ g2
  have k154 : g2.1 154 = h.1 154 := (fmk f2 (by decide) (by decide)).trans (fmk f1 (by decide) (by decide))
  generalize hst : (fun (j : Nat) (f : Nat → Int32) (p : Nat) => rb (rS F L (v + 1) p) fun c p' => (Sum.inr (upd f j c, p') : Rr (Nat → Int32))) = step at hq
  generalize hsn : s.toNatClampNeg = sn at hs16 hq
  rw [hs16.1]
  refine ra_iconst A 0 d_Mo_predicted_60 (by decide) <| ra_istore (L' := [_, _, _, _, _, _, _, _, _, _, _, _, _, _, _, _, _]) A d_Mo_predicted_61 (by decide) rfl <| ?_
  refine lp_up (σ := xw_H) (W := fun i g => xg x (y0 u) 0 0 63 [some (.ref 141), some (.int (nI j)), some (.int (nI t)), some (.int (nI o)), some (.int (nI bits)), some (.int (nI n)), some (.int (nI sn)), some (.int (nI (v + 1))), some (.int (nI i)), none, none, none, none, none, none, none, none] [] g) (I := fun i g => ∃ fac p', rL step (fun _ => 0) p2 i = .inr (fac, p') ∧ MP j h g ∧ MR g F L 0 p' ∧ g.1 154 = h.1 154 ∧ ∀ r, r < i → g.1 155 r = fac r) o ?_ ?_ 0 g2 (Nat.zero_le _) ⟨_, _, rfl, hf2, M2, k154, fun r hr => by omega⟩
  · rintro g ⟨fac, p', e, hf, hM, h154, hr⟩
    refine ra_iload A d_Mo_predicted_63 rfl <| ra_iload_n A d_Mo_predicted_65 rfl <| ?_
    refine ra_icmp_ge (q := 95) A d_Mo_predicted_66 (by decide) (fun _ => ?_) (fun cc => absurd (Int32.le_refl _) cc)
    rw [e, rb_r, rb_r] at hq
    exact at95 sn fac p' g _ _ hs16.2 hf hM (fun _ => hr) (fun z => absurd c32 z) (fun r hr => by rw [h154]; exact hrow r hr) hq
  · rintro i g hi ⟨fac, p', e, hf, hM, h154, hr⟩ ih
    have e3 := rL_s e
    rw [show step i fac p' = rb (rS F L (v + 1) p') fun c p' => (Sum.inr (upd fac i c, p') : Rr (Nat → Int32)) by rw [← hst]] at e3
    refine ra_iload A d_Mo_predicted_63 rfl <| ra_iload_n A d_Mo_predicted_65 rfl <| ?_
    refine ra_icmp_ge (q := 95) A d_Mo_predicted_66 (by decide) (fun cc => absurd cc (nI_ge hi (by omega))) (fun _ => ?_)
    refine ra_aload_n A d_Mo_predicted_69 rfl <| ra_getI A f_Mo_386 d_Mo_predicted_70 (Nat.le_of_ble_eq_true rfl) rfl rfl <| ?_
    refine ra_if_ne (q := 95) A d_Mo_predicted_73 (by decide) (fun cc => absurd (hM.2.2.1.2) cc) (fun _ => ?_)
    refine ra_aload_n A d_Mo_predicted_76 rfl <| ra_getR A f_Mo_194 d_Mo_predicted_77 (Nat.le_of_ble_eq_true rfl) rfl rfl rfl <| ra_iload A d_Mo_predicted_80 rfl <| ra_aload_n A d_Mo_predicted_82 rfl <| ra_iload A d_Mo_predicted_83 rfl <| ?_
    refine ra_callV (As := [_]) A ok_Mo_nextSigned l_Mo_443 im_Mo_nextSigned sl_Mo_nextSigned d_Mo_predicted_85 (Nat.le_of_ble_eq_true rfl) rfl rfl rfl (Nat.le_of_ble_eq_true rfl) (xr_of at0 (by decide)) (s_Mo_nextSigned K (n := v + 1) hM (by omega) rfl (fun c3 p3 g3 e4 f3 M3 => ?_) (fun e' g3 e4 f3 M3 he => ?_))
    · show xg x (y0 u) 0 0 88 _ _ g3
      rw [e4, rb_r] at e3
      refine ra_iastore A d_Mo_predicted_88 (Nat.le_of_ble_eq_true rfl) rfl (vp_in_nI (by omega) (by decide)) ?_
      rw [nI_clamp (by omega)]
      refine ra_iinc (L' := [_, _, _, _, _, _, _, _, _, _, _, _, _, _, _, _, _]) A 1 d_Mo_predicted_89 rfl (by decide) (by decide) rfl <| ra_goto (q := 63) A d_Mo_predicted_92 (by decide) <| ?_
      rw [nI_1]
      refine ih _ ⟨_, _, e3, (hf.trans (f3.mp (j := j))).trans MP_f, MR_I M3 (by decide) (by decide), by rw [xI_k (by decide), fmk f3 (by decide) (by decide)]; exact h154, fun r hr' => ?_⟩
      by_cases cr : r = i
      · subst cr; rw [xI_e, pk_us]
      · rw [xI_j cr, fmk f3 (by decide) (by decide), pk_un cr]
        exact hr r (by omega)
    · show xg x (y0 u) 0 0 88 _ _ g3
      refine ra_iastore A d_Mo_predicted_88 (Nat.le_of_ble_eq_true rfl) rfl (vp_in_nI (by omega) (by decide)) ?_
      rw [nI_clamp (by omega)]
      have hQ : Q = .inl e' := by rw [← hq, rL_err (e3.trans (by rw [e4, rb_l])) hi, rb_l, rb_l]
      refine ra_iinc (L' := [_, _, _, _, _, _, _, _, _, _, _, _, _, _, _, _, _]) A 1 d_Mo_predicted_89 rfl (by decide) (by decide) rfl <| ra_goto (q := 63) A d_Mo_predicted_92 (by decide) <| ra_iload A d_Mo_predicted_63 rfl <| ra_iload_n A d_Mo_predicted_65 rfl <| ?_
      have hf' : MP j h (xw_I g3 155 i 0) := (hf.trans (f3.mp (j := j))).trans MP_f
      have hM' := MR_I (k := 155) (i := i) (v := 0) M3 (by decide) (by decide)
      refine ra_icmp_ge (q := 95) A d_Mo_predicted_66 (by decide) (fun c => ?_) (fun c => ?_)
      · exact dead95 e' p' _ _ _ _ hQ hf' hM' he
      · refine ra_aload_n A d_Mo_predicted_69 rfl <| ra_getI A f_Mo_386 d_Mo_predicted_70 (Nat.le_of_ble_eq_true rfl) rfl rfl <| ?_
        refine ra_if_ne (q := 95) A d_Mo_predicted_73 (by decide) (fun _ => ?_) (fun cc => absurd cc (ne hM' he))
        exact dead95 e' p' _ _ _ _ hQ hf' hM' he
end S9c
