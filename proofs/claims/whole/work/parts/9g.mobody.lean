/-! SoundStreamModel: body -/
/-- what a frame's body changes -/
abbrev BF (h h' : xw_H) : Prop := fm [153, 154, 155] [22, 33, 34, 35] true h h'
def IM (h : xw_H) (F : Nat → Bool) : Prop := (h.1 141 25 = nI (iLe F) ∧ h.1 141 26 = nI (iGr F)) ∧ h.1 141 28 = nI (iCh F) ∧ h.1 141 29 = nI (iDp F) ∧ h.1 141 30 = nI (iKn F)
theorem IM.fm {h h' : xw_H} {F : Nat → Bool} {C T : List Nat} {b : Bool} (x : IM h F) (f : fm C T b h h') (h1 : 25 ∉ T) (h2 : 26 ∉ T) (h3 : 28 ∉ T) (h4 : 29 ∉ T) (h5 : 30 ∉ T) : IM h' F :=
  ⟨⟨by rw [f.2.1 25 h1]; exact x.1.1, by rw [f.2.1 26 h2]; exact x.1.2⟩, by rw [f.2.1 28 h3]; exact x.2.1, by rw [f.2.1 29 h4]; exact x.2.2.1, by rw [f.2.1 30 h5]; exact x.2.2.2⟩
theorem MP.bf {j : Nat} {h h' : xw_H} (x : MP j h h') : BF h h' := x.1.mono (by decide) (by decide) (fun q => q)
theorem MM.bf {h h' : xw_H} (x : MM h h') : BF h h' := x.mono (by decide) (by decide) (fun q => q)
/-- behind the subframes of a frame that begins at p0 -/
def rEnd {α : Type} (F : Nat → Bool) (L p0 : Nat) (rr : α) (p4 : Nat) : Rr α :=
  rb (rB F L ((8 - p4 % 8) % 8) p4) fun z p5 => if z = 0 then
      rb (rB F L 16 p5) fun v p6 => if v = crI 16 32773 F p0 (p5 - p0) 0 then .inr (rr, p6) else .inl 12
    else .inl 12
def rTl (F : Nat → Bool) (L c n p0 p : Nat) : Rr ((Nat → Int32) × (Nat → Int32)) := rb (rBd F L c n p) fun rr p4 => rEnd F L p0 rr p4
theorem bv_0 {F : Nat → Bool} {p i k : Nat} (hi : i ≤ k) (h : bv F p k = 0) : bv F p i = 0 := by
  obtain ⟨d, rfl⟩ : ∃ d, k = i + d := ⟨k - i, by omega⟩
  rw [bv_add] at h
  have h1 : bv F p i * 2 ^ d = 0 := by omega
  rcases Nat.mul_eq_zero.mp h1 with h2 | h2
  · exact h2
  · have := Nat.two_pow_pos d; omega
theorem lN_eq0 {a : Nat} (h : a < 2 ^ 63) (e : lN a = 0) : a = 0 := by
  have e2 := congrArg Int64.toInt e
  rw [pf_lI h] at e2
  have : (a : Int) = 0 := e2
  omega
section S9g
variable {u : xu_T} {l : Launch} {KK : State → Prop} {h : xw_H} {X : xc_R → xw_H → Nat → Nat → Prop}
theorem s_Mo_bodyF (K : xk_ok u KK) {F : Nat → Bool} {L e p : Nat} {c n : Int32} (M : MR h F L e p) (he : e ≠ 0) (hX : X (.inl none) h 0 0) : xm_M l (y0 u) KK m_Mo_body [.ref 141, .int c, .int n] h X := by
  refine xm_of [none, none] (by simp) (Nat.le_of_ble_eq_true rfl) (by decide) (fun x at0 => ?_)
  have A := xa_of at0 K
  have ow := at0.2.2.2.2.1
  have ne : ¬ h.1 141 22 = 0 := by rw [M.2.2.1.2]; exact nI_ne0 (by omega) (by have := M.2.2.2.2.2; omega)
  have at153 : ∀ v3 v4, xg x (y0 u) 0 0 153 [some (.ref 141), some (.int c), some (.int n), v3, v4] [] h := by
    intro v3 v4
    refine ra_aload_n A d_Mo_body_153 rfl <| ra_getI A f_Mo_386 d_Mo_body_154 (Nat.le_of_ble_eq_true rfl) rfl rfl <| ?_
    refine ra_if_ne (q := 182) A d_Mo_body_157 (by decide) (fun _ => ?_) (fun cc => absurd cc (ne))
    refine ra_iconst A 0 d_Mo_body_182 (by decide) <| ra_istore_n (L' := [_, _, _, _, _]) A d_Mo_body_183 (by decide) rfl <| ra_aload_n A d_Mo_body_184 rfl <| ra_bipush A 16 d_Mo_body_185 (by decide) <| ?_
    refine ra_callV (As := [_]) A ok_Mo_next l_Mo_394 im_Mo_next sl_Mo_next d_Mo_body_187 (Nat.le_of_ble_eq_true rfl) rfl rfl rfl (Nat.le_of_ble_eq_true rfl) (xr_of at0 (by decide)) (s_Mo_nextF K M he ?_)
    show xg x (y0 u) 0 0 190 _ _ h
    refine ra_l2i A d_Mo_body_190 <| ra_istore (L' := [_, _, _, _, _]) A d_Mo_body_191 (by decide) rfl <| ra_aload_n A d_Mo_body_193 rfl <| ra_iload A d_Mo_body_194 rfl <| ra_iload_n A d_Mo_body_196 rfl <| ?_
    refine ra_icmp_ne (q := 204) A d_Mo_body_197 (by decide) (fun cc => absurd ((by decide)) cc) (fun _ => ?_)
    refine ra_iconst A 1 d_Mo_body_200 (by decide) <| ra_goto (q := 205) A d_Mo_body_201 (by decide) <| ra_bipush A 12 d_Mo_body_205 (by decide) <| ?_
    refine ra_callV (As := [_, _]) A ok_Mo_want l_Mo_409 im_Mo_want sl_Mo_want d_Mo_body_207 (Nat.le_of_ble_eq_true rfl) rfl rfl rfl (Nat.le_of_ble_eq_true rfl) (xr_of at0 (by decide)) (s_Mo_wantF K ne ?_)
    show xg x (y0 u) 0 0 210 _ _ h
    refine ra_aload_n A d_Mo_body_210 rfl <| ra_getI A f_Mo_386 d_Mo_body_211 (Nat.le_of_ble_eq_true rfl) rfl rfl <| ?_
    refine ra_if_ne (q := 242) A d_Mo_body_214 (by decide) (fun _ => ?_) (fun cc => absurd cc (ne))
    exact ra_vret A ow d_Mo_body_242 hX
  have at109 : ∀ v3 v4, xg x (y0 u) 0 0 109 [some (.ref 141), some (.int c), some (.int n), v3, v4] [] h := by
    intro v3 v4
    refine ra_aload_n A d_Mo_body_109 rfl <| ra_getJ A f_Mo_244 d_Mo_body_110 (Nat.le_of_ble_eq_true rfl) rfl rfl <| ra_ldc2 A k_Mo_222 d_Mo_body_113 <| ra_lrem A d_Mo_body_116 (by decide) <| ra_lconst A 0 d_Mo_body_117 (by decide) <| ra_lcmp A d_Mo_body_118 <| ?_
    refine ra_if_eq (q := 153) A d_Mo_body_119 (by decide) (fun z => ?_) (fun z => ?_)
    · exact at153 _ _
    · refine ra_aload_n A d_Mo_body_122 rfl <| ra_getI A f_Mo_386 d_Mo_body_123 (Nat.le_of_ble_eq_true rfl) rfl rfl <| ?_
      refine ra_if_ne (q := 153) A d_Mo_body_126 (by decide) (fun _ => ?_) (fun cc => absurd cc (ne))
      exact at153 _ _
  have at83 : ∀ v3 v4, xg x (y0 u) 0 0 83 [some (.ref 141), some (.int c), some (.int n), v3, v4] [] h := by
    intro v3 v4
    refine ra_iconst A 0 d_Mo_body_83 (by decide) <| ra_istore_n (L' := [_, _, _, _, _]) A d_Mo_body_84 (by decide) rfl <| ra_iload_n A d_Mo_body_85 rfl <| ra_iload_n A d_Mo_body_86 rfl <| ?_
    refine ra_icmp_ge (q := 109) A d_Mo_body_87 (by decide) (fun z => ?_) (fun z => ?_)
    · exact at109 _ _
    · refine ra_aload_n A d_Mo_body_90 rfl <| ra_getI A f_Mo_386 d_Mo_body_91 (Nat.le_of_ble_eq_true rfl) rfl rfl <| ?_
      refine ra_if_ne (q := 109) A d_Mo_body_94 (by decide) (fun _ => ?_) (fun cc => absurd cc (ne))
      exact at109 _ _
  refine ra_iconst A 0 d_Mo_body_0 (by decide) <| ra_istore_n (L' := [_, _, _, _, _]) A d_Mo_body_1 (by decide) rfl <| ra_iload_n A d_Mo_body_2 rfl <| ra_aload_n A d_Mo_body_3 rfl <| ra_getI A f_Mo_365 d_Mo_body_4 (Nat.le_of_ble_eq_true rfl) rfl rfl <| ?_
  refine ra_icmp_ge (q := 83) A d_Mo_body_7 (by decide) (fun z => ?_) (fun z => ?_)
  · exact at83 _ _
  · refine ra_aload_n A d_Mo_body_10 rfl <| ra_getI A f_Mo_386 d_Mo_body_11 (Nat.le_of_ble_eq_true rfl) rfl rfl <| ?_
    refine ra_if_ne (q := 83) A d_Mo_body_14 (by decide) (fun _ => ?_) (fun cc => absurd cc (ne))
    exact at83 _ _
theorem s_Mo_body (K : xk_ok u KK) {F : Nat → Bool} {L c n len frm p0 p : Nat} {Q : Rr ((Nat → Int32) × (Nat → Int32))} (M : MR h F L 0 p) (I : IM h F) (ok : iOk F) (es : h.1 141 24 = nI (p0 / 8)) (hp0 : p0 % 8 = 0) (hpp : p0 ≤ p) (e33 : h.1 141 33 = nI len) (e34 : h.1 141 34 = nI frm) (hsu : suC (iCh F) c = true) (hn1 : 1 ≤ n) (hn : len + n ≤ 1200) (hq : rTl F L c n p0 p = Q)
    (hX : ∀ rr p' h', Q = .inr (rr, p') → BF h h' → MR h' F L 0 p' → h'.1 141 33 = nI (len + n) → h'.1 141 34 = nI (frm + 1) → h'.1 141 35 = nI n → (∀ i, i < len → h'.1 153 i = h.1 153 i ∧ h'.1 153 (1200 + i) = h.1 153 (1200 + i)) → (∀ i, i < n → h'.1 153 (len + i) = rr.1 i ∧ (iCh F = 2 → h'.1 153 (1200 + (len + i)) = rr.2 i)) → X (.inl none) h' 0 0)
    (hY : ∀ e p' h', Q = .inl e → BF h h' → MR h' F L e p' → e ≠ 0 → X (.inl none) h' 0 0) : xm_M l (y0 u) KK m_Mo_body [.ref 141, .int (nI c), .int (nI n)] h X := by
  refine xm_of [none, none] (by simp) (Nat.le_of_ble_eq_true rfl) (by decide) (fun x at0 => ?_)
  have A := xa_of at0 K
  have ow := at0.2.2.2.2.1
  have ne : ∀ {g : xw_H} {e p : Nat}, MR g F L e p → e ≠ 0 → ¬ g.1 141 22 = 0 := fun M h0 => by rw [M.2.2.1.2]; exact nI_ne0 (by omega) (by have := M.2.2.2.2.2; omega)
  obtain ⟨⟨o1, o2, o3⟩, ⟨o4, o5⟩, o6, o7⟩ := ok
  have hC : iCh F = 1 ∨ iCh F = 2 := by have : 1 ≤ iCh F := by unfold iCh; omega
                                        omega
  have hc11 : c < 11 ∧ (8 ≤ c → iCh F = 2) ∧ (iCh F = 1 → c = 0) := by
    unfold suC at hsu
    split at hsu
    · rw [decide_eq_true_iff] at hsu; omega
    · rw [Bool.and_eq_true, decide_eq_true_iff, decide_eq_true_iff] at hsu; omega
  have hL := M.2.2.2.2.1
  -- a fault
  have dead210 : ∀ e p' g v3 v4, Q = .inl e → BF h g → MR g F L e p' → e ≠ 0 → xg x (y0 u) 0 0 210 [some (.ref 141), some (.int (nI c)), some (.int (nI n)), v3, v4] [] g := by
    intro e p' g v3 v4 hQ hf hM he
    refine ra_aload_n A d_Mo_body_210 rfl <| ra_getI A f_Mo_386 d_Mo_body_211 (Nat.le_of_ble_eq_true rfl) rfl rfl <| ?_
    refine ra_if_ne (q := 242) A d_Mo_body_214 (by decide) (fun _ => ?_) (fun cc => absurd cc (ne hM he))
    exact ra_vret A ow d_Mo_body_242 (hY e p' g hQ hf hM he)
  have dead190 : ∀ e p' g (z3 : Int32) v4, Q = .inl e → BF h g → MR g F L e p' → e ≠ 0 → xg x (y0 u) 0 0 190 [some (.ref 141), some (.int (nI c)), some (.int (nI n)), some (.int z3), v4] [.long (lN 0)] g := by
    intro e p' g z3 v4 hQ hf hM he
    refine ra_l2i A d_Mo_body_190 <| ra_istore (L' := [_, _, _, _, _]) A d_Mo_body_191 (by decide) rfl <| ra_aload_n A d_Mo_body_193 rfl <| ra_iload A d_Mo_body_194 rfl <| ra_iload_n A d_Mo_body_196 rfl <| ?_
    refine ra_icmp_ne (q := 204) A d_Mo_body_197 (by decide) (fun z => ?_) (fun z => ?_)
    · refine ra_iconst A 0 d_Mo_body_204 (by decide) <| ra_bipush A 12 d_Mo_body_205 (by decide) <| ?_
      refine ra_callV (As := [_, _]) A ok_Mo_want l_Mo_409 im_Mo_want sl_Mo_want d_Mo_body_207 (Nat.le_of_ble_eq_true rfl) rfl rfl rfl (Nat.le_of_ble_eq_true rfl) (xr_of at0 (by decide)) (s_Mo_wantF K (ne hM he) ?_)
      show xg x (y0 u) 0 0 210 _ _ g
      exact dead210 e p' g _ _ hQ hf hM he
    · refine ra_iconst A 1 d_Mo_body_200 (by decide) <| ra_goto (q := 205) A d_Mo_body_201 (by decide) <| ra_bipush A 12 d_Mo_body_205 (by decide) <| ?_
      refine ra_callV (As := [_, _]) A ok_Mo_want l_Mo_409 im_Mo_want sl_Mo_want d_Mo_body_207 (Nat.le_of_ble_eq_true rfl) rfl rfl rfl (Nat.le_of_ble_eq_true rfl) (xr_of at0 (by decide)) (s_Mo_wantF K (ne hM he) ?_)
      show xg x (y0 u) 0 0 210 _ _ g
      exact dead210 e p' g _ _ hQ hf hM he
  have dead153 : ∀ e p' g v3 v4, Q = .inl e → BF h g → MR g F L e p' → e ≠ 0 → xg x (y0 u) 0 0 153 [some (.ref 141), some (.int (nI c)), some (.int (nI n)), v3, v4] [] g := by
    intro e p' g v3 v4 hQ hf hM he
    refine ra_aload_n A d_Mo_body_153 rfl <| ra_getI A f_Mo_386 d_Mo_body_154 (Nat.le_of_ble_eq_true rfl) rfl rfl <| ?_
    refine ra_if_ne (q := 182) A d_Mo_body_157 (by decide) (fun _ => ?_) (fun cc => absurd cc (ne hM he))
    refine ra_iconst A 0 d_Mo_body_182 (by decide) <| ra_istore_n (L' := [_, _, _, _, _]) A d_Mo_body_183 (by decide) rfl <| ra_aload_n A d_Mo_body_184 rfl <| ra_bipush A 16 d_Mo_body_185 (by decide) <| ?_
    refine ra_callV (As := [_]) A ok_Mo_next l_Mo_394 im_Mo_next sl_Mo_next d_Mo_body_187 (Nat.le_of_ble_eq_true rfl) rfl rfl rfl (Nat.le_of_ble_eq_true rfl) (xr_of at0 (by decide)) (s_Mo_nextF K hM he ?_)
    show xg x (y0 u) 0 0 190 _ _ g
    exact dead190 e p' g _ _ hQ hf hM he
  have dead109 : ∀ e p' g v3 v4, Q = .inl e → BF h g → MR g F L e p' → e ≠ 0 → xg x (y0 u) 0 0 109 [some (.ref 141), some (.int (nI c)), some (.int (nI n)), v3, v4] [] g := by
    intro e p' g v3 v4 hQ hf hM he
    refine ra_aload_n A d_Mo_body_109 rfl <| ra_getJ A f_Mo_244 d_Mo_body_110 (Nat.le_of_ble_eq_true rfl) rfl rfl <| ra_ldc2 A k_Mo_222 d_Mo_body_113 <| ra_lrem A d_Mo_body_116 (by decide) <| ra_lconst A 0 d_Mo_body_117 (by decide) <| ra_lcmp A d_Mo_body_118 <| ?_
    refine ra_if_eq (q := 153) A d_Mo_body_119 (by decide) (fun z => ?_) (fun z => ?_)
    · exact dead153 e p' g _ _ hQ hf hM he
    · refine ra_aload_n A d_Mo_body_122 rfl <| ra_getI A f_Mo_386 d_Mo_body_123 (Nat.le_of_ble_eq_true rfl) rfl rfl <| ?_
      refine ra_if_ne (q := 153) A d_Mo_body_126 (by decide) (fun _ => ?_) (fun cc => absurd cc (ne hM he))
      exact dead153 e p' g _ _ hQ hf hM he
  have dead85 : ∀ e p' g (z3 : Int32) v4, Q = .inl e → BF h g → MR g F L e p' → e ≠ 0 → xg x (y0 u) 0 0 85 [some (.ref 141), some (.int (nI c)), some (.int (nI n)), some (.int z3), v4] [] g := by
    intro e p' g z3 v4 hQ hf hM he
    refine ra_iload_n A d_Mo_body_85 rfl <| ra_iload_n A d_Mo_body_86 rfl <| ?_
    refine ra_icmp_ge (q := 109) A d_Mo_body_87 (by decide) (fun z => ?_) (fun z => ?_)
    · exact dead109 e p' g _ _ hQ hf hM he
    · refine ra_aload_n A d_Mo_body_90 rfl <| ra_getI A f_Mo_386 d_Mo_body_91 (Nat.le_of_ble_eq_true rfl) rfl rfl <| ?_
      refine ra_if_ne (q := 109) A d_Mo_body_94 (by decide) (fun _ => ?_) (fun cc => absurd cc (ne hM he))
      exact dead109 e p' g _ _ hQ hf hM he
  have dead2 : ∀ e p' g (z3 : Int32) v4, Q = .inl e → BF h g → MR g F L e p' → e ≠ 0 → xg x (y0 u) 0 0 2 [some (.ref 141), some (.int (nI c)), some (.int (nI n)), some (.int z3), v4] [] g := by
    intro e p' g z3 v4 hQ hf hM he
    refine ra_iload_n A d_Mo_body_2 rfl <| ra_aload_n A d_Mo_body_3 rfl <| ra_getI A f_Mo_365 d_Mo_body_4 (Nat.le_of_ble_eq_true rfl) rfl rfl <| ?_
    refine ra_icmp_ge (q := 83) A d_Mo_body_7 (by decide) (fun z => ?_) (fun z => ?_)
    · refine ra_iconst A 0 d_Mo_body_83 (by decide) <| ra_istore_n (L' := [_, _, _, _, _]) A d_Mo_body_84 (by decide) rfl <| ?_
      exact dead85 e p' g _ _ hQ hf hM he
    · refine ra_aload_n A d_Mo_body_10 rfl <| ra_getI A f_Mo_386 d_Mo_body_11 (Nat.le_of_ble_eq_true rfl) rfl rfl <| ?_
      refine ra_if_ne (q := 83) A d_Mo_body_14 (by decide) (fun _ => ?_) (fun cc => absurd cc (ne hM he))
      refine ra_iconst A 0 d_Mo_body_83 (by decide) <| ra_istore_n (L' := [_, _, _, _, _]) A d_Mo_body_84 (by decide) rfl <| ?_
      exact dead85 e p' g _ _ hQ hf hM he
  -- behind the samples
  have at109 : ∀ (rr : (Nat → Int32) × (Nat → Int32)) p4 g v3 v4, p ≤ p4 → BF h g → MR g F L 0 p4 → g.1 141 33 = nI len → g.1 141 34 = nI frm → (∀ i, i < len → g.1 153 i = h.1 153 i ∧ g.1 153 (1200 + i) = h.1 153 (1200 + i)) → (∀ i, i < n → g.1 153 (len + i) = rr.1 i ∧ (iCh F = 2 → g.1 153 (1200 + (len + i)) = rr.2 i)) → rEnd F L p0 rr p4 = Q → xg x (y0 u) 0 0 109 [some (.ref 141), some (.int (nI c)), some (.int (nI n)), v3, v4] [] g := by
    clear hq
    intro rr p4 g v3 v4 hp4 hf hM k33 k34 hold hnew hq
    unfold rEnd at hq
    have hpL := hM.2.2.2.1
    generalize hk : (8 - p4 % 8) % 8 = k at hq
    rw [rB_yes (by omega), rb_r] at hq
    refine lp_up (σ := xw_H) (W := fun i g' => xg x (y0 u) 0 0 109 [some (.ref 141), some (.int (nI c)), some (.int (nI n)), v3, v4] [] g') (I := fun i g' => MM g g' ∧ MR g' F L 0 (p4 + i) ∧ bv F p4 i = 0) k ?_ ?_ 0 g (Nat.zero_le _) ⟨MM.rfl, hM, rfl⟩
    · rintro g1 ⟨f1, M1, hz⟩
      rw [if_pos hz] at hq
      have hf1 := hf.trans f1.bf
      refine ra_aload_n A d_Mo_body_109 rfl <| ra_getJ A f_Mo_244 d_Mo_body_110 (Nat.le_of_ble_eq_true rfl) rfl rfl <| ?_
      rw [M1.2.2.1.1]
      refine ra_ldc2 A k_Mo_222 d_Mo_body_113 <| ra_lrem A d_Mo_body_116 (by decide) <| ?_
      rw [show lN (p4 + k) - lN (p4 + k) / 8 * 8 = lN ((p4 + k) % 8) from pk_lRem (b := 8) (by omega) (by decide) (by decide), show (p4 + k) % 8 = 0 by omega]
      refine ra_lconst A 0 d_Mo_body_117 (by decide) <| ra_lcmp A d_Mo_body_118 <| ?_
      refine ra_if_eq (q := 153) A d_Mo_body_119 (by decide) (fun _ => ?_) (fun cc => absurd (lc_eq.mpr rfl) cc)
      refine ra_aload_n A d_Mo_body_153 rfl <| ra_getI A f_Mo_386 d_Mo_body_154 (Nat.le_of_ble_eq_true rfl) rfl rfl <| ?_
      refine ra_if_ne (q := 182) A d_Mo_body_157 (by decide) (fun cc => absurd (M1.2.2.1.2) cc) (fun _ => ?_)
      refine ra_aload_n A d_Mo_body_160 rfl <| ra_bipush A 16 d_Mo_body_161 (by decide) <| ra_aload_n A d_Mo_body_163 rfl <| ra_getI A f_Mo_403 d_Mo_body_164 (Nat.le_of_ble_eq_true rfl) rfl rfl <| ?_
      rw [f1.2.1 24 (by decide), hf.2.1 24 (by decide), es]
      refine ra_aload_n A d_Mo_body_167 rfl <| ra_getJ A f_Mo_244 d_Mo_body_168 (Nat.le_of_ble_eq_true rfl) rfl rfl <| ?_
      rw [M1.2.2.1.1]
      refine ra_ldc2 A k_Mo_222 d_Mo_body_171 <| ra_ldiv A d_Mo_body_174 (by decide) <| ?_
      rw [show lN (p4 + k) / 8 = lN ((p4 + k) / 8) from pk_lDiv (b := 8) (by omega) (by decide) (by decide)]
      refine ra_l2i A d_Mo_body_175 <| ?_
      rw [lN_i]
      refine ra_callV (As := [_, _, _]) A ok_Mo_check l_Mo_341 im_Mo_check sl_Mo_check d_Mo_body_176 (Nat.le_of_ble_eq_true rfl) rfl rfl rfl (Nat.le_of_ble_eq_true rfl) (xr_of at0 (by decide)) (s_Mo_check K (a := p0 / 8) (b := (p4 + k) / 8) (by omega) (by omega) ?_)
      show xg x (y0 u) 0 0 179 _ _ g1
      rw [g_check_I (w := 16) (p := 32773) (F := F) (Or.inr ⟨rfl, rfl, rfl⟩) (fun q _ h2 => M1.2.1 q (by omega)), show 8 * (p0 / 8) = p0 by omega, show 8 * ((p4 + k) / 8 - p0 / 8) = p4 + k - p0 by omega]
      have hcl : crI 16 32773 F p0 (p4 + k - p0) 0 < 2 ^ 16 := crI_lt (by decide) (by decide) _
      generalize crI 16 32773 F p0 (p4 + k - p0) 0 = ck at hq hcl ⊢
      refine ra_goto (q := 183) A d_Mo_body_179 (by decide) <| ra_istore_n (L' := [_, _, _, _, _]) A d_Mo_body_183 (by decide) rfl <| ra_aload_n A d_Mo_body_184 rfl <| ra_bipush A 16 d_Mo_body_185 (by decide) <| ?_
      refine ra_callV (As := [_]) A ok_Mo_next l_Mo_394 im_Mo_next sl_Mo_next d_Mo_body_187 (Nat.le_of_ble_eq_true rfl) rfl rfl rfl (Nat.le_of_ble_eq_true rfl) (xr_of at0 (by decide)) (s_Mo_next K (n := 16) M1 (by decide) rfl (fun v p6 g2 e2 f2 M2 hv => ?_) (fun e g2 e2 f2 M2 he => ?_))
      · show xg x (y0 u) 0 0 190 _ _ g2
        rw [e2, rb_r] at hq
        refine ra_l2i A d_Mo_body_190 <| ?_
        rw [lN_i]
        refine ra_istore (L' := [_, _, _, _, _]) A d_Mo_body_191 (by decide) rfl <| ra_aload_n A d_Mo_body_193 rfl <| ra_iload A d_Mo_body_194 rfl <| ra_iload_n A d_Mo_body_196 rfl <| ?_
        by_cases cv : v = ck
        · rw [if_pos cv] at hq
          refine ra_icmp_ne (q := 204) A d_Mo_body_197 (by decide) (fun cc => absurd ((by rw [cv])) cc) (fun _ => ?_)
          refine ra_iconst A 1 d_Mo_body_200 (by decide) <| ra_goto (q := 205) A d_Mo_body_201 (by decide) <| ra_bipush A 12 d_Mo_body_205 (by decide) <| ?_
          refine ra_callV (As := [_, _]) A ok_Mo_want l_Mo_409 im_Mo_want sl_Mo_want d_Mo_body_207 (Nat.le_of_ble_eq_true rfl) rfl rfl rfl (Nat.le_of_ble_eq_true rfl) (xr_of at0 (by decide)) (s_Mo_want K (b := true) M2.2.2.1.2 (fun _ => ?_) (fun q => by cases q))
          show xg x (y0 u) 0 0 210 _ _ g2
          have f12 : MM g g2 := f1.trans f2
          refine ra_aload_n A d_Mo_body_210 rfl <| ra_getI A f_Mo_386 d_Mo_body_211 (Nat.le_of_ble_eq_true rfl) rfl rfl <| ?_
          refine ra_if_ne (q := 242) A d_Mo_body_214 (by decide) (fun cc => absurd (M2.2.2.1.2) cc) (fun _ => ?_)
          refine ra_aload_n A d_Mo_body_217 rfl <| ra_aload_n A d_Mo_body_218 rfl <| ra_getI A f_Mo_377 d_Mo_body_219 (Nat.le_of_ble_eq_true rfl) rfl rfl <| ?_
          rw [f12.2.1 33 (by decide), k33]
          refine ra_iload_n A d_Mo_body_222 rfl <| ra_iadd A d_Mo_body_223 <| ?_
          rw [nI_add]
          refine ra_putI (ty := .int) A f_Mo_377 rfl rfl (by decide +kernel) rfl rfl d_Mo_body_224 (Nat.le_of_ble_eq_true rfl) rfl rfl <| ra_aload_n A d_Mo_body_227 rfl <| ra_dup A d_Mo_body_228 rfl <| ra_getI A f_Mo_380 d_Mo_body_229 (Nat.le_of_ble_eq_true rfl) rfl rfl <| ?_
          rw [xI_j (by decide), f12.2.1 34 (by decide), k34]
          refine ra_iconst A 1 d_Mo_body_232 (by decide) <| ra_iadd A d_Mo_body_233 <| ?_
          rw [nI_1]
          refine ra_putI (ty := .int) A f_Mo_380 rfl rfl (by decide +kernel) rfl rfl d_Mo_body_234 (Nat.le_of_ble_eq_true rfl) rfl rfl <| ra_aload_n A d_Mo_body_237 rfl <| ra_iload_n A d_Mo_body_238 rfl <| ra_putI (ty := .int) A f_Mo_425 rfl rfl (by decide +kernel) rfl rfl d_Mo_body_239 (Nat.le_of_ble_eq_true rfl) rfl rfl <| ?_
          refine ra_vret A ow d_Mo_body_242 (hX rr p6 _ hq.symm ?_ ?_ ?_ ?_ ?_ ?_ ?_)
          · exact (((hf.trans f12.bf).trans (fm_F (by decide))).trans (fm_F (by decide))).trans (fm_F (by decide))
          · refine M2.of ?_ ?_ ⟨M2.2.2.1.1, ?_⟩ M2.2.2.2.1 (by decide)
            · rw [xI_j (by decide), xI_j (by decide), xI_j (by decide)]
            · rw [xI_k (by decide), xI_k (by decide), xI_k (by decide)]
            · rw [xI_j (by decide), xI_j (by decide), xI_j (by decide)]; exact M2.2.2.1.2
          · rw [xI_j (by decide), xI_j (by decide), xI_e]
          · rw [xI_j (by decide), xI_e]
          · rw [xI_e]
          · intro i hi
            rw [xI_k (by decide), xI_k (by decide), xI_k (by decide), fmk f12 (by decide) (by decide)]
            exact hold i hi
          · intro i hi
            rw [xI_k (by decide), xI_k (by decide), xI_k (by decide), fmk f12 (by decide) (by decide)]
            exact hnew i hi
        · rw [if_neg cv] at hq
          refine ra_icmp_ne (q := 204) A d_Mo_body_197 (by decide) (fun _ => ?_) (fun cc => absurd cc (fun z => cv ((nI_eq (by omega) (by omega)).mp z)))
          refine ra_iconst A 0 d_Mo_body_204 (by decide) <| ra_bipush A 12 d_Mo_body_205 (by decide) <| ?_
          refine ra_callV (As := [_, _]) A ok_Mo_want l_Mo_409 im_Mo_want sl_Mo_want d_Mo_body_207 (Nat.le_of_ble_eq_true rfl) rfl rfl rfl (Nat.le_of_ble_eq_true rfl) (xr_of at0 (by decide)) (s_Mo_want K (b := false) M2.2.2.1.2 (fun q => by cases q) (fun _ => ?_))
          show xg x (y0 u) 0 0 210 _ _ _
          exact dead210 12 p6 _ _ _ hq.symm ((hf1.trans f2.bf).trans (fm_F (by decide))) (MR_F (x := 12) M2 (by decide)) (by decide)
      · show xg x (y0 u) 0 0 190 _ _ g2
        rw [e2, rb_l] at hq
        exact dead190 e _ g2 _ _ hq.symm (hf1.trans f2.bf) M2 he
    · rintro i g1 hi ⟨f1, M1, hz⟩ ih
      have hf1 := hf.trans f1.bf
      refine ra_aload_n A d_Mo_body_109 rfl <| ra_getJ A f_Mo_244 d_Mo_body_110 (Nat.le_of_ble_eq_true rfl) rfl rfl <| ?_
      rw [M1.2.2.1.1]
      refine ra_ldc2 A k_Mo_222 d_Mo_body_113 <| ra_lrem A d_Mo_body_116 (by decide) <| ?_
      rw [show lN (p4 + i) - lN (p4 + i) / 8 * 8 = lN ((p4 + i) % 8) from pk_lRem (b := 8) (by omega) (by decide) (by decide)]
      refine ra_lconst A 0 d_Mo_body_117 (by decide) <| ra_lcmp A d_Mo_body_118 <| ?_
      refine ra_if_eq (q := 153) A d_Mo_body_119 (by decide) (fun cc => absurd cc (fun z => absurd (lN_eq0 (by omega) (lc_eq.mp z)) (by omega))) (fun _ => ?_)
      refine ra_aload_n A d_Mo_body_122 rfl <| ra_getI A f_Mo_386 d_Mo_body_123 (Nat.le_of_ble_eq_true rfl) rfl rfl <| ?_
      refine ra_if_ne (q := 153) A d_Mo_body_126 (by decide) (fun cc => absurd (M1.2.2.1.2) cc) (fun _ => ?_)
      refine ra_aload_n A d_Mo_body_129 rfl <| ra_aload_n A d_Mo_body_130 rfl <| ra_iconst A 1 d_Mo_body_131 (by decide) <| ?_
      refine ra_callV (As := [_]) A ok_Mo_next l_Mo_394 im_Mo_next sl_Mo_next d_Mo_body_132 (Nat.le_of_ble_eq_true rfl) rfl rfl rfl (Nat.le_of_ble_eq_true rfl) (xr_of at0 (by decide)) (s_Mo_next K (n := 1) M1 (by decide) rfl (fun v p6 g2 e2 f2 M2 hv => ?_) (fun e g2 e2 f2 M2 he => absurd (rB_err e2).2 (fun z => z (by omega))))
      show xg x (y0 u) 0 0 135 _ _ g2
      obtain ⟨ev, ep, _⟩ := rB_ok e2
      have hb1 : bv F p4 (i + 1) = v := by rw [bv_add, hz, ev]; omega
      subst ep
      refine ra_lconst A 0 d_Mo_body_135 (by decide) <| ra_lcmp A d_Mo_body_136 <| ?_
      by_cases cv : v = 0
      · refine ra_if_ne (q := 144) A d_Mo_body_137 (by decide) (fun cc => absurd (lc_eq.mpr (by rw [cv]; rfl)) cc) (fun _ => ?_)
        refine ra_iconst A 1 d_Mo_body_140 (by decide) <| ra_goto (q := 145) A d_Mo_body_141 (by decide) <| ra_bipush A 12 d_Mo_body_145 (by decide) <| ?_
        refine ra_callV (As := [_, _]) A ok_Mo_want l_Mo_409 im_Mo_want sl_Mo_want d_Mo_body_147 (Nat.le_of_ble_eq_true rfl) rfl rfl rfl (Nat.le_of_ble_eq_true rfl) (xr_of at0 (by decide)) (s_Mo_want K (b := true) M2.2.2.1.2 (fun _ => ?_) (fun q => by cases q))
        show xg x (y0 u) 0 0 150 _ _ g2
        refine ra_goto (q := 109) A d_Mo_body_150 (by decide) <| ?_
        exact ih g2 ⟨f1.trans f2, M2, hb1.trans cv⟩
      · refine ra_if_ne (q := 144) A d_Mo_body_137 (by decide) (fun _ => ?_) (fun cc => absurd cc (fun z => absurd (lN_eq0 (by omega) (lc_eq.mp z)) cv))
        refine ra_iconst A 0 d_Mo_body_144 (by decide) <| ra_bipush A 12 d_Mo_body_145 (by decide) <| ?_
        refine ra_callV (As := [_, _]) A ok_Mo_want l_Mo_409 im_Mo_want sl_Mo_want d_Mo_body_147 (Nat.le_of_ble_eq_true rfl) rfl rfl rfl (Nat.le_of_ble_eq_true rfl) (xr_of at0 (by decide)) (s_Mo_want K (b := false) M2.2.2.1.2 (fun q => by cases q) (fun _ => ?_))
        show xg x (y0 u) 0 0 150 _ _ _
        rw [if_neg (fun z => cv (hb1.symm.trans (bv_0 hi z)))] at hq
        refine ra_goto (q := 109) A d_Mo_body_150 (by decide) <| ?_
        exact dead109 12 _ _ _ _ hq.symm ((hf1.trans f2.bf).trans (fm_F (by decide))) (MR_F (x := 12) M2 (by decide)) (by decide)
  -- the samples put together
  have at83 : ∀ p4 g (z3 : Int32) v4, p ≤ p4 → BF h g → MR g F L 0 p4 → IM g F → g.1 141 33 = nI len → g.1 141 34 = nI frm → g.1 153 = h.1 153 → (∀ i, i < n → okM (iDp F) (iCh F) (sepM c (g.1 154 i) (g.1 154 (1200 + i))) = false → Q = .inl 11) → ((∀ i, i < n → okM (iDp F) (iCh F) (sepM c (g.1 154 i) (g.1 154 (1200 + i))) = true) → ∃ rr : (Nat → Int32) × (Nat → Int32), rEnd F L p0 rr p4 = Q ∧ ∀ i, i < n → (sepM c (g.1 154 i) (g.1 154 (1200 + i))).1 = rr.1 i ∧ (iCh F = 2 → (sepM c (g.1 154 i) (g.1 154 (1200 + i))).2 = rr.2 i)) → xg x (y0 u) 0 0 83 [some (.ref 141), some (.int (nI c)), some (.int (nI n)), some (.int z3), v4] [] g := by
    clear hq
    intro p4 g z3 v4 hp4 hf hM hI k33 k34 k153 hbad hgood
    refine ra_iconst A 0 d_Mo_body_83 (by decide) <| ra_istore_n (L' := [_, _, _, _, _]) A d_Mo_body_84 (by decide) rfl <| ?_
    refine lp_up (σ := xw_H) (W := fun i g' => xg x (y0 u) 0 0 85 [some (.ref 141), some (.int (nI c)), some (.int (nI n)), some (.int (nI i)), v4] [] g') (I := fun i g' => fm [153] [] false g g' ∧ (∀ q, (q < len ∨ 1200 ≤ q) → (q < 1200 + len) → g'.1 153 q = h.1 153 q) ∧ ∀ r, r < i → okM (iDp F) (iCh F) (sepM c (g.1 154 r) (g.1 154 (1200 + r))) = true ∧ g'.1 153 (len + r) = (sepM c (g.1 154 r) (g.1 154 (1200 + r))).1 ∧ g'.1 153 (1200 + (len + r)) = (sepM c (g.1 154 r) (g.1 154 (1200 + r))).2) n ?_ ?_ 0 g (Nat.zero_le _) ⟨fm.rfl, fun q _ _ => by rw [k153], fun r hr => by omega⟩
    · rintro g1 ⟨f1, hold, hr⟩
      obtain ⟨rr, hq, hrr⟩ := hgood (fun i hi => (hr i hi).1)
      refine ra_iload_n A d_Mo_body_85 rfl <| ra_iload_n A d_Mo_body_86 rfl <| ?_
      refine ra_icmp_ge (q := 109) A d_Mo_body_87 (by decide) (fun _ => ?_) (fun cc => absurd (Int32.le_refl _) cc)
      have fb : BF g g1 := f1.mono (by decide) (by decide) (fun _ => rfl)
      refine at109 rr p4 g1 _ _ hp4 (hf.trans fb) (hM.fm f1 (by decide) (by decide) (by decide)) (by rw [f1.2.1 33 (by decide)]; exact k33) (by rw [f1.2.1 34 (by decide)]; exact k34) (fun i hi => ⟨hold i (Or.inl hi) (by omega), hold (1200 + i) (by omega) (by omega)⟩) (fun i hi => ?_) hq
      exact ⟨(hr i hi).2.1.trans (hrr i hi).1, fun h2 => (hr i hi).2.2.trans ((hrr i hi).2 h2)⟩
    · rintro i g1 hi ⟨f1, hold, hr⟩ ih
      have M1 := hM.fm f1 (by decide) (by decide) (by decide)
      have I1 := hI.fm f1 (by decide) (by decide) (by decide) (by decide) (by decide)
      have k154 : g1.1 154 = g.1 154 := fmk f1 (by decide) (by decide)
      refine ra_iload_n A d_Mo_body_85 rfl <| ra_iload_n A d_Mo_body_86 rfl <| ?_
      refine ra_icmp_ge (q := 109) A d_Mo_body_87 (by decide) (fun cc => absurd cc (nI_ge hi (by omega))) (fun _ => ?_)
      refine ra_aload_n A d_Mo_body_90 rfl <| ra_getI A f_Mo_386 d_Mo_body_91 (Nat.le_of_ble_eq_true rfl) rfl rfl <| ?_
      refine ra_if_ne (q := 109) A d_Mo_body_94 (by decide) (fun cc => absurd (M1.2.2.1.2) cc) (fun _ => ?_)
      refine ra_aload_n A d_Mo_body_97 rfl <| ra_iload_n A d_Mo_body_98 rfl <| ra_iload_n A d_Mo_body_99 rfl <| ?_
      refine ra_callV (As := [_, _]) A ok_Mo_combine l_Mo_434 im_Mo_combine sl_Mo_combine d_Mo_body_100 (Nat.le_of_ble_eq_true rfl) rfl rfl rfl (Nat.le_of_ble_eq_true rfl) (xr_of at0 (by decide)) (s_Mo_combine K (c := c) (i := i) (n := len) M1.2.2.1.2 I1.2.1 I1.2.2.1 (by rw [f1.2.1 33 (by decide)]; exact k33) hc11.1 hC o6 o7 (by omega) (by omega) rfl (fun hok => ?_) (fun hok => ?_))
      · show xg x (y0 u) 0 0 103 _ _ _
        rw [k154] at hok ⊢
        unfold cmb
        refine ra_iinc (L' := [_, _, _, _, _]) A 1 d_Mo_body_103 rfl (by decide) (by decide) rfl <| ra_goto (q := 85) A d_Mo_body_106 (by decide) <| ?_
        rw [nI_1]
        refine ih _ ⟨(f1.trans (fm_I (by decide) (by decide))).trans (fm_I (by decide) (by decide)), fun q h1 h2 => ?_, fun r hr' => ?_⟩
        · rw [xI_j (by omega), xI_j (by omega)]; exact hold q h1 h2
        · by_cases cr : r = i
          · subst cr
            exact ⟨hok, by rw [xI_j (by omega), xI_e], by rw [xI_e]⟩
          · refine ⟨(hr r (by omega)).1, ?_, ?_⟩
            · rw [xI_j (by omega), xI_j (by omega)]; exact (hr r (by omega)).2.1
            · rw [xI_j (by omega), xI_j (by omega)]; exact (hr r (by omega)).2.2
      · show xg x (y0 u) 0 0 103 _ _ _
        rw [k154] at hok ⊢
        unfold cmb
        refine ra_iinc (L' := [_, _, _, _, _]) A 1 d_Mo_body_103 rfl (by decide) (by decide) rfl <| ra_goto (q := 85) A d_Mo_body_106 (by decide) <| ?_
        have fb : BF g g1 := f1.mono (by decide) (by decide) (fun _ => rfl)
        refine dead85 11 p4 _ _ _ (hbad i hi hok) ((((hf.trans fb).trans (fm_F (by decide))).trans (fm_I (by decide) (by decide))).trans (fm_I (by decide) (by decide))) ?_ (by decide)
        exact MR_I (MR_I (MR_F (x := 11) M1 (by decide)) (by decide) (by decide)) (by decide) (by decide)
  -- which width a channel has
  have at17 : ∀ j g v4, j < 2 → IM g F → (∀ v4', xg x (y0 u) 0 0 74 [some (.ref 141), some (.int (nI c)), some (.int (nI n)), some (.int (nI j)), v4'] [.int (nI n), .int (nI (iDp F + if (c = 8 ∧ j = 1) ∨ (c = 9 ∧ j = 0) ∨ (c = 10 ∧ j = 1) then 1 else 0)), .int (nI j), .ref 141] g) → xg x (y0 u) 0 0 17 [some (.ref 141), some (.int (nI c)), some (.int (nI n)), some (.int (nI j)), v4] [] g := by
    clear hq
    intro j g v4 hj hI hc
    have at49 : ((c = 8 ∧ j = 1) ∨ (c = 9 ∧ j = 0) ∨ (c = 10 ∧ j = 1)) → xg x (y0 u) 0 0 49 [some (.ref 141), some (.int (nI c)), some (.int (nI n)), some (.int (nI j)), v4] [] g := by
      intro z
      rw [if_pos z] at hc
      refine ra_iconst A 1 d_Mo_body_49 (by decide) <| ra_goto (q := 54) A d_Mo_body_50 (by decide) <| ra_istore (L' := [_, _, _, _, _]) A d_Mo_body_54 (by decide) rfl <| ra_aload_n A d_Mo_body_56 rfl <| ra_iload_n A d_Mo_body_57 rfl <| ra_aload_n A d_Mo_body_58 rfl <| ra_getI A f_Mo_368 d_Mo_body_59 (Nat.le_of_ble_eq_true rfl) rfl rfl <| ?_
      rw [hI.2.2.1]
      refine ra_iload A d_Mo_body_62 rfl <| ?_
      refine ra_if_eq (q := 71) A d_Mo_body_64 (by decide) (fun cc => absurd cc ((by decide))) (fun _ => ?_)
      refine ra_iconst A 1 d_Mo_body_67 (by decide) <| ra_goto (q := 72) A d_Mo_body_68 (by decide) <| ra_iadd A d_Mo_body_72 <| ?_
      rw [nI_1]
      refine ra_iload_n A d_Mo_body_73 rfl <| ?_
      exact hc _
    have at53 : ¬ ((c = 8 ∧ j = 1) ∨ (c = 9 ∧ j = 0) ∨ (c = 10 ∧ j = 1)) → xg x (y0 u) 0 0 53 [some (.ref 141), some (.int (nI c)), some (.int (nI n)), some (.int (nI j)), v4] [] g := by
      intro z
      rw [if_neg z] at hc
      refine ra_iconst A 0 d_Mo_body_53 (by decide) <| ra_istore (L' := [_, _, _, _, _]) A d_Mo_body_54 (by decide) rfl <| ra_aload_n A d_Mo_body_56 rfl <| ra_iload_n A d_Mo_body_57 rfl <| ra_aload_n A d_Mo_body_58 rfl <| ra_getI A f_Mo_368 d_Mo_body_59 (Nat.le_of_ble_eq_true rfl) rfl rfl <| ?_
      rw [hI.2.2.1]
      refine ra_iload A d_Mo_body_62 rfl <| ?_
      refine ra_if_eq (q := 71) A d_Mo_body_64 (by decide) (fun _ => ?_) (fun cc => absurd (rfl) cc)
      refine ra_iconst A 0 d_Mo_body_71 (by decide) <| ra_iadd A d_Mo_body_72 <| ?_
      rw [show nI (iDp F) + 0 = nI (iDp F + 0) from nI_add _ 0]
      refine ra_iload_n A d_Mo_body_73 rfl <| ?_
      exact hc _
    have ec : ∀ k : Nat, k < 16 → ¬ c = k → ¬ nI c = nI k := fun k hk h1 z => h1 ((nI_eq (by omega) (by omega)).mp z)
    have ej : ∀ k : Nat, k < 2 → ¬ j = k → ¬ nI j = nI k := fun k hk h1 z => h1 ((nI_eq (by omega) (by omega)).mp z)
    have at38 : ¬ ((c = 8 ∧ j = 1) ∨ (c = 9 ∧ j = 0)) → xg x (y0 u) 0 0 38 [some (.ref 141), some (.int (nI c)), some (.int (nI n)), some (.int (nI j)), v4] [] g := by
      intro z
      refine ra_iload_n A d_Mo_body_38 rfl <| ra_bipush A 10 d_Mo_body_39 (by decide) <| ?_
      by_cases c10 : c = 10
      · refine ra_icmp_ne (q := 53) A d_Mo_body_41 (by decide) (fun cc => absurd ((by rw [c10]; rfl)) cc) (fun _ => ?_)
        refine ra_iload_n A d_Mo_body_44 rfl <| ra_iconst A 1 d_Mo_body_45 (by decide) <| ?_
        by_cases j1 : j = 1
        · refine ra_icmp_ne (q := 53) A d_Mo_body_46 (by decide) (fun cc => absurd ((by rw [j1]; rfl)) cc) (fun _ => ?_)
          exact at49 (by omega)
        · refine ra_icmp_ne (q := 53) A d_Mo_body_46 (by decide) (fun _ => ?_) (fun cc => absurd cc (ej 1 (by decide) j1))
          exact at53 (by omega)
      · refine ra_icmp_ne (q := 53) A d_Mo_body_41 (by decide) (fun _ => ?_) (fun cc => absurd cc (ec 10 (by decide) c10))
        exact at53 (by omega)
    have at28 : ¬ (c = 8 ∧ j = 1) → xg x (y0 u) 0 0 28 [some (.ref 141), some (.int (nI c)), some (.int (nI n)), some (.int (nI j)), v4] [] g := by
      intro z
      refine ra_iload_n A d_Mo_body_28 rfl <| ra_bipush A 9 d_Mo_body_29 (by decide) <| ?_
      by_cases c9 : c = 9
      · refine ra_icmp_ne (q := 38) A d_Mo_body_31 (by decide) (fun cc => absurd ((by rw [c9]; rfl)) cc) (fun _ => ?_)
        refine ra_iload_n A d_Mo_body_34 rfl <| ?_
        by_cases j0 : j = 0
        · refine ra_if_eq (q := 49) A d_Mo_body_35 (by decide) (fun _ => ?_) (fun cc => absurd ((by rw [j0]; rfl)) cc)
          exact at49 (by omega)
        · refine ra_if_eq (q := 49) A d_Mo_body_35 (by decide) (fun cc => absurd cc (ej 0 (by decide) j0)) (fun _ => ?_)
          exact at38 (by omega)
      · refine ra_icmp_ne (q := 38) A d_Mo_body_31 (by decide) (fun _ => ?_) (fun cc => absurd cc (ec 9 (by decide) c9))
        exact at38 (by omega)
    refine ra_iload_n A d_Mo_body_17 rfl <| ra_bipush A 8 d_Mo_body_18 (by decide) <| ?_
    by_cases c8 : c = 8
    · refine ra_icmp_ne (q := 28) A d_Mo_body_20 (by decide) (fun cc => absurd ((by rw [c8]; rfl)) cc) (fun _ => ?_)
      refine ra_iload_n A d_Mo_body_23 rfl <| ra_iconst A 1 d_Mo_body_24 (by decide) <| ?_
      by_cases j1 : j = 1
      · refine ra_icmp_eq (q := 49) A d_Mo_body_25 (by decide) (fun _ => ?_) (fun cc => absurd ((by rw [j1]; rfl)) cc)
        exact at49 (by omega)
      · refine ra_icmp_eq (q := 49) A d_Mo_body_25 (by decide) (fun cc => absurd cc (ej 1 (by decide) j1)) (fun _ => ?_)
        exact at28 (by omega)
    · refine ra_icmp_ne (q := 28) A d_Mo_body_20 (by decide) (fun _ => ?_) (fun cc => absurd cc (ec 8 (by decide) c8))
      exact at28 (by omega)
  -- the subframes
  unfold rTl at hq
  have hq0 := hq
  unfold rBd at hq
  refine ra_iconst A 0 d_Mo_body_0 (by decide) <| ra_istore_n (L' := [_, _, _, _, _]) A d_Mo_body_1 (by decide) rfl <| ra_iload_n A d_Mo_body_2 rfl <| ra_aload_n A d_Mo_body_3 rfl <| ra_getI A f_Mo_365 d_Mo_body_4 (Nat.le_of_ble_eq_true rfl) rfl rfl <| ?_
  rw [I.2.1]
  refine ra_icmp_ge (q := 83) A d_Mo_body_7 (by decide) (fun cc => absurd cc (nI_ge (a := 0) (by omega) (by omega))) (fun _ => ?_)
  refine ra_aload_n A d_Mo_body_10 rfl <| ra_getI A f_Mo_386 d_Mo_body_11 (Nat.le_of_ble_eq_true rfl) rfl rfl <| ?_
  refine ra_if_ne (q := 83) A d_Mo_body_14 (by decide) (fun cc => absurd (M.2.2.1.2) cc) (fun _ => ?_)
  refine at17 0 h _ (by decide) I (fun v4 => ?_)
  rw [show (if (c = 8 ∧ 0 = 1) ∨ (c = 9 ∧ 0 = 0) ∨ (c = 10 ∧ 0 = 1) then 1 else 0) = (if c = 9 then 1 else 0) by by_cases c9 : c = 9 <;> simp [c9]]
  have hw9 : (if c = 9 then 1 else 0) ≤ 1 := by split <;> omega
  have hw8 : (if c = 8 ∨ c = 10 then 1 else 0) ≤ 1 := by split <;> omega
  refine ra_callV (As := [_, _, _]) A ok_Mo_subframe l_Mo_431 im_Mo_subframe sl_Mo_subframe d_Mo_body_74 (Nat.le_of_ble_eq_true rfl) rfl rfl rfl (Nat.le_of_ble_eq_true rfl) (xr_of at0 (by decide)) (s_Mo_subframe K (j := 0) M (by decide) (by omega) (by omega) hn1 (by omega) rfl (fun r0 p3 g1 e1 f1 M1 hr0 => ?_) (fun e p3 g1 e1 f1 M1 he => ?_))
  rotate_left
  · show xg x (y0 u) 0 0 77 _ _ g1
    rw [e1, rb_l, rb_l] at hq
    refine ra_iinc (L' := [_, _, _, _, _]) A 1 d_Mo_body_77 rfl (by decide) (by decide) rfl <| ra_goto (q := 2) A d_Mo_body_80 (by decide) <| ?_
    exact dead2 e p3 g1 _ _ hq.symm f1.bf M1 he
  show xg x (y0 u) 0 0 77 _ _ g1
  have b0 := rSub_bd (by omega) (by omega) e1
  rw [e1, rb_r] at hq
  have I1 := I.fm f1.1 (by decide) (by decide) (by decide) (by decide) (by decide)
  have k153 : g1.1 153 = h.1 153 := fmk f1.1 (by decide) (by decide)
  refine ra_iinc (L' := [_, _, _, _, _]) A 1 d_Mo_body_77 rfl (by decide) (by decide) rfl <| ra_goto (q := 2) A d_Mo_body_80 (by decide) <| ra_iload_n A d_Mo_body_2 rfl <| ra_aload_n A d_Mo_body_3 rfl <| ra_getI A f_Mo_365 d_Mo_body_4 (Nat.le_of_ble_eq_true rfl) rfl rfl <| ?_
  rw [I1.2.1]
  rcases hC with hC | hC
  · rw [if_neg (by omega), rb_r] at hq
    rw [hC]
    refine ra_icmp_ge (q := 83) A d_Mo_body_7 (by decide) (fun _ => ?_) (fun cc => absurd ((by decide)) cc)
    have h0 := hc11.2.2 hC
    have es1 : ∀ x y : Int32, sepM c x y = (x, y) := fun x y => by unfold sepM; rw [if_neg (by omega), if_neg (by omega), if_neg (by omega)]
    have hbase : ∀ i, i < n → g1.1 154 i = r0 i := fun i hi => by have := hr0 i hi; rwa [show 1200 * 0 + i = i by omega] at this
    have hokA : ∀ i, i < n → okM (iDp F) (iCh F) (sepM c (g1.1 154 i) (g1.1 154 (1200 + i))) = true := by
      intro i hi
      have hb := b0 i hi
      rw [if_neg (by omega), Nat.add_zero] at hb
      rw [es1, hbase i hi]
      unfold okM
      dsimp only
      rw [(rng_bd (by omega)).mpr hb, decide_eq_true hC]
      rfl
    refine at83 p3 g1 _ _ (rSub_g _ _ e1) f1.bf M1 I1 (by rw [f1.1.2.1 33 (by decide)]; exact e33) (by rw [f1.1.2.1 34 (by decide)]; exact e34) k153 (fun i hi hb => ?_) (fun _ => ⟨_, hq, fun i hi => ?_⟩)
    · rw [hokA i hi] at hb; cases hb
    · rw [es1]
      exact ⟨hbase i hi, fun z => by omega⟩
  · rw [if_pos hC] at hq
    rw [hC]
    refine ra_icmp_ge (q := 83) A d_Mo_body_7 (by decide) (fun cc => absurd cc ((by decide))) (fun _ => ?_)
    refine ra_aload_n A d_Mo_body_10 rfl <| ra_getI A f_Mo_386 d_Mo_body_11 (Nat.le_of_ble_eq_true rfl) rfl rfl <| ?_
    refine ra_if_ne (q := 83) A d_Mo_body_14 (by decide) (fun cc => absurd (M1.2.2.1.2) cc) (fun _ => ?_)
    refine at17 1 g1 _ (by decide) I1 (fun v4 => ?_)
    rw [show (if (c = 8 ∧ 1 = 1) ∨ (c = 9 ∧ 1 = 0) ∨ (c = 10 ∧ 1 = 1) then 1 else 0) = (if c = 8 ∨ c = 10 then 1 else 0) by by_cases c8 : c = 8 <;> by_cases c10 : c = 10 <;> simp [c8, c10]]
    refine ra_callV (As := [_, _, _]) A ok_Mo_subframe l_Mo_431 im_Mo_subframe sl_Mo_subframe d_Mo_body_74 (Nat.le_of_ble_eq_true rfl) rfl rfl rfl (Nat.le_of_ble_eq_true rfl) (xr_of at0 (by decide)) (s_Mo_subframe K (j := 1) M1 (by decide) (by omega) (by omega) hn1 (by omega) rfl (fun r1 p4 g2 e2 f2 M2 hr1 => ?_) (fun e p4 g2 e2 f2 M2 he => ?_))
    rotate_left
    · show xg x (y0 u) 0 0 77 _ _ g2
      rw [e2, rb_l, rb_l] at hq
      refine ra_iinc (L' := [_, _, _, _, _]) A 1 d_Mo_body_77 rfl (by decide) (by decide) rfl <| ra_goto (q := 2) A d_Mo_body_80 (by decide) <| ?_
      exact dead2 e p4 g2 _ _ hq.symm (f1.bf.trans f2.bf) M2 he
    show xg x (y0 u) 0 0 77 _ _ g2
    have b1 := rSub_bd (by omega) (by omega) e2
    rw [e2, rb_r] at hq
    have I2 := I1.fm f2.1 (by decide) (by decide) (by decide) (by decide) (by decide)
    refine ra_iinc (L' := [_, _, _, _, _]) A 1 d_Mo_body_77 rfl (by decide) (by decide) rfl <| ra_goto (q := 2) A d_Mo_body_80 (by decide) <| ra_iload_n A d_Mo_body_2 rfl <| ra_aload_n A d_Mo_body_3 rfl <| ra_getI A f_Mo_365 d_Mo_body_4 (Nat.le_of_ble_eq_true rfl) rfl rfl <| ?_
    rw [I2.2.1, hC]
    refine ra_icmp_ge (q := 83) A d_Mo_body_7 (by decide) (fun _ => ?_) (fun cc => absurd ((by decide)) cc)
    have hb0 : ∀ i, i < n → g2.1 154 i = r0 i := fun i hi => by
      have := hr0 i hi
      rw [show 1200 * 0 + i = i by omega] at this
      rw [f2.2 i (Or.inl (by omega)), this]
    have hb1 : ∀ i, i < n → g2.1 154 (1200 + i) = r1 i := fun i hi => by have := hr1 i hi; rwa [show 1200 * 1 + i = 1200 + i by omega] at this
    have w25 : ∀ {b : Nat} {v : Int32}, b ≤ 25 → bd b v → bd 25 v := fun {b v} hb hv => by
      have hp : 2 ^ (b - 1) ≤ 2 ^ 24 := Nat.pow_le_pow_right (by decide) (by omega)
      have e24 : (2 : Nat) ^ (25 - 1) = 2 ^ 24 := rfl
      unfold bd at hv ⊢
      rw [e24]
      omega
    have hsm : ∀ i, i < n → sepM c (g2.1 154 i) (g2.1 154 (1200 + i)) = sep c (r0 i) (r1 i) := fun i hi => by
      rw [hb0 i hi, hb1 i hi]
      exact sep_M (w25 (by omega) (b0 i hi)) (w25 (by omega) (b1 i hi))
    refine at83 p4 g2 _ _ (Nat.le_trans (rSub_g _ _ e1) (rSub_g _ _ e2)) (f1.bf.trans f2.bf) M2 I2 (by rw [f2.1.2.1 33 (by decide), f1.1.2.1 33 (by decide)]; exact e33) (by rw [f2.1.2.1 34 (by decide), f1.1.2.1 34 (by decide)]; exact e34) ((fmk f2.1 (by decide) (by decide)).trans k153) (fun i hi hb => ?_) (fun hg => ?_)
    · rw [hsm i hi] at hb
      rw [if_neg, rb_l] at hq
      · exact hq.symm
      · intro hok
        unfold okS at hok
        rw [List.all_eq_true] at hok
        have := hok i (List.mem_range.mpr hi)
        unfold okM at hb
        rw [hC] at hb
        rw [show (decide (2 = 1) || rng (iDp F) (sep c (r0 i) (r1 i)).2) = rng (iDp F) (sep c (r0 i) (r1 i)).2 from rfl, this] at hb
        cases hb
    · rw [if_pos, rb_r] at hq
      · refine ⟨_, hq, fun i hi => ?_⟩
        rw [hsm i hi]
        exact ⟨rfl, fun _ => rfl⟩
      · unfold okS
        rw [List.all_eq_true]
        intro i hi
        have hi := List.mem_range.mp hi
        have := hg i hi
        rw [hsm i hi] at this
        unfold okM at this
        rw [hC] at this
        exact this
end S9g
