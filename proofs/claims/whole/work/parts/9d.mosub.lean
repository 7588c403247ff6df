/-! SoundStreamModel: subframe -/
theorem rb_assoc {α β γ : Type} {x : Rr α} {f : α → Nat → Rr β} {k : β → Nat → Rr γ} : rb (rb x f) k = rb x (fun a p => rb (f a p) k) := by cases x <;> rfl
theorem rPl_1 {F : Nat → Bool} {L w p : Nat} : rPl F L w 1 p = rb (rS F L w p) (fun v p' => .inr (upd (fun _ => 0) 0 v, p')) := rfl
section S9d
variable {u : xu_T} {l : Launch} {KK : State → Prop} {h : xw_H} {X : xc_R → xw_H → Nat → Nat → Prop}
theorem s_Mo_subframe (K : xk_ok u KK) {F : Nat → Bool} {L p j b n : Nat} {Q : Rr (Nat → Int32)} (M : MR h F L 0 p) (hj : j < 2) (hb1 : 2 ≤ b) (hb : b ≤ 25) (hn1 : 1 ≤ n) (hn : n ≤ 1200) (hq : rSub F L n b p = Q)
    (hX : ∀ row' p' h', Q = .inr (row', p') → MP j h h' → MR h' F L 0 p' → (∀ r, r < n → h'.1 154 (1200 * j + r) = row' r) → X (.inl none) h' 0 0) (hY : ∀ x p' h', Q = .inl x → MP j h h' → MR h' F L x p' → x ≠ 0 → X (.inl none) h' 0 0) : xm_M l (y0 u) KK m_Mo_subframe [.ref 141, .int (nI j), .int (nI b), .int (nI n)] h X := by
  refine xm_of [none, none, none, none, none, none, none] (by simp) (Nat.le_of_ble_eq_true rfl) (by decide) (fun x at0 => ?_)
  have A := xa_of at0 K
  have ow := at0.2.2.2.2.1
  have ne : ∀ {g : xw_H} {e p : Nat}, MR g F L e p → e ≠ 0 → ¬ g.1 141 22 = 0 := fun M h0 => by rw [M.2.2.1.2]; exact nI_ne0 (by omega) (by have := M.2.2.2.2.2; omega)
  have m1200 : (1200 : Int32) * nI j = nI (1200 * j) := pk_mul 1200 j
  -- a fault
  have dead271 : ∀ e p' g (z4 z5 z6 z7 z8 z9 z10 : Int32), Q = .inl e → MP j h g → MR g F L e p' → e ≠ 0 → xg x (y0 u) 0 0 271 [some (.ref 141), some (.int (nI j)), some (.int (nI b)), some (.int (nI n)), some (.int z4), some (.int z5), some (.int z6), some (.int z7), some (.int z8), some (.int z9), some (.int z10)] [] g := by
    intro e p' g z4 z5 z6 z7 z8 z9 z10 hQ hf hM he
    refine ra_iload A d_Mo_subframe_271 rfl <| ra_iload_n A d_Mo_subframe_273 rfl <| ?_
    refine ra_icmp_ge (q := 319) A d_Mo_subframe_274 (by decide) (fun c => ?_) (fun c => ?_)
    · exact ra_vret A ow d_Mo_subframe_319 (hY e p' g hQ hf hM he)
    · refine ra_aload_n A d_Mo_subframe_277 rfl <| ra_getI A f_Mo_386 d_Mo_subframe_278 (Nat.le_of_ble_eq_true rfl) rfl rfl <| ?_
      refine ra_if_ne (q := 319) A d_Mo_subframe_281 (by decide) (fun _ => ?_) (fun cc => absurd cc (ne hM he))
      exact ra_vret A ow d_Mo_subframe_319 (hY e p' g hQ hf hM he)
  have dead242 : ∀ e p' g (z4 z5 z6 z7 z8 z9 : Int32) v10, Q = .inl e → MP j h g → MR g F L e p' → e ≠ 0 → xg x (y0 u) 0 0 242 [some (.ref 141), some (.int (nI j)), some (.int (nI b)), some (.int (nI n)), some (.int z4), some (.int z5), some (.int z6), some (.int z7), some (.int z8), some (.int z9), v10] [] g := by
    intro e p' g z4 z5 z6 z7 z8 z9 v10 hQ hf hM he
    refine ra_iload A d_Mo_subframe_242 rfl <| ra_bipush A 7 d_Mo_subframe_244 (by decide) <| ?_
    refine ra_icmp_le (q := 268) A d_Mo_subframe_246 (by decide) (fun c => ?_) (fun c => ?_)
    · refine ra_iconst A 0 d_Mo_subframe_268 (by decide) <| ra_istore (L' := [_, _, _, _, _, _, _, _, _, _, _]) A d_Mo_subframe_269 (by decide) rfl <| ?_
      exact dead271 e p' g _ _ _ _ _ _ _ hQ hf hM he
    · refine ra_aload_n A d_Mo_subframe_249 rfl <| ra_getI A f_Mo_386 d_Mo_subframe_250 (Nat.le_of_ble_eq_true rfl) rfl rfl <| ?_
      refine ra_if_ne (q := 268) A d_Mo_subframe_253 (by decide) (fun _ => ?_) (fun cc => absurd cc (ne hM he))
      refine ra_iconst A 0 d_Mo_subframe_268 (by decide) <| ra_istore (L' := [_, _, _, _, _, _, _, _, _, _, _]) A d_Mo_subframe_269 (by decide) rfl <| ?_
      exact dead271 e p' g _ _ _ _ _ _ _ hQ hf hM he
  -- all samples equal
  have cp : ∀ e p' g (z4 z5 z6 z7 z8 z9 : Int32) v10, MP j h g → MR g F L e p' → (∀ g' z10, MP j h g' → MR g' F L e p' → (∀ r, r < n → g'.1 154 (1200 * j + r) = g.1 154 (1200 * j)) → xg x (y0 u) 0 0 242 [some (.ref 141), some (.int (nI j)), some (.int (nI b)), some (.int (nI n)), some (.int z4), some (.int z5), some (.int z6), some (.int z7), some (.int z8), some (.int z9), some (.int z10)] [] g') → xg x (y0 u) 0 0 204 [some (.ref 141), some (.int (nI j)), some (.int (nI b)), some (.int (nI n)), some (.int z4), some (.int z5), some (.int z6), some (.int z7), some (.int z8), some (.int z9), v10] [] g := by
    intro e p' g z4 z5 z6 z7 z8 z9 v10 hf hM hc
    refine ra_iconst A 1 d_Mo_subframe_204 (by decide) <| ra_istore (L' := [_, _, _, _, _, _, _, _, _, _, _]) A d_Mo_subframe_205 (by decide) rfl <| ?_
    refine lp_up (σ := xw_H) (W := fun i g' => xg x (y0 u) 0 0 207 [some (.ref 141), some (.int (nI j)), some (.int (nI b)), some (.int (nI n)), some (.int z4), some (.int z5), some (.int z6), some (.int z7), some (.int z8), some (.int z9), some (.int (nI i))] [] g') (I := fun i g' => 1 ≤ i ∧ MP j h g' ∧ MR g' F L e p' ∧ ∀ r, r < i → g'.1 154 (1200 * j + r) = g.1 154 (1200 * j)) n ?_ ?_ 1 g hn1 ⟨Nat.le_refl _, hf, hM, fun r hr => by rw [show r = 0 by omega]; rfl⟩
    · rintro g' ⟨h1, hf', hM', hr⟩
      refine ra_iload A d_Mo_subframe_207 rfl <| ra_iload_n A d_Mo_subframe_209 rfl <| ?_
      refine ra_icmp_ge (q := 242) A d_Mo_subframe_210 (by decide) (fun _ => ?_) (fun cc => absurd (Int32.le_refl _) cc)
      exact hc g' _ hf' hM' hr
    · rintro i g' hi ⟨h1, hf', hM', hr⟩ ih
      refine ra_iload A d_Mo_subframe_207 rfl <| ra_iload_n A d_Mo_subframe_209 rfl <| ?_
      refine ra_icmp_ge (q := 242) A d_Mo_subframe_210 (by decide) (fun cc => absurd cc (nI_ge hi (by omega))) (fun _ => ?_)
      refine ra_aload_n A d_Mo_subframe_213 rfl <| ra_getR A f_Mo_191 d_Mo_subframe_214 (Nat.le_of_ble_eq_true rfl) rfl rfl rfl <| ra_sipush A 1200 d_Mo_subframe_217 (by decide) <| ra_iload_n A d_Mo_subframe_220 rfl <| ra_imul A d_Mo_subframe_221 <| ?_
      rw [m1200]
      refine ra_iload A d_Mo_subframe_222 rfl <| ra_iadd A d_Mo_subframe_224 <| ?_
      rw [nI_add]
      refine ra_aload_n A d_Mo_subframe_225 rfl <| ra_getR A f_Mo_191 d_Mo_subframe_226 (Nat.le_of_ble_eq_true rfl) rfl rfl rfl <| ra_sipush A 1200 d_Mo_subframe_229 (by decide) <| ra_iload_n A d_Mo_subframe_232 rfl <| ra_imul A d_Mo_subframe_233 <| ?_
      rw [m1200]
      refine ra_iaload A d_Mo_subframe_234 (Nat.le_of_ble_eq_true rfl) rfl (vp_in_nI (by omega) (by decide)) ?_
      rw [nI_clamp (by omega)]
      refine ra_iastore A d_Mo_subframe_235 (Nat.le_of_ble_eq_true rfl) rfl (vp_in_nI (by omega) (by decide)) ?_
      rw [nI_clamp (by omega)]
      refine ra_iinc (L' := [_, _, _, _, _, _, _, _, _, _, _]) A 1 d_Mo_subframe_236 rfl (by decide) (by decide) rfl <| ra_goto (q := 207) A d_Mo_subframe_239 (by decide) <| ?_
      rw [nI_1]
      refine ih _ ⟨by omega, hf'.trans (MP_I (by omega) (by omega)), MR_I hM' (by decide) (by decide), fun r hr' => ?_⟩
      have h0 : g'.1 154 (1200 * j) = g.1 154 (1200 * j) := hr 0 (by omega)
      by_cases c : r = i
      · subst c; rw [xI_e]; exact h0
      · rw [xI_j (by omega)]; exact hr r (by omega)
  have dead199 : ∀ e p' g (z4 z5 z6 z7 z8 z9 : Int32) v10, Q = .inl e → MP j h g → MR g F L e p' → e ≠ 0 → xg x (y0 u) 0 0 199 [some (.ref 141), some (.int (nI j)), some (.int (nI b)), some (.int (nI n)), some (.int z4), some (.int z5), some (.int z6), some (.int z7), some (.int z8), some (.int z9), v10] [] g := by
    intro e p' g z4 z5 z6 z7 z8 z9 v10 hQ hf hM he
    refine ra_iload A d_Mo_subframe_199 rfl <| ?_
    refine ra_if_ne (q := 242) A d_Mo_subframe_201 (by decide) (fun c => ?_) (fun c => ?_)
    · exact dead242 e p' g _ _ _ _ _ _ _ hQ hf hM he
    · exact cp e p' g _ _ _ _ _ _ _ hf hM (fun g' z10 hf' hM' _ => dead242 e p' g' _ _ _ _ _ _ _ hQ hf' hM' he)
  have dead160 : ∀ e p' g (z4 z5 z6 z7 z8 z9 z10 : Int32), Q = .inl e → MP j h g → MR g F L e p' → e ≠ 0 → xg x (y0 u) 0 0 160 [some (.ref 141), some (.int (nI j)), some (.int (nI b)), some (.int (nI n)), some (.int z4), some (.int z5), some (.int z6), some (.int z7), some (.int z8), some (.int z9), some (.int z10)] [] g := by
    intro e p' g z4 z5 z6 z7 z8 z9 z10 hQ hf hM he
    refine ra_iload A d_Mo_subframe_160 rfl <| ra_iload A d_Mo_subframe_162 rfl <| ?_
    refine ra_icmp_ge (q := 199) A d_Mo_subframe_164 (by decide) (fun c => ?_) (fun c => ?_)
    · exact dead199 e p' g _ _ _ _ _ _ _ hQ hf hM he
    · refine ra_aload_n A d_Mo_subframe_167 rfl <| ra_getI A f_Mo_386 d_Mo_subframe_168 (Nat.le_of_ble_eq_true rfl) rfl rfl <| ?_
      refine ra_if_ne (q := 199) A d_Mo_subframe_171 (by decide) (fun _ => ?_) (fun cc => absurd cc (ne hM he))
      exact dead199 e p' g _ _ _ _ _ _ _ hQ hf hM he
  have dead134 : ∀ e p' g (z4 z5 z6 z7 z8 : Int32), Q = .inl e → MP j h g → MR g F L e p' → e ≠ 0 → xg x (y0 u) 0 0 134 [some (.ref 141), some (.int (nI j)), some (.int (nI b)), some (.int (nI n)), some (.int z4), some (.int z5), some (.int z6), some (.int z7), some (.int z8), none, none] [] g := by
    intro e p' g z4 z5 z6 z7 z8 hQ hf hM he
    refine ra_iload A d_Mo_subframe_134 rfl <| ?_
    refine ra_if_ne (q := 143) A d_Mo_subframe_136 (by decide) (fun c => ?_) (fun c => ?_)
    · refine ra_iload A d_Mo_subframe_143 rfl <| ra_iconst A 1 d_Mo_subframe_145 (by decide) <| ?_
      refine ra_icmp_ne (q := 153) A d_Mo_subframe_146 (by decide) (fun c => ?_) (fun c => ?_)
      · refine ra_iload A d_Mo_subframe_153 rfl <| ra_istore (L' := [_, _, _, _, _, _, _, _, _, _, _]) A d_Mo_subframe_155 (by decide) rfl <| ra_iconst A 0 d_Mo_subframe_157 (by decide) <| ra_istore (L' := [_, _, _, _, _, _, _, _, _, _, _]) A d_Mo_subframe_158 (by decide) rfl <| ?_
        exact dead160 e p' g _ _ _ _ _ _ _ hQ hf hM he
      · refine ra_iload_n A d_Mo_subframe_149 rfl <| ra_goto (q := 155) A d_Mo_subframe_150 (by decide) <| ra_istore (L' := [_, _, _, _, _, _, _, _, _, _, _]) A d_Mo_subframe_155 (by decide) rfl <| ra_iconst A 0 d_Mo_subframe_157 (by decide) <| ra_istore (L' := [_, _, _, _, _, _, _, _, _, _, _]) A d_Mo_subframe_158 (by decide) rfl <| ?_
        exact dead160 e p' g _ _ _ _ _ _ _ hQ hf hM he
    · refine ra_iconst A 1 d_Mo_subframe_139 (by decide) <| ra_goto (q := 155) A d_Mo_subframe_140 (by decide) <| ra_istore (L' := [_, _, _, _, _, _, _, _, _, _, _]) A d_Mo_subframe_155 (by decide) rfl <| ra_iconst A 0 d_Mo_subframe_157 (by decide) <| ra_istore (L' := [_, _, _, _, _, _, _, _, _, _, _]) A d_Mo_subframe_158 (by decide) rfl <| ?_
      exact dead160 e p' g _ _ _ _ _ _ _ hQ hf hM he
  have dead117 : ∀ e p' g (z4 z5 z6 z7 z8 : Int32), Q = .inl e → MP j h g → MR g F L e p' → e ≠ 0 → xg x (y0 u) 0 0 117 [some (.ref 141), some (.int (nI j)), some (.int (nI b)), some (.int (nI n)), some (.int z4), some (.int z5), some (.int z6), some (.int z7), some (.int z8), none, none] [] g := by
    intro e p' g z4 z5 z6 z7 z8 hQ hf hM he
    refine ra_aload_n A d_Mo_subframe_117 rfl <| ra_iload A d_Mo_subframe_118 rfl <| ra_iload_n A d_Mo_subframe_120 rfl <| ?_
    refine ra_icmp_gt (q := 128) A d_Mo_subframe_121 (by decide) (fun c => ?_) (fun c => ?_)
    · refine ra_iconst A 0 d_Mo_subframe_128 (by decide) <| ra_bipush A 9 d_Mo_subframe_129 (by decide) <| ?_
      refine ra_callV (As := [_, _]) A ok_Mo_want l_Mo_409 im_Mo_want sl_Mo_want d_Mo_subframe_131 (Nat.le_of_ble_eq_true rfl) rfl rfl rfl (Nat.le_of_ble_eq_true rfl) (xr_of at0 (by decide)) (s_Mo_wantF K (ne hM he) ?_)
      show xg x (y0 u) 0 0 134 _ _ g
      exact dead134 e p' g _ _ _ _ _ hQ hf hM he
    · refine ra_iconst A 1 d_Mo_subframe_124 (by decide) <| ra_goto (q := 129) A d_Mo_subframe_125 (by decide) <| ra_bipush A 9 d_Mo_subframe_129 (by decide) <| ?_
      refine ra_callV (As := [_, _]) A ok_Mo_want l_Mo_409 im_Mo_want sl_Mo_want d_Mo_subframe_131 (Nat.le_of_ble_eq_true rfl) rfl rfl rfl (Nat.le_of_ble_eq_true rfl) (xr_of at0 (by decide)) (s_Mo_wantF K (ne hM he) ?_)
      show xg x (y0 u) 0 0 134 _ _ g
      exact dead134 e p' g _ _ _ _ _ hQ hf hM he
  have dead76 : ∀ e p' g (z4 z5 z6 : Int32), Q = .inl e → MP j h g → MR g F L e p' → e ≠ 0 → xg x (y0 u) 0 0 76 [some (.ref 141), some (.int (nI j)), some (.int (nI b)), some (.int (nI n)), some (.int z4), some (.int z5), none, none, none, none, none] [.int z6] g := by
    intro e p' g z4 z5 z6 hQ hf hM he
    refine ra_istore (L' := [_, _, _, _, _, _, _, _, _, _, _]) A d_Mo_subframe_76 (by decide) rfl <| ra_iload_n A d_Mo_subframe_78 rfl <| ra_iload A d_Mo_subframe_79 rfl <| ra_isub A d_Mo_subframe_81 <| ra_istore (L' := [_, _, _, _, _, _, _, _, _, _, _]) A d_Mo_subframe_82 (by decide) rfl <| ra_iload A d_Mo_subframe_84 rfl <| ra_bipush A 31 d_Mo_subframe_86 (by decide) <| ?_
    refine ra_icmp_le (q := 99) A d_Mo_subframe_88 (by decide) (fun c => ?_) (fun c => ?_)
    · refine ra_iload A d_Mo_subframe_99 rfl <| ra_bipush A 7 d_Mo_subframe_101 (by decide) <| ?_
      refine ra_icmp_le (q := 114) A d_Mo_subframe_103 (by decide) (fun c => ?_) (fun c => ?_)
      · refine ra_iconst A 0 d_Mo_subframe_114 (by decide) <| ra_istore (L' := [_, _, _, _, _, _, _, _, _, _, _]) A d_Mo_subframe_115 (by decide) rfl <| ?_
        exact dead117 e p' g _ _ _ _ _ hQ hf hM he
      · refine ra_iload A d_Mo_subframe_106 rfl <| ra_bipush A 8 d_Mo_subframe_108 (by decide) <| ra_isub A d_Mo_subframe_110 <| ra_goto (q := 115) A d_Mo_subframe_111 (by decide) <| ra_istore (L' := [_, _, _, _, _, _, _, _, _, _, _]) A d_Mo_subframe_115 (by decide) rfl <| ?_
        exact dead117 e p' g _ _ _ _ _ hQ hf hM he
    · refine ra_iload A d_Mo_subframe_91 rfl <| ra_bipush A 31 d_Mo_subframe_93 (by decide) <| ra_isub A d_Mo_subframe_95 <| ra_goto (q := 115) A d_Mo_subframe_96 (by decide) <| ra_istore (L' := [_, _, _, _, _, _, _, _, _, _, _]) A d_Mo_subframe_115 (by decide) rfl <| ?_
      exact dead117 e p' g _ _ _ _ _ hQ hf hM he
  have dead52 : ∀ e p' g (z4 z5 : Int32), Q = .inl e → MP j h g → MR g F L e p' → e ≠ 0 → xg x (y0 u) 0 0 52 [some (.ref 141), some (.int (nI j)), some (.int (nI b)), some (.int (nI n)), some (.int z4), some (.int z5), none, none, none, none, none] [] g := by
    intro e p' g z4 z5 hQ hf hM he
    refine ra_aload_n A d_Mo_subframe_52 rfl <| ra_getI A f_Mo_386 d_Mo_subframe_53 (Nat.le_of_ble_eq_true rfl) rfl rfl <| ?_
    refine ra_if_ne (q := 75) A d_Mo_subframe_56 (by decide) (fun _ => ?_) (fun cc => absurd cc (ne hM he))
    refine ra_iconst A 0 d_Mo_subframe_75 (by decide) <| ?_
    exact dead76 e p' g _ _ _ hQ hf hM he
  unfold rSub at hq
  refine ra_aload_n A d_Mo_subframe_0 rfl <| ra_bipush A 8 d_Mo_subframe_1 (by decide) <| ?_
  refine ra_callV (As := [_]) A ok_Mo_next l_Mo_394 im_Mo_next sl_Mo_next d_Mo_subframe_3 (Nat.le_of_ble_eq_true rfl) rfl rfl rfl (Nat.le_of_ble_eq_true rfl) (xr_of at0 (by decide)) (s_Mo_next K (n := 8) M (by decide) rfl (fun lead p1 g1 e1 f1 M1 hlead => ?_) (fun e g1 e1 f1 M1 he => ?_))
  rotate_left
  · show xg x (y0 u) 0 0 6 _ _ g1
    rw [e1, rb_l] at hq
    refine ra_l2i A d_Mo_subframe_6 <| ra_istore (L' := [_, _, _, _, _, _, _, _, _, _, _]) A d_Mo_subframe_7 (by decide) rfl <| ra_iload A d_Mo_subframe_9 rfl <| ra_iconst A 1 d_Mo_subframe_11 (by decide) <| ra_ishr A d_Mo_subframe_12 <| ra_bipush A 63 d_Mo_subframe_13 (by decide) <| ra_iand A d_Mo_subframe_15 <| ra_istore (L' := [_, _, _, _, _, _, _, _, _, _, _]) A d_Mo_subframe_16 (by decide) rfl <| ra_aload_n A d_Mo_subframe_18 rfl <| ra_getI A f_Mo_386 d_Mo_subframe_19 (Nat.le_of_ble_eq_true rfl) rfl rfl <| ?_
    refine ra_if_ne (q := 52) A d_Mo_subframe_22 (by decide) (fun _ => ?_) (fun cc => absurd cc (ne M1 he))
    exact dead52 e p g1 _ _ hq.symm (f1.mp (j := j)) M1 he
  show xg x (y0 u) 0 0 6 _ _ g1
  rw [e1, rb_r] at hq
  have hf1 : MP j h g1 := f1.mp (j := j)
  refine ra_l2i A d_Mo_subframe_6 <| ?_
  rw [lN_i]
  refine ra_istore (L' := [_, _, _, _, _, _, _, _, _, _, _]) A d_Mo_subframe_7 (by decide) rfl <| ra_iload A d_Mo_subframe_9 rfl <| ra_iconst A 1 d_Mo_subframe_11 (by decide) <| ra_ishr A d_Mo_subframe_12 <| ?_
  rw [pk_shrN (k := 1) (by omega) _ (by decide)]
  refine ra_bipush A 63 d_Mo_subframe_13 (by decide) <| ra_iand A d_Mo_subframe_15 <| ?_
  rw [pk_andN (k := 6) (by omega) (by decide), show lead / 2 ^ 1 % 2 ^ 6 = lead / 2 % 64 from rfl]
  have ht64 : lead / 2 % 64 < 64 := Nat.mod_lt _ (by decide)
  generalize ht : lead / 2 % 64 = t at hq ht64 ⊢
  refine ra_istore (L' := [_, _, _, _, _, _, _, _, _, _, _]) A d_Mo_subframe_16 (by decide) rfl <| ra_aload_n A d_Mo_subframe_18 rfl <| ra_getI A f_Mo_386 d_Mo_subframe_19 (Nat.le_of_ble_eq_true rfl) rfl rfl <| ?_
  refine ra_if_ne (q := 52) A d_Mo_subframe_22 (by decide) (fun cc => absurd (M1.2.2.1.2) cc) (fun _ => ?_)
  refine ra_aload_n A d_Mo_subframe_25 rfl <| ra_iload A d_Mo_subframe_26 rfl <| ra_sipush A 128 d_Mo_subframe_28 (by decide) <| ?_
  have no : ¬ (lead < 128 ∧ isT t = true) → xg x (y0 u) 0 0 46 [some (.ref 141), some (.int (nI j)), some (.int (nI b)), some (.int (nI n)), some (.int (nI lead)), some (.int (nI t)), none, none, none, none, none] [.ref 141] g1 := by
    intro c
    rw [if_neg c] at hq
    refine ra_iconst A 0 d_Mo_subframe_46 (by decide) <| ra_bipush A 9 d_Mo_subframe_47 (by decide) <| ?_
    refine ra_callV (As := [_, _]) A ok_Mo_want l_Mo_409 im_Mo_want sl_Mo_want d_Mo_subframe_49 (Nat.le_of_ble_eq_true rfl) rfl rfl rfl (Nat.le_of_ble_eq_true rfl) (xr_of at0 (by decide)) (s_Mo_want K (b := false) M1.2.2.1.2 (fun q => by cases q) (fun _ => ?_))
    show xg x (y0 u) 0 0 52 _ _ _
    exact dead52 9 p1 _ _ _ hq.symm (hf1.trans MP_F) (MR_F (x := 9) M1 (by decide)) (by decide)
  by_cases c1 : ¬ lead < 128
  · refine ra_icmp_ge (q := 46) A d_Mo_subframe_31 (by decide) (fun _ => ?_) (fun cc => absurd (nI_le (a := 128) (by omega) (by omega)) cc)
    exact no (fun z => c1 z.1)
  have c1 := Decidable.not_not.mp c1
  refine ra_icmp_ge (q := 46) A d_Mo_subframe_31 (by decide) (fun cc => absurd cc (nI_ge (b := 128) c1 (by decide))) (fun _ => ?_)
  refine ra_iload A d_Mo_subframe_34 rfl <| ?_
  refine ra_callS (As := [_]) A ok_Mo_isType l_Mo_437 st_Mo_isType d_Mo_subframe_36 rfl (Nat.le_of_ble_eq_true rfl) (xr_of at0 (by decide)) (s_Mo_isType K ht64 ?_)
  show xg x (y0 u) 0 0 39 _ _ g1
  cases c2 : isT t
  · refine ra_if_eq (q := 46) A d_Mo_subframe_39 (by decide) (fun _ => ?_) (fun cc => absurd (rfl) cc)
    exact no (fun z => by rw [c2] at z; exact absurd z.2 (by decide))
  rw [if_pos ⟨c1, c2⟩] at hq
  clear no
  refine ra_if_eq (q := 46) A d_Mo_subframe_39 (by decide) (fun cc => absurd cc ((by decide))) (fun _ => ?_)
  refine ra_iconst A 1 d_Mo_subframe_42 (by decide) <| ra_goto (q := 47) A d_Mo_subframe_43 (by decide) <| ra_bipush A 9 d_Mo_subframe_47 (by decide) <| ?_
  refine ra_callV (As := [_, _]) A ok_Mo_want l_Mo_409 im_Mo_want sl_Mo_want d_Mo_subframe_49 (Nat.le_of_ble_eq_true rfl) rfl rfl rfl (Nat.le_of_ble_eq_true rfl) (xr_of at0 (by decide)) (s_Mo_want K (b := true) M1.2.2.1.2 (fun _ => ?_) (fun q => by cases q))
  show xg x (y0 u) 0 0 52 _ _ g1
  have hT : t = 0 ∨ t = 1 ∨ 8 ≤ t := by
    unfold isT at c2
    simp at c2
    omega
  have hT4 : ¬ 32 ≤ t → oT t ≤ 4 := by
    intro c
    unfold isT at c2
    simp at c2
    unfold oT
    rw [if_neg c]
    split <;> omega
  have ho32 : oT t ≤ 33 - 1 := by
    unfold oT
    split
    · omega
    · split <;> omega
  have at76 : ∀ w g2 p2, w < b → MP j h g2 → MR g2 F L 0 p2 → rSb F L t w n b p2 = Q → xg x (y0 u) 0 0 76 [some (.ref 141), some (.int (nI j)), some (.int (nI b)), some (.int (nI n)), some (.int (nI lead)), some (.int (nI t)), none, none, none, none, none] [.int (nI w)] g2 := by
    clear hq
    intro w g2 p2 hw hf2 hM2 hq
    unfold rSb at hq
    -- the shift
    have fin : ∀ (row' : Nat → Int32) p' g (z4 z5 z7 z8 z9 : Int32), MP j h g → MR g F L 0 p' → (∀ r, r < n → g.1 154 (1200 * j + r) = row' r) → (Sum.inr ((fun i => row' i <<< (nI w &&& 31)), p') : Rr (Nat → Int32)) = Q → xg x (y0 u) 0 0 271 [some (.ref 141), some (.int (nI j)), some (.int (nI b)), some (.int (nI n)), some (.int z4), some (.int z5), some (.int (nI w)), some (.int z7), some (.int z8), some (.int z9), some (.int (nI 0))] [] g := by
      intro row' p' g z4 z5 z7 z8 z9 hf hM hr hQ
      refine lp_up (σ := xw_H) (W := fun i g' => xg x (y0 u) 0 0 271 [some (.ref 141), some (.int (nI j)), some (.int (nI b)), some (.int (nI n)), some (.int z4), some (.int z5), some (.int (nI w)), some (.int z7), some (.int z8), some (.int z9), some (.int (nI i))] [] g') (I := fun i g' => MP j h g' ∧ MR g' F L 0 p' ∧ (∀ r, r < i → g'.1 154 (1200 * j + r) = row' r <<< (nI w &&& 31)) ∧ ∀ r, i ≤ r → r < n → g'.1 154 (1200 * j + r) = row' r) n ?_ ?_ 0 g (Nat.zero_le _) ⟨hf, hM, fun r hr' => by omega, fun r _ hr' => hr r hr'⟩
      · rintro g' ⟨hf', hM', hr1, hr2⟩
        refine ra_iload A d_Mo_subframe_271 rfl <| ra_iload_n A d_Mo_subframe_273 rfl <| ?_
        refine ra_icmp_ge (q := 319) A d_Mo_subframe_274 (by decide) (fun _ => ?_) (fun cc => absurd (Int32.le_refl _) cc)
        exact ra_vret A ow d_Mo_subframe_319 (hX _ p' g' hQ.symm hf' hM' hr1)
      · rintro i g' hi ⟨hf', hM', hr1, hr2⟩ ih
        refine ra_iload A d_Mo_subframe_271 rfl <| ra_iload_n A d_Mo_subframe_273 rfl <| ?_
        refine ra_icmp_ge (q := 319) A d_Mo_subframe_274 (by decide) (fun cc => absurd cc (nI_ge hi (by omega))) (fun _ => ?_)
        refine ra_aload_n A d_Mo_subframe_277 rfl <| ra_getI A f_Mo_386 d_Mo_subframe_278 (Nat.le_of_ble_eq_true rfl) rfl rfl <| ?_
        refine ra_if_ne (q := 319) A d_Mo_subframe_281 (by decide) (fun cc => absurd (hM'.2.2.1.2) cc) (fun _ => ?_)
        refine ra_aload_n A d_Mo_subframe_284 rfl <| ra_getR A f_Mo_191 d_Mo_subframe_285 (Nat.le_of_ble_eq_true rfl) rfl rfl rfl <| ra_sipush A 1200 d_Mo_subframe_288 (by decide) <| ra_iload_n A d_Mo_subframe_291 rfl <| ra_imul A d_Mo_subframe_292 <| ?_
        rw [m1200]
        refine ra_iload A d_Mo_subframe_293 rfl <| ra_iadd A d_Mo_subframe_295 <| ?_
        rw [nI_add]
        refine ra_aload_n A d_Mo_subframe_296 rfl <| ra_getR A f_Mo_191 d_Mo_subframe_297 (Nat.le_of_ble_eq_true rfl) rfl rfl rfl <| ra_sipush A 1200 d_Mo_subframe_300 (by decide) <| ra_iload_n A d_Mo_subframe_303 rfl <| ra_imul A d_Mo_subframe_304 <| ?_
        rw [m1200]
        refine ra_iload A d_Mo_subframe_305 rfl <| ra_iadd A d_Mo_subframe_307 <| ?_
        rw [nI_add]
        refine ra_iaload A d_Mo_subframe_308 (Nat.le_of_ble_eq_true rfl) rfl (vp_in_nI (by omega) (by decide)) ?_
        rw [nI_clamp (by omega)]
        refine ra_iload A d_Mo_subframe_309 rfl <| ra_ishl A d_Mo_subframe_311 <| ?_
        refine ra_iastore A d_Mo_subframe_312 (Nat.le_of_ble_eq_true rfl) rfl (vp_in_nI (by omega) (by decide)) ?_
        rw [nI_clamp (by omega)]
        refine ra_iinc (L' := [_, _, _, _, _, _, _, _, _, _, _]) A 1 d_Mo_subframe_313 rfl (by decide) (by decide) rfl <| ra_goto (q := 271) A d_Mo_subframe_316 (by decide) <| ?_
        rw [nI_1, hr2 i (Nat.le_refl _) hi]
        refine ih _ ⟨hf'.trans (MP_I (by omega) (by omega)), MR_I hM' (by decide) (by decide), fun r hr' => ?_, fun r hr' hr'' => ?_⟩
        · by_cases c : r = i
          · subst c; rw [xI_e]
          · rw [xI_j (by omega)]; exact hr1 r (by omega)
        · rw [xI_j (by omega)]; exact hr2 r (by omega) hr''
    refine ra_istore (L' := [_, _, _, _, _, _, _, _, _, _, _]) A d_Mo_subframe_76 (by decide) rfl <| ra_iload_n A d_Mo_subframe_78 rfl <| ra_iload A d_Mo_subframe_79 rfl <| ra_isub A d_Mo_subframe_81 <| ?_
    rw [pk_sub (Nat.le_of_lt hw)]
    refine ra_istore (L' := [_, _, _, _, _, _, _, _, _, _, _]) A d_Mo_subframe_82 (by decide) rfl <| ra_iload A d_Mo_subframe_84 rfl <| ra_bipush A 31 d_Mo_subframe_86 (by decide) <| ?_
    -- plain samples
    have pl : ∀ (m : Nat) (z4 z8 : Int32), m ≤ 1200 → (∀ e, rPl F L (b - w) m p2 = .inl e → Q = .inl e) → (∀ row' p' g', rPl F L (b - w) m p2 = .inr (row', p') → MP j h g' → MR g' F L 0 p' → (∀ r, r < m → g'.1 154 (1200 * j + r) = row' r) → xg x (y0 u) 0 0 199 [some (.ref 141), some (.int (nI j)), some (.int (nI b)), some (.int (nI n)), some (.int z4), some (.int (nI t)), some (.int (nI w)), some (.int (nI (b - w))), some (.int z8), some (.int (nI m)), some (.int (nI m))] [] g') → xg x (y0 u) 0 0 160 [some (.ref 141), some (.int (nI j)), some (.int (nI b)), some (.int (nI n)), some (.int z4), some (.int (nI t)), some (.int (nI w)), some (.int (nI (b - w))), some (.int z8), some (.int (nI m)), some (.int (nI 0))] [] g2 := by
      intro m z4 z8 hm hd hc
      unfold rPl at hd hc
      generalize hst : (fun (i : Nat) (row : Nat → Int32) (p : Nat) => rb (rS F L (b - w) p) fun v p' => (Sum.inr (upd row i v, p') : Rr (Nat → Int32))) = step at hd hc
      refine lp_up (σ := xw_H) (W := fun i g => xg x (y0 u) 0 0 160 [some (.ref 141), some (.int (nI j)), some (.int (nI b)), some (.int (nI n)), some (.int z4), some (.int (nI t)), some (.int (nI w)), some (.int (nI (b - w))), some (.int z8), some (.int (nI m)), some (.int (nI i))] [] g) (I := fun i g => ∃ row' p', rL step (fun _ => 0) p2 i = .inr (row', p') ∧ MP j h g ∧ MR g F L 0 p' ∧ ∀ r, r < i → g.1 154 (1200 * j + r) = row' r) m ?_ ?_ 0 g2 (Nat.zero_le _) ⟨_, _, rfl, hf2, hM2, fun r hr => by omega⟩
      · rintro g ⟨row', p', e, hf, hM, hr⟩
        refine ra_iload A d_Mo_subframe_160 rfl <| ra_iload A d_Mo_subframe_162 rfl <| ?_
        refine ra_icmp_ge (q := 199) A d_Mo_subframe_164 (by decide) (fun _ => ?_) (fun cc => absurd (Int32.le_refl _) cc)
        exact hc row' p' g e hf hM hr
      · rintro i g hi ⟨row', p', e, hf, hM, hr⟩ ih
        have e3 := rL_s e
        rw [show step i row' p' = rb (rS F L (b - w) p') fun c p' => (Sum.inr (upd row' i c, p') : Rr (Nat → Int32)) by rw [← hst]] at e3
        refine ra_iload A d_Mo_subframe_160 rfl <| ra_iload A d_Mo_subframe_162 rfl <| ?_
        refine ra_icmp_ge (q := 199) A d_Mo_subframe_164 (by decide) (fun cc => absurd cc (nI_ge hi (by omega))) (fun _ => ?_)
        refine ra_aload_n A d_Mo_subframe_167 rfl <| ra_getI A f_Mo_386 d_Mo_subframe_168 (Nat.le_of_ble_eq_true rfl) rfl rfl <| ?_
        refine ra_if_ne (q := 199) A d_Mo_subframe_171 (by decide) (fun cc => absurd (hM.2.2.1.2) cc) (fun _ => ?_)
        refine ra_aload_n A d_Mo_subframe_174 rfl <| ra_getR A f_Mo_191 d_Mo_subframe_175 (Nat.le_of_ble_eq_true rfl) rfl rfl rfl <| ra_sipush A 1200 d_Mo_subframe_178 (by decide) <| ra_iload_n A d_Mo_subframe_181 rfl <| ra_imul A d_Mo_subframe_182 <| ?_
        rw [m1200]
        refine ra_iload A d_Mo_subframe_183 rfl <| ra_iadd A d_Mo_subframe_185 <| ?_
        rw [nI_add]
        refine ra_aload_n A d_Mo_subframe_186 rfl <| ra_iload A d_Mo_subframe_187 rfl <| ?_
        refine ra_callV (As := [_]) A ok_Mo_nextSigned l_Mo_443 im_Mo_nextSigned sl_Mo_nextSigned d_Mo_subframe_189 (Nat.le_of_ble_eq_true rfl) rfl rfl rfl (Nat.le_of_ble_eq_true rfl) (xr_of at0 (by decide)) (s_Mo_nextSigned K (n := b - w) hM (by omega) rfl (fun c3 p3 g3 e4 f3 M3 => ?_) (fun e' g3 e4 f3 M3 he => ?_))
        · show xg x (y0 u) 0 0 192 _ _ g3
          rw [e4, rb_r] at e3
          refine ra_iastore A d_Mo_subframe_192 (Nat.le_of_ble_eq_true rfl) rfl (vp_in_nI (by omega) (by decide)) ?_
          rw [nI_clamp (by omega)]
          refine ra_iinc (L' := [_, _, _, _, _, _, _, _, _, _, _]) A 1 d_Mo_subframe_193 rfl (by decide) (by decide) rfl <| ra_goto (q := 160) A d_Mo_subframe_196 (by decide) <| ?_
          rw [nI_1]
          refine ih _ ⟨_, _, e3, (hf.trans (f3.mp (j := j))).trans (MP_I (by omega) (by omega)), MR_I M3 (by decide) (by decide), fun r hr' => ?_⟩
          by_cases cr : r = i
          · subst cr; rw [xI_e, pk_us]
          · rw [xI_j (by omega), fmk f3 (by decide) (by decide), pk_un cr]
            exact hr r (by omega)
        · show xg x (y0 u) 0 0 192 _ _ g3
          refine ra_iastore A d_Mo_subframe_192 (Nat.le_of_ble_eq_true rfl) rfl (vp_in_nI (by omega) (by decide)) ?_
          rw [nI_clamp (by omega)]
          refine ra_iinc (L' := [_, _, _, _, _, _, _, _, _, _, _]) A 1 d_Mo_subframe_193 rfl (by decide) (by decide) rfl <| ra_goto (q := 160) A d_Mo_subframe_196 (by decide) <| ?_
          exact dead160 e' p' _ _ _ _ _ _ _ _ (hd e' (rL_err (e3.trans (by rw [e4, rb_l])) hi)) ((hf.trans (f3.mp (j := j))).trans (MP_I (by omega) (by omega))) (MR_I M3 (by decide) (by decide)) he
    have at134 : ∀ z4 : Int32, oT t ≤ n → xg x (y0 u) 0 0 134 [some (.ref 141), some (.int (nI j)), some (.int (nI b)), some (.int (nI n)), some (.int z4), some (.int (nI t)), some (.int (nI w)), some (.int (nI (b - w))), some (.int (nI (oT t))), none, none] [] g2 := by
      intro z4 c
      rw [if_pos c] at hq
      rcases hT with h0 | h1 | h8
      · have hn8 : ¬ 8 ≤ t := by omega
        have hn32 : ¬ 32 ≤ t := by omega
        rw [if_pos h0] at hq
        simp only [if_neg hn8, if_neg hn32, rb_r] at hq
        have ht0 : nI t = 0 := by rw [h0]; rfl
        refine ra_iload A d_Mo_subframe_134 rfl <| ?_
        refine ra_if_ne (q := 143) A d_Mo_subframe_136 (by decide) (fun cc => absurd (ht0) cc) (fun _ => ?_)
        refine ra_iconst A 1 d_Mo_subframe_139 (by decide) <| ra_goto (q := 155) A d_Mo_subframe_140 (by decide) <| ra_istore (L' := [_, _, _, _, _, _, _, _, _, _, _]) A d_Mo_subframe_155 (by decide) rfl <| ra_iconst A 0 d_Mo_subframe_157 (by decide) <| ra_istore (L' := [_, _, _, _, _, _, _, _, _, _, _]) A d_Mo_subframe_158 (by decide) rfl <| ?_
        refine pl 1 z4 _ (by decide) (fun e he => ?_) (fun row' p' g' e hf' hM' hr => ?_)
        · rw [rPl_1] at he
          rw [← hq]
          cases hS : rS F L (b - w) p2 with
          | inl a => rw [hS, rb_l] at he; rw [rb_l, rb_l]; exact congrArg Sum.inl (Sum.inl.inj he)
          | inr a => obtain ⟨a, q⟩ := a; rw [hS, rb_r] at he; cases he
        · rw [rPl_1] at e
          cases hS : rS F L (b - w) p2 with
          | inl a => rw [hS, rb_l] at e; cases e
          | inr a =>
            obtain ⟨a, q⟩ := a
            rw [hS, rb_r] at e
            rw [hS, rb_r, rb_r] at hq
            have e' := Sum.inr.inj e
            have er : upd (fun _ => 0) 0 a = row' := congrArg Prod.fst e'
            have ep : q = p' := congrArg Prod.snd e'
            refine ra_iload A d_Mo_subframe_199 rfl <| ?_
            refine ra_if_ne (q := 242) A d_Mo_subframe_201 (by decide) (fun cc => absurd (ht0) cc) (fun _ => ?_)
            refine cp 0 p' g' _ _ _ _ _ _ _ hf' hM' (fun g3 z10 hf3 hM3 hr3 => ?_)
            refine ra_iload A d_Mo_subframe_242 rfl <| ra_bipush A 7 d_Mo_subframe_244 (by decide) <| ?_
            refine ra_icmp_le (q := 268) A d_Mo_subframe_246 (by decide) (fun _ => ?_) (fun cc => absurd (nI_le (b := 7) (by omega) (by decide)) cc)
            refine ra_iconst A 0 d_Mo_subframe_268 (by decide) <| ra_istore (L' := [_, _, _, _, _, _, _, _, _, _, _]) A d_Mo_subframe_269 (by decide) rfl <| ?_
            refine fin (fun _ => a) p' g3 _ _ _ _ _ hf3 hM3 (fun r hr' => ?_) (by rw [← ep]; exact hq)
            have h00 := hr 0 (by decide)
            rw [hr3 r hr']
            exact h00.trans (by rw [← er, pk_us])
      · have hn0 : ¬ t = 0 := by omega
        have hn8 : ¬ 8 ≤ t := by omega
        have hn32 : ¬ 32 ≤ t := by omega
        rw [if_neg hn0, if_pos h1] at hq
        simp only [if_neg hn8, if_neg hn32, rb_r] at hq
        refine ra_iload A d_Mo_subframe_134 rfl <| ?_
        refine ra_if_ne (q := 143) A d_Mo_subframe_136 (by decide) (fun _ => ?_) (fun cc => absurd cc (nI_ne0 (by omega) (by omega)))
        refine ra_iload A d_Mo_subframe_143 rfl <| ra_iconst A 1 d_Mo_subframe_145 (by decide) <| ?_
        refine ra_icmp_ne (q := 153) A d_Mo_subframe_146 (by decide) (fun cc => absurd ((by rw [h1]; rfl)) cc) (fun _ => ?_)
        refine ra_iload_n A d_Mo_subframe_149 rfl <| ra_goto (q := 155) A d_Mo_subframe_150 (by decide) <| ra_istore (L' := [_, _, _, _, _, _, _, _, _, _, _]) A d_Mo_subframe_155 (by decide) rfl <| ra_iconst A 0 d_Mo_subframe_157 (by decide) <| ra_istore (L' := [_, _, _, _, _, _, _, _, _, _, _]) A d_Mo_subframe_158 (by decide) rfl <| ?_
        refine pl n z4 _ hn (fun e he => ?_) (fun row' p' g' e hf' hM' hr => ?_)
        · rw [← hq, he, rb_l]
        · rw [e, rb_r] at hq
          refine ra_iload A d_Mo_subframe_199 rfl <| ?_
          refine ra_if_ne (q := 242) A d_Mo_subframe_201 (by decide) (fun _ => ?_) (fun cc => absurd cc (nI_ne0 (by omega) (by omega)))
          refine ra_iload A d_Mo_subframe_242 rfl <| ra_bipush A 7 d_Mo_subframe_244 (by decide) <| ?_
          refine ra_icmp_le (q := 268) A d_Mo_subframe_246 (by decide) (fun _ => ?_) (fun cc => absurd (nI_le (b := 7) (by omega) (by decide)) cc)
          refine ra_iconst A 0 d_Mo_subframe_268 (by decide) <| ra_istore (L' := [_, _, _, _, _, _, _, _, _, _, _]) A d_Mo_subframe_269 (by decide) rfl <| ?_
          exact fin row' p' g' _ _ _ _ _ hf' hM' hr hq
      · have hn0 : ¬ t = 0 := by omega
        have hn1 : ¬ t = 1 := by omega
        rw [if_neg hn0, if_neg hn1] at hq
        simp only [if_pos h8] at hq
        refine ra_iload A d_Mo_subframe_134 rfl <| ?_
        refine ra_if_ne (q := 143) A d_Mo_subframe_136 (by decide) (fun _ => ?_) (fun cc => absurd cc (nI_ne0 (by omega) (by omega)))
        refine ra_iload A d_Mo_subframe_143 rfl <| ra_iconst A 1 d_Mo_subframe_145 (by decide) <| ?_
        refine ra_icmp_ne (q := 153) A d_Mo_subframe_146 (by decide) (fun _ => ?_) (fun cc => absurd cc (fun z => hn1 ((nI_eq (b := 1) (by omega) (by decide)).mp z)))
        refine ra_iload A d_Mo_subframe_153 rfl <| ra_istore (L' := [_, _, _, _, _, _, _, _, _, _, _]) A d_Mo_subframe_155 (by decide) rfl <| ra_iconst A 0 d_Mo_subframe_157 (by decide) <| ra_istore (L' := [_, _, _, _, _, _, _, _, _, _, _]) A d_Mo_subframe_158 (by decide) rfl <| ?_
        refine pl (oT t) z4 _ (by omega) (fun e he => ?_) (fun row' p' g' e hf' hM' hr => ?_)
        · rw [← hq, he, rb_l]
        · rw [e, rb_r, ← rb_assoc] at hq
          refine ra_iload A d_Mo_subframe_199 rfl <| ?_
          refine ra_if_ne (q := 242) A d_Mo_subframe_201 (by decide) (fun _ => ?_) (fun cc => absurd cc (nI_ne0 (by omega) (by omega)))
          refine ra_iload A d_Mo_subframe_242 rfl <| ra_bipush A 7 d_Mo_subframe_244 (by decide) <| ?_
          refine ra_icmp_le (q := 268) A d_Mo_subframe_246 (by decide) (fun cc => absurd cc (fun z => absurd ((nI_leI (b := 7) (by omega) (by decide)).mp z) (by omega))) (fun _ => ?_)
          refine ra_aload_n A d_Mo_subframe_249 rfl <| ra_getI A f_Mo_386 d_Mo_subframe_250 (Nat.le_of_ble_eq_true rfl) rfl rfl <| ?_
          refine ra_if_ne (q := 268) A d_Mo_subframe_253 (by decide) (fun cc => absurd (hM'.2.2.1.2) cc) (fun _ => ?_)
          refine ra_aload_n A d_Mo_subframe_256 rfl <| ra_iload_n A d_Mo_subframe_257 rfl <| ra_iload A d_Mo_subframe_258 rfl <| ra_iload A d_Mo_subframe_260 rfl <| ra_iload A d_Mo_subframe_262 rfl <| ra_iload_n A d_Mo_subframe_264 rfl <| ?_
          refine ra_callV (As := [_, _, _, _, _]) A ok_Mo_predicted l_Mo_446 im_Mo_predicted sl_Mo_predicted d_Mo_subframe_265 (Nat.le_of_ble_eq_true rfl) rfl rfl rfl (Nat.le_of_ble_eq_true rfl) (xr_of at0 (by decide)) (s_Mo_predicted K hM' hj ht64 ho32 hT4 (by omega) (by omega) c hn hr rfl (fun row3 p3 g3 e3 f3 M3 hr3 => ?_) (fun x' p3 g3 e3 f3 M3 he => ?_))
          · show xg x (y0 u) 0 0 268 _ _ g3
            rw [e3, rb_r] at hq
            refine ra_iconst A 0 d_Mo_subframe_268 (by decide) <| ra_istore (L' := [_, _, _, _, _, _, _, _, _, _, _]) A d_Mo_subframe_269 (by decide) rfl <| ?_
            exact fin row3 p3 g3 _ _ _ _ _ (hf'.trans f3) M3 hr3 hq
          · show xg x (y0 u) 0 0 268 _ _ g3
            rw [e3, rb_l] at hq
            refine ra_iconst A 0 d_Mo_subframe_268 (by decide) <| ra_istore (L' := [_, _, _, _, _, _, _, _, _, _, _]) A d_Mo_subframe_269 (by decide) rfl <| ?_
            exact dead271 x' p3 g3 _ _ _ _ _ _ _ hq.symm (hf'.trans f3) M3 he
    have at117 : ∀ z4 : Int32, xg x (y0 u) 0 0 117 [some (.ref 141), some (.int (nI j)), some (.int (nI b)), some (.int (nI n)), some (.int z4), some (.int (nI t)), some (.int (nI w)), some (.int (nI (b - w))), some (.int (nI (oT t))), none, none] [] g2 := by
      intro z4
      refine ra_aload_n A d_Mo_subframe_117 rfl <| ra_iload A d_Mo_subframe_118 rfl <| ra_iload_n A d_Mo_subframe_120 rfl <| ?_
      by_cases c : oT t ≤ n
      · refine ra_icmp_gt (q := 128) A d_Mo_subframe_121 (by decide) (fun cc => absurd cc (fun z => absurd ((nI_ltI (by omega) (by omega)).mp z) (by omega))) (fun _ => ?_)
        refine ra_iconst A 1 d_Mo_subframe_124 (by decide) <| ra_goto (q := 129) A d_Mo_subframe_125 (by decide) <| ra_bipush A 9 d_Mo_subframe_129 (by decide) <| ?_
        refine ra_callV (As := [_, _]) A ok_Mo_want l_Mo_409 im_Mo_want sl_Mo_want d_Mo_subframe_131 (Nat.le_of_ble_eq_true rfl) rfl rfl rfl (Nat.le_of_ble_eq_true rfl) (xr_of at0 (by decide)) (s_Mo_want K (b := true) hM2.2.2.1.2 (fun _ => ?_) (fun q => by cases q))
        show xg x (y0 u) 0 0 134 _ _ g2
        exact at134 z4 c
      · rw [if_neg c] at hq
        refine ra_icmp_gt (q := 128) A d_Mo_subframe_121 (by decide) (fun _ => ?_) (fun cc => absurd (nI_lt (by omega) (by omega)) cc)
        refine ra_iconst A 0 d_Mo_subframe_128 (by decide) <| ra_bipush A 9 d_Mo_subframe_129 (by decide) <| ?_
        refine ra_callV (As := [_, _]) A ok_Mo_want l_Mo_409 im_Mo_want sl_Mo_want d_Mo_subframe_131 (Nat.le_of_ble_eq_true rfl) rfl rfl rfl (Nat.le_of_ble_eq_true rfl) (xr_of at0 (by decide)) (s_Mo_want K (b := false) hM2.2.2.1.2 (fun q => by cases q) (fun _ => ?_))
        show xg x (y0 u) 0 0 134 _ _ _
        exact dead134 9 p2 _ _ _ _ _ _ hq.symm (hf2.trans MP_F) (MR_F (x := 9) hM2 (by decide)) (by decide)
    by_cases d1 : 32 ≤ t
    · refine ra_icmp_le (q := 99) A d_Mo_subframe_88 (by decide) (fun cc => absurd cc (fun z => absurd ((nI_leI (b := 31) (by omega) (by decide)).mp z) (by omega))) (fun _ => ?_)
      refine ra_iload A d_Mo_subframe_91 rfl <| ra_bipush A 31 d_Mo_subframe_93 (by decide) <| ra_isub A d_Mo_subframe_95 <| ?_
      rw [show nI t - 31 = nI (oT t) by rw [show nI t - 31 = nI (t - 31) from pk_sub (b := 31) (by omega)]; unfold oT; rw [if_pos d1]]
      refine ra_goto (q := 115) A d_Mo_subframe_96 (by decide) <| ra_istore (L' := [_, _, _, _, _, _, _, _, _, _, _]) A d_Mo_subframe_115 (by decide) rfl <| ?_
      exact at117 _
    · refine ra_icmp_le (q := 99) A d_Mo_subframe_88 (by decide) (fun _ => ?_) (fun cc => absurd (nI_le (b := 31) (by omega) (by decide)) cc)
      refine ra_iload A d_Mo_subframe_99 rfl <| ra_bipush A 7 d_Mo_subframe_101 (by decide) <| ?_
      by_cases d2 : 8 ≤ t
      · refine ra_icmp_le (q := 114) A d_Mo_subframe_103 (by decide) (fun cc => absurd cc (fun z => absurd ((nI_leI (b := 7) (by omega) (by decide)).mp z) (by omega))) (fun _ => ?_)
        refine ra_iload A d_Mo_subframe_106 rfl <| ra_bipush A 8 d_Mo_subframe_108 (by decide) <| ra_isub A d_Mo_subframe_110 <| ?_
        rw [show nI t - 8 = nI (oT t) by rw [show nI t - 8 = nI (t - 8) from pk_sub (b := 8) (by omega)]; unfold oT; rw [if_neg d1, if_pos d2]]
        refine ra_goto (q := 115) A d_Mo_subframe_111 (by decide) <| ra_istore (L' := [_, _, _, _, _, _, _, _, _, _, _]) A d_Mo_subframe_115 (by decide) rfl <| ?_
        exact at117 _
      · refine ra_icmp_le (q := 114) A d_Mo_subframe_103 (by decide) (fun _ => ?_) (fun cc => absurd (nI_le (b := 7) (by omega) (by decide)) cc)
        have ho0 : oT t = 0 := by unfold oT; rw [if_neg d1, if_neg d2]
        refine ra_iconst A 0 d_Mo_subframe_114 (by decide) <| ra_istore (L' := [_, _, _, _, _, _, _, _, _, _, _]) A d_Mo_subframe_115 (by decide) rfl <| ?_
        rw [ho0] at at117
        exact at117 _
  refine ra_aload_n A d_Mo_subframe_52 rfl <| ra_getI A f_Mo_386 d_Mo_subframe_53 (Nat.le_of_ble_eq_true rfl) rfl rfl <| ?_
  refine ra_if_ne (q := 75) A d_Mo_subframe_56 (by decide) (fun cc => absurd (M1.2.2.1.2) cc) (fun _ => ?_)
  refine ra_iload A d_Mo_subframe_59 rfl <| ra_iconst A 1 d_Mo_subframe_61 (by decide) <| ra_iand A d_Mo_subframe_62 <| ?_
  rw [pk_andN (k := 1) (by omega) (by decide), show lead % 2 ^ 1 = lead % 2 from rfl]
  refine ra_iconst A 1 d_Mo_subframe_63 (by decide) <| ?_
  by_cases c3 : lead % 2 = 1
  · rw [if_pos c3, rb_assoc] at hq
    refine ra_icmp_ne (q := 75) A d_Mo_subframe_64 (by decide) (fun cc => absurd ((by rw [c3]; rfl)) cc) (fun _ => ?_)
    refine ra_aload_n A d_Mo_subframe_67 rfl <| ra_iload_n A d_Mo_subframe_68 rfl <| ?_
    refine ra_callV (As := [_]) A ok_Mo_wasteRead l_Mo_440 im_Mo_wasteRead sl_Mo_wasteRead d_Mo_subframe_69 (Nat.le_of_ble_eq_true rfl) rfl rfl rfl (Nat.le_of_ble_eq_true rfl) (xr_of at0 (by decide)) (s_Mo_wasteRead K M1 (by omega) hb rfl (fun z p2 g2 e2 f2 M2 hz => ?_) (fun e w p2 g2 e2 f2 M2 he => ?_))
    · show xg x (y0 u) 0 0 72 _ _ g2
      rw [e2, rb_r] at hq
      refine ra_goto (q := 76) A d_Mo_subframe_72 (by decide) <| ?_
      exact at76 (1 + z) g2 p2 (by omega) (hf1.trans (f2.mp (j := j))) M2 hq
    · show xg x (y0 u) 0 0 72 _ _ g2
      rw [e2, rb_l] at hq
      refine ra_goto (q := 76) A d_Mo_subframe_72 (by decide) <| ?_
      exact dead76 e p2 g2 _ _ _ hq.symm (hf1.trans (f2.mp (j := j))) M2 he
  · rw [if_neg c3, rb_r] at hq
    refine ra_icmp_ne (q := 75) A d_Mo_subframe_64 (by decide) (fun _ => ?_) (fun cc => absurd cc (fun z => c3 ((nI_eq (b := 1) (by omega) (by decide)).mp z)))
    refine ra_iconst A 0 d_Mo_subframe_75 (by decide) <| ?_
    exact at76 0 g1 p1 (by omega) hf1 M1 hq
end S9d
