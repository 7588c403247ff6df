/-! PURE: positions only grow; SoundStream$Decoder: separate -/
def grow {α : Type} (x : Rr α) (p : Nat) : Prop := ∀ a p', x = .inr (a, p') → p ≤ p'
theorem grow_r {α : Type} {a : α} {p q : Nat} (h : p ≤ q) : grow (.inr (a, q)) p := fun b p' e => by cases e; exact h
theorem grow_l {α : Type} {e p : Nat} : grow (.inl e : Rr α) p := fun b p' q => by cases q
theorem grow_b {α β : Type} {x : Rr α} {f : α → Nat → Rr β} {p : Nat} (h : grow x p) (hf : ∀ a q, p ≤ q → grow (f a q) q) : grow (rb x f) p := by
  cases x with
  | inl e => exact grow_l
  | inr q =>
    intro b p' e
    have h1 := h q.1 q.2 rfl
    exact Nat.le_trans h1 (hf q.1 q.2 h1 b p' e)
theorem grow_m {α : Type} {x : Rr α} {p q : Nat} (h : grow x q) (hp : p ≤ q) : grow x p := fun a p' e => Nat.le_trans hp (h a p' e)
theorem grow_i {α : Type} {x y : Rr α} {c : Prop} [Decidable c] {p : Nat} (h1 : grow x p) (h2 : grow y p) : grow (if c then x else y) p := by
  split
  · exact h1
  · exact h2
theorem rB_g {F : Nat → Bool} {L n p : Nat} : grow (rB F L n p) p := fun a p' e => by have := (rB_ok e).2.1; omega
theorem rS_g {F : Nat → Bool} {L n p : Nat} : grow (rS F L n p) p := grow_b rB_g (fun _ _ _ => grow_r (Nat.le_refl _))
theorem rZ_g {F : Nat → Bool} {L e : Nat} : ∀ m n p, grow (rZ F L e m n p) p
  | 0, _, _ => grow_l
  | m + 1, n, p => grow_b rB_g (fun _ q _ => grow_i (grow_r (Nat.le_refl _)) (rZ_g m (n + 1) q))
theorem rL_g {σ : Type} {step : Nat → σ → Nat → Rr σ} {s0 : σ} {p0 : Nat} (h : ∀ i s p, grow (step i s p) p) : ∀ m, grow (rL step s0 p0 m) p0
  | 0 => grow_r (Nat.le_refl _)
  | m + 1 => grow_b (rL_g h m) (fun a q _ => h m a q)
theorem rR_g {F : Nat → Bool} {L n k p : Nat} {esc : Bool} : grow (rR F L esc n k p) p := by
  unfold rR
  exact grow_i (grow_b rS_g (fun _ _ _ => grow_r (Nat.le_refl _))) (grow_b (rZ_g _ _ _) (fun _ _ _ => grow_b rB_g (fun _ _ _ => grow_r (Nat.le_refl _))))
theorem stp_g {F : Nat → Bool} {L n k a : Nat} {P : Pd} {esc : Bool} : ∀ i s p, grow (stp F L P esc n k a i s p) p := fun i s p => grow_b rR_g (fun _ _ _ => grow_i (grow_r (Nat.le_refl _)) grow_l)
theorem rP_g {F : Nat → Bool} {L way a m p : Nat} {P : Pd} {row : Nat → Int32} : grow (rP F L P way a m row p) p := grow_b rB_g (fun _ _ _ => grow_i (grow_b rB_g (fun _ _ _ => rL_g stp_g _)) (rL_g stp_g _))
theorem rRs_g {F : Nat → Bool} {L size p : Nat} {P : Pd} {row : Nat → Int32} : grow (rRs F L P size row p) p := grow_b rB_g (fun _ _ _ => grow_i (grow_b rB_g (fun _ _ _ => grow_i (rL_g (fun _ _ _ => rP_g) _) grow_l)) grow_l)
theorem rPl_g {F : Nat → Bool} {L width n p : Nat} : grow (rPl F L width n p) p := rL_g (fun _ _ _ => grow_b rS_g (fun _ _ _ => grow_r (Nat.le_refl _))) _
theorem rF_g {F : Nat → Bool} {L o p : Nat} : grow (rF F L o p) p := grow_b rB_g (fun _ _ _ => grow_i (grow_b rS_g (fun _ _ _ => grow_i (grow_b (rL_g (fun _ _ _ => grow_b rS_g (fun _ _ _ => grow_r (Nat.le_refl _))) _) (fun _ _ _ => grow_r (Nat.le_refl _))) grow_l)) grow_l)
theorem rSb_g {F : Nat → Bool} {L t w size depth p : Nat} : grow (rSb F L t w size depth p) p := grow_i (grow_b (grow_i (grow_b rS_g (fun _ _ _ => grow_r (Nat.le_refl _))) rPl_g) (fun _ _ _ => grow_b (grow_i rF_g (grow_r (Nat.le_refl _))) (fun _ _ _ => grow_b (grow_i rRs_g (grow_r (Nat.le_refl _))) (fun _ _ _ => grow_r (Nat.le_refl _))))) grow_l
theorem rSub_g {F : Nat → Bool} {L size depth p : Nat} : grow (rSub F L size depth p) p := grow_b rB_g (fun _ _ _ => grow_i (grow_b (grow_i (grow_b (rZ_g _ _ _) (fun _ _ _ => grow_r (Nat.le_refl _))) (grow_r (Nat.le_refl _))) (fun _ _ _ => rSb_g)) grow_l)
theorem rBd_g {F : Nat → Bool} {L c size p : Nat} : grow (rBd F L c size p) p := grow_b rSub_g (fun _ _ _ => grow_i (grow_b rSub_g (fun _ _ _ => grow_i (grow_r (Nat.le_refl _)) grow_l)) (grow_r (Nat.le_refl _)))
/-- a head is of whole bytes -/
theorem rNum_p {F : Nat → Bool} {L num p p' : Nat} (h : rNum F L num p = .inr ((), p')) : p' = p + 8 * (numB num).length := by
  unfold rNum at h
  generalize hst : (fun (i : Nat) (_ : Unit) (p : Nat) => rb (rB F L 8 p) fun v p' => if v = (numB num).getD i 0 then (.inr ((), p') : Rr Unit) else .inl 6) = step at h
  have key : ∀ m q, rL step () p m = .inr ((), q) → q = p + 8 * m := by
    intro m
    induction m with
    | zero => intro q e; cases e; rfl
    | succ m ih =>
      intro q e
      cases e1 : rL step () p m with
      | inl z => rw [rL, e1, rb_l] at e; cases e
      | inr z =>
        have := ih z.2 e1
        rw [rL, e1, ← hst] at e
        dsimp only [rb] at e
        cases e2 : rB F L 8 z.2 with
        | inl y => rw [e2] at e; cases e
        | inr y =>
          obtain ⟨-, q2, -⟩ := rB_ok e2
          rw [e2] at e
          dsimp only at e
          split at e
          · cases e; omega
          · cases e
  exact key _ _ h
theorem rHd_p {F : Nat → Bool} {L frames len way last p p' : Nat} {q : Nat × Nat × Nat} (h : rHd F L frames len way last p = .inr (q, p')) : p ≤ p' ∧ p' % 8 = p % 8 := by
  unfold rHd at h
  cases e1 : rB F L 16 p with
  | inl e => rw [e1, rb_l] at h; cases h
  | inr q1 =>
    obtain ⟨-, b1, -⟩ := rB_ok e1
    rw [e1, rb_r] at h
    split at h
    · cases e2 : rB F L 16 q1.2 with
      | inl e => rw [e2, rb_l] at h; cases h
      | inr q2 =>
        obtain ⟨-, b2, -⟩ := rB_ok e2
        rw [e2, rb_r] at h
        split at h
        · cases e3 : rNum F L (if q1.1 % 2 = 0 then frames else len) q2.2 with
          | inl e => rw [e3, rb_l] at h; cases h
          | inr q3 =>
            have b3 := rNum_p e3
            rw [e3, rb_r] at h
            cases e4 : rSz F L (q2.1 / 4096) q3.2 with
            | inl e => rw [e4, rb_l] at h; cases h
            | inr q4 =>
              have b4 : q4.2 = q3.2 ∨ q4.2 = q3.2 + 8 ∨ q4.2 = q3.2 + 16 := by
                unfold rSz at e4
                split at e4
                · cases e5 : rB F L 8 q3.2 with
                  | inl z => rw [e5, rb_l] at e4; cases e4
                  | inr z => rw [e5, rb_r] at e4; cases e4; exact Or.inr (Or.inl (rB_ok e5).2.1)
                · split at e4
                  · cases e5 : rB F L 16 q3.2 with
                    | inl z => rw [e5, rb_l] at e4; cases e4
                    | inr z => rw [e5, rb_r] at e4; cases e4; exact Or.inr (Or.inr (rB_ok e5).2.1)
                  · cases e4; exact Or.inl rfl
              rw [e4, rb_r] at h
              cases e5 : (if 12 ≤ q2.1 / 256 % 16 then rB F L (if q2.1 / 256 % 16 = 12 then 8 else 16) q4.2 else .inr (0, q4.2)) with
              | inl e => rw [e5, rb_l] at h; cases h
              | inr q5 =>
                have b5 : q5.2 = q4.2 ∨ q5.2 = q4.2 + 8 ∨ q5.2 = q4.2 + 16 := by
                  split at e5
                  · have := (rB_ok e5).2.1
                    split at this
                    · exact Or.inr (Or.inl this)
                    · exact Or.inr (Or.inr this)
                  · cases e5; exact Or.inl rfl
                rw [e5, rb_r] at h
                split at h
                · cases h
                  omega
                · cases h
        · cases h
    · cases h
theorem okS_iff {D c size : Nat} {r0 r1 : Nat → Int32} : okS D c size r0 r1 = true ↔ ∀ i, i < size → (rng D (sep c (r0 i) (r1 i)).1 = true ∧ rng D (sep c (r0 i) (r1 i)).2 = true) := by
  unfold okS
  simp [List.all_eq_true]
section S99d
variable {u : xu_T} {l : Launch} {h : xw_H} {X : xc_R → xw_H → Nat → Nat → Prop}
theorem s_De_separate (hl : l.stackTraces = false) {c size D f : Nat} {r0 r1 : Nat → Int32} (hc : c < 16) (hD1 : 1 ≤ D) (hD : D ≤ 24) (hf : f + size ≤ 1200) (ec : h.1 132 13 = nI c) (ez : h.1 132 14 = nI size) (eD : h.1 136 1 = nI D) (e0 : ∀ r, r < size → h.1 138 (f + r) = r0 r) (e1 : ∀ r, r < size → h.1 139 (f + r) = r1 r)
    (hX : okS D c size r0 r1 = true → ∀ h', fr [138, 139] h h' → (∀ i, i < f → h'.1 138 i = h.1 138 i ∧ h'.1 139 i = h.1 139 i) → (∀ r, r < size → h'.1 138 (f + r) = (sep c (r0 r) (r1 r)).1 ∧ h'.1 139 (f + r) = (sep c (r0 r) (r1 r)).2) → X (.inl none) h' 0 0) (hY : ¬ okS D c size r0 r1 = true → ∀ h', ER h h' 11 → X (.inr ISE) h' 1 6) : xm_M l (y0 u) (KK0 u) m_De_separate [.ref 132, .int (nI f)] h X := by
  refine xm_of [none, none, none, none, none] (by simp) (Nat.le_of_ble_eq_true rfl) (by decide) (fun x at0 => ?_)
  have A := xa_of at0 (KK0_ok u)
  have ow := at0.2.2.2.2.1
  have hlx : (xg_l x).stackTraces = false := by rw [at0.2.2.2.2.2.1]; exact hl
  have i0 : vp_in (0 : Int32) 2 := vp_in_nI (n := 0) (by decide) (by decide)
  have i1 : vp_in (1 : Int32) 2 := vp_in_nI (n := 1) (by decide) (by decide)
  have hok := okS_iff (D := D) (c := c) (size := size) (r0 := r0) (r1 := r1)
  refine ra_iconst A 1 d_De_separate_0 (by decide) <| ra_aload_n A d_De_separate_1 rfl <| ra_getR A f_De_40 d_De_separate_2 (Nat.le_of_ble_eq_true rfl) rfl rfl rfl <| ra_getI A f_De_68 d_De_separate_5 (Nat.le_of_ble_eq_true rfl) rfl rfl <| ?_
  rw [eD]
  refine ra_iconst A 1 d_De_separate_8 (by decide) <| ra_isub A d_De_separate_9 <| ?_
  rw [show nI D - 1 = nI (D - 1) from pk_sub (b := 1) hD1]
  refine ra_ishl A d_De_separate_10 <| ?_
  rw [shl1 (by omega)]
  refine ra_istore_n (L' := [_, _, _, _, _, _, _]) A d_De_separate_11 (by decide) rfl <| ra_iload_n A d_De_separate_12 rfl <| ra_istore_n (L' := [_, _, _, _, _, _, _]) A d_De_separate_13 (by decide) rfl <| ?_
  rw [show f = f + 0 from rfl]
  refine lp_up (σ := xw_H) (W := fun j g => ∀ w4 w5 w6, xg x (y0 u) 0 0 14 [some (.ref 132), some (.int (nI (f + 0))), some (.int (nI (2 ^ (D - 1)))), some (.int (nI (f + j))), w4, w5, w6] [] g) (I := fun j g => fr [138, 139] h g ∧ (∀ i, i < f → g.1 138 i = h.1 138 i ∧ g.1 139 i = h.1 139 i) ∧ (∀ r, r < size → g.1 138 (f + r) = (if r < j then (sep c (r0 r) (r1 r)).1 else r0 r) ∧ g.1 139 (f + r) = (if r < j then (sep c (r0 r) (r1 r)).2 else r1 r)) ∧ ∀ i, i < j → (rng D (sep c (r0 i) (r1 i)).1 = true ∧ rng D (sep c (r0 i) (r1 i)).2 = true)) size ?_ ?_ 0 h (Nat.zero_le _) ⟨fr.rfl, fun i _ => ⟨rfl, rfl⟩, fun r hr => by rw [if_neg (by omega), if_neg (by omega)]; exact ⟨e0 r hr, e1 r hr⟩, fun i hi => by omega⟩ none none none
  · rintro g ⟨hfr, hlo, hr, hg⟩ w4 w5 w6
    refine ra_iload_n A d_De_separate_14 rfl <| ra_iload_n A d_De_separate_15 rfl <| ra_aload_n A d_De_separate_16 rfl <| ra_getI A f_De_58 d_De_separate_17 (Nat.le_of_ble_eq_true rfl) rfl rfl <| ?_
    rw [fr1 hfr (by decide), ez]
    refine ra_iadd A d_De_separate_20 <| ?_
    rw [nI_add]
    refine ra_icmp_ge (q := 198) A d_De_separate_21 (by decide) (fun _ => ?_) (fun cc => absurd (Int32.le_refl _) cc)
    exact ra_vret A ow d_De_separate_198 (hX (hok.mpr hg) g hfr hlo (fun r hr' => by have := hr r hr'; rw [if_pos hr', if_pos hr'] at this; exact this))
  · rintro j g hj ⟨hfr, hlo, hr, hg⟩ ih w4 w5 w6
    obtain ⟨x0, x1⟩ := hr j hj
    rw [if_neg (Nat.lt_irrefl _)] at x0 x1
    have cg : g.1 132 13 = nI c := by rw [fr1 hfr (by decide)]; exact ec
    refine ra_iload_n A d_De_separate_14 rfl <| ra_iload_n A d_De_separate_15 rfl <| ra_aload_n A d_De_separate_16 rfl <| ra_getI A f_De_58 d_De_separate_17 (Nat.le_of_ble_eq_true rfl) rfl rfl <| ?_
    rw [fr1 hfr (by decide), ez]
    refine ra_iadd A d_De_separate_20 <| ?_
    rw [nI_add]
    refine ra_icmp_ge (q := 198) A d_De_separate_21 (by decide) (fun cc => absurd cc (nI_ge (show f + j < f + 0 + size by omega) (by omega))) (fun _ => ?_)
    refine ra_aload_n A d_De_separate_24 rfl <| ra_getR A f_De_40 d_De_separate_25 (Nat.le_of_ble_eq_true rfl) rfl rfl rfl <| ra_getR A f_De_150 d_De_separate_28 (Nat.le_of_ble_eq_true rfl) rfl rfl rfl <| ra_iconst A 0 d_De_separate_31 (by decide) <| ?_
    refine ra_aaload (b := 138) A d_De_separate_32 (Nat.le_of_ble_eq_true rfl) rfl rfl i0 rfl ?_
    refine ra_iload_n A d_De_separate_33 rfl <| ?_
    refine ra_iaload A d_De_separate_34 (Nat.le_of_ble_eq_true rfl) rfl (vp_in_nI (by omega) (by decide)) ?_
    rw [nI_clamp (by omega), x0]
    refine ra_istore (L' := [_, _, _, _, _, _, _]) A d_De_separate_35 (by decide) rfl <| ra_aload_n A d_De_separate_37 rfl <| ra_getR A f_De_40 d_De_separate_38 (Nat.le_of_ble_eq_true rfl) rfl rfl rfl <| ra_getR A f_De_150 d_De_separate_41 (Nat.le_of_ble_eq_true rfl) rfl rfl rfl <| ra_iconst A 1 d_De_separate_44 (by decide) <| ?_
    refine ra_aaload (b := 139) A d_De_separate_45 (Nat.le_of_ble_eq_true rfl) rfl rfl i1 rfl ?_
    refine ra_iload_n A d_De_separate_46 rfl <| ?_
    refine ra_iaload A d_De_separate_47 (Nat.le_of_ble_eq_true rfl) rfl (vp_in_nI (by omega) (by decide)) ?_
    rw [nI_clamp (by omega), x1]
    refine ra_istore (L' := [_, _, _, _, _, _, _]) A d_De_separate_48 (by decide) rfl <| ra_aload_n A d_De_separate_50 rfl <| ra_getI A f_De_147 d_De_separate_51 (Nat.le_of_ble_eq_true rfl) rfl rfl <| ?_
    rw [cg]
    refine ra_bipush A 8 d_De_separate_54 (by decide) <| ?_
    have at126 : ∀ xx yy w6, (xx, yy) = sep c (r0 j) (r1 j) → xg x (y0 u) 0 0 126 [some (.ref 132), some (.int (nI (f + 0))), some (.int (nI (2 ^ (D - 1)))), some (.int (nI (f + j))), some (.int xx), some (.int yy), w6] [] g := by
      intro xx yy w6 hxy
      have ex : (sep c (r0 j) (r1 j)).1 = xx := by rw [← hxy]
      have ey : (sep c (r0 j) (r1 j)).2 = yy := by rw [← hxy]
      have no : ¬ (rng D xx = true ∧ rng D yy = true) → xg x (y0 u) 0 0 160 [some (.ref 132), some (.int (nI (f + 0))), some (.int (nI (2 ^ (D - 1)))), some (.int (nI (f + j))), some (.int xx), some (.int yy), w6] [.ref 133] g := by
        intro q
        refine ra_iconst A 0 d_De_separate_160 (by decide) <| ra_bipush A 11 d_De_separate_161 (by decide) <| ?_
        refine ra_callV (As := [_, _]) A ok_Rd_demand l_De_92 im_Rd_demand sl_Rd_demand d_De_separate_163 (Nat.le_of_ble_eq_true rfl) rfl rfl rfl (Nat.le_of_ble_eq_true rfl) (xr_of at0 (by decide)) (s_Rd_demand hlx (c := false) (e := 11) (fun q => by cases q) (fun _ => xgT_out ow at0.2.2.2.2.2.2.2.2.2.2 (hY (fun z => q (by have := hok.mp z j hj; rw [ex, ey] at this; exact this)) _ (ER_I.after (FD.of hfr (by decide) (by decide)) (by rw [fr1 hfr (by decide)])))))
      unfold rng at no
      refine ra_aload_n A d_De_separate_126 rfl <| ra_getR A f_De_24 d_De_separate_127 (Nat.le_of_ble_eq_true rfl) rfl rfl rfl <| ra_iload A d_De_separate_130 rfl <| ra_iload_n A d_De_separate_132 rfl <| ra_ineg A d_De_separate_133 <| ?_
      by_cases c1 : -(nI (2 ^ (D - 1))) ≤ xx
      · refine ra_icmp_lt (q := 160) A d_De_separate_134 (by decide) (fun cc => absurd cc (Int32.not_lt.mpr c1)) (fun _ => ?_)
        refine ra_iload A d_De_separate_137 rfl <| ra_iload_n A d_De_separate_139 rfl <| ?_
        by_cases c2 : xx < nI (2 ^ (D - 1))
        · refine ra_icmp_ge (q := 160) A d_De_separate_140 (by decide) (fun cc => absurd cc (Int32.not_le.mpr c2)) (fun _ => ?_)
          refine ra_iload A d_De_separate_143 rfl <| ra_iload_n A d_De_separate_145 rfl <| ra_ineg A d_De_separate_146 <| ?_
          by_cases c3 : -(nI (2 ^ (D - 1))) ≤ yy
          · refine ra_icmp_lt (q := 160) A d_De_separate_147 (by decide) (fun cc => absurd cc (Int32.not_lt.mpr c3)) (fun _ => ?_)
            refine ra_iload A d_De_separate_150 rfl <| ra_iload_n A d_De_separate_152 rfl <| ?_
            by_cases c4 : yy < nI (2 ^ (D - 1))
            · refine ra_icmp_ge (q := 160) A d_De_separate_153 (by decide) (fun cc => absurd cc (Int32.not_le.mpr c4)) (fun _ => ?_)
              refine ra_iconst A 1 d_De_separate_156 (by decide) <| ra_goto (q := 161) A d_De_separate_157 (by decide) <| ra_bipush A 11 d_De_separate_161 (by decide) <| ?_
              refine ra_callV (As := [_, _]) A ok_Rd_demand l_De_92 im_Rd_demand sl_Rd_demand d_De_separate_163 (Nat.le_of_ble_eq_true rfl) rfl rfl rfl (Nat.le_of_ble_eq_true rfl) (xr_of at0 (by decide)) (s_Rd_demand hlx (c := true) (e := 11) (fun _ => ?_) (fun q => by cases q))
              show xg x (y0 u) 0 0 166 _ _ g
              refine ra_aload_n A d_De_separate_166 rfl <| ra_getR A f_De_40 d_De_separate_167 (Nat.le_of_ble_eq_true rfl) rfl rfl rfl <| ra_getR A f_De_150 d_De_separate_170 (Nat.le_of_ble_eq_true rfl) rfl rfl rfl <| ra_iconst A 0 d_De_separate_173 (by decide) <| ?_
              refine ra_aaload (b := 138) A d_De_separate_174 (Nat.le_of_ble_eq_true rfl) rfl rfl i0 rfl ?_
              refine ra_iload_n A d_De_separate_175 rfl <| ra_iload A d_De_separate_176 rfl <| ?_
              refine ra_iastore A d_De_separate_178 (Nat.le_of_ble_eq_true rfl) rfl (vp_in_nI (by omega) (by decide)) ?_
              rw [nI_clamp (by omega)]
              refine ra_aload_n A d_De_separate_179 rfl <| ra_getR A f_De_40 d_De_separate_180 (Nat.le_of_ble_eq_true rfl) rfl rfl rfl <| ra_getR A f_De_150 d_De_separate_183 (Nat.le_of_ble_eq_true rfl) rfl rfl rfl <| ra_iconst A 1 d_De_separate_186 (by decide) <| ?_
              refine ra_aaload (b := 139) A d_De_separate_187 (Nat.le_of_ble_eq_true rfl) rfl rfl i1 rfl ?_
              refine ra_iload_n A d_De_separate_188 rfl <| ra_iload A d_De_separate_189 rfl <| ?_
              refine ra_iastore A d_De_separate_191 (Nat.le_of_ble_eq_true rfl) rfl (vp_in_nI (by omega) (by decide)) ?_
              rw [nI_clamp (by omega)]
              refine ra_iinc (L' := [_, _, _, _, _, _, _]) A 1 d_De_separate_192 rfl (by decide) (by decide) rfl <| ra_goto (q := 14) A d_De_separate_195 (by decide) <| ?_
              rw [nI_1]
              refine ih _ ⟨(hfr.I (by decide)).I (by decide), fun i hi => ?_, fun r hr' => ?_, fun i hi => ?_⟩ _ _ _
              · rw [xI_k (show 138 ≠ 139 by decide), xI_j (by omega), xI_j (by omega), xI_k (show 139 ≠ 138 by decide)]
                exact hlo i hi
              · rw [xI_k (show 138 ≠ 139 by decide)]
                by_cases q : r = j
                · subst q
                  rw [xI_e, xI_e, if_pos (by omega), if_pos (by omega), ex, ey]
                  exact ⟨rfl, rfl⟩
                · rw [xI_j (by omega), xI_j (by omega), xI_k (show 139 ≠ 138 by decide), (hr r hr').1, (hr r hr').2]
                  by_cases q2 : r < j
                  · rw [if_pos q2, if_pos q2, if_pos (by omega), if_pos (by omega)]
                    exact ⟨rfl, rfl⟩
                  · rw [if_neg q2, if_neg q2, if_neg (by omega), if_neg (by omega)]
                    exact ⟨rfl, rfl⟩
              · by_cases q : i = j
                · subst q
                  rw [ex, ey]
                  unfold rng
                  rw [decide_eq_true c1, decide_eq_true c2, decide_eq_true c3, decide_eq_true c4]
                  exact ⟨rfl, rfl⟩
                · exact hg i (by omega)
            · refine ra_icmp_ge (q := 160) A d_De_separate_153 (by decide) (fun _ => ?_) (fun cc => absurd (Int32.not_lt.mp c4) cc)
              exact no (fun z => by rw [decide_eq_false c4, Bool.and_false] at z; exact absurd z.2 (by decide))
          · refine ra_icmp_lt (q := 160) A d_De_separate_147 (by decide) (fun _ => ?_) (fun cc => absurd (Int32.not_le.mp c3) cc)
            exact no (fun z => by rw [decide_eq_false c3, Bool.false_and] at z; exact absurd z.2 (by decide))
        · refine ra_icmp_ge (q := 160) A d_De_separate_140 (by decide) (fun _ => ?_) (fun cc => absurd (Int32.not_lt.mp c2) cc)
          exact no (fun z => by rw [decide_eq_false c2, Bool.and_false] at z; exact absurd z.1 (by decide))
      · refine ra_icmp_lt (q := 160) A d_De_separate_134 (by decide) (fun _ => ?_) (fun cc => absurd (Int32.not_le.mp c1) cc)
        exact no (fun z => by rw [decide_eq_false c1, Bool.false_and] at z; exact absurd z.1 (by decide))
    have ne : ∀ n : Nat, n < 16 → ¬ c = n → ¬ nI c = nI n := fun n hn q z => q ((nI_eq (by omega) (by omega)).mp z)
    by_cases c8 : c = 8
    · refine ra_icmp_ne (q := 69) A d_De_separate_56 (by decide) (fun cc => absurd ((by rw [c8]; rfl)) cc) (fun _ => ?_)
      refine ra_iload A d_De_separate_59 rfl <| ra_iload A d_De_separate_61 rfl <| ra_isub A d_De_separate_63 <| ra_istore (L' := [_, _, _, _, _, _, _]) A d_De_separate_64 (by decide) rfl <| ra_goto (q := 126) A d_De_separate_66 (by decide) <| ?_
      exact at126 _ _ _ (by unfold sep; rw [if_pos c8])
    · refine ra_icmp_ne (q := 69) A d_De_separate_56 (by decide) (fun _ => ?_) (fun cc => absurd cc (ne 8 (by decide) c8))
      refine ra_aload_n A d_De_separate_69 rfl <| ra_getI A f_De_147 d_De_separate_70 (Nat.le_of_ble_eq_true rfl) rfl rfl <| ?_
      rw [cg]
      refine ra_bipush A 9 d_De_separate_73 (by decide) <| ?_
      by_cases c9 : c = 9
      · refine ra_icmp_ne (q := 88) A d_De_separate_75 (by decide) (fun cc => absurd ((by rw [c9]; rfl)) cc) (fun _ => ?_)
        refine ra_iload A d_De_separate_78 rfl <| ra_iload A d_De_separate_80 rfl <| ra_iadd A d_De_separate_82 <| ra_istore (L' := [_, _, _, _, _, _, _]) A d_De_separate_83 (by decide) rfl <| ra_goto (q := 126) A d_De_separate_85 (by decide) <| ?_
        exact at126 _ _ _ (by unfold sep; rw [if_neg c8, if_pos c9])
      · refine ra_icmp_ne (q := 88) A d_De_separate_75 (by decide) (fun _ => ?_) (fun cc => absurd cc (ne 9 (by decide) c9))
        refine ra_aload_n A d_De_separate_88 rfl <| ra_getI A f_De_147 d_De_separate_89 (Nat.le_of_ble_eq_true rfl) rfl rfl <| ?_
        rw [cg]
        refine ra_bipush A 10 d_De_separate_92 (by decide) <| ?_
        by_cases c10 : c = 10
        · refine ra_icmp_ne (q := 126) A d_De_separate_94 (by decide) (fun cc => absurd ((by rw [c10]; rfl)) cc) (fun _ => ?_)
          refine ra_iconst A 2 d_De_separate_97 (by decide) <| ra_iload A d_De_separate_98 rfl <| ra_imul A d_De_separate_100 <| ra_iload A d_De_separate_101 rfl <| ra_iconst A 1 d_De_separate_103 (by decide) <| ra_iand A d_De_separate_104 <| ra_iadd A d_De_separate_105 <| ra_istore (L' := [_, _, _, _, _, _, _]) A d_De_separate_106 (by decide) rfl <| ra_iload A d_De_separate_108 rfl <| ra_iload A d_De_separate_110 rfl <| ra_iadd A d_De_separate_112 <| ra_iconst A 1 d_De_separate_113 (by decide) <| ra_ishr A d_De_separate_114 <| ra_istore (L' := [_, _, _, _, _, _, _]) A d_De_separate_115 (by decide) rfl <| ra_iload A d_De_separate_117 rfl <| ra_iload A d_De_separate_119 rfl <| ra_isub A d_De_separate_121 <| ra_iconst A 1 d_De_separate_122 (by decide) <| ra_ishr A d_De_separate_123 <| ra_istore (L' := [_, _, _, _, _, _, _]) A d_De_separate_124 (by decide) rfl <| ?_
          exact at126 _ _ _ (by unfold sep; rw [if_neg c8, if_neg c9, if_pos c10])
        · refine ra_icmp_ne (q := 126) A d_De_separate_94 (by decide) (fun _ => ?_) (fun cc => absurd cc (ne 10 (by decide) c10))
          exact at126 _ _ _ (by unfold sep; rw [if_neg c8, if_neg c9, if_neg c10])
end S99d
