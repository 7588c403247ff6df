/-! tools for loops and frames; the JDK's methods -/
theorem lp_up {σ : Type} {W I : Nat → σ → Prop} (N : Nat) (hx : ∀ s, I N s → W N s) (hs : ∀ i s, i < N → I i s → (∀ s', I (i + 1) s' → W (i + 1) s') → W i s) : ∀ i s, i ≤ N → I i s → W i s := by
  have key : ∀ r i s, i + r = N → I i s → W i s := by
    intro r
    induction r with
    | zero => intro i s e hI; obtain rfl : i = N := by omega
              exact hx s hI
    | succ r ih => intro i s e hI; exact hs i s (by omega) hI (fun s' h' => ih (i + 1) s' (by omega) h')
  exact fun i s hi hI => key (N - i) i s (by omega) hI
theorem lp_dn {σ : Type} {W I : Nat → σ → Prop} (hx : ∀ s, I 0 s → W 0 s) (hs : ∀ i s, I (i + 1) s → (∀ s', I i s' → W i s') → W (i + 1) s) : ∀ i s, I i s → W i s := by
  intro i
  induction i with
  | zero => exact hx
  | succ i ih => intro s h; exact hs i s h (fun s' h' => ih s' h')
/-- only the cells of S may differ -/
def fr (S : List Nat) (h h' : xw_H) : Prop := ∀ k, k ∉ S → h'.1 k = h.1 k ∧ h'.2 k = h.2 k
theorem fr.rfl {S : List Nat} {h : xw_H} : fr S h h := fun _ _ => ⟨_root_.rfl, _root_.rfl⟩
theorem fr.trans {S : List Nat} {a b c : xw_H} (h1 : fr S a b) (h2 : fr S b c) : fr S a c := fun k hk => ⟨(h2 k hk).1.trans (h1 k hk).1, (h2 k hk).2.trans (h1 k hk).2⟩
theorem fr.mono {S T : List Nat} {a b : xw_H} (h : fr S a b) (hs : ∀ k ∈ S, k ∈ T) : fr T a b := fun k hk => h k (fun q => hk (hs k q))
theorem fr_I {S : List Nat} {h : xw_H} {k j : Nat} {x : Int32} (hk : k ∈ S) : fr S h (xw_I h k j x) := fun a ha => ⟨xI_k (fun q => ha (q ▸ hk)), _root_.rfl⟩
theorem fr_J {S : List Nat} {h : xw_H} {k j : Nat} {x : Int64} (hk : k ∈ S) : fr S h (xw_J h k j x) := fun a ha => ⟨_root_.rfl, xJ_k (fun q => ha (q ▸ hk))⟩
theorem fr.I {S : List Nat} {h g : xw_H} {k j : Nat} {x : Int32} (f : fr S h g) (hk : k ∈ S) : fr S h (xw_I g k j x) := f.trans (fr_I hk)
theorem fr.J {S : List Nat} {h g : xw_H} {k j : Nat} {x : Int64} (f : fr S h g) (hk : k ∈ S) : fr S h (xw_J g k j x) := f.trans (fr_J hk)
/-- a whole row is put -/
def xw_s1 (h : xw_H) (k : Nat) (f : Nat → Int32) : xw_H := (va_up h.1 k f, h.2)
def xw_s2 (h : xw_H) (k : Nat) (f : Nat → Int64) : xw_H := (h.1, va_up h.2 k f)
theorem xs1_e {h : xw_H} {k : Nat} {f : Nat → Int32} : (xw_s1 h k f).1 k = f := by simp [xw_s1, va_up]
theorem xs1_k {h : xw_H} {k a : Nat} {f : Nat → Int32} (e : a ≠ k) : (xw_s1 h k f).1 a = h.1 a := va_up_ne _ _ e
theorem xs2_e {h : xw_H} {k : Nat} {f : Nat → Int64} : (xw_s2 h k f).2 k = f := by simp [xw_s2, va_up]
theorem xs2_k {h : xw_H} {k a : Nat} {f : Nat → Int64} (e : a ≠ k) : (xw_s2 h k f).2 a = h.2 a := va_up_ne _ _ e
theorem fr_s1 {S : List Nat} {h : xw_H} {k : Nat} {f : Nat → Int32} (hk : k ∈ S) : fr S h (xw_s1 h k f) := fun a ha => ⟨xs1_k (fun q => ha (q ▸ hk)), _root_.rfl⟩
theorem fr_s2 {S : List Nat} {h : xw_H} {k : Nat} {f : Nat → Int64} (hk : k ∈ S) : fr S h (xw_s2 h k f) := fun a ha => ⟨_root_.rfl, xs2_k (fun q => ha (q ▸ hk))⟩
theorem up_id {α : Type} (f : Nat → α) (k : Nat) : va_up f k (f k) = f := by
  funext a
  by_cases h : a = k
  · subst h; simp [va_up]
  · exact va_up_ne _ _ h
theorem up_up {α : Type} (f : Nat → α) (k : Nat) (a b : α) : va_up (va_up f k a) k b = va_up f k b := by
  funext q
  by_cases h : q = k
  · subst h; simp [va_up]
  · rw [va_up_ne _ _ h, va_up_ne _ _ h, va_up_ne _ _ h]
theorem xs1_id {h : xw_H} {k : Nat} {f : Nat → Int32} (e : ∀ j, f j = h.1 k j) : xw_s1 h k f = h := by
  have : f = h.1 k := funext e
  subst this
  show (va_up h.1 k (h.1 k), h.2) = h
  rw [up_id]
theorem xs1_I {h : xw_H} {k j : Nat} {x : Int32} {f g : Nat → Int32} (e : ∀ q, g q = if q = j then x else f q) : xw_I (xw_s1 h k f) k j x = xw_s1 h k g := by
  have : g = upd f j x := funext fun q => by rw [e q]; rfl
  subst this
  show (va_up (va_up h.1 k f) k (upd ((va_up h.1 k f) k) j x), h.2) = _
  rw [up_up]
  simp [xw_s1, va_up]
theorem xs2_id {h : xw_H} {k : Nat} {f : Nat → Int64} (e : ∀ j, f j = h.2 k j) : xw_s2 h k f = h := by
  have : f = h.2 k := funext e
  subst this
  show (h.1, va_up h.2 k (h.2 k)) = h
  rw [up_id]
theorem xs2_J {h : xw_H} {k j : Nat} {x : Int64} {f g : Nat → Int64} (e : ∀ q, g q = if q = j then x else f q) : xw_J (xw_s2 h k f) k j x = xw_s2 h k g := by
  have : g = vp_updL f j x := funext fun q => by rw [e q]; rfl
  subst this
  show (h.1, va_up (va_up h.2 k f) k (vp_updL ((va_up h.2 k f) k) j x)) = _
  rw [up_up]
  simp [xw_s2, va_up]
section S55
variable {u : xu_T} {l : Launch} {KK : State → Prop} {h : xw_H} {X : xc_R → xw_H → Nat → Nat → Prop}
theorem s_Jfill (K : xk_ok u KK) {k len : Nat} {v : Int32} (hk : k < 157) (hkd : kd0 k = .inr (0, 0, len)) (hl : len < 2 ^ 31) (hX : X (.inl none) (xw_s1 h k (fun j => if j < len then v else h.1 k j)) 0 0) : xm_M l (y0 u) KK m_Jfill [.ref k, .int v] h X := by
  refine xm_of [none, none] (by simp) (Nat.le_of_ble_eq_true rfl) (by decide) (fun x at0 => ?_)
  have A := xa_of at0 K
  have ow := at0.2.2.2.2.1
  refine ra_iconst A 0 d_Jfill_0 (by decide) <| ra_istore_n (L' := [_, _, _, _]) A d_Jfill_1 (by decide) rfl <| ra_aload_n A d_Jfill_2 rfl <| ?_
  refine ra_alen A rfl d_Jfill_3 hk hkd ?_
  refine ra_istore_n (L' := [_, _, _, _]) A d_Jfill_4 (by decide) rfl <| ?_
  refine lp_up (σ := xw_H) (W := fun i g => xg x (y0 u) 0 0 5 [some (.ref k), some (.int v), some (.int (nI i)), some (.int (nI len))] [] g) (I := fun i g => g = xw_s1 h k (fun j => if j < i then v else h.1 k j)) len ?_ ?_ 0 h (by omega) ?_
  · rintro g rfl
    refine ra_iload_n A d_Jfill_5 rfl <| ra_iload_n A d_Jfill_6 rfl <| ?_
    refine ra_icmp_ge (q := 20) A d_Jfill_7 (by decide) (fun _ => ?_) (fun cc => absurd (Int32.le_refl _) cc)
    exact ra_vret A ow d_Jfill_20 hX
  · rintro i g hi rfl ih
    refine ra_iload_n A d_Jfill_5 rfl <| ra_iload_n A d_Jfill_6 rfl <| ?_
    refine ra_icmp_ge (q := 20) A d_Jfill_7 (by decide) (fun cc => absurd cc (nI_ge hi hl)) (fun _ => ?_)
    refine ra_aload_n A d_Jfill_10 rfl <| ra_iload_n A d_Jfill_11 rfl <| ra_iload_n A d_Jfill_12 rfl <| ?_
    refine ra_iastore A d_Jfill_13 hk hkd (vp_in_nI hi hl) ?_
    rw [nI_clamp (by omega)]
    refine ra_iinc (L' := [_, _, _, _]) A 1 d_Jfill_14 rfl (by decide) (by decide) rfl <| ra_goto (q := 5) A d_Jfill_17 (by decide) <| ?_
    rw [nI_1]
    refine ih _ (xs1_I (fun q => ?_))
    by_cases e : q = i
    · rw [if_pos e, if_pos (by omega)]
    · rw [if_neg e]
      by_cases e2 : q < i
      · rw [if_pos e2, if_pos (by omega)]
      · rw [if_neg e2, if_neg (by omega)]
  · exact (xs1_id (fun j => if_neg (by omega))).symm
theorem s_Jfilll (K : xk_ok u KK) {k len : Nat} {v : Int64} (hk : k < 157) (hkd : kd0 k = .inr (1, 1, len)) (hl : len < 2 ^ 31) (hX : X (.inl none) (xw_s2 h k (fun j => if j < len then v else h.2 k j)) 0 0) : xm_M l (y0 u) KK m_Jfilll [.ref k, .long v] h X := by
  refine xm_of [none, none] (by simp) (Nat.le_of_ble_eq_true rfl) (by decide) (fun x at0 => ?_)
  have A := xa_of at0 K
  have ow := at0.2.2.2.2.1
  refine ra_iconst A 0 d_Jfilll_0 (by decide) <| ra_istore_n (L' := [_, _, _, _, _]) A d_Jfilll_1 (by decide) rfl <| ra_aload_n A d_Jfilll_2 rfl <| ?_
  refine ra_alen A rfl d_Jfilll_3 hk hkd ?_
  refine ra_istore (L' := [_, _, _, _, _]) A d_Jfilll_4 (by decide) rfl <| ?_
  refine lp_up (σ := xw_H) (W := fun i g => xg x (y0 u) 0 0 6 [some (.ref k), some (.long v), none, some (.int (nI i)), some (.int (nI len))] [] g) (I := fun i g => g = xw_s2 h k (fun j => if j < i then v else h.2 k j)) len ?_ ?_ 0 h (by omega) ?_
  · rintro g rfl
    refine ra_iload_n A d_Jfilll_6 rfl <| ra_iload A d_Jfilll_7 rfl <| ?_
    refine ra_icmp_ge (q := 22) A d_Jfilll_9 (by decide) (fun _ => ?_) (fun cc => absurd (Int32.le_refl _) cc)
    exact ra_vret A ow d_Jfilll_22 hX
  · rintro i g hi rfl ih
    refine ra_iload_n A d_Jfilll_6 rfl <| ra_iload A d_Jfilll_7 rfl <| ?_
    refine ra_icmp_ge (q := 22) A d_Jfilll_9 (by decide) (fun cc => absurd cc (nI_ge hi hl)) (fun _ => ?_)
    refine ra_aload_n A d_Jfilll_12 rfl <| ra_iload_n A d_Jfilll_13 rfl <| ra_lload_n A d_Jfilll_14 rfl <| ?_
    refine ra_lastore A d_Jfilll_15 hk hkd (vp_in_nI hi hl) ?_
    rw [nI_clamp (by omega)]
    refine ra_iinc (L' := [_, _, _, _, _]) A 1 d_Jfilll_16 rfl (by decide) (by decide) rfl <| ra_goto (q := 6) A d_Jfilll_19 (by decide) <| ?_
    rw [nI_1]
    refine ih _ (xs2_J (fun q => ?_))
    by_cases e : q = i
    · rw [if_pos e, if_pos (by omega)]
    · rw [if_neg e]
      by_cases e2 : q < i
      · rw [if_pos e2, if_pos (by omega)]
      · rw [if_neg e2, if_neg (by omega)]
  · exact (xs2_id (fun j => if_neg (by omega))).symm
theorem s_Jrange (K : xk_ok u KK) {len a b : Nat} (hl : len < 2 ^ 31) (hab : a ≤ b) (hb : b ≤ len) (hX : X (.inl none) h 0 0) : xm_M l (y0 u) KK m_Jrange [.int (nI len), .int (nI a), .int (nI b)] h X := by
  refine xm_of [] (by simp) (Nat.le_of_ble_eq_true rfl) (by decide) (fun x at0 => ?_)
  have A := xa_of at0 K
  have ow := at0.2.2.2.2.1
  refine ra_iload_n A d_Jrange_0 rfl <| ra_iload_n A d_Jrange_1 rfl <| ?_
  refine ra_icmp_le (q := 46) A d_Jrange_2 (by decide) (fun _ => ?_) (fun cc => absurd (nI_le hab (by omega)) cc)
  refine ra_iload_n A d_Jrange_46 rfl <| ?_
  refine ra_if_ge (q := 59) A d_Jrange_47 (by decide) (fun _ => ?_) (fun cc => absurd (nI_pos' (by omega)) cc)
  refine ra_iload_n A d_Jrange_59 rfl <| ra_iload_n A d_Jrange_60 rfl <| ?_
  refine ra_icmp_le (q := 73) A d_Jrange_61 (by decide) (fun _ => ?_) (fun cc => absurd (nI_le hb (by omega)) cc)
  exact ra_vret A ow d_Jrange_73 hX
theorem s_Jfillr (K : xk_ok u KK) {k len a b : Nat} {v : Int32} (hk : k < 157) (hkd : kd0 k = .inr (0, 0, len)) (hl : len < 2 ^ 31) (hab : a ≤ b) (hb : b ≤ len) (hX : X (.inl none) (xw_s1 h k (fun j => if a ≤ j ∧ j < b then v else h.1 k j)) 0 0) : xm_M l (y0 u) KK m_Jfillr [.ref k, .int (nI a), .int (nI b), .int v] h X := by
  refine xm_of [none] (by simp) (Nat.le_of_ble_eq_true rfl) (by decide) (fun x at0 => ?_)
  have A := xa_of at0 K
  have ow := at0.2.2.2.2.1
  refine ra_aload_n A d_Jfillr_0 rfl <| ?_
  refine ra_alen A rfl d_Jfillr_1 hk hkd ?_
  refine ra_iload_n A d_Jfillr_2 rfl <| ra_iload_n A d_Jfillr_3 rfl <| ?_
  refine ra_callS (As := [_, _, _]) A ok_Jrange l_Ar_13 st_Jrange d_Jfillr_4 rfl (Nat.le_of_ble_eq_true rfl) (xr_of at0 (by decide)) (s_Jrange K hl hab hb ?_)
  show xg x (y0 u) 0 0 7 _ _ _
  refine ra_iload_n A d_Jfillr_7 rfl <| ra_istore (L' := [_, _, _, _, _]) A d_Jfillr_8 (by decide) rfl <| ?_
  refine lp_up (σ := xw_H) (W := fun i g => xg x (y0 u) 0 0 10 [some (.ref k), some (.int (nI a)), some (.int (nI b)), some (.int v), some (.int (nI i))] [] g) (I := fun i g => a ≤ i ∧ g = xw_s1 h k (fun j => if a ≤ j ∧ j < i then v else h.1 k j)) b ?_ ?_ a h hab ?_
  · rintro g ⟨-, rfl⟩
    refine ra_iload A d_Jfillr_10 rfl <| ra_iload_n A d_Jfillr_12 rfl <| ?_
    refine ra_icmp_ge (q := 27) A d_Jfillr_13 (by decide) (fun _ => ?_) (fun cc => absurd (Int32.le_refl _) cc)
    exact ra_vret A ow d_Jfillr_27 hX
  · rintro i g hi ⟨ha, rfl⟩ ih
    refine ra_iload A d_Jfillr_10 rfl <| ra_iload_n A d_Jfillr_12 rfl <| ?_
    refine ra_icmp_ge (q := 27) A d_Jfillr_13 (by decide) (fun cc => absurd cc (nI_ge hi (by omega))) (fun _ => ?_)
    refine ra_aload_n A d_Jfillr_16 rfl <| ra_iload A d_Jfillr_17 rfl <| ra_iload_n A d_Jfillr_19 rfl <| ?_
    refine ra_iastore A d_Jfillr_20 hk hkd (vp_in_nI (by omega) hl) ?_
    rw [nI_clamp (by omega)]
    refine ra_iinc (L' := [_, _, _, _, _]) A 1 d_Jfillr_21 rfl (by decide) (by decide) rfl <| ra_goto (q := 10) A d_Jfillr_24 (by decide) <| ?_
    rw [nI_1]
    refine ih _ ⟨by omega, xs1_I (fun q => ?_)⟩
    by_cases e : q = i
    · rw [if_pos e, if_pos (by omega)]
    · rw [if_neg e]
      by_cases e2 : a ≤ q ∧ q < i
      · rw [if_pos e2, if_pos (by omega)]
      · rw [if_neg e2, if_neg (by omega)]
  · exact ⟨by omega, (xs1_id (fun j => if_neg (by omega))).symm⟩
end S55
section S55b
variable {x : xg_T} {y : xw_T} {KK : State → Prop} {own : String} {cc : ByteArray} {nL : Nat} {nc ns pc : Nat} {L : List (Option Value)} {S : List Value} {h : xw_H}
theorem ra_mmin (A : xg_A x y KK own cc nL) {index : Nat} {a b : Nat} (ha : a < 2 ^ 31) (hb : b < 2 ^ 31) (hlink : Cond.methodLink own index m_Jmin.1 ∈ xw_tbl) (d : decode cc pc = .ok (.invokestatic index, 3)) (hR : 1 ≤ (xm_R x).frames ∧ (S.map fun v => v.category).sum + 13 ≤ (xm_R x).locals ∧ nc ≤ (xm_R x).cells ∧ ns ≤ (xm_R x).slots)
    (kk : xg x y nc ns (pc + 3) L (.int (nI (min a b)) :: S) h) : xg x y nc ns pc L (.int (nI b) :: .int (nI a) :: S) h := by
  obtain ⟨X, rfl, rfl, rfl, HW, g, hmv, hKK, hB⟩ := A
  obtain ⟨p, l, e, R, s, m, args, below, meth, c, Q, cc, own, nL⟩ := x
  obtain ⟨hx, hb', hml, hown⟩ := X
  intro H locs ls hP hS hL
  refine va_mmin hx hb' (hml.trans hL.1.symm) hown (HW _ hlink) (HW _ st_Jmin) (HW _ ok_Jmin.2.1) (by
    have := HW _ ok_Jmin.1
    exact this) hR.1 (by rw [xm_cats]; exact hR.2.1) hR.2.2.1 hR.2.2.2 d ?_
  have e : (if nI b < nI a then nI b else nI a) = nI (min a b) := by
    by_cases q : b < a
    · rw [if_pos ((nI_ltI hb ha).mpr q), Nat.min_eq_right (by omega)]
    · rw [if_neg (fun z => q ((nI_ltI hb ha).mp z)), Nat.min_eq_left (by omega)]
  rw [e]
  exact kk H locs ls hP hS hL
theorem ra_mmax (A : xg_A x y KK own cc nL) {index : Nat} {a b : Nat} (ha : a < 2 ^ 31) (hb : b < 2 ^ 31) (hlink : Cond.methodLink own index m_Jmax.1 ∈ xw_tbl) (d : decode cc pc = .ok (.invokestatic index, 3)) (hR : 1 ≤ (xm_R x).frames ∧ (S.map fun v => v.category).sum + 13 ≤ (xm_R x).locals ∧ nc ≤ (xm_R x).cells ∧ ns ≤ (xm_R x).slots)
    (kk : xg x y nc ns (pc + 3) L (.int (nI (max a b)) :: S) h) : xg x y nc ns pc L (.int (nI b) :: .int (nI a) :: S) h := by
  obtain ⟨X, rfl, rfl, rfl, HW, g, hmv, hKK, hB⟩ := A
  obtain ⟨p, l, e, R, s, m, args, below, meth, c, Q, cc, own, nL⟩ := x
  obtain ⟨hx, hb', hml, hown⟩ := X
  intro H locs ls hP hS hL
  refine va_mmax hx hb' (hml.trans hL.1.symm) hown (HW _ hlink) (HW _ st_Jmax) (HW _ ok_Jmax.2.1) (by
    have := HW _ ok_Jmax.1
    exact this) hR.1 (by rw [xm_cats]; exact hR.2.1) hR.2.2.1 hR.2.2.2 d ?_
  have e : (if nI a < nI b then nI b else nI a) = nI (max a b) := by
    by_cases q : a < b
    · rw [if_pos ((nI_ltI ha hb).mpr q), Nat.max_eq_right (by omega)]
    · rw [if_neg (fun z => q ((nI_ltI ha hb).mp z)), Nat.max_eq_left (by omega)]
  rw [e]
  exact kk H locs ls hP hS hL
end S55b
