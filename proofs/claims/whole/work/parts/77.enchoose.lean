/-! SoundStream$Encoder: firstOf, secondOf, bitsOfBoth, chooseOne, chooseTwo -/
section S77a
variable {x : xg_T} {y : xw_T} {KK : State → Prop} {own : String} {cc : ByteArray} {nL : Nat} {nc ns pc : Nat} {L : List (Option Value)} {h : xw_H} {X0 : xc_R → xw_H → Nat → Nat → Prop}
theorem xg_aret {k : Nat} {cn : String} (ok : xg_ok x) (ow : xg_owes x y X0 (some (.object cn))) (d : decode (xg_cc x) pc = .ok (.areturn, 1)) (hX : X0 (.inl (some (.ref k))) h nc ns) : xg x y nc ns pc L [.ref k] h := by
  obtain ⟨p, l, e, R, s, m, args, below, meth, c, Q, cc, own, nL⟩ := x
  obtain ⟨hx, hb, hml, hown⟩ := ok
  obtain ⟨rfl, hlocks, hr⟩ := ow
  intro H locs ls hP hS hL T hT St
  obtain ⟨t, st, hq⟩ := W.aret (v := .ref (xw_ph y k)) (Qc := fun _ _ o t => o = .returned ((some (Value.ref k)).map (xw_v (xw_ph y))) ∧ t.heap = H) hx hb hr (Or.inl ⟨_, rfl⟩) (Or.inr ⟨_, rfl⟩) (fun t ht _ => ⟨rfl, ht⟩) hS.2.2 d (hlocks := hlocks) T hT St
  exact ⟨t, st, xc_end (v := some (.ref k)) hP hS hX hq⟩
theorem ra_aret (A : xg_A x y KK own cc nL) {k : Nat} {cn : String} (ow : xg_owes x y X0 (some (.object cn))) (d : decode cc pc = .ok (.areturn, 1)) (hX : X0 (.inl (some (.ref k))) h nc ns) : xg x y nc ns pc L [.ref k] h := by
  obtain ⟨X, rfl, rfl, rfl, HW, g, hmv, hKK, hB⟩ := A
  exact xg_aret X ow d hX
end S77a
/-- a signal's subframe -/
def cw (w : Nat) : Nat := if w = 0 then 124 else if w = 1 then 126 else if w = 2 then 130 else 128
def EL : List Nat := 124 :: 125 :: 126 :: 127 :: 128 :: 129 :: 130 :: 131 :: 88 :: 89 :: ZL
/-- the subframes are chosen -/
def SA (h : xw_H) (S : Nat → Nat → Int32) (n D c : Nat) : Prop := SF h 124 125 (S 0) n D ∧ (c ≠ 0 → SF h 126 127 (S 1) n D ∧ SF h 128 129 (S 3) n D ∧ SF h 130 131 (S 2) n (D + 1))
def IA (S : Nat → Nat → Int32) (n D c : Nat) : Prop := inD (S 0) n D ∧ (c ≠ 0 → inD (S 1) n D ∧ inD (S 3) n D ∧ inD (S 2) n (D + 1))
theorem SF.fr {g g' : xw_H} {k s n d : Nat} {sm : Nat → Int32} {T : List Nat} (x : SF g k s sm n d) (f : fr T g g') (h1 : k ∉ T) (h2 : s ∉ T) : SF g' k s sm n d := x.of (f k h1).1 (f s h2).1 (f k h1).2
theorem SA.fr {g g' : xw_H} {S : Nat → Nat → Int32} {n D c : Nat} {T : List Nat} (x : SA g S n D c) (f : fr T g g') (hT : ∀ k ∈ [124, 125, 126, 127, 128, 129, 130, 131], k ∉ T) : SA g' S n D c :=
  ⟨x.1.fr f (hT _ (by decide)) (hT _ (by decide)), fun q => ⟨(x.2 q).1.fr f (hT _ (by decide)) (hT _ (by decide)), (x.2 q).2.1.fr f (hT _ (by decide)) (hT _ (by decide)), (x.2 q).2.2.fr f (hT _ (by decide)) (hT _ (by decide))⟩⟩
theorem SA.kcv {g : xw_H} {S : Nat → Nat → Int32} {n D c e : Nat} (x : SA g S n D e) (he : e ≠ 0) (hc : isC c) : g.2 (cw (sgo c 0)) 7 + g.2 (cw (sgo c 1)) 7 = lN (kc S n D c) := by
  obtain ⟨h0, h1⟩ := x
  obtain ⟨h1, h3, h2⟩ := h1 he
  unfold kc
  rw [← lN_add]
  rcases hc with rfl | rfl | rfl | rfl
  · exact congr (congrArg _ h0.2) h1.2
  · exact congr (congrArg _ h0.2) h2.2
  · exact congr (congrArg _ h2.2) h1.2
  · exact congr (congrArg _ h3.2) h2.2
section S77
variable {u : xu_T} {l : Launch} {KK : State → Prop} {h : xw_H} {X : xc_R → xw_H → Nat → Nat → Prop}
theorem s_En_firstOf (K : xk_ok u KK) {c : Nat} (hc : c = 0 ∨ isC c) (hX : X (.inl (some (.ref (cw (sgo c 0))))) h 0 0) : xm_M l (y0 u) KK m_En_firstOf [.ref 10, .int (nI c)] h X := by
  refine xm_of [] (by simp) (Nat.le_of_ble_eq_true rfl) (by decide) (fun x at0 => ?_)
  have A := xa_of at0 K
  have ow := at0.2.2.2.2.1
  rcases hc with rfl | rfl | rfl | rfl | rfl
  · refine ra_iload_n A d_En_firstOf_0 rfl <| ra_bipush A 9 d_En_firstOf_1 (by decide) <| ?_
    refine ra_icmp_ne (q := 11) A d_En_firstOf_3 (by decide) (fun _ => ?_) (fun cc => absurd cc ((by decide)))
    refine ra_iload_n A d_En_firstOf_11 rfl <| ra_bipush A 10 d_En_firstOf_12 (by decide) <| ?_
    refine ra_icmp_ne (q := 24) A d_En_firstOf_14 (by decide) (fun _ => ?_) (fun cc => absurd cc ((by decide)))
    refine ra_aload_n A d_En_firstOf_24 rfl <| ra_getR A f_En_45 d_En_firstOf_25 (Nat.le_of_ble_eq_true rfl) rfl rfl rfl <| ?_
    exact ra_aret A ow d_En_firstOf_28 hX
  · refine ra_iload_n A d_En_firstOf_0 rfl <| ra_bipush A 9 d_En_firstOf_1 (by decide) <| ?_
    refine ra_icmp_ne (q := 11) A d_En_firstOf_3 (by decide) (fun _ => ?_) (fun cc => absurd cc ((by decide)))
    refine ra_iload_n A d_En_firstOf_11 rfl <| ra_bipush A 10 d_En_firstOf_12 (by decide) <| ?_
    refine ra_icmp_ne (q := 24) A d_En_firstOf_14 (by decide) (fun _ => ?_) (fun cc => absurd cc ((by decide)))
    refine ra_aload_n A d_En_firstOf_24 rfl <| ra_getR A f_En_45 d_En_firstOf_25 (Nat.le_of_ble_eq_true rfl) rfl rfl rfl <| ?_
    exact ra_aret A ow d_En_firstOf_28 hX
  · refine ra_iload_n A d_En_firstOf_0 rfl <| ra_bipush A 9 d_En_firstOf_1 (by decide) <| ?_
    refine ra_icmp_ne (q := 11) A d_En_firstOf_3 (by decide) (fun _ => ?_) (fun cc => absurd cc ((by decide)))
    refine ra_iload_n A d_En_firstOf_11 rfl <| ra_bipush A 10 d_En_firstOf_12 (by decide) <| ?_
    refine ra_icmp_ne (q := 24) A d_En_firstOf_14 (by decide) (fun _ => ?_) (fun cc => absurd cc ((by decide)))
    refine ra_aload_n A d_En_firstOf_24 rfl <| ra_getR A f_En_45 d_En_firstOf_25 (Nat.le_of_ble_eq_true rfl) rfl rfl rfl <| ?_
    exact ra_aret A ow d_En_firstOf_28 hX
  · refine ra_iload_n A d_En_firstOf_0 rfl <| ra_bipush A 9 d_En_firstOf_1 (by decide) <| ?_
    refine ra_icmp_ne (q := 11) A d_En_firstOf_3 (by decide) (fun cc => absurd (rfl) cc) (fun _ => ?_)
    refine ra_aload_n A d_En_firstOf_6 rfl <| ra_getR A f_En_55 d_En_firstOf_7 (Nat.le_of_ble_eq_true rfl) rfl rfl rfl <| ?_
    exact ra_aret A ow d_En_firstOf_10 hX
  · refine ra_iload_n A d_En_firstOf_0 rfl <| ra_bipush A 9 d_En_firstOf_1 (by decide) <| ?_
    refine ra_icmp_ne (q := 11) A d_En_firstOf_3 (by decide) (fun _ => ?_) (fun cc => absurd cc ((by decide)))
    refine ra_iload_n A d_En_firstOf_11 rfl <| ra_bipush A 10 d_En_firstOf_12 (by decide) <| ?_
    refine ra_icmp_ne (q := 24) A d_En_firstOf_14 (by decide) (fun cc => absurd (rfl) cc) (fun _ => ?_)
    refine ra_aload_n A d_En_firstOf_17 rfl <| ra_getR A f_En_52 d_En_firstOf_18 (Nat.le_of_ble_eq_true rfl) rfl rfl rfl <| ra_goto (q := 28) A d_En_firstOf_21 (by decide) <| ?_
    exact ra_aret A ow d_En_firstOf_28 hX
theorem s_En_secondOf (K : xk_ok u KK) {c : Nat} (hc : isC c) (hX : X (.inl (some (.ref (cw (sgo c 1))))) h 0 0) : xm_M l (y0 u) KK m_En_secondOf [.ref 10, .int (nI c)] h X := by
  refine xm_of [] (by simp) (Nat.le_of_ble_eq_true rfl) (by decide) (fun x at0 => ?_)
  have A := xa_of at0 K
  have ow := at0.2.2.2.2.1
  rcases hc with rfl | rfl | rfl | rfl
  · refine ra_iload_n A d_En_secondOf_0 rfl <| ra_iconst A 1 d_En_secondOf_1 (by decide) <| ?_
    refine ra_icmp_eq (q := 11) A d_En_secondOf_2 (by decide) (fun _ => ?_) (fun cc => absurd (rfl) cc)
    refine ra_aload_n A d_En_secondOf_11 rfl <| ra_getR A f_En_49 d_En_secondOf_12 (Nat.le_of_ble_eq_true rfl) rfl rfl rfl <| ra_goto (q := 22) A d_En_secondOf_15 (by decide) <| ?_
    exact ra_aret A ow d_En_secondOf_22 hX
  · refine ra_iload_n A d_En_secondOf_0 rfl <| ra_iconst A 1 d_En_secondOf_1 (by decide) <| ?_
    refine ra_icmp_eq (q := 11) A d_En_secondOf_2 (by decide) (fun cc => absurd cc ((by decide))) (fun _ => ?_)
    refine ra_iload_n A d_En_secondOf_5 rfl <| ra_bipush A 9 d_En_secondOf_6 (by decide) <| ?_
    refine ra_icmp_ne (q := 18) A d_En_secondOf_8 (by decide) (fun _ => ?_) (fun cc => absurd cc ((by decide)))
    refine ra_aload_n A d_En_secondOf_18 rfl <| ra_getR A f_En_55 d_En_secondOf_19 (Nat.le_of_ble_eq_true rfl) rfl rfl rfl <| ?_
    exact ra_aret A ow d_En_secondOf_22 hX
  · refine ra_iload_n A d_En_secondOf_0 rfl <| ra_iconst A 1 d_En_secondOf_1 (by decide) <| ?_
    refine ra_icmp_eq (q := 11) A d_En_secondOf_2 (by decide) (fun cc => absurd cc ((by decide))) (fun _ => ?_)
    refine ra_iload_n A d_En_secondOf_5 rfl <| ra_bipush A 9 d_En_secondOf_6 (by decide) <| ?_
    refine ra_icmp_ne (q := 18) A d_En_secondOf_8 (by decide) (fun cc => absurd (rfl) cc) (fun _ => ?_)
    refine ra_aload_n A d_En_secondOf_11 rfl <| ra_getR A f_En_49 d_En_secondOf_12 (Nat.le_of_ble_eq_true rfl) rfl rfl rfl <| ra_goto (q := 22) A d_En_secondOf_15 (by decide) <| ?_
    exact ra_aret A ow d_En_secondOf_22 hX
  · refine ra_iload_n A d_En_secondOf_0 rfl <| ra_iconst A 1 d_En_secondOf_1 (by decide) <| ?_
    refine ra_icmp_eq (q := 11) A d_En_secondOf_2 (by decide) (fun cc => absurd cc ((by decide))) (fun _ => ?_)
    refine ra_iload_n A d_En_secondOf_5 rfl <| ra_bipush A 9 d_En_secondOf_6 (by decide) <| ?_
    refine ra_icmp_ne (q := 18) A d_En_secondOf_8 (by decide) (fun _ => ?_) (fun cc => absurd cc ((by decide)))
    refine ra_aload_n A d_En_secondOf_18 rfl <| ra_getR A f_En_55 d_En_secondOf_19 (Nat.le_of_ble_eq_true rfl) rfl rfl rfl <| ?_
    exact ra_aret A ow d_En_secondOf_22 hX
theorem s_En_bitsOfBoth (K : xk_ok u KK) {c : Nat} (hc : isC c) (hX : X (.inl (some (.long (h.2 (cw (sgo c 0)) 7 + h.2 (cw (sgo c 1)) 7)))) h 0 0) : xm_M l (y0 u) KK m_En_bitsOfBoth [.ref 10, .int (nI c)] h X := by
  refine xm_of [] (by simp) (Nat.le_of_ble_eq_true rfl) (by decide) (fun x at0 => ?_)
  have A := xa_of at0 K
  have ow := at0.2.2.2.2.1
  have hc' := hc
  rcases hc with rfl | rfl | rfl | rfl
  · refine ra_aload_n A d_En_bitsOfBoth_0 rfl <| ra_iload_n A d_En_bitsOfBoth_1 rfl <| ?_
    refine ra_callV (As := [_]) A ok_En_firstOf l_En_147 im_En_firstOf sl_En_firstOf d_En_bitsOfBoth_2 (Nat.le_of_ble_eq_true rfl) rfl rfl rfl (Nat.le_of_ble_eq_true rfl) (xr_of at0 (by decide)) (s_En_firstOf K (Or.inr hc') ?_)
    show xg x (y0 u) 0 0 5 _ _ h
    refine ra_getJ A f_En_151 d_En_bitsOfBoth_5 (Nat.le_of_ble_eq_true rfl) rfl rfl <| ra_aload_n A d_En_bitsOfBoth_8 rfl <| ra_iload_n A d_En_bitsOfBoth_9 rfl <| ?_
    refine ra_callV (As := [_]) A ok_En_secondOf l_En_155 im_En_secondOf sl_En_secondOf d_En_bitsOfBoth_10 (Nat.le_of_ble_eq_true rfl) rfl rfl rfl (Nat.le_of_ble_eq_true rfl) (xr_of at0 (by decide)) (s_En_secondOf K hc' ?_)
    show xg x (y0 u) 0 0 13 _ _ h
    refine ra_getJ A f_En_151 d_En_bitsOfBoth_13 (Nat.le_of_ble_eq_true rfl) rfl rfl <| ra_ladd A d_En_bitsOfBoth_16 <| ?_
    exact ra_lret A ow d_En_bitsOfBoth_17 hX
  · refine ra_aload_n A d_En_bitsOfBoth_0 rfl <| ra_iload_n A d_En_bitsOfBoth_1 rfl <| ?_
    refine ra_callV (As := [_]) A ok_En_firstOf l_En_147 im_En_firstOf sl_En_firstOf d_En_bitsOfBoth_2 (Nat.le_of_ble_eq_true rfl) rfl rfl rfl (Nat.le_of_ble_eq_true rfl) (xr_of at0 (by decide)) (s_En_firstOf K (Or.inr hc') ?_)
    show xg x (y0 u) 0 0 5 _ _ h
    refine ra_getJ A f_En_151 d_En_bitsOfBoth_5 (Nat.le_of_ble_eq_true rfl) rfl rfl <| ra_aload_n A d_En_bitsOfBoth_8 rfl <| ra_iload_n A d_En_bitsOfBoth_9 rfl <| ?_
    refine ra_callV (As := [_]) A ok_En_secondOf l_En_155 im_En_secondOf sl_En_secondOf d_En_bitsOfBoth_10 (Nat.le_of_ble_eq_true rfl) rfl rfl rfl (Nat.le_of_ble_eq_true rfl) (xr_of at0 (by decide)) (s_En_secondOf K hc' ?_)
    show xg x (y0 u) 0 0 13 _ _ h
    refine ra_getJ A f_En_151 d_En_bitsOfBoth_13 (Nat.le_of_ble_eq_true rfl) rfl rfl <| ra_ladd A d_En_bitsOfBoth_16 <| ?_
    exact ra_lret A ow d_En_bitsOfBoth_17 hX
  · refine ra_aload_n A d_En_bitsOfBoth_0 rfl <| ra_iload_n A d_En_bitsOfBoth_1 rfl <| ?_
    refine ra_callV (As := [_]) A ok_En_firstOf l_En_147 im_En_firstOf sl_En_firstOf d_En_bitsOfBoth_2 (Nat.le_of_ble_eq_true rfl) rfl rfl rfl (Nat.le_of_ble_eq_true rfl) (xr_of at0 (by decide)) (s_En_firstOf K (Or.inr hc') ?_)
    show xg x (y0 u) 0 0 5 _ _ h
    refine ra_getJ A f_En_151 d_En_bitsOfBoth_5 (Nat.le_of_ble_eq_true rfl) rfl rfl <| ra_aload_n A d_En_bitsOfBoth_8 rfl <| ra_iload_n A d_En_bitsOfBoth_9 rfl <| ?_
    refine ra_callV (As := [_]) A ok_En_secondOf l_En_155 im_En_secondOf sl_En_secondOf d_En_bitsOfBoth_10 (Nat.le_of_ble_eq_true rfl) rfl rfl rfl (Nat.le_of_ble_eq_true rfl) (xr_of at0 (by decide)) (s_En_secondOf K hc' ?_)
    show xg x (y0 u) 0 0 13 _ _ h
    refine ra_getJ A f_En_151 d_En_bitsOfBoth_13 (Nat.le_of_ble_eq_true rfl) rfl rfl <| ra_ladd A d_En_bitsOfBoth_16 <| ?_
    exact ra_lret A ow d_En_bitsOfBoth_17 hX
  · refine ra_aload_n A d_En_bitsOfBoth_0 rfl <| ra_iload_n A d_En_bitsOfBoth_1 rfl <| ?_
    refine ra_callV (As := [_]) A ok_En_firstOf l_En_147 im_En_firstOf sl_En_firstOf d_En_bitsOfBoth_2 (Nat.le_of_ble_eq_true rfl) rfl rfl rfl (Nat.le_of_ble_eq_true rfl) (xr_of at0 (by decide)) (s_En_firstOf K (Or.inr hc') ?_)
    show xg x (y0 u) 0 0 5 _ _ h
    refine ra_getJ A f_En_151 d_En_bitsOfBoth_5 (Nat.le_of_ble_eq_true rfl) rfl rfl <| ra_aload_n A d_En_bitsOfBoth_8 rfl <| ra_iload_n A d_En_bitsOfBoth_9 rfl <| ?_
    refine ra_callV (As := [_]) A ok_En_secondOf l_En_155 im_En_secondOf sl_En_secondOf d_En_bitsOfBoth_10 (Nat.le_of_ble_eq_true rfl) rfl rfl rfl (Nat.le_of_ble_eq_true rfl) (xr_of at0 (by decide)) (s_En_secondOf K hc' ?_)
    show xg x (y0 u) 0 0 13 _ _ h
    refine ra_getJ A f_En_151 d_En_bitsOfBoth_13 (Nat.le_of_ble_eq_true rfl) rfl rfl <| ra_ladd A d_En_bitsOfBoth_16 <| ?_
    exact ra_lret A ow d_En_bitsOfBoth_17 hX
theorem s_En_chooseOne (K : xk_ok u KK) {a n D : Nat} {s0 s1 : Nat → Int32} (hn : n ≤ 1024) (ha : a + n ≤ 1200) (hD0 : 1 ≤ D) (hD : D ≤ 24) (eD : h.1 1 1 = nI D) (e3 : ∀ i, i < 1200 → h.1 3 i = s0 i) (hb : IA (sg s0 s1 a) n D 0)
    (hX : ∀ h', fr EL h h' → SA h' (sg s0 s1 a) n D 0 → X (.inl (some (.int 0))) h' 0 0) : xm_M l (y0 u) KK m_En_chooseOne [.ref 10, .int (nI a), .int (nI n)] h X := by
  refine xm_of [none] (by simp) (Nat.le_of_ble_eq_true rfl) (by decide) (fun x at0 => ?_)
  have A := xa_of at0 K
  have ow := at0.2.2.2.2.1
  have i0 : vp_in (0 : Int32) 2 := vp_in_nI (n := 0) (by decide) (by decide)
  refine ra_iconst A 0 d_En_chooseOne_0 (by decide) <| ra_istore_n (L' := [_, _, _, _]) A d_En_chooseOne_1 (by decide) rfl <| ?_
  refine lp_up (σ := xw_H) (W := fun i g => xg x (y0 u) 0 0 2 [some (.ref 10), some (.int (nI a)), some (.int (nI n)), some (.int (nI i))] [] g) (I := fun i g => fr EL h g ∧ ∀ j, j < i → g.1 125 j = sg s0 s1 a 0 j) n ?_ ?_ 0 h (Nat.zero_le _) ⟨fr.rfl, fun j hj => by omega⟩
  · rintro g ⟨hf, hs⟩
    refine ra_iload_n A d_En_chooseOne_2 rfl <| ra_iload_n A d_En_chooseOne_3 rfl <| ?_
    refine ra_icmp_ge (q := 34) A d_En_chooseOne_4 (by decide) (fun _ => ?_) (fun cc => absurd (Int32.le_refl _) cc)
    refine ra_aload_n A d_En_chooseOne_34 rfl <| ra_getR A f_En_45 d_En_chooseOne_35 (Nat.le_of_ble_eq_true rfl) rfl rfl rfl <| ra_iload_n A d_En_chooseOne_38 rfl <| ra_aload_n A d_En_chooseOne_39 rfl <| ra_getR A f_En_16 d_En_chooseOne_40 (Nat.le_of_ble_eq_true rfl) rfl rfl rfl <| ra_getI A f_En_122 d_En_chooseOne_43 (Nat.le_of_ble_eq_true rfl) rfl rfl <| ?_
    rw [fr1 hf (by decide), eD]
    refine ra_callV (As := [_, _]) A ok_Su_choose l_En_141 im_Su_choose sl_Su_choose d_En_chooseOne_46 (Nat.le_of_ble_eq_true rfl) rfl rfl rfl (Nat.le_of_ble_eq_true rfl) (xr_of at0 (by decide)) (s_Su_choose_124 K hn hD0 (by omega) hs hb.1 (fun g2 f2 S2 => ?_))
    show xg x (y0 u) 0 0 49 _ _ g2
    refine ra_iconst A 0 d_En_chooseOne_49 (by decide) <| ?_
    exact ra_iret A ow d_En_chooseOne_50 (hX g2 (hf.trans (f2.mono (by decide))) ⟨S2, fun q => absurd rfl q⟩)
  · rintro i g hi ⟨hf, hs⟩ ih
    refine ra_iload_n A d_En_chooseOne_2 rfl <| ra_iload_n A d_En_chooseOne_3 rfl <| ?_
    refine ra_icmp_ge (q := 34) A d_En_chooseOne_4 (by decide) (fun cc => absurd cc (nI_ge hi (by omega))) (fun _ => ?_)
    refine ra_aload_n A d_En_chooseOne_7 rfl <| ra_getR A f_En_45 d_En_chooseOne_8 (Nat.le_of_ble_eq_true rfl) rfl rfl rfl <| ra_iload_n A d_En_chooseOne_11 rfl <| ra_aload_n A d_En_chooseOne_12 rfl <| ra_getR A f_En_16 d_En_chooseOne_13 (Nat.le_of_ble_eq_true rfl) rfl rfl rfl <| ra_getR A f_En_135 d_En_chooseOne_16 (Nat.le_of_ble_eq_true rfl) rfl rfl rfl <| ra_iconst A 0 d_En_chooseOne_19 (by decide) <| ?_
    refine ra_aaload (b := 3) A d_En_chooseOne_20 (Nat.le_of_ble_eq_true rfl) rfl rfl i0 rfl ?_
    refine ra_iload_n A d_En_chooseOne_21 rfl <| ra_iload_n A d_En_chooseOne_22 rfl <| ra_iadd A d_En_chooseOne_23 <| ?_
    rw [nI_add]
    refine ra_iaload A d_En_chooseOne_24 (Nat.le_of_ble_eq_true rfl) rfl (vp_in_nI (by omega) (by decide)) ?_
    rw [nI_clamp (by omega), fr1 hf (by decide), e3 _ (by omega)]
    refine ra_callV (As := [_, _]) A ok_Su_setSample l_En_138 im_Su_setSample sl_Su_setSample d_En_chooseOne_25 (Nat.le_of_ble_eq_true rfl) rfl rfl rfl (Nat.le_of_ble_eq_true rfl) (xr_of at0 (by decide)) (s_Su_setSample_124 K (by omega) ?_)
    show xg x (y0 u) 0 0 28 _ _ _
    refine ra_iinc (L' := [_, _, _, _]) A 1 d_En_chooseOne_28 rfl (by decide) (by decide) rfl <| ra_goto (q := 2) A d_En_chooseOne_31 (by decide) <| ?_
    rw [nI_1]
    refine ih _ ⟨hf.I (by decide), fun j hj => ?_⟩
    by_cases c : j = i
    · subst c; rw [xI_e]; rfl
    · rw [xI_j c]; exact hs j (by omega)
def bsN (S : Nat → Nat → Int32) (n D : Nat) : Nat → Nat
  | 0 => 1
  | j + 1 => bst S n D (8 + j) (bsN S n D j)
theorem bsN_C {S : Nat → Nat → Int32} {n D : Nat} : ∀ j, j ≤ 3 → isC (bsN S n D j)
  | 0, _ => Or.inl rfl
  | j + 1, h => bst_C (by unfold isC; omega) (bsN_C j (by omega))
theorem s_En_chooseTwo (K : xk_ok u KK) {a n D : Nat} {s0 s1 : Nat → Int32} (hn0 : 1 ≤ n) (hn : n ≤ 1024) (ha : a + n ≤ 1200) (hD0 : 1 ≤ D) (hD : D ≤ 24) (eD : h.1 1 1 = nI D) (e3 : ∀ i, i < 1200 → h.1 3 i = s0 i) (e4 : ∀ i, i < 1200 → h.1 4 i = s1 i) (hb : IA (sg s0 s1 a) n D 1)
    (hX : ∀ h', fr EL h h' → SA h' (sg s0 s1 a) n D 1 → X (.inl (some (.int (nI (bC (sg s0 s1 a) n D))))) h' 0 0) : xm_M l (y0 u) KK m_En_chooseTwo [.ref 10, .int (nI a), .int (nI n)] h X := by
  refine xm_of [none, none, none] (by simp) (Nat.le_of_ble_eq_true rfl) (by decide) (fun x at0 => ?_)
  have A := xa_of at0 K
  have ow := at0.2.2.2.2.1
  have i0 : vp_in (0 : Int32) 2 := vp_in_nI (n := 0) (by decide) (by decide)
  have i1 : vp_in (1 : Int32) 2 := vp_in_nI (n := 1) (by decide) (by decide)
  obtain ⟨b0, b1⟩ := hb
  obtain ⟨b1, b3, b2⟩ := b1 (by decide)
  refine ra_iconst A 0 d_En_chooseTwo_0 (by decide) <| ra_istore_n (L' := [_, _, _, _, _, _]) A d_En_chooseTwo_1 (by decide) rfl <| ?_
  refine lp_up (σ := xw_H) (W := fun i g => ∀ w4 w5, xg x (y0 u) 0 0 2 [some (.ref 10), some (.int (nI a)), some (.int (nI n)), some (.int (nI i)), w4, w5] [] g) (I := fun i g => fr EL h g ∧ ∀ j, j < i → g.1 125 j = sg s0 s1 a 0 j ∧ g.1 127 j = sg s0 s1 a 1 j ∧ g.1 129 j = sg s0 s1 a 3 j ∧ g.1 131 j = sg s0 s1 a 2 j) n ?_ ?_ 0 h (Nat.zero_le _) ⟨fr.rfl, fun j hj => by omega⟩ none none
  · rintro g ⟨hf, hs⟩ w4 w5
    refine ra_iload_n A d_En_chooseTwo_2 rfl <| ra_iload_n A d_En_chooseTwo_3 rfl <| ?_
    refine ra_icmp_ge (q := 91) A d_En_chooseTwo_4 (by decide) (fun _ => ?_) (fun cc => absurd (Int32.le_refl _) cc)
    refine ra_aload_n A d_En_chooseTwo_91 rfl <| ra_getR A f_En_45 d_En_chooseTwo_92 (Nat.le_of_ble_eq_true rfl) rfl rfl rfl <| ra_iload_n A d_En_chooseTwo_95 rfl <| ra_aload_n A d_En_chooseTwo_96 rfl <| ra_getR A f_En_16 d_En_chooseTwo_97 (Nat.le_of_ble_eq_true rfl) rfl rfl rfl <| ra_getI A f_En_122 d_En_chooseTwo_100 (Nat.le_of_ble_eq_true rfl) rfl rfl <| ?_
    rw [fr1 hf (by decide), eD]
    refine ra_callV (As := [_, _]) A ok_Su_choose l_En_141 im_Su_choose sl_Su_choose d_En_chooseTwo_103 (Nat.le_of_ble_eq_true rfl) rfl rfl rfl (Nat.le_of_ble_eq_true rfl) (xr_of at0 (by decide)) (s_Su_choose_124 K hn hD0 (by omega) (fun j hj => (hs j hj).1) b0 (fun g1 f1 S1 => ?_))
    show xg x (y0 u) 0 0 106 _ _ g1
    refine ra_aload_n A d_En_chooseTwo_106 rfl <| ra_getR A f_En_49 d_En_chooseTwo_107 (Nat.le_of_ble_eq_true rfl) rfl rfl rfl <| ra_iload_n A d_En_chooseTwo_110 rfl <| ra_aload_n A d_En_chooseTwo_111 rfl <| ra_getR A f_En_16 d_En_chooseTwo_112 (Nat.le_of_ble_eq_true rfl) rfl rfl rfl <| ra_getI A f_En_122 d_En_chooseTwo_115 (Nat.le_of_ble_eq_true rfl) rfl rfl <| ?_
    rw [fr1 f1 (by decide), fr1 hf (by decide), eD]
    refine ra_callV (As := [_, _]) A ok_Su_choose l_En_141 im_Su_choose sl_Su_choose d_En_chooseTwo_118 (Nat.le_of_ble_eq_true rfl) rfl rfl rfl (Nat.le_of_ble_eq_true rfl) (xr_of at0 (by decide)) (s_Su_choose_126 K hn hD0 (by omega) (fun j hj => by rw [fr1 f1 (by decide)]; exact (hs j hj).2.1) b1 (fun g2 f2 S2 => ?_))
    show xg x (y0 u) 0 0 121 _ _ g2
    refine ra_aload_n A d_En_chooseTwo_121 rfl <| ra_getR A f_En_52 d_En_chooseTwo_122 (Nat.le_of_ble_eq_true rfl) rfl rfl rfl <| ra_iload_n A d_En_chooseTwo_125 rfl <| ra_aload_n A d_En_chooseTwo_126 rfl <| ra_getR A f_En_16 d_En_chooseTwo_127 (Nat.le_of_ble_eq_true rfl) rfl rfl rfl <| ra_getI A f_En_122 d_En_chooseTwo_130 (Nat.le_of_ble_eq_true rfl) rfl rfl <| ?_
    rw [fr1 f2 (by decide), fr1 f1 (by decide), fr1 hf (by decide), eD]
    refine ra_callV (As := [_, _]) A ok_Su_choose l_En_141 im_Su_choose sl_Su_choose d_En_chooseTwo_133 (Nat.le_of_ble_eq_true rfl) rfl rfl rfl (Nat.le_of_ble_eq_true rfl) (xr_of at0 (by decide)) (s_Su_choose_128 K hn hD0 (by omega) (fun j hj => by rw [fr1 f2 (by decide), fr1 f1 (by decide)]; exact (hs j hj).2.2.1) b3 (fun g3 f3 S3 => ?_))
    show xg x (y0 u) 0 0 136 _ _ g3
    refine ra_aload_n A d_En_chooseTwo_136 rfl <| ra_getR A f_En_55 d_En_chooseTwo_137 (Nat.le_of_ble_eq_true rfl) rfl rfl rfl <| ra_iload_n A d_En_chooseTwo_140 rfl <| ra_aload_n A d_En_chooseTwo_141 rfl <| ra_getR A f_En_16 d_En_chooseTwo_142 (Nat.le_of_ble_eq_true rfl) rfl rfl rfl <| ra_getI A f_En_122 d_En_chooseTwo_145 (Nat.le_of_ble_eq_true rfl) rfl rfl <| ?_
    rw [fr1 f3 (by decide), fr1 f2 (by decide), fr1 f1 (by decide), fr1 hf (by decide), eD]
    refine ra_iconst A 1 d_En_chooseTwo_148 (by decide) <| ra_iadd A d_En_chooseTwo_149 <| ?_
    rw [nI_1]
    refine ra_callV (As := [_, _]) A ok_Su_choose l_En_141 im_Su_choose sl_Su_choose d_En_chooseTwo_150 (Nat.le_of_ble_eq_true rfl) rfl rfl rfl (Nat.le_of_ble_eq_true rfl) (xr_of at0 (by decide)) (s_Su_choose_130 K hn (by omega) (by omega) (fun j hj => by rw [fr1 f3 (by decide), fr1 f2 (by decide), fr1 f1 (by decide)]; exact (hs j hj).2.2.2) b2 (fun g4 f4 S4 => ?_))
    show xg x (y0 u) 0 0 153 _ _ g4
    have hfr : fr EL h g4 := (((hf.trans (f1.mono (by decide))).trans (f2.mono (by decide))).trans (f3.mono (by decide))).trans (f4.mono (by decide))
    have hSA : SA g4 (sg s0 s1 a) n D 1 := ⟨((S1.fr f2 (by decide) (by decide)).fr f3 (by decide) (by decide)).fr f4 (by decide) (by decide), fun _ => ⟨(S2.fr f3 (by decide) (by decide)).fr f4 (by decide) (by decide), S3.fr f4 (by decide) (by decide), S4⟩⟩
    have fin := hX g4 hfr hSA
    have hk : ∀ w, w < 4 → kb (sg s0 s1 a) n D w ≤ 8 + 25 * 1024 := by
      intro w hw
      have q : ∀ d, d ≤ 25 → sW (sg s0 s1 a w) n ≤ d → 8 + sW (sg s0 s1 a w) n + (sC (sg s0 s1 a w) n d).1 ≤ 8 + 25 * 1024 := by
        intro d hd h1
        have h2 := kb_le hn0 h1
        have h3 : d * n ≤ 25 * 1024 := Nat.mul_le_mul hd hn
        omega
      have hw' : w = 0 ∨ w = 1 ∨ w = 2 ∨ w = 3 := by omega
      rcases hw' with rfl | rfl | rfl | rfl
      · exact q D (by omega) (Nat.le_of_lt (b0.w hD0 (by omega)))
      · exact q D (by omega) (Nat.le_of_lt (b1.w hD0 (by omega)))
      · exact q (D + 1) (by omega) (Nat.le_of_lt (b2.w (by omega) (by omega)))
      · exact q D (by omega) (Nat.le_of_lt (b3.w hD0 (by omega)))
    have hkc : ∀ c, isC c → kc (sg s0 s1 a) n D c < 2 ^ 31 := by
      intro c hc
      unfold kc
      have q1 : sgo c 0 < 4 := by rcases hc with rfl | rfl | rfl | rfl <;> decide
      have q2 : sgo c 1 < 4 := by rcases hc with rfl | rfl | rfl | rfl <;> decide
      have := hk _ q1
      have := hk _ q2
      omega
    have hval := fun c (hc : isC c) => hSA.kcv (by decide) hc
    rw [show bC (sg s0 s1 a) n D = bsN (sg s0 s1 a) n D 3 from rfl] at fin
    generalize sg s0 s1 a = S at *
    refine ra_iconst A 1 d_En_chooseTwo_153 (by decide) <| ra_istore_n (L' := [_, _, _, _, _, _]) A d_En_chooseTwo_154 (by decide) rfl <| ra_bipush A 8 d_En_chooseTwo_155 (by decide) <| ra_istore (L' := [_, _, _, _, _, _]) A d_En_chooseTwo_157 (by decide) rfl <| ?_
    refine lp_up (σ := Unit) (W := fun j _ => xg x (y0 u) 0 0 159 [some (.ref 10), some (.int (nI a)), some (.int (nI n)), some (.int (nI (bsN S n D j))), some (.int (nI (8 + j))), w5] [] g4) (I := fun _ _ => True) 3 ?_ ?_ 0 () (Nat.zero_le _) trivial
    · rintro - -
      refine ra_iload A d_En_chooseTwo_159 rfl <| ra_bipush A 10 d_En_chooseTwo_161 (by decide) <| ?_
      refine ra_icmp_gt (q := 190) A d_En_chooseTwo_163 (by decide) (fun _ => ?_) (fun cc => absurd ((by decide)) cc)
      refine ra_iload_n A d_En_chooseTwo_190 rfl <| ?_
      exact ra_iret A ow d_En_chooseTwo_191 fin
    · rintro j - hj - ih
      have ih := ih () trivial
      have hb := bsN_C (S := S) (n := n) (D := D) j (by omega)
      have hc : isC (8 + j) := by unfold isC; omega
      refine ra_iload A d_En_chooseTwo_159 rfl <| ra_bipush A 10 d_En_chooseTwo_161 (by decide) <| ?_
      refine ra_icmp_gt (q := 190) A d_En_chooseTwo_163 (by decide) (fun cc => absurd cc (Int32.not_lt.mpr (nI_le (b := 10) (by omega) (by decide)))) (fun _ => ?_)
      refine ra_aload_n A d_En_chooseTwo_166 rfl <| ra_iload A d_En_chooseTwo_167 rfl <| ?_
      refine ra_callV (As := [_]) A ok_En_bitsOfBoth l_En_144 im_En_bitsOfBoth sl_En_bitsOfBoth d_En_chooseTwo_169 (Nat.le_of_ble_eq_true rfl) rfl rfl rfl (Nat.le_of_ble_eq_true rfl) (xr_of at0 (by decide)) (s_En_bitsOfBoth K hc ?_)
      show xg x (y0 u) 0 0 172 _ _ g4
      rw [hval _ hc]
      refine ra_aload_n A d_En_chooseTwo_172 rfl <| ra_iload_n A d_En_chooseTwo_173 rfl <| ?_
      refine ra_callV (As := [_]) A ok_En_bitsOfBoth l_En_144 im_En_bitsOfBoth sl_En_bitsOfBoth d_En_chooseTwo_174 (Nat.le_of_ble_eq_true rfl) rfl rfl rfl (Nat.le_of_ble_eq_true rfl) (xr_of at0 (by decide)) (s_En_bitsOfBoth K hb ?_)
      show xg x (y0 u) 0 0 177 _ _ g4
      rw [hval _ hb]
      refine ra_lcmp A d_En_chooseTwo_177 <| ?_
      have q1 := hkc _ hc
      have q2 := hkc _ hb
      have e : bsN S n D (j + 1) = bst S n D (8 + j) (bsN S n D j) := rfl
      rw [e] at ih
      unfold bst at ih
      by_cases c : kc S n D (8 + j) < kc S n D (bsN S n D j)
      · refine ra_if_ge (q := 184) A d_En_chooseTwo_178 (by decide) (fun cc => absurd cc (fun z => absurd ((pk_lLE (by omega) (by omega)).mp (lc_ge.mp z)) (by omega))) (fun _ => ?_)
        rw [if_pos c] at ih
        refine ra_iload A d_En_chooseTwo_181 rfl <| ra_istore_n (L' := [_, _, _, _, _, _]) A d_En_chooseTwo_183 (by decide) rfl <| ra_iinc (L' := [_, _, _, _, _, _]) A 1 d_En_chooseTwo_184 rfl (by decide) (by decide) rfl <| ra_goto (q := 159) A d_En_chooseTwo_187 (by decide) <| ?_
        rw [nI_1]
        exact ih
      · refine ra_if_ge (q := 184) A d_En_chooseTwo_178 (by decide) (fun _ => ?_) (fun cc => absurd (lc_ge.mpr ((pk_lLE (by omega) (by omega)).mpr (by omega))) cc)
        rw [if_neg c] at ih
        refine ra_iinc (L' := [_, _, _, _, _, _]) A 1 d_En_chooseTwo_184 rfl (by decide) (by decide) rfl <| ra_goto (q := 159) A d_En_chooseTwo_187 (by decide) <| ?_
        rw [nI_1]
        exact ih
  · rintro i g hi ⟨hf, hs⟩ ih w4 w5
    refine ra_iload_n A d_En_chooseTwo_2 rfl <| ra_iload_n A d_En_chooseTwo_3 rfl <| ?_
    refine ra_icmp_ge (q := 91) A d_En_chooseTwo_4 (by decide) (fun cc => absurd cc (nI_ge hi (by omega))) (fun _ => ?_)
    refine ra_aload_n A d_En_chooseTwo_7 rfl <| ra_getR A f_En_16 d_En_chooseTwo_8 (Nat.le_of_ble_eq_true rfl) rfl rfl rfl <| ra_getR A f_En_135 d_En_chooseTwo_11 (Nat.le_of_ble_eq_true rfl) rfl rfl rfl <| ra_iconst A 0 d_En_chooseTwo_14 (by decide) <| ?_
    refine ra_aaload (b := 3) A d_En_chooseTwo_15 (Nat.le_of_ble_eq_true rfl) rfl rfl i0 rfl ?_
    refine ra_iload_n A d_En_chooseTwo_16 rfl <| ra_iload_n A d_En_chooseTwo_17 rfl <| ra_iadd A d_En_chooseTwo_18 <| ?_
    rw [nI_add]
    refine ra_iaload A d_En_chooseTwo_19 (Nat.le_of_ble_eq_true rfl) rfl (vp_in_nI (by omega) (by decide)) ?_
    rw [nI_clamp (by omega), fr1 hf (by decide), e3 _ (by omega)]
    refine ra_istore (L' := [_, _, _, _, _, _]) A d_En_chooseTwo_20 (by decide) rfl <| ra_aload_n A d_En_chooseTwo_22 rfl <| ra_getR A f_En_16 d_En_chooseTwo_23 (Nat.le_of_ble_eq_true rfl) rfl rfl rfl <| ra_getR A f_En_135 d_En_chooseTwo_26 (Nat.le_of_ble_eq_true rfl) rfl rfl rfl <| ra_iconst A 1 d_En_chooseTwo_29 (by decide) <| ?_
    refine ra_aaload (b := 4) A d_En_chooseTwo_30 (Nat.le_of_ble_eq_true rfl) rfl rfl i1 rfl ?_
    refine ra_iload_n A d_En_chooseTwo_31 rfl <| ra_iload_n A d_En_chooseTwo_32 rfl <| ra_iadd A d_En_chooseTwo_33 <| ?_
    rw [nI_add]
    refine ra_iaload A d_En_chooseTwo_34 (Nat.le_of_ble_eq_true rfl) rfl (vp_in_nI (by omega) (by decide)) ?_
    rw [nI_clamp (by omega), fr1 hf (by decide), e4 _ (by omega)]
    refine ra_istore (L' := [_, _, _, _, _, _]) A d_En_chooseTwo_35 (by decide) rfl <| ra_aload_n A d_En_chooseTwo_37 rfl <| ra_getR A f_En_45 d_En_chooseTwo_38 (Nat.le_of_ble_eq_true rfl) rfl rfl rfl <| ra_iload_n A d_En_chooseTwo_41 rfl <| ra_iload A d_En_chooseTwo_42 rfl <| ?_
    refine ra_callV (As := [_, _]) A ok_Su_setSample l_En_138 im_Su_setSample sl_Su_setSample d_En_chooseTwo_44 (Nat.le_of_ble_eq_true rfl) rfl rfl rfl (Nat.le_of_ble_eq_true rfl) (xr_of at0 (by decide)) (s_Su_setSample_124 K (by omega) ?_)
    show xg x (y0 u) 0 0 47 _ _ _
    refine ra_aload_n A d_En_chooseTwo_47 rfl <| ra_getR A f_En_49 d_En_chooseTwo_48 (Nat.le_of_ble_eq_true rfl) rfl rfl rfl <| ra_iload_n A d_En_chooseTwo_51 rfl <| ra_iload A d_En_chooseTwo_52 rfl <| ?_
    refine ra_callV (As := [_, _]) A ok_Su_setSample l_En_138 im_Su_setSample sl_Su_setSample d_En_chooseTwo_54 (Nat.le_of_ble_eq_true rfl) rfl rfl rfl (Nat.le_of_ble_eq_true rfl) (xr_of at0 (by decide)) (s_Su_setSample_126 K (by omega) ?_)
    show xg x (y0 u) 0 0 57 _ _ _
    refine ra_aload_n A d_En_chooseTwo_57 rfl <| ra_getR A f_En_52 d_En_chooseTwo_58 (Nat.le_of_ble_eq_true rfl) rfl rfl rfl <| ra_iload_n A d_En_chooseTwo_61 rfl <| ra_iload A d_En_chooseTwo_62 rfl <| ra_iload A d_En_chooseTwo_64 rfl <| ra_iadd A d_En_chooseTwo_66 <| ra_iconst A 1 d_En_chooseTwo_67 (by decide) <| ra_ishr A d_En_chooseTwo_68 <| ?_
    refine ra_callV (As := [_, _]) A ok_Su_setSample l_En_138 im_Su_setSample sl_Su_setSample d_En_chooseTwo_69 (Nat.le_of_ble_eq_true rfl) rfl rfl rfl (Nat.le_of_ble_eq_true rfl) (xr_of at0 (by decide)) (s_Su_setSample_128 K (by omega) ?_)
    show xg x (y0 u) 0 0 72 _ _ _
    refine ra_aload_n A d_En_chooseTwo_72 rfl <| ra_getR A f_En_55 d_En_chooseTwo_73 (Nat.le_of_ble_eq_true rfl) rfl rfl rfl <| ra_iload_n A d_En_chooseTwo_76 rfl <| ra_iload A d_En_chooseTwo_77 rfl <| ra_iload A d_En_chooseTwo_79 rfl <| ra_isub A d_En_chooseTwo_81 <| ?_
    refine ra_callV (As := [_, _]) A ok_Su_setSample l_En_138 im_Su_setSample sl_Su_setSample d_En_chooseTwo_82 (Nat.le_of_ble_eq_true rfl) rfl rfl rfl (Nat.le_of_ble_eq_true rfl) (xr_of at0 (by decide)) (s_Su_setSample_130 K (by omega) ?_)
    show xg x (y0 u) 0 0 85 _ _ _
    refine ra_iinc (L' := [_, _, _, _, _, _]) A 1 d_En_chooseTwo_85 rfl (by decide) (by decide) rfl <| ra_goto (q := 2) A d_En_chooseTwo_88 (by decide) <| ?_
    rw [nI_1]
    refine ih _ ⟨(((hf.I (by decide)).I (by decide)).I (by decide)).I (by decide), fun j hj => ?_⟩ _ _
    rw [xI_k (show 125 ≠ 131 by decide), xI_k (show 125 ≠ 129 by decide), xI_k (show 125 ≠ 127 by decide), xI_k (show 127 ≠ 131 by decide), xI_k (show 127 ≠ 129 by decide), xI_k (show 129 ≠ 131 by decide)]
    by_cases c : j = i
    · subst c
      rw [xI_e, xI_e, xI_e, xI_e]
      exact ⟨rfl, rfl, rfl, rfl⟩
    · rw [xI_j c, xI_j c, xI_j c, xI_j c, xI_k (show 127 ≠ 125 by decide), xI_k (show 129 ≠ 127 by decide), xI_k (show 129 ≠ 125 by decide), xI_k (show 131 ≠ 129 by decide), xI_k (show 131 ≠ 127 by decide), xI_k (show 131 ≠ 125 by decide)]
      exact hs j (by omega)
end S77
