/-! SoundStream$Digest: add, begin, take, half -/
/-- the sum has taken in the bytes M -/
def DG (h : xw_H) (M : List Int32) : Prop := h.1 8 1 = nI M.length ∧ md_get h = md_all M (M.length / 64) ∧ ∀ k, k < 16 → h.1 9 k = wd M (M.length / 64) k
/-- byte i of a long -/
def dby (v : Int64) (i : Nat) : Int32 := (v >>> ((8 * nI i : Int32).toInt64 &&& 63)).toInt32 &&& 255
def dg_1 (g : xw_H) (L : Nat) (o : Int32) : xw_H := xw_I (xw_I g 9 (L % 64 / 4) (g.1 9 (L % 64 / 4) ||| (o <<< (nI (8 * (L % 4)) &&& 31)))) 8 1 (nI (L + 1))
theorem dg_words {g : xw_H} {M : List Int32} {o : Int32} (hD : DG g M) : ∀ k, k < 16 → (dg_1 g M.length o).1 9 k = wd (M ++ [o]) (M.length / 64) k := by
  intro k hk
  unfold dg_1
  rw [xI_k (by decide)]
  by_cases e : k = M.length % 64 / 4
  · subst e
    rw [xI_e, wd_same, hD.2.2 _ hk]
  · rw [xI_j e, wd_other e hk, hD.2.2 _ hk]
theorem dg_get {g : xw_H} {L : Nat} {o : Int32} : md_get (dg_1 g L o) = md_get g := by
  unfold dg_1 md_get
  rw [xI_j (by decide), xI_j (by decide), xI_j (by decide), xI_j (by decide), xI_k (by decide)]
theorem dg_A {g : xw_H} {M : List Int32} {o : Int32} (hD : DG g M) (hc : ¬ (M.length + 1) % 64 = 0) : DG (dg_1 g M.length o) (M ++ [o]) := by
  have hl : (M ++ [o]).length = M.length + 1 := by simp
  have hq : (M.length + 1) / 64 = M.length / 64 := by omega
  refine ⟨?_, ?_, ?_⟩
  · rw [hl]; exact xI_e
  · rw [dg_get, hl, hq, hD.2.1, md_all_app _ (by omega)]
  · rw [hl, hq]; exact dg_words hD
theorem dg_B {g g' : xw_H} {M : List Int32} {o : Int32} (hD : DG g M) (hc : (M.length + 1) % 64 = 0) (e : g' = xw_s1 (md_put (dg_1 g M.length o) (md_blk ((dg_1 g M.length o).1 9) (md_get (dg_1 g M.length o)))) 9 (fun j => if j < 16 then 0 else (md_put (dg_1 g M.length o) (md_blk ((dg_1 g M.length o).1 9) (md_get (dg_1 g M.length o)))).1 9 j)) : DG g' (M ++ [o]) := by
  subst e
  have hl : (M ++ [o]).length = M.length + 1 := by simp
  have hq : (M.length + 1) / 64 = M.length / 64 + 1 := by omega
  refine ⟨?_, ?_, ?_⟩
  · rw [hl, xs1_k (by decide)]
    unfold md_put
    rw [xI_j (by decide), xI_j (by decide), xI_j (by decide), xI_j (by decide)]
    exact xI_e
  · have e1 : ∀ f, md_get (xw_s1 (md_put (dg_1 g M.length o) (md_blk ((dg_1 g M.length o).1 9) (md_get (dg_1 g M.length o)))) 9 f) = md_blk ((dg_1 g M.length o).1 9) (md_get (dg_1 g M.length o)) := by
      intro f
      refine Eq.trans ?_ (md_get_put (h := dg_1 g M.length o))
      unfold md_get
      rw [xs1_k (by decide)]
    rw [e1, hl, hq, md_all, dg_get, hD.2.1, md_all_app _ (by omega)]
    exact md_blk_congr (dg_words hD) _
  · intro k hk
    rw [xs1_e, if_pos hk, wd_ge (by rw [hl]; omega)]
theorem fr_put {h : xw_H} {v : md_V} : fr [8, 9] h (md_put h v) := (((fr_I (by decide)).I (by decide)).I (by decide)).I (by decide)
section S58
variable {u : xu_T} {l : Launch} {KK : State → Prop} {h : xw_H} {X : xc_R → xw_H → Nat → Nat → Prop}
theorem s_Di_add {n : Nat} (hn : n ≤ 8) {v : Int64} {M : List Int32} (hM : M.length < 2 ^ 30) (hD : DG h M) (hX : ∀ h', fr [8, 9] h h' → DG h' (M ++ (List.range n).map (dby v)) → X (.inl none) h' 0 0) : xm_M l (y0 u) (KK0 u) m_Di_add [.ref 8, .int (nI n), .long v] h X := by
  refine xm_of [none, none] (by simp) (Nat.le_of_ble_eq_true rfl) (by decide) (fun x at0 => ?_)
  have A := xa_of at0 (KK0_ok u)
  have ow := at0.2.2.2.2.1
  refine ra_iconst A 0 d_Di_add_0 (by decide) <| ra_istore (L' := [_, _, _, _, _, _]) A d_Di_add_1 (by decide) rfl <| ?_
  refine lp_up (σ := xw_H × Option Value) (W := fun i s => xg x (y0 u) 0 0 3 [some (.ref 8), some (.int (nI n)), some (.long v), none, some (.int (nI i)), s.2] [] s.1) (I := fun i s => fr [8, 9] h s.1 ∧ DG s.1 (M ++ (List.range i).map (dby v))) n ?_ ?_ 0 (h, none) (by omega) ⟨fr.rfl, by simpa using hD⟩
  · rintro ⟨g, w⟩ ⟨hf, hg⟩
    refine ra_iload A d_Di_add_3 rfl <| ra_iload_n A d_Di_add_5 rfl <| ?_
    refine ra_icmp_ge (q := 90) A d_Di_add_6 (by decide) (fun _ => ?_) (fun cc => absurd (Int32.le_refl _) cc)
    exact ra_vret A ow d_Di_add_90 (hX g hf hg)
  · rintro i ⟨g, w⟩ hi ⟨hf, hg⟩ ih
    have hs : M ++ (List.range (i + 1)).map (dby v) = (M ++ (List.range i).map (dby v)) ++ [dby v i] := by
      rw [List.range_succ, List.map_append, List.append_assoc]; rfl
    rw [hs] at ih
    have hl : (M ++ (List.range i).map (dby v)).length = M.length + i := by simp
    generalize hN : M ++ (List.range i).map (dby v) = N at ih hg hl
    dsimp only at hg hf ⊢
    have e1 := hg.1
    have hN9 : N.length < 2 ^ 30 + 8 := by omega
    refine ra_iload A d_Di_add_3 rfl <| ra_iload_n A d_Di_add_5 rfl <| ?_
    refine ra_icmp_ge (q := 90) A d_Di_add_6 (by decide) (fun cc => absurd cc (nI_ge hi (by omega))) (fun _ => ?_)
    refine ra_lload_n A d_Di_add_9 rfl <| ra_bipush A 8 d_Di_add_10 (by decide) <| ra_iload A d_Di_add_12 rfl <| ra_imul A d_Di_add_14 <| ra_lshr A d_Di_add_15 <| ra_l2i A d_Di_add_16 <| ra_sipush A 255 d_Di_add_17 (by decide) <| ra_iand A d_Di_add_20 <| ra_istore (L' := [_, _, _, _, _, _]) A d_Di_add_21 (by decide) rfl <| ra_aload_n A d_Di_add_23 rfl <| ra_getR A f_Di_7 d_Di_add_24 (Nat.le_of_ble_eq_true rfl) rfl rfl rfl <| ra_aload_n A d_Di_add_27 rfl <| ra_getI A f_Di_38 d_Di_add_28 (Nat.le_of_ble_eq_true rfl) rfl rfl <| ?_
    rw [e1]
    refine ra_bipush A 63 d_Di_add_31 (by decide) <| ra_iand A d_Di_add_33 <| ra_iconst A 2 d_Di_add_34 (by decide) <| ra_ishr A d_Di_add_35 <| ?_
    rw [pk_andN (k := 6) (by omega) (by decide), pk_shrN (k := 2) (by omega) _ (by decide), show N.length % 2 ^ 6 / 2 ^ 2 = N.length % 64 / 4 from rfl]
    refine ra_dup2 A d_Di_add_36 rfl rfl <| ?_
    refine ra_iaload A d_Di_add_37 (Nat.le_of_ble_eq_true rfl) rfl (vp_in_nI (by omega) (by decide)) ?_
    rw [nI_clamp (by omega)]
    refine ra_iload A d_Di_add_38 rfl <| ra_bipush A 8 d_Di_add_40 (by decide) <| ra_aload_n A d_Di_add_42 rfl <| ra_getI A f_Di_38 d_Di_add_43 (Nat.le_of_ble_eq_true rfl) rfl rfl <| ?_
    rw [e1]
    refine ra_iconst A 3 d_Di_add_46 (by decide) <| ra_iand A d_Di_add_47 <| ra_imul A d_Di_add_48 <| ?_
    rw [pk_andN (k := 2) (by omega) (by decide), show (8 : Int32) * nI (N.length % 2 ^ 2) = nI (8 * (N.length % 2 ^ 2)) from pk_mul 8 _, show N.length % 2 ^ 2 = N.length % 4 from rfl]
    refine ra_ishl A d_Di_add_49 <| ra_ior A d_Di_add_50 <| ?_
    refine ra_iastore A d_Di_add_51 (Nat.le_of_ble_eq_true rfl) rfl (vp_in_nI (by omega) (by decide)) ?_
    rw [nI_clamp (by omega)]
    refine ra_aload_n A d_Di_add_52 rfl <| ra_dup A d_Di_add_53 rfl <| ra_getI A f_Di_38 d_Di_add_54 (Nat.le_of_ble_eq_true rfl) rfl rfl <| ?_
    rw [xI_k (by decide), e1]
    refine ra_iconst A 1 d_Di_add_57 (by decide) <| ra_iadd A d_Di_add_58 <| ?_
    rw [nI_1]
    refine ra_putI (ty := .int) A f_Di_38 rfl rfl (by decide +kernel) rfl rfl d_Di_add_59 (Nat.le_of_ble_eq_true rfl) rfl rfl <| ra_aload_n A d_Di_add_62 rfl <| ra_getI A f_Di_38 d_Di_add_63 (Nat.le_of_ble_eq_true rfl) rfl rfl <| ?_
    rw [xI_e]
    refine ra_bipush A 63 d_Di_add_66 (by decide) <| ra_iand A d_Di_add_68 <| ?_
    rw [pk_andN (k := 6) (by omega) (by decide)]
    have fin : ∀ g', fr [8, 9] g g' → DG g' (N ++ [dby v i]) → xg x (y0 u) 0 0 84 [some (.ref 8), some (.int (nI n)), some (.long v), none, some (.int (nI i)), some (.int (dby v i))] [] g' := by
      intro g' f' d'
      refine ra_iinc (L' := [_, _, _, _, _, _]) A 1 d_Di_add_84 rfl (by decide) (by decide) rfl <| ra_goto (q := 3) A d_Di_add_87 (by decide) <| ?_
      rw [nI_1]
      exact ih (g', _) ⟨hf.trans f', d'⟩
    by_cases hc : (N.length + 1) % 64 = 0
    · refine ra_if_ne (q := 84) A d_Di_add_69 (by decide) (fun cc => absurd ((by rw [show (2 : Nat) ^ 6 = 64 by decide, hc]; rfl)) cc) (fun _ => ?_)
      refine ra_aload_n A d_Di_add_72 rfl <| ?_
      show xg x (y0 u) 0 0 73 _ _ (dg_1 g N.length (dby v i))
      refine ra_callV (As := []) A ok_Di_mix l_Di_67 im_Di_mix sl_Di_mix d_Di_add_73 (Nat.le_of_ble_eq_true rfl) rfl rfl rfl (Nat.le_of_ble_eq_true rfl) (xr_of at0 (by decide)) (s_Di_mix ?_)
      show xg x (y0 u) 0 0 76 _ _ _
      refine ra_aload_n A d_Di_add_76 rfl <| ra_getR A f_Di_7 d_Di_add_77 (Nat.le_of_ble_eq_true rfl) rfl rfl rfl <| ra_iconst A 0 d_Di_add_80 (by decide) <| ?_
      refine ra_callS (As := [_, _]) A ok_Jfill l_Di_57 st_Jfill d_Di_add_81 rfl (Nat.le_of_ble_eq_true rfl) (xr_of at0 (by decide)) (s_Jfill (KK0_ok u) (k := 9) (len := 16) (by decide) rfl (by decide) ?_)
      show xg x (y0 u) 0 0 84 _ _ _
      refine fin _ ?_ (dg_B (g := g) hg hc rfl)
      exact (((fr_I (by decide)).I (by decide)).trans fr_put).trans (fr_s1 (by decide))
    · have hq : ¬ nI ((N.length + 1) % 2 ^ 6) = 0 := fun q => hc (by
        have := (nI_eq (a := (N.length + 1) % 2 ^ 6) (b := 0) (by omega) (by decide)).mp q
        omega)
      refine ra_if_ne (q := 84) A d_Di_add_69 (by decide) (fun _ => ?_) (fun cc => absurd cc (hq))
      exact fin _ ((fr_I (by decide)).I (by decide)) (dg_A hg hc)
end S58
