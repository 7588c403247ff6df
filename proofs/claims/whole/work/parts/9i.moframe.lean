/-! SoundStreamModel: oneFrame -/
abbrev OF (h h' : xw_H) : Prop := fm [153, 154, 155] [22, 24, 33, 34, 35, 36] true h h'
theorem BF.of {h h' : xw_H} (x : BF h h') : OF h h' := x.mono (by decide) (by decide) (fun q => q)
theorem MM.of {h h' : xw_H} (x : MM h h') : OF h h' := x.mono (by decide) (by decide) (fun q => q)
/-- between frames -/
def MF (h : xw_H) (F : Nat → Bool) (L : Nat) (s : FS) (p : Nat) : Prop := (MR h F L 0 p ∧ IM h F) ∧ (h.1 141 33 = nI s.2.1 ∧ h.1 141 34 = nI s.1) ∧ (s.1 ≠ 0 → (h.1 141 36 = nI s.2.2.1 ∧ s.2.2.1 < 2) ∧ h.1 141 35 = nI s.2.2.2.1 ∧ s.2.2.2.1 ≤ 1200) ∧ (∀ i, i < s.2.1 → h.1 153 i = s.2.2.2.2.1 i ∧ (iCh F = 2 → h.1 153 (1200 + i) = s.2.2.2.2.2 i)) ∧ s.1 ≤ s.2.1 ∧ s.2.1 ≤ 1200 ∧ p % 8 = 0
theorem rEnd_map {α β : Type} {F : Nat → Bool} {L p0 p4 : Nat} {rr : α} (g : α → β) : rb (rEnd F L p0 rr p4) (fun r p6 => (.inr (g r, p6) : Rr β)) = rEnd F L p0 (g rr) p4 := by
  unfold rEnd
  rw [rb_assoc]
  congr 1
  funext z p5
  split
  · rw [rb_assoc]
    congr 1
    funext v p6
    split <;> rfl
  · rfl
theorem rFr_eq {F : Nat → Bool} {L p frm len way last : Nat} {s0 s1 : Nat → Int32} : rFr F L (frm, len, way, last, s0, s1) p = rb (rHd F L frm len way last p) fun q p1 => rb (rB F L 8 p1) fun v p2 => if v = crI 8 7 F p (p1 - p) 0 then rb (rTl F L q.1 q.2.1 p p2) (fun rr p6 => .inr ((frm + 1, len + q.2.1, q.2.2, q.2.1, app s0 len rr.1, app s1 len rr.2), p6)) else .inl 8 := by
  unfold rFr
  congr 1
  funext q p1
  congr 1
  funext v p2
  split
  · unfold rTl
    rw [rb_assoc]
    congr 1
    funext rr p4
    rw [rEnd_map (fun rr : (Nat → Int32) × (Nat → Int32) => ((frm + 1, len + q.2.1, q.2.2, q.2.1, app s0 len rr.1, app s1 len rr.2) : FS))]
    rfl
  · rfl
theorem rEnd_al {α : Type} {F : Nat → Bool} {L p0 p4 p' : Nat} {rr rr' : α} (h : rEnd F L p0 rr p4 = .inr (rr', p')) : p' % 8 = 0 := by
  unfold rEnd at h
  obtain ⟨z, p5, e1, e2⟩ := rb_inr h
  split at e2
  · obtain ⟨v, p6, e3, e4⟩ := rb_inr e2
    split at e4
    · have h1 := (rB_ok e1).2.1
      have h2 := (rB_ok e3).2.1
      have h3 : p6 = p' := congrArg Prod.snd (Sum.inr.inj e4)
      omega
    · cases e4
  · cases e2
theorem rTl_al {F : Nat → Bool} {L c n p0 p p' : Nat} {rr : (Nat → Int32) × (Nat → Int32)} (h : rTl F L c n p0 p = .inr (rr, p')) : p' % 8 = 0 := by
  obtain ⟨a, q, e1, e2⟩ := rb_inr h
  exact rEnd_al e2
section S9i
variable {u : xu_T} {l : Launch} {KK : State → Prop} {h : xw_H} {X : xc_R → xw_H → Nat → Nat → Prop}
theorem s_Mo_oneFrame (K : xk_ok u KK) {F : Nat → Bool} {L p : Nat} {s : FS} {Q : Rr FS} (S : MF h F L s p) (ok : iOk F) (hq : rFr F L s p = Q)
    (hX : ∀ s' p' h', Q = .inr (s', p') → OF h h' → MF h' F L s' p' → X (.inl none) h' 0 0)
    (hY : ∀ e p' h', Q = .inl e → OF h h' → MR h' F L e p' → e ≠ 0 → h'.1 141 24 = nI (p / 8) → X (.inl none) h' 0 0) : xm_M l (y0 u) KK m_Mo_oneFrame [.ref 141] h X := by
  refine xm_of [none, none, none, none, none, none, none, none, none, none, none, none] (by simp) (Nat.le_of_ble_eq_true rfl) (by decide) (fun x at0 => ?_)
  have A := xa_of at0 K
  have ow := at0.2.2.2.2.1
  have ne : ∀ {g : xw_H} {e p : Nat}, MR g F L e p → e ≠ 0 → ¬ g.1 141 22 = 0 := fun M h0 => by rw [M.2.2.1.2]; exact nI_ne0 (by omega) (by have := M.2.2.2.2.2; omega)
  have gt0 : ∀ {g : xw_H} {e p : Nat}, MR g F L e p → e ≠ 0 → ¬ g.1 141 22 ≤ 0 := fun M h0 z => by
    have := M.2.2.2.2.2
    rw [M.2.2.1.2] at z
    have := (nI_leI (b := 0) (by omega) (by decide)).mp z
    omega
  have ok0 := ok
  obtain ⟨⟨o1, o2, o3⟩, ⟨o4, o5⟩, o6, o7⟩ := ok
  have hgr : iGr F < 2 ^ 16 := bv_lt 16
  obtain ⟨frm, len, way, last, s0, s1⟩ := s
  obtain ⟨⟨M, I⟩, ⟨e33, e34⟩, hfr, hrow, hfl, hlen, hp8⟩ := S
  dsimp only at e33 e34 hfr hrow hfl hlen hp8
  rw [rFr_eq] at hq
  have hL := M.2.2.2.2.1
  have hpL := M.2.2.2.1
  have hE : ∀ e, rHd F L frm len way last p = .inl e → Q = .inl e := fun e he => by rw [← hq, he, rb_l]
  -- a fault
  have dead482 : ∀ e p' g (z5 z7 : Int32) v1 v2 v3 v4 v6 v8 v9 v10 v11 v12, Q = .inl e → OF h g → MR g F L e p' → e ≠ 0 → g.1 141 24 = nI (p / 8) → xg x (y0 u) 0 0 482 [some (.ref 141), v1, v2, v3, v4, some (.int z5), v6, some (.int z7), v8, v9, v10, v11, v12] [] g := by
    intro e p' g z5 z7 v1 v2 v3 v4 v6 v8 v9 v10 v11 v12 hQ hf hM he h24
    refine ra_aload_n A d_Mo_oneFrame_482 rfl <| ra_iload A d_Mo_oneFrame_483 rfl <| ra_iload A d_Mo_oneFrame_485 rfl <| ?_
    refine ra_callV (As := [_, _]) A ok_Mo_body l_Mo_428 im_Mo_body sl_Mo_body d_Mo_oneFrame_487 (Nat.le_of_ble_eq_true rfl) rfl rfl rfl (Nat.le_of_ble_eq_true rfl) (xr_of at0 (by decide)) (s_Mo_bodyF K hM he ?_)
    show xg x (y0 u) 0 0 490 _ _ g
    exact ra_vret A ow d_Mo_oneFrame_490 (hY e p' g hQ hf hM he h24)
  have dead461 : ∀ e p' g (z5 z7 z11 : Int32) v1 v2 v3 v4 v6 v8 v9 v10, Q = .inl e → OF h g → MR g F L e p' → e ≠ 0 → g.1 141 24 = nI (p / 8) → xg x (y0 u) 0 0 461 [some (.ref 141), v1, v2, v3, v4, some (.int z5), v6, some (.int z7), v8, v9, v10, some (.int z11), none] [.long (lN 0)] g := by
    intro e p' g z5 z7 z11 v1 v2 v3 v4 v6 v8 v9 v10 hQ hf hM he h24
    refine ra_l2i A d_Mo_oneFrame_461 <| ra_istore (L' := [_, _, _, _, _, _, _, _, _, _, _, _, _]) A d_Mo_oneFrame_462 (by decide) rfl <| ra_aload_n A d_Mo_oneFrame_464 rfl <| ra_iload A d_Mo_oneFrame_465 rfl <| ra_iload A d_Mo_oneFrame_467 rfl <| ?_
    refine ra_icmp_ne (q := 476) A d_Mo_oneFrame_469 (by decide) (fun z => ?_) (fun z => ?_)
    · refine ra_iconst A 0 d_Mo_oneFrame_476 (by decide) <| ra_bipush A 8 d_Mo_oneFrame_477 (by decide) <| ?_
      refine ra_callV (As := [_, _]) A ok_Mo_want l_Mo_409 im_Mo_want sl_Mo_want d_Mo_oneFrame_479 (Nat.le_of_ble_eq_true rfl) rfl rfl rfl (Nat.le_of_ble_eq_true rfl) (xr_of at0 (by decide)) (s_Mo_wantF K (ne hM he) ?_)
      show xg x (y0 u) 0 0 482 _ _ g
      exact dead482 e p' g _ _ _ _ _ _ _ _ _ _ _ _ hQ hf hM he h24
    · refine ra_iconst A 1 d_Mo_oneFrame_472 (by decide) <| ra_goto (q := 477) A d_Mo_oneFrame_473 (by decide) <| ra_bipush A 8 d_Mo_oneFrame_477 (by decide) <| ?_
      refine ra_callV (As := [_, _]) A ok_Mo_want l_Mo_409 im_Mo_want sl_Mo_want d_Mo_oneFrame_479 (Nat.le_of_ble_eq_true rfl) rfl rfl rfl (Nat.le_of_ble_eq_true rfl) (xr_of at0 (by decide)) (s_Mo_wantF K (ne hM he) ?_)
      show xg x (y0 u) 0 0 482 _ _ g
      exact dead482 e p' g _ _ _ _ _ _ _ _ _ _ _ _ hQ hf hM he h24
  have dead423 : ∀ e p' g (z5 z7 : Int32) v1 v2 v3 v4 v6 v8 v9 (z10 : Int32), Q = .inl e → OF h g → MR g F L e p' → e ≠ 0 → g.1 141 24 = nI (p / 8) → xg x (y0 u) 0 0 423 [some (.ref 141), v1, v2, v3, v4, some (.int z5), v6, some (.int z7), v8, v9, some (.int z10), none, none] [] g := by
    intro e p' g z5 z7 v1 v2 v3 v4 v6 v8 v9 z10 hQ hf hM he h24
    refine ra_aload_n A d_Mo_oneFrame_423 rfl <| ra_getI A f_Mo_386 d_Mo_oneFrame_424 (Nat.le_of_ble_eq_true rfl) rfl rfl <| ?_
    refine ra_if_ne (q := 452) A d_Mo_oneFrame_427 (by decide) (fun _ => ?_) (fun cc => absurd cc (ne hM he))
    refine ra_iconst A 0 d_Mo_oneFrame_452 (by decide) <| ra_istore (L' := [_, _, _, _, _, _, _, _, _, _, _, _, _]) A d_Mo_oneFrame_453 (by decide) rfl <| ra_aload_n A d_Mo_oneFrame_455 rfl <| ra_bipush A 8 d_Mo_oneFrame_456 (by decide) <| ?_
    refine ra_callV (As := [_]) A ok_Mo_next l_Mo_394 im_Mo_next sl_Mo_next d_Mo_oneFrame_458 (Nat.le_of_ble_eq_true rfl) rfl rfl rfl (Nat.le_of_ble_eq_true rfl) (xr_of at0 (by decide)) (s_Mo_nextF K hM he ?_)
    show xg x (y0 u) 0 0 461 _ _ g
    exact dead461 e p' g _ _ _ _ _ _ _ _ _ _ _ hQ hf hM he h24
  have dead418 : ∀ e p' g (z5 z7 b : Int32) v1 v2 v3 v4 v6 v8 v9 (z10 : Int32), Q = .inl e → OF h g → MR g F L e p' → e ≠ 0 → g.1 141 24 = nI (p / 8) → xg x (y0 u) 0 0 418 [some (.ref 141), v1, v2, v3, v4, some (.int z5), v6, some (.int z7), v8, v9, some (.int z10), none, none] [.int b, .ref 141] g := by
    intro e p' g z5 z7 b v1 v2 v3 v4 v6 v8 v9 z10 hQ hf hM he h24
    refine ra_bipush A 7 d_Mo_oneFrame_418 (by decide) <| ?_
    refine ra_callV (As := [_, _]) A ok_Mo_want l_Mo_409 im_Mo_want sl_Mo_want d_Mo_oneFrame_420 (Nat.le_of_ble_eq_true rfl) rfl rfl rfl (Nat.le_of_ble_eq_true rfl) (xr_of at0 (by decide)) (s_Mo_wantF K (ne hM he) ?_)
    show xg x (y0 u) 0 0 423 _ _ g
    exact dead423 e p' g _ _ _ _ _ _ _ _ _ _ hQ hf hM he h24
  have dead417 : ∀ e p' g (z5 z7 : Int32) v1 v2 v3 v4 v6 v8 v9 (z10 : Int32), Q = .inl e → OF h g → MR g F L e p' → e ≠ 0 → g.1 141 24 = nI (p / 8) → xg x (y0 u) 0 0 417 [some (.ref 141), v1, v2, v3, v4, some (.int z5), v6, some (.int z7), v8, v9, some (.int z10), none, none] [.ref 141] g := by
    intro e p' g z5 z7 v1 v2 v3 v4 v6 v8 v9 z10 hQ hf hM he h24
    refine ra_iconst A 0 d_Mo_oneFrame_417 (by decide) <| ?_
    exact dead418 e p' g _ _ _ _ _ _ _ _ _ _ _ hQ hf hM he h24
  have dead393 : ∀ e p' g (z5 z7 : Int32) (z8 : Int64) v1 v2 v3 v4 v6 (z10 : Int32), Q = .inl e → OF h g → MR g F L e p' → e ≠ 0 → g.1 141 24 = nI (p / 8) → xg x (y0 u) 0 0 393 [some (.ref 141), v1, v2, v3, v4, some (.int z5), v6, some (.int z7), some (.long z8), none, some (.int z10), none, none] [.ref 141] g := by
    intro e p' g z5 z7 z8 v1 v2 v3 v4 v6 z10 hQ hf hM he h24
    refine ra_aload_n A d_Mo_oneFrame_393 rfl <| ra_getI A f_Mo_377 d_Mo_oneFrame_394 (Nat.le_of_ble_eq_true rfl) rfl rfl <| ra_iload A d_Mo_oneFrame_397 rfl <| ra_iadd A d_Mo_oneFrame_399 <| ra_sipush A 1200 d_Mo_oneFrame_400 (by decide) <| ?_
    refine ra_icmp_gt (q := 417) A d_Mo_oneFrame_403 (by decide) (fun z => ?_) (fun z => ?_)
    · exact dead417 e p' g _ _ _ _ _ _ _ _ _ _ hQ hf hM he h24
    · refine ra_lload A d_Mo_oneFrame_406 rfl <| ra_lconst A 0 d_Mo_oneFrame_408 (by decide) <| ra_lcmp A d_Mo_oneFrame_409 <| ?_
      refine ra_if_lt (q := 417) A d_Mo_oneFrame_410 (by decide) (fun z => ?_) (fun z => ?_)
      · exact dead417 e p' g _ _ _ _ _ _ _ _ _ _ hQ hf hM he h24
      · refine ra_iconst A 1 d_Mo_oneFrame_413 (by decide) <| ra_goto (q := 418) A d_Mo_oneFrame_414 (by decide) <| ?_
        exact dead418 e p' g _ _ _ _ _ _ _ _ _ _ _ hQ hf hM he h24
  have dead372 : ∀ e p' g (z5 z7 : Int32) (z8 : Int64) v1 v2 v3 v4 v6 (z10 : Int32), Q = .inl e → OF h g → MR g F L e p' → e ≠ 0 → g.1 141 24 = nI (p / 8) → xg x (y0 u) 0 0 372 [some (.ref 141), v1, v2, v3, v4, some (.int z5), v6, some (.int z7), some (.long z8), none, some (.int z10), none, none] [.ref 141] g := by
    intro e p' g z5 z7 z8 v1 v2 v3 v4 v6 z10 hQ hf hM he h24
    refine ra_aload_n A d_Mo_oneFrame_372 rfl <| ra_getI A f_Mo_406 d_Mo_oneFrame_373 (Nat.le_of_ble_eq_true rfl) rfl rfl <| ?_
    refine ra_if_eq (q := 393) A d_Mo_oneFrame_376 (by decide) (fun z => ?_) (fun z => ?_)
    · exact dead393 e p' g _ _ _ _ _ _ _ _ _ hQ hf hM he h24
    · refine ra_aload_n A d_Mo_oneFrame_379 rfl <| ra_getI A f_Mo_377 d_Mo_oneFrame_380 (Nat.le_of_ble_eq_true rfl) rfl rfl <| ra_iload A d_Mo_oneFrame_383 rfl <| ra_iadd A d_Mo_oneFrame_385 <| ra_aload_n A d_Mo_oneFrame_386 rfl <| ra_getI A f_Mo_406 d_Mo_oneFrame_387 (Nat.le_of_ble_eq_true rfl) rfl rfl <| ?_
      refine ra_icmp_gt (q := 417) A d_Mo_oneFrame_390 (by decide) (fun z => ?_) (fun z => ?_)
      · exact dead417 e p' g _ _ _ _ _ _ _ _ _ _ hQ hf hM he h24
      · exact dead393 e p' g _ _ _ _ _ _ _ _ _ hQ hf hM he h24
  have dead325 : ∀ e p' g (z5 z7 : Int32) (z8 : Int64) v1 v2 v3 v4 v6, Q = .inl e → OF h g → MR g F L e p' → e ≠ 0 → g.1 141 24 = nI (p / 8) → xg x (y0 u) 0 0 325 [some (.ref 141), v1, v2, v3, v4, some (.int z5), v6, some (.int z7), some (.long z8), none, none, none, none] [] g := by
    intro e p' g z5 z7 z8 v1 v2 v3 v4 v6 hQ hf hM he h24
    have dead346 : ∀ z10 : Int32, xg x (y0 u) 0 0 346 [some (.ref 141), v1, v2, v3, v4, some (.int z5), v6, some (.int z7), some (.long z8), none, some (.int z10), none, none] [] g := by
      intro z10
      refine ra_aload_n A d_Mo_oneFrame_346 rfl <| ra_iload A d_Mo_oneFrame_347 rfl <| ra_aload_n A d_Mo_oneFrame_349 rfl <| ra_getI A f_Mo_371 d_Mo_oneFrame_350 (Nat.le_of_ble_eq_true rfl) rfl rfl <| ?_
      refine ra_icmp_gt (q := 417) A d_Mo_oneFrame_353 (by decide) (fun z => ?_) (fun z => ?_)
      · exact dead417 e p' g _ _ _ _ _ _ _ _ _ _ hQ hf hM he h24
      · refine ra_aload_n A d_Mo_oneFrame_356 rfl <| ra_getI A f_Mo_380 d_Mo_oneFrame_357 (Nat.le_of_ble_eq_true rfl) rfl rfl <| ?_
        refine ra_if_eq (q := 372) A d_Mo_oneFrame_360 (by decide) (fun z => ?_) (fun z => ?_)
        · exact dead372 e p' g _ _ _ _ _ _ _ _ _ hQ hf hM he h24
        · refine ra_aload_n A d_Mo_oneFrame_363 rfl <| ra_getI A f_Mo_425 d_Mo_oneFrame_364 (Nat.le_of_ble_eq_true rfl) rfl rfl <| ra_iload A d_Mo_oneFrame_367 rfl <| ?_
          refine ra_icmp_lt (q := 417) A d_Mo_oneFrame_369 (by decide) (fun z => ?_) (fun z => ?_)
          · exact dead417 e p' g _ _ _ _ _ _ _ _ _ _ hQ hf hM he h24
          · exact dead372 e p' g _ _ _ _ _ _ _ _ _ hQ hf hM he h24
    refine ra_aload_n A d_Mo_oneFrame_325 rfl <| ra_getI A f_Mo_416 d_Mo_oneFrame_326 (Nat.le_of_ble_eq_true rfl) rfl rfl <| ra_iconst A 1 d_Mo_oneFrame_329 (by decide) <| ?_
    refine ra_icmp_ne (q := 340) A d_Mo_oneFrame_330 (by decide) (fun z => ?_) (fun z => ?_)
    · refine ra_aload_n A d_Mo_oneFrame_340 rfl <| ra_getI A f_Mo_371 d_Mo_oneFrame_341 (Nat.le_of_ble_eq_true rfl) rfl rfl <| ra_istore (L' := [_, _, _, _, _, _, _, _, _, _, _, _, _]) A d_Mo_oneFrame_344 (by decide) rfl <| ?_
      exact dead346 _
    · refine ra_aload_n A d_Mo_oneFrame_333 rfl <| ra_getI A f_Mo_398 d_Mo_oneFrame_334 (Nat.le_of_ble_eq_true rfl) rfl rfl <| ra_goto (q := 344) A d_Mo_oneFrame_337 (by decide) <| ra_istore (L' := [_, _, _, _, _, _, _, _, _, _, _, _, _]) A d_Mo_oneFrame_344 (by decide) rfl <| ?_
      exact dead346 _
  have dead288 : ∀ e p' g (z4 z5 z7 : Int32) v1 v2 v3 (z6 : Int32) v7 v8, Q = .inl e → OF h g → MR g F L e p' → e ≠ 0 → g.1 141 24 = nI (p / 8) → xg x (y0 u) 0 0 288 [some (.ref 141), v1, v2, v3, some (.int z4), some (.int z5), some (.int z6), v7, v8, none, none, none, none] [.int z7] g := by
    intro e p' g z4 z5 z7 v1 v2 v3 z6 v7 v8 hQ hf hM he h24
    refine ra_istore (L' := [_, _, _, _, _, _, _, _, _, _, _, _, _]) A d_Mo_oneFrame_288 (by decide) rfl <| ra_iload A d_Mo_oneFrame_290 rfl <| ra_bipush A 12 d_Mo_oneFrame_292 (by decide) <| ?_
    refine ra_icmp_ne (q := 306) A d_Mo_oneFrame_294 (by decide) (fun z => ?_) (fun z => ?_)
    · refine ra_iload A d_Mo_oneFrame_306 rfl <| ra_bipush A 12 d_Mo_oneFrame_308 (by decide) <| ?_
      refine ra_icmp_le (q := 322) A d_Mo_oneFrame_310 (by decide) (fun z => ?_) (fun z => ?_)
      · refine ra_lconst A 0 d_Mo_oneFrame_322 (by decide) <| ra_lstore (L' := [_, _, _, _, _, _, _, _, _, _, _, _, _]) A d_Mo_oneFrame_323 (by decide) rfl <| ?_
        exact dead325 e p' g _ _ _ _ _ _ _ _ hQ hf hM he h24
      · refine ra_aload_n A d_Mo_oneFrame_313 rfl <| ra_bipush A 16 d_Mo_oneFrame_314 (by decide) <| ?_
        refine ra_callV (As := [_]) A ok_Mo_next l_Mo_394 im_Mo_next sl_Mo_next d_Mo_oneFrame_316 (Nat.le_of_ble_eq_true rfl) rfl rfl rfl (Nat.le_of_ble_eq_true rfl) (xr_of at0 (by decide)) (s_Mo_nextF K hM he ?_)
        show xg x (y0 u) 0 0 319 _ _ g
        refine ra_goto (q := 323) A d_Mo_oneFrame_319 (by decide) <| ra_lstore (L' := [_, _, _, _, _, _, _, _, _, _, _, _, _]) A d_Mo_oneFrame_323 (by decide) rfl <| ?_
        exact dead325 e p' g _ _ _ _ _ _ _ _ hQ hf hM he h24
    · refine ra_aload_n A d_Mo_oneFrame_297 rfl <| ra_bipush A 8 d_Mo_oneFrame_298 (by decide) <| ?_
      refine ra_callV (As := [_]) A ok_Mo_next l_Mo_394 im_Mo_next sl_Mo_next d_Mo_oneFrame_300 (Nat.le_of_ble_eq_true rfl) rfl rfl rfl (Nat.le_of_ble_eq_true rfl) (xr_of at0 (by decide)) (s_Mo_nextF K hM he ?_)
      show xg x (y0 u) 0 0 303 _ _ g
      refine ra_goto (q := 323) A d_Mo_oneFrame_303 (by decide) <| ra_lstore (L' := [_, _, _, _, _, _, _, _, _, _, _, _, _]) A d_Mo_oneFrame_323 (by decide) rfl <| ?_
      exact dead325 e p' g _ _ _ _ _ _ _ _ hQ hf hM he h24
  have dead272 : ∀ e p' g (z4 z5 : Int32) v1 v2 v3 (z6 : Int32) v7 v8, Q = .inl e → OF h g → MR g F L e p' → e ≠ 0 → g.1 141 24 = nI (p / 8) → xg x (y0 u) 0 0 272 [some (.ref 141), v1, v2, v3, some (.int z4), some (.int z5), some (.int z6), v7, v8, none, none, none, none] [] g := by
    intro e p' g z4 z5 v1 v2 v3 z6 v7 v8 hQ hf hM he h24
    refine ra_aload_n A d_Mo_oneFrame_272 rfl <| ra_getI A f_Mo_386 d_Mo_oneFrame_273 (Nat.le_of_ble_eq_true rfl) rfl rfl <| ?_
    refine ra_if_ne (q := 287) A d_Mo_oneFrame_276 (by decide) (fun _ => ?_) (fun cc => absurd cc (ne hM he))
    refine ra_iconst A 0 d_Mo_oneFrame_287 (by decide) <| ?_
    exact dead288 e p' g _ _ _ _ _ _ _ _ _ hQ hf hM he h24
  have dead217 : ∀ e p' g (z4 z5 : Int32) (num k : Nat) v1 v2 v3 v8, num < 2048 → k ≤ (numB num).length → Q = .inl e → OF h g → MR g F L e p' → e ≠ 0 → g.1 141 24 = nI (p / 8) → xg x (y0 u) 0 0 217 [some (.ref 141), v1, v2, v3, some (.int z4), some (.int z5), some (.int (nI num)), some (.int (nI k)), v8, none, none, none, none] [] g := by
    intro e p' g z4 z5 num k v1 v2 v3 v8 hnum hk hQ hf hM he h24
    have at224 : ∀ b : Int32, xg x (y0 u) 0 0 224 [some (.ref 141), v1, v2, v3, some (.int z4), some (.int z5), some (.int (nI num)), some (.int (nI k)), v8, none, none, none, none] [.int b] g := by
      intro b
      refine ra_if_lt (q := 272) A d_Mo_oneFrame_224 (by decide) (fun z => ?_) (fun z => ?_)
      · exact dead272 e p' g _ _ _ _ _ _ _ _ hQ hf hM he h24
      · refine ra_aload_n A d_Mo_oneFrame_227 rfl <| ra_getI A f_Mo_386 d_Mo_oneFrame_228 (Nat.le_of_ble_eq_true rfl) rfl rfl <| ?_
        refine ra_if_ne (q := 272) A d_Mo_oneFrame_231 (by decide) (fun _ => ?_) (fun cc => absurd cc (ne hM he))
        exact dead272 e p' g _ _ _ _ _ _ _ _ hQ hf hM he h24
    refine ra_iload A d_Mo_oneFrame_217 rfl <| ra_iload A d_Mo_oneFrame_219 rfl <| ?_
    refine ra_callS (As := [_, _]) A ok_Mo_numberByte l_Mo_338 st_Mo_numberByte d_Mo_oneFrame_221 rfl (Nat.le_of_ble_eq_true rfl) (xr_of at0 (by decide)) (s_Mo_numberByte K hnum hk (fun _ => ?_) (fun _ => ?_))
    · show xg x (y0 u) 0 0 224 _ _ g
      exact at224 _
    · show xg x (y0 u) 0 0 224 _ _ g
      exact at224 _
  have dead193 : ∀ e p' g (z4 z5 : Int32) v1 v2 v3, g.1 141 33 = nI len → g.1 141 34 = nI frm → Q = .inl e → OF h g → MR g F L e p' → e ≠ 0 → g.1 141 24 = nI (p / 8) → xg x (y0 u) 0 0 193 [some (.ref 141), v1, v2, v3, some (.int z4), some (.int z5), none, none, none, none, none, none, none] [] g := by
    intro e p' g z4 z5 v1 v2 v3 k33 k34 hQ hf hM he h24
    refine ra_aload_n A d_Mo_oneFrame_193 rfl <| ra_getI A f_Mo_416 d_Mo_oneFrame_194 (Nat.le_of_ble_eq_true rfl) rfl rfl <| ra_iconst A 1 d_Mo_oneFrame_197 (by decide) <| ?_
    refine ra_icmp_ne (q := 208) A d_Mo_oneFrame_198 (by decide) (fun z => ?_) (fun z => ?_)
    · refine ra_aload_n A d_Mo_oneFrame_208 rfl <| ra_getI A f_Mo_380 d_Mo_oneFrame_209 (Nat.le_of_ble_eq_true rfl) rfl rfl <| ?_
      rw [k34]
      refine ra_istore (L' := [_, _, _, _, _, _, _, _, _, _, _, _, _]) A d_Mo_oneFrame_212 (by decide) rfl <| ra_iconst A 0 d_Mo_oneFrame_214 (by decide) <| ra_istore (L' := [_, _, _, _, _, _, _, _, _, _, _, _, _]) A d_Mo_oneFrame_215 (by decide) rfl <| ?_
      exact dead217 e p' g _ _ frm 0 _ _ _ _ (by omega) (Nat.zero_le _) hQ hf hM he h24
    · refine ra_aload_n A d_Mo_oneFrame_201 rfl <| ra_getI A f_Mo_377 d_Mo_oneFrame_202 (Nat.le_of_ble_eq_true rfl) rfl rfl <| ?_
      rw [k33]
      refine ra_goto (q := 212) A d_Mo_oneFrame_205 (by decide) <| ra_istore (L' := [_, _, _, _, _, _, _, _, _, _, _, _, _]) A d_Mo_oneFrame_212 (by decide) rfl <| ra_iconst A 0 d_Mo_oneFrame_214 (by decide) <| ra_istore (L' := [_, _, _, _, _, _, _, _, _, _, _, _, _]) A d_Mo_oneFrame_215 (by decide) rfl <| ?_
      exact dead217 e p' g _ _ len 0 _ _ _ _ (by omega) (Nat.zero_le _) hQ hf hM he h24
  -- the head
  have hH : rHd F L frm len way last p = rHd F L frm len way last p := rfl
  conv at hH => rhs; unfold rHd
  refine ra_aload_n A d_Mo_oneFrame_0 rfl <| ra_aload_n A d_Mo_oneFrame_1 rfl <| ra_getJ A f_Mo_244 d_Mo_oneFrame_2 (Nat.le_of_ble_eq_true rfl) rfl rfl <| ?_
  rw [M.2.2.1.1]
  refine ra_ldc2 A k_Mo_222 d_Mo_oneFrame_5 <| ra_ldiv A d_Mo_oneFrame_8 (by decide) <| ?_
  rw [show lN p / 8 = lN (p / 8) from pk_lDiv (b := 8) (by omega) (by decide) (by decide)]
  refine ra_l2i A d_Mo_oneFrame_9 <| ?_
  rw [lN_i]
  refine ra_putI (ty := .int) A f_Mo_403 rfl rfl (by decide +kernel) rfl rfl d_Mo_oneFrame_10 (Nat.le_of_ble_eq_true rfl) rfl rfl <| ra_aload_n A d_Mo_oneFrame_13 rfl <| ra_bipush A 16 d_Mo_oneFrame_14 (by decide) <| ?_
  have M0 : MR (xw_I h 141 24 (nI (p / 8))) F L 0 p := M.of (xI_j (by decide)) (xI_k (by decide)) ⟨M.2.2.1.1, by rw [xI_j (by decide)]; exact M.2.2.1.2⟩ hpL (by decide)
  have f0 : OF h (xw_I h 141 24 (nI (p / 8))) := fm_F (by decide)
  have I0 : IM (xw_I h 141 24 (nI (p / 8))) F := I.fm f0 (by decide) (by decide) (by decide) (by decide) (by decide)
  have a24 : (xw_I h 141 24 (nI (p / 8))).1 141 24 = nI (p / 8) := xI_e
  have a33 : (xw_I h 141 24 (nI (p / 8))).1 141 33 = nI len := by rw [xI_j (by decide)]; exact e33
  have a34 : (xw_I h 141 24 (nI (p / 8))).1 141 34 = nI frm := by rw [xI_j (by decide)]; exact e34
  have a35 : frm ≠ 0 → (xw_I h 141 24 (nI (p / 8))).1 141 35 = nI last ∧ last ≤ 1200 := fun z => ⟨by rw [xI_j (by decide)]; exact (hfr z).2.1, (hfr z).2.2⟩
  have a36 : frm ≠ 0 → (xw_I h 141 24 (nI (p / 8))).1 141 36 = nI way ∧ way < 2 := fun z => ⟨by rw [xI_j (by decide)]; exact (hfr z).1.1, (hfr z).1.2⟩
  have a153 : (xw_I h 141 24 (nI (p / 8))).1 153 = h.1 153 := xI_k (by decide)
  generalize xw_I h 141 24 (nI (p / 8)) = h0 at M0 f0 I0 a24 a33 a34 a35 a36 a153 ⊢
  refine ra_callV (As := [_]) A ok_Mo_next l_Mo_394 im_Mo_next sl_Mo_next d_Mo_oneFrame_16 (Nat.le_of_ble_eq_true rfl) rfl rfl rfl (Nat.le_of_ble_eq_true rfl) (xr_of at0 (by decide)) (s_Mo_next K (n := 16) M0 (by decide) rfl (fun lead p1 g1 e1 f1 M1 hlead => ?_) (fun e g1 e1 f1 M1 he => ?_))
  rotate_left
  · show xg x (y0 u) 0 0 19 _ _ g1
    rw [e1, rb_l] at hH
    refine ra_l2i A d_Mo_oneFrame_19 <| ra_istore_n (L' := [_, _, _, _, _, _, _, _, _, _, _, _, _]) A d_Mo_oneFrame_20 (by decide) rfl <| ra_aload_n A d_Mo_oneFrame_21 rfl <| ra_getI A f_Mo_386 d_Mo_oneFrame_22 (Nat.le_of_ble_eq_true rfl) rfl rfl <| ?_
    refine ra_if_le (q := 29) A d_Mo_oneFrame_25 (by decide) (fun cc => absurd cc (gt0 M1 he)) (fun _ => ?_)
    exact ra_vret A ow d_Mo_oneFrame_28 (hY e p g1 (hE e hH) (f0.trans f1.of) M1 he (by rw [f1.2.1 24 (by decide)]; exact a24))
  show xg x (y0 u) 0 0 19 _ _ g1
  rw [e1, rb_r] at hH
  refine ra_l2i A d_Mo_oneFrame_19 <| ?_
  rw [lN_i]
  refine ra_istore_n (L' := [_, _, _, _, _, _, _, _, _, _, _, _, _]) A d_Mo_oneFrame_20 (by decide) rfl <| ra_aload_n A d_Mo_oneFrame_21 rfl <| ra_getI A f_Mo_386 d_Mo_oneFrame_22 (Nat.le_of_ble_eq_true rfl) rfl rfl <| ?_
  refine ra_if_le (q := 29) A d_Mo_oneFrame_25 (by decide) (fun _ => ?_) (fun cc => absurd ((by rw [M1.2.2.1.2]; decide)) cc)
  refine ra_aload_n A d_Mo_oneFrame_29 rfl <| ra_aload_n A d_Mo_oneFrame_30 rfl <| ra_getI A f_Mo_380 d_Mo_oneFrame_31 (Nat.le_of_ble_eq_true rfl) rfl rfl <| ?_
  have at50 : ∀ kd : Nat, kd < 2 → ((frm = 0 ∨ way = lead % 2) ↔ lead % 2 = kd) → xg x (y0 u) 0 0 50 [some (.ref 141), some (.int (nI lead)), none, none, none, none, none, none, none, none, none, none, none] [] (xw_I g1 141 36 (nI kd)) := by
    intro kd hkd2 hkd
    have Ma : MR (xw_I g1 141 36 (nI kd)) F L 0 p1 := M1.of (xI_j (by decide)) (xI_k (by decide)) ⟨M1.2.2.1.1, by rw [xI_j (by decide)]; exact M1.2.2.1.2⟩ M1.2.2.2.1 (by decide)
    have fa : OF h (xw_I g1 141 36 (nI kd)) := (f0.trans f1.of).trans (fm_F (by decide))
    have Ia : IM (xw_I g1 141 36 (nI kd)) F := I.fm fa (by decide) (by decide) (by decide) (by decide) (by decide)
    have b24 : (xw_I g1 141 36 (nI kd)).1 141 24 = nI (p / 8) := by rw [xI_j (by decide), f1.2.1 24 (by decide)]; exact a24
    have b33 : (xw_I g1 141 36 (nI kd)).1 141 33 = nI len := by rw [xI_j (by decide), f1.2.1 33 (by decide)]; exact a33
    have b34 : (xw_I g1 141 36 (nI kd)).1 141 34 = nI frm := by rw [xI_j (by decide), f1.2.1 34 (by decide)]; exact a34
    have b35 : frm ≠ 0 → (xw_I g1 141 36 (nI kd)).1 141 35 = nI last ∧ last ≤ 1200 := fun z => ⟨by rw [xI_j (by decide), f1.2.1 35 (by decide)]; exact (a35 z).1, (a35 z).2⟩
    have b36 : (xw_I g1 141 36 (nI kd)).1 141 36 = nI kd := xI_e
    have b153 : (xw_I g1 141 36 (nI kd)).1 153 = h.1 153 := by rw [xI_k (by decide), fmk f1 (by decide) (by decide)]; exact a153
    generalize xw_I g1 141 36 (nI kd) = ga at Ma fa Ia b24 b33 b34 b35 b36 b153 ⊢
    have c24 : ∀ {g}, MM ga g → g.1 141 24 = nI (p / 8) := fun f => by rw [f.2.1 24 (by decide)]; exact b24
    have c33 : ∀ {g}, MM ga g → g.1 141 33 = nI len := fun f => by rw [f.2.1 33 (by decide)]; exact b33
    have c34 : ∀ {g}, MM ga g → g.1 141 34 = nI frm := fun f => by rw [f.2.1 34 (by decide)]; exact b34
    have c36 : ∀ {g}, MM ga g → g.1 141 36 = nI kd := fun f => by rw [f.2.1 36 (by decide)]; exact b36
    have cI : ∀ {g}, MM ga g → IM g F := fun f => Ia.fm f (by decide) (by decide) (by decide) (by decide) (by decide)
    have cO : ∀ {g}, MM ga g → OF h g := fun f => fa.trans f.of
    -- a fault in the lead
    have bad4 : ¬ (lead / 2 = 32764 ∧ (frm = 0 ∨ way = lead % 2)) → xg x (y0 u) 0 0 74 [some (.ref 141), some (.int (nI lead)), none, none, none, none, none, none, none, none, none, none, none] [.ref 141] ga := by
      intro c
      rw [if_neg c] at hH
      refine ra_iconst A 0 d_Mo_oneFrame_74 (by decide) <| ra_iconst A 4 d_Mo_oneFrame_75 (by decide) <| ?_
      refine ra_callV (As := [_, _]) A ok_Mo_want l_Mo_409 im_Mo_want sl_Mo_want d_Mo_oneFrame_76 (Nat.le_of_ble_eq_true rfl) rfl rfl rfl (Nat.le_of_ble_eq_true rfl) (xr_of at0 (by decide)) (s_Mo_want K (b := false) Ma.2.2.1.2 (fun q => by cases q) (fun _ => ?_))
      show xg x (y0 u) 0 0 79 _ _ _
      have M2 := MR_F (x := 4) Ma (by decide)
      refine ra_aload_n A d_Mo_oneFrame_79 rfl <| ra_bipush A 16 d_Mo_oneFrame_80 (by decide) <| ?_
      refine ra_callV (As := [_]) A ok_Mo_next l_Mo_394 im_Mo_next sl_Mo_next d_Mo_oneFrame_82 (Nat.le_of_ble_eq_true rfl) rfl rfl rfl (Nat.le_of_ble_eq_true rfl) (xr_of at0 (by decide)) (s_Mo_nextF K M2 (by decide) ?_)
      show xg x (y0 u) 0 0 85 _ _ _
      refine ra_l2i A d_Mo_oneFrame_85 <| ra_istore_n (L' := [_, _, _, _, _, _, _, _, _, _, _, _, _]) A d_Mo_oneFrame_86 (by decide) rfl <| ra_aload_n A d_Mo_oneFrame_87 rfl <| ra_getI A f_Mo_386 d_Mo_oneFrame_88 (Nat.le_of_ble_eq_true rfl) rfl rfl <| ?_
      refine ra_if_le (q := 95) A d_Mo_oneFrame_91 (by decide) (fun cc => absurd cc (gt0 M2 (by decide))) (fun _ => ?_)
      exact ra_vret A ow d_Mo_oneFrame_94 (hY 4 p1 _ (hE 4 hH) (fa.trans (fm_F (by decide))) M2 (by decide) (by rw [xI_j (by decide)]; exact b24))
    refine ra_aload_n A d_Mo_oneFrame_50 rfl <| ra_iload_n A d_Mo_oneFrame_51 rfl <| ra_iconst A 1 d_Mo_oneFrame_52 (by decide) <| ra_ishr A d_Mo_oneFrame_53 <| ?_
    rw [pk_shrN (k := 1) (by omega) _ (by decide), show lead / 2 ^ 1 = lead / 2 from rfl]
    refine ra_sipush A 32764 d_Mo_oneFrame_54 (by decide) <| ?_
    by_cases c1 : ¬ lead / 2 = 32764
    · refine ra_icmp_ne (q := 74) A d_Mo_oneFrame_57 (by decide) (fun _ => ?_) (fun cc => absurd cc (fun z => c1 ((nI_eq (b := 32764) (by omega) (by decide)).mp z)))
      exact bad4 (fun z => c1 z.1)
    have c1 := Decidable.not_not.mp c1
    refine ra_icmp_ne (q := 74) A d_Mo_oneFrame_57 (by decide) (fun cc => absurd ((by rw [c1]; rfl)) cc) (fun _ => ?_)
    refine ra_iload_n A d_Mo_oneFrame_60 rfl <| ra_iconst A 1 d_Mo_oneFrame_61 (by decide) <| ra_iand A d_Mo_oneFrame_62 <| ?_
    rw [pk_andN (k := 1) (by omega) (by decide), show lead % 2 ^ 1 = lead % 2 from rfl]
    refine ra_aload_n A d_Mo_oneFrame_63 rfl <| ra_getI A f_Mo_416 d_Mo_oneFrame_64 (Nat.le_of_ble_eq_true rfl) rfl rfl <| ?_
    rw [b36]
    by_cases c2 : ¬ lead % 2 = kd
    · refine ra_icmp_ne (q := 74) A d_Mo_oneFrame_67 (by decide) (fun _ => ?_) (fun cc => absurd cc (fun z => c2 ((nI_eq (by omega) (by omega)).mp z)))
      exact bad4 (fun z => c2 (hkd.mp z.2))
    have c2 := Decidable.not_not.mp c2
    have c4 : lead / 2 = 32764 ∧ (frm = 0 ∨ way = lead % 2) := ⟨c1, hkd.mpr c2⟩
    clear bad4
    rw [if_pos c4] at hH
    refine ra_icmp_ne (q := 74) A d_Mo_oneFrame_67 (by decide) (fun cc => absurd ((by rw [c2])) cc) (fun _ => ?_)
    refine ra_iconst A 1 d_Mo_oneFrame_70 (by decide) <| ra_goto (q := 75) A d_Mo_oneFrame_71 (by decide) <| ra_iconst A 4 d_Mo_oneFrame_75 (by decide) <| ?_
    refine ra_callV (As := [_, _]) A ok_Mo_want l_Mo_409 im_Mo_want sl_Mo_want d_Mo_oneFrame_76 (Nat.le_of_ble_eq_true rfl) rfl rfl rfl (Nat.le_of_ble_eq_true rfl) (xr_of at0 (by decide)) (s_Mo_want K (b := true) Ma.2.2.1.2 (fun _ => ?_) (fun q => by cases q))
    show xg x (y0 u) 0 0 79 _ _ ga
    refine ra_aload_n A d_Mo_oneFrame_79 rfl <| ra_bipush A 16 d_Mo_oneFrame_80 (by decide) <| ?_
    refine ra_callV (As := [_]) A ok_Mo_next l_Mo_394 im_Mo_next sl_Mo_next d_Mo_oneFrame_82 (Nat.le_of_ble_eq_true rfl) rfl rfl rfl (Nat.le_of_ble_eq_true rfl) (xr_of at0 (by decide)) (s_Mo_next K (n := 16) Ma (by decide) rfl (fun w p2 g2 e2 f2 M2 hw => ?_) (fun e g2 e2 f2 M2 he => ?_))
    rotate_left
    · show xg x (y0 u) 0 0 85 _ _ g2
      rw [e2, rb_l] at hH
      refine ra_l2i A d_Mo_oneFrame_85 <| ra_istore_n (L' := [_, _, _, _, _, _, _, _, _, _, _, _, _]) A d_Mo_oneFrame_86 (by decide) rfl <| ra_aload_n A d_Mo_oneFrame_87 rfl <| ra_getI A f_Mo_386 d_Mo_oneFrame_88 (Nat.le_of_ble_eq_true rfl) rfl rfl <| ?_
      refine ra_if_le (q := 95) A d_Mo_oneFrame_91 (by decide) (fun cc => absurd cc (gt0 M2 he)) (fun _ => ?_)
      exact ra_vret A ow d_Mo_oneFrame_94 (hY e p1 g2 (hE e hH) (cO f2) M2 he (c24 f2))
    show xg x (y0 u) 0 0 85 _ _ g2
    rw [e2, rb_r] at hH
    refine ra_l2i A d_Mo_oneFrame_85 <| ?_
    rw [lN_i]
    refine ra_istore_n (L' := [_, _, _, _, _, _, _, _, _, _, _, _, _]) A d_Mo_oneFrame_86 (by decide) rfl <| ra_aload_n A d_Mo_oneFrame_87 rfl <| ra_getI A f_Mo_386 d_Mo_oneFrame_88 (Nat.le_of_ble_eq_true rfl) rfl rfl <| ?_
    refine ra_if_le (q := 95) A d_Mo_oneFrame_91 (by decide) (fun _ => ?_) (fun cc => absurd ((by rw [M2.2.2.1.2]; decide)) cc)
    refine ra_iload_n A d_Mo_oneFrame_95 rfl <| ra_bipush A 12 d_Mo_oneFrame_96 (by decide) <| ra_ishr A d_Mo_oneFrame_98 <| ?_
    rw [pk_shrN (k := 12) (by omega) _ (by decide), show w / 2 ^ 12 = w / 4096 from rfl]
    refine ra_istore_n (L' := [_, _, _, _, _, _, _, _, _, _, _, _, _]) A d_Mo_oneFrame_99 (by decide) rfl <| ra_iload_n A d_Mo_oneFrame_100 rfl <| ra_bipush A 8 d_Mo_oneFrame_101 (by decide) <| ra_ishr A d_Mo_oneFrame_103 <| ?_
    rw [pk_shrN (k := 8) (by omega) _ (by decide), show w / 2 ^ 8 = w / 256 from rfl]
    refine ra_bipush A 15 d_Mo_oneFrame_104 (by decide) <| ra_iand A d_Mo_oneFrame_106 <| ?_
    rw [pk_andN (k := 4) (by omega) (by decide), show w / 256 % 2 ^ 4 = w / 256 % 16 from rfl]
    refine ra_istore (L' := [_, _, _, _, _, _, _, _, _, _, _, _, _]) A d_Mo_oneFrame_107 (by decide) rfl <| ra_iload_n A d_Mo_oneFrame_109 rfl <| ra_iconst A 4 d_Mo_oneFrame_110 (by decide) <| ra_ishr A d_Mo_oneFrame_111 <| ?_
    rw [pk_shrN (k := 4) (by omega) _ (by decide), show w / 2 ^ 4 = w / 16 from rfl]
    refine ra_bipush A 15 d_Mo_oneFrame_112 (by decide) <| ra_iand A d_Mo_oneFrame_114 <| ?_
    rw [pk_andN (k := 4) (by omega) (by decide), show w / 16 % 2 ^ 4 = w / 16 % 16 from rfl]
    refine ra_istore (L' := [_, _, _, _, _, _, _, _, _, _, _, _, _]) A d_Mo_oneFrame_115 (by decide) rfl <| ra_aload_n A d_Mo_oneFrame_117 rfl <| ra_iload_n A d_Mo_oneFrame_118 rfl <| ?_
    have hb16 : w / 4096 < 16 := by omega
    have hr16 : w / 256 % 16 < 16 := Nat.mod_lt _ (by decide)
    have hc16 : w / 16 % 16 < 16 := Nat.mod_lt _ (by decide)
    have hs8 : w / 2 % 8 < 8 := Nat.mod_lt _ (by decide)
    generalize hb : w / 4096 = b at hH hb16 ⊢
    generalize hr : w / 256 % 16 = r at hH hr16 ⊢
    generalize hc : w / 16 % 16 = c at hH hc16 ⊢
    have bad5 : ¬ ((b ≠ 0 ∧ r ≠ 15 ∧ suC (iCh F) c = true) ∧ suD (iDp F) (w / 2 % 8) = true ∧ w % 2 = 0) → xg x (y0 u) 0 0 188 [some (.ref 141), some (.int (nI lead)), some (.int (nI w)), some (.int (nI b)), some (.int (nI r)), some (.int (nI c)), none, none, none, none, none, none, none] [.ref 141] g2 := by
      intro z
      rw [if_neg z] at hH
      refine ra_iconst A 0 d_Mo_oneFrame_188 (by decide) <| ra_iconst A 5 d_Mo_oneFrame_189 (by decide) <| ?_
      refine ra_callV (As := [_, _]) A ok_Mo_want l_Mo_409 im_Mo_want sl_Mo_want d_Mo_oneFrame_190 (Nat.le_of_ble_eq_true rfl) rfl rfl rfl (Nat.le_of_ble_eq_true rfl) (xr_of at0 (by decide)) (s_Mo_want K (b := false) M2.2.2.1.2 (fun q => by cases q) (fun _ => ?_))
      show xg x (y0 u) 0 0 193 _ _ _
      exact dead193 5 p2 _ _ _ _ _ _ (by rw [xI_j (by decide)]; exact c33 f2) (by rw [xI_j (by decide)]; exact c34 f2) (hE 5 hH) ((cO f2).trans (fm_F (by decide))) (MR_F (x := 5) M2 (by decide)) (by decide) (by rw [xI_j (by decide)]; exact c24 f2)
    by_cases d1 : b = 0
    · refine ra_if_le (q := 188) A d_Mo_oneFrame_119 (by decide) (fun _ => ?_) (fun cc => absurd ((by rw [d1]; decide)) cc)
      exact bad5 (fun z => z.1.1 d1)
    refine ra_if_le (q := 188) A d_Mo_oneFrame_119 (by decide) (fun cc => absurd cc (fun z => absurd ((nI_leI (b := 0) (by omega) (by decide)).mp z) (by omega))) (fun _ => ?_)
    refine ra_iload A d_Mo_oneFrame_122 rfl <| ra_bipush A 15 d_Mo_oneFrame_124 (by decide) <| ?_
    by_cases d2 : r = 15
    · refine ra_icmp_ge (q := 188) A d_Mo_oneFrame_126 (by decide) (fun _ => ?_) (fun cc => absurd ((by rw [d2]; decide)) cc)
      exact bad5 (fun z => z.1.2.1 d2)
    refine ra_icmp_ge (q := 188) A d_Mo_oneFrame_126 (by decide) (fun cc => absurd cc (nI_ge (b := 15) (by omega) (by decide))) (fun _ => ?_)
    refine ra_iload A d_Mo_oneFrame_129 rfl <| ra_bipush A 11 d_Mo_oneFrame_131 (by decide) <| ?_
    by_cases d3 : ¬ c < 11
    · refine ra_icmp_ge (q := 188) A d_Mo_oneFrame_133 (by decide) (fun _ => ?_) (fun cc => absurd (nI_le (a := 11) (by omega) (by omega)) cc)
      refine bad5 (fun z => ?_)
      have z := z.1.2.2
      unfold suC at z
      rw [if_neg (by omega), Bool.and_eq_true, decide_eq_true_iff, decide_eq_true_iff] at z
      omega
    have d3 := Decidable.not_not.mp d3
    refine ra_icmp_ge (q := 188) A d_Mo_oneFrame_133 (by decide) (fun cc => absurd cc (nI_ge (b := 11) d3 (by decide))) (fun _ => ?_)
    refine ra_iload A d_Mo_oneFrame_136 rfl <| ra_bipush A 8 d_Mo_oneFrame_138 (by decide) <| ?_
    have hCb : iCh F ≤ 2 := o4
    -- behind the channels
    have at165 : suC (iCh F) c = true → xg x (y0 u) 0 0 165 [some (.ref 141), some (.int (nI lead)), some (.int (nI w)), some (.int (nI b)), some (.int (nI r)), some (.int (nI c)), none, none, none, none, none, none, none] [.ref 141] g2 := by
      intro d4
      refine ra_aload_n A d_Mo_oneFrame_165 rfl <| ra_iload_n A d_Mo_oneFrame_166 rfl <| ra_iconst A 1 d_Mo_oneFrame_167 (by decide) <| ra_ishr A d_Mo_oneFrame_168 <| ?_
      rw [pk_shrN (k := 1) (by omega) _ (by decide), show w / 2 ^ 1 = w / 2 from rfl]
      refine ra_bipush A 7 d_Mo_oneFrame_169 (by decide) <| ra_iand A d_Mo_oneFrame_171 <| ?_
      rw [pk_andN (k := 3) (by omega) (by decide), show w / 2 % 2 ^ 3 = w / 2 % 8 from rfl]
      refine ra_callV (As := [_]) A ok_Mo_isWrongDepth l_Mo_419 im_Mo_isWrongDepth sl_Mo_isWrongDepth d_Mo_oneFrame_172 (Nat.le_of_ble_eq_true rfl) rfl rfl rfl (Nat.le_of_ble_eq_true rfl) (xr_of at0 (by decide)) (s_Mo_isWrongDepth K hs8 (cI f2).2.2.1 ?_)
      show xg x (y0 u) 0 0 175 _ _ g2
      cases d5 : suD (iDp F) (w / 2 % 8)
      · refine ra_if_ne (q := 188) A d_Mo_oneFrame_175 (by decide) (fun _ => ?_) (fun cc => absurd cc ((by decide)))
        exact bad5 (fun z => by rw [d5] at z; exact absurd z.2.1 (by decide))
      refine ra_if_ne (q := 188) A d_Mo_oneFrame_175 (by decide) (fun cc => absurd (rfl) cc) (fun _ => ?_)
      refine ra_iload_n A d_Mo_oneFrame_178 rfl <| ra_iconst A 1 d_Mo_oneFrame_179 (by decide) <| ra_iand A d_Mo_oneFrame_180 <| ?_
      rw [pk_andN (k := 1) (by omega) (by decide), show w % 2 ^ 1 = w % 2 from rfl]
      by_cases d6 : ¬ w % 2 = 0
      · refine ra_if_ne (q := 188) A d_Mo_oneFrame_181 (by decide) (fun _ => ?_) (fun cc => absurd cc (nI_ne0 (by omega) (by omega)))
        exact bad5 (fun z => d6 z.2.2)
      have d6 := Decidable.not_not.mp d6
      refine ra_if_ne (q := 188) A d_Mo_oneFrame_181 (by decide) (fun cc => absurd ((by rw [d6]; rfl)) cc) (fun _ => ?_)
      have c5 : (b ≠ 0 ∧ r ≠ 15 ∧ suC (iCh F) c = true) ∧ suD (iDp F) (w / 2 % 8) = true ∧ w % 2 = 0 := ⟨⟨d1, d2, d4⟩, d5, d6⟩
      clear bad5
      rw [if_pos c5] at hH
      refine ra_iconst A 1 d_Mo_oneFrame_184 (by decide) <| ra_goto (q := 189) A d_Mo_oneFrame_185 (by decide) <| ra_iconst A 5 d_Mo_oneFrame_189 (by decide) <| ?_
      refine ra_callV (As := [_, _]) A ok_Mo_want l_Mo_409 im_Mo_want sl_Mo_want d_Mo_oneFrame_190 (Nat.le_of_ble_eq_true rfl) rfl rfl rfl (Nat.le_of_ble_eq_true rfl) (xr_of at0 (by decide)) (s_Mo_want K (b := true) M2.2.2.1.2 (fun _ => ?_) (fun q => by cases q))
      show xg x (y0 u) 0 0 193 _ _ g2
      -- the number
      have at217 : ∀ num : Nat, num < 2048 → num = (if lead % 2 = 0 then frm else len) → xg x (y0 u) 0 0 217 [some (.ref 141), some (.int (nI lead)), some (.int (nI w)), some (.int (nI b)), some (.int (nI r)), some (.int (nI c)), some (.int (nI num)), some (.int (nI 0)), none, none, none, none, none] [] g2 := by
        intro num hnum hnm
        rw [← hnm] at hH
        unfold rNum at hH
        generalize hst : (fun (i : Nat) (_ : Unit) (p : Nat) => rb (rB F L 8 p) fun v p' => if v = (numB num).getD i 0 then (Sum.inr ((), p') : Rr Unit) else .inl 6) = step at hH
        refine lp_up (σ := xw_H) (W := fun k g => ∀ v8, xg x (y0 u) 0 0 217 [some (.ref 141), some (.int (nI lead)), some (.int (nI w)), some (.int (nI b)), some (.int (nI r)), some (.int (nI c)), some (.int (nI num)), some (.int (nI k)), v8, none, none, none, none] [] g) (I := fun k g => ∃ p', rL step () p2 k = .inr ((), p') ∧ MM ga g ∧ MR g F L 0 p') (numB num).length ?_ ?_ 0 g2 (Nat.zero_le _) ⟨_, rfl, f2, M2⟩ _
        · rintro g3 ⟨p3, e3, f3, M3⟩ v8
          rw [e3, rb_r] at hH
          refine ra_iload A d_Mo_oneFrame_217 rfl <| ra_iload A d_Mo_oneFrame_219 rfl <| ?_
          refine ra_callS (As := [_, _]) A ok_Mo_numberByte l_Mo_338 st_Mo_numberByte d_Mo_oneFrame_221 rfl (Nat.le_of_ble_eq_true rfl) (xr_of at0 (by decide)) (s_Mo_numberByte K hnum (Nat.le_refl _) (fun q => absurd q (Nat.lt_irrefl _)) (fun _ => ?_))
          show xg x (y0 u) 0 0 224 _ _ g3
          refine ra_if_lt (q := 272) A d_Mo_oneFrame_224 (by decide) (fun _ => ?_) (fun cc => absurd ((by decide)) cc)
          refine ra_aload_n A d_Mo_oneFrame_272 rfl <| ra_getI A f_Mo_386 d_Mo_oneFrame_273 (Nat.le_of_ble_eq_true rfl) rfl rfl <| ?_
          refine ra_if_ne (q := 287) A d_Mo_oneFrame_276 (by decide) (fun cc => absurd (M3.2.2.1.2) cc) (fun _ => ?_)
          refine ra_aload_n A d_Mo_oneFrame_279 rfl <| ra_iload_n A d_Mo_oneFrame_280 rfl <| ?_
          refine ra_callV (As := [_]) A ok_Mo_sizeOf l_Mo_422 im_Mo_sizeOf sl_Mo_sizeOf d_Mo_oneFrame_281 (Nat.le_of_ble_eq_true rfl) rfl rfl rfl (Nat.le_of_ble_eq_true rfl) (xr_of at0 (by decide)) (s_Mo_sizeOf K M3 (by omega) hb16 rfl (fun n p4 g4 e4 f4 M4 hn1 hn2 => ?_) (fun e z g4 e4 f4 M4 he => ?_))
          rotate_left
          · show xg x (y0 u) 0 0 284 _ _ g4
            rw [e4, rb_l] at hH
            refine ra_goto (q := 288) A d_Mo_oneFrame_284 (by decide) <| ?_
            exact dead288 e p3 g4 _ _ _ _ _ _ _ _ _ (hE e hH) (cO (f3.trans f4)) M4 he (c24 (f3.trans f4))
          show xg x (y0 u) 0 0 284 _ _ g4
          rw [e4, rb_r] at hH
          have f34 := f3.trans f4
          -- behind the rate
          have at325 : ∀ (v : Nat) p5 g5, v < 2 ^ 16 → MM ga g5 → MR g5 F L 0 p5 → (rHd F L frm len way last p = if suS F frm len (lead % 2) last n = true then .inr ((c, n, lead % 2), p5) else .inl 7) → xg x (y0 u) 0 0 325 [some (.ref 141), some (.int (nI lead)), some (.int (nI w)), some (.int (nI b)), some (.int (nI r)), some (.int (nI c)), some (.int (nI num)), some (.int (nI n)), some (.long (lN v)), none, none, none, none] [] g5 := by
            clear hH
            intro v p5 g5 hv f5 M5 hH
            have I5 := cI f5
            have at346 : ∀ bo : Nat, bo = (if lead % 2 = 0 then iGr F else iLe F) → xg x (y0 u) 0 0 346 [some (.ref 141), some (.int (nI lead)), some (.int (nI w)), some (.int (nI b)), some (.int (nI r)), some (.int (nI c)), some (.int (nI num)), some (.int (nI n)), some (.long (lN v)), none, some (.int (nI bo)), none, none] [] g5 := by
              intro bo hbo
              have hbo2 : bo < 2 ^ 16 := by rw [hbo]; split <;> omega
              have bad7 : ¬ suS F frm len (lead % 2) last n = true → xg x (y0 u) 0 0 417 [some (.ref 141), some (.int (nI lead)), some (.int (nI w)), some (.int (nI b)), some (.int (nI r)), some (.int (nI c)), some (.int (nI num)), some (.int (nI n)), some (.long (lN v)), none, some (.int (nI bo)), none, none] [.ref 141] g5 := by
                intro z
                rw [if_neg z] at hH
                refine ra_iconst A 0 d_Mo_oneFrame_417 (by decide) <| ra_bipush A 7 d_Mo_oneFrame_418 (by decide) <| ?_
                refine ra_callV (As := [_, _]) A ok_Mo_want l_Mo_409 im_Mo_want sl_Mo_want d_Mo_oneFrame_420 (Nat.le_of_ble_eq_true rfl) rfl rfl rfl (Nat.le_of_ble_eq_true rfl) (xr_of at0 (by decide)) (s_Mo_want K (b := false) M5.2.2.1.2 (fun q => by cases q) (fun _ => ?_))
                show xg x (y0 u) 0 0 423 _ _ _
                exact dead423 7 p5 _ _ _ _ _ _ _ _ _ _ _ (hE 7 hH) ((cO f5).trans (fm_F (by decide))) (MR_F (x := 7) M5 (by decide)) (by decide) (by rw [xI_j (by decide)]; exact c24 f5)
              unfold suS at bad7
              rw [← hbo] at bad7
              simp only [Bool.and_eq_true, Bool.or_eq_true, decide_eq_true_iff] at bad7
              refine ra_aload_n A d_Mo_oneFrame_346 rfl <| ra_iload A d_Mo_oneFrame_347 rfl <| ra_aload_n A d_Mo_oneFrame_349 rfl <| ra_getI A f_Mo_371 d_Mo_oneFrame_350 (Nat.le_of_ble_eq_true rfl) rfl rfl <| ?_
              rw [I5.1.2]
              by_cases t1 : ¬ n ≤ iGr F
              · refine ra_icmp_gt (q := 417) A d_Mo_oneFrame_353 (by decide) (fun _ => ?_) (fun cc => absurd (nI_lt (by omega) (by omega)) cc)
                exact bad7 (fun z => t1 z.1.1)
              have t1 := Decidable.not_not.mp t1
              refine ra_icmp_gt (q := 417) A d_Mo_oneFrame_353 (by decide) (fun cc => absurd cc (fun z => absurd ((nI_ltI (by omega) (by omega)).mp z) (by omega))) (fun _ => ?_)
              refine ra_aload_n A d_Mo_oneFrame_356 rfl <| ra_getI A f_Mo_380 d_Mo_oneFrame_357 (Nat.le_of_ble_eq_true rfl) rfl rfl <| ?_
              rw [c34 f5]
              -- behind the last size
              have at372 : (frm = 0 ∨ bo ≤ last) → xg x (y0 u) 0 0 372 [some (.ref 141), some (.int (nI lead)), some (.int (nI w)), some (.int (nI b)), some (.int (nI r)), some (.int (nI c)), some (.int (nI num)), some (.int (nI n)), some (.long (lN v)), none, some (.int (nI bo)), none, none] [.ref 141] g5 := by
                intro t2
                -- behind the known number
                have at393 : len + n ≤ (if iKn F = 0 then 1200 else iKn F) ∨ (iKn F = 0 ∧ ¬ len + n ≤ 1200) → xg x (y0 u) 0 0 393 [some (.ref 141), some (.int (nI lead)), some (.int (nI w)), some (.int (nI b)), some (.int (nI r)), some (.int (nI c)), some (.int (nI num)), some (.int (nI n)), some (.long (lN v)), none, some (.int (nI bo)), none, none] [.ref 141] g5 := by
                  intro t3
                  refine ra_aload_n A d_Mo_oneFrame_393 rfl <| ra_getI A f_Mo_377 d_Mo_oneFrame_394 (Nat.le_of_ble_eq_true rfl) rfl rfl <| ?_
                  rw [c33 f5]
                  refine ra_iload A d_Mo_oneFrame_397 rfl <| ra_iadd A d_Mo_oneFrame_399 <| ?_
                  rw [nI_add]
                  refine ra_sipush A 1200 d_Mo_oneFrame_400 (by decide) <| ?_
                  rcases t3 with t3 | ⟨t3, t4⟩
                  · have t5 : len + n ≤ 1200 := by split at t3 <;> omega
                    refine ra_icmp_gt (q := 417) A d_Mo_oneFrame_403 (by decide) (fun cc => absurd cc (fun z => absurd ((nI_ltI (a := 1200) (by decide) (by omega)).mp z) (by omega))) (fun _ => ?_)
                    refine ra_lload A d_Mo_oneFrame_406 rfl <| ra_lconst A 0 d_Mo_oneFrame_408 (by decide) <| ra_lcmp A d_Mo_oneFrame_409 <| ?_
                    refine ra_if_lt (q := 417) A d_Mo_oneFrame_410 (by decide) (fun cc => absurd cc (fun z => absurd (lc_lt.mp z) (Int64.not_lt.mpr ((pk_lLE (a := 0) (by decide) (by omega)).mpr (Nat.zero_le _))))) (fun _ => ?_)
                    have hS : suS F frm len (lead % 2) last n = true := by
                      unfold suS
                      rw [← hbo]
                      simp only [Bool.and_eq_true, Bool.or_eq_true, decide_eq_true_iff]
                      exact ⟨⟨t1, t2⟩, t3⟩
                    rw [if_pos hS] at hH
                    refine ra_iconst A 1 d_Mo_oneFrame_413 (by decide) <| ra_goto (q := 418) A d_Mo_oneFrame_414 (by decide) <| ra_bipush A 7 d_Mo_oneFrame_418 (by decide) <| ?_
                    refine ra_callV (As := [_, _]) A ok_Mo_want l_Mo_409 im_Mo_want sl_Mo_want d_Mo_oneFrame_420 (Nat.le_of_ble_eq_true rfl) rfl rfl rfl (Nat.le_of_ble_eq_true rfl) (xr_of at0 (by decide)) (s_Mo_want K (b := true) M5.2.2.1.2 (fun _ => ?_) (fun q => by cases q))
                    show xg x (y0 u) 0 0 423 _ _ g5
                    -- the check of the head
                    obtain ⟨hpp, hp58⟩ := rHd_p hH
                    have hp5L := M5.2.2.2.1
                    rw [hH, rb_r] at hq
                    dsimp only at hq
                    refine ra_aload_n A d_Mo_oneFrame_423 rfl <| ra_getI A f_Mo_386 d_Mo_oneFrame_424 (Nat.le_of_ble_eq_true rfl) rfl rfl <| ?_
                    refine ra_if_ne (q := 452) A d_Mo_oneFrame_427 (by decide) (fun cc => absurd (M5.2.2.1.2) cc) (fun _ => ?_)
                    refine ra_aload_n A d_Mo_oneFrame_430 rfl <| ra_bipush A 8 d_Mo_oneFrame_431 (by decide) <| ra_aload_n A d_Mo_oneFrame_433 rfl <| ra_getI A f_Mo_403 d_Mo_oneFrame_434 (Nat.le_of_ble_eq_true rfl) rfl rfl <| ?_
                    rw [c24 f5]
                    refine ra_aload_n A d_Mo_oneFrame_437 rfl <| ra_getJ A f_Mo_244 d_Mo_oneFrame_438 (Nat.le_of_ble_eq_true rfl) rfl rfl <| ?_
                    rw [M5.2.2.1.1]
                    refine ra_ldc2 A k_Mo_222 d_Mo_oneFrame_441 <| ra_ldiv A d_Mo_oneFrame_444 (by decide) <| ?_
                    rw [show lN p5 / 8 = lN (p5 / 8) from pk_lDiv (b := 8) (by omega) (by decide) (by decide)]
                    refine ra_l2i A d_Mo_oneFrame_445 <| ?_
                    rw [lN_i]
                    refine ra_callV (As := [_, _, _]) A ok_Mo_check l_Mo_341 im_Mo_check sl_Mo_check d_Mo_oneFrame_446 (Nat.le_of_ble_eq_true rfl) rfl rfl rfl (Nat.le_of_ble_eq_true rfl) (xr_of at0 (by decide)) (s_Mo_check K (a := p / 8) (b := p5 / 8) (by omega) (by omega) ?_)
                    show xg x (y0 u) 0 0 449 _ _ g5
                    rw [g_check_I (w := 8) (p := 7) (F := F) (Or.inl ⟨rfl, rfl, rfl⟩) (fun q _ h2 => M5.2.1 q (by omega)), show 8 * (p / 8) = p by omega, show 8 * (p5 / 8 - p / 8) = p5 - p by omega]
                    have hcl : crI 8 7 F p (p5 - p) 0 < 2 ^ 8 := crI_lt (by decide) (by decide) _
                    generalize crI 8 7 F p (p5 - p) 0 = ck at hq hcl ⊢
                    refine ra_goto (q := 453) A d_Mo_oneFrame_449 (by decide) <| ra_istore (L' := [_, _, _, _, _, _, _, _, _, _, _, _, _]) A d_Mo_oneFrame_453 (by decide) rfl <| ra_aload_n A d_Mo_oneFrame_455 rfl <| ra_bipush A 8 d_Mo_oneFrame_456 (by decide) <| ?_
                    refine ra_callV (As := [_]) A ok_Mo_next l_Mo_394 im_Mo_next sl_Mo_next d_Mo_oneFrame_458 (Nat.le_of_ble_eq_true rfl) rfl rfl rfl (Nat.le_of_ble_eq_true rfl) (xr_of at0 (by decide)) (s_Mo_next K (n := 8) M5 (by decide) rfl (fun v6 p6 g6 e6 f6 M6 hv6 => ?_) (fun e g6 e6 f6 M6 he => ?_))
                    rotate_left
                    · show xg x (y0 u) 0 0 461 _ _ g6
                      rw [e6, rb_l] at hq
                      exact dead461 e p5 g6 _ _ _ _ _ _ _ _ _ _ _ hq.symm (cO (f5.trans f6)) M6 he (c24 (f5.trans f6))
                    show xg x (y0 u) 0 0 461 _ _ g6
                    rw [e6, rb_r] at hq
                    have f56 := f5.trans f6
                    have hp6 := (rB_ok e6).2.1
                    refine ra_l2i A d_Mo_oneFrame_461 <| ?_
                    rw [lN_i]
                    refine ra_istore (L' := [_, _, _, _, _, _, _, _, _, _, _, _, _]) A d_Mo_oneFrame_462 (by decide) rfl <| ra_aload_n A d_Mo_oneFrame_464 rfl <| ra_iload A d_Mo_oneFrame_465 rfl <| ra_iload A d_Mo_oneFrame_467 rfl <| ?_
                    by_cases cv : ¬ v6 = ck
                    · rw [if_neg cv] at hq
                      refine ra_icmp_ne (q := 476) A d_Mo_oneFrame_469 (by decide) (fun _ => ?_) (fun cc => absurd cc (fun z => cv ((nI_eq (by omega) (by omega)).mp z)))
                      refine ra_iconst A 0 d_Mo_oneFrame_476 (by decide) <| ra_bipush A 8 d_Mo_oneFrame_477 (by decide) <| ?_
                      refine ra_callV (As := [_, _]) A ok_Mo_want l_Mo_409 im_Mo_want sl_Mo_want d_Mo_oneFrame_479 (Nat.le_of_ble_eq_true rfl) rfl rfl rfl (Nat.le_of_ble_eq_true rfl) (xr_of at0 (by decide)) (s_Mo_want K (b := false) M6.2.2.1.2 (fun q => by cases q) (fun _ => ?_))
                      show xg x (y0 u) 0 0 482 _ _ _
                      exact dead482 8 p6 _ _ _ _ _ _ _ _ _ _ _ _ _ hq.symm ((cO f56).trans (fm_F (by decide))) (MR_F (x := 8) M6 (by decide)) (by decide) (by rw [xI_j (by decide)]; exact c24 f56)
                    have cv := Decidable.not_not.mp cv
                    rw [if_pos cv] at hq
                    refine ra_icmp_ne (q := 476) A d_Mo_oneFrame_469 (by decide) (fun cc => absurd ((by rw [cv])) cc) (fun _ => ?_)
                    refine ra_iconst A 1 d_Mo_oneFrame_472 (by decide) <| ra_goto (q := 477) A d_Mo_oneFrame_473 (by decide) <| ra_bipush A 8 d_Mo_oneFrame_477 (by decide) <| ?_
                    refine ra_callV (As := [_, _]) A ok_Mo_want l_Mo_409 im_Mo_want sl_Mo_want d_Mo_oneFrame_479 (Nat.le_of_ble_eq_true rfl) rfl rfl rfl (Nat.le_of_ble_eq_true rfl) (xr_of at0 (by decide)) (s_Mo_want K (b := true) M6.2.2.1.2 (fun _ => ?_) (fun q => by cases q))
                    show xg x (y0 u) 0 0 482 _ _ g6
                    refine ra_aload_n A d_Mo_oneFrame_482 rfl <| ra_iload A d_Mo_oneFrame_483 rfl <| ra_iload A d_Mo_oneFrame_485 rfl <| ?_
                    refine ra_callV (As := [_, _]) A ok_Mo_body l_Mo_428 im_Mo_body sl_Mo_body d_Mo_oneFrame_487 (Nat.le_of_ble_eq_true rfl) rfl rfl rfl (Nat.le_of_ble_eq_true rfl) (xr_of at0 (by decide)) (s_Mo_body K (len := len) (frm := frm) (p0 := p) M6 (cI f56) ok0 (c24 f56) hp8 (by omega) (c33 f56) (c34 f56) d4 hn1 (by omega) rfl (fun rr p7 g7 e7 f7 M7 q33 q34 q35 hold hnew => ?_) (fun e p7 g7 e7 f7 M7 he => ?_))
                    · show xg x (y0 u) 0 0 490 _ _ g7
                      have hal := rTl_al e7
                      rw [e7, rb_r] at hq
                      refine ra_vret A ow d_Mo_oneFrame_490 (hX _ p7 g7 hq.symm ((cO f56).trans f7.of) ⟨⟨M7, (cI f56).fm f7 (by decide) (by decide) (by decide) (by decide) (by decide)⟩, ⟨q33, q34⟩, fun _ => ⟨⟨?_, Nat.mod_lt _ (by decide)⟩, q35, ?_⟩, ?_, ?_, ?_, hal⟩)
                      · show g7.1 141 36 = nI (lead % 2)
                        rw [f7.2.1 36 (by decide), c36 f56, c2]
                      · show n ≤ 1200
                        omega
                      · intro i hi
                        have hi : i < len + n := hi
                        have k153 : g6.1 153 = h.1 153 := (fmk f56 (by decide) (by decide)).trans b153
                        show g7.1 153 i = app s0 len rr.1 i ∧ (iCh F = 2 → g7.1 153 (1200 + i) = app s1 len rr.2 i)
                        unfold app
                        by_cases ci : i < len
                        · rw [if_pos ci, if_pos ci, (hold i ci).1, (hold i ci).2, k153]
                          exact hrow i ci
                        · rw [if_neg ci, if_neg ci]
                          have := hnew (i - len) (by omega)
                          rw [show len + (i - len) = i by omega] at this
                          exact this
                      · show frm + 1 ≤ len + n
                        omega
                      · show len + n ≤ 1200
                        omega
                    · show xg x (y0 u) 0 0 490 _ _ g7
                      rw [e7, rb_l] at hq
                      exact ra_vret A ow d_Mo_oneFrame_490 (hY e p7 g7 hq.symm ((cO f56).trans f7.of) M7 he (by rw [f7.2.1 24 (by decide)]; exact c24 f56))
                  · refine ra_icmp_gt (q := 417) A d_Mo_oneFrame_403 (by decide) (fun _ => ?_) (fun cc => absurd (nI_lt (a := 1200) (by omega) (by omega)) cc)
                    exact bad7 (fun z => by rw [if_pos t3] at z; exact t4 z.2)
                refine ra_aload_n A d_Mo_oneFrame_372 rfl <| ra_getI A f_Mo_406 d_Mo_oneFrame_373 (Nat.le_of_ble_eq_true rfl) rfl rfl <| ?_
                rw [I5.2.2.2]
                by_cases t3 : iKn F = 0
                · refine ra_if_eq (q := 393) A d_Mo_oneFrame_376 (by decide) (fun _ => ?_) (fun cc => absurd ((by rw [t3]; rfl)) cc)
                  exact at393 (by rw [if_pos t3]; omega)
                · refine ra_if_eq (q := 393) A d_Mo_oneFrame_376 (by decide) (fun cc => absurd cc (nI_ne0 (by omega) (by omega))) (fun _ => ?_)
                  refine ra_aload_n A d_Mo_oneFrame_379 rfl <| ra_getI A f_Mo_377 d_Mo_oneFrame_380 (Nat.le_of_ble_eq_true rfl) rfl rfl <| ?_
                  rw [c33 f5]
                  refine ra_iload A d_Mo_oneFrame_383 rfl <| ra_iadd A d_Mo_oneFrame_385 <| ?_
                  rw [nI_add]
                  refine ra_aload_n A d_Mo_oneFrame_386 rfl <| ra_getI A f_Mo_406 d_Mo_oneFrame_387 (Nat.le_of_ble_eq_true rfl) rfl rfl <| ?_
                  rw [I5.2.2.2]
                  by_cases t4 : len + n ≤ iKn F
                  · refine ra_icmp_gt (q := 417) A d_Mo_oneFrame_390 (by decide) (fun cc => absurd cc (fun z => absurd ((nI_ltI (by omega) (by omega)).mp z) (by omega))) (fun _ => ?_)
                    exact at393 (Or.inl (by rw [if_neg t3]; exact t4))
                  · refine ra_icmp_gt (q := 417) A d_Mo_oneFrame_390 (by decide) (fun _ => ?_) (fun cc => absurd (nI_lt (by omega) (by omega)) cc)
                    exact bad7 (fun z => by rw [if_neg t3] at z; exact t4 z.2)
              by_cases t2 : frm = 0
              · refine ra_if_eq (q := 372) A d_Mo_oneFrame_360 (by decide) (fun _ => ?_) (fun cc => absurd ((by rw [t2]; rfl)) cc)
                exact at372 (Or.inl t2)
              · refine ra_if_eq (q := 372) A d_Mo_oneFrame_360 (by decide) (fun cc => absurd cc (nI_ne0 (by omega) (by omega))) (fun _ => ?_)
                obtain ⟨l1, l2⟩ := b35 t2
                refine ra_aload_n A d_Mo_oneFrame_363 rfl <| ra_getI A f_Mo_425 d_Mo_oneFrame_364 (Nat.le_of_ble_eq_true rfl) rfl rfl <| ?_
                rw [f5.2.1 35 (by decide), l1]
                refine ra_iload A d_Mo_oneFrame_367 rfl <| ?_
                by_cases t3 : bo ≤ last
                · refine ra_icmp_lt (q := 417) A d_Mo_oneFrame_369 (by decide) (fun cc => absurd cc (fun z => absurd ((nI_ltI (by omega) (by omega)).mp z) (by omega))) (fun _ => ?_)
                  exact at372 (Or.inr t3)
                · refine ra_icmp_lt (q := 417) A d_Mo_oneFrame_369 (by decide) (fun _ => ?_) (fun cc => absurd (nI_lt (by omega) (by omega)) cc)
                  exact bad7 (fun z => z.1.2.elim t2 t3)
            refine ra_aload_n A d_Mo_oneFrame_325 rfl <| ra_getI A f_Mo_416 d_Mo_oneFrame_326 (Nat.le_of_ble_eq_true rfl) rfl rfl <| ?_
            rw [c36 f5]
            refine ra_iconst A 1 d_Mo_oneFrame_329 (by decide) <| ?_
            by_cases k1 : kd = 1
            · refine ra_icmp_ne (q := 340) A d_Mo_oneFrame_330 (by decide) (fun cc => absurd ((by rw [k1]; rfl)) cc) (fun _ => ?_)
              refine ra_aload_n A d_Mo_oneFrame_333 rfl <| ra_getI A f_Mo_398 d_Mo_oneFrame_334 (Nat.le_of_ble_eq_true rfl) rfl rfl <| ?_
              rw [I5.1.1]
              refine ra_goto (q := 344) A d_Mo_oneFrame_337 (by decide) <| ra_istore (L' := [_, _, _, _, _, _, _, _, _, _, _, _, _]) A d_Mo_oneFrame_344 (by decide) rfl <| ?_
              exact at346 _ (by rw [if_neg (by omega)])
            · refine ra_icmp_ne (q := 340) A d_Mo_oneFrame_330 (by decide) (fun _ => ?_) (fun cc => absurd cc (fun z => k1 ((nI_eq (b := 1) (by omega) (by decide)).mp z)))
              refine ra_aload_n A d_Mo_oneFrame_340 rfl <| ra_getI A f_Mo_371 d_Mo_oneFrame_341 (Nat.le_of_ble_eq_true rfl) rfl rfl <| ?_
              rw [I5.1.2]
              refine ra_istore (L' := [_, _, _, _, _, _, _, _, _, _, _, _, _]) A d_Mo_oneFrame_344 (by decide) rfl <| ?_
              exact at346 _ (by rw [if_pos (by omega)])
          refine ra_goto (q := 288) A d_Mo_oneFrame_284 (by decide) <| ra_istore (L' := [_, _, _, _, _, _, _, _, _, _, _, _, _]) A d_Mo_oneFrame_288 (by decide) rfl <| ra_iload A d_Mo_oneFrame_290 rfl <| ra_bipush A 12 d_Mo_oneFrame_292 (by decide) <| ?_
          by_cases r12 : r = 12
          · rw [if_pos (by omega), if_pos r12] at hH
            refine ra_icmp_ne (q := 306) A d_Mo_oneFrame_294 (by decide) (fun cc => absurd ((by rw [r12]; rfl)) cc) (fun _ => ?_)
            refine ra_aload_n A d_Mo_oneFrame_297 rfl <| ra_bipush A 8 d_Mo_oneFrame_298 (by decide) <| ?_
            refine ra_callV (As := [_]) A ok_Mo_next l_Mo_394 im_Mo_next sl_Mo_next d_Mo_oneFrame_300 (Nat.le_of_ble_eq_true rfl) rfl rfl rfl (Nat.le_of_ble_eq_true rfl) (xr_of at0 (by decide)) (s_Mo_next K (n := 8) M4 (by decide) rfl (fun v p5 g5 e5 f5 M5 hv => ?_) (fun e g5 e5 f5 M5 he => ?_))
            · show xg x (y0 u) 0 0 303 _ _ g5
              rw [e5, rb_r] at hH
              refine ra_goto (q := 323) A d_Mo_oneFrame_303 (by decide) <| ra_lstore (L' := [_, _, _, _, _, _, _, _, _, _, _, _, _]) A d_Mo_oneFrame_323 (by decide) rfl <| ?_
              exact at325 v p5 g5 (by omega) (f34.trans f5) M5 hH
            · show xg x (y0 u) 0 0 303 _ _ g5
              rw [e5, rb_l] at hH
              refine ra_goto (q := 323) A d_Mo_oneFrame_303 (by decide) <| ra_lstore (L' := [_, _, _, _, _, _, _, _, _, _, _, _, _]) A d_Mo_oneFrame_323 (by decide) rfl <| ?_
              exact dead325 e p4 g5 _ _ _ _ _ _ _ _ (hE e hH) (cO (f34.trans f5)) M5 he (c24 (f34.trans f5))
          · refine ra_icmp_ne (q := 306) A d_Mo_oneFrame_294 (by decide) (fun _ => ?_) (fun cc => absurd cc (fun z => r12 ((nI_eq (b := 12) (by omega) (by decide)).mp z)))
            refine ra_iload A d_Mo_oneFrame_306 rfl <| ra_bipush A 12 d_Mo_oneFrame_308 (by decide) <| ?_
            by_cases r13 : 12 ≤ r
            · rw [if_pos r13, if_neg r12] at hH
              refine ra_icmp_le (q := 322) A d_Mo_oneFrame_310 (by decide) (fun cc => absurd cc (fun z => absurd ((nI_leI (b := 12) (by omega) (by decide)).mp z) (by omega))) (fun _ => ?_)
              refine ra_aload_n A d_Mo_oneFrame_313 rfl <| ra_bipush A 16 d_Mo_oneFrame_314 (by decide) <| ?_
              refine ra_callV (As := [_]) A ok_Mo_next l_Mo_394 im_Mo_next sl_Mo_next d_Mo_oneFrame_316 (Nat.le_of_ble_eq_true rfl) rfl rfl rfl (Nat.le_of_ble_eq_true rfl) (xr_of at0 (by decide)) (s_Mo_next K (n := 16) M4 (by decide) rfl (fun v p5 g5 e5 f5 M5 hv => ?_) (fun e g5 e5 f5 M5 he => ?_))
              · show xg x (y0 u) 0 0 319 _ _ g5
                rw [e5, rb_r] at hH
                refine ra_goto (q := 323) A d_Mo_oneFrame_319 (by decide) <| ra_lstore (L' := [_, _, _, _, _, _, _, _, _, _, _, _, _]) A d_Mo_oneFrame_323 (by decide) rfl <| ?_
                exact at325 v p5 g5 (by omega) (f34.trans f5) M5 hH
              · show xg x (y0 u) 0 0 319 _ _ g5
                rw [e5, rb_l] at hH
                refine ra_goto (q := 323) A d_Mo_oneFrame_319 (by decide) <| ra_lstore (L' := [_, _, _, _, _, _, _, _, _, _, _, _, _]) A d_Mo_oneFrame_323 (by decide) rfl <| ?_
                exact dead325 e p4 g5 _ _ _ _ _ _ _ _ (hE e hH) (cO (f34.trans f5)) M5 he (c24 (f34.trans f5))
            · rw [if_neg r13, rb_r] at hH
              refine ra_icmp_le (q := 322) A d_Mo_oneFrame_310 (by decide) (fun _ => ?_) (fun cc => absurd (nI_le (b := 12) (by omega) (by decide)) cc)
              refine ra_lconst A 0 d_Mo_oneFrame_322 (by decide) <| ra_lstore (L' := [_, _, _, _, _, _, _, _, _, _, _, _, _]) A d_Mo_oneFrame_323 (by decide) rfl <| ?_
              exact at325 0 p4 g4 (by decide) f34 M4 hH
        · rintro k g3 hk ⟨p3, e3, f3, M3⟩ ih v8
          have e4 := rL_s e3
          rw [show step k () p3 = rb (rB F L 8 p3) fun v p' => if v = (numB num).getD k 0 then (Sum.inr ((), p') : Rr Unit) else .inl 6 by rw [← hst]] at e4
          have bad6 : ∀ e, rL step () p2 (k + 1) = .inl e → Q = .inl e := fun e z => hE e (by rw [hH, rL_err z hk, rb_l])
          have hnb : (numB num).getD k 0 < 256 := numB_lt hnum
          refine ra_iload A d_Mo_oneFrame_217 rfl <| ra_iload A d_Mo_oneFrame_219 rfl <| ?_
          refine ra_callS (As := [_, _]) A ok_Mo_numberByte l_Mo_338 st_Mo_numberByte d_Mo_oneFrame_221 rfl (Nat.le_of_ble_eq_true rfl) (xr_of at0 (by decide)) (s_Mo_numberByte K hnum (Nat.le_of_lt hk) (fun _ => ?_) (fun q => absurd hk (by omega)))
          show xg x (y0 u) 0 0 224 _ _ g3
          refine ra_if_lt (q := 272) A d_Mo_oneFrame_224 (by decide) (fun cc => absurd cc (nI_pos (by omega))) (fun _ => ?_)
          refine ra_aload_n A d_Mo_oneFrame_227 rfl <| ra_getI A f_Mo_386 d_Mo_oneFrame_228 (Nat.le_of_ble_eq_true rfl) rfl rfl <| ?_
          refine ra_if_ne (q := 272) A d_Mo_oneFrame_231 (by decide) (fun cc => absurd (M3.2.2.1.2) cc) (fun _ => ?_)
          refine ra_aload_n A d_Mo_oneFrame_234 rfl <| ra_bipush A 8 d_Mo_oneFrame_235 (by decide) <| ?_
          refine ra_callV (As := [_]) A ok_Mo_next l_Mo_394 im_Mo_next sl_Mo_next d_Mo_oneFrame_237 (Nat.le_of_ble_eq_true rfl) rfl rfl rfl (Nat.le_of_ble_eq_true rfl) (xr_of at0 (by decide)) (s_Mo_next K (n := 8) M3 (by decide) rfl (fun v p4 g4 e5 f4 M4 hv => ?_) (fun e g4 e5 f4 M4 he => ?_))
          · show xg x (y0 u) 0 0 240 _ _ g4
            rw [e5, rb_r] at e4
            refine ra_l2i A d_Mo_oneFrame_240 <| ?_
            rw [lN_i]
            refine ra_istore (L' := [_, _, _, _, _, _, _, _, _, _, _, _, _]) A d_Mo_oneFrame_241 (by decide) rfl <| ra_aload_n A d_Mo_oneFrame_243 rfl <| ra_iload A d_Mo_oneFrame_244 rfl <| ra_iload A d_Mo_oneFrame_246 rfl <| ra_iload A d_Mo_oneFrame_248 rfl <| ?_
            refine ra_callS (As := [_, _]) A ok_Mo_numberByte l_Mo_338 st_Mo_numberByte d_Mo_oneFrame_250 rfl (Nat.le_of_ble_eq_true rfl) (xr_of at0 (by decide)) (s_Mo_numberByte K hnum (Nat.le_of_lt hk) (fun _ => ?_) (fun q => absurd hk (by omega)))
            show xg x (y0 u) 0 0 253 _ _ g4
            by_cases cv : v = (numB num).getD k 0
            · rw [if_pos cv] at e4
              refine ra_icmp_ne (q := 260) A d_Mo_oneFrame_253 (by decide) (fun cc => absurd ((by rw [cv])) cc) (fun _ => ?_)
              refine ra_iconst A 1 d_Mo_oneFrame_256 (by decide) <| ra_goto (q := 261) A d_Mo_oneFrame_257 (by decide) <| ra_bipush A 6 d_Mo_oneFrame_261 (by decide) <| ?_
              refine ra_callV (As := [_, _]) A ok_Mo_want l_Mo_409 im_Mo_want sl_Mo_want d_Mo_oneFrame_263 (Nat.le_of_ble_eq_true rfl) rfl rfl rfl (Nat.le_of_ble_eq_true rfl) (xr_of at0 (by decide)) (s_Mo_want K (b := true) M4.2.2.1.2 (fun _ => ?_) (fun q => by cases q))
              show xg x (y0 u) 0 0 266 _ _ g4
              refine ra_iinc (L' := [_, _, _, _, _, _, _, _, _, _, _, _, _]) A 1 d_Mo_oneFrame_266 rfl (by decide) (by decide) rfl <| ra_goto (q := 217) A d_Mo_oneFrame_269 (by decide) <| ?_
              rw [nI_1]
              exact ih g4 ⟨p4, e4, f3.trans f4, M4⟩ _
            · rw [if_neg cv] at e4
              refine ra_icmp_ne (q := 260) A d_Mo_oneFrame_253 (by decide) (fun _ => ?_) (fun cc => absurd cc (fun z => cv ((nI_eq (by omega) (by omega)).mp z)))
              refine ra_iconst A 0 d_Mo_oneFrame_260 (by decide) <| ra_bipush A 6 d_Mo_oneFrame_261 (by decide) <| ?_
              refine ra_callV (As := [_, _]) A ok_Mo_want l_Mo_409 im_Mo_want sl_Mo_want d_Mo_oneFrame_263 (Nat.le_of_ble_eq_true rfl) rfl rfl rfl (Nat.le_of_ble_eq_true rfl) (xr_of at0 (by decide)) (s_Mo_want K (b := false) M4.2.2.1.2 (fun q => by cases q) (fun _ => ?_))
              show xg x (y0 u) 0 0 266 _ _ _
              refine ra_iinc (L' := [_, _, _, _, _, _, _, _, _, _, _, _, _]) A 1 d_Mo_oneFrame_266 rfl (by decide) (by decide) rfl <| ra_goto (q := 217) A d_Mo_oneFrame_269 (by decide) <| ?_
              rw [nI_1]
              exact dead217 6 p4 _ _ _ num (k + 1) _ _ _ _ hnum hk (bad6 6 e4) ((cO (f3.trans f4)).trans (fm_F (by decide))) (MR_F (x := 6) M4 (by decide)) (by decide) (by rw [xI_j (by decide)]; exact c24 (f3.trans f4))
          · show xg x (y0 u) 0 0 240 _ _ g4
            rw [e5, rb_l] at e4
            refine ra_l2i A d_Mo_oneFrame_240 <| ra_istore (L' := [_, _, _, _, _, _, _, _, _, _, _, _, _]) A d_Mo_oneFrame_241 (by decide) rfl <| ra_aload_n A d_Mo_oneFrame_243 rfl <| ra_iload A d_Mo_oneFrame_244 rfl <| ra_iload A d_Mo_oneFrame_246 rfl <| ra_iload A d_Mo_oneFrame_248 rfl <| ?_
            refine ra_callS (As := [_, _]) A ok_Mo_numberByte l_Mo_338 st_Mo_numberByte d_Mo_oneFrame_250 rfl (Nat.le_of_ble_eq_true rfl) (xr_of at0 (by decide)) (s_Mo_numberByte K hnum (Nat.le_of_lt hk) (fun _ => ?_) (fun q => absurd hk (by omega)))
            show xg x (y0 u) 0 0 253 _ _ g4
            have tail : ∀ bb : Int32, ∀ v8, xg x (y0 u) 0 0 261 [some (.ref 141), some (.int (nI lead)), some (.int (nI w)), some (.int (nI b)), some (.int (nI r)), some (.int (nI c)), some (.int (nI num)), some (.int (nI k)), v8, none, none, none, none] [.int bb, .ref 141] g4 := by
              intro bb v8
              refine ra_bipush A 6 d_Mo_oneFrame_261 (by decide) <| ?_
              refine ra_callV (As := [_, _]) A ok_Mo_want l_Mo_409 im_Mo_want sl_Mo_want d_Mo_oneFrame_263 (Nat.le_of_ble_eq_true rfl) rfl rfl rfl (Nat.le_of_ble_eq_true rfl) (xr_of at0 (by decide)) (s_Mo_wantF K (ne M4 he) ?_)
              show xg x (y0 u) 0 0 266 _ _ g4
              refine ra_iinc (L' := [_, _, _, _, _, _, _, _, _, _, _, _, _]) A 1 d_Mo_oneFrame_266 rfl (by decide) (by decide) rfl <| ra_goto (q := 217) A d_Mo_oneFrame_269 (by decide) <| ?_
              rw [nI_1]
              exact dead217 e p3 _ _ _ num (k + 1) _ _ _ _ hnum hk (bad6 e e4) (cO (f3.trans f4)) M4 he (c24 (f3.trans f4))
            refine ra_icmp_ne (q := 260) A d_Mo_oneFrame_253 (by decide) (fun z => ?_) (fun z => ?_)
            · refine ra_iconst A 0 d_Mo_oneFrame_260 (by decide) <| ?_
              exact tail _ _
            · refine ra_iconst A 1 d_Mo_oneFrame_256 (by decide) <| ra_goto (q := 261) A d_Mo_oneFrame_257 (by decide) <| ?_
              exact tail _ _
      refine ra_aload_n A d_Mo_oneFrame_193 rfl <| ra_getI A f_Mo_416 d_Mo_oneFrame_194 (Nat.le_of_ble_eq_true rfl) rfl rfl <| ?_
      rw [c36 f2]
      refine ra_iconst A 1 d_Mo_oneFrame_197 (by decide) <| ?_
      by_cases k1 : kd = 1
      · refine ra_icmp_ne (q := 208) A d_Mo_oneFrame_198 (by decide) (fun cc => absurd ((by rw [k1]; rfl)) cc) (fun _ => ?_)
        refine ra_aload_n A d_Mo_oneFrame_201 rfl <| ra_getI A f_Mo_377 d_Mo_oneFrame_202 (Nat.le_of_ble_eq_true rfl) rfl rfl <| ?_
        rw [c33 f2]
        refine ra_goto (q := 212) A d_Mo_oneFrame_205 (by decide) <| ra_istore (L' := [_, _, _, _, _, _, _, _, _, _, _, _, _]) A d_Mo_oneFrame_212 (by decide) rfl <| ra_iconst A 0 d_Mo_oneFrame_214 (by decide) <| ra_istore (L' := [_, _, _, _, _, _, _, _, _, _, _, _, _]) A d_Mo_oneFrame_215 (by decide) rfl <| ?_
        exact at217 len (by omega) (by rw [if_neg (by omega)])
      · refine ra_icmp_ne (q := 208) A d_Mo_oneFrame_198 (by decide) (fun _ => ?_) (fun cc => absurd cc (fun z => k1 ((nI_eq (b := 1) (by omega) (by decide)).mp z)))
        refine ra_aload_n A d_Mo_oneFrame_208 rfl <| ra_getI A f_Mo_380 d_Mo_oneFrame_209 (Nat.le_of_ble_eq_true rfl) rfl rfl <| ?_
        rw [c34 f2]
        refine ra_istore (L' := [_, _, _, _, _, _, _, _, _, _, _, _, _]) A d_Mo_oneFrame_212 (by decide) rfl <| ra_iconst A 0 d_Mo_oneFrame_214 (by decide) <| ra_istore (L' := [_, _, _, _, _, _, _, _, _, _, _, _, _]) A d_Mo_oneFrame_215 (by decide) rfl <| ?_
        exact at217 frm (by omega) (by rw [if_pos (by omega)])
    by_cases d4 : c < 8
    · refine ra_icmp_ge (q := 157) A d_Mo_oneFrame_140 (by decide) (fun cc => absurd cc (nI_ge (b := 8) d4 (by decide))) (fun _ => ?_)
      refine ra_iload A d_Mo_oneFrame_143 rfl <| ra_iconst A 1 d_Mo_oneFrame_145 (by decide) <| ra_iadd A d_Mo_oneFrame_146 <| ?_
      rw [nI_1]
      refine ra_aload_n A d_Mo_oneFrame_147 rfl <| ra_getI A f_Mo_365 d_Mo_oneFrame_148 (Nat.le_of_ble_eq_true rfl) rfl rfl <| ?_
      rw [(cI f2).2.1]
      by_cases d5 : c + 1 = iCh F
      · refine ra_icmp_ne (q := 188) A d_Mo_oneFrame_151 (by decide) (fun cc => absurd ((by rw [d5])) cc) (fun _ => ?_)
        refine ra_goto (q := 165) A d_Mo_oneFrame_154 (by decide) <| ?_
        exact at165 (by unfold suC; rw [if_pos d4, decide_eq_true d5])
      · refine ra_icmp_ne (q := 188) A d_Mo_oneFrame_151 (by decide) (fun _ => ?_) (fun cc => absurd cc (fun z => d5 ((nI_eq (by omega) (by omega)).mp z)))
        exact bad5 (fun z => by have z := z.1.2.2; unfold suC at z; rw [if_pos d4, decide_eq_false d5] at z; cases z)
    · refine ra_icmp_ge (q := 157) A d_Mo_oneFrame_140 (by decide) (fun _ => ?_) (fun cc => absurd (nI_le (a := 8) (by omega) (by omega)) cc)
      refine ra_aload_n A d_Mo_oneFrame_157 rfl <| ra_getI A f_Mo_365 d_Mo_oneFrame_158 (Nat.le_of_ble_eq_true rfl) rfl rfl <| ?_
      rw [(cI f2).2.1]
      refine ra_iconst A 2 d_Mo_oneFrame_161 (by decide) <| ?_
      by_cases d5 : iCh F = 2
      · refine ra_icmp_ne (q := 188) A d_Mo_oneFrame_162 (by decide) (fun cc => absurd ((by rw [d5]; rfl)) cc) (fun _ => ?_)
        exact at165 (by unfold suC; rw [if_neg d4, decide_eq_true d5, decide_eq_true (show c ≤ 10 by omega)]; rfl)
      · refine ra_icmp_ne (q := 188) A d_Mo_oneFrame_162 (by decide) (fun _ => ?_) (fun cc => absurd cc (fun z => d5 ((nI_eq (b := 2) (by omega) (by decide)).mp z)))
        exact bad5 (fun z => by have z := z.1.2.2; unfold suC at z; rw [if_neg d4, decide_eq_false d5, Bool.and_false] at z; cases z)
  rw [f1.2.1 34 (by decide), a34]
  by_cases cf : frm = 0
  · refine ra_if_ne (q := 43) A d_Mo_oneFrame_34 (by decide) (fun cc => absurd ((by rw [cf]; rfl)) cc) (fun _ => ?_)
    refine ra_iload_n A d_Mo_oneFrame_37 rfl <| ra_iconst A 1 d_Mo_oneFrame_38 (by decide) <| ra_iand A d_Mo_oneFrame_39 <| ?_
    rw [pk_andN (k := 1) (by omega) (by decide), show lead % 2 ^ 1 = lead % 2 from rfl]
    refine ra_goto (q := 47) A d_Mo_oneFrame_40 (by decide) <| ra_putI (ty := .int) A f_Mo_416 rfl rfl (by decide +kernel) rfl rfl d_Mo_oneFrame_47 (Nat.le_of_ble_eq_true rfl) rfl rfl <| ?_
    exact at50 _ (Nat.mod_lt _ (by decide)) ⟨fun _ => rfl, fun _ => Or.inl cf⟩
  · refine ra_if_ne (q := 43) A d_Mo_oneFrame_34 (by decide) (fun _ => ?_) (fun cc => absurd cc (nI_ne0 (by omega) (by omega)))
    refine ra_aload_n A d_Mo_oneFrame_43 rfl <| ra_getI A f_Mo_416 d_Mo_oneFrame_44 (Nat.le_of_ble_eq_true rfl) rfl rfl <| ?_
    rw [f1.2.1 36 (by decide), (a36 cf).1]
    refine ra_putI (ty := .int) A f_Mo_416 rfl rfl (by decide +kernel) rfl rfl d_Mo_oneFrame_47 (Nat.le_of_ble_eq_true rfl) rfl rfl <| ?_
    exact at50 way (a36 cf).2 ⟨fun z => z.elim (fun z => absurd z cf) (fun z => z.symm), fun z => Or.inr z.symm⟩
end S9i
