/-! SoundStream$Rests: writePart, write; the bits of rests -/
theorem bitsL_z : ∀ n, bitsL n 0 = List.replicate n false := by
  intro n
  induction n with
  | zero => rfl
  | succ n ih =>
    rw [bitsL, ih, List.replicate_succ]
    congr 1
    unfold lb
    have : (0 : Int64) >>> ((nI n).toInt64 &&& 63) = 0 := by simp
    rw [this]
    decide
theorem bitsL_1 : bitsL 1 1 = [true] := by decide
/-- a rest's bits -/
def rbits (r : Nat → Int32) (k n i : Nat) : List Bool := if k = 15 then bitsL n (r i).toInt64 else List.replicate (fdN (r i) / 2 ^ k) false ++ [true] ++ bitsL k (lN (fdN (r i)))
def pb (r : Nat → Int32) (k n a : Nat) : Nat → List Bool
  | 0 => []
  | m + 1 => pb r k n a m ++ rbits r k n (a + m)
def phead (k n : Nat) : List Bool := bitsL 4 (lN k) ++ (if k = 15 then bitsL 5 (lN n) else [])
def partbits (r : Nat → Int32) (k n a m : Nat) : List Bool := phead k n ++ pb r k n a m
theorem pb_mono {r : Nat → Int32} {k n a : Nat} : ∀ {m m' : Nat}, m ≤ m' → (pb r k n a m).length ≤ (pb r k n a m').length := by
  intro m m' h
  obtain ⟨d, rfl⟩ : ∃ d, m' = m + d := ⟨m' - m, by omega⟩
  clear h
  induction d with
  | zero => exact Nat.le_refl _
  | succ d ih => rw [← Nat.add_assoc, pb, List.length_append]; omega
theorem rbits_len {r : Nat → Int32} {k n i : Nat} : (rbits r k n i).length = if k = 15 then n else fdN (r i) / 2 ^ k + 1 + k := by
  unfold rbits
  split
  · rw [bitsL_len]
  · rw [List.length_append, List.length_append, List.length_replicate, bitsL_len]; rfl
theorem pb_len {r : Nat → Int32} {k n a : Nat} : ∀ m, (pb r k n a m).length = if k = 15 then n * m else (k + 1) * m + zs (fun i => fdN (r i)) k a m
  | 0 => by simp [pb, zs]
  | m + 1 => by
    rw [pb, List.length_append, pb_len m, rbits_len]
    split
    · rw [Nat.mul_succ]
    · rw [zs, Nat.mul_succ]; omega
theorem partbits_len {r : Nat → Int32} {k a m : Nat} : (partbits r k (bln (us (fun i => fdN (r i)) a m)) a m).length = pcost (fun i => fdN (r i)) a m k := by
  unfold partbits phead pcost
  rw [List.length_append, List.length_append, pb_len, bitsL_len]
  split
  · rw [bitsL_len]
  · simp; omega
section S70
variable {u : xu_T} {l : Launch} {KK : State → Prop} {h : xw_H} {X : xc_R → xw_H → Nat → Nat → Prop}
theorem WB.fr {S : List Nat} {h h' : xw_H} {B : List Bool} (W : WB h B) (f : fr S h h') (h1 : 6 ∉ S) (h2 : 7 ∉ S) (h3 : 87 ∉ S) : WB h' B := by
  unfold WB
  rw [(f 6 h1).1, (f 7 h2).1, (f 87 h3).1]
  exact W
theorem s_Re_writePart (K : xk_ok u KK) {k n a m : Nat} {r : Nat → Int32} {B : List Bool} (hk : k ≤ 15) (hn : n ≤ 31) (ham : a + m ≤ 1024) (ek : h.1 88 5 = nI k) (en : h.1 88 6 = nI n) (hr : ∀ i, a ≤ i → i < a + m → h.1 89 i = r i ∧ -2 ^ 28 ≤ (r i).toInt ∧ (r i).toInt ≤ 2 ^ 28) (W : WB h B) (hroom : B.length + (partbits r k n a m).length ≤ 72000)
    (hX : ∀ h', fr [6, 7, 87] h h' → WB h' (B ++ partbits r k n a m) → X (.inl none) h' 0 0) : xm_M l (y0 u) KK m_Re_writePart [.ref 88, .ref 87, .int (nI a), .int (nI (a + m))] h X := by
  refine xm_of [none, none] (by simp) (Nat.le_of_ble_eq_true rfl) (by decide) (fun x at0 => ?_)
  have A := xa_of at0 K
  have ow := at0.2.2.2.2.1
  have hl : (partbits r k n a m).length = (phead k n).length + (pb r k n a m).length := by unfold partbits; rw [List.length_append]
  have hlh : (phead k n).length = 4 + (if k = 15 then 5 else 0) := by
    unfold phead
    rw [List.length_append, bitsL_len]
    split
    · rw [bitsL_len]
    · rfl
  have k15 : nI k = 15 ↔ k = 15 := nI_eq (b := 15) (by omega) (by decide)
  refine ra_aload_n A d_Re_writePart_0 rfl <| ra_iconst A 4 d_Re_writePart_1 (by decide) <| ra_aload_n A d_Re_writePart_2 rfl <| ra_getI A f_Re_90 d_Re_writePart_3 (Nat.le_of_ble_eq_true rfl) rfl rfl <| ?_
  rw [ek]
  refine ra_i2l A d_Re_writePart_6 <| ?_
  rw [nI_l (by omega)]
  refine ra_callV (As := [_, _]) A ok_Wr_put l_Re_58 im_Wr_put sl_Wr_put d_Re_writePart_7 (Nat.le_of_ble_eq_true rfl) rfl rfl rfl (Nat.le_of_ble_eq_true rfl) (xr_of at0 (by decide)) (s_Wr_put K (n := 4) W (by omega) (fun g1 f1 W1 => ?_))
  show xg x (y0 u) 0 0 10 _ _ g1
  refine ra_aload_n A d_Re_writePart_10 rfl <| ra_getI A f_Re_90 d_Re_writePart_11 (Nat.le_of_ble_eq_true rfl) rfl rfl <| ?_
  rw [(f1 88 (by decide)).1, ek]
  have loop : ∀ g, fr [6, 7, 87] h g → WB g (B ++ phead k n) → xg x (y0 u) 0 0 29 [some (.ref 88), some (.ref 87), some (.int (nI a)), some (.int (nI (a + m))), none, none] [] g := by
    intro g0 f0 W0
    refine ra_iload_n A d_Re_writePart_29 rfl <| ra_istore (L' := [_, _, _, _, _, _]) A d_Re_writePart_30 (by decide) rfl <| ?_
    rw [show a = a + 0 from rfl]
    refine lp_up (σ := xw_H × Option Value) (W := fun j s => xg x (y0 u) 0 0 32 [some (.ref 88), some (.ref 87), some (.int (nI (a + 0))), some (.int (nI (a + 0 + m))), some (.int (nI (a + j))), s.2] [] s.1) (I := fun j s => fr [6, 7, 87] h s.1 ∧ WB s.1 (B ++ phead k n ++ pb r k n a j)) m ?_ ?_ 0 (g0, none) (Nat.zero_le _) ⟨f0, by simpa [pb] using W0⟩
    · rintro ⟨g, w⟩ ⟨hf, hW⟩
      dsimp only at hf hW ⊢
      refine ra_iload A d_Re_writePart_32 rfl <| ra_iload_n A d_Re_writePart_34 rfl <| ?_
      refine ra_icmp_ge (q := 113) A d_Re_writePart_35 (by decide) (fun _ => ?_) (fun cc => absurd (Int32.le_refl _) cc)
      refine ra_vret A ow d_Re_writePart_113 (hX g hf ?_)
      unfold partbits
      rw [← List.append_assoc]
      exact hW
    · rintro j ⟨g, w⟩ hj ⟨hf, hW⟩ ih
      dsimp only at hf hW ⊢
      obtain ⟨r1, r2⟩ := hr (a + j) (by omega) (by omega)
      have hmono : (pb r k n a (j + 1)).length ≤ (pb r k n a m).length := pb_mono hj
      rw [pb, List.length_append, rbits_len] at hmono
      have hC : (B ++ phead k n ++ pb r k n a j).length = B.length + (phead k n).length + (pb r k n a j).length := by rw [List.length_append, List.length_append]
      rw [pb, ← List.append_assoc] at ih
      generalize hCC : B ++ phead k n ++ pb r k n a j = C at hW hC ih
      have e88 : g.1 88 = h.1 88 := (hf 88 (by decide)).1
      have e89 : g.1 89 = h.1 89 := (hf 89 (by decide)).1
      refine ra_iload A d_Re_writePart_32 rfl <| ra_iload_n A d_Re_writePart_34 rfl <| ?_
      refine ra_icmp_ge (q := 113) A d_Re_writePart_35 (by decide) (fun cc => absurd cc (nI_ge (show a + j < a + 0 + m by omega) (by omega))) (fun _ => ?_)
      refine ra_aload_n A d_Re_writePart_38 rfl <| ra_getI A f_Re_90 d_Re_writePart_39 (Nat.le_of_ble_eq_true rfl) rfl rfl <| ?_
      rw [e88, ek]
      refine ra_bipush A 15 d_Re_writePart_42 (by decide) <| ?_
      by_cases c : k = 15
      · rw [if_pos c] at hmono
        refine ra_icmp_ne (q := 66) A d_Re_writePart_44 (by decide) (fun cc => absurd (k15.mpr c) cc) (fun _ => ?_)
        refine ra_aload_n A d_Re_writePart_47 rfl <| ra_aload_n A d_Re_writePart_48 rfl <| ra_getI A f_Re_98 d_Re_writePart_49 (Nat.le_of_ble_eq_true rfl) rfl rfl <| ra_aload_n A d_Re_writePart_52 rfl <| ra_getR A f_Re_9 d_Re_writePart_53 (Nat.le_of_ble_eq_true rfl) rfl rfl rfl <| ra_iload A d_Re_writePart_56 rfl <| ?_
        rw [e88, en]
        refine ra_iaload A d_Re_writePart_58 (Nat.le_of_ble_eq_true rfl) rfl (vp_in_nI (by omega) (by decide)) ?_
        rw [nI_clamp (by omega), e89, r1]
        refine ra_i2l A d_Re_writePart_59 <| ?_
        refine ra_callV (As := [_, _]) A ok_Wr_put l_Re_58 im_Wr_put sl_Wr_put d_Re_writePart_60 (Nat.le_of_ble_eq_true rfl) rfl rfl rfl (Nat.le_of_ble_eq_true rfl) (xr_of at0 (by decide)) (s_Wr_put K (n := n) hW (by omega) (fun g2 f2 W2 => ?_))
        show xg x (y0 u) 0 0 63 _ _ g2
        refine ra_goto (q := 107) A d_Re_writePart_63 (by decide) <| ra_iinc (L' := [_, _, _, _, _, _]) A 1 d_Re_writePart_107 rfl (by decide) (by decide) rfl <| ra_goto (q := 32) A d_Re_writePart_110 (by decide) <| ?_
        rw [nI_1]
        refine ih (g2, _) ⟨hf.trans f2, ?_⟩
        unfold rbits
        rw [if_pos c]
        exact W2
      · rw [if_neg c] at hmono
        refine ra_icmp_ne (q := 66) A d_Re_writePart_44 (by decide) (fun _ => ?_) (fun cc => absurd cc (fun z => c (k15.mp z)))
        refine ra_aload_n A d_Re_writePart_66 rfl <| ra_getR A f_Re_9 d_Re_writePart_67 (Nat.le_of_ble_eq_true rfl) rfl rfl rfl <| ra_iload A d_Re_writePart_70 rfl <| ?_
        refine ra_iaload A d_Re_writePart_72 (Nat.le_of_ble_eq_true rfl) rfl (vp_in_nI (by omega) (by decide)) ?_
        rw [nI_clamp (by omega), e89, r1]
        have hfd := fdN_lt r2
        refine ra_callS (As := [_]) A ok_Re_fold l_Re_78 st_Re_fold d_Re_writePart_73 rfl (Nat.le_of_ble_eq_true rfl) (xr_of at0 (by decide)) (s_Re_fold K (by omega) ?_)
        show xg x (y0 u) 0 0 76 _ _ g
        refine ra_istore (L' := [_, _, _, _, _, _]) A d_Re_writePart_76 (by decide) rfl <| ra_aload_n A d_Re_writePart_78 rfl <| ra_iload A d_Re_writePart_79 rfl <| ra_aload_n A d_Re_writePart_81 rfl <| ra_getI A f_Re_90 d_Re_writePart_82 (Nat.le_of_ble_eq_true rfl) rfl rfl <| ?_
        rw [e88, ek]
        refine ra_ishr A d_Re_writePart_85 <| ra_lconst A 0 d_Re_writePart_86 (by decide) <| ?_
        rw [shrN (by omega) (by omega)]
        refine ra_callV (As := [_, _]) A ok_Wr_put l_Re_58 im_Wr_put sl_Wr_put d_Re_writePart_87 (Nat.le_of_ble_eq_true rfl) rfl rfl rfl (Nat.le_of_ble_eq_true rfl) (xr_of at0 (by decide)) (s_Wr_put K (n := fdN (r (a + j)) / 2 ^ k) hW (by omega) (fun g2 f2 W2 => ?_))
        show xg x (y0 u) 0 0 90 _ _ g2
        rw [bitsL_z] at W2
        refine ra_aload_n A d_Re_writePart_90 rfl <| ra_iconst A 1 d_Re_writePart_91 (by decide) <| ra_lconst A 1 d_Re_writePart_92 (by decide) <| ?_
        refine ra_callV (As := [_, _]) A ok_Wr_put l_Re_58 im_Wr_put sl_Wr_put d_Re_writePart_93 (Nat.le_of_ble_eq_true rfl) rfl rfl rfl (Nat.le_of_ble_eq_true rfl) (xr_of at0 (by decide)) (s_Wr_put K (n := 1) W2 (by rw [List.length_append, List.length_replicate]; omega) (fun g3 f3 W3 => ?_))
        show xg x (y0 u) 0 0 96 _ _ g3
        rw [bitsL_1] at W3
        refine ra_aload_n A d_Re_writePart_96 rfl <| ra_aload_n A d_Re_writePart_97 rfl <| ra_getI A f_Re_90 d_Re_writePart_98 (Nat.le_of_ble_eq_true rfl) rfl rfl <| ?_
        rw [((f2.trans f3) 88 (by decide)).1, e88, ek]
        refine ra_iload A d_Re_writePart_101 rfl <| ra_i2l A d_Re_writePart_103 <| ?_
        rw [nI_l (by omega)]
        refine ra_callV (As := [_, _]) A ok_Wr_put l_Re_58 im_Wr_put sl_Wr_put d_Re_writePart_104 (Nat.le_of_ble_eq_true rfl) rfl rfl rfl (Nat.le_of_ble_eq_true rfl) (xr_of at0 (by decide)) (s_Wr_put K (n := k) W3 (by rw [List.length_append, List.length_append, List.length_replicate, List.length_singleton]; omega) (fun g4 f4 W4 => ?_))
        show xg x (y0 u) 0 0 107 _ _ g4
        refine ra_iinc (L' := [_, _, _, _, _, _]) A 1 d_Re_writePart_107 rfl (by decide) (by decide) rfl <| ra_goto (q := 32) A d_Re_writePart_110 (by decide) <| ?_
        rw [nI_1]
        refine ih (g4, _) ⟨((hf.trans f2).trans f3).trans f4, ?_⟩
        unfold rbits
        rw [if_neg c, ← List.append_assoc, ← List.append_assoc]
        exact W4
  by_cases c : k = 15
  · refine ra_bipush A 15 d_Re_writePart_14 (by decide) <| ?_
    refine ra_icmp_ne (q := 29) A d_Re_writePart_16 (by decide) (fun cc => absurd (k15.mpr c) cc) (fun _ => ?_)
    refine ra_aload_n A d_Re_writePart_19 rfl <| ra_iconst A 5 d_Re_writePart_20 (by decide) <| ra_aload_n A d_Re_writePart_21 rfl <| ra_getI A f_Re_98 d_Re_writePart_22 (Nat.le_of_ble_eq_true rfl) rfl rfl <| ?_
    rw [(f1 88 (by decide)).1, en]
    refine ra_i2l A d_Re_writePart_25 <| ?_
    rw [nI_l (by omega)]
    refine ra_callV (As := [_, _]) A ok_Wr_put l_Re_58 im_Wr_put sl_Wr_put d_Re_writePart_26 (Nat.le_of_ble_eq_true rfl) rfl rfl rfl (Nat.le_of_ble_eq_true rfl) (xr_of at0 (by decide)) (s_Wr_put K (n := 5) W1 (by rw [List.length_append, bitsL_len]; rw [if_pos c] at hlh; omega) (fun g2 f2 W2 => ?_))
    show xg x (y0 u) 0 0 29 _ _ g2
    refine loop g2 (f1.trans f2) ?_
    unfold phead
    rw [if_pos c, ← List.append_assoc]
    exact W2
  · refine ra_bipush A 15 d_Re_writePart_14 (by decide) <| ?_
    refine ra_icmp_ne (q := 29) A d_Re_writePart_16 (by decide) (fun _ => ?_) (fun cc => absurd cc (fun z => c (k15.mp z)))
    refine loop g1 f1 ?_
    unfold phead
    rw [if_neg c, List.append_nil]
    exact W1
/-- what a subframe's writing may change -/
def WL : List Nat := 6 :: 7 :: 87 :: 88 :: 89 :: ZL
def wparts (r : Nat → Int32) (o e : Nat) : Nat → List Bool
  | 0 => []
  | p + 1 => wparts r o e p ++ partbits r (pk (fun i => fdN (r i)) (pA o e p) (pM o e p)) (bln (us (fun i => fdN (r i)) (pA o e p) (pM o e p))) (pA o e p) (pM o e p)
def restbits (r : Nat → Int32) (o n q : Nat) : List Bool := bitsL 2 0 ++ bitsL 4 (lN q) ++ wparts r o (n / 2 ^ q) (2 ^ q)
theorem wparts_len {r : Nat → Int32} {o e : Nat} : ∀ p, (wparts r o e p).length + 6 = rsum (fun i => fdN (r i)) o e p
  | 0 => rfl
  | p + 1 => by
    rw [wparts, List.length_append, partbits_len, rsum, ← wparts_len p]
    unfold pmin
    omega
theorem restbits_len {r : Nat → Int32} {o n q : Nat} : (restbits r o n q).length = rcost (fun i => fdN (r i)) o n q := by
  unfold restbits rcost
  rw [List.length_append, List.length_append, bitsL_len, bitsL_len, ← wparts_len]
  omega
theorem wparts_mono {r : Nat → Int32} {o e p p' : Nat} (h : p ≤ p') : (wparts r o e p).length ≤ (wparts r o e p').length := by
  obtain ⟨d, rfl⟩ : ∃ d, p' = p + d := ⟨p' - p, by omega⟩
  clear h
  induction d with
  | zero => exact Nat.le_refl _
  | succ d ih => rw [← Nat.add_assoc, wparts, List.length_append]; omega
theorem s_Re_write (K : xk_ok u KK) {n o q : Nat} {r : Nat → Int32} {B : List Bool} (hn : n ≤ 1024) (hq : q ≤ 5) (hfit : pfit o n q) (R : RS h n o r) (hr : ∀ i, o ≤ i → i < n → -2 ^ 28 ≤ (r i).toInt ∧ (r i).toInt ≤ 2 ^ 28) (W : WB h B) (hroom : B.length + (restbits r o n q).length ≤ 72000)
    (hX : ∀ h', fr WL h h' → WB h' (B ++ restbits r o n q) → X (.inl none) h' 0 0) : xm_M l (y0 u) KK m_Re_write [.ref 88, .ref 87, .int (nI q)] h X := by
  refine xm_of [none, none, none, none] (by simp) (Nat.le_of_ble_eq_true rfl) (by decide) (fun x at0 => ?_)
  have A := xa_of at0 K
  have ow := at0.2.2.2.2.1
  have hP : 2 ^ q ≤ 32 := Nat.pow_le_pow_right (n := 2) (by decide) hq
  have hfd : ∀ i, o ≤ i → i < n → fdN (r i) < 2 ^ 30 := by
    intro i h1 h2
    have := fdN_lt (hr i h1 h2)
    omega
  have hrl : (restbits r o n q).length = 6 + (wparts r o (n / 2 ^ q) (2 ^ q)).length := by
    unfold restbits
    rw [List.length_append, List.length_append, bitsL_len, bitsL_len]
  refine ra_aload_n A d_Re_write_0 rfl <| ra_iload_n A d_Re_write_1 rfl <| ?_
  refine ra_callV (As := [_]) A ok_Re_collect l_Re_40 im_Re_collect sl_Re_collect d_Re_write_2 (Nat.le_of_ble_eq_true rfl) rfl rfl rfl (Nat.le_of_ble_eq_true rfl) (xr_of at0 (by decide)) (s_Re_collect K hn hq hfit R (fun i h1 h2 => by have := hr i h1 h2; omega) (fun g0 f0 z0 => ?_))
  show xg x (y0 u) 0 0 5 _ _ g0
  refine ra_aload_n A d_Re_write_5 rfl <| ra_iconst A 2 d_Re_write_6 (by decide) <| ra_lconst A 0 d_Re_write_7 (by decide) <| ?_
  refine ra_callV (As := [_, _]) A ok_Wr_put l_Re_58 im_Wr_put sl_Wr_put d_Re_write_8 (Nat.le_of_ble_eq_true rfl) rfl rfl rfl (Nat.le_of_ble_eq_true rfl) (xr_of at0 (by decide)) (s_Wr_put K (n := 2) (W.fr f0 (by decide) (by decide) (by decide)) (by omega) (fun g1 f1 W1 => ?_))
  show xg x (y0 u) 0 0 11 _ _ g1
  refine ra_aload_n A d_Re_write_11 rfl <| ra_iconst A 4 d_Re_write_12 (by decide) <| ra_iload_n A d_Re_write_13 rfl <| ra_i2l A d_Re_write_14 <| ?_
  rw [nI_l (by omega)]
  refine ra_callV (As := [_, _]) A ok_Wr_put l_Re_58 im_Wr_put sl_Wr_put d_Re_write_15 (Nat.le_of_ble_eq_true rfl) rfl rfl rfl (Nat.le_of_ble_eq_true rfl) (xr_of at0 (by decide)) (s_Wr_put K (n := 4) W1 (by rw [List.length_append, bitsL_len]; omega) (fun g2 f2 W2 => ?_))
  show xg x (y0 u) 0 0 18 _ _ g2
  have f12 := f1.trans f2
  have e88 : g2.1 88 = h.1 88 := ((f12 88 (by decide)).1).trans (f0 88 (by decide)).1
  have Rg : RQ g2 n o q (fun i => fdN (r i)) := ⟨hn, hq, hfit, by rw [e88]; exact R.1, by rw [e88]; exact R.2.1, hfd, z0.congr (fun p hp => ⟨(f12 (91 + p) (by simp; omega)).2, by rw [(f12 123 (by decide)).1]⟩)⟩
  have fg : fr WL h g2 := (f0.mono (by decide)).trans (f12.mono (by decide))
  have e89 : g2.1 89 = h.1 89 := ((f12 89 (by decide)).1).trans (f0 89 (by decide)).1
  refine ra_aload_n A d_Re_write_18 rfl <| ra_getI A f_Re_29 d_Re_write_19 (Nat.le_of_ble_eq_true rfl) rfl rfl <| ?_
  rw [e88, R.1]
  refine ra_iload_n A d_Re_write_22 rfl <| ra_ishr A d_Re_write_23 <| ?_
  rw [shrN (by omega) (by omega)]
  refine ra_istore_n (L' := [_, _, _, _, _, _, _]) A d_Re_write_24 (by decide) rfl <| ra_aload_n A d_Re_write_25 rfl <| ra_getI A f_Re_33 d_Re_write_26 (Nat.le_of_ble_eq_true rfl) rfl rfl <| ?_
  rw [e88, R.2.1]
  refine ra_istore (L' := [_, _, _, _, _, _, _]) A d_Re_write_29 (by decide) rfl <| ra_iconst A 0 d_Re_write_31 (by decide) <| ra_istore (L' := [_, _, _, _, _, _, _]) A d_Re_write_32 (by decide) rfl <| ?_
  have hPe := Rg.Pe
  have hoe := hfit.2
  refine lp_up (σ := xw_H × Option Value) (W := fun p s => xg x (y0 u) 0 0 34 [some (.ref 88), some (.ref 87), some (.int (nI q)), some (.int (nI (n / 2 ^ q))), some (.int (nI (pA o (n / 2 ^ q) p))), some (.int (nI p)), s.2] [] s.1) (I := fun p s => fr WL h s.1 ∧ RQ s.1 n o q (fun i => fdN (r i)) ∧ s.1.1 89 = h.1 89 ∧ WB s.1 (B ++ bitsL 2 0 ++ bitsL 4 (lN q) ++ wparts r o (n / 2 ^ q) p)) (2 ^ q) ?_ ?_ 0 (g2, none) (Nat.zero_le _) ⟨fg, Rg, e89, by simpa [wparts] using W2⟩
  · rintro ⟨g, w⟩ ⟨hf, -, -, hW⟩
    dsimp only at hf hW ⊢
    refine ra_iload A d_Re_write_34 rfl <| ra_iconst A 1 d_Re_write_36 (by decide) <| ra_iload_n A d_Re_write_37 rfl <| ra_ishl A d_Re_write_38 <| ?_
    rw [shl1 (by omega)]
    refine ra_icmp_ge (q := 81) A d_Re_write_39 (by decide) (fun _ => ?_) (fun cc => absurd (Int32.le_refl _) cc)
    refine ra_vret A ow d_Re_write_81 (hX g hf ?_)
    unfold restbits
    rw [← List.append_assoc, ← List.append_assoc]
    exact hW
  · rintro p ⟨g, w⟩ hp ⟨hf, hR, hr9, hW⟩ ih
    dsimp only at hf hR hr9 hW ⊢
    have hmono := wparts_mono (r := r) (o := o) (e := n / 2 ^ q) (show p + 1 ≤ 2 ^ q from hp)
    rw [wparts, List.length_append] at hmono
    have hC : (B ++ bitsL 2 0 ++ bitsL 4 (lN q) ++ wparts r o (n / 2 ^ q) p).length = B.length + 6 + (wparts r o (n / 2 ^ q) p).length := by
      rw [List.length_append, List.length_append, List.length_append, bitsL_len, bitsL_len]
    rw [wparts, ← List.append_assoc] at ih
    generalize B ++ bitsL 2 0 ++ bitsL 4 (lN q) ++ wparts r o (n / 2 ^ q) p = C at hW hC ih
    have hAM := pAM (p := p) (Nat.le_of_lt hoe)
    have hle : (p + 1) * (n / 2 ^ q) ≤ 2 ^ q * (n / 2 ^ q) := Nat.mul_le_mul_right _ hp
    have hoA : o ≤ pA o (n / 2 ^ q) p := by
      unfold pA
      split
      · exact Nat.le_refl _
      · have : 1 * (n / 2 ^ q) ≤ p * (n / 2 ^ q) := Nat.mul_le_mul_right _ (by omega)
        omega
    have hrr : ∀ i, pA o (n / 2 ^ q) p ≤ i → i < pA o (n / 2 ^ q) p + pM o (n / 2 ^ q) p → g.1 89 i = r i ∧ -2 ^ 28 ≤ (r i).toInt ∧ (r i).toInt ≤ 2 ^ 28 := fun i h1 h2 => ⟨by rw [hr9]; exact R.2.2 i (by omega) (by omega), hr i (by omega) (by omega)⟩
    have hus : us (fun i => fdN (r i)) (pA o (n / 2 ^ q) p) (pM o (n / 2 ^ q) p) < 2 ^ 30 := us_lt2 _ (fun i h1 h2 => hfd i (by omega) (by omega))
    refine ra_iload A d_Re_write_34 rfl <| ra_iconst A 1 d_Re_write_36 (by decide) <| ra_iload_n A d_Re_write_37 rfl <| ra_ishl A d_Re_write_38 <| ?_
    rw [shl1 (by omega)]
    refine ra_icmp_ge (q := 81) A d_Re_write_39 (by decide) (fun cc => absurd cc (nI_ge hp (by omega))) (fun _ => ?_)
    refine ra_iload A d_Re_write_42 rfl <| ra_iconst A 1 d_Re_write_44 (by decide) <| ra_iadd A d_Re_write_45 <| ra_iload_n A d_Re_write_46 rfl <| ra_imul A d_Re_write_47 <| ?_
    rw [nI_1, pk_mul, ← hAM]
    refine ra_istore (L' := [_, _, _, _, _, _, _]) A d_Re_write_48 (by decide) rfl <| ra_aload_n A d_Re_write_50 rfl <| ra_iload A d_Re_write_51 rfl <| ra_iload A d_Re_write_53 rfl <| ra_iload A d_Re_write_55 rfl <| ra_isub A d_Re_write_57 <| ?_
    rw [pk_sub (show pA o (n / 2 ^ q) p ≤ pA o (n / 2 ^ q) p + pM o (n / 2 ^ q) p by omega), show pA o (n / 2 ^ q) p + pM o (n / 2 ^ q) p - pA o (n / 2 ^ q) p = pM o (n / 2 ^ q) p by omega]
    refine ra_callV (As := [_, _]) A ok_Re_bitsOf l_Re_64 im_Re_bitsOf sl_Re_bitsOf d_Re_write_58 (Nat.le_of_ble_eq_true rfl) rfl rfl rfl (Nat.le_of_ble_eq_true rfl) (xr_of at0 (by decide)) (s_Re_part K hR hp (fun g3 f3 k3 n3 => ?_))
    show xg x (y0 u) 0 0 61 _ _ g3
    have hk15 : pk (fun i => fdN (r i)) (pA o (n / 2 ^ q) p) (pM o (n / 2 ^ q) p) ≤ 15 := (amin_LM _ 15).1
    have W3 : WB g3 C := by
      unfold WB
      rw [f3.1 6 (by decide), f3.1 7 (by decide), f3.1 87 (by decide)]
      exact hW
    refine ra_pop2 A d_Re_write_61 rfl <| ra_aload_n A d_Re_write_62 rfl <| ra_aload_n A d_Re_write_63 rfl <| ra_iload A d_Re_write_64 rfl <| ra_iload A d_Re_write_66 rfl <| ?_
    refine ra_callV (As := [_, _, _]) A ok_Re_writePart l_Re_68 im_Re_writePart sl_Re_writePart d_Re_write_68 (Nat.le_of_ble_eq_true rfl) rfl rfl rfl (Nat.le_of_ble_eq_true rfl) (xr_of at0 (by decide)) (s_Re_writePart K hk15 (by have := bln_le hus; omega) (by omega) k3 n3 (fun i h1 h2 => by rw [f3.1 89 (by decide)]; exact hrr i h1 h2) W3 (by omega) (fun g4 f4 W4 => ?_))
    show xg x (y0 u) 0 0 71 _ _ g4
    refine ra_iload A d_Re_write_71 rfl <| ra_istore (L' := [_, _, _, _, _, _, _]) A d_Re_write_73 (by decide) rfl <| ra_iinc (L' := [_, _, _, _, _, _, _]) A 1 d_Re_write_75 rfl (by decide) (by decide) rfl <| ra_goto (q := 34) A d_Re_write_78 (by decide) <| ?_
    rw [nI_1, hAM, ← pA_succ (o := o)]
    refine ih (g4, _) ⟨(hf.trans (fun k hk => ⟨f3.1 k (fun q => hk (q ▸ by decide)), by rw [f3.2.2]⟩)).trans (f4.mono (by decide)), ?_, ?_, W4⟩
    · have R3 := hR.f1 f3 (by decide) (by decide)
      refine ⟨hn, hq, hfit, by rw [(f4 88 (by decide)).1]; exact R3.size, by rw [(f4 88 (by decide)).1]; exact R3.order, hfd, R3.zc.congr (fun p hp => ⟨(f4 (91 + p) (by simp; omega)).2, by rw [(f4 123 (by decide)).1]⟩)⟩
    · dsimp only
      rw [(f4 89 (by decide)).1, f3.1 89 (by decide)]
      exact hr9
end S70
