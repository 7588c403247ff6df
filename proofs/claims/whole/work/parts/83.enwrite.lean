/-! SoundStream$Encoder: write; SoundStream: encode -/
/-- what encoding may change -/
def FL : List Nat := [6, 7, 8, 9, 10, 87] ++ List.range' 12 75 ++ EL
theorem FL_in : ∀ k, k < 75 → 12 + k ∈ FL := by decide
/-- the form and the rows -/
def EC (h : xw_H) (C D b r N : Nat) (s0 s1 : Nat → Int32) : Prop := (h.1 1 0 = nI C ∧ h.1 1 1 = nI D ∧ h.1 1 2 = nI b ∧ h.1 1 3 = nI r ∧ h.1 5 0 = nI N) ∧ (∀ i, i < 1200 → h.1 3 i = s0 i) ∧ (∀ i, i < 1200 → h.1 4 i = s1 i)
def EB (C D b r N : Nat) (s0 s1 : Nat → Int32) : Prop := (1 ≤ C ∧ C ≤ 2 ∧ 4 ≤ D ∧ D ≤ 24 ∧ 16 ≤ b ∧ b ≤ 1024 ∧ r < 2 ^ 31 ∧ N ≤ 1200) ∧ inD s0 N D ∧ (C ≠ 1 → inD s1 N D)
theorem EC.fr {h g : xw_H} {C D b r N : Nat} {s0 s1 : Nat → Int32} {T : List Nat} (x : EC h C D b r N s0 s1) (f : fr T h g) (h1 : 1 ∉ T) (h3 : 3 ∉ T) (h4 : 4 ∉ T) (h5 : 5 ∉ T) : EC g C D b r N s0 s1 := by
  unfold EC
  rw [fr1 f h1, fr1 f h3, fr1 f h4, fr1 f h5]
  exact x
theorem info_split {b lo hi r C D N : Nat} {L0 L1 : Int64} {F : List Bool} : info b lo hi r C D N L0 L1 ++ F = (info0 ++ bitsL 16 (lN b) ++ bitsL 16 (lN b)) ++ bitsL 24 (lN lo) ++ bitsL 24 (lN hi) ++ (bitsL 20 (lN r) ++ bitsL 3 (lN (C - 1)) ++ bitsL 5 (lN (D - 1)) ++ bitsL 36 (lN N) ++ sumbits L0 L1 16 ++ F) := by
  unfold info
  simp only [List.append_assoc]
/-- the notes of frame j -/
def ntf (s0 s1 : Nat → Int32) (C D b N : Nat) (v : Bool) (j : Nat) : List Int32 := ntl (sg s0 s1 (j * b)) (fsz N b j) D (fc C (sg s0 s1 (j * b)) (fsz N b j) D) (42 + (frms s0 s1 C D b N v j).length / 8) (fby s0 s1 C D b N v j)
/-- the stream of the rows -/
def est (s0 s1 : Nat → Int32) (C D b r N : Nat) (v : Bool) : List Bool := info b (minF (fby s0 s1 C D b N v) (fN N b)) (maxF (fby s0 s1 C D b N v) (fN N b)) r C D N (sml C D N s0 s1 0) (sml C D N s0 s1 1) ++ frms s0 s1 C D b N v (fN N b)
theorem EB.sw {C D b r N : Nat} {s0 s1 : Nat → Int32} (x : EB C D b r N s0 s1) : ∀ k, k * b < N → sW (sg s0 s1 (k * b) 0) (fsz N b k) ≤ D ∧ (C ≠ 1 → sW (sg s0 s1 (k * b) 1) (fsz N b k) ≤ D) := by
  obtain ⟨⟨c1, c2, d1, d2, b1, b2, -, -⟩, h0, h1⟩ := x
  intro k hk
  have hz := fsz_b hk (by omega) b2
  refine ⟨?_, fun q => ?_⟩
  · have h : inD (sg s0 s1 (k * b) 0) (fsz N b k) D := sg_inD (w := 0) h0 (fun q => absurd rfl q) (by omega) d2 hz.2.2
    exact Nat.le_of_lt (h.w (by omega) (by omega))
  · have h : inD (sg s0 s1 (k * b) 1) (fsz N b k) D := sg_inD (w := 1) h0 (fun _ => h1 q) (by omega) d2 hz.2.2
    exact Nat.le_of_lt (h.w (by omega) (by omega))
theorem EB.len {C D b r N : Nat} {s0 s1 : Nat → Int32} {v : Bool} (x : EB C D b r N s0 s1) {k : Nat} (hk : k ≤ fN N b) : (frms s0 s1 C D b N v k).length ≤ 66000 := by
  have h := frms_le (v := v) x.1.2.2.2.2.1 x.1.2.2.2.2.2.1 x.1.2.2.2.1 x.sw k hk
  have h1 := fN_le x.1.2.2.2.2.1 x.1.2.2.2.2.2.2.2
  have h2 := x.1.2.2.2.2.2.2.2
  omega
theorem EB.IA {C D b r N : Nat} {s0 s1 : Nat → Int32} (x : EB C D b r N s0 s1) {k c : Nat} (hk : k * b < N) (hc : C = 1 → c = 0) : IA (sg s0 s1 (k * b)) (fsz N b k) D c := by
  obtain ⟨⟨c1, c2, d1, d2, b1, b2, -, -⟩, h0, h1⟩ := x
  have hz := fsz_b hk (by omega) b2
  refine ⟨sg_inD (w := 0) h0 (fun q => absurd rfl q) (by omega) d2 hz.2.2, fun q => ?_⟩
  have h1 := h1 (fun z => q (hc z))
  exact ⟨sg_inD (w := 1) h0 (fun _ => h1) (by omega) d2 hz.2.2, sg_inD (w := 3) h0 (fun _ => h1) (by omega) d2 hz.2.2, sg_inD (w := 2) h0 (fun _ => h1) (by omega) d2 hz.2.2⟩
section S83
variable {u : xu_T} {l : Launch} {h : xw_H} {X : xc_R → xw_H → Nat → Nat → Prop}
theorem s_En_write {C D b r N : Nat} {s0 s1 : Nat → Int32} {v : Bool} (hE : EB C D b r N s0 s1) (hh : EC h C D b r N s0 s1) (w1 : h.1 87 1 = 0) (w2 : h.1 87 2 = 0)
    (hX : ∀ h', fr FL h h' → WB h' (est s0 s1 C D b r N v) → h'.1 10 9 = nI (fN N b) → (∀ j, j < fN N b → ∀ t, t < 9 → h'.1 (12 + j) t = (ntf s0 s1 C D b N v j).getD t 0) → X (.inl none) h' 0 0) : xm_M l (y0 u) (KK0 u) m_En_write [.ref 10, .int (bz v)] h X := by
  refine xm_of [none, none, none, none, none] (by simp) (Nat.le_of_ble_eq_true rfl) (by decide) (fun x at0 => ?_)
  have A := xa_of at0 (KK0_ok u)
  have K := KK0_ok u
  have ow := at0.2.2.2.2.1
  have i0 : vp_in (0 : Int32) 2 := vp_in_nI (n := 0) (by decide) (by decide)
  have hro : ((1 ≤ (xm_R x).frames ∧ 13 ≤ (xm_R x).locals) ∧ 0 ≤ (xm_R x).cells) ∧ 0 ≤ (xm_R x).slots := by
    rw [at0.2.2.2.2.2.2.1]
    decide
  obtain ⟨⟨c1, c2, d1, d2, b1, b2, r2, n2⟩, hD0, hD1⟩ := id hE
  have hfN := fN_le b1 n2
  refine ra_aload_n A d_En_write_0 rfl <| ra_getR A f_En_20 d_En_write_1 (Nat.le_of_ble_eq_true rfl) rfl rfl rfl <| ra_iconst A 0 d_En_write_4 (by decide) <| ra_putI (ty := .int) A f_En_58 rfl rfl (by decide +kernel) rfl rfl d_En_write_5 (Nat.le_of_ble_eq_true rfl) rfl rfl <| ra_aload_n A d_En_write_8 rfl <| ra_iconst A 0 d_En_write_9 (by decide) <| ra_putI (ty := .int) A f_En_64 rfl rfl (by decide +kernel) rfl rfl d_En_write_10 (Nat.le_of_ble_eq_true rfl) rfl rfl <| ?_
  have fa : fr FL h (xw_I (xw_I h 6 1 0) 10 9 0) := (fr_I (by decide)).I (by decide)
  have Wa : WB (xw_I (xw_I h 6 1 0) 10 9 0) [] := by
    refine ⟨?_, ?_, ⟨0, by decide, ?_, fun b hb => ?_⟩, fun j hj => ?_⟩
    · rw [xI_k (by decide), xI_e]; rfl
    · rw [xI_k (by decide), xI_k (by decide)]; exact w2
    · rw [xI_k (by decide), xI_k (by decide)]; exact w1
    · simp at hb
    · simp at hj
  have ha := hh.fr fa (by decide) (by decide) (by decide) (by decide)
  have ea : (xw_I (xw_I h 6 1 0) 10 9 0).1 10 9 = 0 := xI_e
  generalize xw_I (xw_I h 6 1 0) 10 9 0 = ga at fa Wa ha ea ⊢
  refine ra_aload_n A d_En_write_13 rfl <| ?_
  refine ra_callV (As := []) A ok_En_writeInformation l_En_67 im_En_writeInformation sl_En_writeInformation d_En_write_14 (Nat.le_of_ble_eq_true rfl) rfl rfl rfl (Nat.le_of_ble_eq_true rfl) (xr_of at0 (by decide)) (s_En_writeInformation (by omega) r2 c1 c2 (by omega) d2 n2 ha.1.1 ha.1.2.1 ha.1.2.2.1 ha.1.2.2.2.1 ha.1.2.2.2.2 ha.2.1 ha.2.2 Wa (fun gb fb Wb => ?_))
  show xg x (y0 u) 0 0 17 _ _ gb
  have hb := ha.fr fb (by decide) (by decide) (by decide) (by decide)
  have fb' : fr FL h gb := fa.trans (fb.mono (by decide))
  have eb : gb.1 10 9 = nI 0 := by rw [fr1 fb (by decide)]; exact ea
  have hil := info_len (b := b) (lo := 0) (hi := 0) (r := r) (C := C) (D := D) (N := N) (L0 := sml C D N s0 s1 0) (L1 := sml C D N s0 s1 1)
  refine ra_aload_n A d_En_write_17 rfl <| ra_getR A f_En_16 d_En_write_18 (Nat.le_of_ble_eq_true rfl) rfl rfl rfl <| ra_getR A f_En_70 d_En_write_21 (Nat.le_of_ble_eq_true rfl) rfl rfl rfl <| ra_iconst A 0 d_En_write_24 (by decide) <| ?_
  refine ra_iaload A d_En_write_25 (Nat.le_of_ble_eq_true rfl) rfl i0 ?_
  rw [show gb.1 5 (Int32.toNatClampNeg 0) = nI N from hb.1.2.2.2.2]
  refine ra_istore_n (L' := [_, _, _, _, _, _, _]) A d_En_write_26 (by decide) rfl <| ra_iconst A 0 d_En_write_27 (by decide) <| ra_istore_n (L' := [_, _, _, _, _, _, _]) A d_En_write_28 (by decide) rfl <| ?_
  rw [show (0 : Int32) = nI (0 * b) by rw [Nat.zero_mul]; rfl]
  refine lp_up (σ := xw_H) (W := fun k g => ∀ v4 v5 v6, xg x (y0 u) 0 0 29 [some (.ref 10), some (.int (bz v)), some (.int (nI N)), some (.int (nI (k * b))), v4, v5, v6] [] g) (I := fun k g => fr FL h g ∧ g.1 10 9 = nI k ∧ WB g (info b 0 0 r C D N (sml C D N s0 s1 0) (sml C D N s0 s1 1) ++ frms s0 s1 C D b N v k) ∧ ∀ j, j < k → ∀ t, t < 9 → g.1 (12 + j) t = (ntf s0 s1 C D b N v j).getD t 0) (fN N b) ?_ ?_ 0 gb (Nat.zero_le _) ⟨fb', eb, by simpa [frms] using Wb, fun j hj => by omega⟩ none none none
  · rintro g ⟨hf, hk, hW, hn⟩ v4 v5 v6
    have hge := fN_ge (k := fN N b) (by omega) (Nat.le_refl _)
    have hlt : fN N b * b ≤ 75 * 1024 := Nat.mul_le_mul hfN b2
    have hlen := hE.len (v := v) (Nat.le_refl _)
    refine ra_iload_n A d_En_write_29 rfl <| ra_iload_n A d_En_write_30 rfl <| ?_
    refine ra_icmp_ge (q := 146) A d_En_write_31 (by decide) (fun _ => ?_) (fun cc => absurd (nI_le hge (by omega)) cc)
    refine ra_aload_n A d_En_write_146 rfl <| ?_
    refine ra_callV (As := []) A ok_En_tellFrameSizes l_En_105 im_En_tellFrameSizes sl_En_tellFrameSizes d_En_write_147 (Nat.le_of_ble_eq_true rfl) rfl rfl rfl (Nat.le_of_ble_eq_true rfl) (xr_of at0 (by decide)) (s_En_tellFrameSizes K hfN hk (f := fby s0 s1 C D b N v) (fun j hj => ⟨hn j hj 1 (by decide), ?_⟩) hW (by rw [List.length_append, hil]; omega) (by rw [List.length_append, hil]; omega) (fun g2 f2 W2 => ?_))
    · have h1 : (frms s0 s1 C D b N v (j + 1)).length ≤ 66000 := hE.len hj
      rw [frms, List.length_append] at h1
      unfold fby
      omega
    · show xg x (y0 u) 0 0 150 _ _ g2
      rw [info_split, put2_3 (by unfold info0; simp only [List.length_append, bitsL_len]), ← info_split] at W2
      refine ra_vret A ow d_En_write_150 (hX g2 (hf.trans (f2.mono (by decide))) W2 (by rw [fr1 f2 (by decide)]; exact hk) (fun j hj t ht => ?_))
      rw [fr1 f2 (by simp; omega)]
      exact hn j hj t ht
  · rintro k g hk ⟨hf, ek, hW, hn⟩ ih v4 v5 v6
    have hkb := fN_k (by omega) hk
    have hz := fsz_b hkb (by omega) b2
    have hg := hh.fr hf (by decide) (by decide) (by decide) (by decide)
    have hlen := hE.len (v := v) (Nat.le_of_lt hk)
    have hlen1 : (frms s0 s1 C D b N v (k + 1)).length ≤ 66000 := hE.len hk
    have h8 := frms_8 (s0 := s0) (s1 := s1) (C := C) (D := D) (b := b) (N := N) (v := v) k
    have hBl : (info b 0 0 r C D N (sml C D N s0 s1 0) (sml C D N s0 s1 1) ++ frms s0 s1 C D b N v k).length = 336 + (frms s0 s1 C D b N v k).length := by rw [List.length_append, hil]
    refine ra_iload_n A d_En_write_29 rfl <| ra_iload_n A d_En_write_30 rfl <| ?_
    refine ra_icmp_ge (q := 146) A d_En_write_31 (by decide) (fun cc => absurd cc (nI_ge hkb (by omega))) (fun _ => ?_)
    refine ra_aload_n A d_En_write_34 rfl <| ra_getI A f_En_64 d_En_write_35 (Nat.le_of_ble_eq_true rfl) rfl rfl <| ?_
    rw [ek]
    refine ra_bipush A 75 d_En_write_38 (by decide) <| ?_
    refine ra_icmp_ge (q := 146) A d_En_write_40 (by decide) (fun cc => absurd cc (nI_ge (b := 75) (by omega) (by decide))) (fun _ => ?_)
    refine ra_aload_n A d_En_write_43 rfl <| ra_getR A f_En_16 d_En_write_44 (Nat.le_of_ble_eq_true rfl) rfl rfl rfl <| ra_getI A f_En_76 d_En_write_47 (Nat.le_of_ble_eq_true rfl) rfl rfl <| ?_
    rw [hg.1.2.2.1]
    refine ra_iload_n A d_En_write_50 rfl <| ra_iload_n A d_En_write_51 rfl <| ra_isub A d_En_write_52 <| ?_
    rw [pk_sub (Nat.le_of_lt hkb)]
    refine ra_mmin A (by omega) (by omega) l_En_79 d_En_write_53 ⟨hro.1.1.1, hro.1.1.2, hro.1.2, hro.2⟩ ?_
    rw [show min b (N - k * b) = fsz N b k from rfl]
    refine ra_istore (L' := [_, _, _, _, _, _, _]) A d_En_write_56 (by decide) rfl <| ra_aload_n A d_En_write_58 rfl <| ra_getR A f_En_16 d_En_write_59 (Nat.le_of_ble_eq_true rfl) rfl rfl rfl <| ra_getI A f_En_85 d_En_write_62 (Nat.le_of_ble_eq_true rfl) rfl rfl <| ?_
    rw [hg.1.1]
    refine ra_iconst A 1 d_En_write_65 (by decide) <| ?_
    have at86 : ∀ g1 c, fr EL g g1 → SA g1 (sg s0 s1 (k * b)) (fsz N b k) D c → (c = 0 ∨ isC c) → c = fc C (sg s0 s1 (k * b)) (fsz N b k) D → xg x (y0 u) 0 0 86 [some (.ref 10), some (.int (bz v)), some (.int (nI N)), some (.int (nI (k * b))), some (.int (nI (fsz N b k))), v5, v6] [.int (nI c)] g1 := by
      intro g1 c f1 S1 hc ec
      have hIA := hE.IA (c := c) hkb (fun q => by rw [ec]; unfold fc; rw [if_pos q])
      have ek1 : g1.1 10 9 = nI k := by rw [fr1 f1 (by decide)]; exact ek
      have W1 := hW.fr f1 (by decide) (by decide) (by decide)
      have hfr : frm s0 s1 C D b N v k = fbits (sg s0 s1 (k * b)) (fsz N b k) D c (if v then k * b else k) v := by rw [ec]; rfl
      have hc16 : c < 16 := by
        rcases hc with rfl | rfl | rfl | rfl | rfl <;> decide
      rw [frms, List.length_append] at hlen1
      rw [hfr] at hlen1
      have hfl := hlen1
      unfold fbits at hfl
      rw [List.length_append, bitsL_len] at hfl
      refine ra_istore (L' := [_, _, _, _, _, _, _]) A d_En_write_86 (by decide) rfl <| ra_aload_n A d_En_write_88 rfl <| ra_getR A f_En_20 d_En_write_89 (Nat.le_of_ble_eq_true rfl) rfl rfl rfl <| ra_getI A f_En_58 d_En_write_92 (Nat.le_of_ble_eq_true rfl) rfl rfl <| ?_
      rw [W1.1]
      refine ra_istore (L' := [_, _, _, _, _, _, _]) A d_En_write_95 (by decide) rfl <| ra_aload_n A d_En_write_97 rfl <| ra_iload_n A d_En_write_98 rfl <| ra_iload A d_En_write_99 rfl <| ra_iload A d_En_write_101 rfl <| ra_iload_n A d_En_write_103 rfl <| ?_
      have hhl := fheadc_len (n := fsz N b k) (c := c) (num := if v then k * b else k) (v := v)
      have hpl := pad8_len (fheadc (fsz N b k) c (if v then k * b else k) v ++ fbody (sg s0 s1 (k * b)) (fsz N b k) D c)
      rw [List.length_append] at hpl
      refine ra_callV (As := [_, _, _, _]) A ok_En_writeHead l_En_94 im_En_writeHead sl_En_writeHead d_En_write_104 (Nat.le_of_ble_eq_true rfl) rfl rfl rfl (Nat.le_of_ble_eq_true rfl) (xr_of at0 (by decide)) (s_En_writeHead hz.1 hz.2.1 (by omega) (by omega) hc16 ek1 W1 (by omega) (by omega) (fun g2 f2 W2 => ?_))
      show xg x (y0 u) 0 0 107 _ _ g2
      have S2 := S1.fr f2 (by decide)
      refine ra_aload_n A d_En_write_107 rfl <| ra_iload A d_En_write_108 rfl <| ra_iload A d_En_write_110 rfl <| ?_
      refine ra_callV (As := [_, _]) A ok_En_writeBody l_En_98 im_En_writeBody sl_En_writeBody d_En_write_112 (Nat.le_of_ble_eq_true rfl) rfl rfl rfl (Nat.le_of_ble_eq_true rfl) (xr_of at0 (by decide)) (s_En_writeBody K hz.1 hz.2.1 (by omega) d2 hc (by omega) fheadc_8 hIA S2 W2 (by omega) (fun g3 f3 W3 => ?_))
      show xg x (y0 u) 0 0 115 _ _ g3
      have S3 := S2.fr f3 (by decide)
      have ek3 : g3.1 10 9 = nI k := by rw [fr1 f3 (by decide), fr1 f2 (by decide)]; exact ek1
      rw [show pad8 (fheadc (fsz N b k) c (if v then k * b else k) v ++ fbody (sg s0 s1 (k * b)) (fsz N b k) D c) ++ bitsL 16 (lN (crL 16 32773 (pad8 (fheadc (fsz N b k) c (if v then k * b else k) v ++ fbody (sg s0 s1 (k * b)) (fsz N b k) D c)))) = frm s0 s1 C D b N v k from hfr.symm, List.append_assoc, show frms s0 s1 C D b N v k ++ frm s0 s1 C D b N v k = frms s0 s1 C D b N v (k + 1) from rfl] at W3
      have h8k := frms_8 (s0 := s0) (s1 := s1) (C := C) (D := D) (b := b) (N := N) (v := v) (k + 1)
      have hs1 : (frms s0 s1 C D b N v (k + 1)).length = (frms s0 s1 C D b N v k).length + (frm s0 s1 C D b N v k).length := by rw [frms, List.length_append]
      have eb3 : g3.1 6 1 = nI ((info b 0 0 r C D N (sml C D N s0 s1 0) (sml C D N s0 s1 1) ++ frms s0 s1 C D b N v k).length / 8 + fby s0 s1 C D b N v k) := by
        rw [W3.1, List.length_append, hil, hBl]
        congr 1
        unfold fby
        omega
      refine ra_aload_n A d_En_write_115 rfl <| ra_iload A d_En_write_116 rfl <| ra_iload A d_En_write_118 rfl <| ?_
      refine ra_callV (As := [_, _]) A ok_En_note l_En_102 im_En_note sl_En_note d_En_write_120 (Nat.le_of_ble_eq_true rfl) rfl rfl rfl (Nat.le_of_ble_eq_true rfl) (xr_of at0 (by decide)) (s_En_note K (by omega) hc ek3 eb3 S3 (fun g4 f4 N4 => ?_))
      show xg x (y0 u) 0 0 123 _ _ g4
      have nin : ∀ q, (q < 12 ∨ 86 < q) → q ∉ [12 + k] := fun q hq z => by simp at z; omega
      refine ra_aload_n A d_En_write_123 rfl <| ra_dup A d_En_write_124 rfl <| ra_getI A f_En_64 d_En_write_125 (Nat.le_of_ble_eq_true rfl) rfl rfl <| ?_
      rw [fr1 f4 (nin 10 (by omega)), ek3]
      refine ra_iconst A 1 d_En_write_128 (by decide) <| ra_iadd A d_En_write_129 <| ?_
      rw [nI_1]
      refine ra_putI (ty := .int) A f_En_64 rfl rfl (by decide +kernel) rfl rfl d_En_write_130 (Nat.le_of_ble_eq_true rfl) rfl rfl <| ra_iload_n A d_En_write_133 rfl <| ra_aload_n A d_En_write_134 rfl <| ra_getR A f_En_16 d_En_write_135 (Nat.le_of_ble_eq_true rfl) rfl rfl rfl <| ra_getI A f_En_76 d_En_write_138 (Nat.le_of_ble_eq_true rfl) rfl rfl <| ?_
      have fall : fr FL h (xw_I g4 10 9 (nI (k + 1))) := ((((hf.trans (f1.mono (by decide))).trans (f2.mono (by decide))).trans (f3.mono (by decide))).trans (f4.mono (by simp; exact FL_in k (by omega)))).I (by decide)
      rw [(hh.fr fall (by decide) (by decide) (by decide) (by decide)).1.2.2.1]
      refine ra_iadd A d_En_write_141 <| ra_istore_n (L' := [_, _, _, _, _, _, _]) A d_En_write_142 (by decide) rfl <| ra_goto (q := 29) A d_En_write_143 (by decide) <| ?_
      rw [nI_add, show k * b + b = (k + 1) * b by rw [Nat.add_mul, Nat.one_mul]]
      refine ih _ ⟨fall, xI_e, ?_, fun j hj t ht => ?_⟩ _ _ _
      · unfold WB
        rw [xI_k (by decide), xI_k (by decide), xI_k (by decide), fr1 f4 (nin 6 (by omega)), fr1 f4 (nin 7 (by omega)), fr1 f4 (nin 87 (by omega))]
        exact W3
      · rw [xI_k (show 12 + j ≠ 10 by omega)]
        by_cases cj : j = k
        · subst cj
          rw [N4 t ht]
          unfold ntf
          rw [← ec, hBl, show (336 + (frms s0 s1 C D b N v j).length) / 8 = 42 + (frms s0 s1 C D b N v j).length / 8 by omega]
        · rw [fr1 f4 (by simp; omega), fr1 f3 (by unfold WL ZL; simp; omega), fr1 f2 (by simp; omega), fr1 f1 (by unfold EL ZL; simp; omega)]
          exact hn j (by omega) t ht
    by_cases cC : C = 1
    · refine ra_icmp_ne (q := 79) A d_En_write_66 (by decide) (fun cc => absurd ((by rw [cC]; rfl)) cc) (fun _ => ?_)
      refine ra_aload_n A d_En_write_69 rfl <| ra_iload_n A d_En_write_70 rfl <| ra_iload A d_En_write_71 rfl <| ?_
      refine ra_callV (As := [_, _]) A ok_En_chooseOne l_En_88 im_En_chooseOne sl_En_chooseOne d_En_write_73 (Nat.le_of_ble_eq_true rfl) rfl rfl rfl (Nat.le_of_ble_eq_true rfl) (xr_of at0 (by decide)) (s_En_chooseOne K hz.2.1 (by omega) (by omega) d2 hg.1.2.1 (s1 := s1) hg.2.1 (hE.IA hkb (fun _ => rfl)) (fun g1 f1 S1 => ?_))
      show xg x (y0 u) 0 0 76 _ _ g1
      refine ra_goto (q := 86) A d_En_write_76 (by decide) <| ?_
      exact at86 g1 0 f1 S1 (Or.inl rfl) (by unfold fc; rw [if_pos cC])
    · refine ra_icmp_ne (q := 79) A d_En_write_66 (by decide) (fun _ => ?_) (fun cc => absurd cc (fun z => cC ((nI_eq (b := 1) (by omega) (by decide)).mp z)))
      refine ra_aload_n A d_En_write_79 rfl <| ra_iload_n A d_En_write_80 rfl <| ra_iload A d_En_write_81 rfl <| ?_
      refine ra_callV (As := [_, _]) A ok_En_chooseTwo l_En_91 im_En_chooseTwo sl_En_chooseTwo d_En_write_83 (Nat.le_of_ble_eq_true rfl) rfl rfl rfl (Nat.le_of_ble_eq_true rfl) (xr_of at0 (by decide)) (s_En_chooseTwo K hz.1 hz.2.1 (by omega) (by omega) d2 hg.1.2.1 hg.2.1 hg.2.2 (hE.IA hkb (fun q => absurd q cC)) (fun g1 f1 S1 => ?_))
      show xg x (y0 u) 0 0 86 _ _ g1
      have hC : isC (bC (sg s0 s1 (k * b)) (fsz N b k) D) := bC_C
      exact at86 g1 _ f1 ⟨S1.1, fun _ => S1.2 (by decide)⟩ (Or.inr hC) (by unfold fc; rw [if_neg cC])
theorem s_SS_encode (hl : l.stackTraces = false) {C D b r N : Nat} {s0 s1 : Nat → Int32} {v : Bool} (hE : f_isEven_rows h = 1 → EB C D b r N s0 s1) (hh : EC h C D b r N s0 s1) (w1 : h.1 87 1 = 0) (w2 : h.1 87 2 = 0) (hev : f_isEven_rows h = 0 ∨ f_isEven_rows h = 1)
    (hY : f_isEven_rows h = 0 → X (.inr "java/lang/IllegalStateException") h 1 6)
    (hX : f_isEven_rows h = 1 → ∀ h', fr FL h h' → WB h' (est s0 s1 C D b r N v) → h'.1 10 9 = nI (fN N b) → (∀ j, j < fN N b → ∀ t, t < 9 → h'.1 (12 + j) t = (ntf s0 s1 C D b N v j).getD t 0) → X (.inl (some (.int (nI ((est s0 s1 C D b r N v).length / 8))))) h' 0 0) : xm_M l (y0 u) (KK0 u) m_SS_encode [.ref 0, .int (bz v)] h X := by
  refine xm_of [] (by simp) (Nat.le_of_ble_eq_true rfl) (by decide) (fun x at0 => ?_)
  have A := xa_of at0 (KK0_ok u)
  have ow := at0.2.2.2.2.1
  refine ra_aload_n A d_SS_encode_0 rfl <| ra_getR A f_SS_12 d_SS_encode_1 (Nat.le_of_ble_eq_true rfl) rfl rfl rfl <| ?_
  refine ra_callV (As := []) A ok_So_isEven l_SS_107 im_So_isEven sl_So_isEven d_SS_encode_4 (Nat.le_of_ble_eq_true rfl) rfl rfl rfl (Nat.le_of_ble_eq_true rfl) (xr_of at0 (by decide)) (s_So_isEven_rows (KK0_ok u) ?_)
  show xg x (y0 u) 0 0 7 _ _ h
  rcases hev with e | e
  · rw [e]
    refine ra_if_ne (q := 20) A d_SS_encode_7 (by decide) (fun cc => absurd (rfl) cc) (fun _ => ?_)
    exact xt_throw at0 hl xt_ISE (by decide) (List.mem_of_getElem? (i := 1) rfl) cl_SS_111 xi_ISE (List.mem_of_getElem? (i := 7) rfl) le_SS_115 d_SS_encode_10 d_SS_encode_13 d_SS_encode_14 d_SS_encode_16 d_SS_encode_19 ⟨by decide, Nat.le_of_ble_eq_true rfl, by decide, by decide⟩ (hY e)
  · rw [e]
    refine ra_if_ne (q := 20) A d_SS_encode_7 (by decide) (fun _ => ?_) (fun cc => absurd cc ((by decide)))
    refine ra_aload_n A d_SS_encode_20 rfl <| ra_getR A f_SS_35 d_SS_encode_21 (Nat.le_of_ble_eq_true rfl) rfl rfl rfl <| ra_iload_n A d_SS_encode_24 rfl <| ?_
    refine ra_callV (As := [_]) A ok_En_write l_SS_124 im_En_write sl_En_write d_SS_encode_25 (Nat.le_of_ble_eq_true rfl) rfl rfl rfl (Nat.le_of_ble_eq_true rfl) (xr_of at0 (by decide)) (s_En_write (hE e) hh w1 w2 (fun g f W n1 n2 => ?_))
    show xg x (y0 u) 0 0 28 _ _ g
    refine ra_aload_n A d_SS_encode_28 rfl <| ra_getR A f_SS_19 d_SS_encode_29 (Nat.le_of_ble_eq_true rfl) rfl rfl rfl <| ra_getI A f_SS_128 d_SS_encode_32 (Nat.le_of_ble_eq_true rfl) rfl rfl <| ?_
    rw [W.1]
    exact ra_iret A ow d_SS_encode_35 (hX e g f W n1 n2)
end S83
