/-! WHAT THE CALLS ANSWER, WHAT THEY KEEP (3): rows, encode, decode -/
section S9t
variable {h h' h2 : xw_H}
theorem chan_iff {C D b r n0 n1 : Nat} (a : Va h C D b r n0 n1) (ch : Int32) : f_hasChannel_rows h ch = 0 ↔ ¬ g_noChannel h ch = 0 := by
  unfold f_hasChannel_rows g_noChannel
  rw [show v_rows_channels h = nI C from a.2.2.1.1, show v_model_channels h = nI C from a.2.2.2.1.1]
  by_cases c : ch < 0
  · rw [if_pos c, if_pos c]; decide
  · rw [if_neg c, if_neg c]
    by_cases c2 : nI C ≤ ch
    · rw [if_pos c2, if_neg (Int32.not_lt.mpr c2)]; decide
    · rw [if_neg c2, if_pos (Int32.not_le.mp c2)]; decide
theorem even_iff {C D b r n0 n1 : Nat} (a : Va h C D b r n0 n1) : f_isEven_rows h = 0 ↔ g_uneven h := by
  unfold f_isEven_rows g_uneven
  rw [show v_rows_channels h = nI C from a.2.2.1.1, show v_model_channels h = nI C from a.2.2.2.1.1, a.2.2.2.2.1.1, a.2.2.2.2.1.2.1, a.2.2.2.2.1.2.2.1, a.2.2.2.2.1.2.2.2]
  have hC := a.1.1
  have h12 : C = 1 ∨ C = 2 := by omega
  rcases h12 with rfl | rfl
  · rw [if_pos (by rfl)]
    constructor
    · intro q; exact absurd q (by decide)
    · intro q; exact absurd q.1 (by decide)
  · rw [if_neg (by decide)]
    by_cases c : nI n0 = nI n1
    · rw [if_pos c]
      constructor
      · intro q; exact absurd q (by decide)
      · intro q; exact absurd c q.2
    · rw [if_neg c]
      exact ⟨fun _ => ⟨rfl, c⟩, fun _ => rfl⟩
theorem even_01 : f_isEven_rows h = 0 ∨ f_isEven_rows h = 1 := by
  unfold f_isEven_rows
  split
  · exact Or.inr rfl
  · split
    · exact Or.inr rfl
    · exact Or.inl rfl
theorem even_N {C D b r n0 n1 : Nat} (a : Va h C D b r n0 n1) (e : f_isEven_rows h = 1) : C ≠ 1 → n1 = n0 := by
  intro c
  have : ¬ g_uneven h := fun q => by rw [(even_iff a).mpr q] at e; exact absurd e (by decide)
  unfold g_uneven at this
  rw [show v_model_channels h = nI C from a.2.2.2.1.1, a.2.2.2.2.1.2.2.1, a.2.2.2.2.1.2.2.2] at this
  have hC := a.1.1
  have hn := a.2.1
  have h2 : C = 2 := by omega
  subst h2
  by_cases z : n0 = n1
  · exact z.symm
  · exact absurd ⟨rfl, fun q => z ((nI_eq (by omega) (by omega)).mp q)⟩ this
theorem Va.EB {C D b r n0 n1 : Nat} (a : Va h C D b r n0 n1) (e : C ≠ 1 → n1 = n0) : EB C D b r n0 (h.1 3) (h.1 4) := by
  obtain ⟨⟨hC, hD, hb, hr⟩, ⟨l0, l1⟩, -, -, -, -, i0, i1⟩ := a
  exact ⟨⟨hC.1, hC.2, hD.1, hD.2, hb.1, hb.2, by omega, l0⟩, i0, fun q => by rw [← e q]; exact i1⟩
theorem Va.EC {C D b r n0 n1 : Nat} (a : Va h C D b r n0 n1) : EC h C D b r n0 (h.1 3) (h.1 4) :=
  ⟨⟨a.2.2.1.1, a.2.2.1.2.1, a.2.2.1.2.2.1, a.2.2.1.2.2.2, a.2.2.2.2.1.1⟩, fun _ _ => rfl, fun _ _ => rfl⟩
theorem Va.MB {C D b r n0 n1 : Nat} {s0 s1 : Nat → Int32} (a : Va h C D b r n0 n1) (e3 : h.1 3 = s0) (e4 : h.1 4 = s1) : MB h C D b r n0 s0 s1 :=
  ⟨⟨a.2.2.2.1.1, a.2.2.2.1.2.1, a.2.2.2.1.2.2.1, a.2.2.2.1.2.2.2, a.2.2.2.2.1.2.2.1⟩, fun i hi => by subst e3; subst e4; exact ⟨(a.2.2.2.2.2.1 i hi).1.symm, (a.2.2.2.2.2.1 i hi).2.symm⟩⟩
theorem est_len {C D b r N : Nat} {s0 s1 : Nat → Int32} {v : Bool} (x : EB C D b r N s0 s1) : (est s0 s1 C D b r N v).length % 8 = 0 ∧ (est s0 s1 C D b r N v).length / 8 ≤ 9000 := by
  have h1 := frms_8 (s0 := s0) (s1 := s1) (C := C) (D := D) (b := b) (N := N) (v := v) (fN N b)
  have h2 := x.len (v := v) (Nat.le_refl (fN N b))
  have h3 : (est s0 s1 C D b r N v).length = 336 + (frms s0 s1 C D b N v (fN N b)).length := by unfold est; rw [List.length_append, info_len]
  omega
theorem byte_eq {s d : Nat} (hs : s < 256) (hd : d < 256) (hb : ∀ t, t < 8 → s.testBit (7 - t) = d.testBit (7 - t)) : s = d := by
  apply Nat.eq_of_testBit_eq
  intro i
  by_cases c : i < 8
  · have := hb (7 - i) (by omega)
    rwa [show 7 - (7 - i) = i by omega] at this
  · rw [Nat.testBit_lt_two_pow (Nat.lt_of_lt_of_le hs (Nat.pow_le_pow_right (show 0 < 2 by decide) (show 8 ≤ i by omega))), Nat.testBit_lt_two_pow (Nat.lt_of_lt_of_le hd (Nat.pow_le_pow_right (show 0 < 2 by decide) (show 8 ≤ i by omega)))]
theorem IV.encode {C D b r n0 n1 f : Nat} {E : List Bool} {nt : Nat → List Int32} {w : Int64} (x : IV h) (a : Va h C D b r n0 n1) (hf : f ≤ 75) (hE : E.length % 8 = 0 ∧ E.length / 8 ≤ 9000)
    (f1 : fr FL h h') (W : WB h' E) (c9 : h'.1 10 9 = nI f) (cn : ∀ j, j < f → ∀ t, t < 9 → h'.1 (12 + j) t = (nt j).getD t 0)
    (f2 : fm MEL [2, 12, 15, 18, 19, 20] true (xw_J h' 156 0 w) h2) (m12 : h2.1 141 12 = nI (E.length / 8)) (m15 : h2.1 141 15 = nI f) (sr : SR h2) (mb : ∀ j, j < E.length → sb h2 j = E.getD j false) (mn : ∀ j, j < f → ∀ t, t < 9 → h2.1 149 (9 * j + t) = (nt j).getD t 0) : IV h2 := by
  obtain ⟨-, -, -, d, e, m⟩ := x
  have F1 : fm (156 :: FL) [] true h (xw_J h' 156 0 w) := ((fm_fr f1 (by decide)).mono (fun k hk => List.mem_cons_of_mem _ hk) (fun k hk => hk) (fun z => by cases z)).trans (fm_J2 List.mem_cons_self (by decide))
  have k2 : ∀ k, k ∉ MEL → k ≠ 141 → h2.1 k = h'.1 k := fun k h1 h3 => by rw [fmk f2 h1 h3]; rfl
  obtain ⟨w1, w2, ⟨p, hp, wp, -⟩, w4⟩ := W
  refine ⟨⟨C, D, b, r, n0, n1, (a.fm F1 (by decide) (by decide)).fm f2 (by decide) (by decide)⟩, ⟨E.length / 8, hE.2, ?_, m12, sr, fun q hq => ?_⟩, ⟨f, hf, ?_, m15, fun j hj t ht => ?_⟩, (d.fm F1 (by decide) (by decide)).fm f2 (by decide) (by decide), ⟨?_, ?_⟩, (m.fm F1 (by decide) (by decide)).fm f2 (by decide) (by decide)⟩
  · rw [k2 6 (by decide) (by decide)]; exact w1
  · rw [k2 7 (by decide) (by decide)]
    obtain ⟨d9, hd9, e9, b9⟩ := w4 q hq
    obtain ⟨s9, hs9, es9⟩ := sr q (by omega)
    rw [e9, es9]
    congr 1
    refine (byte_eq hs9 hd9 (fun t ht => ?_)).symm
    have u := mb (8 * q + t) (by omega)
    unfold sb at u
    rw [show (8 * q + t) / 8 = q by omega, show (8 * q + t) % 8 = t by omega, es9, pk_tn (by omega)] at u
    rw [u, b9 t ht]
  · rw [k2 10 (by decide) (by decide)]; exact c9
  · rw [k2 (12 + j) (by unfold MEL; simp; omega) (by omega), cn j hj t ht, mn j hj t ht]
  · rw [k2 87 (by decide) (by decide), wp]
    rw [hE.1] at hp
    have : p = 0 := by omega
    subst this
    rfl
  · rw [k2 87 (by decide) (by decide), w2, hE.1]; rfl
/-- a stream was heard; it was refused -/
theorem IV.hearGood {F : Nat → Bool} {s : FS} (x : IV h) (f1 : fr DLs h h') (c5 : h'.1 132 5 = 1) (hok : iOk F) (I : IN h' F) (S : DS h' F s) (B : FB F s) (c2 : h'.1 133 2 = 0)
    (f2 : DQ h' h2) (g1 : h2.1 141 2 = 0 ∧ h2.1 141 21 = 1 ∧ h2.1 141 22 = 0 ∧ h2.1 141 23 = -1) (g2 : h2.1 141 33 = nI s.2.1 ∧ h2.1 141 34 = nI s.1 ∧ h2.1 141 32 = bz (smK F) ∧ h2.1 141 26 = nI (iGr F) ∧ h2.1 141 27 = nI (iRa F) ∧ h2.1 141 29 = nI (iDp F)) (g3 : h2.1 141 28 = nI (iCh F)) (hl : s.2.1 ≤ 1200)
    (gr : ∀ i, i < s.2.1 → h2.1 153 i = s.2.2.2.2.1 i ∧ (iCh F = 2 → h2.1 153 (1200 + i) = s.2.2.2.2.2 i)) : IV h2 := by
  obtain ⟨⟨C, D, b, r, n0, n1, a⟩, ⟨L, b9⟩, ⟨c, cc⟩, d, e, m⟩ := x
  have F1 : fm DLs [] false h h' := fm_fr f1 (by decide)
  have k2 : ∀ k, k ∉ [146, 147, 152, 153, 154, 155] → k ≠ 141 → h2.1 k = h'.1 k := fun k h1 h3 => fmk f2 h1 h3
  refine ⟨⟨C, D, b, r, n0, n1, (a.fm F1 (by decide) (by decide)).fm f2 (by decide) (by decide)⟩, ⟨L, (b9.fm F1 (by decide) (by decide)).fm f2 (by decide) (by decide)⟩, ⟨c, (cc.fm F1 (by decide) (by decide)).fm f2 (by decide) (by decide)⟩, Or.inr ⟨iCh F, s.2.1, ?_⟩, (e.fm F1 (by decide)).fm f2 (by decide), (m.fm F1 (by decide) (by decide)).fm f2 (by decide) (by decide)⟩
  unfold Vd1
  rw [k2 132 (by decide) (by decide), k2 133 (by decide) (by decide), k2 136 (by decide) (by decide), k2 138 (by decide) (by decide), k2 139 (by decide) (by decide), k2 140 (by decide) (by decide)]
  obtain ⟨⟨s1, s2, s3, s4, s5, s6⟩, s7, s8⟩ := S
  obtain ⟨⟨i1, i2, i3, i4, i5⟩, i6, i7, i8, i9⟩ := I
  have h1 : 1 ≤ iCh F := by unfold iCh; omega
  refine ⟨⟨c5, g1.2.1⟩, ⟨c2, g1.2.2.1, g1.2.2.2⟩, ⟨h1, hok.2.1.1, hl⟩, ⟨i6, g3⟩, ⟨?_, ?_, ?_, ?_, ?_⟩, ⟨s4, ?_, g2.1⟩, fun i hi => ⟨?_, fun q => ?_⟩⟩
  · rw [i7, g2.2.2.2.2.2]
  · rw [i8, g2.2.2.2.1]
  · rw [i9, g2.2.2.2.2.1]
  · rw [s1, g2.2.1]
  · rw [i5, g2.2.2.1]
  · by_cases q : iCh F = 2
    · rw [if_pos q]; exact s5 q
    · rw [if_neg q]; exact s6 q
  · rw [s7 i hi, (gr i hi).1]
  · rw [s8 q i hi, (gr i hi).2 q]
theorem IV.hearBad {e9 pl : Nat} (x : IV h) (f1 : fr DLs h h') (c5 : h'.1 132 5 = 0) (c2 : h'.1 133 2 = nI e9) (c3 : h'.1 133 3 = nI pl) (l0 : h'.1 140 0 = 0) (l1 : h'.1 140 1 = 0)
    (f2 : DQ h' h2) (g1 : h2.1 141 2 = 0 ∧ h2.1 141 21 = 0 ∧ h2.1 141 22 = nI e9 ∧ h2.1 141 23 = nI pl) (he : e9 ≠ 0 ∧ e9 < 16) : IV h2 := by
  obtain ⟨⟨C, D, b, r, n0, n1, a⟩, ⟨L, b9⟩, ⟨c, cc⟩, d, e, m⟩ := x
  have F1 : fm DLs [] false h h' := fm_fr f1 (by decide)
  have k2 : ∀ k, k ∉ [146, 147, 152, 153, 154, 155] → k ≠ 141 → h2.1 k = h'.1 k := fun k h1 h3 => fmk f2 h1 h3
  refine ⟨⟨C, D, b, r, n0, n1, (a.fm F1 (by decide) (by decide)).fm f2 (by decide) (by decide)⟩, ⟨L, (b9.fm F1 (by decide) (by decide)).fm f2 (by decide) (by decide)⟩, ⟨c, (cc.fm F1 (by decide) (by decide)).fm f2 (by decide) (by decide)⟩, Or.inl ?_, (e.fm F1 (by decide)).fm f2 (by decide), (m.fm F1 (by decide) (by decide)).fm f2 (by decide) (by decide)⟩
  unfold Vd0 f_place v_reader_fault v_reader_place
  rw [k2 132 (by decide) (by decide), k2 133 (by decide) (by decide), k2 140 (by decide) (by decide), c2, c3, if_neg (nI_ne0 (by omega) (by omega))]
  exact ⟨⟨c5, g1.2.1⟩, g1.2.2.1.symm, g1.2.2.2.symm, l0, l1⟩
/-- what is heard -/
theorem Vd.len (d : Vd h) : ∀ c, c < 2 → ∃ m : Nat, m ≤ 1200 ∧ h.1 140 c = nI m := by
  intro c hc
  have hc2 : c = 0 ∨ c = 1 := by omega
  rcases d with d | ⟨ch, m, d⟩
  · rcases hc2 with rfl | rfl
    · exact ⟨0, by omega, d.2.2.2.1⟩
    · exact ⟨0, by omega, d.2.2.2.2⟩
  · rcases hc2 with rfl | rfl
    · exact ⟨m, d.2.2.1.2.2, d.2.2.2.2.2.1.1⟩
    · refine ⟨if ch = 2 then m else 0, ?_, d.2.2.2.2.2.1.2.1⟩
      have := d.2.2.1.2.2
      split <;> omega
theorem Vd.model (d : Vd h) : ∃ m : Nat, m ≤ 1200 ∧ (¬ v_model_good h = 0 → v_model_heard h = nI m) := by
  rcases d with d | ⟨ch, m, d⟩
  · exact ⟨0, by omega, fun q => absurd (show v_model_good h = 0 from d.1.2) q⟩
  · exact ⟨m, d.2.2.1.2.2, fun _ => d.2.2.2.2.2.1.2.2⟩
theorem heard_iff (d : Vd h) {c : Nat} (hc : c < 2) (i : Int32) : f_hasSample_sound h c i = 0 ↔ (v_model_good h = 0 ∨ v_model_itsChannels h ≤ nI c ∨ i < 0 ∨ v_model_heard h ≤ i) := by
  unfold f_hasSample_sound
  have hc2 : c = 0 ∨ c = 1 := by omega
  rcases d with d | ⟨ch, m, d⟩
  · refine ⟨fun _ => Or.inl d.1.2, fun _ => ?_⟩
    by_cases q : i < 0
    · rw [if_pos q]
    · rw [if_neg q, if_pos]
      rcases hc2 with rfl | rfl
      · rw [d.2.2.2.1]; exact Int32.not_lt.mp q
      · rw [d.2.2.2.2]; exact Int32.not_lt.mp q
  · obtain ⟨⟨d1, d2⟩, -, ⟨c1, c2, hm⟩, ⟨e1, e2⟩, -, ⟨e8, e81, e9⟩, -⟩ := d
    rw [show v_model_good h = 1 from d2, show v_model_itsChannels h = nI ch from e2, show v_model_heard h = nI m from e9, nI_leI (by omega) (by omega)]
    by_cases q : i < 0
    · rw [if_pos q]; exact ⟨fun _ => Or.inr (Or.inr (Or.inl q)), fun _ => rfl⟩
    · rw [if_neg q]
      by_cases z : ch ≤ c
      · have hc1 : c = 1 := by omega
        subst hc1
        have hch : ch = 1 := by omega
        subst hch
        rw [e81, if_neg (show ¬ (1 : Nat) = 2 by decide), if_pos (by rw [nI_0]; exact Int32.not_lt.mp q)]
        exact ⟨fun _ => Or.inr (Or.inl (Nat.le_refl _)), fun _ => rfl⟩
      · have el : h.1 140 c = nI m := by
          rcases hc2 with rfl | rfl
          · exact e8
          · rw [e81, if_pos (by omega)]
        rw [el]
        by_cases z2 : nI m ≤ i
        · rw [if_pos z2]; exact ⟨fun _ => Or.inr (Or.inr (Or.inr z2)), fun _ => rfl⟩
        · rw [if_neg z2]
          refine ⟨fun w => absurd w (by decide), fun w => ?_⟩
          rcases w with w | w | w | w
          · exact absurd w (by decide)
          · exact absurd w z
          · exact absurd w q
          · exact absurd w z2
theorem heard_val (d : Vd h) {c k : Nat} (hc : c < 2) (hz : ¬ f_hasSample_sound h c (nI k) = 0) (hk : k < 1200) : h.1 (138 + c) k = h.1 153 (1200 * c + k) := by
  have w := fun q => hz ((heard_iff d hc (nI k)).mpr q)
  rcases d with d | ⟨ch, m, d⟩
  · exact absurd (Or.inl d.1.2) w
  · obtain ⟨⟨d1, d2⟩, -, ⟨c1, c2, hm⟩, ⟨e1, e2⟩, -, ⟨e8, e81, e9⟩, hr⟩ := d
    rw [show v_model_itsChannels h = nI ch from e2, show v_model_heard h = nI m from e9] at w
    have w1 : ¬ ch ≤ c := fun q => w (Or.inr (Or.inl (nI_le q (by omega))))
    have w2 : ¬ m ≤ k := fun q => w (Or.inr (Or.inr (Or.inr (nI_le q (by omega)))))
    have r := hr k (by omega)
    have hc2 : c = 0 ∨ c = 1 := by omega
    rcases hc2 with rfl | rfl
    · rw [show 1200 * 0 + k = k by omega]; exact r.1
    · exact r.2 (by omega)
end S9t
