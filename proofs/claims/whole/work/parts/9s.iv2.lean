/-! WHAT THE CALLS ANSWER, WHAT THEY KEEP (2): told, stream, bytes, encode, decode -/
section S9s
variable {h h' : xw_H}
theorem told_eq (x : IV h) {w : Nat} (hw : w ≤ 8) : f_told h w = g_told h w := by
  obtain ⟨-, ⟨L, b9⟩, ⟨c, cc⟩, d, -, -⟩ := x
  unfold f_told g_told f_tell
  by_cases w0 : w = 0
  · rw [if_pos w0, if_pos w0]; exact b9.2.1.trans b9.2.2.1.symm
  rw [if_neg w0, if_neg w0]
  by_cases w1 : w = 1
  · rw [if_pos w1, if_pos w1]; exact cc.2.1.trans cc.2.2.1.symm
  rw [if_neg w1, if_neg w1]
  rcases d with d | ⟨ch, m, d⟩
  · rw [if_pos (show v_decoder_decoded h = 0 from d.1.1), if_pos (show v_model_good h = 0 from d.1.2)]
  · obtain ⟨⟨d1, d2⟩, -, -, ⟨e1, e2⟩, ⟨e3, e4, e5, e6, e7⟩, ⟨e8, -, e9⟩, -⟩ := d
    rw [if_neg (show ¬ v_decoder_decoded h = 0 by rw [show v_decoder_decoded h = 1 from d1]; decide), if_neg (show ¬ v_model_good h = 0 by rw [show v_model_good h = 1 from d2]; decide)]
    by_cases w2 : w = 2
    · rw [if_pos w2, if_pos w2]; exact e1.trans e2.symm
    rw [if_neg w2, if_neg w2]
    by_cases w3 : w = 3
    · rw [if_pos w3, if_pos w3]; exact e3
    rw [if_neg w3, if_neg w3]
    by_cases w4 : w = 4
    · rw [if_pos w4, if_pos w4]; exact e4
    rw [if_neg w4, if_neg w4]
    by_cases w5 : w = 5
    · rw [if_pos w5, if_pos w5]; exact e5
    rw [if_neg w5, if_neg w5]
    by_cases w6 : w = 6
    · rw [if_pos w6, if_pos w6]; exact e8.trans e9.symm
    rw [if_neg w6, if_neg w6]
    by_cases w7 : w = 7
    · rw [if_pos w7, if_pos w7]; exact e6
    rw [if_neg w7, if_neg w7]
    rw [show v_decoder_sumKnown h = v_model_summed h from e7]
/-! eight bytes -/
theorem or_add {a b i : Nat} (hb : b < 2 ^ i) : a * 2 ^ i ||| b = a * 2 ^ i + b := by
  rw [← Nat.shiftLeft_eq, Nat.shiftLeft_add_eq_or_of_lt hb]
theorem lN_or (a b : Nat) : lN a ||| lN b = lN (a ||| b) := by
  apply Int64.toBitVec_inj.mp
  rw [Int64.toBitVec_or, lN_bv, lN_bv, lN_bv, BitVec.ofNat_or]
theorem lN_shl (a : Nat) {k : Nat} (hk : k < 64) : lN a <<< ((nI k).toInt64 &&& 63) = lN (a * 2 ^ k) := by
  apply Int64.toBitVec_inj.mp
  rw [Int64.toBitVec_shiftLeft, BitVec.shiftLeft_eq', lb_sh k hk, lN_bv, lN_bv]
  apply BitVec.eq_of_toNat_eq
  rw [BitVec.toNat_shiftLeft, BitVec.toNat_ofNat, BitVec.toNat_ofNat, Nat.shiftLeft_eq, Nat.mod_mul_mod]
def eF (d : Nat → Nat) : Nat → Nat → Nat
  | 0, E => E
  | r + 1, E => eF d r (E * 2 ^ 8 ||| d r)
def eG (d : Nat → Nat) : Nat → Nat → Nat → Nat
  | 0, _, V => V
  | r + 1, b, V => eG d r (b + 1) (V ||| d b * 2 ^ (8 * b))
theorem eF_N {i : Int32} {d : Nat → Nat} : ∀ r E, r ≤ 8 → (∀ b, b < 8 → f_get h (i + nI b) = nI (d b) ∧ d b < 256) → f_eight h i r (lN E) = lN (eF d r E)
  | 0, _, _, _ => rfl
  | r + 1, E, hr, hd => by
    rw [f_eight, eF, (hd r (by omega)).1, nI_l (by have := (hd r (by omega)).2; omega), show (8 : Int32) = nI 8 from rfl, lN_shl E (by decide), lN_or]
    exact eF_N r _ (by omega) hd
theorem eG_N {i : Int32} {d : Nat → Nat} : ∀ r b V, b + r ≤ 8 → (∀ b, b < 8 → ∀ v, g_byte h i b v = v ||| (lN (d b * 2 ^ (8 * b)))) → g_eight h i r b (lN V) = lN (eG d r b V)
  | 0, _, _, _, _ => rfl
  | r + 1, b, V, hr, hd => by
    rw [g_eight, eG, hd b (by omega), lN_or]
    exact eG_N r (b + 1) _ (by omega) hd
theorem eight_eq {d : Nat → Nat} (hd : ∀ b, b < 8 → d b < 256) : eF d 8 0 = eG d 8 0 0 := by
  have h0 := hd 0 (by decide)
  have h1 := hd 1 (by decide)
  have h2 := hd 2 (by decide)
  have h3 := hd 3 (by decide)
  have h4 := hd 4 (by decide)
  have h5 := hd 5 (by decide)
  have h6 := hd 6 (by decide)
  have h7 := hd 7 (by decide)
  have oa : ∀ {V e i : Nat}, V < 2 ^ i → V ||| e * 2 ^ i = e * 2 ^ i + V := fun hv => by rw [Nat.or_comm, or_add hv]
  have hG : eG d 8 0 0 = (((((((0 ||| d 0 * 2 ^ 0) ||| d 1 * 2 ^ 8) ||| d 2 * 2 ^ 16) ||| d 3 * 2 ^ 24) ||| d 4 * 2 ^ 32) ||| d 5 * 2 ^ 40) ||| d 6 * 2 ^ 48) ||| d 7 * 2 ^ 56 := rfl
  have hF : eF d 8 0 = (((((((0 * 2 ^ 8 ||| d 7) * 2 ^ 8 ||| d 6) * 2 ^ 8 ||| d 5) * 2 ^ 8 ||| d 4) * 2 ^ 8 ||| d 3) * 2 ^ 8 ||| d 2) * 2 ^ 8 ||| d 1) * 2 ^ 8 ||| d 0 := rfl
  have q1 : (d 0) ||| d 1 * 2 ^ 8 = d 1 * 2 ^ 8 + (d 0) := oa (by omega)
  have q2 : (d 1 * 2 ^ 8 + (d 0)) ||| d 2 * 2 ^ 16 = d 2 * 2 ^ 16 + (d 1 * 2 ^ 8 + (d 0)) := oa (by omega)
  have q3 : (d 2 * 2 ^ 16 + (d 1 * 2 ^ 8 + (d 0))) ||| d 3 * 2 ^ 24 = d 3 * 2 ^ 24 + (d 2 * 2 ^ 16 + (d 1 * 2 ^ 8 + (d 0))) := oa (by omega)
  have q4 : (d 3 * 2 ^ 24 + (d 2 * 2 ^ 16 + (d 1 * 2 ^ 8 + (d 0)))) ||| d 4 * 2 ^ 32 = d 4 * 2 ^ 32 + (d 3 * 2 ^ 24 + (d 2 * 2 ^ 16 + (d 1 * 2 ^ 8 + (d 0)))) := oa (by omega)
  have q5 : (d 4 * 2 ^ 32 + (d 3 * 2 ^ 24 + (d 2 * 2 ^ 16 + (d 1 * 2 ^ 8 + (d 0))))) ||| d 5 * 2 ^ 40 = d 5 * 2 ^ 40 + (d 4 * 2 ^ 32 + (d 3 * 2 ^ 24 + (d 2 * 2 ^ 16 + (d 1 * 2 ^ 8 + (d 0))))) := oa (by omega)
  have q6 : (d 5 * 2 ^ 40 + (d 4 * 2 ^ 32 + (d 3 * 2 ^ 24 + (d 2 * 2 ^ 16 + (d 1 * 2 ^ 8 + (d 0)))))) ||| d 6 * 2 ^ 48 = d 6 * 2 ^ 48 + (d 5 * 2 ^ 40 + (d 4 * 2 ^ 32 + (d 3 * 2 ^ 24 + (d 2 * 2 ^ 16 + (d 1 * 2 ^ 8 + (d 0)))))) := oa (by omega)
  have q7 : (d 6 * 2 ^ 48 + (d 5 * 2 ^ 40 + (d 4 * 2 ^ 32 + (d 3 * 2 ^ 24 + (d 2 * 2 ^ 16 + (d 1 * 2 ^ 8 + (d 0))))))) ||| d 7 * 2 ^ 56 = d 7 * 2 ^ 56 + (d 6 * 2 ^ 48 + (d 5 * 2 ^ 40 + (d 4 * 2 ^ 32 + (d 3 * 2 ^ 24 + (d 2 * 2 ^ 16 + (d 1 * 2 ^ 8 + (d 0))))))) := oa (by omega)
  rw [hF, hG, Nat.zero_mul, Nat.zero_or, Nat.zero_or, Nat.pow_zero, Nat.mul_one, q1, q2, q3, q4, q5, q6, q7, or_add (b := d 6) (i := 8) h6, or_add (b := d 5) (i := 8) h5, or_add (b := d 4) (i := 8) h4, or_add (b := d 3) (i := 8) h3, or_add (b := d 2) (i := 8) h2, or_add (b := d 1) (i := 8) h1, or_add (b := d 0) (i := 8) h0]
  omega
theorem stream_eq (x : IV h) (i : Int32) : f_eight h i 8 0 = g_eight h i 8 0 0 := by
  obtain ⟨-, ⟨L, hL, e6, e12, sr, hb⟩, -⟩ := x
  have b1 := i.le_toInt
  have b2 := i.toInt_lt
  have key : ∀ b, b < 8 → ∃ d, d < 256 ∧ f_get h (i + nI b) = nI d ∧ ∀ v, g_byte h i b v = v ||| lN (d * 2 ^ (8 * b)) := by
    intro b hb8
    have s64 : (i.toInt64 + (nI b).toInt64).toInt = i.toInt + b := by
      rw [Int64.toInt_add, Int32.toInt_toInt64, Int32.toInt_toInt64, nI_toInt (by omega), Int.bmod_eq_of_le_mul_two (by omega) (by omega)]
    have s32 : (i + nI b).toInt = (i.toInt + b).bmod (2 ^ 32) := by
      rw [Int32.toInt_add, nI_toInt (by omega)]
    unfold f_get g_byte
    rw [show v_bytes_length h = nI L from e6, show v_model_size h = nI L from e12, show (nI L).toInt64 = lN L from nI_l (by omega)]
    by_cases c1 : i.toInt + b < 0
    · refine ⟨0, by decide, ?_, fun v => ?_⟩
      · rw [if_pos (by rw [Int32.lt_iff_toInt_lt, s32, Int.bmod_eq_of_le_mul_two (by omega) (by omega)]; exact c1)]; rfl
      · rw [if_pos (by rw [Int64.lt_iff_toInt_lt, s64]; exact c1)]; simp [lN]
    · have c1' : ¬ i.toInt64 + (nI b).toInt64 < 0 := by rw [Int64.lt_iff_toInt_lt, s64]; exact c1
      by_cases c2 : i.toInt + b < L
      · obtain ⟨q, hq⟩ : ∃ q : Nat, i.toInt + b = q := ⟨(i.toInt + b).toNat, by omega⟩
        have e1 : i + nI b = nI q := i_of_toInt (by rw [s32, nI_toInt (by omega), Int.bmod_eq_of_le_mul_two (by omega) (by omega), hq])
        have e2 : i.toInt64 + (nI b).toInt64 = lN q := Int64.toInt_inj.mp (by rw [s64, lN_toInt (by omega), hq])
        obtain ⟨s, hs, es⟩ := sr q (by omega)
        refine ⟨s, hs, ?_, fun v => ?_⟩
        · rw [e1, if_neg (nI_pos (by omega)), if_neg (nI_ge (by omega) (by omega)), nI_clamp (by omega), show a_data h q = h.1 7 q from rfl, hb q (by omega), es]
        · rw [if_neg c1', e2, if_neg (by rw [lN_le (by omega) (by omega)]; omega), lN_i, nI_clamp (by omega), es, nI_l (by omega), show (8 : Int32) * nI b = nI (8 * b) from pk_mul 8 b, lN_shl _ (by omega)]
      · refine ⟨0, by decide, ?_, fun v => ?_⟩
        · by_cases c3 : i.toInt + b < 2 ^ 31
          · rw [if_neg (by rw [Int32.lt_iff_toInt_lt, s32, Int.bmod_eq_of_le_mul_two (by omega) (by omega)]; exact c1), if_pos (by rw [Int32.le_iff_toInt_le, s32, nI_toInt (by omega), Int.bmod_eq_of_le_mul_two (by omega) (by omega)]; omega)]; rfl
          · rw [if_pos (by
              rw [Int32.lt_iff_toInt_lt, s32]
              have e9 : (i.toInt + b).bmod (2 ^ 32) = i.toInt + b - 2 ^ 32 := by
                rw [← Int.sub_bmod_right, Int.bmod_eq_of_le_mul_two (by omega) (by omega)]
                rfl
              rw [e9]
              show i.toInt + b - 2 ^ 32 < 0
              omega)]; rfl
        · rw [if_neg c1', if_pos (by rw [Int64.le_iff_toInt_le, s64, lN_toInt (by omega)]; omega)]; simp [lN]
  have key2 : ∃ d : Nat → Nat, ∀ b, b < 8 → d b < 256 ∧ f_get h (i + nI b) = nI (d b) ∧ ∀ v, g_byte h i b v = v ||| lN (d b * 2 ^ (8 * b)) :=
    ⟨fun b => if hb : b < 8 then (key b hb).choose else 0, fun b hb8 => by simp only [hb8, dif_pos]; exact (key b hb8).choose_spec⟩
  obtain ⟨d, hd⟩ := key2
  rw [show (0 : Int64) = lN 0 from rfl, eF_N 8 0 (Nat.le_refl _) (fun b hb => ⟨(hd b hb).2.1, (hd b hb).1⟩), eG_N 8 0 0 (Nat.le_refl _) (fun b hb => (hd b hb).2.2), eight_eq (fun b hb => (hd b hb).1)]
/-! feed, cut, spoil, seal -/
theorem byte64 (x : Int64) : x.toInt32.toInt8.toInt32 &&& 255 = (x &&& 255).toInt32 := by
  rw [bp_b]
  apply Int32.toBitVec_inj.mp
  rw [Int32.toBitVec_and, Int64.toBitVec_toInt32, Int64.toBitVec_toInt32, Int64.toBitVec_and, BitVec.signExtend_eq_setWidth_of_le _ (by decide), BitVec.signExtend_eq_setWidth_of_le _ (by decide), BitVec.setWidth_and]
  rfl
theorem byte64_s (x : Int64) : ∃ s, s < 256 ∧ (x &&& 255).toInt32 = nI s := by
  rw [← byte64, bp_b]
  exact pk_andE _ 8 rfl
def FP (h h' : xw_H) (b : Int64) (i m k : Nat) : Prop := fr [6, 7] h h' ∧ h'.1 6 1 = nI (m + k) ∧ (∀ j, j < k → h'.1 7 (m + j) = (b >>> ((8 * nI (i + j) : Int32).toInt64 &&& 63)).toInt32.toInt8.toInt32) ∧ ∀ q, q < m → h'.1 7 q = h.1 7 q
def HP (h h' : xw_H) (b : Int64) (i m k : Nat) : Prop := fm [148] [12] false h h' ∧ h'.1 141 12 = nI (m + k) ∧ (∀ j, j < k → h'.1 148 (m + j) = ((b >>> ((8 * nI (i + j) : Int32).toInt64 &&& 63)) &&& 255).toInt32) ∧ ∀ q, (q < m ∨ m + k ≤ q) → h'.1 148 q = h.1 148 q
theorem FP_f {b : Int64} : ∀ k i m (h : xw_H), h.1 6 1 = nI m → m + k ≤ 9000 → FP h (f_feed b k i h) b i m k := by
  intro k
  induction k with
  | zero => intro i m h e _; exact ⟨fr.rfl, e, fun j hj => absurd hj (Nat.not_lt_zero _), fun _ _ => rfl⟩
  | succ k ih =>
    intro i m h e hm
    rw [f_feed]
    have ea : f_add h ((b >>> ((8 * nI i : Int32).toInt64 &&& 63)).toInt32) = xw_I (xw_I h 7 m (b >>> ((8 * nI i : Int32).toInt64 &&& 63)).toInt32.toInt8.toInt32) 6 1 (nI (m + 1)) := by
      unfold f_add
      rw [show v_bytes_length h = nI m from e, if_neg (show ¬ (9000 : Int32) ≤ nI m from nI_ge (b := 9000) (by omega) (by decide)), nI_clamp (by omega), nI_1]
    rw [ea]
    obtain ⟨x1, x2, x3, x4⟩ := ih (i + 1) (m + 1) (xw_I (xw_I h 7 m (b >>> ((8 * nI i : Int32).toInt64 &&& 63)).toInt32.toInt8.toInt32) 6 1 (nI (m + 1))) xI_e (by omega)
    refine ⟨((fr_I (by decide)).I (by decide)).trans x1, by rw [x2]; congr 1; omega, fun j hj => ?_, fun q hq => ?_⟩
    · cases j with
      | zero =>
        simp only [Nat.add_zero]
        rw [x4 m (by omega), xI_k (by decide), xI_e]
      | succ j =>
        have := x3 j (by omega)
        rw [show m + (j + 1) = m + 1 + j by omega, this, show i + 1 + j = i + (j + 1) by omega]
    · rw [x4 q (by omega), xI_k (by decide), xI_j (by omega)]
theorem HP_g {b : Int64} : ∀ k i m (h : xw_H), h.1 141 12 = nI m → m + k ≤ 9000 → HP h (g_feed b k i m h) b i m k := by
  intro k
  induction k with
  | zero => intro i m h e _; exact ⟨fm.rfl, e, fun j hj => absurd hj (Nat.not_lt_zero _), fun _ _ => rfl⟩
  | succ k ih =>
    intro i m h e hm
    rw [g_feed]
    obtain ⟨x1, x2, x3, x4⟩ := ih (i + 1) (m + 1) (xw_I (xw_I h 148 m ((b >>> ((8 * nI i : Int32).toInt64 &&& 63)) &&& 255).toInt32) 141 12 (nI (m + 1))) xI_e (by omega)
    refine ⟨((fm_I (by decide) (by decide)).trans (fm_F (by decide))).trans x1, by rw [x2]; congr 1; omega, fun j hj => ?_, fun q hq => ?_⟩
    · cases j with
      | zero =>
        simp only [Nat.add_zero]
        rw [x4 m (by omega), xI_k (by decide), xI_e]
      | succ j =>
        have := x3 j (by omega)
        rw [show m + (j + 1) = m + 1 + j by omega, this, show i + 1 + j = i + (j + 1) by omega]
    · rw [x4 q (by omega), xI_k (by decide), xI_j (by omega)]
/-- bytes change, nothing else -/
abbrev BQ (h h' : xw_H) : Prop := fm [6, 7, 148, 156] [2, 12] false h h'
theorem IV.bytes {L : Nat} (x : IV h) (f : BQ h h') (b : Vb h' L) : IV h' := by
  obtain ⟨⟨C, D, b', r, n0, n1, a⟩, -, ⟨c, cc⟩, d, e, m⟩ := x
  exact ⟨⟨C, D, b', r, n0, n1, a.fm f (by decide) (by decide)⟩, ⟨L, b⟩, ⟨c, cc.fm f (by decide) (by decide)⟩, d.fm f (by decide) (by decide), e.fm f (by decide), m.fm f (by decide) (by decide)⟩
theorem IV.feed {L k : Nat} {b v : Int64} (x : IV h) (B : Vb h L) (hk : L + k ≤ 9000) : IV (g_feed b k 0 L (g_thr (xw_J (f_feed b k 0 h) 156 0 v) 0)) := by
  obtain ⟨hL, e6, e12, sr, hb⟩ := B
  obtain ⟨p1, p2, p3, p4⟩ := FP_f (b := b) k 0 L h e6 hk
  have f1 : BQ h (g_thr (xw_J (f_feed b k 0 h) 156 0 v) 0) := (((fm_fr p1 (by decide)).mono (by decide) (by decide) (fun z => z)).trans (fm_J2 (by decide) (by decide))).trans (fm_F (by decide))
  have k1 : ∀ a, a ≠ 141 → (g_thr (xw_J (f_feed b k 0 h) 156 0 v) 0).1 a = (f_feed b k 0 h).1 a := fun a ha => xI_k ha
  have m12 : (g_thr (xw_J (f_feed b k 0 h) 156 0 v) 0).1 141 12 = nI L := by rw [xI_j (by decide), xJ_1, fr1 p1 (by decide)]; exact e12
  have m148 : (g_thr (xw_J (f_feed b k 0 h) 156 0 v) 0).1 148 = h.1 148 := by rw [k1 148 (by decide), fr1 p1 (by decide)]
  generalize g_thr (xw_J (f_feed b k 0 h) 156 0 v) 0 = g at f1 k1 m12 m148 ⊢
  obtain ⟨q1, q2, q3, q4⟩ := HP_g (b := b) k 0 L g m12 hk
  refine x.bytes (L := L + k) (f1.trans (q1.mono (by decide) (by decide) (fun z => z))) ⟨hk, ?_, q2, fun i hi => ?_, fun q hq => ?_⟩
  · rw [fmk q1 (k := 6) (by decide) (by decide), k1 6 (by decide)]; exact p2
  · by_cases c : L ≤ i ∧ i < L + k
    · have := q3 (i - L) (by omega)
      rw [show L + (i - L) = i by omega] at this
      rw [this]
      exact byte64_s _
    · rw [q4 i (by omega), m148]; exact sr i hi
  · rw [fmk q1 (k := 7) (by decide) (by decide), k1 7 (by decide)]
    by_cases c : q < L
    · rw [p4 q c, q4 q (Or.inl c), m148]; exact hb q c
    · have u1 := p3 (q - L) (by omega)
      have u2 := q3 (q - L) (by omega)
      rw [show L + (q - L) = q by omega] at u1 u2
      rw [u1, u2, byte64]
theorem IV.cut {L k : Nat} {v : Int64} (x : IV h) (B : Vb h L) (hk : k ≤ L) : IV (xw_I (g_thr (xw_J (xw_I h 6 1 (nI k)) 156 0 v) 0) 141 12 (nI k)) := by
  obtain ⟨hL, e6, e12, sr, hb⟩ := B
  have f : BQ h (xw_I (g_thr (xw_J (xw_I h 6 1 (nI k)) 156 0 v) 0) 141 12 (nI k)) := (((fm_I (by decide) (by decide)).trans (fm_J2 (by decide) (by decide))).trans (fm_F (by decide))).trans (fm_F (by decide))
  have e7 : (xw_I (g_thr (xw_J (xw_I h 6 1 (nI k)) 156 0 v) 0) 141 12 (nI k)).1 7 = h.1 7 := by rw [xI_k (by decide), xI_k (by decide), xJ_1, xI_k (by decide)]
  have e8 : (xw_I (g_thr (xw_J (xw_I h 6 1 (nI k)) 156 0 v) 0) 141 12 (nI k)).1 148 = h.1 148 := by rw [xI_k (by decide), xI_k (by decide), xJ_1, xI_k (by decide)]
  refine x.bytes (L := k) f ⟨by omega, ?_, xI_e, fun i hi => ?_, fun q hq => ?_⟩
  · rw [xI_k (by decide), xI_k (by decide), xJ_1, xI_e]
  · rw [e8]; exact sr i hi
  · rw [e7, e8]; exact hb q (by omega)
theorem fset_eq {L q : Nat} {v : Int32} (e6 : h.1 6 1 = nI L) (hL : L ≤ 9000) (hq : q < L) : f_set h (nI q) v = xw_I h 7 q v.toInt8.toInt32 := by
  unfold f_set
  rw [if_neg (nI_pos (by omega)), show v_bytes_length h = nI L from e6, if_neg (nI_ge (by omega) (by omega)), nI_clamp (by omega)]
theorem fget_eq {L q : Nat} (B : Vb h L) (hq : q < L) : f_get h (nI q) = h.1 148 q := by
  obtain ⟨hL, e6, e12, sr, hb⟩ := B
  unfold f_get
  rw [if_neg (nI_pos (by omega)), show v_bytes_length h = nI L from e6, if_neg (nI_ge (by omega) (by omega)), nI_clamp (by omega)]
  exact hb q hq
/-- a byte is put at the place q of both -/
theorem Vb.put {L q e : Nat} {v : Int32} (B : Vb h L) (hq : q < L) (he : e < 256) (hv : v &&& 255 = nI e) : Vb (xw_I (xw_I h 7 q v.toInt8.toInt32) 148 q (nI e)) L := by
  obtain ⟨hL, e6, e12, sr, hb⟩ := B
  refine ⟨hL, ?_, ?_, fun i hi => ?_, fun i hi => ?_⟩
  · rw [xI_k (by decide), xI_k (by decide)]; exact e6
  · rw [xI_k (by decide), xI_k (by decide)]; exact e12
  · by_cases c : i = q
    · subst c; exact ⟨e, he, xI_e⟩
    · rw [xI_j c, xI_k (by decide)]; exact sr i hi
  · by_cases c : i = q
    · subst c; rw [xI_k (by decide), xI_e, xI_e, bp_b, hv]
    · rw [xI_k (by decide), xI_j c, xI_j c, xI_k (by decide)]; exact hb i hi
theorem and255 {e : Nat} (he : e < 2 ^ 32) : nI e &&& 255 = nI (e % 256) := pk_andN he 8 rfl
/-- the two tables that differ in bytes, answer and thrown alone -/
theorem Vb.of {L : Nat} {g : xw_H} (B : Vb g L) (e6 : h'.1 6 1 = g.1 6 1) (e12 : h'.1 141 12 = g.1 141 12) (e7 : h'.1 7 = g.1 7) (e8 : h'.1 148 = g.1 148) : Vb h' L := by
  unfold Vb SR
  rw [e6, e12, e7, e8]
  exact B
theorem IV.spoil {L q : Nat} {v : Int32} {w : Int64} (x : IV h) (B : Vb h L) (hq : q < L) (hv : ¬ (v < 0 ∨ 255 < v)) : IV (xw_I (g_thr (xw_J (f_set h (nI q) v) 156 0 w) 0) 148 q v) := by
  obtain ⟨e, he, rfl⟩ : ∃ e : Nat, e < 256 ∧ v = nI e := by
    simp only [not_or, Int32.not_lt] at hv
    obtain ⟨e, he, rfl⟩ := nI_of (Int32.not_lt.mpr hv.1)
    exact ⟨e, by have := (nI_leI (b := 255) he (by decide)).mp hv.2; omega, rfl⟩
  have P := B.put hq he (v := nI e) (by rw [and255 (by omega), Nat.mod_eq_of_lt he])
  rw [fset_eq B.2.1 B.1 hq]
  refine x.bytes (L := L) (((((fm_I (by decide) (by decide)).trans (fm_J2 (by decide) (by decide))).trans (fm_F (by decide))).trans (fm_I (by decide) (by decide)))) (P.of ?_ ?_ ?_ ?_)
  · simp [xw_I, xw_J, va_up]
  · simp [xw_I, xw_J, va_up, upd]
  · simp [xw_I, xw_J, va_up]
  · simp [xw_I, xw_J, va_up]
/-- the bits of the stream -/
theorem ByF_sb {L q : Nat} (B : Vb h L) (hq : q < L) : ByF (h.1 148 q) (sb h) q := by
  obtain ⟨hL, e6, e12, sr, hb⟩ := B
  obtain ⟨s, hs, es⟩ := sr q (by omega)
  refine ⟨s, hs, es, fun t ht => ?_⟩
  unfold sb
  rw [show (8 * q + t) / 8 = q by omega, show (8 * q + t) % 8 = t by omega, es, pk_tn (by omega)]
theorem fcheck_eq {L a b : Nat} {n : Int32} {g : xw_H} (B : Vb h L) (hb : b ≤ L) (hn : n = 8 ∨ n = 16) (eg : ∀ q, q < L → g.1 148 q = h.1 148 q) : ∃ c, c < 2 ^ 16 ∧ (n = 8 → c < 256) ∧ f_check h n a b = nI c ∧ g_check g n a b = nI c := by
  rcases hn with rfl | rfl
  · refine ⟨crI 8 7 (sb h) (8 * a) (8 * (b - a)) 0, ?_, fun _ => crI_lt (by decide) (by decide) _, f_check_I (Or.inl ⟨rfl, rfl, rfl⟩) (fun q _ h2 => by rw [fget_eq B (by omega)]; exact ByF_sb B (by omega)), g_check_I (Or.inl ⟨rfl, rfl, rfl⟩) (fun q _ h2 => by rw [eg q (by omega)]; exact ByF_sb B (by omega))⟩
    have : crI 8 7 (sb h) (8 * a) (8 * (b - a)) 0 < 2 ^ 8 := crI_lt (by decide) (by decide) _
    omega
  · exact ⟨crI 16 32773 (sb h) (8 * a) (8 * (b - a)) 0, crI_lt (by decide) (by decide) _, fun z => absurd z (by decide), f_check_I (Or.inr ⟨rfl, rfl, rfl⟩) (fun q _ h2 => by rw [fget_eq B (by omega)]; exact ByF_sb B (by omega)), g_check_I (Or.inr ⟨rfl, rfl, rfl⟩) (fun q _ h2 => by rw [eg q (by omega)]; exact ByF_sb B (by omega))⟩
theorem IV.seal {L a b : Nat} {n : Int32} (x : IV h) (B : Vb h L) (hn : n = 8 ∨ n = 16) (hb : b < L) (hb2 : n = 16 → b + 1 < L) : IV (g_seal (g_thr (f_seal h n a b) 0) n a b) := by
  have f7 : fr [7] h (f_seal h n a b) := by
    unfold f_seal
    split
    · exact fr_set.trans fr_set
    · exact fr_set
  have e48 : (g_thr (f_seal h n a b) 0).1 148 = h.1 148 := by rw [xI_k (by decide), fr1 f7 (by decide)]
  obtain ⟨c, hc, hc8, ef, eg⟩ := fcheck_eq (a := a) (b := b) (g := g_thr (f_seal h n a b) 0) B (by omega) hn (fun q _ => by rw [e48])
  have fA : BQ h (g_seal (g_thr (f_seal h n a b) 0) n a b) := by
    have f0 : BQ h (g_thr (f_seal h n a b) 0) := ((fm_fr f7 (by decide)).mono (by decide) (by decide) (fun z => z)).trans (fm_F (by decide))
    unfold g_seal
    split
    · exact (f0.trans (fm_I (by decide) (by decide))).trans (fm_I (by decide) (by decide))
    · exact f0.trans (fm_I (by decide) (by decide))
  refine x.bytes (L := L) fA ?_
  unfold g_seal
  rw [eg]
  unfold f_seal
  rw [ef]
  have sh : nI c >>> ((8 : Int32) &&& 31) = nI (c / 256) := pk_shrN (by omega) _ 8 rfl
  rcases hn with rfl | rfl
  · rw [if_neg (by decide), if_neg (by decide), fset_eq B.2.1 B.1 hb]
    have P := B.put hb (hc8 rfl) (v := nI c) (by rw [and255 (by omega), Nat.mod_eq_of_lt (hc8 rfl)])
    refine P.of ?_ ?_ ?_ ?_
    · rw [xI_k (by decide), xI_k (by decide)]; simp [xw_I, va_up]
    · rw [xI_k (by decide), xI_j (by decide)]; simp [xw_I, va_up]
    · simp [xw_I, va_up]
    · simp [xw_I, va_up]
  · rw [if_pos rfl, if_pos rfl, fset_eq B.2.1 B.1 hb, sh]
    have P := B.put hb (e := c / 256) (by omega) (v := nI (c / 256)) (by rw [and255 (by omega), Nat.mod_eq_of_lt (by omega)])
    have P2 := P.put (hb2 rfl) (e := c % 256) (by omega) (v := nI c) (and255 (by omega))
    rw [fset_eq (L := L) (by rw [xI_k (by decide)]; exact B.2.1) B.1 (hb2 rfl), and255 (by omega)]
    refine P2.of ?_ ?_ ?_ ?_
    · simp [xw_I, va_up]
    · simp [xw_I, va_up, upd]
    · simp [xw_I, va_up]
    · simp [xw_I, va_up]
end S9s
