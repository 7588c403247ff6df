/-! WHAT HOLDS BETWEEN THE CALLS: class and model hold the same -/
def VF (C D b r : Nat) : Prop := (1 ≤ C ∧ C ≤ 2) ∧ (4 ≤ D ∧ D ≤ 24) ∧ (16 ≤ b ∧ b ≤ 1024) ∧ 1 ≤ r ∧ r ≤ 655350
/-- form and rows -/
def Va (h : xw_H) (C D b r n0 n1 : Nat) : Prop := VF C D b r ∧ (n0 ≤ 1200 ∧ n1 ≤ 1200) ∧ (h.1 1 0 = nI C ∧ h.1 1 1 = nI D ∧ h.1 1 2 = nI b ∧ h.1 1 3 = nI r) ∧ (h.1 141 3 = nI C ∧ h.1 141 4 = nI D ∧ h.1 141 5 = nI b ∧ h.1 141 6 = nI r) ∧
  (h.1 5 0 = nI n0 ∧ h.1 5 1 = nI n1 ∧ h.1 145 0 = nI n0 ∧ h.1 145 1 = nI n1) ∧ (∀ i, i < 1200 → h.1 3 i = h.1 144 i ∧ h.1 4 i = h.1 144 (1200 + i)) ∧ inD (h.1 3) n0 D ∧ inD (h.1 4) n1 D
/-- bytes -/
def Vb (h : xw_H) (L : Nat) : Prop := L ≤ 9000 ∧ h.1 6 1 = nI L ∧ h.1 141 12 = nI L ∧ SR h ∧ ∀ q, q < L → h.1 7 q &&& 255 = h.1 148 q
/-- notes of the frames -/
def Vc (h : xw_H) (f : Nat) : Prop := f ≤ 75 ∧ h.1 10 9 = nI f ∧ h.1 141 15 = nI f ∧ ∀ j, j < f → ∀ t, t < 9 → h.1 (12 + j) t = h.1 149 (9 * j + t)
/-- nothing is heard; a stream is heard -/
def Vd0 (h : xw_H) : Prop := (h.1 132 5 = 0 ∧ h.1 141 21 = 0) ∧ h.1 133 2 = h.1 141 22 ∧ f_place h = h.1 141 23 ∧ h.1 140 0 = 0 ∧ h.1 140 1 = 0
def Vd1 (h : xw_H) (ch m : Nat) : Prop := (h.1 132 5 = 1 ∧ h.1 141 21 = 1) ∧ (h.1 133 2 = 0 ∧ h.1 141 22 = 0 ∧ h.1 141 23 = -1) ∧ (1 ≤ ch ∧ ch ≤ 2 ∧ m ≤ 1200) ∧ (h.1 136 0 = nI ch ∧ h.1 141 28 = nI ch) ∧
  (h.1 136 1 = h.1 141 29 ∧ h.1 136 2 = h.1 141 26 ∧ h.1 136 3 = h.1 141 27 ∧ h.1 132 11 = h.1 141 34 ∧ h.1 132 6 = h.1 141 32) ∧ (h.1 140 0 = nI m ∧ h.1 140 1 = nI (if ch = 2 then m else 0) ∧ h.1 141 33 = nI m) ∧ ∀ i, i < m → h.1 138 i = h.1 153 i ∧ (ch = 2 → h.1 139 i = h.1 153 (1200 + i))
def Vd (h : xw_H) : Prop := Vd0 h ∨ ∃ ch m, Vd1 h ch m
def Ve (h : xw_H) : Prop := h.1 87 1 = 0 ∧ h.1 87 2 = 0
def IV (h : xw_H) : Prop := (∃ C D b r n0 n1, Va h C D b r n0 n1) ∧ (∃ L, Vb h L) ∧ (∃ f, Vc h f) ∧ Vd h ∧ Ve h ∧ MC h
section S9r
variable {h h' : xw_H} {S T : List Nat} {bb : Bool}
theorem Va.fm {C D b r n0 n1 : Nat} (x : Va h C D b r n0 n1) (f : fm S T bb h h') (h1 : ∀ k ∈ [1, 3, 4, 5, 144, 145], k ∉ S) (h2 : ∀ j ∈ [3, 4, 5, 6], j ∉ T) : Va h' C D b r n0 n1 := by
  unfold Va
  rw [fmk f (h1 1 (by decide)) (by decide), fmk f (h1 3 (by decide)) (by decide), fmk f (h1 4 (by decide)) (by decide), fmk f (h1 5 (by decide)) (by decide), fmk f (h1 144 (by decide)) (by decide), fmk f (h1 145 (by decide)) (by decide), f.2.1 3 (h2 3 (by decide)), f.2.1 4 (h2 4 (by decide)), f.2.1 5 (h2 5 (by decide)), f.2.1 6 (h2 6 (by decide))]
  exact x
theorem Vb.fm {L : Nat} (x : Vb h L) (f : fm S T bb h h') (h1 : ∀ k ∈ [6, 7, 148], k ∉ S) (h2 : 12 ∉ T) : Vb h' L := by
  unfold Vb SR
  rw [fmk f (h1 6 (by decide)) (by decide), fmk f (h1 7 (by decide)) (by decide), fmk f (h1 148 (by decide)) (by decide), f.2.1 12 h2]
  exact x
theorem Vc.fm {c : Nat} (x : Vc h c) (f : fm S T bb h h') (h1 : ∀ k ∈ 10 :: 149 :: List.range' 12 75, k ∉ S) (h2 : 15 ∉ T) : Vc h' c := by
  obtain ⟨x1, x2, x3, x4⟩ := x
  refine ⟨x1, ?_, ?_, fun j hj t ht => ?_⟩
  · rw [fmk f (h1 10 (by decide)) (by decide)]; exact x2
  · rw [f.2.1 15 h2]; exact x3
  · rw [fmk f (h1 (12 + j) (by simp [List.mem_range'_1]; omega)) (by omega), fmk f (h1 149 (by decide)) (by decide)]; exact x4 j hj t ht
theorem Vd.fm (x : Vd h) (f : fm S T bb h h') (h1 : ∀ k ∈ [132, 133, 136, 138, 139, 140, 153], k ∉ S) (h2 : ∀ j ∈ [21, 22, 23, 26, 27, 28, 29, 32, 33, 34], j ∉ T) : Vd h' := by
  have e132 := fmk f (h1 132 (by decide)) (by decide)
  have e133 := fmk f (h1 133 (by decide)) (by decide)
  have e136 := fmk f (h1 136 (by decide)) (by decide)
  have e138 := fmk f (h1 138 (by decide)) (by decide)
  have e139 := fmk f (h1 139 (by decide)) (by decide)
  have e140 := fmk f (h1 140 (by decide)) (by decide)
  have e153 := fmk f (h1 153 (by decide)) (by decide)
  rcases x with x | ⟨ch, m, x⟩
  · refine Or.inl ?_
    unfold Vd0 f_place v_reader_fault v_reader_place at *
    rw [e132, e133, e140, f.2.1 21 (h2 21 (by decide)), f.2.1 22 (h2 22 (by decide)), f.2.1 23 (h2 23 (by decide))]
    exact x
  · refine Or.inr ⟨ch, m, ?_⟩
    unfold Vd1 at *
    rw [e132, e133, e136, e138, e139, e140, e153, f.2.1 21 (h2 21 (by decide)), f.2.1 22 (h2 22 (by decide)), f.2.1 23 (h2 23 (by decide)), f.2.1 26 (h2 26 (by decide)), f.2.1 27 (h2 27 (by decide)), f.2.1 28 (h2 28 (by decide)), f.2.1 29 (h2 29 (by decide)), f.2.1 32 (h2 32 (by decide)), f.2.1 33 (h2 33 (by decide)), f.2.1 34 (h2 34 (by decide))]
    exact x
theorem Ve.fm (x : Ve h) (f : fm S T bb h h') (h1 : 87 ∉ S) : Ve h' := by
  unfold Ve
  rw [fmk f h1 (by decide)]
  exact x
theorem fm_J2 {C F : List Nat} {b : Bool} {h : xw_H} {k j : Nat} {v : Int64} (hk : k ∈ C) (h1 : k ≠ 141) : fm C F b h (xw_J h k j v) :=
  ⟨fun a ha _ => ⟨rfl, xJ_k (fun q => ha (q ▸ hk))⟩, fun _ _ => rfl, fun _ => xJ_k (fun q => h1 q.symm)⟩
/-- the answer's place, what was thrown, and the places of the sums -/
abbrev QF (h h' : xw_H) : Prop := fm [8, 9, 146, 147, 156] [2] false h h'
theorem IV.quiet (x : IV h) (f : QF h h') : IV h' := by
  obtain ⟨⟨C, D, b, r, n0, n1, a⟩, ⟨L, b9⟩, ⟨c, cc⟩, d, e, m⟩ := x
  exact ⟨⟨C, D, b, r, n0, n1, a.fm f (by decide) (by decide)⟩, ⟨L, b9.fm f (by decide) (by decide)⟩, ⟨c, cc.fm f (by decide) (by decide)⟩, d.fm f (by decide) (by decide), e.fm f (by decide), m.fm f (by decide) (by decide)⟩
/-- the form -/
theorem noF {c d b r : Int32} (x : ¬ f_noForm c d b r) : ∃ C D B R : Nat, VF C D B R ∧ c = nI C ∧ d = nI D ∧ b = nI B ∧ r = nI R := by
  unfold f_noForm at x
  simp only [not_or, Int32.not_lt] at x
  obtain ⟨⟨c1, c2, d1, d2⟩, b1, b2, r1, r2⟩ := x
  have key : ∀ {x : Int32} {lo hi : Nat}, lo < 2 ^ 31 → hi < 2 ^ 31 → nI lo ≤ x → x ≤ nI hi → ∃ n : Nat, lo ≤ n ∧ n ≤ hi ∧ x = nI n := by
    intro x lo hi hl hh e1 e2
    have p0 : ¬ x < 0 := by
      rw [Int32.not_lt]
      exact Int32.le_trans (nI_pos' hl) e1
    obtain ⟨n, hn, rfl⟩ := nI_of p0
    exact ⟨n, (nI_leI hl hn).mp e1, (nI_leI hn hh).mp e2, rfl⟩
  obtain ⟨C, q1, q2, e1⟩ := key (lo := 1) (hi := 2) (by decide) (by decide) c1 c2
  obtain ⟨D, q3, q4, e2⟩ := key (lo := 4) (hi := 24) (by decide) (by decide) d1 d2
  obtain ⟨B, q5, q6, e3⟩ := key (lo := 16) (hi := 1024) (by decide) (by decide) b1 b2
  obtain ⟨R, q7, q8, e4⟩ := key (lo := 1) (hi := 655350) (by decide) (by decide) r1 r2
  exact ⟨C, D, B, R, ⟨⟨q1, q2⟩, ⟨q3, q4⟩, ⟨q5, q6⟩, q7, q8⟩, e1, e2, e3, e4⟩
theorem IV.form {c d b r : Int32} (x : IV h) (n : ¬ f_noForm c d b r) : IV (g_form (f_empty_rows (f_shape_rows h c d b r)) c d b r) := by
  obtain ⟨C, D, B, R, hV, rfl, rfl, rfl, rfl⟩ := noF n
  have f : fm [1, 5, 145] [2, 3, 4, 5, 6] false h (g_form (f_empty_rows (f_shape_rows h (nI C) (nI D) (nI B) (nI R))) (nI C) (nI D) (nI B) (nI R)) := by
    unfold g_form f_empty_rows f_shape_rows
    exact ((((((((((((fm_I (by decide) (by decide)).trans (fm_I (by decide) (by decide))).trans (fm_I (by decide) (by decide))).trans (fm_I (by decide) (by decide))).trans (fm_I (by decide) (by decide))).trans (fm_I (by decide) (by decide))).trans (fm_F (by decide))).trans (fm_F (by decide))).trans (fm_F (by decide))).trans (fm_F (by decide))).trans (fm_F (by decide))).trans (fm_I (by decide) (by decide))).trans (fm_I (by decide) (by decide))
  obtain ⟨⟨C', D', b', r', n0, n1, a⟩, ⟨L, b9⟩, ⟨c, cc⟩, dd, e, m⟩ := x
  refine ⟨⟨C, D, B, R, 0, 0, hV, ⟨by omega, by omega⟩, ?_, ?_, ?_, fun i hi => ?_, fun i hi => absurd hi (Nat.not_lt_zero _), fun i hi => absurd hi (Nat.not_lt_zero _)⟩, ⟨L, b9.fm f (by decide) (by decide)⟩, ⟨c, cc.fm f (by decide) (by decide)⟩, dd.fm f (by decide) (by decide), e.fm f (by decide), m.fm f (by decide) (by decide)⟩
  · unfold g_form f_empty_rows f_shape_rows
    simp [xw_I, va_up, upd]
  · unfold g_form f_empty_rows f_shape_rows
    simp [xw_I, va_up, upd]
  · unfold g_form f_empty_rows f_shape_rows
    simp [xw_I, va_up, upd, nI_0]
  · rw [fmk f (k := 3) (by decide) (by decide), fmk f (k := 4) (by decide) (by decide), fmk f (k := 144) (by decide) (by decide)]
    exact a.2.2.2.2.2.1 i hi
theorem IV.clear (x : IV h) : IV (g_clear (f_empty_rows h)) := by
  have f : fm [5, 145] [2] false h (g_clear (f_empty_rows h)) := by
    unfold g_clear f_empty_rows
    exact ((((fm_I (by decide) (by decide)).trans (fm_I (by decide) (by decide))).trans (fm_F (by decide))).trans (fm_I (by decide) (by decide))).trans (fm_I (by decide) (by decide))
  obtain ⟨⟨C, D, b, r, n0, n1, a⟩, ⟨L, b9⟩, ⟨c, cc⟩, dd, e, m⟩ := x
  refine ⟨⟨C, D, b, r, 0, 0, a.1, ⟨by omega, by omega⟩, ?_, ?_, ?_, fun i hi => ?_, fun i hi => absurd hi (Nat.not_lt_zero _), fun i hi => absurd hi (Nat.not_lt_zero _)⟩, ⟨L, b9.fm f (by decide) (by decide)⟩, ⟨c, cc.fm f (by decide) (by decide)⟩, dd.fm f (by decide) (by decide), e.fm f (by decide), m.fm f (by decide) (by decide)⟩
  · rw [fmk f (k := 1) (by decide) (by decide)]; exact a.2.2.1
  · rw [f.2.1 3 (by decide), f.2.1 4 (by decide), f.2.1 5 (by decide), f.2.1 6 (by decide)]; exact a.2.2.2.1
  · unfold g_clear f_empty_rows
    simp [xw_I, va_up, upd, nI_0]
  · rw [fmk f (k := 3) (by decide) (by decide), fmk f (k := 4) (by decide) (by decide), fmk f (k := 144) (by decide) (by decide)]
    exact a.2.2.2.2.2.1 i hi
/-- what a sample is cut to lies within its depth -/
theorem wrap_in {D : Nat} {v : Int32} (h1 : 4 ≤ D) (h2 : D ≤ 24) : -(2 ^ (D - 1)) ≤ (f_wrap (nI D) v).toInt ∧ (f_wrap (nI D) v).toInt < 2 ^ (D - 1) := by
  have sm : ∀ d, d < 25 → 4 ≤ d → ((((32 - nI d) &&& 31 : Int32).toBitVec).smod 32).toNat = 32 - d := by decide +kernel
  have hk := sm D (by omega) h1
  unfold f_wrap
  rw [ishr_toInt _ _ _ hk, Int.shiftRight_eq_div_pow]
  generalize v <<< ((32 - nI D) &&& 31) = a
  have b1 := a.le_toInt
  have b2 := a.toInt_lt
  have hp : (2 : Int) ^ (D - 1) * 2 ^ (32 - D) = 2 ^ 31 := by rw [← Int.pow_add]; congr 1; omega
  have hpos : (0 : Int) < 2 ^ (32 - D) := Int.pow_pos (by decide)
  have e : ((2 ^ (32 - D) : Nat) : Int) = 2 ^ (32 - D) := by simp
  rw [e]
  constructor
  · rw [Int.le_ediv_iff_mul_le hpos, Int.neg_mul, hp]; exact b1
  · rw [Int.ediv_lt_iff_lt_mul hpos, hp]; exact b2
/-- k values w are put behind the m of row c: the class's rows -/
def AP (h h' : xw_H) (d : Int32) (c m k : Nat) (w : Nat → Int32) : Prop := fr [3 + c, 5] h h' ∧ h'.1 5 c = nI (m + k) ∧ (∀ j, j ≠ c → h'.1 5 j = h.1 5 j) ∧ (∀ i, i < k → h'.1 (3 + c) (m + i) = f_wrap d (w i)) ∧ ∀ i, (i < m ∨ m + k ≤ i) → h'.1 (3 + c) i = h.1 (3 + c) i
def GP (h h' : xw_H) (d : Int32) (c m k : Nat) (w : Nat → Int32) : Prop := fr [144, 145] h h' ∧ h'.1 145 c = nI (m + k) ∧ (∀ j, j ≠ c → h'.1 145 j = h.1 145 j) ∧ (∀ i, i < k → h'.1 144 (1200 * c + (m + i)) = f_wrap d (w i)) ∧ ∀ i, (i < 1200 * c + m ∨ 1200 * c + (m + k) ≤ i) → h'.1 144 i = h.1 144 i
theorem AP_0 {d : Int32} {c m : Nat} {w : Nat → Int32} (e : h.1 5 c = nI m) : AP h h d c m 0 w := ⟨fr.rfl, e, fun _ _ => rfl, fun i hi => absurd hi (Nat.not_lt_zero _), fun _ _ => rfl⟩
theorem GP_0 {d : Int32} {c m : Nat} {w : Nat → Int32} (e : h.1 145 c = nI m) : GP h h d c m 0 w := ⟨fr.rfl, e, fun _ _ => rfl, fun i hi => absurd hi (Nat.not_lt_zero _), fun _ _ => rfl⟩
theorem AP_s {g : xw_H} {c m k : Nat} {v : Int32} {w : Nat → Int32} (hc : c < 2) (e : h.1 5 c = nI m) (hm : m < 1200) (hw : w 0 = v) (x : AP (f_append_rows h c v) g (h.1 1 1) c (m + 1) k (fun i => w (i + 1))) : AP h g (h.1 1 1) c m (k + 1) w := by
  obtain ⟨x1, x2, x3, x4, x5⟩ := x
  have ec : (h.1 5 c).toNatClampNeg = m := by rw [e]; exact nI_clamp (by omega)
  have f0 : fr [3 + c, 5] h (f_append_rows h c v) := by
    unfold f_append_rows
    exact (fr_I (by simp)).I (by simp)
  refine ⟨f0.trans x1, ?_, fun j hj => ?_, fun i hi => ?_, fun i hi => ?_⟩
  · rw [x2]; congr 1; omega
  · rw [x3 j hj]
    unfold f_append_rows
    rw [xI_j hj, xI_k (by omega)]
  · cases i with
    | zero =>
      rw [x5 (m + 0) (by omega)]
      unfold f_append_rows
      rw [xI_k (by omega), ec, Nat.add_zero, xI_e, hw]
    | succ i =>
      have := x4 i (by omega)
      rw [show m + (i + 1) = m + 1 + i by omega]
      exact this
  · rw [x5 i (by omega)]
    unfold f_append_rows
    rw [xI_k (by omega), ec, xI_j (by omega)]
theorem GP_s {g : xw_H} {c m k : Nat} {v : Int32} {w : Nat → Int32} (hc : c < 2) (hm : m < 1200) (hw : w 0 = v) (x : GP (g_add h c m v) g (h.1 141 4) c (m + 1) k (fun i => w (i + 1))) : GP h g (h.1 141 4) c m (k + 1) w := by
  obtain ⟨x1, x2, x3, x4, x5⟩ := x
  have f0 : fr [144, 145] h (g_add h c m v) := by
    unfold g_add
    exact (fr_I (by decide)).I (by decide)
  refine ⟨f0.trans x1, ?_, fun j hj => ?_, fun i hi => ?_, fun i hi => ?_⟩
  · rw [x2]; congr 1; omega
  · rw [x3 j hj]
    unfold g_add
    rw [xI_j hj, xI_k (by decide)]
  · cases i with
    | zero =>
      rw [x5 _ (by omega)]
      unfold g_add
      rw [xI_k (by decide), Nat.add_zero, xI_e, hw]
    | succ i =>
      have := x4 i (by omega)
      rw [show m + (i + 1) = m + 1 + i by omega]
      exact this
  · rw [x5 i (by omega)]
    unfold g_add
    rw [xI_k (by decide), xI_j (by omega)]
theorem ap_1 {c : Nat} {v : Int32} (hc : c < 2) : (f_append_rows h c v).1 1 = h.1 1 := by
  unfold f_append_rows
  rw [xI_k (by decide), xI_k (by omega)]
theorem ap_5 {c m : Nat} {v : Int32} (e : h.1 5 c = nI m) : (f_append_rows h c v).1 5 c = nI (m + 1) := by
  unfold f_append_rows
  rw [xI_e, e, nI_1]
theorem AP_ramp {c : Nat} {step : Int32} (hc : c < 2) : ∀ (k m : Nat) (v : Int32) (h : xw_H), h.1 5 c = nI m → m + k ≤ 1200 → AP h (f_ramp c step k v h) (h.1 1 1) c m k (fun i => v + nI i * step) := by
  intro k
  induction k with
  | zero => intro m v h e _; exact AP_0 e
  | succ k ih =>
    intro m v h e hm
    have x := ih (m + 1) (v + step) (f_append_rows h c v) (ap_5 e) (by omega)
    rw [ap_1 hc] at x
    refine AP_s hc e (by omega) (v := v) (by show v + nI 0 * step = v; rw [nI_0]; simp) ?_
    have ew : (fun i => v + step + nI i * step) = fun i => v + nI (i + 1) * step := by
      funext i
      rw [← nI_1, Int32.add_mul, Int32.one_mul, Int32.add_assoc, Int32.add_comm step]
    rw [ew] at x
    exact x
def nxt : Nat → Int32 → Int32
  | 0, v => v
  | k + 1, v => nxt k (f_next v)
theorem AP_noise {c : Nat} {bits : Int32} (hc : c < 2) : ∀ (k m : Nat) (v : Int32) (h : xw_H), h.1 5 c = nI m → m + k ≤ 1200 → AP h (f_noise c bits k v h) (h.1 1 1) c m k (fun i => nxt (i + 1) v >>> ((32 - bits) &&& 31)) := by
  intro k
  induction k with
  | zero => intro m v h e _; exact AP_0 e
  | succ k ih =>
    intro m v h e hm
    have x := ih (m + 1) (f_next v) (f_append_rows h c (f_next v >>> ((32 - bits) &&& 31))) (ap_5 e) (by omega)
    rw [ap_1 hc] at x
    exact AP_s hc e (by omega) (v := f_next v >>> ((32 - bits) &&& 31)) rfl x
theorem ga_4 {c m : Nat} {v : Int32} : (g_add h c m v).1 141 = h.1 141 := by
  unfold g_add
  rw [xI_k (by decide), xI_k (by decide)]
theorem GP_ramp {c : Nat} {step v0 : Int32} (hc : c < 2) : ∀ (k i m : Nat) (h : xw_H), h.1 145 c = nI m → m + k ≤ 1200 → GP h (g_ramp c step v0 k i m h) (h.1 141 4) c m k (fun j => v0 + nI (i + j) * step) := by
  intro k
  induction k with
  | zero => intro i m h e _; exact GP_0 e
  | succ k ih =>
    intro i m h e hm
    have x := ih (i + 1) (m + 1) (g_add h c m (v0 + nI i * step)) (by unfold g_add; rw [xI_e]) (by omega)
    rw [ga_4] at x
    refine GP_s hc (by omega) (v := v0 + nI i * step) rfl ?_
    have ew : (fun j => v0 + nI (i + 1 + j) * step) = fun j => v0 + nI (i + (j + 1)) * step := by
      funext j
      rw [show i + 1 + j = i + (j + 1) by omega]
    rw [ew] at x
    exact x
theorem GP_noise {c : Nat} {bits : Int32} (hc : c < 2) : ∀ (k m : Nat) (v : Int32) (h : xw_H), h.1 145 c = nI m → m + k ≤ 1200 → GP h (g_noise c bits k m v h) (h.1 141 4) c m k (fun i => nxt (i + 1) v >>> ((32 - bits) &&& 31)) := by
  intro k
  induction k with
  | zero => intro m v h e _; exact GP_0 e
  | succ k ih =>
    intro m v h e hm
    have x := ih (m + 1) (f_next v) (g_add h c m (f_next v >>> ((32 - bits) &&& 31))) (by unfold g_add; rw [xI_e]) (by omega)
    rw [ga_4] at x
    exact GP_s hc (by omega) (v := f_next v >>> ((32 - bits) &&& 31)) rfl x
/-- both put the same behind the row c -/
theorem IV.app {g g1 : xw_H} {C D b r n0 n1 c m k : Nat} {w : Nat → Int32} {v : Int64} (x : IV h) (a : Va h C D b r n0 n1) (hc : c < 2) (hm : h.1 5 c = nI m) (hk : m + k ≤ 1200) (p : AP h g (nI D) c m k w) (q : GP (g_thr (xw_J g 156 0 v) 0) g1 (nI D) c m k w) : IV g1 := by
  obtain ⟨-, ⟨L, b9⟩, ⟨cn, cc⟩, dd, e, mc⟩ := x
  obtain ⟨p1, p2, p3, p4, p5⟩ := p
  obtain ⟨q1, q2, q3, q4, q5⟩ := q
  have f1 : fm [3, 4, 5] [] false h g := (fm_fr p1 (by simp; omega)).mono (fun z hz => by simp at hz ⊢; omega) (fun z hz => hz) (fun z => z)
  have f : fm [3, 4, 5, 144, 145, 156] [2] false h g1 := (((f1.mono (by decide) (by decide) (fun z => z)).trans (fm_J2 (by decide) (by decide))).trans (fm_F (by decide))).trans ((fm_fr q1 (by decide)).mono (by decide) (by decide) (fun z => z))
  obtain ⟨a1, ⟨l0, l1⟩, a3, a4, ⟨s0, s1, s2, s3⟩, a6, a7, a8⟩ := a
  have hD := a1.2.1
  have k3 : ∀ z, z ≠ 144 → z ≠ 145 → g1.1 z = (g_thr (xw_J g 156 0 v) 0).1 z := fun z h1 h2 => fr1 q1 (by simp; omega)
  have kg : ∀ z, z ≠ 144 → z ≠ 145 → z ≠ 141 → g1.1 z = g.1 z := fun z h1 h2 h3 => by rw [k3 z h1 h2, xI_k h3, xJ_1]
  have rest : (∃ L, Vb g1 L) ∧ (∃ f, Vc g1 f) ∧ Vd g1 ∧ Ve g1 ∧ MC g1 := ⟨⟨L, b9.fm f (by decide) (by decide)⟩, ⟨cn, cc.fm f (by decide) (by decide)⟩, dd.fm f (by decide) (by decide), e.fm f (by decide), mc.fm f (by decide) (by decide)⟩
  refine ⟨?_, rest⟩
  have t0 : ∀ i, (g_thr (xw_J g 156 0 v) 0).1 144 i = h.1 144 i := fun i => by rw [xI_k (by decide), xJ_1, fmk f1 (k := 144) (by decide) (by decide)]
  have t1 : ∀ i, (g_thr (xw_J g 156 0 v) 0).1 145 i = h.1 145 i := fun i => by rw [xI_k (by decide), xJ_1, fmk f1 (k := 145) (by decide) (by decide)]
  have e5 : g1.1 5 = g.1 5 := kg 5 (by decide) (by decide) (by decide)
  have e3 : g1.1 3 = g.1 3 := kg 3 (by decide) (by decide) (by decide)
  have e4 : g1.1 4 = g.1 4 := kg 4 (by decide) (by decide) (by decide)
  have fo : (g1.1 1 0 = nI C ∧ g1.1 1 1 = nI D ∧ g1.1 1 2 = nI b ∧ g1.1 1 3 = nI r) ∧ (g1.1 141 3 = nI C ∧ g1.1 141 4 = nI D ∧ g1.1 141 5 = nI b ∧ g1.1 141 6 = nI r) := by
    rw [fmk f (k := 1) (by decide) (by decide), f.2.1 3 (by decide), f.2.1 4 (by decide), f.2.1 5 (by decide), f.2.1 6 (by decide)]
    exact ⟨a3, a4⟩
  have hc2 : c = 0 ∨ c = 1 := by omega
  rcases hc2 with rfl | rfl
  · have hmn : m = n0 := by
      rw [s0] at hm
      by_cases z : n0 < 2 ^ 31 ∧ m < 2 ^ 31
      · exact ((nI_eq z.1 z.2).mp hm).symm
      · omega
    subst hmn
    refine ⟨C, D, b, r, m + k, n1, a1, ⟨hk, l1⟩, fo.1, fo.2, ⟨?_, ?_, q2, ?_⟩, fun i hi => ⟨?_, ?_⟩, fun i hi => ?_, ?_⟩
    · rw [e5]; exact p2
    · rw [e5, p3 1 (by decide)]; exact s1
    · rw [q3 1 (by decide), t1]; exact s3
    · rw [e3]
      by_cases z : m ≤ i ∧ i < m + k
      · have u1 := p4 (i - m) (by omega)
        have u2 := q4 (i - m) (by omega)
        rw [show m + (i - m) = i by omega] at u1 u2
        rw [show 1200 * 0 + i = i by omega] at u2
        rw [u2]; exact u1
      · rw [q5 i (by omega), t0, show g.1 3 i = h.1 3 i from p5 i (by omega)]
        exact (a6 i hi).1
    · rw [e4, q5 (1200 + i) (by omega), t0, show g.1 4 = h.1 4 from fr1 p1 (by decide)]
      exact (a6 i hi).2
    · rw [e3]
      by_cases z : i < m
      · rw [show g.1 3 i = h.1 3 i from p5 i (by omega)]; exact a7 i z
      · have u1 := p4 (i - m) (by omega)
        rw [show m + (i - m) = i by omega] at u1
        rw [show g.1 3 i = _ from u1]
        exact wrap_in hD.1 hD.2
    · rw [e4, show g.1 4 = h.1 4 from fr1 p1 (by decide)]; exact a8
  · have hmn : m = n1 := by
      rw [s1] at hm
      by_cases z : n1 < 2 ^ 31 ∧ m < 2 ^ 31
      · exact ((nI_eq z.1 z.2).mp hm).symm
      · omega
    subst hmn
    refine ⟨C, D, b, r, n0, m + k, a1, ⟨l0, hk⟩, fo.1, fo.2, ⟨?_, ?_, ?_, q2⟩, fun i hi => ⟨?_, ?_⟩, ?_, fun i hi => ?_⟩
    · rw [e5, p3 0 (by decide)]; exact s0
    · rw [e5]; exact p2
    · rw [q3 0 (by decide), t1]; exact s2
    · rw [e3, q5 i (by omega), t0, show g.1 3 = h.1 3 from fr1 p1 (by decide)]
      exact (a6 i hi).1
    · rw [e4]
      by_cases z : m ≤ i ∧ i < m + k
      · have u1 := p4 (i - m) (by omega)
        have u2 := q4 (i - m) (by omega)
        rw [show m + (i - m) = i by omega] at u1 u2
        rw [show 1200 * 1 + i = 1200 + i by omega] at u2
        rw [u2]; exact u1
      · rw [q5 (1200 + i) (by omega), t0, show g.1 4 i = h.1 4 i from p5 i (by omega)]
        exact (a6 i hi).2
    · rw [e3, show g.1 3 = h.1 3 from fr1 p1 (by decide)]; exact a7
    · rw [e4]
      by_cases z : i < m
      · rw [show g.1 4 i = h.1 4 i from p5 i (by omega)]; exact a8 i z
      · have u1 := p4 (i - m) (by omega)
        rw [show m + (i - m) = i by omega] at u1
        rw [show g.1 4 i = _ from u1]
        exact wrap_in hD.1 hD.2
end S9r
