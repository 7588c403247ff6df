/-! CHECKS: of the class and of the model, both as one number of the stream's bits -/
theorem nI_xor (a b : Nat) : nI a ^^^ nI b = nI (a ^^^ b) := by
  apply Int32.toBitVec_inj.mp
  rw [Int32.toBitVec_xor]
  show BitVec.ofNat 32 a ^^^ BitVec.ofNat 32 b = BitVec.ofNat 32 (a ^^^ b)
  rw [BitVec.ofNat_xor]
theorem and_p2 (c i : Nat) : c &&& 2 ^ i = (c.testBit i).toNat * 2 ^ i := by
  apply Nat.eq_of_testBit_eq
  intro j
  rw [Nat.testBit_and, Nat.testBit_two_pow]
  cases h : c.testBit i
  · by_cases e : i = j
    · subst e; simp [h]
    · simp [e]
  · by_cases e : i = j
    · subst e; simp [h]
    · simp [e]
theorem nI_and (a b : Nat) : nI a &&& nI b = nI (a &&& b) := by
  apply Int32.toBitVec_inj.mp
  rw [Int32.toBitVec_and]
  show BitVec.ofNat 32 a &&& BitVec.ofNat 32 b = BitVec.ofNat 32 (a &&& b)
  rw [BitVec.ofNat_and]
/-- one bit more -/
def cb (w p v : Nat) (b : Bool) : Nat := if (v.testBit (w - 1) ^^ b) = true then ((2 * v) % 2 ^ w) ^^^ p else (2 * v) % 2 ^ w
def crI (w p : Nat) (F : Nat → Bool) (i : Nat) : Nat → Nat → Nat
  | 0, v => v
  | m + 1, v => cb w p (crI w p F i m v) (F (i + m))
theorem cb_lt {w p v : Nat} {b : Bool} (hp : p < 2 ^ w) : cb w p v b < 2 ^ w := by
  have h : (2 * v) % 2 ^ w < 2 ^ w := Nat.mod_lt _ (Nat.two_pow_pos w)
  unfold cb
  split
  · exact Nat.xor_lt_two_pow h hp
  · exact h
theorem crI_lt {w p : Nat} {F : Nat → Bool} {i v : Nat} (hp : p < 2 ^ w) (hv : v < 2 ^ w) : ∀ m, crI w p F i m v < 2 ^ w
  | 0 => hv
  | m + 1 => cb_lt hp
theorem crI_add {w p : Nat} {F : Nat → Bool} {i v : Nat} (m : Nat) : ∀ k, crI w p F i (m + k) v = crI w p F (i + m) k (crI w p F i m v)
  | 0 => rfl
  | k + 1 => by rw [← Nat.add_assoc, crI, crI, crI_add m k, Nat.add_assoc i m k]
theorem crI_congr {w p : Nat} {F G : Nat → Bool} {i i' v : Nat} : ∀ m, (∀ j, j < m → F (i + j) = G (i' + j)) → crI w p F i m v = crI w p G i' m v
  | 0, _ => rfl
  | m + 1, h => by rw [crI, crI, crI_congr m (fun j hj => h j (by omega)), h m (by omega)]
theorem ck_bit_N {w p c : Nat} {hi : Int32} (hw1 : 8 ≤ w) (hw2 : w ≤ 16) (hh : hi = nI (2 ^ (w - 1))) (hm : (hi - 1).toBitVec.toNat = 2 ^ (w - 1) - 1) (hc : c < 2 ^ w) : ck_bit hi (nI p) (nI c) = nI (if c.testBit (w - 1) = true then ((2 * c) % 2 ^ w) ^^^ p else (2 * c) % 2 ^ w) := by
  have hb : (2 : Nat) ^ w ≤ 2 ^ 16 := Nat.pow_le_pow_right (by decide) hw2
  have hb' : (2 : Nat) ^ w = 2 * 2 ^ (w - 1) := by rw [← Nat.pow_succ']; congr 1; omega
  have e1 : (nI c &&& (hi - 1)) <<< ((1 : Int32) &&& 31) = nI ((2 * c) % 2 ^ w) := by
    have hlt : c % 2 ^ (w - 1) < 2 ^ (w - 1) := Nat.mod_lt _ (Nat.two_pow_pos _)
    rw [pk_andN (by omega) (w - 1) hm, pk_shlN _ 1 (by decide) (by omega), hb', Nat.mul_mod_mul_left, Nat.mul_comm, Nat.pow_one]
  have e2 : (nI c &&& hi = 0) ↔ ¬ c.testBit (w - 1) = true := by
    rw [hh, nI_and, and_p2]
    cases h : c.testBit (w - 1)
    · rw [Bool.toNat_false, Nat.zero_mul]
      exact ⟨fun _ q => Bool.noConfusion q, fun _ => rfl⟩
    · have hp : 0 < 2 ^ (w - 1) := Nat.two_pow_pos _
      simp only [Bool.toNat_true, Nat.one_mul, not_true_eq_false, iff_false]
      intro q
      have := (nI_eq (b := 0) (by omega) (by decide)).mp q
      omega
  unfold ck_bit
  rw [e1]
  by_cases c1 : c.testBit (w - 1) = true
  · rw [if_neg (fun q => e2.mp q c1), if_pos c1, nI_xor]
  · rw [if_pos (e2.mpr c1), if_neg c1]
theorem cb_step {w p v e : Nat} (hw1 : 8 ≤ w) : (if (v ^^^ (e * 2 ^ (w - 8))).testBit (w - 1) = true then ((2 * (v ^^^ (e * 2 ^ (w - 8)))) % 2 ^ w) ^^^ p else (2 * (v ^^^ (e * 2 ^ (w - 8)))) % 2 ^ w) = cb w p v (e.testBit 7) ^^^ ((2 * e % 256) * 2 ^ (w - 8)) := by
  have t1 : (v ^^^ (e * 2 ^ (w - 8))).testBit (w - 1) = (v.testBit (w - 1) ^^ e.testBit 7) := by
    rw [Nat.testBit_xor, Nat.testBit_mul_two_pow, show w - 1 - (w - 8) = 7 by omega, decide_eq_true (show w - 8 ≤ w - 1 by omega), Bool.true_and]
  have hb' : (2 : Nat) ^ w = 256 * 2 ^ (w - 8) := by
    rw [show (256 : Nat) = 2 ^ 8 from rfl, ← Nat.pow_add]; congr 1; omega
  have t2 : (2 * (v ^^^ (e * 2 ^ (w - 8)))) % 2 ^ w = ((2 * v) % 2 ^ w) ^^^ ((2 * e % 256) * 2 ^ (w - 8)) := by
    have s : ∀ z : Nat, 2 * z = z <<< 1 := fun z => by rw [Nat.shiftLeft_eq]; omega
    rw [s (v ^^^ _), Nat.shiftLeft_xor_distrib, Nat.xor_mod_two_pow, ← s, ← s, ← Nat.mul_assoc]
    congr 1
    rw [hb', Nat.mul_mod_mul_right]
  rw [t1, t2]
  unfold cb
  split
  · rw [Nat.xor_assoc, Nat.xor_comm _ p, ← Nat.xor_assoc]
  · rfl
theorem ck_bits_N {w p : Nat} {hi : Int32} (hw1 : 8 ≤ w) (hw2 : w ≤ 16) (hp : p < 2 ^ w) (hh : hi = nI (2 ^ (w - 1))) (hm : (hi - 1).toBitVec.toNat = 2 ^ (w - 1) - 1) : ∀ r e v, r ≤ 8 → e < 256 → v < 2 ^ w → ck_bits hi (nI p) r (nI (v ^^^ (e * 2 ^ (w - 8)))) = nI (crI w p (fun t => e.testBit (7 - t)) 0 r v ^^^ ((e * 2 ^ r % 256) * 2 ^ (w - 8))) := by
  intro r
  have hb' : (2 : Nat) ^ w = 256 * 2 ^ (w - 8) := by
    rw [show (256 : Nat) = 2 ^ 8 from rfl, ← Nat.pow_add]; congr 1; omega
  induction r with
  | zero => intro e v _ he hv; rw [ck_bits, crI, Nat.pow_zero, Nat.mul_one, Nat.mod_eq_of_lt he]
  | succ r ih =>
    intro e v hr he hv
    have hlt : v ^^^ (e * 2 ^ (w - 8)) < 2 ^ w := Nat.xor_lt_two_pow hv (by rw [hb']; exact Nat.mul_lt_mul_of_pos_right he (Nat.two_pow_pos _))
    rw [ck_bits, ck_bit_N hw1 hw2 hh hm hlt, cb_step hw1, ih (2 * e % 256) _ (by omega) (Nat.mod_lt _ (by decide)) (cb_lt hp)]
    congr 1
    have e1 : 2 * e % 256 * 2 ^ r % 256 = e * 2 ^ (r + 1) % 256 := by
      rw [Nat.mod_mul_mod, Nat.pow_succ]
      congr 1
      rw [Nat.mul_comm 2 e, Nat.mul_assoc, Nat.mul_comm 2]
    rw [e1]
    congr 1
    rw [Nat.add_comm r 1, crI_add 1 r, show crI w p (fun t => e.testBit (7 - t)) 0 1 v = cb w p v (e.testBit 7) from rfl]
    refine crI_congr r (fun j hj => ?_)
    rw [show (256 : Nat) = 2 ^ 8 from rfl, Nat.testBit_mod_two_pow, decide_eq_true (show 7 - (0 + j) < 8 by omega), Bool.true_and, show 7 - (0 + j) = (6 - j) + 1 by omega, Nat.mul_comm 2 e, show e * 2 = e * 2 ^ 1 from rfl, Nat.testBit_mul_two_pow, decide_eq_true (show 1 ≤ 6 - j + 1 by omega), Bool.true_and]
    congr 1
    omega
/-- byte j of the stream, by its bits F -/
def ByF (x : Int32) (F : Nat → Bool) (j : Nat) : Prop := ∃ e, e < 256 ∧ x = nI e ∧ ∀ t, t < 8 → e.testBit (7 - t) = F (8 * j + t)
theorem ck_row_N {h : xw_H} {w p : Nat} {n hi : Int32} {F : Nat → Bool} (hw1 : 8 ≤ w) (hw2 : w ≤ 16) (hp : p < 2 ^ w) (hh : hi = nI (2 ^ (w - 1))) (hm : (hi - 1).toBitVec.toNat = 2 ^ (w - 1) - 1) (hn : (((n - 8) &&& 31 : Int32).toBitVec.smod 32).toNat = w - 8) : ∀ k j v, v < 2 ^ w → (∀ q, j ≤ q → q < j + k → ByF (f_get h (nI q)) F q) → ck_row h n hi (nI p) k j (nI v) = nI (crI w p F (8 * j) (8 * k) v) := by
  intro k
  have hb' : (2 : Nat) ^ w = 256 * 2 ^ (w - 8) := by
    rw [show (256 : Nat) = 2 ^ 8 from rfl, ← Nat.pow_add]; congr 1; omega
  have hb : (2 : Nat) ^ w ≤ 2 ^ 16 := Nat.pow_le_pow_right (by decide) hw2
  induction k with
  | zero => intro j v _ _; rfl
  | succ k ih =>
    intro j v hv hF
    obtain ⟨e, he, e1, e2⟩ := hF j (Nat.le_refl _) (by omega)
    have hem : e * 2 ^ (w - 8) < 2 ^ w := by rw [hb']; exact Nat.mul_lt_mul_of_pos_right he (Nat.two_pow_pos _)
    rw [ck_row, e1, pk_shlN _ (w - 8) hn (by omega), nI_xor, ck_bits_N hw1 hw2 hp hh hm 8 e v (Nat.le_refl _) he hv]
    rw [show e * 2 ^ 8 % 256 = 0 from Nat.mul_mod_left _ _, Nat.zero_mul, Nat.xor_zero, ih (j + 1) _ (crI_lt hp hv 8) (fun q h1 h2 => hF q (by omega) (by omega))]
    congr 1
    rw [show 8 * (k + 1) = 8 + 8 * k by omega, crI_add 8, show 8 * (j + 1) = 8 * j + 8 by omega]
    congr 1
    exact crI_congr 8 (fun t ht => by rw [Nat.zero_add]; exact e2 t ht)
/-- which checks there are -/
def CW (n : Int32) (w p : Nat) : Prop := (n = 8 ∧ w = 8 ∧ p = 7) ∨ (n = 16 ∧ w = 16 ∧ p = 32773)
theorem f_check_I {h : xw_H} {n : Int32} {w p a b : Nat} {F : Nat → Bool} (hw : CW n w p) (hF : ∀ q, a ≤ q → q < b → ByF (f_get h (nI q)) F q) : f_check h n a b = nI (crI w p F (8 * a) (8 * (b - a)) 0) := by
  unfold f_check ck_pat
  rcases hw with ⟨rfl, rfl, rfl⟩ | ⟨rfl, rfl, rfl⟩
  · rw [if_pos rfl]
    exact ck_row_N (w := 8) (p := 7) (by decide) (by decide) (by decide) (by decide) (by decide) (by decide) (b - a) a 0 (by decide) (fun q h1 h2 => hF q h1 (by omega))
  · rw [if_neg (by decide)]
    exact ck_row_N (w := 16) (p := 32773) (by decide) (by decide) (by decide) (by decide) (by decide) (by decide) (b - a) a 0 (by decide) (fun q h1 h2 => hF q h1 (by omega))
theorem gk_bit_N {w p v e r : Nat} {n al : Int32} (hw1 : 8 ≤ w) (hw2 : w ≤ 16) (hn : (((n - 1) &&& 31 : Int32).toBitVec.smod 32).toNat = w - 1) (hal : al.toBitVec.toNat = 2 ^ w - 1) (hv : v < 2 ^ w) (he : e < 256) (hr : r < 8) : gk_bit n al (nI p) (nI e) (nI r) (nI v) = nI (cb w p v (e.testBit r)) := by
  have hb : (2 : Nat) ^ w ≤ 2 ^ 16 := Nat.pow_le_pow_right (by decide) hw2
  have hb' : (2 : Nat) ^ w = 2 * 2 ^ (w - 1) := by rw [← Nat.pow_succ']; congr 1; omega
  have e1 : (nI v <<< ((1 : Int32) &&& 31)) &&& al = nI ((2 * v) % 2 ^ w) := by
    rw [pk_shlN _ 1 (by decide) (by omega), pk_andN (by omega) w hal, Nat.pow_one, Nat.mul_comm]
  have e2 : (nI e >>> (nI r &&& 31)) &&& 1 = nI (e.testBit r).toNat := by
    have hle : e / 2 ^ r ≤ e := Nat.div_le_self _ _
    rw [pk_shrN (by omega) _ r (s_l r (by omega)), bI_and1, pk_tn (by omega)]
    congr 2
    rw [Nat.testBit_eq_decide_div_mod_eq]
  have hvd : v / 2 ^ (w - 1) < 2 := Nat.div_lt_of_lt_mul (by rw [Nat.mul_comm, ← hb']; exact hv)
  have e3 : nI v >>> ((n - 1) &&& 31) = nI (v.testBit (w - 1)).toNat := by
    rw [pk_shrN (by omega) _ (w - 1) hn]
    congr 1
    rw [Nat.testBit_eq_decide_div_mod_eq]
    have : v / 2 ^ (w - 1) = 0 ∨ v / 2 ^ (w - 1) = 1 := by generalize v / 2 ^ (w - 1) = z at hvd; omega
    rcases this with q | q <;> rw [q] <;> rfl
  unfold gk_bit cb
  rw [e1, e2, e3, nI_xor]
  have e4 : (nI ((v.testBit (w - 1)).toNat ^^^ (e.testBit r).toNat) = 1) ↔ (v.testBit (w - 1) ^^ e.testBit r) = true := by
    cases v.testBit (w - 1) <;> cases e.testBit r <;> decide
  by_cases c : (v.testBit (w - 1) ^^ e.testBit r) = true
  · rw [if_pos (e4.mpr c), if_pos c, nI_xor]
  · rw [if_neg (fun q => c (e4.mp q)), if_neg c]
theorem gk_bits_N {w p e : Nat} {n al : Int32} (hw1 : 8 ≤ w) (hw2 : w ≤ 16) (hp : p < 2 ^ w) (hn : (((n - 1) &&& 31 : Int32).toBitVec.smod 32).toNat = w - 1) (hal : al.toBitVec.toNat = 2 ^ w - 1) (he : e < 256) : ∀ r v, r ≤ 8 → v < 2 ^ w → gk_bits n al (nI p) (nI e) r (nI v) = nI (crI w p (fun t => e.testBit (7 - t)) (8 - r) r v) := by
  intro r
  induction r with
  | zero => intro v _ _; rfl
  | succ r ih =>
    intro v hr hv
    rw [gk_bits, gk_bit_N hw1 hw2 hn hal hv he (by omega), ih _ (by omega) (cb_lt hp)]
    congr 1
    rw [Nat.add_comm r 1, crI_add 1 r, show crI w p (fun t => e.testBit (7 - t)) (8 - (1 + r)) 1 v = cb w p v (e.testBit (7 - (8 - (1 + r)))) from rfl, show 7 - (8 - (1 + r)) = r by omega, show 8 - (1 + r) + 1 = 8 - r by omega]
theorem gk_row_N {h : xw_H} {w p : Nat} {n al : Int32} {F : Nat → Bool} (hw1 : 8 ≤ w) (hw2 : w ≤ 16) (hp : p < 2 ^ w) (hn : (((n - 1) &&& 31 : Int32).toBitVec.smod 32).toNat = w - 1) (hal : al.toBitVec.toNat = 2 ^ w - 1) : ∀ k j v, v < 2 ^ w → (∀ q, j ≤ q → q < j + k → ByF (h.1 148 q) F q) → gk_row h n al (nI p) k j (nI v) = nI (crI w p F (8 * j) (8 * k) v) := by
  intro k
  induction k with
  | zero => intro j v _ _; rfl
  | succ k ih =>
    intro j v hv hF
    obtain ⟨e, he, e1, e2⟩ := hF j (Nat.le_refl _) (by omega)
    rw [gk_row, e1, gk_bits_N hw1 hw2 hp hn hal he 8 v (Nat.le_refl _) hv, ih (j + 1) _ (crI_lt hp hv 8) (fun q h1 h2 => hF q (by omega) (by omega))]
    congr 1
    rw [show 8 * (k + 1) = 8 + 8 * k by omega, crI_add 8, show 8 * (j + 1) = 8 * j + 8 by omega]
    congr 1
    exact crI_congr 8 (fun t ht => by rw [show 8 - 8 + t = t by omega]; exact e2 t ht)
theorem g_check_I {h : xw_H} {n : Int32} {w p a b : Nat} {F : Nat → Bool} (hw : CW n w p) (hF : ∀ q, a ≤ q → q < b → ByF (h.1 148 q) F q) : g_check h n a b = nI (crI w p F (8 * a) (8 * (b - a)) 0) := by
  unfold g_check ck_pat gk_all
  rcases hw with ⟨rfl, rfl, rfl⟩ | ⟨rfl, rfl, rfl⟩
  · rw [if_pos rfl, if_pos rfl]
    exact gk_row_N (w := 8) (p := 7) (by decide) (by decide) (by decide) (by decide) (by decide) (b - a) a 0 (by decide) (fun q h1 h2 => hF q h1 (by omega))
  · rw [if_neg (by decide), if_neg (by decide)]
    exact gk_row_N (w := 16) (p := 32773) (by decide) (by decide) (by decide) (by decide) (by decide) (b - a) a 0 (by decide) (fun q h1 h2 => hF q h1 (by omega))
/-- the check of the bits of a list -/
def crL (w p : Nat) (H : List Bool) : Nat := crI w p (fun j => H.getD j false) 0 H.length 0
