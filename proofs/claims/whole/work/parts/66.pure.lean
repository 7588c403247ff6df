/-! PURE: rests, their folding, what they cost -/
/-- the rests of order o -/
def dl : Nat → (Nat → Int32) → Nat → Int32
  | 0, s, i => s i
  | o + 1, s, i => dl o s i - dl o s (i - 1)
theorem i_sub {x y : Int32} {a b : Int} (hx : -a ≤ x.toInt ∧ x.toInt ≤ a) (hy : -b ≤ y.toInt ∧ y.toInt ≤ b) (hab : a + b < 2 ^ 31) : (x - y).toInt = x.toInt - y.toInt ∧ -(a + b) ≤ (x - y).toInt ∧ (x - y).toInt ≤ a + b := by
  have e : (x - y).toInt = x.toInt - y.toInt := by
    rw [Int32.toInt_sub]
    apply Int.bmod_eq_of_le <;> omega
  omega
theorem dl_b {s : Nat → Int32} {n : Nat} {a : Int} (h : ∀ i, i < n → -a ≤ (s i).toInt ∧ (s i).toInt ≤ a) (ha : a * 16 < 2 ^ 31) : ∀ o, o ≤ 4 → ∀ i, o ≤ i → i < n → -(a * 2 ^ o) ≤ (dl o s i).toInt ∧ (dl o s i).toInt ≤ a * 2 ^ o := by
  intro o
  induction o with
  | zero => intro _ i _ hi; have := h i hi; simp only [dl]; omega
  | succ o ih =>
    intro ho i hoi hi
    have h1 := ih (by omega) i (by omega) hi
    have h2 := ih (by omega) (i - 1) (by omega) (by omega)
    have h3 := h i hi
    have ho2 : o = 0 ∨ o = 1 ∨ o = 2 ∨ o = 3 := by omega
    rw [dl]
    rcases ho2 with rfl | rfl | rfl | rfl
    · have := (i_sub h1 h2 (by omega)).2; omega
    · have := (i_sub h1 h2 (by omega)).2; omega
    · have := (i_sub h1 h2 (by omega)).2; omega
    · have := (i_sub h1 h2 (by omega)).2; omega
/-- a rest folded -/
def fdN (r : Int32) : Nat := if 0 ≤ r.toInt then (2 * r.toInt).toNat else (-2 * r.toInt - 1).toNat
theorem i_of_toInt {x y : Int32} (h : x.toInt = y.toInt) : x = y := Int32.toInt_inj.mp h
theorem fdN_lt {r : Int32} {a : Int} (h : -a ≤ r.toInt ∧ r.toInt ≤ a) : (fdN r : Int) ≤ 2 * a := by
  unfold fdN
  split <;> omega
theorem fold_c {r : Int32} (h : -2 ^ 29 ≤ r.toInt ∧ r.toInt ≤ 2 ^ 29) : (r <<< ((1 : Int32) &&& 31)) ^^^ (r >>> ((31 : Int32) &&& 31)) = nI (fdN r) := by
  by_cases c : 0 ≤ r.toInt
  · obtain ⟨m, hm, rfl⟩ := nI_of (x := r) (by rw [Int32.lt_iff_toInt_lt, Int32.toInt_zero]; omega)
    rw [nI_toInt hm] at c h
    rw [pk_shlN _ 1 (by decide) (by omega), pk_shrN hm _ 31 (by decide), show m / 2 ^ 31 = 0 by omega, show nI 0 = 0 from rfl, Int32.xor_zero, fdN, nI_toInt hm, if_pos c]
    congr 1
    omega
  · have e1 : r >>> ((31 : Int32) &&& 31) = -1 := by
      apply i_of_toInt
      rw [ishr_toInt _ _ 31 (by decide), Int.shiftRight_eq_div_pow, show (-1 : Int32).toInt = -1 by decide]
      omega
    have e2 : ∀ x : Int32, x ^^^ (-1) = -x - 1 := by
      intro x
      apply Int32.toBitVec_inj.mp
      rw [Int32.toBitVec_xor, Int32.toBitVec_sub, show Int32.toBitVec (-1) = BitVec.allOnes 32 by decide, BitVec.xor_allOnes, Int32.toBitVec_neg, show Int32.toBitVec 1 = 1#32 by decide, BitVec.neg_eq_not_add]
      exact (BitVec.add_sub_cancel _ _).symm
    rw [e1, e2, fdN, if_neg c]
    apply i_of_toInt
    have e3 : (r <<< ((1 : Int32) &&& 31)) = r + r := by
      apply Int32.toBitVec_inj.mp
      rw [Int32.toBitVec_shiftLeft, show ((((1 : Int32) &&& 31).toBitVec.smod 32)) = 1#32 by decide, Int32.toBitVec_add]
      apply BitVec.eq_of_toNat_eq
      rw [BitVec.toNat_add]
      show (r.toBitVec <<< (1#32)).toNat = _
      rw [BitVec.shiftLeft_eq', BitVec.toNat_shiftLeft, show (1#32).toNat = 1 by decide, Nat.shiftLeft_eq]
      omega
    have e4 : (r + r).toInt = 2 * r.toInt := by
      rw [Int32.toInt_add, Int.bmod_eq_of_le (by omega) (by omega)]; omega
    have e5 : (-(r + r)).toInt = -(2 * r.toInt) := by
      rw [Int32.toInt_neg, e4, Int.bmod_eq_of_le (by omega) (by omega)]
    rw [e3, Int32.toInt_sub, e5, show (1 : Int32).toInt = 1 by decide, nI_toInt (by omega), Int.bmod_eq_of_le (by omega) (by omega)]
    omega
/-- the first place of the least -/
def LM (c : Nat → Nat) (F r : Nat) : Prop := r ≤ F ∧ ∀ j, j ≤ F → c r ≤ c j ∧ (j < r → c r < c j)
theorem LM.uniq {c : Nat → Nat} {F r r' : Nat} (h : LM c F r) (h' : LM c F r') : r = r' := by
  have h1 := h.2 r' h'.1
  have h2 := h'.2 r h.1
  rcases Nat.lt_trichotomy r r' with q | q | q
  · have := h2.2 q; omega
  · exact q
  · have := h1.2 q; omega
def amin (c : Nat → Nat) : Nat → Nat
  | 0 => 0
  | n + 1 => if c (n + 1) < c (amin c n) then n + 1 else amin c n
theorem amin_LM (c : Nat → Nat) : ∀ F, LM c F (amin c F)
  | 0 => ⟨Nat.le_refl _, fun j hj => by obtain rfl : j = 0 := by omega
                                        exact ⟨Nat.le_refl _, fun q => by simp [amin] at q⟩⟩
  | F + 1 => by
    have ih := amin_LM c F
    unfold amin
    split
    · rename_i q
      refine ⟨Nat.le_refl _, fun j hj => ?_⟩
      by_cases e : j = F + 1
      · subst e; exact ⟨Nat.le_refl _, fun q => by omega⟩
      · have := (ih.2 j (by omega)).1; omega
    · rename_i q
      refine ⟨by have := ih.1; omega, fun j hj => ?_⟩
      by_cases e : j = F + 1
      · subst e; exact ⟨by omega, fun q => by have := ih.1; omega⟩
      · exact ih.2 j (by omega)
theorem LM.amin {c : Nat → Nat} {F r : Nat} (h : LM c F r) : r = amin c F := h.uniq (amin_LM c F)
/-- the zeros that the rests from a on, m of them, would take; the bits that any of them has -/
def zs (f : Nat → Nat) (t a : Nat) : Nat → Nat
  | 0 => 0
  | m + 1 => zs f t a m + f (a + m) / 2 ^ t
def us (f : Nat → Nat) (a : Nat) : Nat → Nat
  | 0 => 0
  | m + 1 => us f a m ||| f (a + m)
theorem zs_le {f : Nat → Nat} {t a n : Nat} (h : ∀ i, i < n → f i < 2 ^ 30) : ∀ m, a + m ≤ n → zs f t a m ≤ m * 2 ^ 30
  | 0, _ => by simp [zs]
  | m + 1, hm => by
    have := zs_le (t := t) (a := a) h m (by omega)
    have h1 := h (a + m) (by omega)
    have h2 := Nat.div_le_self (f (a + m)) (2 ^ t)
    rw [zs, Nat.add_mul]
    omega
theorem zs_app (f : Nat → Nat) (t a m : Nat) : ∀ k, zs f t a (m + k) = zs f t a m + zs f t (a + m) k
  | 0 => by simp [zs]
  | k + 1 => by rw [← Nat.add_assoc, zs, zs, zs_app f t a m k, Nat.add_assoc a m k]; omega
theorem us_app (f : Nat → Nat) (a m : Nat) : ∀ k, us f a (m + k) = us f a m ||| us f (a + m) k
  | 0 => by simp [us]
  | k + 1 => by rw [← Nat.add_assoc, us, us, us_app f a m k, Nat.add_assoc a m k, Nat.or_assoc]
theorem us_lt {f : Nat → Nat} {a n b : Nat} (h : ∀ i, i < n → f i < 2 ^ b) : ∀ m, a + m ≤ n → us f a m < 2 ^ b
  | 0, _ => by rw [us]; exact Nat.pow_pos (by decide)
  | m + 1, hm => Nat.or_lt_two_pow (us_lt h m (by omega)) (h _ (by omega))
theorem bln_or (a b : Nat) : bln (a ||| b) = max (bln a) (bln b) := by
  have h1 := bln_lt a
  have h2 := bln_lt b
  have p1 : a < 2 ^ max (bln a) (bln b) := Nat.lt_of_lt_of_le h1 (Nat.pow_le_pow_right (by decide) (Nat.le_max_left _ _))
  have p2 : b < 2 ^ max (bln a) (bln b) := Nat.lt_of_lt_of_le h2 (Nat.pow_le_pow_right (by decide) (Nat.le_max_right _ _))
  refine bln_eq (Nat.or_lt_two_pow p1 p2) (fun hne => ?_)
  rcases Nat.le_total (bln a) (bln b) with q | q
  · rw [Nat.max_eq_right q] at hne ⊢
    have hb : b ≠ 0 := by intro z; subst z; simp [bln] at hne
    exact Nat.le_trans (bln_ge b hb) Nat.right_le_or
  · rw [Nat.max_eq_left q] at hne ⊢
    have ha : a ≠ 0 := by intro z; subst z; simp [bln] at hne
    exact Nat.le_trans (bln_ge a ha) Nat.left_le_or
/-- the bits of a part with the number k -/
def pcost (f : Nat → Nat) (a m k : Nat) : Nat := if k = 15 then 9 + bln (us f a m) * m else 4 + (k + 1) * m + zs f k a m
def pk (f : Nat → Nat) (a m : Nat) : Nat := amin (pcost f a m) 15
def pmin (f : Nat → Nat) (a m : Nat) : Nat := pcost f a m (pk f a m)
/-- where the part p begins, how many rests it has -/
def pA (o e p : Nat) : Nat := if p = 0 then o else p * e
def pM (o e p : Nat) : Nat := if p = 0 then e - o else e
def rsum (f : Nat → Nat) (o e : Nat) : Nat → Nat
  | 0 => 6
  | p + 1 => rsum f o e p + pmin f (pA o e p) (pM o e p)
def rcost (f : Nat → Nat) (o n q : Nat) : Nat := rsum f o (n / 2 ^ q) (2 ^ q)
/-- may there be 2^q parts? -/
def pfit (o n q : Nat) : Prop := n % 2 ^ q = 0 ∧ o < n / 2 ^ q
theorem pmin_le (f : Nat → Nat) (a m : Nat) : pmin f a m ≤ 9 + bln (us f a m) * m := by
  have := (amin_LM (pcost f a m) 15).2 15 (Nat.le_refl _)
  have h : pcost f a m 15 = 9 + bln (us f a m) * m := by simp [pcost]
  rw [← h]
  exact this.1
theorem shl1 {q : Nat} (h : q < 31) : (1 : Int32) <<< (nI q &&& 31) = nI (2 ^ q) := by
  have h2 : 2 ^ q < 2 ^ 31 := Nat.pow_lt_pow_right (by decide) h
  rw [show (1 : Int32) = nI 1 from rfl, pk_shlN _ q (s_l q (by omega)) (by omega), Nat.one_mul]
theorem shrN {n q : Nat} (hn : n < 2 ^ 31) (h : q < 32) : nI n >>> (nI q &&& 31) = nI (n / 2 ^ q) := pk_shrN hn _ q (s_l q h)
theorem pfit_dn {o n q : Nat} (h : pfit o n (q + 1)) : pfit o n q := by
  obtain ⟨h1, h2⟩ := h
  rw [Nat.pow_succ] at h1 h2
  refine ⟨?_, ?_⟩
  · have : n % (2 ^ q * 2) % 2 ^ q = n % 2 ^ q := Nat.mod_mul_right_mod n (2 ^ q) 2
    rw [h1] at this
    simpa using this.symm
  · rw [← Nat.div_div_eq_div_mul] at h2
    have := Nat.div_le_self (n / 2 ^ q) 2
    omega
theorem pfit_le {o n : Nat} : ∀ {q r : Nat}, pfit o n r → q ≤ r → pfit o n q := by
  intro q r h hq
  obtain ⟨k, rfl⟩ : ∃ k, r = q + k := ⟨r - q, by omega⟩
  induction k with
  | zero => exact h
  | succ k ih => exact ih (pfit_dn h) (by omega)
/-- only these int fields of the cell c may differ -/
def f1 (c : Nat) (F : List Nat) (h h' : xw_H) : Prop := (∀ k, k ≠ c → h'.1 k = h.1 k) ∧ (∀ j, j ∉ F → h'.1 c j = h.1 c j) ∧ h'.2 = h.2
theorem f1.rfl {c : Nat} {F : List Nat} {h : xw_H} : f1 c F h h := ⟨fun _ _ => _root_.rfl, fun _ _ => _root_.rfl, _root_.rfl⟩
theorem f1.trans {c : Nat} {F : List Nat} {h h' h'' : xw_H} (x : f1 c F h h') (y : f1 c F h' h'') : f1 c F h h'' := ⟨fun k hk => (y.1 k hk).trans (x.1 k hk), fun j hj => (y.2.1 j hj).trans (x.2.1 j hj), y.2.2.trans x.2.2⟩
theorem f1_I {c : Nat} {F : List Nat} {h : xw_H} {j : Nat} {v : Int32} (hj : j ∈ F) : f1 c F h (xw_I h c j v) := ⟨fun k hk => xI_k hk, fun a ha => xI_j (fun q => ha (q ▸ hj)), _root_.rfl⟩
