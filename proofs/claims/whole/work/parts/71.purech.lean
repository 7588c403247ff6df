/-! PURE: which type a subframe has, what it costs, its bits -/
def tzN : Nat → Nat
  | 0 => 0
  | n + 1 => if (n + 1) % 2 = 1 then 0 else tzN ((n + 1) / 2) + 1
decreasing_by omega
theorem tzN_spec (n : Nat) (h : n ≠ 0) : ∃ q, n = 2 ^ tzN n * (2 * q + 1) := by
  induction n using Nat.strongRecOn with
  | _ n ih =>
    cases n with
    | zero => exact absurd rfl h
    | succ n =>
      rw [tzN]
      split
      · exact ⟨(n + 1) / 2, by omega⟩
      · rename_i c
        obtain ⟨q, hq⟩ := ih ((n + 1) / 2) (by omega) (by omega)
        refine ⟨q, ?_⟩
        have h1 : n + 1 = 2 * ((n + 1) / 2) := by omega
        rw [Nat.pow_succ, Nat.mul_comm (2 ^ tzN ((n + 1) / 2)) 2, Nat.mul_assoc, ← hq]
        exact h1
/-- the low zeros that are dropped -/
def wz (x : Int32) : Nat := if x = 0 then 0 else tzN x.toBitVec.toNat
theorem wz_TZ {x : Int32} (h : x ≠ 0) : wz x < 32 ∧ TZ x (wz x) := by
  have hn : x.toBitVec.toNat ≠ 0 := by
    intro q
    apply h
    apply Int32.toBitVec_inj.mp
    exact BitVec.eq_of_toNat_eq q
  have hw : wz x = tzN x.toBitVec.toNat := by unfold wz; rw [if_neg h]
  rw [hw]
  obtain ⟨q, e⟩ := tzN_spec _ hn
  refine ⟨?_, q, e⟩
  apply Nat.lt_of_not_le
  intro ht
  have h1 := x.toBitVec.isLt
  have h2 : 2 ^ 32 ≤ 2 ^ tzN x.toBitVec.toNat := Nat.pow_le_pow_right (by decide) ht
  have h3 : 2 ^ tzN x.toBitVec.toNat * 1 ≤ 2 ^ tzN x.toBitVec.toNat * (2 * q + 1) := Nat.mul_le_mul_left _ (by omega)
  omega
theorem wz_lt (x : Int32) : wz x < 32 := by
  by_cases h : x = 0
  · unfold wz; rw [if_pos h]; decide
  · exact (wz_TZ h).1
/-- all samples' bits together; are all alike? -/
def oS (sm : Nat → Int32) : Nat → Int32
  | 0 => 0
  | i + 1 => oS sm i ||| sm i
def alB (sm : Nat → Int32) : Nat → Bool
  | 0 => true
  | i + 1 => alB sm i && decide (sm i = sm 0)
theorem oS_bit {sm : Nat → Int32} : ∀ {n i : Nat}, i < n → ∀ j, (sm i).toBitVec.toNat.testBit j = true → (oS sm n).toBitVec.toNat.testBit j = true
  | n + 1, i, hi, j, h => by
    rw [oS, Int32.toBitVec_or, BitVec.toNat_or, Nat.testBit_or]
    by_cases e : i = n
    · subst e; rw [h, Bool.or_true]
    · rw [oS_bit (show i < n by omega) j h, Bool.true_or]
theorem oS_0 {sm : Nat → Int32} : ∀ n, (∀ i, i < n → sm i = 0) → oS sm n = 0
  | 0, _ => rfl
  | n + 1, h => by rw [oS, oS_0 n (fun i hi => h i (by omega)), h n (by omega)]; decide
/-- samples of d bits lose fewer than d zeros -/
theorem wz_d {sm : Nat → Int32} {n d : Nat} (hd : 1 ≤ d) (hd2 : d ≤ 31) (h : ∀ i, i < n → -(2 ^ (d - 1)) ≤ (sm i).toInt ∧ (sm i).toInt < 2 ^ (d - 1)) : wz (oS sm n) < d := by
  by_cases h0 : oS sm n = 0
  · rw [h0]; show 0 < d; omega
  · have hT := wz_TZ h0
    apply Nat.lt_of_not_le
    intro hw
    apply h0
    apply oS_0
    intro i hi
    have hdvd : 2 ^ wz (oS sm n) ∣ (sm i).toBitVec.toNat := by
      apply Nat.dvd_of_mod_eq_zero
      apply Nat.eq_of_testBit_eq
      intro j
      rw [Nat.testBit_mod_two_pow, Nat.zero_testBit]
      by_cases hj : j < wz (oS sm n)
      · cases hb : (sm i).toBitVec.toNat.testBit j with
        | false => simp
        | true =>
          have := tz_bit hT.2 j (oS_bit hi j hb)
          omega
      · simp [hj]
    obtain ⟨k, hk⟩ := hdvd
    have hb := h i hi
    have hi2 : (sm i).toInt = if 2 * (sm i).toBitVec.toNat < 2 ^ 32 then ((sm i).toBitVec.toNat : Int) else ((sm i).toBitVec.toNat : Int) - 2 ^ 32 := BitVec.toInt_eq_toNat_cond _
    have hp : (2 : Int) ^ (d - 1) * 2 ≤ 2 ^ wz (oS sm n) := by
      have h1 : 2 ^ d ≤ 2 ^ wz (oS sm n) := Nat.pow_le_pow_right (n := 2) (by decide) hw
      have h2 : 2 ^ d = 2 ^ (d - 1) * 2 := by rw [← Nat.pow_succ]; congr 1; omega
      rw [h2] at h1
      exact_mod_cast h1
    have hpos : (0 : Int) < 2 ^ (d - 1) := Int.pow_pos (by decide)
    have h32 : (2 : Nat) ^ 32 = 2 ^ wz (oS sm n) * 2 ^ (32 - wz (oS sm n)) := by
      rw [← Nat.pow_add]; congr 1; omega
    have key : ∃ z : Int, (sm i).toInt = 2 ^ wz (oS sm n) * z := by
      rw [hi2]
      split
      · exact ⟨(k : Int), by rw [hk]; push_cast; rfl⟩
      · refine ⟨(k : Int) - 2 ^ (32 - wz (oS sm n)), ?_⟩
        have h33 : (2 : Int) ^ 32 = 2 ^ wz (oS sm n) * 2 ^ (32 - wz (oS sm n)) := by exact_mod_cast h32
        rw [h33, hk, Int.mul_sub]
        push_cast
        rfl
    obtain ⟨z, hz⟩ := key
    have hz0 : z = 0 := by
      rcases Int.lt_trichotomy z 0 with q | q | q
      · have : 2 ^ wz (oS sm n) * z ≤ 2 ^ wz (oS sm n) * (-1) := Int.mul_le_mul_of_nonneg_left (by omega) (by omega)
        omega
      · exact q
      · have : 2 ^ wz (oS sm n) * 1 ≤ 2 ^ wz (oS sm n) * z := Int.mul_le_mul_of_nonneg_left (by omega) (by omega)
        omega
    rw [hz0, Int.mul_zero] at hz
    exact i_of_toInt (hz.trans Int32.toInt_zero.symm)
/-- samples without the zeros -/
def sh (sm : Nat → Int32) (w : Nat) (i : Nat) : Int32 := sm i >>> (nI w &&& 31)
theorem sh_b {sm : Nat → Int32} {w i : Nat} {a : Int} (hw : w < 32) (ha : 0 ≤ a) (h : -a ≤ (sm i).toInt ∧ (sm i).toInt ≤ a) : -a ≤ (sh sm w i).toInt ∧ (sh sm w i).toInt ≤ a := by
  unfold sh
  rw [ishr_toInt _ _ w (s_l w hw), Int.shiftRight_eq_div_pow]
  have hp : (0 : Int) < 2 ^ w := Int.pow_pos (by decide)
  have hp1 : (1 : Int) ≤ 2 ^ w := hp
  have e : ((2 ^ w : Nat) : Int) = (2 : Int) ^ w := by push_cast; rfl
  rw [e]
  refine ⟨?_, ?_⟩
  · apply (Int.le_ediv_iff_mul_le hp).mpr
    have : -a * 2 ^ w ≤ -a * 1 := Int.mul_le_mul_of_nonpos_left (by omega) hp1
    omega
  · apply Int.le_of_lt_add_one
    apply Int.ediv_lt_of_lt_mul hp
    have : (a + 1) * 1 ≤ (a + 1) * 2 ^ w := Int.mul_le_mul_of_nonneg_left hp1 (by omega)
    omega
def pfitB (o n q : Nat) : Bool := n % 2 ^ q == 0 && decide (o < n / 2 ^ q)
theorem pfitB_iff {o n q : Nat} : pfitB o n q = true ↔ pfit o n q := by unfold pfitB pfit; simp
/-- the finest parts -/
def finq (o n : Nat) : Nat := if pfitB o n 5 then 5 else if pfitB o n 4 then 4 else if pfitB o n 3 then 3 else if pfitB o n 2 then 2 else if pfitB o n 1 then 1 else 0
theorem finq_eq {o n F : Nat} (h1 : F ≤ 5) (h2 : pfit o n F) (h3 : ∀ q, F < q → q ≤ 5 → ¬ pfit o n q) : F = finq o n := by
  have no : ∀ q, F < q → q ≤ 5 → ¬ pfitB o n q = true := fun q a b c => h3 q a b (pfitB_iff.mp c)
  have yes := pfitB_iff.mpr h2
  unfold finq
  have h5 : F = 0 ∨ F = 1 ∨ F = 2 ∨ F = 3 ∨ F = 4 ∨ F = 5 := by omega
  rcases h5 with rfl | rfl | rfl | rfl | rfl | rfl
  · rw [if_neg (no 5 (by omega) (by omega)), if_neg (no 4 (by omega) (by omega)), if_neg (no 3 (by omega) (by omega)), if_neg (no 2 (by omega) (by omega)), if_neg (no 1 (by omega) (by omega))]
  · rw [if_neg (no 5 (by omega) (by omega)), if_neg (no 4 (by omega) (by omega)), if_neg (no 3 (by omega) (by omega)), if_neg (no 2 (by omega) (by omega)), if_pos yes]
  · rw [if_neg (no 5 (by omega) (by omega)), if_neg (no 4 (by omega) (by omega)), if_neg (no 3 (by omega) (by omega)), if_pos yes]
  · rw [if_neg (no 5 (by omega) (by omega)), if_neg (no 4 (by omega) (by omega)), if_pos yes]
  · rw [if_neg (no 5 (by omega) (by omega)), if_pos yes]
  · rw [if_pos yes]
theorem finq_fit {o n : Nat} (h : o < n) : finq o n ≤ 5 ∧ pfit o n (finq o n) ∧ ∀ q, finq o n < q → q ≤ 5 → ¬ pfit o n q := by
  have h0 : pfit o n 0 := ⟨Nat.mod_one n, by rw [Nat.pow_zero, Nat.div_one]; exact h⟩
  by_cases c5 : pfit o n 5
  · have e := finq_eq (F := 5) (by omega) c5 (fun q a b => by omega)
    rw [← e]; exact ⟨by omega, c5, fun q a b => by omega⟩
  by_cases c4 : pfit o n 4
  · have h3 : ∀ q, 4 < q → q ≤ 5 → ¬ pfit o n q := fun q a b z => c5 (pfit_le z (by omega))
    rw [← finq_eq (by omega) c4 h3]; exact ⟨by omega, c4, h3⟩
  by_cases c3 : pfit o n 3
  · have h3 : ∀ q, 3 < q → q ≤ 5 → ¬ pfit o n q := fun q a b z => c4 (pfit_le z (by omega))
    rw [← finq_eq (by omega) c3 h3]; exact ⟨by omega, c3, h3⟩
  by_cases c2 : pfit o n 2
  · have h3 : ∀ q, 2 < q → q ≤ 5 → ¬ pfit o n q := fun q a b z => c3 (pfit_le z (by omega))
    rw [← finq_eq (by omega) c2 h3]; exact ⟨by omega, c2, h3⟩
  by_cases c1 : pfit o n 1
  · have h3 : ∀ q, 1 < q → q ≤ 5 → ¬ pfit o n q := fun q a b z => c2 (pfit_le z (by omega))
    rw [← finq_eq (by omega) c1 h3]; exact ⟨by omega, c1, h3⟩
  · have h3 : ∀ q, 0 < q → q ≤ 5 → ¬ pfit o n q := fun q a b z => c1 (pfit_le z (by omega))
    rw [← finq_eq (by omega) h0 h3]; exact ⟨by omega, h0, h3⟩
/-- the best q of an order, its cost -/
def bq (t : Nat → Int32) (o n : Nat) : Nat := amin (rcost (fun i => fdN (dl o t i)) o n) (finq o n)
def wcost (t : Nat → Int32) (o n : Nat) : Nat := rcost (fun i => fdN (dl o t i)) o n (bq t o n)
/-- the choice behind the first orders: cost, type, q -/
def ch (t : Nat → Int32) (al : Bool) (wd n : Nat) : Nat → Nat × Nat × Nat
  | 0 => (if al then wd else wd * n, if al then 0 else 1, 0)
  | o + 1 => if wd * o + wcost t o n < (ch t al wd n o).1 then (wd * o + wcost t o n, 8 + o, bq t o n) else ch t al wd n o
/-- of the samples sm, n of them, of d bits -/
def sW (sm : Nat → Int32) (n : Nat) : Nat := wz (oS sm n)
def sT (sm : Nat → Int32) (n : Nat) : Nat → Int32 := sh sm (sW sm n)
def sC (sm : Nat → Int32) (n d : Nat) : Nat × Nat × Nat := ch (sT sm n) (alB sm n) (d - sW sm n) n (min 5 n)
def sbits (t : Nat → Int32) (wd : Nat) : Nat → List Bool
  | 0 => []
  | i + 1 => sbits t wd i ++ bitsL wd (t i).toInt64
theorem sbits_len {t : Nat → Int32} {wd : Nat} : ∀ m, (sbits t wd m).length = wd * m
  | 0 => rfl
  | m + 1 => by rw [sbits, List.length_append, sbits_len m, bitsL_len, Nat.mul_succ]
def sfirst (ty n : Nat) : Nat := if ty = 0 then 1 else if ty = 1 then n else ty - 8
def sfbits (sm : Nat → Int32) (n d : Nat) : List Bool := bitsL 7 (lN (sC sm n d).2.1) ++ bitsL 1 (if 0 < sW sm n then 1 else 0) ++ bitsL (sW sm n) 1 ++ sbits (sT sm n) (d - sW sm n) (sfirst (sC sm n d).2.1 n) ++ (if (sC sm n d).2.1 < 8 then [] else restbits (dl ((sC sm n d).2.1 - 8) (sT sm n)) ((sC sm n d).2.1 - 8) n (sC sm n d).2.2)
theorem ch_ty {t : Nat → Int32} {al : Bool} {wd n : Nat} : ∀ m, m ≤ n → ((ch t al wd n m).2.1 = (if al then 0 else 1) ∧ (ch t al wd n m).1 = if al then wd else wd * n) ∨ ∃ o, o < m ∧ (ch t al wd n m).2.1 = 8 + o ∧ (ch t al wd n m).2.2 = bq t o n ∧ (ch t al wd n m).1 = wd * o + wcost t o n
  | 0, _ => Or.inl ⟨rfl, rfl⟩
  | m + 1, h => by
    rw [ch]
    split
    · exact Or.inr ⟨m, by omega, rfl, rfl, rfl⟩
    · rcases ch_ty (t := t) (al := al) (wd := wd) (n := n) m (by omega) with q | ⟨o, q1, q2⟩
      · exact Or.inl q
      · exact Or.inr ⟨o, by omega, q2⟩
theorem ch_le {t : Nat → Int32} {al : Bool} {wd n : Nat} : ∀ m, (ch t al wd n m).1 ≤ if al then wd else wd * n
  | 0 => Nat.le_refl _
  | m + 1 => by
    have := ch_le (t := t) (al := al) (wd := wd) (n := n) m
    rw [ch]
    split
    · rename_i q
      exact Nat.le_trans (Nat.le_of_lt q) this
    · exact this
theorem sfbits_len {sm : Nat → Int32} {n d : Nat} : (sfbits sm n d).length = 8 + sW sm n + (sC sm n d).1 := by
  unfold sfbits
  rw [List.length_append, List.length_append, List.length_append, List.length_append, bitsL_len, bitsL_len, bitsL_len, sbits_len]
  have h := ch_ty (t := sT sm n) (al := alB sm n) (wd := d - sW sm n) (n := n) (min 5 n) (Nat.min_le_right _ _)
  rw [show ch (sT sm n) (alB sm n) (d - sW sm n) n (min 5 n) = sC sm n d from rfl] at h
  rcases h with ⟨h1, h2⟩ | ⟨o, h1, h2, h3, h4⟩
  · rw [h1, h2]
    unfold sfirst
    cases alB sm n
    · simp
    · simp
  · rw [h2, h3, h4, if_neg (by omega), restbits_len]
    unfold sfirst wcost
    rw [if_neg (by omega), if_neg (by omega), show 8 + o - 8 = o by omega]
    omega
