/-! PURE: bits of numbers -/
theorem lb_sh : ∀ k, k < 64 → ((((nI k).toInt64 &&& 63 : Int64).toBitVec).smod 64).toNat = k := by decide +kernel
theorem lb_get (v : Int64) {i : Nat} (hi : i < 64) : lb v i = v.toBitVec.getLsbD i := by
  unfold lb
  rw [Int64.toBitVec_toInt32, Int64.toBitVec_shiftRight]
  unfold BitVec.sshiftRight'
  rw [lb_sh i hi]
  have e : ∀ x : BitVec 32, decide (x.toNat % 2 = 1) = x.getLsbD 0 := by
    intro x
    unfold BitVec.getLsbD
    rw [Nat.testBit_zero]
  rw [e, BitVec.getLsbD_signExtend, BitVec.getLsbD_sshiftRight]
  simp [hi]
theorem lb_N {v i : Nat} (hi : i < 64) : lb (lN v) i = v.testBit i := by
  rw [lb_get _ hi]
  show (BitVec.ofNat 64 v).getLsbD i = _
  rw [BitVec.getLsbD_ofNat]
  simp [hi]
def nbits : Nat → Nat → List Bool
  | 0, _ => []
  | n + 1, v => v.testBit n :: nbits n v
theorem bitsL_N {v : Nat} : ∀ n, n ≤ 64 → bitsL n (lN v) = nbits n v
  | 0, _ => rfl
  | n + 1, h => by rw [bitsL, nbits, lb_N (by omega), bitsL_N n (by omega)]
theorem nbits_len {v : Nat} : ∀ n, (nbits n v).length = n
  | 0 => rfl
  | n + 1 => by rw [nbits, List.length_cons, nbits_len n]
theorem nbits_split {v b : Nat} : ∀ a, nbits (a + b) v = nbits a (v / 2 ^ b) ++ nbits b v
  | 0 => by rw [Nat.zero_add]; rfl
  | a + 1 => by
    rw [show a + 1 + b = (a + b) + 1 by omega, nbits, nbits, nbits_split a, Nat.testBit_div_two_pow]
    rfl
theorem nbits_mod {v w : Nat} : ∀ n, (∀ i, i < n → v.testBit i = w.testBit i) → nbits n v = nbits n w
  | 0, _ => rfl
  | n + 1, h => by rw [nbits, nbits, h n (by omega), nbits_mod n (fun i hi => h i (by omega))]
theorem bitsL_get {v : Int64} : ∀ {n j : Nat}, j < n → (bitsL n v).getD j false = lb v (n - 1 - j)
  | n + 1, 0, _ => rfl
  | n + 1, j + 1, h => by
    rw [bitsL, List.getD_cons_succ, bitsL_get (show j < n by omega)]
    congr 1
    omega
/-- a list by its bits -/
def lst (n : Nat) (f : Nat → Bool) : List Bool := (List.range n).map f
theorem lst_len {n : Nat} {f : Nat → Bool} : (lst n f).length = n := by simp [lst]
theorem lst_get {n j : Nat} {f : Nat → Bool} (h : j < n) : (lst n f).getD j false = f j := by
  unfold lst
  rw [List.getD_eq_getElem?_getD, List.getElem?_map, List.getElem?_range h]
  rfl
theorem lst_eq {n : Nat} {f : Nat → Bool} {B : List Bool} (hl : B.length = n) (h : ∀ j, j < n → f j = B.getD j false) : lst n f = B := by
  apply List.ext_getElem?
  intro j
  by_cases c : j < n
  · unfold lst
    rw [List.getElem?_map, List.getElem?_range c, Option.map_some, h j c, List.getD_eq_getElem?_getD, List.getElem?_eq_getElem (by omega)]
    rfl
  · rw [List.getElem?_eq_none (by rw [lst_len]; omega), List.getElem?_eq_none (by omega)]
/-- two numbers of 24 bits are put at the bits a and b -/
def put2 (B : List Bool) (lo hi m : Nat) : List Bool := lst B.length (fun j => if 96 ≤ j ∧ j < 96 + 8 * m then lo.testBit (119 - j) else if 120 ≤ j ∧ j < 120 + 8 * m then hi.testBit (143 - j) else B.getD j false)
theorem put2_0 {B : List Bool} {lo hi : Nat} : put2 B lo hi 0 = B := lst_eq rfl (fun j hj => by rw [if_neg (by omega), if_neg (by omega)])
theorem put2_3 {P R : List Bool} {lo hi : Nat} {z1 z2 : Int64} (hP : P.length = 96) : put2 (P ++ bitsL 24 z1 ++ bitsL 24 z2 ++ R) lo hi 3 = P ++ bitsL 24 (lN lo) ++ bitsL 24 (lN hi) ++ R := by
  have hl : ∀ x y, (P ++ bitsL 24 x ++ bitsL 24 y ++ R).length = 144 + R.length := by
    intro x y
    simp only [List.length_append, bitsL_len, hP]
  have h1 : ∀ x y, (P ++ bitsL 24 x ++ bitsL 24 y).length = 144 := by
    intro x y
    simp only [List.length_append, bitsL_len, hP]
  have h2 : ∀ x, (P ++ bitsL 24 x).length = 120 := by
    intro x
    simp only [List.length_append, bitsL_len, hP]
  unfold put2
  apply lst_eq
  · rw [hl, hl]
  · intro j hj
    rw [hl] at hj
    by_cases c1 : j < 96
    · rw [if_neg (by omega), if_neg (by omega), ga_lt (by rw [h1]; omega), ga_lt (by rw [h2]; omega), ga_lt (by omega), ga_lt (by rw [h1]; omega), ga_lt (by rw [h2]; omega), ga_lt (by omega)]
    · by_cases c2 : j < 120
      · rw [if_pos (by omega), ga_lt (by rw [h1]; omega), ga_lt (by rw [h2]; omega), ga_r (by omega), bitsL_get (by omega), lb_N (by omega)]
        congr 1
        omega
      · rw [if_neg (by omega)]
        by_cases c3 : j < 144
        · rw [if_pos (by omega), ga_lt (by rw [h1]; omega), ga_r (by rw [h2]; omega), h2, bitsL_get (by omega), lb_N (by omega)]
          congr 1
          omega
        · rw [if_neg (by omega), ga_r (by rw [h1]; omega), ga_r (by rw [h1]; omega), h1, h1]
