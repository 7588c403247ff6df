/-! PURE: frames -/
def rowF (f : Nat → Int32) (i : Nat) : Int32 := if i < 1200 then f i else 0
/-- the signals: first, second, difference, middle -/
def sg (s0 s1 : Nat → Int32) (a w i : Nat) : Int32 := if w = 0 then s0 (a + i) else if w = 1 then s1 (a + i) else if w = 2 then s0 (a + i) - s1 (a + i) else (s0 (a + i) + s1 (a + i)) >>> ((1 : Int32) &&& 31)
def sgo (c second : Nat) : Nat := if second = 0 then (if c = 9 then 2 else if c = 10 then 3 else 0) else if c = 1 ∨ c = 9 then 1 else 2
def dW (D w : Nat) : Nat := if w = 2 then D + 1 else D
/-- the bits of a signal's subframe -/
def kb (S : Nat → Nat → Int32) (n D w : Nat) : Nat := 8 + sW (S w) n + (sC (S w) n (dW D w)).1
def kc (S : Nat → Nat → Int32) (n D c : Nat) : Nat := kb S n D (sgo c 0) + kb S n D (sgo c 1)
def bst (S : Nat → Nat → Int32) (n D c b : Nat) : Nat := if kc S n D c < kc S n D b then c else b
def bC (S : Nat → Nat → Int32) (n D : Nat) : Nat := bst S n D 10 (bst S n D 9 (bst S n D 8 1))
theorem bst_le {S : Nat → Nat → Int32} {n D c b : Nat} : kc S n D (bst S n D c b) ≤ kc S n D b := by
  unfold bst
  split <;> omega
theorem bC_le {S : Nat → Nat → Int32} {n D : Nat} : kc S n D (bC S n D) ≤ kc S n D 1 := Nat.le_trans bst_le (Nat.le_trans bst_le bst_le)
def isC (c : Nat) : Prop := c = 1 ∨ c = 8 ∨ c = 9 ∨ c = 10
theorem bst_C {S : Nat → Nat → Int32} {n D c b : Nat} (hc : isC c) (hb : isC b) : isC (bst S n D c b) := by
  unfold bst
  split
  · exact hc
  · exact hb
theorem bC_C {S : Nat → Nat → Int32} {n D : Nat} : isC (bC S n D) := bst_C (by unfold isC; decide) (bst_C (by unfold isC; decide) (bst_C (by unfold isC; decide) (by unfold isC; decide)))
theorem kb_le {sm : Nat → Int32} {n d : Nat} (hn : 1 ≤ n) (hw : sW sm n ≤ d) : 8 + sW sm n + (sC sm n d).1 ≤ 8 + d * n := by
  have h := ch_le (t := sT sm n) (al := alB sm n) (wd := d - sW sm n) (n := n) (min 5 n)
  rw [show ch (sT sm n) (alB sm n) (d - sW sm n) n (min 5 n) = sC sm n d from rfl] at h
  generalize (sC sm n d).1 = c at *
  generalize sW sm n = w at *
  obtain ⟨v, rfl⟩ : ∃ v, d = w + v := ⟨d - w, by omega⟩
  rw [show w + v - w = v by omega] at h
  have h1 : v * 1 ≤ v * n := Nat.mul_le_mul_left _ hn
  have h2 : w * 1 ≤ w * n := Nat.mul_le_mul_left _ hn
  rw [Nat.add_mul]
  split at h <;> omega
/-- the head's bits before its check -/
def numbits : List Nat → List Bool
  | [] => []
  | b :: r => bitsL 8 (lN b) ++ numbits r
def fhead (n c num : Nat) (v : Bool) : List Bool := bitsL 14 16382 ++ bitsL 1 0 ++ bitsL 1 (if v then 1 else 0) ++ bitsL 4 (if n ≤ 256 then 6 else 7) ++ bitsL 4 0 ++ bitsL 4 (lN c) ++ bitsL 4 0 ++ numbits (numB num) ++ bitsL (if n ≤ 256 then 8 else 16) (lN (n - 1))
def fheadc (n c num : Nat) (v : Bool) : List Bool := fhead n c num v ++ bitsL 8 (lN (crL 8 7 (fhead n c num v)))
def fbody (S : Nat → Nat → Int32) (n D c : Nat) : List Bool := sfbits (S (sgo c 0)) n (dW D (sgo c 0)) ++ (if c = 0 then [] else sfbits (S (sgo c 1)) n (dW D (sgo c 1)))
def pad8 (B : List Bool) : List Bool := B ++ List.replicate ((8 - B.length % 8) % 8) false
def fbits (S : Nat → Nat → Int32) (n D c num : Nat) (v : Bool) : List Bool := pad8 (fheadc n c num v ++ fbody S n D c) ++ bitsL 16 (lN (crL 16 32773 (pad8 (fheadc n c num v ++ fbody S n D c))))
theorem numbits_len : ∀ L, (numbits L).length = 8 * L.length
  | [] => rfl
  | b :: r => by rw [numbits, List.length_append, bitsL_len, numbits_len r, List.length_cons]; omega
theorem numB_len (v : Nat) : (numB v).length = if v < 128 then 1 else 2 := by
  unfold numB
  split <;> rfl
theorem fhead_len {n c num : Nat} {v : Bool} : (fhead n c num v).length = 32 + 8 * (numB num).length + (if n ≤ 256 then 8 else 16) := by
  unfold fhead
  simp only [List.length_append, bitsL_len, numbits_len]
theorem fheadc_len {n c num : Nat} {v : Bool} : (fheadc n c num v).length = 40 + 8 * (numB num).length + (if n ≤ 256 then 8 else 16) := by
  unfold fheadc
  rw [List.length_append, bitsL_len, fhead_len]
  omega
theorem fheadc_8 {n c num : Nat} {v : Bool} : (fheadc n c num v).length % 8 = 0 := by
  rw [fheadc_len]
  split <;> omega
theorem fhead_8 {n c num : Nat} {v : Bool} : (fhead n c num v).length % 8 = 0 := by
  rw [fhead_len]
  split <;> omega
theorem pad8_len (B : List Bool) : (pad8 B).length = (B.length + 7) / 8 * 8 := by
  unfold pad8
  rw [List.length_append, List.length_replicate]
  omega
theorem fbits_8 {S : Nat → Nat → Int32} {n D c num : Nat} {v : Bool} : (fbits S n D c num v).length % 8 = 0 := by
  unfold fbits
  rw [List.length_append, bitsL_len, pad8_len]
  omega
theorem fbody_len {S : Nat → Nat → Int32} {n D c : Nat} : (fbody S n D c).length = kb S n D (sgo c 0) + (if c = 0 then 0 else kb S n D (sgo c 1)) := by
  unfold fbody
  rw [List.length_append, sfbits_len]
  split
  · rfl
  · rw [sfbits_len]; rfl
theorem fbits_len {S : Nat → Nat → Int32} {n D c num : Nat} {v : Bool} : (fbits S n D c num v).length ≤ 95 + (fbody S n D c).length := by
  unfold fbits
  rw [List.length_append, bitsL_len, pad8_len, List.length_append, fheadc_len, numB_len]
  split <;> split <;> omega
/-- no frame is longer than this -/
theorem fbits_le {S : Nat → Nat → Int32} {n D num : Nat} {v : Bool} {c : Nat} (hn : 1 ≤ n) (hD : D ≤ 24) (h0 : sW (S 0) n ≤ D) (hc : c = 0 ∨ (c = bC S n D ∧ sW (S 1) n ≤ D)) : (fbits S n D c num v).length ≤ 111 + 48 * n := by
  have h1 := fbits_len (S := S) (n := n) (D := D) (c := c) (num := num) (v := v)
  rw [fbody_len] at h1
  have hm : D * n ≤ 24 * n := Nat.mul_le_mul_right _ hD
  have k0 : kb S n D 0 ≤ 8 + D * n := kb_le hn h0
  rcases hc with rfl | ⟨rfl, h2⟩
  · rw [if_pos rfl, show sgo 0 0 = 0 from rfl] at h1
    omega
  · have hC := bC_C (S := S) (n := n) (D := D)
    have h0 : ¬ bC S n D = 0 := by rcases hC with e | e | e | e <;> rw [e] <;> decide
    have k1 : kb S n D 1 ≤ 8 + D * n := kb_le hn h2
    have h3 := bC_le (S := S) (n := n) (D := D)
    rw [if_neg h0] at h1
    unfold kc at h3
    rw [show sgo 1 0 = 0 from rfl, show sgo 1 1 = 1 from rfl] at h3
    omega
/-- how many frames, where each begins, how long it is -/
def fN (N b : Nat) : Nat := (N + b - 1) / b
def fsz (N b k : Nat) : Nat := min b (N - k * b)
def fc (C : Nat) (S : Nat → Nat → Int32) (n D : Nat) : Nat := if C = 1 then 0 else bC S n D
/-- frame k of the rows -/
def frm (s0 s1 : Nat → Int32) (C D b N : Nat) (v : Bool) (k : Nat) : List Bool := fbits (sg s0 s1 (k * b)) (fsz N b k) D (fc C (sg s0 s1 (k * b)) (fsz N b k) D) (if v then k * b else k) v
def frms (s0 s1 : Nat → Int32) (C D b N : Nat) (v : Bool) : Nat → List Bool
  | 0 => []
  | k + 1 => frms s0 s1 C D b N v k ++ frm s0 s1 C D b N v k
theorem frms_8 {s0 s1 : Nat → Int32} {C D b N : Nat} {v : Bool} : ∀ k, (frms s0 s1 C D b N v k).length % 8 = 0
  | 0 => rfl
  | k + 1 => by
    have h1 := frms_8 (s0 := s0) (s1 := s1) (C := C) (D := D) (b := b) (N := N) (v := v) k
    have h2 : (frm s0 s1 C D b N v k).length % 8 = 0 := fbits_8
    rw [frms, List.length_append]
    omega
/-- bytes of the frame k; the least, the greatest -/
def fby (s0 s1 : Nat → Int32) (C D b N : Nat) (v : Bool) (k : Nat) : Nat := (frm s0 s1 C D b N v k).length / 8
def minF (f : Nat → Nat) : Nat → Nat
  | 0 => 0
  | 1 => f 0
  | k + 2 => min (minF f (k + 1)) (f (k + 1))
def maxF (f : Nat → Nat) : Nat → Nat
  | 0 => 0
  | 1 => f 0
  | k + 2 => max (maxF f (k + 1)) (f (k + 1))
/-- the information -/
def sumbits (L0 L1 : Int64) : Nat → List Bool
  | 0 => []
  | i + 1 => sumbits L0 L1 i ++ bitsL 8 ((if i / 8 = 0 then L0 else L1) >>> ((nI (8 * (i % 8))).toInt64 &&& 63))
def info0 : List Bool := bitsL 8 102 ++ bitsL 8 76 ++ bitsL 8 97 ++ bitsL 8 67 ++ bitsL 8 128 ++ bitsL 24 34
def info (b lo hi r C D N : Nat) (L0 L1 : Int64) : List Bool := info0 ++ bitsL 16 (lN b) ++ bitsL 16 (lN b) ++ bitsL 24 (lN lo) ++ bitsL 24 (lN hi) ++ bitsL 20 (lN r) ++ bitsL 3 (lN (C - 1)) ++ bitsL 5 (lN (D - 1)) ++ bitsL 36 (lN N) ++ sumbits L0 L1 16
theorem sumbits_len {L0 L1 : Int64} : ∀ i, (sumbits L0 L1 i).length = 8 * i
  | 0 => rfl
  | i + 1 => by rw [sumbits, List.length_append, sumbits_len i, bitsL_len]; omega
theorem info_len {b lo hi r C D N : Nat} {L0 L1 : Int64} : (info b lo hi r C D N L0 L1).length = 336 := by
  unfold info info0
  simp only [List.length_append, bitsL_len, sumbits_len]

theorem fN_k {N b k : Nat} (hb : 1 ≤ b) (h : k < fN N b) : k * b < N := by
  unfold fN at h
  have := (Nat.le_div_iff_mul_le (show 0 < b by omega)).mp (show k + 1 ≤ (N + b - 1) / b from h)
  rw [Nat.add_mul] at this
  omega
theorem fN_ge {N b k : Nat} (hb : 1 ≤ b) (h : fN N b ≤ k) : N ≤ k * b := by
  unfold fN at h
  have := (Nat.div_lt_iff_lt_mul (show 0 < b by omega)).mp (show (N + b - 1) / b < k + 1 by omega)
  rw [Nat.add_mul] at this
  omega
theorem fN_le {N b : Nat} (hb : 16 ≤ b) (h : N ≤ 1200) : fN N b ≤ 75 := by
  unfold fN
  apply Nat.le_of_lt_succ
  apply Nat.div_lt_of_lt_mul
  omega
theorem fsz_b {N b k : Nat} (h : k * b < N) (hb : 1 ≤ b) (hb2 : b ≤ 1024) : 1 ≤ fsz N b k ∧ fsz N b k ≤ 1024 ∧ k * b + fsz N b k ≤ N := by
  unfold fsz
  omega
theorem frms_le {s0 s1 : Nat → Int32} {C D b N : Nat} {v : Bool} (hb : 16 ≤ b) (hb2 : b ≤ 1024) (hD : D ≤ 24) (hs : ∀ k, k * b < N → sW (sg s0 s1 (k * b) 0) (fsz N b k) ≤ D ∧ (C ≠ 1 → sW (sg s0 s1 (k * b) 1) (fsz N b k) ≤ D)) : ∀ k, k ≤ fN N b → (frms s0 s1 C D b N v k).length ≤ 111 * k + 48 * min N (k * b)
  | 0, _ => by simp [frms]
  | k + 1, h => by
    have ih := frms_le (v := v) hb hb2 hD hs k (by omega)
    have hk := fN_k (by omega) (show k < fN N b from h)
    have h1 := fsz_b hk (by omega) hb2
    obtain ⟨h2, h3⟩ := hs k hk
    have h4 : (frm s0 s1 C D b N v k).length ≤ 111 + 48 * fsz N b k := by
      unfold frm fc
      refine fbits_le h1.1 hD h2 ?_
      split
      · exact Or.inl rfl
      · rename_i c; exact Or.inr ⟨rfl, h3 c⟩
    rw [frms, List.length_append, Nat.add_mul, Nat.one_mul]
    have h5 : min N (k * b) + fsz N b k ≤ min N (k * b + b) := by unfold fsz; omega
    omega
theorem sg_inD {s0 s1 : Nat → Int32} {N D a n w : Nat} (h0 : inD s0 N D) (h1 : w ≠ 0 → inD s1 N D) (hD0 : 1 ≤ D) (hD : D ≤ 24) (ha : a + n ≤ N) : inD (sg s0 s1 a w) n (dW D w) := by
  intro i hi
  have x := h0 (a + i) (by omega)
  have hM : (2 : Int) ^ (D - 1) ≤ 2 ^ 23 := by
    have : 2 ^ (D - 1) ≤ 2 ^ 23 := Nat.pow_le_pow_right (n := 2) (by decide) (by omega)
    exact_mod_cast this
  have hpos : (0 : Int) < 2 ^ (D - 1) := Int.pow_pos (by decide)
  unfold sg dW
  by_cases c0 : w = 0
  · subst c0; rw [if_pos rfl, if_neg (by decide)]; exact x
  · have y := h1 c0 (a + i) (by omega)
    rw [if_neg c0]
    by_cases c1 : w = 1
    · subst c1; rw [if_pos rfl, if_neg (by decide)]; exact y
    · rw [if_neg c1]
      by_cases c2 : w = 2
      · rw [if_pos c2, if_pos c2]
        have e : (s0 (a + i) - s1 (a + i)).toInt = (s0 (a + i)).toInt - (s1 (a + i)).toInt := by
          rw [Int32.toInt_sub]
          apply Int.bmod_eq_of_le <;> omega
        have hp : (2 : Int) ^ (D + 1 - 1) = 2 * 2 ^ (D - 1) := by
          rw [show D + 1 - 1 = (D - 1) + 1 by omega, Int.pow_succ, Int.mul_comm]
        rw [e, hp]
        omega
      · rw [if_neg c2, if_neg c2]
        have e : (s0 (a + i) + s1 (a + i)).toInt = (s0 (a + i)).toInt + (s1 (a + i)).toInt := by
          rw [Int32.toInt_add]
          apply Int.bmod_eq_of_le <;> omega
        rw [ishr_toInt _ _ 1 (by decide), e, Int.shiftRight_eq_div_pow]
        omega
