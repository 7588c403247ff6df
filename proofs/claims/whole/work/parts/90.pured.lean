/-! PURE: reading a stream's bits -/
abbrev Rr (α : Type) : Type := Nat ⊕ (α × Nat)
def rb {α β : Type} (x : Rr α) (f : α → Nat → Rr β) : Rr β := match x with
  | .inl e => .inl e
  | .inr q => f q.1 q.2
theorem rb_r {α β : Type} {f : α → Nat → Rr β} {a : α} {p : Nat} : rb (.inr (a, p)) f = f a p := rfl
theorem rb_l {α β : Type} {f : α → Nat → Rr β} {e : Nat} : rb (.inl e) f = .inl e := rfl
/-- the number of n bits from p on -/
def bv (F : Nat → Bool) (p : Nat) : Nat → Nat
  | 0 => 0
  | n + 1 => 2 * bv F p n + (F (p + n)).toNat
theorem bv_lt {F : Nat → Bool} {p : Nat} : ∀ n, bv F p n < 2 ^ n
  | 0 => by rw [bv]; decide
  | n + 1 => by
    have h := bv_lt (F := F) (p := p) n
    have hb := bt_lt (F (p + n))
    rw [bv, Nat.pow_succ]
    omega
theorem bv_add {F : Nat → Bool} {p m : Nat} : ∀ n, bv F p (m + n) = bv F p m * 2 ^ n + bv F (p + m) n
  | 0 => by simp [bv]
  | n + 1 => by
    rw [← Nat.add_assoc, bv, bv_add n, bv, Nat.pow_succ, Nat.add_assoc p m n, Nat.mul_add, ← Nat.mul_assoc, ← Nat.mul_assoc, Nat.mul_comm 2]
    rw [Nat.mul_assoc (bv F p m), Nat.mul_assoc (bv F p m), Nat.mul_comm 2]
    omega
/-- n bits are read -/
def rB (F : Nat → Bool) (L n p : Nat) : Rr Nat := if p + n ≤ 8 * L then .inr (bv F p n, p + n) else .inl 13
/-- a number with a sign -/
def sx (n v : Nat) : Int32 := if n = 0 then 0 else (nI v <<< (nI (32 - n) &&& 31)) >>> (nI (32 - n) &&& 31)
def rS (F : Nat → Bool) (L n p : Nat) : Rr Int32 := rb (rB F L n p) fun v p' => .inr (sx n v, p')
/-- zeros before a one, fewer than m -/
def rZ (F : Nat → Bool) (L e : Nat) : Nat → Nat → Nat → Rr Nat
  | 0, _, _ => .inl e
  | m + 1, n, p => rb (rB F L 1 p) fun v p' => if v = 1 then .inr (n, p') else rZ F L e m (n + 1) p'
/-- steps one after the other -/
def rL {σ : Type} (step : Nat → σ → Nat → Rr σ) (s0 : σ) (p0 : Nat) : Nat → Rr σ
  | 0 => .inr (s0, p0)
  | m + 1 => rb (rL step s0 p0 m) (step m)
theorem rL_err {σ : Type} {step : Nat → σ → Nat → Rr σ} {s0 : σ} {p0 e m : Nat} (h : rL step s0 p0 m = .inl e) : ∀ {m' : Nat}, m ≤ m' → rL step s0 p0 m' = .inl e := by
  intro m' hm
  obtain ⟨d, rfl⟩ : ∃ d, m' = m + d := ⟨m' - m, by omega⟩
  clear hm
  induction d with
  | zero => exact h
  | succ d ih => rw [← Nat.add_assoc, rL, ih, rb_l]
theorem rL_s {σ : Type} {step : Nat → σ → Nat → Rr σ} {s0 s : σ} {p0 p m : Nat} (h : rL step s0 p0 m = .inr (s, p)) : rL step s0 p0 (m + 1) = step m s p := by rw [rL, h, rb_r]
/-! PURE: subframes -/
def isT (t : Nat) : Bool := decide (t = 0) || decide (t = 1) || decide (32 ≤ t) || (decide (8 ≤ t) && decide (t ≤ 12))
def oT (t : Nat) : Nat := if 32 ≤ t then t - 31 else if 8 ≤ t then t - 8 else 0
/-- what is foretold from the samples before, by the factors -/
def prd (fac row : Nat → Int32) (i : Nat) : Nat → Int64
  | 0 => 0
  | j + 1 => prd fac row i j + (fac j).toInt64 * (row (i - 1 - j)).toInt64
def unf (v : Nat) : Int64 := if v % 2 = 0 then lN (v / 2) else -(lN (v / 2)) - 1
/-- a rest: escaped with n bits, or folded with k -/
def rR (F : Nat → Bool) (L : Nat) (esc : Bool) (n k p : Nat) : Rr Int64 :=
  if esc then rb (rS F L n p) fun v p' => .inr (v.toInt64, p')
  else rb (rZ F L 11 (2 ^ (32 - k)) 0 p) fun z p' => rb (rB F L k p') fun b p'' => .inr (unf (z * 2 ^ k + b), p'')
/-- what the subframe's predictor is: order, width, shift, factors -/
abbrev Pd : Type := Nat × Nat × Nat × (Nat → Int32)
def inR (width : Nat) (v : Int64) : Bool := decide (-(lN (2 ^ (width - 1))) ≤ v) && decide (v < lN (2 ^ (width - 1)))
def stp (F : Nat → Bool) (L : Nat) (P : Pd) (esc : Bool) (n k a : Nat) : Nat → (Nat → Int32) → Nat → Rr (Nat → Int32) := fun j row p =>
  rb (rR F L esc n k p) fun r p' =>
    if inR P.2.1 ((prd P.2.2.2 row (a + j) P.1 >>> ((nI P.2.2.1).toInt64 &&& 63)) + r) then .inr (upd row (a + j) ((prd P.2.2.2 row (a + j) P.1 >>> ((nI P.2.2.1).toInt64 &&& 63)) + r).toInt32, p') else .inl 11
/-- a part: m samples from a on -/
def rP (F : Nat → Bool) (L : Nat) (P : Pd) (way a m : Nat) (row : Nat → Int32) (p : Nat) : Rr (Nat → Int32) :=
  rb (rB F L (4 + way) p) fun k p1 =>
    if k = 2 ^ (4 + way) - 1 then rb (rB F L 5 p1) fun n p2 => rL (stp F L P true n k a) row p2 m
    else rL (stp F L P false 0 k a) row p1 m
def rRs (F : Nat → Bool) (L : Nat) (P : Pd) (size : Nat) (row : Nat → Int32) (p : Nat) : Rr (Nat → Int32) :=
  rb (rB F L 2 p) fun way p1 =>
    if way ≤ 1 then rb (rB F L 4 p1) fun q p2 =>
      if size % 2 ^ q = 0 ∧ P.1 ≤ size / 2 ^ q then rL (fun part row p => rP F L P way (pA P.1 (size / 2 ^ q) part) (pM P.1 (size / 2 ^ q) part) row p) row p2 (2 ^ q)
      else .inl 10
    else .inl 10
/-- plain samples -/
def rPl (F : Nat → Bool) (L width n p : Nat) : Rr (Nat → Int32) := rL (fun i row p => rb (rS F L width p) fun v p' => .inr (upd row i v, p')) (fun _ => 0) p n
/-- the factors -/
def rF (F : Nat → Bool) (L o p : Nat) : Rr (Nat × (Nat → Int32)) :=
  rb (rB F L 4 p) fun v p1 =>
    if v + 1 < 16 then rb (rS F L 5 p1) fun s p2 =>
      if 0 ≤ s then rb (rL (fun j f p => rb (rS F L (v + 1) p) fun c p' => .inr (upd f j c, p')) (fun _ => 0) p2 o) fun f p3 => .inr ((s.toNatClampNeg, f), p3)
      else .inl 10
    else .inl 10
def fxf (o j : Nat) : Int32 := sv_FIXED_FACTORS.getD (4 * o + j) 0
/-- behind the head: type t, w low zeros -/
def rSb (F : Nat → Bool) (L t w size depth p : Nat) : Rr (Nat → Int32) :=
  if oT t ≤ size then
    rb (if t = 0 then rb (rS F L (depth - w) p) (fun v p' => .inr ((fun _ => v), p')) else rPl F L (depth - w) (if t = 1 then size else oT t) p) fun row p1 =>
    rb (if 32 ≤ t then rF F L (oT t) p1 else .inr ((0, fxf (oT t)), p1)) fun f p2 =>
    rb (if 8 ≤ t then rRs F L (oT t, depth - w, f.1, f.2) size row p2 else .inr (row, p2)) fun row p3 =>
    .inr ((fun i => row i <<< (nI w &&& 31)), p3)
  else .inl 9
def rSub (F : Nat → Bool) (L size depth p : Nat) : Rr (Nat → Int32) :=
  rb (rB F L 8 p) fun lead p1 =>
    if lead < 128 ∧ isT (lead / 2 % 64) = true then
      rb (if lead % 2 = 1 then rb (rZ F L 9 (depth - 1) 0 p1) (fun z p' => .inr (1 + z, p')) else .inr (0, p1)) fun w p2 => rSb F L (lead / 2 % 64) w size depth p2
    else .inl 9
