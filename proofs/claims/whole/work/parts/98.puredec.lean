/-! PURE: a whole stream read -/
theorem rB_ok {F : Nat → Bool} {L n p v p' : Nat} (h : rB F L n p = .inr (v, p')) : v = bv F p n ∧ p' = p + n ∧ p + n ≤ 8 * L := by
  unfold rB at h
  split at h
  · rename_i c
    have e := Sum.inr.inj h
    exact ⟨(congrArg Prod.fst e).symm, (congrArg Prod.snd e).symm, c⟩
  · cases h
theorem rB_err {F : Nat → Bool} {L n p e : Nat} (h : rB F L n p = .inl e) : e = 13 ∧ ¬ p + n ≤ 8 * L := by
  unfold rB at h
  split at h
  · cases h
  · rename_i c
    exact ⟨(Sum.inl.inj h).symm, c⟩
theorem rB_yes {F : Nat → Bool} {L n p : Nat} (h : p + n ≤ 8 * L) : rB F L n p = .inr (bv F p n, p + n) := by
  unfold rB
  rw [if_pos h]
/-- eight bytes, the first one the lowest -/
def e8 (F : Nat → Bool) (q : Nat) : Nat → Nat
  | 0 => 0
  | i + 1 => e8 F q i + bv F (q + 8 * i) 8 * 2 ^ (8 * i)
theorem e8_lt {F : Nat → Bool} {q : Nat} : ∀ i, e8 F q i < 2 ^ (8 * i)
  | 0 => by rw [e8]; decide
  | i + 1 => by
    have h := e8_lt (F := F) (q := q) i
    have hb := bv_lt (F := F) (p := q + 8 * i) 8
    rw [e8, show 8 * (i + 1) = 8 + 8 * i by omega, Nat.pow_add]
    have : (bv F (q + 8 * i) 8 + 1) * 2 ^ (8 * i) ≤ 2 ^ 8 * 2 ^ (8 * i) := Nat.mul_le_mul_right _ hb
    rw [Nat.add_mul] at this
    omega
/-- the information -/
def iLe (F : Nat → Bool) : Nat := bv F 64 16
def iGr (F : Nat → Bool) : Nat := bv F 80 16
def iRa (F : Nat → Bool) : Nat := bv F 144 20
def iCh (F : Nat → Bool) : Nat := bv F 164 3 + 1
def iDp (F : Nat → Bool) : Nat := bv F 167 5 + 1
def iKn (F : Nat → Bool) : Nat := bv F 172 36
def iLo (F : Nat → Bool) : Nat := e8 F 208 8
def iHi (F : Nat → Bool) : Nat := e8 F 272 8
def iOk (F : Nat → Bool) : Prop := (16 ≤ iLe F ∧ iLe F ≤ iGr F ∧ 0 < iRa F) ∧ (iCh F ≤ 2 ∧ iKn F ≤ 1200) ∧ 4 ≤ iDp F ∧ iDp F ≤ 24
/-- the other blocks -/
def dBl (F : Nat → Bool) (L : Nat) : Nat → Nat → Bool → (Nat × Nat) ⊕ Nat
  | 0, p, _ => .inr p
  | n + 1, p, last => if last then .inr p else if ¬ p + 32 ≤ 8 * L then .inl (13, p / 8) else if bv F (p + 1) 7 = 0 ∨ bv F (p + 1) 7 = 127 then .inl (2, p / 8) else if ¬ p + 32 + 8 * bv F (p + 8) 24 ≤ 8 * L then .inl (13, p / 8) else dBl F L n (p + 32 + 8 * bv F (p + 8) 24) (decide (bv F p 1 = 1))
/-- what is known between frames: frames, samples, way, the last size, the rows -/
abbrev FS : Type := Nat × Nat × Nat × Nat × (Nat → Int32) × (Nat → Int32)
def suC (C c : Nat) : Bool := if c < 8 then decide (c + 1 = C) else decide (c ≤ 10) && decide (C = 2)
def suD (D s : Nat) : Bool := decide (s = 0) || decide (sv_DEPTHS.getD s 0 = nI D)
def rNum (F : Nat → Bool) (L num p : Nat) : Rr Unit := rL (fun i _ p => rb (rB F L 8 p) fun v p' => if v = (numB num).getD i 0 then .inr ((), p') else .inl 6) () p (numB num).length
def rSz (F : Nat → Bool) (L b p : Nat) : Rr Nat :=
  if b = 6 then rb (rB F L 8 p) (fun v p' => .inr (v + 1, p')) else if b = 7 then rb (rB F L 16 p) (fun v p' => .inr (v + 1, p')) else .inr (if b = 1 then 192 else if b < 6 then 576 * 2 ^ (b - 2) else 256 * 2 ^ (b - 8), p)
def suS (F : Nat → Bool) (frames len way last size : Nat) : Bool := decide (size ≤ iGr F) && (decide (frames = 0) || decide ((if way = 0 then iGr F else iLe F) ≤ last)) && decide (len + size ≤ (if iKn F = 0 then 1200 else iKn F))
/-- a frame's head: C, size, way -/
def rHd (F : Nat → Bool) (L frames len way last p : Nat) : Rr (Nat × Nat × Nat) :=
  rb (rB F L 16 p) fun lead p1 =>
    if lead / 2 = 32764 ∧ (frames = 0 ∨ way = lead % 2) then rb (rB F L 16 p1) fun g p2 =>
      if (g / 4096 ≠ 0 ∧ g / 256 % 16 ≠ 15 ∧ suC (iCh F) (g / 16 % 16) = true) ∧ suD (iDp F) (g / 2 % 8) = true ∧ g % 2 = 0 then
        rb (rNum F L (if lead % 2 = 0 then frames else len) p2) fun _ p3 => rb (rSz F L (g / 4096) p3) fun size p4 =>
        rb (if 12 ≤ g / 256 % 16 then rB F L (if g / 256 % 16 = 12 then 8 else 16) p4 else .inr (0, p4)) fun _ p5 =>
        if suS F frames len (lead % 2) last size = true then .inr ((g / 16 % 16, size, lead % 2), p5) else .inl 7
      else .inl 5
    else .inl 4
def sep (c : Nat) (x y : Int32) : Int32 × Int32 := if c = 8 then (x, x - y) else if c = 9 then (x + y, y) else if c = 10 then (((2 * x + (y &&& 1)) + y) >>> ((1 : Int32) &&& 31), ((2 * x + (y &&& 1)) - y) >>> ((1 : Int32) &&& 31)) else (x, y)
def rng (D : Nat) (v : Int32) : Bool := decide (-(nI (2 ^ (D - 1))) ≤ v) && decide (v < nI (2 ^ (D - 1)))
def okS (D c size : Nat) (r0 r1 : Nat → Int32) : Bool := (List.range size).all fun i => rng D (sep c (r0 i) (r1 i)).1 && rng D (sep c (r0 i) (r1 i)).2
def app (s : Nat → Int32) (n : Nat) (r : Nat → Int32) (i : Nat) : Int32 := if i < n then s i else r (i - n)
/-- the subframes -/
def rBd (F : Nat → Bool) (L c size p : Nat) : Rr ((Nat → Int32) × (Nat → Int32)) :=
  rb (rSub F L size (iDp F + if c = 9 then 1 else 0) p) fun r0 p3 =>
    if iCh F = 2 then rb (rSub F L size (iDp F + if c = 8 ∨ c = 10 then 1 else 0) p3) fun r1 p4 => if okS (iDp F) c size r0 r1 = true then .inr ((fun i => (sep c (r0 i) (r1 i)).1, fun i => (sep c (r0 i) (r1 i)).2), p4) else .inl 11
    else .inr ((r0, fun _ => 0), p3)
/-- a frame that begins at the bit p -/
def rFr (F : Nat → Bool) (L : Nat) (s : FS) (p : Nat) : Rr FS :=
  rb (rHd F L s.1 s.2.1 s.2.2.1 s.2.2.2.1 p) fun q p1 =>
  rb (rB F L 8 p1) fun v p2 => if v = crI 8 7 F p (p1 - p) 0 then
    rb (rBd F L q.1 q.2.1 p2) fun rr p4 =>
    rb (rB F L ((8 - p4 % 8) % 8) p4) fun z p5 => if z = 0 then
      rb (rB F L 16 p5) fun v p6 => if v = crI 16 32773 F p (p5 - p) 0 then .inr ((s.1 + 1, s.2.1 + q.2.1, q.2.2, q.2.1, app s.2.2.2.2.1 s.2.1 rr.1, app s.2.2.2.2.2 s.2.1 rr.2), p6) else .inl 12
    else .inl 12
  else .inl 8
def dFr (F : Nat → Bool) (L : Nat) : Nat → FS → Nat → (Nat × Nat) ⊕ (FS × Nat)
  | 0, s, p => .inr (s, p)
  | n + 1, s, p => if p / 8 < L then (match rFr F L s p with | .inl e => .inl (e, p / 8) | .inr q => dFr F L n q.1 q.2) else .inr (s, p)
def fs0 : FS := (0, 0, 0, 0, fun _ => 0, fun _ => 0)
def smK (F : Nat → Bool) : Bool := decide (iLo F ≠ 0) || decide (iHi F ≠ 0)
def smS (F : Nat → Bool) (s : FS) : Bool := decide (sml (iCh F) (iDp F) s.2.1 s.2.2.2.2.1 s.2.2.2.2.2 0 = lN (iLo F)) && decide (sml (iCh F) (iDp F) s.2.1 s.2.2.2.2.1 s.2.2.2.2.2 1 = lN (iHi F))
/-- the start and the information -/
def dIn (F : Nat → Bool) (L : Nat) : (Nat × Nat) ⊕ Nat :=
  if ¬ (4 ≤ L ∧ bv F 0 8 = 102 ∧ bv F 8 8 = 76 ∧ bv F 16 8 = 97 ∧ bv F 24 8 = 67) then .inl (1, 0)
  else if ¬ 64 ≤ 8 * L then .inl (13, 4)
  else if ¬ (bv F 33 7 = 0 ∧ bv F 40 24 = 34) then .inl (2, 4)
  else if ¬ 336 ≤ 8 * L then .inl (13, 4)
  else if ¬ ((16 ≤ iLe F ∧ iLe F ≤ iGr F ∧ 0 < iRa F) ∧ (iCh F ≤ 2 ∧ iKn F ≤ 1200) ∧ 4 ≤ iDp F ∧ iDp F ≤ 24) then .inl (3, 8)
  else dBl F L 9000 336 (decide (bv F 32 1 = 1))
def dEn (F : Nat → Bool) (s : FS) (p : Nat) : (Nat × Nat) ⊕ FS := if s.2.1 < iKn F then .inl (14, p / 8) else if smS F s || !smK F then .inr s else .inl (15, p / 8)
/-- the whole stream: a fault and its place, or what it holds -/
def dec (F : Nat → Bool) (L : Nat) : (Nat × Nat) ⊕ FS := match dIn F L with
  | .inl e => .inl e
  | .inr p => match dFr F L 9000 fs0 p with
    | .inl e => .inl e
    | .inr q => dEn F q.1 q.2
