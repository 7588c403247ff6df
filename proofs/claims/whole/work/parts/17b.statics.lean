/-! STATIC ARRAYS that nobody writes; a value '.ref k' may name such a one too -/
section XS
variable {x : xg_T} {y : xw_T} {nc ns pc : Nat} {L : List (Option Value)} {S : List Value} {h : xw_H}
theorem xg_gets {k idx : Nat} {C n d0 : String} (X : xg_ok x) (HW : xg_W x) (hZ : va_Z C n d0 (.ref (xw_ph y k)) (xw_A y) (xg_s x) (xg_s x).heap) (hlink : Cond.fieldLink (xg_own x) idx C n d0 ∈ xw_tbl) (d : decode (xg_cc x) pc = .ok (.getstatic idx, 3))
    (kk : xg x y nc ns (pc + 3) L (.ref k :: S) h) : xg x y nc ns pc L S h := by
  obtain ⟨p, l, e, R, s, m, args, below, meth, c, Q, cc, own, nL⟩ := x
  obtain ⟨hx, hb, hml, hown⟩ := X
  intro H locs ls hP hS hL
  exact va_gets hx hb hZ hS hown (HW _ hlink) (fun _ q => q) d (kk H locs ls hP hS hL)
theorem xg_getsN {k idx : Nat} {C n d0 host : String} (X : xg_ok x) (hZ : va_Z C n d0 (.ref (xw_ph y k)) (xw_A y) (xg_s x) (xg_s x).heap) (hlink : va_Nw (.fieldLinkNest (xg_own x) idx C n d0 host) (xg_s x)) (d : decode (xg_cc x) pc = .ok (.getstatic idx, 3))
    (kk : xg x y nc ns (pc + 3) L (.ref k :: S) h) : xg x y nc ns pc L S h := by
  obtain ⟨p, l, e, R, s, m, args, below, meth, c, Q, cc, own, nL⟩ := x
  obtain ⟨hx, hb, hml, hown⟩ := X
  intro H locs ls hP hS hL
  exact va_getsN hx hb hZ hS hown hlink (fun _ q => q) d (kk H locs ls hP hS hL)
theorem xg_sti {k N : Nat} {f : Nat → Value} {i a : Int32} (X : xg_ok x) (hT : va_T .int (xw_ph y k) N f (xw_A y) (xg_s x) (xg_s x).heap) (hin : vp_in i N) (hv : f i.toNatClampNeg = .int a) (d : decode (xg_cc x) pc = .ok (.iaload, 1))
    (kk : xg x y nc ns (pc + 1) L (.int a :: S) h) : xg x y nc ns pc L (.int i :: .ref k :: S) h := by
  obtain ⟨p, l, e, R, s, m, args, below, meth, c, Q, cc, own, nL⟩ := x
  obtain ⟨hx, hb, hml, hown⟩ := X
  intro H locs ls hP hS hL
  exact va_ti hx hb hT hS hin hv d (kk H locs ls hP hS hL)
theorem xg_stl {k N : Nat} {f : Nat → Value} {i : Int32} {a : Int64} (X : xg_ok x) (hT : va_T .long (xw_ph y k) N f (xw_A y) (xg_s x) (xg_s x).heap) (hin : vp_in i N) (hv : f i.toNatClampNeg = .long a) (d : decode (xg_cc x) pc = .ok (.laload, 1))
    (kk : xg x y nc ns (pc + 1) L (.long a :: S) h) : xg x y nc ns pc L (.int i :: .ref k :: S) h := by
  obtain ⟨p, l, e, R, s, m, args, below, meth, c, Q, cc, own, nL⟩ := x
  obtain ⟨hx, hb, hml, hown⟩ := X
  intro H locs ls hP hS hL
  exact va_tl hx hb hT hS hin hv d (kk H locs ls hP hS hL)
theorem xg_stlen {k N : Nat} {ty : FieldType} {f : Nat → Value} {a : Int32} (X : xg_ok x) (hT : va_T ty (xw_ph y k) N f (xw_A y) (xg_s x) (xg_s x).heap) (hv : Int32.ofNat N = a) (d : decode (xg_cc x) pc = .ok (.arraylength, 1))
    (kk : xg x y nc ns (pc + 1) L (.int a :: S) h) : xg x y nc ns pc L (.ref k :: S) h := by
  obtain ⟨p, l, e, R, s, m, args, below, meth, c, Q, cc, own, nL⟩ := x
  obtain ⟨hx, hb, hml, hown⟩ := X
  intro H locs ls hP hS hL
  exact va_tlen hx hb hT hS hv d (kk H locs ls hP hS hL)
end XS
