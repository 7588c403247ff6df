/-! ARRAYS. Places of array classes in the world's list: 0 int, 1 long, 2 byte, 3 rows of ints, 4 rows of longs -/
def xw_tys : List FieldType := [.int, .long, .byte, .array .int, .array .long]
/-- the tables know the world's classes -/
def xw_G (y : xw_T) (s : State) : Prop := xw_ok y ∧ va_K (xw_D y) (xw_cl y) (xw_ty y) s ∧ (xw_ty y).map Prod.snd = xw_tys
theorem xw_tyAt {y : xw_T} {s : State} (g : xw_G y s) {t0 : Nat} {ty : FieldType} (h : xw_tys[t0]? = some ty) : (xw_ty y)[t0]? = some (((xw_ty y).getD t0 (0, .int)).1, ty) := by
  have h1 := g.2.2
  have h2 : ((xw_ty y).map Prod.snd)[t0]? = some ty := by rw [h1]; exact h
  rw [List.getElem?_map] at h2
  cases hq : (xw_ty y)[t0]? with
  | none => rw [hq] at h2; cases h2
  | some q =>
    rw [hq] at h2
    obtain ⟨a, b⟩ := q
    cases h2
    rw [List.getD_eq_getElem?_getD, hq]
    rfl
section XH
variable {x : xg_T} {y : xw_T} {nc ns pc : Nat} {L : List (Option Value)} {S : List Value} {h : xw_H}
theorem xg_iaload {k len : Nat} {i : Int32} (X : xg_ok x) (g : xw_G y (xg_s x)) (d : decode (xg_cc x) pc = .ok (.iaload, 1)) (hk : k < xw_n y) (hkd : xw_kd y k = .inr (0, 0, len)) (hin : vp_in i len)
    (kk : xg x y nc ns (pc + 1) L (.int (h.1 k i.toNatClampNeg) :: S) h) : xg x y nc ns pc L (.int i :: .ref k :: S) h := by
  obtain ⟨p, l, e, R, s, m, args, below, meth, c, Q, cc, own, nL⟩ := x
  obtain ⟨hx, hb, hml, hown⟩ := X
  intro H locs ls hP hS hL
  exact va_iald hx hb g.2.1 hP k 0 (xw_arr hk hkd) (xw_tyAt g rfl) hin d (kk H locs ls hP hS hL)
theorem xg_baload {k len : Nat} {i : Int32} (X : xg_ok x) (g : xw_G y (xg_s x)) (d : decode (xg_cc x) pc = .ok (.baload, 1)) (hk : k < xw_n y) (hkd : xw_kd y k = .inr (2, 0, len)) (hin : vp_in i len)
    (kk : xg x y nc ns (pc + 1) L (.int (h.1 k i.toNatClampNeg) :: S) h) : xg x y nc ns pc L (.int i :: .ref k :: S) h := by
  obtain ⟨p, l, e, R, s, m, args, below, meth, c, Q, cc, own, nL⟩ := x
  obtain ⟨hx, hb, hml, hown⟩ := X
  intro H locs ls hP hS hL
  exact va_bald hx hb g.2.1 hP k 2 (xw_arr hk hkd) (xw_tyAt g rfl) hin d (kk H locs ls hP hS hL)
theorem xg_laload {k len : Nat} {i : Int32} (X : xg_ok x) (g : xw_G y (xg_s x)) (d : decode (xg_cc x) pc = .ok (.laload, 1)) (hk : k < xw_n y) (hkd : xw_kd y k = .inr (1, 1, len)) (hin : vp_in i len)
    (kk : xg x y nc ns (pc + 1) L (.long (h.2 k i.toNatClampNeg) :: S) h) : xg x y nc ns pc L (.int i :: .ref k :: S) h := by
  obtain ⟨p, l, e, R, s, m, args, below, meth, c, Q, cc, own, nL⟩ := x
  obtain ⟨hx, hb, hml, hown⟩ := X
  intro H locs ls hP hS hL
  exact va_lald hx hb g.2.1 hP k 1 (xw_arr hk hkd) (xw_tyAt g rfl) hin d (kk H locs ls hP hS hL)
theorem xg_aaload {k b t0 len : Nat} {ty : FieldType} {i : Int32} (X : xg_ok x) (g : xw_G y (xg_s x)) (d : decode (xg_cc x) pc = .ok (.aaload, 1)) (hk : k < xw_n y) (hkd : xw_kd y k = .inr (t0, 2, len)) (hty : xw_tys[t0]? = some (.array ty)) (hin : vp_in i len) (hr : xw_rf y k i.toNatClampNeg = some b)
    (kk : xg x y nc ns (pc + 1) L (.ref b :: S) h) : xg x y nc ns pc L (.int i :: .ref k :: S) h := by
  obtain ⟨p, l, e, R, s, m, args, below, meth, c, Q, cc, own, nL⟩ := x
  obtain ⟨hx, hb, hml, hown⟩ := X
  intro H locs ls hP hS hL
  have hlt : i.toNatClampNeg < len := Nat.not_le.mp fun q => hin (Or.inr q)
  refine W.aald (v := va_rf ((xw_rf y k i.toNatClampNeg).map (xw_ph y))) (ty := .array ty) hx hb (hP k _ (xw_arr hk hkd)) ((g.2.1.2 t0 _ (xw_tyAt g hty)).1 len (fun q => va_rf ((xw_rf y k q).map (xw_ph y)))) rfl (fun q => by cases q) (by show ¬ (i < 0 ∨ (arrV _ _ _).slots.size ≤ _); rw [arrV_size]; exact hin) (by show (arrV _ _ _).slots[_]? = _; rw [arrV_read _ _ hlt]) rfl rfl d ?_
  rw [hr]
  exact kk H locs ls hP hS hL
theorem xg_iastore {k len : Nat} {i a : Int32} (X : xg_ok x) (g : xw_G y (xg_s x)) (d : decode (xg_cc x) pc = .ok (.iastore, 1)) (hk : k < xw_n y) (hkd : xw_kd y k = .inr (0, 0, len)) (hin : vp_in i len)
    (kk : xg x y nc ns (pc + 1) L S (xw_I h k i.toNatClampNeg a)) : xg x y nc ns pc L (.int a :: .int i :: .ref k :: S) h := by
  obtain ⟨p, l, e, R, s, m, args, below, meth, c, Q, cc, own, nL⟩ := x
  obtain ⟨hx, hb, hml, hown⟩ := X
  intro H locs ls hP hS hL
  refine va_iast hx hb g.2.1 hP (xw_apart h g.1) hS k 0 (xw_arr hk hkd) (xw_tyAt g rfl) hin d (fun H1 locs1 hP1 _ hS1 => ?_)
  rw [xw_setAI hk hkd] at hP1
  exact kk H1 locs1 ls hP1 hS1 hL
theorem xg_bastore {k len : Nat} {i a : Int32} (X : xg_ok x) (g : xw_G y (xg_s x)) (d : decode (xg_cc x) pc = .ok (.bastore, 1)) (hk : k < xw_n y) (hkd : xw_kd y k = .inr (2, 0, len)) (hin : vp_in i len)
    (kk : xg x y nc ns (pc + 1) L S (xw_I h k i.toNatClampNeg (a.toInt8.toInt32))) : xg x y nc ns pc L (.int a :: .int i :: .ref k :: S) h := by
  obtain ⟨p, l, e, R, s, m, args, below, meth, c, Q, cc, own, nL⟩ := x
  obtain ⟨hx, hb, hml, hown⟩ := X
  intro H locs ls hP hS hL
  refine va_bast hx hb g.2.1 hP (xw_apart h g.1) hS k 2 (xw_arr hk hkd) (xw_tyAt g rfl) hin d (fun H1 locs1 hP1 _ hS1 => ?_)
  rw [vp_nar_byte, xw_setAI hk hkd] at hP1
  exact kk H1 locs1 ls hP1 hS1 hL
theorem xg_lastore {k len : Nat} {i : Int32} {a : Int64} (X : xg_ok x) (g : xw_G y (xg_s x)) (d : decode (xg_cc x) pc = .ok (.lastore, 1)) (hk : k < xw_n y) (hkd : xw_kd y k = .inr (1, 1, len)) (hin : vp_in i len)
    (kk : xg x y nc ns (pc + 1) L S (xw_J h k i.toNatClampNeg a)) : xg x y nc ns pc L (.long a :: .int i :: .ref k :: S) h := by
  obtain ⟨p, l, e, R, s, m, args, below, meth, c, Q, cc, own, nL⟩ := x
  obtain ⟨hx, hb, hml, hown⟩ := X
  intro H locs ls hP hS hL
  refine va_last hx hb g.2.1 hP (xw_apart h g.1) hS k 1 (xw_arr hk hkd) (xw_tyAt g rfl) hin d (fun H1 locs1 hP1 _ hS1 => ?_)
  rw [xw_setAJ hk hkd] at hP1
  exact kk H1 locs1 ls hP1 hS1 hL
end XH
