section XF
variable {x : xg_T} {y : xw_T} {nc ns pc : Nat} {L : List (Option Value)} {S : List Value} {h : xw_H}
theorem xg_get {k idx ci j t : Nat} {ks : List Nat} {v : Value} (X : xg_ok x) (HW : xg_W x) (g : xw_G y (xg_s x)) (f : xf_ok (xg_own x) idx ci j t (xw_cl y)) (d : decode (xg_cc x) pc = .ok (.getfield idx, 3)) (hk : k < xw_n y) (hkd : xw_kd y k = .inl (ci, ks)) (hj : ks[j]? = some t) (hv : xw_v (xw_ph y) v = xw_f (xw_ph y) t (h.1 k j) (h.2 k j) (xw_rf y k j))
    (kk : xg x y nc ns (pc + 3) L (v :: S) h) : xg x y nc ns pc L (.ref k :: S) h := by
  obtain ⟨p, l, e, R, s, m, args, below, meth, c, Q, cc, own, nL⟩ := x
  obtain ⟨hx, hb, hml, hown⟩ := X
  obtain ⟨C, T, N, hc, hN, hin, hlink, -⟩ := f
  intro H locs ls hP hS hL
  have hts : ∀ w ∈ xw_tbl, w.before args s = true := HW
  refine va_get (v := xw_f (xw_ph y) t (h.1 k j) (h.2 k j) (xw_rf y k j)) hx hb hts hin hown g.2.1 hP k (xw_obj hk hkd) hc j hN (hts _ hlink) (fun _ q => q) (xw_fld hj) d ?_
  rw [← hv]
  exact kk H locs ls hP hS hL
/-- an int, a long, a reference that is there -/
theorem xg_getI {k idx ci j : Nat} {ks : List Nat} (X : xg_ok x) (HW : xg_W x) (g : xw_G y (xg_s x)) (f : xf_ok (xg_own x) idx ci j 0 (xw_cl y)) (d : decode (xg_cc x) pc = .ok (.getfield idx, 3)) (hk : k < xw_n y) (hkd : xw_kd y k = .inl (ci, ks)) (hj : ks[j]? = some 0)
    (kk : xg x y nc ns (pc + 3) L (.int (h.1 k j) :: S) h) : xg x y nc ns pc L (.ref k :: S) h := xg_get X HW g f d hk hkd hj rfl kk
theorem xg_getJ {k idx ci j : Nat} {ks : List Nat} (X : xg_ok x) (HW : xg_W x) (g : xw_G y (xg_s x)) (f : xf_ok (xg_own x) idx ci j 1 (xw_cl y)) (d : decode (xg_cc x) pc = .ok (.getfield idx, 3)) (hk : k < xw_n y) (hkd : xw_kd y k = .inl (ci, ks)) (hj : ks[j]? = some 1)
    (kk : xg x y nc ns (pc + 3) L (.long (h.2 k j) :: S) h) : xg x y nc ns pc L (.ref k :: S) h := xg_get X HW g f d hk hkd hj rfl kk
theorem xg_getR {k idx ci j b : Nat} {ks : List Nat} (X : xg_ok x) (HW : xg_W x) (g : xw_G y (xg_s x)) (f : xf_ok (xg_own x) idx ci j 2 (xw_cl y)) (d : decode (xg_cc x) pc = .ok (.getfield idx, 3)) (hk : k < xw_n y) (hkd : xw_kd y k = .inl (ci, ks)) (hj : ks[j]? = some 2) (hr : xw_rf y k j = some b)
    (kk : xg x y nc ns (pc + 3) L (.ref b :: S) h) : xg x y nc ns pc L (.ref k :: S) h := xg_get X HW g f d hk hkd hj (by rw [hr]; rfl) kk
/-- an int, a long is put; narrow fields (a boolean) hold what they can -/
theorem xg_putI {k idx ci j : Nat} {ks : List Nat} {a : Int32} {C : String} {T : u_T} {N : Nat} {ty : FieldType} (X : xg_ok x) (HW : xg_W x) (g : xw_G y (xg_s x)) (f : xf_ok (xg_own x) idx ci j 0 (xw_cl y)) (hcl : (xw_cl y)[ci]? = some (C, T, N)) (hfin : (T j).2.2.2 = false) (hty : parseFieldDescriptor (T j).2.2.1 = some ty) (hn : narrow ty (.int a) = .int a) (hft : fits ty (.int a) = true) (d : decode (xg_cc x) pc = .ok (.putfield idx, 3)) (hk : k < xw_n y) (hkd : xw_kd y k = .inl (ci, ks)) (hj : ks[j]? = some 0)
    (kk : xg x y nc ns (pc + 3) L S (xw_I h k j a)) : xg x y nc ns pc L (.int a :: .ref k :: S) h := by
  obtain ⟨p, l, e, R, s, m, args, below, meth, c, Q, cc, own, nL⟩ := x
  obtain ⟨hx, hb, hml, hown⟩ := X
  obtain ⟨C', T', N', hc, hN, hin, hlink, ty0, hty0, hnm⟩ := f
  cases hcl.symm.trans hc
  intro H locs ls hP hS hL
  have hts : ∀ w ∈ xw_tbl, w.before args s = true := HW
  have hl : j < (xw_fs y h k ks).length := by unfold xw_fs; rw [List.length_map, List.length_range]; exact (List.getElem?_eq_some_iff.mp hj).1
  refine va_put (v := .int a) hx hb hts hin ty0 hty0 hnm hown g.2.1 hP (xw_apart h g.1) hS k (xw_obj hk hkd) hcl j hN (hts _ hlink) (fun _ q => q) hfin hty hn hft hl d (fun H1 locs1 hP1 _ hS1 => ?_)
  rw [xw_setI hk hkd hj] at hP1
  exact kk H1 locs1 ls hP1 hS1 hL
theorem xg_putJ {k idx ci j : Nat} {ks : List Nat} {a : Int64} {C : String} {T : u_T} {N : Nat} (X : xg_ok x) (HW : xg_W x) (g : xw_G y (xg_s x)) (f : xf_ok (xg_own x) idx ci j 1 (xw_cl y)) (hcl : (xw_cl y)[ci]? = some (C, T, N)) (hfin : (T j).2.2.2 = false) (hty : parseFieldDescriptor (T j).2.2.1 = some .long) (d : decode (xg_cc x) pc = .ok (.putfield idx, 3)) (hk : k < xw_n y) (hkd : xw_kd y k = .inl (ci, ks)) (hj : ks[j]? = some 1)
    (kk : xg x y nc ns (pc + 3) L S (xw_J h k j a)) : xg x y nc ns pc L (.long a :: .ref k :: S) h := by
  obtain ⟨p, l, e, R, s, m, args, below, meth, c, Q, cc, own, nL⟩ := x
  obtain ⟨hx, hb, hml, hown⟩ := X
  obtain ⟨C', T', N', hc, hN, hin, hlink, ty0, hty0, hnm⟩ := f
  cases hcl.symm.trans hc
  intro H locs ls hP hS hL
  have hts : ∀ w ∈ xw_tbl, w.before args s = true := HW
  have hl : j < (xw_fs y h k ks).length := by unfold xw_fs; rw [List.length_map, List.length_range]; exact (List.getElem?_eq_some_iff.mp hj).1
  refine va_put (v := .long a) hx hb hts hin ty0 hty0 hnm hown g.2.1 hP (xw_apart h g.1) hS k (xw_obj hk hkd) hcl j hN (hts _ hlink) (fun _ q => q) hfin hty rfl rfl hl d (fun H1 locs1 hP1 _ hS1 => ?_)
  rw [xw_setJ hk hkd hj] at hP1
  exact kk H1 locs1 ls hP1 hS1 hL
/-- constants -/
theorem xg_ldc {idx : Nat} {a : Int32} (X : xg_ok x) (HW : xg_W x) (hc : Cond.constant (xg_own x) idx a ∈ xw_tbl) (d : decode (xg_cc x) pc = .ok (.ldc idx, 2))
    (kk : xg x y nc ns (pc + 2) L (.int a :: S) h) : xg x y nc ns pc L S h := by
  obtain ⟨p, l, e, R, s, m, args, below, meth, c, Q, cc, own, nL⟩ := x
  obtain ⟨hx, hb, hml, hown⟩ := X
  intro H locs ls hP hS hL
  exact lv_ldc hx hb hown (HW _ hc) d (kk H locs ls hP hS hL)
theorem xg_ldc2 {idx : Nat} {a : Int64} (X : xg_ok x) (HW : xg_W x) (hc : Cond.constantLong (xg_own x) idx a ∈ xw_tbl) (d : decode (xg_cc x) pc = .ok (.ldc2_w idx, 3))
    (kk : xg x y nc ns (pc + 3) L (.long a :: S) h) : xg x y nc ns pc L S h := by
  obtain ⟨p, l, e, R, s, m, args, below, meth, c, Q, cc, own, nL⟩ := x
  obtain ⟨hx, hb, hml, hown⟩ := X
  intro H locs ls hP hS hL
  exact lv_ldc2 hx hb hown (HW _ hc) d (kk H locs ls hP hS hL)
end XF
