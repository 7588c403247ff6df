/-! THE WORLD BY NUMBERS. Cell k of the world lies at the address φ k; a value '.ref k' here means that cell. What a cell is (kd), and which cells its references name (rf), is the world's; what changes are two tables: ints, longs. -/
def xw_v (φ : Nat → Nat) (v : Value) : Value := match v with
  | .ref k => .ref (φ k)
  | w => w
/-- a field of the kind t: 0 an int, 1 a long, else a reference -/
def xw_f (φ : Nat → Nat) (t : Nat) (i : Int32) (j : Int64) (r : Option Nat) : Value := match t with
  | 0 => .int i
  | 1 => .long j
  | _ => va_rf (r.map φ)
/-- what an array of the kind t holds -/
def xw_c (φ : Nat → Nat) (t : Nat) (I : Nat → Int32) (J : Nat → Int64) (r : Nat → Option Nat) : (Nat → Int32) ⊕ (Nat → Int64) ⊕ (Nat → UInt32) ⊕ (Nat → UInt64) ⊕ (Nat → Option Nat) := match t with
  | 0 => .inl I
  | 1 => .inr (.inl J)
  | _ => .inr (.inr (.inr (.inr (fun q => (r q).map φ))))
/-- an object: its class's place, its fields' kinds; an array: its class's place in tys, its kind, its length -/
abbrev xw_K : Type := (Nat × List Nat) ⊕ (Nat × Nat × Nat)
abbrev xw_H : Type := (Nat → Nat → Int32) × (Nat → Nat → Int64)
def xw_E (φ : Nat → Nat) (tys : List (ClassId × FieldType)) (kd : xw_K) (I : Nat → Int32) (J : Nat → Int64) (r : Nat → Option Nat) : va_E := match kd with
  | .inl (ci, ks) => .inr (ci, (List.range ks.length).map fun j => xw_f φ (ks.getD j 0) (I j) (J j) (r j))
  | .inr (t0, t, len) => .inl ((tys.getD t0 (0, .int)).1, len, xw_c φ t I J r)
/-- the world: classes, array classes, addresses, kinds, how many cells, the first address that may change, the references -/
abbrev xw_T : Type := va_G × List vw_C × List (ClassId × FieldType) × (Nat → Nat) × (Nat → xw_K) × Nat × Nat × (Nat → Nat → Option Nat)
def xw_D (y : xw_T) : va_G := y.1
def xw_cl (y : xw_T) : List vw_C := y.2.1
def xw_ty (y : xw_T) : List (ClassId × FieldType) := y.2.2.1
def xw_ph (y : xw_T) : Nat → Nat := y.2.2.2.1
def xw_kd (y : xw_T) : Nat → xw_K := y.2.2.2.2.1
def xw_n (y : xw_T) : Nat := y.2.2.2.2.2.1
def xw_B (y : xw_T) : Nat := y.2.2.2.2.2.2.1
def xw_rf (y : xw_T) : Nat → Nat → Option Nat := y.2.2.2.2.2.2.2
def xw_A (y : xw_T) : Nat → Prop := fun q => xw_B y ≤ q
def xw_ce (y : xw_T) (h : xw_H) (k : Nat) : va_E := xw_E (xw_ph y) (xw_ty y) (xw_kd y k) (h.1 k) (h.2 k) (xw_rf y k)
def xw_W (y : xw_T) (h : xw_H) : va_W := (List.range (xw_n y)).map fun k => (xw_ph y k, xw_ce y h k)
/-- the heap holds h -/
def xw_P (y : xw_T) (h : xw_H) (H : Heap) : Prop := va_P (xw_D y) (xw_cl y) (xw_W y h) H
theorem xw_get {y : xw_T} {h : xw_H} {k : Nat} (hk : k < xw_n y) : (xw_W y h)[k]? = some (xw_ph y k, xw_ce y h k) := by
  unfold xw_W
  rw [List.getElem?_map, List.getElem?_range hk]
  rfl
theorem xw_len {y : xw_T} {h : xw_H} : (xw_W y h).length = xw_n y := by
  unfold xw_W
  rw [List.length_map, List.length_range]
/-- an int, a long is put into a place of a cell -/
def xw_I (h : xw_H) (k j : Nat) (x : Int32) : xw_H := (va_up h.1 k (upd (h.1 k) j x), h.2)
def xw_J (h : xw_H) (k j : Nat) (x : Int64) : xw_H := (h.1, va_up h.2 k (vp_updL (h.2 k) j x))
theorem xw_ne_set {y : xw_T} {h h' : xw_H} {k : Nat} {e : va_E} (hk : k < xw_n y) (he : xw_ce y h' k = e) (ho : ∀ a, a ≠ k → xw_ce y h' a = xw_ce y h a) : (xw_W y h).set k (xw_ph y k, e) = xw_W y h' := by
  apply List.ext_getElem?
  intro a
  rw [List.getElem?_set]
  by_cases ha : a < xw_n y
  · by_cases hka : k = a
    · subst hka
      rw [if_pos rfl, xw_len, if_pos hk, xw_get ha, he]
    · rw [if_neg hka, xw_get ha, xw_get ha, ho a (fun q => hka q.symm)]
  · have h1 : (xw_W y h')[a]? = none := List.getElem?_eq_none (by rw [xw_len]; omega)
    have h2 : (xw_W y h)[a]? = none := List.getElem?_eq_none (by rw [xw_len]; omega)
    rw [h1, if_neg (by omega), h2]
theorem xw_ceI {y : xw_T} {h : xw_H} {k j a : Nat} {x : Int32} (ha : a ≠ k) : xw_ce y (xw_I h k j x) a = xw_ce y h a := by
  unfold xw_ce xw_I
  simp only [va_up_ne _ _ ha]
theorem xw_ceJ {y : xw_T} {h : xw_H} {k j a : Nat} {x : Int64} (ha : a ≠ k) : xw_ce y (xw_J h k j x) a = xw_ce y h a := by
  unfold xw_ce xw_J
  simp only [va_up_ne _ _ ha]
/-- the fields of an object, as the world lists them -/
def xw_fs (y : xw_T) (h : xw_H) (k : Nat) (ks : List Nat) : List Value := (List.range ks.length).map fun j => xw_f (xw_ph y) (ks.getD j 0) (h.1 k j) (h.2 k j) (xw_rf y k j)
theorem xw_obj {y : xw_T} {h : xw_H} {k ci : Nat} {ks : List Nat} (hk : k < xw_n y) (hkd : xw_kd y k = .inl (ci, ks)) : (xw_W y h)[k]? = some (xw_ph y k, .inr (ci, xw_fs y h k ks)) := by
  rw [xw_get hk]
  unfold xw_ce
  rw [hkd]
  rfl
theorem xw_fld {y : xw_T} {h : xw_H} {k j t : Nat} {ks : List Nat} (hj : ks[j]? = some t) : (xw_fs y h k ks)[j]? = some (xw_f (xw_ph y) t (h.1 k j) (h.2 k j) (xw_rf y k j)) := by
  have hl : j < ks.length := (List.getElem?_eq_some_iff.mp hj).1
  unfold xw_fs
  rw [List.getElem?_map, List.getElem?_range hl]
  show some (xw_f (xw_ph y) (ks.getD j 0) (h.1 k j) (h.2 k j) (xw_rf y k j)) = _
  rw [List.getD_eq_getElem?_getD, hj]
  rfl
theorem xw_fs_set {y : xw_T} {h h' : xw_H} {k j : Nat} {ks : List Nat} {v : Value} (hl : j < ks.length) (hv : xw_f (xw_ph y) (ks.getD j 0) (h'.1 k j) (h'.2 k j) (xw_rf y k j) = v) (ho : ∀ a, a ≠ j → h'.1 k a = h.1 k a ∧ h'.2 k a = h.2 k a) : xw_fs y h' k ks = (xw_fs y h k ks).set j v := by
  apply List.ext_getElem?
  intro a
  rw [List.getElem?_set]
  unfold xw_fs
  rw [List.length_map, List.length_range, List.getElem?_map, List.getElem?_map]
  by_cases hja : j = a
  · subst hja
    rw [if_pos rfl, if_pos hl, List.getElem?_range hl]
    exact congrArg some hv
  · rw [if_neg hja]
    obtain ⟨e1, e2⟩ := ho a (fun q => hja q.symm)
    by_cases ha : a < ks.length
    · rw [List.getElem?_range ha]
      show some (xw_f (xw_ph y) (ks.getD a 0) (h'.1 k a) (h'.2 k a) (xw_rf y k a)) = some (xw_f (xw_ph y) (ks.getD a 0) (h.1 k a) (h.2 k a) (xw_rf y k a))
      rw [e1, e2]
    · rw [List.getElem?_eq_none (by rw [List.length_range]; omega)]
      rfl
theorem xw_setI {y : xw_T} {h : xw_H} {k j ci : Nat} {ks : List Nat} {x : Int32} (hk : k < xw_n y) (hkd : xw_kd y k = .inl (ci, ks)) (hj : ks[j]? = some 0) : (xw_W y h).set k (xw_ph y k, .inr (ci, (xw_fs y h k ks).set j (.int x))) = xw_W y (xw_I h k j x) := by
  have hl : j < ks.length := (List.getElem?_eq_some_iff.mp hj).1
  refine xw_ne_set hk ?_ (fun a ha => xw_ceI ha)
  unfold xw_ce
  rw [hkd]
  show Sum.inr (ci, xw_fs y (xw_I h k j x) k ks) = _
  rw [xw_fs_set (h := h) (v := .int x) hl]
  · rw [List.getD_eq_getElem?_getD, hj]
    show Value.int _ = _
    simp [xw_I, va_up, upd]
  · intro a ha
    simp [xw_I, va_up, upd, ha]
theorem xw_setJ {y : xw_T} {h : xw_H} {k j ci : Nat} {ks : List Nat} {x : Int64} (hk : k < xw_n y) (hkd : xw_kd y k = .inl (ci, ks)) (hj : ks[j]? = some 1) : (xw_W y h).set k (xw_ph y k, .inr (ci, (xw_fs y h k ks).set j (.long x))) = xw_W y (xw_J h k j x) := by
  have hl : j < ks.length := (List.getElem?_eq_some_iff.mp hj).1
  refine xw_ne_set hk ?_ (fun a ha => xw_ceJ ha)
  unfold xw_ce
  rw [hkd]
  show Sum.inr (ci, xw_fs y (xw_J h k j x) k ks) = _
  rw [xw_fs_set (h := h) (v := .long x) hl]
  · rw [List.getD_eq_getElem?_getD, hj]
    show Value.long _ = _
    simp [xw_J, va_up, vp_updL]
  · intro a ha
    simp [xw_J, va_up, vp_updL, ha]
theorem xw_arr {y : xw_T} {h : xw_H} {k t0 t len : Nat} (hk : k < xw_n y) (hkd : xw_kd y k = .inr (t0, t, len)) : (xw_W y h)[k]? = some (xw_ph y k, .inl (((xw_ty y).getD t0 (0, .int)).1, len, xw_c (xw_ph y) t (h.1 k) (h.2 k) (xw_rf y k))) := by
  rw [xw_get hk]
  unfold xw_ce
  rw [hkd]
  rfl
theorem xw_setAI {y : xw_T} {h : xw_H} {k j t0 len : Nat} {x : Int32} (hk : k < xw_n y) (hkd : xw_kd y k = .inr (t0, 0, len)) : (xw_W y h).set k (xw_ph y k, .inl (((xw_ty y).getD t0 (0, .int)).1, len, .inl (upd (h.1 k) j x))) = xw_W y (xw_I h k j x) := by
  refine xw_ne_set hk ?_ (fun a ha => xw_ceI ha)
  unfold xw_ce
  rw [hkd]
  show Sum.inl (_, len, Sum.inl _) = _
  simp [xw_I, va_up]
theorem xw_setAJ {y : xw_T} {h : xw_H} {k j t0 len : Nat} {x : Int64} (hk : k < xw_n y) (hkd : xw_kd y k = .inr (t0, 1, len)) : (xw_W y h).set k (xw_ph y k, .inl (((xw_ty y).getD t0 (0, .int)).1, len, .inr (.inl (vp_updL (h.2 k) j x)))) = xw_W y (xw_J h k j x) := by
  refine xw_ne_set hk ?_ (fun a ha => xw_ceJ ha)
  unfold xw_ce
  rw [hkd]
  show Sum.inl (_, len, Sum.inr (Sum.inl _)) = _
  simp [xw_J, va_up]
/-- the addresses are apart, and may change -/
def xw_ok (y : xw_T) : Prop := (∀ i j, i < xw_n y → j < xw_n y → xw_ph y i = xw_ph y j → i = j) ∧ ∀ k, k < xw_n y → xw_B y ≤ xw_ph y k
theorem xw_apart {y : xw_T} (h : xw_H) (hy : xw_ok y) : va_D (xw_A y) (xw_W y h) := by
  have lt : ∀ {i : Nat} {q : Nat × va_E}, (xw_W y h)[i]? = some q → i < xw_n y ∧ q.1 = xw_ph y i := by
    intro i q hq
    have h1 : i < (xw_W y h).length := (List.getElem?_eq_some_iff.mp hq).1
    rw [xw_len] at h1
    rw [xw_get h1] at hq
    exact ⟨h1, by rw [← Option.some.inj hq]⟩
  refine ⟨fun i j a b ha hb hab => ?_, fun k q hq => ?_⟩
  · obtain ⟨h1, h2⟩ := lt ha
    obtain ⟨h3, h4⟩ := lt hb
    exact hy.1 i j h1 h3 (by rw [← h2, ← h4]; exact hab)
  · obtain ⟨h1, h2⟩ := lt hq
    show xw_B y ≤ q.1
    rw [h2]
    exact hy.2 k h1
