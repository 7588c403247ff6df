/-! what is read behind a store -/
theorem xI_k {h : xw_H} {k j a : Nat} {x : Int32} (e : a ≠ k) : (xw_I h k j x).1 a = h.1 a := va_up_ne _ _ e
theorem xI_e {h : xw_H} {k j : Nat} {x : Int32} : (xw_I h k j x).1 k j = x := by simp [xw_I, va_up, upd]
theorem xI_j {h : xw_H} {k j b : Nat} {x : Int32} (e : b ≠ j) : (xw_I h k j x).1 k b = h.1 k b := by simp [xw_I, va_up, upd, e]
theorem xI_2 {h : xw_H} {k j : Nat} {x : Int32} : (xw_I h k j x).2 = h.2 := rfl
theorem xJ_k {h : xw_H} {k j a : Nat} {x : Int64} (e : a ≠ k) : (xw_J h k j x).2 a = h.2 a := va_up_ne _ _ e
theorem xJ_e {h : xw_H} {k j : Nat} {x : Int64} : (xw_J h k j x).2 k j = x := by simp [xw_J, va_up, vp_updL]
theorem xJ_j {h : xw_H} {k j b : Nat} {x : Int64} (e : b ≠ j) : (xw_J h k j x).2 k b = h.2 k b := by simp [xw_J, va_up, vp_updL, e]
theorem xJ_1 {h : xw_H} {k j : Nat} {x : Int64} : (xw_J h k j x).1 = h.1 := rfl
