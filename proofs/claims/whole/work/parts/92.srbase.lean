/-! SoundStream$SubframeReader: isType, orderOf, unfold, predict, useFixedFactors, readPlain, readFactors -/
section S92a
variable {x : xg_T} {y : xw_T} {KK : State → Prop} {own : String} {cc : ByteArray} {nL : Nat} {nc ns pc : Nat} {L : List (Option Value)} {S : List Value} {h : xw_H}
theorem xw_setS1 {y : xw_T} {h : xw_H} {b t0 len : Nat} {f : Nat → Int32} (hk : b < xw_n y) (hkd : xw_kd y b = .inr (t0, 0, len)) : (xw_W y h).set b (xw_ph y b, .inl (((xw_ty y).getD t0 (0, .int)).1, len, .inl f)) = xw_W y (xw_s1 h b f) := by
  refine xw_ne_set hk ?_ (fun q hq => ?_)
  · unfold xw_ce
    rw [hkd]
    show Sum.inl (_, len, Sum.inl _) = _
    simp [xw_s1, va_up]
  · unfold xw_ce xw_s1
    simp only [va_up_ne _ _ hq]
/-- ints of a static array are copied into a row -/
theorem ra_copyS (A : xg_A x y KK own cc nL) {index k b N lb sp dp n : Nat} {f : Nat → Int32} (hTs : va_T .int (xw_ph y k) N (fun j => .int (f j)) (xw_A y) (xg_s x) (xg_s x).heap) (hlink : Cond.methodLink own index arraycopyName ∈ xw_tbl) (d : decode cc pc = .ok (.invokestatic index, 3)) (hb : b < xw_n y) (hkb : xw_kd y b = .inr (0, 0, lb)) (h4 : sp + n ≤ N) (h5 : dp + n ≤ lb) (hN : N < 2 ^ 31) (hlb : lb < 2 ^ 31)
    (hR : 1 ≤ (xm_R x).frames ∧ (S.map fun v => v.category).sum + (nativeFrameWords "java/lang/System" "arraycopy" 5 + 11) ≤ (xm_R x).locals)
    (kk : xg x y nc ns (pc + 3) L S (xw_s1 h b (va_cpy f (h.1 b) sp dp n))) : xg x y nc ns pc L (.int (nI n) :: .int (nI dp) :: .ref b :: .int (nI sp) :: .ref k :: S) h := by
  obtain ⟨X, rfl, rfl, rfl, HW, g, hmv, hKK, hB⟩ := A
  obtain ⟨p, l, e, R, s, m, args, below, meth, c, Q, cc, own, nL⟩ := x
  obtain ⟨hx, hb', hml, hown⟩ := X
  intro H locs ls hP hS hL T hT St
  obtain ⟨cs, t1, t2, t3, t4, t5, t6, t7⟩ := hTs
  have hD := xw_apart h g.1
  have ha1 : (xw_W y h)[b]? = some (xw_ph y b, .inl (((xw_ty y).getD 0 (0, .int)).1, lb, .inl (h.1 b))) := xw_arr hb hkb
  have ht1 := xw_tyAt g (t0 := 0) (ty := .int) rfl
  generalize hc1 : ((xw_ty y).getD 0 (0, .int)).1 = c1 at ha1 ht1
  have k0' : (nI sp).toNatClampNeg = sp := nI_clamp (by omega)
  have k1' : (nI dp).toNatClampNeg = dp := nI_clamp (by omega)
  have k2' : (nI n).toNatClampNeg = n := nI_clamp (by omega)
  have src : H[xw_ph y k]? = some cs := by rw [hS.2.1 _ (Array.getElem?_eq_some_iff.mp t1).1 t7]; exact t1
  have dst : H[xw_ph y b]? = some (vp_cell c1 (lb, .inl (h.1 b))) := hP b _ ha1
  obtain ⟨t8, q0, hq0, m0, hm0⟩ := t2
  obtain ⟨-, q1, hq1, m1, hm1⟩ := (g.2.1.2 0 _ ht1).1 lb (fun j => .int (h.1 b j))
  have rd : ∀ i, i < n → cs.slots.getD (sp + i) .null = .int (f (sp + i)) := fun i hi => by
    rw [Array.getD_eq_getD_getElem?, t6 _ (by omega)]
    rfl
  obtain ⟨vm1, St1, go⟩ := St.arraycopy hx hown (HW _ hlink) (HW _ nat_copy) (HW _ st_copy) (HW _ ini_Sys) (cs := cs) (cd := vp_cell c1 (lb, .inl (h.1 b))) (srcPos := nI sp) (destPos := nI dp) (n := nI n) (by rw [hT]; exact src) (by rw [hT]; exact dst)
    t8 (fun _ q => by cases q) t3 (fun q => by cases q) hq0 hq1 hm0 hm1 (by simp [refKind]) (nI_pos (by omega)) (nI_pos (by omega)) (nI_pos (by omega))
    (by rw [nI_toInt (by omega), nI_toInt (by omega)]; omega) (by rw [nI_toInt (by omega), nI_toInt (by omega)]; show ¬ _ > ((arrV c1 lb (fun j => .int (h.1 b j))).slots.size : Int); rw [arrV_size]; omega)
    (fun _ _ i hi => by
      rw [k2'] at hi
      rw [k0', rd i hi]
      exact ⟨rfl, trivial⟩)
    (g := F0 m pc ls ((.int (nI n) :: .int (nI dp) :: .ref b :: .int (nI sp) :: .ref k :: S).map (xw_v (xw_ph y)))) rfl (hL.1.trans hml.symm) (rest := S.map (xw_v (xw_ph y))) rfl (by rw [hb']; exact d) hR.1 (by show 2 * 0 + _ + _ ≤ _; rw [xm_cats]; have q : (S.map fun v => v.category).sum + (nativeFrameWords "java/lang/System" "arraycopy" 5 + 11) ≤ R.locals := hR.2; omega)
  have e1 : copied cs (vp_cell c1 (lb, .inl (h.1 b))) (nI sp) (nI dp) (nI n) = vp_cell c1 (lb, .inl (va_cpy f (h.1 b) sp dp n)) := by
    have := va_copiedX (fun z => Value.int z) cs c1 (n0 := N) (n1 := lb) (sp := (nI sp).toNatClampNeg) (dp := (nI dp).toNatClampNeg) (n := (nI n).toNatClampNeg) f (h.1 b) t6 (by rw [k0', k2']; exact h4)
    rw [k0', k1', k2'] at this
    unfold copied
    rw [k0', k1', k2']
    exact this
  rw [e1] at St1 go
  have hl : xw_ph y b < H.size := (Array.getElem?_eq_some_iff.mp dst).1
  have oq : ∀ q : Nat, q ≠ xw_ph y b → (H.setIfInBounds (xw_ph y b) (vp_cell c1 (lb, .inl (va_cpy f (h.1 b) sp dp n))))[q]? = H[q]? := fun q hq => by simp [Array.getElem?_setIfInBounds, Ne.symm hq]
  have hP1 : va_P (xw_D y) (xw_cl y) ((xw_W y h).set b (xw_ph y b, .inl (c1, lb, .inl (va_cpy f (h.1 b) sp dp n)))) (H.setIfInBounds (xw_ph y b) (vp_cell c1 (lb, .inl (va_cpy f (h.1 b) sp dp n)))) := hP.set hD ha1 (show (H.setIfInBounds (xw_ph y b) (vp_cell c1 (lb, .inl (va_cpy f (h.1 b) sp dp n))))[xw_ph y b]? = some _ by simp [Array.getElem?_setIfInBounds, hl]) oq
  rw [← hc1, xw_setS1 hb hkb] at hP1
  have hA := hD.2 b _ ha1
  obtain ⟨t, st, hq⟩ := kk _ _ ls hP1 ⟨by simp; exact hS.1, fun q g1 g2 => by
      rw [hc1, oq q (fun z => g2 (z ▸ hA))]
      exact hS.2.1 q g1 g2, fun q hq => by
      rcases List.mem_append.mp hq with z | z
      · exact hS.2.2 q z
      · obtain ⟨w, -, hw⟩ := List.mem_map.mp z
        rw [← hw]
        exact hA⟩ hL _ (by rw [← hT, hc1]; rfl) St1
  exact ⟨t, go t st, hq⟩
end S92a
