/-! EXCEPTIONS OF CALLEES: out of the method, or caught by it -/
theorem xg_conv0 {φ : Nat → Nat} {nL : Nat} {L : List (Option Value)} {ls : Array Slot} {i : Nat} {w : Value} (h : lv_has ls nL ((i, w) :: (xg_as φ L).filter (fun q => !(q.1 == i) && !(q.1 + 1 == i && q.2.category == 2)))) : xg_L φ nL ((xg_clr L i).set i none) ls := by
  refine ⟨h.1, h.2.1, fun j u hj => ?_⟩
  by_cases hji : j = i
  · subst hji
    rw [List.getElem?_set, if_pos rfl] at hj
    split at hj <;> cases hj
  · rw [List.getElem?_set_ne (fun q => hji q.symm)] at hj
    obtain ⟨h1, h2⟩ := xg_clr_at hj hji
    refine h.2.2 (j, xw_v φ u) (List.mem_cons_of_mem _ (List.mem_filter.mpr ⟨xg_as_in h1, ?_⟩))
    simp only [xw_cat, Bool.and_eq_true, Bool.not_eq_true', beq_eq_false_iff_ne, ne_eq, Bool.and_eq_false_iff]
    refine ⟨hji, ?_⟩
    by_cases hq : j + 1 = i
    · exact Or.inr (fun q => h2 ⟨hq, q⟩)
    · exact Or.inl hq
section XD
variable {x : xg_T} {y : xw_T} {KK : State → Prop} {X : xc_R → xw_H → Nat → Nat → Prop} {ty : Option FieldType} {nc ns pc : Nat} {L : List (Option Value)} {h : xw_H} {E : String}
theorem xgT_out (ow : xg_owes x y X ty) (noh : xg_tab x = []) (hX : X (.inr E) h nc ns) : xgT x y nc ns pc L E h := by
  obtain ⟨p, l, e, R, s, m, args, below, meth, c, Q, cc, own, nL⟩ := x
  obtain ⟨rfl, hlocks, -⟩ := ow
  intro H locs ls q ce rest hP hS hL hce hcv hcl T hT St
  obtain ⟨st1, hrun, hend, hW, hsm⟩ := St.leaveThrown q (g := F0 m pc ls rest) rfl rfl rfl (fun z hz => by
    have h9 : z ∈ xg_tab (p, l, e, R, s, m, args, below, meth, c, xc_Q below y X s, cc, own, nL) := hz
    rw [noh] at h9
    cases h9) hlocks
  refine ⟨_, st1, .threw q, hrun, hend, h, locs, nc, ns, ?_, ?_, hS.2.2, hW, hsm, Or.inr ⟨q, E, ce, rfl, ?_, hcv, hcl, hX⟩⟩
  · show xw_P y h T.heap
    rw [hT]; exact hP
  · exact hS.F (show T.heap = H from hT)
  · show T.heap[q]? = some ce
    rw [hT]; exact hce
/-- caught by the row z of the method's table; the rows ahead don't take it; the handler begins with an astore into a place that nobody reads -/
theorem xgT_catch (ok : xg_ok x) (HW : xg_W x) {name : String} (pre : List ExceptionTableEntry) (z : ExceptionTableEntry) (suf : List ExceptionTableEntry) (hsplit : xg_tab x = pre ++ z :: suf)
    (hpass : ∀ w ∈ pre, covers w pc = false ∨ (w.catchType ≠ 0 ∧ ∃ nm : String, Cond.classLink (xg_own x) w.catchType nm ∈ xw_tbl ∧ va_Nc E nm (xg_s x))) (hz : covers z pc = true) (h0 : z.catchType ≠ 0) (hlink : Cond.classLink (xg_own x) z.catchType name ∈ xw_tbl) (hcast : xk_ca E name (xg_s x))
    {i : Fin 4} (d : decode (xg_cc x) z.handlerPc = .ok (.astore_n i, 1)) (hi : (i : Nat) < xg_nL x) (kk : xg x y nc ns (z.handlerPc + 1) ((xg_clr L i).set i none) [] h) : xgT x y nc ns pc L E h := by
  obtain ⟨p, l, e, R, s, m, args, below, meth, c, Q, cc, own, nL⟩ := x
  obtain ⟨hx, hb, hml, hown⟩ := ok
  intro H locs ls q ce rest hP hS hL hce hcv hcl T hT St
  have hts : ∀ w ∈ xw_tbl, w.before args s = true := HW
  have hpl : e.platform.magicAccessors = ({} : Platform).magicAccessors := by rw [St.admits.platform]
  obtain ⟨c3, c4, hc3, hc4, hasg⟩ := hcast
  cases Option.some.inj (hc3.symm.trans hcl)
  obtain ⟨c5, hc5, hcl5⟩ := Cond.classLink_spec hown (hts _ hlink) e.platform hpl
  cases Option.some.inj (hc4.symm.trans hc5)
  obtain ⟨vm', X', st⟩ := fi_caught St q (g := F0 m pc ls rest) rfl (by rw [hT]; exact hce) (fun k9 h9 => by rw [hcv] at h9; cases h9) (by obtain ⟨k9, h9, -⟩ := Vm.findClass_spec hcl; exact ⟨k9, h9⟩) pre z suf hsplit
    (fun w hw => by
      rcases hpass w hw with h | ⟨hw0, nm, hl1, a8, b8, h1, h2, h3⟩
      · exact Or.inl h
      · obtain ⟨c6, hc6, hcl6⟩ := Cond.classLink_spec hown (hts _ hl1) e.platform hpl
        cases Option.some.inj (h1.symm.trans hcl)
        cases Option.some.inj (h2.symm.trans hc6)
        exact Or.inr ⟨hw0, _, hcl6, h3⟩) hz h0 hcl5 hasg
  obtain ⟨t, a1, b1⟩ := lv_astore_n (H := H) (locs := locs) (Q := Q) (x := q) (rest := []) hx hb d rfl hL.has hi rfl (fun ls' h' => kk H locs ls' hP hS (xg_conv0 h')) (T.setVm vm') hT X'
  exact ⟨t, st.trans a1, b1⟩
end XD
/-! calls of methods with handlers -/
section XHH
variable {x : xg_T} {y : xw_T} {KK : State → Prop} {nc ns pc : Nat} {L : List (Option Value)} {S : List Value} {h : xw_H}
def xm_okH (M : xm_T) (hh : List (Nat × Nat × Nat × Nat)) (n : Nat) : Prop := xm_wH M hh ∈ xw_tbl ∧ Cond.initialized M.1.cls ∈ xw_tbl ∧ (M.1.cls ≠ "java/lang/invoke/MethodHandle" ∧ M.1.cls ≠ "java/lang/invoke/VarHandle") ∧ (parseMethodDescriptor M.1.desc).map (fun d => d.parameters.length) = some n
theorem xm_afterH {p : Program} {l : Launch} {e : Env} {R : Room} {s : State} {m : MethodId} {args : Array Value} {below : List Frame} {meth : Method} {c : Code} {Q : State → Prop} {cc : ByteArray} {own : String} {nL : Nat} {y : xw_T} {KK : State → Prop} {nc ns pc : Nat} {L : List (Option Value)} {S as : List Value} {h : xw_H} (hmv : xw_mv y KK) (hKK : KK s) (hB : xw_B y ≤ s.heap.size) (hts : ∀ w ∈ xw_tbl, w.before args s = true)
    {M : xm_T} {hh : List (Nat × Nat × Nat × Nat)} {n : Nat} (ok : xm_okH M hh n) (hR : M.2.2.2.2.frames + 1 ≤ R.frames ∧ 8 + (M.2.2.1 + 11) + M.2.2.2.2.locals ≤ R.locals ∧ nc + M.2.2.2.2.cells ≤ R.cells ∧ ns + M.2.2.2.2.slots ≤ R.slots)
    (hM : xm_MH l y KK M hh as h (xg_K (p, l, e, R, s, m, args, below, meth, c, Q, cc, own, nL) y nc ns pc L S)) (hb : c.code = cc) (hml : c.maxLocals = nL)
    {ig : Instr} (d : decode cc pc = .ok (ig, 3)) (hW : (S.map fun v => v.category).sum ≤ 8)
    {H : Heap} {locs : List Loc} {ls : Array Slot} (hP : xw_P y h H) (hS : va_S (xw_A y) s.heap H locs) (hL : xg_L (xw_ph y) nL L ls) {T : State} (hT : T.heap = H) {vm₁ : Vm} (X₁ : Stand p l e R s m args below meth c (T.setVm vm₁) locs nc ns)
    {mk : MethodId} (hn : (T.setVm vm₁).methodNamed? M.1 = some mk) :
    ∃ t, Steps p.tables e below (doInvoke e ((T.setVm vm₁).setTop (F0 m pc ls (S.map (xw_v (xw_ph y))))) [] mk (as.map (xw_v (xw_ph y))).toArray).1 t ∧ Q t := by
  subst hT
  have hWm := X₁.warmed
  have hcode : (xm_wH M hh).before (as.map (xw_v (xw_ph y))).toArray (T.setVm vm₁) = true := xw_keep hWm ok.1 (hts _ ok.1)
  obtain ⟨m9, methY, cY, hn9, hmY, hcY, -, hlY, -⟩ := Cond.codeWith_spec hcode
  cases Option.some.inj (hn9.symm.trans hn)
  obtain ⟨h1, L', k, n9, t, hP1, hz, hk, hLf, St', out⟩ := xc_back (W9 := 8) (maxL := M.2.2.1) hM X₁ (g := F0 m pc ls (S.map (xw_v (xw_ph y)))) rfl (hL.1.trans hml.symm) (by rw [hb]; exact d) (by show 2 * 0 + _ ≤ 8; rw [xm_cats]; omega) hn rfl
    (atoms_intro fun w hw => by
      rcases List.mem_cons.mp hw with rfl | hw
      · exact hcode
      · exact xw_keep hWm hw (hts _ hw)) hmY hcY hlY (xw_keep hWm ok.2.1 (hts _ ok.2.1)) hR.1 hR.2.1 hR.2.2.1 hR.2.2.2 hP (Nat.le_trans hB hS.1)
    (hmv s _ hWm hS.1 hS.2.1 hKK)
  have hS' : va_S (xw_A y) s.heap t.heap (locs ++ L') := by
    refine ⟨Nat.le_trans hS.1 hz, fun q h2 h3 => (hk q (Nat.lt_of_lt_of_le h2 hS.1) h3).trans (hS.2.1 q h2 h3), fun q hq => ?_⟩
    rcases List.mem_append.mp hq with h4 | h4
    · exact hS.2.2 q h4
    · exact hLf q h4
  rcases out with ⟨v, hX, st⟩ | ⟨q, E, ce, hce, hcv, hcl, hX, st⟩
  · obtain ⟨t2, a1, b1⟩ := hX t.heap (locs ++ L') ls hP1 hS' hL (({ (T.setVm vm₁) with heap := t.heap, slotsUsed := t.slotsUsed } : State).setVm t.vm) rfl St'
    refine ⟨t2, st.trans ?_, b1⟩
    cases v <;> exact a1
  · obtain ⟨t2, a1, b1⟩ := hX t.heap (locs ++ L') ls q ce (S.map (xw_v (xw_ph y))) hP1 hS' hL hce hcv (by
      rw [hWm.alike.findClass] at hcl
      exact hcl) (({ (T.setVm vm₁) with heap := t.heap, slotsUsed := t.slotsUsed } : State).setVm t.vm) rfl St'
    exact ⟨t2, st.trans a1, b1⟩
theorem xg_callVH (X : xg_ok x) (HW : xg_W x) (hmv : xw_mv y KK) (hKK : KK (xg_s x)) (hB : xw_B y ≤ (xg_s x).heap.size) (g : xw_G y (xg_s x)) {M : xm_T} {hh : List (Nat × Nat × Nat × Nat)} {n index : Nat} (ok : xm_okH M hh n) (hlink : Cond.methodLink (xg_own x) index M.1 ∈ xw_tbl) (hinst : Cond.instanceMethod M.1 ∈ xw_tbl) (hsel : Cond.selects M.1.cls M.1 M.1 ∈ xw_tbl)
    (d : decode (xg_cc x) pc = .ok (.invokevirtual index, 3)) {k ci : Nat} {ks : List Nat} {T : u_T} {N : Nat} (hk : k < xw_n y) (hkd : xw_kd y k = .inl (ci, ks)) (hcl : (xw_cl y)[ci]? = some (M.1.cls, T, N)) {As : List Value} (hn : As.length = n) (hW : (S.map fun v => v.category).sum ≤ 8) (hR : xm_room x nc ns M)
    (hM : xm_MH (xg_l x) y KK M hh (.ref k :: As) h (xg_K x y nc ns pc L S)) : xg x y nc ns pc L (As.reverse ++ .ref k :: S) h := by
  obtain ⟨p, l, e, R, s, m, args, below, meth, c, Q, cc, own, nL⟩ := x
  obtain ⟨hx, hb, hml, hown⟩ := X
  intro H locs ls hP hS hL T0 hT St
  have hts : ∀ w ∈ xw_tbl, w.before args s = true := HW
  obtain ⟨mk, methM, hnamed, hmethM, hstM, habM⟩ := Cond.instanceMethod_spec (hts _ hinst)
  obtain ⟨m9, methM', cM, hn9, hmethM', -, -, -, -, -, -, hsigM⟩ := Cond.codeWith_spec (hts _ ok.1)
  cases hnamed.symm.trans hn9
  cases hmethM.symm.trans hmethM'
  obtain ⟨r, hr, cellB, q1, q2, q3, -⟩ := hP k _ (xw_obj hk hkd)
  cases hr.symm.trans hcl
  have hcls : s.vm.findClass M.1.cls = some cellB.cls := by rw [q2]; exact (g.2.1.1 ci _ hcl).2.1
  obtain ⟨c2, r2, m2, z1, z2, z3, z4, kP, hkP, hkPi⟩ := Cond.selects_spec (hts _ hsel)
  cases hcls.symm.trans z1
  cases (State.methodFound?_of_named hnamed ok.2.2.1).symm.trans z2
  cases hnamed.symm.trans z3
  have hselP : selectMethod e.platform s.vm cellB.cls mk = .method mk := by rw [Launch.admits_selectMethod St.admits]; exact z4
  obtain ⟨vm₁, X₁, hstep₁⟩ := St.invokevirtual hx hown (hts _ hlink) hnamed hmethM hstM hkP hkPi ok.2.2.1 (a := xw_ph y k) (cell := cellB) (by rw [hT]; exact q1)
    (fun z h => by rw [h] at q3; cases q3) hselP hmethM habM hkP hkPi (g := F0 m pc ls ((As.reverse ++ .ref k :: S).map (xw_v (xw_ph y)))) rfl (argsL := As.map (xw_v (xw_ph y))) (rest := S.map (xw_v (xw_ph y)))
    (by
      rw [List.length_map, hn]
      have h2 := ok.2.2.2
      rw [hsigM] at h2
      exact (Option.some.inj h2).symm) (xm_map _ _ _) (by rw [hb]; exact d)
  obtain ⟨t, st, hq⟩ := xm_afterH hmv hKK hB hts ok hR hM hb hml d hW hP hS hL hT X₁ (X₁.named hnamed)
  exact ⟨t, hstep₁ _ (fun acts => by rw [doInvoke_state]; exact st), hq⟩
theorem xg_callSH (X : xg_ok x) (HW : xg_W x) (hmv : xw_mv y KK) (hKK : KK (xg_s x)) (hB : xw_B y ≤ (xg_s x).heap.size) {M : xm_T} {hh : List (Nat × Nat × Nat × Nat)} {n index : Nat} (ok : xm_okH M hh n) (hlink : Cond.methodLink (xg_own x) index M.1 ∈ xw_tbl) (hstat : Cond.static M.1 ∈ xw_tbl)
    (d : decode (xg_cc x) pc = .ok (.invokestatic index, 3)) {As : List Value} (hn : As.length = n) (hW : (S.map fun v => v.category).sum ≤ 8) (hR : xm_room x nc ns M)
    (hM : xm_MH (xg_l x) y KK M hh As h (xg_K x y nc ns pc L S)) : xg x y nc ns pc L (As.reverse ++ S) h := by
  obtain ⟨p, l, e, R, s, m, args, below, meth, c, Q, cc, own, nL⟩ := x
  obtain ⟨hx, hb, hml, hown⟩ := X
  intro H locs ls hP hS hL T0 hT St
  have hts : ∀ w ∈ xw_tbl, w.before args s = true := HW
  obtain ⟨mk, methM, cM, hnamed, hmethM, -, -, -, -, -, -, hsigM⟩ := Cond.codeWith_spec (hts _ ok.1)
  have hstatic : methM.isStatic = true := Cond.static_spec hnamed hmethM (hts _ hstat)
  obtain ⟨kP, hkP, -⟩ := className_of_methodNamed hnamed
  have hinitP : kP.init = .initialized := Cond.initialized_spec (findClass_of_methodNamed hnamed) hkP (hts _ ok.2.1)
  obtain ⟨vm₁, X₁, hstep₁⟩ := St.invokestatic hx hown (hts _ hlink) hnamed hmethM hstatic hkP hinitP ok.2.2.1 (g := F0 m pc ls ((As.reverse ++ S).map (xw_v (xw_ph y)))) rfl (argsL := As.map (xw_v (xw_ph y))) (rest := S.map (xw_v (xw_ph y)))
    (by
      rw [List.length_map, hn]
      have h2 := ok.2.2.2
      rw [hsigM] at h2
      exact (Option.some.inj h2).symm) (xm_map _ _ _) (by rw [hb]; exact d)
  obtain ⟨t, st, hq⟩ := xm_afterH hmv hKK hB hts ok hR hM hb hml d hW hP hS hL hT X₁ (X₁.named hnamed)
  exact ⟨t, hstep₁ _ (fun acts => by rw [doInvoke_state]; exact st), hq⟩
end XHH
