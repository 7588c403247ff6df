def xg_W (x : xg_T) : Prop := ∀ w ∈ xw_tbl, w.before (xg_ar x) (xg_s x) = true
/-- an exception of the class E was thrown over the frame at pc -/
def xgT (x : xg_T) (y : xw_T) (nc ns pc : Nat) (L : List (Option Value)) (E : String) (h : xw_H) : Prop := match x with
  | (p, l, e, R, s, m, args, below, meth, c, Q, _, _, nL) => ∀ (H : Heap) (locs : List Loc) (ls : Array Slot) (q : Addr) (ce : Cell) (rest : List Value), xw_P y h H → va_S (xw_A y) s.heap H locs → xg_L (xw_ph y) nL L ls →
    H[q]? = some ce → ce.vm = .none → s.vm.findClass E = some ce.cls → ∀ T : State, T.heap = H → Stand p l e R s m args below meth c T locs nc ns → ∃ t, Steps p.tables e below ((T.setTop (F0 m pc ls rest)).pushFrame (.throwing q)) t ∧ Q t
/-- how a walk goes on behind a call -/
def xg_K (x : xg_T) (y : xw_T) (nc ns pc : Nat) (L : List (Option Value)) (S : List Value) : xc_R → xw_H → Nat → Nat → Prop := fun r h a b => match r with
  | .inl v => xg x y (nc + a) (ns + b) (pc + 3) L (v.toList ++ S) h
  | .inr E => xgT x y (nc + a) (ns + b) pc L E h
def xm_R (x : xg_T) : Room := x.2.2.2.1
def xm_room (x : xg_T) (nc ns : Nat) (M : xm_T) : Prop := M.2.2.2.2.frames + 1 ≤ (xm_R x).frames ∧ 8 + (M.2.2.1 + 11) + M.2.2.2.2.locals ≤ (xm_R x).locals ∧ nc + M.2.2.2.2.cells ≤ (xm_R x).cells ∧ ns + M.2.2.2.2.slots ≤ (xm_R x).slots
def xg_l (x : xg_T) : Launch := x.2.1
/-- a method's contract -/
def xm_M (l : Launch) (y : xw_T) (KK : State → Prop) (M : xm_T) (as : List Value) (h : xw_H) (X : xc_R → xw_H → Nat → Nat → Prop) : Prop := xc_M l y KK M.1 (xm_w M :: xw_tbl) M.2.2.2.2 as h X
section XR
variable {x : xg_T} {y : xw_T} {KK : State → Prop} {nc ns pc : Nat} {L : List (Option Value)} {S : List Value} {h : xw_H}
theorem xm_map (φ : Nat → Nat) (as S : List Value) : (as.reverse ++ S).map (xw_v φ) = (as.map (xw_v φ)).reverse ++ S.map (xw_v φ) := by
  rw [List.map_append, List.map_reverse]
theorem xm_cats (φ : Nat → Nat) (S : List Value) : ((S.map (xw_v φ)).map fun v => v.category) = S.map fun v => v.category := by
  rw [List.map_map]
  exact List.map_congr_left (fun v _ => xw_cat φ v)
/-- from the callee's end on -/
theorem xm_after {p : Program} {l : Launch} {e : Env} {R : Room} {s : State} {m : MethodId} {args : Array Value} {below : List Frame} {meth : Method} {c : Code} {Q : State → Prop} {cc : ByteArray} {own : String} {nL : Nat} {y : xw_T} {KK : State → Prop} {nc ns pc : Nat} {L : List (Option Value)} {S as : List Value} {h : xw_H} (hmv : xw_mv y KK) (hKK : KK s) (hB : xw_B y ≤ s.heap.size) (hts : ∀ w ∈ xw_tbl, w.before args s = true)
    {M : xm_T} {n : Nat} (ok : xm_ok M n) (hR : M.2.2.2.2.frames + 1 ≤ R.frames ∧ 8 + (M.2.2.1 + 11) + M.2.2.2.2.locals ≤ R.locals ∧ nc + M.2.2.2.2.cells ≤ R.cells ∧ ns + M.2.2.2.2.slots ≤ R.slots)
    (hM : xm_M l y KK M as h (xg_K (p, l, e, R, s, m, args, below, meth, c, Q, cc, own, nL) y nc ns pc L S)) (hb : c.code = cc) (hml : c.maxLocals = nL)
    {ig : Instr} (d : decode cc pc = .ok (ig, 3)) (hW : (S.map fun v => v.category).sum ≤ 8)
    {H : Heap} {locs : List Loc} {ls : Array Slot} (hP : xw_P y h H) (hS : va_S (xw_A y) s.heap H locs) (hL : xg_L (xw_ph y) nL L ls) {T : State} (hT : T.heap = H) {vm₁ : Vm} (X₁ : Stand p l e R s m args below meth c (T.setVm vm₁) locs nc ns)
    {mk : MethodId} (hn : (T.setVm vm₁).methodNamed? M.1 = some mk) :
    ∃ t, Steps p.tables e below (doInvoke e ((T.setVm vm₁).setTop (F0 m pc ls (S.map (xw_v (xw_ph y))))) [] mk (as.map (xw_v (xw_ph y))).toArray).1 t ∧ Q t := by
  subst hT
  have hWm := X₁.warmed
  have hcode : (xm_w M).before (as.map (xw_v (xw_ph y))).toArray (T.setVm vm₁) = true := xw_keep hWm ok.1 (hts _ ok.1)
  obtain ⟨methY, cY, hmY, hcY, -, hlY, -⟩ := Cond.code_spec hn hcode
  have hS2 := hS.2.1
  obtain ⟨h1, L', k, n9, t, hP1, hz, hk, hLf, St', out⟩ := xc_back (W9 := 8) (maxL := M.2.2.1) hM X₁ (g := F0 m pc ls (S.map (xw_v (xw_ph y)))) rfl (hL.1.trans hml.symm) (by rw [hb]; exact d) (by show 2 * 0 + _ ≤ 8; rw [xm_cats]; omega) hn rfl
    (atoms_intro fun w hw => by
      rcases List.mem_cons.mp hw with rfl | hw
      · exact hcode
      · exact xw_keep hWm hw (hts _ hw)) hmY hcY hlY (xw_keep hWm ok.2.1 (hts _ ok.2.1)) hR.1 hR.2.1 hR.2.2.1 hR.2.2.2 hP (Nat.le_trans hB hS.1)
    (hmv s _ hWm hS.1 hS.2.1 hKK)
  have hS' : va_S (xw_A y) s.heap t.heap (locs ++ L') := by
    refine ⟨Nat.le_trans hS.1 hz, fun q h2 h3 => (hk q (Nat.lt_of_lt_of_le h2 hS.1) h3).trans (hS.2.1 q h2 h3), fun q hq => ?_⟩
    rcases List.mem_append.mp hq with h4 | h4
    · exact hS.2.2 q h4
    · exact hLf q h4
  rcases out with ⟨v, hX, st⟩ | ⟨q, E, ce, hce, hcv, hcl, hX, st⟩
  · obtain ⟨t2, a1, b1⟩ := hX t.heap (locs ++ L') ls hP1 hS' hL (({ (T.setVm vm₁) with heap := t.heap, slotsUsed := t.slotsUsed } : State).setVm t.vm) rfl St'
    refine ⟨t2, st.trans ?_, b1⟩
    cases v <;> exact a1
  · obtain ⟨t2, a1, b1⟩ := hX t.heap (locs ++ L') ls q ce (S.map (xw_v (xw_ph y))) hP1 hS' hL hce hcv (by
      rw [hWm.alike.findClass] at hcl
      exact hcl) (({ (T.setVm vm₁) with heap := t.heap, slotsUsed := t.slotsUsed } : State).setVm t.vm) rfl St'
    exact ⟨t2, st.trans a1, b1⟩
/-- a call of a method of the receiver's own class -/
theorem xg_callV (X : xg_ok x) (HW : xg_W x) (hmv : xw_mv y KK) (hKK : KK (xg_s x)) (hB : xw_B y ≤ (xg_s x).heap.size) (g : xw_G y (xg_s x)) {M : xm_T} {n index : Nat} (ok : xm_ok M n) (hlink : Cond.methodLink (xg_own x) index M.1 ∈ xw_tbl) (hinst : Cond.instanceMethod M.1 ∈ xw_tbl) (hsel : Cond.selects M.1.cls M.1 M.1 ∈ xw_tbl)
    (d : decode (xg_cc x) pc = .ok (.invokevirtual index, 3)) {k ci : Nat} {ks : List Nat} {T : u_T} {N : Nat} (hk : k < xw_n y) (hkd : xw_kd y k = .inl (ci, ks)) (hcl : (xw_cl y)[ci]? = some (M.1.cls, T, N)) {As : List Value} (hn : As.length = n) (hW : (S.map fun v => v.category).sum ≤ 8) (hR : xm_room x nc ns M)
    (hM : xm_M (xg_l x) y KK M (.ref k :: As) h (xg_K x y nc ns pc L S)) : xg x y nc ns pc L (As.reverse ++ .ref k :: S) h := by
  obtain ⟨p, l, e, R, s, m, args, below, meth, c, Q, cc, own, nL⟩ := x
  obtain ⟨hx, hb, hml, hown⟩ := X
  intro H locs ls hP hS hL T0 hT St
  have hts : ∀ w ∈ xw_tbl, w.before args s = true := HW
  obtain ⟨mk, methM, hnamed, hmethM, hstM, habM⟩ := Cond.instanceMethod_spec (hts _ hinst)
  obtain ⟨methM', cM, hmethM', -, -, -, -, -, -, hsigM⟩ := Cond.code_spec hnamed (hts _ ok.1)
  cases hmethM.symm.trans hmethM'
  obtain ⟨r, hr, cellB, q1, q2, q3, -⟩ := hP k _ (xw_obj hk hkd)
  cases hr.symm.trans hcl
  have hcls : s.vm.findClass M.1.cls = some cellB.cls := by rw [q2]; exact (g.2.1.1 ci _ hcl).2.1
  obtain ⟨c2, r2, m2, z1, z2, z3, z4, kP, hkP, hkPi⟩ := Cond.selects_spec (hts _ hsel)
  cases hcls.symm.trans z1
  cases (State.methodFound?_of_named hnamed ok.2.2.1).symm.trans z2
  cases hnamed.symm.trans z3
  have hselP : selectMethod e.platform s.vm cellB.cls mk = .method mk := by rw [Launch.admits_selectMethod St.admits]; exact z4
  obtain ⟨vm₁, X₁, hstep₁⟩ := St.invokevirtual hx hown (hts _ hlink) hnamed hmethM hstM hkP hkPi ok.2.2.1 (a := xw_ph y k) (cell := cellB) (by rw [hT]; exact q1)
    (fun z h => by rw [h] at q3; cases q3) hselP hmethM habM hkP hkPi (g := F0 m pc ls ((As.reverse ++ .ref k :: S).map (xw_v (xw_ph y)))) rfl (argsL := As.map (xw_v (xw_ph y))) (rest := S.map (xw_v (xw_ph y)))
    (by
      rw [List.length_map, hn]
      have h2 := ok.2.2.2
      rw [hsigM] at h2
      exact (Option.some.inj h2).symm) (xm_map _ _ _) (by rw [hb]; exact d)
  obtain ⟨t, st, hq⟩ := xm_after hmv hKK hB hts ok hR hM hb hml d hW hP hS hL hT X₁ (X₁.named hnamed)
  exact ⟨t, hstep₁ _ (fun acts => by rw [doInvoke_state]; exact st), hq⟩
theorem xg_callS (X : xg_ok x) (HW : xg_W x) (hmv : xw_mv y KK) (hKK : KK (xg_s x)) (hB : xw_B y ≤ (xg_s x).heap.size) {M : xm_T} {n index : Nat} (ok : xm_ok M n) (hlink : Cond.methodLink (xg_own x) index M.1 ∈ xw_tbl) (hstat : Cond.static M.1 ∈ xw_tbl)
    (d : decode (xg_cc x) pc = .ok (.invokestatic index, 3)) {As : List Value} (hn : As.length = n) (hW : (S.map fun v => v.category).sum ≤ 8) (hR : xm_room x nc ns M)
    (hM : xm_M (xg_l x) y KK M As h (xg_K x y nc ns pc L S)) : xg x y nc ns pc L (As.reverse ++ S) h := by
  obtain ⟨p, l, e, R, s, m, args, below, meth, c, Q, cc, own, nL⟩ := x
  obtain ⟨hx, hb, hml, hown⟩ := X
  intro H locs ls hP hS hL T0 hT St
  have hts : ∀ w ∈ xw_tbl, w.before args s = true := HW
  obtain ⟨mk, hnamed⟩ := Cond.code_named (hts _ ok.1)
  obtain ⟨methM, cM, hmethM, -, -, -, -, -, -, hsigM⟩ := Cond.code_spec hnamed (hts _ ok.1)
  have hstatic : methM.isStatic = true := Cond.static_spec hnamed hmethM (hts _ hstat)
  obtain ⟨kP, hkP, -⟩ := className_of_methodNamed hnamed
  have hinitP : kP.init = .initialized := Cond.initialized_spec (findClass_of_methodNamed hnamed) hkP (hts _ ok.2.1)
  obtain ⟨vm₁, X₁, hstep₁⟩ := St.invokestatic hx hown (hts _ hlink) hnamed hmethM hstatic hkP hinitP ok.2.2.1 (g := F0 m pc ls ((As.reverse ++ S).map (xw_v (xw_ph y)))) rfl (argsL := As.map (xw_v (xw_ph y))) (rest := S.map (xw_v (xw_ph y)))
    (by
      rw [List.length_map, hn]
      have h2 := ok.2.2.2
      rw [hsigM] at h2
      exact (Option.some.inj h2).symm) (xm_map _ _ _) (by rw [hb]; exact d)
  obtain ⟨t, st, hq⟩ := xm_after hmv hKK hB hts ok hR hM hb hml d hW hP hS hL hT X₁ (X₁.named hnamed)
  exact ⟨t, hstep₁ _ (fun acts => by rw [doInvoke_state]; exact st), hq⟩
end XR
