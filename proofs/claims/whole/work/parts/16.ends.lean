/-! ENDS AND ENTRIES -/
def xc_Q (below : List Frame) (y : xw_T) (X : xc_R → xw_H → Nat → Nat → Prop) (s : State) : State → Prop := fun t => ∃ o, t.status = .running ∧ Ended t below o ∧ xc_E y X s o t
/-- what the walk owes at its end is the contract; the method's answer's type -/
def xg_owes (x : xg_T) (y : xw_T) (X : xc_R → xw_H → Nat → Nat → Prop) (ty : Option FieldType) : Prop := match x with
  | (_, _, _, _, s, _, _, below, meth, _, Q, _, _, _) => Q = xc_Q below y X s ∧ meth.locks = false ∧ meth.sig.returnType = ty
section XE
variable {x : xg_T} {y : xw_T} {X : xc_R → xw_H → Nat → Nat → Prop} {nc ns pc : Nat} {L : List (Option Value)} {S : List Value} {h : xw_H}
theorem xc_end {below : List Frame} {s : State} {args : Array Value} {H : Heap} {locs : List Loc} {v : Option Value} (hP : xw_P y h H) (hS : va_S (xw_A y) s.heap H locs) (hX : X (.inl v) h nc ns) {t : State}
    (k : MQ below (fun _ _ o t => o = .returned (v.map (xw_v (xw_ph y))) ∧ t.heap = H) args s nc ns (xw_A y) t) : xc_Q below y X s t := by
  obtain ⟨o, b1, b2, ⟨rfl, hT⟩, L, ⟨-, hW, hsame⟩, hL⟩ := k
  exact ⟨_, b1, b2, h, L, nc, ns, by rw [hT]; exact hP, hS.F hT, hL, hW, hsame, Or.inl ⟨v, rfl, hX⟩⟩
theorem xg_zret {a : Int32} {ty : FieldType} (ok : xg_ok x) (ow : xg_owes x y X (some ty)) (hn : narrow ty (.int a) = .int a) (d : decode (xg_cc x) pc = .ok (.ireturn, 1)) (hX : X (.inl (some (.int a))) h nc ns) : xg x y nc ns pc L [.int a] h := by
  obtain ⟨p, l, e, R, s, m, args, below, meth, c, Q, cc, own, nL⟩ := x
  obtain ⟨hx, hb, hml, hown⟩ := ok
  obtain ⟨rfl, hlocks, hr⟩ := ow
  intro H locs ls hP hS hL T hT St
  obtain ⟨t, st, hq⟩ := W.zret (v := a) (Qc := fun _ _ o t => o = .returned ((some (Value.int a)).map (xw_v (xw_ph y))) ∧ t.heap = H) hx hb hr hn (fun t ht _ => ⟨rfl, ht⟩) hS.2.2 d (hlocks := hlocks) T hT St
  exact ⟨t, st, xc_end (v := some (.int a)) hP hS hX hq⟩
theorem xg_iret {a : Int32} (ok : xg_ok x) (ow : xg_owes x y X (some .int)) (d : decode (xg_cc x) pc = .ok (.ireturn, 1)) (hX : X (.inl (some (.int a))) h nc ns) : xg x y nc ns pc L [.int a] h := xg_zret ok ow rfl d hX
theorem xg_lret {a : Int64} (ok : xg_ok x) (ow : xg_owes x y X (some .long)) (d : decode (xg_cc x) pc = .ok (.lreturn, 1)) (hX : X (.inl (some (.long a))) h nc ns) : xg x y nc ns pc L [.long a] h := by
  obtain ⟨p, l, e, R, s, m, args, below, meth, c, Q, cc, own, nL⟩ := x
  obtain ⟨hx, hb, hml, hown⟩ := ok
  obtain ⟨rfl, hlocks, hr⟩ := ow
  intro H locs ls hP hS hL T hT St
  obtain ⟨t, st, hq⟩ := W.lret (v := a) (Qc := fun _ _ o t => o = .returned ((some (Value.long a)).map (xw_v (xw_ph y))) ∧ t.heap = H) hx hb hr (fun t ht _ => ⟨rfl, ht⟩) hS.2.2 d (hlocks := hlocks) T hT St
  exact ⟨t, st, xc_end (v := some (.long a)) hP hS hX hq⟩
theorem xg_vret (ok : xg_ok x) (ow : xg_owes x y X none) (d : decode (xg_cc x) pc = .ok (.return_, 1)) (hX : X (.inl none) h nc ns) : xg x y nc ns pc L [] h := by
  obtain ⟨p, l, e, R, s, m, args, below, meth, c, Q, cc, own, nL⟩ := x
  obtain ⟨hx, hb, hml, hown⟩ := ok
  obtain ⟨rfl, hlocks, hr⟩ := ow
  intro H locs ls hP hS hL T hT St
  obtain ⟨t, st, hq⟩ := W.vret (Qc := fun _ _ o t => o = .returned ((none : Option Value).map (xw_v (xw_ph y))) ∧ t.heap = H) hx hb hr (fun t ht _ => ⟨rfl, ht⟩) hS.2.2 d (hlocks := hlocks) T hT St
  exact ⟨t, st, xc_end (v := none) hP hS hX hq⟩
end XE
/-! the locals at the entry -/
def xg_in : List Value → List (Option Value)
  | [] => []
  | v :: vs => if v.category = 2 then some v :: none :: xg_in vs else some v :: xg_in vs
theorem xg_in_at (φ : Nat → Nat) : ∀ (vs : List Value) (o i : Nat) (v : Value), (xg_in vs)[i]? = some (some v) → (o + i, xw_v φ v) ∈ lv_args o (vs.map (xw_v φ))
  | [], _, _, _, h => by simp [xg_in] at h
  | w :: vs, o, i, v, h => by
    show (o + i, xw_v φ v) ∈ (o, xw_v φ w) :: lv_args (if (xw_v φ w).category = 2 then o + 2 else o + 1) (vs.map (xw_v φ))
    unfold xg_in at h
    rw [xw_cat]
    by_cases hc : w.category = 2
    · rw [if_pos hc] at h ⊢
      match i, h with
      | 0, h => cases h; exact List.mem_cons_self
      | 1, h => cases h
      | i + 2, h =>
        have := xg_in_at φ vs (o + 2) i v h
        rw [show o + (i + 2) = o + 2 + i by omega]
        exact List.mem_cons_of_mem _ this
    · rw [if_neg hc] at h ⊢
      match i, h with
      | 0, h => cases h; exact List.mem_cons_self
      | i + 1, h =>
        have := xg_in_at φ vs (o + 1) i v h
        rw [show o + (i + 1) = o + 1 + i by omega]
        exact List.mem_cons_of_mem _ this
theorem xg_in_L (φ : Nat → Nat) {vs : List Value} {n : Nat} {pad : List (Option Value)} (hpad : ∀ q ∈ pad, q = none) (hl : (lg_sl (vs.map (xw_v φ))).length ≤ n) :
    xg_L φ n (xg_in vs ++ pad) ((lg_sl (vs.map (xw_v φ)) ++ List.replicate (n - (lg_sl (vs.map (xw_v φ))).length) Slot.unset).toArray) := by
  have h := lv_entry (vs.map (xw_v φ)) hl
  refine ⟨h.1, h.2.1, fun i v hi => ?_⟩
  rw [List.getElem?_append] at hi
  split at hi
  · have h2 := xg_in_at φ vs 0 i v hi
    rw [Nat.zero_add] at h2
    exact h.2.2 _ h2
  · have := hpad _ (List.mem_of_getElem? hi)
    cases this
theorem xg_sl_len (φ : Nat → Nat) : ∀ vs : List Value, (lg_sl (vs.map (xw_v φ))).length = (xg_in vs).length
  | [] => rfl
  | v :: vs => by
    have := xg_sl_len φ vs
    cases v <;> simp_all [lg_sl, xg_in, xw_v, Value.category]
def xg_tab (x : xg_T) : List ExceptionTableEntry := x.2.2.2.2.2.2.2.2.2.1.exceptionTable.toList
/-- what a method's walk begins with; hh: its handlers -/
def xg_atH (x : xg_T) (l : Launch) (y : xw_T) (KK : State → Prop) (M : xm_T) (hh : List (Nat × Nat × Nat × Nat)) (X : xc_R → xw_H → Nat → Nat → Prop) : Prop :=
  xg_ok x ∧ xg_W x ∧ KK (xg_s x) ∧ xw_B y ≤ (xg_s x).heap.size ∧ xg_owes x y X M.2.2.2.1 ∧ xg_l x = l ∧ xm_R x = M.2.2.2.2 ∧ xg_cc x = M.2.1 ∧ xg_own x = M.1.cls ∧ xg_nL x = M.2.2.1 ∧ xg_tab x = tableOf hh
abbrev xg_at (x : xg_T) (l : Launch) (y : xw_T) (KK : State → Prop) (M : xm_T) (X : xc_R → xw_H → Nat → Nat → Prop) : Prop := xg_atH x l y KK M [] X
theorem xm_of {l : Launch} {y : xw_T} {KK : State → Prop} {M : xm_T} {as : List Value} {h : xw_H} {X : xc_R → xw_H → Nat → Nat → Prop} (pad : List (Option Value)) (hpad : ∀ q ∈ pad, q = none) (hl : (xg_in as).length ≤ M.2.2.1) (hy : plainName M.1.cls = true)
    (body : ∀ x : xg_T, xg_at x l y KK M X → xg x y 0 0 0 (xg_in as ++ pad) [] h) : xm_M l y KK M as h X := by
  obtain ⟨z, bytes, maxL, ret, rm⟩ := M
  refine MetFree.of_bodyS (code := bytes) (maxLocals := maxL) (ret := ret) hy ?_ ?_
  · intro args s m h hn
    obtain ⟨meth, c, h1, h2, h3, h4, h5, h6, -, -⟩ := Cond.code_spec hn (atoms_spec (ws := Cond.code z bytes maxL ret :: xw_tbl) h _ List.mem_cons_self)
    exact ⟨meth, c, h1, h2, h3, h4, h5, h6⟩
  · intro p e s m args below meth c s₁ B hml hP _
    obtain ⟨rfl, hPw, hB, hKK⟩ := hP
    have hh0 : s₁.heap = s.heap := by rw [B.state]; rfl
    have hts := atoms_spec (ws := Cond.code z bytes maxL ret :: xw_tbl) B.pre
    have hown : s.vm.findClass z.cls = some m.cls := findClass_of_methodNamed B.named
    have k := body (p, l, e, rm, s, m, (as.map (xw_v (xw_ph y))).toArray, below, meth, c, xc_Q below y X s, bytes, z.cls, maxL)
      ⟨⟨B.exec, B.bytes, hml, hown⟩, fun w hw => hts w (List.mem_cons_of_mem _ hw), hKK, hB, ⟨rfl, B.notSynchronized, B.returns⟩, rfl, rfl, rfl, rfl, rfl, by
        show c.exceptionTable.toList = []
        rw [Array.isEmpty_iff.mp (B.noHandlers (hts _ List.mem_cons_self))]⟩
    have hll : (lg_sl (as.map (xw_v (xw_ph y)))).length ≤ maxL := by rw [xg_sl_len]; exact hl
    obtain ⟨t, a1, o, b1, b2, b3⟩ := k s.heap [] _ hPw va_S.rf (xg_in_L (xw_ph y) hpad hll) s₁ hh0 (Stand.of_body B)
    rw [List.map_nil, ← lg_entry_eq] at a1
    exact ⟨t, o, a1, b1, b2, b3⟩
/-- a method with handlers -/
def xm_wH (M : xm_T) (hh : List (Nat × Nat × Nat × Nat)) : Cond := .codeWith M.1 M.2.1 M.2.2.1 M.2.2.2.1 hh
def xm_MH (l : Launch) (y : xw_T) (KK : State → Prop) (M : xm_T) (hh : List (Nat × Nat × Nat × Nat)) (as : List Value) (h : xw_H) (X : xc_R → xw_H → Nat → Nat → Prop) : Prop := xc_M l y KK M.1 (xm_wH M hh :: xw_tbl) M.2.2.2.2 as h X
theorem xm_ofH {l : Launch} {y : xw_T} {KK : State → Prop} {M : xm_T} {hh : List (Nat × Nat × Nat × Nat)} {as : List Value} {h : xw_H} {X : xc_R → xw_H → Nat → Nat → Prop} (pad : List (Option Value)) (hpad : ∀ q ∈ pad, q = none) (hl : (xg_in as).length ≤ M.2.2.1) (hy : plainName M.1.cls = true)
    (body : ∀ x : xg_T, xg_atH x l y KK M hh X → xg x y 0 0 0 (xg_in as ++ pad) [] h) : xm_MH l y KK M hh as h X := by
  obtain ⟨z, bytes, maxL, ret, rm⟩ := M
  refine MetFree.of_bodyS (code := bytes) (maxLocals := maxL) (ret := ret) hy ?_ ?_
  · intro args s m h hn
    obtain ⟨m9, meth, c, hn9, h1, h2, h3, h4, -, h5, h6, -⟩ := Cond.codeWith_spec (atoms_spec (ws := Cond.codeWith z bytes maxL ret hh :: xw_tbl) h _ List.mem_cons_self)
    cases hn.symm.trans hn9
    exact ⟨meth, c, h1, h2, h3, h4, h5, h6⟩
  · intro p e s m args below meth c s₁ B hml hP _
    obtain ⟨rfl, hPw, hB, hKK⟩ := hP
    have hh0 : s₁.heap = s.heap := by rw [B.state]; rfl
    have hts := atoms_spec (ws := Cond.codeWith z bytes maxL ret hh :: xw_tbl) B.pre
    have hown : s.vm.findClass z.cls = some m.cls := findClass_of_methodNamed B.named
    have k := body (p, l, e, rm, s, m, (as.map (xw_v (xw_ph y))).toArray, below, meth, c, xc_Q below y X s, bytes, z.cls, maxL)
      ⟨⟨B.exec, B.bytes, hml, hown⟩, fun w hw => hts w (List.mem_cons_of_mem _ hw), hKK, hB, ⟨rfl, B.notSynchronized, B.returns⟩, rfl, rfl, rfl, rfl, rfl, by
        obtain ⟨m9, meth9, c9, hn9, h1, h2, -, -, h6, -⟩ := Cond.codeWith_spec (hts _ List.mem_cons_self)
        cases Option.some.inj (hn9.symm.trans B.named)
        cases Option.some.inj (h1.symm.trans B.method)
        cases Option.some.inj (h2.symm.trans (Stand.of_body B).code)
        show c.exceptionTable.toList = tableOf hh
        rw [← h6, table_eq]⟩
    have hll : (lg_sl (as.map (xw_v (xw_ph y)))).length ≤ maxL := by rw [xg_sl_len]; exact hl
    obtain ⟨t, a1, o, b1, b2, b3⟩ := k s.heap [] _ hPw va_S.rf (xg_in_L (xw_ph y) hpad hll) s₁ hh0 (Stand.of_body B)
    rw [List.map_nil, ← lg_entry_eq] at a1
    exact ⟨t, o, a1, b1, b2, b3⟩
