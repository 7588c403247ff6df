/-! OWN ROWS IN PLACE OF Shelf42'S -/
/-! 1. A search through a method's table of handlers whose classes are linked, resolved yet or not -/
section FI
variable {e : Env} {f : JFrame} {a : Addr}
/-- a linked row is asked as from the tables in which its class is noted -/
theorem fi_noted {E : CtlPost} {d : Bool} {acts : List Action} {Q : Handler → Pre} {S : State} {x : ExceptionTableEntry} {t : List ExceptionTableEntry} {c : ClassId} (hx : covers x f.pc = true) (h0 : x.catchType ≠ 0) (hl : S.vm.ClassLinks e.platform f.method.cls x.catchType c) :
    wp (findHandler.go f a (x :: t)) Q E e d acts S ↔ wp (findHandler.go f a (x :: t)) Q E e d acts (S.setVm (S.vm.noted f.method.cls x.catchType (.cls c))) := by
  obtain ⟨ha, ht⟩ := (resolveClass_links e.toSetting hl).op (op := VmOp.resolveClass f.method.cls x.catchType) rfl
  obtain ⟨k, hk, hr⟩ := hl.ready
  obtain ⟨hb, hu⟩ := resolveClass_memo e hk hr
  have hsz : (S.vm.noted f.method.cls x.catchType (.cls c)).classes.size ≤ S.vm.classes.size := by rw [Vm.size_noted]; exact Nat.le_refl _
  simp only [covers] at hx
  simp [findHandler.go, hx, h0, ha, ht, hsz, hb, hu, VmOp.dirties, VmOp.acts, State.setVm_setVm]
/-- the rows of pre don't take it, the row x does: the search ends there, in warmer tables -/
theorem fi_finds {s : State} {cell : Cell} (hobj : ∀ k, cell.vm ≠ .statics k) (hk0 : ∃ k, s.vm.classes[cell.cls]? = some k) {x : ExceptionTableEntry} {rest : List ExceptionTableEntry} (hx : covers x f.pc = true) (h0 : x.catchType ≠ 0) {cX : ClassId} (hlX : s.vm.ClassLinks e.platform f.method.cls x.catchType cX) (hfit : s.vm.assignable cell.cls cX = true) :
    ∀ (pre : List ExceptionTableEntry) (S : State), s.WarmedH S.vm → S.heap[a]? = some cell → (∀ y ∈ pre, covers y f.pc = false ∨ (y.catchType ≠ 0 ∧ ∃ c, s.vm.ClassLinks e.platform f.method.cls y.catchType c ∧ s.vm.assignable cell.cls c = false)) →
      ∃ vm', s.WarmedH vm' ∧ ∀ (Q : Handler → Pre) (E : CtlPost) (d : Bool) (acts : List Action), wp (findHandler.go f a (pre ++ x :: rest)) Q E e d acts S ↔ Q (.found x.handlerPc) d acts (S.setVm vm') := by
  have one : ∀ (y : ExceptionTableEntry) (c : ClassId), s.vm.ClassLinks e.platform f.method.cls y.catchType c → ∀ S : State, s.WarmedH S.vm →
      s.WarmedH (S.vm.noted f.method.cls y.catchType (.cls c)) ∧ S.vm.ClassLinks e.platform f.method.cls y.catchType c ∧ (∃ k, (S.vm.noted f.method.cls y.catchType (.cls c)).classes[cell.cls]? = some k) ∧ (∃ k, (S.vm.noted f.method.cls y.catchType (.cls c)).classes[c]? = some k) ∧ (S.vm.noted f.method.cls y.catchType (.cls c)).assignable cell.cls c = s.vm.assignable cell.cls c := by
    intro y c hl S hW
    obtain ⟨dk, _, _, kt, hd, _, _, _, _, hkt, _, hopen⟩ := hl.here
    have hW' : s.WarmedH (S.vm.noted f.method.cls y.catchType (.cls c)) := hW.noted hd hopen (State.rightAt_cls hl)
    obtain ⟨k0, hk0⟩ := hk0
    obtain ⟨k1, hk1, -⟩ := hW'.alike.2.2 _ _ hk0
    obtain ⟨k2, hk2, -⟩ := hW'.alike.2.2 _ _ hkt
    exact ⟨hW', hW.classLinks hl, ⟨k1, hk1⟩, ⟨k2, hk2⟩, hW'.alike.assignable _ _⟩
  intro pre
  induction pre with
  | nil =>
    intro S hW hcell _
    obtain ⟨hW', hl, q1, q2, q3⟩ := one x cX hlX S hW
    refine ⟨_, hW', fun Q E d acts => ?_⟩
    rw [List.nil_append, fi_noted hx h0 hl, Jvm.W.findHandler_go_class (s := S.setVm (S.vm.noted f.method.cls x.catchType (.cls cX))) hx h0 hl.ready hcell hobj q1 q2]
    rw [if_pos (show (S.setVm (S.vm.noted f.method.cls x.catchType (.cls cX))).vm.assignable cell.cls cX = true from q3.trans hfit)]
  | cons y t ih =>
    intro S hW hcell hp
    have ht := fun z hz => hp z (List.mem_cons_of_mem _ hz)
    cases hc : covers y f.pc with
    | false =>
      obtain ⟨vm', hW', hq⟩ := ih S hW hcell ht
      refine ⟨vm', hW', fun Q E d acts => ?_⟩
      rw [List.cons_append, Jvm.W.findHandler_go_skip hc]
      exact hq Q E d acts
    | true =>
      obtain ⟨hy0, c, hlc, hno⟩ := (hp y (List.mem_cons_self ..)).resolve_left (by rw [hc]; decide)
      obtain ⟨hW1, hl, q1, q2, q3⟩ := one y c hlc S hW
      obtain ⟨vm', hW', hq⟩ := ih (S.setVm (S.vm.noted f.method.cls y.catchType (.cls c))) hW1 hcell ht
      refine ⟨vm', hW', fun Q E d acts => ?_⟩
      rw [List.cons_append, fi_noted hc hy0 hl, Jvm.W.findHandler_go_class (s := S.setVm (S.vm.noted f.method.cls y.catchType (.cls c))) hc hy0 hl.ready hcell hobj q1 q2]
      rw [if_neg (show ¬ (S.setVm (S.vm.noted f.method.cls y.catchType (.cls c))).vm.assignable cell.cls c = true from fun h9 => by
        have h8 := (q3.symm.trans h9).symm.trans hno
        cases h8)]
      exact hq Q E d acts
/-- the step that finds a handler, the tables warmer -/
theorem fi_step {S : State} {vm' : Vm} {r : List Frame} {pc : Nat} (hfind : ∀ (Q : Handler → Pre) (E : CtlPost) (d : Bool) (acts : List Action), wp (findHandler f a) Q E e d acts S ↔ Q (.found pc) d acts (S.setVm vm')) :
    (stepThrowing e S a (.java f :: r)).1 = (S.setVm vm').setFrames (.java { f with pc := pc, stack := [.ref a] } :: r) := by
  simp only [stepThrowing, searchFrame, vmDo]
  generalize hr : Sem.go _ e false [] S = res
  obtain ⟨as, rfl, -⟩ := Sem.eq_ok_of hr (a := Handler.found pc) (s' := S.setVm vm') (acts' := []) (by simp [hfind _ _ _ _])
  rfl
end FI
section FJ
variable {p : Program} {l : Launch} {e : Env} {R : Room} {s : State} {m : MethodId} {args : Array Value} {below : List Frame} {meth : Method} {c : Code} {T : State} {locs : List Loc} {cells slots : Nat}
/-- an exception over the method's own frame, caught by the row z of its table -/
theorem fi_caught (X : Stand p l e R s m args below meth c T locs cells slots) (q : Addr) {g : JFrame} (hg : g.method = m) {cell : Cell} (hcell : T.heap[q]? = some cell) (hobj : ∀ k, cell.vm ≠ .statics k) (hk0 : ∃ k, s.vm.classes[cell.cls]? = some k)
    (pre : List ExceptionTableEntry) (z : ExceptionTableEntry) (suf : List ExceptionTableEntry) (hsplit : c.exceptionTable.toList = pre ++ z :: suf) (hpass : ∀ y ∈ pre, covers y g.pc = false ∨ (y.catchType ≠ 0 ∧ ∃ c1, s.vm.ClassLinks e.platform m.cls y.catchType c1 ∧ s.vm.assignable cell.cls c1 = false))
    (hz : covers z g.pc = true) (h0 : z.catchType ≠ 0) {cZ : ClassId} (hl : s.vm.ClassLinks e.platform m.cls z.catchType cZ) (hfit : s.vm.assignable cell.cls cZ = true) :
    ∃ vm', Stand p l e R s m args below meth c (T.setVm vm') locs cells slots ∧ Steps p.tables e below ((T.setTop g).pushFrame (.throwing q)) ((T.setVm vm').setTop { g with pc := z.handlerPc, stack := [.ref q] }) := by
  subst hg
  obtain ⟨vm', hW', hq⟩ := fi_finds (e := e) (f := g) (a := q) (rest := suf) hobj hk0 hz h0 hl hfit pre ((T.setTop g).pushFrame (.throwing q)) (by rw [throwing_vm]; exact X.warmed) (by rw [throwing_heap]; exact hcell) hpass
  refine ⟨vm', X.noted hW', ?_⟩
  have h : At T g.method c below := X.here
  obtain ⟨hgo, hw⟩ := h.throwing q
  refine Steps.head hgo hw ?_
  have hfind : ∀ (Q : Handler → Pre) (E : CtlPost) (d : Bool) (acts : List Action), wp (findHandler g q) Q E e d acts ((T.setTop g).pushFrame (.throwing q)) ↔ Q (.found z.handlerPc) d acts (((T.setTop g).pushFrame (.throwing q)).setVm vm') := by
    intro Q E d acts
    rw [Jvm.W.findHandler_eq (meth := meth) (code := c) (by rw [throwing_vm]; exact X.method') X.code, hsplit]
    exact hq Q E d acts
  rw [stepThread_throwing (frames_entered h.top _), fi_step hfind]
  obtain ⟨g₀, hg⟩ := Option.isSome_iff_exists.mp h.top
  obtain ⟨r, hr⟩ := State.topJava?_eq_some.mp hg
  have hr' : (T.setVm vm').frames = .java g₀ :: r := hr
  rw [State.setTop_of_frames _ hr', State.pushFrame, State.setTop_of_frames _ hr, hr]
  show Steps p.tables e below ((((T.setFrames _).setFrames _).setFrames _).setVm vm') _
  rw [State.setFrames_setFrames, State.setFrames_setFrames]
  exact Steps.refl _
end FJ
/-! 2. The word 'arrayOver' of a row's class -/
theorem oa_spec {args : Array Value} {s : State} {t : FieldType} (h : (Cond.arrayOver (.array t)).before args s = true) : ∃ (cB cA : ClassId) (k : Class), s.vm.findClass (FieldType.array t).toString = some cB ∧ s.vm.classes[cA]? = some k ∧ k.kind = .array cB (.array t) ∧ s.vm.findClass ("[" ++ (FieldType.array t).toString) = some cA := by
  have h := h
  simp only [Cond.before, Cond.holds, Cond.value, beq_iff_eq, Option.bind_eq_some_iff, Option.map_eq_some_iff] at h
  obtain ⟨cB, e1, cA, e2, k, e3, e4⟩ := h
  have hp := (Array.findIdx?_eq_some_iff_getElem.mp e2).2.1
  rw [(Array.getElem?_eq_some_iff.mp e3).2] at hp
  cases hk : k.kind <;> rw [hk] at e4 hp <;> simp at e4 hp
  subst hp
  exact ⟨_, cA, k, e1, e3, by rw [hk, e4.1], e4.2⟩
theorem oa_later {a a' : Array Value} {s U : State} {t : FieldType} (hal : s.vm.Alike U.vm) (h : (Cond.arrayOver (.array t)).before a s = true) : (Cond.arrayOver (.array t)).before a' U = true := by
  simp only [Cond.before, Cond.holds, Cond.value, beq_iff_eq, Option.bind_eq_some_iff, Option.map_eq_some_iff] at h ⊢
  obtain ⟨cB, e1, cA, e2, k, e3, e4⟩ := h
  obtain ⟨k', e5, e6⟩ := hal.2.2 _ _ e3
  refine ⟨cB, by rw [hal.findClass]; exact e1, cA, (hal.findIdx?_eqK _ (fun _ => rfl)).trans e2, k', e5, ?_⟩
  rw [hal.findClass, show k'.kind = k.kind by rw [e6]]
  exact e4
/-! 3. multianewarray of two dimensions: the outer array first, then row by row, each laid into it -/
def mu_C (cA : ClassId) (N h0 i : Nat) : Cell := arrV cA N (fun j => if j < i then .ref (h0 + 1 + j) else .null)
theorem mu_C0 (cA : ClassId) (N h0 : Nat) : ({ cls := cA, slots := Array.replicate N .null, vm := .none } : Cell) = mu_C cA N h0 0 := by
  rw [arrV_new]
  unfold mu_C
  congr 1
theorem mu_Cs (cA : ClassId) (N h0 i : Nat) : (mu_C cA N h0 i).setSlot i (.ref (h0 + 1 + i)) = mu_C cA N h0 (i + 1) := by
  unfold mu_C
  rw [arrV_store]
  congr 1
  funext j
  unfold updV
  by_cases hj : j = i
  · subst hj
    rw [if_pos rfl, if_pos (Nat.lt_succ_self j)]
  · rw [if_neg hj]
    show (if j < i then Value.ref (h0 + 1 + j) else Value.null) = if j < i + 1 then Value.ref (h0 + 1 + j) else Value.null
    by_cases h2 : j < i
    · rw [if_pos h2, if_pos (by omega)]
    · rw [if_neg h2, if_neg (by omega)]
def mu_T (T : State) (cA cB : ClassId) (N M : Nat) (dv : Value) : Nat → State
  | 0 => T.pushCell (mu_C cA N T.heap.size 0)
  | i + 1 => ((mu_T T cA cB N M dv i).pushCell (arrV cB M (fun _ => dv))).setCell T.heap.size (mu_C cA N T.heap.size (i + 1))
section MU
variable {T : State} {cA cB : ClassId} {N M : Nat} {dv : Value}
theorem mu_size : ∀ i, (mu_T T cA cB N M dv i).heap.size = T.heap.size + 1 + i
  | 0 => by show (T.heap.push _).size = _; rw [Array.size_push]
  | i + 1 => by
    show (((mu_T T cA cB N M dv i).heap.push _).setIfInBounds _ _).size = _
    rw [Array.size_setIfInBounds, Array.size_push, mu_size i]; rfl
theorem mu_vm : ∀ i, (mu_T T cA cB N M dv i).vm = T.vm
  | 0 => rfl
  | i + 1 => mu_vm i
theorem mu_outer : ∀ i, (mu_T T cA cB N M dv i).heap[T.heap.size]? = some (mu_C cA N T.heap.size i)
  | 0 => by show (T.heap.push _)[T.heap.size]? = _; rw [Array.getElem?_push_size]
  | i + 1 => by
    show (((mu_T T cA cB N M dv i).heap.push _).setIfInBounds _ _)[T.heap.size]? = _
    rw [Array.getElem?_setIfInBounds, if_pos rfl, if_pos (by rw [Array.size_push, mu_size i]; omega)]
theorem mu_old {q : Nat} (hq : q < T.heap.size) : ∀ i, (mu_T T cA cB N M dv i).heap[q]? = T.heap[q]?
  | 0 => by show (T.heap.push _)[q]? = _; rw [Array.getElem?_push, if_neg (by omega)]
  | i + 1 => by
    show (((mu_T T cA cB N M dv i).heap.push _).setIfInBounds _ _)[q]? = _
    rw [Array.getElem?_setIfInBounds, if_neg (by omega), Array.getElem?_push, if_neg (by rw [mu_size i]; omega), mu_old hq i]
theorem mu_inner : ∀ (i j : Nat), j < i → (mu_T T cA cB N M dv i).heap[T.heap.size + 1 + j]? = some (arrV cB M (fun _ => dv))
  | 0, j, hj => absurd hj (Nat.not_lt_zero j)
  | i + 1, j, hj => by
    show (((mu_T T cA cB N M dv i).heap.push _).setIfInBounds _ _)[T.heap.size + 1 + j]? = _
    rw [Array.getElem?_setIfInBounds, if_neg (by omega), Array.getElem?_push, mu_size i]
    by_cases h : j = i
    · rw [if_pos (by omega)]
    · rw [if_neg (by omega), mu_inner i j (by omega)]
theorem mu_used : ∀ i, (mu_T T cA cB N M dv i).slotsUsed = T.slotsUsed + N + i * M
  | 0 => by show T.slotsUsed + (mu_C cA N T.heap.size 0).slots.size = _; unfold mu_C; rw [arrV_size]; omega
  | i + 1 => by
    show (mu_T T cA cB N M dv i).slotsUsed + (arrV cB M (fun _ => dv)).slots.size = _
    rw [arrV_size, mu_used i, Nat.add_mul]; omega
theorem mu_java (h : T.topJava?.isSome) : ∀ i, (mu_T T cA cB N M dv i).topJava?.isSome
  | 0 => h
  | i + 1 => mu_java h i
theorem mu_stand {p : Program} {l : Launch} {e : Env} {R : Room} {s : State} {m : MethodId} {args : Array Value} {below : List Frame} {meth : Method} {c : Code} {locs : List Loc} {cells slots : Nat} (X : Stand p l e R s m args below meth c T locs cells slots) : ∀ i, ∃ L : List Loc, Stand p l e R s m args below meth c (mu_T T cA cB N M dv i) (locs ++ L) (cells + 1 + i) (slots + N + i * M) ∧ ∀ q ∈ L, q.base = T.heap.size
  | 0 => by
    have h := X.pushed (mu_C cA N T.heap.size 0)
    rw [show (mu_C cA N T.heap.size 0).slots.size = N from arrV_size _ _ _] at h
    refine ⟨[], ?_, fun q hq => by cases hq⟩
    rw [List.append_nil, Nat.zero_mul]
    exact h
  | i + 1 => by
    obtain ⟨L, h, hL⟩ := mu_stand X i
    have h1 := h.pushed (arrV cB M (fun _ => dv))
    have h2 := h1.stored (a := T.heap.size) (cell := mu_C cA N T.heap.size i) (by
      show ((mu_T T cA cB N M dv i).heap.push _)[T.heap.size]? = _
      rw [Array.getElem?_push, if_neg (by rw [mu_size i]; omega), mu_outer i]) i (.ref (T.heap.size + 1 + i))
    rw [mu_Cs, arrV_size, List.append_assoc] at h2
    refine ⟨L ++ [⟨T.heap.size, i⟩], ?_, fun q hq => ?_⟩
    · rw [Nat.add_mul, Nat.one_mul, ← Nat.add_assoc (slots + N)]
      exact h2
    · rcases List.mem_append.mp hq with h3 | h3
      · exact hL q h3
      · rw [List.mem_singleton.mp h3]
/-- the loop over the rows -/
theorem mu_make {e : Env} {E : CtlPost} {Q : Addr → Pre} {d : Bool} {acts : List Action} {f : JFrame} {kA kB : Class} {cB' : ClassId} {ty : FieldType} {n k : Int32} (hkA : T.vm.classes[cA]? = some kA) (hkindA : kA.kind = .array cB (.array ty)) (hkB : T.vm.classes[cB]? = some kB) (hkindB : kB.kind = .array cB' ty) (hn : ¬ n < 0) (hk : ¬ k < 0) (hN : n.toNatClampNeg = N) (hM : k.toNatClampNeg = M) (hdv : dv = defaultValue ty) (hdf : fits ty dv = true)
    (l1 : N ≤ e.platform.arrayLengthLimit) (l2 : M ≤ e.platform.arrayLengthLimit) (b1 : N * 4 ≤ e.platform.maxHeapBytes) (b2 : M * componentBytes ty ≤ e.platform.maxHeapBytes) (rc : T.heap.size + (1 + N) ≤ e.platform.maxCells) (rs : T.slotsUsed + (N + N * M) ≤ e.platform.maxSlots)
    (hq : ∀ d' acts', Q T.heap.size d' acts' ((mu_T T cA cB N M dv N).setTop f)) : wp (Jvm.Op.multianewarray.make cA [n, k]) Q E e d acts (T.setTop f) := by
  subst hdv
  have inner : ∀ (i : Nat) (Q' : Addr → Pre) (d' : Bool) (acts' : List Action), i < N → (∀ acts'', Q' (T.heap.size + 1 + i) d' acts'' (((mu_T T cA cB N M (defaultValue ty) i).pushCell (arrV cB M (fun _ => defaultValue ty))).setTop f)) → wp (Jvm.Op.multianewarray.make cB [k]) Q' E e d' acts' ((mu_T T cA cB N M (defaultValue ty) i).setTop f) := by
    intro i Q' d' acts' hi hq'
    have hmul : i * M + M ≤ N * M := by
      have := Nat.mul_le_mul_right M (show i + 1 ≤ N from hi)
      rwa [Nat.add_mul, Nat.one_mul] at this
    have hkB' : ((mu_T T cA cB N M (defaultValue ty) i).setTop f).vm.classes[cB]? = some kB := by rw [State.vm_setTop, mu_vm]; exact hkB
    simp only [Jvm.Op.multianewarray.make, wp_bind', Jvm.W.ite, hk, if_false, wp_pure', Jvm.W.theClass, hkB', Option.some.injEq, exists_eq_left', hkindB, hM]
    refine Jvm.W.newArray_of hkB' hkindB (by omega) (by omega) ?_ ?_ hdf (fun acts'' => ?_)
    · show (mu_T T cA cB N M (defaultValue ty) i).heap.size < _
      rw [mu_size]; omega
    · show (mu_T T cA cB N M (defaultValue ty) i).slotsUsed + M ≤ _
      rw [mu_used]; omega
    · have := hq' acts''
      rw [← arrV_new] at this
      have e1 : ((mu_T T cA cB N M (defaultValue ty) i).setTop f).heap.size = T.heap.size + 1 + i := mu_size i
      rw [e1]
      exact this
  have hkA' : (T.setTop f).vm.classes[cA]? = some kA := hkA
  have hnone : List.find? (fun x : Int32 => decide (x < 0)) [k] = none := by
    rw [List.find?_cons_of_neg (by rw [decide_eq_true_eq]; exact hk)]; rfl
  rw [Jvm.Op.multianewarray.make]
  simp only [wp_bind', Jvm.W.ite, hn, if_false, wp_pure', Jvm.W.theClass, hkA', Option.some.injEq, exists_eq_left', hkindA, hN]
  refine Jvm.W.newArray_of hkA' hkindA (by omega) (show ¬ N * 4 > _ by omega) (show T.heap.size < _ by omega) (show T.slotsUsed + N ≤ _ by omega) rfl (fun acts' => ?_)
  simp only [hnone, ite_self, wp_bind', Std.Legacy.Range.forIn_eq_forIn_range']
  have hr : List.range' (Std.Legacy.Range.start [:N]) (Std.Legacy.Range.size [:N]) (Std.Legacy.Range.step [:N]) = List.range' 0 N := by
    simp [Std.Legacy.Range.size]
  rw [hr]
  refine wp_forIn_inv (fun rest S => ∃ i, i ≤ N ∧ rest = List.range' i (N - i) ∧ S = (mu_T T cA cB N M (defaultValue ty) i).setTop f) _ _ ⟨0, Nat.zero_le _, rfl, ?_⟩ (fun x rest S d' acts' Q' hI hk9 => ?_) (fun S d' acts' hI => ?_)
  · rw [mu_C0 cA N T.heap.size]
    rfl
  · obtain ⟨i, hi, hl, rfl⟩ := hI
    have hlt : i < N := by
      rcases Nat.lt_or_ge i N with h9 | h9
      · exact h9
      · rw [show N - i = 0 by omega] at hl
        cases hl
    rw [show N - i = (N - (i + 1)) + 1 by omega, List.range'_succ] at hl
    obtain ⟨rfl, rfl⟩ := List.cons.inj hl
    simp only [wp_bind']
    refine inner x _ _ _ hlt (fun acts'' => ?_)
    simp only [wp_bind', Jvm.W.writeLoc, wp_pure']
    refine ⟨mu_C cA N T.heap.size x, ?_, (fun h9 => by cases h9), ?_, ?_, ?_⟩
    · show ((mu_T T cA cB N M (defaultValue ty) x).heap.push _)[T.heap.size]? = _
      rw [Array.getElem?_push, if_neg (by rw [mu_size]; omega), mu_outer]
    · unfold mu_C
      rw [arrV_size]; exact hlt
    · have hv : (((mu_T T cA cB N M (defaultValue ty) x).pushCell (arrV cB M (fun _ => defaultValue ty))).setTop f).vm.classes[(mu_C cA N T.heap.size x).cls]? = some kA := by
        show (mu_T T cA cB N M (defaultValue ty) x).vm.classes[cA]? = some kA
        rw [mu_vm]; exact hkA
      have hv2 : (mu_C cA N T.heap.size x).vm = .none := rfl
      rw [hv2]
      unfold State.fitsSlot State.slotType?
      simp only [hv, Option.bind_eq_bind, Option.bind_some, hkindA]
      rfl
    · refine hk9 _ _ _ ⟨x + 1, hlt, rfl, ?_⟩
      show ((((mu_T T cA cB N M (defaultValue ty) x).pushCell (arrV cB M (fun _ => defaultValue ty))).setTop f).setCell T.heap.size ((mu_C cA N T.heap.size x).setSlot x (.ref (T.heap.size + 1 + x)))) = _
      rw [mu_Cs]
      rfl
  · obtain ⟨i, hi, hl, rfl⟩ := hI
    have h9 : N - i = 0 := by
      have h8 := congrArg List.length hl
      rw [List.length_range'] at h8
      exact h8.symm
    rw [show i = N by omega, wp_pure']
    exact hq _ _
/-- the row -/
theorem mu_sem {p : Program} {l : Launch} {e : Env} {R : Room} {s : State} {m : MethodId} {args : Array Value} {below : List Frame} {meth : Method} {c : Code} {locs : List Loc} {cells slots : Nat} (X : Stand p l e R s m args below meth c T locs cells slots) (hexec : p.tables.exec = Jvm.exec) {own : String} {index : Nat} {ty : FieldType}
    (hown : s.vm.findClass own = some m.cls) (hlink : (Cond.classLink own index ("[" ++ (FieldType.array ty).toString)).before args s = true) (hover : (Cond.arrayOver (.array ty)).before args s = true) (hstr : (FieldType.array ty).toString = "[" ++ ty.toString) (harr : (Cond.arrayClass ty).before args s = true)
    {g : JFrame} (hg : g.method = m) (hdg : decode c.code g.pc = .ok (.multianewarray index 2, 4)) {n k : Int32} {rest : List Value} (hstack : g.stack = .int k :: .int n :: rest)
    (hn : ¬ n < 0) (hk : ¬ k < 0) (hN : n.toNatClampNeg = N) (hM : k.toNatClampNeg = M) (b1 : N ≤ 1000) (b2 : M ≤ 10000) (hdf : fits ty (defaultValue ty) = true) (hcells : cells + (1 + N) ≤ R.cells) (hslots : slots + (N + N * M) ≤ R.slots) :
    ∃ (vm₁ : Vm) (cA cB : ClassId) (L : List Loc), s.WarmedH vm₁ ∧ s.vm.findClass ("[" ++ (FieldType.array ty).toString) = some cA ∧ s.vm.findClass (FieldType.array ty).toString = some cB ∧
      Stand p l e R s m args below meth c (mu_T (T.setVm vm₁) cA cB N M (defaultValue ty) N) (locs ++ L) (cells + 1 + N) (slots + N + N * M) ∧ (∀ q ∈ L, q.base = T.heap.size) ∧
      ∀ target, Steps p.tables e below ((mu_T (T.setVm vm₁) cA cB N M (defaultValue ty) N).setTop { g with pc := g.pc + 4, stack := .ref T.heap.size :: rest }) target → Steps p.tables e below (T.setTop g) target := by
  subst hg
  have hpl : e.platform.magicAccessors = ({} : Platform).magicAccessors := by rw [X.admits.platform]
  obtain ⟨cB, cA, kA, hfB, hkA, hkindA, hfA⟩ := oa_spec hover
  obtain ⟨cB2, kB, cB', hfB2, hkB, hkindB⟩ := Cond.arrayClass_spec harr
  rw [← hstr, hfB] at hfB2
  cases hfB2
  obtain ⟨cA2, hfA2, hcl⟩ := Cond.classLink_spec hown hlink e.platform hpl
  cases hfA.symm.trans hfA2
  obtain ⟨dk, _, _, _, hd, _, _, _, _, _, _, hopen⟩ := hcl.here
  have hW' : s.WarmedH (T.vm.noted g.method.cls index (.cls cA)) := X.warmed.noted hd hopen (State.rightAt_cls hcl)
  have hcl₀ := X.warmed.classLinks hcl
  have X1 := X.noted hW'
  obtain ⟨L, X2, hL⟩ := mu_stand (cA := cA) (cB := cB) (N := N) (M := M) (dv := defaultValue ty) X1 N
  refine ⟨_, cA, cB, L, hW', hfA, hfB, X2, hL, fun target hrest => ?_⟩
  obtain ⟨kA₁, hkA₁, heA⟩ := hW'.alike.2.2 _ _ hkA
  obtain ⟨kB₁, hkB₁, heB⟩ := hW'.alike.2.2 _ _ hkB
  obtain ⟨r1, r2⟩ := X.roomAbove hcells hslots
  have cb : componentBytes ty ≤ 8 := by cases ty <;> simp [componentBytes]
  have hmb : M * componentBytes ty ≤ 80000 := Nat.mul_le_mul b2 cb
  refine Steps.instr (c := c) X.here ?_
  rw [hdg]
  show wpRun (p.tables.exec (.multianewarray index 2)) _ _ e (T.setTop g)
  rw [hexec]
  show wp (Jvm.Op.multianewarray.sem index 2) _ _ e false [] (T.setTop g)
  simp only [Jvm.Op.multianewarray.sem, wp_bind']
  rw [Jvm.W.resolveClassAt_links (State.method?_setTop g X.here.top) (resolveClass_links e.toSetting hcl₀) (by rw [Vm.size_noted]; exact Nat.le_refl _)]
  show wp (do
        let x ← Jvm.popN [Value.int n, Value.int k].length
        let counts ← x.mapM fun
          | .int n => Pure.pure n
          | _ => illTyped "multianewarray: an int count was expected"
        let arrayref ← Jvm.Op.multianewarray.make cA counts
        mark "op.multianewarray"
        Jvm.pushRef arrayref) _ _ e false [] ((T.setVm (T.vm.noted g.method.cls index (.cls cA))).setTop g)
  generalize T.vm.noted g.method.cls index (.cls cA) = vm₁ at *
  rw [wp_bind', Jvm.Op.popN_top (s := T.setVm vm₁) (f := g) (rest := rest) X.here.top (by rw [hstack]; rfl)]
  simp only [List.mapM_cons, List.mapM_nil, wp_bind', wp_pure']
  refine mu_make (T := T.setVm vm₁) hkA₁ (by rw [heA]; exact hkindA) hkB₁ (by rw [heB]; exact hkindB) hn hk hN hM rfl hdf ?_ ?_ ?_ ?_ r1 r2 (fun d' acts' => ?_)
  · rw [Launch.admits_arrayLengthLimit X.admits]; omega
  · rw [Launch.admits_arrayLengthLimit X.admits]; omega
  · rw [Launch.admits_maxHeapBytes X.admits]; omega
  · rw [Launch.admits_maxHeapBytes X.admits]; omega
  · simp only [wp_bind', Jvm.W.mark, Jvm.W.pushRef, State.topJava?_setTop' _ (mu_java (T := T.setVm vm₁) X.here.top N), Option.some.injEq, exists_eq_left', State.setTop_setTop]
    intro acts9
    rw [afterInstr_ok]
    exact hrest
end MU
