/-! CONTRACTS. A call's outcome: .inl v, it returned v; .inr E, it threw an object of the class E. X says what is owed of the outcome, the tables, and how many cells of how many slots were made -/
abbrev xc_R : Type := Option Value ⊕ String
def xc_E (y : xw_T) (X : xc_R → xw_H → Nat → Nat → Prop) (st : State) (o : Outcome) (t : State) : Prop :=
  ∃ (h : xw_H) (L : List Loc) (k n : Nat), xw_P y h t.heap ∧ va_F (xw_A y) st t ∧ (∀ q ∈ L, xw_A y q.base) ∧ st.WarmedH t.vm ∧ st.sameButNew ({ t with vm := st.vm } : State) L k n ∧
    ((∃ v : Option Value, o = .returned (v.map (xw_v (xw_ph y))) ∧ X (.inl v) h k n) ∨
     (∃ (q : Addr) (E : String) (ce : Cell), o = .threw q ∧ t.heap[q]? = some ce ∧ ce.vm = .none ∧ st.vm.findClass E = some ce.cls ∧ X (.inr E) h k n))
/-- facts of the start that later states keep -/
def xw_mv (y : xw_T) (KK : State → Prop) : Prop := ∀ (s U : State), s.WarmedH U.vm → s.heap.size ≤ U.heap.size → (∀ q : Nat, q < s.heap.size → ¬ xw_A y q → U.heap[q]? = s.heap[q]?) → KK s → KK U
def xc_M (l : Launch) (y : xw_T) (KK : State → Prop) (z : MethodName) (ws : List Cond) (rm : Room) (as : List Value) (h : xw_H) (X : xc_R → xw_H → Nat → Nat → Prop) : Prop :=
  MetFree l z (headSpec ws rm) (fun a U => a = (as.map (xw_v (xw_ph y))).toArray ∧ xw_P y h U.heap ∧ xw_B y ≤ U.heap.size ∧ KK U) (fun _ _ _ _ _ => True) (fun _ st o t => xc_E y X st o t)
section XC
variable {l : Launch} {R : Room} {p : Program} {e : Env} {below : List Frame} {s : State} {sargs : Array Value} {z : MethodName} {len W9 maxL : Nat} {y : xw_T} {KK : State → Prop} {ws : List Cond} {rm : Room} {as : List Value} {h : xw_H} {X : xc_R → xw_H → Nat → Nat → Prop}
theorem xc_back (hM : xc_M l y KK z ws rm as h X) {m : MethodId} {meth : Method} {c : Code} {U : State} {Ls : List Loc} {c0 s0 : Nat} (St : Stand p l e R s m sargs below meth c U Ls c0 s0)
    {g : JFrame} (hg : g.method = m) (hsize : g.locals.size = c.maxLocals) {ig : Instr} (hdg : decode c.code g.pc = .ok (ig, len)) (hW : 2 * g.monitorRoom + (g.stack.map fun v => v.category).sum ≤ W9)
    {mk : MethodId} (hn : U.methodNamed? z = some mk) {a : Array Value} (ha : a = (as.map (xw_v (xw_ph y))).toArray) (hpre : (headSpec ws rm).pre.before a U = true)
    {methY : Method} {cY : Code} (hmY : U.vm.method? mk = some methY) (hcY : methY.code = some cY) (hlY : cY.maxLocals = maxL) (hinit : (Cond.initialized z.cls).before a U = true)
    (hframes : rm.frames + 1 ≤ R.frames) (hlocals : W9 + (maxL + 11) + rm.locals ≤ R.locals) (hcc : c0 + rm.cells ≤ R.cells) (hss : s0 + rm.slots ≤ R.slots)
    (hP : xw_P y h U.heap) (hB : xw_B y ≤ U.heap.size) (hKK : KK (U.calling g mk a)) :
    ∃ (h1 : xw_H) (L : List Loc) (k n : Nat) (t : State), xw_P y h1 t.heap ∧ U.heap.size ≤ t.heap.size ∧ (∀ q : Nat, q < U.heap.size → ¬ xw_A y q → t.heap[q]? = U.heap[q]?) ∧ (∀ q ∈ L, xw_A y q.base) ∧
      Stand p l e R s m sargs below meth c (({ U with heap := t.heap, slotsUsed := t.slotsUsed } : State).setVm t.vm) (Ls ++ L) (c0 + k) (s0 + n) ∧
      ((∃ v : Option Value, X (.inl v) h1 k n ∧ Steps p.tables e below (doInvoke e (U.setTop g) [] mk a).1 ((({ U with heap := t.heap, slotsUsed := t.slotsUsed } : State).setVm t.vm).setTop { g with pc := g.pc + len, stack := (v.map (xw_v (xw_ph y))).toList ++ g.stack })) ∨
       (∃ (q : Addr) (E : String) (ce : Cell), t.heap[q]? = some ce ∧ ce.vm = .none ∧ U.vm.findClass E = some ce.cls ∧ X (.inr E) h1 k n ∧ Steps p.tables e below (doInvoke e (U.setTop g) [] mk a).1 (((({ U with heap := t.heap, slotsUsed := t.slotsUsed } : State).setVm t.vm).setTop g).pushFrame (.throwing q)))) := by
  have hA : At U g.method c below := by rw [hg]; exact St.here
  obtain ⟨kY, hkY, -⟩ := className_of_methodNamed hn
  have hinitY : kY.init = .initialized := Cond.initialized_spec (findClass_of_methodNamed hn) hkY hinit
  have happ : (headSpec ws rm).appliesLoose z e.platform (U.calling g mk a) = true :=
    Spec.appliesLoose_calling (g := g) hA hdg hn hkY hinitY
      (St.room_calling (g := g) (R' := (headSpec ws rm).room) hsize hmY hcY hframes (by rw [hlY]; show _ + _ + rm.locals ≤ _; omega) hcc hss) hpre
  obtain ⟨mid, hmid⟩ := hA.above
  have hfr : (U.setTop g).frames = (.java g :: mid) ++ below := by rw [State.frames_setTop' g hA.top, hmid]; rfl
  obtain ⟨o, t, hsteps, -, hend, hq⟩ := Steps.callFree hM p St.admits St.cas St.clock (acts := []) hfr happ ⟨ha, hP, hB, hKK⟩ trivial
  have hq' : xc_E y X (U.calling g mk a) o t := hq
  rw [State.frames_setTop' g hA.top] at hend
  obtain ⟨h1, L, k, n, hP1, hF, hL, hW₂, ⟨e2, q2, q3, q4, q5, q6⟩, hout⟩ := hq'
  have e3 : t = ({ (U.calling g mk a).setFrames t.frames with heap := t.heap, slotsUsed := t.slotsUsed } : State).setVm t.vm := by
    have : t = ({ t with vm := (U.calling g mk a).vm } : State).setVm t.vm := rfl
    rw [e2] at this
    exact this
  have hW' : U.WarmedH t.vm := hW₂
  obtain ⟨g₀, hg0⟩ := Option.isSome_iff_exists.mp hA.top
  obtain ⟨r, hr⟩ := State.topJava?_eq_some.mp hg0
  have hsame : U.sameButNew ({ U with heap := t.heap, slotsUsed := t.slotsUsed } : State) L k n := by
    refine ⟨?_, q2, q3, q4, q5, q6⟩
    obtain ⟨t9, ht9, -⟩ := State.frames_cons hr
    show ({ U with heap := t.heap, slotsUsed := t.slotsUsed } : State) = { U.setFrames U.frames with heap := t.heap, slotsUsed := t.slotsUsed }
    rw [State.setFrames_self ht9]
  have hr' : (({ U with heap := t.heap, slotsUsed := t.slotsUsed } : State).setVm t.vm).frames = .java g₀ :: r := hr
  refine ⟨h1, L, k, n, t, hP1, hF.1, hF.2, hL, ⟨St.admits, St.cas, St.clock, St.frames, St.room, St.hears, St.method, St.code, (St.here.setHeapUsed t.heap t.slotsUsed).setVm hW'.alike, St.tail, State.WarmedH.trans St.warmed hW', St.limits, St.bytes, St.same.trans (hsame.setVm s.vm)⟩, ?_⟩
  rcases hout with ⟨v, ho, hX⟩ | ⟨q, E, ce, ho, hce, hcv, hcl, hX⟩
  · subst ho
    refine Or.inl ⟨v, hX, ?_⟩
    obtain ⟨c₂, i₂, len₂, hc₂, hd₂, hf₂⟩ := hend
    have hcc2 : c₂ = c := by
      have h1 : t.code? g.method = U.code? g.method := by
        rw [State.code?_eq, State.code?_eq, hW'.alike.method?]
      exact Option.some.inj (hc₂.symm.trans (h1.trans hA.code))
    subst hcc2
    have hlen : len₂ = len := by rw [hdg] at hd₂; cases hd₂; rfl
    subst hlen
    have hs₂ : t = (({ U with heap := t.heap, slotsUsed := t.slotsUsed } : State).setVm t.vm).setTop { g with pc := g.pc + len₂, stack := (v.map (xw_v (xw_ph y))).toList ++ g.stack } := by
      refine e3.trans ?_
      rw [hf₂, State.calling_eq hA.top, State.setFrames_setFrames, State.setTop_of_frames _ hr', hr]
      rfl
    rw [← hs₂]
    exact hsteps
  · subst ho
    refine Or.inr ⟨q, E, ce, hce, hcv, hcl, hX, ?_⟩
    have hf₂ : t.frames = .throwing q :: .java g :: U.frames.tail := hend
    have hs₂ : t = ((({ U with heap := t.heap, slotsUsed := t.slotsUsed } : State).setVm t.vm).setTop g).pushFrame (.throwing q) := by
      refine e3.trans ?_
      rw [hf₂, State.calling_eq hA.top, State.setFrames_setFrames, State.setTop_of_frames _ hr', hr]
      rw [State.pushFrame, State.frames_setFrames _ (State.cur_lt_of_frames hr'), State.setFrames_setFrames]
      rfl
    rw [← hs₂]
    exact hsteps
end XC
