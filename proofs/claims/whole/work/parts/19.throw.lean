/-! THROWS: 'throw new E("text")' -/
/-- where a static field lies, in a heap: its class's cell of statics, out of reach of what may change -/
def xk_Y (C n d : String) (A : Nat → Prop) (U : State) (H : Heap) : Prop := ∃ (c : ClassId) (k : Class) (i : Nat) (f : Field) (a : Nat) (cell : Cell), U.vm.findClass C = some c ∧ U.fieldFound? C n d = some (c, k, i, f) ∧ f.isStatic = true ∧ k.statics = some a ∧ H[a]? = some cell ∧ cell.vm.isStatics = true ∧ cell.cls = c ∧ f.slot < cell.slots.size ∧ k.staticTypes[f.slot]? = some f.type ∧ ¬ A a
theorem xk_Y.moved {C n d : String} {A : Nat → Prop} {u U : State} {H : Heap} (hvm : u.vm.Alike U.vm) (h : xk_Y C n d A u H) : xk_Y C n d A U H := by
  obtain ⟨c, k, i, f, a, cell, h1, h2, h3, h4, h5, h6, h7, h8, h9, h0⟩ := h
  obtain ⟨k', hi', he⟩ := State.fieldFound?_setVm hvm h2
  exact ⟨c, k', i, f, a, cell, by rw [hvm.findClass]; exact h1, hi', h3, by rw [he]; exact h4, h5, h6, h7, h8, by rw [he]; exact h9, h0⟩
theorem xk_Y.kept {C n d : String} {A : Nat → Prop} {U : State} {H H1 : Heap} (h : xk_Y C n d A U H) (hq : ∀ a : Nat, a < H.size → ¬ A a → H1[a]? = H[a]?) : xk_Y C n d A U H1 := by
  obtain ⟨c, k, i, f, a, cell, h1, h2, h3, h4, h5, h6, h7, h8, h9, h0⟩ := h
  exact ⟨c, k, i, f, a, cell, h1, h2, h3, h4, by rw [hq a (Array.getElem?_eq_some_iff.mp h5).1 h0]; exact h5, h6, h7, h8, h9, h0⟩
theorem xk_Y.of {args : Array Value} {s : State} {C n d : String} {A : Nat → Prop} (hl : (Cond.laysStatic C n d).before args s = true) (hA : ∀ a : Nat, a < s.heap.size → ¬ A a) : xk_Y C n d A s s.heap := by
  obtain ⟨c, k, i, f, a, cell, hc, hi, hst, ha, hcell, hs, hcls, hlt, hty⟩ := Cond.laysStatic_spec hl
  exact ⟨c, k, i, f, a, cell, hc, hi, hst, ha, hcell, hs, hcls, hlt, hty, hA a (Array.getElem?_eq_some_iff.mp hcell).1⟩
theorem xk_Y.word {args : Array Value} {s : State} {C n d : String} {A : Nat → Prop} (h : xk_Y C n d A s s.heap) : (Cond.laysStatic C n d).before args s = true := by
  obtain ⟨c, k, i, f, a, cell, h1, h2, h3, h4, h5, h6, h7, h8, h9, -⟩ := h
  simp [Cond.before, Cond.holds, Cond.value, h1, h2, h3, h4, h5, h6, h7, h8, h9]
theorem xk_ref {args : Array Value} {s : State} {C n d : String} {A : Nat → Prop} (h : va_Zq C n d A s s.heap) : (Cond.isRef (.static C n d)).before args s = true := by
  rcases h with h | ⟨t, h⟩
  · obtain ⟨cf, kf, fi, f, a, cell, h1, h2, h3, h4, h5, h6, h7, -⟩ := h
    simp [Cond.before, Cond.holds, Cond.value, Term.eval, State.fieldNamed?, h1, h2, h3, h4, h5, h6, h7]
  · obtain ⟨cf, kf, fi, f, a, cell, h1, h2, h3, h4, h5, h6, h7, -⟩ := h
    simp [Cond.before, Cond.holds, Cond.value, Term.eval, State.fieldNamed?, h1, h2, h3, h4, h5, h6, h7]
/-- a class that another one may be assigned to -/
def xk_ca (a b : String) (U : State) : Prop := ∃ c t : ClassId, U.vm.findClass a = some c ∧ U.vm.findClass b = some t ∧ U.vm.assignable c t = true
theorem xk_ca.moved {a b : String} {u U : State} (hvm : u.vm.Alike U.vm) (h : xk_ca a b u) : xk_ca a b U := by
  obtain ⟨c, t, h1, h2, h3⟩ := h
  exact ⟨c, t, by rw [hvm.findClass]; exact h1, by rw [hvm.findClass]; exact h2, by rw [hvm.assignable]; exact h3⟩
theorem xk_ca.of {args : Array Value} {s : State} {a b : String} (h : (Cond.castable a b).before args s = true) : xk_ca a b s := Cond.castable_spec h
theorem xk_ca.word {args : Array Value} {s : State} {a b : String} (h : xk_ca a b s) : (Cond.castable a b).before args s = true := by
  obtain ⟨c, t, h1, h2, h3⟩ := h
  simp [Cond.before, Cond.holds, Cond.value, h1, h2, h3]
section XT
variable {p : Program} {l : Launch} {e : Env} {R : Room} {s : State} {m : MethodId} {args : Array Value} {below : List Frame} {meth : Method} {c : Code} {locs : List Loc} {cells slots : Nat}
/-- the walk as if the method had begun here: what was made or written before belongs to the start -/
theorem xt_anew {T : State} (St : Stand p l e R s m args below meth c T locs cells slots) {r : Room} (f1 : r.frames ≤ R.frames) (f2 : r.locals ≤ R.locals) (f3 : cells + r.cells ≤ R.cells) (f4 : slots + r.slots ≤ R.slots) :
    Stand p l e r ((T.setVm s.vm).setFrames (.invoking m args :: below)) m args below meth c T [] 0 0 := by
  have top : (T.setVm s.vm).topJava?.isSome := St.here.top
  have fr : ((T.setVm s.vm).setFrames (.invoking m args :: below)).frames = .invoking m args :: below := State.frames_setFrames _ (State.cur_lt_of_top top)
  have lim : e.platform.stackLimits (T.setVm s.vm).me = e.platform.stackLimits s.me := St.limits
  have byt : (T.setVm s.vm).me.stackBytes = s.me.stackBytes := St.bytes
  have nothing : (T.heap.toList.drop T.heap.size).map (·.slots.size) = [] := by
    rw [List.drop_eq_nil_of_le (Nat.le_of_eq Array.length_toList)]
    rfl
  have same : ((T.setVm s.vm).setFrames (.invoking m args :: below)).sameButNew (T.setVm s.vm) [] 0 0 := by
    obtain ⟨g, hg⟩ := Option.isSome_iff_exists.mp top
    obtain ⟨r', hr⟩ := State.topJava?_eq_some.mp hg
    obtain ⟨th, hth, -⟩ := State.frames_cons hr
    refine ⟨?_, Nat.le_refl _, Nat.le_refl _, ?_, ?_, fun a c9 h9 => ⟨c9, h9, rfl, rfl, fun _ _ => rfl⟩⟩
    · rw [State.setFrames_setFrames, State.setFrames_self hth]
    · show T.slotsUsed = T.slotsUsed + ((T.heap.toList.drop T.heap.size).map (·.slots.size)).sum
      rw [nothing]
      rfl
    · show ((T.heap.toList.drop T.heap.size).map (·.slots.size)).sum ≤ 0
      rw [nothing]
      exact Nat.le_refl _
  have room : ((T.setVm s.vm).setFrames (.invoking m args :: below)).hasRoom e.platform r = true := by
    have h := St.room
    have use : ((T.setVm s.vm).setFrames (.invoking m args :: below)).localsInUse = s.localsInUse := (State.localsInUse_invoking fr (meth := meth) (c := c) St.method St.code).trans (State.localsInUse_invoking St.frames St.method St.code).symm
    have z1 := St.heapSize
    have z2 := St.used
    simp only [State.hasRoom, Bool.and_eq_true, decide_eq_true_eq] at h ⊢
    obtain ⟨⟨⟨⟨h1, h2, h3, h4, h5, h6⟩, h7⟩, h8⟩, h9⟩ := h
    rw [St.frames, List.length_cons] at h2 h3
    simp only [fr, use, List.length_cons, State.stackLimits_setFrames, State.stackBytes_setFrames, lim, byt]
    exact ⟨⟨⟨⟨by omega, by omega, by omega, by omega, by omega, h6⟩, show T.heap.size + r.cells ≤ _ by omega⟩, show T.slotsUsed + r.slots ≤ _ by omega⟩, St.book⟩
  exact ⟨St.admits, St.cas, St.clock, fr, room, St.hears, St.method, St.code, St.here, St.tail, St.warmed, by rw [State.stackLimits_setFrames]; rfl, by rw [State.stackBytes_setFrames]; rfl, same⟩
end XT
/-- the words of a throw that speak of the heap -/
def xt_four : List Cond := [.isRef (.static Bundle.tN "UNASSIGNED_STACK" Bundle.steD), .isRef (.static Bundle.tN "SUPPRESSED_SENTINEL" Bundle.listD), .laysStatic Bundle.tN "UNASSIGNED_STACK" Bundle.steD, .laysStatic Bundle.tN "SUPPRESSED_SENTINEL" Bundle.listD]
/-- Throwable's two statics -/
def xt_st (y : xw_T) (U : State) : Prop := (va_Zq Bundle.tN "UNASSIGNED_STACK" Bundle.steD (xw_A y) U U.heap ∧ xk_Y Bundle.tN "UNASSIGNED_STACK" Bundle.steD (xw_A y) U U.heap) ∧ (va_Zq Bundle.tN "SUPPRESSED_SENTINEL" Bundle.listD (xw_A y) U U.heap ∧ xk_Y Bundle.tN "SUPPRESSED_SENTINEL" Bundle.listD (xw_A y) U U.heap)
theorem xt_st.later {y : xw_T} {s U : State} (hW : s.WarmedH U.vm) (hq : ∀ q : Nat, q < s.heap.size → ¬ xw_A y q → U.heap[q]? = s.heap[q]?) (h : xt_st y s) : xt_st y U :=
  ⟨⟨va_Zq.moved hW.alike (h.1.1.kept hq), xk_Y.moved hW.alike (h.1.2.kept hq)⟩, ⟨va_Zq.moved hW.alike (h.2.1.kept hq), xk_Y.moved hW.alike (h.2.2.kept hq)⟩⟩
theorem xt_four_at {y : xw_T} {U : State} {args : Array Value} (h : xt_st y U) : ∀ w ∈ xt_four, w.before args U = true := by
  intro w hw
  rcases List.mem_cons.mp hw with rfl | hw
  · exact xk_ref h.1.1
  rcases List.mem_cons.mp hw with rfl | hw
  · exact xk_ref h.2.1
  rcases List.mem_cons.mp hw with rfl | hw
  · exact h.1.2.word
  rcases List.mem_cons.mp hw with rfl | hw
  · exact h.2.2.word
  · cases hw
/-- that the constructors above an exception's are declared -/
def xt_de : List Cond := [.declares (Bundle.initS "java/lang/RuntimeException"), .declares (Bundle.initS "java/lang/Exception"), .declares (Bundle.initS "java/lang/Throwable")]
theorem xt_de_tab : ∀ w ∈ xt_de, w.onTables = true := by
  intro w hw
  rcases List.mem_cons.mp hw with rfl | hw
  · rfl
  rcases List.mem_cons.mp hw with rfl | hw
  · rfl
  rcases List.mem_cons.mp hw with rfl | hw
  · rfl
  · cases hw
theorem xt_de_moved {s U : State} {x : MethodName} (hW : s.WarmedH U.vm) (h : va_Nw (.declares x) s) : va_Nw (.declares x) U :=
  va_tabs rfl (show (s.setVm U.vm).vm = U.vm from rfl) (by rw [Cond.declares_setVm hW.alike]; exact h)
theorem xt_de_later {s U : State} (hW : s.WarmedH U.vm) (h : ∀ w ∈ xt_de, va_Nw w s) : ∀ w ∈ xt_de, va_Nw w U := by
  intro w hw
  have h1 := h w hw
  rcases List.mem_cons.mp hw with rfl | hw
  · exact xt_de_moved hW h1
  rcases List.mem_cons.mp hw with rfl | hw
  · exact xt_de_moved hW h1
  rcases List.mem_cons.mp hw with rfl | hw
  · exact xt_de_moved hW h1
  · cases hw
theorem xg_throwS {x : xg_T} {y : xw_T} {X : xc_R → xw_H → Nat → Nat → Prop} {ty : Option FieldType} {nc ns pc : Nat} {L : List (Option Value)} {S : List Value} {h : xw_H} (ok : xg_ok x) (HW : xg_W x) (ow : xg_owes x y X ty) (noh : xg_tab x = []) (hl : (xg_l x).stackTraces = false) (hst : xt_st y (xg_s x))
    {cls text : String} {names : List String} {ik is ic sa : Nat} (hcls : Bundle.fit cls = true) (hnames : ∀ n ∈ names, Bundle.fit n = true) (hk : Cond.classLink (xg_own x) ik cls ∈ xw_tbl) (hini : Cond.initialized cls ∈ xw_tbl) (hstr : vk_R (xg_own x) is text sa (xg_s x))
    (hat : ∀ w ∈ Bundle.ownAtoms (xg_own x) ic cls names, w ∈ xw_tbl ∨ w ∈ xt_four ∨ w = .castable cls cls ∨ w ∈ xt_de) (hca : xk_ca cls cls (xg_s x)) (hde : ∀ w ∈ xt_de, va_Nw w (xg_s x))
    (d0 : decode (xg_cc x) pc = .ok (.new ik, 3)) (d3 : decode (xg_cc x) (pc + 3) = .ok (.dup, 1)) (d4 : decode (xg_cc x) (pc + 4) = .ok (.ldc is, 2)) (d6 : decode (xg_cc x) (pc + 6) = .ok (.invokespecial ic, 3)) (d9 : decode (xg_cc x) (pc + 9) = .ok (.athrow, 1))
    (hR : names.length + 3 < (xm_R x).frames ∧ (S.map fun v => v.category).sum + (13 * (names.length + 1) + 43) ≤ (xm_R x).locals ∧ nc + 1 ≤ (xm_R x).cells ∧ ns + 6 ≤ (xm_R x).slots) (hX : X (.inr cls) h (nc + 1) (ns + 6)) : xg x y nc ns pc L S h := by
  obtain ⟨p, l, e, R, s, m, args, below, meth, c, Q, cc, own, nL⟩ := x
  obtain ⟨hx, hb, hml, hown⟩ := ok
  obtain ⟨rfl, hlocks, -⟩ := ow
  obtain ⟨r1, r2, r3, r4⟩ := hR
  have r2 : (S.map fun v => v.category).sum + (13 * (names.length + 1) + 43) ≤ R.locals := r2
  intro H locs ls hP hS hL T hT St
  have htr : e.platform.stackTraces = false := (show e.platform.stackTraces = l.stackTraces by rw [St.admits.platform]).trans hl
  have Y := xt_anew St (r := { frames := R.frames, locals := R.locals, cells := 1, slots := 6 }) (Nat.le_refl _) (Nat.le_refl _) r3 r4
  obtain ⟨s', hA⟩ : ∃ z, z = (T.setVm s.vm).setFrames (.invoking m args :: below) := ⟨_, rfl⟩
  rw [← hA] at Y
  have hvm : s'.vm = s.vm := by rw [hA]; rfl
  have hhp : s'.heap = H := by rw [hA]; exact hT
  have hW0 : s.WarmedH s'.vm := by rw [hvm]; exact State.WarmedH.refl s
  have hts : ∀ w ∈ xw_tbl, w.before args s' = true := fun w hw => xw_keep hW0 hw (HW w hw)
  have hst' : xt_st y s' := hst.later hW0 (fun q h1 h2 => by rw [hhp]; exact hS.2.1 q h1 h2)
  have hall : ∀ w ∈ Bundle.ownAtoms own ic cls names, w.before args s' = true := fun w hw => (hat w hw).elim (hts w) (fun q => q.elim (xt_four_at hst' w) (fun q => q.elim (fun e => by
    rw [e]
    exact (hca.moved hW0.alike).word) (fun hd => va_tabs (xt_de_tab w hd) hvm.symm (hde w hd))))
  have hown' : s'.vm.findClass own = some m.cls := by rw [hvm]; exact hown
  have hins : (Cond.instantiable cls 6).before args s' = true := hall _ (by simp [Bundle.ownAtoms])
  obtain ⟨vm₁, cX, kX, hfX, hkX, -, -, X₁, st1⟩ := Y.newCold hx (own := own) (C := cls) (index := ik) (n := 6) hown' (hts _ hk) hins (hts _ hini)
    (g := F0 m pc ls (S.map (xw_v (xw_ph y)))) rfl (by rw [hb]; exact d0) (Nat.le_refl _) (Nat.le_refl _)
  generalize hT1 : (T.setVm vm₁).pushCell { cls := cX, slots := kX.instanceTypes.map defaultValue, vm := .none } = T1 at X₁ st1
  have hcellA : T1.heap[T.heap.size]? = some (freshCell cX kX) := by rw [← hT1]; exact State.heap_pushCell_size _ _
  have d3' : decode c.code (pc + 3) = .ok (.dup, 1) := by rw [hb]; exact d3
  have d4' : decode c.code (pc + 4) = .ok (.ldc is, 2) := by rw [hb]; exact d4
  have hstr' : vk_R own is text sa s' := vk_R.warm hW0 hstr
  have hcat : (Value.ref T.heap.size).category = 1 := rfl
  obtain ⟨U, hsteps, hrun, hend, hW, hsame, ce, hce, hO⟩ := X₁.ctorThrowS hx htr (own := own) (cls := cls) (names := names) (ic := ic) hown' hcls hnames hall (fun _ hz => nomatch hz) hfX hkX hcellA (by rw [hhp, hT]; exact Nat.le_refl _) (msg := .ref sa) rfl
    (g := { method := m, pc := pc + 6, locals := ls, stack := .ref sa :: .ref T.heap.size :: .ref T.heap.size :: S.map (xw_v (xw_ph y)), locked := none }) rfl (hL.1.trans hml.symm) rfl rfl (rest := S.map (xw_v (xw_ph y))) rfl
    (by rw [hb]; exact d6) (by rw [hb]; exact d9) (fun z hz => by
      have h9 : z ∈ xg_tab (p, l, e, R, s, m, args, below, meth, c, xc_Q below y X s, cc, own, nL) := hz
      rw [noh] at h9
      cases h9) r1 (by simp only [List.map_cons, List.sum_cons, hcat, xm_cats]; show 2 * 0 + _ + _ ≤ R.locals; omega) hlocks
  have g1 : H.size ≤ U.heap.size := by
    have := hsame.2.1
    rw [hhp] at this
    exact this
  have g2 : ∀ q : Nat, q < H.size → U.heap[q]? = H[q]? := by
    intro q hq
    have h6 := hsame.2.2.2.2.2
    rw [hhp] at h6
    obtain ⟨c', h7, h8, h9, h10⟩ := h6 q _ (Array.getElem?_eq_getElem hq)
    rw [Array.getElem?_eq_getElem hq]
    refine h7.trans (congrArg some ?_)
    rw [h8]
    have hsl : c'.slots = H[q].slots := by
      apply Array.ext_getElem?
      intro i
      exact h10 i (fun hz => nomatch hz)
    rw [hsl]
  have hWs : s.WarmedH U.vm := State.WarmedH.trans hW0 hW
  have hcl : s.vm.findClass cls = some ce.cls := by
    have h9 := hO.cls
    rw [hvm] at h9
    exact h9
  have hfin : s.sameButNew ({ U with vm := s.vm } : State) locs (nc + 1) (ns + 6) := by
    subst hA
    obtain ⟨e1, e2⟩ := hsame
    rw [State.setFrames_setFrames] at e1
    have h2 : (T.setVm s.vm).sameButNew ({ U with vm := s.vm } : State) [] (0 + 1) (0 + 6) := ⟨e1, e2⟩
    have h3 := St.same.trans h2
    rw [List.append_nil] at h3
    exact h3.mono (by omega) (by omega)
  refine ⟨U, ?_, .threw T.heap.size, hrun, hend, h, locs, nc + 1, ns + 6, va_P.kept hP (fun k q hk => g2 _ (va_at.lt (hP k q hk))), ⟨Nat.le_trans hS.1 g1, fun q h1 h2 => (g2 q (Nat.lt_of_lt_of_le h1 hS.1)).trans (hS.2.1 q h1 h2)⟩, hS.2.2, hWs, hfin, Or.inr ⟨_, cls, ce, rfl, hce, hO.vm, hcl, hX⟩⟩
  refine st1 _ ?_
  show Steps p.tables e below (T1.setTop { method := m, pc := pc + 3, locals := ls, stack := .ref T.heap.size :: S.map (xw_v (xw_ph y)), locked := none }) _
  jvm_step X₁.here [X₁.here.top, hx, d3', Value.category]
  exact X₁.ldcString hx (own := own) (text := text) (index := is) (a := sa) hown' hstr'.1 hstr'.2
    (g := { method := m, pc := pc + 4, locals := ls, stack := .ref T.heap.size :: .ref T.heap.size :: S.map (xw_v (xw_ph y)), locked := none }) rfl d4' _ hsteps
