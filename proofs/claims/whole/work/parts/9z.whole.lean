/-! THE CLAIM OUT OF ONE WALK OF THE LAW'S BODY. Your part is whole_start (and what it stands on); all else here is the same for every law, but numbers. -/
def R_law : String := "SoundStreamLaw"
def lw_P (b : Addr) (xs : List Int32) (args : Array Value) (s : State) : Prop := args = #[.ref b] ∧ s.IntsAt b xs ∧ xs.length ≤ 2560 ∧ (Jvm.Cond.and given_1 narrow_1).before args s = true
def lw_Q (_ : Array Value) (s : State) (o : Outcome) (t : State) : Prop := o = .returned (some (.int 1)) ∧ Framed s o t [] 601024 7293034
def lw_Z (below : List Frame) (a : Array Value) (s : State) : State → Prop := fun t => ∃ o, t.status = .running ∧ Ended t below o ∧ lw_Q a s o t
/-- the law's own end, with 1 on the stack, nothing written that was there before, its room as the claim has it -/
theorem lw_ret {p : Program} {l : Launch} {e : Env} {s : State} {m : MethodId} {below : List Frame} {meth : Method} {c : Code} {b : Nat} (hx : p.tables.exec = Jvm.exec) (hb : c.code = code) (hr : meth.sig.returnType = ret) (hlocks : meth.locks = false) {pc : Nat} {H : Heap} {ls : Array Slot} (hdg : decode code pc = .ok (.ireturn, 1)) : W p l e room_1 s m #[Value.ref b] below meth c H [] 601024 7293034 (lw_Z below #[Value.ref b] s) (F0 m pc ls [.int 1]) := by
  intro T hT X
  obtain ⟨fs, hret, hrun, hended, hW, hframe⟩ := X.leave (v := some (.int 1)) (hlocks := hlocks) (fun h => by rw [hr] at h; cases h)
  have hmeth' : T.vm.method? m = some meth := X.method'
  refine ⟨T.setFrames fs, ?_, .returned (some (.int 1)), hrun, hended, rfl, ⟨_, rfl⟩, hW, hframe⟩
  jvm_step X.here [X.here.top, hx, hb, hdg, hmeth', hr, ret, narrow_b1]
  (try refine ⟨rfl, ?_⟩); (try refine ⟨rfl, ?_⟩)
  first | (intro acts; rw [hret _ acts rfl rfl rfl]) | rw [hret _ _ rfl rfl rfl]
  exact Steps.refl _
/-- what holds at the law's entry: the machine, the code, the tables' words (any of lw_tbl by 'hts w (by decide +kernel)'), the script of L ints xs at the cell b, what the Statement gives of the start (any of its parts by flat_of_before) -/
def lw_At (p : Program) (s : State) (m : MethodId) (meth : Method) (c : Code) (b L : Nat) (xs : Nat → Int32) : Prop :=
  p.tables.exec = Jvm.exec ∧ c.code = code ∧ meth.sig.returnType = ret ∧ c.maxLocals = 8 ∧ s.vm.findClass R_law = some m.cls ∧ (∀ w ∈ lw_tbl, w.before #[Value.ref b] s = true) ∧ va_X b L xs s s.heap ∧ b < s.heap.size ∧ meth.locks = false ∧ (Jvm.Cond.and given_1 narrow_1).before #[Value.ref b] s = true
/-- the law's end -/
theorem la_ret {p : Program} {l : Launch} {e : Env} {s : State} {m : MethodId} {below : List Frame} {meth : Method} {c : Code} {b : Nat} {u : xu_T} (hx : p.tables.exec = Jvm.exec) (hb : c.code = code) (hr : meth.sig.returnType = ret) (hlocks : meth.locks = false) (hB : u.2.2.2 = s.heap.size) {nc ns : Nat} {L : List (Option Value)} {h : xw_H} (h1 : nc ≤ 601024) (h2 : ns ≤ 7293034) :
    xg (p, l, e, room_1, s, m, #[Value.ref b], below, meth, c, lw_Z below #[Value.ref b] s, code, "SoundStreamLaw", 8) (y0 u) nc ns 1206 L [.int 1] h := by
  intro H locs ls hP hS hL T hT X
  have X1 : Stand p l e room_1 s m #[Value.ref b] below meth c T [] nc ns := Stand.forget (locs := []) X (fun q hq => by
    have h9 : u.2.2.2 ≤ q.base := hS.2.2 q hq
    rw [hB] at h9
    exact h9)
  exact lw_ret hx hb hr hlocks d_La_law_1206 T hT (X1.more h1 h2)
theorem whole_start {p : Program} {e : Env} {s : State} {m : MethodId} {below : List Frame} {meth : Method} {c : Code} (l : Launch) (hl : l.stackTraces = false) {b L : Nat} {xs : Nat → Int32} (hL : L ≤ 2560) (C0 : lw_At p s m meth c b L xs) : W p l e room_1 s m #[Value.ref b] below meth c s.heap [] 0 0 (lw_Z below #[Value.ref b] s) (entryFrame m ([Value.ref b] : List Value).toArray 8) := by
  obtain ⟨hx, hb, hr, hml, hown, hts, hX, hbl, hlocks, hgv⟩ := C0
  obtain ⟨u, hKK, hu, hB, h5⟩ := st_all hts hgv
  have A0 : xg_A (p, l, e, room_1, s, m, #[Value.ref b], below, meth, c, lw_Z below #[Value.ref b] s, code, "SoundStreamLaw", 8) (y0 u) (KK0 u) "SoundStreamLaw" code 8 := ⟨⟨hx, hb, hml, hown⟩, rfl, rfl, rfl, fun w hw => hts w (xw_sub hw), hKK.1, KK0_mv u, hKK, Nat.le_of_eq hB⟩
  have hret : ∀ nc ns L h, nc ≤ 690 → ns ≤ 47563 + 3198 → xg (p, l, e, room_1, s, m, #[Value.ref b], below, meth, c, lw_Z below #[Value.ref b] s, code, "SoundStreamLaw", 8) (y0 u) nc ns 1206 L [.int 1] h := fun nc ns L h h1 h2 => la_ret hx hb hr hlocks hB (by omega) (by omega)
  have hT : va_T .int (u.2.2.1 1005) L (fun q => .int (xs q)) (xw_A (y0 u)) s s.heap := by
    obtain ⟨scr, h1, h2, h3, h4, h6⟩ := hX
    refine ⟨scr, by rw [h5]; exact h1, h2, h3, Nat.le_of_eq h4.symm, by rw [h4], h6, fun q => ?_⟩
    have q' : u.2.2.2 ≤ u.2.2.1 1005 := q
    rw [h5, hB] at q'
    omega
  have hRm : xm_R (p, l, e, room_1, s, m, #[Value.ref b], below, meth, c, lw_Z below #[Value.ref b] s, code, "SoundStreamLaw", 8) = room_1 := rfl
  have hsz : (xg_s (p, l, e, room_1, s, m, #[Value.ref b], below, meth, c, lw_Z below #[Value.ref b] s, code, "SoundStreamLaw", 8)).heap.size = u.2.2.2 + 0 := hB.symm
  have B : LB (p, l, e, room_1, s, m, #[Value.ref b], below, meth, c, lw_Z below #[Value.ref b] s, code, "SoundStreamLaw", 8) u xs L := ⟨A0, hT, hl, hL, (show 25 ≤ room_1.frames by decide), (show 2000 ≤ room_1.locals by decide)⟩
  have hloop := la_loop (S0 := 47563) B (by rw [hRm]; decide) (by rw [hRm]; decide) hret
  have hA := yz_A A0
  have hao : xz_ao (xg_s (p, l, e, room_1, s, m, #[Value.ref b], below, meth, c, lw_Z below #[Value.ref b] s, code, "SoundStreamLaw", 8)) := xz_ao.later (s := s) (State.WarmedH.refl s) (fun a => ⟨oa_later (Vm.Alike.refl s.vm) (hts _ (yw_in1 46 rfl)), oa_later (Vm.Alike.refl s.vm) (hts _ (yw_in1 158 rfl))⟩)
  have start : xg (p, l, e, room_1, s, m, #[Value.ref b], below, meth, c, lw_Z below #[Value.ref b] s, code, "SoundStreamLaw", 8) (yz u 0 rn) 0 0 0 [some (.ref 1005), none, none, none, none, none, none, none] [] hn := by
    generalize (p, l, e, room_1, s, m, #[Value.ref b], below, meth, c, lw_Z below #[Value.ref b] s, code, "SoundStreamLaw", 8) = x at hA hRm hsz hloop hao ⊢
    refine rz_new (ty := t_SS) (hA _ _ (by decide)) hu (by omega) (Nat.le_of_ble_eq_true rfl) rfl rfl rfl wf_SS ty_SS (by decide) (xw_in1 31 rfl rfl) (xw_in1 32 rfl rfl) (xw_in1 1 rfl rfl) zt_hn zr_rn (by rw [hRm]; decide) d_La_law_0 ?_
    refine ra_dup (hA _ _ (by decide)) d_La_law_3 rfl ?_
    refine rz_callI (k := 0) (As := []) (hA _ _ (by decide)) hao hu (by omega) (Nat.le_of_ble_eq_true rfl) (M := mi_SS) ok_SS_init rfl rfl l_La_65 im_SS_init d_La_law_4 rfl (by decide) (by unfold xm_room; rw [hRm]; decide) (z_SS_0 hu (zt_hn.mono (Nat.le_of_ble_eq_true rfl)) (zr_rn.mono (Nat.le_of_ble_eq_true rfl)) ⟨rfl, ?_⟩)
    show xg x (yz u 141 r8) _ _ 7 _ _ h8
    refine ra_astore_n (L' := [_, _, _, _, _, _, _, _]) (hA _ _ (by decide)) d_La_law_7 (by decide) rfl ?_
    refine rz_new (ty := t_Mo) (hA _ _ (by decide)) hu (by omega) (Nat.le_of_ble_eq_true rfl) rfl rfl rfl wf_Mo ty_Mo (by decide) (xw_in6 82 rfl rfl) (xw_in6 83 rfl rfl) (xw_in1 12 rfl rfl) zt_h8 zr_r8 (by rw [hRm]; decide) d_La_law_8 ?_
    refine ra_dup (hA _ _ (by decide)) d_La_law_11 rfl ?_
    refine rz_callI (k := 141) (As := []) (hA _ _ (by decide)) hao hu (by omega) (Nat.le_of_ble_eq_true rfl) (M := mi_Mo) ok_Mo_init rfl rfl l_La_68 im_Mo_init d_La_law_12 rfl (by decide) (by unfold xm_room; rw [hRm]; decide) (z_Mo_141 hu (zt_h8.mono (Nat.le_of_ble_eq_true rfl)) (zr_r8.mono (Nat.le_of_ble_eq_true rfl)) ⟨rfl, ?_⟩)
    show xg x (yz u 156 r9) _ _ 15 _ _ h9
    refine ra_astore_n (L' := [_, _, _, _, _, _, _, _]) (hA _ _ (by decide)) d_La_law_15 (by decide) rfl <| ra_iconst (hA _ _ (by decide)) 1 d_La_law_16 (by decide) ?_
    refine rz_newa (ty := .long) (hA _ _ (by decide)) hu (by omega) rfl rfl (fun _ _ q => q) (Nat.le_of_ble_eq_true rfl) rfl vj_J (xw_in1 185 rfl rfl) (by decide) (by decide) (by decide) zt_h9 zr_r9 (by rw [hRm]; decide) d_La_law_17 ?_
    refine ra_astore_n (L' := [_, _, _, _, _, _, _, _]) (hA _ _ (by decide)) d_La_law_19 (by decide) rfl <| ra_iconst (hA _ _ (by decide)) 0 d_La_law_20 (by decide) <| ra_istore (L' := [_, _, _, _, _, _, _, _]) (hA _ _ (by decide)) d_La_law_21 (by decide) rfl ?_
    refine xg_whole ?_
    exact hloop L 0 _ _ none none none h9 (by omega) (by decide) (by decide) (by decide) IV_h9
  rw [lg_entry_eq]
  have ent := xg_in_L u.2.2.1 (vs := [.ref 1005]) (n := 8) (pad := [none, none, none, none, none, none, none]) (by simp) (Nat.le_of_ble_eq_true rfl)
  have k := start s.heap [] _ (fun k q hq => by cases hq) va_S.rf ent
  rw [show ([Value.ref 1005] : List Value).map (xw_v u.2.2.1) = [Value.ref b] by show [Value.ref (u.2.2.1 1005)] = _; rw [h5]] at k
  exact k
set_option maxHeartbeats 4000000 in
theorem lw_walk (l : Launch) (hl : l.stackTraces = false) (b : Addr) (xs : List Int32) : MetFree l x (headSpec (Jvm.Cond.code x code maxLocals ret :: tables_1) room_1) (lw_P b xs) (fun _ _ _ _ _ => True) lw_Q := by
  refine MetFree.of_bodyS (code := code) (maxLocals := maxLocals) (ret := ret) (by decide) ?_ ?_
  · intro args s m h hn
    obtain ⟨meth, c, h1, h2, h3, h4, h5, h6, -, -⟩ := Cond.code_spec hn (atoms_spec (ws := Jvm.Cond.code x code maxLocals ret :: tables_1) h _ List.mem_cons_self)
    exact ⟨meth, c, h1, h2, h3, h4, h5, h6⟩
  · intro p e s m args below meth c s₁ B hml0 hP _
    obtain ⟨rfl, hx, hbd, hgv⟩ := hP
    obtain ⟨scr, harrAt, hlist, hof, hsmall⟩ := hx
    obtain ⟨hcb, hkn, -, -⟩ := State.arrayAt?_spec harrAt
    have hown : s.vm.findClass R_law = some m.cls := findClass_of_methodNamed B.named
    have hts0 : ∀ c ∈ (Jvm.Cond.code x code maxLocals ret :: tables_1), c.before #[Value.ref b] s = true := atoms_spec (ws := Jvm.Cond.code x code maxLocals ret :: tables_1) B.pre
    have hts : ∀ w ∈ lw_tbl, w.before #[Value.ref b] s = true := k2_hts_sels lw_privs (fun w hw => hts0 w (List.mem_cons_of_mem _ hw)) lw_privs_ok
    have hml : c.maxLocals = 8 := B.maxLocals_eq (hts0 _ List.mem_cons_self)
    have X₀ : Stand p l e room_1 s m #[Value.ref b] below meth c s₁ [] 0 0 := Stand.of_body B
    have hh0 : s₁.heap = s.heap := by rw [B.state]; rfl
    have hsz : scr.slots.size = xs.length := by rw [← Array.length_toList, hlist, List.length_map]
    have hval : ∀ j : Nat, j < xs.length → scr.slots[j]? = some (.int (xs.getD j 0)) := fun j hj => by
      rw [← Array.getElem?_toList, hlist]
      simp [hj]
    have hbl : b < s.heap.size := (Array.getElem?_eq_some_iff.mp hcb).1
    have hX : va_X b xs.length (fun j => xs.getD j 0) s s.heap := ⟨scr, hcb, hof, hkn, hsz, hval⟩
    have K : W p l e room_1 s m #[Value.ref b] below meth c s₁.heap [] 0 0 (lw_Z below #[Value.ref b] s) (entryFrame m ([Value.ref b] : List Value).toArray 8) := by
      rw [hh0]
      exact whole_start l hl hbd ⟨B.exec, B.bytes, B.returns, hml, hown, hts, hX, hbl, B.notSynchronized, hgv⟩
    obtain ⟨t, a1, o, b1, b2, b3⟩ := K s₁ rfl X₀
    exact ⟨t, o, a1, b1, b2, b3⟩
theorem lw_pre_spec {args : Array Value} {s : State} (h : (Jvm.Cond.and given_1 narrow_1).before args s = true) (hr : rest_1_c.before args s = true) : ∃ (b : Addr) (xs : List Int32), lw_P b xs args s := by
  have hs := flat_of_before _ h
  have hq := flat_of_before _ hr
  have hc : (Cond.count 1).before args s = true := hs _ (by decide +kernel)
  have harr : (Cond.arrayOf (.arg 0) .int).before args s = true := hs _ (by decide +kernel)
  have hle : (Cond.le (.length (.arg 0)) (.int 2560)).before args s = true := hs _ (by decide +kernel)
  have hlen : (Cond.isInt (.length (.arg 0))).before args s = true := hq _ (by decide +kernel)
  have hall : (Cond.all (.arg 0) (.isInt (.elem (.arg 0) (.index 0)))).before args s = true := hq _ (by decide +kernel)
  obtain ⟨b, xs, hb, hx⟩ := State.ints_of_pre rfl harr hlen hall
  have hsm : xs.length < 2 ^ 31 := hx.choose_spec.2.2.2
  have hev : (Term.length (.arg 0)).eval args s none [] s = some (.int xs.length.toInt32) := hx.length_eval hb
  have hv := Cond.le_ints hev (show (Term.int 2560).eval args s none [] s = some (.int 2560) from rfl)
  have hd : xs.length.toInt32 ≤ 2560 := by
    simpa [Cond.before, Cond.holds, hv] using hle
  have hN : xs.length ≤ 2560 := (Int32.ofNat_le_ofNat hsm (by decide)).mp (show Int32.ofNat xs.length ≤ Int32.ofNat 2560 from hd)
  exact ⟨b, xs, Cond.one_arg hc (show args[0]? = some (.ref b) from hb), hx, hN, h⟩
theorem lw_comes (l : Launch) (hl : l.stackTraces = false) : Comes l x (Jvm.Cond.code x code maxLocals ret :: tables_1) room_1 (fun tb e args s => Calls_1 tb e args s ∧ rest_1 tb e args s ∧ Pre_1 tb e args s)
    (fun _ _ args s o t => lw_Q args s o t) := by
  intro p e ha hc hk s m args below hf hfit hheap happ hpre
  obtain ⟨b, xs, hP⟩ := lw_pre_spec hpre.2.2 hpre.2.1
  obtain ⟨k, o, h1, h2, h3, hQ⟩ := lw_walk l hl b xs p e ha hc hk s m args below hf ((Spec.applies_iff_loose hf).mp happ).1 hP trivial
  exact ⟨k, o, h1, h2, h3, hQ⟩
theorem lw_frame {s t : State} {o : Outcome} {args : Array Value} (h : Framed s o t [] 601024 7293034) :
    Framed s o t (fieldLocs frame_1_writes args s ++ arrayLocs frame_1_arrays args s ++ staticLocs frame_1_statics s) 601024 7293034 := h
theorem lw_limb (L : Cond) (hL : ∀ (args : Array Value) (s t : State), L.after args s (.returned (some (.int 1))) t = true) :
    ArmFor flags0 classFile x code maxLocals ret World_1 tables_1 room_1 Calls_1 rest_1 Pre_1
      (fun tb e a s o t => postC L tb e a s o t ∧ Framed s o t (fieldLocs frame_1_writes a s ++ arrayLocs frame_1_arrays a s ++ staticLocs frame_1_statics s) 601024 7293034) := by
  intro l hfl _ _ p e ha hc hk s m args below hf hfit hheap happ hpre
  have hl : l.stackTraces = false := by
    unfold Launch.stackTraces
    rw [hfl]
    decide +kernel
  obtain ⟨k, o, h1, h2, h3, rfl, hF⟩ := lw_comes l hl p e ha hc hk s m args below hf hfit hheap happ hpre
  exact ⟨k, _, h1, h2, h3, hL args s _, lw_frame hF⟩
theorem i_vc : Claimed_1_1 ∧ Claimed_1_2 := ⟨lw_limb limb_1_1 (fun args s t => by simp [limb_1_1, Cond.after, Cond.holds, Cond.value]), lw_limb limb_1_2 (fun args s t => Cond.after_iff.mpr (by
  first | (rw [show limb_1_2 = Cond.eq .result (.int 1) from rfl, Cond.eq_ints (x := 1) (y := 1) rfl rfl]; simp; done) | (simp [limb_1_2, Cond.value, Term.eval]; done)))⟩
