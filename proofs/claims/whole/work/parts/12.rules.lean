/-! a method's walk: the machine, the method, what it owes (Q), its bytes, its class, its number of locals -/
abbrev xg_T : Type := Program × Launch × Env × Room × State × MethodId × Array Value × List Frame × Method × Code × (State → Prop) × ByteArray × String × Nat
def xg_cc (x : xg_T) : ByteArray := x.2.2.2.2.2.2.2.2.2.2.2.1
def xg_own (x : xg_T) : String := x.2.2.2.2.2.2.2.2.2.2.2.2.1
def xg_nL (x : xg_T) : Nat := x.2.2.2.2.2.2.2.2.2.2.2.2.2
def xg_s (x : xg_T) : State := x.2.2.2.2.1
def xg_ar (x : xg_T) : Array Value := x.2.2.2.2.2.2.1
def xg_ok (x : xg_T) : Prop := match x with
  | (p, _, _, _, s, m, _, _, _, c, _, cc, own, nL) => p.tables.exec = Jvm.exec ∧ c.code = cc ∧ c.maxLocals = nL ∧ s.vm.findClass own = some m.cls
/-- from here the machine comes to its end: the pc, the locals, the stack, the tables; nc cells of ns slots are new since the method began -/
def xg (x : xg_T) (y : xw_T) (nc ns pc : Nat) (L : List (Option Value)) (S : List Value) (h : xw_H) : Prop := match x with
  | (p, l, e, R, s, m, args, below, meth, c, Q, _, _, nL) => ∀ (H : Heap) (locs : List Loc) (ls : Array Slot), xw_P y h H → va_S (xw_A y) s.heap H locs → xg_L (xw_ph y) nL L ls →
    W p l e R s m args below meth c H locs nc ns Q (F0 m pc ls (S.map (xw_v (xw_ph y))))
section XG
variable {x : xg_T} {y : xw_T} {nc ns pc : Nat} {L : List (Option Value)} {S : List Value} {h : xw_H}
theorem xg_iconst {a : Int} (v : Int32) (X : xg_ok x) (d : decode (xg_cc x) pc = .ok (.iconst a, 1)) (hv : Int32.ofInt a = v)
    (k : xg x y nc ns (pc + 1) L (.int v :: S) h) : xg x y nc ns pc L S h := by
  obtain ⟨p, l, e, R, s, m, args, below, meth, c, Q, cc, own, nL⟩ := x
  obtain ⟨hx, hb, hml, hown⟩ := X
  intro H locs ls hP hS hL
  exact lv_iconst hx hb d hv (k H locs ls hP hS hL)
theorem xg_bipush {a : Int} (v : Int32) (X : xg_ok x) (d : decode (xg_cc x) pc = .ok (.bipush a, 2)) (hv : (Int8.ofInt a).toInt32 = v)
    (k : xg x y nc ns (pc + 2) L (.int v :: S) h) : xg x y nc ns pc L S h := by
  obtain ⟨p, l, e, R, s, m, args, below, meth, c, Q, cc, own, nL⟩ := x
  obtain ⟨hx, hb, hml, hown⟩ := X
  intro H locs ls hP hS hL
  exact lv_bipush hx hb d hv (k H locs ls hP hS hL)
theorem xg_sipush {a : Int} (v : Int32) (X : xg_ok x) (d : decode (xg_cc x) pc = .ok (.sipush a, 3)) (hv : (Int16.ofInt a).toInt32 = v)
    (k : xg x y nc ns (pc + 3) L (.int v :: S) h) : xg x y nc ns pc L S h := by
  obtain ⟨p, l, e, R, s, m, args, below, meth, c, Q, cc, own, nL⟩ := x
  obtain ⟨hx, hb, hml, hown⟩ := X
  intro H locs ls hP hS hL
  exact lv_sipush hx hb d hv (k H locs ls hP hS hL)
theorem xg_lconst {a : Fin 2} (v : Int64) (X : xg_ok x) (d : decode (xg_cc x) pc = .ok (.lconst a, 1)) (hv : Int64.ofNat (a : Nat) = v)
    (k : xg x y nc ns (pc + 1) L (.long v :: S) h) : xg x y nc ns pc L S h := by
  obtain ⟨p, l, e, R, s, m, args, below, meth, c, Q, cc, own, nL⟩ := x
  obtain ⟨hx, hb, hml, hown⟩ := X
  intro H locs ls hP hS hL
  exact lv_lconst hx hb d hv (k H locs ls hP hS hL)
theorem xg_iload {i : Nat} {a : Int32} (X : xg_ok x) (d : decode (xg_cc x) pc = .ok (.iload i, 2)) (hl : L[i]? = some (some (.int a)))
    (k : xg x y nc ns (pc + 2) L (.int a :: S) h) : xg x y nc ns pc L S h := by
  obtain ⟨p, l, e, R, s, m, args, below, meth, c, Q, cc, own, nL⟩ := x
  obtain ⟨hx, hb, hml, hown⟩ := X
  intro H locs ls hP hS hL
  exact lv_iload hx hb d (hL.2.2 _ _ hl) (k H locs ls hP hS hL)
theorem xg_iload_n {i : Fin 4} {a : Int32} (X : xg_ok x) (d : decode (xg_cc x) pc = .ok (.iload_n i, 1)) (hl : L[(i : Nat)]? = some (some (.int a)))
    (k : xg x y nc ns (pc + 1) L (.int a :: S) h) : xg x y nc ns pc L S h := by
  obtain ⟨p, l, e, R, s, m, args, below, meth, c, Q, cc, own, nL⟩ := x
  obtain ⟨hx, hb, hml, hown⟩ := X
  intro H locs ls hP hS hL
  exact lv_iload_n hx hb d rfl (hL.2.2 _ _ hl) (k H locs ls hP hS hL)
theorem xg_lload {i : Nat} {a : Int64} (X : xg_ok x) (d : decode (xg_cc x) pc = .ok (.lload i, 2)) (hl : L[i]? = some (some (.long a)))
    (k : xg x y nc ns (pc + 2) L (.long a :: S) h) : xg x y nc ns pc L S h := by
  obtain ⟨p, l, e, R, s, m, args, below, meth, c, Q, cc, own, nL⟩ := x
  obtain ⟨hx, hb, hml, hown⟩ := X
  intro H locs ls hP hS hL
  exact lv_lload hx hb d (hL.2.2 _ _ hl) (k H locs ls hP hS hL)
theorem xg_lload_n {i : Fin 4} {a : Int64} (X : xg_ok x) (d : decode (xg_cc x) pc = .ok (.lload_n i, 1)) (hl : L[(i : Nat)]? = some (some (.long a)))
    (k : xg x y nc ns (pc + 1) L (.long a :: S) h) : xg x y nc ns pc L S h := by
  obtain ⟨p, l, e, R, s, m, args, below, meth, c, Q, cc, own, nL⟩ := x
  obtain ⟨hx, hb, hml, hown⟩ := X
  intro H locs ls hP hS hL
  exact lv_lload_n hx hb d rfl (hL.2.2 _ _ hl) (k H locs ls hP hS hL)
theorem xg_aload {i : Nat} {a : Nat} (X : xg_ok x) (d : decode (xg_cc x) pc = .ok (.aload i, 2)) (hl : L[i]? = some (some (.ref a)))
    (k : xg x y nc ns (pc + 2) L (.ref a :: S) h) : xg x y nc ns pc L S h := by
  obtain ⟨p, l, e, R, s, m, args, below, meth, c, Q, cc, own, nL⟩ := x
  obtain ⟨hx, hb, hml, hown⟩ := X
  intro H locs ls hP hS hL
  exact lv_aload hx hb d (hL.2.2 _ _ hl) (k H locs ls hP hS hL)
theorem xg_aload_n {i : Fin 4} {a : Nat} (X : xg_ok x) (d : decode (xg_cc x) pc = .ok (.aload_n i, 1)) (hl : L[(i : Nat)]? = some (some (.ref a)))
    (k : xg x y nc ns (pc + 1) L (.ref a :: S) h) : xg x y nc ns pc L S h := by
  obtain ⟨p, l, e, R, s, m, args, below, meth, c, Q, cc, own, nL⟩ := x
  obtain ⟨hx, hb, hml, hown⟩ := X
  intro H locs ls hP hS hL
  exact lv_aload_n hx hb d rfl (hL.2.2 _ _ hl) (k H locs ls hP hS hL)
theorem xg_istore {i : Nat} {a : Int32} {L' : List (Option Value)} (X : xg_ok x) (d : decode (xg_cc x) pc = .ok (.istore i, 2)) (hn : i < xg_nL x) (hl : xg_s1 L i (.int a) = L')
    (k : xg x y nc ns (pc + 2) L' S h) : xg x y nc ns pc L (.int a :: S) h := by
  obtain ⟨p, l, e, R, s, m, args, below, meth, c, Q, cc, own, nL⟩ := x
  obtain ⟨hx, hb, hml, hown⟩ := X
  intro H locs ls hP hS hL
  exact lv_istore hx hb d hL.has hn rfl (fun ls' h' => k H locs ls' hP hS (hl ▸ xg_conv1 rfl h'))
theorem xg_istore_n {i : Fin 4} {a : Int32} {L' : List (Option Value)} (X : xg_ok x) (d : decode (xg_cc x) pc = .ok (.istore_n i, 1)) (hn : (i : Nat) < xg_nL x) (hl : xg_s1 L i (.int a) = L')
    (k : xg x y nc ns (pc + 1) L' S h) : xg x y nc ns pc L (.int a :: S) h := by
  obtain ⟨p, l, e, R, s, m, args, below, meth, c, Q, cc, own, nL⟩ := x
  obtain ⟨hx, hb, hml, hown⟩ := X
  intro H locs ls hP hS hL
  exact lv_istore_n hx hb d rfl hL.has hn rfl (fun ls' h' => k H locs ls' hP hS (hl ▸ xg_conv1 rfl h'))
theorem xg_lstore {i : Nat} {a : Int64} {L' : List (Option Value)} (X : xg_ok x) (d : decode (xg_cc x) pc = .ok (.lstore i, 2)) (hn : i + 1 < xg_nL x) (hl : xg_s2 L i (.long a) = L')
    (k : xg x y nc ns (pc + 2) L' S h) : xg x y nc ns pc L (.long a :: S) h := by
  obtain ⟨p, l, e, R, s, m, args, below, meth, c, Q, cc, own, nL⟩ := x
  obtain ⟨hx, hb, hml, hown⟩ := X
  intro H locs ls hP hS hL
  exact lv_lstore hx hb d hL.has hn rfl (fun ls' h' => k H locs ls' hP hS (hl ▸ xg_conv2 rfl h'))
theorem xg_lstore_n {i : Fin 4} {a : Int64} {L' : List (Option Value)} (X : xg_ok x) (d : decode (xg_cc x) pc = .ok (.lstore_n i, 1)) (hn : (i : Nat) + 1 < xg_nL x) (hl : xg_s2 L i (.long a) = L')
    (k : xg x y nc ns (pc + 1) L' S h) : xg x y nc ns pc L (.long a :: S) h := by
  obtain ⟨p, l, e, R, s, m, args, below, meth, c, Q, cc, own, nL⟩ := x
  obtain ⟨hx, hb, hml, hown⟩ := X
  intro H locs ls hP hS hL
  exact lv_lstore_n hx hb d rfl hL.has hn rfl (fun ls' h' => k H locs ls' hP hS (hl ▸ xg_conv2 rfl h'))
theorem xg_astore {i : Nat} {a : Nat} {L' : List (Option Value)} (X : xg_ok x) (d : decode (xg_cc x) pc = .ok (.astore i, 2)) (hn : i < xg_nL x) (hl : xg_s1 L i (.ref a) = L')
    (k : xg x y nc ns (pc + 2) L' S h) : xg x y nc ns pc L (.ref a :: S) h := by
  obtain ⟨p, l, e, R, s, m, args, below, meth, c, Q, cc, own, nL⟩ := x
  obtain ⟨hx, hb, hml, hown⟩ := X
  intro H locs ls hP hS hL
  exact lv_astore hx hb d hL.has hn rfl (fun ls' h' => k H locs ls' hP hS (hl ▸ xg_conv1 rfl h'))
theorem xg_astore_n {i : Fin 4} {a : Nat} {L' : List (Option Value)} (X : xg_ok x) (d : decode (xg_cc x) pc = .ok (.astore_n i, 1)) (hn : (i : Nat) < xg_nL x) (hl : xg_s1 L i (.ref a) = L')
    (k : xg x y nc ns (pc + 1) L' S h) : xg x y nc ns pc L (.ref a :: S) h := by
  obtain ⟨p, l, e, R, s, m, args, below, meth, c, Q, cc, own, nL⟩ := x
  obtain ⟨hx, hb, hml, hown⟩ := X
  intro H locs ls hP hS hL
  exact lv_astore_n hx hb d rfl hL.has hn rfl (fun ls' h' => k H locs ls' hP hS (hl ▸ xg_conv1 rfl h'))
theorem xg_iinc {i : Nat} {a : Int32} {b : Int} {L' : List (Option Value)} (v : Int32) (X : xg_ok x) (d : decode (xg_cc x) pc = .ok (.iinc i b, 3)) (hl : L[i]? = some (some (.int a))) (hv : Int32.ofInt b = v) (hn : i < xg_nL x) (hs : xg_s1 L i (.int (a + v)) = L')
    (k : xg x y nc ns (pc + 3) L' S h) : xg x y nc ns pc L S h := by
  obtain ⟨p, l, e, R, s, m, args, below, meth, c, Q, cc, own, nL⟩ := x
  obtain ⟨hx, hb, hml, hown⟩ := X
  intro H locs ls hP hS hL
  subst hv
  obtain ⟨k0, hk0⟩ := List.getElem?_of_mem (xg_as_in (φ := xw_ph y) hl)
  exact lv_iinc (v := a + Int32.ofInt b) hx hb d hL.has hk0 rfl hn rfl (fun ls' h' => k H locs ls' hP hS (hs ▸ xg_conv1 (v := .int (a + Int32.ofInt b)) rfl h'))
theorem xg_iadd {a b : Int32} (X : xg_ok x) (d : decode (xg_cc x) pc = .ok (.iadd, 1))
    (k : xg x y nc ns (pc + 1) L (.int (a + b) :: S) h) : xg x y nc ns pc L (.int b :: .int a :: S) h := by
  obtain ⟨p, l, e, R, s, m, args, below, meth, c, Q, cc, own, nL⟩ := x
  obtain ⟨hx, hb, hml, hown⟩ := X
  intro H locs ls hP hS hL
  exact lv_iadd hx hb d (k H locs ls hP hS hL)
theorem xg_isub {a b : Int32} (X : xg_ok x) (d : decode (xg_cc x) pc = .ok (.isub, 1))
    (k : xg x y nc ns (pc + 1) L (.int (a - b) :: S) h) : xg x y nc ns pc L (.int b :: .int a :: S) h := by
  obtain ⟨p, l, e, R, s, m, args, below, meth, c, Q, cc, own, nL⟩ := x
  obtain ⟨hx, hb, hml, hown⟩ := X
  intro H locs ls hP hS hL
  exact lv_isub hx hb d (k H locs ls hP hS hL)
theorem xg_imul {a b : Int32} (X : xg_ok x) (d : decode (xg_cc x) pc = .ok (.imul, 1))
    (k : xg x y nc ns (pc + 1) L (.int (a * b) :: S) h) : xg x y nc ns pc L (.int b :: .int a :: S) h := by
  obtain ⟨p, l, e, R, s, m, args, below, meth, c, Q, cc, own, nL⟩ := x
  obtain ⟨hx, hb, hml, hown⟩ := X
  intro H locs ls hP hS hL
  exact lv_imul hx hb d (k H locs ls hP hS hL)
theorem xg_iand {a b : Int32} (X : xg_ok x) (d : decode (xg_cc x) pc = .ok (.iand, 1))
    (k : xg x y nc ns (pc + 1) L (.int (a &&& b) :: S) h) : xg x y nc ns pc L (.int b :: .int a :: S) h := by
  obtain ⟨p, l, e, R, s, m, args, below, meth, c, Q, cc, own, nL⟩ := x
  obtain ⟨hx, hb, hml, hown⟩ := X
  intro H locs ls hP hS hL
  exact lv_iand hx hb d (k H locs ls hP hS hL)
theorem xg_ior {a b : Int32} (X : xg_ok x) (d : decode (xg_cc x) pc = .ok (.ior, 1))
    (k : xg x y nc ns (pc + 1) L (.int (a ||| b) :: S) h) : xg x y nc ns pc L (.int b :: .int a :: S) h := by
  obtain ⟨p, l, e, R, s, m, args, below, meth, c, Q, cc, own, nL⟩ := x
  obtain ⟨hx, hb, hml, hown⟩ := X
  intro H locs ls hP hS hL
  exact lv_ior hx hb d (k H locs ls hP hS hL)
theorem xg_ixor {a b : Int32} (X : xg_ok x) (d : decode (xg_cc x) pc = .ok (.ixor, 1))
    (k : xg x y nc ns (pc + 1) L (.int (a ^^^ b) :: S) h) : xg x y nc ns pc L (.int b :: .int a :: S) h := by
  obtain ⟨p, l, e, R, s, m, args, below, meth, c, Q, cc, own, nL⟩ := x
  obtain ⟨hx, hb, hml, hown⟩ := X
  intro H locs ls hP hS hL
  exact lv_ixor hx hb d (k H locs ls hP hS hL)
theorem xg_ishl {a b : Int32} (X : xg_ok x) (d : decode (xg_cc x) pc = .ok (.ishl, 1))
    (k : xg x y nc ns (pc + 1) L (.int (a <<< (b &&& 31)) :: S) h) : xg x y nc ns pc L (.int b :: .int a :: S) h := by
  obtain ⟨p, l, e, R, s, m, args, below, meth, c, Q, cc, own, nL⟩ := x
  obtain ⟨hx, hb, hml, hown⟩ := X
  intro H locs ls hP hS hL
  exact lv_ishl hx hb d (k H locs ls hP hS hL)
theorem xg_ishr {a b : Int32} (X : xg_ok x) (d : decode (xg_cc x) pc = .ok (.ishr, 1))
    (k : xg x y nc ns (pc + 1) L (.int (a >>> (b &&& 31)) :: S) h) : xg x y nc ns pc L (.int b :: .int a :: S) h := by
  obtain ⟨p, l, e, R, s, m, args, below, meth, c, Q, cc, own, nL⟩ := x
  obtain ⟨hx, hb, hml, hown⟩ := X
  intro H locs ls hP hS hL
  exact lv_ishr hx hb d (k H locs ls hP hS hL)
theorem xg_iushr {a b : Int32} (X : xg_ok x) (d : decode (xg_cc x) pc = .ok (.iushr, 1))
    (k : xg x y nc ns (pc + 1) L (.int (a.toUInt32 >>> (b.toUInt32 &&& Int32.toUInt32 31)).toInt32 :: S) h) : xg x y nc ns pc L (.int b :: .int a :: S) h := by
  obtain ⟨p, l, e, R, s, m, args, below, meth, c, Q, cc, own, nL⟩ := x
  obtain ⟨hx, hb, hml, hown⟩ := X
  intro H locs ls hP hS hL
  exact lv_iushr hx hb d rfl (k H locs ls hP hS hL)
theorem xg_ladd {a b : Int64} (X : xg_ok x) (d : decode (xg_cc x) pc = .ok (.ladd, 1))
    (k : xg x y nc ns (pc + 1) L (.long (a + b) :: S) h) : xg x y nc ns pc L (.long b :: .long a :: S) h := by
  obtain ⟨p, l, e, R, s, m, args, below, meth, c, Q, cc, own, nL⟩ := x
  obtain ⟨hx, hb, hml, hown⟩ := X
  intro H locs ls hP hS hL
  exact lv_ladd hx hb d (k H locs ls hP hS hL)
theorem xg_lsub {a b : Int64} (X : xg_ok x) (d : decode (xg_cc x) pc = .ok (.lsub, 1))
    (k : xg x y nc ns (pc + 1) L (.long (a - b) :: S) h) : xg x y nc ns pc L (.long b :: .long a :: S) h := by
  obtain ⟨p, l, e, R, s, m, args, below, meth, c, Q, cc, own, nL⟩ := x
  obtain ⟨hx, hb, hml, hown⟩ := X
  intro H locs ls hP hS hL
  exact lv_lsub hx hb d (k H locs ls hP hS hL)
theorem xg_lmul {a b : Int64} (X : xg_ok x) (d : decode (xg_cc x) pc = .ok (.lmul, 1))
    (k : xg x y nc ns (pc + 1) L (.long (a * b) :: S) h) : xg x y nc ns pc L (.long b :: .long a :: S) h := by
  obtain ⟨p, l, e, R, s, m, args, below, meth, c, Q, cc, own, nL⟩ := x
  obtain ⟨hx, hb, hml, hown⟩ := X
  intro H locs ls hP hS hL
  exact lv_lmul hx hb d (k H locs ls hP hS hL)
theorem xg_land {a b : Int64} (X : xg_ok x) (d : decode (xg_cc x) pc = .ok (.land, 1))
    (k : xg x y nc ns (pc + 1) L (.long (a &&& b) :: S) h) : xg x y nc ns pc L (.long b :: .long a :: S) h := by
  obtain ⟨p, l, e, R, s, m, args, below, meth, c, Q, cc, own, nL⟩ := x
  obtain ⟨hx, hb, hml, hown⟩ := X
  intro H locs ls hP hS hL
  exact lv_land hx hb d (k H locs ls hP hS hL)
theorem xg_lor {a b : Int64} (X : xg_ok x) (d : decode (xg_cc x) pc = .ok (.lor, 1))
    (k : xg x y nc ns (pc + 1) L (.long (a ||| b) :: S) h) : xg x y nc ns pc L (.long b :: .long a :: S) h := by
  obtain ⟨p, l, e, R, s, m, args, below, meth, c, Q, cc, own, nL⟩ := x
  obtain ⟨hx, hb, hml, hown⟩ := X
  intro H locs ls hP hS hL
  exact lv_lor hx hb d (k H locs ls hP hS hL)
theorem xg_lxor {a b : Int64} (X : xg_ok x) (d : decode (xg_cc x) pc = .ok (.lxor, 1))
    (k : xg x y nc ns (pc + 1) L (.long (a ^^^ b) :: S) h) : xg x y nc ns pc L (.long b :: .long a :: S) h := by
  obtain ⟨p, l, e, R, s, m, args, below, meth, c, Q, cc, own, nL⟩ := x
  obtain ⟨hx, hb, hml, hown⟩ := X
  intro H locs ls hP hS hL
  exact lv_lxor hx hb d (k H locs ls hP hS hL)
theorem xg_lshl {a : Int64} {b : Int32} (X : xg_ok x) (d : decode (xg_cc x) pc = .ok (.lshl, 1))
    (k : xg x y nc ns (pc + 1) L (.long (a <<< (b.toInt64 &&& 63)) :: S) h) : xg x y nc ns pc L (.int b :: .long a :: S) h := by
  obtain ⟨p, l, e, R, s, m, args, below, meth, c, Q, cc, own, nL⟩ := x
  obtain ⟨hx, hb, hml, hown⟩ := X
  intro H locs ls hP hS hL
  exact lv_lshl hx hb d rfl (k H locs ls hP hS hL)
theorem xg_lshr {a : Int64} {b : Int32} (X : xg_ok x) (d : decode (xg_cc x) pc = .ok (.lshr, 1))
    (k : xg x y nc ns (pc + 1) L (.long (a >>> (b.toInt64 &&& 63)) :: S) h) : xg x y nc ns pc L (.int b :: .long a :: S) h := by
  obtain ⟨p, l, e, R, s, m, args, below, meth, c, Q, cc, own, nL⟩ := x
  obtain ⟨hx, hb, hml, hown⟩ := X
  intro H locs ls hP hS hL
  exact lv_lshr hx hb d rfl (k H locs ls hP hS hL)
theorem xg_lushr {a : Int64} {b : Int32} (X : xg_ok x) (d : decode (xg_cc x) pc = .ok (.lushr, 1))
    (k : xg x y nc ns (pc + 1) L (.long ((a.toUInt64 >>> (b.toInt64.toUInt64 &&& Int64.toUInt64 63)).toInt64) :: S) h) : xg x y nc ns pc L (.int b :: .long a :: S) h := by
  obtain ⟨p, l, e, R, s, m, args, below, meth, c, Q, cc, own, nL⟩ := x
  obtain ⟨hx, hb, hml, hown⟩ := X
  intro H locs ls hP hS hL
  exact lv_lushr hx hb d rfl (k H locs ls hP hS hL)
theorem xg_ineg {a : Int32} (X : xg_ok x) (d : decode (xg_cc x) pc = .ok (.ineg, 1))
    (k : xg x y nc ns (pc + 1) L (.int (-a) :: S) h) : xg x y nc ns pc L (.int a :: S) h := by
  obtain ⟨p, l, e, R, s, m, args, below, meth, c, Q, cc, own, nL⟩ := x
  obtain ⟨hx, hb, hml, hown⟩ := X
  intro H locs ls hP hS hL
  exact lv_ineg hx hb d (k H locs ls hP hS hL)
theorem xg_lneg {a : Int64} (X : xg_ok x) (d : decode (xg_cc x) pc = .ok (.lneg, 1))
    (k : xg x y nc ns (pc + 1) L (.long (-a) :: S) h) : xg x y nc ns pc L (.long a :: S) h := by
  obtain ⟨p, l, e, R, s, m, args, below, meth, c, Q, cc, own, nL⟩ := x
  obtain ⟨hx, hb, hml, hown⟩ := X
  intro H locs ls hP hS hL
  exact lv_lneg hx hb d (k H locs ls hP hS hL)
theorem xg_i2l {a : Int32} (X : xg_ok x) (d : decode (xg_cc x) pc = .ok (.i2l, 1))
    (k : xg x y nc ns (pc + 1) L (.long a.toInt64 :: S) h) : xg x y nc ns pc L (.int a :: S) h := by
  obtain ⟨p, l, e, R, s, m, args, below, meth, c, Q, cc, own, nL⟩ := x
  obtain ⟨hx, hb, hml, hown⟩ := X
  intro H locs ls hP hS hL
  exact lv_i2l hx hb d rfl (k H locs ls hP hS hL)
theorem xg_l2i {a : Int64} (X : xg_ok x) (d : decode (xg_cc x) pc = .ok (.l2i, 1))
    (k : xg x y nc ns (pc + 1) L (.int a.toInt32 :: S) h) : xg x y nc ns pc L (.long a :: S) h := by
  obtain ⟨p, l, e, R, s, m, args, below, meth, c, Q, cc, own, nL⟩ := x
  obtain ⟨hx, hb, hml, hown⟩ := X
  intro H locs ls hP hS hL
  exact lv_l2i hx hb d rfl (k H locs ls hP hS hL)
theorem xg_i2b {a : Int32} (X : xg_ok x) (d : decode (xg_cc x) pc = .ok (.i2b, 1))
    (k : xg x y nc ns (pc + 1) L (.int a.toInt8.toInt32 :: S) h) : xg x y nc ns pc L (.int a :: S) h := by
  obtain ⟨p, l, e, R, s, m, args, below, meth, c, Q, cc, own, nL⟩ := x
  obtain ⟨hx, hb, hml, hown⟩ := X
  intro H locs ls hP hS hL
  exact lv_i2b hx hb d rfl (k H locs ls hP hS hL)
theorem xg_lcmp {a b : Int64} (X : xg_ok x) (d : decode (xg_cc x) pc = .ok (.lcmp, 1))
    (k : xg x y nc ns (pc + 1) L (.int (lg_cmp a b) :: S) h) : xg x y nc ns pc L (.long b :: .long a :: S) h := by
  obtain ⟨p, l, e, R, s, m, args, below, meth, c, Q, cc, own, nL⟩ := x
  obtain ⟨hx, hb, hml, hown⟩ := X
  intro H locs ls hP hS hL
  exact W.lcmp hx hb d (k H locs ls hP hS hL)
theorem xg_dup {v : Value} (X : xg_ok x) (d : decode (xg_cc x) pc = .ok (.dup, 1)) (hv : v.category = 1)
    (k : xg x y nc ns (pc + 1) L (v :: v :: S) h) : xg x y nc ns pc L (v :: S) h := by
  obtain ⟨p, l, e, R, s, m, args, below, meth, c, Q, cc, own, nL⟩ := x
  obtain ⟨hx, hb, hml, hown⟩ := X
  intro H locs ls hP hS hL
  exact lv_dup hx hb d (by rw [xw_cat]; exact hv) (k H locs ls hP hS hL)
theorem xg_pop {v : Value} (X : xg_ok x) (d : decode (xg_cc x) pc = .ok (.pop, 1)) (hv : v.category = 1)
    (k : xg x y nc ns (pc + 1) L S h) : xg x y nc ns pc L (v :: S) h := by
  obtain ⟨p, l, e, R, s, m, args, below, meth, c, Q, cc, own, nL⟩ := x
  obtain ⟨hx, hb, hml, hown⟩ := X
  intro H locs ls hP hS hL
  exact lv_pop hx hb d (by rw [xw_cat]; exact hv) (k H locs ls hP hS hL)
theorem xg_pop2 {v : Value} (X : xg_ok x) (d : decode (xg_cc x) pc = .ok (.pop2, 1)) (hv : v.category = 2)
    (k : xg x y nc ns (pc + 1) L S h) : xg x y nc ns pc L (v :: S) h := by
  obtain ⟨p, l, e, R, s, m, args, below, meth, c, Q, cc, own, nL⟩ := x
  obtain ⟨hx, hb, hml, hown⟩ := X
  intro H locs ls hP hS hL
  exact lv_pop2_2 hx hb d (by rw [xw_cat]; exact hv) (k H locs ls hP hS hL)
theorem xg_dup2 {v u : Value} (X : xg_ok x) (d : decode (xg_cc x) pc = .ok (.dup2, 1)) (hv : v.category = 1) (hu : u.category = 1)
    (k : xg x y nc ns (pc + 1) L (v :: u :: v :: u :: S) h) : xg x y nc ns pc L (v :: u :: S) h := by
  obtain ⟨p, l, e, R, s, m, args, below, meth, c, Q, cc, own, nL⟩ := x
  obtain ⟨hx, hb, hml, hown⟩ := X
  intro H locs ls hP hS hL
  exact lv_dup2_11 hx hb d (by rw [xw_cat]; exact hv) (by rw [xw_cat]; exact hu) (k H locs ls hP hS hL)
theorem xg_dup2w {v : Value} (X : xg_ok x) (d : decode (xg_cc x) pc = .ok (.dup2, 1)) (hv : v.category = 2)
    (k : xg x y nc ns (pc + 1) L (v :: v :: S) h) : xg x y nc ns pc L (v :: S) h := by
  obtain ⟨p, l, e, R, s, m, args, below, meth, c, Q, cc, own, nL⟩ := x
  obtain ⟨hx, hb, hml, hown⟩ := X
  intro H locs ls hP hS hL
  exact lv_dup2_2 hx hb d (by rw [xw_cat]; exact hv) (k H locs ls hP hS hL)
theorem xg_dup_x1 {v u : Value} (X : xg_ok x) (d : decode (xg_cc x) pc = .ok (.dup_x1, 1)) (hv : v.category = 1) (hu : u.category = 1)
    (k : xg x y nc ns (pc + 1) L (v :: u :: v :: S) h) : xg x y nc ns pc L (v :: u :: S) h := by
  obtain ⟨p, l, e, R, s, m, args, below, meth, c, Q, cc, own, nL⟩ := x
  obtain ⟨hx, hb, hml, hown⟩ := X
  intro H locs ls hP hS hL
  exact lv_dup_x1 hx hb d (by rw [xw_cat]; exact hv) (by rw [xw_cat]; exact hu) (k H locs ls hP hS hL)
theorem xg_dup_x2 {v u z : Value} (X : xg_ok x) (d : decode (xg_cc x) pc = .ok (.dup_x2, 1)) (hv : v.category = 1) (hu : u.category = 1) (hz : z.category = 1)
    (k : xg x y nc ns (pc + 1) L (v :: u :: z :: v :: S) h) : xg x y nc ns pc L (v :: u :: z :: S) h := by
  obtain ⟨p, l, e, R, s, m, args, below, meth, c, Q, cc, own, nL⟩ := x
  obtain ⟨hx, hb, hml, hown⟩ := X
  intro H locs ls hP hS hL
  exact lv_dup_x2 hx hb d (by rw [xw_cat]; exact hv) (by rw [xw_cat]; exact hu) (by rw [xw_cat]; exact hz) (k H locs ls hP hS hL)
theorem xg_if_eq {a : Int32} {o : Int} {q : Nat} (X : xg_ok x) (d : decode (xg_cc x) pc = .ok (.ifCond .eq o, 3)) (ht : (pc : Int) + o = (q : Int))
    (kt : a = 0 → xg x y nc ns q L S h) (kf : ¬ a = 0 → xg x y nc ns (pc + 3) L S h) : xg x y nc ns pc L (.int a :: S) h := by
  obtain ⟨p, l, e, R, s, m, args, below, meth, c, Q, cc, own, nL⟩ := x
  obtain ⟨hx, hb, hml, hown⟩ := X
  intro H locs ls hP hS hL
  exact lv_if_eq hx hb d ht (fun z => kt z H locs ls hP hS hL) (fun z => kf z H locs ls hP hS hL)
theorem xg_icmp_eq {a b : Int32} {o : Int} {q : Nat} (X : xg_ok x) (d : decode (xg_cc x) pc = .ok (.if_icmp .eq o, 3)) (ht : (pc : Int) + o = (q : Int))
    (kt : a = b → xg x y nc ns q L S h) (kf : ¬ a = b → xg x y nc ns (pc + 3) L S h) : xg x y nc ns pc L (.int b :: .int a :: S) h := by
  obtain ⟨p, l, e, R, s, m, args, below, meth, c, Q, cc, own, nL⟩ := x
  obtain ⟨hx, hb, hml, hown⟩ := X
  intro H locs ls hP hS hL
  exact lv_icmp_eq hx hb d ht (fun z => kt z H locs ls hP hS hL) (fun z => kf z H locs ls hP hS hL)
theorem xg_if_ne {a : Int32} {o : Int} {q : Nat} (X : xg_ok x) (d : decode (xg_cc x) pc = .ok (.ifCond .ne o, 3)) (ht : (pc : Int) + o = (q : Int))
    (kt : ¬ a = 0 → xg x y nc ns q L S h) (kf : a = 0 → xg x y nc ns (pc + 3) L S h) : xg x y nc ns pc L (.int a :: S) h := by
  obtain ⟨p, l, e, R, s, m, args, below, meth, c, Q, cc, own, nL⟩ := x
  obtain ⟨hx, hb, hml, hown⟩ := X
  intro H locs ls hP hS hL
  exact lv_if_ne hx hb d ht (fun z => kt z H locs ls hP hS hL) (fun z => kf z H locs ls hP hS hL)
theorem xg_icmp_ne {a b : Int32} {o : Int} {q : Nat} (X : xg_ok x) (d : decode (xg_cc x) pc = .ok (.if_icmp .ne o, 3)) (ht : (pc : Int) + o = (q : Int))
    (kt : ¬ a = b → xg x y nc ns q L S h) (kf : a = b → xg x y nc ns (pc + 3) L S h) : xg x y nc ns pc L (.int b :: .int a :: S) h := by
  obtain ⟨p, l, e, R, s, m, args, below, meth, c, Q, cc, own, nL⟩ := x
  obtain ⟨hx, hb, hml, hown⟩ := X
  intro H locs ls hP hS hL
  exact lv_icmp_ne hx hb d ht (fun z => kt z H locs ls hP hS hL) (fun z => kf z H locs ls hP hS hL)
theorem xg_if_lt {a : Int32} {o : Int} {q : Nat} (X : xg_ok x) (d : decode (xg_cc x) pc = .ok (.ifCond .lt o, 3)) (ht : (pc : Int) + o = (q : Int))
    (kt : a < 0 → xg x y nc ns q L S h) (kf : ¬ a < 0 → xg x y nc ns (pc + 3) L S h) : xg x y nc ns pc L (.int a :: S) h := by
  obtain ⟨p, l, e, R, s, m, args, below, meth, c, Q, cc, own, nL⟩ := x
  obtain ⟨hx, hb, hml, hown⟩ := X
  intro H locs ls hP hS hL
  exact lv_if_lt hx hb d ht (fun z => kt z H locs ls hP hS hL) (fun z => kf z H locs ls hP hS hL)
theorem xg_icmp_lt {a b : Int32} {o : Int} {q : Nat} (X : xg_ok x) (d : decode (xg_cc x) pc = .ok (.if_icmp .lt o, 3)) (ht : (pc : Int) + o = (q : Int))
    (kt : a < b → xg x y nc ns q L S h) (kf : ¬ a < b → xg x y nc ns (pc + 3) L S h) : xg x y nc ns pc L (.int b :: .int a :: S) h := by
  obtain ⟨p, l, e, R, s, m, args, below, meth, c, Q, cc, own, nL⟩ := x
  obtain ⟨hx, hb, hml, hown⟩ := X
  intro H locs ls hP hS hL
  exact lv_icmp_lt hx hb d ht (fun z => kt z H locs ls hP hS hL) (fun z => kf z H locs ls hP hS hL)
theorem xg_if_ge {a : Int32} {o : Int} {q : Nat} (X : xg_ok x) (d : decode (xg_cc x) pc = .ok (.ifCond .ge o, 3)) (ht : (pc : Int) + o = (q : Int))
    (kt : 0 ≤ a → xg x y nc ns q L S h) (kf : ¬ 0 ≤ a → xg x y nc ns (pc + 3) L S h) : xg x y nc ns pc L (.int a :: S) h := by
  obtain ⟨p, l, e, R, s, m, args, below, meth, c, Q, cc, own, nL⟩ := x
  obtain ⟨hx, hb, hml, hown⟩ := X
  intro H locs ls hP hS hL
  exact lv_if_ge hx hb d ht (fun z => kt z H locs ls hP hS hL) (fun z => kf z H locs ls hP hS hL)
theorem xg_icmp_ge {a b : Int32} {o : Int} {q : Nat} (X : xg_ok x) (d : decode (xg_cc x) pc = .ok (.if_icmp .ge o, 3)) (ht : (pc : Int) + o = (q : Int))
    (kt : b ≤ a → xg x y nc ns q L S h) (kf : ¬ b ≤ a → xg x y nc ns (pc + 3) L S h) : xg x y nc ns pc L (.int b :: .int a :: S) h := by
  obtain ⟨p, l, e, R, s, m, args, below, meth, c, Q, cc, own, nL⟩ := x
  obtain ⟨hx, hb, hml, hown⟩ := X
  intro H locs ls hP hS hL
  exact lv_icmp_ge hx hb d ht (fun z => kt z H locs ls hP hS hL) (fun z => kf z H locs ls hP hS hL)
theorem xg_if_gt {a : Int32} {o : Int} {q : Nat} (X : xg_ok x) (d : decode (xg_cc x) pc = .ok (.ifCond .gt o, 3)) (ht : (pc : Int) + o = (q : Int))
    (kt : 0 < a → xg x y nc ns q L S h) (kf : ¬ 0 < a → xg x y nc ns (pc + 3) L S h) : xg x y nc ns pc L (.int a :: S) h := by
  obtain ⟨p, l, e, R, s, m, args, below, meth, c, Q, cc, own, nL⟩ := x
  obtain ⟨hx, hb, hml, hown⟩ := X
  intro H locs ls hP hS hL
  exact lv_if_gt hx hb d ht (fun z => kt z H locs ls hP hS hL) (fun z => kf z H locs ls hP hS hL)
theorem xg_icmp_gt {a b : Int32} {o : Int} {q : Nat} (X : xg_ok x) (d : decode (xg_cc x) pc = .ok (.if_icmp .gt o, 3)) (ht : (pc : Int) + o = (q : Int))
    (kt : b < a → xg x y nc ns q L S h) (kf : ¬ b < a → xg x y nc ns (pc + 3) L S h) : xg x y nc ns pc L (.int b :: .int a :: S) h := by
  obtain ⟨p, l, e, R, s, m, args, below, meth, c, Q, cc, own, nL⟩ := x
  obtain ⟨hx, hb, hml, hown⟩ := X
  intro H locs ls hP hS hL
  exact lv_icmp_gt hx hb d ht (fun z => kt z H locs ls hP hS hL) (fun z => kf z H locs ls hP hS hL)
theorem xg_if_le {a : Int32} {o : Int} {q : Nat} (X : xg_ok x) (d : decode (xg_cc x) pc = .ok (.ifCond .le o, 3)) (ht : (pc : Int) + o = (q : Int))
    (kt : a ≤ 0 → xg x y nc ns q L S h) (kf : ¬ a ≤ 0 → xg x y nc ns (pc + 3) L S h) : xg x y nc ns pc L (.int a :: S) h := by
  obtain ⟨p, l, e, R, s, m, args, below, meth, c, Q, cc, own, nL⟩ := x
  obtain ⟨hx, hb, hml, hown⟩ := X
  intro H locs ls hP hS hL
  exact lv_if_le hx hb d ht (fun z => kt z H locs ls hP hS hL) (fun z => kf z H locs ls hP hS hL)
theorem xg_icmp_le {a b : Int32} {o : Int} {q : Nat} (X : xg_ok x) (d : decode (xg_cc x) pc = .ok (.if_icmp .le o, 3)) (ht : (pc : Int) + o = (q : Int))
    (kt : a ≤ b → xg x y nc ns q L S h) (kf : ¬ a ≤ b → xg x y nc ns (pc + 3) L S h) : xg x y nc ns pc L (.int b :: .int a :: S) h := by
  obtain ⟨p, l, e, R, s, m, args, below, meth, c, Q, cc, own, nL⟩ := x
  obtain ⟨hx, hb, hml, hown⟩ := X
  intro H locs ls hP hS hL
  exact lv_icmp_le hx hb d ht (fun z => kt z H locs ls hP hS hL) (fun z => kf z H locs ls hP hS hL)
theorem xg_goto {o : Int} {q : Nat} (X : xg_ok x) (d : decode (xg_cc x) pc = .ok (.goto o, 3)) (ht : (pc : Int) + o = (q : Int))
    (k : xg x y nc ns q L S h) : xg x y nc ns pc L S h := by
  obtain ⟨p, l, e, R, s, m, args, below, meth, c, Q, cc, own, nL⟩ := x
  obtain ⟨hx, hb, hml, hown⟩ := X
  intro H locs ls hP hS hL
  exact lv_goto hx hb d ht (k H locs ls hP hS hL)
theorem xg_idiv {a b : Int32} (X : xg_ok x) (d : decode (xg_cc x) pc = .ok (.idiv, 1)) (hne : ¬ b = 0)
    (k : xg x y nc ns (pc + 1) L (.int (a / b) :: S) h) : xg x y nc ns pc L (.int b :: .int a :: S) h := by
  obtain ⟨p, l, e, R, s, m, args, below, meth, c, Q, cc, own, nL⟩ := x
  obtain ⟨hx, hb, hml, hown⟩ := X
  intro H locs ls hP hS hL
  exact lv_idiv hx hb d hne (k H locs ls hP hS hL)
theorem xg_irem {a b : Int32} (X : xg_ok x) (d : decode (xg_cc x) pc = .ok (.irem, 1)) (hne : ¬ b = 0)
    (k : xg x y nc ns (pc + 1) L (.int (a - a / b * b) :: S) h) : xg x y nc ns pc L (.int b :: .int a :: S) h := by
  obtain ⟨p, l, e, R, s, m, args, below, meth, c, Q, cc, own, nL⟩ := x
  obtain ⟨hx, hb, hml, hown⟩ := X
  intro H locs ls hP hS hL
  exact lv_irem hx hb d hne (k H locs ls hP hS hL)
theorem xg_ldiv {a b : Int64} (X : xg_ok x) (d : decode (xg_cc x) pc = .ok (.ldiv, 1)) (hne : ¬ b = 0)
    (k : xg x y nc ns (pc + 1) L (.long (a / b) :: S) h) : xg x y nc ns pc L (.long b :: .long a :: S) h := by
  obtain ⟨p, l, e, R, s, m, args, below, meth, c, Q, cc, own, nL⟩ := x
  obtain ⟨hx, hb, hml, hown⟩ := X
  intro H locs ls hP hS hL
  exact lv_ldiv hx hb d hne (k H locs ls hP hS hL)
theorem xg_lrem {a b : Int64} (X : xg_ok x) (d : decode (xg_cc x) pc = .ok (.lrem, 1)) (hne : ¬ b = 0)
    (k : xg x y nc ns (pc + 1) L (.long (a - a / b * b) :: S) h) : xg x y nc ns pc L (.long b :: .long a :: S) h := by
  obtain ⟨p, l, e, R, s, m, args, below, meth, c, Q, cc, own, nL⟩ := x
  obtain ⟨hx, hb, hml, hown⟩ := X
  intro H locs ls hP hS hL
  exact lv_lrem hx hb d hne (k H locs ls hP hS hL)
theorem xg_tsOut {a : Int32} {df lo hi : Int} {os : Array Int} {n q : Nat} (X : xg_ok x) (d : decode (xg_cc x) pc = .ok (.tableswitch df lo hi os, n)) (ha : a.toInt < lo ∨ hi < a.toInt) (ht : (pc : Int) + df = (q : Int))
    (k : xg x y nc ns q L S h) : xg x y nc ns pc L (.int a :: S) h := by
  obtain ⟨p, l, e, R, s, m, args, below, meth, c, Q, cc, own, nL⟩ := x
  obtain ⟨hx, hb, hml, hown⟩ := X
  intro H locs ls hP hS hL
  exact lv_tableOut hx hb d ha ht (k H locs ls hP hS hL)
theorem xg_tsIn {a : Int32} {df lo hi o : Int} {os : Array Int} {n q : Nat} (X : xg_ok x) (d : decode (xg_cc x) pc = .ok (.tableswitch df lo hi os, n)) (h1 : ¬ a.toInt < lo) (h2 : ¬ hi < a.toInt) (ho : os[(a.toInt - lo).toNat]? = some o) (ht : (pc : Int) + o = (q : Int))
    (k : xg x y nc ns q L S h) : xg x y nc ns pc L (.int a :: S) h := by
  obtain ⟨p, l, e, R, s, m, args, below, meth, c, Q, cc, own, nL⟩ := x
  obtain ⟨hx, hb, hml, hown⟩ := X
  intro H locs ls hP hS hL
  exact lv_tableIn hx hb d h1 h2 ho ht (k H locs ls hP hS hL)
end XG
