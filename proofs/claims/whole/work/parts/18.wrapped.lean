/-! the rows over one bundle: the method's class, bytes, number of locals; the world; the facts of the start -/
def xg_A (x : xg_T) (y : xw_T) (KK : State → Prop) (own : String) (cc : ByteArray) (nL : Nat) : Prop := xg_ok x ∧ xg_cc x = cc ∧ xg_own x = own ∧ xg_nL x = nL ∧ xg_W x ∧ xw_G y (xg_s x) ∧ xw_mv y KK ∧ KK (xg_s x) ∧ xw_B y ≤ (xg_s x).heap.size
section RA
variable {x : xg_T} {y : xw_T} {KK : State → Prop} {own : String} {cc : ByteArray} {nL : Nat} {nc ns pc : Nat} {L : List (Option Value)} {S : List Value} {h : xw_H} {X0 : xc_R → xw_H → Nat → Nat → Prop}
theorem ra_iconst (A : xg_A x y KK own cc nL) {a : Int} (v : Int32) (d : decode cc pc = .ok (.iconst a, 1)) (hv : Int32.ofInt a = v) (k : xg x y nc ns (pc + 1) L (.int v :: S) h) : xg x y nc ns pc L S h := by
  obtain ⟨X, rfl, rfl, rfl, HW, g, hmv, hKK, hB⟩ := A
  exact xg_iconst v X d hv k
theorem ra_bipush (A : xg_A x y KK own cc nL) {a : Int} (v : Int32) (d : decode cc pc = .ok (.bipush a, 2)) (hv : (Int8.ofInt a).toInt32 = v) (k : xg x y nc ns (pc + 2) L (.int v :: S) h) : xg x y nc ns pc L S h := by
  obtain ⟨X, rfl, rfl, rfl, HW, g, hmv, hKK, hB⟩ := A
  exact xg_bipush v X d hv k
theorem ra_sipush (A : xg_A x y KK own cc nL) {a : Int} (v : Int32) (d : decode cc pc = .ok (.sipush a, 3)) (hv : (Int16.ofInt a).toInt32 = v) (k : xg x y nc ns (pc + 3) L (.int v :: S) h) : xg x y nc ns pc L S h := by
  obtain ⟨X, rfl, rfl, rfl, HW, g, hmv, hKK, hB⟩ := A
  exact xg_sipush v X d hv k
theorem ra_lconst (A : xg_A x y KK own cc nL) {a : Fin 2} (v : Int64) (d : decode cc pc = .ok (.lconst a, 1)) (hv : Int64.ofNat (a : Nat) = v) (k : xg x y nc ns (pc + 1) L (.long v :: S) h) : xg x y nc ns pc L S h := by
  obtain ⟨X, rfl, rfl, rfl, HW, g, hmv, hKK, hB⟩ := A
  exact xg_lconst v X d hv k
theorem ra_iload (A : xg_A x y KK own cc nL) {i : Nat} {a : Int32} (d : decode cc pc = .ok (.iload i, 2)) (hl : L[i]? = some (some (.int a))) (k : xg x y nc ns (pc + 2) L (.int a :: S) h) : xg x y nc ns pc L S h := by
  obtain ⟨X, rfl, rfl, rfl, HW, g, hmv, hKK, hB⟩ := A
  exact xg_iload X d hl k
theorem ra_iload_n (A : xg_A x y KK own cc nL) {i : Fin 4} {a : Int32} (d : decode cc pc = .ok (.iload_n i, 1)) (hl : L[(i : Nat)]? = some (some (.int a))) (k : xg x y nc ns (pc + 1) L (.int a :: S) h) : xg x y nc ns pc L S h := by
  obtain ⟨X, rfl, rfl, rfl, HW, g, hmv, hKK, hB⟩ := A
  exact xg_iload_n X d hl k
theorem ra_lload (A : xg_A x y KK own cc nL) {i : Nat} {a : Int64} (d : decode cc pc = .ok (.lload i, 2)) (hl : L[i]? = some (some (.long a))) (k : xg x y nc ns (pc + 2) L (.long a :: S) h) : xg x y nc ns pc L S h := by
  obtain ⟨X, rfl, rfl, rfl, HW, g, hmv, hKK, hB⟩ := A
  exact xg_lload X d hl k
theorem ra_lload_n (A : xg_A x y KK own cc nL) {i : Fin 4} {a : Int64} (d : decode cc pc = .ok (.lload_n i, 1)) (hl : L[(i : Nat)]? = some (some (.long a))) (k : xg x y nc ns (pc + 1) L (.long a :: S) h) : xg x y nc ns pc L S h := by
  obtain ⟨X, rfl, rfl, rfl, HW, g, hmv, hKK, hB⟩ := A
  exact xg_lload_n X d hl k
theorem ra_aload (A : xg_A x y KK own cc nL) {i : Nat} {a : Nat} (d : decode cc pc = .ok (.aload i, 2)) (hl : L[i]? = some (some (.ref a))) (k : xg x y nc ns (pc + 2) L (.ref a :: S) h) : xg x y nc ns pc L S h := by
  obtain ⟨X, rfl, rfl, rfl, HW, g, hmv, hKK, hB⟩ := A
  exact xg_aload X d hl k
theorem ra_aload_n (A : xg_A x y KK own cc nL) {i : Fin 4} {a : Nat} (d : decode cc pc = .ok (.aload_n i, 1)) (hl : L[(i : Nat)]? = some (some (.ref a))) (k : xg x y nc ns (pc + 1) L (.ref a :: S) h) : xg x y nc ns pc L S h := by
  obtain ⟨X, rfl, rfl, rfl, HW, g, hmv, hKK, hB⟩ := A
  exact xg_aload_n X d hl k
theorem ra_istore (A : xg_A x y KK own cc nL) {i : Nat} {a : Int32} {L' : List (Option Value)} (d : decode cc pc = .ok (.istore i, 2)) (hn : i < nL) (hl : xg_s1 L i (.int a) = L') (k : xg x y nc ns (pc + 2) L' S h) : xg x y nc ns pc L (.int a :: S) h := by
  obtain ⟨X, rfl, rfl, rfl, HW, g, hmv, hKK, hB⟩ := A
  exact xg_istore X d hn hl k
theorem ra_istore_n (A : xg_A x y KK own cc nL) {i : Fin 4} {a : Int32} {L' : List (Option Value)} (d : decode cc pc = .ok (.istore_n i, 1)) (hn : (i : Nat) < nL) (hl : xg_s1 L i (.int a) = L') (k : xg x y nc ns (pc + 1) L' S h) : xg x y nc ns pc L (.int a :: S) h := by
  obtain ⟨X, rfl, rfl, rfl, HW, g, hmv, hKK, hB⟩ := A
  exact xg_istore_n X d hn hl k
theorem ra_lstore (A : xg_A x y KK own cc nL) {i : Nat} {a : Int64} {L' : List (Option Value)} (d : decode cc pc = .ok (.lstore i, 2)) (hn : i + 1 < nL) (hl : xg_s2 L i (.long a) = L') (k : xg x y nc ns (pc + 2) L' S h) : xg x y nc ns pc L (.long a :: S) h := by
  obtain ⟨X, rfl, rfl, rfl, HW, g, hmv, hKK, hB⟩ := A
  exact xg_lstore X d hn hl k
theorem ra_lstore_n (A : xg_A x y KK own cc nL) {i : Fin 4} {a : Int64} {L' : List (Option Value)} (d : decode cc pc = .ok (.lstore_n i, 1)) (hn : (i : Nat) + 1 < nL) (hl : xg_s2 L i (.long a) = L') (k : xg x y nc ns (pc + 1) L' S h) : xg x y nc ns pc L (.long a :: S) h := by
  obtain ⟨X, rfl, rfl, rfl, HW, g, hmv, hKK, hB⟩ := A
  exact xg_lstore_n X d hn hl k
theorem ra_astore (A : xg_A x y KK own cc nL) {i : Nat} {a : Nat} {L' : List (Option Value)} (d : decode cc pc = .ok (.astore i, 2)) (hn : i < nL) (hl : xg_s1 L i (.ref a) = L') (k : xg x y nc ns (pc + 2) L' S h) : xg x y nc ns pc L (.ref a :: S) h := by
  obtain ⟨X, rfl, rfl, rfl, HW, g, hmv, hKK, hB⟩ := A
  exact xg_astore X d hn hl k
theorem ra_astore_n (A : xg_A x y KK own cc nL) {i : Fin 4} {a : Nat} {L' : List (Option Value)} (d : decode cc pc = .ok (.astore_n i, 1)) (hn : (i : Nat) < nL) (hl : xg_s1 L i (.ref a) = L') (k : xg x y nc ns (pc + 1) L' S h) : xg x y nc ns pc L (.ref a :: S) h := by
  obtain ⟨X, rfl, rfl, rfl, HW, g, hmv, hKK, hB⟩ := A
  exact xg_astore_n X d hn hl k
theorem ra_iinc (A : xg_A x y KK own cc nL) {i : Nat} {a : Int32} {b : Int} {L' : List (Option Value)} (v : Int32) (d : decode cc pc = .ok (.iinc i b, 3)) (hl : L[i]? = some (some (.int a))) (hv : Int32.ofInt b = v) (hn : i < nL) (hs : xg_s1 L i (.int (a + v)) = L') (k : xg x y nc ns (pc + 3) L' S h) : xg x y nc ns pc L S h := by
  obtain ⟨X, rfl, rfl, rfl, HW, g, hmv, hKK, hB⟩ := A
  exact xg_iinc v X d hl hv hn hs k
theorem ra_iadd (A : xg_A x y KK own cc nL) {a b : Int32} (d : decode cc pc = .ok (.iadd, 1)) (k : xg x y nc ns (pc + 1) L (.int (a + b) :: S) h) : xg x y nc ns pc L (.int b :: .int a :: S) h := by
  obtain ⟨X, rfl, rfl, rfl, HW, g, hmv, hKK, hB⟩ := A
  exact xg_iadd X d k
theorem ra_isub (A : xg_A x y KK own cc nL) {a b : Int32} (d : decode cc pc = .ok (.isub, 1)) (k : xg x y nc ns (pc + 1) L (.int (a - b) :: S) h) : xg x y nc ns pc L (.int b :: .int a :: S) h := by
  obtain ⟨X, rfl, rfl, rfl, HW, g, hmv, hKK, hB⟩ := A
  exact xg_isub X d k
theorem ra_imul (A : xg_A x y KK own cc nL) {a b : Int32} (d : decode cc pc = .ok (.imul, 1)) (k : xg x y nc ns (pc + 1) L (.int (a * b) :: S) h) : xg x y nc ns pc L (.int b :: .int a :: S) h := by
  obtain ⟨X, rfl, rfl, rfl, HW, g, hmv, hKK, hB⟩ := A
  exact xg_imul X d k
theorem ra_iand (A : xg_A x y KK own cc nL) {a b : Int32} (d : decode cc pc = .ok (.iand, 1)) (k : xg x y nc ns (pc + 1) L (.int (a &&& b) :: S) h) : xg x y nc ns pc L (.int b :: .int a :: S) h := by
  obtain ⟨X, rfl, rfl, rfl, HW, g, hmv, hKK, hB⟩ := A
  exact xg_iand X d k
theorem ra_ior (A : xg_A x y KK own cc nL) {a b : Int32} (d : decode cc pc = .ok (.ior, 1)) (k : xg x y nc ns (pc + 1) L (.int (a ||| b) :: S) h) : xg x y nc ns pc L (.int b :: .int a :: S) h := by
  obtain ⟨X, rfl, rfl, rfl, HW, g, hmv, hKK, hB⟩ := A
  exact xg_ior X d k
theorem ra_ixor (A : xg_A x y KK own cc nL) {a b : Int32} (d : decode cc pc = .ok (.ixor, 1)) (k : xg x y nc ns (pc + 1) L (.int (a ^^^ b) :: S) h) : xg x y nc ns pc L (.int b :: .int a :: S) h := by
  obtain ⟨X, rfl, rfl, rfl, HW, g, hmv, hKK, hB⟩ := A
  exact xg_ixor X d k
theorem ra_ishl (A : xg_A x y KK own cc nL) {a b : Int32} (d : decode cc pc = .ok (.ishl, 1)) (k : xg x y nc ns (pc + 1) L (.int (a <<< (b &&& 31)) :: S) h) : xg x y nc ns pc L (.int b :: .int a :: S) h := by
  obtain ⟨X, rfl, rfl, rfl, HW, g, hmv, hKK, hB⟩ := A
  exact xg_ishl X d k
theorem ra_ishr (A : xg_A x y KK own cc nL) {a b : Int32} (d : decode cc pc = .ok (.ishr, 1)) (k : xg x y nc ns (pc + 1) L (.int (a >>> (b &&& 31)) :: S) h) : xg x y nc ns pc L (.int b :: .int a :: S) h := by
  obtain ⟨X, rfl, rfl, rfl, HW, g, hmv, hKK, hB⟩ := A
  exact xg_ishr X d k
theorem ra_iushr (A : xg_A x y KK own cc nL) {a b : Int32} (d : decode cc pc = .ok (.iushr, 1)) (k : xg x y nc ns (pc + 1) L (.int (a.toUInt32 >>> (b.toUInt32 &&& Int32.toUInt32 31)).toInt32 :: S) h) : xg x y nc ns pc L (.int b :: .int a :: S) h := by
  obtain ⟨X, rfl, rfl, rfl, HW, g, hmv, hKK, hB⟩ := A
  exact xg_iushr X d k
theorem ra_ladd (A : xg_A x y KK own cc nL) {a b : Int64} (d : decode cc pc = .ok (.ladd, 1)) (k : xg x y nc ns (pc + 1) L (.long (a + b) :: S) h) : xg x y nc ns pc L (.long b :: .long a :: S) h := by
  obtain ⟨X, rfl, rfl, rfl, HW, g, hmv, hKK, hB⟩ := A
  exact xg_ladd X d k
theorem ra_lsub (A : xg_A x y KK own cc nL) {a b : Int64} (d : decode cc pc = .ok (.lsub, 1)) (k : xg x y nc ns (pc + 1) L (.long (a - b) :: S) h) : xg x y nc ns pc L (.long b :: .long a :: S) h := by
  obtain ⟨X, rfl, rfl, rfl, HW, g, hmv, hKK, hB⟩ := A
  exact xg_lsub X d k
theorem ra_lmul (A : xg_A x y KK own cc nL) {a b : Int64} (d : decode cc pc = .ok (.lmul, 1)) (k : xg x y nc ns (pc + 1) L (.long (a * b) :: S) h) : xg x y nc ns pc L (.long b :: .long a :: S) h := by
  obtain ⟨X, rfl, rfl, rfl, HW, g, hmv, hKK, hB⟩ := A
  exact xg_lmul X d k
theorem ra_land (A : xg_A x y KK own cc nL) {a b : Int64} (d : decode cc pc = .ok (.land, 1)) (k : xg x y nc ns (pc + 1) L (.long (a &&& b) :: S) h) : xg x y nc ns pc L (.long b :: .long a :: S) h := by
  obtain ⟨X, rfl, rfl, rfl, HW, g, hmv, hKK, hB⟩ := A
  exact xg_land X d k
theorem ra_lor (A : xg_A x y KK own cc nL) {a b : Int64} (d : decode cc pc = .ok (.lor, 1)) (k : xg x y nc ns (pc + 1) L (.long (a ||| b) :: S) h) : xg x y nc ns pc L (.long b :: .long a :: S) h := by
  obtain ⟨X, rfl, rfl, rfl, HW, g, hmv, hKK, hB⟩ := A
  exact xg_lor X d k
theorem ra_lxor (A : xg_A x y KK own cc nL) {a b : Int64} (d : decode cc pc = .ok (.lxor, 1)) (k : xg x y nc ns (pc + 1) L (.long (a ^^^ b) :: S) h) : xg x y nc ns pc L (.long b :: .long a :: S) h := by
  obtain ⟨X, rfl, rfl, rfl, HW, g, hmv, hKK, hB⟩ := A
  exact xg_lxor X d k
theorem ra_lshl (A : xg_A x y KK own cc nL) {a : Int64} {b : Int32} (d : decode cc pc = .ok (.lshl, 1)) (k : xg x y nc ns (pc + 1) L (.long (a <<< (b.toInt64 &&& 63)) :: S) h) : xg x y nc ns pc L (.int b :: .long a :: S) h := by
  obtain ⟨X, rfl, rfl, rfl, HW, g, hmv, hKK, hB⟩ := A
  exact xg_lshl X d k
theorem ra_lshr (A : xg_A x y KK own cc nL) {a : Int64} {b : Int32} (d : decode cc pc = .ok (.lshr, 1)) (k : xg x y nc ns (pc + 1) L (.long (a >>> (b.toInt64 &&& 63)) :: S) h) : xg x y nc ns pc L (.int b :: .long a :: S) h := by
  obtain ⟨X, rfl, rfl, rfl, HW, g, hmv, hKK, hB⟩ := A
  exact xg_lshr X d k
theorem ra_lushr (A : xg_A x y KK own cc nL) {a : Int64} {b : Int32} (d : decode cc pc = .ok (.lushr, 1)) (k : xg x y nc ns (pc + 1) L (.long ((a.toUInt64 >>> (b.toInt64.toUInt64 &&& Int64.toUInt64 63)).toInt64) :: S) h) : xg x y nc ns pc L (.int b :: .long a :: S) h := by
  obtain ⟨X, rfl, rfl, rfl, HW, g, hmv, hKK, hB⟩ := A
  exact xg_lushr X d k
theorem ra_ineg (A : xg_A x y KK own cc nL) {a : Int32} (d : decode cc pc = .ok (.ineg, 1)) (k : xg x y nc ns (pc + 1) L (.int (-a) :: S) h) : xg x y nc ns pc L (.int a :: S) h := by
  obtain ⟨X, rfl, rfl, rfl, HW, g, hmv, hKK, hB⟩ := A
  exact xg_ineg X d k
theorem ra_lneg (A : xg_A x y KK own cc nL) {a : Int64} (d : decode cc pc = .ok (.lneg, 1)) (k : xg x y nc ns (pc + 1) L (.long (-a) :: S) h) : xg x y nc ns pc L (.long a :: S) h := by
  obtain ⟨X, rfl, rfl, rfl, HW, g, hmv, hKK, hB⟩ := A
  exact xg_lneg X d k
theorem ra_i2l (A : xg_A x y KK own cc nL) {a : Int32} (d : decode cc pc = .ok (.i2l, 1)) (k : xg x y nc ns (pc + 1) L (.long a.toInt64 :: S) h) : xg x y nc ns pc L (.int a :: S) h := by
  obtain ⟨X, rfl, rfl, rfl, HW, g, hmv, hKK, hB⟩ := A
  exact xg_i2l X d k
theorem ra_l2i (A : xg_A x y KK own cc nL) {a : Int64} (d : decode cc pc = .ok (.l2i, 1)) (k : xg x y nc ns (pc + 1) L (.int a.toInt32 :: S) h) : xg x y nc ns pc L (.long a :: S) h := by
  obtain ⟨X, rfl, rfl, rfl, HW, g, hmv, hKK, hB⟩ := A
  exact xg_l2i X d k
theorem ra_i2b (A : xg_A x y KK own cc nL) {a : Int32} (d : decode cc pc = .ok (.i2b, 1)) (k : xg x y nc ns (pc + 1) L (.int a.toInt8.toInt32 :: S) h) : xg x y nc ns pc L (.int a :: S) h := by
  obtain ⟨X, rfl, rfl, rfl, HW, g, hmv, hKK, hB⟩ := A
  exact xg_i2b X d k
theorem ra_lcmp (A : xg_A x y KK own cc nL) {a b : Int64} (d : decode cc pc = .ok (.lcmp, 1)) (k : xg x y nc ns (pc + 1) L (.int (lg_cmp a b) :: S) h) : xg x y nc ns pc L (.long b :: .long a :: S) h := by
  obtain ⟨X, rfl, rfl, rfl, HW, g, hmv, hKK, hB⟩ := A
  exact xg_lcmp X d k
theorem ra_dup (A : xg_A x y KK own cc nL) {v : Value} (d : decode cc pc = .ok (.dup, 1)) (hv : v.category = 1) (k : xg x y nc ns (pc + 1) L (v :: v :: S) h) : xg x y nc ns pc L (v :: S) h := by
  obtain ⟨X, rfl, rfl, rfl, HW, g, hmv, hKK, hB⟩ := A
  exact xg_dup X d hv k
theorem ra_pop (A : xg_A x y KK own cc nL) {v : Value} (d : decode cc pc = .ok (.pop, 1)) (hv : v.category = 1) (k : xg x y nc ns (pc + 1) L S h) : xg x y nc ns pc L (v :: S) h := by
  obtain ⟨X, rfl, rfl, rfl, HW, g, hmv, hKK, hB⟩ := A
  exact xg_pop X d hv k
theorem ra_pop2 (A : xg_A x y KK own cc nL) {v : Value} (d : decode cc pc = .ok (.pop2, 1)) (hv : v.category = 2) (k : xg x y nc ns (pc + 1) L S h) : xg x y nc ns pc L (v :: S) h := by
  obtain ⟨X, rfl, rfl, rfl, HW, g, hmv, hKK, hB⟩ := A
  exact xg_pop2 X d hv k
theorem ra_dup2 (A : xg_A x y KK own cc nL) {v u : Value} (d : decode cc pc = .ok (.dup2, 1)) (hv : v.category = 1) (hu : u.category = 1) (k : xg x y nc ns (pc + 1) L (v :: u :: v :: u :: S) h) : xg x y nc ns pc L (v :: u :: S) h := by
  obtain ⟨X, rfl, rfl, rfl, HW, g, hmv, hKK, hB⟩ := A
  exact xg_dup2 X d hv hu k
theorem ra_dup2w (A : xg_A x y KK own cc nL) {v : Value} (d : decode cc pc = .ok (.dup2, 1)) (hv : v.category = 2) (k : xg x y nc ns (pc + 1) L (v :: v :: S) h) : xg x y nc ns pc L (v :: S) h := by
  obtain ⟨X, rfl, rfl, rfl, HW, g, hmv, hKK, hB⟩ := A
  exact xg_dup2w X d hv k
theorem ra_dup_x1 (A : xg_A x y KK own cc nL) {v u : Value} (d : decode cc pc = .ok (.dup_x1, 1)) (hv : v.category = 1) (hu : u.category = 1) (k : xg x y nc ns (pc + 1) L (v :: u :: v :: S) h) : xg x y nc ns pc L (v :: u :: S) h := by
  obtain ⟨X, rfl, rfl, rfl, HW, g, hmv, hKK, hB⟩ := A
  exact xg_dup_x1 X d hv hu k
theorem ra_dup_x2 (A : xg_A x y KK own cc nL) {v u z : Value} (d : decode cc pc = .ok (.dup_x2, 1)) (hv : v.category = 1) (hu : u.category = 1) (hz : z.category = 1) (k : xg x y nc ns (pc + 1) L (v :: u :: z :: v :: S) h) : xg x y nc ns pc L (v :: u :: z :: S) h := by
  obtain ⟨X, rfl, rfl, rfl, HW, g, hmv, hKK, hB⟩ := A
  exact xg_dup_x2 X d hv hu hz k
theorem ra_if_eq (A : xg_A x y KK own cc nL) {a : Int32} {o : Int} {q : Nat} (d : decode cc pc = .ok (.ifCond .eq o, 3)) (ht : (pc : Int) + o = (q : Int)) (kt : a = 0 → xg x y nc ns q L S h) (kf : ¬ a = 0 → xg x y nc ns (pc + 3) L S h) : xg x y nc ns pc L (.int a :: S) h := by
  obtain ⟨X, rfl, rfl, rfl, HW, g, hmv, hKK, hB⟩ := A
  exact xg_if_eq X d ht kt kf
theorem ra_icmp_eq (A : xg_A x y KK own cc nL) {a b : Int32} {o : Int} {q : Nat} (d : decode cc pc = .ok (.if_icmp .eq o, 3)) (ht : (pc : Int) + o = (q : Int)) (kt : a = b → xg x y nc ns q L S h) (kf : ¬ a = b → xg x y nc ns (pc + 3) L S h) : xg x y nc ns pc L (.int b :: .int a :: S) h := by
  obtain ⟨X, rfl, rfl, rfl, HW, g, hmv, hKK, hB⟩ := A
  exact xg_icmp_eq X d ht kt kf
theorem ra_if_ne (A : xg_A x y KK own cc nL) {a : Int32} {o : Int} {q : Nat} (d : decode cc pc = .ok (.ifCond .ne o, 3)) (ht : (pc : Int) + o = (q : Int)) (kt : ¬ a = 0 → xg x y nc ns q L S h) (kf : a = 0 → xg x y nc ns (pc + 3) L S h) : xg x y nc ns pc L (.int a :: S) h := by
  obtain ⟨X, rfl, rfl, rfl, HW, g, hmv, hKK, hB⟩ := A
  exact xg_if_ne X d ht kt kf
theorem ra_icmp_ne (A : xg_A x y KK own cc nL) {a b : Int32} {o : Int} {q : Nat} (d : decode cc pc = .ok (.if_icmp .ne o, 3)) (ht : (pc : Int) + o = (q : Int)) (kt : ¬ a = b → xg x y nc ns q L S h) (kf : a = b → xg x y nc ns (pc + 3) L S h) : xg x y nc ns pc L (.int b :: .int a :: S) h := by
  obtain ⟨X, rfl, rfl, rfl, HW, g, hmv, hKK, hB⟩ := A
  exact xg_icmp_ne X d ht kt kf
theorem ra_if_lt (A : xg_A x y KK own cc nL) {a : Int32} {o : Int} {q : Nat} (d : decode cc pc = .ok (.ifCond .lt o, 3)) (ht : (pc : Int) + o = (q : Int)) (kt : a < 0 → xg x y nc ns q L S h) (kf : ¬ a < 0 → xg x y nc ns (pc + 3) L S h) : xg x y nc ns pc L (.int a :: S) h := by
  obtain ⟨X, rfl, rfl, rfl, HW, g, hmv, hKK, hB⟩ := A
  exact xg_if_lt X d ht kt kf
theorem ra_icmp_lt (A : xg_A x y KK own cc nL) {a b : Int32} {o : Int} {q : Nat} (d : decode cc pc = .ok (.if_icmp .lt o, 3)) (ht : (pc : Int) + o = (q : Int)) (kt : a < b → xg x y nc ns q L S h) (kf : ¬ a < b → xg x y nc ns (pc + 3) L S h) : xg x y nc ns pc L (.int b :: .int a :: S) h := by
  obtain ⟨X, rfl, rfl, rfl, HW, g, hmv, hKK, hB⟩ := A
  exact xg_icmp_lt X d ht kt kf
theorem ra_if_ge (A : xg_A x y KK own cc nL) {a : Int32} {o : Int} {q : Nat} (d : decode cc pc = .ok (.ifCond .ge o, 3)) (ht : (pc : Int) + o = (q : Int)) (kt : 0 ≤ a → xg x y nc ns q L S h) (kf : ¬ 0 ≤ a → xg x y nc ns (pc + 3) L S h) : xg x y nc ns pc L (.int a :: S) h := by
  obtain ⟨X, rfl, rfl, rfl, HW, g, hmv, hKK, hB⟩ := A
  exact xg_if_ge X d ht kt kf
theorem ra_icmp_ge (A : xg_A x y KK own cc nL) {a b : Int32} {o : Int} {q : Nat} (d : decode cc pc = .ok (.if_icmp .ge o, 3)) (ht : (pc : Int) + o = (q : Int)) (kt : b ≤ a → xg x y nc ns q L S h) (kf : ¬ b ≤ a → xg x y nc ns (pc + 3) L S h) : xg x y nc ns pc L (.int b :: .int a :: S) h := by
  obtain ⟨X, rfl, rfl, rfl, HW, g, hmv, hKK, hB⟩ := A
  exact xg_icmp_ge X d ht kt kf
theorem ra_if_gt (A : xg_A x y KK own cc nL) {a : Int32} {o : Int} {q : Nat} (d : decode cc pc = .ok (.ifCond .gt o, 3)) (ht : (pc : Int) + o = (q : Int)) (kt : 0 < a → xg x y nc ns q L S h) (kf : ¬ 0 < a → xg x y nc ns (pc + 3) L S h) : xg x y nc ns pc L (.int a :: S) h := by
  obtain ⟨X, rfl, rfl, rfl, HW, g, hmv, hKK, hB⟩ := A
  exact xg_if_gt X d ht kt kf
theorem ra_icmp_gt (A : xg_A x y KK own cc nL) {a b : Int32} {o : Int} {q : Nat} (d : decode cc pc = .ok (.if_icmp .gt o, 3)) (ht : (pc : Int) + o = (q : Int)) (kt : b < a → xg x y nc ns q L S h) (kf : ¬ b < a → xg x y nc ns (pc + 3) L S h) : xg x y nc ns pc L (.int b :: .int a :: S) h := by
  obtain ⟨X, rfl, rfl, rfl, HW, g, hmv, hKK, hB⟩ := A
  exact xg_icmp_gt X d ht kt kf
theorem ra_if_le (A : xg_A x y KK own cc nL) {a : Int32} {o : Int} {q : Nat} (d : decode cc pc = .ok (.ifCond .le o, 3)) (ht : (pc : Int) + o = (q : Int)) (kt : a ≤ 0 → xg x y nc ns q L S h) (kf : ¬ a ≤ 0 → xg x y nc ns (pc + 3) L S h) : xg x y nc ns pc L (.int a :: S) h := by
  obtain ⟨X, rfl, rfl, rfl, HW, g, hmv, hKK, hB⟩ := A
  exact xg_if_le X d ht kt kf
theorem ra_icmp_le (A : xg_A x y KK own cc nL) {a b : Int32} {o : Int} {q : Nat} (d : decode cc pc = .ok (.if_icmp .le o, 3)) (ht : (pc : Int) + o = (q : Int)) (kt : a ≤ b → xg x y nc ns q L S h) (kf : ¬ a ≤ b → xg x y nc ns (pc + 3) L S h) : xg x y nc ns pc L (.int b :: .int a :: S) h := by
  obtain ⟨X, rfl, rfl, rfl, HW, g, hmv, hKK, hB⟩ := A
  exact xg_icmp_le X d ht kt kf
theorem ra_goto (A : xg_A x y KK own cc nL) {o : Int} {q : Nat} (d : decode cc pc = .ok (.goto o, 3)) (ht : (pc : Int) + o = (q : Int)) (k : xg x y nc ns q L S h) : xg x y nc ns pc L S h := by
  obtain ⟨X, rfl, rfl, rfl, HW, g, hmv, hKK, hB⟩ := A
  exact xg_goto X d ht k
theorem ra_idiv (A : xg_A x y KK own cc nL) {a b : Int32} (d : decode cc pc = .ok (.idiv, 1)) (hne : ¬ b = 0) (k : xg x y nc ns (pc + 1) L (.int (a / b) :: S) h) : xg x y nc ns pc L (.int b :: .int a :: S) h := by
  obtain ⟨X, rfl, rfl, rfl, HW, g, hmv, hKK, hB⟩ := A
  exact xg_idiv X d hne k
theorem ra_irem (A : xg_A x y KK own cc nL) {a b : Int32} (d : decode cc pc = .ok (.irem, 1)) (hne : ¬ b = 0) (k : xg x y nc ns (pc + 1) L (.int (a - a / b * b) :: S) h) : xg x y nc ns pc L (.int b :: .int a :: S) h := by
  obtain ⟨X, rfl, rfl, rfl, HW, g, hmv, hKK, hB⟩ := A
  exact xg_irem X d hne k
theorem ra_ldiv (A : xg_A x y KK own cc nL) {a b : Int64} (d : decode cc pc = .ok (.ldiv, 1)) (hne : ¬ b = 0) (k : xg x y nc ns (pc + 1) L (.long (a / b) :: S) h) : xg x y nc ns pc L (.long b :: .long a :: S) h := by
  obtain ⟨X, rfl, rfl, rfl, HW, g, hmv, hKK, hB⟩ := A
  exact xg_ldiv X d hne k
theorem ra_lrem (A : xg_A x y KK own cc nL) {a b : Int64} (d : decode cc pc = .ok (.lrem, 1)) (hne : ¬ b = 0) (k : xg x y nc ns (pc + 1) L (.long (a - a / b * b) :: S) h) : xg x y nc ns pc L (.long b :: .long a :: S) h := by
  obtain ⟨X, rfl, rfl, rfl, HW, g, hmv, hKK, hB⟩ := A
  exact xg_lrem X d hne k
theorem ra_tsOut (A : xg_A x y KK own cc nL) {a : Int32} {df lo hi : Int} {os : Array Int} {n q : Nat} (d : decode cc pc = .ok (.tableswitch df lo hi os, n)) (ha : a.toInt < lo ∨ hi < a.toInt) (ht : (pc : Int) + df = (q : Int)) (k : xg x y nc ns q L S h) : xg x y nc ns pc L (.int a :: S) h := by
  obtain ⟨X, rfl, rfl, rfl, HW, g, hmv, hKK, hB⟩ := A
  exact xg_tsOut X d ha ht k
theorem ra_tsIn (A : xg_A x y KK own cc nL) {a : Int32} {df lo hi o : Int} {os : Array Int} {n q : Nat} (d : decode cc pc = .ok (.tableswitch df lo hi os, n)) (h1 : ¬ a.toInt < lo) (h2 : ¬ hi < a.toInt) (ho : os[(a.toInt - lo).toNat]? = some o) (ht : (pc : Int) + o = (q : Int)) (k : xg x y nc ns q L S h) : xg x y nc ns pc L (.int a :: S) h := by
  obtain ⟨X, rfl, rfl, rfl, HW, g, hmv, hKK, hB⟩ := A
  exact xg_tsIn X d h1 h2 ho ht k
theorem ra_iaload (A : xg_A x y KK own cc nL) {k len : Nat} {i : Int32} (d : decode cc pc = .ok (.iaload, 1)) (hk : k < xw_n y) (hkd : xw_kd y k = .inr (0, 0, len)) (hin : vp_in i len) (kk : xg x y nc ns (pc + 1) L (.int (h.1 k i.toNatClampNeg) :: S) h) : xg x y nc ns pc L (.int i :: .ref k :: S) h := by
  obtain ⟨X, rfl, rfl, rfl, HW, g, hmv, hKK, hB⟩ := A
  exact xg_iaload X g d hk hkd hin kk
theorem ra_baload (A : xg_A x y KK own cc nL) {k len : Nat} {i : Int32} (d : decode cc pc = .ok (.baload, 1)) (hk : k < xw_n y) (hkd : xw_kd y k = .inr (2, 0, len)) (hin : vp_in i len) (kk : xg x y nc ns (pc + 1) L (.int (h.1 k i.toNatClampNeg) :: S) h) : xg x y nc ns pc L (.int i :: .ref k :: S) h := by
  obtain ⟨X, rfl, rfl, rfl, HW, g, hmv, hKK, hB⟩ := A
  exact xg_baload X g d hk hkd hin kk
theorem ra_laload (A : xg_A x y KK own cc nL) {k len : Nat} {i : Int32} (d : decode cc pc = .ok (.laload, 1)) (hk : k < xw_n y) (hkd : xw_kd y k = .inr (1, 1, len)) (hin : vp_in i len) (kk : xg x y nc ns (pc + 1) L (.long (h.2 k i.toNatClampNeg) :: S) h) : xg x y nc ns pc L (.int i :: .ref k :: S) h := by
  obtain ⟨X, rfl, rfl, rfl, HW, g, hmv, hKK, hB⟩ := A
  exact xg_laload X g d hk hkd hin kk
theorem ra_aaload (A : xg_A x y KK own cc nL) {k b t0 len : Nat} {ty : FieldType} {i : Int32} (d : decode cc pc = .ok (.aaload, 1)) (hk : k < xw_n y) (hkd : xw_kd y k = .inr (t0, 2, len)) (hty : xw_tys[t0]? = some (.array ty)) (hin : vp_in i len) (hr : xw_rf y k i.toNatClampNeg = some b) (kk : xg x y nc ns (pc + 1) L (.ref b :: S) h) : xg x y nc ns pc L (.int i :: .ref k :: S) h := by
  obtain ⟨X, rfl, rfl, rfl, HW, g, hmv, hKK, hB⟩ := A
  exact xg_aaload X g d hk hkd hty hin hr kk
theorem ra_iastore (A : xg_A x y KK own cc nL) {k len : Nat} {i a : Int32} (d : decode cc pc = .ok (.iastore, 1)) (hk : k < xw_n y) (hkd : xw_kd y k = .inr (0, 0, len)) (hin : vp_in i len) (kk : xg x y nc ns (pc + 1) L S (xw_I h k i.toNatClampNeg a)) : xg x y nc ns pc L (.int a :: .int i :: .ref k :: S) h := by
  obtain ⟨X, rfl, rfl, rfl, HW, g, hmv, hKK, hB⟩ := A
  exact xg_iastore X g d hk hkd hin kk
theorem ra_bastore (A : xg_A x y KK own cc nL) {k len : Nat} {i a : Int32} (d : decode cc pc = .ok (.bastore, 1)) (hk : k < xw_n y) (hkd : xw_kd y k = .inr (2, 0, len)) (hin : vp_in i len) (kk : xg x y nc ns (pc + 1) L S (xw_I h k i.toNatClampNeg (a.toInt8.toInt32))) : xg x y nc ns pc L (.int a :: .int i :: .ref k :: S) h := by
  obtain ⟨X, rfl, rfl, rfl, HW, g, hmv, hKK, hB⟩ := A
  exact xg_bastore X g d hk hkd hin kk
theorem ra_lastore (A : xg_A x y KK own cc nL) {k len : Nat} {i : Int32} {a : Int64} (d : decode cc pc = .ok (.lastore, 1)) (hk : k < xw_n y) (hkd : xw_kd y k = .inr (1, 1, len)) (hin : vp_in i len) (kk : xg x y nc ns (pc + 1) L S (xw_J h k i.toNatClampNeg a)) : xg x y nc ns pc L (.long a :: .int i :: .ref k :: S) h := by
  obtain ⟨X, rfl, rfl, rfl, HW, g, hmv, hKK, hB⟩ := A
  exact xg_lastore X g d hk hkd hin kk
theorem ra_callV (A : xg_A x y KK own cc nL) {M : xm_T} {n index : Nat} (ok : xm_ok M n) (hlink : Cond.methodLink own index M.1 ∈ xw_tbl) (hinst : Cond.instanceMethod M.1 ∈ xw_tbl) (hsel : Cond.selects M.1.cls M.1 M.1 ∈ xw_tbl) (d : decode cc pc = .ok (.invokevirtual index, 3)) {k ci : Nat} {ks : List Nat} {T : u_T} {N : Nat} (hk : k < xw_n y) (hkd : xw_kd y k = .inl (ci, ks)) (hcl : (xw_cl y)[ci]? = some (M.1.cls, T, N)) {As : List Value} (hn : As.length = n) (hW : (S.map fun v => v.category).sum ≤ 8) (hR : xm_room x nc ns M) (hM : xm_M (xg_l x) y KK M (.ref k :: As) h (xg_K x y nc ns pc L S)) : xg x y nc ns pc L (As.reverse ++ .ref k :: S) h := by
  obtain ⟨X, rfl, rfl, rfl, HW, g, hmv, hKK, hB⟩ := A
  exact xg_callV X HW hmv hKK hB g ok hlink hinst hsel d hk hkd hcl hn hW hR hM
theorem ra_callS (A : xg_A x y KK own cc nL) {M : xm_T} {n index : Nat} (ok : xm_ok M n) (hlink : Cond.methodLink own index M.1 ∈ xw_tbl) (hstat : Cond.static M.1 ∈ xw_tbl) (d : decode cc pc = .ok (.invokestatic index, 3)) {As : List Value} (hn : As.length = n) (hW : (S.map fun v => v.category).sum ≤ 8) (hR : xm_room x nc ns M) (hM : xm_M (xg_l x) y KK M As h (xg_K x y nc ns pc L S)) : xg x y nc ns pc L (As.reverse ++ S) h := by
  obtain ⟨X, rfl, rfl, rfl, HW, g, hmv, hKK, hB⟩ := A
  exact xg_callS X HW hmv hKK hB ok hlink hstat d hn hW hR hM
theorem ra_zret (A : xg_A x y KK own cc nL) {a : Int32} {ty : FieldType} (ow : xg_owes x y X0 (some ty)) (hn : narrow ty (.int a) = .int a) (d : decode cc pc = .ok (.ireturn, 1)) (hX : X0 (.inl (some (.int a))) h nc ns) : xg x y nc ns pc L [.int a] h := by
  obtain ⟨X, rfl, rfl, rfl, HW, g, hmv, hKK, hB⟩ := A
  exact xg_zret X ow hn d hX
theorem ra_iret (A : xg_A x y KK own cc nL) {a : Int32} (ow : xg_owes x y X0 (some .int)) (d : decode cc pc = .ok (.ireturn, 1)) (hX : X0 (.inl (some (.int a))) h nc ns) : xg x y nc ns pc L [.int a] h := by
  obtain ⟨X, rfl, rfl, rfl, HW, g, hmv, hKK, hB⟩ := A
  exact xg_iret X ow d hX
theorem ra_lret (A : xg_A x y KK own cc nL) {a : Int64} (ow : xg_owes x y X0 (some .long)) (d : decode cc pc = .ok (.lreturn, 1)) (hX : X0 (.inl (some (.long a))) h nc ns) : xg x y nc ns pc L [.long a] h := by
  obtain ⟨X, rfl, rfl, rfl, HW, g, hmv, hKK, hB⟩ := A
  exact xg_lret X ow d hX
theorem ra_vret (A : xg_A x y KK own cc nL) (ow : xg_owes x y X0 none) (d : decode cc pc = .ok (.return_, 1)) (hX : X0 (.inl none) h nc ns) : xg x y nc ns pc L [] h := by
  obtain ⟨X, rfl, rfl, rfl, HW, g, hmv, hKK, hB⟩ := A
  exact xg_vret X ow d hX
theorem ra_get (A : xg_A x y KK own cc nL) {k idx ci j t : Nat} {ks : List Nat} {v : Value} (f : xf_ok own idx ci j t (xw_cl y)) (d : decode cc pc = .ok (.getfield idx, 3)) (hk : k < xw_n y) (hkd : xw_kd y k = .inl (ci, ks)) (hj : ks[j]? = some t) (hv : xw_v (xw_ph y) v = xw_f (xw_ph y) t (h.1 k j) (h.2 k j) (xw_rf y k j)) (kk : xg x y nc ns (pc + 3) L (v :: S) h) : xg x y nc ns pc L (.ref k :: S) h := by
  obtain ⟨X, rfl, rfl, rfl, HW, g, hmv, hKK, hB⟩ := A
  exact xg_get X HW g f d hk hkd hj hv kk
theorem ra_getI (A : xg_A x y KK own cc nL) {k idx ci j : Nat} {ks : List Nat} (f : xf_ok own idx ci j 0 (xw_cl y)) (d : decode cc pc = .ok (.getfield idx, 3)) (hk : k < xw_n y) (hkd : xw_kd y k = .inl (ci, ks)) (hj : ks[j]? = some 0) (kk : xg x y nc ns (pc + 3) L (.int (h.1 k j) :: S) h) : xg x y nc ns pc L (.ref k :: S) h := by
  obtain ⟨X, rfl, rfl, rfl, HW, g, hmv, hKK, hB⟩ := A
  exact xg_getI X HW g f d hk hkd hj kk
theorem ra_getJ (A : xg_A x y KK own cc nL) {k idx ci j : Nat} {ks : List Nat} (f : xf_ok own idx ci j 1 (xw_cl y)) (d : decode cc pc = .ok (.getfield idx, 3)) (hk : k < xw_n y) (hkd : xw_kd y k = .inl (ci, ks)) (hj : ks[j]? = some 1) (kk : xg x y nc ns (pc + 3) L (.long (h.2 k j) :: S) h) : xg x y nc ns pc L (.ref k :: S) h := by
  obtain ⟨X, rfl, rfl, rfl, HW, g, hmv, hKK, hB⟩ := A
  exact xg_getJ X HW g f d hk hkd hj kk
theorem ra_getR (A : xg_A x y KK own cc nL) {k idx ci j b : Nat} {ks : List Nat} (f : xf_ok own idx ci j 2 (xw_cl y)) (d : decode cc pc = .ok (.getfield idx, 3)) (hk : k < xw_n y) (hkd : xw_kd y k = .inl (ci, ks)) (hj : ks[j]? = some 2) (hr : xw_rf y k j = some b) (kk : xg x y nc ns (pc + 3) L (.ref b :: S) h) : xg x y nc ns pc L (.ref k :: S) h := by
  obtain ⟨X, rfl, rfl, rfl, HW, g, hmv, hKK, hB⟩ := A
  exact xg_getR X HW g f d hk hkd hj hr kk
theorem ra_putI (A : xg_A x y KK own cc nL) {k idx ci j : Nat} {ks : List Nat} {a : Int32} {C : String} {T : u_T} {N : Nat} {ty : FieldType} (f : xf_ok own idx ci j 0 (xw_cl y)) (hcl : (xw_cl y)[ci]? = some (C, T, N)) (hfin : (T j).2.2.2 = false) (hty : parseFieldDescriptor (T j).2.2.1 = some ty) (hn : narrow ty (.int a) = .int a) (hft : fits ty (.int a) = true) (d : decode cc pc = .ok (.putfield idx, 3)) (hk : k < xw_n y) (hkd : xw_kd y k = .inl (ci, ks)) (hj : ks[j]? = some 0) (kk : xg x y nc ns (pc + 3) L S (xw_I h k j a)) : xg x y nc ns pc L (.int a :: .ref k :: S) h := by
  obtain ⟨X, rfl, rfl, rfl, HW, g, hmv, hKK, hB⟩ := A
  exact xg_putI X HW g f hcl hfin hty hn hft d hk hkd hj kk
theorem ra_putJ (A : xg_A x y KK own cc nL) {k idx ci j : Nat} {ks : List Nat} {a : Int64} {C : String} {T : u_T} {N : Nat} (f : xf_ok own idx ci j 1 (xw_cl y)) (hcl : (xw_cl y)[ci]? = some (C, T, N)) (hfin : (T j).2.2.2 = false) (hty : parseFieldDescriptor (T j).2.2.1 = some .long) (d : decode cc pc = .ok (.putfield idx, 3)) (hk : k < xw_n y) (hkd : xw_kd y k = .inl (ci, ks)) (hj : ks[j]? = some 1) (kk : xg x y nc ns (pc + 3) L S (xw_J h k j a)) : xg x y nc ns pc L (.long a :: .ref k :: S) h := by
  obtain ⟨X, rfl, rfl, rfl, HW, g, hmv, hKK, hB⟩ := A
  exact xg_putJ X HW g f hcl hfin hty d hk hkd hj kk
theorem ra_ldc (A : xg_A x y KK own cc nL) {idx : Nat} {a : Int32} (hc : Cond.constant own idx a ∈ xw_tbl) (d : decode cc pc = .ok (.ldc idx, 2)) (kk : xg x y nc ns (pc + 2) L (.int a :: S) h) : xg x y nc ns pc L S h := by
  obtain ⟨X, rfl, rfl, rfl, HW, g, hmv, hKK, hB⟩ := A
  exact xg_ldc X HW hc d kk
theorem ra_ldc2 (A : xg_A x y KK own cc nL) {idx : Nat} {a : Int64} (hc : Cond.constantLong own idx a ∈ xw_tbl) (d : decode cc pc = .ok (.ldc2_w idx, 3)) (kk : xg x y nc ns (pc + 3) L (.long a :: S) h) : xg x y nc ns pc L S h := by
  obtain ⟨X, rfl, rfl, rfl, HW, g, hmv, hKK, hB⟩ := A
  exact xg_ldc2 X HW hc d kk
theorem ra_gets (A : xg_A x y KK own cc nL) {k idx : Nat} {C n d0 : String} (hZ : va_Z C n d0 (.ref (xw_ph y k)) (xw_A y) (xg_s x) (xg_s x).heap) (hlink : Cond.fieldLink own idx C n d0 ∈ xw_tbl) (d : decode cc pc = .ok (.getstatic idx, 3)) (kk : xg x y nc ns (pc + 3) L (.ref k :: S) h) : xg x y nc ns pc L S h := by
  obtain ⟨X, rfl, rfl, rfl, HW, g, hmv, hKK, hB⟩ := A
  exact xg_gets X HW hZ hlink d kk
theorem ra_getsN (A : xg_A x y KK own cc nL) {k idx : Nat} {C n d0 host : String} (hZ : va_Z C n d0 (.ref (xw_ph y k)) (xw_A y) (xg_s x) (xg_s x).heap) (hlink : va_Nw (.fieldLinkNest own idx C n d0 host) (xg_s x)) (d : decode cc pc = .ok (.getstatic idx, 3)) (kk : xg x y nc ns (pc + 3) L (.ref k :: S) h) : xg x y nc ns pc L S h := by
  obtain ⟨X, rfl, rfl, rfl, HW, g, hmv, hKK, hB⟩ := A
  exact xg_getsN X hZ hlink d kk
theorem ra_sti (A : xg_A x y KK own cc nL) {k N : Nat} {f : Nat → Value} {i a : Int32} (hT : va_T .int (xw_ph y k) N f (xw_A y) (xg_s x) (xg_s x).heap) (hin : vp_in i N) (hv : f i.toNatClampNeg = .int a) (d : decode cc pc = .ok (.iaload, 1)) (kk : xg x y nc ns (pc + 1) L (.int a :: S) h) : xg x y nc ns pc L (.int i :: .ref k :: S) h := by
  obtain ⟨X, rfl, rfl, rfl, HW, g, hmv, hKK, hB⟩ := A
  exact xg_sti X hT hin hv d kk
theorem ra_stl (A : xg_A x y KK own cc nL) {k N : Nat} {f : Nat → Value} {i : Int32} {a : Int64} (hT : va_T .long (xw_ph y k) N f (xw_A y) (xg_s x) (xg_s x).heap) (hin : vp_in i N) (hv : f i.toNatClampNeg = .long a) (d : decode cc pc = .ok (.laload, 1)) (kk : xg x y nc ns (pc + 1) L (.long a :: S) h) : xg x y nc ns pc L (.int i :: .ref k :: S) h := by
  obtain ⟨X, rfl, rfl, rfl, HW, g, hmv, hKK, hB⟩ := A
  exact xg_stl X hT hin hv d kk
theorem ra_stlen (A : xg_A x y KK own cc nL) {k N : Nat} {ty : FieldType} {f : Nat → Value} {a : Int32} (hT : va_T ty (xw_ph y k) N f (xw_A y) (xg_s x) (xg_s x).heap) (hv : Int32.ofNat N = a) (d : decode cc pc = .ok (.arraylength, 1)) (kk : xg x y nc ns (pc + 1) L (.int a :: S) h) : xg x y nc ns pc L (.ref k :: S) h := by
  obtain ⟨X, rfl, rfl, rfl, HW, g, hmv, hKK, hB⟩ := A
  exact xg_stlen X hT hv d kk
end RA
