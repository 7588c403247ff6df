/-! WHILE THE OBJECTS ARE MADE: the first n cells are there; r says which references are set -/
def yz (u : xu_T) (n : Nat) (r : Nat → Nat → Option Nat) : xw_T := (u.1, vcl, u.2.1, u.2.2.1, kd0, n, u.2.2.2, r)
/-- the cells lie one behind the other -/
def uz (u : xu_T) : Prop := ∀ k, k < 157 → u.2.2.1 k = u.2.2.2 + k
/-- a reference is set; an array of N rows is made -/
def rs (r : Nat → Nat → Option Nat) (k j b : Nat) : Nat → Nat → Option Nat := va_up r k (va_up (r k) j (some b))
def rm (r : Nat → Nat → Option Nat) (n N : Nat) : Nat → Nat → Option Nat := va_up r n (fun j => if j < N then some (n + 1 + j) else none)
/-- the tables hold nothing of the cells from n on -/
def ZT (n : Nat) (h : xw_H) : Prop := ∀ k, n ≤ k → (∀ j, h.1 k j = 0) ∧ ∀ j, h.2 k j = 0
def ZR (n : Nat) (r : Nat → Nat → Option Nat) : Prop := ∀ k, n ≤ k → ∀ j, r k j = none
theorem ZT.mono {n m : Nat} {h : xw_H} (H : ZT n h) (hm : n ≤ m) : ZT m h := fun k hk => H k (Nat.le_trans hm hk)
theorem ZR.mono {n m : Nat} {r : Nat → Nat → Option Nat} (H : ZR n r) (hm : n ≤ m) : ZR m r := fun k hk => H k (Nat.le_trans hm hk)
theorem ZT.I {n k j : Nat} {h : xw_H} {x : Int32} (H : ZT n h) (hk : k < n) : ZT n (xw_I h k j x) := fun a ha => ⟨fun q => by
  show va_up h.1 k _ a q = 0
  rw [va_up_ne _ _ (by omega)]
  exact (H a ha).1 q, (H a ha).2⟩
theorem ZT.J {n k j : Nat} {h : xw_H} {x : Int64} (H : ZT n h) (hk : k < n) : ZT n (xw_J h k j x) := fun a ha => ⟨(H a ha).1, fun q => by
  show va_up h.2 k _ a q = 0
  rw [va_up_ne _ _ (by omega)]
  exact (H a ha).2 q⟩
theorem ZR.s {n k j b : Nat} {r : Nat → Nat → Option Nat} (H : ZR n r) (hk : k < n) : ZR n (rs r k j b) := fun a ha q => by
  show va_up r k _ a q = none
  rw [va_up_ne _ _ (by omega)]
  exact H a ha q
theorem ZR.m {n k N : Nat} {r : Nat → Nat → Option Nat} (H : ZR n r) (hk : k < n) : ZR n (rm r k N) := fun a ha q => by
  show va_up r k _ a q = none
  rw [va_up_ne _ _ (by omega)]
  exact H a ha q
theorem yz_G {u : xu_T} {s : State} {n : Nat} {r : Nat → Nat → Option Nat} (hn : n ≤ 157) (g : xw_G (y0 u) s) : xw_G (yz u n r) s :=
  ⟨⟨fun i j hi hj => g.1.1 i j (Nat.lt_of_lt_of_le hi hn) (Nat.lt_of_lt_of_le hj hn), fun k hk => g.1.2 k (Nat.lt_of_lt_of_le hk hn)⟩, g.2.1, g.2.2⟩
theorem yz_A {x : xg_T} {u : xu_T} {own : String} {cc : ByteArray} {nL : Nat} (A : xg_A x (y0 u) (KK0 u) own cc nL) (n : Nat) (r : Nat → Nat → Option Nat) (hn : n ≤ 157) : xg_A x (yz u n r) (KK0 u) own cc nL :=
  ⟨A.1, A.2.1, A.2.2.1, A.2.2.2.1, A.2.2.2.2.1, yz_G hn A.2.2.2.2.2.1, A.2.2.2.2.2.2.1, A.2.2.2.2.2.2.2.1, A.2.2.2.2.2.2.2.2⟩
theorem yz_size {p : Program} {l : Launch} {e : Env} {R : Room} {s : State} {m : MethodId} {args : Array Value} {below : List Frame} {meth : Method} {c : Code} {T : State} {locs : List Loc} {nc ns : Nat} {u : xu_T} {n : Nat} {r : Nat → Nat → Option Nat} {h : xw_H} (St : Stand p l e R s m args below meth c T locs nc ns) (hu : uz u) (hn : n ≤ 157) (hB : u.2.2.2 ≤ s.heap.size) (hs : s.heap.size + nc = u.2.2.2 + n) (hP : xw_P (yz u n r) h T.heap) : T.heap.size = u.2.2.2 + n := by
  have h1 := St.heapSize
  have h2 := St.heapGrown
  rcases Nat.eq_zero_or_pos n with h0 | h0
  · omega
  · have h3 := (hP (n - 1) _ (xw_get (y := yz u n r) (k := n - 1) (show n - 1 < n by omega))).lt
    have h4 : u.2.2.1 (n - 1) < T.heap.size := h3
    rw [hu (n - 1) (by omega)] at h4
    omega
theorem yz_succ (u : xu_T) (n : Nat) (r : Nat → Nat → Option Nat) (h : xw_H) : xw_W (yz u (n + 1) r) h = xw_W (yz u n r) h ++ [(u.2.2.1 n, xw_ce (yz u n r) h n)] := by
  show (List.range (n + 1)).map _ = (List.range n).map _ ++ _
  rw [List.range_succ, List.map_append]
  rfl
theorem yz_grow {u : xu_T} {n : Nat} {r : Nat → Nat → Option Nat} {h : xw_H} {H H1 : Heap} (hP : xw_P (yz u n r) h H) (o1 : ∀ q : Nat, q < H.size → H1[q]? = H[q]?) (hnew : va_at u.1 vcl (u.2.2.1 n, xw_ce (yz u n r) h n) H1) : xw_P (yz u (n + 1) r) h H1 := by
  unfold xw_P
  rw [yz_succ]
  have hP' : va_P u.1 vcl (xw_W (yz u n r) h) H := hP
  refine (hP'.kept fun k x hx => o1 x.1 ((hP' k x hx).lt)).app (fun k x hx => ?_)
  have hz : k < 1 := (List.getElem?_eq_some_iff.mp hx).1
  rw [show k = 0 by omega] at hx
  cases hx
  exact hnew
section RZ
variable {x : xg_T} {u : xu_T} {own : String} {cc : ByteArray} {nL n nc ns pc : Nat} {r : Nat → Nat → Option Nat} {L : List (Option Value)} {S : List Value} {h : xw_H}
theorem rz_new (A : xg_A x (yz u n r) (KK0 u) own cc nL) (hu : uz u) (hs : (xg_s x).heap.size + nc = u.2.2.2 + n) {idx ci N : Nat} {C : String} {F : u_T} {ks : List Nat} {ty : Nat → FieldType}
    (hn : n < 157) (hkd : kd0 n = .inl (ci, ks)) (hcl : vcl[ci]? = some (C, F, N)) (hN : ks.length = N) (hin : ∀ w ∈ u_ws C F N, w ∈ xw_tbl) (hty : ∀ k, k < N → parseFieldDescriptor (F k).2.2.1 = some (ty k)) (hdef : ∀ j, j < N → defaultValue (ty j) = xw_f (fun q => q) (ks.getD j 0) 0 0 none)
    (hlink : Cond.classLink own idx C ∈ xw_tbl) (hinst : Cond.instantiable C N ∈ xw_tbl) (hini : Cond.initialized C ∈ xw_tbl) (zt : ZT n h) (zr : ZR n r) (hR : nc + 1 ≤ (xm_R x).cells ∧ ns + N ≤ (xm_R x).slots) (d : decode cc pc = .ok (.new idx, 3))
    (k : xg x (yz u (n + 1) r) (nc + 1) (ns + N) (pc + 3) L (.ref n :: S) h) : xg x (yz u n r) nc ns pc L S h := by
  obtain ⟨p, l, e, R, s, m, args, below, meth, c, Q, cc', own', nL'⟩ := x
  obtain ⟨⟨hx, hb, hml, hown⟩, hcc, ho, hnl, HW, g, hmv, hKK, hB⟩ := A
  intro H locs ls hP hS hL T0 hT St
  have hz : H.size = u.2.2.2 + n := by subst hT; exact yz_size St hu (Nat.le_of_lt hn) hB hs hP
  have hts : ∀ w ∈ xw_tbl, w.before args s = true := HW
  have hKn := g.2.1.1 ci _ hcl
  have hc2 : cc' = cc := hcc
  have ho2 : own' = own := ho
  subst hc2
  subst ho2
  suffices key : W p l e R s m args below meth c H locs nc ns Q (F0 m pc ls (S.map (xw_v u.2.2.1))) from key T0 hT St
  refine W.newcK hx hb hown (hts _ hlink) (hts _ hinst) (hts _ hini) rfl d hR.1 hR.2 hKn.2.1 hz (fun H1 kC hkC e1 z1 o1 => ?_)
  have hP1 : xw_P (yz u (n + 1) r) h H1 := by
    refine yz_grow hP (fun q hq => o1 q (by omega)) ?_
    unfold xw_ce
    show va_at u.1 vcl (u.2.2.1 n, xw_E u.2.2.1 u.2.1 (kd0 n) (h.1 n) (h.2 n) (r n)) H1
    rw [hkd, hu n hn]
    refine ⟨_, hcl, (u_born ty hts hin hKn hkC e1 hty).to (fun j hj => ?_)⟩
    have hj' : j < N := hj
    show defaultValue (ty j) = ((List.range ks.length).map fun j => xw_f u.2.2.1 (ks.getD j 0) (h.1 n j) (h.2 n j) (r n j)).getD j .null
    rw [List.getD_eq_getElem?_getD, List.getElem?_map, List.getElem?_range (by omega), hdef j hj']
    show xw_f (fun q => q) (ks.getD j 0) 0 0 none = xw_f u.2.2.1 (ks.getD j 0) (h.1 n j) (h.2 n j) (r n j)
    rw [(zt n (Nat.le_refl n)).1 j, (zt n (Nat.le_refl n)).2 j, zr n (Nat.le_refl n) j]
    rfl
  have q := k H1 locs ls hP1 ⟨Nat.le_trans hS.1 (by omega), fun q h1 h2 => (o1 q (by have := hS.1; omega)).trans (hS.2.1 q h1 h2), hS.2.2⟩ hL
  have q2 : W p l e R s m args below meth c H1 locs (nc + 1) (ns + N) Q (F0 m (pc + 3) ls (.ref (u.2.2.1 n) :: S.map (xw_v u.2.2.1))) := q
  rw [hu n hn] at q2
  exact q2
/-- an array of ints, of longs, of bytes is made -/
theorem rz_newa (A : xg_A x (yz u n r) (KK0 u) own cc nL) (hu : uz u) (hs : (xg_s x).heap.size + nc = u.2.2.2 + n) {atype : ArrayType} {ty : FieldType} {t0 t N : Nat} {a : Int32}
    (hty : newarray.typeOf atype = ty) (hat : xw_tys[t0]? = some ty) (hRA : ∀ (U : State) (cA : ClassId), va_RA U cA ty → U.vm.findClass ("[" ++ ty.toString) = some cA) (hn : n < 157) (hkd : kd0 n = .inr (t0, t, N)) (hva : ∀ (cA : ClassId) (f : Nat → Option Nat), (∀ j, f j = none) → vp_cell cA (N, xw_c u.2.2.1 t (fun _ => 0) (fun _ => 0) f) = arrV cA N (fun _ => defaultValue ty))
    (hacl : Cond.arrayClass ty ∈ xw_tbl) (h0 : ¬ a < 0) (hN : a.toNatClampNeg = N) (hby : N * componentBytes ty ≤ 536870912) (zt : ZT n h) (zr : ZR n r) (hR : nc + 1 ≤ (xm_R x).cells ∧ ns + N ≤ (xm_R x).slots) (d : decode cc pc = .ok (.newarray atype, 2))
    (k : xg x (yz u (n + 1) r) (nc + 1) (ns + N) (pc + 2) L (.ref n :: S) h) : xg x (yz u n r) nc ns pc L (.int a :: S) h := by
  obtain ⟨p, l, e, R, s, m, args, below, meth, c, Q, cc', own', nL'⟩ := x
  obtain ⟨⟨hx, hb, hml, hown⟩, hcc, ho, hnl, HW, g, hmv, hKK, hB⟩ := A
  intro H locs ls hP hS hL T0 hT St
  have hz : H.size = u.2.2.2 + n := by subst hT; exact yz_size St hu (Nat.le_of_lt hn) hB hs hP
  have hts : ∀ w ∈ xw_tbl, w.before args s = true := HW
  have hc2 : cc' = cc := hcc
  subst hc2
  subst hty
  suffices key : W p l e R s m args below meth c H locs nc ns Q (F0 m pc ls (.int a :: S.map (xw_v u.2.2.1))) from key T0 hT St
  refine va_newaK hx hb (hts _ hacl) rfl d rfl h0 hN hby hR.1 hR.2 hz (fun H1 cA e1 z1 o1 _ hNm => ?_)
  have hcA : cA = ((xw_ty (yz u n r)).getD t0 (0, .int)).1 := Option.some.inj (hNm.symm.trans (hRA _ _ (g.2.1.2 t0 _ (xw_tyAt g hat)).2))
  have hP1 : xw_P (yz u (n + 1) r) h H1 := by
    refine yz_grow hP (fun q hq => o1 q (by omega)) ?_
    unfold xw_ce
    show va_at u.1 vcl (u.2.2.1 n, xw_E u.2.2.1 u.2.1 (kd0 n) (h.1 n) (h.2 n) (r n)) H1
    rw [hkd, hu n hn]
    show H1[u.2.2.2 + n]? = some (vp_cell (u.2.1.getD t0 (0, .int)).1 (N, xw_c u.2.2.1 t (h.1 n) (h.2 n) (r n)))
    rw [show h.1 n = fun _ => 0 from funext (zt n (Nat.le_refl n)).1, show h.2 n = fun _ => 0 from funext (zt n (Nat.le_refl n)).2, hva _ _ (zr n (Nat.le_refl n)), e1, hcA]
    rfl
  have q := k H1 locs ls hP1 ⟨Nat.le_trans hS.1 (by omega), fun q h1 h2 => (o1 q (by have := hS.1; omega)).trans (hS.2.1 q h1 h2), hS.2.2⟩ hL
  have q2 : W p l e R s m args below meth c H1 locs (nc + 1) (ns + N) Q (F0 m (pc + 2) ls (.ref (u.2.2.1 n) :: S.map (xw_v u.2.2.1))) := q
  rw [hu n hn] at q2
  exact q2
end RZ
theorem vj_I {φ : Nat → Nat} {N : Nat} (cA : ClassId) (f : Nat → Option Nat) (_ : ∀ j, f j = none) : vp_cell cA (N, xw_c φ 0 (fun _ => 0) (fun _ => 0) f) = arrV cA N (fun _ => defaultValue .int) := rfl
theorem vj_B {φ : Nat → Nat} {N : Nat} (cA : ClassId) (f : Nat → Option Nat) (_ : ∀ j, f j = none) : vp_cell cA (N, xw_c φ 0 (fun _ => 0) (fun _ => 0) f) = arrV cA N (fun _ => defaultValue .byte) := rfl
theorem vj_J {φ : Nat → Nat} {N : Nat} (cA : ClassId) (f : Nat → Option Nat) (_ : ∀ j, f j = none) : vp_cell cA (N, xw_c φ 1 (fun _ => 0) (fun _ => 0) f) = arrV cA N (fun _ => defaultValue .long) := rfl
theorem arrV_congr {c : ClassId} {N : Nat} {f g : Nat → Value} (h : ∀ j, j < N → f j = g j) : arrV c N f = arrV c N g := by
  unfold arrV
  congr 2
  funext j
  exact h j.val j.isLt
section RY
variable {x : xg_T} {u : xu_T} {own : String} {cc : ByteArray} {nL n nc ns pc : Nat} {r : Nat → Nat → Option Nat} {L : List (Option Value)} {S : List Value} {h : xw_H}
theorem rz_multi (A : xg_A x (yz u n r) (KK0 u) own cc nL) (hu : uz u) (hs : (xg_s x).heap.size + nc = u.2.2.2 + n) {idx : Nat} {ty : FieldType} {t0 t1 t N M : Nat} {a b : Int32}
    (hat0 : xw_tys[t0]? = some (.array ty)) (hat1 : xw_tys[t1]? = some ty) (hRA : ∀ (U : State) (cA : ClassId), va_RA U cA ty → U.vm.findClass ("[" ++ ty.toString) = some cA) (hstr : (FieldType.array ty).toString = "[" ++ ty.toString)
    (hn : n + 1 + N ≤ 157) (hkd : kd0 n = .inr (t0, 2, N)) (hkdr : ∀ j, j < N → kd0 (n + 1 + j) = .inr (t1, t, M)) (hva : ∀ (cA : ClassId) (f : Nat → Option Nat), (∀ j, f j = none) → vp_cell cA (M, xw_c u.2.2.1 t (fun _ => 0) (fun _ => 0) f) = arrV cA M (fun _ => defaultValue ty))
    (hlink : Cond.classLink own idx ("[" ++ (FieldType.array ty).toString) ∈ xw_tbl) (hov : ∀ a : Array Value, (Cond.arrayOver (.array ty)).before a (xg_s x) = true) (hacl : Cond.arrayClass ty ∈ xw_tbl)
    (ha : ¬ a < 0) (hb0 : ¬ b < 0) (hN : a.toNatClampNeg = N) (hM : b.toNatClampNeg = M) (hsm : N ≤ 1000 ∧ M ≤ 10000) (hdf : fits ty (defaultValue ty) = true) (hdd : (defaultValue ty).isDefault = true) (zt : ZT n h) (zr : ZR n r) (hR : nc + (1 + N) ≤ (xm_R x).cells ∧ ns + (N + N * M) ≤ (xm_R x).slots) (d : decode cc pc = .ok (.multianewarray idx 2, 4))
    (k : xg x (yz u (n + 1 + N) (rm r n N)) (nc + 1 + N) (ns + N + N * M) (pc + 4) L (.ref n :: S) h) : xg x (yz u n r) nc ns pc L (.int b :: .int a :: S) h := by
  obtain ⟨p, l, e, R, s, m, args, below, meth, c, Q, cc', own', nL'⟩ := x
  obtain ⟨⟨hx, hb, hml, hown⟩, hcc, ho, hnl, HW, g, hmv, hKK, hB⟩ := A
  intro H locs ls hP hS hL T0 hT St
  subst hT
  have hz : T0.heap.size = u.2.2.2 + n := yz_size St hu (by omega) hB hs hP
  have hts : ∀ w ∈ xw_tbl, w.before args s = true := HW
  have hc2 : cc' = cc := hcc
  have ho2 : own' = own := ho
  subst hc2
  subst ho2
  subst hN
  subst hM
  obtain ⟨vm₁, cA, comp, LL, hW, hfA, hfC, X1, hLL, st⟩ := mu_sem St hx hown (hts _ hlink) (hov args) hstr (hts _ hacl) (g := F0 m pc ls (.int b :: .int a :: S.map (xw_v u.2.2.1))) rfl (by rw [hb]; exact d) rfl ha hb0 rfl rfl hsm.1 hsm.2 hdf hR.1 hR.2
  have f1 := mu_size (T := T0.setVm vm₁) (cA := cA) (cB := comp) (N := a.toNatClampNeg) (M := b.toNatClampNeg) (dv := defaultValue ty) a.toNatClampNeg
  have f2 := mu_outer (T := T0.setVm vm₁) (cA := cA) (cB := comp) (N := a.toNatClampNeg) (M := b.toNatClampNeg) (dv := defaultValue ty) a.toNatClampNeg
  have fo := fun (q : Nat) (hq : q < T0.heap.size) => mu_old (T := T0.setVm vm₁) (cA := cA) (cB := comp) (N := a.toNatClampNeg) (M := b.toNatClampNeg) (dv := defaultValue ty) (q := q) hq a.toNatClampNeg
  have fi := fun (j : Nat) (hj : j < a.toNatClampNeg) => mu_inner (T := T0.setVm vm₁) (cA := cA) (cB := comp) (N := a.toNatClampNeg) (M := b.toNatClampNeg) (dv := defaultValue ty) a.toNatClampNeg j hj
  have hs0 : (T0.setVm vm₁).heap.size = T0.heap.size := rfl
  rw [hs0] at f1 f2
  have hcA : cA = (u.2.1.getD t0 (0, .int)).1 := Option.some.inj (hfA.symm.trans (g.2.1.2 t0 _ (xw_tyAt g hat0)).2)
  have hcB : comp = (u.2.1.getD t1 (0, .int)).1 := by
    rw [hstr] at hfC
    exact Option.some.inj (hfC.symm.trans (hRA _ _ (g.2.1.2 t1 _ (xw_tyAt g hat1)).2))
  generalize hF : mu_T (T0.setVm vm₁) cA comp a.toNatClampNeg b.toNatClampNeg (defaultValue ty) a.toNatClampNeg = T1 at *
  have hP1 : xw_P (yz u (n + 1 + a.toNatClampNeg) (rm r n a.toNatClampNeg)) h T1.heap := by
    intro k9 q9 hq9
    have lt : k9 < n + 1 + a.toNatClampNeg := by
      have h1 := (List.getElem?_eq_some_iff.mp hq9).1
      rw [xw_len] at h1
      exact h1
    rw [xw_get lt] at hq9
    cases hq9
    show va_at u.1 vcl (u.2.2.1 k9, xw_E u.2.2.1 u.2.1 (kd0 k9) (h.1 k9) (h.2 k9) (rm r n a.toNatClampNeg k9)) T1.heap
    rcases Nat.lt_trichotomy k9 n with h9 | h9 | h9
    · rw [show rm r n a.toNatClampNeg k9 = r k9 from va_up_ne _ _ (by omega)]
      have h1 := hP k9 _ (xw_get (y := yz u n r) h9)
      exact h1.kept (fo _ h1.lt)
    · subst h9
      rw [hkd, show rm r k9 a.toNatClampNeg k9 = _ from va_up_self _ _ _]
      show T1.heap[u.2.2.1 k9]? = some (arrV (u.2.1.getD t0 (0, .int)).1 a.toNatClampNeg (fun q => va_rf ((if q < a.toNatClampNeg then some (k9 + 1 + q) else none).map u.2.2.1)))
      rw [hu k9 (by omega), ← hz, f2, hcA]
      unfold mu_C
      congr 1
      refine arrV_congr fun j hj => ?_
      rw [if_pos hj, if_pos hj]
      show Value.ref _ = Value.ref (u.2.2.1 (k9 + 1 + j))
      have e8 : T0.heap.size + 1 + j = u.2.2.2 + (k9 + 1 + j) := by omega
      rw [hu _ (by omega)]
      exact congrArg Value.ref e8
    · have hj : k9 - n - 1 < a.toNatClampNeg := by omega
      have e9 : k9 = n + 1 + (k9 - n - 1) := by omega
      have hk9 : kd0 k9 = .inr (t1, t, b.toNatClampNeg) := by
        have q9 := hkdr _ hj
        rw [← e9] at q9
        exact q9
      have h2 := fi _ hj
      rw [hs0, hz] at h2
      rw [show rm r n a.toNatClampNeg k9 = r k9 from va_up_ne _ _ (by omega), hk9, hu k9 (by omega)]
      show T1.heap[u.2.2.2 + k9]? = some (vp_cell (u.2.1.getD t1 (0, .int)).1 (b.toNatClampNeg, xw_c u.2.2.1 t (h.1 k9) (h.2 k9) (r k9)))
      rw [show h.1 k9 = fun _ => 0 from funext (zt k9 (by omega)).1, show h.2 k9 = fun _ => 0 from funext (zt k9 (by omega)).2, hva _ _ (zr k9 (by omega)), ← hcB]
      rw [show u.2.2.2 + k9 = u.2.2.2 + n + 1 + (k9 - n - 1) by omega]
      exact h2
  have q := k T1.heap (locs ++ LL) ls hP1 ⟨Nat.le_trans hS.1 (by omega), fun q h1 h2 => (fo q (by have := hS.1; omega)).trans (hS.2.1 q h1 h2), fun q h1 => by
    rcases List.mem_append.mp h1 with h2 | h2
    · exact hS.2.2 q h2
    · show u.2.2.2 ≤ q.base
      rw [hLL q h2]; omega⟩ hL T1 rfl X1
  obtain ⟨t9, a1, b1⟩ := q
  have a2 : Steps p.tables e below (T1.setTop (F0 m (pc + 4) ls (.ref (u.2.2.1 n) :: S.map (xw_v u.2.2.1)))) t9 := a1
  rw [hu n (by omega), ← hz] at a2
  exact ⟨t9, st t9 a2, b1⟩
theorem xw_setR {k j b ci : Nat} {ks : List Nat} (hk : k < n) (hkd : kd0 k = .inl (ci, ks)) (hj : ks[j]? = some 2) : (xw_W (yz u n r) h).set k (u.2.2.1 k, .inr (ci, (xw_fs (yz u n r) h k ks).set j (.ref (u.2.2.1 b)))) = xw_W (yz u n (rs r k j b)) h := by
  have hl : j < ks.length := (List.getElem?_eq_some_iff.mp hj).1
  apply List.ext_getElem?
  intro a
  rw [List.getElem?_set]
  by_cases ha : a < n
  · rw [xw_get (y := yz u n (rs r k j b)) (show a < xw_n (yz u n (rs r k j b)) from ha)]
    by_cases hka : k = a
    · subst hka
      rw [if_pos rfl, xw_len, if_pos (show k < xw_n (yz u n r) from ha)]
      show some (u.2.2.1 k, _) = some (u.2.2.1 k, xw_E u.2.2.1 u.2.1 (kd0 k) (h.1 k) (h.2 k) (rs r k j b k))
      rw [hkd]
      show some (u.2.2.1 k, Sum.inr (ci, _)) = some (u.2.2.1 k, Sum.inr (ci, (List.range ks.length).map fun i => xw_f u.2.2.1 (ks.getD i 0) (h.1 k i) (h.2 k i) (rs r k j b k i)))
      congr 4
      apply List.ext_getElem?
      intro i
      rw [List.getElem?_set]
      unfold xw_fs
      rw [List.length_map, List.length_range, List.getElem?_map, List.getElem?_map]
      by_cases hji : j = i
      · subst hji
        rw [if_pos rfl, if_pos hl, List.getElem?_range hl]
        show some _ = some (xw_f u.2.2.1 (ks.getD j 0) (h.1 k j) (h.2 k j) (rs r k j b k j))
        rw [List.getD_eq_getElem?_getD, hj, show rs r k j b k j = some b from by unfold rs; rw [va_up_self, va_up_self]]
        rfl
      · rw [if_neg hji]
        by_cases hi : i < ks.length
        · rw [List.getElem?_range hi]
          show some (xw_f u.2.2.1 (ks.getD i 0) (h.1 k i) (h.2 k i) (r k i)) = some (xw_f u.2.2.1 (ks.getD i 0) (h.1 k i) (h.2 k i) (rs r k j b k i))
          rw [show rs r k j b k i = r k i from by unfold rs; rw [va_up_self, va_up_ne _ _ (fun q => hji q.symm)]]
        · rw [List.getElem?_eq_none (by rw [List.length_range]; omega)]
          rfl
    · rw [if_neg hka, xw_get (y := yz u n r) (show a < xw_n (yz u n r) from ha)]
      show some (u.2.2.1 a, xw_E u.2.2.1 u.2.1 (kd0 a) (h.1 a) (h.2 a) (r a)) = some (u.2.2.1 a, xw_E u.2.2.1 u.2.1 (kd0 a) (h.1 a) (h.2 a) (rs r k j b a))
      rw [show rs r k j b a = r a from va_up_ne _ _ (fun q => hka q.symm)]
  · have h1 : (xw_W (yz u n (rs r k j b)) h)[a]? = none := List.getElem?_eq_none (by rw [xw_len]; exact Nat.not_lt.mp ha)
    have h2 : (xw_W (yz u n r) h)[a]? = none := List.getElem?_eq_none (by rw [xw_len]; exact Nat.not_lt.mp ha)
    rw [h1, if_neg (by omega), h2]
def xg_nm (x : xg_T) : String := x.2.2.2.2.2.2.2.2.1.name
theorem rz_putR (A : xg_A x (yz u n r) (KK0 u) own cc nL) {k idx ci j b : Nat} {ks : List Nat} {C : String} {F : u_T} {N : Nat} {ty : FieldType} (hin : xg_nm x = "<init>") (f : xf_ok own idx ci j 2 vcl) (hcl : vcl[ci]? = some (C, F, N)) (hfin : (F j).2.2.2 = true) (hdecl : (F j).1 = own) (hty : parseFieldDescriptor (F j).2.2.1 = some ty) (hnr : ∀ q : Nat, narrow ty (.ref q) = .ref q) (hft : ∀ q : Nat, fits ty (.ref q) = true) (d : decode cc pc = .ok (.putfield idx, 3)) (hk : k < n) (hkd : kd0 k = .inl (ci, ks)) (hj : ks[j]? = some 2)
    (kk : xg x (yz u n (rs r k j b)) nc ns (pc + 3) L S h) : xg x (yz u n r) nc ns pc L (.ref b :: .ref k :: S) h := by
  obtain ⟨p, l, e, R, s, m, args, below, meth, c, Q, cc', own', nL'⟩ := x
  obtain ⟨⟨hx, hb, hml, hown⟩, hcc, ho, hnl, HW, g, hmv, hKK, hB⟩ := A
  have hc2 : cc' = cc := hcc
  have ho2 : own' = own := ho
  subst hc2
  subst ho2
  obtain ⟨C', T', N', hc, hN, hin2, hlink, ty0, hty0, hnm⟩ := f
  cases hcl.symm.trans hc
  intro H locs ls hP hS hL
  have hts : ∀ w ∈ xw_tbl, w.before args s = true := HW
  have hl : j < (xw_fs (yz u n r) h k ks).length := by unfold xw_fs; rw [List.length_map, List.length_range]; exact (List.getElem?_eq_some_iff.mp hj).1
  refine va_putF (v := .ref (u.2.2.1 b)) hx hb hts hin2 ty0 hty0 hnm hown g.2.1 hP (xw_apart h g.1) hS k (xw_obj (y := yz u n r) hk hkd) hcl j hN (hts _ hlink) (fun _ q => q) hfin hin hdecl hty (hnr _) (hft _) hl d (fun H1 locs1 hP1 _ hS1 => ?_)
  have hP2 : va_P u.1 vcl ((xw_W (yz u n r) h).set k (u.2.2.1 k, .inr (ci, (xw_fs (yz u n r) h k ks).set j (.ref (u.2.2.1 b))))) H1 := hP1
  rw [xw_setR hk hkd hj] at hP2
  exact kk H1 locs1 ls hP2 hS1 hL
/-- Object's own constructor does nothing -/
theorem rz_obj {y : xw_T} {KK : State → Prop} (A : xg_A x y KK own cc nL) {idx a : Nat} (hlink : Cond.methodLink own idx Lib.objectInit ∈ xw_tbl) (hinst : Cond.instanceMethod Lib.objectInit ∈ xw_tbl) (hcode : Cond.code Lib.objectInit ⟨#[0xb1]⟩ 1 none ∈ xw_tbl) (d : decode cc pc = .ok (.invokespecial idx, 3)) (hW : (S.map fun v => v.category).sum ≤ 8) (hR : 1 ≤ (xm_R x).frames ∧ 20 ≤ (xm_R x).locals)
    (k : xg x y nc ns (pc + 3) L S h) : xg x y nc ns pc L (.ref a :: S) h := by
  obtain ⟨p, l, e, R, s, m, args, below, meth, c, Q, cc', own', nL'⟩ := x
  obtain ⟨⟨hx, hb, hml, hown⟩, hcc, ho, hnl, HW, g, hmv, hKK, hB⟩ := A
  have hc2 : cc' = cc := hcc
  have ho2 : own' = own := ho
  subst hc2
  subst ho2
  intro H locs ls hP hS hL
  have hts : ∀ w ∈ xw_tbl, w.before args s = true := HW
  exact W.objInit hx hb hown (hts _ hlink) (hts _ hinst) (hts _ hcode) rfl (hL.1.trans hml.symm) rfl d hR.1 (by show 2 * 0 + _ + 12 ≤ R.locals; rw [xm_cats]; have := hR.2; have : 20 ≤ R.locals := this; omega) (k H locs ls hP hS hL)
end RY
/-! CONTRACTS OF CONSTRUCTORS: the world grows -/
/-- the classes of rows -/
def xz_ao (U : State) : Prop := ∀ a : Array Value, (Cond.arrayOver (.array .int)).before a U = true ∧ (Cond.arrayOver (.array .long)).before a U = true
theorem xz_ao.later {s U : State} (hW : s.WarmedH U.vm) (h : xz_ao s) : xz_ao U := fun a => ⟨oa_later hW.alike (h a).1, oa_later hW.alike (h a).2⟩
def xz_M (l : Launch) (u : xu_T) (n : Nat) (r : Nat → Nat → Option Nat) (n2 : Nat) (r2 : Nat → Nat → Option Nat) (M : xm_T) (as : List Value) (h : xw_H) (X : xc_R → xw_H → Nat → Nat → Prop) : Prop :=
  MetFree l M.1 (headSpec (xm_w M :: xw_tbl) M.2.2.2.2) (fun a U => a = (as.map (xw_v u.2.2.1)).toArray ∧ xw_P (yz u n r) h U.heap ∧ U.heap.size = u.2.2.2 + n ∧ KK0 u U ∧ xz_ao U) (fun _ _ _ _ _ => True) (fun _ st o t => xc_E (yz u n2 r2) X st o t)
def xz_at (x : xg_T) (l : Launch) (u : xu_T) (M : xm_T) (n : Nat) (y2 : xw_T) (X : xc_R → xw_H → Nat → Nat → Prop) : Prop :=
  xg_ok x ∧ xg_W x ∧ KK0 u (xg_s x) ∧ (xg_s x).heap.size = u.2.2.2 + n ∧ xg_owes x y2 X M.2.2.2.1 ∧ xg_l x = l ∧ xm_R x = M.2.2.2.2 ∧ xg_cc x = M.2.1 ∧ xg_own x = M.1.cls ∧ xg_nL x = M.2.2.1 ∧ xg_nm x = M.1.name ∧ xz_ao (xg_s x)
theorem xz_A {x : xg_T} {l : Launch} {u : xu_T} {M : xm_T} {n : Nat} {y2 : xw_T} {X : xc_R → xw_H → Nat → Nat → Prop} (a : xz_at x l u M n y2 X) : ∀ (n' : Nat) (r' : Nat → Nat → Option Nat), n' ≤ 157 → xg_A x (yz u n' r') (KK0 u) M.1.cls M.2.1 M.2.2.1 :=
  yz_A ⟨a.1, a.2.2.2.2.2.2.2.1, a.2.2.2.2.2.2.2.2.1, a.2.2.2.2.2.2.2.2.2.1, a.2.1, a.2.2.1.1, KK0_mv u, a.2.2.1, by rw [a.2.2.2.1]; exact Nat.le_add_right _ _⟩
theorem xz_of {l : Launch} {u : xu_T} {n : Nat} {r : Nat → Nat → Option Nat} {n2 : Nat} {r2 : Nat → Nat → Option Nat} {M : xm_T} {as : List Value} {h : xw_H} {X : xc_R → xw_H → Nat → Nat → Prop} (pad : List (Option Value)) (hpad : ∀ q ∈ pad, q = none) (hl : (xg_in as).length ≤ M.2.2.1) (hy : plainName M.1.cls = true)
    (body : ∀ x : xg_T, xz_at x l u M n (yz u n2 r2) X → xg x (yz u n r) 0 0 0 (xg_in as ++ pad) [] h) : xz_M l u n r n2 r2 M as h X := by
  obtain ⟨z, bytes, maxL, ret, rm⟩ := M
  refine MetFree.of_bodyS (code := bytes) (maxLocals := maxL) (ret := ret) hy ?_ ?_
  · intro args s m h hn
    obtain ⟨meth, c, h1, h2, h3, h4, h5, h6, -, -⟩ := Cond.code_spec hn (atoms_spec (ws := Cond.code z bytes maxL ret :: xw_tbl) h _ List.mem_cons_self)
    exact ⟨meth, c, h1, h2, h3, h4, h5, h6⟩
  · intro p e s m args below meth c s₁ B hml hP _
    obtain ⟨rfl, hPw, hB, hKK, hao⟩ := hP
    have hh0 : s₁.heap = s.heap := by rw [B.state]; rfl
    have hts := atoms_spec (ws := Cond.code z bytes maxL ret :: xw_tbl) B.pre
    have hown : s.vm.findClass z.cls = some m.cls := findClass_of_methodNamed B.named
    have k := body (p, l, e, rm, s, m, (as.map (xw_v u.2.2.1)).toArray, below, meth, c, xc_Q below (yz u n2 r2) X s, bytes, z.cls, maxL)
      ⟨⟨B.exec, B.bytes, hml, hown⟩, fun w hw => hts w (List.mem_cons_of_mem _ hw), hKK, hB, ⟨rfl, B.notSynchronized, B.returns⟩, rfl, rfl, rfl, rfl, rfl, (name_of_methodNamed B.named B.method).1, hao⟩
    have hll : (lg_sl (as.map (xw_v u.2.2.1))).length ≤ maxL := by rw [xg_sl_len]; exact hl
    obtain ⟨t, a1, o, b1, b2, b3⟩ := k s.heap [] _ hPw va_S.rf (xg_in_L u.2.2.1 hpad hll) s₁ hh0 (Stand.of_body B)
    rw [List.map_nil, ← lg_entry_eq] at a1
    exact ⟨t, o, a1, b1, b2, b3⟩
section XZ
variable {l : Launch} {R : Room} {p : Program} {e : Env} {below : List Frame} {s : State} {sargs : Array Value} {len W9 : Nat} {u : xu_T} {n : Nat} {r : Nat → Nat → Option Nat} {n2 : Nat} {r2 : Nat → Nat → Option Nat} {M : xm_T} {as : List Value} {h : xw_H} {P : xw_H → Nat → Nat → Prop}
theorem xz_back (hM : xz_M l u n r n2 r2 M as h (fun o h a b => o = .inl none ∧ P h a b)) {m : MethodId} {meth : Method} {c : Code} {U : State} {Ls : List Loc} {c0 s0 : Nat} (St : Stand p l e R s m sargs below meth c U Ls c0 s0)
    {g : JFrame} (hg : g.method = m) (hsize : g.locals.size = c.maxLocals) {ig : Instr} (hdg : decode c.code g.pc = .ok (ig, len)) (hW : 2 * g.monitorRoom + (g.stack.map fun v => v.category).sum ≤ W9)
    {mk : MethodId} (hn : U.methodNamed? M.1 = some mk) {a : Array Value} (ha : a = (as.map (xw_v u.2.2.1)).toArray) (hpre : (headSpec (xm_w M :: xw_tbl) M.2.2.2.2).pre.before a U = true)
    {methY : Method} {cY : Code} (hmY : U.vm.method? mk = some methY) (hcY : methY.code = some cY) (hlY : cY.maxLocals = M.2.2.1) (hinit : (Cond.initialized M.1.cls).before a U = true)
    (hframes : M.2.2.2.2.frames + 1 ≤ R.frames) (hlocals : W9 + (M.2.2.1 + 11) + M.2.2.2.2.locals ≤ R.locals) (hcc : c0 + M.2.2.2.2.cells ≤ R.cells) (hss : s0 + M.2.2.2.2.slots ≤ R.slots)
    (hP : xw_P (yz u n r) h U.heap) (hB : U.heap.size = u.2.2.2 + n) (hKK : KK0 u (U.calling g mk a)) (hao : xz_ao (U.calling g mk a)) :
    ∃ (h1 : xw_H) (L : List Loc) (k n9 : Nat) (t : State), xw_P (yz u n2 r2) h1 t.heap ∧ U.heap.size ≤ t.heap.size ∧ (∀ q : Nat, q < U.heap.size → ¬ u.2.2.2 ≤ q → t.heap[q]? = U.heap[q]?) ∧ (∀ q ∈ L, u.2.2.2 ≤ q.base) ∧
      Stand p l e R s m sargs below meth c (({ U with heap := t.heap, slotsUsed := t.slotsUsed } : State).setVm t.vm) (Ls ++ L) (c0 + k) (s0 + n9) ∧ P h1 k n9 ∧
      Steps p.tables e below (doInvoke e (U.setTop g) [] mk a).1 ((({ U with heap := t.heap, slotsUsed := t.slotsUsed } : State).setVm t.vm).setTop { g with pc := g.pc + len, stack := g.stack }) := by
  have hA : At U g.method c below := by rw [hg]; exact St.here
  obtain ⟨kY, hkY, -⟩ := className_of_methodNamed hn
  have hinitY : kY.init = .initialized := Cond.initialized_spec (findClass_of_methodNamed hn) hkY hinit
  have happ : (headSpec (xm_w M :: xw_tbl) M.2.2.2.2).appliesLoose M.1 e.platform (U.calling g mk a) = true :=
    Spec.appliesLoose_calling (g := g) hA hdg hn hkY hinitY
      (St.room_calling (g := g) (R' := (headSpec (xm_w M :: xw_tbl) M.2.2.2.2).room) hsize hmY hcY hframes (by rw [hlY]; show _ + _ + M.2.2.2.2.locals ≤ _; omega) hcc hss) hpre
  obtain ⟨mid, hmid⟩ := hA.above
  have hfr : (U.setTop g).frames = (.java g :: mid) ++ below := by rw [State.frames_setTop' g hA.top, hmid]; rfl
  obtain ⟨o, t, hsteps, -, hend, hq⟩ := Steps.callFree hM p St.admits St.cas St.clock (acts := []) hfr happ ⟨ha, hP, hB, hKK, hao⟩ trivial
  have hq' : xc_E (yz u n2 r2) (fun o h a b => o = .inl none ∧ P h a b) (U.calling g mk a) o t := hq
  rw [State.frames_setTop' g hA.top] at hend
  obtain ⟨h1, L, k, n9, hP1, hF, hL, hW₂, ⟨e2, q2, q3, q4, q5, q6⟩, hout⟩ := hq'
  have e3 : t = ({ (U.calling g mk a).setFrames t.frames with heap := t.heap, slotsUsed := t.slotsUsed } : State).setVm t.vm := by
    have : t = ({ t with vm := (U.calling g mk a).vm } : State).setVm t.vm := rfl
    rw [e2] at this
    exact this
  have hW' : U.WarmedH t.vm := hW₂
  obtain ⟨g₀, hg0⟩ := Option.isSome_iff_exists.mp hA.top
  obtain ⟨rr, hr⟩ := State.topJava?_eq_some.mp hg0
  have hsame : U.sameButNew ({ U with heap := t.heap, slotsUsed := t.slotsUsed } : State) L k n9 := by
    refine ⟨?_, q2, q3, q4, q5, q6⟩
    obtain ⟨t9, ht9, -⟩ := State.frames_cons hr
    show ({ U with heap := t.heap, slotsUsed := t.slotsUsed } : State) = { U.setFrames U.frames with heap := t.heap, slotsUsed := t.slotsUsed }
    rw [State.setFrames_self ht9]
  have hr' : (({ U with heap := t.heap, slotsUsed := t.slotsUsed } : State).setVm t.vm).frames = .java g₀ :: rr := hr
  refine ⟨h1, L, k, n9, t, hP1, hF.1, hF.2, hL, ⟨St.admits, St.cas, St.clock, St.frames, St.room, St.hears, St.method, St.code, (St.here.setHeapUsed t.heap t.slotsUsed).setVm hW'.alike, St.tail, State.WarmedH.trans St.warmed hW', St.limits, St.bytes, St.same.trans (hsame.setVm s.vm)⟩, ?_⟩
  rcases hout with ⟨v, ho, hv, hX⟩ | ⟨q, E, ce, ho, hce, hcv, hcl, hv, hX⟩
  · cases hv
    subst ho
    refine ⟨hX, ?_⟩
    obtain ⟨c₂, i₂, len₂, hc₂, hd₂, hf₂⟩ := hend
    have hcc2 : c₂ = c := by
      have h1 : t.code? g.method = U.code? g.method := by
        rw [State.code?_eq, State.code?_eq, hW'.alike.method?]
      exact Option.some.inj (hc₂.symm.trans (h1.trans hA.code))
    subst hcc2
    have hlen : len₂ = len := by rw [hdg] at hd₂; cases hd₂; rfl
    subst hlen
    have hs₂ : t = (({ U with heap := t.heap, slotsUsed := t.slotsUsed } : State).setVm t.vm).setTop { g with pc := g.pc + len₂, stack := g.stack } := by
      refine e3.trans ?_
      rw [hf₂, State.calling_eq hA.top, State.setFrames_setFrames, State.setTop_of_frames _ hr', hr]
      rfl
    rw [← hs₂]
    exact hsteps
  · cases hv
end XZ
section XY
variable {x : xg_T} {u : xu_T} {own : String} {cc : ByteArray} {nL n nc ns pc : Nat} {r : Nat → Nat → Option Nat} {L : List (Option Value)} {S : List Value} {h : xw_H}
theorem xz_after {p : Program} {l : Launch} {e : Env} {R : Room} {s : State} {m : MethodId} {args : Array Value} {below : List Frame} {meth : Method} {c : Code} {Q : State → Prop} {cc : ByteArray} {own : String} {nL : Nat} {u : xu_T} {nc ns pc : Nat} {L : List (Option Value)} {S as : List Value} {h : xw_H} {n : Nat} {r : Nat → Nat → Option Nat} {n2 : Nat} {r2 : Nat → Nat → Option Nat} (hKK : KK0 u s) (hao : xz_ao s) (hts : ∀ w ∈ xw_tbl, w.before args s = true)
    {M : xm_T} {np : Nat} (ok : xm_ok M np) (hR : M.2.2.2.2.frames + 1 ≤ R.frames ∧ 8 + (M.2.2.1 + 11) + M.2.2.2.2.locals ≤ R.locals ∧ nc + M.2.2.2.2.cells ≤ R.cells ∧ ns + M.2.2.2.2.slots ≤ R.slots)
    (hM : xz_M l u n r n2 r2 M as h (fun o h' a b => o = .inl none ∧ xg (p, l, e, R, s, m, args, below, meth, c, Q, cc, own, nL) (yz u n2 r2) (nc + a) (ns + b) (pc + 3) L S h')) (hb : c.code = cc) (hml : c.maxLocals = nL)
    {ig : Instr} (d : decode cc pc = .ok (ig, 3)) (hW : (S.map fun v => v.category).sum ≤ 8)
    {H : Heap} {locs : List Loc} {ls : Array Slot} (hP : xw_P (yz u n r) h H) (hz : H.size = u.2.2.2 + n) (hS : va_S (xw_A (yz u n r)) s.heap H locs) (hL : xg_L u.2.2.1 nL L ls) {T : State} (hT : T.heap = H) {vm₁ : Vm} (X₁ : Stand p l e R s m args below meth c (T.setVm vm₁) locs nc ns)
    {mk : MethodId} (hn : (T.setVm vm₁).methodNamed? M.1 = some mk) :
    ∃ t, Steps p.tables e below (doInvoke e ((T.setVm vm₁).setTop (F0 m pc ls (S.map (xw_v u.2.2.1)))) [] mk (as.map (xw_v u.2.2.1)).toArray).1 t ∧ Q t := by
  subst hT
  have hWm := X₁.warmed
  have hcode : (xm_w M).before (as.map (xw_v u.2.2.1)).toArray (T.setVm vm₁) = true := xw_keep hWm ok.1 (hts _ ok.1)
  obtain ⟨methY, cY, hmY, hcY, -, hlY, -⟩ := Cond.code_spec hn hcode
  obtain ⟨h1, L', k, n9, t, hP1, hz1, hk, hLf, St', hX, st⟩ := xz_back (W9 := 8) hM X₁ (g := F0 m pc ls (S.map (xw_v u.2.2.1))) rfl (hL.1.trans hml.symm) (by rw [hb]; exact d) (by show 2 * 0 + _ ≤ 8; rw [xm_cats]; omega) hn rfl
    (atoms_intro fun w hw => by
      rcases List.mem_cons.mp hw with rfl | hw
      · exact hcode
      · exact xw_keep hWm hw (hts _ hw)) hmY hcY hlY (xw_keep hWm ok.2.1 (hts _ ok.2.1)) hR.1 hR.2.1 hR.2.2.1 hR.2.2.2 hP hz
    (KK0_mv u s _ hWm hS.1 hS.2.1 hKK) (hao.later hWm)
  have hS' : va_S (xw_A (yz u n2 r2)) s.heap t.heap (locs ++ L') := by
    refine ⟨Nat.le_trans hS.1 hz1, fun q h2 h3 => (hk q (Nat.lt_of_lt_of_le h2 hS.1) h3).trans (hS.2.1 q h2 h3), fun q hq => ?_⟩
    rcases List.mem_append.mp hq with h4 | h4
    · exact hS.2.2 q h4
    · exact hLf q h4
  obtain ⟨t2, a1, b1⟩ := hX t.heap (locs ++ L') ls hP1 hS' hL (({ (T.setVm vm₁) with heap := t.heap, slotsUsed := t.slotsUsed } : State).setVm t.vm) rfl St'
  exact ⟨t2, st.trans a1, b1⟩
/-- a constructor is called -/
theorem rz_callI (A : xg_A x (yz u n r) (KK0 u) own cc nL) (hao : xz_ao (xg_s x)) (hu : uz u) (hs : (xg_s x).heap.size + nc = u.2.2.2 + n) (hn : n ≤ 157) {M : xm_T} {np idx n2 : Nat} {r2 : Nat → Nat → Option Nat} (ok : xm_ok M np) (hnm : M.1.name = "<init>") (hret : M.2.2.2.1 = none) (hlink : Cond.methodLink own idx M.1 ∈ xw_tbl) (hinst : Cond.instanceMethod M.1 ∈ xw_tbl)
    (d : decode cc pc = .ok (.invokespecial idx, 3)) {k : Nat} {As : List Value} (hnp : As.length = np) (hW : (S.map fun v => v.category).sum ≤ 8) (hR : xm_room x nc ns M)
    (hM : xz_M (xg_l x) u n r n2 r2 M (.ref k :: As) h (fun o h' a b => o = .inl none ∧ xg x (yz u n2 r2) (nc + a) (ns + b) (pc + 3) L S h')) : xg x (yz u n r) nc ns pc L (As.reverse ++ .ref k :: S) h := by
  obtain ⟨p, l, e, R, s, m, args, below, meth, c, Q, cc', own', nL'⟩ := x
  obtain ⟨⟨hx, hb, hml, hown⟩, hcc, ho, hnl, HW, g, hmv, hKK, hB⟩ := A
  have hc2 : cc' = cc := hcc
  have ho2 : own' = own := ho
  subst hc2
  subst ho2
  intro H locs ls hP hS hL T0 hT St
  have hz : H.size = u.2.2.2 + n := by subst hT; exact yz_size St hu hn hB hs hP
  have hts : ∀ w ∈ xw_tbl, w.before args s = true := HW
  have hpl : e.platform.magicAccessors = ({} : Platform).magicAccessors := by rw [St.admits.platform]
  have hcode : (Cond.code M.1 M.2.1 M.2.2.1 none).before args s = true := by
    have h9 := hts _ ok.1
    unfold xm_w at h9
    rw [hret] at h9
    exact h9
  obtain ⟨mk, methM, cM, kP, vm₁, hnamed, hmethM, hcodeM, -, hlocalsM, -, hkP, -, hW₁, hstep₁⟩ := Steps.initColdArgs (e := e) St.here hx St.warmed hpl hown hnm ok.2.2.1 (hts _ hlink) (hts _ hinst) hcode (f := F0 m pc ls ((As.reverse ++ .ref k :: S).map (xw_v u.2.2.1))) rfl (a := u.2.2.1 k) (argsL := As.map (xw_v u.2.2.1)) (rest := S.map (xw_v u.2.2.1))
    (fun sig hsg => by
      rw [List.length_map, hnp]
      have h2 := ok.2.2.2
      rw [hsg] at h2
      exact (Option.some.inj h2).symm) (xm_map _ _ _) (by rw [hb]; exact d)
  have X₁ := St.noted hW₁
  obtain ⟨t, st, hq⟩ := xz_after hKK hao hts ok hR hM hb hml d hW hP hz hS hL hT X₁ (X₁.named hnamed)
  exact ⟨t, hstep₁ _ (fun acts => by rw [doInvoke_state]; exact st), hq⟩
theorem rz_callIN (A : xg_A x (yz u n r) (KK0 u) own cc nL) (hao : xz_ao (xg_s x)) (hu : uz u) (hs : (xg_s x).heap.size + nc = u.2.2.2 + n) (hn : n ≤ 157) {M : xm_T} {np idx n2 : Nat} {host : String} {r2 : Nat → Nat → Option Nat} (ok : xm_ok M np) (hnm : M.1.name = "<init>") (hret : M.2.2.2.1 = none) (hlink : va_Nw (.methodLinkNest own idx M.1 host) (xg_s x)) (hinst : Cond.instanceMethod M.1 ∈ xw_tbl)
    (d : decode cc pc = .ok (.invokespecial idx, 3)) {k : Nat} {As : List Value} (hnp : As.length = np) (hW : (S.map fun v => v.category).sum ≤ 8) (hR : xm_room x nc ns M)
    (hM : xz_M (xg_l x) u n r n2 r2 M (.ref k :: As) h (fun o h' a b => o = .inl none ∧ xg x (yz u n2 r2) (nc + a) (ns + b) (pc + 3) L S h')) : xg x (yz u n r) nc ns pc L (As.reverse ++ .ref k :: S) h := by
  obtain ⟨p, l, e, R, s, m, args, below, meth, c, Q, cc', own', nL'⟩ := x
  obtain ⟨⟨hx, hb, hml, hown⟩, hcc, ho, hnl, HW, g, hmv, hKK, hB⟩ := A
  have hc2 : cc' = cc := hcc
  have ho2 : own' = own := ho
  subst hc2
  subst ho2
  intro H locs ls hP hS hL T0 hT St
  have hz : H.size = u.2.2.2 + n := by subst hT; exact yz_size St hu hn hB hs hP
  have hts : ∀ w ∈ xw_tbl, w.before args s = true := HW
  have hpl : e.platform.magicAccessors = ({} : Platform).magicAccessors := by rw [St.admits.platform]
  have hcode : (Cond.code M.1 M.2.1 M.2.2.1 none).before args s = true := by
    have h9 := hts _ ok.1
    unfold xm_w at h9
    rw [hret] at h9
    exact h9
  have hl9 : (Cond.methodLinkNest own' idx M.1 host).before args s = true := va_Nw.use rfl hlink
  obtain ⟨mk, methM, cM, kP, vm₁, hnamed, hmethM, hcodeM, -, hlocalsM, -, hkP, -, hW₁, hstep₁⟩ := Steps.initColdArgsNest (e := e) St.here hx St.warmed hpl hown hnm ok.2.2.1 hl9 (hts _ hinst) hcode (f := F0 m pc ls ((As.reverse ++ .ref k :: S).map (xw_v u.2.2.1))) rfl (a := u.2.2.1 k) (argsL := As.map (xw_v u.2.2.1)) (rest := S.map (xw_v u.2.2.1))
    (fun sig hsg => by
      rw [List.length_map, hnp]
      have h2 := ok.2.2.2
      rw [hsg] at h2
      exact (Option.some.inj h2).symm) (xm_map _ _ _) (by rw [hb]; exact d)
  have X₁ := St.noted hW₁
  obtain ⟨t, st, hq⟩ := xz_after hKK hao hts ok hR hM hb hml d hW hP hz hS hL hT X₁ (X₁.named hnamed)
  exact ⟨t, hstep₁ _ (fun acts => by rw [doInvoke_state]; exact st), hq⟩
end XY
