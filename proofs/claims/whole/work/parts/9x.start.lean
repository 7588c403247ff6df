/-! THE START, by program (wip/gen/start.py): what the Statement's words say of it -/
theorem cb_l {a b : Cond} {args : Array Value} {s : State} (h : (Cond.and a b).before args s = true) : a.before args s = true := by
  rw [Cond.before_and, Bool.and_eq_true] at h
  exact h.1
theorem cb_r {a b : Cond} {args : Array Value} {s : State} (h : (Cond.and a b).before args s = true) : b.before args s = true := by
  rw [Cond.before_and, Bool.and_eq_true] at h
  exact h.2
theorem yw_in1 {w : Cond} (i : Nat) (h : tables_1_1[i]? = some w) : w ∈ lw_tbl := List.mem_append_right _ (List.mem_append_left _ (List.mem_of_getElem? h))
theorem yw_in2 {w : Cond} (i : Nat) (h : tables_1_2[i]? = some w) : w ∈ lw_tbl := List.mem_append_right _ (List.mem_append_right _ (List.mem_append_left _ (List.mem_of_getElem? h)))
theorem yw_in3 {w : Cond} (i : Nat) (h : tables_1_3[i]? = some w) : w ∈ lw_tbl := List.mem_append_right _ (List.mem_append_right _ (List.mem_append_right _ (List.mem_append_left _ (List.mem_of_getElem? h))))
theorem yw_in4 {w : Cond} (i : Nat) (h : tables_1_4[i]? = some w) : w ∈ lw_tbl := List.mem_append_right _ (List.mem_append_right _ (List.mem_append_right _ (List.mem_append_right _ (List.mem_append_left _ (List.mem_of_getElem? h)))))
theorem yw_in5 {w : Cond} (i : Nat) (h : tables_1_5[i]? = some w) : w ∈ lw_tbl := List.mem_append_right _ (List.mem_append_right _ (List.mem_append_right _ (List.mem_append_right _ (List.mem_append_right _ (List.mem_append_left _ (List.mem_of_getElem? h))))))
theorem yw_in6 {w : Cond} (i : Nat) (h : tables_1_6[i]? = some w) : w ∈ lw_tbl := List.mem_append_right _ (List.mem_append_right _ (List.mem_append_right _ (List.mem_append_right _ (List.mem_append_right _ (List.mem_append_right _ (List.mem_append_left _ (List.mem_of_getElem? h)))))))
theorem yw_in7 {w : Cond} (i : Nat) (h : tables_1_7[i]? = some w) : w ∈ lw_tbl := List.mem_append_right _ (List.mem_append_right _ (List.mem_append_right _ (List.mem_append_right _ (List.mem_append_right _ (List.mem_append_right _ (List.mem_append_right _ (List.mem_append_left _ (List.mem_of_getElem? h))))))))
theorem yw_in8 {w : Cond} (i : Nat) (h : tables_1_8[i]? = some w) : w ∈ lw_tbl := List.mem_append_right _ (List.mem_append_right _ (List.mem_append_right _ (List.mem_append_right _ (List.mem_append_right _ (List.mem_append_right _ (List.mem_append_right _ (List.mem_append_right _ (List.mem_of_getElem? h))))))))
theorem xw_sub {w : Cond} (h : w ∈ xw_tbl) : w ∈ lw_tbl := (List.mem_filter.mp h).1
theorem st_START {s : State} {b : Nat} {A : Nat → Prop} (hts : ∀ w ∈ lw_tbl, w.before #[Value.ref b] s = true) (hn1 : narrow_1_1.before #[Value.ref b] s = true) (hn2 : narrow_1_2.before #[Value.ref b] s = true) (hn3 : narrow_1_3.before #[Value.ref b] s = true) (hn4 : narrow_1_4.before #[Value.ref b] s = true) (hA : ∀ a : Nat, a < s.heap.size → ¬ A a) : ∃ t : Nat, va_Z "SoundStream" "START" "[I" (.ref t) A s s.heap ∧ va_T .int t 4 (fun j => .int (sv_START.getD j 0)) A s s.heap := by
  have hel : ∀ j : Nat, j < 4 → (Term.elem (.static "SoundStream" "START" "[I") (.int (Int32.ofNat j))).eval #[Value.ref b] s none [] s = some (.int (sv_START.getD j 0)) := by
    intro j hj
    match j, hj with
    | 0, _ => exact va_eqt (cb_r (cb_r (cb_r (cb_l (cb_l (cb_l (cb_l (cb_l (cb_l hn1)))))))))
    | 1, _ => exact va_eqt (cb_l (cb_l (cb_r (cb_l (cb_l (cb_l (cb_l (cb_l hn1))))))))
    | 2, _ => exact va_eqt (cb_l (cb_r (cb_l (cb_r (cb_l (cb_l (cb_l (cb_l (cb_l hn1)))))))))
    | 3, _ => exact va_eqt (cb_r (cb_r (cb_l (cb_r (cb_l (cb_l (cb_l (cb_l (cb_l hn1)))))))))
    | j + 4, hj => exact absurd hj (by omega)
  obtain ⟨t, ev, hT⟩ := va_Tof (A := A) (N := 4) (f := fun j => .int (sv_START.getD j 0)) (by decide) (cb_l (cb_r (cb_l (cb_l (cb_l (cb_l (cb_l (cb_l hn1)))))))) (va_eqt (cb_l (cb_r (cb_r (cb_l (cb_l (cb_l (cb_l (cb_l (cb_l hn1)))))))))) hel hA
  exact ⟨t, va_Zof (hts _ (yw_in2 164 rfl)) (hts _ (yw_in1 1 rfl)) ev hA, hT⟩
theorem st_ADDENDS {s : State} {b : Nat} {A : Nat → Prop} (hts : ∀ w ∈ lw_tbl, w.before #[Value.ref b] s = true) (hn1 : narrow_1_1.before #[Value.ref b] s = true) (hn2 : narrow_1_2.before #[Value.ref b] s = true) (hn3 : narrow_1_3.before #[Value.ref b] s = true) (hn4 : narrow_1_4.before #[Value.ref b] s = true) (hA : ∀ a : Nat, a < s.heap.size → ¬ A a) : ∃ t : Nat, va_Z "SoundStream$Digest" "ADDENDS" "[J" (.ref t) A s s.heap ∧ va_T .long t 64 (fun j => .long (sv_ADDENDS.getD j 0)) A s s.heap := by
  have hel : ∀ j : Nat, j < 64 → (Term.elem (.static "SoundStream$Digest" "ADDENDS" "[J") (.int (Int32.ofNat j))).eval #[Value.ref b] s none [] s = some (.long (sv_ADDENDS.getD j 0)) := by
    intro j hj
    match j, hj with
    | 0, _ => exact va_eqtl (cb_l (cb_r (cb_l (cb_l (cb_r (cb_r (cb_l (cb_r hn1))))))))
    | 1, _ => exact va_eqtl (cb_l (cb_r (cb_r (cb_l (cb_l (cb_r (cb_r (cb_l (cb_r hn1)))))))))
    | 2, _ => exact va_eqtl (cb_r (cb_r (cb_r (cb_l (cb_l (cb_r (cb_r (cb_l (cb_r hn1)))))))))
    | 3, _ => exact va_eqtl (cb_l (cb_l (cb_r (cb_l (cb_r (cb_r (cb_l (cb_r hn1))))))))
    | 4, _ => exact va_eqtl (cb_l (cb_r (cb_l (cb_r (cb_l (cb_r (cb_r (cb_l (cb_r hn1)))))))))
    | 5, _ => exact va_eqtl (cb_r (cb_r (cb_l (cb_r (cb_l (cb_r (cb_r (cb_l (cb_r hn1)))))))))
    | 6, _ => exact va_eqtl (cb_l (cb_r (cb_r (cb_l (cb_r (cb_r (cb_l (cb_r hn1))))))))
    | 7, _ => exact va_eqtl (cb_l (cb_r (cb_r (cb_r (cb_l (cb_r (cb_r (cb_l (cb_r hn1)))))))))
    | 8, _ => exact va_eqtl (cb_r (cb_r (cb_r (cb_r (cb_l (cb_r (cb_r (cb_l (cb_r hn1)))))))))
    | 9, _ => exact va_eqtl (cb_l (cb_l (cb_l (cb_r (cb_r (cb_r (cb_l (cb_r hn1))))))))
    | 10, _ => exact va_eqtl (cb_l (cb_r (cb_l (cb_l (cb_r (cb_r (cb_r (cb_l (cb_r hn1)))))))))
    | 11, _ => exact va_eqtl (cb_r (cb_r (cb_l (cb_l (cb_r (cb_r (cb_r (cb_l (cb_r hn1)))))))))
    | 12, _ => exact va_eqtl (cb_l (cb_r (cb_l (cb_r (cb_r (cb_r (cb_l (cb_r hn1))))))))
    | 13, _ => exact va_eqtl (cb_l (cb_r (cb_r (cb_l (cb_r (cb_r (cb_r (cb_l (cb_r hn1)))))))))
    | 14, _ => exact va_eqtl (cb_r (cb_r (cb_r (cb_l (cb_r (cb_r (cb_r (cb_l (cb_r hn1)))))))))
    | 15, _ => exact va_eqtl (cb_l (cb_l (cb_r (cb_r (cb_r (cb_r (cb_l (cb_r hn1))))))))
    | 16, _ => exact va_eqtl (cb_l (cb_r (cb_l (cb_r (cb_r (cb_r (cb_r (cb_l (cb_r hn1)))))))))
    | 17, _ => exact va_eqtl (cb_r (cb_r (cb_l (cb_r (cb_r (cb_r (cb_r (cb_l (cb_r hn1)))))))))
    | 18, _ => exact va_eqtl (cb_l (cb_l (cb_r (cb_r (cb_r (cb_r (cb_r (cb_l (cb_r hn1)))))))))
    | 19, _ => exact va_eqtl (cb_r (cb_l (cb_r (cb_r (cb_r (cb_r (cb_r (cb_l (cb_r hn1)))))))))
    | 20, _ => exact va_eqtl (cb_l (cb_r (cb_r (cb_r (cb_r (cb_r (cb_r (cb_l (cb_r hn1)))))))))
    | 21, _ => exact va_eqtl (cb_r (cb_r (cb_r (cb_r (cb_r (cb_r (cb_r (cb_l (cb_r hn1)))))))))
    | 22, _ => exact va_eqtl (cb_l (cb_l (cb_l (cb_l (cb_l (cb_l (cb_r (cb_r hn1))))))))
    | 23, _ => exact va_eqtl (cb_l (cb_r (cb_l (cb_l (cb_l (cb_l (cb_l (cb_r (cb_r hn1)))))))))
    | 24, _ => exact va_eqtl (cb_r (cb_r (cb_l (cb_l (cb_l (cb_l (cb_l (cb_r (cb_r hn1)))))))))
    | 25, _ => exact va_eqtl (cb_l (cb_r (cb_l (cb_l (cb_l (cb_l (cb_r (cb_r hn1))))))))
    | 26, _ => exact va_eqtl (cb_l (cb_r (cb_r (cb_l (cb_l (cb_l (cb_l (cb_r (cb_r hn1)))))))))
    | 27, _ => exact va_eqtl (cb_r (cb_r (cb_r (cb_l (cb_l (cb_l (cb_l (cb_r (cb_r hn1)))))))))
    | 28, _ => exact va_eqtl (cb_l (cb_l (cb_r (cb_l (cb_l (cb_l (cb_r (cb_r hn1))))))))
    | 29, _ => exact va_eqtl (cb_l (cb_r (cb_l (cb_r (cb_l (cb_l (cb_l (cb_r (cb_r hn1)))))))))
    | 30, _ => exact va_eqtl (cb_r (cb_r (cb_l (cb_r (cb_l (cb_l (cb_l (cb_r (cb_r hn1)))))))))
    | 31, _ => exact va_eqtl (cb_l (cb_r (cb_r (cb_l (cb_l (cb_l (cb_r (cb_r hn1))))))))
    | 32, _ => exact va_eqtl (cb_l (cb_r (cb_r (cb_r (cb_l (cb_l (cb_l (cb_r (cb_r hn1)))))))))
    | 33, _ => exact va_eqtl (cb_r (cb_r (cb_r (cb_r (cb_l (cb_l (cb_l (cb_r (cb_r hn1)))))))))
    | 34, _ => exact va_eqtl (cb_l (cb_l (cb_l (cb_r (cb_l (cb_l (cb_r (cb_r hn1))))))))
    | 35, _ => exact va_eqtl (cb_l (cb_r (cb_l (cb_l (cb_r (cb_l (cb_l (cb_r (cb_r hn1)))))))))
    | 36, _ => exact va_eqtl (cb_r (cb_r (cb_l (cb_l (cb_r (cb_l (cb_l (cb_r (cb_r hn1)))))))))
    | 37, _ => exact va_eqtl (cb_l (cb_r (cb_l (cb_r (cb_l (cb_l (cb_r (cb_r hn1))))))))
    | 38, _ => exact va_eqtl (cb_l (cb_r (cb_r (cb_l (cb_r (cb_l (cb_l (cb_r (cb_r hn1)))))))))
    | 39, _ => exact va_eqtl (cb_r (cb_r (cb_r (cb_l (cb_r (cb_l (cb_l (cb_r (cb_r hn1)))))))))
    | 40, _ => exact va_eqtl (cb_l (cb_l (cb_r (cb_r (cb_l (cb_l (cb_r (cb_r hn1))))))))
    | 41, _ => exact va_eqtl (cb_l (cb_r (cb_l (cb_r (cb_r (cb_l (cb_l (cb_r (cb_r hn1)))))))))
    | 42, _ => exact va_eqtl (cb_r (cb_r (cb_l (cb_r (cb_r (cb_l (cb_l (cb_r (cb_r hn1)))))))))
    | 43, _ => exact va_eqtl (cb_l (cb_l (cb_r (cb_r (cb_r (cb_l (cb_l (cb_r (cb_r hn1)))))))))
    | 44, _ => exact va_eqtl (cb_r (cb_l (cb_r (cb_r (cb_r (cb_l (cb_l (cb_r (cb_r hn1)))))))))
    | 45, _ => exact va_eqtl (cb_l (cb_r (cb_r (cb_r (cb_r (cb_l (cb_l (cb_r (cb_r hn1)))))))))
    | 46, _ => exact va_eqtl (cb_r (cb_r (cb_r (cb_r (cb_r (cb_l (cb_l (cb_r (cb_r hn1)))))))))
    | 47, _ => exact va_eqtl (cb_l (cb_l (cb_l (cb_l (cb_r (cb_l (cb_r (cb_r hn1))))))))
    | 48, _ => exact va_eqtl (cb_l (cb_r (cb_l (cb_l (cb_l (cb_r (cb_l (cb_r (cb_r hn1)))))))))
    | 49, _ => exact va_eqtl (cb_r (cb_r (cb_l (cb_l (cb_l (cb_r (cb_l (cb_r (cb_r hn1)))))))))
    | 50, _ => exact va_eqtl (cb_l (cb_r (cb_l (cb_l (cb_r (cb_l (cb_r (cb_r hn1))))))))
    | 51, _ => exact va_eqtl (cb_l (cb_r (cb_r (cb_l (cb_l (cb_r (cb_l (cb_r (cb_r hn1)))))))))
    | 52, _ => exact va_eqtl (cb_r (cb_r (cb_r (cb_l (cb_l (cb_r (cb_l (cb_r (cb_r hn1)))))))))
    | 53, _ => exact va_eqtl (cb_l (cb_l (cb_r (cb_l (cb_r (cb_l (cb_r (cb_r hn1))))))))
    | 54, _ => exact va_eqtl (cb_l (cb_r (cb_l (cb_r (cb_l (cb_r (cb_l (cb_r (cb_r hn1)))))))))
    | 55, _ => exact va_eqtl (cb_r (cb_r (cb_l (cb_r (cb_l (cb_r (cb_l (cb_r (cb_r hn1)))))))))
    | 56, _ => exact va_eqtl (cb_l (cb_r (cb_r (cb_l (cb_r (cb_l (cb_r (cb_r hn1))))))))
    | 57, _ => exact va_eqtl (cb_l (cb_r (cb_r (cb_r (cb_l (cb_r (cb_l (cb_r (cb_r hn1)))))))))
    | 58, _ => exact va_eqtl (cb_r (cb_r (cb_r (cb_r (cb_l (cb_r (cb_l (cb_r (cb_r hn1)))))))))
    | 59, _ => exact va_eqtl (cb_l (cb_l (cb_l (cb_r (cb_r (cb_l (cb_r (cb_r hn1))))))))
    | 60, _ => exact va_eqtl (cb_l (cb_r (cb_l (cb_l (cb_r (cb_r (cb_l (cb_r (cb_r hn1)))))))))
    | 61, _ => exact va_eqtl (cb_r (cb_r (cb_l (cb_l (cb_r (cb_r (cb_l (cb_r (cb_r hn1)))))))))
    | 62, _ => exact va_eqtl (cb_l (cb_r (cb_l (cb_r (cb_r (cb_l (cb_r (cb_r hn1))))))))
    | 63, _ => exact va_eqtl (cb_l (cb_r (cb_r (cb_l (cb_r (cb_r (cb_l (cb_r (cb_r hn1)))))))))
    | j + 64, hj => exact absurd hj (by omega)
  obtain ⟨t, ev, hT⟩ := va_Tof (A := A) (N := 64) (f := fun j => .long (sv_ADDENDS.getD j 0)) (by decide) (cb_l (cb_r (cb_l (cb_l (cb_l (cb_r (cb_r (cb_l (cb_r hn1))))))))) (va_eqt (cb_r (cb_r (cb_l (cb_l (cb_l (cb_r (cb_r (cb_l (cb_r hn1)))))))))) hel hA
  exact ⟨t, va_Zof (hts _ (yw_in4 215 rfl)) (hts _ (yw_in1 4 rfl)) ev hA, hT⟩
theorem st_TURNS {s : State} {b : Nat} {A : Nat → Prop} (hts : ∀ w ∈ lw_tbl, w.before #[Value.ref b] s = true) (hn1 : narrow_1_1.before #[Value.ref b] s = true) (hn2 : narrow_1_2.before #[Value.ref b] s = true) (hn3 : narrow_1_3.before #[Value.ref b] s = true) (hn4 : narrow_1_4.before #[Value.ref b] s = true) (hA : ∀ a : Nat, a < s.heap.size → ¬ A a) : ∃ t : Nat, va_Z "SoundStream$Digest" "TURNS" "[I" (.ref t) A s s.heap ∧ va_T .int t 16 (fun j => .int (sv_TURNS.getD j 0)) A s s.heap := by
  have hel : ∀ j : Nat, j < 16 → (Term.elem (.static "SoundStream$Digest" "TURNS" "[I") (.int (Int32.ofNat j))).eval #[Value.ref b] s none [] s = some (.int (sv_TURNS.getD j 0)) := by
    intro j hj
    match j, hj with
    | 0, _ => exact va_eqt (cb_l (cb_r (cb_r (cb_l (cb_l (cb_r (cb_l (cb_r hn1))))))))
    | 1, _ => exact va_eqt (cb_l (cb_r (cb_r (cb_r (cb_l (cb_l (cb_r (cb_l (cb_r hn1)))))))))
    | 2, _ => exact va_eqt (cb_r (cb_r (cb_r (cb_r (cb_l (cb_l (cb_r (cb_l (cb_r hn1)))))))))
    | 3, _ => exact va_eqt (cb_l (cb_l (cb_l (cb_r (cb_l (cb_r (cb_l (cb_r hn1))))))))
    | 4, _ => exact va_eqt (cb_l (cb_r (cb_l (cb_l (cb_r (cb_l (cb_r (cb_l (cb_r hn1)))))))))
    | 5, _ => exact va_eqt (cb_r (cb_r (cb_l (cb_l (cb_r (cb_l (cb_r (cb_l (cb_r hn1)))))))))
    | 6, _ => exact va_eqt (cb_l (cb_r (cb_l (cb_r (cb_l (cb_r (cb_l (cb_r hn1))))))))
    | 7, _ => exact va_eqt (cb_l (cb_r (cb_r (cb_l (cb_r (cb_l (cb_r (cb_l (cb_r hn1)))))))))
    | 8, _ => exact va_eqt (cb_r (cb_r (cb_r (cb_l (cb_r (cb_l (cb_r (cb_l (cb_r hn1)))))))))
    | 9, _ => exact va_eqt (cb_l (cb_l (cb_r (cb_r (cb_l (cb_r (cb_l (cb_r hn1))))))))
    | 10, _ => exact va_eqt (cb_l (cb_r (cb_l (cb_r (cb_r (cb_l (cb_r (cb_l (cb_r hn1)))))))))
    | 11, _ => exact va_eqt (cb_r (cb_r (cb_l (cb_r (cb_r (cb_l (cb_r (cb_l (cb_r hn1)))))))))
    | 12, _ => exact va_eqt (cb_l (cb_l (cb_r (cb_r (cb_r (cb_l (cb_r (cb_l (cb_r hn1)))))))))
    | 13, _ => exact va_eqt (cb_r (cb_l (cb_r (cb_r (cb_r (cb_l (cb_r (cb_l (cb_r hn1)))))))))
    | 14, _ => exact va_eqt (cb_l (cb_r (cb_r (cb_r (cb_r (cb_l (cb_r (cb_l (cb_r hn1)))))))))
    | 15, _ => exact va_eqt (cb_r (cb_r (cb_r (cb_r (cb_r (cb_l (cb_r (cb_l (cb_r hn1)))))))))
    | j + 16, hj => exact absurd hj (by omega)
  obtain ⟨t, ev, hT⟩ := va_Tof (A := A) (N := 16) (f := fun j => .int (sv_TURNS.getD j 0)) (by decide) (cb_l (cb_r (cb_l (cb_r (cb_l (cb_l (cb_r (cb_l (cb_r hn1))))))))) (va_eqt (cb_r (cb_r (cb_l (cb_r (cb_l (cb_l (cb_r (cb_l (cb_r hn1)))))))))) hel hA
  exact ⟨t, va_Zof (hts _ (yw_in4 210 rfl)) (hts _ (yw_in1 4 rfl)) ev hA, hT⟩
theorem st_FIXED_FACTORS {s : State} {b : Nat} {A : Nat → Prop} (hts : ∀ w ∈ lw_tbl, w.before #[Value.ref b] s = true) (hn1 : narrow_1_1.before #[Value.ref b] s = true) (hn2 : narrow_1_2.before #[Value.ref b] s = true) (hn3 : narrow_1_3.before #[Value.ref b] s = true) (hn4 : narrow_1_4.before #[Value.ref b] s = true) (hA : ∀ a : Nat, a < s.heap.size → ¬ A a) : ∃ t : Nat, va_Z "SoundStream$SubframeReader" "FIXED_FACTORS" "[I" (.ref t) A s s.heap ∧ va_T .int t 20 (fun j => .int (sv_FIXED_FACTORS.getD j 0)) A s s.heap := by
  have hel : ∀ j : Nat, j < 20 → (Term.elem (.static "SoundStream$SubframeReader" "FIXED_FACTORS" "[I") (.int (Int32.ofNat j))).eval #[Value.ref b] s none [] s = some (.int (sv_FIXED_FACTORS.getD j 0)) := by
    intro j hj
    match j, hj with
    | 0, _ => exact va_eqt (cb_r (cb_r (cb_r (cb_r (cb_l (cb_r (cb_l (cb_l (cb_r hn1)))))))))
    | 1, _ => exact va_eqt (cb_l (cb_l (cb_l (cb_r (cb_r (cb_l (cb_l (cb_r hn1))))))))
    | 2, _ => exact va_eqt (cb_l (cb_r (cb_l (cb_l (cb_r (cb_r (cb_l (cb_l (cb_r hn1)))))))))
    | 3, _ => exact va_eqt (cb_r (cb_r (cb_l (cb_l (cb_r (cb_r (cb_l (cb_l (cb_r hn1)))))))))
    | 4, _ => exact va_eqt (cb_l (cb_r (cb_l (cb_r (cb_r (cb_l (cb_l (cb_r hn1))))))))
    | 5, _ => exact va_eqt (cb_l (cb_r (cb_r (cb_l (cb_r (cb_r (cb_l (cb_l (cb_r hn1)))))))))
    | 6, _ => exact va_eqt (cb_r (cb_r (cb_r (cb_l (cb_r (cb_r (cb_l (cb_l (cb_r hn1)))))))))
    | 7, _ => exact va_eqt (cb_l (cb_l (cb_r (cb_r (cb_r (cb_l (cb_l (cb_r hn1))))))))
    | 8, _ => exact va_eqt (cb_l (cb_r (cb_l (cb_r (cb_r (cb_r (cb_l (cb_l (cb_r hn1)))))))))
    | 9, _ => exact va_eqt (cb_r (cb_r (cb_l (cb_r (cb_r (cb_r (cb_l (cb_l (cb_r hn1)))))))))
    | 10, _ => exact va_eqt (cb_l (cb_l (cb_r (cb_r (cb_r (cb_r (cb_l (cb_l (cb_r hn1)))))))))
    | 11, _ => exact va_eqt (cb_r (cb_l (cb_r (cb_r (cb_r (cb_r (cb_l (cb_l (cb_r hn1)))))))))
    | 12, _ => exact va_eqt (cb_l (cb_r (cb_r (cb_r (cb_r (cb_r (cb_l (cb_l (cb_r hn1)))))))))
    | 13, _ => exact va_eqt (cb_r (cb_r (cb_r (cb_r (cb_r (cb_r (cb_l (cb_l (cb_r hn1)))))))))
    | 14, _ => exact va_eqt (cb_l (cb_l (cb_l (cb_l (cb_l (cb_r (cb_l (cb_r hn1))))))))
    | 15, _ => exact va_eqt (cb_l (cb_r (cb_l (cb_l (cb_l (cb_l (cb_r (cb_l (cb_r hn1)))))))))
    | 16, _ => exact va_eqt (cb_r (cb_r (cb_l (cb_l (cb_l (cb_l (cb_r (cb_l (cb_r hn1)))))))))
    | 17, _ => exact va_eqt (cb_l (cb_r (cb_l (cb_l (cb_l (cb_r (cb_l (cb_r hn1))))))))
    | 18, _ => exact va_eqt (cb_l (cb_r (cb_r (cb_l (cb_l (cb_l (cb_r (cb_l (cb_r hn1)))))))))
    | 19, _ => exact va_eqt (cb_r (cb_r (cb_r (cb_l (cb_l (cb_l (cb_r (cb_l (cb_r hn1)))))))))
    | j + 20, hj => exact absurd hj (by omega)
  obtain ⟨t, ev, hT⟩ := va_Tof (A := A) (N := 20) (f := fun j => .int (sv_FIXED_FACTORS.getD j 0)) (by decide) (cb_l (cb_r (cb_r (cb_l (cb_r (cb_l (cb_l (cb_r hn1)))))))) (va_eqt (cb_l (cb_r (cb_r (cb_r (cb_l (cb_r (cb_l (cb_l (cb_r hn1)))))))))) hel hA
  exact ⟨t, va_Zof (hts _ (yw_in4 157 rfl)) (hts _ (yw_in1 11 rfl)) ev hA, hT⟩
theorem st_DEPTHS {s : State} {b : Nat} {A : Nat → Prop} (hts : ∀ w ∈ lw_tbl, w.before #[Value.ref b] s = true) (hn1 : narrow_1_1.before #[Value.ref b] s = true) (hn2 : narrow_1_2.before #[Value.ref b] s = true) (hn3 : narrow_1_3.before #[Value.ref b] s = true) (hn4 : narrow_1_4.before #[Value.ref b] s = true) (hA : ∀ a : Nat, a < s.heap.size → ¬ A a) : ∃ t : Nat, va_Z "SoundStream$Decoder" "DEPTHS" "[I" (.ref t) A s s.heap ∧ va_T .int t 8 (fun j => .int (sv_DEPTHS.getD j 0)) A s s.heap := by
  have hel : ∀ j : Nat, j < 8 → (Term.elem (.static "SoundStream$Decoder" "DEPTHS" "[I") (.int (Int32.ofNat j))).eval #[Value.ref b] s none [] s = some (.int (sv_DEPTHS.getD j 0)) := by
    intro j hj
    match j, hj with
    | 0, _ => exact va_eqt (cb_r (cb_r (cb_l (cb_l (cb_r (cb_l (cb_l (cb_l (cb_l hn1)))))))))
    | 1, _ => exact va_eqt (cb_l (cb_r (cb_l (cb_r (cb_l (cb_l (cb_l (cb_l hn1))))))))
    | 2, _ => exact va_eqt (cb_l (cb_r (cb_r (cb_l (cb_r (cb_l (cb_l (cb_l (cb_l hn1)))))))))
    | 3, _ => exact va_eqt (cb_r (cb_r (cb_r (cb_l (cb_r (cb_l (cb_l (cb_l (cb_l hn1)))))))))
    | 4, _ => exact va_eqt (cb_l (cb_l (cb_r (cb_r (cb_l (cb_l (cb_l (cb_l hn1))))))))
    | 5, _ => exact va_eqt (cb_l (cb_r (cb_l (cb_r (cb_r (cb_l (cb_l (cb_l (cb_l hn1)))))))))
    | 6, _ => exact va_eqt (cb_r (cb_r (cb_l (cb_r (cb_r (cb_l (cb_l (cb_l (cb_l hn1)))))))))
    | 7, _ => exact va_eqt (cb_l (cb_l (cb_r (cb_r (cb_r (cb_l (cb_l (cb_l (cb_l hn1)))))))))
    | j + 8, hj => exact absurd hj (by omega)
  obtain ⟨t, ev, hT⟩ := va_Tof (A := A) (N := 8) (f := fun j => .int (sv_DEPTHS.getD j 0)) (by decide) (cb_l (cb_l (cb_l (cb_r (cb_l (cb_l (cb_l (cb_l hn1)))))))) (va_eqt (cb_l (cb_r (cb_l (cb_l (cb_r (cb_l (cb_l (cb_l (cb_l hn1)))))))))) hel hA
  exact ⟨t, va_Zof (hts _ (yw_in3 55 rfl)) (hts _ (yw_in1 9 rfl)) ev hA, hT⟩
theorem st_thr {s : State} {b : Nat} {y : xw_T} (hts : ∀ w ∈ lw_tbl, w.before #[Value.ref b] s = true) (hn1 : narrow_1_1.before #[Value.ref b] s = true) (hn2 : narrow_1_2.before #[Value.ref b] s = true) (hn3 : narrow_1_3.before #[Value.ref b] s = true) (hn4 : narrow_1_4.before #[Value.ref b] s = true) (hA : ∀ a : Nat, a < s.heap.size → ¬ xw_A y a) : xt_st y s := by
  exact ⟨⟨va_Zqof (hts _ (yw_in2 196 rfl)) (hts _ (yw_in1 13 rfl)) (cb_l (cb_r (cb_r (cb_l (cb_l (cb_l (cb_l (cb_l hn1)))))))) hA, xk_Y.of (hts _ (yw_in2 196 rfl)) hA⟩, ⟨va_Zqof (hts _ (yw_in2 198 rfl)) (hts _ (yw_in1 13 rfl)) (cb_l (cb_r (cb_r (cb_r (cb_l (cb_l (cb_l (cb_l (cb_l hn1))))))))) hA, xk_Y.of (hts _ (yw_in2 198 rfl)) hA⟩⟩
theorem st_cls {s : State} {b : Nat} (hts : ∀ w ∈ lw_tbl, w.before #[Value.ref b] s = true) : ∃ D : va_G, ∀ (c : Nat) (q : vw_C), vcl[c]? = some q → u_Kn s q.1 q.2.1 q.2.2 (D.1 c) (D.2 c) := by
  have hx : ∀ w ∈ xw_tbl, w.before #[Value.ref b] s = true := fun w hw => hts w (xw_sub hw)
  obtain ⟨c0, i0, k0⟩ := u_known hx wf_SS (hts _ (yw_in1 32 rfl))
  obtain ⟨c1, i1, k1⟩ := u_known hx wf_So (hts _ (yw_in1 40 rfl))
  obtain ⟨c2, i2, k2⟩ := u_known hx wf_By (hts _ (yw_in1 86 rfl))
  obtain ⟨c3, i3, k3⟩ := u_known hx wf_Di (hts _ (yw_in1 104 rfl))
  obtain ⟨c4, i4, k4⟩ := u_known hx wf_En (hts _ (yw_in1 129 rfl))
  obtain ⟨c5, i5, k5⟩ := u_known hx wf_De (hts _ (yw_in2 14 rfl))
  obtain ⟨c6, i6, k6⟩ := u_known hx wf_Wr (hts _ (yw_in1 136 rfl))
  obtain ⟨c7, i7, k7⟩ := u_known hx wf_Re (hts _ (yw_in1 152 rfl))
  obtain ⟨c8, i8, k8⟩ := u_known hx wf_Su (hts _ (yw_in1 187 rfl))
  obtain ⟨c9, i9, k9⟩ := u_known hx wf_Rd (hts _ (yw_in2 20 rfl))
  obtain ⟨c10, i10, k10⟩ := u_known hx wf_Sr (hts _ (yw_in2 42 rfl))
  obtain ⟨c11, i11, k11⟩ := u_known hx wf_Mo (hts _ (yw_in6 83 rfl))
  refine ⟨(fun c => match c with | 0 => c0 | 1 => c1 | 2 => c2 | 3 => c3 | 4 => c4 | 5 => c5 | 6 => c6 | 7 => c7 | 8 => c8 | 9 => c9 | 10 => c10 | _ => c11, fun c => match c with | 0 => i0 | 1 => i1 | 2 => i2 | 3 => i3 | 4 => i4 | 5 => i5 | 6 => i6 | 7 => i7 | 8 => i8 | 9 => i9 | 10 => i10 | _ => i11), fun c q hq => ?_⟩
  match c, hq with
  | 0, hq => cases hq; exact k0
  | 1, hq => cases hq; exact k1
  | 2, hq => cases hq; exact k2
  | 3, hq => cases hq; exact k3
  | 4, hq => cases hq; exact k4
  | 5, hq => cases hq; exact k5
  | 6, hq => cases hq; exact k6
  | 7, hq => cases hq; exact k7
  | 8, hq => cases hq; exact k8
  | 9, hq => cases hq; exact k9
  | 10, hq => cases hq; exact k10
  | 11, hq => cases hq; exact k11
  | c + 12, hq => exact absurd hq (by simp)
theorem st_arr {s : State} {b : Nat} (hts : ∀ w ∈ lw_tbl, w.before #[Value.ref b] s = true) : ∃ ty : List (ClassId × FieldType), ty.map Prod.snd = xw_tys ∧ ∀ (k : Nat) (q : ClassId × FieldType), ty[k]? = some q → ArrOfT s q.1 q.2 ∧ va_RA s q.1 q.2 := by
  obtain ⟨a0, k0, o0, e0, f0, g0⟩ := Cond.arrayClass_spec (hts _ (yw_in1 84 rfl))
  obtain ⟨a1, k1, o1, e1, f1, g1⟩ := Cond.arrayClass_spec (hts _ (yw_in1 185 rfl))
  obtain ⟨a2, k2, o2, e2, f2, g2⟩ := Cond.arrayClass_spec (hts _ (yw_in1 102 rfl))
  obtain ⟨o3, a3, k3, -, f3, g3, e3⟩ := oa_spec (t := .int) (hts _ (yw_in1 46 rfl))
  obtain ⟨o4, a4, k4, -, f4, g4, e4⟩ := oa_spec (t := .long) (hts _ (yw_in1 158 rfl))
  refine ⟨[(a0, .int), (a1, .long), (a2, .byte), (a3, .array .int), (a4, .array .long)], rfl, fun k q hq => ?_⟩
  match k, hq with
  | 0, hq => cases hq; exact ⟨fun n z => ⟨fun k h => (by cases h), k0, f0, o0, g0⟩, e0⟩
  | 1, hq => cases hq; exact ⟨fun n z => ⟨fun k h => (by cases h), k1, f1, o1, g1⟩, e1⟩
  | 2, hq => cases hq; exact ⟨fun n z => ⟨fun k h => (by cases h), k2, f2, o2, g2⟩, e2⟩
  | 3, hq => cases hq; exact ⟨fun n z => ⟨fun k h => (by cases h), k3, f3, o3, g3⟩, e3⟩
  | 4, hq => cases hq; exact ⟨fun n z => ⟨fun k h => (by cases h), k4, f4, o4, g4⟩, e4⟩
  | k + 5, hq => exact absurd hq (by simp)
theorem st_str1 {s : State} {b c : Nat} {C tx : String} {i : Nat} (hc : s.vm.findClass C = some c) (h : (Cond.stringRef C i tx).before #[Value.ref b] s = true) : ∃ sa, vk_R C i tx sa s := by
  obtain ⟨-, -, -, a, -, -, -, -, -, e⟩ := Cond.stringRef_spec hc h
  exact ⟨a, vk_R.of h e⟩
theorem st_str {s : State} {b : Nat} (hts : ∀ w ∈ lw_tbl, w.before #[Value.ref b] s = true) : ∀ q ∈ kk_str, ∃ sa, vk_R q.1 q.2.1 q.2.2 sa s := by
  obtain ⟨D, hD⟩ := st_cls hts
  have c0 := (hD 0 _ rfl).2.1
  have c9 := (hD 9 _ rfl).2.1
  exact List.forall_mem_cons.mpr ⟨st_str1 c0 (hts _ (yw_in5 7 rfl)), List.forall_mem_cons.mpr ⟨st_str1 c0 (hts _ (yw_in5 10 rfl)), List.forall_mem_cons.mpr ⟨st_str1 c0 (hts _ (yw_in5 27 rfl)), List.forall_mem_cons.mpr ⟨st_str1 c0 (hts _ (yw_in5 47 rfl)), List.forall_mem_cons.mpr ⟨st_str1 c0 (hts _ (yw_in5 57 rfl)), List.forall_mem_cons.mpr ⟨st_str1 c0 (hts _ (yw_in5 71 rfl)), List.forall_mem_cons.mpr ⟨st_str1 c0 (hts _ (yw_in5 83 rfl)), List.forall_mem_cons.mpr ⟨st_str1 c0 (hts _ (yw_in5 88 rfl)), List.forall_mem_cons.mpr ⟨st_str1 c0 (hts _ (yw_in6 24 rfl)), List.forall_mem_cons.mpr ⟨st_str1 c0 (hts _ (yw_in6 36 rfl)), List.forall_mem_cons.mpr ⟨st_str1 c0 (hts _ (yw_in6 44 rfl)), List.forall_mem_cons.mpr ⟨st_str1 c0 (hts _ (yw_in6 53 rfl)), List.forall_mem_cons.mpr ⟨st_str1 c0 (hts _ (yw_in6 61 rfl)), List.forall_mem_cons.mpr ⟨st_str1 c0 (hts _ (yw_in6 62 rfl)), List.forall_mem_cons.mpr ⟨st_str1 c0 (hts _ (yw_in6 71 rfl)), List.forall_mem_cons.mpr ⟨st_str1 c0 (hts _ (yw_in6 72 rfl)), List.forall_mem_cons.mpr ⟨st_str1 c0 (hts _ (yw_in6 81 rfl)), List.forall_mem_cons.mpr ⟨st_str1 c9 (hts _ (yw_in2 211 rfl)), List.forall_mem_cons.mpr ⟨st_str1 c9 (hts _ (yw_in3 1 rfl)), fun _ h => absurd h List.not_mem_nil⟩⟩⟩⟩⟩⟩⟩⟩⟩⟩⟩⟩⟩⟩⟩⟩⟩⟩⟩
theorem st_nc {s : State} {b : Nat} (hts : ∀ w ∈ lw_tbl, w.before #[Value.ref b] s = true) (hn1 : narrow_1_1.before #[Value.ref b] s = true) (hn2 : narrow_1_2.before #[Value.ref b] s = true) (hn3 : narrow_1_3.before #[Value.ref b] s = true) (hn4 : narrow_1_4.before #[Value.ref b] s = true) : ∀ q ∈ kk_nc, va_Nc q.1 q.2 s := List.forall_mem_cons.mpr ⟨va_Nc.of (cb_l (cb_l (cb_r (cb_r (cb_r (cb_l (cb_r (cb_r (cb_r hn1))))))))), List.forall_mem_cons.mpr ⟨va_Nc.of (cb_r (cb_l (cb_r (cb_r (cb_r (cb_l (cb_r (cb_r (cb_r hn1))))))))), List.forall_mem_cons.mpr ⟨va_Nc.of (cb_l (cb_r (cb_l (cb_l (cb_r (cb_r (cb_r (cb_r (cb_r hn1))))))))), fun _ h => absurd h List.not_mem_nil⟩⟩⟩
theorem st_ca {s : State} {b : Nat} (hts : ∀ w ∈ lw_tbl, w.before #[Value.ref b] s = true) : ∀ q ∈ kk_ca, xk_ca q.1 q.2 s := List.forall_mem_cons.mpr ⟨xk_ca.of (hts _ (yw_in3 109 rfl)), List.forall_mem_cons.mpr ⟨xk_ca.of (hts _ (yw_in2 171 rfl)), List.forall_mem_cons.mpr ⟨xk_ca.of (hts _ (yw_in5 64 rfl)), fun _ h => absurd h List.not_mem_nil⟩⟩⟩
theorem st_de {s : State} {b : Nat} (hts : ∀ w ∈ lw_tbl, w.before #[Value.ref b] s = true) : ∀ w ∈ xt_de, va_Nw w s := List.forall_mem_cons.mpr ⟨va_Nw.of rfl (hts _ (yw_in2 173 rfl)), List.forall_mem_cons.mpr ⟨va_Nw.of rfl (hts _ (yw_in2 175 rfl)), List.forall_mem_cons.mpr ⟨va_Nw.of rfl (hts _ (yw_in2 177 rfl)), fun _ h => absurd h List.not_mem_nil⟩⟩⟩
theorem st_nm {s : State} {b : Nat} (hts : ∀ w ∈ lw_tbl, w.before #[Value.ref b] s = true) : ∀ q ∈ kk_nm, va_Nw (.methodLinkNest q.1 q.2.1 q.2.2.1 q.2.2.2) s := List.forall_mem_cons.mpr ⟨va_Nw.of rfl (hts _ (yw_in1 41 rfl)), List.forall_mem_cons.mpr ⟨va_Nw.of rfl (hts _ (yw_in1 87 rfl)), List.forall_mem_cons.mpr ⟨va_Nw.of rfl (hts _ (yw_in1 105 rfl)), List.forall_mem_cons.mpr ⟨va_Nw.of rfl (hts _ (yw_in2 64 rfl)), List.forall_mem_cons.mpr ⟨va_Nw.of rfl (hts _ (yw_in3 60 rfl)), List.forall_mem_cons.mpr ⟨va_Nw.of rfl (hts _ (yw_in3 63 rfl)), List.forall_mem_cons.mpr ⟨va_Nw.of rfl (hts _ (yw_in1 153 rfl)), List.forall_mem_cons.mpr ⟨va_Nw.of rfl (hts _ (yw_in5 214 rfl)), List.forall_mem_cons.mpr ⟨va_Nw.of rfl (hts _ (yw_in5 215 rfl)), fun _ h => absurd h List.not_mem_nil⟩⟩⟩⟩⟩⟩⟩⟩⟩
theorem st_nf {s : State} {b : Nat} (hts : ∀ w ∈ lw_tbl, w.before #[Value.ref b] s = true) : ∀ q ∈ kk_nf, va_Nw (.fieldLinkNest q.1 q.2.1 q.2.2.1 q.2.2.2.1 q.2.2.2.2.1 q.2.2.2.2.2) s := List.forall_mem_cons.mpr ⟨va_Nw.of rfl (hts _ (yw_in2 163 rfl)), List.forall_mem_cons.mpr ⟨va_Nw.of rfl (hts _ (yw_in5 107 rfl)), fun _ h => absurd h List.not_mem_nil⟩⟩
/-- where the cells lie: one behind the other from the start's heap on; the statics, the script -/
def ph0 (z t0 t1 t2 t3 t4 b : Nat) (k : Nat) : Nat := if k < 1000 then z + k else if k = 1000 then t0 else if k = 1001 then t1 else if k = 1002 then t2 else if k = 1003 then t3 else if k = 1004 then t4 else b
theorem st_all {s : State} {b : Nat} (hts : ∀ w ∈ lw_tbl, w.before #[Value.ref b] s = true) (hgv : (Jvm.Cond.and given_1 narrow_1).before #[Value.ref b] s = true) : ∃ u : xu_T, KK0 u s ∧ uz u ∧ u.2.2.2 = s.heap.size ∧ u.2.2.1 1005 = b := by
  have hn : narrow_1.before #[Value.ref b] s = true := cb_r hgv
  have hn12 : (Cond.and narrow_1_1 narrow_1_2).before #[Value.ref b] s = true := cb_l hn
  have hn34 : (Cond.and narrow_1_3 narrow_1_4).before #[Value.ref b] s = true := cb_r hn
  have hn1 := cb_l hn12
  have hn2 := cb_r hn12
  have hn3 := cb_l hn34
  have hn4 := cb_r hn34
  obtain ⟨D, hD⟩ := st_cls hts
  obtain ⟨ty, ht1, ht2⟩ := st_arr hts
  have hA : ∀ a : Nat, a < s.heap.size → ¬ s.heap.size ≤ a := fun a ha => Nat.not_le.mpr ha
  obtain ⟨t0, z0, q0⟩ := st_START (A := fun q => s.heap.size ≤ q) hts hn1 hn2 hn3 hn4 hA
  obtain ⟨t1, z1, q1⟩ := st_ADDENDS (A := fun q => s.heap.size ≤ q) hts hn1 hn2 hn3 hn4 hA
  obtain ⟨t2, z2, q2⟩ := st_TURNS (A := fun q => s.heap.size ≤ q) hts hn1 hn2 hn3 hn4 hA
  obtain ⟨t3, z3, q3⟩ := st_FIXED_FACTORS (A := fun q => s.heap.size ≤ q) hts hn1 hn2 hn3 hn4 hA
  obtain ⟨t4, z4, q4⟩ := st_DEPTHS (A := fun q => s.heap.size ≤ q) hts hn1 hn2 hn3 hn4 hA
  have p0 : ∀ k, k < 1000 → ph0 s.heap.size t0 t1 t2 t3 t4 b k = s.heap.size + k := fun k hk => if_pos hk
  refine ⟨(D, ty, ph0 s.heap.size t0 t1 t2 t3 t4 b, s.heap.size), ⟨⟨⟨fun i j hi hj e => ?_, fun k hk => ?_⟩, ⟨hD, ht2⟩, ht1⟩, st_thr (y := y0 (D, ty, ph0 s.heap.size t0 t1 t2 t3 t4 b, s.heap.size)) hts hn1 hn2 hn3 hn4 hA, st_str hts, st_nc hts hn1 hn2 hn3 hn4, st_ca hts, st_de hts, st_nm hts, st_nf hts, ⟨z0, q0⟩, ⟨z1, q1⟩, ⟨z2, q2⟩, ⟨z3, q3⟩, z4, q4⟩, fun k hk => p0 k (by omega), rfl, rfl⟩
  · have hi' : i < 157 := hi
    have hj' : j < 157 := hj
    have e' : ph0 s.heap.size t0 t1 t2 t3 t4 b i = ph0 s.heap.size t0 t1 t2 t3 t4 b j := e
    rw [p0 i (by omega), p0 j (by omega)] at e'
    omega
  · have hk' : k < 157 := hk
    show s.heap.size ≤ ph0 s.heap.size t0 t1 t2 t3 t4 b k
    rw [p0 k (by omega)]
    omega
