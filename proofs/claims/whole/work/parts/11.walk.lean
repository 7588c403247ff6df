/-! THE WALK BY NUMBERS: what is known of the locals (a list, a place each), the stack, the tables; and that from there the machine comes to its end -/
theorem xw_cat (φ : Nat → Nat) (v : Value) : (xw_v φ v).category = v.category := by cases v <;> rfl
def xg_L (φ : Nat → Nat) (nL : Nat) (L : List (Option Value)) (ls : Array Slot) : Prop := ls.size = nL ∧ lv_wf ls ∧ ∀ (i : Nat) (v : Value), L[i]? = some (some v) → ls[i]? = some (.val (xw_v φ v))
def xg_as (φ : Nat → Nat) (L : List (Option Value)) : List (Nat × Value) := (List.range L.length).filterMap fun i => (L.getD i none).map fun v => (i, xw_v φ v)
theorem xg_as_in {φ : Nat → Nat} {L : List (Option Value)} {i : Nat} {v : Value} (h : L[i]? = some (some v)) : (i, xw_v φ v) ∈ xg_as φ L := by
  have hl : i < L.length := (List.getElem?_eq_some_iff.mp h).1
  refine List.mem_filterMap.mpr ⟨i, List.mem_range.mpr hl, ?_⟩
  rw [List.getD_eq_getElem?_getD, h]
  rfl
theorem xg_as_out {φ : Nat → Nat} {L : List (Option Value)} {q : Nat × Value} (h : q ∈ xg_as φ L) : ∃ v, L[q.1]? = some (some v) ∧ q.2 = xw_v φ v := by
  obtain ⟨i, hi, he⟩ := List.mem_filterMap.mp h
  have hl : i < L.length := List.mem_range.mp hi
  rw [List.getD_eq_getElem?_getD, List.getElem?_eq_getElem hl] at he
  cases hv : L[i] with
  | none => rw [hv] at he; simp at he
  | some v =>
    rw [hv] at he
    simp at he
    subst he
    exact ⟨v, by rw [List.getElem?_eq_getElem hl, hv], rfl⟩
theorem xg_L.has {φ : Nat → Nat} {nL : Nat} {L : List (Option Value)} {ls : Array Slot} (h : xg_L φ nL L ls) : lv_has ls nL (xg_as φ L) := by
  refine ⟨h.1, h.2.1, fun q hq => ?_⟩
  obtain ⟨v, h1, h2⟩ := xg_as_out hq
  rw [h2]
  exact h.2.2 _ _ h1
/-- the place before holds no long any more -/
def xg_clr (L : List (Option Value)) (i : Nat) : List (Option Value) := match i with
  | 0 => L
  | i + 1 => match L.getD i none with
    | some v => if v.category = 2 then L.set i none else L
    | none => L
def xg_s1 (L : List (Option Value)) (i : Nat) (v : Value) : List (Option Value) := (xg_clr L i).set i (some v)
def xg_s2 (L : List (Option Value)) (i : Nat) (v : Value) : List (Option Value) := ((xg_clr L i).set i (some v)).set (i + 1) none
theorem xg_clr_at {L : List (Option Value)} {i j : Nat} {u : Value} (h : (xg_clr L i)[j]? = some (some u)) (hj : j ≠ i) : L[j]? = some (some u) ∧ ¬ (j + 1 = i ∧ u.category = 2) := by
  cases i with
  | zero => exact ⟨h, fun q => by omega⟩
  | succ i =>
    unfold xg_clr at h
    simp only at h
    rw [List.getD_eq_getElem?_getD] at h
    by_cases hji : j = i
    · subst hji
      cases hv : L[j]? with
      | none => rw [hv] at h; simp at h; rw [hv] at h; cases h
      | some w =>
        rw [hv] at h
        cases w with
        | none => simp at h; rw [hv] at h; cases h
        | some w =>
          simp only [Option.getD_some] at h
          by_cases hc : w.category = 2
          · rw [if_pos hc, List.getElem?_set] at h
            simp at h
          · rw [if_neg hc, hv] at h
            have e : w = u := by simpa using h
            subst e
            exact ⟨rfl, fun q => hc q.2⟩
    · have key : L[j]? = some (some u) := by
        cases hv : L[i]? with
        | none => rw [hv] at h; simpa using h
        | some w =>
          rw [hv] at h
          cases w with
          | none => simpa using h
          | some w =>
            simp only [Option.getD_some] at h
            by_cases hc : w.category = 2
            · rw [if_pos hc, List.getElem?_set_ne (fun q => hji q.symm)] at h
              exact h
            · rw [if_neg hc] at h
              exact h
      exact ⟨key, fun q => by omega⟩
theorem xg_conv1 {φ : Nat → Nat} {nL : Nat} {L : List (Option Value)} {ls : Array Slot} {i : Nat} {v w : Value} (hw : w = xw_v φ v) (h : lv_has ls nL ((i, w) :: (xg_as φ L).filter (fun q => !(q.1 == i) && !(q.1 + 1 == i && q.2.category == 2)))) : xg_L φ nL (xg_s1 L i v) ls := by
  subst hw
  refine ⟨h.1, h.2.1, fun j u hj => ?_⟩
  unfold xg_s1 at hj
  by_cases hji : j = i
  · subst hji
    rw [List.getElem?_set] at hj
    rw [if_pos rfl] at hj
    split at hj
    · cases hj
      exact h.2.2 _ List.mem_cons_self
    · cases hj
  · rw [List.getElem?_set_ne (fun q => hji q.symm)] at hj
    obtain ⟨h1, h2⟩ := xg_clr_at hj hji
    refine h.2.2 (j, xw_v φ u) (List.mem_cons_of_mem _ (List.mem_filter.mpr ⟨xg_as_in h1, ?_⟩))
    simp only [xw_cat, Bool.and_eq_true, Bool.not_eq_true', beq_eq_false_iff_ne, ne_eq, Bool.and_eq_false_iff]
    refine ⟨hji, ?_⟩
    by_cases hq : j + 1 = i
    · exact Or.inr (fun q => h2 ⟨hq, q⟩)
    · exact Or.inl hq
theorem xg_conv2 {φ : Nat → Nat} {nL : Nat} {L : List (Option Value)} {ls : Array Slot} {i : Nat} {v w : Value} (hw : w = xw_v φ v) (h : lv_has ls nL ((i, w) :: (xg_as φ L).filter (fun q => !(q.1 == i) && (!(q.1 == i + 1) && !(q.1 + 1 == i && q.2.category == 2))))) : xg_L φ nL (xg_s2 L i v) ls := by
  subst hw
  refine ⟨h.1, h.2.1, fun j u hj => ?_⟩
  unfold xg_s2 at hj
  by_cases hj1 : j = i + 1
  · subst hj1
    rw [List.getElem?_set] at hj
    rw [if_pos rfl] at hj
    split at hj <;> cases hj
  · rw [List.getElem?_set_ne (fun q => hj1 q.symm)] at hj
    by_cases hji : j = i
    · subst hji
      rw [List.getElem?_set] at hj
      rw [if_pos rfl] at hj
      split at hj
      · cases hj
        exact h.2.2 _ List.mem_cons_self
      · cases hj
    · rw [List.getElem?_set_ne (fun q => hji q.symm)] at hj
      obtain ⟨h1, h2⟩ := xg_clr_at hj hji
      refine h.2.2 (j, xw_v φ u) (List.mem_cons_of_mem _ (List.mem_filter.mpr ⟨xg_as_in h1, ?_⟩))
      simp only [xw_cat, Bool.and_eq_true, Bool.not_eq_true', beq_eq_false_iff_ne, ne_eq, Bool.and_eq_false_iff]
      refine ⟨hji, hj1, ?_⟩
      by_cases hq : j + 1 = i
      · exact Or.inr (fun q => h2 ⟨hq, q⟩)
      · exact Or.inl hq
