/-! the three exceptions that the class throws: their words -/
def xt_names : List String := ["java/lang/RuntimeException", "java/lang/Exception"]
def xt_rest (X : String) : List Cond := Bundle.throwableAtoms ++ Bundle.throwableSAtoms ++ Bundle.chainSAtoms X xt_names ++
  [.instantiable X 6, .castable X X, .selects X Bundle.tFill0 Bundle.tFill0, .selects X Bundle.tFill Bundle.tFill,
   .lays X Bundle.tN "cause" "Ljava/lang/Throwable;", .lays X Bundle.tN "stackTrace" Bundle.steD, .lays X Bundle.tN "suppressedExceptions" Bundle.listD, .lays X Bundle.tN "detailMessage" "Ljava/lang/String;",
   .isRef (.static Bundle.tN "UNASSIGNED_STACK" Bundle.steD), .isRef (.static Bundle.tN "SUPPRESSED_SENTINEL" Bundle.listD),
   .fieldLink Bundle.tN 198 Bundle.tN "backtrace" "Ljava/lang/Object;", .lays Bundle.tN Bundle.tN "backtrace" "Ljava/lang/Object;", .lays X Bundle.tN "backtrace" "Ljava/lang/Object;"]
theorem xt_split {own X : String} {ic : Nat} {w : Cond} (h : w ∈ Bundle.ownAtoms own ic X xt_names) : w = .methodLink own ic (Bundle.initS X) ∨ w ∈ xt_rest X := by
  unfold Bundle.ownAtoms at h
  unfold xt_rest
  rcases List.mem_append.mp h with h | h
  · exact Or.inr (List.mem_append_left _ h)
  · rcases List.mem_cons.mp h with h | h
    · exact Or.inl h
    · exact Or.inr (List.mem_append_right _ h)
def xt_ok (X : String) : Prop := ∀ w ∈ xt_rest X, w ∈ xw_tbl ∨ w ∈ xt_four ∨ w = .castable X X ∨ w ∈ xt_de
theorem xt_IAE : xt_ok "java/lang/IllegalArgumentException" := by
  show ∀ w ∈ xt_rest "java/lang/IllegalArgumentException", w ∈ xw_tbl ∨ w ∈ xt_four ∨ w = .castable "java/lang/IllegalArgumentException" "java/lang/IllegalArgumentException" ∨ w ∈ xt_de
  decide +kernel
theorem xt_ISE : xt_ok "java/lang/IllegalStateException" := by
  show ∀ w ∈ xt_rest "java/lang/IllegalStateException", w ∈ xw_tbl ∨ w ∈ xt_four ∨ w = .castable "java/lang/IllegalStateException" "java/lang/IllegalStateException" ∨ w ∈ xt_de
  decide +kernel
theorem xt_IOE : xt_ok "java/lang/IndexOutOfBoundsException" := by
  show ∀ w ∈ xt_rest "java/lang/IndexOutOfBoundsException", w ∈ xw_tbl ∨ w ∈ xt_four ∨ w = .castable "java/lang/IndexOutOfBoundsException" "java/lang/IndexOutOfBoundsException" ∨ w ∈ xt_de
  decide +kernel
