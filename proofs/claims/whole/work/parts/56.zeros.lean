/-! how many bits a number has; numberOfLeadingZeros, numberOfTrailingZeros -/
def bln : Nat → Nat
  | 0 => 0
  | m + 1 => bln ((m + 1) / 2) + 1
decreasing_by omega
theorem bln_lt (m : Nat) : m < 2 ^ bln m := by
  induction m using Nat.strongRecOn with
  | _ m ih =>
    cases m with
    | zero => simp [bln]
    | succ m =>
      rw [bln, Nat.pow_succ]
      have := ih ((m + 1) / 2) (by omega)
      omega
theorem bln_ge (m : Nat) (h : m ≠ 0) : 2 ^ (bln m - 1) ≤ m := by
  induction m using Nat.strongRecOn with
  | _ m ih =>
    cases m with
    | zero => exact absurd rfl h
    | succ m =>
      rw [bln]
      by_cases h1 : (m + 1) / 2 = 0
      · rw [h1]; simp [bln]
      · have h2 := ih ((m + 1) / 2) (by omega) h1
        have h3 : bln ((m + 1) / 2) ≠ 0 := by
          intro q
          have := bln_lt ((m + 1) / 2)
          rw [q] at this
          omega
        have h4 : bln ((m + 1) / 2) + 1 - 1 = (bln ((m + 1) / 2) - 1) + 1 := by omega
        rw [h4, Nat.pow_succ]
        omega
theorem bln_eq {m b : Nat} (h1 : m < 2 ^ b) (h2 : b ≠ 0 → 2 ^ (b - 1) ≤ m) : bln m = b := by
  have h3 := bln_lt m
  by_cases hm : m = 0
  · subst hm
    by_cases hb : b = 0
    · rw [hb]; simp [bln]
    · have := h2 hb
      have := Nat.pow_pos (n := b - 1) (show 0 < 2 by decide)
      omega
  · have h4 := bln_ge m hm
    have hb : b ≠ 0 := by intro q; subst q; simp at h1; exact hm h1
    have hb0 : bln m ≠ 0 := by intro q; rw [q] at h3; simp at h3; exact hm h3
    have := h2 hb
    apply Nat.le_antisymm
    · apply Nat.le_of_not_lt
      intro q
      have : 2 ^ b ≤ 2 ^ (bln m - 1) := Nat.pow_le_pow_right (by decide) (by omega)
      omega
    · apply Nat.le_of_not_lt
      intro q
      have : 2 ^ bln m ≤ 2 ^ (b - 1) := Nat.pow_le_pow_right (by decide) (by omega)
      omega
theorem bln_div {m k : Nat} (h : 2 ^ k ≤ m) : bln m = bln (m / 2 ^ k) + k := by
  have hp : 0 < 2 ^ k := Nat.pow_pos (by decide)
  have hm : m / 2 ^ k ≠ 0 := by
    have := (Nat.le_div_iff_mul_le hp (x := 1) (y := m)).mpr (by omega)
    omega
  have h1 := bln_lt (m / 2 ^ k)
  have h2 := bln_ge _ hm
  have h3 : bln (m / 2 ^ k) ≠ 0 := by intro q; rw [q] at h1; simp at h1; omega
  refine bln_eq ?_ (fun _ => ?_)
  · rw [Nat.pow_add]
    exact (Nat.div_lt_iff_lt_mul hp).mp h1
  · rw [show bln (m / 2 ^ k) + k - 1 = (bln (m / 2 ^ k) - 1) + k by omega, Nat.pow_add]
    exact (Nat.le_div_iff_mul_le hp).mp h2
theorem bln_le {m b : Nat} (h : m < 2 ^ b) : bln m ≤ b := by
  by_cases hm : m = 0
  · subst hm; simp [bln]
  · have h4 := bln_ge m hm
    apply Nat.le_of_not_lt
    intro q
    have : 2 ^ b ≤ 2 ^ (bln m - 1) := Nat.pow_le_pow_right (by decide) (by omega)
    omega
theorem nI_subk {n : Nat} (k : Nat) (h : k ≤ n) : nI n + -(nI k) = nI (n - k) := by
  rw [← Int32.sub_eq_add_neg, pk_sub h]
theorem bln_pos {a : Nat} (h : 0 < a) : 0 < bln a := by
  have := bln_lt a
  rcases Nat.eq_zero_or_pos (bln a) with q | q
  · rw [q] at this; omega
  · exact q
/-- t zeros below the lowest one -/
def TZ (x : Int32) (t : Nat) : Prop := ∃ q, x.toBitVec.toNat = 2 ^ t * (2 * q + 1)
theorem tz_of {x : Int32} (h : x ≠ 0) : ∃ t, t < 32 ∧ TZ x t := by
  have key : ∀ n : Nat, n ≠ 0 → ∃ t q, n = 2 ^ t * (2 * q + 1) := by
    intro n
    induction n using Nat.strongRecOn with
    | _ n ih =>
      intro hn
      by_cases e : n % 2 = 1
      · exact ⟨0, n / 2, by omega⟩
      · obtain ⟨t, q, hq⟩ := ih (n / 2) (by omega) (by omega)
        refine ⟨t + 1, q, ?_⟩
        have h1 : n = 2 * (n / 2) := by omega
        rw [h1, hq, Nat.pow_succ, Nat.mul_assoc, Nat.mul_left_comm]
  have hn : x.toBitVec.toNat ≠ 0 := by
    intro q
    apply h
    apply Int32.toBitVec_inj.mp
    exact BitVec.eq_of_toNat_eq q
  obtain ⟨t, q, e⟩ := key _ hn
  refine ⟨t, ?_, q, e⟩
  apply Nat.lt_of_not_le
  intro ht
  have h1 := x.toBitVec.isLt
  have h2 : 2 ^ 32 ≤ 2 ^ t := Nat.pow_le_pow_right (by decide) ht
  have h3 : 2 ^ t * 1 ≤ 2 ^ t * (2 * q + 1) := Nat.mul_le_mul_left _ (by omega)
  omega
theorem tz_bit {x : Int32} {t : Nat} (h : TZ x t) (j : Nat) : x.toBitVec.toNat.testBit j = true → t ≤ j := by
  obtain ⟨q, e⟩ := h
  rw [e, show 2 ^ t * (2 * q + 1) = 2 ^ t * (2 * q + 1) + 0 by omega, Nat.testBit_two_pow_mul_add _ (Nat.pow_pos (by decide))]
  split
  · intro z; simp at z
  · intro _; omega
theorem tz_mask {x : Int32} {t : Nat} (h : TZ x t) : (x ^^^ (-1)) &&& (x - 1) = nI (2 ^ t - 1) := by
  obtain ⟨q, e⟩ := h
  have hp : 0 < 2 ^ t := Nat.pow_pos (by decide)
  have h3 : 2 ^ t * 1 ≤ 2 ^ t * (2 * q + 1) := Nat.mul_le_mul_left _ (by omega)
  apply Int32.toBitVec_inj.mp
  rw [Int32.toBitVec_and, Int32.toBitVec_xor, Int32.toBitVec_sub]
  apply BitVec.eq_of_getLsbD_eq
  intro j hj
  rw [BitVec.getLsbD_and, BitVec.getLsbD_xor]
  have e1 : (Int32.toBitVec (-1)).getLsbD j = true := by
    have : Int32.toBitVec (-1) = BitVec.allOnes 32 := by decide
    rw [this, BitVec.getLsbD_allOnes]
    simpa using hj
  have e2 : (x.toBitVec - Int32.toBitVec 1).toNat = 2 ^ t * (2 * q) + (2 ^ t - 1) := by
    rw [BitVec.toNat_sub, show (Int32.toBitVec 1).toNat = 1 by decide, e]
    have h4 := x.toBitVec.isLt
    rw [e] at h4
    have h5 : 2 ^ t * (2 * q + 1) = 2 ^ t * (2 * q) + 2 ^ t := by rw [Nat.mul_add, Nat.mul_one]
    omega
  have e3 : (nI (2 ^ t - 1)).toBitVec.getLsbD j = decide (j < t) := by
    have : (nI (2 ^ t - 1)).toBitVec = BitVec.ofNat 32 (2 ^ t - 1) := rfl
    have e9 : (nI (2 ^ t - 1)).toBitVec.getLsbD j = decide (j < t) := by
      rw [this, BitVec.getLsbD_ofNat, Nat.testBit_two_pow_sub_one]
      simp only [hj, decide_true, Bool.true_and]
    exact e9
  rw [e1, e3]
  unfold BitVec.getLsbD
  rw [e2, e, show 2 ^ t * (2 * q + 1) = 2 ^ t * (2 * q + 1) + 0 by omega, Nat.testBit_two_pow_mul_add _ hp, Nat.testBit_two_pow_mul_add _ (by omega)]
  by_cases c : j < t
  · rw [if_pos c, if_pos c, Nat.testBit_two_pow_sub_one]
    simp [c]
  · rw [if_neg c, if_neg c]
    obtain ⟨k, rfl⟩ : ∃ k, j = t + k := ⟨j - t, by omega⟩
    rw [show t + k - t = k by omega]
    cases k with
    | zero => simp [Nat.testBit_zero]
    | succ k =>
      rw [Nat.testBit_succ, Nat.testBit_succ, show (2 * q + 1) / 2 = 2 * q / 2 by omega]
      simp
section S56
variable {u : xu_T} {l : Launch} {KK : State → Prop} {h : xw_H} {X : xc_R → xw_H → Nat → Nat → Prop}
theorem s_Jnlz (K : xk_ok u KK) {m : Nat} (hm : m < 2 ^ 31) (hX : X (.inl (some (.int (nI (32 - bln m))))) h 0 0) : xm_M l (y0 u) KK m_Jnlz [.int (nI m)] h X := by
  refine xm_of [none] (by simp) (Nat.le_of_ble_eq_true rfl) (by decide) (fun x at0 => ?_)
  have A := xa_of at0 K
  have ow := at0.2.2.2.2.1
  refine ra_iload_n A d_Jnlz_0 rfl <| ?_
  by_cases h0 : m = 0
  · subst h0
    refine ra_if_gt (q := 15) A d_Jnlz_1 (by decide) (fun cc => absurd cc ((by decide))) (fun _ => ?_)
    refine ra_iload_n A d_Jnlz_4 rfl <| ?_
    refine ra_if_ne (q := 13) A d_Jnlz_5 (by decide) (fun cc => absurd ((by decide)) cc) (fun _ => ?_)
    refine ra_bipush A 32 d_Jnlz_8 (by decide) <| ra_goto (q := 14) A d_Jnlz_10 (by decide) <| ?_
    rw [show bln 0 = 0 by simp [bln]] at hX
    exact ra_iret A ow d_Jnlz_14 hX
  refine ra_if_gt (q := 15) A d_Jnlz_1 (by decide) (fun _ => ?_) (fun cc => absurd ((nI_ltI (a := 0) (by decide) hm).mpr (by omega)) cc)
  have f4 : ∀ a n : Nat, 0 < a → a < 4 → bln m + n + 1 = bln a + 32 → bln a ≤ n + 1 → n ≤ 31 → xg x (y0 u) 0 0 73 [some (.int (nI a)), some (.int (nI n))] [] h := by
    intro a n h1 h2 h3 h4 h5
    refine ra_iload_n A d_Jnlz_73 rfl <| ra_iload_n A d_Jnlz_74 rfl <| ra_iconst A 1 d_Jnlz_75 (by decide) <| ra_iushr A d_Jnlz_76 <| ?_
    rw [pk_ushrN (k := 1) (by omega) 1 (by decide)]
    have hb : bln a = a / 2 + 1 := by
      have : a = 1 ∨ a = 2 ∨ a = 3 := by omega
      rcases this with rfl | rfl | rfl <;> simp [bln]
    refine ra_isub A d_Jnlz_77 <| ?_
    rw [pk_sub (by omega)]
    rw [show 32 - bln m = n - a / 2 ^ 1 by omega] at hX
    exact ra_iret A ow d_Jnlz_78 hX
  have f3 : ∀ a n : Nat, 0 < a → a < 16 → bln m + n + 1 = bln a + 32 → bln a ≤ n + 1 → n ≤ 31 → xg x (y0 u) 0 0 61 [some (.int (nI a)), some (.int (nI n))] [] h := by
    intro a n h1 h2 h3 h4 h5
    refine ra_iload_n A d_Jnlz_61 rfl <| ra_iconst A 4 d_Jnlz_62 (by decide) <| ?_
    by_cases c : a < 4
    · refine ra_icmp_lt (q := 73) A d_Jnlz_63 (by decide) (fun _ => ?_) (fun cc => absurd ((nI_ltI (by omega) (by decide)).mpr c) cc)
      exact f4 a n h1 c h3 h4 h5
    · refine ra_icmp_lt (q := 73) A d_Jnlz_63 (by decide) (fun cc => absurd cc (fun q => c ((nI_ltI (b := 4) (by omega) (by decide)).mp q))) (fun _ => ?_)
      have e := bln_div (m := a) (k := 2) (by omega)
      have e2 := bln_pos (a := a / 2 ^ 2) (by omega)
      refine ra_iinc (L' := [_, _]) A (-2) d_Jnlz_66 rfl (by decide) (by decide) rfl <| ra_iload_n A d_Jnlz_69 rfl <| ra_iconst A 2 d_Jnlz_70 (by decide) <| ra_iushr A d_Jnlz_71 <| ?_
      rw [pk_ushrN (k := 2) (by omega) 2 (by decide)]
      refine ra_istore_n (L' := [_, _]) A d_Jnlz_72 (by decide) rfl <| ?_
      rw [show nI n + -2 = nI (n - 2) from nI_subk 2 (by omega)]
      exact f4 _ _ (by omega) (by omega) (by omega) (by omega) (by omega)
  have f2 : ∀ a n : Nat, 0 < a → a < 256 → bln m + n + 1 = bln a + 32 → bln a ≤ n + 1 → n ≤ 31 → xg x (y0 u) 0 0 48 [some (.int (nI a)), some (.int (nI n))] [] h := by
    intro a n h1 h2 h3 h4 h5
    refine ra_iload_n A d_Jnlz_48 rfl <| ra_bipush A 16 d_Jnlz_49 (by decide) <| ?_
    by_cases c : a < 16
    · refine ra_icmp_lt (q := 61) A d_Jnlz_51 (by decide) (fun _ => ?_) (fun cc => absurd ((nI_ltI (by omega) (by decide)).mpr c) cc)
      exact f3 a n h1 c h3 h4 h5
    · refine ra_icmp_lt (q := 61) A d_Jnlz_51 (by decide) (fun cc => absurd cc (fun q => c ((nI_ltI (b := 16) (by omega) (by decide)).mp q))) (fun _ => ?_)
      have e := bln_div (m := a) (k := 4) (by omega)
      have e2 := bln_pos (a := a / 2 ^ 4) (by omega)
      refine ra_iinc (L' := [_, _]) A (-4) d_Jnlz_54 rfl (by decide) (by decide) rfl <| ra_iload_n A d_Jnlz_57 rfl <| ra_iconst A 4 d_Jnlz_58 (by decide) <| ra_iushr A d_Jnlz_59 <| ?_
      rw [pk_ushrN (k := 4) (by omega) 4 (by decide)]
      refine ra_istore_n (L' := [_, _]) A d_Jnlz_60 (by decide) rfl <| ?_
      rw [show nI n + -4 = nI (n - 4) from nI_subk 4 (by omega)]
      exact f3 _ _ (by omega) (by omega) (by omega) (by omega) (by omega)
  have f1 : ∀ a n : Nat, 0 < a → a < 65536 → bln m + n + 1 = bln a + 32 → bln a ≤ n + 1 → n ≤ 31 → xg x (y0 u) 0 0 33 [some (.int (nI a)), some (.int (nI n))] [] h := by
    intro a n h1 h2 h3 h4 h5
    refine ra_iload_n A d_Jnlz_33 rfl <| ra_sipush A 256 d_Jnlz_34 (by decide) <| ?_
    by_cases c : a < 256
    · refine ra_icmp_lt (q := 48) A d_Jnlz_37 (by decide) (fun _ => ?_) (fun cc => absurd ((nI_ltI (by omega) (by decide)).mpr c) cc)
      exact f2 a n h1 c h3 h4 h5
    · refine ra_icmp_lt (q := 48) A d_Jnlz_37 (by decide) (fun cc => absurd cc (fun q => c ((nI_ltI (b := 256) (by omega) (by decide)).mp q))) (fun _ => ?_)
      have e := bln_div (m := a) (k := 8) (by omega)
      have e2 := bln_pos (a := a / 2 ^ 8) (by omega)
      refine ra_iinc (L' := [_, _]) A (-8) d_Jnlz_40 rfl (by decide) (by decide) rfl <| ra_iload_n A d_Jnlz_43 rfl <| ra_bipush A 8 d_Jnlz_44 (by decide) <| ra_iushr A d_Jnlz_46 <| ?_
      rw [pk_ushrN (k := 8) (by omega) 8 (by decide)]
      refine ra_istore_n (L' := [_, _]) A d_Jnlz_47 (by decide) rfl <| ?_
      rw [show nI n + -8 = nI (n - 8) from nI_subk 8 (by omega)]
      exact f2 _ _ (by omega) (by omega) (by omega) (by omega) (by omega)
  have f0 : ∀ a n : Nat, 0 < a → a < 2147483648 → bln m + n + 1 = bln a + 32 → bln a ≤ n + 1 → n ≤ 31 → xg x (y0 u) 0 0 18 [some (.int (nI a)), some (.int (nI n))] [] h := by
    intro a n h1 h2 h3 h4 h5
    refine ra_iload_n A d_Jnlz_18 rfl <| ra_ldcw A k_In_264 d_Jnlz_19 <| ?_
    by_cases c : a < 65536
    · refine ra_icmp_lt (q := 33) A d_Jnlz_22 (by decide) (fun _ => ?_) (fun cc => absurd ((nI_ltI (by omega) (by decide)).mpr c) cc)
      exact f1 a n h1 c h3 h4 h5
    · refine ra_icmp_lt (q := 33) A d_Jnlz_22 (by decide) (fun cc => absurd cc (fun q => c ((nI_ltI (b := 65536) (by omega) (by decide)).mp q))) (fun _ => ?_)
      have e := bln_div (m := a) (k := 16) (by omega)
      have e2 := bln_pos (a := a / 2 ^ 16) (by omega)
      refine ra_iinc (L' := [_, _]) A (-16) d_Jnlz_25 rfl (by decide) (by decide) rfl <| ra_iload_n A d_Jnlz_28 rfl <| ra_bipush A 16 d_Jnlz_29 (by decide) <| ra_iushr A d_Jnlz_31 <| ?_
      rw [pk_ushrN (k := 16) (by omega) 16 (by decide)]
      refine ra_istore_n (L' := [_, _]) A d_Jnlz_32 (by decide) rfl <| ?_
      rw [show nI n + -16 = nI (n - 16) from nI_subk 16 (by omega)]
      exact f1 _ _ (by omega) (by omega) (by omega) (by omega) (by omega)
  refine ra_bipush A 31 d_Jnlz_15 (by decide) <| ra_istore_n (L' := [_, _]) A d_Jnlz_17 (by decide) rfl <| ?_
  exact f0 m 31 (by omega) hm (by omega) (bln_le (by omega)) (by omega)
theorem s_Jntz (K : xk_ok u KK) {v : Int32} {t : Nat} (ht : t < 32) (hv : TZ v t) (hX : X (.inl (some (.int (nI t)))) h 0 0) : xm_M l (y0 u) KK m_Jntz [.int v] h X := by
  refine xm_of [none] (by simp) (Nat.le_of_ble_eq_true rfl) (by decide) (fun x at0 => ?_)
  have A := xa_of at0 K
  have ow := at0.2.2.2.2.1
  refine ra_iload_n A d_Jntz_0 rfl <| ra_iconst A (-1) d_Jntz_1 (by decide) <| ra_ixor A d_Jntz_2 <| ra_iload_n A d_Jntz_3 rfl <| ra_iconst A 1 d_Jntz_4 (by decide) <| ra_isub A d_Jntz_5 <| ra_iand A d_Jntz_6 <| ?_
  rw [tz_mask hv]
  refine ra_istore_n (L' := [_, _]) A d_Jntz_7 (by decide) rfl <| ra_iload_n A d_Jntz_8 rfl <| ?_
  by_cases h0 : t = 0
  · subst h0
    refine ra_if_gt (q := 17) A d_Jntz_9 (by decide) (fun cc => absurd cc ((by decide))) (fun _ => ?_)
    refine ra_iload_n A d_Jntz_12 rfl <| ra_bipush A 32 d_Jntz_13 (by decide) <| ra_iand A d_Jntz_15 <| ?_
    exact ra_iret A ow d_Jntz_16 hX
  have P : ∀ s, s < 32 → (17 ≤ s → (2 ^ s - 1) / 2 ^ 16 = 2 ^ (s - 16) - 1 ∧ 65536 < 2 ^ s - 1) ∧ (9 ≤ s → (2 ^ s - 1) / 2 ^ 8 = 2 ^ (s - 8) - 1 ∧ 256 < 2 ^ s - 1) ∧ (5 ≤ s → (2 ^ s - 1) / 2 ^ 4 = 2 ^ (s - 4) - 1 ∧ 16 < 2 ^ s - 1) ∧ (3 ≤ s → (2 ^ s - 1) / 2 ^ 2 = 2 ^ (s - 2) - 1 ∧ 4 < 2 ^ s - 1) ∧ (s ≤ 16 → 2 ^ s - 1 ≤ 65536) ∧ (s ≤ 8 → 2 ^ s - 1 ≤ 256) ∧ (s ≤ 4 → 2 ^ s - 1 ≤ 16) ∧ (s ≤ 2 → 2 ^ s - 1 ≤ 4) ∧ 2 ^ s - 1 < 2 ^ 31 ∧ (1 ≤ s → 0 < 2 ^ s - 1) := by decide
  refine ra_if_gt (q := 17) A d_Jntz_9 (by decide) (fun _ => ?_) (fun cc => absurd ((nI_ltI (a := 0) (by decide) (by have := P t ht; omega)).mpr (by have := P t ht; omega)) cc)
  have f4 : ∀ s n : Nat, 1 ≤ s → s ≤ 2 → n + s = t + 1 → xg x (y0 u) 0 0 74 [some (.int (nI (2 ^ s - 1))), some (.int (nI n))] [] h := by
    intro s n h1 h2 h3
    refine ra_iload_n A d_Jntz_74 rfl <| ra_iload_n A d_Jntz_75 rfl <| ra_iconst A 1 d_Jntz_76 (by decide) <| ra_iushr A d_Jntz_77 <| ?_
    have hs : s = 1 ∨ s = 2 := by omega
    rcases hs with rfl | rfl
    · rw [pk_ushrN (k := 1) (by omega) 1 (by decide)]
      refine ra_iadd A d_Jntz_78 <| ?_
      rw [nI_add, show n + (2 ^ 1 - 1) / 2 ^ 1 = t by omega]
      exact ra_iret A ow d_Jntz_79 hX
    · rw [pk_ushrN (k := 1) (by omega) 1 (by decide)]
      refine ra_iadd A d_Jntz_78 <| ?_
      rw [nI_add, show n + (2 ^ 2 - 1) / 2 ^ 1 = t by omega]
      exact ra_iret A ow d_Jntz_79 hX
  have f3 : ∀ s n : Nat, 1 ≤ s → s ≤ 4 → n + s = t + 1 → xg x (y0 u) 0 0 62 [some (.int (nI (2 ^ s - 1))), some (.int (nI n))] [] h := by
    intro s n h1 h2 h3
    have p := P s (by omega)
    refine ra_iload_n A d_Jntz_62 rfl <| ra_iconst A 4 d_Jntz_63 (by decide) <| ?_
    by_cases c : s ≤ 2
    · refine ra_icmp_le (q := 74) A d_Jntz_64 (by decide) (fun _ => ?_) (fun cc => absurd ((nI_leI (b := 4) (by omega) (by decide)).mpr (by omega)) cc)
      exact f4 s n h1 c h3
    · refine ra_icmp_le (q := 74) A d_Jntz_64 (by decide) (fun cc => absurd cc (fun q => (show ¬ 2 ^ s - 1 ≤ 4 by omega) ((nI_leI (b := 4) (by omega) (by decide)).mp q))) (fun _ => ?_)
      refine ra_iinc (L' := [_, _]) A 2 d_Jntz_67 rfl (by decide) (by decide) rfl <| ra_iload_n A d_Jntz_70 rfl <| ra_iconst A 2 d_Jntz_71 (by decide) <| ra_iushr A d_Jntz_72 <| ?_
      rw [pk_ushrN (k := 2) (by omega) 2 (by decide), show (2 ^ s - 1) / 2 ^ 2 = 2 ^ (s - 2) - 1 by omega]
      refine ra_istore_n (L' := [_, _]) A d_Jntz_73 (by decide) rfl <| ?_
      rw [show nI n + 2 = nI (n + 2) from nI_add n 2]
      exact f4 _ _ (by omega) (by omega) (by omega)
  have f2 : ∀ s n : Nat, 1 ≤ s → s ≤ 8 → n + s = t + 1 → xg x (y0 u) 0 0 49 [some (.int (nI (2 ^ s - 1))), some (.int (nI n))] [] h := by
    intro s n h1 h2 h3
    have p := P s (by omega)
    refine ra_iload_n A d_Jntz_49 rfl <| ra_bipush A 16 d_Jntz_50 (by decide) <| ?_
    by_cases c : s ≤ 4
    · refine ra_icmp_le (q := 62) A d_Jntz_52 (by decide) (fun _ => ?_) (fun cc => absurd ((nI_leI (b := 16) (by omega) (by decide)).mpr (by omega)) cc)
      exact f3 s n h1 c h3
    · refine ra_icmp_le (q := 62) A d_Jntz_52 (by decide) (fun cc => absurd cc (fun q => (show ¬ 2 ^ s - 1 ≤ 16 by omega) ((nI_leI (b := 16) (by omega) (by decide)).mp q))) (fun _ => ?_)
      refine ra_iinc (L' := [_, _]) A 4 d_Jntz_55 rfl (by decide) (by decide) rfl <| ra_iload_n A d_Jntz_58 rfl <| ra_iconst A 4 d_Jntz_59 (by decide) <| ra_iushr A d_Jntz_60 <| ?_
      rw [pk_ushrN (k := 4) (by omega) 4 (by decide), show (2 ^ s - 1) / 2 ^ 4 = 2 ^ (s - 4) - 1 by omega]
      refine ra_istore_n (L' := [_, _]) A d_Jntz_61 (by decide) rfl <| ?_
      rw [show nI n + 4 = nI (n + 4) from nI_add n 4]
      exact f3 _ _ (by omega) (by omega) (by omega)
  have f1 : ∀ s n : Nat, 1 ≤ s → s ≤ 16 → n + s = t + 1 → xg x (y0 u) 0 0 34 [some (.int (nI (2 ^ s - 1))), some (.int (nI n))] [] h := by
    intro s n h1 h2 h3
    have p := P s (by omega)
    refine ra_iload_n A d_Jntz_34 rfl <| ra_sipush A 256 d_Jntz_35 (by decide) <| ?_
    by_cases c : s ≤ 8
    · refine ra_icmp_le (q := 49) A d_Jntz_38 (by decide) (fun _ => ?_) (fun cc => absurd ((nI_leI (b := 256) (by omega) (by decide)).mpr (by omega)) cc)
      exact f2 s n h1 c h3
    · refine ra_icmp_le (q := 49) A d_Jntz_38 (by decide) (fun cc => absurd cc (fun q => (show ¬ 2 ^ s - 1 ≤ 256 by omega) ((nI_leI (b := 256) (by omega) (by decide)).mp q))) (fun _ => ?_)
      refine ra_iinc (L' := [_, _]) A 8 d_Jntz_41 rfl (by decide) (by decide) rfl <| ra_iload_n A d_Jntz_44 rfl <| ra_bipush A 8 d_Jntz_45 (by decide) <| ra_iushr A d_Jntz_47 <| ?_
      rw [pk_ushrN (k := 8) (by omega) 8 (by decide), show (2 ^ s - 1) / 2 ^ 8 = 2 ^ (s - 8) - 1 by omega]
      refine ra_istore_n (L' := [_, _]) A d_Jntz_48 (by decide) rfl <| ?_
      rw [show nI n + 8 = nI (n + 8) from nI_add n 8]
      exact f2 _ _ (by omega) (by omega) (by omega)
  have f0 : ∀ s n : Nat, 1 ≤ s → s ≤ 31 → n + s = t + 1 → xg x (y0 u) 0 0 19 [some (.int (nI (2 ^ s - 1))), some (.int (nI n))] [] h := by
    intro s n h1 h2 h3
    have p := P s (by omega)
    refine ra_iload_n A d_Jntz_19 rfl <| ra_ldcw A k_In_264 d_Jntz_20 <| ?_
    by_cases c : s ≤ 16
    · refine ra_icmp_le (q := 34) A d_Jntz_23 (by decide) (fun _ => ?_) (fun cc => absurd ((nI_leI (b := 65536) (by omega) (by decide)).mpr (by omega)) cc)
      exact f1 s n h1 c h3
    · refine ra_icmp_le (q := 34) A d_Jntz_23 (by decide) (fun cc => absurd cc (fun q => (show ¬ 2 ^ s - 1 ≤ 65536 by omega) ((nI_leI (b := 65536) (by omega) (by decide)).mp q))) (fun _ => ?_)
      refine ra_iinc (L' := [_, _]) A 16 d_Jntz_26 rfl (by decide) (by decide) rfl <| ra_iload_n A d_Jntz_29 rfl <| ra_bipush A 16 d_Jntz_30 (by decide) <| ra_iushr A d_Jntz_32 <| ?_
      rw [pk_ushrN (k := 16) (by omega) 16 (by decide), show (2 ^ s - 1) / 2 ^ 16 = 2 ^ (s - 16) - 1 by omega]
      refine ra_istore_n (L' := [_, _]) A d_Jntz_33 (by decide) rfl <| ?_
      rw [show nI n + 16 = nI (n + 16) from nI_add n 16]
      exact f1 _ _ (by omega) (by omega) (by omega)
  refine ra_iconst A 1 d_Jntz_17 (by decide) <| ra_istore_n (L' := [_, _]) A d_Jntz_18 (by decide) rfl <| ?_
  exact f0 t 1 (by omega) (by omega) (by omega)
end S56
