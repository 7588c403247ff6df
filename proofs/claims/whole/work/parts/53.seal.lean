/-! checks: SoundStreamModel.check, seal, stream; SoundStream.seal -/
section S53
variable {u : xu_T} {l : Launch} {KK : State → Prop} {h : xw_H} {X : xc_R → xw_H → Nat → Nat → Prop}
def gk_bit (n al by' b k v : Int32) : Int32 := if (v >>> ((n - 1) &&& 31)) ^^^ ((b >>> (k &&& 31)) &&& 1) = 1 then ((v <<< ((1 : Int32) &&& 31)) &&& al) ^^^ by' else (v <<< ((1 : Int32) &&& 31)) &&& al
def gk_bits (n al by' b : Int32) : Nat → Int32 → Int32
  | 0, v => v
  | r + 1, v => gk_bits n al by' b r (gk_bit n al by' b (nI r) v)
def gk_row (h : xw_H) (n al by' : Int32) : Nat → Nat → Int32 → Int32
  | 0, _, v => v
  | r + 1, j, v => gk_row h n al by' r (j + 1) (gk_bits n al by' (h.1 148 j) 8 v)
def gk_all (n : Int32) : Int32 := if n = 8 then 255 else 65535
def g_check (h : xw_H) (n : Int32) (a b : Nat) : Int32 := gk_row h n (gk_all n) (ck_pat n) (b - a) a 0
theorem s_Mo_check (K : xk_ok u KK) {n : Int32} {a b : Nat} (hab : a ≤ b) (hb : b ≤ 9400) (hX : X (.inl (some (.int (g_check h n a b)))) h 0 0) : xm_M l (y0 u) KK m_Mo_check [.ref 141, .int n, .int (nI a), .int (nI b)] h X := by
  refine xm_of [none, none, none, none, none, none] (by simp) (Nat.le_of_ble_eq_true rfl) (by decide) (fun x at0 => ?_)
  have A := xa_of at0 K
  have ow := at0.2.2.2.2.1
  have inner : ∀ (r j : Nat) (al by' v : Int32) (v9 : Option Value), r < 8 → j < b → (∀ (w8 w9 : Option Value), xg x (y0 u) 0 0 106 [some (.ref 141), some (.int n), some (.int (nI a)), some (.int (nI b)), some (.int (gk_bits n al by' (h.1 148 j) (r + 1) v)), some (.int by'), some (.int al), some (.int (nI j)), w8, w9] [] h) →
      xg x (y0 u) 0 0 47 [some (.ref 141), some (.int n), some (.int (nI a)), some (.int (nI b)), some (.int v), some (.int by'), some (.int al), some (.int (nI j)), some (.int (nI r)), v9] [] h := by
    intro r
    induction r with
    | zero =>
      intro j al by' v v9 hr hj k
      refine ra_iload A d_Mo_check_47 rfl <| ?_
      refine ra_if_lt (q := 106) A d_Mo_check_49 (by decide) (fun c1 => ?_) (fun c1 => ?_)
      · exact absurd c1 (by decide)
      refine ra_iload A d_Mo_check_52 rfl <| ra_iload_n A d_Mo_check_54 rfl <| ra_iconst A 1 d_Mo_check_55 (by decide) <| ra_isub A d_Mo_check_56 <| ra_ishr A d_Mo_check_57 <| ra_aload_n A d_Mo_check_58 rfl <| ra_getR A f_Mo_170 d_Mo_check_59 (Nat.le_of_ble_eq_true rfl) rfl rfl rfl <| ra_iload A d_Mo_check_62 rfl <| ?_
      refine ra_iaload A d_Mo_check_64 (Nat.le_of_ble_eq_true rfl) rfl (vp_in_nI (by omega) (by decide)) ?_
      rw [nI_clamp (by omega)]
      refine ra_iload A d_Mo_check_65 rfl <| ra_ishr A d_Mo_check_67 <| ra_iconst A 1 d_Mo_check_68 (by decide) <| ra_iand A d_Mo_check_69 <| ra_ixor A d_Mo_check_70 <| ra_istore (L' := [_, _, _, _, _, _, _, _, _, _]) A d_Mo_check_71 (by decide) rfl <| ra_iload A d_Mo_check_73 rfl <| ra_iconst A 1 d_Mo_check_75 (by decide) <| ra_ishl A d_Mo_check_76 <| ra_iload A d_Mo_check_77 rfl <| ra_iand A d_Mo_check_79 <| ra_istore (L' := [_, _, _, _, _, _, _, _, _, _]) A d_Mo_check_80 (by decide) rfl <| ra_iload A d_Mo_check_82 rfl <| ra_iconst A 1 d_Mo_check_84 (by decide) <| ?_
      refine ra_icmp_ne (q := 96) A d_Mo_check_85 (by decide) (fun c2 => ?_) (fun c2 => ?_)
      · refine ra_iload A d_Mo_check_96 rfl <| ra_istore (L' := [_, _, _, _, _, _, _, _, _, _]) A d_Mo_check_98 (by decide) rfl <| ra_iinc (L' := [_, _, _, _, _, _, _, _, _, _]) A (-1) d_Mo_check_100 rfl (by decide) (by decide) rfl <| ra_goto (q := 47) A d_Mo_check_103 (by decide) <| ra_iload A d_Mo_check_47 rfl <| ?_
        refine ra_if_lt (q := 106) A d_Mo_check_49 (by decide) (fun c3 => ?_) (fun c3 => ?_)
        · have e := k (some (.int (-1))) (some (.int ((v >>> ((n - 1) &&& 31)) ^^^ ((h.1 148 j >>> (nI 0 &&& 31)) &&& 1))))
          rw [gk_bits, gk_bits, gk_bit, if_neg c2] at e
          exact e
        · exact absurd (by decide) c3
      · refine ra_iload A d_Mo_check_88 rfl <| ra_iload A d_Mo_check_90 rfl <| ra_ixor A d_Mo_check_92 <| ra_goto (q := 98) A d_Mo_check_93 (by decide) <| ra_istore (L' := [_, _, _, _, _, _, _, _, _, _]) A d_Mo_check_98 (by decide) rfl <| ra_iinc (L' := [_, _, _, _, _, _, _, _, _, _]) A (-1) d_Mo_check_100 rfl (by decide) (by decide) rfl <| ra_goto (q := 47) A d_Mo_check_103 (by decide) <| ra_iload A d_Mo_check_47 rfl <| ?_
        refine ra_if_lt (q := 106) A d_Mo_check_49 (by decide) (fun c3 => ?_) (fun c3 => ?_)
        · have e := k (some (.int (-1))) (some (.int ((v >>> ((n - 1) &&& 31)) ^^^ ((h.1 148 j >>> (nI 0 &&& 31)) &&& 1))))
          rw [gk_bits, gk_bits, gk_bit, if_pos c2] at e
          exact e
        · exact absurd (by decide) c3
    | succ r ih =>
      intro j al by' v v9 hr hj k
      refine ra_iload A d_Mo_check_47 rfl <| ?_
      refine ra_if_lt (q := 106) A d_Mo_check_49 (by decide) (fun c1 => ?_) (fun c1 => ?_)
      · exact absurd c1 (nI_pos (by omega))
      refine ra_iload A d_Mo_check_52 rfl <| ra_iload_n A d_Mo_check_54 rfl <| ra_iconst A 1 d_Mo_check_55 (by decide) <| ra_isub A d_Mo_check_56 <| ra_ishr A d_Mo_check_57 <| ra_aload_n A d_Mo_check_58 rfl <| ra_getR A f_Mo_170 d_Mo_check_59 (Nat.le_of_ble_eq_true rfl) rfl rfl rfl <| ra_iload A d_Mo_check_62 rfl <| ?_
      refine ra_iaload A d_Mo_check_64 (Nat.le_of_ble_eq_true rfl) rfl (vp_in_nI (by omega) (by decide)) ?_
      rw [nI_clamp (by omega)]
      refine ra_iload A d_Mo_check_65 rfl <| ra_ishr A d_Mo_check_67 <| ra_iconst A 1 d_Mo_check_68 (by decide) <| ra_iand A d_Mo_check_69 <| ra_ixor A d_Mo_check_70 <| ra_istore (L' := [_, _, _, _, _, _, _, _, _, _]) A d_Mo_check_71 (by decide) rfl <| ra_iload A d_Mo_check_73 rfl <| ra_iconst A 1 d_Mo_check_75 (by decide) <| ra_ishl A d_Mo_check_76 <| ra_iload A d_Mo_check_77 rfl <| ra_iand A d_Mo_check_79 <| ra_istore (L' := [_, _, _, _, _, _, _, _, _, _]) A d_Mo_check_80 (by decide) rfl <| ra_iload A d_Mo_check_82 rfl <| ra_iconst A 1 d_Mo_check_84 (by decide) <| ?_
      refine ra_icmp_ne (q := 96) A d_Mo_check_85 (by decide) (fun c2 => ?_) (fun c2 => ?_)
      · refine ra_iload A d_Mo_check_96 rfl <| ra_istore (L' := [_, _, _, _, _, _, _, _, _, _]) A d_Mo_check_98 (by decide) rfl <| ra_iinc (L' := [_, _, _, _, _, _, _, _, _, _]) A (-1) d_Mo_check_100 rfl (by decide) (by decide) rfl <| ra_goto (q := 47) A d_Mo_check_103 (by decide) <| ?_
        rw [pk_m1]
        refine ih j al by' _ _ (by omega) hj (fun w8 w9 => ?_)
        have e := k w8 w9
        rw [gk_bits, gk_bit, if_neg c2] at e
        exact e
      · refine ra_iload A d_Mo_check_88 rfl <| ra_iload A d_Mo_check_90 rfl <| ra_ixor A d_Mo_check_92 <| ra_goto (q := 98) A d_Mo_check_93 (by decide) <| ra_istore (L' := [_, _, _, _, _, _, _, _, _, _]) A d_Mo_check_98 (by decide) rfl <| ra_iinc (L' := [_, _, _, _, _, _, _, _, _, _]) A (-1) d_Mo_check_100 rfl (by decide) (by decide) rfl <| ra_goto (q := 47) A d_Mo_check_103 (by decide) <| ?_
        rw [pk_m1]
        refine ih j al by' _ _ (by omega) hj (fun w8 w9 => ?_)
        have e := k w8 w9
        rw [gk_bits, gk_bit, if_pos c2] at e
        exact e
  have outer : ∀ (r j : Nat) (al by' v : Int32) (v8 v9 : Option Value), j + r = b → X (.inl (some (.int (gk_row h n al by' r j v)))) h 0 0 →
      xg x (y0 u) 0 0 37 [some (.ref 141), some (.int n), some (.int (nI a)), some (.int (nI b)), some (.int v), some (.int by'), some (.int al), some (.int (nI j)), v8, v9] [] h := by
    intro r
    induction r with
    | zero =>
      intro j al by' v v8 v9 hj hX
      refine ra_iload A d_Mo_check_37 rfl <| ra_iload_n A d_Mo_check_39 rfl <| ?_
      refine ra_icmp_ge (q := 112) A d_Mo_check_40 (by decide) (fun c1 => ?_) (fun c1 => ?_)
      · refine ra_iload A d_Mo_check_112 rfl <| ?_
        exact ra_iret A ow d_Mo_check_114 hX
      · exact absurd (nI_le (by omega) (by omega)) c1
    | succ r ih =>
      intro j al by' v v8 v9 hj hX
      refine ra_iload A d_Mo_check_37 rfl <| ra_iload_n A d_Mo_check_39 rfl <| ?_
      refine ra_icmp_ge (q := 112) A d_Mo_check_40 (by decide) (fun c1 => ?_) (fun c1 => ?_)
      · exact absurd c1 (nI_ge (by omega) (by omega))
      · refine ra_bipush A 7 d_Mo_check_43 (by decide) <| ra_istore (L' := [_, _, _, _, _, _, _, _, _, _]) A d_Mo_check_45 (by decide) rfl <| ?_
        refine inner 7 j al by' v v9 (by decide) (by omega) (fun w8 w9 => ?_)
        refine ra_iinc (L' := [_, _, _, _, _, _, _, _, _, _]) A 1 d_Mo_check_106 rfl (by decide) (by decide) rfl <| ra_goto (q := 37) A d_Mo_check_109 (by decide) <| ?_
        rw [nI_1]
        exact ih (j + 1) al by' _ _ _ (by omega) hX
  have tail : ∀ (by' al : Int32), by' = ck_pat n → al = gk_all n → xg x (y0 u) 0 0 34 [some (.ref 141), some (.int n), some (.int (nI a)), some (.int (nI b)), some (.int 0), some (.int by'), some (.int al), none, none, none] [] h := by
    intro by' al e1 e2
    subst e1; subst e2
    refine ra_iload_n A d_Mo_check_34 rfl <| ra_istore (L' := [_, _, _, _, _, _, _, _, _, _]) A d_Mo_check_35 (by decide) rfl <| ?_
    exact outer (b - a) a _ _ _ _ _ (by omega) hX
  refine ra_iconst A 0 d_Mo_check_0 (by decide) <| ra_istore (L' := [_, _, _, _, _, _, _, _, _, _]) A d_Mo_check_1 (by decide) rfl <| ra_iload_n A d_Mo_check_3 rfl <| ra_bipush A 8 d_Mo_check_4 (by decide) <| ?_
  refine ra_icmp_ne (q := 14) A d_Mo_check_6 (by decide) (fun c1 => ?_) (fun c1 => ?_)
  · refine ra_ldc A k_Mo_248 d_Mo_check_14 <| ra_istore (L' := [_, _, _, _, _, _, _, _, _, _]) A d_Mo_check_16 (by decide) rfl <| ra_iload_n A d_Mo_check_18 rfl <| ra_bipush A 8 d_Mo_check_19 (by decide) <| ?_
    refine ra_icmp_ne (q := 30) A d_Mo_check_21 (by decide) (fun c2 => ?_) (fun c2 => ?_)
    · refine ra_ldc A k_Mo_249 d_Mo_check_30 <| ra_istore (L' := [_, _, _, _, _, _, _, _, _, _]) A d_Mo_check_32 (by decide) rfl <| ?_
      exact tail _ _ (by rw [ck_pat, if_neg c1]) (by rw [gk_all, if_neg c2])
    · exact absurd c2 c1
  · refine ra_bipush A 7 d_Mo_check_9 (by decide) <| ra_goto (q := 16) A d_Mo_check_11 (by decide) <| ra_istore (L' := [_, _, _, _, _, _, _, _, _, _]) A d_Mo_check_16 (by decide) rfl <| ra_iload_n A d_Mo_check_18 rfl <| ra_bipush A 8 d_Mo_check_19 (by decide) <| ?_
    refine ra_icmp_ne (q := 30) A d_Mo_check_21 (by decide) (fun c2 => ?_) (fun c2 => ?_)
    · exact absurd c1 c2
    · refine ra_sipush A 255 d_Mo_check_24 (by decide) <| ra_goto (q := 32) A d_Mo_check_27 (by decide) <| ra_istore (L' := [_, _, _, _, _, _, _, _, _, _]) A d_Mo_check_32 (by decide) rfl <| ?_
      exact tail _ _ (by rw [ck_pat, if_pos c1]) (by rw [gk_all, if_pos c2])
/-- may those bytes be sealed? -/
def f_badSeal (len n a b : Int32) : Prop := a < 0 ∨ b < a ∨ len - n / 8 < b
def g_seal (h : xw_H) (n : Int32) (a b : Nat) : xw_H := if n = 16 then xw_I (xw_I h 148 b (g_check h n a b >>> ((8 : Int32) &&& 31))) 148 (b + 1) (g_check h n a b &&& 255) else xw_I h 148 b (g_check h n a b)
theorem xq_seal {n from' to : Int32} {m : Nat} (hm : m ≤ 9000) (hn : n = 8 ∨ n = 16) (hb : ¬ f_badSeal (nI m) n from' to) : ∃ a b : Nat, from' = nI a ∧ to = nI b ∧ a ≤ b ∧ b < m ∧ (n = 16 → b + 1 < m) := by
  unfold f_badSeal at hb
  have h1 : ¬ from' < 0 := fun q => hb (Or.inl q)
  have h2 : ¬ to < from' := fun q => hb (Or.inr (Or.inl q))
  have h3 : ¬ nI m - n / 8 < to := fun q => hb (Or.inr (Or.inr q))
  obtain ⟨a, ha, rfl⟩ := nI_of h1
  have h4 : ¬ to < 0 := by
    rw [Int32.lt_iff_toInt_lt, nI_toInt ha] at h2
    rw [Int32.lt_iff_toInt_lt, Int32.toInt_zero]
    omega
  obtain ⟨b, hb2, rfl⟩ := nI_of h4
  rw [nI_ltI hb2 ha] at h2
  rcases hn with rfl | rfl
  · rw [show (8 : Int32) / 8 = nI 1 by decide] at h3
    rw [Int32.lt_iff_toInt_lt, pk_sub_toInt (by omega) (by decide), nI_toInt hb2] at h3
    exact ⟨a, b, rfl, rfl, by omega, by omega, fun q => absurd q (by decide)⟩
  · rw [show (16 : Int32) / 8 = nI 2 by decide] at h3
    rw [Int32.lt_iff_toInt_lt, pk_sub_toInt (by omega) (by decide), nI_toInt hb2] at h3
    exact ⟨a, b, rfl, rfl, by omega, by omega, fun _ => by omega⟩
theorem s_Mo_seal (K : xk_ok u KK) {n from' to : Int32} {m : Nat} (hm : m ≤ 9000) (em : v_model_size h = nI m) (hX : ¬ n = 8 → ¬ n = 16 → X (.inl none) (g_thr h 1) 0 0) (hY : n = 8 ∨ n = 16 → f_badSeal (nI m) n from' to → X (.inl none) (g_thr h 2) 0 0)
    (hZ : ∀ a b : Nat, n = 8 ∨ n = 16 → ¬ f_badSeal (nI m) n from' to → from' = nI a → to = nI b → a ≤ b → b < m → (n = 16 → b + 1 < m) → X (.inl none) (g_seal (g_thr h 0) n a b) 0 0) : xm_M l (y0 u) KK m_Mo_seal [.ref 141, .int n, .int from', .int to] h X := by
  refine xm_of [none] (by simp) (Nat.le_of_ble_eq_true rfl) (by decide) (fun x at0 => ?_)
  have A := xa_of at0 K
  have ow := at0.2.2.2.2.1
  have main : n = 8 ∨ n = 16 → xg x (y0 u) 0 0 17 [some (.ref 141), some (.int n), some (.int from'), some (.int to), none] [.ref 141] h := by
    intro hn
    have bad : f_badSeal (nI m) n from' to → xg x (y0 u) 0 0 39 [some (.ref 141), some (.int n), some (.int from'), some (.int to), none] [.ref 141] h := by
      intro q
      refine ra_iconst A 2 d_Mo_seal_39 (by decide) <| ra_goto (q := 44) A d_Mo_seal_40 (by decide) <| ra_putI (ty := .int) A f_Mo_197 rfl rfl (by decide +kernel) rfl rfl d_Mo_seal_44 (Nat.le_of_ble_eq_true rfl) rfl rfl <| ra_aload_n A d_Mo_seal_47 rfl <| ra_getI A f_Mo_197 d_Mo_seal_48 (Nat.le_of_ble_eq_true rfl) rfl rfl <| ?_
      rw [xI_e]
      refine ra_if_le (q := 55) A d_Mo_seal_51 (by decide) (fun c1 => ?_) (fun c1 => ?_)
      · exact absurd c1 (by decide)
      · exact ra_vret A ow d_Mo_seal_54 (hY hn q)
    refine ra_iload_n A d_Mo_seal_17 rfl <| ?_
    refine ra_if_lt (q := 39) A d_Mo_seal_18 (by decide) (fun c1 => ?_) (fun c1 => ?_)
    · exact bad (Or.inl c1)
    refine ra_iload_n A d_Mo_seal_21 rfl <| ra_iload_n A d_Mo_seal_22 rfl <| ?_
    refine ra_icmp_gt (q := 39) A d_Mo_seal_23 (by decide) (fun c2 => ?_) (fun c2 => ?_)
    · exact bad (Or.inr (Or.inl c2))
    refine ra_iload_n A d_Mo_seal_26 rfl <| ra_aload_n A d_Mo_seal_27 rfl <| ra_getI A f_Mo_354 d_Mo_seal_28 (Nat.le_of_ble_eq_true rfl) rfl rfl <| ra_iload_n A d_Mo_seal_31 rfl <| ra_bipush A 8 d_Mo_seal_32 (by decide) <| ra_idiv A d_Mo_seal_34 (by decide) <| ra_isub A d_Mo_seal_35 <| ?_
    rw [show h.1 141 12 = nI m from em]
    refine ra_icmp_le (q := 43) A d_Mo_seal_36 (by decide) (fun c3 => ?_) (fun c3 => ?_)
    rotate_left
    · exact bad (Or.inr (Or.inr (Int32.not_le.mp c3)))
    have hb : ¬ f_badSeal (nI m) n from' to := fun q => q.elim c1 (fun q => q.elim c2 (fun q => absurd q (Int32.not_lt.mpr c3)))
    obtain ⟨a, b, rfl, rfl, h1, h2, h3⟩ := xq_seal hm hn hb
    have hZ := hZ a b hn hb rfl rfl h1 h2 h3
    refine ra_iconst A 0 d_Mo_seal_43 (by decide) <| ra_putI (ty := .int) A f_Mo_197 rfl rfl (by decide +kernel) rfl rfl d_Mo_seal_44 (Nat.le_of_ble_eq_true rfl) rfl rfl <| ra_aload_n A d_Mo_seal_47 rfl <| ra_getI A f_Mo_197 d_Mo_seal_48 (Nat.le_of_ble_eq_true rfl) rfl rfl <| ?_
    rw [xI_e]
    refine ra_if_le (q := 55) A d_Mo_seal_51 (by decide) (fun c4 => ?_) (fun c4 => ?_)
    rotate_left
    · exact absurd (by decide) c4
    refine ra_aload_n A d_Mo_seal_55 rfl <| ra_iload_n A d_Mo_seal_56 rfl <| ra_iload_n A d_Mo_seal_57 rfl <| ra_iload_n A d_Mo_seal_58 rfl <| ?_
    refine ra_callV (As := [_, _, _]) A ok_Mo_check l_Mo_341 im_Mo_check sl_Mo_check d_Mo_seal_59 (Nat.le_of_ble_eq_true rfl) rfl rfl rfl (Nat.le_of_ble_eq_true rfl) (xr_of at0 (by decide)) (s_Mo_check K h1 (by omega) ?_)
    show xg x (y0 u) 0 0 62 _ _ _
    refine ra_istore (L' := [_, _, _, _, _]) A d_Mo_seal_62 (by decide) rfl <| ra_iload_n A d_Mo_seal_64 rfl <| ra_bipush A 16 d_Mo_seal_65 (by decide) <| ?_
    refine ra_icmp_ne (q := 98) A d_Mo_seal_67 (by decide) (fun c5 => ?_) (fun c5 => ?_)
    · refine ra_aload_n A d_Mo_seal_98 rfl <| ra_getR A f_Mo_170 d_Mo_seal_99 (Nat.le_of_ble_eq_true rfl) rfl rfl rfl <| ra_iload_n A d_Mo_seal_102 rfl <| ra_iload A d_Mo_seal_103 rfl <| ?_
      refine ra_iastore A d_Mo_seal_105 (Nat.le_of_ble_eq_true rfl) rfl (vp_in_nI (by omega) (by decide)) ?_
      rw [nI_clamp (by omega)]
      rw [g_seal, if_neg c5] at hZ
      exact ra_vret A ow d_Mo_seal_106 hZ
    · refine ra_aload_n A d_Mo_seal_70 rfl <| ra_getR A f_Mo_170 d_Mo_seal_71 (Nat.le_of_ble_eq_true rfl) rfl rfl rfl <| ra_iload_n A d_Mo_seal_74 rfl <| ra_iload A d_Mo_seal_75 rfl <| ra_bipush A 8 d_Mo_seal_77 (by decide) <| ra_ishr A d_Mo_seal_79 <| ?_
      refine ra_iastore A d_Mo_seal_80 (Nat.le_of_ble_eq_true rfl) rfl (vp_in_nI (by omega) (by decide)) ?_
      rw [nI_clamp (by omega)]
      refine ra_aload_n A d_Mo_seal_81 rfl <| ra_getR A f_Mo_170 d_Mo_seal_82 (Nat.le_of_ble_eq_true rfl) rfl rfl rfl <| ra_iload_n A d_Mo_seal_85 rfl <| ra_iconst A 1 d_Mo_seal_86 (by decide) <| ra_iadd A d_Mo_seal_87 <| ?_
      rw [nI_1]
      refine ra_iload A d_Mo_seal_88 rfl <| ra_sipush A 255 d_Mo_seal_90 (by decide) <| ra_iand A d_Mo_seal_93 <| ?_
      refine ra_iastore A d_Mo_seal_94 (Nat.le_of_ble_eq_true rfl) rfl (vp_in_nI (by have := h3 c5; omega) (by decide)) ?_
      rw [nI_clamp (by omega)]
      refine ra_goto (q := 106) A d_Mo_seal_95 (by decide) <| ?_
      rw [g_seal, if_pos c5] at hZ
      exact ra_vret A ow d_Mo_seal_106 hZ
  refine ra_aload_n A d_Mo_seal_0 rfl <| ra_iload_n A d_Mo_seal_1 rfl <| ra_bipush A 8 d_Mo_seal_2 (by decide) <| ?_
  refine ra_icmp_eq (q := 17) A d_Mo_seal_4 (by decide) (fun c1 => ?_) (fun c1 => ?_)
  · exact main (Or.inl c1)
  refine ra_iload_n A d_Mo_seal_7 rfl <| ra_bipush A 16 d_Mo_seal_8 (by decide) <| ?_
  refine ra_icmp_eq (q := 17) A d_Mo_seal_10 (by decide) (fun c2 => ?_) (fun c2 => ?_)
  · exact main (Or.inr c2)
  refine ra_iconst A 1 d_Mo_seal_13 (by decide) <| ra_goto (q := 44) A d_Mo_seal_14 (by decide) <| ra_putI (ty := .int) A f_Mo_197 rfl rfl (by decide +kernel) rfl rfl d_Mo_seal_44 (Nat.le_of_ble_eq_true rfl) rfl rfl <| ra_aload_n A d_Mo_seal_47 rfl <| ra_getI A f_Mo_197 d_Mo_seal_48 (Nat.le_of_ble_eq_true rfl) rfl rfl <| ?_
  rw [xI_e]
  refine ra_if_le (q := 55) A d_Mo_seal_51 (by decide) (fun c3 => ?_) (fun c3 => ?_)
  · exact absurd c3 (by decide)
  · exact ra_vret A ow d_Mo_seal_54 (hX c1 c2)
def f_seal (h : xw_H) (n : Int32) (a b : Nat) : xw_H := if n = 16 then f_set (f_set h (nI b) (f_check h n a b >>> ((8 : Int32) &&& 31))) (nI (b + 1)) (f_check h n a b) else f_set h (nI b) (f_check h n a b)
theorem xp_set_len {h : xw_H} {i v : Int32} : v_bytes_length (f_set h i v) = v_bytes_length h := by
  unfold f_set
  split
  · rfl
  · split
    · rfl
    · show (xw_I h 7 _ _).1 6 1 = h.1 6 1
      rw [xI_k (by decide)]
theorem s_SS_seal (hl : l.stackTraces = false) {n from' to : Int32} {m : Nat} (hm : m ≤ 9000) (em : v_bytes_length h = nI m) (hX : ¬ n = 8 → ¬ n = 16 → X (.inr "java/lang/IllegalArgumentException") h 1 6) (hY : n = 8 ∨ n = 16 → f_badSeal (nI m) n from' to → X (.inr "java/lang/IndexOutOfBoundsException") h 1 6)
    (hZ : ∀ a b : Nat, n = 8 ∨ n = 16 → ¬ f_badSeal (nI m) n from' to → from' = nI a → to = nI b → a ≤ b → b < m → (n = 16 → b + 1 < m) → X (.inl none) (f_seal h n a b) 0 0) : xm_M l (y0 u) (KK0 u) m_SS_seal [.ref 0, .int n, .int from', .int to] h X := by
  refine xm_of [none] (by simp) (Nat.le_of_ble_eq_true rfl) (by decide) (fun x at0 => ?_)
  have A := xa_of at0 (KK0_ok u)
  have ow := at0.2.2.2.2.1
  have hn9 : (v_bytes_length h).toInt ≤ 9000 := by rw [em, nI_toInt (by omega)]; omega
  have main : n = 8 ∨ n = 16 → xg x (y0 u) 0 0 22 [some (.ref 0), some (.int n), some (.int from'), some (.int to), none] [] h := by
    intro hn
    refine ra_iload_n A d_SS_seal_22 rfl <| ?_
    refine ra_if_lt (q := 47) A d_SS_seal_23 (by decide) (fun c1 => ?_) (fun c1 => ?_)
    · exact xt_throw at0 hl xt_IOE (by decide) (List.mem_of_getElem? (i := 2) rfl) cl_SS_96 xi_IOE (List.mem_of_getElem? (i := 15) rfl) le_SS_100 d_SS_seal_47 d_SS_seal_50 d_SS_seal_51 d_SS_seal_53 d_SS_seal_56 ⟨by decide, Nat.le_of_ble_eq_true rfl, by decide, by decide⟩ (hY hn (Or.inl c1))
    refine ra_iload_n A d_SS_seal_26 rfl <| ra_iload_n A d_SS_seal_27 rfl <| ?_
    refine ra_icmp_gt (q := 47) A d_SS_seal_28 (by decide) (fun c2 => ?_) (fun c2 => ?_)
    · exact xt_throw at0 hl xt_IOE (by decide) (List.mem_of_getElem? (i := 2) rfl) cl_SS_96 xi_IOE (List.mem_of_getElem? (i := 15) rfl) le_SS_100 d_SS_seal_47 d_SS_seal_50 d_SS_seal_51 d_SS_seal_53 d_SS_seal_56 ⟨by decide, Nat.le_of_ble_eq_true rfl, by decide, by decide⟩ (hY hn (Or.inr (Or.inl c2)))
    refine ra_iload_n A d_SS_seal_31 rfl <| ra_aload_n A d_SS_seal_32 rfl <| ra_getR A f_SS_19 d_SS_seal_33 (Nat.le_of_ble_eq_true rfl) rfl rfl rfl <| ra_getI A f_SS_128 d_SS_seal_36 (Nat.le_of_ble_eq_true rfl) rfl rfl <| ra_iload_n A d_SS_seal_39 rfl <| ra_bipush A 8 d_SS_seal_40 (by decide) <| ra_idiv A d_SS_seal_42 (by decide) <| ra_isub A d_SS_seal_43 <| ?_
    rw [show h.1 6 1 = nI m from em]
    refine ra_icmp_le (q := 57) A d_SS_seal_44 (by decide) (fun c3 => ?_) (fun c3 => ?_)
    rotate_left
    · exact xt_throw at0 hl xt_IOE (by decide) (List.mem_of_getElem? (i := 2) rfl) cl_SS_96 xi_IOE (List.mem_of_getElem? (i := 15) rfl) le_SS_100 d_SS_seal_47 d_SS_seal_50 d_SS_seal_51 d_SS_seal_53 d_SS_seal_56 ⟨by decide, Nat.le_of_ble_eq_true rfl, by decide, by decide⟩ (hY hn (Or.inr (Or.inr (Int32.not_le.mp c3))))
    have hb : ¬ f_badSeal (nI m) n from' to := fun q => q.elim c1 (fun q => q.elim c2 (fun q => absurd q (Int32.not_lt.mpr c3)))
    obtain ⟨a, b, rfl, rfl, h1, h2, h3⟩ := xq_seal hm hn hb
    have hZ := hZ a b hn hb rfl rfl h1 h2 h3
    refine ra_aload_n A d_SS_seal_57 rfl <| ra_getR A f_SS_19 d_SS_seal_58 (Nat.le_of_ble_eq_true rfl) rfl rfl rfl <| ra_iload_n A d_SS_seal_61 rfl <| ra_iload_n A d_SS_seal_62 rfl <| ra_iload_n A d_SS_seal_63 rfl <| ?_
    refine ra_callV (As := [_, _, _]) A ok_By_check l_SS_167 im_By_check sl_By_check d_SS_seal_64 (Nat.le_of_ble_eq_true rfl) rfl rfl rfl (Nat.le_of_ble_eq_true rfl) (xr_of at0 (by decide)) (s_By_check (KK0_ok u) h1 (by omega) hn9 ?_)
    show xg x (y0 u) 0 0 67 _ _ _
    refine ra_istore (L' := [_, _, _, _, _]) A d_SS_seal_67 (by decide) rfl <| ra_iload_n A d_SS_seal_69 rfl <| ra_bipush A 16 d_SS_seal_70 (by decide) <| ?_
    refine ra_icmp_ne (q := 103) A d_SS_seal_72 (by decide) (fun c5 => ?_) (fun c5 => ?_)
    · refine ra_aload_n A d_SS_seal_103 rfl <| ra_getR A f_SS_19 d_SS_seal_104 (Nat.le_of_ble_eq_true rfl) rfl rfl rfl <| ra_iload_n A d_SS_seal_107 rfl <| ra_iload A d_SS_seal_108 rfl <| ?_
      refine ra_callV (As := [_, _]) A ok_By_set l_SS_160 im_By_set sl_By_set d_SS_seal_110 (Nat.le_of_ble_eq_true rfl) rfl rfl rfl (Nat.le_of_ble_eq_true rfl) (xr_of at0 (by decide)) (s_By_set (KK0_ok u) hn9 ?_)
      show xg x (y0 u) 0 0 113 _ _ _
      rw [f_seal, if_neg c5] at hZ
      exact ra_vret A ow d_SS_seal_113 hZ
    · refine ra_aload_n A d_SS_seal_75 rfl <| ra_getR A f_SS_19 d_SS_seal_76 (Nat.le_of_ble_eq_true rfl) rfl rfl rfl <| ra_iload_n A d_SS_seal_79 rfl <| ra_iload A d_SS_seal_80 rfl <| ra_bipush A 8 d_SS_seal_82 (by decide) <| ra_ishr A d_SS_seal_84 <| ?_
      refine ra_callV (As := [_, _]) A ok_By_set l_SS_160 im_By_set sl_By_set d_SS_seal_85 (Nat.le_of_ble_eq_true rfl) rfl rfl rfl (Nat.le_of_ble_eq_true rfl) (xr_of at0 (by decide)) (s_By_set (KK0_ok u) hn9 ?_)
      show xg x (y0 u) 0 0 88 _ _ _
      refine ra_aload_n A d_SS_seal_88 rfl <| ra_getR A f_SS_19 d_SS_seal_89 (Nat.le_of_ble_eq_true rfl) rfl rfl rfl <| ra_iload_n A d_SS_seal_92 rfl <| ra_iconst A 1 d_SS_seal_93 (by decide) <| ra_iadd A d_SS_seal_94 <| ?_
      rw [nI_1]
      refine ra_iload A d_SS_seal_95 rfl <| ?_
      refine ra_callV (As := [_, _]) A ok_By_set l_SS_160 im_By_set sl_By_set d_SS_seal_97 (Nat.le_of_ble_eq_true rfl) rfl rfl rfl (Nat.le_of_ble_eq_true rfl) (xr_of at0 (by decide)) (s_By_set (KK0_ok u) (by rw [xp_set_len]; exact hn9) ?_)
      show xg x (y0 u) 0 0 100 _ _ _
      refine ra_goto (q := 113) A d_SS_seal_100 (by decide) <| ?_
      rw [f_seal, if_pos c5] at hZ
      exact ra_vret A ow d_SS_seal_113 hZ
  refine ra_iload_n A d_SS_seal_0 rfl <| ra_bipush A 8 d_SS_seal_1 (by decide) <| ?_
  refine ra_icmp_eq (q := 22) A d_SS_seal_3 (by decide) (fun c1 => ?_) (fun c1 => ?_)
  · exact main (Or.inl c1)
  refine ra_iload_n A d_SS_seal_6 rfl <| ra_bipush A 16 d_SS_seal_7 (by decide) <| ?_
  refine ra_icmp_eq (q := 22) A d_SS_seal_9 (by decide) (fun c2 => ?_) (fun c2 => ?_)
  · exact main (Or.inr c2)
  · exact xt_throw at0 hl xt_IAE (by decide) (List.mem_of_getElem? (i := 0) rfl) cl_SS_48 xi_IAE (List.mem_of_getElem? (i := 14) rfl) le_SS_52 d_SS_seal_12 d_SS_seal_15 d_SS_seal_16 d_SS_seal_18 d_SS_seal_21 ⟨by decide, Nat.le_of_ble_eq_true rfl, by decide, by decide⟩ (hX c1 c2)
/-- eight bytes of the model's stream -/
def g_byte (h : xw_H) (i : Int32) (b : Nat) (v : Int64) : Int64 := if i.toInt64 + (nI b).toInt64 < 0 then v else if (v_model_size h).toInt64 ≤ i.toInt64 + (nI b).toInt64 then v else v ||| ((h.1 148 (i.toInt64 + (nI b).toInt64).toInt32.toNatClampNeg).toInt64 <<< ((8 * nI b : Int32).toInt64 &&& 63))
def g_eight (h : xw_H) (i : Int32) : Nat → Nat → Int64 → Int64
  | 0, _, v => v
  | r + 1, b, v => g_eight h i r (b + 1) (g_byte h i b v)
theorem g_byte_thr {h : xw_H} {i t : Int32} {b : Nat} {v : Int64} : g_byte (g_thr h t) i b v = g_byte h i b v := by
  unfold g_byte
  rw [show v_model_size (g_thr h t) = v_model_size h from xI_j (by decide), show (g_thr h t).1 148 = h.1 148 from xI_k (by decide)]
theorem s_Mo_stream (K : xk_ok u KK) {i : Int32} {m : Nat} (hm : m ≤ 9400) (em : v_model_size h = nI m) (hX : X (.inl (some (.long (g_eight h i 8 0 0)))) (g_thr h 0) 0 0) : xm_M l (y0 u) KK m_Mo_stream [.ref 141, .int i] h X := by
  refine xm_of [none, none, none, none, none] (by simp) (Nat.le_of_ble_eq_true rfl) (by decide) (fun x at0 => ?_)
  have A := xa_of at0 K
  have ow := at0.2.2.2.2.1
  have es : (g_thr h 0).1 141 12 = nI m := by rw [xI_j (by decide)]; exact em
  have loop : ∀ (r b : Nat) (v : Int64) (v5 : Option Value), b + r = 8 → X (.inl (some (.long (g_eight h i r b v)))) (g_thr h 0) 0 0 → xg x (y0 u) 0 0 10 [some (.ref 141), some (.int i), some (.long v), none, some (.int (nI b)), v5, none] [] (g_thr h 0) := by
    intro r
    induction r with
    | zero =>
      intro b v v5 hb hX
      refine ra_iload A d_Mo_stream_10 rfl <| ra_bipush A 8 d_Mo_stream_12 (by decide) <| ?_
      refine ra_icmp_ge (q := 71) A d_Mo_stream_14 (by decide) (fun c1 => ?_) (fun c1 => ?_)
      · refine ra_lload_n A d_Mo_stream_71 rfl <| ?_
        exact ra_lret A ow d_Mo_stream_72 hX
      · exact absurd (show nI 8 ≤ nI b from nI_le (by omega) (by omega)) c1
    | succ r ih =>
      intro b v v5 hb hX
      refine ra_iload A d_Mo_stream_10 rfl <| ra_bipush A 8 d_Mo_stream_12 (by decide) <| ?_
      refine ra_icmp_ge (q := 71) A d_Mo_stream_14 (by decide) (fun c1 => ?_) (fun c1 => ?_)
      · exact absurd c1 (show ¬ nI 8 ≤ nI b from nI_ge (by omega) (by omega))
      refine ra_iload_n A d_Mo_stream_17 rfl <| ra_i2l A d_Mo_stream_18 <| ra_iload A d_Mo_stream_19 rfl <| ra_i2l A d_Mo_stream_21 <| ra_ladd A d_Mo_stream_22 <| ra_lstore (L' := [_, _, _, _, _, _, _]) A d_Mo_stream_23 (by decide) rfl <| ra_lload A d_Mo_stream_25 rfl <| ra_lconst A 0 d_Mo_stream_27 (by decide) <| ra_lcmp A d_Mo_stream_28 <| ?_
      have next : ∀ w : Int64, w = g_byte h i b v → xg x (y0 u) 0 0 64 [some (.ref 141), some (.int i), some (.long v), none, some (.int (nI b)), some (.long (i.toInt64 + (nI b).toInt64)), none] [.long w] (g_thr h 0) := by
        intro w ew
        subst ew
        refine ra_lstore_n (L' := [_, _, _, _, _, _, _]) A d_Mo_stream_64 (by decide) rfl <| ra_iinc (L' := [_, _, _, _, _, _, _]) A 1 d_Mo_stream_65 rfl (by decide) (by decide) rfl <| ra_goto (q := 10) A d_Mo_stream_68 (by decide) <| ?_
        rw [nI_1]
        exact ih (b + 1) _ _ (by omega) hX
      refine ra_if_lt (q := 63) A d_Mo_stream_29 (by decide) (fun c2 => ?_) (fun c2 => ?_)
      · refine ra_lload_n A d_Mo_stream_63 rfl <| ?_
        exact next v (by rw [g_byte, if_pos (lc_lt.mp c2)])
      have c2 := fun q => c2 (lc_lt.mpr q)
      refine ra_lload A d_Mo_stream_32 rfl <| ra_aload_n A d_Mo_stream_34 rfl <| ra_getI A f_Mo_354 d_Mo_stream_35 (Nat.le_of_ble_eq_true rfl) rfl rfl <| ra_i2l A d_Mo_stream_38 <| ra_lcmp A d_Mo_stream_39 <| ?_
      rw [es]
      refine ra_if_ge (q := 63) A d_Mo_stream_40 (by decide) (fun c3 => ?_) (fun c3 => ?_)
      · refine ra_lload_n A d_Mo_stream_63 rfl <| ?_
        exact next v (by rw [g_byte, if_neg c2, if_pos (by rw [em]; exact lc_ge.mp c3)])
      have c3 := fun q => c3 (lc_ge.mpr q)
      have hin : vp_in (i.toInt64 + (nI b).toInt64).toInt32 9400 := by
        rw [nI_l (show m < 2 ^ 31 by omega)] at c3
        obtain ⟨k, hk, ek⟩ := pk_lOf c2
        rw [ek, pk_lLE (by omega) hk] at c3
        rw [ek, lN_i]
        have c3' := Nat.lt_of_not_le c3
        exact vp_in_nI (by omega) (by decide)
      refine ra_lload_n A d_Mo_stream_43 rfl <| ra_aload_n A d_Mo_stream_44 rfl <| ra_getR A f_Mo_170 d_Mo_stream_45 (Nat.le_of_ble_eq_true rfl) rfl rfl rfl <| ra_lload A d_Mo_stream_48 rfl <| ra_l2i A d_Mo_stream_50 <| ?_
      refine ra_iaload A d_Mo_stream_51 (Nat.le_of_ble_eq_true rfl) rfl hin ?_
      rw [xI_k (by decide)]
      refine ra_i2l A d_Mo_stream_52 <| ra_bipush A 8 d_Mo_stream_53 (by decide) <| ra_iload A d_Mo_stream_55 rfl <| ra_imul A d_Mo_stream_57 <| ra_lshl A d_Mo_stream_58 <| ra_lor A d_Mo_stream_59 <| ra_goto (q := 64) A d_Mo_stream_60 (by decide) <| ?_
      exact next _ (by rw [g_byte, if_neg c2, if_neg (by rw [em]; exact c3)])
  refine ra_aload_n A d_Mo_stream_0 rfl <| ra_iconst A 0 d_Mo_stream_1 (by decide) <| ra_putI (ty := .int) A f_Mo_197 rfl rfl (by decide +kernel) rfl rfl d_Mo_stream_2 (Nat.le_of_ble_eq_true rfl) rfl rfl <| ra_lconst A 0 d_Mo_stream_5 (by decide) <| ra_lstore_n (L' := [_, _, _, _, _, _, _]) A d_Mo_stream_6 (by decide) rfl <| ra_iconst A 0 d_Mo_stream_7 (by decide) <| ra_istore (L' := [_, _, _, _, _, _, _]) A d_Mo_stream_8 (by decide) rfl <| ?_
  exact loop 8 0 0 none (by decide) hX
end S53
