/-! SoundStreamModel: combine -/
def okM (D C : Nat) (s : Int32 × Int32) : Bool := rng D s.1 && (decide (C = 1) || rng D s.2)
def cmb (h : xw_H) (n i : Nat) (s : Int32 × Int32) : xw_H := xw_I (xw_I h 153 (n + i) s.1) 153 (1200 + (n + i)) s.2
section S9f
variable {u : xu_T} {l : Launch} {KK : State → Prop} {h : xw_H} {X : xc_R → xw_H → Nat → Nat → Prop}
theorem s_Mo_combine (K : xk_ok u KK) {c i C D n : Nat} {s : Int32 × Int32} (e : h.1 141 22 = 0) (eC : h.1 141 28 = nI C) (eD : h.1 141 29 = nI D) (en : h.1 141 33 = nI n) (hc : c < 11) (hC : C = 1 ∨ C = 2) (hD1 : 4 ≤ D) (hD : D ≤ 24) (hi : i < 1200) (hni : n + i < 1200) (hs : sepM c (h.1 154 i) (h.1 154 (1200 + i)) = s)
    (hX : okM D C s = true → X (.inl none) (cmb h n i s) 0 0) (hY : okM D C s = false → X (.inl none) (cmb (xw_I h 141 22 11) n i s) 0 0) : xm_M l (y0 u) KK m_Mo_combine [.ref 141, .int (nI c), .int (nI i)] h X := by
  refine xm_of [none, none, none, none, none] (by simp) (Nat.le_of_ble_eq_true rfl) (by decide) (fun x at0 => ?_)
  have A := xa_of at0 K
  have ow := at0.2.2.2.2.1
  have a1 : (1200 : Int32) + nI i = nI (1200 + i) := nI_add 1200 i
  have hl24 : 2 ^ (D - 1) ≤ 2 ^ 24 := Nat.pow_le_pow_right (n := 2) (by decide) (by omega)
  have at143 : ∀ g (v3 v4 v7 : Int32), g.1 141 33 = nI n → X (.inl none) (cmb g n i s) 0 0 → xg x (y0 u) 0 0 143 [some (.ref 141), some (.int (nI c)), some (.int (nI i)), some (.int v3), some (.int v4), some (.int s.1), some (.int s.2), some (.int v7)] [] g := by
    intro g v3 v4 v7 hg hXg
    refine ra_aload_n A d_Mo_combine_143 rfl <| ra_getR A f_Mo_188 d_Mo_combine_144 (Nat.le_of_ble_eq_true rfl) rfl rfl rfl <| ra_aload_n A d_Mo_combine_147 rfl <| ra_getI A f_Mo_377 d_Mo_combine_148 (Nat.le_of_ble_eq_true rfl) rfl rfl <| ra_iload_n A d_Mo_combine_151 rfl <| ?_
    rw [hg]
    refine ra_iadd A d_Mo_combine_152 <| ?_
    rw [nI_add]
    refine ra_iload A d_Mo_combine_153 rfl <| ?_
    refine ra_iastore A d_Mo_combine_155 (Nat.le_of_ble_eq_true rfl) rfl (vp_in_nI (by omega) (by decide)) ?_
    rw [nI_clamp (by omega)]
    refine ra_aload_n A d_Mo_combine_156 rfl <| ra_getR A f_Mo_188 d_Mo_combine_157 (Nat.le_of_ble_eq_true rfl) rfl rfl rfl <| ra_sipush A 1200 d_Mo_combine_160 (by decide) <| ra_aload_n A d_Mo_combine_163 rfl <| ra_getI A f_Mo_377 d_Mo_combine_164 (Nat.le_of_ble_eq_true rfl) rfl rfl <| ?_
    rw [xI_k (by decide), hg]
    refine ra_iadd A d_Mo_combine_167 <| ?_
    rw [show (1200 : Int32) + nI n = nI (1200 + n) from nI_add 1200 n]
    refine ra_iload_n A d_Mo_combine_168 rfl <| ra_iadd A d_Mo_combine_169 <| ?_
    rw [nI_add]
    refine ra_iload A d_Mo_combine_170 rfl <| ?_
    refine ra_iastore A d_Mo_combine_172 (Nat.le_of_ble_eq_true rfl) rfl (vp_in_nI (by omega) (by decide)) ?_
    rw [nI_clamp (by omega)]
    rw [Nat.add_assoc 1200 n i]
    exact ra_vret A ow d_Mo_combine_173 hXg
  have at84 : ∀ (v3 v4 a b : Int32), (a, b) = s → xg x (y0 u) 0 0 84 [some (.ref 141), some (.int (nI c)), some (.int (nI i)), some (.int v3), some (.int v4), some (.int a), some (.int b), none] [] h := by
    intro v3 v4 a b hab
    obtain ⟨s1, s2⟩ := s
    have ha : a = s1 := congrArg Prod.fst hab
    have hb : b = s2 := congrArg Prod.snd hab
    subst ha hb
    refine ra_iconst A 1 d_Mo_combine_84 (by decide) <| ra_aload_n A d_Mo_combine_85 rfl <| ra_getI A f_Mo_368 d_Mo_combine_86 (Nat.le_of_ble_eq_true rfl) rfl rfl <| ?_
    rw [eD]
    refine ra_iconst A 1 d_Mo_combine_89 (by decide) <| ra_isub A d_Mo_combine_90 <| ?_
    rw [show nI D - 1 = nI (D - 1) from pk_sub (b := 1) (by omega)]
    refine ra_ishl A d_Mo_combine_91 <| ?_
    rw [shl1 (by omega)]
    refine ra_istore (L' := [_, _, _, _, _, _, _, _]) A d_Mo_combine_92 (by decide) rfl <| ra_aload_n A d_Mo_combine_94 rfl <| ra_iload A d_Mo_combine_95 rfl <| ra_iload A d_Mo_combine_97 rfl <| ra_ineg A d_Mo_combine_99 <| ?_
    have good : okM D C (a, b) = true → xg x (y0 u) 0 0 133 [some (.ref 141), some (.int (nI c)), some (.int (nI i)), some (.int v3), some (.int v4), some (.int a), some (.int b), some (.int (nI (2 ^ (D - 1))))] [.ref 141] h := by
      intro ok
      refine ra_iconst A 1 d_Mo_combine_133 (by decide) <| ra_goto (q := 138) A d_Mo_combine_134 (by decide) <| ra_bipush A 11 d_Mo_combine_138 (by decide) <| ?_
      refine ra_callV (As := [_, _]) A ok_Mo_want l_Mo_409 im_Mo_want sl_Mo_want d_Mo_combine_140 (Nat.le_of_ble_eq_true rfl) rfl rfl rfl (Nat.le_of_ble_eq_true rfl) (xr_of at0 (by decide)) (s_Mo_want K (b := true) e (fun _ => ?_) (fun q => by cases q))
      show xg x (y0 u) 0 0 143 _ _ h
      exact at143 h _ _ _ en (hX ok)
    have bad : okM D C (a, b) = false → xg x (y0 u) 0 0 137 [some (.ref 141), some (.int (nI c)), some (.int (nI i)), some (.int v3), some (.int v4), some (.int a), some (.int b), some (.int (nI (2 ^ (D - 1))))] [.ref 141] h := by
      intro ok
      refine ra_iconst A 0 d_Mo_combine_137 (by decide) <| ra_bipush A 11 d_Mo_combine_138 (by decide) <| ?_
      refine ra_callV (As := [_, _]) A ok_Mo_want l_Mo_409 im_Mo_want sl_Mo_want d_Mo_combine_140 (Nat.le_of_ble_eq_true rfl) rfl rfl rfl (Nat.le_of_ble_eq_true rfl) (xr_of at0 (by decide)) (s_Mo_want K (b := false) e (fun q => by cases q) (fun _ => ?_))
      show xg x (y0 u) 0 0 143 _ _ _
      exact at143 _ _ _ _ (by rw [xI_j (by decide)]; exact en) (hY ok)
    unfold okM rng at good bad
    by_cases d1 : -(nI (2 ^ (D - 1))) ≤ a
    · refine ra_icmp_lt (q := 137) A d_Mo_combine_100 (by decide) (fun cc => absurd cc (Int32.not_lt.mpr d1)) (fun _ => ?_)
      refine ra_iload A d_Mo_combine_103 rfl <| ra_iload A d_Mo_combine_105 rfl <| ?_
      by_cases d2 : a < nI (2 ^ (D - 1))
      · refine ra_icmp_ge (q := 137) A d_Mo_combine_107 (by decide) (fun cc => absurd cc (Int32.not_le.mpr d2)) (fun _ => ?_)
        refine ra_aload_n A d_Mo_combine_110 rfl <| ra_getI A f_Mo_365 d_Mo_combine_111 (Nat.le_of_ble_eq_true rfl) rfl rfl <| ?_
        rw [eC]
        refine ra_iconst A 1 d_Mo_combine_114 (by decide) <| ?_
        rw [decide_eq_true d1, decide_eq_true d2] at good bad
        by_cases dc : C = 1
        · subst dc
          refine ra_icmp_eq (q := 133) A d_Mo_combine_115 (by decide) (fun _ => ?_) (fun cc => absurd (rfl) cc)
          exact good rfl
        · have h2 : C = 2 := by omega
          subst h2
          refine ra_icmp_eq (q := 133) A d_Mo_combine_115 (by decide) (fun cc => absurd cc ((by decide))) (fun _ => ?_)
          refine ra_iload A d_Mo_combine_118 rfl <| ra_iload A d_Mo_combine_120 rfl <| ra_ineg A d_Mo_combine_122 <| ?_
          by_cases d3 : -(nI (2 ^ (D - 1))) ≤ b
          · refine ra_icmp_lt (q := 137) A d_Mo_combine_123 (by decide) (fun cc => absurd cc (Int32.not_lt.mpr d3)) (fun _ => ?_)
            refine ra_iload A d_Mo_combine_126 rfl <| ra_iload A d_Mo_combine_128 rfl <| ?_
            by_cases d4 : b < nI (2 ^ (D - 1))
            · refine ra_icmp_ge (q := 137) A d_Mo_combine_130 (by decide) (fun cc => absurd cc (Int32.not_le.mpr d4)) (fun _ => ?_)
              exact good (by rw [decide_eq_true d3, decide_eq_true d4]; rfl)
            · refine ra_icmp_ge (q := 137) A d_Mo_combine_130 (by decide) (fun _ => ?_) (fun cc => absurd (Int32.not_lt.mp d4) cc)
              exact bad (by rw [decide_eq_false d4, Bool.and_false]; rfl)
          · refine ra_icmp_lt (q := 137) A d_Mo_combine_123 (by decide) (fun _ => ?_) (fun cc => absurd (Int32.not_le.mp d3) cc)
            exact bad (by rw [decide_eq_false d3]; rfl)
      · refine ra_icmp_ge (q := 137) A d_Mo_combine_107 (by decide) (fun _ => ?_) (fun cc => absurd (Int32.not_lt.mp d2) cc)
        exact bad (by rw [decide_eq_false d2, Bool.and_false, Bool.false_and])
    · refine ra_icmp_lt (q := 137) A d_Mo_combine_100 (by decide) (fun _ => ?_) (fun cc => absurd (Int32.not_le.mp d1) cc)
      exact bad (by rw [decide_eq_false d1, Bool.false_and, Bool.false_and])
  unfold sepM at hs
  refine ra_aload_n A d_Mo_combine_0 rfl <| ra_getR A f_Mo_191 d_Mo_combine_1 (Nat.le_of_ble_eq_true rfl) rfl rfl rfl <| ra_iload_n A d_Mo_combine_4 rfl <| ?_
  refine ra_iaload A d_Mo_combine_5 (Nat.le_of_ble_eq_true rfl) rfl (vp_in_nI (by omega) (by decide)) ?_
  rw [nI_clamp (by omega)]
  refine ra_istore_n (L' := [_, _, _, _, _, _, _, _]) A d_Mo_combine_6 (by decide) rfl <| ra_aload_n A d_Mo_combine_7 rfl <| ra_getR A f_Mo_191 d_Mo_combine_8 (Nat.le_of_ble_eq_true rfl) rfl rfl rfl <| ra_sipush A 1200 d_Mo_combine_11 (by decide) <| ra_iload_n A d_Mo_combine_14 rfl <| ra_iadd A d_Mo_combine_15 <| ?_
  rw [a1]
  refine ra_iaload A d_Mo_combine_16 (Nat.le_of_ble_eq_true rfl) rfl (vp_in_nI (by omega) (by decide)) ?_
  rw [nI_clamp (by omega)]
  refine ra_istore (L' := [_, _, _, _, _, _, _, _]) A d_Mo_combine_17 (by decide) rfl <| ra_iload_n A d_Mo_combine_19 rfl <| ra_istore (L' := [_, _, _, _, _, _, _, _]) A d_Mo_combine_20 (by decide) rfl <| ra_iload A d_Mo_combine_22 rfl <| ra_istore (L' := [_, _, _, _, _, _, _, _]) A d_Mo_combine_24 (by decide) rfl <| ra_iload_n A d_Mo_combine_26 rfl <| ra_bipush A 8 d_Mo_combine_27 (by decide) <| ?_
  by_cases c8 : c = 8
  · rw [if_pos c8] at hs
    refine ra_icmp_ne (q := 41) A d_Mo_combine_29 (by decide) (fun cc => absurd ((by rw [c8]; rfl)) cc) (fun _ => ?_)
    refine ra_iload_n A d_Mo_combine_32 rfl <| ra_iload A d_Mo_combine_33 rfl <| ra_isub A d_Mo_combine_35 <| ra_istore (L' := [_, _, _, _, _, _, _, _]) A d_Mo_combine_36 (by decide) rfl <| ra_goto (q := 84) A d_Mo_combine_38 (by decide) <| ?_
    exact at84 _ _ _ _ hs
  · rw [if_neg c8] at hs
    refine ra_icmp_ne (q := 41) A d_Mo_combine_29 (by decide) (fun _ => ?_) (fun cc => absurd cc (fun z => c8 ((nI_eq (b := 8) (by omega) (by decide)).mp z)))
    refine ra_iload_n A d_Mo_combine_41 rfl <| ra_bipush A 9 d_Mo_combine_42 (by decide) <| ?_
    by_cases c9 : c = 9
    · rw [if_pos c9] at hs
      refine ra_icmp_ne (q := 56) A d_Mo_combine_44 (by decide) (fun cc => absurd ((by rw [c9]; rfl)) cc) (fun _ => ?_)
      refine ra_iload_n A d_Mo_combine_47 rfl <| ra_iload A d_Mo_combine_48 rfl <| ra_iadd A d_Mo_combine_50 <| ra_istore (L' := [_, _, _, _, _, _, _, _]) A d_Mo_combine_51 (by decide) rfl <| ra_goto (q := 84) A d_Mo_combine_53 (by decide) <| ?_
      exact at84 _ _ _ _ hs
    · rw [if_neg c9] at hs
      refine ra_icmp_ne (q := 56) A d_Mo_combine_44 (by decide) (fun _ => ?_) (fun cc => absurd cc (fun z => c9 ((nI_eq (b := 9) (by omega) (by decide)).mp z)))
      refine ra_iload_n A d_Mo_combine_56 rfl <| ra_bipush A 10 d_Mo_combine_57 (by decide) <| ?_
      by_cases c10 : c = 10
      · rw [if_pos c10] at hs
        refine ra_icmp_ne (q := 84) A d_Mo_combine_59 (by decide) (fun cc => absurd ((by rw [c10]; rfl)) cc) (fun _ => ?_)
        refine ra_iconst A 2 d_Mo_combine_62 (by decide) <| ra_iload_n A d_Mo_combine_63 rfl <| ra_imul A d_Mo_combine_64 <| ra_iload A d_Mo_combine_65 rfl <| ra_iconst A 1 d_Mo_combine_67 (by decide) <| ra_iand A d_Mo_combine_68 <| ra_iadd A d_Mo_combine_69 <| ra_iload A d_Mo_combine_70 rfl <| ra_iadd A d_Mo_combine_72 <| ra_iconst A 1 d_Mo_combine_73 (by decide) <| ra_ishr A d_Mo_combine_74 <| ra_istore (L' := [_, _, _, _, _, _, _, _]) A d_Mo_combine_75 (by decide) rfl <| ra_iload A d_Mo_combine_77 rfl <| ra_iload A d_Mo_combine_79 rfl <| ra_isub A d_Mo_combine_81 <| ra_istore (L' := [_, _, _, _, _, _, _, _]) A d_Mo_combine_82 (by decide) rfl <| ?_
        exact at84 _ _ _ _ hs
      · rw [if_neg c10] at hs
        refine ra_icmp_ne (q := 84) A d_Mo_combine_59 (by decide) (fun _ => ?_) (fun cc => absurd cc (fun z => c10 ((nI_eq (b := 10) (by omega) (by decide)).mp z)))
        exact at84 _ _ _ _ hs
end S9f
