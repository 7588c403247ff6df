/-! THE SUM: its pure form, and SoundStream$Digest -/
theorem fs_De_183 : Cond.fieldLink R_De 183 "SoundStream$Decoder" "DEPTHS" "[I" ∈ xw_tbl := xw_in3 54 rfl rfl
theorem fs_Di_70 : Cond.fieldLink R_Di 70 "SoundStream$Digest" "TURNS" "[I" ∈ xw_tbl := xw_in4 209 rfl rfl
theorem fs_Di_77 : Cond.fieldLink R_Di 77 "SoundStream$Digest" "ADDENDS" "[J" ∈ xw_tbl := xw_in4 214 rfl rfl
theorem fs_Sr_72 : Cond.fieldLink R_Sr 72 "SoundStream$SubframeReader" "FIXED_FACTORS" "[I" ∈ xw_tbl := xw_in4 156 rfl rfl
abbrev md_V : Type := Int32 × Int32 × Int32 × Int32
def md_F (r : Nat) (b c d : Int32) : Int32 := if r = 0 then (b &&& c) ||| ((b ^^^ (-1)) &&& d) else if r = 1 then (d &&& b) ||| ((d ^^^ (-1)) &&& c) else if r = 2 then (b ^^^ c) ^^^ d else c ^^^ (b ||| (d ^^^ (-1)))
def md_G (r i : Nat) : Nat := if r = 0 then i % 16 else if r = 1 then (5 * i + 1) % 16 else if r = 2 then (3 * i + 5) % 16 else (7 * i) % 16
def md_K (i : Nat) : Int32 := (sv_ADDENDS.getD i 0).toInt32
def md_S (i : Nat) : Int32 := sv_TURNS.getD (4 * (i / 16) + i % 4) 0
def md_rot (t s : Int32) : Int32 := (t <<< (s &&& 31)) ||| (t.toUInt32 >>> ((32 - s).toUInt32 &&& Int32.toUInt32 31)).toInt32
def md_t (W : Nat → Int32) (i : Nat) (v : md_V) : Int32 := v.1 + md_F (i / 16) v.2.1 v.2.2.1 v.2.2.2 + md_K i + W (md_G (i / 16) i)
def md_step (W : Nat → Int32) (i : Nat) (v : md_V) : md_V := (v.2.2.2, v.2.1 + md_rot (md_t W i v) (md_S i), v.2.1, v.2.2.1)
def md_run (W : Nat → Int32) : Nat → md_V → md_V
  | 0, v => v
  | i + 1, v => md_step W i (md_run W i v)
def md_plus (v w : md_V) : md_V := (v.1 + w.1, v.2.1 + w.2.1, v.2.2.1 + w.2.2.1, v.2.2.2 + w.2.2.2)
def md_blk (W : Nat → Int32) (v : md_V) : md_V := md_plus v (md_run W 64 v)
theorem md_G_lt (r i : Nat) : md_G r i < 16 := by
  unfold md_G
  split
  · omega
  · split
    · omega
    · split <;> omega
theorem md_run_congr {W W' : Nat → Int32} (e : ∀ k, k < 16 → W k = W' k) : ∀ i v, md_run W i v = md_run W' i v
  | 0, v => rfl
  | i + 1, v => by rw [md_run, md_run, md_run_congr e i v, md_step, md_step, md_t, md_t, e _ (md_G_lt _ _)]
theorem md_blk_congr {W W' : Nat → Int32} (e : ∀ k, k < 16 → W k = W' k) (v : md_V) : md_blk W v = md_blk W' v := by
  unfold md_blk
  rw [md_run_congr e]
/-- a word of a block of the bytes -/
def wd4 (a b c d : Int32) : Int32 := ((a ||| (b <<< 8)) ||| (c <<< 16)) ||| (d <<< 24)
def wd (M : List Int32) (b k : Nat) : Int32 := wd4 (M.getD (64 * b + 4 * k) 0) (M.getD (64 * b + 4 * k + 1) 0) (M.getD (64 * b + 4 * k + 2) 0) (M.getD (64 * b + 4 * k + 3) 0)
def md_0 : md_V := (1732584193, -271733879, -1732584194, 271733878)
def md_all (M : List Int32) : Nat → md_V
  | 0 => md_0
  | n + 1 => md_blk (wd M n) (md_all M n)
theorem gD_app {M : List Int32} {o : Int32} {i : Nat} : (M ++ [o]).getD i 0 = if i < M.length then M.getD i 0 else if i = M.length then o else 0 := by
  rw [List.getD_eq_getElem?_getD, List.getD_eq_getElem?_getD, List.getElem?_append]
  by_cases h : i < M.length
  · rw [if_pos h, if_pos h]
  · rw [if_neg h, if_neg h]
    by_cases h2 : i = M.length
    · subst h2; simp
    · rw [if_neg h2, List.getElem?_eq_none (by simp; omega)]; rfl
theorem gD_lt {M N : List Int32} {i : Nat} (h : i < M.length) : (M ++ N).getD i 0 = M.getD i 0 := by
  rw [List.getD_eq_getElem?_getD, List.getD_eq_getElem?_getD, List.getElem?_append_left h]
theorem gD_ge {M : List Int32} {i : Nat} (h : M.length ≤ i) : M.getD i 0 = 0 := by
  rw [List.getD_eq_getElem?_getD, List.getElem?_eq_none h]; rfl
theorem wd_lt {M N : List Int32} {b k : Nat} (hk : k < 16) (h : 64 * (b + 1) ≤ M.length) : wd (M ++ N) b k = wd M b k := by
  unfold wd
  rw [gD_lt (by omega), gD_lt (by omega), gD_lt (by omega), gD_lt (by omega)]
theorem md_all_app {M N : List Int32} : ∀ n, 64 * n ≤ M.length → md_all (M ++ N) n = md_all M n
  | 0, _ => rfl
  | n + 1, h => by
    rw [md_all, md_all, md_all_app n (by omega)]
    exact md_blk_congr (fun k hk => wd_lt hk h) _
theorem wd_ge {M : List Int32} {b k : Nat} (h : M.length ≤ 64 * b) : wd M b k = 0 := by
  unfold wd
  rw [gD_ge (by omega), gD_ge (by omega), gD_ge (by omega), gD_ge (by omega)]
  decide
theorem wd_other {M : List Int32} {o : Int32} {k : Nat} (hk : k ≠ M.length % 64 / 4) (h16 : k < 16) : wd (M ++ [o]) (M.length / 64) k = wd M (M.length / 64) k := by
  unfold wd
  have key : ∀ i, i < 4 → (M ++ [o]).getD (64 * (M.length / 64) + 4 * k + i) 0 = M.getD (64 * (M.length / 64) + 4 * k + i) 0 := by
    intro i hi
    rw [gD_app]
    by_cases h : 64 * (M.length / 64) + 4 * k + i < M.length
    · rw [if_pos h]
    · rw [if_neg h, if_neg (by omega), gD_ge (by omega)]
  rw [key 1 (by decide), key 2 (by decide), key 3 (by decide)]
  have := key 0 (by decide)
  rw [Nat.add_zero] at this
  rw [this]
theorem wd_same {M : List Int32} {o : Int32} : wd (M ++ [o]) (M.length / 64) (M.length % 64 / 4) = wd M (M.length / 64) (M.length % 64 / 4) ||| (o <<< (nI (8 * (M.length % 4)) &&& 31)) := by
  unfold wd
  have key : ∀ i, i < 4 → (M ++ [o]).getD (64 * (M.length / 64) + 4 * (M.length % 64 / 4) + i) 0 = (if i < M.length % 4 then M.getD (64 * (M.length / 64) + 4 * (M.length % 64 / 4) + i) 0 else if i = M.length % 4 then o else 0) ∧ (¬ i < M.length % 4 → M.getD (64 * (M.length / 64) + 4 * (M.length % 64 / 4) + i) 0 = 0) := by
    intro i hi
    rw [gD_app]
    refine ⟨?_, fun h => gD_ge (by omega)⟩
    by_cases h : i < M.length % 4
    · rw [if_pos h, if_pos (by omega)]
    · rw [if_neg h, if_neg (by omega)]
      by_cases h2 : i = M.length % 4
      · rw [if_pos h2, if_pos (by omega)]
      · rw [if_neg h2, if_neg (by omega)]
  have k0 := key 0 (by decide)
  rw [Nat.add_zero] at k0
  have k1 := key 1 (by decide)
  have k2 := key 2 (by decide)
  have k3 := key 3 (by decide)
  rw [k0.1, k1.1, k2.1, k3.1]
  have h4 : M.length % 4 = 0 ∨ M.length % 4 = 1 ∨ M.length % 4 = 2 ∨ M.length % 4 = 3 := by omega
  rcases h4 with e | e | e | e
  · rw [k0.2 (by omega), k1.2 (by omega), k2.2 (by omega), k3.2 (by omega), e]
    have z : nI (8 * 0) &&& 31 = 0 := by decide
    rw [z]
    simp [wd4]
  · rw [k1.2 (by omega), k2.2 (by omega), k3.2 (by omega), e]
    have z : nI (8 * 1) &&& 31 = 8 := by decide
    rw [z]
    simp [wd4]
  · rw [k2.2 (by omega), k3.2 (by omega), e]
    have z : nI (8 * 2) &&& 31 = 16 := by decide
    rw [z]
    simp [wd4]
  · rw [k3.2 (by omega), e]
    have z : nI (8 * 3) &&& 31 = 24 := by decide
    rw [z]
    simp [wd4]
section S57
variable {u : xu_T} {l : Launch} {KK : State → Prop} {h : xw_H} {X : xc_R → xw_H → Nat → Nat → Prop}
theorem s_Di_blend (K : xk_ok u KK) {r : Nat} (hr : r < 4) {b c d : Int32} (hX : X (.inl (some (.int (md_F r b c d)))) h 0 0) : xm_M l (y0 u) KK m_Di_blend [.int (nI r), .int b, .int c, .int d] h X := by
  refine xm_of [] (by simp) (Nat.le_of_ble_eq_true rfl) (by decide) (fun x at0 => ?_)
  have A := xa_of at0 K
  have ow := at0.2.2.2.2.1
  have h4 : r = 0 ∨ r = 1 ∨ r = 2 ∨ r = 3 := by omega
  refine ra_iload_n A d_Di_blend_0 rfl <| ?_
  rcases h4 with rfl | rfl | rfl | rfl
  · refine ra_tsIn (q := 28) (o := 27) A d_Di_blend_1 (by decide) (by decide) (by decide) (by decide) ?_
    refine ra_iload_n A d_Di_blend_28 rfl <| ra_iload_n A d_Di_blend_29 rfl <| ra_iand A d_Di_blend_30 <| ra_iload_n A d_Di_blend_31 rfl <| ra_iconst A (-1) d_Di_blend_32 (by decide) <| ra_ixor A d_Di_blend_33 <| ra_iload_n A d_Di_blend_34 rfl <| ra_iand A d_Di_blend_35 <| ra_ior A d_Di_blend_36 <| ?_
    exact ra_iret A ow d_Di_blend_37 hX
  · refine ra_tsIn (q := 38) (o := 37) A d_Di_blend_1 (by decide) (by decide) (by decide) (by decide) ?_
    refine ra_iload_n A d_Di_blend_38 rfl <| ra_iload_n A d_Di_blend_39 rfl <| ra_iand A d_Di_blend_40 <| ra_iload_n A d_Di_blend_41 rfl <| ra_iconst A (-1) d_Di_blend_42 (by decide) <| ra_ixor A d_Di_blend_43 <| ra_iload_n A d_Di_blend_44 rfl <| ra_iand A d_Di_blend_45 <| ra_ior A d_Di_blend_46 <| ?_
    exact ra_iret A ow d_Di_blend_47 hX
  · refine ra_tsIn (q := 48) (o := 47) A d_Di_blend_1 (by decide) (by decide) (by decide) (by decide) ?_
    refine ra_iload_n A d_Di_blend_48 rfl <| ra_iload_n A d_Di_blend_49 rfl <| ra_ixor A d_Di_blend_50 <| ra_iload_n A d_Di_blend_51 rfl <| ra_ixor A d_Di_blend_52 <| ?_
    exact ra_iret A ow d_Di_blend_53 hX
  · refine ra_tsOut (q := 54) A d_Di_blend_1 (by decide) (by decide) ?_
    refine ra_iload_n A d_Di_blend_54 rfl <| ra_iload_n A d_Di_blend_55 rfl <| ra_iload_n A d_Di_blend_56 rfl <| ra_iconst A (-1) d_Di_blend_57 (by decide) <| ra_ixor A d_Di_blend_58 <| ra_ior A d_Di_blend_59 <| ra_ixor A d_Di_blend_60 <| ?_
    exact ra_iret A ow d_Di_blend_61 hX
theorem s_Di_wordFor (K : xk_ok u KK) {r i : Nat} (hr : r < 4) (hi : i < 64) (hX : X (.inl (some (.int (nI (md_G r i))))) h 0 0) : xm_M l (y0 u) KK m_Di_wordFor [.int (nI r), .int (nI i)] h X := by
  refine xm_of [] (by simp) (Nat.le_of_ble_eq_true rfl) (by decide) (fun x at0 => ?_)
  have A := xa_of at0 K
  have ow := at0.2.2.2.2.1
  have h4 : r = 0 ∨ r = 1 ∨ r = 2 ∨ r = 3 := by omega
  refine ra_iload_n A d_Di_wordFor_0 rfl <| ?_
  rcases h4 with rfl | rfl | rfl | rfl
  · refine ra_tsIn (q := 28) (o := 27) A d_Di_wordFor_1 (by decide) (by decide) (by decide) (by decide) ?_
    refine ra_iload_n A d_Di_wordFor_28 rfl <| ra_bipush A 15 d_Di_wordFor_29 (by decide) <| ra_iand A d_Di_wordFor_31 <| ?_
    rw [pk_andN (k := 4) (by omega) (by decide)]
    exact ra_iret A ow d_Di_wordFor_32 hX
  · refine ra_tsIn (q := 33) (o := 32) A d_Di_wordFor_1 (by decide) (by decide) (by decide) (by decide) ?_
    refine ra_iconst A 5 d_Di_wordFor_33 (by decide) <| ra_iload_n A d_Di_wordFor_34 rfl <| ra_imul A d_Di_wordFor_35 <| ra_iconst A 1 d_Di_wordFor_36 (by decide) <| ra_iadd A d_Di_wordFor_37 <| ra_bipush A 15 d_Di_wordFor_38 (by decide) <| ra_iand A d_Di_wordFor_40 <| ?_
    rw [show (5 : Int32) * nI i = nI (5 * i) from pk_mul 5 i, nI_1, pk_andN (k := 4) (by omega) (by decide)]
    exact ra_iret A ow d_Di_wordFor_41 hX
  · refine ra_tsIn (q := 42) (o := 41) A d_Di_wordFor_1 (by decide) (by decide) (by decide) (by decide) ?_
    refine ra_iconst A 3 d_Di_wordFor_42 (by decide) <| ra_iload_n A d_Di_wordFor_43 rfl <| ra_imul A d_Di_wordFor_44 <| ra_iconst A 5 d_Di_wordFor_45 (by decide) <| ra_iadd A d_Di_wordFor_46 <| ra_bipush A 15 d_Di_wordFor_47 (by decide) <| ra_iand A d_Di_wordFor_49 <| ?_
    rw [show (3 : Int32) * nI i = nI (3 * i) from pk_mul 3 i, show nI (3 * i) + 5 = nI (3 * i + 5) from nI_add _ 5, pk_andN (k := 4) (by omega) (by decide)]
    exact ra_iret A ow d_Di_wordFor_50 hX
  · refine ra_tsOut (q := 51) A d_Di_wordFor_1 (by decide) (by decide) ?_
    refine ra_bipush A 7 d_Di_wordFor_51 (by decide) <| ra_iload_n A d_Di_wordFor_53 rfl <| ra_imul A d_Di_wordFor_54 <| ra_bipush A 15 d_Di_wordFor_55 (by decide) <| ra_iand A d_Di_wordFor_57 <| ?_
    rw [show (7 : Int32) * nI i = nI (7 * i) from pk_mul 7 i, pk_andN (k := 4) (by omega) (by decide)]
    exact ra_iret A ow d_Di_wordFor_58 hX
def md_get (h : xw_H) : md_V := (h.1 8 2, h.1 8 3, h.1 8 4, h.1 8 5)
def md_put (h : xw_H) (v : md_V) : xw_H := xw_I (xw_I (xw_I (xw_I h 8 2 v.1) 8 3 v.2.1) 8 4 v.2.2.1) 8 5 v.2.2.2
theorem md_get_put {h : xw_H} {v : md_V} : md_get (md_put h v) = v := by
  unfold md_get md_put
  simp [xw_I, va_up, upd]
theorem s_Di_mix (hX : X (.inl none) (md_put h (md_blk (h.1 9) (md_get h))) 0 0) : xm_M l (y0 u) (KK0 u) m_Di_mix [.ref 8] h X := by
  refine xm_of [none, none, none, none, none, none, none, none] (by simp) (Nat.le_of_ble_eq_true rfl) (by decide) (fun x at0 => ?_)
  have A := xa_of at0 (KK0_ok u)
  have ow := at0.2.2.2.2.1
  refine ra_aload_n A d_Di_mix_0 rfl <| ra_getI A f_Di_43 d_Di_mix_1 (Nat.le_of_ble_eq_true rfl) rfl rfl <| ra_istore_n (L' := [_, _, _, _, _, _, _, _, _]) A d_Di_mix_4 (by decide) rfl <| ra_aload_n A d_Di_mix_5 rfl <| ra_getI A f_Di_49 d_Di_mix_6 (Nat.le_of_ble_eq_true rfl) rfl rfl <| ra_istore_n (L' := [_, _, _, _, _, _, _, _, _]) A d_Di_mix_9 (by decide) rfl <| ra_aload_n A d_Di_mix_10 rfl <| ra_getI A f_Di_46 d_Di_mix_11 (Nat.le_of_ble_eq_true rfl) rfl rfl <| ra_istore_n (L' := [_, _, _, _, _, _, _, _, _]) A d_Di_mix_14 (by decide) rfl <| ra_aload_n A d_Di_mix_15 rfl <| ra_getI A f_Di_52 d_Di_mix_16 (Nat.le_of_ble_eq_true rfl) rfl rfl <| ra_istore (L' := [_, _, _, _, _, _, _, _, _]) A d_Di_mix_19 (by decide) rfl <| ra_iconst A 0 d_Di_mix_21 (by decide) <| ra_istore (L' := [_, _, _, _, _, _, _, _, _]) A d_Di_mix_22 (by decide) rfl <| ?_
  refine lp_up (σ := md_V × Option Value × Option Value × Option Value) (W := fun i s => xg x (y0 u) 0 0 24 [some (.ref 8), some (.int s.1.1), some (.int s.1.2.1), some (.int s.1.2.2.1), some (.int s.1.2.2.2), some (.int (nI i)), s.2.1, s.2.2.1, s.2.2.2] [] h) (I := fun i s => s.1 = md_run (h.1 9) i (md_get h)) 64 ?_ ?_ 0 (md_get h, none, none, none) (by omega) rfl
  · rintro ⟨v, w6, w7, w8⟩ rfl
    refine ra_iload A d_Di_mix_24 rfl <| ra_bipush A 64 d_Di_mix_26 (by decide) <| ?_
    refine ra_icmp_ge (q := 117) A d_Di_mix_28 (by decide) (fun _ => ?_) (fun cc => absurd (Int32.le_refl _) cc)
    refine ra_aload_n A d_Di_mix_117 rfl <| ra_dup A d_Di_mix_118 rfl <| ra_getI A f_Di_43 d_Di_mix_119 (Nat.le_of_ble_eq_true rfl) rfl rfl <| ra_iload_n A d_Di_mix_122 rfl <| ra_iadd A d_Di_mix_123 <| ra_putI (ty := .int) A f_Di_43 rfl rfl (by decide +kernel) rfl rfl d_Di_mix_124 (Nat.le_of_ble_eq_true rfl) rfl rfl <| ra_aload_n A d_Di_mix_127 rfl <| ra_dup A d_Di_mix_128 rfl <| ra_getI A f_Di_49 d_Di_mix_129 (Nat.le_of_ble_eq_true rfl) rfl rfl <| ?_
    rw [xI_j (by decide)]
    refine ra_iload_n A d_Di_mix_132 rfl <| ra_iadd A d_Di_mix_133 <| ra_putI (ty := .int) A f_Di_49 rfl rfl (by decide +kernel) rfl rfl d_Di_mix_134 (Nat.le_of_ble_eq_true rfl) rfl rfl <| ra_aload_n A d_Di_mix_137 rfl <| ra_dup A d_Di_mix_138 rfl <| ra_getI A f_Di_46 d_Di_mix_139 (Nat.le_of_ble_eq_true rfl) rfl rfl <| ?_
    rw [xI_j (by decide), xI_j (by decide)]
    refine ra_iload_n A d_Di_mix_142 rfl <| ra_iadd A d_Di_mix_143 <| ra_putI (ty := .int) A f_Di_46 rfl rfl (by decide +kernel) rfl rfl d_Di_mix_144 (Nat.le_of_ble_eq_true rfl) rfl rfl <| ra_aload_n A d_Di_mix_147 rfl <| ra_dup A d_Di_mix_148 rfl <| ra_getI A f_Di_52 d_Di_mix_149 (Nat.le_of_ble_eq_true rfl) rfl rfl <| ?_
    rw [xI_j (by decide), xI_j (by decide), xI_j (by decide)]
    refine ra_iload A d_Di_mix_152 rfl <| ra_iadd A d_Di_mix_154 <| ra_putI (ty := .int) A f_Di_52 rfl rfl (by decide +kernel) rfl rfl d_Di_mix_155 (Nat.le_of_ble_eq_true rfl) rfl rfl <| ?_
    exact ra_vret A ow d_Di_mix_158 hX
  · rintro i ⟨v, w6, w7, w8⟩ hi rfl ih
    refine ra_iload A d_Di_mix_24 rfl <| ra_bipush A 64 d_Di_mix_26 (by decide) <| ?_
    refine ra_icmp_ge (q := 117) A d_Di_mix_28 (by decide) (fun cc => absurd cc (nI_ge (b := 64) hi (by decide))) (fun _ => ?_)
    refine ra_iload A d_Di_mix_31 rfl <| ra_iconst A 4 d_Di_mix_33 (by decide) <| ra_ishr A d_Di_mix_34 <| ?_
    rw [pk_shrN (k := 4) (by omega) _ (by decide)]
    refine ra_istore (L' := [_, _, _, _, _, _, _, _, _]) A d_Di_mix_35 (by decide) rfl <| ra_gets A at0.2.2.1.2.2.2.2.2.2.2.2.2.2.1.1 fs_Di_70 d_Di_mix_37 <| ra_iconst A 4 d_Di_mix_40 (by decide) <| ra_iload A d_Di_mix_41 rfl <| ra_imul A d_Di_mix_43 <| ra_iload A d_Di_mix_44 rfl <| ra_iconst A 3 d_Di_mix_46 (by decide) <| ra_iand A d_Di_mix_47 <| ?_
    rw [show (4 : Int32) * nI (i / 2 ^ 4) = nI (4 * (i / 2 ^ 4)) from pk_mul 4 _, pk_andN (k := 2) (by omega) (by decide)]
    refine ra_iadd A d_Di_mix_48 <| ?_
    rw [nI_add]
    refine ra_sti A at0.2.2.1.2.2.2.2.2.2.2.2.2.2.1.2 (vp_in_nI (by omega) (by decide)) (show _ = Value.int (md_S i) by rw [nI_clamp (by omega)]; rfl) d_Di_mix_49 ?_
    refine ra_istore (L' := [_, _, _, _, _, _, _, _, _]) A d_Di_mix_50 (by decide) rfl <| ra_iload_n A d_Di_mix_52 rfl <| ra_iload A d_Di_mix_53 rfl <| ra_iload_n A d_Di_mix_55 rfl <| ra_iload_n A d_Di_mix_56 rfl <| ra_iload A d_Di_mix_57 rfl <| ?_
    refine ra_callS (As := [_, _, _, _]) A ok_Di_blend l_Di_73 st_Di_blend d_Di_mix_59 rfl (Nat.le_of_ble_eq_true rfl) (xr_of at0 (by decide)) (s_Di_blend (KK0_ok u) (by omega) ?_)
    show xg x (y0 u) 0 0 62 _ _ _
    refine ra_iadd A d_Di_mix_62 <| ra_gets A at0.2.2.1.2.2.2.2.2.2.2.2.2.1.1 fs_Di_77 d_Di_mix_63 <| ra_iload A d_Di_mix_66 rfl <| ?_
    refine ra_stl A at0.2.2.1.2.2.2.2.2.2.2.2.2.1.2 (vp_in_nI hi (by decide)) (by rw [nI_clamp (by omega)]) d_Di_mix_68 ?_
    refine ra_l2i A d_Di_mix_69 <| ra_iadd A d_Di_mix_70 <| ra_aload_n A d_Di_mix_71 rfl <| ra_getR A f_Di_7 d_Di_mix_72 (Nat.le_of_ble_eq_true rfl) rfl rfl rfl <| ra_iload A d_Di_mix_75 rfl <| ra_iload A d_Di_mix_77 rfl <| ?_
    refine ra_callS (As := [_, _]) A ok_Di_wordFor l_Di_81 st_Di_wordFor d_Di_mix_79 rfl (Nat.le_of_ble_eq_true rfl) (xr_of at0 (by decide)) (s_Di_wordFor (KK0_ok u) (by omega) hi ?_)
    show xg x (y0 u) 0 0 82 _ _ _
    have hg := md_G_lt (i / 2 ^ 4) i
    refine ra_iaload A d_Di_mix_82 (Nat.le_of_ble_eq_true rfl) rfl (vp_in_nI hg (by decide)) ?_
    rw [nI_clamp (by omega)]
    refine ra_iadd A d_Di_mix_83 <| ra_istore (L' := [_, _, _, _, _, _, _, _, _]) A d_Di_mix_84 (by decide) rfl <| ra_iload A d_Di_mix_86 rfl <| ra_istore_n (L' := [_, _, _, _, _, _, _, _, _]) A d_Di_mix_88 (by decide) rfl <| ra_iload_n A d_Di_mix_89 rfl <| ra_istore (L' := [_, _, _, _, _, _, _, _, _]) A d_Di_mix_90 (by decide) rfl <| ra_iload_n A d_Di_mix_92 rfl <| ra_istore_n (L' := [_, _, _, _, _, _, _, _, _]) A d_Di_mix_93 (by decide) rfl <| ra_iload_n A d_Di_mix_94 rfl <| ra_iload A d_Di_mix_95 rfl <| ra_iload A d_Di_mix_97 rfl <| ra_ishl A d_Di_mix_99 <| ra_iload A d_Di_mix_100 rfl <| ra_bipush A 32 d_Di_mix_102 (by decide) <| ra_iload A d_Di_mix_104 rfl <| ra_isub A d_Di_mix_106 <| ra_iushr A d_Di_mix_107 <| ra_ior A d_Di_mix_108 <| ra_iadd A d_Di_mix_109 <| ra_istore_n (L' := [_, _, _, _, _, _, _, _, _]) A d_Di_mix_110 (by decide) rfl <| ra_iinc (L' := [_, _, _, _, _, _, _, _, _]) A 1 d_Di_mix_111 rfl (by decide) (by decide) rfl <| ra_goto (q := 24) A d_Di_mix_114 (by decide) <| ?_
    rw [nI_1]
    exact ih (_, _, _, _) rfl
end S57
