/-! SoundStream$Encoder: writeHead, writeBody -/
theorem WB.get {h : xw_H} {B : List Bool} {q : Nat} (W : WB h B) (hB : B.length ≤ 72000) (hq : q < B.length / 8) : ByF (f_get h (nI q)) (fun j => B.getD j false) q := by
  have e : f_get h (nI q) = h.1 7 q &&& 255 := by
    unfold f_get
    rw [if_neg (nI_pos (by omega)), show v_bytes_length h = nI (B.length / 8) from W.1, if_neg (nI_ge hq (by omega)), nI_clamp (by omega)]
  rw [e]
  exact W.2.2.2 q hq
theorem WB.ckL {h : xw_H} {P H : List Bool} {n : Int32} {w p a : Nat} (W : WB h (P ++ H)) (hr : (P ++ H).length ≤ 72000) (hP : P.length = 8 * a) (hH : H.length % 8 = 0) (hw : CW n w p) : f_check h n a ((P ++ H).length / 8) = nI (crL w p H) := by
  have hl : (P ++ H).length = 8 * a + H.length := by rw [List.length_append, hP]
  rw [f_check_I hw (fun q _ h2 => W.get hr h2), hl, show 8 * ((8 * a + H.length) / 8 - a) = H.length by omega]
  unfold crL
  congr 1
  refine crI_congr _ (fun j hj => ?_)
  rw [ga_r (by omega), hP]
  congr 1
  omega
theorem numbits_app : ∀ A B, numbits (A ++ B) = numbits A ++ numbits B
  | [], B => rfl
  | a :: A, B => by rw [List.cons_append, numbits, numbits, numbits_app A B, List.append_assoc]
theorem numbits_take {L : List Nat} {j : Nat} (h : j < L.length) : numbits (L.take (j + 1)) = numbits (L.take j) ++ bitsL 8 (lN (L.getD j 0)) := by
  rw [List.take_add_one, numbits_app]
  congr 1
  rw [List.getElem?_eq_getElem h, List.getD_eq_getElem?_getD, List.getElem?_eq_getElem h]
  simp [numbits]
theorem numB_lt {v i : Nat} (h : v < 2048) : (numB v).getD i 0 < 256 := by
  unfold numB
  split
  · match i with
    | 0 => show v < 256; omega
    | i + 1 => show 0 < 256; decide
  · match i with
    | 0 => show 192 + v / 64 < 256; omega
    | 1 => show 128 + v % 64 < 256; omega
    | i + 2 => show 0 < 256; decide
theorem WB.len {h : xw_H} {B : List Bool} (W : WB h B) (hB : B.length ≤ 72000) : (v_bytes_length h).toInt ≤ 9000 := by
  rw [show v_bytes_length h = nI (B.length / 8) from W.1, nI_toInt (by omega)]
  omega
section S78
variable {u : xu_T} {l : Launch} {KK : State → Prop} {h : xw_H} {X : xc_R → xw_H → Nat → Nat → Prop}
theorem s_En_writeHead {a n c k : Nat} {v : Bool} {B : List Bool} (hn1 : 1 ≤ n) (hn : n ≤ 1024) (ha : a < 2048) (hk : k < 2048) (hc : c < 16) (ek : h.1 10 9 = nI k) (W : WB h B) (h8 : B.length % 8 = 0) (hroom : B.length + 72 ≤ 72000)
    (hX : ∀ h', fr [6, 7, 87] h h' → WB h' (B ++ fheadc n c (if v then a else k) v) → X (.inl none) h' 0 0) : xm_M l (y0 u) (KK0 u) m_En_writeHead [.ref 10, .int (nI a), .int (nI n), .int (nI c), .int (bz v)] h X := by
  refine xm_of [none, none, none] (by simp) (Nat.le_of_ble_eq_true rfl) (by decide) (fun x at0 => ?_)
  have K := KK0_ok u
  have A := xa_of at0 K
  have ow := at0.2.2.2.2.1
  refine ra_aload_n A d_En_writeHead_0 rfl <| ra_getR A f_En_20 d_En_writeHead_1 (Nat.le_of_ble_eq_true rfl) rfl rfl rfl <| ra_getI A f_En_58 d_En_writeHead_4 (Nat.le_of_ble_eq_true rfl) rfl rfl <| ?_
  rw [W.1]
  refine ra_istore (L' := [_, _, _, _, _, _, _, _]) A d_En_writeHead_7 (by decide) rfl <| ra_aload_n A d_En_writeHead_9 rfl <| ra_getR A f_En_33 d_En_writeHead_10 (Nat.le_of_ble_eq_true rfl) rfl rfl rfl <| ra_bipush A 14 d_En_writeHead_13 (by decide) <| ra_ldc2 A k_En_158 d_En_writeHead_15 <| ?_
  refine ra_callV (As := [_, _]) A ok_Wr_put l_En_111 im_Wr_put sl_Wr_put d_En_writeHead_18 (Nat.le_of_ble_eq_true rfl) rfl rfl rfl (Nat.le_of_ble_eq_true rfl) (xr_of at0 (by decide)) (s_Wr_put K (n := 14) W (by omega) (fun g1 f1 W1 => ?_))
  show xg x (y0 u) 0 0 21 _ _ g1
  refine ra_aload_n A d_En_writeHead_21 rfl <| ra_getR A f_En_33 d_En_writeHead_22 (Nat.le_of_ble_eq_true rfl) rfl rfl rfl <| ra_iconst A 1 d_En_writeHead_25 (by decide) <| ra_lconst A 0 d_En_writeHead_26 (by decide) <| ?_
  refine ra_callV (As := [_, _]) A ok_Wr_put l_En_111 im_Wr_put sl_Wr_put d_En_writeHead_27 (Nat.le_of_ble_eq_true rfl) rfl rfl rfl (Nat.le_of_ble_eq_true rfl) (xr_of at0 (by decide)) (s_Wr_put K (n := 1) W1 (by simp only [List.length_append, bitsL_len]; omega) (fun g2 f2 W2 => ?_))
  show xg x (y0 u) 0 0 30 _ _ g2
  have f2 := f1.trans f2
  refine ra_aload_n A d_En_writeHead_30 rfl <| ra_getR A f_En_33 d_En_writeHead_31 (Nat.le_of_ble_eq_true rfl) rfl rfl rfl <| ra_iconst A 1 d_En_writeHead_34 (by decide) <| ra_iload A d_En_writeHead_35 rfl <| ?_
  have at45 : xg x (y0 u) 0 0 45 [some (.ref 10), some (.int (nI a)), some (.int (nI n)), some (.int (nI c)), some (.int (bz v)), some (.int (nI (B.length / 8))), none, none] [.long (if v then 1 else 0), .int 1, .ref 87] g2 := by
    refine ra_callV (As := [_, _]) A ok_Wr_put l_En_111 im_Wr_put sl_Wr_put d_En_writeHead_45 (Nat.le_of_ble_eq_true rfl) rfl rfl rfl (Nat.le_of_ble_eq_true rfl) (xr_of at0 (by decide)) (s_Wr_put K (n := 1) W2 (by simp only [List.length_append, bitsL_len]; omega) (fun g3 f3 W3 => ?_))
    show xg x (y0 u) 0 0 48 _ _ g3
    have f3 := f2.trans f3
    refine ra_aload_n A d_En_writeHead_48 rfl <| ra_getR A f_En_33 d_En_writeHead_49 (Nat.le_of_ble_eq_true rfl) rfl rfl rfl <| ra_iconst A 4 d_En_writeHead_52 (by decide) <| ra_iload_n A d_En_writeHead_53 rfl <| ra_sipush A 256 d_En_writeHead_54 (by decide) <| ?_
    have at69 : xg x (y0 u) 0 0 69 [some (.ref 10), some (.int (nI a)), some (.int (nI n)), some (.int (nI c)), some (.int (bz v)), some (.int (nI (B.length / 8))), none, none] [.long (if n ≤ 256 then 6 else 7), .int 4, .ref 87] g3 := by
      refine ra_callV (As := [_, _]) A ok_Wr_put l_En_111 im_Wr_put sl_Wr_put d_En_writeHead_69 (Nat.le_of_ble_eq_true rfl) rfl rfl rfl (Nat.le_of_ble_eq_true rfl) (xr_of at0 (by decide)) (s_Wr_put K (n := 4) W3 (by simp only [List.length_append, bitsL_len]; omega) (fun g4 f4 W4 => ?_))
      show xg x (y0 u) 0 0 72 _ _ g4
      have f4 := f3.trans f4
      refine ra_aload_n A d_En_writeHead_72 rfl <| ra_getR A f_En_33 d_En_writeHead_73 (Nat.le_of_ble_eq_true rfl) rfl rfl rfl <| ra_iconst A 4 d_En_writeHead_76 (by decide) <| ra_lconst A 0 d_En_writeHead_77 (by decide) <| ?_
      refine ra_callV (As := [_, _]) A ok_Wr_put l_En_111 im_Wr_put sl_Wr_put d_En_writeHead_78 (Nat.le_of_ble_eq_true rfl) rfl rfl rfl (Nat.le_of_ble_eq_true rfl) (xr_of at0 (by decide)) (s_Wr_put K (n := 4) W4 (by simp only [List.length_append, bitsL_len]; omega) (fun g5 f5 W5 => ?_))
      show xg x (y0 u) 0 0 81 _ _ g5
      have f5 := f4.trans f5
      refine ra_aload_n A d_En_writeHead_81 rfl <| ra_getR A f_En_33 d_En_writeHead_82 (Nat.le_of_ble_eq_true rfl) rfl rfl rfl <| ra_iconst A 4 d_En_writeHead_85 (by decide) <| ra_iload_n A d_En_writeHead_86 rfl <| ra_i2l A d_En_writeHead_87 <| ?_
      rw [nI_l (by omega)]
      refine ra_callV (As := [_, _]) A ok_Wr_put l_En_111 im_Wr_put sl_Wr_put d_En_writeHead_88 (Nat.le_of_ble_eq_true rfl) rfl rfl rfl (Nat.le_of_ble_eq_true rfl) (xr_of at0 (by decide)) (s_Wr_put K (n := 4) W5 (by simp only [List.length_append, bitsL_len]; omega) (fun g6 f6 W6 => ?_))
      show xg x (y0 u) 0 0 91 _ _ g6
      have f6 := f5.trans f6
      refine ra_aload_n A d_En_writeHead_91 rfl <| ra_getR A f_En_33 d_En_writeHead_92 (Nat.le_of_ble_eq_true rfl) rfl rfl rfl <| ra_iconst A 4 d_En_writeHead_95 (by decide) <| ra_lconst A 0 d_En_writeHead_96 (by decide) <| ?_
      refine ra_callV (As := [_, _]) A ok_Wr_put l_En_111 im_Wr_put sl_Wr_put d_En_writeHead_97 (Nat.le_of_ble_eq_true rfl) rfl rfl rfl (Nat.le_of_ble_eq_true rfl) (xr_of at0 (by decide)) (s_Wr_put K (n := 4) W6 (by simp only [List.length_append, bitsL_len]; omega) (fun g7 f7 W7 => ?_))
      show xg x (y0 u) 0 0 100 _ _ g7
      have f7 := f6.trans f7
      refine ra_iload A d_En_writeHead_100 rfl <| ?_
      have hnum : (if v then a else k) < 2048 := by split <;> assumption
      have hPl : (B ++ bitsL 14 16382 ++ bitsL 1 0 ++ bitsL 1 (if v then 1 else 0) ++ bitsL 4 (if n ≤ 256 then 6 else 7) ++ bitsL 4 0 ++ bitsL 4 (lN c) ++ bitsL 4 0).length = B.length + 32 := by
        simp only [List.length_append, bitsL_len]
      have hH : ∀ num, B ++ fhead n c num v = B ++ bitsL 14 16382 ++ bitsL 1 0 ++ bitsL 1 (if v then 1 else 0) ++ bitsL 4 (if n ≤ 256 then 6 else 7) ++ bitsL 4 0 ++ bitsL 4 (lN c) ++ bitsL 4 0 ++ numbits (numB num) ++ bitsL (if n ≤ 256 then 8 else 16) (lN (n - 1)) := by
        intro num
        unfold fhead
        simp only [List.append_assoc]
      generalize B ++ bitsL 14 16382 ++ bitsL 1 0 ++ bitsL 1 (if v then 1 else 0) ++ bitsL 4 (if n ≤ 256 then 6 else 7) ++ bitsL 4 0 ++ bitsL 4 (lN c) ++ bitsL 4 0 = P at W7 hPl hH
      have at113 : ∀ num, (if v then a else k) = num → xg x (y0 u) 0 0 113 [some (.ref 10), some (.int (nI a)), some (.int (nI n)), some (.int (nI c)), some (.int (bz v)), some (.int (nI (B.length / 8))), none, none] [.int (nI num)] g7 := by
        intro num enum
        rw [enum] at hX hnum
        have hnl := numB_len num
        have hnl2 : (numB num).length ≤ 2 := by rw [hnl]; split <;> omega
        refine ra_istore (L' := [_, _, _, _, _, _, _, _]) A d_En_writeHead_113 (by decide) rfl <| ra_iconst A 0 d_En_writeHead_115 (by decide) <| ra_istore (L' := [_, _, _, _, _, _, _, _]) A d_En_writeHead_116 (by decide) rfl <| ?_
        refine lp_up (σ := xw_H) (W := fun j g => xg x (y0 u) 0 0 118 [some (.ref 10), some (.int (nI a)), some (.int (nI n)), some (.int (nI c)), some (.int (bz v)), some (.int (nI (B.length / 8))), some (.int (nI num)), some (.int (nI j))] [] g) (I := fun j g => fr [6, 7, 87] h g ∧ WB g (P ++ numbits ((numB num).take j))) (numB num).length ?_ ?_ 0 g7 (Nat.zero_le _) ⟨f7, by simpa [numbits] using W7⟩
        · rintro g ⟨hf, hW⟩
          rw [List.take_length] at hW
          refine ra_iload A d_En_writeHead_118 rfl <| ra_iload A d_En_writeHead_120 rfl <| ?_
          refine ra_callSN (As := [_]) A ok_SS_bytesOfNumber (at0.2.2.1.2.2.2.2.2.2.1 _ (List.mem_of_getElem? (i := 7) rfl)) st_SS_bytesOfNumber d_En_writeHead_122 rfl (Nat.le_of_ble_eq_true rfl) (xr_of at0 (by decide)) (s_SS_bytesOfNumber K hnum ?_)
          show xg x (y0 u) 0 0 125 _ _ g
          refine ra_icmp_ge (q := 151) A d_En_writeHead_125 (by decide) (fun _ => ?_) (fun cc => absurd (Int32.le_refl _) cc)
          refine ra_aload_n A d_En_writeHead_151 rfl <| ra_getR A f_En_33 d_En_writeHead_152 (Nat.le_of_ble_eq_true rfl) rfl rfl rfl <| ra_iload_n A d_En_writeHead_155 rfl <| ra_sipush A 256 d_En_writeHead_156 (by decide) <| ?_
          have at169 : ∀ m : Nat, m = (if n ≤ 256 then 8 else 16) → xg x (y0 u) 0 0 169 [some (.ref 10), some (.int (nI a)), some (.int (nI n)), some (.int (nI c)), some (.int (bz v)), some (.int (nI (B.length / 8))), some (.int (nI num)), some (.int (nI (numB num).length))] [.int (nI m), .ref 87] g := by
            intro m hm
            rw [← hm] at hH
            have hm16 : m ≤ 16 := by rw [hm]; split <;> omega
            have hm8 : m % 8 = 0 := by rw [hm]; split <;> omega
            refine ra_iload_n A d_En_writeHead_169 rfl <| ra_iconst A 1 d_En_writeHead_170 (by decide) <| ra_isub A d_En_writeHead_171 <| ?_
            rw [show nI n - 1 = nI (n - 1) from pk_sub (b := 1) hn1]
            refine ra_i2l A d_En_writeHead_172 <| ?_
            rw [nI_l (by omega)]
            refine ra_callV (As := [_, _]) A ok_Wr_put l_En_111 im_Wr_put sl_Wr_put d_En_writeHead_173 (Nat.le_of_ble_eq_true rfl) rfl rfl rfl (Nat.le_of_ble_eq_true rfl) (xr_of at0 (by decide)) (s_Wr_put K (n := m) hW (by rw [List.length_append, hPl, numbits_len]; omega) (fun g9 f9 W9 => ?_))
            show xg x (y0 u) 0 0 176 _ _ g9
            have f9 := hf.trans f9
            rw [← hH num] at W9
            have hl9 : (B ++ fhead n c num v).length = B.length + 32 + 8 * (numB num).length + m := by
              rw [hH num, List.length_append, List.length_append, hPl, numbits_len, bitsL_len]
            have h89 : (fhead n c num v).length % 8 = 0 := fhead_8
            refine ra_aload_n A d_En_writeHead_176 rfl <| ra_getR A f_En_33 d_En_writeHead_177 (Nat.le_of_ble_eq_true rfl) rfl rfl rfl <| ra_bipush A 8 d_En_writeHead_180 (by decide) <| ra_aload_n A d_En_writeHead_182 rfl <| ra_getR A f_En_20 d_En_writeHead_183 (Nat.le_of_ble_eq_true rfl) rfl rfl rfl <| ra_bipush A 8 d_En_writeHead_186 (by decide) <| ra_iload A d_En_writeHead_188 rfl <| ra_aload_n A d_En_writeHead_190 rfl <| ra_getR A f_En_20 d_En_writeHead_191 (Nat.le_of_ble_eq_true rfl) rfl rfl rfl <| ra_getI A f_En_58 d_En_writeHead_194 (Nat.le_of_ble_eq_true rfl) rfl rfl <| ?_
            rw [W9.1]
            refine ra_callV (As := [_, _, _]) A ok_By_check l_En_171 im_By_check sl_By_check d_En_writeHead_197 (Nat.le_of_ble_eq_true rfl) rfl rfl rfl (Nat.le_of_ble_eq_true rfl) (xr_of at0 (by decide)) (s_By_check K (a := B.length / 8) (by omega) (by omega) (W9.len (by omega)) ?_)
            show xg x (y0 u) 0 0 200 _ _ g9
            rw [W9.ckL (by omega) (by omega) h89 (Or.inl ⟨rfl, rfl, rfl⟩)]
            have hcl : crL 8 7 (fhead n c num v) < 2 ^ 8 := crI_lt (by decide) (by decide) _
            refine ra_i2l A d_En_writeHead_200 <| ?_
            rw [nI_l (by omega)]
            refine ra_callV (As := [_, _]) A ok_Wr_put l_En_111 im_Wr_put sl_Wr_put d_En_writeHead_201 (Nat.le_of_ble_eq_true rfl) rfl rfl rfl (Nat.le_of_ble_eq_true rfl) (xr_of at0 (by decide)) (s_Wr_put K (n := 8) W9 (by omega) (fun g10 f10 W10 => ?_))
            show xg x (y0 u) 0 0 204 _ _ g10
            refine ra_vret A ow d_En_writeHead_204 (hX g10 (f9.trans f10) ?_)
            unfold fheadc
            rw [← List.append_assoc]
            exact W10
          by_cases q : n ≤ 256
          · refine ra_icmp_gt (q := 167) A d_En_writeHead_159 (by decide) (fun cc => absurd cc (Int32.not_lt.mpr (nI_le (b := 256) q (by decide)))) (fun _ => ?_)
            refine ra_bipush A 8 d_En_writeHead_162 (by decide) <| ra_goto (q := 169) A d_En_writeHead_164 (by decide) <| ?_
            exact at169 8 (by rw [if_pos q])
          · refine ra_icmp_gt (q := 167) A d_En_writeHead_159 (by decide) (fun _ => ?_) (fun cc => absurd (nI_lt (a := 256) (by omega) (by omega)) cc)
            refine ra_bipush A 16 d_En_writeHead_167 (by decide) <| ?_
            exact at169 16 (by rw [if_neg q])
        · rintro j g hj ⟨hf, hW⟩ ih
          refine ra_iload A d_En_writeHead_118 rfl <| ra_iload A d_En_writeHead_120 rfl <| ?_
          refine ra_callSN (As := [_]) A ok_SS_bytesOfNumber (at0.2.2.1.2.2.2.2.2.2.1 _ (List.mem_of_getElem? (i := 7) rfl)) st_SS_bytesOfNumber d_En_writeHead_122 rfl (Nat.le_of_ble_eq_true rfl) (xr_of at0 (by decide)) (s_SS_bytesOfNumber K hnum ?_)
          show xg x (y0 u) 0 0 125 _ _ g
          refine ra_icmp_ge (q := 151) A d_En_writeHead_125 (by decide) (fun cc => absurd cc (nI_ge hj (by omega))) (fun _ => ?_)
          refine ra_aload_n A d_En_writeHead_128 rfl <| ra_getR A f_En_33 d_En_writeHead_129 (Nat.le_of_ble_eq_true rfl) rfl rfl rfl <| ra_bipush A 8 d_En_writeHead_132 (by decide) <| ra_iload A d_En_writeHead_134 rfl <| ra_iload A d_En_writeHead_136 rfl <| ?_
          refine ra_callSN (As := [_, _]) A ok_SS_byteOfNumber (at0.2.2.1.2.2.2.2.2.2.1 _ (List.mem_of_getElem? (i := 8) rfl)) st_SS_byteOfNumber d_En_writeHead_138 rfl (Nat.le_of_ble_eq_true rfl) (xr_of at0 (by decide)) (s_SS_byteOfNumber K hnum hj ?_)
          show xg x (y0 u) 0 0 141 _ _ g
          have := numB_lt (i := j) hnum
          refine ra_i2l A d_En_writeHead_141 <| ?_
          rw [nI_l (by omega)]
          refine ra_callV (As := [_, _]) A ok_Wr_put l_En_111 im_Wr_put sl_Wr_put d_En_writeHead_142 (Nat.le_of_ble_eq_true rfl) rfl rfl rfl (Nat.le_of_ble_eq_true rfl) (xr_of at0 (by decide)) (s_Wr_put K (n := 8) hW (by rw [List.length_append, hPl, numbits_len, List.length_take]; omega) (fun g8 f8 W8 => ?_))
          show xg x (y0 u) 0 0 145 _ _ g8
          refine ra_iinc (L' := [_, _, _, _, _, _, _, _]) A 1 d_En_writeHead_145 rfl (by decide) (by decide) rfl <| ra_goto (q := 118) A d_En_writeHead_148 (by decide) <| ?_
          rw [nI_1]
          refine ih g8 ⟨hf.trans f8, ?_⟩
          rw [numbits_take hj, ← List.append_assoc]
          exact W8
      cases v
      · refine ra_if_eq (q := 109) A d_En_writeHead_102 (by decide) (fun _ => ?_) (fun cc => absurd (rfl) cc)
        refine ra_aload_n A d_En_writeHead_109 rfl <| ra_getI A f_En_64 d_En_writeHead_110 (Nat.le_of_ble_eq_true rfl) rfl rfl <| ?_
        rw [fr1 f7 (by decide), ek]
        exact at113 k rfl
      · refine ra_if_eq (q := 109) A d_En_writeHead_102 (by decide) (fun cc => absurd cc ((by decide))) (fun _ => ?_)
        refine ra_iload_n A d_En_writeHead_105 rfl <| ra_goto (q := 113) A d_En_writeHead_106 (by decide) <| ?_
        exact at113 a rfl
    by_cases q : n ≤ 256
    · refine ra_icmp_gt (q := 66) A d_En_writeHead_57 (by decide) (fun cc => absurd cc (Int32.not_lt.mpr (nI_le (b := 256) q (by decide)))) (fun _ => ?_)
      rw [if_pos q] at at69
      refine ra_ldc2 A k_En_160 d_En_writeHead_60 <| ra_goto (q := 69) A d_En_writeHead_63 (by decide) <| ?_
      exact at69
    · refine ra_icmp_gt (q := 66) A d_En_writeHead_57 (by decide) (fun _ => ?_) (fun cc => absurd (nI_lt (a := 256) (by omega) (by omega)) cc)
      rw [if_neg q] at at69
      refine ra_ldc2 A k_En_162 d_En_writeHead_66 <| ?_
      exact at69
  cases v
  · refine ra_if_eq (q := 44) A d_En_writeHead_37 (by decide) (fun _ => ?_) (fun cc => absurd (rfl) cc)
    refine ra_lconst A 0 d_En_writeHead_44 (by decide) <| ?_
    exact at45
  · refine ra_if_eq (q := 44) A d_En_writeHead_37 (by decide) (fun cc => absurd cc ((by decide))) (fun _ => ?_)
    refine ra_lconst A 1 d_En_writeHead_40 (by decide) <| ra_goto (q := 45) A d_En_writeHead_41 (by decide) <| ?_
    exact at45
theorem s_En_writeBody (K : xk_ok u KK) {n D c f : Nat} {S : Nat → Nat → Int32} {B H : List Bool} (hn1 : 1 ≤ n) (hn : n ≤ 1024) (hD0 : 1 ≤ D) (hD : D ≤ 24) (hc : c = 0 ∨ isC c) (hB : B.length = 8 * f) (hH : H.length % 8 = 0) (hI : IA S n D c) (hS : SA h S n D c) (W : WB h (B ++ H)) (hroom : B.length + (pad8 (H ++ fbody S n D c)).length + 16 ≤ 72000)
    (hX : ∀ h', fr WL h h' → WB h' (B ++ (pad8 (H ++ fbody S n D c) ++ bitsL 16 (lN (crL 16 32773 (pad8 (H ++ fbody S n D c)))))) → X (.inl none) h' 0 0) : xm_M l (y0 u) KK m_En_writeBody [.ref 10, .int (nI f), .int (nI c)] h X := by
  refine xm_of [] (by simp) (Nat.le_of_ble_eq_true rfl) (by decide) (fun x at0 => ?_)
  have A := xa_of at0 K
  have ow := at0.2.2.2.2.1
  have hpl := pad8_len (H ++ fbody S n D c)
  rw [List.length_append] at hpl
  have at28 : ∀ g, fr WL h g → WB g (B ++ H ++ fbody S n D c) → xg x (y0 u) 0 0 28 [some (.ref 10), some (.int (nI f)), some (.int (nI c))] [] g := by
    intro g hf hW
    have hl1 : (B ++ H ++ fbody S n D c).length = B.length + (H.length + (fbody S n D c).length) := by rw [List.length_append, List.length_append, Nat.add_assoc]
    refine ra_aload_n A d_En_writeBody_28 rfl <| ra_getR A f_En_33 d_En_writeBody_29 (Nat.le_of_ble_eq_true rfl) rfl rfl rfl <| ?_
    refine ra_callV (As := []) A ok_Wr_fillByte l_En_179 im_Wr_fillByte sl_Wr_fillByte d_En_writeBody_32 (Nat.le_of_ble_eq_true rfl) rfl rfl rfl (Nat.le_of_ble_eq_true rfl) (xr_of at0 (by decide)) (s_Wr_fillByte K hW (by omega) (fun g2 f2 W2 => ?_))
    show xg x (y0 u) 0 0 35 _ _ g2
    have e : B ++ H ++ fbody S n D c ++ List.replicate ((8 - (B ++ H ++ fbody S n D c).length % 8) % 8) false = B ++ pad8 (H ++ fbody S n D c) := by
      unfold pad8
      rw [hl1, show (B.length + (H.length + (fbody S n D c).length)) % 8 = (H ++ fbody S n D c).length % 8 by rw [List.length_append]; omega]
      simp only [List.append_assoc]
    rw [e] at W2
    have hl2 : (B ++ pad8 (H ++ fbody S n D c)).length = B.length + (pad8 (H ++ fbody S n D c)).length := List.length_append
    generalize pad8 (H ++ fbody S n D c) = P at *
    refine ra_aload_n A d_En_writeBody_35 rfl <| ra_getR A f_En_33 d_En_writeBody_36 (Nat.le_of_ble_eq_true rfl) rfl rfl rfl <| ra_bipush A 16 d_En_writeBody_39 (by decide) <| ra_aload_n A d_En_writeBody_41 rfl <| ra_getR A f_En_20 d_En_writeBody_42 (Nat.le_of_ble_eq_true rfl) rfl rfl rfl <| ra_bipush A 16 d_En_writeBody_45 (by decide) <| ra_iload_n A d_En_writeBody_47 rfl <| ra_aload_n A d_En_writeBody_48 rfl <| ra_getR A f_En_20 d_En_writeBody_49 (Nat.le_of_ble_eq_true rfl) rfl rfl rfl <| ra_getI A f_En_58 d_En_writeBody_52 (Nat.le_of_ble_eq_true rfl) rfl rfl <| ?_
    rw [W2.1]
    refine ra_callV (As := [_, _, _]) A ok_By_check l_En_171 im_By_check sl_By_check d_En_writeBody_55 (Nat.le_of_ble_eq_true rfl) rfl rfl rfl (Nat.le_of_ble_eq_true rfl) (xr_of at0 (by decide)) (s_By_check K (a := f) (by omega) (by omega) (W2.len (by omega)) ?_)
    show xg x (y0 u) 0 0 58 _ _ g2
    rw [W2.ckL (by omega) hB (by omega) (Or.inr ⟨rfl, rfl, rfl⟩)]
    have hcl : crL 16 32773 P < 2 ^ 16 := crI_lt (by decide) (by decide) _
    refine ra_i2l A d_En_writeBody_58 <| ?_
    rw [nI_l (by omega)]
    refine ra_callV (As := [_, _]) A ok_Wr_put l_En_111 im_Wr_put sl_Wr_put d_En_writeBody_59 (Nat.le_of_ble_eq_true rfl) rfl rfl rfl (Nat.le_of_ble_eq_true rfl) (xr_of at0 (by decide)) (s_Wr_put K (n := 16) W2 (by omega) (fun g3 f3 W3 => ?_))
    show xg x (y0 u) 0 0 62 _ _ g3
    refine ra_vret A ow d_En_writeBody_62 (hX g3 ((hf.trans (f2.mono (by decide))).trans (f3.mono (by decide))) ?_)
    rw [← List.append_assoc]
    exact W3
  have hlb : (B ++ H).length = B.length + H.length := List.length_append
  have hc' := hc
  rcases hc with rfl | rfl | rfl | rfl | rfl
  · refine ra_aload_n A d_En_writeBody_0 rfl <| ra_iload_n A d_En_writeBody_1 rfl <| ?_
    refine ra_callV (As := [_]) A ok_En_firstOf l_En_147 im_En_firstOf sl_En_firstOf d_En_writeBody_2 (Nat.le_of_ble_eq_true rfl) rfl rfl rfl (Nat.le_of_ble_eq_true rfl) (xr_of at0 (by decide)) (s_En_firstOf K (Or.inl rfl) ?_)
    show xg x (y0 u) 0 0 5 _ _ h
    refine ra_aload_n A d_En_writeBody_5 rfl <| ra_getR A f_En_33 d_En_writeBody_6 (Nat.le_of_ble_eq_true rfl) rfl rfl rfl <| ?_
    have e0 : fbody S n D 0 = sfbits (S 0) n D := List.append_nil _
    rw [e0] at at28 hpl hroom
    refine ra_callV (As := [_]) A ok_Su_write l_En_175 im_Su_write sl_Su_write d_En_writeBody_9 (Nat.le_of_ble_eq_true rfl) rfl rfl rfl (Nat.le_of_ble_eq_true rfl) (xr_of at0 (by decide)) (s_Su_write_124 K (by omega) hn hD0 (by omega) hI.1 hS.1 W (by omega) (fun g1 f1 W1 => ?_))
    show xg x (y0 u) 0 0 12 _ _ g1
    refine ra_iload_n A d_En_writeBody_12 rfl <| ?_
    refine ra_if_eq (q := 28) A d_En_writeBody_13 (by decide) (fun _ => ?_) (fun cc => absurd (rfl) cc)
    exact at28 g1 f1 W1
  · refine ra_aload_n A d_En_writeBody_0 rfl <| ra_iload_n A d_En_writeBody_1 rfl <| ?_
    refine ra_callV (As := [_]) A ok_En_firstOf l_En_147 im_En_firstOf sl_En_firstOf d_En_writeBody_2 (Nat.le_of_ble_eq_true rfl) rfl rfl rfl (Nat.le_of_ble_eq_true rfl) (xr_of at0 (by decide)) (s_En_firstOf K hc' ?_)
    show xg x (y0 u) 0 0 5 _ _ h
    refine ra_aload_n A d_En_writeBody_5 rfl <| ra_getR A f_En_33 d_En_writeBody_6 (Nat.le_of_ble_eq_true rfl) rfl rfl rfl <| ?_
    have e0 : fbody S n D 1 = sfbits (S 0) n D ++ sfbits (S 1) n D := rfl
    rw [e0] at at28 hpl hroom
    have el : (sfbits (S 0) n D ++ sfbits (S 1) n D).length = (sfbits (S 0) n D).length + (sfbits (S 1) n D).length := List.length_append
    refine ra_callV (As := [_]) A ok_Su_write l_En_175 im_Su_write sl_Su_write d_En_writeBody_9 (Nat.le_of_ble_eq_true rfl) rfl rfl rfl (Nat.le_of_ble_eq_true rfl) (xr_of at0 (by decide)) (s_Su_write_124 K (by omega) hn (by omega) (by omega) hI.1 hS.1 W (by omega) (fun g1 f1 W1 => ?_))
    show xg x (y0 u) 0 0 12 _ _ g1
    refine ra_iload_n A d_En_writeBody_12 rfl <| ?_
    refine ra_if_eq (q := 28) A d_En_writeBody_13 (by decide) (fun cc => absurd cc ((by decide))) (fun _ => ?_)
    refine ra_aload_n A d_En_writeBody_16 rfl <| ra_iload_n A d_En_writeBody_17 rfl <| ?_
    refine ra_callV (As := [_]) A ok_En_secondOf l_En_155 im_En_secondOf sl_En_secondOf d_En_writeBody_18 (Nat.le_of_ble_eq_true rfl) rfl rfl rfl (Nat.le_of_ble_eq_true rfl) (xr_of at0 (by decide)) (s_En_secondOf K (hc'.resolve_left (by decide)) ?_)
    show xg x (y0 u) 0 0 21 _ _ g1
    refine ra_aload_n A d_En_writeBody_21 rfl <| ra_getR A f_En_33 d_En_writeBody_22 (Nat.le_of_ble_eq_true rfl) rfl rfl rfl <| ?_
    refine ra_callV (As := [_]) A ok_Su_write l_En_175 im_Su_write sl_Su_write d_En_writeBody_25 (Nat.le_of_ble_eq_true rfl) rfl rfl rfl (Nat.le_of_ble_eq_true rfl) (xr_of at0 (by decide)) (s_Su_write_126 K (by omega) hn (by omega) (by omega) (hI.2 (by decide)).1 ((hS.2 (by decide)).1.fr f1 (by decide) (by decide)) W1 (by rw [List.length_append]; omega) (fun g2 f2 W2 => ?_))
    show xg x (y0 u) 0 0 28 _ _ g2
    refine at28 g2 (f1.trans f2) ?_
    rw [← List.append_assoc]
    exact W2
  · refine ra_aload_n A d_En_writeBody_0 rfl <| ra_iload_n A d_En_writeBody_1 rfl <| ?_
    refine ra_callV (As := [_]) A ok_En_firstOf l_En_147 im_En_firstOf sl_En_firstOf d_En_writeBody_2 (Nat.le_of_ble_eq_true rfl) rfl rfl rfl (Nat.le_of_ble_eq_true rfl) (xr_of at0 (by decide)) (s_En_firstOf K hc' ?_)
    show xg x (y0 u) 0 0 5 _ _ h
    refine ra_aload_n A d_En_writeBody_5 rfl <| ra_getR A f_En_33 d_En_writeBody_6 (Nat.le_of_ble_eq_true rfl) rfl rfl rfl <| ?_
    have e0 : fbody S n D 8 = sfbits (S 0) n D ++ sfbits (S 2) n (D+1) := rfl
    rw [e0] at at28 hpl hroom
    have el : (sfbits (S 0) n D ++ sfbits (S 2) n (D+1)).length = (sfbits (S 0) n D).length + (sfbits (S 2) n (D+1)).length := List.length_append
    refine ra_callV (As := [_]) A ok_Su_write l_En_175 im_Su_write sl_Su_write d_En_writeBody_9 (Nat.le_of_ble_eq_true rfl) rfl rfl rfl (Nat.le_of_ble_eq_true rfl) (xr_of at0 (by decide)) (s_Su_write_124 K (by omega) hn (by omega) (by omega) hI.1 hS.1 W (by omega) (fun g1 f1 W1 => ?_))
    show xg x (y0 u) 0 0 12 _ _ g1
    refine ra_iload_n A d_En_writeBody_12 rfl <| ?_
    refine ra_if_eq (q := 28) A d_En_writeBody_13 (by decide) (fun cc => absurd cc ((by decide))) (fun _ => ?_)
    refine ra_aload_n A d_En_writeBody_16 rfl <| ra_iload_n A d_En_writeBody_17 rfl <| ?_
    refine ra_callV (As := [_]) A ok_En_secondOf l_En_155 im_En_secondOf sl_En_secondOf d_En_writeBody_18 (Nat.le_of_ble_eq_true rfl) rfl rfl rfl (Nat.le_of_ble_eq_true rfl) (xr_of at0 (by decide)) (s_En_secondOf K (hc'.resolve_left (by decide)) ?_)
    show xg x (y0 u) 0 0 21 _ _ g1
    refine ra_aload_n A d_En_writeBody_21 rfl <| ra_getR A f_En_33 d_En_writeBody_22 (Nat.le_of_ble_eq_true rfl) rfl rfl rfl <| ?_
    refine ra_callV (As := [_]) A ok_Su_write l_En_175 im_Su_write sl_Su_write d_En_writeBody_25 (Nat.le_of_ble_eq_true rfl) rfl rfl rfl (Nat.le_of_ble_eq_true rfl) (xr_of at0 (by decide)) (s_Su_write_130 K (by omega) hn (by omega) (by omega) (hI.2 (by decide)).2.2 ((hS.2 (by decide)).2.2.fr f1 (by decide) (by decide)) W1 (by rw [List.length_append]; omega) (fun g2 f2 W2 => ?_))
    show xg x (y0 u) 0 0 28 _ _ g2
    refine at28 g2 (f1.trans f2) ?_
    rw [← List.append_assoc]
    exact W2
  · refine ra_aload_n A d_En_writeBody_0 rfl <| ra_iload_n A d_En_writeBody_1 rfl <| ?_
    refine ra_callV (As := [_]) A ok_En_firstOf l_En_147 im_En_firstOf sl_En_firstOf d_En_writeBody_2 (Nat.le_of_ble_eq_true rfl) rfl rfl rfl (Nat.le_of_ble_eq_true rfl) (xr_of at0 (by decide)) (s_En_firstOf K hc' ?_)
    show xg x (y0 u) 0 0 5 _ _ h
    refine ra_aload_n A d_En_writeBody_5 rfl <| ra_getR A f_En_33 d_En_writeBody_6 (Nat.le_of_ble_eq_true rfl) rfl rfl rfl <| ?_
    have e0 : fbody S n D 9 = sfbits (S 2) n (D+1) ++ sfbits (S 1) n D := rfl
    rw [e0] at at28 hpl hroom
    have el : (sfbits (S 2) n (D+1) ++ sfbits (S 1) n D).length = (sfbits (S 2) n (D+1)).length + (sfbits (S 1) n D).length := List.length_append
    refine ra_callV (As := [_]) A ok_Su_write l_En_175 im_Su_write sl_Su_write d_En_writeBody_9 (Nat.le_of_ble_eq_true rfl) rfl rfl rfl (Nat.le_of_ble_eq_true rfl) (xr_of at0 (by decide)) (s_Su_write_130 K (by omega) hn (by omega) (by omega) (hI.2 (by decide)).2.2 (hS.2 (by decide)).2.2 W (by omega) (fun g1 f1 W1 => ?_))
    show xg x (y0 u) 0 0 12 _ _ g1
    refine ra_iload_n A d_En_writeBody_12 rfl <| ?_
    refine ra_if_eq (q := 28) A d_En_writeBody_13 (by decide) (fun cc => absurd cc ((by decide))) (fun _ => ?_)
    refine ra_aload_n A d_En_writeBody_16 rfl <| ra_iload_n A d_En_writeBody_17 rfl <| ?_
    refine ra_callV (As := [_]) A ok_En_secondOf l_En_155 im_En_secondOf sl_En_secondOf d_En_writeBody_18 (Nat.le_of_ble_eq_true rfl) rfl rfl rfl (Nat.le_of_ble_eq_true rfl) (xr_of at0 (by decide)) (s_En_secondOf K (hc'.resolve_left (by decide)) ?_)
    show xg x (y0 u) 0 0 21 _ _ g1
    refine ra_aload_n A d_En_writeBody_21 rfl <| ra_getR A f_En_33 d_En_writeBody_22 (Nat.le_of_ble_eq_true rfl) rfl rfl rfl <| ?_
    refine ra_callV (As := [_]) A ok_Su_write l_En_175 im_Su_write sl_Su_write d_En_writeBody_25 (Nat.le_of_ble_eq_true rfl) rfl rfl rfl (Nat.le_of_ble_eq_true rfl) (xr_of at0 (by decide)) (s_Su_write_126 K (by omega) hn (by omega) (by omega) (hI.2 (by decide)).1 ((hS.2 (by decide)).1.fr f1 (by decide) (by decide)) W1 (by rw [List.length_append]; omega) (fun g2 f2 W2 => ?_))
    show xg x (y0 u) 0 0 28 _ _ g2
    refine at28 g2 (f1.trans f2) ?_
    rw [← List.append_assoc]
    exact W2
  · refine ra_aload_n A d_En_writeBody_0 rfl <| ra_iload_n A d_En_writeBody_1 rfl <| ?_
    refine ra_callV (As := [_]) A ok_En_firstOf l_En_147 im_En_firstOf sl_En_firstOf d_En_writeBody_2 (Nat.le_of_ble_eq_true rfl) rfl rfl rfl (Nat.le_of_ble_eq_true rfl) (xr_of at0 (by decide)) (s_En_firstOf K hc' ?_)
    show xg x (y0 u) 0 0 5 _ _ h
    refine ra_aload_n A d_En_writeBody_5 rfl <| ra_getR A f_En_33 d_En_writeBody_6 (Nat.le_of_ble_eq_true rfl) rfl rfl rfl <| ?_
    have e0 : fbody S n D 10 = sfbits (S 3) n D ++ sfbits (S 2) n (D+1) := rfl
    rw [e0] at at28 hpl hroom
    have el : (sfbits (S 3) n D ++ sfbits (S 2) n (D+1)).length = (sfbits (S 3) n D).length + (sfbits (S 2) n (D+1)).length := List.length_append
    refine ra_callV (As := [_]) A ok_Su_write l_En_175 im_Su_write sl_Su_write d_En_writeBody_9 (Nat.le_of_ble_eq_true rfl) rfl rfl rfl (Nat.le_of_ble_eq_true rfl) (xr_of at0 (by decide)) (s_Su_write_128 K (by omega) hn (by omega) (by omega) (hI.2 (by decide)).2.1 (hS.2 (by decide)).2.1 W (by omega) (fun g1 f1 W1 => ?_))
    show xg x (y0 u) 0 0 12 _ _ g1
    refine ra_iload_n A d_En_writeBody_12 rfl <| ?_
    refine ra_if_eq (q := 28) A d_En_writeBody_13 (by decide) (fun cc => absurd cc ((by decide))) (fun _ => ?_)
    refine ra_aload_n A d_En_writeBody_16 rfl <| ra_iload_n A d_En_writeBody_17 rfl <| ?_
    refine ra_callV (As := [_]) A ok_En_secondOf l_En_155 im_En_secondOf sl_En_secondOf d_En_writeBody_18 (Nat.le_of_ble_eq_true rfl) rfl rfl rfl (Nat.le_of_ble_eq_true rfl) (xr_of at0 (by decide)) (s_En_secondOf K (hc'.resolve_left (by decide)) ?_)
    show xg x (y0 u) 0 0 21 _ _ g1
    refine ra_aload_n A d_En_writeBody_21 rfl <| ra_getR A f_En_33 d_En_writeBody_22 (Nat.le_of_ble_eq_true rfl) rfl rfl rfl <| ?_
    refine ra_callV (As := [_]) A ok_Su_write l_En_175 im_Su_write sl_Su_write d_En_writeBody_25 (Nat.le_of_ble_eq_true rfl) rfl rfl rfl (Nat.le_of_ble_eq_true rfl) (xr_of at0 (by decide)) (s_Su_write_130 K (by omega) hn (by omega) (by omega) (hI.2 (by decide)).2.2 ((hS.2 (by decide)).2.2.fr f1 (by decide) (by decide)) W1 (by rw [List.length_append]; omega) (fun g2 f2 W2 => ?_))
    show xg x (y0 u) 0 0 28 _ _ g2
    refine at28 g2 (f1.trans f2) ?_
    rw [← List.append_assoc]
    exact W2
end S78
