/-! SoundStreamModel: writeFrame -/
theorem SW.byf {p : Nat} {H : List Bool} {h g : xw_H} (x : SW p H h g) (hr : p + H.length ≤ 75200) {q : Nat} (h1 : p ≤ 8 * q) (h2 : 8 * q + 8 ≤ p + H.length) : ByF (g.1 148 q) (fun j => H.getD (j - p) false) q := by
  obtain ⟨s, hs, es⟩ := x.2.1 q (by omega)
  refine ⟨s, hs, es, fun t ht => ?_⟩
  have e := x.2.2 (8 * q + t) (by omega)
  rw [if_pos ⟨by omega, by omega⟩] at e
  unfold sb at e
  rw [show (8 * q + t) / 8 = q by omega, show (8 * q + t) % 8 = t by omega, es, pk_tn (by omega)] at e
  exact e
theorem SW.ckL {p : Nat} {H : List Bool} {h g : xw_H} {n : Int32} {w c : Nat} (x : SW p H h g) (hp : p % 8 = 0) (hH : H.length % 8 = 0) (hr : p + H.length ≤ 75200) (hw : CW n w c) : g_check g n (p / 8) ((p + H.length) / 8) = nI (crL w c H) := by
  rw [g_check_I hw (fun q h1 h2 => x.byf hr (by omega) (by omega)), show 8 * (p / 8) = p by omega, show 8 * ((p + H.length) / 8 - p / 8) = H.length by omega]
  unfold crL
  congr 1
  refine crI_congr _ (fun j hj => ?_)
  rw [show p + j - p = 0 + j by omega]
theorem lead_bits : ∀ v : Bool, bitsL 16 (lN (65528 + v.toNat)) = bitsL 14 16382 ++ bitsL 1 0 ++ bitsL 1 (if v then 1 else 0) := by decide +kernel
/-- what a frame's notes say of the subframes before j -/
def ntj (S : Nat → Nat → Int32) (n D c j t : Nat) : Int32 := if (t - 3) / 3 < j then (nts S n D (sgo c ((t - 3) / 3))).getD ((t - 3) % 3) 0 else -1
def FR (g h : xw_H) (S : Nat → Nat → Int32) (n D c k j : Nat) : Prop := ∀ i, g.1 149 i = if 9 * k + 3 ≤ i ∧ i < 9 * k + 9 then ntj S n D c j (i - 9 * k) else h.1 149 i
theorem ntj_3 {S : Nat → Nat → Int32} {n D c j t i : Nat} (h : j ≤ 1) (ht : t < 3) (hi : i = 3 + 3 * j + t) : ntj S n D c (j + 1) i = (nts S n D (sgo c j)).getD t 0 := by
  unfold ntj
  rw [if_pos (by omega), show (i - 3) / 3 = j by omega, show (i - 3) % 3 = t by omega]
theorem FR.next {g h g' : xw_H} {S : Nat → Nat → Int32} {n D c k j : Nat} (x : FR g h S n D c k j) (hj : j ≤ 1) (e : g'.1 149 = (xw_I (xw_I (xw_I g 149 (9 * k + 5 + 3 * j) (nI (kb S n D (sgo c j)))) 149 (9 * k + 3 + 3 * j) (nI (sC (S (sgo c j)) n (dW D (sgo c j))).2.1)) 149 (9 * k + 4 + 3 * j) (nI (sW (S (sgo c j)) n))).1 149) : FR g' h S n D c k (j + 1) := by
  intro i
  rw [e]
  by_cases c4 : i = 9 * k + 4 + 3 * j
  · subst c4
    rw [xI_e, if_pos (by omega), ntj_3 hj (t := 1) (by decide) (by omega)]
    rfl
  · rw [xI_j c4]
    by_cases c3 : i = 9 * k + 3 + 3 * j
    · subst c3
      rw [xI_e, if_pos (by omega), ntj_3 hj (t := 0) (by decide) (by omega)]
      rfl
    · rw [xI_j c3]
      by_cases c5 : i = 9 * k + 5 + 3 * j
      · subst c5
        rw [xI_e, if_pos (by omega), ntj_3 hj (t := 2) (by decide) (by omega)]
        rfl
      · rw [xI_j c5, x i]
        by_cases q : 9 * k + 3 ≤ i ∧ i < 9 * k + 9
        · rw [if_pos q, if_pos q]
          unfold ntj
          by_cases z : (i - 9 * k - 3) / 3 < j
          · rw [if_pos z, if_pos (by omega)]
          · rw [if_neg z, if_neg (by omega)]
        · rw [if_neg q, if_neg q]
/-- all of a frame's notes -/
theorem FR.all {g h g' : xw_H} {S : Nat → Nat → Int32} {n D c k C f b : Nat} (x : FR g h S n D c k C) (hC : (C = 1 ∧ c = 0) ∨ (C = 2 ∧ c ≠ 0)) (e : g'.1 149 = (xw_I (xw_I (xw_I g 149 (9 * k) (nI f)) 149 (9 * k + 1) (nI b)) 149 (9 * k + 2) (nI c)).1 149) : (∀ t, t < 9 → g'.1 149 (9 * k + t) = (ntl S n D c f b).getD t 0) ∧ ∀ i, i < 9 * k ∨ 9 * k + 9 ≤ i → g'.1 149 i = h.1 149 i := by
  refine ⟨fun t ht => ?_, fun i hi => ?_⟩
  · have ht9 : t = 0 ∨ t = 1 ∨ t = 2 ∨ t = 3 ∨ t = 4 ∨ t = 5 ∨ t = 6 ∨ t = 7 ∨ t = 8 := by omega
    rw [e]
    rcases ht9 with rfl | rfl | rfl | ht9
    · rw [xI_j (by omega), xI_j (by omega)]; exact xI_e
    · rw [xI_j (by omega), xI_e]; rfl
    · rw [xI_e]; rfl
    · rw [xI_j (by omega), xI_j (by omega), xI_j (by omega), x, if_pos (by omega), show 9 * k + t - 9 * k = t by omega]
      unfold ntj ntl
      rcases hC with ⟨rfl, rfl⟩ | ⟨rfl, hc⟩
      · rw [if_pos rfl]
        rcases ht9 with rfl | rfl | rfl | rfl | rfl | rfl <;> rfl
      · rw [if_neg hc]
        rcases ht9 with rfl | rfl | rfl | rfl | rfl | rfl <;> rfl
  · rw [e, xI_j (by omega), xI_j (by omega), xI_j (by omega), x i, if_neg (by omega)]
/-- the bits of the subframes before j -/
def fbj (S : Nat → Nat → Int32) (n D c : Nat) : Nat → List Bool
  | 0 => []
  | j + 1 => fbj S n D c j ++ sfbits (S (sgo c j)) n (dW D (sgo c j))
theorem fbj_body {S : Nat → Nat → Int32} {n D c C : Nat} (hC : (C = 1 ∧ c = 0) ∨ (C = 2 ∧ c ≠ 0)) : fbj S n D c C = fbody S n D c := by
  unfold fbody
  rcases hC with ⟨rfl, rfl⟩ | ⟨rfl, hc⟩
  · rw [if_pos rfl, List.append_nil]; rfl
  · rw [if_neg hc]; rfl
theorem fbj_mono {S : Nat → Nat → Int32} {n D c j j' : Nat} (h : j ≤ j') : (fbj S n D c j).length ≤ (fbj S n D c j').length := by
  obtain ⟨d, rfl⟩ : ∃ d, j' = j + d := ⟨j' - j, by omega⟩
  clear h
  induction d with
  | zero => exact Nat.le_refl _
  | succ d ih => rw [← Nat.add_assoc, fbj, List.length_append]; omega
def MFL : List Nat := [148, 149, 150, 151]
section S88
variable {u : xu_T} {l : Launch} {KK : State → Prop} {h : xw_H} {X : xc_R → xw_H → Nat → Nat → Prop}
theorem s_Mo_writeFrame (K : xk_ok u KK) {s0 s1 : Nat → Int32} {a n C D c k p num : Nat} {v : Bool} (R : RM h s0 s1) (hn1 : 1 ≤ n) (hn : n ≤ 1024) (han : a + n ≤ 1200) (hC1 : 1 ≤ C) (hC2 : C ≤ 2) (hD0 : 1 ≤ D) (hD : D ≤ 24) (hk : k < 75) (eC : h.1 141 3 = nI C) (eD : h.1 141 4 = nI D) (ek : h.1 141 15 = nI k) (hR : SR h) (hp : h.2 141 13 = lN p) (hp8 : p % 8 = 0)
    (ec : c = fc C (sg s0 s1 a) n D) (enum : num = if v then a else k) (hI : ∀ c, (c = 0 ∨ (C ≠ 1 ∧ isC c)) → IB (sg s0 s1 a) n D c) (hroom : p + (fbits (sg s0 s1 a) n D c num v).length ≤ 75200)
    (hX : ∀ h', fm MFL [15, 18, 19, 20] true h h' → SW p (fbits (sg s0 s1 a) n D c num v) h h' → h'.1 141 15 = nI (k + 1) → (∀ t, t < 9 → h'.1 149 (9 * k + t) = (ntl (sg s0 s1 a) n D c (p / 8) ((fbits (sg s0 s1 a) n D c num v).length / 8)).getD t 0) → (∀ i, i < 9 * k ∨ 9 * k + 9 ≤ i → h'.1 149 i = h.1 149 i) → X (.inl none) h' 0 0) : xm_M l (y0 u) KK m_Mo_writeFrame [.ref 141, .int (nI a), .int (nI n), .int (bz v)] h X := by
  refine xm_of [none, none, none, none, none] (by simp) (Nat.le_of_ble_eq_true rfl) (by decide) (fun x at0 => ?_)
  have A := xa_of at0 K
  have ow := at0.2.2.2.2.1
  have hcC : (C = 1 ∧ c = 0) ∨ (C = 2 ∧ isC c) := by
    unfold fc at ec
    by_cases q : C = 1
    · rw [if_pos q] at ec; exact Or.inl ⟨q, ec⟩
    · rw [if_neg q] at ec; exact Or.inr ⟨by omega, by rw [ec]; exact bC_C⟩
  have hc : c = 0 ∨ isC c := hcC.imp (fun q => q.2) (fun q => q.2)
  have hcC' : (C = 1 ∧ c = 0) ∨ (C = 2 ∧ c ≠ 0) := by
    rcases hcC with q | ⟨q1, q2⟩
    · exact Or.inl q
    · exact Or.inr ⟨q1, by rcases q2 with e | e | e | e <;> omega⟩
  have hc16 : c < 16 := by
    rcases hc with e | e | e | e | e <;> omega
  have hnum : num < 2048 := by rw [enum]; split <;> omega
  have hIc : IB (sg s0 s1 a) n D c := hI c (by
    rcases hcC with ⟨q1, q2⟩ | ⟨q1, q2⟩
    · exact Or.inl q2
    · exact Or.inr ⟨by omega, q2⟩)
  have hfl := hroom
  unfold fbits at hfl
  rw [List.length_append, bitsL_len] at hfl
  have hhl := fheadc_len (n := n) (c := c) (num := num) (v := v)
  have hhh := fhead_len (n := n) (c := c) (num := num) (v := v)
  have hnl := numB_len num
  have hnl2 : (numB num).length ≤ 2 := by rw [hnl]; split <;> omega
  have hpl := pad8_len (fheadc n c num v ++ fbody (sg s0 s1 a) n D c)
  rw [List.length_append] at hpl
  refine ra_aload_n A d_Mo_writeFrame_0 rfl <| ra_iload_n A d_Mo_writeFrame_1 rfl <| ra_iload_n A d_Mo_writeFrame_2 rfl <| ?_
  refine ra_callV (As := [_, _]) A ok_Mo_bestC l_Mo_328 im_Mo_bestC sl_Mo_bestC d_Mo_writeFrame_3 (Nat.le_of_ble_eq_true rfl) rfl rfl rfl (Nat.le_of_ble_eq_true rfl) (xr_of at0 (by decide)) (s_Mo_bestC K R hn1 hn han hC1 hC2 hD0 hD eC eD (fun q c' hc' => hI c' (Or.inr ⟨q, hc'⟩)) (fun g0 f0 => ?_))
  show xg x (y0 u) 0 0 6 _ _ g0
  rw [← ec]
  have F0 : fm MFL [18, 19, 20] true h g0 := f0.mono (by decide) (by decide) (fun q => by cases q)
  have S0 : SW p [] h g0 := (SW.nil hp hR).fm (f0.2.2 rfl) (fmk f0 (by decide) (by decide))
  have G : ∀ g, fm MFL [18, 19, 20] true h g → g.1 141 3 = nI C ∧ g.1 141 4 = nI D ∧ g.1 141 15 = nI k ∧ RM g s0 s1 := fun g f => ⟨by rw [f.2.1 3 (by decide)]; exact eC, by rw [f.2.1 4 (by decide)]; exact eD, by rw [f.2.1 15 (by decide)]; exact ek, fun i hi => by rw [fmk f (by decide) (by decide)]; exact R i hi⟩
  have mp : ∀ {g g' : xw_H}, fm [148] [] true g g' → fm MFL [18, 19, 20] true g g' := fun f => f.mono (by decide) (by decide) (fun q => q)
  refine ra_istore (L' := [_, _, _, _, _, _, _, _, _]) A d_Mo_writeFrame_6 (by decide) rfl <| ra_aload_n A d_Mo_writeFrame_8 rfl <| ra_getJ A f_Mo_244 d_Mo_writeFrame_9 (Nat.le_of_ble_eq_true rfl) rfl rfl <| ?_
  rw [S0.1, show p + ([] : List Bool).length = p from rfl]
  refine ra_ldc2 A k_Mo_222 d_Mo_writeFrame_12 <| ra_ldiv A d_Mo_writeFrame_15 (by decide) <| ?_
  rw [show lN p / 8 = lN (p / 8) from pk_lDiv (b := 8) (by omega) (by decide) (by decide)]
  refine ra_l2i A d_Mo_writeFrame_16 <| ?_
  rw [lN_i]
  refine ra_istore (L' := [_, _, _, _, _, _, _, _, _]) A d_Mo_writeFrame_17 (by decide) rfl <| ra_bipush A 9 d_Mo_writeFrame_19 (by decide) <| ra_aload_n A d_Mo_writeFrame_21 rfl <| ra_getI A f_Mo_331 d_Mo_writeFrame_22 (Nat.le_of_ble_eq_true rfl) rfl rfl <| ?_
  rw [(G g0 F0).2.2.1]
  refine ra_imul A d_Mo_writeFrame_25 <| ?_
  rw [show (9 : Int32) * nI k = nI (9 * k) from pk_mul 9 k]
  refine ra_istore (L' := [_, _, _, _, _, _, _, _, _]) A d_Mo_writeFrame_26 (by decide) rfl <| ra_aload_n A d_Mo_writeFrame_28 rfl <| ra_ldc2 A k_Mo_334 d_Mo_writeFrame_29 <| ra_iload_n A d_Mo_writeFrame_32 rfl <| ?_
  have at41 : xg x (y0 u) 0 0 41 [some (.ref 141), some (.int (nI a)), some (.int (nI n)), some (.int (bz v)), some (.int (nI c)), some (.int (nI (p / 8))), some (.int (nI (9 * k))), none, none] [.long (lN v.toNat), .long 65528, .ref 141] g0 := by
    refine ra_lor A d_Mo_writeFrame_41 <| ra_bipush A 16 d_Mo_writeFrame_42 (by decide) <| ?_
    rw [show (65528 : Int64) ||| lN v.toNat = lN (65528 + v.toNat) by cases v <;> decide]
    refine ra_callV (As := [_, _]) A ok_Mo_put l_Mo_306 im_Mo_put sl_Mo_put d_Mo_writeFrame_44 (Nat.le_of_ble_eq_true rfl) rfl rfl rfl (Nat.le_of_ble_eq_true rfl) (xr_of at0 (by decide)) (s_Mo_put K (n := 16) S0.sr S0.1 (by rw [List.length_nil]; omega) (fun g1 f1 W1 => ?_))
    show xg x (y0 u) 0 0 47 _ _ g1
    have F1 := F0.trans (mp f1)
    have W1 := S0.trans W1
    rw [List.nil_append, lead_bits] at W1
    refine ra_aload_n A d_Mo_writeFrame_47 rfl <| ra_iload_n A d_Mo_writeFrame_48 rfl <| ra_sipush A 256 d_Mo_writeFrame_49 (by decide) <| ?_
    have at64 : xg x (y0 u) 0 0 64 [some (.ref 141), some (.int (nI a)), some (.int (nI n)), some (.int (bz v)), some (.int (nI c)), some (.int (nI (p / 8))), some (.int (nI (9 * k))), none, none] [.long (if n ≤ 256 then 6 else 7), .ref 141] g1 := by
      refine ra_iconst A 4 d_Mo_writeFrame_64 (by decide) <| ?_
      refine ra_callV (As := [_, _]) A ok_Mo_put l_Mo_306 im_Mo_put sl_Mo_put d_Mo_writeFrame_65 (Nat.le_of_ble_eq_true rfl) rfl rfl rfl (Nat.le_of_ble_eq_true rfl) (xr_of at0 (by decide)) (s_Mo_put K (n := 4) W1.sr W1.1 (by simp only [List.length_append, bitsL_len]; omega) (fun g2 f2 W2 => ?_))
      show xg x (y0 u) 0 0 68 _ _ g2
      have F2 := F1.trans (mp f2)
      have W2 := W1.trans W2
      refine ra_aload_n A d_Mo_writeFrame_68 rfl <| ra_lconst A 0 d_Mo_writeFrame_69 (by decide) <| ra_iconst A 4 d_Mo_writeFrame_70 (by decide) <| ?_
      refine ra_callV (As := [_, _]) A ok_Mo_put l_Mo_306 im_Mo_put sl_Mo_put d_Mo_writeFrame_71 (Nat.le_of_ble_eq_true rfl) rfl rfl rfl (Nat.le_of_ble_eq_true rfl) (xr_of at0 (by decide)) (s_Mo_put K (n := 4) W2.sr W2.1 (by simp only [List.length_append, bitsL_len]; omega) (fun g3 f3 W3 => ?_))
      show xg x (y0 u) 0 0 74 _ _ g3
      have F3 := F2.trans (mp f3)
      have W3 := W2.trans W3
      refine ra_aload_n A d_Mo_writeFrame_74 rfl <| ra_iload A d_Mo_writeFrame_75 rfl <| ra_i2l A d_Mo_writeFrame_77 <| ?_
      rw [nI_l (by omega)]
      refine ra_iconst A 4 d_Mo_writeFrame_78 (by decide) <| ?_
      refine ra_callV (As := [_, _]) A ok_Mo_put l_Mo_306 im_Mo_put sl_Mo_put d_Mo_writeFrame_79 (Nat.le_of_ble_eq_true rfl) rfl rfl rfl (Nat.le_of_ble_eq_true rfl) (xr_of at0 (by decide)) (s_Mo_put K (n := 4) W3.sr W3.1 (by simp only [List.length_append, bitsL_len]; omega) (fun g4 f4 W4 => ?_))
      show xg x (y0 u) 0 0 82 _ _ g4
      have F4 := F3.trans (mp f4)
      have W4 := W3.trans W4
      refine ra_aload_n A d_Mo_writeFrame_82 rfl <| ra_lconst A 0 d_Mo_writeFrame_83 (by decide) <| ra_iconst A 4 d_Mo_writeFrame_84 (by decide) <| ?_
      refine ra_callV (As := [_, _]) A ok_Mo_put l_Mo_306 im_Mo_put sl_Mo_put d_Mo_writeFrame_85 (Nat.le_of_ble_eq_true rfl) rfl rfl rfl (Nat.le_of_ble_eq_true rfl) (xr_of at0 (by decide)) (s_Mo_put K (n := 4) W4.sr W4.1 (by simp only [List.length_append, bitsL_len]; omega) (fun g5 f5 W5 => ?_))
      show xg x (y0 u) 0 0 88 _ _ g5
      have F5 := F4.trans (mp f5)
      have W5 := W4.trans W5
      have hPl : (bitsL 14 16382 ++ bitsL 1 0 ++ bitsL 1 (if v then 1 else 0) ++ bitsL 4 (if n ≤ 256 then 6 else 7) ++ bitsL 4 0 ++ bitsL 4 (lN c) ++ bitsL 4 0).length = 32 := by
        simp only [List.length_append, bitsL_len]
      have hH : fhead n c num v = bitsL 14 16382 ++ bitsL 1 0 ++ bitsL 1 (if v then 1 else 0) ++ bitsL 4 (if n ≤ 256 then 6 else 7) ++ bitsL 4 0 ++ bitsL 4 (lN c) ++ bitsL 4 0 ++ numbits (numB num) ++ bitsL (if n ≤ 256 then 8 else 16) (lN (n - 1)) := rfl
      generalize bitsL 14 16382 ++ bitsL 1 0 ++ bitsL 1 (if v then 1 else 0) ++ bitsL 4 (if n ≤ 256 then 6 else 7) ++ bitsL 4 0 ++ bitsL 4 (lN c) ++ bitsL 4 0 = P at W5 hPl hH
      have at100 : xg x (y0 u) 0 0 100 [some (.ref 141), some (.int (nI a)), some (.int (nI n)), some (.int (bz v)), some (.int (nI c)), some (.int (nI (p / 8))), some (.int (nI (9 * k))), none, none] [.int (nI num)] g5 := by
        refine ra_istore (L' := [_, _, _, _, _, _, _, _, _]) A d_Mo_writeFrame_100 (by decide) rfl <| ra_iconst A 0 d_Mo_writeFrame_102 (by decide) <| ra_istore (L' := [_, _, _, _, _, _, _, _, _]) A d_Mo_writeFrame_103 (by decide) rfl <| ?_
        refine lp_up (σ := xw_H) (W := fun j g => xg x (y0 u) 0 0 105 [some (.ref 141), some (.int (nI a)), some (.int (nI n)), some (.int (bz v)), some (.int (nI c)), some (.int (nI (p / 8))), some (.int (nI (9 * k))), some (.int (nI num)), some (.int (nI j))] [] g) (I := fun j g => fm MFL [18, 19, 20] true h g ∧ fm [148] [] true g0 g ∧ SW p (P ++ numbits ((numB num).take j)) h g) (numB num).length ?_ ?_ 0 g5 (Nat.zero_le _) ⟨F5, (((f1.trans f2).trans f3).trans f4).trans f5, by simpa [numbits] using W5⟩
        · rintro g ⟨hf, hf0, hW⟩
          rw [List.take_length] at hW
          refine ra_iload A d_Mo_writeFrame_105 rfl <| ra_iload A d_Mo_writeFrame_107 rfl <| ?_
          refine ra_callS (As := [_, _]) A ok_Mo_numberByte l_Mo_338 st_Mo_numberByte d_Mo_writeFrame_109 rfl (Nat.le_of_ble_eq_true rfl) (xr_of at0 (by decide)) (s_Mo_numberByte K hnum (Nat.le_refl _) (fun q => absurd q (Nat.lt_irrefl _)) (fun _ => ?_))
          show xg x (y0 u) 0 0 112 _ _ g
          refine ra_if_lt (q := 135) A d_Mo_writeFrame_112 (by decide) (fun _ => ?_) (fun cc => absurd ((by decide)) cc)
          refine ra_aload_n A d_Mo_writeFrame_135 rfl <| ra_iload_n A d_Mo_writeFrame_136 rfl <| ra_i2l A d_Mo_writeFrame_137 <| ?_
          rw [nI_l (by omega)]
          refine ra_lconst A 1 d_Mo_writeFrame_138 (by decide) <| ra_lsub A d_Mo_writeFrame_139 <| ?_
          rw [show lN n - 1 = lN (n - 1) from lN_sub (b := 1) hn1]
          refine ra_iload_n A d_Mo_writeFrame_140 rfl <| ra_sipush A 256 d_Mo_writeFrame_141 (by decide) <| ?_
          have at154 : ∀ m : Nat, m = (if n ≤ 256 then 8 else 16) → xg x (y0 u) 0 0 154 [some (.ref 141), some (.int (nI a)), some (.int (nI n)), some (.int (bz v)), some (.int (nI c)), some (.int (nI (p / 8))), some (.int (nI (9 * k))), some (.int (nI num)), some (.int (nI (numB num).length))] [.int (nI m), .long (lN (n - 1)), .ref 141] g := by
            intro m hm
            rw [← hm] at hH hhh hhl
            have hm16 : m ≤ 16 := by rw [hm]; split <;> omega
            have hm8 : m % 8 = 0 := by rw [hm]; split <;> omega
            refine ra_callV (As := [_, _]) A ok_Mo_put l_Mo_306 im_Mo_put sl_Mo_put d_Mo_writeFrame_154 (Nat.le_of_ble_eq_true rfl) rfl rfl rfl (Nat.le_of_ble_eq_true rfl) (xr_of at0 (by decide)) (s_Mo_put K (n := m) hW.sr hW.1 (by rw [List.length_append, hPl, numbits_len]; omega) (fun g9 f9 W9 => ?_))
            show xg x (y0 u) 0 0 157 _ _ g9
            have F9 := hf.trans (mp f9)
            have W9 := hW.trans W9
            rw [← hH] at W9
            have h89 : (fhead n c num v).length % 8 = 0 := fhead_8
            refine ra_aload_n A d_Mo_writeFrame_157 rfl <| ra_aload_n A d_Mo_writeFrame_158 rfl <| ra_bipush A 8 d_Mo_writeFrame_159 (by decide) <| ra_iload A d_Mo_writeFrame_161 rfl <| ra_aload_n A d_Mo_writeFrame_163 rfl <| ra_getJ A f_Mo_244 d_Mo_writeFrame_164 (Nat.le_of_ble_eq_true rfl) rfl rfl <| ?_
            rw [W9.1]
            refine ra_ldc2 A k_Mo_222 d_Mo_writeFrame_167 <| ra_ldiv A d_Mo_writeFrame_170 (by decide) <| ?_
            rw [show lN (p + (fhead n c num v).length) / 8 = lN ((p + (fhead n c num v).length) / 8) from pk_lDiv (b := 8) (by omega) (by decide) (by decide)]
            refine ra_l2i A d_Mo_writeFrame_171 <| ?_
            rw [lN_i]
            refine ra_callV (As := [_, _, _]) A ok_Mo_check l_Mo_341 im_Mo_check sl_Mo_check d_Mo_writeFrame_172 (Nat.le_of_ble_eq_true rfl) rfl rfl rfl (Nat.le_of_ble_eq_true rfl) (xr_of at0 (by decide)) (s_Mo_check K (a := p / 8) (by omega) (by omega) ?_)
            show xg x (y0 u) 0 0 175 _ _ g9
            rw [W9.ckL hp8 h89 (by omega) (Or.inl ⟨rfl, rfl, rfl⟩)]
            have hcl : crL 8 7 (fhead n c num v) < 2 ^ 8 := crI_lt (by decide) (by decide) _
            refine ra_i2l A d_Mo_writeFrame_175 <| ?_
            rw [nI_l (by omega)]
            refine ra_bipush A 8 d_Mo_writeFrame_176 (by decide) <| ?_
            refine ra_callV (As := [_, _]) A ok_Mo_put l_Mo_306 im_Mo_put sl_Mo_put d_Mo_writeFrame_178 (Nat.le_of_ble_eq_true rfl) rfl rfl rfl (Nat.le_of_ble_eq_true rfl) (xr_of at0 (by decide)) (s_Mo_put K (n := 8) W9.sr W9.1 (by omega) (fun g10 f10 W10 => ?_))
            show xg x (y0 u) 0 0 181 _ _ g10
            have F10 := F9.trans (mp f10)
            have W10 := W9.trans W10
            rw [show fhead n c num v ++ bitsL 8 (lN (crL 8 7 (fhead n c num v))) = fheadc n c num v from rfl] at W10
            have e149 : g10.1 149 = h.1 149 := (fmk f10 (by decide) (by decide)).trans ((fmk f9 (by decide) (by decide)).trans ((fmk hf0 (by decide) (by decide)).trans (fmk f0 (by decide) (by decide))))
            have hc8 := fheadc_8 (n := n) (c := c) (num := num) (v := v)
            clear W9 W5 W4 W3 W2 W1 hW F9 hf hf0 f9 f10 f5 f4 f3 f2 f1 F5 F4 F3 F2 F1
            -- no notes yet
            refine ra_iconst A 0 d_Mo_writeFrame_181 (by decide) <| ra_istore (L' := [_, _, _, _, _, _, _, _, _]) A d_Mo_writeFrame_182 (by decide) rfl <| ?_
            refine lp_up (σ := xw_H) (W := fun j g => xg x (y0 u) 0 0 184 [some (.ref 141), some (.int (nI a)), some (.int (nI n)), some (.int (bz v)), some (.int (nI c)), some (.int (nI (p / 8))), some (.int (nI (9 * k))), some (.int (nI num)), some (.int (nI j))] [] g) (I := fun j g => fm MFL [18, 19, 20] true h g ∧ SW p (fheadc n c num v) h g ∧ ∀ i, g.1 149 i = if 9 * k + 3 ≤ i ∧ i < 9 * k + 3 + j then -1 else h.1 149 i) 6 ?_ ?_ 0 g10 (Nat.zero_le _) ⟨F10, W10, fun i => by rw [if_neg (by omega), e149]⟩
            · rintro g' ⟨hf', hW', hN'⟩
              refine ra_iload A d_Mo_writeFrame_184 rfl <| ra_bipush A 6 d_Mo_writeFrame_186 (by decide) <| ?_
              refine ra_icmp_ge (q := 210) A d_Mo_writeFrame_188 (by decide) (fun _ => ?_) (fun cc => absurd (Int32.le_refl _) cc)
              refine ra_iconst A 0 d_Mo_writeFrame_210 (by decide) <| ra_istore (L' := [_, _, _, _, _, _, _, _, _]) A d_Mo_writeFrame_211 (by decide) rfl <| ?_
              have N0 : FR g' h (sg s0 s1 a) n D c k 0 := by
                intro i
                rw [hN' i]
                by_cases q : 9 * k + 3 ≤ i ∧ i < 9 * k + 3 + 6
                · rw [if_pos q, if_pos (by omega)]
                  unfold ntj
                  rw [if_neg (by omega)]
                · rw [if_neg q, if_neg (by omega)]
              have hbl : (fbj (sg s0 s1 a) n D c C).length = (fbody (sg s0 s1 a) n D c).length := by rw [fbj_body hcC']
              refine lp_up (σ := xw_H) (W := fun j g => xg x (y0 u) 0 0 213 [some (.ref 141), some (.int (nI a)), some (.int (nI n)), some (.int (bz v)), some (.int (nI c)), some (.int (nI (p / 8))), some (.int (nI (9 * k))), some (.int (nI num)), some (.int (nI j))] [] g) (I := fun j g => fm MFL [18, 19, 20] true h g ∧ SW p (fheadc n c num v ++ fbj (sg s0 s1 a) n D c j) h g ∧ FR g h (sg s0 s1 a) n D c k j) C ?_ ?_ 0 g' (Nat.zero_le _) ⟨hf', by simpa [fbj] using hW', N0⟩
              · rintro g2 ⟨hf2, hW2, hN2⟩
                rw [fbj_body hcC'] at hW2
                refine ra_iload A d_Mo_writeFrame_213 rfl <| ra_aload_n A d_Mo_writeFrame_215 rfl <| ra_getI A f_Mo_145 d_Mo_writeFrame_216 (Nat.le_of_ble_eq_true rfl) rfl rfl <| ?_
                rw [(G g2 hf2).1]
                refine ra_icmp_ge (q := 318) A d_Mo_writeFrame_219 (by decide) (fun _ => ?_) (fun cc => absurd (Int32.le_refl _) cc)
                -- the rest of the last byte
                have hBl : (fheadc n c num v ++ fbody (sg s0 s1 a) n D c).length = (fheadc n c num v).length + (fbody (sg s0 s1 a) n D c).length := List.length_append
                have zl : ∀ z (g' : xw_H), (fm MFL [18, 19, 20] true h g' ∧ FR g' h (sg s0 s1 a) n D c k C ∧ ∃ y, y + z = (8 - (fheadc n c num v ++ fbody (sg s0 s1 a) n D c).length % 8) % 8 ∧ SW p (fheadc n c num v ++ fbody (sg s0 s1 a) n D c ++ List.replicate y false) h g') → xg x (y0 u) 0 0 318 [some (.ref 141), some (.int (nI a)), some (.int (nI n)), some (.int (bz v)), some (.int (nI c)), some (.int (nI (p / 8))), some (.int (nI (9 * k))), some (.int (nI num)), some (.int (nI C))] [] g' := by
                  intro z
                  induction z with
                  | zero =>
                    rintro g3 ⟨hf3, hN3, y, hy, hW3⟩
                    obtain rfl : y = (8 - (fheadc n c num v ++ fbody (sg s0 s1 a) n D c).length % 8) % 8 := by omega
                    rw [show fheadc n c num v ++ fbody (sg s0 s1 a) n D c ++ List.replicate ((8 - (fheadc n c num v ++ fbody (sg s0 s1 a) n D c).length % 8) % 8) false = pad8 (fheadc n c num v ++ fbody (sg s0 s1 a) n D c) from rfl] at hW3
                    have hfb : fbits (sg s0 s1 a) n D c num v = pad8 (fheadc n c num v ++ fbody (sg s0 s1 a) n D c) ++ bitsL 16 (lN (crL 16 32773 (pad8 (fheadc n c num v ++ fbody (sg s0 s1 a) n D c)))) := rfl
                    generalize pad8 (fheadc n c num v ++ fbody (sg s0 s1 a) n D c) = Q at *
                    have hQ8 : Q.length % 8 = 0 := by omega
                    refine ra_aload_n A d_Mo_writeFrame_318 rfl <| ra_getJ A f_Mo_244 d_Mo_writeFrame_319 (Nat.le_of_ble_eq_true rfl) rfl rfl <| ?_
                    rw [hW3.1]
                    refine ra_ldc2 A k_Mo_222 d_Mo_writeFrame_322 <| ra_lrem A d_Mo_writeFrame_325 (by decide) <| ?_
                    rw [show lN (p + Q.length) - lN (p + Q.length) / 8 * 8 = lN ((p + Q.length) % 8) from pk_lRem (b := 8) (by omega) (by decide) (by decide), show (p + Q.length) % 8 = 0 by omega]
                    refine ra_lconst A 0 d_Mo_writeFrame_326 (by decide) <| ra_lcmp A d_Mo_writeFrame_327 <| ?_
                    refine ra_if_eq (q := 340) A d_Mo_writeFrame_328 (by decide) (fun _ => ?_) (fun cc => absurd (lc_eq.mpr rfl) cc)
                    refine ra_aload_n A d_Mo_writeFrame_340 rfl <| ra_aload_n A d_Mo_writeFrame_341 rfl <| ra_bipush A 16 d_Mo_writeFrame_342 (by decide) <| ra_iload A d_Mo_writeFrame_344 rfl <| ra_aload_n A d_Mo_writeFrame_346 rfl <| ra_getJ A f_Mo_244 d_Mo_writeFrame_347 (Nat.le_of_ble_eq_true rfl) rfl rfl <| ?_
                    rw [hW3.1]
                    refine ra_ldc2 A k_Mo_222 d_Mo_writeFrame_350 <| ra_ldiv A d_Mo_writeFrame_353 (by decide) <| ?_
                    rw [show lN (p + Q.length) / 8 = lN ((p + Q.length) / 8) from pk_lDiv (b := 8) (by omega) (by decide) (by decide)]
                    refine ra_l2i A d_Mo_writeFrame_354 <| ?_
                    rw [lN_i]
                    refine ra_callV (As := [_, _, _]) A ok_Mo_check l_Mo_341 im_Mo_check sl_Mo_check d_Mo_writeFrame_355 (Nat.le_of_ble_eq_true rfl) rfl rfl rfl (Nat.le_of_ble_eq_true rfl) (xr_of at0 (by decide)) (s_Mo_check K (a := p / 8) (by omega) (by omega) ?_)
                    show xg x (y0 u) 0 0 358 _ _ g3
                    rw [hW3.ckL hp8 hQ8 (by omega) (Or.inr ⟨rfl, rfl, rfl⟩)]
                    have hcl : crL 16 32773 Q < 2 ^ 16 := crI_lt (by decide) (by decide) _
                    refine ra_i2l A d_Mo_writeFrame_358 <| ?_
                    rw [nI_l (by omega)]
                    refine ra_bipush A 16 d_Mo_writeFrame_359 (by decide) <| ?_
                    refine ra_callV (As := [_, _]) A ok_Mo_put l_Mo_306 im_Mo_put sl_Mo_put d_Mo_writeFrame_361 (Nat.le_of_ble_eq_true rfl) rfl rfl rfl (Nat.le_of_ble_eq_true rfl) (xr_of at0 (by decide)) (s_Mo_put K (n := 16) hW3.sr hW3.1 (by omega) (fun g4 f4 W4 => ?_))
                    show xg x (y0 u) 0 0 364 _ _ g4
                    have F4 := hf3.trans (mp f4)
                    have W4 := hW3.trans W4
                    rw [← hfb] at W4
                    have hfl' : (fbits (sg s0 s1 a) n D c num v).length = Q.length + 16 := by rw [hfb, List.length_append, bitsL_len]
                    have N4 : FR g4 h (sg s0 s1 a) n D c k C := fun i => by rw [fmk f4 (by decide) (by decide)]; exact hN3 i
                    refine ra_aload_n A d_Mo_writeFrame_364 rfl <| ra_getR A f_Mo_173 d_Mo_writeFrame_365 (Nat.le_of_ble_eq_true rfl) rfl rfl rfl <| ra_iload A d_Mo_writeFrame_368 rfl <| ra_iload A d_Mo_writeFrame_370 rfl <| ?_
                    refine ra_iastore A d_Mo_writeFrame_372 (Nat.le_of_ble_eq_true rfl) rfl (vp_in_nI (by omega) (by decide)) ?_
                    rw [nI_clamp (by omega)]
                    refine ra_aload_n A d_Mo_writeFrame_373 rfl <| ra_getR A f_Mo_173 d_Mo_writeFrame_374 (Nat.le_of_ble_eq_true rfl) rfl rfl rfl <| ra_iload A d_Mo_writeFrame_377 rfl <| ra_iconst A 1 d_Mo_writeFrame_379 (by decide) <| ra_iadd A d_Mo_writeFrame_380 <| ?_
                    rw [nI_1]
                    refine ra_aload_n A d_Mo_writeFrame_381 rfl <| ra_getJ A f_Mo_244 d_Mo_writeFrame_382 (Nat.le_of_ble_eq_true rfl) rfl rfl <| ?_
                    rw [show (xw_I g4 149 (9 * k) (nI (p / 8))).2 141 13 = lN (p + (fbits (sg s0 s1 a) n D c num v).length) from W4.1]
                    refine ra_ldc2 A k_Mo_222 d_Mo_writeFrame_385 <| ra_ldiv A d_Mo_writeFrame_388 (by decide) <| ?_
                    rw [show lN (p + (fbits (sg s0 s1 a) n D c num v).length) / 8 = lN ((p + (fbits (sg s0 s1 a) n D c num v).length) / 8) from pk_lDiv (b := 8) (by omega) (by decide) (by decide)]
                    refine ra_l2i A d_Mo_writeFrame_389 <| ?_
                    rw [lN_i]
                    refine ra_iload A d_Mo_writeFrame_390 rfl <| ra_isub A d_Mo_writeFrame_392 <| ?_
                    rw [pk_sub (by omega), show (p + (fbits (sg s0 s1 a) n D c num v).length) / 8 - p / 8 = (fbits (sg s0 s1 a) n D c num v).length / 8 by omega]
                    refine ra_iastore A d_Mo_writeFrame_393 (Nat.le_of_ble_eq_true rfl) rfl (vp_in_nI (by omega) (by decide)) ?_
                    rw [nI_clamp (by omega)]
                    refine ra_aload_n A d_Mo_writeFrame_394 rfl <| ra_getR A f_Mo_173 d_Mo_writeFrame_395 (Nat.le_of_ble_eq_true rfl) rfl rfl rfl <| ra_iload A d_Mo_writeFrame_398 rfl <| ra_iconst A 2 d_Mo_writeFrame_400 (by decide) <| ra_iadd A d_Mo_writeFrame_401 <| ra_iload A d_Mo_writeFrame_402 rfl <| ?_
                    rw [show nI (9 * k) + 2 = nI (9 * k + 2) from nI_add (9 * k) 2]
                    refine ra_iastore A d_Mo_writeFrame_404 (Nat.le_of_ble_eq_true rfl) rfl (vp_in_nI (by omega) (by decide)) ?_
                    rw [nI_clamp (by omega)]
                    refine ra_aload_n A d_Mo_writeFrame_405 rfl <| ra_dup A d_Mo_writeFrame_406 rfl <| ra_getI A f_Mo_331 d_Mo_writeFrame_407 (Nat.le_of_ble_eq_true rfl) rfl rfl <| ?_
                    rw [show (xw_I (xw_I (xw_I g4 149 (9 * k) (nI (p / 8))) 149 (9 * k + 1) (nI ((fbits (sg s0 s1 a) n D c num v).length / 8))) 149 (9 * k + 2) (nI c)).1 141 15 = nI k by rw [xI_k (by decide), xI_k (by decide), xI_k (by decide)]; exact (G g4 F4).2.2.1]
                    refine ra_iconst A 1 d_Mo_writeFrame_410 (by decide) <| ra_iadd A d_Mo_writeFrame_411 <| ?_
                    rw [nI_1]
                    refine ra_putI (ty := .int) A f_Mo_331 rfl rfl (by decide +kernel) rfl rfl d_Mo_writeFrame_412 (Nat.le_of_ble_eq_true rfl) rfl rfl <| ?_
                    have NA := N4.all (f := p / 8) (b := (fbits (sg s0 s1 a) n D c num v).length / 8) (g' := xw_I (xw_I (xw_I (xw_I g4 149 (9 * k) (nI (p / 8))) 149 (9 * k + 1) (nI ((fbits (sg s0 s1 a) n D c num v).length / 8))) 149 (9 * k + 2) (nI c)) 141 15 (nI (k + 1))) hcC' (xI_k (by decide))
                    refine ra_vret A ow d_Mo_writeFrame_415 (hX _ ?_ ?_ xI_e NA.1 NA.2)
                    · exact ((((F4.trans (fm_I (by decide) (by decide))).trans (fm_I (by decide) (by decide))).trans (fm_I (by decide) (by decide))).mono (by decide) (by decide) (fun q => q)).trans (fm_F (by decide))
                    · refine W4.fm rfl ?_
                      rw [xI_k (by decide), xI_k (by decide), xI_k (by decide), xI_k (by decide)]
                  | succ z ihz =>
                    rintro g3 ⟨hf3, hN3, y, hy, hW3⟩
                    have hl3 : (fheadc n c num v ++ fbody (sg s0 s1 a) n D c ++ List.replicate y false).length = (fheadc n c num v ++ fbody (sg s0 s1 a) n D c).length + y := by rw [List.length_append, List.length_replicate]
                    generalize hBB : fheadc n c num v ++ fbody (sg s0 s1 a) n D c = BB at *
                    refine ra_aload_n A d_Mo_writeFrame_318 rfl <| ra_getJ A f_Mo_244 d_Mo_writeFrame_319 (Nat.le_of_ble_eq_true rfl) rfl rfl <| ?_
                    rw [hW3.1]
                    refine ra_ldc2 A k_Mo_222 d_Mo_writeFrame_322 <| ra_lrem A d_Mo_writeFrame_325 (by decide) <| ?_
                    rw [hl3, show lN (p + (BB.length + y)) - lN (p + (BB.length + y)) / 8 * 8 = lN ((p + (BB.length + y)) % 8) from pk_lRem (b := 8) (by omega) (by decide) (by decide)]
                    refine ra_lconst A 0 d_Mo_writeFrame_326 (by decide) <| ra_lcmp A d_Mo_writeFrame_327 <| ?_
                    refine ra_if_eq (q := 340) A d_Mo_writeFrame_328 (by decide) (fun cc => absurd cc (fun q => absurd (lc_eq.mp q) (fun q2 => by have := (pk_lEQ (b := 0) (by omega) (by decide)).mp q2; omega))) (fun _ => ?_)
                    refine ra_aload_n A d_Mo_writeFrame_331 rfl <| ra_lconst A 0 d_Mo_writeFrame_332 (by decide) <| ra_iconst A 1 d_Mo_writeFrame_333 (by decide) <| ?_
                    refine ra_callV (As := [_, _]) A ok_Mo_put l_Mo_306 im_Mo_put sl_Mo_put d_Mo_writeFrame_334 (Nat.le_of_ble_eq_true rfl) rfl rfl rfl (Nat.le_of_ble_eq_true rfl) (xr_of at0 (by decide)) (s_Mo_put K (n := 1) hW3.sr hW3.1 (by omega) (fun g4 f4 W4 => ?_))
                    show xg x (y0 u) 0 0 337 _ _ g4
                    rw [bitsL_z] at W4
                    refine ra_goto (q := 318) A d_Mo_writeFrame_337 (by decide) <| ?_
                    refine ihz g4 ⟨hf3.trans (mp f4), fun i => by rw [fmk f4 (by decide) (by decide)]; exact hN3 i, y + 1, by omega, ?_⟩
                    rw [← List.replicate_append_replicate, ← List.append_assoc]
                    exact hW3.trans W4
                exact zl _ g2 ⟨hf2, hN2, 0, Nat.zero_add _, by simpa using hW2⟩
              · rintro j g2 hj ⟨hf2, hW2, hN2⟩ ih
                have h0j : c = 0 → j = 0 := by
                  intro q
                  rcases hcC' with ⟨q1, q2⟩ | ⟨q1, q2⟩
                  · omega
                  · exact absurd q q2
                have hmono := fbj_mono (S := sg s0 s1 a) (n := n) (D := D) (c := c) (show j + 1 ≤ C from hj)
                rw [fbj, List.length_append] at hmono
                have hd25 : 1 ≤ dW D (sgo c j) ∧ dW D (sgo c j) ≤ 25 := by unfold dW; split <;> omega
                have hin := hIc j (by omega) h0j
                refine ra_iload A d_Mo_writeFrame_213 rfl <| ra_aload_n A d_Mo_writeFrame_215 rfl <| ra_getI A f_Mo_145 d_Mo_writeFrame_216 (Nat.le_of_ble_eq_true rfl) rfl rfl <| ?_
                rw [(G g2 hf2).1]
                refine ra_icmp_ge (q := 318) A d_Mo_writeFrame_219 (by decide) (fun cc => absurd cc (nI_ge hj (by omega))) (fun _ => ?_)
                refine ra_aload_n A d_Mo_writeFrame_222 rfl <| ra_getR A f_Mo_173 d_Mo_writeFrame_223 (Nat.le_of_ble_eq_true rfl) rfl rfl rfl <| ra_iload A d_Mo_writeFrame_226 rfl <| ra_iconst A 5 d_Mo_writeFrame_228 (by decide) <| ra_iadd A d_Mo_writeFrame_229 <| ?_
                rw [show nI (9 * k) + 5 = nI (9 * k + 5) from nI_add (9 * k) 5]
                refine ra_iconst A 3 d_Mo_writeFrame_230 (by decide) <| ra_iload A d_Mo_writeFrame_231 rfl <| ra_imul A d_Mo_writeFrame_233 <| ?_
                rw [show (3 : Int32) * nI j = nI (3 * j) from pk_mul 3 j]
                refine ra_iadd A d_Mo_writeFrame_234 <| ?_
                rw [nI_add]
                refine ra_aload_n A d_Mo_writeFrame_235 rfl <| ra_iload A d_Mo_writeFrame_236 rfl <| ra_iload A d_Mo_writeFrame_238 rfl <| ra_iload_n A d_Mo_writeFrame_240 rfl <| ra_iload_n A d_Mo_writeFrame_241 rfl <| ?_
                refine ra_callV (As := [_, _, _, _]) A ok_Mo_costOf l_Mo_324 im_Mo_costOf sl_Mo_costOf d_Mo_writeFrame_242 (Nat.le_of_ble_eq_true rfl) rfl rfl rfl (Nat.le_of_ble_eq_true rfl) (xr_of at0 (by decide)) (s_Mo_costOf K hc (by omega) h0j (G g2 hf2).2.2.2 hn1 hn han hD0 hD (G g2 hf2).2.1 hIc (fun g3 f3 M3 => ?_))
                show xg x (y0 u) 0 0 245 _ _ g3
                have F3 : fm MFL [18, 19, 20] true h g3 := hf2.trans (f3.mono (by decide) (by decide) (fun q => by cases q))
                have W3 : SW p (fheadc n c num v ++ fbj (sg s0 s1 a) n D c j) h g3 := hW2.fm (f3.2.2 rfl) (fmk f3 (by decide) (by decide))
                have N3 : FR g3 h (sg s0 s1 a) n D c k j := fun i => by rw [fmk f3 (by decide) (by decide)]; exact hN2 i
                refine ra_l2i A d_Mo_writeFrame_245 <| ?_
                rw [lN_i]
                refine ra_iastore A d_Mo_writeFrame_246 (Nat.le_of_ble_eq_true rfl) rfl (vp_in_nI (by omega) (by decide)) ?_
                rw [nI_clamp (by omega)]
                refine ra_aload_n A d_Mo_writeFrame_247 rfl <| ra_getR A f_Mo_173 d_Mo_writeFrame_248 (Nat.le_of_ble_eq_true rfl) rfl rfl rfl <| ra_iload A d_Mo_writeFrame_251 rfl <| ra_iconst A 3 d_Mo_writeFrame_253 (by decide) <| ra_iadd A d_Mo_writeFrame_254 <| ?_
                rw [show nI (9 * k) + 3 = nI (9 * k + 3) from nI_add (9 * k) 3]
                refine ra_iconst A 3 d_Mo_writeFrame_255 (by decide) <| ra_iload A d_Mo_writeFrame_256 rfl <| ra_imul A d_Mo_writeFrame_258 <| ?_
                rw [show (3 : Int32) * nI j = nI (3 * j) from pk_mul 3 j]
                refine ra_iadd A d_Mo_writeFrame_259 <| ra_aload_n A d_Mo_writeFrame_260 rfl <| ra_getI A f_Mo_291 d_Mo_writeFrame_261 (Nat.le_of_ble_eq_true rfl) rfl rfl <| ?_
                rw [nI_add, xI_k (show 141 ≠ 149 by decide), M3.2.1]
                refine ra_iastore A d_Mo_writeFrame_264 (Nat.le_of_ble_eq_true rfl) rfl (vp_in_nI (by omega) (by decide)) ?_
                rw [nI_clamp (by omega)]
                refine ra_aload_n A d_Mo_writeFrame_265 rfl <| ra_getR A f_Mo_173 d_Mo_writeFrame_266 (Nat.le_of_ble_eq_true rfl) rfl rfl rfl <| ra_iload A d_Mo_writeFrame_269 rfl <| ra_iconst A 4 d_Mo_writeFrame_271 (by decide) <| ra_iadd A d_Mo_writeFrame_272 <| ?_
                rw [show nI (9 * k) + 4 = nI (9 * k + 4) from nI_add (9 * k) 4]
                refine ra_iconst A 3 d_Mo_writeFrame_273 (by decide) <| ra_iload A d_Mo_writeFrame_274 rfl <| ra_imul A d_Mo_writeFrame_276 <| ?_
                rw [show (3 : Int32) * nI j = nI (3 * j) from pk_mul 3 j]
                refine ra_iadd A d_Mo_writeFrame_277 <| ra_aload_n A d_Mo_writeFrame_278 rfl <| ra_getI A f_Mo_253 d_Mo_writeFrame_279 (Nat.le_of_ble_eq_true rfl) rfl rfl <| ?_
                rw [nI_add, xI_k (show 141 ≠ 149 by decide), xI_k (show 141 ≠ 149 by decide), M3.2.2.1]
                refine ra_iastore A d_Mo_writeFrame_282 (Nat.le_of_ble_eq_true rfl) rfl (vp_in_nI (by omega) (by decide)) ?_
                rw [nI_clamp (by omega)]
                have N4 : FR (xw_I (xw_I (xw_I g3 149 (9 * k + 5 + 3 * j) (nI (kb (sg s0 s1 a) n D (sgo c j)))) 149 (9 * k + 3 + 3 * j) (nI (sC (sg s0 s1 a (sgo c j)) n (dW D (sgo c j))).2.1)) 149 (9 * k + 4 + 3 * j) (nI (sW (sg s0 s1 a (sgo c j)) n))) h (sg s0 s1 a) n D c k (j + 1) := N3.next (by omega) rfl
                have f4 : fm [149] [] false g3 (xw_I (xw_I (xw_I g3 149 (9 * k + 5 + 3 * j) (nI (kb (sg s0 s1 a) n D (sgo c j)))) 149 (9 * k + 3 + 3 * j) (nI (sC (sg s0 s1 a (sgo c j)) n (dW D (sgo c j))).2.1)) 149 (9 * k + 4 + 3 * j) (nI (sW (sg s0 s1 a (sgo c j)) n))) := ((fm_I (by decide) (by decide)).trans (fm_I (by decide) (by decide))).trans (fm_I (by decide) (by decide))
                generalize xw_I (xw_I (xw_I g3 149 (9 * k + 5 + 3 * j) (nI (kb (sg s0 s1 a) n D (sgo c j)))) 149 (9 * k + 3 + 3 * j) (nI (sC (sg s0 s1 a (sgo c j)) n (dW D (sgo c j))).2.1)) 149 (9 * k + 4 + 3 * j) (nI (sW (sg s0 s1 a (sgo c j)) n)) = g4 at N4 f4 ⊢
                have F4 : fm MFL [18, 19, 20] true h g4 := F3.trans (f4.mono (by decide) (by decide) (fun q => by cases q))
                have W4 : SW p (fheadc n c num v ++ fbj (sg s0 s1 a) n D c j) h g4 := W3.fm (f4.2.2 rfl) (fmk f4 (by decide) (by decide))
                have M4 := M3.fm f4 (by decide) (by decide)
                have at309 : ∀ dd, dd = dW D (sgo c j) → xg x (y0 u) 0 0 309 [some (.ref 141), some (.int (nI a)), some (.int (nI n)), some (.int (bz v)), some (.int (nI c)), some (.int (nI (p / 8))), some (.int (nI (9 * k))), some (.int (nI num)), some (.int (nI j))] [.int (nI dd), .int (nI n), .ref 141] g4 := by
                  rintro dd rfl
                  refine ra_callV (As := [_, _]) A ok_Mo_writeSubframe l_Mo_345 im_Mo_writeSubframe sl_Mo_writeSubframe d_Mo_writeFrame_309 (Nat.le_of_ble_eq_true rfl) rfl rfl rfl (Nat.le_of_ble_eq_true rfl) (xr_of at0 (by decide)) (s_Mo_writeSubframe K hn1 hn hd25.1 hd25.2 hin M4 W4.sr W4.1 (by rw [List.length_append]; omega) (fun g5 f5 W5 => ?_))
                  show xg x (y0 u) 0 0 312 _ _ g5
                  refine ra_iinc (L' := [_, _, _, _, _, _, _, _, _]) A 1 d_Mo_writeFrame_312 rfl (by decide) (by decide) rfl <| ra_goto (q := 213) A d_Mo_writeFrame_315 (by decide) <| ?_
                  rw [nI_1]
                  refine ih g5 ⟨F4.trans (f5.mono (by decide) (by decide) (fun q => q)), ?_, fun i => by rw [fmk f5 (by decide) (by decide)]; exact N4 i⟩
                  rw [fbj, ← List.append_assoc]
                  exact W4.trans W5
                refine ra_aload_n A d_Mo_writeFrame_283 rfl <| ra_iload_n A d_Mo_writeFrame_284 rfl <| ra_iload A d_Mo_writeFrame_285 rfl <| ra_iload A d_Mo_writeFrame_287 rfl <| ?_
                refine ra_callS (As := [_, _]) A ok_Mo_signalOf l_Mo_313 st_Mo_signalOf d_Mo_writeFrame_289 rfl (Nat.le_of_ble_eq_true rfl) (xr_of at0 (by decide)) (s_Mo_signalOf K hc (by omega) h0j ?_)
                show xg x (y0 u) 0 0 292 _ _ g4
                have hw4 := sgo_lt (c := c) (j := j)
                refine ra_iconst A 2 d_Mo_writeFrame_292 (by decide) <| ?_
                by_cases c2 : sgo c j = 2
                · refine ra_icmp_ne (q := 305) A d_Mo_writeFrame_293 (by decide) (fun cc => absurd ((by rw [c2]; rfl)) cc) (fun _ => ?_)
                  refine ra_aload_n A d_Mo_writeFrame_296 rfl <| ra_getI A f_Mo_149 d_Mo_writeFrame_297 (Nat.le_of_ble_eq_true rfl) rfl rfl <| ?_
                  rw [(G g4 F4).2.1]
                  refine ra_iconst A 1 d_Mo_writeFrame_300 (by decide) <| ra_iadd A d_Mo_writeFrame_301 <| ra_goto (q := 309) A d_Mo_writeFrame_302 (by decide) <| ?_
                  rw [nI_1]
                  exact at309 (D + 1) (by unfold dW; rw [if_pos c2])
                · refine ra_icmp_ne (q := 305) A d_Mo_writeFrame_293 (by decide) (fun _ => ?_) (fun cc => absurd cc (fun z => c2 ((nI_eq (b := 2) (by omega) (by decide)).mp z)))
                  refine ra_aload_n A d_Mo_writeFrame_305 rfl <| ra_getI A f_Mo_149 d_Mo_writeFrame_306 (Nat.le_of_ble_eq_true rfl) rfl rfl <| ?_
                  rw [(G g4 F4).2.1]
                  exact at309 D (by unfold dW; rw [if_neg c2])
            · rintro j g' hj ⟨hf', hW', hN'⟩ ih
              refine ra_iload A d_Mo_writeFrame_184 rfl <| ra_bipush A 6 d_Mo_writeFrame_186 (by decide) <| ?_
              refine ra_icmp_ge (q := 210) A d_Mo_writeFrame_188 (by decide) (fun cc => absurd cc (nI_ge (b := 6) hj (by decide))) (fun _ => ?_)
              refine ra_aload_n A d_Mo_writeFrame_191 rfl <| ra_getR A f_Mo_173 d_Mo_writeFrame_192 (Nat.le_of_ble_eq_true rfl) rfl rfl rfl <| ra_iload A d_Mo_writeFrame_195 rfl <| ra_iconst A 3 d_Mo_writeFrame_197 (by decide) <| ra_iadd A d_Mo_writeFrame_198 <| ?_
              rw [show nI (9 * k) + 3 = nI (9 * k + 3) from nI_add (9 * k) 3]
              refine ra_iload A d_Mo_writeFrame_199 rfl <| ra_iadd A d_Mo_writeFrame_201 <| ra_iconst A (-1) d_Mo_writeFrame_202 (by decide) <| ?_
              rw [nI_add]
              refine ra_iastore A d_Mo_writeFrame_203 (Nat.le_of_ble_eq_true rfl) rfl (vp_in_nI (by omega) (by decide)) ?_
              rw [nI_clamp (by omega)]
              refine ra_iinc (L' := [_, _, _, _, _, _, _, _, _]) A 1 d_Mo_writeFrame_204 rfl (by decide) (by decide) rfl <| ra_goto (q := 184) A d_Mo_writeFrame_207 (by decide) <| ?_
              rw [nI_1]
              refine ih _ ⟨hf'.trans (fm_I (by decide) (by decide)), hW'.fm rfl (xI_k (by decide)), fun i => ?_⟩
              by_cases q : i = 9 * k + 3 + j
              · subst q; rw [xI_e, if_pos (by omega)]
              · rw [xI_j q, hN' i]
                by_cases q2 : 9 * k + 3 ≤ i ∧ i < 9 * k + 3 + j
                · rw [if_pos q2, if_pos (by omega)]
                · rw [if_neg q2, if_neg (by omega)]
          by_cases q : n ≤ 256
          · refine ra_icmp_gt (q := 152) A d_Mo_writeFrame_144 (by decide) (fun cc => absurd cc (Int32.not_lt.mpr (nI_le (b := 256) q (by decide)))) (fun _ => ?_)
            refine ra_bipush A 8 d_Mo_writeFrame_147 (by decide) <| ra_goto (q := 154) A d_Mo_writeFrame_149 (by decide) <| ?_
            exact at154 8 (by rw [if_pos q])
          · refine ra_icmp_gt (q := 152) A d_Mo_writeFrame_144 (by decide) (fun _ => ?_) (fun cc => absurd (nI_lt (a := 256) (by omega) (by omega)) cc)
            refine ra_bipush A 16 d_Mo_writeFrame_152 (by decide) <| ?_
            exact at154 16 (by rw [if_neg q])
        · rintro j g hj ⟨hf, hf0, hW⟩ ih
          have hlt := numB_lt (i := j) hnum
          refine ra_iload A d_Mo_writeFrame_105 rfl <| ra_iload A d_Mo_writeFrame_107 rfl <| ?_
          refine ra_callS (As := [_, _]) A ok_Mo_numberByte l_Mo_338 st_Mo_numberByte d_Mo_writeFrame_109 rfl (Nat.le_of_ble_eq_true rfl) (xr_of at0 (by decide)) (s_Mo_numberByte K hnum (Nat.le_of_lt hj) (fun _ => ?_) (fun q => absurd hj (by omega)))
          show xg x (y0 u) 0 0 112 _ _ g
          refine ra_if_lt (q := 135) A d_Mo_writeFrame_112 (by decide) (fun cc => absurd cc (nI_pos (by omega))) (fun _ => ?_)
          refine ra_aload_n A d_Mo_writeFrame_115 rfl <| ra_iload A d_Mo_writeFrame_116 rfl <| ra_iload A d_Mo_writeFrame_118 rfl <| ?_
          refine ra_callS (As := [_, _]) A ok_Mo_numberByte l_Mo_338 st_Mo_numberByte d_Mo_writeFrame_120 rfl (Nat.le_of_ble_eq_true rfl) (xr_of at0 (by decide)) (s_Mo_numberByte K hnum (Nat.le_of_lt hj) (fun _ => ?_) (fun q => absurd hj (by omega)))
          show xg x (y0 u) 0 0 123 _ _ g
          refine ra_i2l A d_Mo_writeFrame_123 <| ?_
          rw [nI_l (by omega)]
          refine ra_bipush A 8 d_Mo_writeFrame_124 (by decide) <| ?_
          refine ra_callV (As := [_, _]) A ok_Mo_put l_Mo_306 im_Mo_put sl_Mo_put d_Mo_writeFrame_126 (Nat.le_of_ble_eq_true rfl) rfl rfl rfl (Nat.le_of_ble_eq_true rfl) (xr_of at0 (by decide)) (s_Mo_put K (n := 8) hW.sr hW.1 (by rw [List.length_append, hPl, numbits_len, List.length_take]; omega) (fun g8 f8 W8 => ?_))
          show xg x (y0 u) 0 0 129 _ _ g8
          refine ra_iinc (L' := [_, _, _, _, _, _, _, _, _]) A 1 d_Mo_writeFrame_129 rfl (by decide) (by decide) rfl <| ra_goto (q := 105) A d_Mo_writeFrame_132 (by decide) <| ?_
          rw [nI_1]
          refine ih g8 ⟨hf.trans (mp f8), hf0.trans f8, ?_⟩
          rw [numbits_take hj, ← List.append_assoc]
          exact hW.trans W8
      refine ra_iload_n A d_Mo_writeFrame_88 rfl <| ?_
      cases v
      · refine ra_if_eq (q := 96) A d_Mo_writeFrame_89 (by decide) (fun _ => ?_) (fun cc => absurd (rfl) cc)
        refine ra_aload_n A d_Mo_writeFrame_96 rfl <| ra_getI A f_Mo_331 d_Mo_writeFrame_97 (Nat.le_of_ble_eq_true rfl) rfl rfl <| ?_
        rw [(G g5 F5).2.2.1]
        subst enum
        exact at100
      · refine ra_if_eq (q := 96) A d_Mo_writeFrame_89 (by decide) (fun cc => absurd cc ((by decide))) (fun _ => ?_)
        refine ra_iload_n A d_Mo_writeFrame_92 rfl <| ra_goto (q := 100) A d_Mo_writeFrame_93 (by decide) <| ?_
        subst enum
        exact at100
    by_cases q : n ≤ 256
    · refine ra_icmp_gt (q := 61) A d_Mo_writeFrame_52 (by decide) (fun cc => absurd cc (Int32.not_lt.mpr (nI_le (b := 256) q (by decide)))) (fun _ => ?_)
      rw [if_pos q] at at64
      refine ra_ldc2 A k_Mo_273 d_Mo_writeFrame_55 <| ra_goto (q := 64) A d_Mo_writeFrame_58 (by decide) <| ?_
      exact at64
    · refine ra_icmp_gt (q := 61) A d_Mo_writeFrame_52 (by decide) (fun _ => ?_) (fun cc => absurd (nI_lt (a := 256) (by omega) (by omega)) cc)
      rw [if_neg q] at at64
      refine ra_ldc2 A k_Mo_336 d_Mo_writeFrame_61 <| ?_
      exact at64
  cases v
  · refine ra_if_eq (q := 40) A d_Mo_writeFrame_33 (by decide) (fun _ => ?_) (fun cc => absurd (rfl) cc)
    refine ra_lconst A 0 d_Mo_writeFrame_40 (by decide) <| ?_
    exact at41
  · refine ra_if_eq (q := 40) A d_Mo_writeFrame_33 (by decide) (fun cc => absurd cc ((by decide))) (fun _ => ?_)
    refine ra_lconst A 1 d_Mo_writeFrame_36 (by decide) <| ra_goto (q := 41) A d_Mo_writeFrame_37 (by decide) <| ?_
    exact at41
end S88
