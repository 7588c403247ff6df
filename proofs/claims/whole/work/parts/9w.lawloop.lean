/-! THE LAW'S LOOP -/
section S9w
variable {x : xg_T} {u : xu_T} {sc : Nat → Int32} {N : Nat}
theorem la_loop {S0 : Nat} (B : LB x u sc N) (hcells : 690 ≤ (xm_R x).cells) (hslots : S0 + 3198 ≤ (xm_R x).slots) (hret : ∀ nc ns L h, nc ≤ 690 → ns ≤ S0 + 3198 → xg x (y0 u) nc ns 1206 L [.int 1] h) :
    ∀ n t nc ns w5 w6 w7 h, N ≤ 5 * t + n → 5 * t ≤ 2560 → nc ≤ 157 + t → ns ≤ S0 + 6 * t → IV h → xg x (y0 u) nc ns 23 (LL (5 * t) w5 w6 w7) [] h := by
  have A := B.1
  have hN := B.2.2.2.1
  have s5 : (nI N - 5).toInt = (N : Int) - 5 := pk_sub_toInt (b := 5) (by omega) (by decide)
  have out : ∀ t nc ns w5 w6 w7 h, N < 5 * t + 5 → 5 * t ≤ 2560 → nc ≤ 157 + t → ns ≤ S0 + 6 * t → xg x (y0 u) nc ns 23 (LL (5 * t) w5 w6 w7) [] h := by
    intro t nc ns w5 w6 w7 h ht h2 l1 l2
    refine ra_iload A d_La_law_23 rfl <| ra_aload_n A d_La_law_25 rfl <| ?_
    refine ra_stlen A B.2.1 (a := nI N) rfl d_La_law_26 ?_
    refine ra_iconst A 5 d_La_law_27 (by decide) <| ra_isub A d_La_law_28 <| ?_
    refine ra_icmp_gt (q := 1205) A d_La_law_29 (by decide) (fun _ => ?_) (fun cc => absurd ((by rw [Int32.lt_iff_toInt_lt, s5, nI_toInt (by omega)]; omega)) cc)
    refine ra_iconst A 1 d_La_law_1205 (by decide) <| ?_
    exact hret _ _ _ _ (by omega) (by omega)
  intro n
  induction n with
  | zero => intro t nc ns w5 w6 w7 h ht h2 l1 l2 I; exact out t nc ns w5 w6 w7 h (by omega) h2 l1 l2
  | succ n ih =>
    intro t nc ns w5 w6 w7 h ht h2 l1 l2 I
    by_cases ce : N < 5 * t + 5
    · exact out t nc ns w5 w6 w7 h ce h2 l1 l2
    have hi : 5 * t + 4 < N := by omega
    have c' : LC x (nc + 1) (ns + 6) := ⟨by omega, by omega⟩
    have go : ∀ g nc' ns' w5 w6 w7, IV g → nc' ≤ nc + 1 → ns' ≤ ns + 6 → xg x (y0 u) nc' ns' 1199 (LL (5 * t) w5 w6 w7) [] g := by
      intro g nc' ns' w5 w6 w7 I' k1 k2
      refine ra_iinc (L' := [_, _, _, _, _, _, _, _]) A 5 d_La_law_1199 rfl (by decide) (by decide) rfl <| ra_goto (q := 23) A d_La_law_1202 (by decide) <| ?_
      rw [show nI (5 * t) + 5 = nI (5 * (t + 1)) from nI_add (5 * t) 5]
      exact ih (t + 1) nc' ns' w5 w6 w7 g (by omega) (by omega) (by omega) (by omega) I'
    refine ra_iload A d_La_law_23 rfl <| ra_aload_n A d_La_law_25 rfl <| ?_
    refine ra_stlen A B.2.1 (a := nI N) rfl d_La_law_26 ?_
    refine ra_iconst A 5 d_La_law_27 (by decide) <| ra_isub A d_La_law_28 <| ?_
    refine ra_icmp_gt (q := 1205) A d_La_law_29 (by decide) (fun cc => absurd cc (fun z => by rw [Int32.lt_iff_toInt_lt, s5, nI_toInt (by omega)] at z; omega)) (fun _ => ?_)
    refine ra_aload_n A d_La_law_32 rfl <| ra_iload A d_La_law_33 rfl <| ?_
    refine ra_sti A B.2.1 (vp_in_nI (by omega) (by omega)) (a := sc (5 * t)) (by rw [nI_clamp (by omega)]) d_La_law_35 ?_
    refine ra_bipush A 31 d_La_law_36 (by decide) <| ra_iand A d_La_law_38 <| ?_
    obtain ⟨e, he, ee⟩ := pk_andE (sc (5 * t)) (m := 31) 5 rfl
    rw [ee]
    match e, he with
    | 0, _ => exact ra_tsIn (o := 89) (q := 128) A d_La_law_39 (by decide) (by decide) (by decide) (by decide) (ca_La_form B hi c' I go)
    | 1, _ => exact ra_tsIn (o := 161) (q := 200) A d_La_law_39 (by decide) (by decide) (by decide) (by decide) (ca_La_sample B hi c' I go)
    | 2, _ => exact ra_tsIn (o := 229) (q := 268) A d_La_law_39 (by decide) (by decide) (by decide) (by decide) (ca_La_ramp B hi c' I go)
    | 3, _ => exact ra_tsIn (o := 321) (q := 360) A d_La_law_39 (by decide) (by decide) (by decide) (by decide) (ca_La_noise B hi c' I go)
    | 4, _ => exact ra_tsIn (o := 413) (q := 452) A d_La_law_39 (by decide) (by decide) (by decide) (by decide) (ca_La_clear B hi c' I go)
    | 5, _ => exact ra_tsIn (o := 424) (q := 463) A d_La_law_39 (by decide) (by decide) (by decide) (by decide) (ca_La_at B hi c' I go)
    | 6, _ => exact ra_tsIn (o := 492) (q := 531) A d_La_law_39 (by decide) (by decide) (by decide) (by decide) (ca_La_sum B hi c' I go)
    | 7, _ => exact ra_tsIn (o := 547) (q := 586) A d_La_law_39 (by decide) (by decide) (by decide) (by decide) (ca_La_encode B hi c' I go)
    | 8, _ => exact ra_tsIn (o := 619) (q := 658) A d_La_law_39 (by decide) (by decide) (by decide) (by decide) (ca_La_told B hi c' I go)
    | 9, _ => exact ra_tsIn (o := 675) (q := 714) A d_La_law_39 (by decide) (by decide) (by decide) (by decide) (ca_La_frame B hi c' I go)
    | 10, _ => exact ra_tsIn (o := 743) (q := 782) A d_La_law_39 (by decide) (by decide) (by decide) (by decide) (ca_La_stream B hi c' I go)
    | 11, _ => exact ra_tsIn (o := 769) (q := 808) A d_La_law_39 (by decide) (by decide) (by decide) (by decide) (ca_La_feed B hi c' I go)
    | 12, _ => exact ra_tsIn (o := 869) (q := 908) A d_La_law_39 (by decide) (by decide) (by decide) (by decide) (ca_La_cut B hi c' I go)
    | 13, _ => exact ra_tsIn (o := 925) (q := 964) A d_La_law_39 (by decide) (by decide) (by decide) (by decide) (ca_La_spoil B hi c' I go)
    | 14, _ => exact ra_tsIn (o := 993) (q := 1032) A d_La_law_39 (by decide) (by decide) (by decide) (by decide) (ca_La_seal B hi c' I go)
    | 15, _ => exact ra_tsIn (o := 1053) (q := 1092) A d_La_law_39 (by decide) (by decide) (by decide) (by decide) (ca_La_decode B hi c' I go)
    | 16, _ => exact ra_tsIn (o := 1066) (q := 1105) A d_La_law_39 (by decide) (by decide) (by decide) (by decide) (ca_La_fault B hi c' I go)
    | 17, _ => exact ra_tsIn (o := 1079) (q := 1118) A d_La_law_39 (by decide) (by decide) (by decide) (by decide) (ca_La_place B hi c' I go)
    | 18, _ => exact ra_tsIn (o := 1092) (q := 1131) A d_La_law_39 (by decide) (by decide) (by decide) (by decide) (ca_La_heard B hi c' I go)
    | e + 19, _ =>
      refine ra_tsOut (q := 1199) A d_La_law_39 (Or.inr ?_) (by decide) (go h nc ns _ _ _ I (by omega) (by omega))
      rw [nI_toInt (by omega)]
      omega
end S9w
