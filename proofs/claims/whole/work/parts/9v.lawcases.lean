/-! THE LAW'S CASES, by program (wip/gen/lawcase.py) -/
section XRH
variable {x : xg_T} {y : xw_T} {KK : State → Prop} {own : String} {cc : ByteArray} {nL nc ns pc : Nat} {L : List (Option Value)} {S : List Value} {h : xw_H}
theorem ra_callSH (A : xg_A x y KK own cc nL) {M : xm_T} {hh : List (Nat × Nat × Nat × Nat)} {n index : Nat} (ok : xm_okH M hh n) (hlink : Cond.methodLink own index M.1 ∈ xw_tbl) (hstat : Cond.static M.1 ∈ xw_tbl)
    (d : decode cc pc = .ok (.invokestatic index, 3)) {As : List Value} (hn : As.length = n) (hW : (S.map fun v => v.category).sum ≤ 8) (hR : xm_room x nc ns M) (hM : xm_MH (xg_l x) y KK M hh As h (xg_K x y nc ns pc L S)) : xg x y nc ns pc L (As.reverse ++ S) h := by
  obtain ⟨X, rfl, rfl, rfl, HW, g, hmv, hKK, hB⟩ := A
  exact xg_callSH X HW hmv hKK hB ok hlink hstat d hn hW hR hM
theorem ra_callVH (A : xg_A x y KK own cc nL) {M : xm_T} {hh : List (Nat × Nat × Nat × Nat)} {n index : Nat} (ok : xm_okH M hh n) (hlink : Cond.methodLink own index M.1 ∈ xw_tbl) (hinst : Cond.instanceMethod M.1 ∈ xw_tbl) (hsel : Cond.selects M.1.cls M.1 M.1 ∈ xw_tbl)
    (d : decode cc pc = .ok (.invokevirtual index, 3)) {k ci : Nat} {ks : List Nat} {T : u_T} {N : Nat} (hk : k < xw_n y) (hkd : xw_kd y k = .inl (ci, ks)) (hcl : (xw_cl y)[ci]? = some (M.1.cls, T, N)) {As : List Value} (hn : As.length = n) (hW : (S.map fun v => v.category).sum ≤ 8) (hR : xm_room x nc ns M) (hM : xm_MH (xg_l x) y KK M hh (.ref k :: As) h (xg_K x y nc ns pc L S)) : xg x y nc ns pc L (As.reverse ++ .ref k :: S) h := by
  obtain ⟨X, rfl, rfl, rfl, HW, g, hmv, hKK, hB⟩ := A
  exact xg_callVH X HW hmv hKK hB g ok hlink hinst hsel d hk hkd hcl hn hW hR hM
end XRH
/-- the law's locals: the script, both sides, the answer's place, the place in the script -/
abbrev LL (a : Nat) (w5 w6 w7 : Option Value) : List (Option Value) := [some (.ref 1005), some (.ref 0), some (.ref 141), some (.ref 156), some (.int (nI a)), w5, w6, w7]
/-- the law's walk: its code, the script's ints sc, no traces, room -/
def LB (x : xg_T) (u : xu_T) (sc : Nat → Int32) (N : Nat) : Prop := xg_A x (y0 u) (KK0 u) "SoundStreamLaw" code 8 ∧ va_T .int (u.2.2.1 1005) N (fun q => .int (sc q)) (xw_A (y0 u)) (xg_s x) (xg_s x).heap ∧ (xg_l x).stackTraces = false ∧ N ≤ 2560 ∧ 25 ≤ (xm_R x).frames ∧ 2000 ≤ (xm_R x).locals
def LC (x : xg_T) (nc ns : Nat) : Prop := nc + 20 ≤ (xm_R x).cells ∧ ns + 120 ≤ (xm_R x).slots
theorem lg_self (a : Int64) : lg_cmp a a = 0 := by
  unfold lg_cmp
  rw [if_neg (show ¬ a > a from Int64.lt_irrefl), if_pos rfl]
section S9v
variable {x : xg_T} {u : xu_T} {sc : Nat → Int32} {N a nc ns : Nat} {w5 w6 w7 : Option Value} {h : xw_H}
theorem lr (B : LB x u sc N) (c : LC x nc ns) {M : xm_T} (q : M.2.2.2.2.frames + 1 ≤ 25 ∧ 8 + (M.2.2.1 + 11) + M.2.2.2.2.locals ≤ 2000 ∧ M.2.2.2.2.cells ≤ 20 ∧ M.2.2.2.2.slots ≤ 120) : xm_room x nc ns M := by
  obtain ⟨-, -, -, -, b1, b2⟩ := B
  obtain ⟨c1, c2⟩ := c
  exact ⟨by omega, by omega, by omega, by omega⟩
theorem LC.s (c : LC x (nc + 1) (ns + 6)) {i j : Nat} (hi : i ≤ 1) (hj : j ≤ 6) : LC x (nc + i) (ns + j) := ⟨by have := c.1; omega, by have := c.2; omega⟩
theorem LC.z (c : LC x (nc + 1) (ns + 6)) : LC x nc ns := ⟨by have := c.1; omega, by have := c.2; omega⟩
/-- int j of the call at a is pushed -/
theorem la_arg (B : LB x u sc N) {pc : Nat} {S : List Value} (j : Int) (k : Nat) (hk : a + k < N) (hj : Int32.ofInt j = nI k) (d0 : decode code pc = .ok (.aload_n 0, 1)) (d1 : decode code (pc + 1) = .ok (.iload 4, 2)) (d2 : decode code (pc + 1 + 2) = .ok (.iconst j, 1)) (d3 : decode code (pc + 1 + 2 + 1) = .ok (.iadd, 1)) (d4 : decode code (pc + 1 + 2 + 1 + 1) = .ok (.iaload, 1))
    (kk : xg x (y0 u) nc ns (pc + 1 + 2 + 1 + 1 + 1) (LL a w5 w6 w7) (.int (sc (a + k)) :: S) h) : xg x (y0 u) nc ns pc (LL a w5 w6 w7) S h := by
  have A := B.1
  have hN := B.2.2.2.1
  refine ra_aload_n A d0 rfl <| ra_iload A d1 rfl <| ra_iconst A (nI k) d2 hj <| ra_iadd A d3 <| ?_
  rw [nI_add]
  exact ra_sti A B.2.1 (vp_in_nI hk (by omega)) (by rw [nI_clamp (by omega)]) d4 kk
theorem t_La_form {g : xw_H} {k : Int32} (B : LB x u sc N) (hi : a + 4 < N) (c : LC x nc ns) (hM : xm_M (xg_l x) (y0 u) (KK0 u) m_Mo_form [.ref 141, .int (sc (a + 1)), .int (sc (a + 2)), .int (sc (a + 3)), .int (sc (a + 4))] g (PV k)) (go : ∀ g w5 w6 w7, IV g → xg x (y0 u) nc ns 1199 (LL a w5 w6 w7) [] g) : xg x (y0 u) nc ns 156 (LL a w5 w6 w7) [.int k] g := by
  have A := B.1
  refine ra_istore (L' := [_, _, _, _, _, _, _, _]) A d_La_law_156 (by decide) rfl <| ra_aload_n A d_La_law_158 rfl <| ?_
  refine la_arg B 1 1 (by omega) (by decide) d_La_law_159 d_La_law_160 d_La_law_162 d_La_law_163 d_La_law_164 ?_
  refine la_arg B 2 2 (by omega) (by decide) d_La_law_165 d_La_law_166 d_La_law_168 d_La_law_169 d_La_law_170 ?_
  refine la_arg B 3 3 (by omega) (by decide) d_La_law_171 d_La_law_172 d_La_law_174 d_La_law_175 d_La_law_176 ?_
  refine la_arg B 4 4 (by omega) (by decide) d_La_law_177 d_La_law_178 d_La_law_180 d_La_law_181 d_La_law_182 ?_
  refine ra_callV (As := [_, _, _, _]) A ok_Mo_form l_La_74 im_Mo_form sl_Mo_form d_La_law_183 (Nat.le_of_ble_eq_true rfl) rfl rfl rfl (Nat.le_of_ble_eq_true rfl) (lr B c (by decide)) (xm_mono (fun o g' na nb w => ?_) hM)
  obtain ⟨rfl, ⟨rfl, rfl⟩, I, e2⟩ := w
  show xg x (y0 u) nc ns 186 _ _ g'
  refine ra_aload_n A d_La_law_186 rfl <| ?_
  refine ra_callV (As := []) A ok_Mo_thrown l_La_75 im_Mo_thrown sl_Mo_thrown d_La_law_187 (Nat.le_of_ble_eq_true rfl) rfl rfl rfl (Nat.le_of_ble_eq_true rfl) (lr B c (by decide)) (s_Mo_thrown (KK0_ok u) ?_)
  show xg x (y0 u) nc ns 190 _ _ g'
  rw [show v_model_thrown g' = k from e2]
  refine ra_iload A d_La_law_190 rfl <| ?_
  refine ra_icmp_eq (q := 197) A d_La_law_192 (by decide) (fun _ => ?_) (fun cc => absurd (rfl) cc)
  refine ra_goto (q := 1199) A d_La_law_197 (by decide) <| ?_
  exact go g' _ _ _ I
theorem ca_La_form (B : LB x u sc N) (hi : a + 4 < N) (c' : LC x (nc + 1) (ns + 6)) (I : IV h) (go : ∀ g nc' ns' w5 w6 w7, IV g → nc' ≤ nc + 1 → ns' ≤ ns + 6 → xg x (y0 u) nc' ns' 1199 (LL a w5 w6 w7) [] g) : xg x (y0 u) nc ns 128 (LL a w5 w6 w7) [] h := by
  have A := B.1
  have c := c'.z
  refine ra_aload_n A d_La_law_128 rfl <| ?_
  refine la_arg B 1 1 (by omega) (by decide) d_La_law_129 d_La_law_130 d_La_law_132 d_La_law_133 d_La_law_134 ?_
  refine la_arg B 2 2 (by omega) (by decide) d_La_law_135 d_La_law_136 d_La_law_138 d_La_law_139 d_La_law_140 ?_
  refine la_arg B 3 3 (by omega) (by decide) d_La_law_141 d_La_law_142 d_La_law_144 d_La_law_145 d_La_law_146 ?_
  refine la_arg B 4 4 (by omega) (by decide) d_La_law_147 d_La_law_148 d_La_law_150 d_La_law_151 d_La_law_152 ?_
  refine ra_callSH (As := [_, _, _, _, _]) A okH_La_form l_La_69 st_La_form d_La_law_153 rfl (Nat.le_of_ble_eq_true rfl) (lr B c (by decide)) (o_form B.2.2.1 I (fun k g i e hi' he hM => t_La_form B hi (c'.s hi' he) hM (fun g w5 w6 w7 I => go g _ _ w5 w6 w7 I (by omega) (by omega))))
theorem t_La_sample {g : xw_H} {k : Int32} (B : LB x u sc N) (hi : a + 4 < N) (c : LC x nc ns) (hM : xm_M (xg_l x) (y0 u) (KK0 u) m_Mo_sample [.ref 141, .int (sc (a + 1)), .int (sc (a + 2))] g (PA k)) (go : ∀ g w5 w6 w7, IV g → xg x (y0 u) nc ns 1199 (LL a w5 w6 w7) [] g) : xg x (y0 u) nc ns 217 (LL a w5 w6 w7) [.int k] g := by
  have A := B.1
  refine ra_istore (L' := [_, _, _, _, _, _, _, _]) A d_La_law_217 (by decide) rfl <| ra_aload_n A d_La_law_219 rfl <| ?_
  refine la_arg B 1 1 (by omega) (by decide) d_La_law_220 d_La_law_221 d_La_law_223 d_La_law_224 d_La_law_225 ?_
  refine la_arg B 2 2 (by omega) (by decide) d_La_law_226 d_La_law_227 d_La_law_229 d_La_law_230 d_La_law_231 ?_
  refine ra_callV (As := [_, _]) A ok_Mo_sample l_La_82 im_Mo_sample sl_Mo_sample d_La_law_232 (Nat.le_of_ble_eq_true rfl) rfl rfl rfl (Nat.le_of_ble_eq_true rfl) (lr B c (by decide)) (xm_mono (fun o g' na nb w => ?_) hM)
  obtain ⟨bv, rfl, ⟨rfl, rfl⟩, I, e2, e3⟩ := w
  show xg x (y0 u) nc ns 235 _ _ g'
  refine ra_istore (L' := [_, _, _, _, _, _, _, _]) A d_La_law_235 (by decide) rfl <| ra_aload_n A d_La_law_237 rfl <| ?_
  refine ra_callV (As := []) A ok_Mo_thrown l_La_75 im_Mo_thrown sl_Mo_thrown d_La_law_238 (Nat.le_of_ble_eq_true rfl) rfl rfl rfl (Nat.le_of_ble_eq_true rfl) (lr B c (by decide)) (s_Mo_thrown (KK0_ok u) ?_)
  show xg x (y0 u) nc ns 241 _ _ g'
  rw [show v_model_thrown g' = k from e2]
  refine ra_iload A d_La_law_241 rfl <| ?_
  refine ra_icmp_eq (q := 248) A d_La_law_243 (by decide) (fun _ => ?_) (fun cc => absurd (rfl) cc)
  refine ra_iload A d_La_law_248 rfl <| ?_
  by_cases z : k = 0
  · refine ra_if_ne (q := 265) A d_La_law_250 (by decide) (fun cc => absurd (z) cc) (fun _ => ?_)
    refine ra_aload_n A d_La_law_253 rfl <| ra_iconst A 0 d_La_law_254 (by decide) <| ?_
    refine ra_laload A d_La_law_255 (Nat.le_of_ble_eq_true rfl) rfl (vp_in_nI (n := 0) (by decide) (by decide)) ?_
    rw [show g'.2 156 (Int32.toNatClampNeg 0) = bv.toInt64 from e3 z]
    refine ra_iload A d_La_law_256 rfl <| ra_i2l A d_La_law_258 <| ra_lcmp A d_La_law_259 <| ?_
    refine ra_if_eq (q := 265) A d_La_law_260 (by decide) (fun _ => ?_) (fun cc => absurd (lg_self _) cc)
    refine ra_goto (q := 1199) A d_La_law_265 (by decide) <| ?_
    exact go g' _ _ _ I
  · refine ra_if_ne (q := 265) A d_La_law_250 (by decide) (fun _ => ?_) (fun cc => absurd cc (z))
    refine ra_goto (q := 1199) A d_La_law_265 (by decide) <| ?_
    exact go g' _ _ _ I
theorem ca_La_sample (B : LB x u sc N) (hi : a + 4 < N) (c' : LC x (nc + 1) (ns + 6)) (I : IV h) (go : ∀ g nc' ns' w5 w6 w7, IV g → nc' ≤ nc + 1 → ns' ≤ ns + 6 → xg x (y0 u) nc' ns' 1199 (LL a w5 w6 w7) [] g) : xg x (y0 u) nc ns 200 (LL a w5 w6 w7) [] h := by
  have A := B.1
  have c := c'.z
  refine ra_aload_n A d_La_law_200 rfl <| ?_
  refine la_arg B 1 1 (by omega) (by decide) d_La_law_201 d_La_law_202 d_La_law_204 d_La_law_205 d_La_law_206 ?_
  refine la_arg B 2 2 (by omega) (by decide) d_La_law_207 d_La_law_208 d_La_law_210 d_La_law_211 d_La_law_212 ?_
  refine ra_aload_n A d_La_law_213 rfl <| ?_
  refine ra_callSH (As := [_, _, _, _]) A okH_La_sample l_La_79 st_La_sample d_La_law_214 rfl (Nat.le_of_ble_eq_true rfl) (lr B c (by decide)) (o_sample B.2.2.1 I (fun k g i e hi' he hM => t_La_sample B hi (c'.s hi' he) hM (fun g w5 w6 w7 I => go g _ _ w5 w6 w7 I (by omega) (by omega))))
theorem t_La_ramp {g : xw_H} {k : Int32} (B : LB x u sc N) (hi : a + 4 < N) (c : LC x nc ns) (hM : xm_M (xg_l x) (y0 u) (KK0 u) m_Mo_ramp [.ref 141, .int (sc (a + 1)), .int (sc (a + 2)), .int (sc (a + 3)), .int (sc (a + 4))] g (PA k)) (go : ∀ g w5 w6 w7, IV g → xg x (y0 u) nc ns 1199 (LL a w5 w6 w7) [] g) : xg x (y0 u) nc ns 297 (LL a w5 w6 w7) [.int k] g := by
  have A := B.1
  refine ra_istore (L' := [_, _, _, _, _, _, _, _]) A d_La_law_297 (by decide) rfl <| ra_aload_n A d_La_law_299 rfl <| ?_
  refine la_arg B 1 1 (by omega) (by decide) d_La_law_300 d_La_law_301 d_La_law_303 d_La_law_304 d_La_law_305 ?_
  refine la_arg B 2 2 (by omega) (by decide) d_La_law_306 d_La_law_307 d_La_law_309 d_La_law_310 d_La_law_311 ?_
  refine la_arg B 3 3 (by omega) (by decide) d_La_law_312 d_La_law_313 d_La_law_315 d_La_law_316 d_La_law_317 ?_
  refine la_arg B 4 4 (by omega) (by decide) d_La_law_318 d_La_law_319 d_La_law_321 d_La_law_322 d_La_law_323 ?_
  refine ra_callV (As := [_, _, _, _]) A ok_Mo_ramp l_La_86 im_Mo_ramp sl_Mo_ramp d_La_law_324 (Nat.le_of_ble_eq_true rfl) rfl rfl rfl (Nat.le_of_ble_eq_true rfl) (lr B c (by decide)) (xm_mono (fun o g' na nb w => ?_) hM)
  obtain ⟨bv, rfl, ⟨rfl, rfl⟩, I, e2, e3⟩ := w
  show xg x (y0 u) nc ns 327 _ _ g'
  refine ra_istore (L' := [_, _, _, _, _, _, _, _]) A d_La_law_327 (by decide) rfl <| ra_aload_n A d_La_law_329 rfl <| ?_
  refine ra_callV (As := []) A ok_Mo_thrown l_La_75 im_Mo_thrown sl_Mo_thrown d_La_law_330 (Nat.le_of_ble_eq_true rfl) rfl rfl rfl (Nat.le_of_ble_eq_true rfl) (lr B c (by decide)) (s_Mo_thrown (KK0_ok u) ?_)
  show xg x (y0 u) nc ns 333 _ _ g'
  rw [show v_model_thrown g' = k from e2]
  refine ra_iload A d_La_law_333 rfl <| ?_
  refine ra_icmp_eq (q := 340) A d_La_law_335 (by decide) (fun _ => ?_) (fun cc => absurd (rfl) cc)
  refine ra_iload A d_La_law_340 rfl <| ?_
  by_cases z : k = 0
  · refine ra_if_ne (q := 357) A d_La_law_342 (by decide) (fun cc => absurd (z) cc) (fun _ => ?_)
    refine ra_aload_n A d_La_law_345 rfl <| ra_iconst A 0 d_La_law_346 (by decide) <| ?_
    refine ra_laload A d_La_law_347 (Nat.le_of_ble_eq_true rfl) rfl (vp_in_nI (n := 0) (by decide) (by decide)) ?_
    rw [show g'.2 156 (Int32.toNatClampNeg 0) = bv.toInt64 from e3 z]
    refine ra_iload A d_La_law_348 rfl <| ra_i2l A d_La_law_350 <| ra_lcmp A d_La_law_351 <| ?_
    refine ra_if_eq (q := 357) A d_La_law_352 (by decide) (fun _ => ?_) (fun cc => absurd (lg_self _) cc)
    refine ra_goto (q := 1199) A d_La_law_357 (by decide) <| ?_
    exact go g' _ _ _ I
  · refine ra_if_ne (q := 357) A d_La_law_342 (by decide) (fun _ => ?_) (fun cc => absurd cc (z))
    refine ra_goto (q := 1199) A d_La_law_357 (by decide) <| ?_
    exact go g' _ _ _ I
theorem ca_La_ramp (B : LB x u sc N) (hi : a + 4 < N) (c' : LC x (nc + 1) (ns + 6)) (I : IV h) (go : ∀ g nc' ns' w5 w6 w7, IV g → nc' ≤ nc + 1 → ns' ≤ ns + 6 → xg x (y0 u) nc' ns' 1199 (LL a w5 w6 w7) [] g) : xg x (y0 u) nc ns 268 (LL a w5 w6 w7) [] h := by
  have A := B.1
  have c := c'.z
  refine ra_aload_n A d_La_law_268 rfl <| ?_
  refine la_arg B 1 1 (by omega) (by decide) d_La_law_269 d_La_law_270 d_La_law_272 d_La_law_273 d_La_law_274 ?_
  refine la_arg B 2 2 (by omega) (by decide) d_La_law_275 d_La_law_276 d_La_law_278 d_La_law_279 d_La_law_280 ?_
  refine la_arg B 3 3 (by omega) (by decide) d_La_law_281 d_La_law_282 d_La_law_284 d_La_law_285 d_La_law_286 ?_
  refine la_arg B 4 4 (by omega) (by decide) d_La_law_287 d_La_law_288 d_La_law_290 d_La_law_291 d_La_law_292 ?_
  refine ra_aload_n A d_La_law_293 rfl <| ?_
  refine ra_callSH (As := [_, _, _, _, _, _]) A okH_La_ramp l_La_83 st_La_ramp d_La_law_294 rfl (Nat.le_of_ble_eq_true rfl) (lr B c (by decide)) (o_ramp B.2.2.1 I (fun k g i e hi' he hM => t_La_ramp B hi (c'.s hi' he) hM (fun g w5 w6 w7 I => go g _ _ w5 w6 w7 I (by omega) (by omega))))
theorem t_La_noise {g : xw_H} {k : Int32} (B : LB x u sc N) (hi : a + 4 < N) (c : LC x nc ns) (hM : xm_M (xg_l x) (y0 u) (KK0 u) m_Mo_noise [.ref 141, .int (sc (a + 1)), .int (sc (a + 2)), .int (sc (a + 3)), .int (sc (a + 4))] g (PA k)) (go : ∀ g w5 w6 w7, IV g → xg x (y0 u) nc ns 1199 (LL a w5 w6 w7) [] g) : xg x (y0 u) nc ns 389 (LL a w5 w6 w7) [.int k] g := by
  have A := B.1
  refine ra_istore (L' := [_, _, _, _, _, _, _, _]) A d_La_law_389 (by decide) rfl <| ra_aload_n A d_La_law_391 rfl <| ?_
  refine la_arg B 1 1 (by omega) (by decide) d_La_law_392 d_La_law_393 d_La_law_395 d_La_law_396 d_La_law_397 ?_
  refine la_arg B 2 2 (by omega) (by decide) d_La_law_398 d_La_law_399 d_La_law_401 d_La_law_402 d_La_law_403 ?_
  refine la_arg B 3 3 (by omega) (by decide) d_La_law_404 d_La_law_405 d_La_law_407 d_La_law_408 d_La_law_409 ?_
  refine la_arg B 4 4 (by omega) (by decide) d_La_law_410 d_La_law_411 d_La_law_413 d_La_law_414 d_La_law_415 ?_
  refine ra_callV (As := [_, _, _, _]) A ok_Mo_noise l_La_89 im_Mo_noise sl_Mo_noise d_La_law_416 (Nat.le_of_ble_eq_true rfl) rfl rfl rfl (Nat.le_of_ble_eq_true rfl) (lr B c (by decide)) (xm_mono (fun o g' na nb w => ?_) hM)
  obtain ⟨bv, rfl, ⟨rfl, rfl⟩, I, e2, e3⟩ := w
  show xg x (y0 u) nc ns 419 _ _ g'
  refine ra_istore (L' := [_, _, _, _, _, _, _, _]) A d_La_law_419 (by decide) rfl <| ra_aload_n A d_La_law_421 rfl <| ?_
  refine ra_callV (As := []) A ok_Mo_thrown l_La_75 im_Mo_thrown sl_Mo_thrown d_La_law_422 (Nat.le_of_ble_eq_true rfl) rfl rfl rfl (Nat.le_of_ble_eq_true rfl) (lr B c (by decide)) (s_Mo_thrown (KK0_ok u) ?_)
  show xg x (y0 u) nc ns 425 _ _ g'
  rw [show v_model_thrown g' = k from e2]
  refine ra_iload A d_La_law_425 rfl <| ?_
  refine ra_icmp_eq (q := 432) A d_La_law_427 (by decide) (fun _ => ?_) (fun cc => absurd (rfl) cc)
  refine ra_iload A d_La_law_432 rfl <| ?_
  by_cases z : k = 0
  · refine ra_if_ne (q := 449) A d_La_law_434 (by decide) (fun cc => absurd (z) cc) (fun _ => ?_)
    refine ra_aload_n A d_La_law_437 rfl <| ra_iconst A 0 d_La_law_438 (by decide) <| ?_
    refine ra_laload A d_La_law_439 (Nat.le_of_ble_eq_true rfl) rfl (vp_in_nI (n := 0) (by decide) (by decide)) ?_
    rw [show g'.2 156 (Int32.toNatClampNeg 0) = bv.toInt64 from e3 z]
    refine ra_iload A d_La_law_440 rfl <| ra_i2l A d_La_law_442 <| ra_lcmp A d_La_law_443 <| ?_
    refine ra_if_eq (q := 449) A d_La_law_444 (by decide) (fun _ => ?_) (fun cc => absurd (lg_self _) cc)
    refine ra_goto (q := 1199) A d_La_law_449 (by decide) <| ?_
    exact go g' _ _ _ I
  · refine ra_if_ne (q := 449) A d_La_law_434 (by decide) (fun _ => ?_) (fun cc => absurd cc (z))
    refine ra_goto (q := 1199) A d_La_law_449 (by decide) <| ?_
    exact go g' _ _ _ I
theorem ca_La_noise (B : LB x u sc N) (hi : a + 4 < N) (c' : LC x (nc + 1) (ns + 6)) (I : IV h) (go : ∀ g nc' ns' w5 w6 w7, IV g → nc' ≤ nc + 1 → ns' ≤ ns + 6 → xg x (y0 u) nc' ns' 1199 (LL a w5 w6 w7) [] g) : xg x (y0 u) nc ns 360 (LL a w5 w6 w7) [] h := by
  have A := B.1
  have c := c'.z
  refine ra_aload_n A d_La_law_360 rfl <| ?_
  refine la_arg B 1 1 (by omega) (by decide) d_La_law_361 d_La_law_362 d_La_law_364 d_La_law_365 d_La_law_366 ?_
  refine la_arg B 2 2 (by omega) (by decide) d_La_law_367 d_La_law_368 d_La_law_370 d_La_law_371 d_La_law_372 ?_
  refine la_arg B 3 3 (by omega) (by decide) d_La_law_373 d_La_law_374 d_La_law_376 d_La_law_377 d_La_law_378 ?_
  refine la_arg B 4 4 (by omega) (by decide) d_La_law_379 d_La_law_380 d_La_law_382 d_La_law_383 d_La_law_384 ?_
  refine ra_aload_n A d_La_law_385 rfl <| ?_
  refine ra_callSH (As := [_, _, _, _, _, _]) A okH_La_noise l_La_87 st_La_noise d_La_law_386 rfl (Nat.le_of_ble_eq_true rfl) (lr B c (by decide)) (o_noise B.2.2.1 I (fun k g i e hi' he hM => t_La_noise B hi (c'.s hi' he) hM (fun g w5 w6 w7 I => go g _ _ w5 w6 w7 I (by omega) (by omega))))
theorem ca_La_clear (B : LB x u sc N) (hi : a + 4 < N) (c' : LC x (nc + 1) (ns + 6)) (I : IV h) (go : ∀ g nc' ns' w5 w6 w7, IV g → nc' ≤ nc + 1 → ns' ≤ ns + 6 → xg x (y0 u) nc' ns' 1199 (LL a w5 w6 w7) [] g) : xg x (y0 u) nc ns 452 (LL a w5 w6 w7) [] h := by
  have A := B.1
  have c := c'.z
  refine ra_aload_n A d_La_law_452 rfl <| ?_
  refine ra_callV (As := []) A ok_SS_clear l_La_90 im_SS_clear sl_SS_clear d_La_law_453 (Nat.le_of_ble_eq_true rfl) rfl rfl rfl (Nat.le_of_ble_eq_true rfl) (lr B c (by decide)) (o_clear I (fun g hM => ?_))
  show xg x (y0 u) nc ns 456 _ _ g
  refine ra_aload_n A d_La_law_456 rfl <| ?_
  refine ra_callV (As := []) A ok_Mo_clear l_La_93 im_Mo_clear sl_Mo_clear d_La_law_457 (Nat.le_of_ble_eq_true rfl) rfl rfl rfl (Nat.le_of_ble_eq_true rfl) (lr B c (by decide)) (xm_mono (fun o g' na nb w => ?_) hM)
  obtain ⟨rfl, ⟨rfl, rfl⟩, I'⟩ := w
  show xg x (y0 u) nc ns 460 _ _ g'
  refine ra_goto (q := 1199) A d_La_law_460 (by decide) <| ?_
  exact go g' _ _ _ _ _ I' (by omega) (by omega)
theorem t_La_at {g : xw_H} {k : Int32} (B : LB x u sc N) (hi : a + 4 < N) (c : LC x nc ns) (hM : xm_M (xg_l x) (y0 u) (KK0 u) m_Mo_at [.ref 141, .int (sc (a + 1)), .int (sc (a + 2))] g (PA k)) (go : ∀ g w5 w6 w7, IV g → xg x (y0 u) nc ns 1199 (LL a w5 w6 w7) [] g) : xg x (y0 u) nc ns 480 (LL a w5 w6 w7) [.int k] g := by
  have A := B.1
  refine ra_istore (L' := [_, _, _, _, _, _, _, _]) A d_La_law_480 (by decide) rfl <| ra_aload_n A d_La_law_482 rfl <| ?_
  refine la_arg B 1 1 (by omega) (by decide) d_La_law_483 d_La_law_484 d_La_law_486 d_La_law_487 d_La_law_488 ?_
  refine la_arg B 2 2 (by omega) (by decide) d_La_law_489 d_La_law_490 d_La_law_492 d_La_law_493 d_La_law_494 ?_
  refine ra_callV (As := [_, _]) A ok_Mo_at l_La_96 im_Mo_at sl_Mo_at d_La_law_495 (Nat.le_of_ble_eq_true rfl) rfl rfl rfl (Nat.le_of_ble_eq_true rfl) (lr B c (by decide)) (xm_mono (fun o g' na nb w => ?_) hM)
  obtain ⟨bv, rfl, ⟨rfl, rfl⟩, I, e2, e3⟩ := w
  show xg x (y0 u) nc ns 498 _ _ g'
  refine ra_istore (L' := [_, _, _, _, _, _, _, _]) A d_La_law_498 (by decide) rfl <| ra_aload_n A d_La_law_500 rfl <| ?_
  refine ra_callV (As := []) A ok_Mo_thrown l_La_75 im_Mo_thrown sl_Mo_thrown d_La_law_501 (Nat.le_of_ble_eq_true rfl) rfl rfl rfl (Nat.le_of_ble_eq_true rfl) (lr B c (by decide)) (s_Mo_thrown (KK0_ok u) ?_)
  show xg x (y0 u) nc ns 504 _ _ g'
  rw [show v_model_thrown g' = k from e2]
  refine ra_iload A d_La_law_504 rfl <| ?_
  refine ra_icmp_eq (q := 511) A d_La_law_506 (by decide) (fun _ => ?_) (fun cc => absurd (rfl) cc)
  refine ra_iload A d_La_law_511 rfl <| ?_
  by_cases z : k = 0
  · refine ra_if_ne (q := 528) A d_La_law_513 (by decide) (fun cc => absurd (z) cc) (fun _ => ?_)
    refine ra_aload_n A d_La_law_516 rfl <| ra_iconst A 0 d_La_law_517 (by decide) <| ?_
    refine ra_laload A d_La_law_518 (Nat.le_of_ble_eq_true rfl) rfl (vp_in_nI (n := 0) (by decide) (by decide)) ?_
    rw [show g'.2 156 (Int32.toNatClampNeg 0) = bv.toInt64 from e3 z]
    refine ra_iload A d_La_law_519 rfl <| ra_i2l A d_La_law_521 <| ra_lcmp A d_La_law_522 <| ?_
    refine ra_if_eq (q := 528) A d_La_law_523 (by decide) (fun _ => ?_) (fun cc => absurd (lg_self _) cc)
    refine ra_goto (q := 1199) A d_La_law_528 (by decide) <| ?_
    exact go g' _ _ _ I
  · refine ra_if_ne (q := 528) A d_La_law_513 (by decide) (fun _ => ?_) (fun cc => absurd cc (z))
    refine ra_goto (q := 1199) A d_La_law_528 (by decide) <| ?_
    exact go g' _ _ _ I
theorem ca_La_at (B : LB x u sc N) (hi : a + 4 < N) (c' : LC x (nc + 1) (ns + 6)) (I : IV h) (go : ∀ g nc' ns' w5 w6 w7, IV g → nc' ≤ nc + 1 → ns' ≤ ns + 6 → xg x (y0 u) nc' ns' 1199 (LL a w5 w6 w7) [] g) : xg x (y0 u) nc ns 463 (LL a w5 w6 w7) [] h := by
  have A := B.1
  have c := c'.z
  refine ra_aload_n A d_La_law_463 rfl <| ?_
  refine la_arg B 1 1 (by omega) (by decide) d_La_law_464 d_La_law_465 d_La_law_467 d_La_law_468 d_La_law_469 ?_
  refine la_arg B 2 2 (by omega) (by decide) d_La_law_470 d_La_law_471 d_La_law_473 d_La_law_474 d_La_law_475 ?_
  refine ra_aload_n A d_La_law_476 rfl <| ?_
  refine ra_callSH (As := [_, _, _, _]) A okH_La_at l_La_94 st_La_at d_La_law_477 rfl (Nat.le_of_ble_eq_true rfl) (lr B c (by decide)) (o_at B.2.2.1 I (fun k g i e hi' he hM => t_La_at B hi (c'.s hi' he) hM (fun g w5 w6 w7 I => go g _ _ w5 w6 w7 I (by omega) (by omega))))
theorem t_La_sum {g : xw_H} {k : Int32} (B : LB x u sc N) (hi : a + 4 < N) (c : LC x nc ns) (hM : xm_M (xg_l x) (y0 u) (KK0 u) m_Mo_sum [.ref 141, .int (sc (a + 1))] g (PL k)) (go : ∀ g w5 w6 w7, IV g → xg x (y0 u) nc ns 1199 (LL a w5 w6 w7) [] g) : xg x (y0 u) nc ns 542 (LL a w5 w6 w7) [.int k] g := by
  have A := B.1
  refine ra_istore (L' := [_, _, _, _, _, _, _, _]) A d_La_law_542 (by decide) rfl <| ra_aload_n A d_La_law_544 rfl <| ?_
  refine la_arg B 1 1 (by omega) (by decide) d_La_law_545 d_La_law_546 d_La_law_548 d_La_law_549 d_La_law_550 ?_
  refine ra_callV (As := [_]) A ok_Mo_sum l_La_100 im_Mo_sum sl_Mo_sum d_La_law_551 (Nat.le_of_ble_eq_true rfl) rfl rfl rfl (Nat.le_of_ble_eq_true rfl) (lr B c (by decide)) (xm_mono (fun o g' na nb w => ?_) hM)
  obtain ⟨bv, rfl, ⟨rfl, rfl⟩, I, e2, e3⟩ := w
  show xg x (y0 u) nc ns 554 _ _ g'
  refine ra_lstore (L' := [_, _, _, _, _, _, _, _]) A d_La_law_554 (by decide) rfl <| ra_aload_n A d_La_law_556 rfl <| ?_
  refine ra_callV (As := []) A ok_Mo_thrown l_La_75 im_Mo_thrown sl_Mo_thrown d_La_law_557 (Nat.le_of_ble_eq_true rfl) rfl rfl rfl (Nat.le_of_ble_eq_true rfl) (lr B c (by decide)) (s_Mo_thrown (KK0_ok u) ?_)
  show xg x (y0 u) nc ns 560 _ _ g'
  rw [show v_model_thrown g' = k from e2]
  refine ra_iload A d_La_law_560 rfl <| ?_
  refine ra_icmp_eq (q := 567) A d_La_law_562 (by decide) (fun _ => ?_) (fun cc => absurd (rfl) cc)
  refine ra_iload A d_La_law_567 rfl <| ?_
  by_cases z : k = 0
  · refine ra_if_ne (q := 583) A d_La_law_569 (by decide) (fun cc => absurd (z) cc) (fun _ => ?_)
    refine ra_aload_n A d_La_law_572 rfl <| ra_iconst A 0 d_La_law_573 (by decide) <| ?_
    refine ra_laload A d_La_law_574 (Nat.le_of_ble_eq_true rfl) rfl (vp_in_nI (n := 0) (by decide) (by decide)) ?_
    rw [show g'.2 156 (Int32.toNatClampNeg 0) = bv from e3 z]
    refine ra_lload A d_La_law_575 rfl <| ra_lcmp A d_La_law_577 <| ?_
    refine ra_if_eq (q := 583) A d_La_law_578 (by decide) (fun _ => ?_) (fun cc => absurd (lg_self _) cc)
    refine ra_goto (q := 1199) A d_La_law_583 (by decide) <| ?_
    exact go g' _ _ _ I
  · refine ra_if_ne (q := 583) A d_La_law_569 (by decide) (fun _ => ?_) (fun cc => absurd cc (z))
    refine ra_goto (q := 1199) A d_La_law_583 (by decide) <| ?_
    exact go g' _ _ _ I
theorem ca_La_sum (B : LB x u sc N) (hi : a + 4 < N) (c' : LC x (nc + 1) (ns + 6)) (I : IV h) (go : ∀ g nc' ns' w5 w6 w7, IV g → nc' ≤ nc + 1 → ns' ≤ ns + 6 → xg x (y0 u) nc' ns' 1199 (LL a w5 w6 w7) [] g) : xg x (y0 u) nc ns 531 (LL a w5 w6 w7) [] h := by
  have A := B.1
  have c := c'.z
  refine ra_aload_n A d_La_law_531 rfl <| ?_
  refine la_arg B 1 1 (by omega) (by decide) d_La_law_532 d_La_law_533 d_La_law_535 d_La_law_536 d_La_law_537 ?_
  refine ra_aload_n A d_La_law_538 rfl <| ?_
  refine ra_callSH (As := [_, _, _]) A okH_La_sum l_La_97 st_La_sum d_La_law_539 rfl (Nat.le_of_ble_eq_true rfl) (lr B c (by decide)) (o_sum B.2.2.1 I (fun k g i e hi' he hM => t_La_sum B hi (c'.s hi' he) hM (fun g w5 w6 w7 I => go g _ _ w5 w6 w7 I (by omega) (by omega))))
theorem t_La_encode {g : xw_H} {k : Int32} {v : Bool} (hv : v = decide (¬ sc (a + 1) = 0)) (B : LB x u sc N) (hi : a + 4 < N) (c : LC x nc ns) (hM : xm_M (xg_l x) (y0 u) (KK0 u) m_Mo_encode [.ref 141, .int (bz v)] g (PA k)) (go : ∀ g w5 w6 w7, IV g → xg x (y0 u) nc ns 1199 (LL a w5 w6 w7) [] g) : xg x (y0 u) nc ns 605 (LL a w5 w6 w7) [.int k] g := by
  have A := B.1
  refine ra_istore (L' := [_, _, _, _, _, _, _, _]) A d_La_law_605 (by decide) rfl <| ra_aload_n A d_La_law_607 rfl <| ?_
  refine la_arg B 1 1 (by omega) (by decide) d_La_law_608 d_La_law_609 d_La_law_611 d_La_law_612 d_La_law_613 ?_
  have top : xg x (y0 u) nc ns 622 (LL a (some (.int k)) w6 w7) [.int (bz v), .ref 141] g := by
    refine ra_callV (As := [_]) A ok_Mo_encode l_La_104 im_Mo_encode sl_Mo_encode d_La_law_622 (Nat.le_of_ble_eq_true rfl) rfl rfl rfl (Nat.le_of_ble_eq_true rfl) (lr B c (by decide)) (xm_mono (fun o g' na nb w => ?_) hM)
    obtain ⟨bv, rfl, ⟨rfl, rfl⟩, I, e2, e3⟩ := w
    show xg x (y0 u) nc ns 625 _ _ g'
    refine ra_istore (L' := [_, _, _, _, _, _, _, _]) A d_La_law_625 (by decide) rfl <| ra_aload_n A d_La_law_627 rfl <| ?_
    refine ra_callV (As := []) A ok_Mo_thrown l_La_75 im_Mo_thrown sl_Mo_thrown d_La_law_628 (Nat.le_of_ble_eq_true rfl) rfl rfl rfl (Nat.le_of_ble_eq_true rfl) (lr B c (by decide)) (s_Mo_thrown (KK0_ok u) ?_)
    show xg x (y0 u) nc ns 631 _ _ g'
    rw [show v_model_thrown g' = k from e2]
    refine ra_iload A d_La_law_631 rfl <| ?_
    refine ra_icmp_eq (q := 638) A d_La_law_633 (by decide) (fun _ => ?_) (fun cc => absurd (rfl) cc)
    refine ra_iload A d_La_law_638 rfl <| ?_
    by_cases z : k = 0
    · refine ra_if_ne (q := 655) A d_La_law_640 (by decide) (fun cc => absurd (z) cc) (fun _ => ?_)
      refine ra_aload_n A d_La_law_643 rfl <| ra_iconst A 0 d_La_law_644 (by decide) <| ?_
      refine ra_laload A d_La_law_645 (Nat.le_of_ble_eq_true rfl) rfl (vp_in_nI (n := 0) (by decide) (by decide)) ?_
      rw [show g'.2 156 (Int32.toNatClampNeg 0) = bv.toInt64 from e3 z]
      refine ra_iload A d_La_law_646 rfl <| ra_i2l A d_La_law_648 <| ra_lcmp A d_La_law_649 <| ?_
      refine ra_if_eq (q := 655) A d_La_law_650 (by decide) (fun _ => ?_) (fun cc => absurd (lg_self _) cc)
      refine ra_goto (q := 1199) A d_La_law_655 (by decide) <| ?_
      exact go g' _ _ _ I
    · refine ra_if_ne (q := 655) A d_La_law_640 (by decide) (fun _ => ?_) (fun cc => absurd cc (z))
      refine ra_goto (q := 1199) A d_La_law_655 (by decide) <| ?_
      exact go g' _ _ _ I
  by_cases z : sc (a + 1) = 0
  · refine ra_if_eq (q := 621) A d_La_law_614 (by decide) (fun _ => ?_) (fun cc => absurd (z) cc)
    refine ra_iconst A 0 d_La_law_621 (by decide) <| ?_
    rw [show v = false by rw [hv]; simp [z]] at top
    exact top
  · refine ra_if_eq (q := 621) A d_La_law_614 (by decide) (fun cc => absurd cc (z)) (fun _ => ?_)
    refine ra_iconst A 1 d_La_law_617 (by decide) <| ra_goto (q := 622) A d_La_law_618 (by decide) <| ?_
    rw [show v = true by rw [hv]; simp [z]] at top
    exact top
theorem ca_La_encode (B : LB x u sc N) (hi : a + 4 < N) (c' : LC x (nc + 1) (ns + 6)) (I : IV h) (go : ∀ g nc' ns' w5 w6 w7, IV g → nc' ≤ nc + 1 → ns' ≤ ns + 6 → xg x (y0 u) nc' ns' 1199 (LL a w5 w6 w7) [] g) : xg x (y0 u) nc ns 586 (LL a w5 w6 w7) [] h := by
  have A := B.1
  have c := c'.z
  refine ra_aload_n A d_La_law_586 rfl <| ?_
  refine la_arg B 1 1 (by omega) (by decide) d_La_law_587 d_La_law_588 d_La_law_590 d_La_law_591 d_La_law_592 ?_
  have top : xg x (y0 u) nc ns 601 (LL a w5 w6 w7) [.int (bz (decide (¬ sc (a + 1) = 0))), .ref 0] h := by
    refine ra_aload_n A d_La_law_601 rfl <| ?_
    refine ra_callSH (As := [_, _, _]) A okH_La_encode l_La_101 st_La_encode d_La_law_602 rfl (Nat.le_of_ble_eq_true rfl) (lr B c (by decide)) (o_encode B.2.2.1 I (fun k g i e hi' he hM => t_La_encode rfl B hi (c'.s hi' he) hM (fun g w5 w6 w7 I => go g _ _ w5 w6 w7 I (by omega) (by omega))))
  by_cases z : sc (a + 1) = 0
  · refine ra_if_eq (q := 600) A d_La_law_593 (by decide) (fun _ => ?_) (fun cc => absurd (z) cc)
    refine ra_iconst A 0 d_La_law_600 (by decide) <| ?_
    rw [show decide (¬ sc (a + 1) = 0) = false by simp [z]] at top
    exact top
  · refine ra_if_eq (q := 600) A d_La_law_593 (by decide) (fun cc => absurd cc (z)) (fun _ => ?_)
    refine ra_iconst A 1 d_La_law_596 (by decide) <| ra_goto (q := 601) A d_La_law_597 (by decide) <| ?_
    rw [show decide (¬ sc (a + 1) = 0) = true by simp [z]] at top
    exact top
theorem t_La_told {g : xw_H} {k : Int32} (B : LB x u sc N) (hi : a + 4 < N) (c : LC x nc ns) (hM : xm_M (xg_l x) (y0 u) (KK0 u) m_Mo_told [.ref 141, .int (sc (a + 1))] g (PA k)) (go : ∀ g w5 w6 w7, IV g → xg x (y0 u) nc ns 1199 (LL a w5 w6 w7) [] g) : xg x (y0 u) nc ns 669 (LL a w5 w6 w7) [.int k] g := by
  have A := B.1
  refine ra_istore (L' := [_, _, _, _, _, _, _, _]) A d_La_law_669 (by decide) rfl <| ra_aload_n A d_La_law_671 rfl <| ?_
  refine la_arg B 1 1 (by omega) (by decide) d_La_law_672 d_La_law_673 d_La_law_675 d_La_law_676 d_La_law_677 ?_
  refine ra_callV (As := [_]) A ok_Mo_told l_La_107 im_Mo_told sl_Mo_told d_La_law_678 (Nat.le_of_ble_eq_true rfl) rfl rfl rfl (Nat.le_of_ble_eq_true rfl) (lr B c (by decide)) (xm_mono (fun o g' na nb w => ?_) hM)
  obtain ⟨bv, rfl, ⟨rfl, rfl⟩, I, e2, e3⟩ := w
  show xg x (y0 u) nc ns 681 _ _ g'
  refine ra_istore (L' := [_, _, _, _, _, _, _, _]) A d_La_law_681 (by decide) rfl <| ra_aload_n A d_La_law_683 rfl <| ?_
  refine ra_callV (As := []) A ok_Mo_thrown l_La_75 im_Mo_thrown sl_Mo_thrown d_La_law_684 (Nat.le_of_ble_eq_true rfl) rfl rfl rfl (Nat.le_of_ble_eq_true rfl) (lr B c (by decide)) (s_Mo_thrown (KK0_ok u) ?_)
  show xg x (y0 u) nc ns 687 _ _ g'
  rw [show v_model_thrown g' = k from e2]
  refine ra_iload A d_La_law_687 rfl <| ?_
  refine ra_icmp_eq (q := 694) A d_La_law_689 (by decide) (fun _ => ?_) (fun cc => absurd (rfl) cc)
  refine ra_iload A d_La_law_694 rfl <| ?_
  by_cases z : k = 0
  · refine ra_if_ne (q := 711) A d_La_law_696 (by decide) (fun cc => absurd (z) cc) (fun _ => ?_)
    refine ra_aload_n A d_La_law_699 rfl <| ra_iconst A 0 d_La_law_700 (by decide) <| ?_
    refine ra_laload A d_La_law_701 (Nat.le_of_ble_eq_true rfl) rfl (vp_in_nI (n := 0) (by decide) (by decide)) ?_
    rw [show g'.2 156 (Int32.toNatClampNeg 0) = bv.toInt64 from e3 z]
    refine ra_iload A d_La_law_702 rfl <| ra_i2l A d_La_law_704 <| ra_lcmp A d_La_law_705 <| ?_
    refine ra_if_eq (q := 711) A d_La_law_706 (by decide) (fun _ => ?_) (fun cc => absurd (lg_self _) cc)
    refine ra_goto (q := 1199) A d_La_law_711 (by decide) <| ?_
    exact go g' _ _ _ I
  · refine ra_if_ne (q := 711) A d_La_law_696 (by decide) (fun _ => ?_) (fun cc => absurd cc (z))
    refine ra_goto (q := 1199) A d_La_law_711 (by decide) <| ?_
    exact go g' _ _ _ I
theorem ca_La_told (B : LB x u sc N) (hi : a + 4 < N) (c' : LC x (nc + 1) (ns + 6)) (I : IV h) (go : ∀ g nc' ns' w5 w6 w7, IV g → nc' ≤ nc + 1 → ns' ≤ ns + 6 → xg x (y0 u) nc' ns' 1199 (LL a w5 w6 w7) [] g) : xg x (y0 u) nc ns 658 (LL a w5 w6 w7) [] h := by
  have A := B.1
  have c := c'.z
  refine ra_aload_n A d_La_law_658 rfl <| ?_
  refine la_arg B 1 1 (by omega) (by decide) d_La_law_659 d_La_law_660 d_La_law_662 d_La_law_663 d_La_law_664 ?_
  refine ra_aload_n A d_La_law_665 rfl <| ?_
  refine ra_callSH (As := [_, _, _]) A okH_La_told l_La_105 st_La_told d_La_law_666 rfl (Nat.le_of_ble_eq_true rfl) (lr B c (by decide)) (o_told B.2.2.1 I (fun k g i e hi' he hM => t_La_told B hi (c'.s hi' he) hM (fun g w5 w6 w7 I => go g _ _ w5 w6 w7 I (by omega) (by omega))))
theorem t_La_frame {g : xw_H} {k : Int32} (B : LB x u sc N) (hi : a + 4 < N) (c : LC x nc ns) (hM : xm_M (xg_l x) (y0 u) (KK0 u) m_Mo_frame [.ref 141, .int (sc (a + 1)), .int (sc (a + 2))] g (PA k)) (go : ∀ g w5 w6 w7, IV g → xg x (y0 u) nc ns 1199 (LL a w5 w6 w7) [] g) : xg x (y0 u) nc ns 731 (LL a w5 w6 w7) [.int k] g := by
  have A := B.1
  refine ra_istore (L' := [_, _, _, _, _, _, _, _]) A d_La_law_731 (by decide) rfl <| ra_aload_n A d_La_law_733 rfl <| ?_
  refine la_arg B 1 1 (by omega) (by decide) d_La_law_734 d_La_law_735 d_La_law_737 d_La_law_738 d_La_law_739 ?_
  refine la_arg B 2 2 (by omega) (by decide) d_La_law_740 d_La_law_741 d_La_law_743 d_La_law_744 d_La_law_745 ?_
  refine ra_callV (As := [_, _]) A ok_Mo_frame l_La_110 im_Mo_frame sl_Mo_frame d_La_law_746 (Nat.le_of_ble_eq_true rfl) rfl rfl rfl (Nat.le_of_ble_eq_true rfl) (lr B c (by decide)) (xm_mono (fun o g' na nb w => ?_) hM)
  obtain ⟨bv, rfl, ⟨rfl, rfl⟩, I, e2, e3⟩ := w
  show xg x (y0 u) nc ns 749 _ _ g'
  refine ra_istore (L' := [_, _, _, _, _, _, _, _]) A d_La_law_749 (by decide) rfl <| ra_aload_n A d_La_law_751 rfl <| ?_
  refine ra_callV (As := []) A ok_Mo_thrown l_La_75 im_Mo_thrown sl_Mo_thrown d_La_law_752 (Nat.le_of_ble_eq_true rfl) rfl rfl rfl (Nat.le_of_ble_eq_true rfl) (lr B c (by decide)) (s_Mo_thrown (KK0_ok u) ?_)
  show xg x (y0 u) nc ns 755 _ _ g'
  rw [show v_model_thrown g' = k from e2]
  refine ra_iload A d_La_law_755 rfl <| ?_
  refine ra_icmp_eq (q := 762) A d_La_law_757 (by decide) (fun _ => ?_) (fun cc => absurd (rfl) cc)
  refine ra_iload A d_La_law_762 rfl <| ?_
  by_cases z : k = 0
  · refine ra_if_ne (q := 779) A d_La_law_764 (by decide) (fun cc => absurd (z) cc) (fun _ => ?_)
    refine ra_aload_n A d_La_law_767 rfl <| ra_iconst A 0 d_La_law_768 (by decide) <| ?_
    refine ra_laload A d_La_law_769 (Nat.le_of_ble_eq_true rfl) rfl (vp_in_nI (n := 0) (by decide) (by decide)) ?_
    rw [show g'.2 156 (Int32.toNatClampNeg 0) = bv.toInt64 from e3 z]
    refine ra_iload A d_La_law_770 rfl <| ra_i2l A d_La_law_772 <| ra_lcmp A d_La_law_773 <| ?_
    refine ra_if_eq (q := 779) A d_La_law_774 (by decide) (fun _ => ?_) (fun cc => absurd (lg_self _) cc)
    refine ra_goto (q := 1199) A d_La_law_779 (by decide) <| ?_
    exact go g' _ _ _ I
  · refine ra_if_ne (q := 779) A d_La_law_764 (by decide) (fun _ => ?_) (fun cc => absurd cc (z))
    refine ra_goto (q := 1199) A d_La_law_779 (by decide) <| ?_
    exact go g' _ _ _ I
theorem ca_La_frame (B : LB x u sc N) (hi : a + 4 < N) (c' : LC x (nc + 1) (ns + 6)) (I : IV h) (go : ∀ g nc' ns' w5 w6 w7, IV g → nc' ≤ nc + 1 → ns' ≤ ns + 6 → xg x (y0 u) nc' ns' 1199 (LL a w5 w6 w7) [] g) : xg x (y0 u) nc ns 714 (LL a w5 w6 w7) [] h := by
  have A := B.1
  have c := c'.z
  refine ra_aload_n A d_La_law_714 rfl <| ?_
  refine la_arg B 1 1 (by omega) (by decide) d_La_law_715 d_La_law_716 d_La_law_718 d_La_law_719 d_La_law_720 ?_
  refine la_arg B 2 2 (by omega) (by decide) d_La_law_721 d_La_law_722 d_La_law_724 d_La_law_725 d_La_law_726 ?_
  refine ra_aload_n A d_La_law_727 rfl <| ?_
  refine ra_callSH (As := [_, _, _, _]) A okH_La_frame l_La_108 st_La_frame d_La_law_728 rfl (Nat.le_of_ble_eq_true rfl) (lr B c (by decide)) (o_frame B.2.2.1 I (fun k g i e hi' he hM => t_La_frame B hi (c'.s hi' he) hM (fun g w5 w6 w7 I => go g _ _ w5 w6 w7 I (by omega) (by omega))))
theorem ca_La_stream (B : LB x u sc N) (hi : a + 4 < N) (c' : LC x (nc + 1) (ns + 6)) (I : IV h) (go : ∀ g nc' ns' w5 w6 w7, IV g → nc' ≤ nc + 1 → ns' ≤ ns + 6 → xg x (y0 u) nc' ns' 1199 (LL a w5 w6 w7) [] g) : xg x (y0 u) nc ns 782 (LL a w5 w6 w7) [] h := by
  have A := B.1
  have c := c'.z
  refine ra_aload_n A d_La_law_782 rfl <| ?_
  refine la_arg B 1 1 (by omega) (by decide) d_La_law_783 d_La_law_784 d_La_law_786 d_La_law_787 d_La_law_788 ?_
  refine ra_callV (As := [_]) A ok_SS_stream l_La_111 im_SS_stream sl_SS_stream d_La_law_789 (Nat.le_of_ble_eq_true rfl) rfl rfl rfl (Nat.le_of_ble_eq_true rfl) (lr B c (by decide)) (o_stream I (fun v g hM => ?_))
  show xg x (y0 u) nc ns 792 _ _ g
  refine ra_aload_n A d_La_law_792 rfl <| ?_
  refine la_arg B 1 1 (by omega) (by decide) d_La_law_793 d_La_law_794 d_La_law_796 d_La_law_797 d_La_law_798 ?_
  refine ra_callV (As := [_]) A ok_Mo_stream l_La_114 im_Mo_stream sl_Mo_stream d_La_law_799 (Nat.le_of_ble_eq_true rfl) rfl rfl rfl (Nat.le_of_ble_eq_true rfl) (lr B c (by decide)) (xm_mono (fun o g' na nb w => ?_) hM)
  obtain ⟨rfl, ⟨rfl, rfl⟩, I'⟩ := w
  show xg x (y0 u) nc ns 802 _ _ g'
  refine ra_lcmp A d_La_law_802 <| ?_
  refine ra_if_eq (q := 1199) A d_La_law_803 (by decide) (fun _ => ?_) (fun cc => absurd (lg_self _) cc)
  exact go g' _ _ _ _ _ I' (by omega) (by omega)
theorem t_La_feed {g : xw_H} {k : Int32} {p1 : Int64} (hp : p1 = ((sc (a + 2)).toInt64 <<< ((32 : Int32).toInt64 &&& 63)) ||| ((sc (a + 3)).toInt64 &&& 4294967295)) (B : LB x u sc N) (hi : a + 4 < N) (c : LC x nc ns) (hM : xm_M (xg_l x) (y0 u) (KK0 u) m_Mo_feed [.ref 141, .int (sc (a + 1)), .long p1] g (PA k)) (go : ∀ g w5 w6 w7, IV g → xg x (y0 u) nc ns 1199 (LL a w5 w6 w7) [] g) : xg x (y0 u) nc ns 841 (LL a w5 w6 w7) [.int k] g := by
  have A := B.1
  subst hp
  refine ra_istore (L' := [_, _, _, _, _, _, _, _]) A d_La_law_841 (by decide) rfl <| ra_aload_n A d_La_law_843 rfl <| ?_
  refine la_arg B 1 1 (by omega) (by decide) d_La_law_844 d_La_law_845 d_La_law_847 d_La_law_848 d_La_law_849 ?_
  refine la_arg B 2 2 (by omega) (by decide) d_La_law_850 d_La_law_851 d_La_law_853 d_La_law_854 d_La_law_855 ?_
  refine ra_i2l A d_La_law_856 <| ra_bipush A 32 d_La_law_857 (by decide) <| ra_lshl A d_La_law_859 <| ?_
  refine la_arg B 3 3 (by omega) (by decide) d_La_law_860 d_La_law_861 d_La_law_863 d_La_law_864 d_La_law_865 ?_
  refine ra_i2l A d_La_law_866 <| ra_ldc2 A k_La_115 d_La_law_867 <| ra_land A d_La_law_870 <| ra_lor A d_La_law_871 <| ?_
  refine ra_callV (As := [_, _]) A ok_Mo_feed l_La_120 im_Mo_feed sl_Mo_feed d_La_law_872 (Nat.le_of_ble_eq_true rfl) rfl rfl rfl (Nat.le_of_ble_eq_true rfl) (lr B c (by decide)) (xm_mono (fun o g' na nb w => ?_) hM)
  obtain ⟨bv, rfl, ⟨rfl, rfl⟩, I, e2, e3⟩ := w
  show xg x (y0 u) nc ns 875 _ _ g'
  refine ra_istore (L' := [_, _, _, _, _, _, _, _]) A d_La_law_875 (by decide) rfl <| ra_aload_n A d_La_law_877 rfl <| ?_
  refine ra_callV (As := []) A ok_Mo_thrown l_La_75 im_Mo_thrown sl_Mo_thrown d_La_law_878 (Nat.le_of_ble_eq_true rfl) rfl rfl rfl (Nat.le_of_ble_eq_true rfl) (lr B c (by decide)) (s_Mo_thrown (KK0_ok u) ?_)
  show xg x (y0 u) nc ns 881 _ _ g'
  rw [show v_model_thrown g' = k from e2]
  refine ra_iload A d_La_law_881 rfl <| ?_
  refine ra_icmp_eq (q := 888) A d_La_law_883 (by decide) (fun _ => ?_) (fun cc => absurd (rfl) cc)
  refine ra_iload A d_La_law_888 rfl <| ?_
  by_cases z : k = 0
  · refine ra_if_ne (q := 905) A d_La_law_890 (by decide) (fun cc => absurd (z) cc) (fun _ => ?_)
    refine ra_aload_n A d_La_law_893 rfl <| ra_iconst A 0 d_La_law_894 (by decide) <| ?_
    refine ra_laload A d_La_law_895 (Nat.le_of_ble_eq_true rfl) rfl (vp_in_nI (n := 0) (by decide) (by decide)) ?_
    rw [show g'.2 156 (Int32.toNatClampNeg 0) = bv.toInt64 from e3 z]
    refine ra_iload A d_La_law_896 rfl <| ra_i2l A d_La_law_898 <| ra_lcmp A d_La_law_899 <| ?_
    refine ra_if_eq (q := 905) A d_La_law_900 (by decide) (fun _ => ?_) (fun cc => absurd (lg_self _) cc)
    refine ra_goto (q := 1199) A d_La_law_905 (by decide) <| ?_
    exact go g' _ _ _ I
  · refine ra_if_ne (q := 905) A d_La_law_890 (by decide) (fun _ => ?_) (fun cc => absurd cc (z))
    refine ra_goto (q := 1199) A d_La_law_905 (by decide) <| ?_
    exact go g' _ _ _ I
theorem ca_La_feed (B : LB x u sc N) (hi : a + 4 < N) (c' : LC x (nc + 1) (ns + 6)) (I : IV h) (go : ∀ g nc' ns' w5 w6 w7, IV g → nc' ≤ nc + 1 → ns' ≤ ns + 6 → xg x (y0 u) nc' ns' 1199 (LL a w5 w6 w7) [] g) : xg x (y0 u) nc ns 808 (LL a w5 w6 w7) [] h := by
  have A := B.1
  have c := c'.z
  refine ra_aload_n A d_La_law_808 rfl <| ?_
  refine la_arg B 1 1 (by omega) (by decide) d_La_law_809 d_La_law_810 d_La_law_812 d_La_law_813 d_La_law_814 ?_
  refine la_arg B 2 2 (by omega) (by decide) d_La_law_815 d_La_law_816 d_La_law_818 d_La_law_819 d_La_law_820 ?_
  refine ra_i2l A d_La_law_821 <| ra_bipush A 32 d_La_law_822 (by decide) <| ra_lshl A d_La_law_824 <| ?_
  refine la_arg B 3 3 (by omega) (by decide) d_La_law_825 d_La_law_826 d_La_law_828 d_La_law_829 d_La_law_830 ?_
  refine ra_i2l A d_La_law_831 <| ra_ldc2 A k_La_115 d_La_law_832 <| ra_land A d_La_law_835 <| ra_lor A d_La_law_836 <| ra_aload_n A d_La_law_837 rfl <| ?_
  refine ra_callSH (As := [_, _, _, _]) A okH_La_feed l_La_117 st_La_feed d_La_law_838 rfl (Nat.le_of_ble_eq_true rfl) (lr B c (by decide)) (o_feed B.2.2.1 I (fun k g i e hi' he hM => t_La_feed rfl B hi (c'.s hi' he) hM (fun g w5 w6 w7 I => go g _ _ w5 w6 w7 I (by omega) (by omega))))
theorem t_La_cut {g : xw_H} {k : Int32} (B : LB x u sc N) (hi : a + 4 < N) (c : LC x nc ns) (hM : xm_M (xg_l x) (y0 u) (KK0 u) m_Mo_cut [.ref 141, .int (sc (a + 1))] g (PA k)) (go : ∀ g w5 w6 w7, IV g → xg x (y0 u) nc ns 1199 (LL a w5 w6 w7) [] g) : xg x (y0 u) nc ns 919 (LL a w5 w6 w7) [.int k] g := by
  have A := B.1
  refine ra_istore (L' := [_, _, _, _, _, _, _, _]) A d_La_law_919 (by decide) rfl <| ra_aload_n A d_La_law_921 rfl <| ?_
  refine la_arg B 1 1 (by omega) (by decide) d_La_law_922 d_La_law_923 d_La_law_925 d_La_law_926 d_La_law_927 ?_
  refine ra_callV (As := [_]) A ok_Mo_cut l_La_123 im_Mo_cut sl_Mo_cut d_La_law_928 (Nat.le_of_ble_eq_true rfl) rfl rfl rfl (Nat.le_of_ble_eq_true rfl) (lr B c (by decide)) (xm_mono (fun o g' na nb w => ?_) hM)
  obtain ⟨bv, rfl, ⟨rfl, rfl⟩, I, e2, e3⟩ := w
  show xg x (y0 u) nc ns 931 _ _ g'
  refine ra_istore (L' := [_, _, _, _, _, _, _, _]) A d_La_law_931 (by decide) rfl <| ra_aload_n A d_La_law_933 rfl <| ?_
  refine ra_callV (As := []) A ok_Mo_thrown l_La_75 im_Mo_thrown sl_Mo_thrown d_La_law_934 (Nat.le_of_ble_eq_true rfl) rfl rfl rfl (Nat.le_of_ble_eq_true rfl) (lr B c (by decide)) (s_Mo_thrown (KK0_ok u) ?_)
  show xg x (y0 u) nc ns 937 _ _ g'
  rw [show v_model_thrown g' = k from e2]
  refine ra_iload A d_La_law_937 rfl <| ?_
  refine ra_icmp_eq (q := 944) A d_La_law_939 (by decide) (fun _ => ?_) (fun cc => absurd (rfl) cc)
  refine ra_iload A d_La_law_944 rfl <| ?_
  by_cases z : k = 0
  · refine ra_if_ne (q := 961) A d_La_law_946 (by decide) (fun cc => absurd (z) cc) (fun _ => ?_)
    refine ra_aload_n A d_La_law_949 rfl <| ra_iconst A 0 d_La_law_950 (by decide) <| ?_
    refine ra_laload A d_La_law_951 (Nat.le_of_ble_eq_true rfl) rfl (vp_in_nI (n := 0) (by decide) (by decide)) ?_
    rw [show g'.2 156 (Int32.toNatClampNeg 0) = bv.toInt64 from e3 z]
    refine ra_iload A d_La_law_952 rfl <| ra_i2l A d_La_law_954 <| ra_lcmp A d_La_law_955 <| ?_
    refine ra_if_eq (q := 961) A d_La_law_956 (by decide) (fun _ => ?_) (fun cc => absurd (lg_self _) cc)
    refine ra_goto (q := 1199) A d_La_law_961 (by decide) <| ?_
    exact go g' _ _ _ I
  · refine ra_if_ne (q := 961) A d_La_law_946 (by decide) (fun _ => ?_) (fun cc => absurd cc (z))
    refine ra_goto (q := 1199) A d_La_law_961 (by decide) <| ?_
    exact go g' _ _ _ I
theorem ca_La_cut (B : LB x u sc N) (hi : a + 4 < N) (c' : LC x (nc + 1) (ns + 6)) (I : IV h) (go : ∀ g nc' ns' w5 w6 w7, IV g → nc' ≤ nc + 1 → ns' ≤ ns + 6 → xg x (y0 u) nc' ns' 1199 (LL a w5 w6 w7) [] g) : xg x (y0 u) nc ns 908 (LL a w5 w6 w7) [] h := by
  have A := B.1
  have c := c'.z
  refine ra_aload_n A d_La_law_908 rfl <| ?_
  refine la_arg B 1 1 (by omega) (by decide) d_La_law_909 d_La_law_910 d_La_law_912 d_La_law_913 d_La_law_914 ?_
  refine ra_aload_n A d_La_law_915 rfl <| ?_
  refine ra_callSH (As := [_, _, _]) A okH_La_cut l_La_121 st_La_cut d_La_law_916 rfl (Nat.le_of_ble_eq_true rfl) (lr B c (by decide)) (o_cut B.2.2.1 I (fun k g i e hi' he hM => t_La_cut B hi (c'.s hi' he) hM (fun g w5 w6 w7 I => go g _ _ w5 w6 w7 I (by omega) (by omega))))
theorem t_La_spoil {g : xw_H} {k : Int32} (B : LB x u sc N) (hi : a + 4 < N) (c : LC x nc ns) (hM : xm_M (xg_l x) (y0 u) (KK0 u) m_Mo_spoil [.ref 141, .int (sc (a + 1)), .int (sc (a + 2))] g (PA k)) (go : ∀ g w5 w6 w7, IV g → xg x (y0 u) nc ns 1199 (LL a w5 w6 w7) [] g) : xg x (y0 u) nc ns 981 (LL a w5 w6 w7) [.int k] g := by
  have A := B.1
  refine ra_istore (L' := [_, _, _, _, _, _, _, _]) A d_La_law_981 (by decide) rfl <| ra_aload_n A d_La_law_983 rfl <| ?_
  refine la_arg B 1 1 (by omega) (by decide) d_La_law_984 d_La_law_985 d_La_law_987 d_La_law_988 d_La_law_989 ?_
  refine la_arg B 2 2 (by omega) (by decide) d_La_law_990 d_La_law_991 d_La_law_993 d_La_law_994 d_La_law_995 ?_
  refine ra_callV (As := [_, _]) A ok_Mo_spoil l_La_126 im_Mo_spoil sl_Mo_spoil d_La_law_996 (Nat.le_of_ble_eq_true rfl) rfl rfl rfl (Nat.le_of_ble_eq_true rfl) (lr B c (by decide)) (xm_mono (fun o g' na nb w => ?_) hM)
  obtain ⟨bv, rfl, ⟨rfl, rfl⟩, I, e2, e3⟩ := w
  show xg x (y0 u) nc ns 999 _ _ g'
  refine ra_istore (L' := [_, _, _, _, _, _, _, _]) A d_La_law_999 (by decide) rfl <| ra_aload_n A d_La_law_1001 rfl <| ?_
  refine ra_callV (As := []) A ok_Mo_thrown l_La_75 im_Mo_thrown sl_Mo_thrown d_La_law_1002 (Nat.le_of_ble_eq_true rfl) rfl rfl rfl (Nat.le_of_ble_eq_true rfl) (lr B c (by decide)) (s_Mo_thrown (KK0_ok u) ?_)
  show xg x (y0 u) nc ns 1005 _ _ g'
  rw [show v_model_thrown g' = k from e2]
  refine ra_iload A d_La_law_1005 rfl <| ?_
  refine ra_icmp_eq (q := 1012) A d_La_law_1007 (by decide) (fun _ => ?_) (fun cc => absurd (rfl) cc)
  refine ra_iload A d_La_law_1012 rfl <| ?_
  by_cases z : k = 0
  · refine ra_if_ne (q := 1029) A d_La_law_1014 (by decide) (fun cc => absurd (z) cc) (fun _ => ?_)
    refine ra_aload_n A d_La_law_1017 rfl <| ra_iconst A 0 d_La_law_1018 (by decide) <| ?_
    refine ra_laload A d_La_law_1019 (Nat.le_of_ble_eq_true rfl) rfl (vp_in_nI (n := 0) (by decide) (by decide)) ?_
    rw [show g'.2 156 (Int32.toNatClampNeg 0) = bv.toInt64 from e3 z]
    refine ra_iload A d_La_law_1020 rfl <| ra_i2l A d_La_law_1022 <| ra_lcmp A d_La_law_1023 <| ?_
    refine ra_if_eq (q := 1029) A d_La_law_1024 (by decide) (fun _ => ?_) (fun cc => absurd (lg_self _) cc)
    refine ra_goto (q := 1199) A d_La_law_1029 (by decide) <| ?_
    exact go g' _ _ _ I
  · refine ra_if_ne (q := 1029) A d_La_law_1014 (by decide) (fun _ => ?_) (fun cc => absurd cc (z))
    refine ra_goto (q := 1199) A d_La_law_1029 (by decide) <| ?_
    exact go g' _ _ _ I
theorem ca_La_spoil (B : LB x u sc N) (hi : a + 4 < N) (c' : LC x (nc + 1) (ns + 6)) (I : IV h) (go : ∀ g nc' ns' w5 w6 w7, IV g → nc' ≤ nc + 1 → ns' ≤ ns + 6 → xg x (y0 u) nc' ns' 1199 (LL a w5 w6 w7) [] g) : xg x (y0 u) nc ns 964 (LL a w5 w6 w7) [] h := by
  have A := B.1
  have c := c'.z
  refine ra_aload_n A d_La_law_964 rfl <| ?_
  refine la_arg B 1 1 (by omega) (by decide) d_La_law_965 d_La_law_966 d_La_law_968 d_La_law_969 d_La_law_970 ?_
  refine la_arg B 2 2 (by omega) (by decide) d_La_law_971 d_La_law_972 d_La_law_974 d_La_law_975 d_La_law_976 ?_
  refine ra_aload_n A d_La_law_977 rfl <| ?_
  refine ra_callSH (As := [_, _, _, _]) A okH_La_spoil l_La_124 st_La_spoil d_La_law_978 rfl (Nat.le_of_ble_eq_true rfl) (lr B c (by decide)) (o_spoil B.2.2.1 I (fun k g i e hi' he hM => t_La_spoil B hi (c'.s hi' he) hM (fun g w5 w6 w7 I => go g _ _ w5 w6 w7 I (by omega) (by omega))))
theorem t_La_seal {g : xw_H} {k : Int32} (B : LB x u sc N) (hi : a + 4 < N) (c : LC x nc ns) (hM : xm_M (xg_l x) (y0 u) (KK0 u) m_Mo_seal [.ref 141, .int (sc (a + 1)), .int (sc (a + 2)), .int (sc (a + 3))] g (PV k)) (go : ∀ g w5 w6 w7, IV g → xg x (y0 u) nc ns 1199 (LL a w5 w6 w7) [] g) : xg x (y0 u) nc ns 1054 (LL a w5 w6 w7) [.int k] g := by
  have A := B.1
  refine ra_istore (L' := [_, _, _, _, _, _, _, _]) A d_La_law_1054 (by decide) rfl <| ra_aload_n A d_La_law_1056 rfl <| ?_
  refine la_arg B 1 1 (by omega) (by decide) d_La_law_1057 d_La_law_1058 d_La_law_1060 d_La_law_1061 d_La_law_1062 ?_
  refine la_arg B 2 2 (by omega) (by decide) d_La_law_1063 d_La_law_1064 d_La_law_1066 d_La_law_1067 d_La_law_1068 ?_
  refine la_arg B 3 3 (by omega) (by decide) d_La_law_1069 d_La_law_1070 d_La_law_1072 d_La_law_1073 d_La_law_1074 ?_
  refine ra_callV (As := [_, _, _]) A ok_Mo_seal l_La_130 im_Mo_seal sl_Mo_seal d_La_law_1075 (Nat.le_of_ble_eq_true rfl) rfl rfl rfl (Nat.le_of_ble_eq_true rfl) (lr B c (by decide)) (xm_mono (fun o g' na nb w => ?_) hM)
  obtain ⟨rfl, ⟨rfl, rfl⟩, I, e2⟩ := w
  show xg x (y0 u) nc ns 1078 _ _ g'
  refine ra_aload_n A d_La_law_1078 rfl <| ?_
  refine ra_callV (As := []) A ok_Mo_thrown l_La_75 im_Mo_thrown sl_Mo_thrown d_La_law_1079 (Nat.le_of_ble_eq_true rfl) rfl rfl rfl (Nat.le_of_ble_eq_true rfl) (lr B c (by decide)) (s_Mo_thrown (KK0_ok u) ?_)
  show xg x (y0 u) nc ns 1082 _ _ g'
  rw [show v_model_thrown g' = k from e2]
  refine ra_iload A d_La_law_1082 rfl <| ?_
  refine ra_icmp_eq (q := 1089) A d_La_law_1084 (by decide) (fun _ => ?_) (fun cc => absurd (rfl) cc)
  refine ra_goto (q := 1199) A d_La_law_1089 (by decide) <| ?_
  exact go g' _ _ _ I
theorem ca_La_seal (B : LB x u sc N) (hi : a + 4 < N) (c' : LC x (nc + 1) (ns + 6)) (I : IV h) (go : ∀ g nc' ns' w5 w6 w7, IV g → nc' ≤ nc + 1 → ns' ≤ ns + 6 → xg x (y0 u) nc' ns' 1199 (LL a w5 w6 w7) [] g) : xg x (y0 u) nc ns 1032 (LL a w5 w6 w7) [] h := by
  have A := B.1
  have c := c'.z
  refine ra_aload_n A d_La_law_1032 rfl <| ?_
  refine la_arg B 1 1 (by omega) (by decide) d_La_law_1033 d_La_law_1034 d_La_law_1036 d_La_law_1037 d_La_law_1038 ?_
  refine la_arg B 2 2 (by omega) (by decide) d_La_law_1039 d_La_law_1040 d_La_law_1042 d_La_law_1043 d_La_law_1044 ?_
  refine la_arg B 3 3 (by omega) (by decide) d_La_law_1045 d_La_law_1046 d_La_law_1048 d_La_law_1049 d_La_law_1050 ?_
  refine ra_callSH (As := [_, _, _, _]) A okH_La_seal l_La_127 st_La_seal d_La_law_1051 rfl (Nat.le_of_ble_eq_true rfl) (lr B c (by decide)) (o_seal B.2.2.1 I (fun k g i e hi' he hM => t_La_seal B hi (c'.s hi' he) hM (fun g w5 w6 w7 I => go g _ _ w5 w6 w7 I (by omega) (by omega))))
theorem ca_La_decode (B : LB x u sc N) (hi : a + 4 < N) (c' : LC x (nc + 1) (ns + 6)) (I : IV h) (go : ∀ g nc' ns' w5 w6 w7, IV g → nc' ≤ nc + 1 → ns' ≤ ns + 6 → xg x (y0 u) nc' ns' 1199 (LL a w5 w6 w7) [] g) : xg x (y0 u) nc ns 1092 (LL a w5 w6 w7) [] h := by
  have A := B.1
  have c := c'.z
  refine ra_aload_n A d_La_law_1092 rfl <| ?_
  refine ra_callVH (As := []) A okH_SS_decode l_La_131 im_SS_decode sl_SS_decode d_La_law_1093 (Nat.le_of_ble_eq_true rfl) rfl rfl rfl (Nat.le_of_ble_eq_true rfl) (lr B c (by decide)) (o_decode B.2.2.1 I (fun v g i e hi' he hM => ?_))
  show xg x (y0 u) (nc + i) (ns + e) 1096 _ _ g
  have c := c'.s hi' he
  refine ra_aload_n A d_La_law_1096 rfl <| ?_
  refine ra_callV (As := []) A ok_Mo_decode l_La_134 im_Mo_decode sl_Mo_decode d_La_law_1097 (Nat.le_of_ble_eq_true rfl) rfl rfl rfl (Nat.le_of_ble_eq_true rfl) (lr B c (by decide)) (xm_mono (fun o g' na nb w => ?_) hM)
  obtain ⟨rfl, ⟨rfl, rfl⟩, I'⟩ := w
  show xg x (y0 u) (nc + i) (ns + e) 1100 _ _ g'
  refine ra_icmp_eq (q := 1199) A d_La_law_1100 (by decide) (fun _ => ?_) (fun cc => absurd (rfl) cc)
  exact go g' _ _ _ _ _ I' (by omega) (by omega)
theorem ca_La_fault (B : LB x u sc N) (hi : a + 4 < N) (c' : LC x (nc + 1) (ns + 6)) (I : IV h) (go : ∀ g nc' ns' w5 w6 w7, IV g → nc' ≤ nc + 1 → ns' ≤ ns + 6 → xg x (y0 u) nc' ns' 1199 (LL a w5 w6 w7) [] g) : xg x (y0 u) nc ns 1105 (LL a w5 w6 w7) [] h := by
  have A := B.1
  have c := c'.z
  refine ra_aload_n A d_La_law_1105 rfl <| ?_
  refine ra_callV (As := []) A ok_SS_fault l_La_135 im_SS_fault sl_SS_fault d_La_law_1106 (Nat.le_of_ble_eq_true rfl) rfl rfl rfl (Nat.le_of_ble_eq_true rfl) (lr B c (by decide)) (o_fault I (fun v g hM => ?_))
  show xg x (y0 u) nc ns 1109 _ _ g
  refine ra_aload_n A d_La_law_1109 rfl <| ?_
  refine ra_callV (As := []) A ok_Mo_fault l_La_138 im_Mo_fault sl_Mo_fault d_La_law_1110 (Nat.le_of_ble_eq_true rfl) rfl rfl rfl (Nat.le_of_ble_eq_true rfl) (lr B c (by decide)) (xm_mono (fun o g' na nb w => ?_) hM)
  obtain ⟨rfl, ⟨rfl, rfl⟩, I'⟩ := w
  show xg x (y0 u) nc ns 1113 _ _ g'
  refine ra_icmp_eq (q := 1199) A d_La_law_1113 (by decide) (fun _ => ?_) (fun cc => absurd (rfl) cc)
  exact go g' _ _ _ _ _ I' (by omega) (by omega)
theorem ca_La_place (B : LB x u sc N) (hi : a + 4 < N) (c' : LC x (nc + 1) (ns + 6)) (I : IV h) (go : ∀ g nc' ns' w5 w6 w7, IV g → nc' ≤ nc + 1 → ns' ≤ ns + 6 → xg x (y0 u) nc' ns' 1199 (LL a w5 w6 w7) [] g) : xg x (y0 u) nc ns 1118 (LL a w5 w6 w7) [] h := by
  have A := B.1
  have c := c'.z
  refine ra_aload_n A d_La_law_1118 rfl <| ?_
  refine ra_callV (As := []) A ok_SS_place l_La_139 im_SS_place sl_SS_place d_La_law_1119 (Nat.le_of_ble_eq_true rfl) rfl rfl rfl (Nat.le_of_ble_eq_true rfl) (lr B c (by decide)) (o_place I (fun v g hM => ?_))
  show xg x (y0 u) nc ns 1122 _ _ g
  refine ra_aload_n A d_La_law_1122 rfl <| ?_
  refine ra_callV (As := []) A ok_Mo_place l_La_142 im_Mo_place sl_Mo_place d_La_law_1123 (Nat.le_of_ble_eq_true rfl) rfl rfl rfl (Nat.le_of_ble_eq_true rfl) (lr B c (by decide)) (xm_mono (fun o g' na nb w => ?_) hM)
  obtain ⟨rfl, ⟨rfl, rfl⟩, I'⟩ := w
  show xg x (y0 u) nc ns 1126 _ _ g'
  refine ra_icmp_eq (q := 1199) A d_La_law_1126 (by decide) (fun _ => ?_) (fun cc => absurd (rfl) cc)
  exact go g' _ _ _ _ _ I' (by omega) (by omega)
theorem t_La_heard {g : xw_H} {k : Int32} (B : LB x u sc N) (hi : a + 4 < N) (c : LC x nc ns) (hM : xm_M (xg_l x) (y0 u) (KK0 u) m_Mo_heard [.ref 141, .int (sc (a + 1)), .int (sc (a + 2))] g (PA k)) (go : ∀ g w5 w6 w7, IV g → xg x (y0 u) nc ns 1199 (LL a w5 w6 w7) [] g) : xg x (y0 u) nc ns 1148 (LL a w5 w6 w7) [.int k] g := by
  have A := B.1
  refine ra_istore (L' := [_, _, _, _, _, _, _, _]) A d_La_law_1148 (by decide) rfl <| ra_aload_n A d_La_law_1150 rfl <| ?_
  refine la_arg B 1 1 (by omega) (by decide) d_La_law_1151 d_La_law_1152 d_La_law_1154 d_La_law_1155 d_La_law_1156 ?_
  refine la_arg B 2 2 (by omega) (by decide) d_La_law_1157 d_La_law_1158 d_La_law_1160 d_La_law_1161 d_La_law_1162 ?_
  refine ra_callV (As := [_, _]) A ok_Mo_heard l_La_145 im_Mo_heard sl_Mo_heard d_La_law_1163 (Nat.le_of_ble_eq_true rfl) rfl rfl rfl (Nat.le_of_ble_eq_true rfl) (lr B c (by decide)) (xm_mono (fun o g' na nb w => ?_) hM)
  obtain ⟨bv, rfl, ⟨rfl, rfl⟩, I, e2, e3⟩ := w
  show xg x (y0 u) nc ns 1166 _ _ g'
  refine ra_istore (L' := [_, _, _, _, _, _, _, _]) A d_La_law_1166 (by decide) rfl <| ra_aload_n A d_La_law_1168 rfl <| ?_
  refine ra_callV (As := []) A ok_Mo_thrown l_La_75 im_Mo_thrown sl_Mo_thrown d_La_law_1169 (Nat.le_of_ble_eq_true rfl) rfl rfl rfl (Nat.le_of_ble_eq_true rfl) (lr B c (by decide)) (s_Mo_thrown (KK0_ok u) ?_)
  show xg x (y0 u) nc ns 1172 _ _ g'
  rw [show v_model_thrown g' = k from e2]
  refine ra_iload A d_La_law_1172 rfl <| ?_
  refine ra_icmp_eq (q := 1179) A d_La_law_1174 (by decide) (fun _ => ?_) (fun cc => absurd (rfl) cc)
  refine ra_iload A d_La_law_1179 rfl <| ?_
  by_cases z : k = 0
  · refine ra_if_ne (q := 1196) A d_La_law_1181 (by decide) (fun cc => absurd (z) cc) (fun _ => ?_)
    refine ra_aload_n A d_La_law_1184 rfl <| ra_iconst A 0 d_La_law_1185 (by decide) <| ?_
    refine ra_laload A d_La_law_1186 (Nat.le_of_ble_eq_true rfl) rfl (vp_in_nI (n := 0) (by decide) (by decide)) ?_
    rw [show g'.2 156 (Int32.toNatClampNeg 0) = bv.toInt64 from e3 z]
    refine ra_iload A d_La_law_1187 rfl <| ra_i2l A d_La_law_1189 <| ra_lcmp A d_La_law_1190 <| ?_
    refine ra_if_eq (q := 1196) A d_La_law_1191 (by decide) (fun _ => ?_) (fun cc => absurd (lg_self _) cc)
    refine ra_goto (q := 1199) A d_La_law_1196 (by decide) <| ?_
    exact go g' _ _ _ I
  · refine ra_if_ne (q := 1196) A d_La_law_1181 (by decide) (fun _ => ?_) (fun cc => absurd cc (z))
    refine ra_goto (q := 1199) A d_La_law_1196 (by decide) <| ?_
    exact go g' _ _ _ I
theorem ca_La_heard (B : LB x u sc N) (hi : a + 4 < N) (c' : LC x (nc + 1) (ns + 6)) (I : IV h) (go : ∀ g nc' ns' w5 w6 w7, IV g → nc' ≤ nc + 1 → ns' ≤ ns + 6 → xg x (y0 u) nc' ns' 1199 (LL a w5 w6 w7) [] g) : xg x (y0 u) nc ns 1131 (LL a w5 w6 w7) [] h := by
  have A := B.1
  have c := c'.z
  refine ra_aload_n A d_La_law_1131 rfl <| ?_
  refine la_arg B 1 1 (by omega) (by decide) d_La_law_1132 d_La_law_1133 d_La_law_1135 d_La_law_1136 d_La_law_1137 ?_
  refine la_arg B 2 2 (by omega) (by decide) d_La_law_1138 d_La_law_1139 d_La_law_1141 d_La_law_1142 d_La_law_1143 ?_
  refine ra_aload_n A d_La_law_1144 rfl <| ?_
  refine ra_callSH (As := [_, _, _, _]) A okH_La_heard l_La_143 st_La_heard d_La_law_1145 rfl (Nat.le_of_ble_eq_true rfl) (lr B c (by decide)) (o_heard B.2.2.1 I (fun k g i e hi' he hM => t_La_heard B hi (c'.s hi' he) hM (fun g w5 w6 w7 I => go g _ _ w5 w6 w7 I (by omega) (by omega))))
end S9v
