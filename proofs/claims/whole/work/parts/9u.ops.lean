/-! THE CALLS OF BOTH SIDES: what the class answers, then what the model does with the same call -/
/-- the model's end behind the class's answer k: the same thrown, the same answer -/
def PA (k : Int32) : xc_R → xw_H → Nat → Nat → Prop := fun o g a b => ∃ bv : Int32, o = .inl (some (.int bv)) ∧ (a = 0 ∧ b = 0) ∧ IV g ∧ g.1 141 2 = k ∧ (k = 0 → g.2 156 0 = bv.toInt64)
def PL (k : Int32) : xc_R → xw_H → Nat → Nat → Prop := fun o g a b => ∃ bv : Int64, o = .inl (some (.long bv)) ∧ (a = 0 ∧ b = 0) ∧ IV g ∧ g.1 141 2 = k ∧ (k = 0 → g.2 156 0 = bv)
def PV (k : Int32) : xc_R → xw_H → Nat → Nat → Prop := fun o g a b => o = .inl none ∧ (a = 0 ∧ b = 0) ∧ IV g ∧ g.1 141 2 = k
def PE (v : Int32) : xc_R → xw_H → Nat → Nat → Prop := fun o g a b => o = .inl (some (.int v)) ∧ (a = 0 ∧ b = 0) ∧ IV g
def PFl (v : Int64) : xc_R → xw_H → Nat → Nat → Prop := fun o g a b => o = .inl (some (.long v)) ∧ (a = 0 ∧ b = 0) ∧ IV g
section S9u
variable {u : xu_T} {l : Launch} {h : xw_H} {X : xc_R → xw_H → Nat → Nat → Prop}
theorem Va.ch {C D b r n0 n1 : Nat} (a : Va h C D b r n0 n1) : (v_rows_channels h).toInt ≤ 2 := by
  rw [show v_rows_channels h = nI C from a.2.2.1.1, nI_toInt (by have := a.1.1; omega)]
  have := a.1.1
  omega
theorem Va.mch {C D b r n0 n1 : Nat} (a : Va h C D b r n0 n1) : (v_model_channels h).toInt ≤ 2 := by
  rw [show v_model_channels h = nI C from a.2.2.2.1.1, nI_toInt (by have := a.1.1; omega)]
  have := a.1.1
  omega
theorem Va.len {C D b r n0 n1 : Nat} (a : Va h C D b r n0 n1) : ∀ c, c < 2 → ∃ m : Nat, m ≤ 1200 ∧ h.1 5 c = nI m := fun c hc => by
  have hc2 : c = 0 ∨ c = 1 := by omega
  rcases hc2 with rfl | rfl
  · exact ⟨n0, a.2.1.1, a.2.2.2.2.1.1⟩
  · exact ⟨n1, a.2.1.2, a.2.2.2.2.1.2.1⟩
theorem Va.same {C D b r n0 n1 : Nat} (a : Va h C D b r n0 n1) : ∀ c, c < 2 → h.1 145 c = h.1 5 c := fun c hc => by
  have hc2 : c = 0 ∨ c = 1 := by omega
  rcases hc2 with rfl | rfl
  · rw [a.2.2.2.2.1.2.2.1, a.2.2.2.2.1.1]
  · rw [a.2.2.2.2.1.2.2.2, a.2.2.2.2.1.2.1]
theorem Va.mlen {C D b r n0 n1 : Nat} (a : Va h C D b r n0 n1) : ∀ c, c < 2 → ∃ m : Nat, m ≤ 1200 ∧ h.1 145 c = nI m := fun c hc => by
  obtain ⟨m, h1, h2⟩ := a.len c hc
  exact ⟨m, h1, (a.same c hc).trans h2⟩
theorem Va.row {C D b r n0 n1 : Nat} (a : Va h C D b r n0 n1) {c i : Nat} (hc : c < 2) (hi : i < 1200) : h.1 (3 + c) i = h.1 144 (1200 * c + i) := by
  have r := a.2.2.2.2.2.1 i hi
  have hc2 : c = 0 ∨ c = 1 := by omega
  rcases hc2 with rfl | rfl
  · rw [show 1200 * 0 + i = i by omega]; exact r.1
  · exact r.2
theorem qthr {t : Int32} : QF h (g_thr h t) := fm_F (by decide)
theorem qout {t : Int32} {v : Int64} : QF h (g_thr (xw_J h 156 0 v) t) := (fm_J2 (by decide) (by decide)).trans (fm_F (by decide))
theorem out_e {v : Int64} {t : Int32} : (g_thr (xw_J h 156 0 v) t).2 156 0 = v := by
  show (xw_J h 156 0 v).2 156 0 = v
  exact xJ_e
theorem MC.out {v : Int64} (c : MC h) : MC (xw_J h 156 0 v) := ⟨fun i hi => by rw [xJ_k (by decide)]; exact c.1 i hi, c.2⟩
theorem IV.thr (I : IV h) {t : Int32} : IV (g_thr h t) := I.quiet qthr
theorem IV.out (I : IV h) {t : Int32} {v : Int64} : IV (g_thr (xw_J h 156 0 v) t) := I.quiet qout
theorem nI_c {a b : Nat} (ha : a < 2) (hb : b < 2) (e : nI a = nI b) : a = b := (nI_eq (by omega) (by omega)).mp e
theorem o_form (hl : l.stackTraces = false) (I : IV h) {c d b r : Int32} (hX : ∀ k g a e, a ≤ 1 → e ≤ 6 → xm_M l (y0 u) (KK0 u) m_Mo_form [.ref 141, .int c, .int d, .int b, .int r] g (PV k) → X (.inl (some (.int k))) g a e) : xm_MH l (y0 u) (KK0 u) m_La_form hh_La_form [.ref 0, .int c, .int d, .int b, .int r] h X := by
  have K := KK0_ok u
  refine s_La_form (s_SS_form hl (fun q => Or.inr ⟨rfl, hX 1 h 1 6 (by decide) (by decide) ?_⟩) (fun q => Or.inl ⟨rfl, hX 0 _ 0 0 (by decide) (by decide) ?_⟩))
  · exact s_Mo_form K (fun _ => ⟨rfl, ⟨rfl, rfl⟩, I.thr, xI_e⟩) (fun q2 => absurd q q2)
  · refine s_Mo_form K (fun q2 => absurd q2 q) (fun _ => ⟨rfl, ⟨rfl, rfl⟩, I.form q, ?_⟩)
    unfold g_form
    rw [xI_k (by decide), xI_k (by decide), xI_j (by decide), xI_j (by decide), xI_j (by decide), xI_j (by decide), xI_e]
theorem gp_D {g : xw_H} {C D b r n0 n1 : Nat} {v : Int64} {t : Int32} {S : List Nat} (a : Va h C D b r n0 n1) (f : fr S h g) (h1 : 141 ∉ S) : (g_thr (xw_J g 156 0 v) t).1 141 4 = nI D := by
  rw [xI_j (by decide), xJ_1, fr1 f h1]
  exact a.2.2.2.1.2.1
theorem gp_5 {g : xw_H} {C D b r n0 n1 c m : Nat} {v : Int64} {t : Int32} {S : List Nat} (a : Va h C D b r n0 n1) (f : fr S h g) (h1 : 145 ∉ S) (hc : c < 2) (e : h.1 5 c = nI m) : (g_thr (xw_J g 156 0 v) t).1 145 c = nI m := by
  rw [xI_k (by decide), xJ_1, fr1 f h1, a.same c hc]
  exact e
/-- both rows grow alike -/
theorem o_app {g g1 : xw_H} {C D b r n0 n1 c m k : Nat} {w : Nat → Int32} {v : Int32} (I : IV h) (a : Va h C D b r n0 n1) (hc : c < 2) (hm : h.1 5 c = nI m) (hk : m + k ≤ 1200) (p : AP h g (h.1 1 1) c m k w) (q : GP (g_thr (xw_J g 156 0 v.toInt64) 0) g1 ((g_thr (xw_J g 156 0 v.toInt64) 0).1 141 4) c m k w) : IV g1 ∧ g1.1 141 2 = 0 ∧ g1.2 156 0 = v.toInt64 := by
  rw [a.2.2.1.2.1] at p
  rw [gp_D a p.1 (by simp; omega)] at q
  refine ⟨I.app a hc hm hk p q, ?_, ?_⟩
  · rw [fr1 q.1 (by decide), xI_e]
  · rw [(q.1 156 (by decide)).2]
    exact out_e
theorem o_sample (hl : l.stackTraces = false) (I : IV h) {ch v : Int32} (hX : ∀ k g a e, a ≤ 1 → e ≤ 6 → xm_M l (y0 u) (KK0 u) m_Mo_sample [.ref 141, .int ch, .int v] g (PA k) → X (.inl (some (.int k))) g a e) : xm_MH l (y0 u) (KK0 u) m_La_sample hh_La_sample [.ref 0, .int ch, .int v, .ref 156] h X := by
  have K := KK0_ok u
  obtain ⟨⟨C, D, b, r, n0, n1, a⟩, -⟩ := id I
  have ci := chan_iff a ch
  refine s_La_sample (s_SS_sample hl a.ch a.len (fun q => Or.inr ⟨rfl, hX 1 h 1 6 (by decide) (by decide) ?_⟩) (fun c hc e1 e2 q => Or.inl ⟨_, rfl, hX 0 _ 0 0 (by decide) (by decide) ?_⟩) (fun c m hc e1 e2 q hm => Or.inl ⟨_, rfl, hX 0 _ 0 0 (by decide) (by decide) ?_⟩))
  · exact s_Mo_sample K a.mch a.mlen (fun _ => ⟨_, rfl, ⟨rfl, rfl⟩, I.thr, xI_e, fun z => absurd z (by decide)⟩) (fun c _ _ z _ => absurd z (ci.mp q)) (fun c m _ _ z _ _ => absurd z (ci.mp q))
  · refine s_Mo_sample K (h := xw_J h 156 0 (Int32.toInt64 (-1))) a.mch a.mlen (fun z => absurd (ci.mpr z) q) (fun _ _ _ _ _ => ⟨_, rfl, ⟨rfl, rfl⟩, I.out, xI_e, fun _ => out_e⟩) (fun c' m' hc' e1' _ e3' hm' => ?_)
    subst e1
    have := nI_c hc hc' e1'
    subst this
    have e4 : h.1 145 c = nI m' := e3'
    rw [a.same c hc, e2] at e4
    exact absurd ((nI_eq (by decide) (by omega)).mp e4) (by omega)
  · have f9 := AP_s (w := fun _ => v) hc e2 hm rfl (AP_0 (d := h.1 1 1) (ap_5 (v := v) e2))
    have fm9 : (xw_J (f_append_rows h c v) 156 0 (Int32.toInt64 (nI (m + 1)))).1 141 = h.1 141 := by rw [xJ_1]; exact fr1 f9.1 (by simp; omega)
    have fm5 : (xw_J (f_append_rows h c v) 156 0 (Int32.toInt64 (nI (m + 1)))).1 145 = h.1 145 := by rw [xJ_1]; exact fr1 f9.1 (by simp; omega)
    refine s_Mo_sample K (h := xw_J (f_append_rows h c v) 156 0 (Int32.toInt64 (nI (m + 1)))) (by unfold v_model_channels; rw [fm9]; exact a.mch) (fun c hc => by rw [fm5]; exact a.mlen c hc) (fun z => ?_) (fun c' hc' e1' _ e3' => ?_) (fun c' m' hc' e1' _ e3' hm' => ?_)
    · refine absurd (ci.mpr ?_) q
      unfold g_noChannel v_model_channels at z ⊢
      rw [fm9] at z
      exact z
    · subst e1
      have := nI_c hc hc' e1'
      subst this
      rw [fm5, a.same c hc, e2] at e3'
      exact absurd ((nI_eq (by omega) (by decide)).mp e3') (by omega)
    · subst e1
      have := nI_c hc hc' e1'
      subst this
      rw [fm5, a.same c hc, e2] at e3'
      have := (nI_eq (by omega) (by omega)).mp e3'
      subst this
      obtain ⟨i1, i2, i3⟩ := o_app (g1 := g_add (g_thr (xw_J (f_append_rows h c v) 156 0 (Int32.toInt64 (nI (m + 1)))) 0) c m v) I a hc e2 (by omega) f9 (GP_s (w := fun _ => v) hc hm rfl (GP_0 (by unfold g_add; rw [xI_e])))
      exact ⟨_, rfl, ⟨rfl, rfl⟩, i1, i2, fun _ => i3⟩
theorem bad_ramp {C D b r n0 n1 : Nat} {g : xw_H} {ch n  : Int32} (a : Va h C D b r n0 n1) (eg : g.1 141 = h.1 141) : f_badRamp h ch n  ↔ g_badRamp g ch n  := by
  unfold f_badRamp g_badRamp
  rw [chan_iff a ch, show g_noChannel g ch = g_noChannel h ch by unfold g_noChannel v_model_channels; rw [eg]]
theorem o_ramp (hl : l.stackTraces = false) (I : IV h) {ch n v step : Int32} (hX : ∀ k g a e, a ≤ 1 → e ≤ 6 → xm_M l (y0 u) (KK0 u) m_Mo_ramp [.ref 141, .int ch, .int n, .int v, .int step] g (PA k) → X (.inl (some (.int k))) g a e) : xm_MH l (y0 u) (KK0 u) m_La_ramp hh_La_ramp [.ref 0, .int ch, .int n, .int v, .int step, .ref 156] h X := by
  have K := KK0_ok u
  obtain ⟨⟨C, D, b, r, n0, n1, a⟩, -⟩ := id I
  refine s_La_ramp (s_SS_ramp hl a.ch a.len (fun q => Or.inr ⟨rfl, hX 1 h 1 6 (by decide) (by decide) ?_⟩) (fun c m k hc e1 e2 hk e3 hm q hmk => Or.inl ⟨_, rfl, hX 0 _ 0 0 (by decide) (by decide) ?_⟩) (fun c m k hc e1 e2 hk e3 hm q hmk => Or.inl ⟨_, rfl, hX 0 _ 0 0 (by decide) (by decide) ?_⟩))
  · have q' := (bad_ramp a (g := h) rfl).mp q
    exact s_Mo_ramp K a.mch a.mlen (fun _ => ⟨_, rfl, ⟨rfl, rfl⟩, I.thr, xI_e, fun z => absurd z (by decide)⟩) (fun _ _ _ _ _ _ _ _ _ z _ => absurd q' z) (fun _ _ _ _ _ _ _ _ _ z _ => absurd q' z)
  · refine s_Mo_ramp K (h := xw_J h 156 0 (Int32.toInt64 (-1))) a.mch a.mlen (fun z => absurd ((bad_ramp a (g := xw_J h 156 0 (Int32.toInt64 (-1))) rfl).mpr z) q) (fun _ _ _ _ _ _ _ _ _ _ _ => ⟨_, rfl, ⟨rfl, rfl⟩, I.out, xI_e, fun _ => out_e⟩) (fun c' m' k' hc' e1' e2' hk' e3' hm' _ hmk' => ?_)
    subst e1
    subst e2
    have := nI_c hc hc' e1'
    subst this
    have := (nI_eq hk hk').mp e2'
    subst this
    have e4 : h.1 145 c = nI m' := e3'
    rw [a.same c hc, e3] at e4
    have := (nI_eq (by omega) (by omega)).mp e4
    omega
  · have f9 := AP_ramp (step := step) hc k m v h e3 hmk
    have fm9 : (xw_J (f_ramp c step k v h) 156 0 (Int32.toInt64 (nI (m + k)))).1 141 = h.1 141 := by rw [xJ_1]; exact fr1 f9.1 (by simp; omega)
    have fm5 : (xw_J (f_ramp c step k v h) 156 0 (Int32.toInt64 (nI (m + k)))).1 145 = h.1 145 := by rw [xJ_1]; exact fr1 f9.1 (by simp; omega)
    refine s_Mo_ramp K (h := xw_J (f_ramp c step k v h) 156 0 (Int32.toInt64 (nI (m + k)))) (by unfold v_model_channels; rw [fm9]; exact a.mch) (fun c hc => by rw [fm5]; exact a.mlen c hc) (fun z => absurd ((bad_ramp a fm9).mpr z) q) (fun c' m' k' hc' e1' e2' hk' e3' hm' _ hmk' => ?_) (fun c' m' k' hc' e1' e2' hk' e3' hm' _ hmk' => ?_)
    · subst e1
      subst e2
      have := nI_c hc hc' e1'
      subst this
      have := (nI_eq hk hk').mp e2'
      subst this
      rw [fm5, a.same c hc, e3] at e3'
      have := (nI_eq (by omega) (by omega)).mp e3'
      omega
    · subst e1
      subst e2
      have := nI_c hc hc' e1'
      subst this
      have := (nI_eq hk hk').mp e2'
      subst this
      rw [fm5, a.same c hc, e3] at e3'
      have := (nI_eq (by omega) (by omega)).mp e3'
      subst this
      have g9 := GP_ramp (step := step) (v0 := v) hc k 0 m (g_thr (xw_J (f_ramp c step k v h) 156 0 (Int32.toInt64 (nI (m + k)))) 0) (gp_5 a f9.1 (by simp; omega) hc e3) hmk
      try simp only [Nat.zero_add] at g9
      obtain ⟨i1, i2, i3⟩ := o_app I a hc e3 hmk f9 g9
      exact ⟨_, rfl, ⟨rfl, rfl⟩, i1, i2, fun _ => i3⟩
theorem bad_noise {C D b r n0 n1 : Nat} {g : xw_H} {ch n bits : Int32} (a : Va h C D b r n0 n1) (eg : g.1 141 = h.1 141) : f_badNoise h ch n bits ↔ g_badNoise g ch n bits := by
  unfold f_badNoise g_badNoise
  rw [chan_iff a ch, show g_noChannel g ch = g_noChannel h ch by unfold g_noChannel v_model_channels; rw [eg]]
theorem o_noise (hl : l.stackTraces = false) (I : IV h) {ch n v bits : Int32} (hX : ∀ k g a e, a ≤ 1 → e ≤ 6 → xm_M l (y0 u) (KK0 u) m_Mo_noise [.ref 141, .int ch, .int n, .int v, .int bits] g (PA k) → X (.inl (some (.int k))) g a e) : xm_MH l (y0 u) (KK0 u) m_La_noise hh_La_noise [.ref 0, .int ch, .int n, .int v, .int bits, .ref 156] h X := by
  have K := KK0_ok u
  obtain ⟨⟨C, D, b, r, n0, n1, a⟩, -⟩ := id I
  refine s_La_noise (s_SS_noise hl a.ch a.len (fun q => Or.inr ⟨rfl, hX 1 h 1 6 (by decide) (by decide) ?_⟩) (fun c m k hc e1 e2 hk e3 hm q hmk => Or.inl ⟨_, rfl, hX 0 _ 0 0 (by decide) (by decide) ?_⟩) (fun c m k hc e1 e2 hk e3 hm q hmk => Or.inl ⟨_, rfl, hX 0 _ 0 0 (by decide) (by decide) ?_⟩))
  · have q' := (bad_noise a (g := h) rfl).mp q
    exact s_Mo_noise K a.mch a.mlen (fun _ => ⟨_, rfl, ⟨rfl, rfl⟩, I.thr, xI_e, fun z => absurd z (by decide)⟩) (fun _ _ _ _ _ _ _ _ _ z _ => absurd q' z) (fun _ _ _ _ _ _ _ _ _ z _ => absurd q' z)
  · refine s_Mo_noise K (h := xw_J h 156 0 (Int32.toInt64 (-1))) a.mch a.mlen (fun z => absurd ((bad_noise a (g := xw_J h 156 0 (Int32.toInt64 (-1))) rfl).mpr z) q) (fun _ _ _ _ _ _ _ _ _ _ _ => ⟨_, rfl, ⟨rfl, rfl⟩, I.out, xI_e, fun _ => out_e⟩) (fun c' m' k' hc' e1' e2' hk' e3' hm' _ hmk' => ?_)
    subst e1
    subst e2
    have := nI_c hc hc' e1'
    subst this
    have := (nI_eq hk hk').mp e2'
    subst this
    have e4 : h.1 145 c = nI m' := e3'
    rw [a.same c hc, e3] at e4
    have := (nI_eq (by omega) (by omega)).mp e4
    omega
  · have f9 := AP_noise (bits := bits) hc k m v h e3 hmk
    have fm9 : (xw_J (f_noise c bits k v h) 156 0 (Int32.toInt64 (nI (m + k)))).1 141 = h.1 141 := by rw [xJ_1]; exact fr1 f9.1 (by simp; omega)
    have fm5 : (xw_J (f_noise c bits k v h) 156 0 (Int32.toInt64 (nI (m + k)))).1 145 = h.1 145 := by rw [xJ_1]; exact fr1 f9.1 (by simp; omega)
    refine s_Mo_noise K (h := xw_J (f_noise c bits k v h) 156 0 (Int32.toInt64 (nI (m + k)))) (by unfold v_model_channels; rw [fm9]; exact a.mch) (fun c hc => by rw [fm5]; exact a.mlen c hc) (fun z => absurd ((bad_noise a fm9).mpr z) q) (fun c' m' k' hc' e1' e2' hk' e3' hm' _ hmk' => ?_) (fun c' m' k' hc' e1' e2' hk' e3' hm' _ hmk' => ?_)
    · subst e1
      subst e2
      have := nI_c hc hc' e1'
      subst this
      have := (nI_eq hk hk').mp e2'
      subst this
      rw [fm5, a.same c hc, e3] at e3'
      have := (nI_eq (by omega) (by omega)).mp e3'
      omega
    · subst e1
      subst e2
      have := nI_c hc hc' e1'
      subst this
      have := (nI_eq hk hk').mp e2'
      subst this
      rw [fm5, a.same c hc, e3] at e3'
      have := (nI_eq (by omega) (by omega)).mp e3'
      subst this
      have g9 := GP_noise (bits := bits) hc k m v (g_thr (xw_J (f_noise c bits k v h) 156 0 (Int32.toInt64 (nI (m + k)))) 0) (gp_5 a f9.1 (by simp; omega) hc e3) hmk
      try simp only [Nat.zero_add] at g9
      obtain ⟨i1, i2, i3⟩ := o_app I a hc e3 hmk f9 g9
      exact ⟨_, rfl, ⟨rfl, rfl⟩, i1, i2, fun _ => i3⟩
theorem samp_iff {C D b r n0 n1 c : Nat} (a : Va h C D b r n0 n1) (hc : c < 2) (i : Int32) : f_hasSample_rows h c i = 0 ↔ (i < 0 ∨ h.1 145 c ≤ i) := by
  unfold f_hasSample_rows
  rw [a.same c hc]
  by_cases q : i < 0
  · rw [if_pos q]; exact ⟨fun _ => Or.inl q, fun _ => rfl⟩
  · rw [if_neg q]
    by_cases z : h.1 5 c ≤ i
    · rw [if_pos z]; exact ⟨fun _ => Or.inr z, fun _ => rfl⟩
    · rw [if_neg z]
      exact ⟨fun w => absurd w (by decide), fun w => by rcases w with w | w; exact absurd w q; exact absurd w z⟩
theorem o_at (hl : l.stackTraces = false) (I : IV h) {ch i : Int32} (hX : ∀ k g a e, a ≤ 1 → e ≤ 6 → xm_M l (y0 u) (KK0 u) m_Mo_at [.ref 141, .int ch, .int i] g (PA k) → X (.inl (some (.int k))) g a e) : xm_MH l (y0 u) (KK0 u) m_La_at hh_La_at [.ref 0, .int ch, .int i, .ref 156] h X := by
  have K := KK0_ok u
  obtain ⟨⟨C, D, b, r, n0, n1, a⟩, -⟩ := id I
  have ci := chan_iff a ch
  refine s_La_at (s_SS_at hl a.ch a.len (fun q => Or.inr (Or.inl ⟨rfl, hX 1 h 1 6 (by decide) (by decide) ?_⟩)) (fun c hc e1 q e2 => Or.inr (Or.inr ⟨rfl, hX 2 h 1 6 (by decide) (by decide) ?_⟩)) (fun c k m hc e1 q e2 e3 e4 hm hk => Or.inl ⟨_, rfl, hX 0 _ 0 0 (by decide) (by decide) ?_⟩))
  · exact s_Mo_at K a.mch a.mlen (fun _ => ⟨_, rfl, ⟨rfl, rfl⟩, I.thr, xI_e, fun z => absurd z (by decide)⟩) (fun c _ _ z _ => absurd z (ci.mp q)) (fun c k m _ _ z _ _ _ _ => absurd z (ci.mp q))
  · refine s_Mo_at K a.mch a.mlen (fun z => absurd (ci.mpr z) q) (fun _ _ _ _ _ => ⟨_, rfl, ⟨rfl, rfl⟩, I.thr, xI_e, fun z => absurd z (by decide)⟩) (fun c' k m hc' e1' _ e3 e4 hm hk => ?_)
    subst e1
    have := nI_c hc hc' e1'
    subst this
    have w := (samp_iff a hc i).mp e2
    rw [e3, e4] at w
    rcases w with w | w
    · exact absurd w (nI_pos (by omega))
    · exact absurd ((nI_leI (by omega) (by omega)).mp w) (by omega)
  · subst e1
    refine s_Mo_at K (h := xw_J h 156 0 (Int32.toInt64 (h.1 (3 + c) k))) a.mch a.mlen (fun z => absurd (ci.mpr z) q) (fun c' hc' e1' _ z => ?_) (fun c' k' m' hc' e1' _ e3' e4' hm' hk' => ?_)
    · have := nI_c hc hc' e1'
      subst this
      exact absurd ((samp_iff a hc i).mpr z) e2
    · have := nI_c hc hc' e1'
      subst this
      rw [e3] at e3'
      have := (nI_eq (by omega) (by omega)).mp e3'
      subst this
      refine ⟨_, rfl, ⟨rfl, rfl⟩, I.out, xI_e, fun _ => ?_⟩
      show (xw_J h 156 0 (Int32.toInt64 (h.1 (3 + c) k))).2 156 0 = Int32.toInt64 (h.1 144 (1200 * c + k))
      rw [xJ_e, a.row hc (by omega)]
theorem o_sum (hl : l.stackTraces = false) (I : IV h) {half : Int32} (hX : ∀ k g a e, a ≤ 1 → e ≤ 6 → xm_M l (y0 u) (KK0 u) m_Mo_sum [.ref 141, .int half] g (PL k) → X (.inl (some (.int k))) g a e) : xm_MH l (y0 u) (KK0 u) m_La_sum hh_La_sum [.ref 0, .int half, .ref 156] h X := by
  have K := KK0_ok u
  obtain ⟨⟨C, D, bl, r, n0, n1, a⟩, -, -, -, -, mc⟩ := id I
  have hC := a.1.1
  have hD := a.1.2.1
  have hn := a.2.1
  have ei := even_iff a
  have bad : ∀ {b : Nat}, b < 2 → half = nI b → ¬ (half < 0 ∨ 1 < half) := by
    intro b hb e z
    subst e
    rcases z with z | z
    · exact absurd z (nI_pos (by omega))
    · have := (nI_ltI (a := 1) (by decide) (by omega)).mp z
      omega
  have bad2 : ¬ half = 0 → ¬ half = 1 → ∀ b, b < 2 → ¬ half = nI b := by
    intro h0 h1 b hb e
    have hb2 : b = 0 ∨ b = 1 := by omega
    rcases hb2 with rfl | rfl
    · exact h0 e
    · exact h1 e
  refine s_La_sum (s_SS_sum hl hC.2 hD.2 hn.1 a.2.2.1.1 a.2.2.1.2.1 a.2.2.2.2.1.1 (fun q1 q2 => Or.inr (Or.inl ⟨rfl, hX 1 h 1 6 (by decide) (by decide) ?_⟩)) (fun b hb e1 q => Or.inr (Or.inr ⟨rfl, hX 2 h 1 6 (by decide) (by decide) ?_⟩)) (fun b hb e1 q g fg => Or.inl ⟨_, rfl, hX 0 _ 0 0 (by decide) (by decide) ?_⟩))
  · exact s_Mo_sum K mc hC.2 hD.2 hn.1 a.2.2.2.1.1 a.2.2.2.1.2.1 a.2.2.2.2.1.2.2.1 (fun _ => ⟨_, rfl, ⟨rfl, rfl⟩, I.thr, xI_e, fun z => absurd z (by decide)⟩) (fun b hb e _ => absurd e (bad2 q1 q2 b hb)) (fun b hb e _ _ _ => absurd e (bad2 q1 q2 b hb))
  · exact s_Mo_sum K mc hC.2 hD.2 hn.1 a.2.2.2.1.1 a.2.2.2.1.2.1 a.2.2.2.2.1.2.2.1 (fun z => absurd z (bad hb e1)) (fun _ _ _ _ => ⟨_, rfl, ⟨rfl, rfl⟩, I.thr, xI_e, fun z => absurd z (by decide)⟩) (fun _ _ _ z _ _ => absurd (ei.mp q) z)
  · have F1 : QF h g := (fm_fr fg (by decide)).mono (by decide) (by decide) (fun z => z)
    have a' : Va g C D bl r n0 n1 := a.fm F1 (by decide) (by decide)
    refine s_Mo_sum K (h := xw_J g 156 0 _) (mc.fm F1 (by decide) (by decide)).out (ch := C) (dp := D) (n := n0) hC.2 hD.2 hn.1 a'.2.2.2.1.1 a'.2.2.2.1.2.1 a'.2.2.2.2.1.2.2.1 (fun z => absurd z (bad hb e1)) (fun b' hb' e' z => ?_) (fun b' hb' e' z g2 fg2 => ?_)
    · have z' : g_uneven g := z
      have := (even_iff a').mpr z'
      refine absurd ?_ q
      unfold f_isEven_rows v_rows_channels at this ⊢
      rw [fr1 fg (by decide), fr1 fg (by decide)] at this
      exact this
    · have := nI_c hb hb' (by rw [← e1, ← e'])
      subst this
      have F2 : QF (g_thr (xw_J g 156 0 _) 0) g2 := (fm_fr fg2 (by decide)).mono (by decide) (by decide) (fun z => z)
      refine ⟨_, rfl, ⟨rfl, rfl⟩, (I.quiet (F1.trans qout)).quiet F2, ?_, fun _ => ?_⟩
      · rw [fr1 fg2 (by decide), xI_e]
      · rw [(fg2 156 (by decide)).2]
        refine Eq.trans (b := sumL (mdsum C D n0 (fun c i => h.1 (3 + c) i)) b) out_e ?_
        have em : mdsum C D n0 (fun c i => h.1 (3 + c) i) = mdsum C D n0 (fun c i => (xw_J g 156 0 (sumL (mdsum C D n0 (fun c i => h.1 (3 + c) i)) b)).1 144 (1200 * c + i)) := by
          refine mdsum_congr fun c hc i hi => ?_
          show h.1 (3 + c) i = g.1 144 (1200 * c + i)
          rw [a.row (by omega) (by omega), fr1 fg (by decide)]
        exact congrArg (fun z => sumL z b) em
theorem o_encode (hl : l.stackTraces = false) (I : IV h) {v : Bool} (hX : ∀ k g a e, a ≤ 1 → e ≤ 6 → xm_M l (y0 u) (KK0 u) m_Mo_encode [.ref 141, .int (bz v)] g (PA k) → X (.inl (some (.int k))) g a e) : xm_MH l (y0 u) (KK0 u) m_La_encode hh_La_encode [.ref 0, .int (bz v), .ref 156] h X := by
  have K := KK0_ok u
  obtain ⟨⟨C, D, b, r, n0, n1, a⟩, ⟨L, B⟩, -, -, ⟨w1, w2⟩, mc⟩ := id I
  have ei := even_iff a
  have hE : f_isEven_rows h = 1 → EB C D b r n0 (h.1 3) (h.1 4) := fun e => a.EB (even_N a e)
  refine s_La_encode (s_SS_encode hl hE a.EC w1 w2 even_01 (fun q => Or.inr ⟨rfl, hX 1 h 1 6 (by decide) (by decide) ?_⟩) (fun q g fg W c9 cn => Or.inl ⟨_, rfl, hX 0 _ 0 0 (by decide) (by decide) ?_⟩))
  · exact s_Mo_encode K mc (s0 := h.1 3) (s1 := h.1 4) (fun z => absurd (ei.mp q) z) (a.MB rfl rfl) B.2.2.2.1 (fun _ => ⟨_, rfl, ⟨rfl, rfl⟩, I.thr, xI_e, fun z => absurd z (by decide)⟩) (fun z => absurd (ei.mp q) z)
  · have F1 : fm FL [] false h g := fm_fr fg (by decide)
    have a' : Va g C D b r n0 n1 := a.fm F1 (by decide) (by decide)
    have EBq := hE q
    have eu : ¬ g_uneven g := fun z => by
      have := (even_iff a').mpr z
      unfold f_isEven_rows v_rows_channels at this q
      rw [fmk F1 (k := 1) (by decide) (by decide), fmk F1 (k := 5) (by decide) (by decide)] at this
      rw [this] at q
      exact absurd q (by decide)
    refine s_Mo_encode K (h := xw_J g 156 0 _) (mc.fm F1 (by decide) (by decide)).out (s0 := h.1 3) (s1 := h.1 4) (fun _ => EBq) (a'.MB (fmk F1 (by decide) (by decide)) (fmk F1 (by decide) (by decide))) (fun i hi => ?_) (fun z => absurd z eu) (fun _ g2 f2 m2 m12 m15 sr mb mn => ?_)
    · show ∃ s, s < 256 ∧ g.1 148 i = nI s
      rw [fmk F1 (by decide) (by decide)]
      exact B.2.2.2.1 i hi
    · refine ⟨_, rfl, ⟨rfl, rfl⟩, I.encode a (fN_le a.1.2.2.1.1 a.2.1.1) (est_len EBq) fg W c9 cn f2 m12 m15 sr mb mn, m2, fun _ => ?_⟩
      rw [(f2.1 156 (by decide) (by decide)).2]
      exact xJ_e
theorem o_told (hl : l.stackTraces = false) (I : IV h) {w : Int32} (hX : ∀ k g a e, a ≤ 1 → e ≤ 6 → xm_M l (y0 u) (KK0 u) m_Mo_told [.ref 141, .int w] g (PA k) → X (.inl (some (.int k))) g a e) : xm_MH l (y0 u) (KK0 u) m_La_told hh_La_told [.ref 0, .int w, .ref 156] h X := by
  have K := KK0_ok u
  refine s_La_told (s_SS_told hl (fun q => Or.inr ⟨rfl, hX 1 h 1 6 (by decide) (by decide) ?_⟩) (fun k hk e => Or.inl ⟨_, rfl, hX 0 _ 0 0 (by decide) (by decide) ?_⟩))
  · refine s_Mo_told K (fun _ => ⟨_, rfl, ⟨rfl, rfl⟩, I.thr, xI_e, fun z => absurd z (by decide)⟩) (fun k hk e => ?_)
    subst e
    rcases q with q | q
    · exact absurd q (nI_pos (by omega))
    · exact absurd ((nI_ltI (a := 8) (by decide) (by omega)).mp q) (by omega)
  · refine s_Mo_told K (h := xw_J h 156 0 _) (fun q => ?_) (fun k' hk' e' => ?_)
    · subst e
      rcases q with q | q
      · exact absurd q (nI_pos (by omega))
      · exact absurd ((nI_ltI (a := 8) (by decide) (by omega)).mp q) (by omega)
    · have := (nI_eq (by omega) (by omega)).mp (e.symm.trans e')
      subst this
      refine ⟨_, rfl, ⟨rfl, rfl⟩, I.out, xI_e, fun _ => ?_⟩
      show (xw_J h 156 0 _).2 156 0 = Int32.toInt64 (g_told h k)
      rw [← told_eq I hk]
      exact xJ_e
theorem o_frame (hl : l.stackTraces = false) (I : IV h) {k w : Int32} (hX : ∀ n g a e, a ≤ 1 → e ≤ 6 → xm_M l (y0 u) (KK0 u) m_Mo_frame [.ref 141, .int k, .int w] g (PA n) → X (.inl (some (.int n))) g a e) : xm_MH l (y0 u) (KK0 u) m_La_frame hh_La_frame [.ref 0, .int k, .int w, .ref 156] h X := by
  have K := KK0_ok u
  obtain ⟨-, -, ⟨f, hf, c9, c15, cn⟩, -⟩ := id I
  have ww : (w < 0 ∨ 9 ≤ w) ↔ (w < 0 ∨ 8 < w) := by
    have : (9 : Int32) ≤ w ↔ 8 < w := by rw [Int32.le_iff_toInt_le, Int32.lt_iff_toInt_lt]; exact Iff.rfl
    rw [this]
  have nob : ∀ {b : Nat}, b < 9 → ¬ (nI b < 0 ∨ 8 < nI b) := fun hb q => by
    rcases q with q | q
    · exact absurd q (nI_pos (by omega))
    · exact absurd ((nI_ltI (a := 8) (by decide) (by omega)).mp q) (by omega)
  have noa : ∀ {a : Nat}, a < f → ¬ (nI a < 0 ∨ nI f ≤ nI a) := fun ha q => by
    rcases q with q | q
    · exact absurd q (nI_pos (by omega))
    · exact absurd ((nI_leI (by omega) (by omega)).mp q) (by omega)
  refine s_La_frame (s_SS_frame hl hf c9 (fun q => Or.inr (Or.inl ⟨rfl, hX 1 h 1 6 (by decide) (by decide) ?_⟩)) (fun q1 q2 => Or.inr (Or.inr ⟨rfl, hX 2 h 1 6 (by decide) (by decide) ?_⟩)) (fun a b ha hb e1 e2 => Or.inl ⟨_, rfl, hX 0 _ 0 0 (by decide) (by decide) ?_⟩))
  · exact s_Mo_frame K hf c15 (fun _ => ⟨_, rfl, ⟨rfl, rfl⟩, I.thr, xI_e, fun z => absurd z (by decide)⟩) (fun z _ => absurd (ww.mp q) z) (fun a b _ hb _ e => by subst e; exact absurd (ww.mp q) (nob hb))
  · exact s_Mo_frame K hf c15 (fun z => absurd (ww.mpr z) q1) (fun _ _ => ⟨_, rfl, ⟨rfl, rfl⟩, I.thr, xI_e, fun z => absurd z (by decide)⟩) (fun a b ha _ e _ => by subst e; exact absurd q2 (noa ha))
  · subst e1
    subst e2
    refine s_Mo_frame K (h := xw_J h 156 0 _) hf c15 (fun z => absurd z (nob hb)) (fun _ z => absurd z (noa ha)) (fun a' b' ha' hb' e1' e2' => ?_)
    have := (nI_eq (by omega) (by omega)).mp e1'
    subst this
    have := (nI_eq (by omega) (by omega)).mp e2'
    subst this
    refine ⟨_, rfl, ⟨rfl, rfl⟩, I.out, xI_e, fun _ => ?_⟩
    show (xw_J h 156 0 _).2 156 0 = Int32.toInt64 (h.1 149 (9 * a + b))
    rw [← cn a ha b hb]
    exact xJ_e
theorem o_feed (hl : l.stackTraces = false) (I : IV h) {n : Int32} {b : Int64} (hX : ∀ k g a e, a ≤ 1 → e ≤ 6 → xm_M l (y0 u) (KK0 u) m_Mo_feed [.ref 141, .int n, .long b] g (PA k) → X (.inl (some (.int k))) g a e) : xm_MH l (y0 u) (KK0 u) m_La_feed hh_La_feed [.ref 0, .int n, .long b, .ref 156] h X := by
  have K := KK0_ok u
  obtain ⟨-, ⟨L, B⟩, -⟩ := id I
  have hL := B.1
  have no : ∀ {k : Nat}, 1 ≤ k → k ≤ 8 → ¬ (nI k < 1 ∨ 8 < nI k) := fun h1 h8 q => by
    rcases q with q | q
    · exact absurd ((nI_ltI (b := 1) (by omega) (by decide)).mp q) (by omega)
    · exact absurd ((nI_ltI (a := 8) (by decide) (by omega)).mp q) (by omega)
  refine s_La_feed (s_SS_feed hl hL B.2.1 (fun q => Or.inr ⟨rfl, hX 1 h 1 6 (by decide) (by decide) ?_⟩) (fun k h1 h8 e hk => Or.inl ⟨_, rfl, hX 0 _ 0 0 (by decide) (by decide) ?_⟩) (fun k h1 h8 e hk => Or.inl ⟨_, rfl, hX 0 _ 0 0 (by decide) (by decide) ?_⟩))
  · exact s_Mo_feed K hL B.2.2.1 (fun _ => ⟨_, rfl, ⟨rfl, rfl⟩, I.thr, xI_e, fun z => absurd z (by decide)⟩) (fun k h1 h8 e _ => by subst e; exact absurd q (no h1 h8)) (fun k h1 h8 e _ => by subst e; exact absurd q (no h1 h8))
  · subst e
    refine s_Mo_feed K (h := xw_J h 156 0 _) hL B.2.2.1 (fun z => absurd z (no h1 h8)) (fun _ _ _ _ _ => ⟨_, rfl, ⟨rfl, rfl⟩, I.out, xI_e, fun _ => out_e⟩) (fun k' _ _ e' hk' => ?_)
    have := (nI_eq (by omega) (by omega)).mp e'
    omega
  · subst e
    have p1 := (FP_f (b := b) k 0 L h B.2.1 hk).1
    have m12 : (xw_J (f_feed b k 0 h) 156 0 (Int32.toInt64 (nI (L + k)))).1 141 12 = nI L := by rw [xJ_1, fr1 p1 (by decide)]; exact B.2.2.1
    refine s_Mo_feed K (h := xw_J (f_feed b k 0 h) 156 0 (Int32.toInt64 (nI (L + k)))) hL m12 (fun z => absurd z (no h1 h8)) (fun k' _ _ e' hk' => ?_) (fun k' _ _ e' hk' => ?_)
    · have := (nI_eq (by omega) (by omega)).mp e'
      omega
    · have := (nI_eq (by omega) (by omega)).mp e'
      subst this
      have q1 := (HP_g (b := b) k 0 L (g_thr (xw_J (f_feed b k 0 h) 156 0 (Int32.toInt64 (nI (L + k)))) 0) (by rw [xI_j (by decide)]; exact m12) hk).1
      refine ⟨_, rfl, ⟨rfl, rfl⟩, I.feed B hk, ?_, fun _ => ?_⟩
      · rw [q1.2.1 2 (by decide), xI_e]
      · rw [(q1.1 156 (by decide) (by decide)).2]
        exact out_e
theorem o_cut (hl : l.stackTraces = false) (I : IV h) {n : Int32} (hX : ∀ k g a e, a ≤ 1 → e ≤ 6 → xm_M l (y0 u) (KK0 u) m_Mo_cut [.ref 141, .int n] g (PA k) → X (.inl (some (.int k))) g a e) : xm_MH l (y0 u) (KK0 u) m_La_cut hh_La_cut [.ref 0, .int n, .ref 156] h X := by
  have K := KK0_ok u
  obtain ⟨-, ⟨L, B⟩, -⟩ := id I
  have hL := B.1
  have e6 : v_bytes_length h = nI L := B.2.1
  have e12 : v_model_size h = nI L := B.2.2.1
  refine s_La_cut (s_SS_cut hl (fun q => Or.inr ⟨rfl, hX 1 h 1 6 (by decide) (by decide) ?_⟩) (fun q1 q2 => Or.inl ⟨_, rfl, hX 0 _ 0 0 (by decide) (by decide) ?_⟩))
  · rw [e6] at q
    refine s_Mo_cut K (fun _ => ⟨_, rfl, ⟨rfl, rfl⟩, I.thr, xI_e, fun z => absurd z (by decide)⟩) (fun z1 z2 => ?_)
    rw [e12] at z2
    rcases q with q | q
    · exact absurd q z1
    · exact absurd q (Int32.not_lt.mpr z2)
  · obtain ⟨k, hk, rfl⟩ := nI_of q1
    rw [e6] at q2 ⊢
    have hk2 := (nI_leI (by omega) (by omega)).mp q2
    have m12 : v_model_size (xw_J (xw_I h 6 1 (nI k)) 156 0 (Int32.toInt64 (nI L))) = nI L := by
      show (xw_I h 6 1 (nI k)).1 141 12 = nI L
      rw [xI_k (by decide)]; exact e12
    refine s_Mo_cut K (h := xw_J (xw_I h 6 1 (nI k)) 156 0 (Int32.toInt64 (nI L))) (fun z => ?_) (fun _ _ => ⟨_, rfl, ⟨rfl, rfl⟩, I.cut B hk2, ?_, fun _ => ?_⟩)
    · rw [m12] at z
      rcases z with z | z
      · exact absurd z q1
      · exact absurd z (Int32.not_lt.mpr q2)
    · rw [xI_j (by decide), xI_e]
    · rw [m12]
      show (g_thr (xw_J (xw_I h 6 1 (nI k)) 156 0 (Int32.toInt64 (nI L))) 0).2 156 0 = _
      exact out_e
theorem o_spoil (hl : l.stackTraces = false) (I : IV h) {i v : Int32} (hX : ∀ k g a e, a ≤ 1 → e ≤ 6 → xm_M l (y0 u) (KK0 u) m_Mo_spoil [.ref 141, .int i, .int v] g (PA k) → X (.inl (some (.int k))) g a e) : xm_MH l (y0 u) (KK0 u) m_La_spoil hh_La_spoil [.ref 0, .int i, .int v, .ref 156] h X := by
  have K := KK0_ok u
  obtain ⟨-, ⟨L, B⟩, -⟩ := id I
  have hL := B.1
  have e6 : v_bytes_length h = nI L := B.2.1
  have e12 : v_model_size h = nI L := B.2.2.1
  have hn : (v_bytes_length h).toInt ≤ 9000 := by rw [e6, nI_toInt (by omega)]; omega
  refine s_La_spoil (s_SS_spoil hl hn (fun q => Or.inr (Or.inl ⟨rfl, hX 1 h 1 6 (by decide) (by decide) ?_⟩)) (fun q1 q2 => Or.inr (Or.inr ⟨rfl, hX 2 h 1 6 (by decide) (by decide) ?_⟩)) (fun q1 q2 => Or.inl ⟨_, rfl, hX 0 _ 0 0 (by decide) (by decide) ?_⟩))
  · rw [e6] at q
    refine s_Mo_spoil K (m := L) (by omega) e12 (fun _ => ⟨_, rfl, ⟨rfl, rfl⟩, I.thr, xI_e, fun z => absurd z (by decide)⟩) (fun z _ => ?_) (fun k hk e _ => ?_)
    · rw [e12] at z; exact absurd q z
    · subst e
      rcases q with q | q
      · exact absurd q (nI_pos (by omega))
      · exact absurd ((nI_leI (by omega) (by omega)).mp q) (by omega)
  · rw [e6] at q1
    refine s_Mo_spoil K (m := L) (by omega) e12 (fun z => ?_) (fun _ _ => ⟨_, rfl, ⟨rfl, rfl⟩, I.thr, xI_e, fun z => absurd z (by decide)⟩) (fun k hk e z => absurd q2 z)
    rw [e12] at z; exact absurd z q1
  · rw [e6] at q1
    obtain ⟨k, hk, rfl⟩ : ∃ k : Nat, k < L ∧ i = nI k := by
      have h0 : ¬ i < 0 := fun z => q1 (Or.inl z)
      obtain ⟨k, hk, rfl⟩ := nI_of h0
      exact ⟨k, (nI_ltI hk (by omega)).mp (Int32.not_le.mp (fun z => q1 (Or.inr z))), rfl⟩
    have ef := fset_eq (v := v) B.2.1 hL hk
    have m12 : v_model_size (xw_J (f_set h (nI k) v) 156 0 (Int32.toInt64 (f_get h (nI k)))) = nI L := by
      show (f_set h (nI k) v).1 141 12 = nI L
      rw [ef, xI_k (by decide)]; exact e12
    refine s_Mo_spoil K (h := xw_J (f_set h (nI k) v) 156 0 (Int32.toInt64 (f_get h (nI k)))) (m := L) (by omega) m12 (fun z => ?_) (fun _ z => absurd z q2) (fun k' hk' e' _ => ?_)
    · rw [m12] at z; exact absurd z q1
    · have := (nI_eq (by omega) (by omega)).mp e'
      subst this
      refine ⟨_, rfl, ⟨rfl, rfl⟩, I.spoil B hk q2, ?_, fun _ => ?_⟩
      · rw [xI_k (by decide), xI_e]
      · show (xw_J (f_set h (nI k) v) 156 0 (Int32.toInt64 (f_get h (nI k)))).2 156 0 = Int32.toInt64 ((f_set h (nI k) v).1 148 k)
        rw [xJ_e, fget_eq B hk, ef, xI_k (by decide)]
theorem o_seal (hl : l.stackTraces = false) (I : IV h) {n f t : Int32} (hX : ∀ k g a e, a ≤ 1 → e ≤ 6 → xm_M l (y0 u) (KK0 u) m_Mo_seal [.ref 141, .int n, .int f, .int t] g (PV k) → X (.inl (some (.int k))) g a e) : xm_MH l (y0 u) (KK0 u) m_La_seal hh_La_seal [.ref 0, .int n, .int f, .int t] h X := by
  have K := KK0_ok u
  obtain ⟨-, ⟨L, B⟩, -⟩ := id I
  have hL := B.1
  have e12 : v_model_size h = nI L := B.2.2.1
  refine s_La_seal (s_SS_seal hl hL B.2.1 (fun q1 q2 => Or.inr (Or.inl ⟨rfl, hX 1 h 1 6 (by decide) (by decide) ?_⟩)) (fun q1 q2 => Or.inr (Or.inr ⟨rfl, hX 2 h 1 6 (by decide) (by decide) ?_⟩)) (fun a b q1 q2 e1 e2 hab hb hb2 => Or.inl ⟨rfl, hX 0 _ 0 0 (by decide) (by decide) ?_⟩))
  · exact s_Mo_seal K hL e12 (fun _ _ => ⟨rfl, ⟨rfl, rfl⟩, I.thr, xI_e⟩) (fun z _ => by rcases z with z | z; exact absurd z q1; exact absurd z q2) (fun _ _ z _ _ _ _ _ _ => by rcases z with z | z; exact absurd z q1; exact absurd z q2)
  · exact s_Mo_seal K hL e12 (fun z1 z2 => by rcases q1 with q | q; exact absurd q z1; exact absurd q z2) (fun _ _ => ⟨rfl, ⟨rfl, rfl⟩, I.thr, xI_e⟩) (fun _ _ _ z _ _ _ _ _ => absurd q2 z)
  · subst e1
    subst e2
    have f7 : fr [7] h (f_seal h n a b) := by
      unfold f_seal
      split
      · exact fr_set.trans fr_set
      · exact fr_set
    refine s_Mo_seal K (h := f_seal h n a b) hL (by show (f_seal h n a b).1 141 12 = nI L; rw [fr1 f7 (by decide)]; exact e12) (fun z1 z2 => by rcases q1 with q | q; exact absurd q z1; exact absurd q z2) (fun _ z => absurd z q2) (fun a' b' _ _ e1' e2' hab' hb' _ => ?_)
    have := (nI_eq (by omega) (by omega)).mp e2'
    subst this
    have := (nI_eq (by omega) (by omega)).mp e1'
    subst this
    refine ⟨rfl, ⟨rfl, rfl⟩, I.seal B q1 hb hb2, ?_⟩
    unfold g_seal
    split
    · rw [xI_k (by decide), xI_k (by decide), xI_e]
    · rw [xI_k (by decide), xI_e]
theorem o_heard (hl : l.stackTraces = false) (I : IV h) {ch i : Int32} (hX : ∀ k g a e, a ≤ 1 → e ≤ 6 → xm_M l (y0 u) (KK0 u) m_Mo_heard [.ref 141, .int ch, .int i] g (PA k) → X (.inl (some (.int k))) g a e) : xm_MH l (y0 u) (KK0 u) m_La_heard hh_La_heard [.ref 0, .int ch, .int i, .ref 156] h X := by
  have K := KK0_ok u
  obtain ⟨-, -, -, d, -⟩ := id I
  obtain ⟨m, hm, em⟩ := d.model
  have no : ∀ {c : Nat}, c < 2 → ¬ (nI c < 0 ∨ 1 < nI c) := fun hc q => by
    rcases q with q | q
    · exact absurd q (nI_pos (by omega))
    · exact absurd ((nI_ltI (a := 1) (by decide) (by omega)).mp q) (by omega)
  refine s_La_heard (s_SS_heard hl d.len (fun q1 q2 => Or.inr (Or.inl ⟨rfl, hX 1 h 1 6 (by decide) (by decide) ?_⟩)) (fun c hc e1 q => Or.inr (Or.inr ⟨rfl, hX 2 h 1 6 (by decide) (by decide) ?_⟩)) (fun c k m' hc e1 q e3 e4 hm' hk => Or.inl ⟨_, rfl, hX 0 _ 0 0 (by decide) (by decide) ?_⟩))
  · have nc : ∀ c, c < 2 → ¬ ch = nI c := fun c hc e => by
      have hc2 : c = 0 ∨ c = 1 := by omega
      rcases hc2 with rfl | rfl
      · exact q1 e
      · exact q2 e
    exact s_Mo_heard K hm em (fun _ => ⟨_, rfl, ⟨rfl, rfl⟩, I.thr, xI_e, fun z => absurd z (by decide)⟩) (fun c hc e _ => absurd e (nc c hc)) (fun c k hc e _ _ _ _ => absurd e (nc c hc))
  · subst e1
    have w := (heard_iff d hc i).mp q
    refine s_Mo_heard K hm em (fun z => absurd z (no hc)) (fun _ _ _ _ => ⟨_, rfl, ⟨rfl, rfl⟩, I.thr, xI_e, fun z => absurd z (by decide)⟩) (fun c' k hc' e' z1 z2 e3 hk => ?_)
    subst e3
    rcases w with w | w | w | w
    · exact absurd w z1
    · exact absurd w z2
    · exact absurd w (nI_pos (by omega))
    · rw [em z1] at w
      exact absurd ((nI_leI (by omega) (by omega)).mp w) (by omega)
  · subst e1
    subst e3
    refine s_Mo_heard K (h := xw_J h 156 0 (Int32.toInt64 (h.1 (138 + c) k))) hm em (fun z => absurd z (no hc)) (fun c' hc' e' z => absurd ((heard_iff d hc (nI k)).mpr z) q) (fun c' k' hc' e' z1 z2 e3' hk' => ?_)
    have := nI_c hc hc' e'
    subst this
    have := (nI_eq (by omega) (by omega)).mp e3'
    subst this
    refine ⟨_, rfl, ⟨rfl, rfl⟩, I.out, xI_e, fun _ => ?_⟩
    show (xw_J h 156 0 (Int32.toInt64 (h.1 (138 + c) k))).2 156 0 = Int32.toInt64 (h.1 153 (1200 * c + k))
    rw [xJ_e, heard_val d hc q (by omega)]
/-! calls without exceptions -/
theorem o_clear (I : IV h) (hX : ∀ g, xm_M l (y0 u) (KK0 u) m_Mo_clear [.ref 141] g (fun o g' a b => o = .inl none ∧ (a = 0 ∧ b = 0) ∧ IV g') → X (.inl none) g 0 0) : xm_M l (y0 u) (KK0 u) m_SS_clear [.ref 0] h X :=
  s_SS_clear (KK0_ok u) (hX _ (s_Mo_clear (KK0_ok u) ⟨rfl, ⟨rfl, rfl⟩, I.clear⟩))
theorem o_stream (I : IV h) {i : Int32} (hX : ∀ v g, xm_M l (y0 u) (KK0 u) m_Mo_stream [.ref 141, .int i] g (PFl v) → X (.inl (some (.long v))) g 0 0) : xm_M l (y0 u) (KK0 u) m_SS_stream [.ref 0, .int i] h X := by
  obtain ⟨-, ⟨L, B⟩, -⟩ := id I
  have hL := B.1
  have e6 : v_bytes_length h = nI L := B.2.1
  have e12 : v_model_size h = nI L := B.2.2.1
  refine s_SS_stream (KK0_ok u) (by rw [e6, nI_toInt (by omega)]; omega) (hX _ _ (s_Mo_stream (KK0_ok u) (m := L) (by omega) e12 ⟨?_, ⟨rfl, rfl⟩, I.thr⟩))
  rw [stream_eq I i]
theorem o_fault (I : IV h) (hX : ∀ v g, xm_M l (y0 u) (KK0 u) m_Mo_fault [.ref 141] g (PE v) → X (.inl (some (.int v))) g 0 0) : xm_M l (y0 u) (KK0 u) m_SS_fault [.ref 0] h X := by
  obtain ⟨-, -, -, d, -⟩ := id I
  have e : v_reader_fault h = v_model_fault h := by
    rcases d with d | ⟨ch, m, d⟩
    · exact d.2.1
    · exact d.2.1.1.trans d.2.1.2.1.symm
  exact s_SS_fault (KK0_ok u) (hX _ _ (s_Mo_fault (KK0_ok u) ⟨by rw [e], ⟨rfl, rfl⟩, I.thr⟩))
theorem o_place (I : IV h) (hX : ∀ v g, xm_M l (y0 u) (KK0 u) m_Mo_place [.ref 141] g (PE v) → X (.inl (some (.int v))) g 0 0) : xm_M l (y0 u) (KK0 u) m_SS_place [.ref 0] h X := by
  obtain ⟨-, -, -, d, -⟩ := id I
  have e : f_place h = v_model_place h := by
    rcases d with d | ⟨ch, m, d⟩
    · exact d.2.2.1
    · unfold f_place
      rw [if_pos (show v_reader_fault h = 0 from d.2.1.1)]
      exact d.2.1.2.2.symm
  exact s_SS_place (KK0_ok u) (hX _ _ (s_Mo_place (KK0_ok u) ⟨by rw [e], ⟨rfl, rfl⟩, I.thr⟩))
theorem o_decode (hl : l.stackTraces = false) (I : IV h) (hX : ∀ v g a e, a ≤ 1 → e ≤ 6 → xm_M l (y0 u) (KK0 u) m_Mo_decode [.ref 141] g (PE v) → X (.inl (some (.int v))) g a e) : xm_MH l (y0 u) (KK0 u) m_SS_decode hh_SS_decode [.ref 0] h X := by
  have K := KK0_ok u
  obtain ⟨-, ⟨L, B⟩, -, -, -, mc⟩ := id I
  have hL := B.1
  have mo : ∀ {g : xw_H}, fr DLs h g → MC g ∧ g.1 141 12 = nI L ∧ ∀ q, q < L → ByF (g.1 148 q) (sb h) q := fun f => by
    refine ⟨mc.fm (fm_fr f (by decide)) (by decide) (by decide), ?_, fun q hq => ?_⟩
    · rw [fr1 f (by decide)]; exact B.2.2.1
    · rw [fr1 f (by decide)]; exact ByF_sb B hq
  refine s_SS_decode hl B.2.1 hL (F := sb h) (fun q hq => by rw [fget_eq B hq]; exact ByF_sb B hq) rfl (fun s g e1 fg c5 hok In S FBs c2 => hX _ g 0 0 (by decide) (by decide) ?_) (fun e pl g e1 fg c5 c2 c3 l0 l1 => hX _ g 1 6 (by decide) (by decide) ?_)
  · obtain ⟨m1, m2, m3⟩ := mo fg
    refine s_Mo_decode K m1 m2 hL m3 rfl (fun s' g2 e2 f2 g1 gg g3 _ hl2 gr => ?_) (fun e pl g2 e2 _ _ _ => ?_)
    · rw [e1] at e2
      cases e2
      exact ⟨rfl, ⟨rfl, rfl⟩, I.hearGood fg c5 hok In S FBs c2 f2 g1 gg g3 hl2 gr⟩
    · rw [e1] at e2
      cases e2
  · obtain ⟨m1, m2, m3⟩ := mo fg
    refine s_Mo_decode K m1 m2 hL m3 rfl (fun s' g2 e2 f2 g1 gg g3 _ hl2 gr => ?_) (fun e' pl' g2 e2 f2 g1 he => ?_)
    · rw [e1] at e2
      cases e2
    · rw [e1] at e2
      cases e2
      exact ⟨rfl, ⟨rfl, rfl⟩, I.hearBad fg c5 c2 c3 l0 l1 f2 g1 he⟩
end S9u
