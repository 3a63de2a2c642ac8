/-! the component: packing, and rule D -/
def sp_ks (q : Nat → Nat) : Nat → Nat
  | 0 => 0
  | m + 1 => sp_pj (sp_ks q m) (q m) 4
def sp_ts (b : Nat) (sl sg : Nat → Nat) : Nat → Nat
  | 0 => b
  | t + 1 => sp_pj (sp_pj (sp_ts b sl sg t) (sl t) 3) (sg t) 1
def sp_hs (q : Nat → Nat) (P l ga : Nat) : Nat := sp_pj (sp_pj (sp_ks q P) l 5) ga 3
def sp_fs (q : Nat → Nat) (P l ga : Nat) (sl sg : Nat → Nat) (gf : Nat) : Nat := sp_pj (sp_ts (sp_hs q P l ga) sl sg 4) gf 4
theorem sp_ks_b {q : Nat → Nat} {P : Nat} (hq : ∀ m, m < P → q m < 16) : ∀ m, m ≤ P → sp_ks q m < 2 ^ (4 * m) := by
  intro m
  induction m with
  | zero => intro _; exact Nat.lt_succ_self 0
  | succ m ih => intro h; exact sp_pj_b (c := 4 * m) (ih (by omega)) (hq m (by omega))
theorem sp_hs_b {q : Nat → Nat} {P l ga : Nat} (hq : ∀ m, m < P → q m < 16) (hl : l < 32) (hg : ga < 8) : sp_hs q P l ga < 2 ^ (4 * P + 8) :=
  sp_pj_b (c := 4 * P + 5) (sp_pj_b (sp_ks_b hq P (Nat.le_refl P)) hl) hg
theorem sp_ts_b {b c : Nat} {sl sg : Nat → Nat} (hb : b < 2 ^ c) (h1 : ∀ t, t < 4 → sl t < 8) (h2 : ∀ t, t < 4 → sg t < 2) : ∀ t, t ≤ 4 → sp_ts b sl sg t < 2 ^ (c + 4 * t) := by
  intro t
  induction t with
  | zero => intro _; exact hb
  | succ t ih => intro h; exact sp_pj_b (c := c + 4 * t + 3) (sp_pj_b (ih (by omega)) (h1 t (by omega))) (h2 t (by omega))
theorem sp_fs_b {q : Nat → Nat} {P l ga gf : Nat} {sl sg : Nat → Nat} (hq : ∀ m, m < P → q m < 16) (hl : l < 32) (hg : ga < 8) (h1 : ∀ t, t < 4 → sl t < 8) (h2 : ∀ t, t < 4 → sg t < 2) (hf : gf < 16) :
    sp_fs q P l ga sl sg gf < 2 ^ (4 * P + 28) :=
  sp_pj_b (c := 4 * P + 8 + 4 * 4) (sp_ts_b (sp_hs_b hq hl hg) h1 h2 4 (Nat.le_refl 4)) hf
theorem sx_pf71 {P N T : Nat} {x_pending : Int32} {x_encodedStream : Int64} {x_reflectionLevels x_pulseLevels x_memory x_history x_output x_fields x_frameCounts x_reflections x_samples x_rawReflections x_target x_impulseResponse x_pastExcitation x_filteredPast x_chosenPulses x_trialPulses x_pulseSigns x_excitation x_receivedFields : Nat → Int32} {x_correlation x_predictor x_oldPredictor : Nat → Int64} {post : St2 → Prop} {b gf : Nat} {sl sg : Nat → Nat} (hP : P ≤ 6) (hb : b < 2 ^ (4 * P + 8)) (h1 : ∀ t, t < 4 → x_fields (3 + t) = nI (sl t) ∧ sl t < 8) (h2 : ∀ t, t < 4 → x_fields (7 + t) = nI (sg t) ∧ sg t < 2)
    (hf : x_fields 2 = nI gf) (hf' : gf < 16)
    (h : post ((nI P), (nI N), (nI T), x_pending, (lN (sp_pj (sp_ts b sl sg 4) gf 4 <<< (36 - 4 * P))), x_reflectionLevels, x_pulseLevels, x_memory, x_history, x_output, x_fields, x_frameCounts, x_reflections, x_samples, x_rawReflections, x_correlation, x_predictor, x_oldPredictor, x_target, x_impulseResponse, x_pastExcitation, x_filteredPast, x_chosenPulses, x_trialPulses, x_pulseSigns, x_excitation, x_receivedFields)) :
    ∀ d t, t + d = 4 → wX_packFields_71 post 0 (nI P) (nI N) (nI T) x_pending x_encodedStream x_reflectionLevels x_pulseLevels x_memory x_history x_output x_fields x_frameCounts x_reflections x_samples x_rawReflections x_correlation x_predictor x_oldPredictor x_target x_impulseResponse x_pastExcitation x_filteredPast x_chosenPulses x_trialPulses x_pulseSigns x_excitation x_receivedFields (d + 1) (lN (sp_ts b sl sg t)) (nI t) := by
  intro d
  induction d with
  | zero =>
    intro t ht
    obtain rfl : t = 4 := by omega
    have tb := sp_ts_b hb (fun t ht => (h1 t ht).2) (fun t ht => (h2 t ht).2) 4 (Nat.le_refl 4)
    refine br_t (nI_le (a := 4) (by omega) (by omega)) ⟨vp_in_nI (n := 2) (by omega) (by omega), nm_r (e' := lN (sp_pj (sp_ts b sl sg 4) gf 4)) ?_ (nm_r (e' := lN (sp_pj (sp_ts b sl sg 4) gf 4 <<< (36 - 4 * P))) ?_ h)⟩
    · rw [show x_fields ((0 : Int32) + 2).toNatClampNeg = nI gf from hf]
      exact sp_pj_l (w := 4) (c := 4 * P + 8 + 4 * 4) rfl (by omega) tb hf' (by omega) (by omega)
    · rw [show (4 : Int32) * nI P = nI (4 * P) from pk_mul 4 P, show (36 : Int32) - nI (4 * P) = nI (36 - 4 * P) from pk_sub (a := 36) (by omega), wb_shl _ (by omega), Nat.shiftLeft_eq]
  | succ d ih =>
    intro t ht
    have tb := sp_ts_b hb (fun t ht => (h1 t ht).2) (fun t ht => (h2 t ht).2) t (by omega)
    have e3 : (0 : Int32) + 3 + nI t = nI (3 + t) := nI_add 3 t
    have e7 : (0 : Int32) + 7 + nI t = nI (7 + t) := nI_add 7 t
    refine br_f (nI_ge (b := 4) (by omega) (by omega)) ⟨pk_in (3 + t) 34 (by omega) e3, nm_r (e' := lN (sp_pj (sp_ts b sl sg t) (sl t) 3)) ?_ ⟨pk_in (7 + t) 34 (by omega) e7, nm_r (e' := lN (sp_ts b sl sg (t + 1))) ?_ (nm_r (nI_1 t) (ih (t + 1) (by omega)))⟩⟩
    · have q := h1 t (by omega)
      rw [e3, nI_clamp (by omega), q.1]
      exact sp_pj_l (w := 3) (c := 4 * P + 8 + 4 * t) rfl (by omega) tb q.2 (by omega) (by omega)
    · have q := h2 t (by omega)
      have q1 := h1 t (by omega)
      rw [e7, nI_clamp (by omega), q.1]
      exact sp_pj_l (w := 1) (c := 4 * P + 8 + 4 * t + 3) rfl (by omega) (sp_pj_b tb q1.2) q.2 (by omega) (by omega)
theorem sx_pf7 {P N T : Nat} {x_pending : Int32} {x_encodedStream : Int64} {x_reflectionLevels x_pulseLevels x_memory x_history x_output x_fields x_frameCounts x_reflections x_samples x_rawReflections x_target x_impulseResponse x_pastExcitation x_filteredPast x_chosenPulses x_trialPulses x_pulseSigns x_excitation x_receivedFields : Nat → Int32} {x_correlation x_predictor x_oldPredictor : Nat → Int64} {post : St2 → Prop} {l ga gf : Nat} {q sl sg : Nat → Nat} (hP : P ≤ 6) (hq : ∀ m, m < P → x_fields (11 + m) = nI (q m) ∧ q m < 16)
    (h0 : x_fields 0 = nI l) (hl : l < 32) (hg0 : x_fields 1 = nI ga) (hg : ga < 8) (h1 : ∀ t, t < 4 → x_fields (3 + t) = nI (sl t) ∧ sl t < 8) (h2 : ∀ t, t < 4 → x_fields (7 + t) = nI (sg t) ∧ sg t < 2)
    (hf : x_fields 2 = nI gf) (hf' : gf < 16)
    (h : post ((nI P), (nI N), (nI T), x_pending, (lN (sp_fs q P l ga sl sg gf <<< (36 - 4 * P))), x_reflectionLevels, x_pulseLevels, x_memory, x_history, x_output, x_fields, x_frameCounts, x_reflections, x_samples, x_rawReflections, x_correlation, x_predictor, x_oldPredictor, x_target, x_impulseResponse, x_pastExcitation, x_filteredPast, x_chosenPulses, x_trialPulses, x_pulseSigns, x_excitation, x_receivedFields)) :
    ∀ d m, m + d = P → wX_packFields_7 post 0 (nI P) (nI N) (nI T) x_pending x_encodedStream x_reflectionLevels x_pulseLevels x_memory x_history x_output x_fields x_frameCounts x_reflections x_samples x_rawReflections x_correlation x_predictor x_oldPredictor x_target x_impulseResponse x_pastExcitation x_filteredPast x_chosenPulses x_trialPulses x_pulseSigns x_excitation x_receivedFields (d + 1) (lN (sp_ks q m)) (nI m) := by
  have kb := fun m hm => sp_ks_b (q := q) (P := P) (fun m hm => (hq m hm).2) m hm
  intro d
  induction d with
  | zero =>
    intro m hm
    obtain rfl : m = P := by omega
    have b0 := kb m (Nat.le_refl m)
    refine br_t (nI_le (by omega) (by omega)) ⟨vp_in_nI (n := 0) (by omega) (by omega), nm_r (e' := lN (sp_pj (sp_ks q m) l 5)) ?_ ⟨vp_in_nI (n := 1) (by omega) (by omega), nm_r (e' := lN (sp_hs q m l ga)) ?_ ⟨4 + 1, sx_pf71 (b := sp_hs q m l ga) hP (sp_hs_b (fun m hm => (hq m hm).2) hl hg) h1 h2 hf hf' h 4 0 (by omega)⟩⟩⟩
    · rw [show x_fields ((0 : Int32) + 0).toNatClampNeg = nI l from h0]
      exact sp_pj_l (w := 5) (c := 4 * m) rfl (by omega) b0 hl (by omega) (by omega)
    · rw [show x_fields ((0 : Int32) + 1).toNatClampNeg = nI ga from hg0]
      exact sp_pj_l (w := 3) (c := 4 * m + 5) rfl (by omega) (sp_pj_b b0 hl) hg (by omega) (by omega)
  | succ d ih =>
    intro m hm
    have e : (0 : Int32) + 11 + nI m = nI (11 + m) := nI_add 11 m
    refine br_f (nI_ge (by omega) (by omega)) ⟨pk_in (11 + m) 34 (by omega) e, nm_r (e' := lN (sp_ks q (m + 1))) ?_ (nm_r (nI_1 m) (ih (m + 1) (by omega)))⟩
    have o := hq m (by omega)
    rw [e, nI_clamp (by omega), o.1]
    exact sp_pj_l (w := 4) (c := 4 * m) rfl (by omega) (kb m (by omega)) o.2 (by omega) (by omega)
theorem sx_pf {P N T : Nat} {x_pending : Int32} {x_encodedStream : Int64} {x_reflectionLevels x_pulseLevels x_memory x_history x_output x_fields x_frameCounts x_reflections x_samples x_rawReflections x_target x_impulseResponse x_pastExcitation x_filteredPast x_chosenPulses x_trialPulses x_pulseSigns x_excitation x_receivedFields : Nat → Int32} {x_correlation x_predictor x_oldPredictor : Nat → Int64} {post : St2 → Prop} {l ga gf : Nat} {q sl sg : Nat → Nat} (hP : P ≤ 6) (hq : ∀ m, m < P → x_fields (11 + m) = nI (q m) ∧ q m < 16)
    (h0 : x_fields 0 = nI l) (hl : l < 32) (hg0 : x_fields 1 = nI ga) (hg : ga < 8) (h1 : ∀ t, t < 4 → x_fields (3 + t) = nI (sl t) ∧ sl t < 8) (h2 : ∀ t, t < 4 → x_fields (7 + t) = nI (sg t) ∧ sg t < 2)
    (hf : x_fields 2 = nI gf) (hf' : gf < 16)
    (h : post ((nI P), (nI N), (nI T), x_pending, (lN (sp_fs q P l ga sl sg gf <<< (36 - 4 * P))), x_reflectionLevels, x_pulseLevels, x_memory, x_history, x_output, x_fields, x_frameCounts, x_reflections, x_samples, x_rawReflections, x_correlation, x_predictor, x_oldPredictor, x_target, x_impulseResponse, x_pastExcitation, x_filteredPast, x_chosenPulses, x_trialPulses, x_pulseSigns, x_excitation, x_receivedFields)) : wpX_packFields post ((nI P), (nI N), (nI T), x_pending, x_encodedStream, x_reflectionLevels, x_pulseLevels, x_memory, x_history, x_output, x_fields, x_frameCounts, x_reflections, x_samples, x_rawReflections, x_correlation, x_predictor, x_oldPredictor, x_target, x_impulseResponse, x_pastExcitation, x_filteredPast, x_chosenPulses, x_trialPulses, x_pulseSigns, x_excitation, x_receivedFields) :=
  Exists.intro (P + 1) (sx_pf7 hP hq h0 hl hg0 hg h1 h2 hf hf' h P 0 (by omega))
/-- placing the pulses: a step -/
theorem sp_cp_s {sl sg : Nat → Nat} {N t : Nat} {A : Nat → Int32} {x : Int32} (ht : t < 4) (hx : x = if sg t = 0 then 1 else -1)
    (h : ∀ n, n < N → A n = if n % 4 < t then sp_cp sl sg n else 0) : ∀ n, n < N → upd A (t + 4 * sl t) x n = if n % 4 < t + 1 then sp_cp sl sg n else 0 := by
  intro n hn
  by_cases e : n = t + 4 * sl t
  · subst e
    have m4 : (t + 4 * sl t) % 4 = t := by omega
    have d4 : (t + 4 * sl t) / 4 = sl t := by omega
    rw [pk_us, if_pos (by omega), hx]
    unfold sp_cp
    rw [m4, d4, if_pos rfl]
  · rw [pk_un e, h n hn]
    by_cases c : n % 4 < t
    · rw [if_pos c, if_pos (by omega)]
    · rw [if_neg c]
      by_cases c2 : n % 4 = t
      · rw [if_pos (by omega)]
        unfold sp_cp
        rw [c2, if_neg (by omega)]
      · rw [if_neg (by omega)]
theorem sx_pp25 {P N T : Nat} {x_pending : Int32} {x_encodedStream : Int64} {x_reflectionLevels x_pulseLevels x_memory x_history x_output x_fields x_frameCounts x_reflections x_samples x_rawReflections x_target x_impulseResponse x_pastExcitation x_filteredPast x_chosenPulses x_trialPulses x_excitation x_receivedFields : Nat → Int32} {x_correlation x_predictor x_oldPredictor : Nat → Int64} {post : St2 → Prop} {sl sg : Nat → Nat} {sd : Nat} (hsd : sd ≤ 1) (hT : T ≤ 8) (hNT : N = 4 * T)
    (h1 : ∀ t, t < 4 → x_fields (sd * 17 + 3 + t) = nI (sl t) ∧ sl t < T) (h2 : ∀ t, t < 4 → x_fields (sd * 17 + 7 + t) = nI (sg t) ∧ sg t < 2)
    (h : ∀ ps, (∀ n, n < N → ps n = sp_cp sl sg n) → post ((nI P), (nI N), (nI T), x_pending, x_encodedStream, x_reflectionLevels, x_pulseLevels, x_memory, x_history, x_output, x_fields, x_frameCounts, x_reflections, x_samples, x_rawReflections, x_correlation, x_predictor, x_oldPredictor, x_target, x_impulseResponse, x_pastExcitation, x_filteredPast, x_chosenPulses, x_trialPulses, ps, x_excitation, x_receivedFields)) :
    ∀ d t ps, t + d = 4 → (∀ n, n < N → ps n = if n % 4 < t then sp_cp sl sg n else 0) → wX_placePulses_25 post (nI sd) (nI P) (nI N) (nI T) x_pending x_encodedStream (d + 1) (nI t) x_reflectionLevels x_pulseLevels x_memory x_history x_output x_fields x_frameCounts x_reflections x_samples x_rawReflections x_correlation x_predictor x_oldPredictor x_target x_impulseResponse x_pastExcitation x_filteredPast x_chosenPulses x_trialPulses ps x_excitation x_receivedFields := by
  intro d
  induction d with
  | zero =>
    intro t ps ht hp
    obtain rfl : t = 4 := by omega
    exact br_t (nI_le (a := 4) (by omega) (by omega)) (h ps (fun n hn => by rw [hp n hn, if_pos (by omega)]))
  | succ d ih =>
    intro t ps ht hp
    have q1 := h1 t (by omega)
    have q2 := h2 t (by omega)
    have e3 : nI sd * 17 + 3 + nI t = nI (sd * 17 + 3 + t) := by
      rw [show nI sd * 17 = nI (sd * 17) from pk_mul sd 17, show nI (sd * 17) + 3 = nI (sd * 17 + 3) from nI_add _ 3, nI_add]
    have e7 : nI sd * 17 + 7 + nI t = nI (sd * 17 + 7 + t) := by
      rw [show nI sd * 17 = nI (sd * 17) from pk_mul sd 17, show nI (sd * 17) + 7 = nI (sd * 17 + 7) from nI_add _ 7, nI_add]
    have ep : nI t + 4 * nI (sl t) = nI (t + 4 * sl t) := by
      rw [show (4 : Int32) * nI (sl t) = nI (4 * sl t) from pk_mul 4 (sl t), nI_add]
    refine br_f (nI_ge (b := 4) (by omega) (by omega)) ⟨pk_in (sd * 17 + 3 + t) 34 (by omega) e3, nm_r (e' := nI (sl t)) ?_ ⟨pk_in (sd * 17 + 7 + t) 34 (by omega) e7, nm_r (e' := nI (sg t)) ?_ ?_⟩⟩
    · rw [e3, nI_clamp (by omega)]
      exact q1.1
    · rw [e7, nI_clamp (by omega)]
      exact q2.1
    · by_cases z : sg t = 0
      · refine br_t (by rw [z]; rfl) ⟨pk_in (t + 4 * sl t) 32 (by omega) ep, nm_e (nm_r (nI_1 t) (ih (t + 1) _ (by omega) ?_))⟩
        rw [ep, nI_clamp (by omega)]
        exact sp_cp_s (by omega) (by rw [if_pos z]) hp
      · refine br_f (nI_ne0 (by omega) (by omega)) ⟨pk_in (t + 4 * sl t) 32 (by omega) ep, nm_e (nm_r (nI_1 t) (ih (t + 1) _ (by omega) ?_))⟩
        rw [ep, nI_clamp (by omega)]
        exact sp_cp_s (by omega) (by rw [if_neg z]) hp
theorem sx_pp2 {P N T : Nat} {x_pending : Int32} {x_encodedStream : Int64} {x_reflectionLevels x_pulseLevels x_memory x_history x_output x_fields x_frameCounts x_reflections x_samples x_rawReflections x_target x_impulseResponse x_pastExcitation x_filteredPast x_chosenPulses x_trialPulses x_excitation x_receivedFields : Nat → Int32} {x_correlation x_predictor x_oldPredictor : Nat → Int64} {post : St2 → Prop} {sl sg : Nat → Nat} {sd : Nat} (hsd : sd ≤ 1) (hT : T ≤ 8) (hNT : N = 4 * T)
    (h1 : ∀ t, t < 4 → x_fields (sd * 17 + 3 + t) = nI (sl t) ∧ sl t < T) (h2 : ∀ t, t < 4 → x_fields (sd * 17 + 7 + t) = nI (sg t) ∧ sg t < 2)
    (h : ∀ ps, (∀ n, n < N → ps n = sp_cp sl sg n) → post ((nI P), (nI N), (nI T), x_pending, x_encodedStream, x_reflectionLevels, x_pulseLevels, x_memory, x_history, x_output, x_fields, x_frameCounts, x_reflections, x_samples, x_rawReflections, x_correlation, x_predictor, x_oldPredictor, x_target, x_impulseResponse, x_pastExcitation, x_filteredPast, x_chosenPulses, x_trialPulses, ps, x_excitation, x_receivedFields)) :
    ∀ d i ps, i + d = N → (∀ n, n < i → ps n = 0) → wX_placePulses_2 post (nI sd) (nI P) (nI N) (nI T) x_pending x_encodedStream (d + 1) (nI i) x_reflectionLevels x_pulseLevels x_memory x_history x_output x_fields x_frameCounts x_reflections x_samples x_rawReflections x_correlation x_predictor x_oldPredictor x_target x_impulseResponse x_pastExcitation x_filteredPast x_chosenPulses x_trialPulses ps x_excitation x_receivedFields := by
  intro d
  induction d with
  | zero =>
    intro i ps hi hp
    obtain rfl : i = N := by omega
    exact br_t (nI_le (by omega) (by omega)) ⟨4 + 1, sx_pp25 hsd hT hNT h1 h2 h 4 0 ps (by omega) (fun n hn => by rw [if_neg (by omega)]; exact hp n hn)⟩
  | succ d ih =>
    intro i ps hi hp
    refine br_f (nI_ge (by omega) (by omega)) ⟨vp_in_nI (by omega) (by omega), nm_e (nm_r (nI_1 i) (ih (i + 1) _ (by omega) ?_))⟩
    intro j hj
    rw [nI_clamp (by omega)]
    by_cases e : j = i
    · subst e
      rw [pk_us]
    · rw [pk_un e]
      exact hp j (by omega)
theorem sx_pp {P N T : Nat} {x_pending : Int32} {x_encodedStream : Int64} {x_reflectionLevels x_pulseLevels x_memory x_history x_output x_fields x_frameCounts x_reflections x_samples x_rawReflections x_target x_impulseResponse x_pastExcitation x_filteredPast x_chosenPulses x_trialPulses x_pulseSigns x_excitation x_receivedFields : Nat → Int32} {x_correlation x_predictor x_oldPredictor : Nat → Int64} {post : St2 → Prop} {sl sg : Nat → Nat} {sd : Nat} (hsd : sd ≤ 1) (hT : T ≤ 8) (hNT : N = 4 * T)
    (h1 : ∀ t, t < 4 → x_fields (sd * 17 + 3 + t) = nI (sl t) ∧ sl t < T) (h2 : ∀ t, t < 4 → x_fields (sd * 17 + 7 + t) = nI (sg t) ∧ sg t < 2)
    (h : ∀ ps, (∀ n, n < N → ps n = sp_cp sl sg n) → post ((nI P), (nI N), (nI T), x_pending, x_encodedStream, x_reflectionLevels, x_pulseLevels, x_memory, x_history, x_output, x_fields, x_frameCounts, x_reflections, x_samples, x_rawReflections, x_correlation, x_predictor, x_oldPredictor, x_target, x_impulseResponse, x_pastExcitation, x_filteredPast, x_chosenPulses, x_trialPulses, ps, x_excitation, x_receivedFields)) : wpX_placePulses post ((nI P), (nI N), (nI T), x_pending, x_encodedStream, x_reflectionLevels, x_pulseLevels, x_memory, x_history, x_output, x_fields, x_frameCounts, x_reflections, x_samples, x_rawReflections, x_correlation, x_predictor, x_oldPredictor, x_target, x_impulseResponse, x_pastExcitation, x_filteredPast, x_chosenPulses, x_trialPulses, x_pulseSigns, x_excitation, x_receivedFields) (nI sd) :=
  Exists.intro (N + 1) (sx_pp2 hsd hT hNT h1 h2 h N 0 x_pulseSigns (by omega) (fun n hn => absurd hn (by omega)))
theorem sx_me35 {P N T : Nat} {x_pending : Int32} {x_encodedStream : Int64} {x_reflectionLevels x_pulseLevels x_memory x_history x_output x_fields x_frameCounts x_reflections x_samples x_rawReflections x_target x_impulseResponse x_pastExcitation x_filteredPast x_chosenPulses x_trialPulses x_pulseSigns x_excitation x_receivedFields : Nat → Int32} {x_correlation x_predictor x_oldPredictor : Nat → Int64} {post : St2 → Prop} {H : Nat → Int32} {l ga gf : Nat} {sl sg : Nat → Nat} (hN : N ≤ 32)
    (hv : ∀ n, n < N → x_pastExcitation n = sp_pv H (l + 4) n) (hp : ∀ n, n < N → x_pulseSigns n = sp_cp sl sg n)
    (h : post ((nI P), (nI N), (nI T), x_pending, x_encodedStream, x_reflectionLevels, x_pulseLevels, x_memory, x_history, x_output, x_fields, x_frameCounts, x_reflections, x_samples, x_rawReflections, x_correlation, x_predictor, x_oldPredictor, x_target, x_impulseResponse, x_pastExcitation, x_filteredPast, x_chosenPulses, x_trialPulses, x_pulseSigns, (sp_fl (sp_u H l ga gf sl sg) N x_excitation), x_receivedFields)) :
    ∀ d i, i + d = N → wX_mixExcitation_35 post (37 * nI ga) (sp_fg gf) (nI P) (nI N) (nI T) x_pending x_encodedStream (d + 1) (nI i) x_reflectionLevels x_pulseLevels x_memory x_history x_output x_fields x_frameCounts x_reflections x_samples x_rawReflections x_correlation x_predictor x_oldPredictor x_target x_impulseResponse x_pastExcitation x_filteredPast x_chosenPulses x_trialPulses x_pulseSigns (sp_fl (sp_u H l ga gf sl sg) i x_excitation) x_receivedFields := by
  intro d
  induction d with
  | zero =>
    intro i hi
    obtain rfl : i = N := by omega
    exact br_t (nI_le (by omega) (by omega)) h
  | succ d ih =>
    intro i hi
    refine br_f (nI_ge (by omega) (by omega)) ⟨vp_in_nI (by omega) (by omega), vp_in_nI (by omega) (by omega), sx_satE (v := sp_u H l ga gf sl sg i) ?_ ⟨vp_in_nI (by omega) (by omega), nm_r ?_ (nm_r (nI_1 i) (ih (i + 1) (by omega)))⟩⟩
    · rw [nI_clamp (by omega), hv i (by omega), hp i (by omega)]
      rfl
    · rw [nI_clamp (by omega)]
      exact sp_flS
theorem sx_me {P N T : Nat} {x_pending : Int32} {x_encodedStream : Int64} {x_reflectionLevels x_pulseLevels x_memory x_history x_output x_fields x_frameCounts x_reflections x_samples x_rawReflections x_target x_impulseResponse x_pastExcitation x_filteredPast x_chosenPulses x_trialPulses x_pulseSigns x_excitation x_receivedFields : Nat → Int32} {x_correlation x_predictor x_oldPredictor : Nat → Int64} {post : St2 → Prop} {H : Nat → Int32} {l ga gf sd : Nat} {sl sg : Nat → Nat} (hN : N ≤ 32) (hsd : sd ≤ 1)
    (hv : ∀ n, n < N → x_pastExcitation n = sp_pv H (l + 4) n) (hp : ∀ n, n < N → x_pulseSigns n = sp_cp sl sg n) (hg : ∀ j, j < 16 → x_pulseLevels j = sp_fg j)
    (hga : x_fields (sd * 17 + 1) = nI ga) (hgf : x_fields (sd * 17 + 2) = nI gf) (hgf' : gf < 16)
    (h : post ((nI P), (nI N), (nI T), x_pending, x_encodedStream, x_reflectionLevels, x_pulseLevels, x_memory, x_history, x_output, x_fields, x_frameCounts, x_reflections, x_samples, x_rawReflections, x_correlation, x_predictor, x_oldPredictor, x_target, x_impulseResponse, x_pastExcitation, x_filteredPast, x_chosenPulses, x_trialPulses, x_pulseSigns, (sp_fl (sp_u H l ga gf sl sg) N x_excitation), x_receivedFields)) : wpX_mixExcitation post ((nI P), (nI N), (nI T), x_pending, x_encodedStream, x_reflectionLevels, x_pulseLevels, x_memory, x_history, x_output, x_fields, x_frameCounts, x_reflections, x_samples, x_rawReflections, x_correlation, x_predictor, x_oldPredictor, x_target, x_impulseResponse, x_pastExcitation, x_filteredPast, x_chosenPulses, x_trialPulses, x_pulseSigns, x_excitation, x_receivedFields) (nI sd) := by
  have e1 : nI sd * 17 + 1 = nI (sd * 17 + 1) := by
    rw [show nI sd * 17 = nI (sd * 17) from pk_mul sd 17, nI_1]
  have e2 : nI sd * 17 + 2 = nI (sd * 17 + 2) := by
    rw [show nI sd * 17 = nI (sd * 17) from pk_mul sd 17]
    exact nI_add _ 2
  have t := sx_me35 (x_excitation := x_excitation) (ga := ga) (gf := gf) hN hv hp h N 0 (by omega)
  rw [sp_fl0] at t
  have c2 : x_fields (nI sd * 17 + 2).toNatClampNeg = nI gf := by
    rw [e2, nI_clamp (by omega)]
    exact hgf
  refine And.intro (pk_in (sd * 17 + 1) 34 (by omega) e1) (nm_r (e' := 37 * nI ga) ?_ ⟨pk_in (sd * 17 + 2) 34 (by omega) e2, pk_in gf 16 hgf' c2, nm_r (e' := sp_fg gf) ?_ (Exists.intro _ t)⟩)
  · rw [e1, nI_clamp (by omega), hga]
  · rw [c2, nI_clamp (by omega)]
    exact hg gf hgf'
theorem sx_sh45 {P N T : Nat} {x_pending : Int32} {x_encodedStream : Int64} {x_reflectionLevels x_pulseLevels x_memory x_history x_output x_fields x_frameCounts x_reflections x_samples x_rawReflections x_target x_impulseResponse x_pastExcitation x_filteredPast x_chosenPulses x_trialPulses x_pulseSigns x_excitation x_receivedFields : Nat → Int32} {x_correlation x_predictor x_oldPredictor : Nat → Int64} {post : St2 → Prop} {H u : Nat → Int32} {sd : Nat} (hN8 : 8 ≤ N) (hN : N ≤ 32) (hsd : sd ≤ 1) (hu : ∀ n, n < N → x_excitation n = u n)
    (h : ∀ A, (∀ j, 1 ≤ j → j ≤ 64 → A (sd * 64 + j - 1) = sp_nh N u H j) → (∀ q, q < sd * 64 ∨ sd * 64 + 64 ≤ q → A q = x_history q) → post ((nI P), (nI N), (nI T), x_pending, x_encodedStream, x_reflectionLevels, x_pulseLevels, x_memory, A, x_output, x_fields, x_frameCounts, x_reflections, x_samples, x_rawReflections, x_correlation, x_predictor, x_oldPredictor, x_target, x_impulseResponse, x_pastExcitation, x_filteredPast, x_chosenPulses, x_trialPulses, x_pulseSigns, x_excitation, x_receivedFields)) :
    ∀ d i A, i + d = N → (∀ j, 1 ≤ j → j ≤ 64 → A (sd * 64 + j - 1) = if j ≤ i then u (N - j) else if N < j then H (j - N) else H j) → (∀ q, q < sd * 64 ∨ sd * 64 + 64 ≤ q → A q = x_history q) →
      wX_shiftHistory_45 post (nI (sd * 64)) (nI P) (nI N) (nI T) x_pending x_encodedStream (d + 1) (nI i) x_reflectionLevels x_pulseLevels x_memory A x_output x_fields x_frameCounts x_reflections x_samples x_rawReflections x_correlation x_predictor x_oldPredictor x_target x_impulseResponse x_pastExcitation x_filteredPast x_chosenPulses x_trialPulses x_pulseSigns x_excitation x_receivedFields := by
  intro d
  induction d with
  | zero =>
    intro i A hi ha hf
    obtain rfl : i = N := by omega
    refine br_t (nI_le (by omega) (by omega)) (h A (fun j h1 h2 => ?_) hf)
    rw [ha j h1 h2]
    unfold sp_nh
    by_cases c : j ≤ i
    · rw [if_pos c, if_pos c]
    · rw [if_neg c, if_neg c, if_pos (by omega)]
  | succ d ih =>
    intro i A hi ha hf
    have e : nI N - 1 - nI i = nI (N - (i + 1)) := by
      rw [show nI N - 1 = nI (N - 1) from pk_sub (b := 1) (by omega), pk_sub (by omega), show N - 1 - i = N - (i + 1) from by omega]
    refine br_f (nI_ge (by omega) (by omega)) ⟨pk_in (N - (i + 1)) 32 (by omega) e, pk_in (sd * 64 + i) 128 (by omega) (nI_add _ _), nm_e (nm_r (nI_1 i) (ih (i + 1) _ (by omega) ?_ ?_))⟩
    · intro j h1 h2
      rw [e, nI_add, nI_clamp (by omega), nI_clamp (by omega), hu _ (by omega)]
      by_cases c : j = i + 1
      · subst c
        rw [show sd * 64 + (i + 1) - 1 = sd * 64 + i from by omega, pk_us, if_pos (by omega)]
      · rw [pk_un (by omega), ha j h1 h2]
        by_cases c2 : j ≤ i
        · rw [if_pos c2, if_pos (by omega)]
        · rw [if_neg c2, if_neg (show ¬ j ≤ i + 1 from by omega)]
    · intro q hq
      rw [nI_add, nI_clamp (by omega), pk_un (by omega)]
      exact hf q hq
theorem sx_sh8 {P N T : Nat} {x_pending : Int32} {x_encodedStream : Int64} {x_reflectionLevels x_pulseLevels x_memory x_history x_output x_fields x_frameCounts x_reflections x_samples x_rawReflections x_target x_impulseResponse x_pastExcitation x_filteredPast x_chosenPulses x_trialPulses x_pulseSigns x_excitation x_receivedFields : Nat → Int32} {x_correlation x_predictor x_oldPredictor : Nat → Int64} {post : St2 → Prop} {H u : Nat → Int32} {sd : Nat} (hN8 : 8 ≤ N) (hN : N ≤ 32) (hsd : sd ≤ 1) (hu : ∀ n, n < N → x_excitation n = u n)
    (h : ∀ A, (∀ j, 1 ≤ j → j ≤ 64 → A (sd * 64 + j - 1) = sp_nh N u H j) → (∀ q, q < sd * 64 ∨ sd * 64 + 64 ≤ q → A q = x_history q) → post ((nI P), (nI N), (nI T), x_pending, x_encodedStream, x_reflectionLevels, x_pulseLevels, x_memory, A, x_output, x_fields, x_frameCounts, x_reflections, x_samples, x_rawReflections, x_correlation, x_predictor, x_oldPredictor, x_target, x_impulseResponse, x_pastExcitation, x_filteredPast, x_chosenPulses, x_trialPulses, x_pulseSigns, x_excitation, x_receivedFields)) :
    ∀ d k A, k + 1 = N + d → k < 64 → (∀ j, 1 ≤ j → j ≤ 64 → A (sd * 64 + j - 1) = if k + 1 < j then H (j - N) else H j) → (∀ q, q < sd * 64 ∨ sd * 64 + 64 ≤ q → A q = x_history q) →
      wX_shiftHistory_8 post (nI (sd * 64)) (nI P) (nI N) (nI T) x_pending x_encodedStream (d + 1) (nI k) x_reflectionLevels x_pulseLevels x_memory A x_output x_fields x_frameCounts x_reflections x_samples x_rawReflections x_correlation x_predictor x_oldPredictor x_target x_impulseResponse x_pastExcitation x_filteredPast x_chosenPulses x_trialPulses x_pulseSigns x_excitation x_receivedFields := by
  intro d
  induction d with
  | zero =>
    intro k A hk hk2 ha hf
    refine br_t (nI_lt (by omega) (by omega)) ⟨N + 1, sx_sh45 (x_history := x_history) (H := H) hN8 hN hsd hu h N 0 A (by omega) (fun j h1 h2 => ?_) hf⟩
    rw [ha j h1 h2, if_neg (show ¬ j ≤ 0 from by omega), show k + 1 = N from by omega]
  | succ d ih =>
    intro k A hk hk2 ha hf
    obtain ⟨m, rfl⟩ : ∃ m, k = m + 1 := ⟨k - 1, by omega⟩
    have e : nI (sd * 64) + nI (m + 1) - nI N = nI (sd * 64 + (m + 1 + 1 - N) - 1) := by
      rw [nI_add, pk_sub (by omega), show sd * 64 + (m + 1) - N = sd * 64 + (m + 1 + 1 - N) - 1 from by omega]
    refine br_f (nI_nlt (by omega) (by omega)) ⟨pk_in (sd * 64 + (m + 1 + 1 - N) - 1) 128 (by omega) e, pk_in (sd * 64 + (m + 1)) 128 (by omega) (nI_add _ _), nm_e (nm_r (pk_m1 m) (ih m _ (by omega) (by omega) ?_ ?_))⟩
    · intro j h1 h2
      rw [e, nI_add, nI_clamp (by omega), nI_clamp (by omega), ha (m + 1 + 1 - N) (by omega) (by omega), if_neg (by omega)]
      by_cases c : j = m + 1 + 1
      · subst c
        rw [show sd * 64 + (m + 1 + 1) - 1 = sd * 64 + (m + 1) from by omega, pk_us, if_pos (by omega)]
      · rw [pk_un (by omega), ha j h1 h2]
        by_cases c2 : m + 1 + 1 < j
        · rw [if_pos c2, if_pos (by omega)]
        · rw [if_neg c2, if_neg (by omega)]
    · intro q hq
      rw [nI_add, nI_clamp (by omega), pk_un (by omega)]
      exact hf q hq
theorem sx_sh {P N T : Nat} {x_pending : Int32} {x_encodedStream : Int64} {x_reflectionLevels x_pulseLevels x_memory x_history x_output x_fields x_frameCounts x_reflections x_samples x_rawReflections x_target x_impulseResponse x_pastExcitation x_filteredPast x_chosenPulses x_trialPulses x_pulseSigns x_excitation x_receivedFields : Nat → Int32} {x_correlation x_predictor x_oldPredictor : Nat → Int64} {post : St2 → Prop} {H u : Nat → Int32} {sd : Nat} (hN8 : 8 ≤ N) (hN : N ≤ 32) (hsd : sd ≤ 1) (hu : ∀ n, n < N → x_excitation n = u n)
    (hH : ∀ j, 1 ≤ j → j ≤ 64 → x_history (sd * 64 + j - 1) = H j)
    (h : ∀ A, (∀ j, 1 ≤ j → j ≤ 64 → A (sd * 64 + j - 1) = sp_nh N u H j) → (∀ q, q < sd * 64 ∨ sd * 64 + 64 ≤ q → A q = x_history q) → post ((nI P), (nI N), (nI T), x_pending, x_encodedStream, x_reflectionLevels, x_pulseLevels, x_memory, A, x_output, x_fields, x_frameCounts, x_reflections, x_samples, x_rawReflections, x_correlation, x_predictor, x_oldPredictor, x_target, x_impulseResponse, x_pastExcitation, x_filteredPast, x_chosenPulses, x_trialPulses, x_pulseSigns, x_excitation, x_receivedFields)) : wpX_shiftHistory post ((nI P), (nI N), (nI T), x_pending, x_encodedStream, x_reflectionLevels, x_pulseLevels, x_memory, x_history, x_output, x_fields, x_frameCounts, x_reflections, x_samples, x_rawReflections, x_correlation, x_predictor, x_oldPredictor, x_target, x_impulseResponse, x_pastExcitation, x_filteredPast, x_chosenPulses, x_trialPulses, x_pulseSigns, x_excitation, x_receivedFields) (nI sd) :=
  nm_r (pk_mul sd 64) (Exists.intro (64 - N + 1) (sx_sh8 hN8 hN hsd hu h (64 - N) 63 x_history (by omega) (by omega) (fun j h1 h2 => by rw [if_neg (by omega)]; exact hH j h1 h2) (fun _ _ => rfl)))
theorem sx_sy28 {P N T : Nat} {x_pending : Int32} {x_encodedStream : Int64} {x_reflectionLevels x_pulseLevels x_memory x_history x_output x_fields x_frameCounts x_reflections x_samples x_rawReflections x_target x_impulseResponse x_pastExcitation x_filteredPast x_chosenPulses x_trialPulses x_pulseSigns x_excitation x_receivedFields : Nat → Int32} {x_correlation x_predictor x_oldPredictor : Nat → Int64} {post : St2 → Prop} {c b H u : Nat → Int32} {sd : Nat} (hP1 : 1 ≤ P) (hP : P ≤ 6) (hN8 : 8 ≤ N) (hN : N ≤ 32) (hsd : sd ≤ 1) (hu : ∀ n, n < N → x_excitation n = u n)
    (hc : ∀ j, j < P → x_reflections (sd * 6 + j) = c (j + 1)) (hH : ∀ j, 1 ≤ j → j ≤ 64 → x_history (sd * 64 + j - 1) = H j)
    (h : ∀ M' A, sp_row (sd * 6) P M' (sp_lm c P b u N) → (∀ q, q < sd * 6 ∨ sd * 6 + P ≤ q → M' q = x_memory q) →
      (∀ j, 1 ≤ j → j ≤ 64 → A (sd * 64 + j - 1) = sp_nh N u H j) → (∀ q, q < sd * 64 ∨ sd * 64 + 64 ≤ q → A q = x_history q) →
      post ((nI P), (nI N), (nI T), x_pending, x_encodedStream, x_reflectionLevels, x_pulseLevels, M', A, (sp_fo (sp_lo c P b u) (sd * 32) N x_output), x_fields, (upd x_frameCounts sd (x_frameCounts sd + 1)), x_reflections, x_samples, x_rawReflections, x_correlation, x_predictor, x_oldPredictor, x_target, x_impulseResponse, x_pastExcitation, x_filteredPast, x_chosenPulses, x_trialPulses, x_pulseSigns, x_excitation, x_receivedFields)) :
    ∀ d i M, i + d = N → sp_row (sd * 6) P M (sp_lm c P b u i) → (∀ q, q < sd * 6 ∨ sd * 6 + P ≤ q → M q = x_memory q) →
      wX_synthesise_28 post (nI sd) (d + 1) (nI i) (nI P) (nI N) (nI T) x_pending x_encodedStream x_reflectionLevels x_pulseLevels M x_history (sp_fo (sp_lo c P b u) (sd * 32) i x_output) x_fields x_frameCounts x_reflections x_samples x_rawReflections x_correlation x_predictor x_oldPredictor x_target x_impulseResponse x_pastExcitation x_filteredPast x_chosenPulses x_trialPulses x_pulseSigns x_excitation x_receivedFields := by
  intro d
  induction d with
  | zero =>
    intro i M hi hr hf
    obtain rfl : i = N := by omega
    refine br_t (nI_le (by omega) (by omega)) (sx_sh hN8 hN hsd hu hH (fun A h1 h2 => ?_))
    refine ⟨vp_in_nI (by omega) (by omega), vp_in_nI (by omega) (by omega), nm_r ?_ (h M A hr hf h1 h2)⟩
    rw [nI_clamp (by omega)]
  | succ d ih =>
    intro i M hi hr hf
    have e : nI sd * 32 + nI i = nI (sd * 32 + i) := by
      rw [show nI sd * 32 = nI (sd * 32) from pk_mul sd 32, nI_add]
    refine br_f (nI_ge (by omega) (by omega)) ⟨vp_in_nI (by omega) (by omega), ?_⟩
    rw [nI_clamp (by omega), hu i (by omega)]
    refine sx_lat_3 (sd := sd) (rw := sd) hP1 hP hsd (by omega) hc hr (fun M' hr' hf' => ?_)
    refine ⟨pk_in (sd * 32 + i) 64 (by omega) e, nm_r ?_ (nm_r (nI_1 i) (ih (i + 1) M' (by omega) hr' (fun q hq => (hf' q hq).trans (hf q hq))))⟩
    rw [e, nI_clamp (by omega)]
    exact sp_foS (g := sp_lo c P b u)
theorem sx_syn {P N T : Nat} {x_pending : Int32} {x_encodedStream : Int64} {x_reflectionLevels x_pulseLevels x_memory x_history x_output x_fields x_frameCounts x_reflections x_samples x_rawReflections x_target x_impulseResponse x_pastExcitation x_filteredPast x_chosenPulses x_trialPulses x_pulseSigns x_excitation x_receivedFields : Nat → Int32} {x_correlation x_predictor x_oldPredictor : Nat → Int64} {post : St2 → Prop} {c b H : Nat → Int32} {sd l ga gf : Nat} {sl sg : Nat → Nat} (hP1 : 1 ≤ P) (hP : P ≤ 6) (hN8 : 8 ≤ N) (hNT : N = 4 * T) (hT : T ≤ 8) (hsd : sd ≤ 1)
    (hg : ∀ j, j < 16 → x_pulseLevels j = sp_fg j) (hb : sp_row (sd * 6) P x_memory b)
    (hc : ∀ j, j < P → x_reflections (sd * 6 + j) = c (j + 1)) (hH : ∀ j, 1 ≤ j → j ≤ 64 → x_history (sd * 64 + j - 1) = H j)
    (hl : x_fields (sd * 17 + 0) = nI l) (hl' : l < 32) (hga : x_fields (sd * 17 + 1) = nI ga) (hgf : x_fields (sd * 17 + 2) = nI gf) (hgf' : gf < 16)
    (h1 : ∀ t, t < 4 → x_fields (sd * 17 + 3 + t) = nI (sl t) ∧ sl t < T) (h2 : ∀ t, t < 4 → x_fields (sd * 17 + 7 + t) = nI (sg t) ∧ sg t < 2)
    (h : ∀ M' A pe ps ex, sp_row (sd * 6) P M' (sp_lm c P b (sp_u H l ga gf sl sg) N) → (∀ q, q < sd * 6 ∨ sd * 6 + P ≤ q → M' q = x_memory q) →
      (∀ j, 1 ≤ j → j ≤ 64 → A (sd * 64 + j - 1) = sp_nh N (sp_u H l ga gf sl sg) H j) → (∀ q, q < sd * 64 ∨ sd * 64 + 64 ≤ q → A q = x_history q) →
      post ((nI P), (nI N), (nI T), x_pending, x_encodedStream, x_reflectionLevels, x_pulseLevels, M', A, (sp_fo (sp_lo c P b (sp_u H l ga gf sl sg)) (sd * 32) N x_output), x_fields, (upd x_frameCounts sd (x_frameCounts sd + 1)), x_reflections, x_samples, x_rawReflections, x_correlation, x_predictor, x_oldPredictor, x_target, x_impulseResponse, pe, x_filteredPast, x_chosenPulses, x_trialPulses, ps, ex, x_receivedFields)) :
    wpX_synthesise post ((nI P), (nI N), (nI T), x_pending, x_encodedStream, x_reflectionLevels, x_pulseLevels, x_memory, x_history, x_output, x_fields, x_frameCounts, x_reflections, x_samples, x_rawReflections, x_correlation, x_predictor, x_oldPredictor, x_target, x_impulseResponse, x_pastExcitation, x_filteredPast, x_chosenPulses, x_trialPulses, x_pulseSigns, x_excitation, x_receivedFields) (nI sd) := by
  have e : nI sd * 17 + 0 = nI (sd * 17 + 0) := by
    rw [show nI sd * 17 = nI (sd * 17) from pk_mul sd 17, Int32.add_zero]
    rfl
  refine And.intro (pk_in (sd * 17 + 0) 34 (by omega) e) ?_
  rw [e, nI_clamp (by omega), hl]
  refine sx_fp (by omega) hsd hl' hH ?_
  refine sx_pp hsd hT hNT h1 h2 (fun ps hps => ?_)
  refine sx_me (by omega) hsd (fun n hn => sp_fl_lo hn) hps hg hga hgf hgf' ?_
  have t := sx_sy28 (x_memory := x_memory) (x_output := x_output) (x_excitation := sp_fl (sp_u H l ga gf sl sg) N x_excitation) (x_pulseSigns := ps) (x_pastExcitation := sp_fl (sp_pv H (l + 4)) N x_pastExcitation) (u := sp_u H l ga gf sl sg) hP1 hP hN8 (by omega) hsd (fun n hn => sp_fl_lo hn) hc hH (fun M' A q1 q2 q3 q4 => h M' A _ _ _ q1 q2 q3 q4) N 0 x_memory (by omega) hb (fun _ _ => rfl)
  rw [sp_fo0] at t
  exact Exists.intro _ t
