/-! the component: past excitation, its filtering, the adaptive search -/
theorem sp_hx {sd L i : Nat} (h : i < L) : nI sd * 64 + nI L - nI i - 1 = nI (sd * 64 + (L - i) - 1) := by
  rw [show nI sd * 64 = nI (sd * 64) from pk_mul sd 64, nI_add, pk_sub (by omega), show sd * 64 + (L - i) - 1 = sd * 64 + L - i - 1 from by omega]
  exact pk_sub (b := 1) (by omega)
theorem sx_fp7 {P N T : Nat} {x_pending : Int32} {x_encodedStream : Int64} {x_reflectionLevels x_pulseLevels x_memory x_history x_output x_fields x_frameCounts x_reflections x_samples x_rawReflections x_target x_impulseResponse x_pastExcitation x_filteredPast x_chosenPulses x_trialPulses x_pulseSigns x_excitation x_receivedFields : Nat → Int32} {x_correlation x_predictor x_oldPredictor : Nat → Int64} {post : St2 → Prop} {H : Nat → Int32} {sd L : Nat} (hN : N ≤ 32) (hsd : sd ≤ 1) (hL1 : 1 ≤ L) (hL : L ≤ 64)
    (hH : ∀ j, 1 ≤ j → j ≤ 64 → x_history (sd * 64 + j - 1) = H j)
    (h : post ((nI P), (nI N), (nI T), x_pending, x_encodedStream, x_reflectionLevels, x_pulseLevels, x_memory, x_history, x_output, x_fields, x_frameCounts, x_reflections, x_samples, x_rawReflections, x_correlation, x_predictor, x_oldPredictor, x_target, x_impulseResponse, (sp_fl (sp_pv H L) N x_pastExcitation), x_filteredPast, x_chosenPulses, x_trialPulses, x_pulseSigns, x_excitation, x_receivedFields)) :
    ∀ d i, i + d = N → wX_formPastExcitation_7 post (nI sd) (nI L) (nI P) (nI N) (nI T) x_pending x_encodedStream (d + 1) (nI i) x_reflectionLevels x_pulseLevels x_memory x_history x_output x_fields x_frameCounts x_reflections x_samples x_rawReflections x_correlation x_predictor x_oldPredictor x_target x_impulseResponse (sp_fl (sp_pv H L) i x_pastExcitation) x_filteredPast x_chosenPulses x_trialPulses x_pulseSigns x_excitation x_receivedFields := by
  intro d
  induction d with
  | zero =>
    intro i hi
    obtain rfl : i = N := by omega
    exact br_t (nI_le (by omega) (by omega)) h
  | succ d ih =>
    intro i hi
    refine br_f (nI_ge (by omega) (by omega)) ?_
    by_cases c : L ≤ i
    · refine br_t (nI_le c (by omega)) ⟨pk_in (i - L) 32 (by omega) (pk_sub c), vp_in_nI (by omega) (by omega), nm_r ?_ (nm_r (nI_1 i) (ih (i + 1) (by omega)))⟩
      rw [pk_sub c, nI_clamp (by omega), nI_clamp (by omega), sp_fl_lo (by omega), ← sp_pv_hi c]
      exact sp_flS
    · have e := sp_hx (sd := sd) (L := L) (i := i) (by omega)
      refine br_f (nI_ge (by omega) (by omega)) ⟨pk_in (sd * 64 + (L - i) - 1) 128 (by omega) e, vp_in_nI (by omega) (by omega), nm_r ?_ (nm_r (nI_1 i) (ih (i + 1) (by omega)))⟩
      rw [e, nI_clamp (by omega), nI_clamp (by omega), hH (L - i) (by omega) (by omega), ← sp_pv_lo (H := H) (L := L) (n := i) (by omega)]
      exact sp_flS
theorem sx_fp {P N T : Nat} {x_pending : Int32} {x_encodedStream : Int64} {x_reflectionLevels x_pulseLevels x_memory x_history x_output x_fields x_frameCounts x_reflections x_samples x_rawReflections x_target x_impulseResponse x_pastExcitation x_filteredPast x_chosenPulses x_trialPulses x_pulseSigns x_excitation x_receivedFields : Nat → Int32} {x_correlation x_predictor x_oldPredictor : Nat → Int64} {post : St2 → Prop} {H : Nat → Int32} {sd l : Nat} (hN : N ≤ 32) (hsd : sd ≤ 1) (hl : l < 32)
    (hH : ∀ j, 1 ≤ j → j ≤ 64 → x_history (sd * 64 + j - 1) = H j)
    (h : post ((nI P), (nI N), (nI T), x_pending, x_encodedStream, x_reflectionLevels, x_pulseLevels, x_memory, x_history, x_output, x_fields, x_frameCounts, x_reflections, x_samples, x_rawReflections, x_correlation, x_predictor, x_oldPredictor, x_target, x_impulseResponse, (sp_fl (sp_pv H (l + 4)) N x_pastExcitation), x_filteredPast, x_chosenPulses, x_trialPulses, x_pulseSigns, x_excitation, x_receivedFields)) : wpX_formPastExcitation post ((nI P), (nI N), (nI T), x_pending, x_encodedStream, x_reflectionLevels, x_pulseLevels, x_memory, x_history, x_output, x_fields, x_frameCounts, x_reflections, x_samples, x_rawReflections, x_correlation, x_predictor, x_oldPredictor, x_target, x_impulseResponse, x_pastExcitation, x_filteredPast, x_chosenPulses, x_trialPulses, x_pulseSigns, x_excitation, x_receivedFields) (nI sd) (nI l) := by
  have t := sx_fp7 hN hsd (L := l + 4) (by omega) (by omega) hH h N 0 (by omega)
  rw [sp_fl0] at t
  exact nm_r (nI_add l 4) (Exists.intro _ t)
theorem sx_fe15 {P N T : Nat} {x_pending : Int32} {x_encodedStream : Int64} {x_reflectionLevels x_pulseLevels x_memory x_history x_output x_fields x_frameCounts x_reflections x_samples x_rawReflections x_target x_impulseResponse x_pastExcitation x_filteredPast x_chosenPulses x_trialPulses x_pulseSigns x_excitation x_receivedFields : Nat → Int32} {x_correlation x_predictor x_oldPredictor : Nat → Int64} {post : St2 → Prop} {J : _} {i : Nat} (hi : i < 32)
    (hJ : J (nI (i + 1)) x_reflectionLevels x_pulseLevels x_memory x_history x_output x_fields x_frameCounts x_reflections x_samples x_rawReflections x_correlation x_predictor x_oldPredictor x_target x_impulseResponse x_pastExcitation (upd x_filteredPast i (sp_cy x_pastExcitation x_impulseResponse i)) x_chosenPulses x_trialPulses x_pulseSigns x_excitation x_receivedFields) :
    ∀ d t, t + d = i + 1 → wX_filterPastExcitation_15 post J (nI i) (nI P) (nI N) (nI T) x_pending x_encodedStream x_reflectionLevels x_pulseLevels x_memory x_history x_output x_fields x_frameCounts x_reflections x_samples x_rawReflections x_correlation x_predictor x_oldPredictor x_target x_impulseResponse x_pastExcitation x_filteredPast x_chosenPulses x_trialPulses x_pulseSigns x_excitation x_receivedFields (d + 1) (sp_sm (fun j => (x_pastExcitation j).toInt64 * (x_impulseResponse (i - j)).toInt64) t) (nI t) := by
  intro d
  induction d with
  | zero =>
    intro t ht
    obtain rfl : t = i + 1 := by omega
    refine br_t (nI_lt (by omega) (by omega)) (sx_sat ⟨vp_in_nI (by omega) (by omega), ?_⟩)
    exact nm_r (by rw [nI_clamp (by omega)]; rfl) (nm_r (nI_1 i) hJ)
  | succ d ih =>
    intro t ht
    refine br_f (nI_nlt (by omega) (by omega)) ⟨vp_in_nI (by omega) (by omega), pk_in (i - t) 32 (by omega) (pk_sub (by omega)), nm_r ?_ (nm_r (nI_1 t) (ih (t + 1) (by omega)))⟩
    rw [pk_sub (by omega), nI_clamp (by omega), nI_clamp (by omega)]
    rfl
theorem sx_fe2 {P N T : Nat} {x_pending : Int32} {x_encodedStream : Int64} {x_reflectionLevels x_pulseLevels x_memory x_history x_output x_fields x_frameCounts x_reflections x_samples x_rawReflections x_target x_impulseResponse x_pastExcitation x_filteredPast x_chosenPulses x_trialPulses x_pulseSigns x_excitation x_receivedFields : Nat → Int32} {x_correlation x_predictor x_oldPredictor : Nat → Int64} {post : St2 → Prop} {v hh : Nat → Int32} (hN : N ≤ 32) (hv : ∀ j, j < N → x_pastExcitation j = v j) (hh' : ∀ j, j < N → x_impulseResponse j = hh j)
    (h : post ((nI P), (nI N), (nI T), x_pending, x_encodedStream, x_reflectionLevels, x_pulseLevels, x_memory, x_history, x_output, x_fields, x_frameCounts, x_reflections, x_samples, x_rawReflections, x_correlation, x_predictor, x_oldPredictor, x_target, x_impulseResponse, x_pastExcitation, (sp_fl (sp_cy v hh) N x_filteredPast), x_chosenPulses, x_trialPulses, x_pulseSigns, x_excitation, x_receivedFields)) :
    ∀ d i, i + d = N → wX_filterPastExcitation_2 post (nI P) (nI N) (nI T) x_pending x_encodedStream (d + 1) (nI i) x_reflectionLevels x_pulseLevels x_memory x_history x_output x_fields x_frameCounts x_reflections x_samples x_rawReflections x_correlation x_predictor x_oldPredictor x_target x_impulseResponse x_pastExcitation (sp_fl (sp_cy v hh) i x_filteredPast) x_chosenPulses x_trialPulses x_pulseSigns x_excitation x_receivedFields := by
  intro d
  induction d with
  | zero =>
    intro i hi
    obtain rfl : i = N := by omega
    exact br_t (nI_le (by omega) (by omega)) h
  | succ d ih =>
    intro i hi
    refine br_f (nI_ge (by omega) (by omega)) ⟨i + 1 + 1, sx_fe15 (by omega) ?_ (i + 1) 0 (by omega)⟩
    rw [sp_cy_c (v' := v) (h' := hh) (fun j hj => hv j (by omega)) (fun j hj => hh' j (by omega)), sp_flS]
    exact ih (i + 1) (by omega)
theorem sx_fe {P N T : Nat} {x_pending : Int32} {x_encodedStream : Int64} {x_reflectionLevels x_pulseLevels x_memory x_history x_output x_fields x_frameCounts x_reflections x_samples x_rawReflections x_target x_impulseResponse x_pastExcitation x_filteredPast x_chosenPulses x_trialPulses x_pulseSigns x_excitation x_receivedFields : Nat → Int32} {x_correlation x_predictor x_oldPredictor : Nat → Int64} {post : St2 → Prop} {v hh : Nat → Int32} (hN : N ≤ 32) (hv : ∀ j, j < N → x_pastExcitation j = v j) (hh' : ∀ j, j < N → x_impulseResponse j = hh j)
    (h : post ((nI P), (nI N), (nI T), x_pending, x_encodedStream, x_reflectionLevels, x_pulseLevels, x_memory, x_history, x_output, x_fields, x_frameCounts, x_reflections, x_samples, x_rawReflections, x_correlation, x_predictor, x_oldPredictor, x_target, x_impulseResponse, x_pastExcitation, (sp_fl (sp_cy v hh) N x_filteredPast), x_chosenPulses, x_trialPulses, x_pulseSigns, x_excitation, x_receivedFields)) : wpX_filterPastExcitation post ((nI P), (nI N), (nI T), x_pending, x_encodedStream, x_reflectionLevels, x_pulseLevels, x_memory, x_history, x_output, x_fields, x_frameCounts, x_reflections, x_samples, x_rawReflections, x_correlation, x_predictor, x_oldPredictor, x_target, x_impulseResponse, x_pastExcitation, x_filteredPast, x_chosenPulses, x_trialPulses, x_pulseSigns, x_excitation, x_receivedFields) := by
  have t := sx_fe2 hN hv hh' h N 0 (by omega)
  rw [sp_fl0] at t
  exact Exists.intro _ t
theorem sx_ae5 {P N T : Nat} {x_pending : Int32} {x_encodedStream : Int64} {x_reflectionLevels x_pulseLevels x_memory x_history x_output x_fields x_frameCounts x_reflections x_samples x_rawReflections x_target x_impulseResponse x_pastExcitation x_filteredPast x_chosenPulses x_trialPulses x_pulseSigns x_excitation x_receivedFields : Nat → Int32} {x_correlation x_predictor x_oldPredictor : Nat → Int64} {post : Int64 → Prop} {g : Int32} (hN : N ≤ 32) (h : post (sp_ea x_target x_filteredPast N g)) :
    ∀ d t, t + d = N → wX_adaptiveError_5 post g (nI P) (nI N) (nI T) x_pending x_encodedStream x_reflectionLevels x_pulseLevels x_memory x_history x_output x_fields x_frameCounts x_reflections x_samples x_rawReflections x_correlation x_predictor x_oldPredictor x_target x_impulseResponse x_pastExcitation x_filteredPast x_chosenPulses x_trialPulses x_pulseSigns x_excitation x_receivedFields (d + 1) (sp_sm (fun n => sp_sq (256 * x_target n - 37 * g * x_filteredPast n)) t) (nI t) := by
  intro d
  induction d with
  | zero =>
    intro t ht
    obtain rfl : t = N := by omega
    exact br_t (nI_le (by omega) (by omega)) h
  | succ d ih =>
    intro t ht
    refine br_f (nI_ge (by omega) (by omega)) ⟨vp_in_nI (by omega) (by omega), vp_in_nI (by omega) (by omega), nm_e (nm_r ?_ (nm_r (nI_1 t) (ih (t + 1) (by omega))))⟩
    rw [nI_clamp (by omega)]
    rfl
theorem sx_ae {P N T : Nat} {x_pending : Int32} {x_encodedStream : Int64} {x_reflectionLevels x_pulseLevels x_memory x_history x_output x_fields x_frameCounts x_reflections x_samples x_rawReflections x_target x_impulseResponse x_pastExcitation x_filteredPast x_chosenPulses x_trialPulses x_pulseSigns x_excitation x_receivedFields : Nat → Int32} {x_correlation x_predictor x_oldPredictor : Nat → Int64} {post : Int64 → Prop} {x y : Nat → Int32} {g : Int32} (hN : N ≤ 32) (hx : ∀ j, j < N → x_target j = x j) (hy : ∀ j, j < N → x_filteredPast j = y j)
    (h : post (sp_ea x y N g)) : wpX_adaptiveError post ((nI P), (nI N), (nI T), x_pending, x_encodedStream, x_reflectionLevels, x_pulseLevels, x_memory, x_history, x_output, x_fields, x_frameCounts, x_reflections, x_samples, x_rawReflections, x_correlation, x_predictor, x_oldPredictor, x_target, x_impulseResponse, x_pastExcitation, x_filteredPast, x_chosenPulses, x_trialPulses, x_pulseSigns, x_excitation, x_receivedFields) g :=
  Exists.intro (N + 1) (sx_ae5 hN (by rw [sp_ea_c g hx hy]; exact h) N 0 (by omega))
theorem sx_sa33 {P N T : Nat} {x_pending : Int32} {x_encodedStream : Int64} {x_reflectionLevels x_pulseLevels x_memory x_history x_output x_fields x_frameCounts x_reflections x_samples x_rawReflections x_target x_impulseResponse x_pastExcitation x_filteredPast x_chosenPulses x_trialPulses x_pulseSigns x_excitation x_receivedFields : Nat → Int32} {x_correlation x_predictor x_oldPredictor : Nat → Int64} {post : St2 → Prop} {J : _} {x y : Nat → Int32} {E : Nat → Nat → Int64} {l : Nat} {s0 : Int64 × Nat × Nat} (hN : N ≤ 32)
    (hx : ∀ j, j < N → x_target j = x j) (hy : ∀ j, j < N → x_filteredPast j = y j) (hE : ∀ g, g < 8 → E l g = sp_ea x y N (nI g))
    (hJ : J (sp_in E l 8 s0).1 (nI (sp_in E l 8 s0).2.1) (nI (sp_in E l 8 s0).2.2) (nI (l + 1)) (nI P) (nI N) (nI T) x_pending x_encodedStream x_reflectionLevels x_pulseLevels x_memory x_history x_output x_fields x_frameCounts x_reflections x_samples x_rawReflections x_correlation x_predictor x_oldPredictor x_target x_impulseResponse x_pastExcitation x_filteredPast x_chosenPulses x_trialPulses x_pulseSigns x_excitation x_receivedFields) :
    ∀ d g, g + d = 8 → wX_searchAdaptive_33 post J (nI l) (nI P) (nI N) (nI T) x_pending x_encodedStream x_reflectionLevels x_pulseLevels x_memory x_history x_output x_fields x_frameCounts x_reflections x_samples x_rawReflections x_correlation x_predictor x_oldPredictor x_target x_impulseResponse x_pastExcitation x_filteredPast x_chosenPulses x_trialPulses x_pulseSigns x_excitation x_receivedFields (d + 1) (sp_in E l g s0).1 (nI (sp_in E l g s0).2.1) (nI (sp_in E l g s0).2.2) (nI g) := by
  intro d
  induction d with
  | zero =>
    intro g hg
    obtain rfl : g = 8 := by omega
    exact br_t (nI_le (a := 8) (by omega) (by omega)) (nm_r (nI_1 l) hJ)
  | succ d ih =>
    intro g hg
    refine br_f (nI_ge (b := 8) (by omega) (by omega)) (sx_ae hN hx hy ?_)
    rw [← hE g (by omega)]
    have t := ih (g + 1) (by omega)
    by_cases c : E l g < (sp_in E l g s0).1
    · rw [show sp_in E l (g + 1) s0 = (E l g, l, g) from if_pos c] at t
      exact br_f (Int64.not_le.mpr c) (nm_r (nI_1 g) t)
    · rw [show sp_in E l (g + 1) s0 = sp_in E l g s0 from if_neg c] at t
      exact br_t (Int64.not_lt.mp c) (nm_r (nI_1 g) t)
theorem sp_out_s {E : Nat → Nat → Int64} {G c : Nat} : sp_out E G (c + 1) = sp_in E c G (sp_out E G c) := rfl
theorem sx_sa12 {P N T : Nat} {x_pending : Int32} {x_encodedStream : Int64} {x_reflectionLevels x_pulseLevels x_memory x_history x_output x_fields x_frameCounts x_reflections x_samples x_rawReflections x_target x_impulseResponse x_chosenPulses x_trialPulses x_pulseSigns x_excitation x_receivedFields : Nat → Int32} {x_correlation x_predictor x_oldPredictor : Nat → Int64} {post : St2 → Prop} {x hh H : Nat → Int32} {E : Nat → Nat → Int64} (hN : N ≤ 32)
    (hx : ∀ j, j < N → x_target j = x j) (hh' : ∀ j, j < N → x_impulseResponse j = hh j) (hH : ∀ j, 1 ≤ j → j ≤ 64 → x_history (0 * 64 + j - 1) = H j)
    (hE : ∀ l g, l < 32 → g < 8 → E l g = sp_ea x (sp_cy (sp_pv H (l + 4)) hh) N (nI g))
    (h : ∀ pe fp, post ((nI P), (nI N), (nI T), x_pending, x_encodedStream, x_reflectionLevels, x_pulseLevels, x_memory, x_history, x_output, (upd (upd x_fields 0 (nI (sp_out E 8 32).2.1)) 1 (nI (sp_out E 8 32).2.2)), x_frameCounts, x_reflections, x_samples, x_rawReflections, x_correlation, x_predictor, x_oldPredictor, x_target, x_impulseResponse, pe, fp, x_chosenPulses, x_trialPulses, x_pulseSigns, x_excitation, x_receivedFields)) :
    ∀ d l pe fp, l + d = 32 → wX_searchAdaptive_12 post (d + 1) (sp_out E 8 l).1 (nI (sp_out E 8 l).2.1) (nI (sp_out E 8 l).2.2) (nI l) (nI P) (nI N) (nI T) x_pending x_encodedStream x_reflectionLevels x_pulseLevels x_memory x_history x_output x_fields x_frameCounts x_reflections x_samples x_rawReflections x_correlation x_predictor x_oldPredictor x_target x_impulseResponse pe fp x_chosenPulses x_trialPulses x_pulseSigns x_excitation x_receivedFields := by
  intro d
  induction d with
  | zero =>
    intro l pe fp hl
    obtain rfl : l = 32 := by omega
    exact br_t (nI_le (a := 32) (by omega) (by omega)) (nm_e (nm_e (h pe fp)))
  | succ d ih =>
    intro l pe fp hl
    refine br_f (nI_ge (b := 32) (by omega) (by omega)) (sx_fp (sd := 0) hN (by omega) (by omega) hH ?_)
    refine sx_fe (v := sp_pv H (l + 4)) (hh := hh) hN (fun j hj => sp_fl_lo hj) hh' ?_
    refine ⟨8 + 1, sx_sa33 (E := E) (s0 := sp_out E 8 l) hN hx (fun j hj => sp_fl_lo hj) (fun g hg => hE l g (by omega) hg) ?_ 8 0 (by omega)⟩
    rw [← sp_out_s]
    exact ih (l + 1) _ _ (by omega)
theorem sx_sa {P N T : Nat} {x_pending : Int32} {x_encodedStream : Int64} {x_reflectionLevels x_pulseLevels x_memory x_history x_output x_fields x_frameCounts x_reflections x_samples x_rawReflections x_target x_impulseResponse x_pastExcitation x_filteredPast x_chosenPulses x_trialPulses x_pulseSigns x_excitation x_receivedFields : Nat → Int32} {x_correlation x_predictor x_oldPredictor : Nat → Int64} {post : St2 → Prop} {x hh H : Nat → Int32} {E : Nat → Nat → Int64} (hN : N ≤ 32)
    (hx : ∀ j, j < N → x_target j = x j) (hh' : ∀ j, j < N → x_impulseResponse j = hh j) (hH : ∀ j, 1 ≤ j → j ≤ 64 → x_history (0 * 64 + j - 1) = H j)
    (hE : ∀ l g, l < 32 → g < 8 → E l g = sp_ea x (sp_cy (sp_pv H (l + 4)) hh) N (nI g))
    (h : ∀ pe fp, post ((nI P), (nI N), (nI T), x_pending, x_encodedStream, x_reflectionLevels, x_pulseLevels, x_memory, x_history, x_output, (upd (upd x_fields 0 (nI (sp_out E 8 32).2.1)) 1 (nI (sp_out E 8 32).2.2)), x_frameCounts, x_reflections, x_samples, x_rawReflections, x_correlation, x_predictor, x_oldPredictor, x_target, x_impulseResponse, pe, fp, x_chosenPulses, x_trialPulses, x_pulseSigns, x_excitation, x_receivedFields)) : wpX_searchAdaptive post ((nI P), (nI N), (nI T), x_pending, x_encodedStream, x_reflectionLevels, x_pulseLevels, x_memory, x_history, x_output, x_fields, x_frameCounts, x_reflections, x_samples, x_rawReflections, x_correlation, x_predictor, x_oldPredictor, x_target, x_impulseResponse, x_pastExcitation, x_filteredPast, x_chosenPulses, x_trialPulses, x_pulseSigns, x_excitation, x_receivedFields) :=
  Exists.intro 33 (sx_sa12 hN hx hh' hH hE h 32 0 x_pastExcitation x_filteredPast (by omega))
def sp_x2 (x y : Nat → Int32) (g n : Nat) : Int32 := sp_sat (x n - ((37 * nI g * y n + 128) >>> ((8 : Int32) &&& 31)))
theorem sx_ra27 {P N T : Nat} {x_pending : Int32} {x_encodedStream : Int64} {x_reflectionLevels x_pulseLevels x_memory x_history x_output x_fields x_frameCounts x_reflections x_samples x_rawReflections x_target x_impulseResponse x_pastExcitation x_filteredPast x_chosenPulses x_trialPulses x_pulseSigns x_excitation x_receivedFields : Nat → Int32} {x_correlation x_predictor x_oldPredictor : Nat → Int64} {post : St2 → Prop} {x y : Nat → Int32} {g : Nat} {x1 : Int32} (e1 : x1 = 37 * nI g) (hN : N ≤ 32)
    (hx : ∀ j, j < N → x_target j = x j) (hy : ∀ j, j < N → x_filteredPast j = y j)
    (h : post ((nI P), (nI N), (nI T), x_pending, x_encodedStream, x_reflectionLevels, x_pulseLevels, x_memory, x_history, x_output, x_fields, x_frameCounts, x_reflections, x_samples, x_rawReflections, x_correlation, x_predictor, x_oldPredictor, (sp_fl (sp_x2 x y g) N x_target), x_impulseResponse, x_pastExcitation, x_filteredPast, x_chosenPulses, x_trialPulses, x_pulseSigns, x_excitation, x_receivedFields)) :
    ∀ d i, i + d = N → wX_removeAdaptivePart_27 post x1 (nI P) (nI N) (nI T) x_pending x_encodedStream (d + 1) (nI i) x_reflectionLevels x_pulseLevels x_memory x_history x_output x_fields x_frameCounts x_reflections x_samples x_rawReflections x_correlation x_predictor x_oldPredictor (sp_fl (sp_x2 x y g) i x_target) x_impulseResponse x_pastExcitation x_filteredPast x_chosenPulses x_trialPulses x_pulseSigns x_excitation x_receivedFields := by
  subst e1
  intro d
  induction d with
  | zero =>
    intro i hi
    obtain rfl : i = N := by omega
    exact br_t (nI_le (by omega) (by omega)) h
  | succ d ih =>
    intro i hi
    refine br_f (nI_ge (by omega) (by omega)) ⟨vp_in_nI (by omega) (by omega), vp_in_nI (by omega) (by omega), sx_satE (v := sp_x2 x y g i) ?_ ⟨vp_in_nI (by omega) (by omega), nm_r ?_ (nm_r (nI_1 i) (ih (i + 1) (by omega)))⟩⟩
    · rw [nI_clamp (by omega), sp_fl_hi (Nat.le_refl i), hx i (by omega), hy i (by omega)]
      rfl
    · rw [nI_clamp (by omega)]
      exact sp_flS
theorem sx_ra {P N T : Nat} {x_pending : Int32} {x_encodedStream : Int64} {x_reflectionLevels x_pulseLevels x_memory x_history x_output x_fields x_frameCounts x_reflections x_samples x_rawReflections x_target x_impulseResponse x_pastExcitation x_filteredPast x_chosenPulses x_trialPulses x_pulseSigns x_excitation x_receivedFields : Nat → Int32} {x_correlation x_predictor x_oldPredictor : Nat → Int64} {post : St2 → Prop} {x hh H : Nat → Int32} {l g : Nat} (hN : N ≤ 32) (hl : l < 32)
    (hx : ∀ j, j < N → x_target j = x j) (hh' : ∀ j, j < N → x_impulseResponse j = hh j) (hH : ∀ j, 1 ≤ j → j ≤ 64 → x_history (0 * 64 + j - 1) = H j)
    (hfl : x_fields 0 = nI l) (hfg : x_fields 1 = nI g)
    (h : ∀ pe fp, post ((nI P), (nI N), (nI T), x_pending, x_encodedStream, x_reflectionLevels, x_pulseLevels, x_memory, x_history, x_output, x_fields, x_frameCounts, x_reflections, x_samples, x_rawReflections, x_correlation, x_predictor, x_oldPredictor, (sp_fl (sp_x2 x (sp_cy (sp_pv H (l + 4)) hh) g) N x_target), x_impulseResponse, pe, fp, x_chosenPulses, x_trialPulses, x_pulseSigns, x_excitation, x_receivedFields)) : wpX_removeAdaptivePart post ((nI P), (nI N), (nI T), x_pending, x_encodedStream, x_reflectionLevels, x_pulseLevels, x_memory, x_history, x_output, x_fields, x_frameCounts, x_reflections, x_samples, x_rawReflections, x_correlation, x_predictor, x_oldPredictor, x_target, x_impulseResponse, x_pastExcitation, x_filteredPast, x_chosenPulses, x_trialPulses, x_pulseSigns, x_excitation, x_receivedFields) := by
  refine nm_r (e' := 37 * nI g) (by rw [hfg]) ?_
  rw [hfl]
  refine sx_fp (sd := 0) hN (by omega) hl hH ?_
  refine sx_fe (v := sp_pv H (l + 4)) (hh := hh) hN (fun j hj => sp_fl_lo hj) hh' ?_
  have t := sx_ra27 (x_target := x_target) (x_pastExcitation := sp_fl (sp_pv H (l + 4)) N x_pastExcitation) (x_filteredPast := sp_fl (sp_cy (sp_pv H (l + 4)) hh) N x_filteredPast) (g := g) rfl hN hx (fun j hj => sp_fl_lo hj) (h _ _) N 0 (by omega)
  rw [sp_fl0] at t
  exact Exists.intro _ t
