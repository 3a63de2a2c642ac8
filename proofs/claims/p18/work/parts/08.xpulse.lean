/-! the component: the pulse search -/
theorem sx_tp27 {P N T : Nat} {x_pending : Int32} {x_encodedStream : Int64} {x_reflectionLevels x_pulseLevels x_memory x_history x_output x_fields x_frameCounts x_reflections x_samples x_rawReflections x_target x_impulseResponse x_pastExcitation x_filteredPast x_chosenPulses x_trialPulses x_pulseSigns x_excitation x_receivedFields : Nat → Int32} {x_correlation x_predictor x_oldPredictor : Nat → Int64} {post : St2 → Prop} {J : _} {x1 z0 : Int32} {sg i : Nat} (hi : i < 32) (hsg : sg < 2)
    (hJ : J (nI (i + 1)) x_reflectionLevels x_pulseLevels x_memory x_history x_output x_fields x_frameCounts x_reflections x_samples x_rawReflections x_correlation x_predictor x_oldPredictor x_target x_impulseResponse x_pastExcitation x_filteredPast x_chosenPulses (upd x_trialPulses i (x_chosenPulses i + (if sg = 0 then z0 else -z0))) x_pulseSigns x_excitation x_receivedFields) :
    wX_formTrialPulses_27 post J x1 (nI sg) (nI i) z0 (nI P) (nI N) (nI T) x_pending x_encodedStream x_reflectionLevels x_pulseLevels x_memory x_history x_output x_fields x_frameCounts x_reflections x_samples x_rawReflections x_correlation x_predictor x_oldPredictor x_target x_impulseResponse x_pastExcitation x_filteredPast x_chosenPulses x_trialPulses x_pulseSigns x_excitation x_receivedFields := by
  refine ⟨vp_in_nI hi (by omega), ?_⟩
  by_cases c : sg = 0
  · rw [if_pos c] at hJ
    exact br_t (by rw [c]; rfl) ⟨vp_in_nI hi (by omega), nm_r (by rw [nI_clamp (by omega)]) (nm_r (nI_1 i) hJ)⟩
  · rw [if_neg c] at hJ
    exact br_f (nI_ne0 (by omega) (by omega)) ⟨vp_in_nI hi (by omega), nm_r (by rw [nI_clamp (by omega)]) (nm_r (nI_1 i) hJ)⟩
theorem sx_tp2 {P N T : Nat} {x_pending : Int32} {x_encodedStream : Int64} {x_reflectionLevels x_pulseLevels x_memory x_history x_output x_fields x_frameCounts x_reflections x_samples x_rawReflections x_target x_impulseResponse x_pastExcitation x_filteredPast x_chosenPulses x_trialPulses x_pulseSigns x_excitation x_receivedFields : Nat → Int32} {x_correlation x_predictor x_oldPredictor : Nat → Int64} {post : St2 → Prop} {hh z : Nat → Int32} {pos sg : Nat} (hN : N ≤ 32) (hpos : pos < 64) (hsg : sg < 2) (hh' : ∀ j, j < N → x_impulseResponse j = hh j) (hz : ∀ j, j < N → x_chosenPulses j = z j)
    (h : post ((nI P), (nI N), (nI T), x_pending, x_encodedStream, x_reflectionLevels, x_pulseLevels, x_memory, x_history, x_output, x_fields, x_frameCounts, x_reflections, x_samples, x_rawReflections, x_correlation, x_predictor, x_oldPredictor, x_target, x_impulseResponse, x_pastExcitation, x_filteredPast, x_chosenPulses, (sp_fl (fun n => z n + sp_pc hh pos sg n) N x_trialPulses), x_pulseSigns, x_excitation, x_receivedFields)) :
    ∀ d i, i + d = N → wX_formTrialPulses_2 post (nI pos) (nI sg) (nI P) (nI N) (nI T) x_pending x_encodedStream (d + 1) (nI i) x_reflectionLevels x_pulseLevels x_memory x_history x_output x_fields x_frameCounts x_reflections x_samples x_rawReflections x_correlation x_predictor x_oldPredictor x_target x_impulseResponse x_pastExcitation x_filteredPast x_chosenPulses (sp_fl (fun n => z n + sp_pc hh pos sg n) i x_trialPulses) x_pulseSigns x_excitation x_receivedFields := by
  intro d
  induction d with
  | zero =>
    intro i hi
    obtain rfl : i = N := by omega
    exact br_t (nI_le (by omega) (by omega)) h
  | succ d ih =>
    intro i hi
    have t := ih (i + 1) (by omega)
    rw [← sp_flS] at t
    refine br_f (nI_ge (by omega) (by omega)) ?_
    by_cases c : pos ≤ i
    · refine br_t (nI_le c (by omega)) ⟨pk_in (i - pos) 32 (by omega) (pk_sub c), sx_tp27 (by omega) hsg ?_⟩
      rw [pk_sub c, nI_clamp (by omega), hh' (i - pos) (by omega), hz i (by omega)]
      have e : sp_pc hh pos sg i = (if sg = 0 then hh (i - pos) else -hh (i - pos)) := if_neg (by omega)
      rw [← e]
      exact t
    · refine br_f (nI_ge (by omega) (by omega)) (sx_tp27 (by omega) hsg ?_)
      have e : (if sg = 0 then (0 : Int32) else -0) = sp_pc hh pos sg i := by
        rw [show sp_pc hh pos sg i = 0 from if_pos (by omega)]
        split
        · rfl
        · rfl
      rw [e, hz i (by omega)]
      exact t
theorem sx_tp {P N T : Nat} {x_pending : Int32} {x_encodedStream : Int64} {x_reflectionLevels x_pulseLevels x_memory x_history x_output x_fields x_frameCounts x_reflections x_samples x_rawReflections x_target x_impulseResponse x_pastExcitation x_filteredPast x_chosenPulses x_trialPulses x_pulseSigns x_excitation x_receivedFields : Nat → Int32} {x_correlation x_predictor x_oldPredictor : Nat → Int64} {post : St2 → Prop} {hh z : Nat → Int32} {pos sg : Nat} (hN : N ≤ 32) (hpos : pos < 64) (hsg : sg < 2) (hh' : ∀ j, j < N → x_impulseResponse j = hh j) (hz : ∀ j, j < N → x_chosenPulses j = z j)
    (h : post ((nI P), (nI N), (nI T), x_pending, x_encodedStream, x_reflectionLevels, x_pulseLevels, x_memory, x_history, x_output, x_fields, x_frameCounts, x_reflections, x_samples, x_rawReflections, x_correlation, x_predictor, x_oldPredictor, x_target, x_impulseResponse, x_pastExcitation, x_filteredPast, x_chosenPulses, (sp_fl (fun n => z n + sp_pc hh pos sg n) N x_trialPulses), x_pulseSigns, x_excitation, x_receivedFields)) : wpX_formTrialPulses post ((nI P), (nI N), (nI T), x_pending, x_encodedStream, x_reflectionLevels, x_pulseLevels, x_memory, x_history, x_output, x_fields, x_frameCounts, x_reflections, x_samples, x_rawReflections, x_correlation, x_predictor, x_oldPredictor, x_target, x_impulseResponse, x_pastExcitation, x_filteredPast, x_chosenPulses, x_trialPulses, x_pulseSigns, x_excitation, x_receivedFields) (nI pos) (nI sg) := by
  have t := sx_tp2 hN hpos hsg hh' hz h N 0 (by omega)
  rw [sp_fl0] at t
  exact Exists.intro _ t
theorem sx_pe5 {P N T : Nat} {x_pending : Int32} {x_encodedStream : Int64} {x_reflectionLevels x_pulseLevels x_memory x_history x_output x_fields x_frameCounts x_reflections x_samples x_rawReflections x_target x_impulseResponse x_pastExcitation x_filteredPast x_chosenPulses x_trialPulses x_pulseSigns x_excitation x_receivedFields : Nat → Int32} {x_correlation x_predictor x_oldPredictor : Nat → Int64} {post : Int64 → Prop} {g : Int32} (hN : N ≤ 32) (h : post (sp_ef x_target x_trialPulses N g)) :
    ∀ d t, t + d = N → wX_pulseError_5 post g (nI P) (nI N) (nI T) x_pending x_encodedStream x_reflectionLevels x_pulseLevels x_memory x_history x_output x_fields x_frameCounts x_reflections x_samples x_rawReflections x_correlation x_predictor x_oldPredictor x_target x_impulseResponse x_pastExcitation x_filteredPast x_chosenPulses x_trialPulses x_pulseSigns x_excitation x_receivedFields (d + 1) (sp_sm (fun n => sp_sq (4096 * x_target n - g * x_trialPulses n)) t) (nI t) := by
  intro d
  induction d with
  | zero =>
    intro t ht
    obtain rfl : t = N := by omega
    exact br_t (nI_le (by omega) (by omega)) h
  | succ d ih =>
    intro t ht
    refine br_f (nI_ge (by omega) (by omega)) ⟨vp_in_nI (by omega) (by omega), vp_in_nI (by omega) (by omega), nm_e (nm_r ?_ (nm_r (nI_1 t) (ih (t + 1) (by omega))))⟩
    rw [nI_clamp (by omega)]
    rfl
theorem sx_pe {P N T : Nat} {x_pending : Int32} {x_encodedStream : Int64} {x_reflectionLevels x_pulseLevels x_memory x_history x_output x_fields x_frameCounts x_reflections x_samples x_rawReflections x_target x_impulseResponse x_pastExcitation x_filteredPast x_chosenPulses x_trialPulses x_pulseSigns x_excitation x_receivedFields : Nat → Int32} {x_correlation x_predictor x_oldPredictor : Nat → Int64} {post : Int64 → Prop} {x z : Nat → Int32} {g : Int32} (hN : N ≤ 32) (hx : ∀ j, j < N → x_target j = x j) (hz : ∀ j, j < N → x_trialPulses j = z j)
    (h : post (sp_ef x z N g)) : wpX_pulseError post ((nI P), (nI N), (nI T), x_pending, x_encodedStream, x_reflectionLevels, x_pulseLevels, x_memory, x_history, x_output, x_fields, x_frameCounts, x_reflections, x_samples, x_rawReflections, x_correlation, x_predictor, x_oldPredictor, x_target, x_impulseResponse, x_pastExcitation, x_filteredPast, x_chosenPulses, x_trialPulses, x_pulseSigns, x_excitation, x_receivedFields) g :=
  Exists.intro (N + 1) (sx_pe5 hN (by rw [sp_ef_c g hx hz]; exact h) N 0 (by omega))
theorem sx_st49 {P N T : Nat} {x_pending : Int32} {x_encodedStream : Int64} {x_reflectionLevels x_pulseLevels x_memory x_history x_output x_fields x_frameCounts x_reflections x_samples x_rawReflections x_target x_impulseResponse x_pastExcitation x_filteredPast x_chosenPulses x_trialPulses x_pulseSigns x_excitation x_receivedFields : Nat → Int32} {x_correlation x_predictor x_oldPredictor : Nat → Int64} {post : St2 → Prop} {J16 J28 : _} {x z : Nat → Int32} {E : Nat → Nat → Int64} {x1 : Int32} {sl sg c : Nat} {s0 : Int64 × Nat × Nat} (hN : N ≤ 32)
    (hc : c = 2 * sl + sg) (hsg : sg < 2) (hx : ∀ j, j < N → x_target j = x j) (hz : ∀ j, j < N → x_trialPulses j = z j) (hg : ∀ j, j < 16 → x_pulseLevels j = sp_fg j)
    (hE : ∀ g, g < 16 → E c g = sp_ef x z N (sp_fg g))
    (hJ : J28 (sp_in E c 16 s0).1 (nI ((sp_in E c 16 s0).2.1 / 2)) (nI ((sp_in E c 16 s0).2.1 % 2)) (nI (sp_in E c 16 s0).2.2) (nI (sg + 1)) (nI P) (nI N) (nI T) x_pending x_encodedStream x_reflectionLevels x_pulseLevels x_memory x_history x_output x_fields x_frameCounts x_reflections x_samples x_rawReflections x_correlation x_predictor x_oldPredictor x_target x_impulseResponse x_pastExcitation x_filteredPast x_chosenPulses x_trialPulses x_pulseSigns x_excitation x_receivedFields) :
    ∀ d g, g + d = 16 → wX_searchTrack_49 post J16 J28 x1 (nI sl) (nI sg) (nI P) (nI N) (nI T) x_pending x_encodedStream x_reflectionLevels x_pulseLevels x_memory x_history x_output x_fields x_frameCounts x_reflections x_samples x_rawReflections x_correlation x_predictor x_oldPredictor x_target x_impulseResponse x_pastExcitation x_filteredPast x_chosenPulses x_trialPulses x_pulseSigns x_excitation x_receivedFields (d + 1) (sp_in E c g s0).1 (nI ((sp_in E c g s0).2.1 / 2)) (nI ((sp_in E c g s0).2.1 % 2)) (nI (sp_in E c g s0).2.2) (nI g) := by
  intro d
  induction d with
  | zero =>
    intro g hg'
    obtain rfl : g = 16 := by omega
    exact br_t (nI_le (a := 16) (by omega) (by omega)) (nm_r (nI_1 sg) hJ)
  | succ d ih =>
    intro g hg'
    refine br_f (nI_ge (b := 16) (by omega) (by omega)) ⟨vp_in_nI (by omega) (by omega), sx_pe hN hx hz ?_⟩
    rw [nI_clamp (by omega), hg g (by omega), ← hE g (by omega)]
    have t := ih (g + 1) (by omega)
    by_cases q : E c g < (sp_in E c g s0).1
    · rw [show sp_in E c (g + 1) s0 = (E c g, c, g) from if_pos q] at t
      dsimp only at t
      rw [show c / 2 = sl from by omega, show c % 2 = sg from by omega] at t
      exact br_f (Int64.not_le.mpr q) (nm_r (nI_1 g) t)
    · rw [show sp_in E c (g + 1) s0 = sp_in E c g s0 from if_neg q] at t
      exact br_t (Int64.not_lt.mp q) (nm_r (nI_1 g) t)
theorem sx_st28 {P N T : Nat} {x_pending : Int32} {x_encodedStream : Int64} {x_reflectionLevels x_pulseLevels x_memory x_history x_output x_fields x_frameCounts x_reflections x_samples x_rawReflections x_target x_impulseResponse x_pastExcitation x_filteredPast x_chosenPulses x_pulseSigns x_excitation x_receivedFields : Nat → Int32} {x_correlation x_predictor x_oldPredictor : Nat → Int64} {post : St2 → Prop} {J16 : _} {x hh z : Nat → Int32} {E : Nat → Nat → Int64} {t sl : Nat} (hN : N ≤ 32) (ht : t < 4) (hsl : sl < 8)
    (hx : ∀ j, j < N → x_target j = x j) (hh' : ∀ j, j < N → x_impulseResponse j = hh j) (hz : ∀ j, j < N → x_chosenPulses j = z j) (hg : ∀ j, j < 16 → x_pulseLevels j = sp_fg j)
    (hE : ∀ c g, E c g = sp_ef x (fun n => z n + sp_pc hh (t + 4 * (c / 2)) (c % 2) n) N (sp_fg g))
    (hJ : ∀ tp c, c = 2 * sl + 2 → J16 (sp_out E 16 c).1 (nI ((sp_out E 16 c).2.1 / 2)) (nI ((sp_out E 16 c).2.1 % 2)) (nI (sp_out E 16 c).2.2) (nI (sl + 1)) (nI P) (nI N) (nI T) x_pending x_encodedStream x_reflectionLevels x_pulseLevels x_memory x_history x_output x_fields x_frameCounts x_reflections x_samples x_rawReflections x_correlation x_predictor x_oldPredictor x_target x_impulseResponse x_pastExcitation x_filteredPast x_chosenPulses tp x_pulseSigns x_excitation x_receivedFields) :
    ∀ d sg c tp, sg + d = 2 → c = 2 * sl + sg → wX_searchTrack_28 post J16 (nI t) (nI sl) (d + 1) (sp_out E 16 c).1 (nI ((sp_out E 16 c).2.1 / 2)) (nI ((sp_out E 16 c).2.1 % 2)) (nI (sp_out E 16 c).2.2) (nI sg) (nI P) (nI N) (nI T) x_pending x_encodedStream x_reflectionLevels x_pulseLevels x_memory x_history x_output x_fields x_frameCounts x_reflections x_samples x_rawReflections x_correlation x_predictor x_oldPredictor x_target x_impulseResponse x_pastExcitation x_filteredPast x_chosenPulses tp x_pulseSigns x_excitation x_receivedFields := by
  intro d
  induction d with
  | zero =>
    intro sg c tp hs hc
    obtain rfl : sg = 2 := by omega
    exact br_t (nI_le (a := 2) (by omega) (by omega)) (nm_r (nI_1 sl) (hJ tp c hc))
  | succ d ih =>
    intro sg c tp hs hc
    have ep : nI t + 4 * nI sl = nI (t + 4 * sl) := by
      rw [show (4 : Int32) * nI sl = nI (4 * sl) from pk_mul 4 sl, nI_add]
    refine br_f (nI_ge (b := 2) (by omega) (by omega)) ?_
    rw [ep]
    refine sx_tp hN (by omega) (by omega) hh' hz ?_
    refine ⟨16 + 1, sx_st49 (E := E) (c := c) (s0 := sp_out E 16 c) (z := fun n => z n + sp_pc hh (t + 4 * sl) sg n) hN hc (by omega) hx (fun j hj => sp_fl_lo hj) hg (fun g _ => ?_) ?_ 16 0 (by omega)⟩
    · rw [hE, show c / 2 = sl from by omega, show c % 2 = sg from by omega]
    · rw [← sp_out_s]
      exact ih (sg + 1) (c + 1) _ (by omega) (by omega)
theorem sx_st16 {P N T : Nat} {x_pending : Int32} {x_encodedStream : Int64} {x_reflectionLevels x_pulseLevels x_memory x_history x_output x_fields x_frameCounts x_reflections x_samples x_rawReflections x_target x_impulseResponse x_pastExcitation x_filteredPast x_chosenPulses x_pulseSigns x_excitation x_receivedFields : Nat → Int32} {x_correlation x_predictor x_oldPredictor : Nat → Int64} {post : St2 → Prop} {x hh z : Nat → Int32} {E : Nat → Nat → Int64} {t : Nat} (hN : N ≤ 32) (ht : t < 4) (hT : T ≤ 8)
    (hx : ∀ j, j < N → x_target j = x j) (hh' : ∀ j, j < N → x_impulseResponse j = hh j) (hz : ∀ j, j < N → x_chosenPulses j = z j) (hg : ∀ j, j < 16 → x_pulseLevels j = sp_fg j)
    (hE : ∀ c g, E c g = sp_ef x (fun n => z n + sp_pc hh (t + 4 * (c / 2)) (c % 2) n) N (sp_fg g))
    (h : ∀ tp, post ((nI P), (nI N), (nI T), x_pending, x_encodedStream, x_reflectionLevels, x_pulseLevels, x_memory, x_history, x_output, (upd (upd (upd x_fields (3 + t) (nI ((sp_out E 16 (2 * T)).2.1 / 2))) (7 + t) (nI ((sp_out E 16 (2 * T)).2.1 % 2))) 2 (nI (sp_out E 16 (2 * T)).2.2)), x_frameCounts, x_reflections, x_samples, x_rawReflections, x_correlation, x_predictor, x_oldPredictor, x_target, x_impulseResponse, x_pastExcitation, x_filteredPast, x_chosenPulses, tp, x_pulseSigns, x_excitation, x_receivedFields)) :
    ∀ d sl c tp, sl + d = T → c = 2 * sl → wX_searchTrack_16 post (nI t) (d + 1) (sp_out E 16 c).1 (nI ((sp_out E 16 c).2.1 / 2)) (nI ((sp_out E 16 c).2.1 % 2)) (nI (sp_out E 16 c).2.2) (nI sl) (nI P) (nI N) (nI T) x_pending x_encodedStream x_reflectionLevels x_pulseLevels x_memory x_history x_output x_fields x_frameCounts x_reflections x_samples x_rawReflections x_correlation x_predictor x_oldPredictor x_target x_impulseResponse x_pastExcitation x_filteredPast x_chosenPulses tp x_pulseSigns x_excitation x_receivedFields := by
  intro d
  induction d with
  | zero =>
    intro sl c tp hs hc
    obtain rfl : sl = T := by omega
    subst hc
    refine br_t (nI_le (by omega) (by omega)) ⟨pk_in (3 + t) 34 (by omega) (nI_add 3 t), nm_r (e' := upd x_fields (3 + t) (nI ((sp_out E 16 (2 * sl)).2.1 / 2))) ?_ ⟨pk_in (7 + t) 34 (by omega) (nI_add 7 t), nm_r (e' := upd (upd x_fields (3 + t) (nI ((sp_out E 16 (2 * sl)).2.1 / 2))) (7 + t) (nI ((sp_out E 16 (2 * sl)).2.1 % 2))) ?_ (nm_e (h tp))⟩⟩
    · rw [show (3 : Int32) + nI t = nI (3 + t) from nI_add 3 t, nI_clamp (by omega)]
    · rw [show (7 : Int32) + nI t = nI (7 + t) from nI_add 7 t, nI_clamp (by omega)]
  | succ d ih =>
    intro sl c tp hs hc
    refine br_f (nI_ge (by omega) (by omega)) ⟨2 + 1, sx_st28 hN ht (by omega) hx hh' hz hg hE (fun tp' c' hc' => ?_) 2 0 c tp (by omega) (by omega)⟩
    exact ih (sl + 1) c' tp' (by omega) (by omega)
theorem sx_st {P N T : Nat} {x_pending : Int32} {x_encodedStream : Int64} {x_reflectionLevels x_pulseLevels x_memory x_history x_output x_fields x_frameCounts x_reflections x_samples x_rawReflections x_target x_impulseResponse x_pastExcitation x_filteredPast x_chosenPulses x_trialPulses x_pulseSigns x_excitation x_receivedFields : Nat → Int32} {x_correlation x_predictor x_oldPredictor : Nat → Int64} {post : St2 → Prop} {x hh z : Nat → Int32} {E : Nat → Nat → Int64} {t : Nat} (hN : N ≤ 32) (ht : t < 4) (hT : T ≤ 8)
    (hx : ∀ j, j < N → x_target j = x j) (hh' : ∀ j, j < N → x_impulseResponse j = hh j) (hz : ∀ j, j < N → x_chosenPulses j = z j) (hg : ∀ j, j < 16 → x_pulseLevels j = sp_fg j)
    (hE : ∀ c g, E c g = sp_ef x (fun n => z n + sp_pc hh (t + 4 * (c / 2)) (c % 2) n) N (sp_fg g))
    (h : ∀ tp, post ((nI P), (nI N), (nI T), x_pending, x_encodedStream, x_reflectionLevels, x_pulseLevels, x_memory, x_history, x_output, (upd (upd (upd x_fields (3 + t) (nI ((sp_out E 16 (2 * T)).2.1 / 2))) (7 + t) (nI ((sp_out E 16 (2 * T)).2.1 % 2))) 2 (nI (sp_out E 16 (2 * T)).2.2)), x_frameCounts, x_reflections, x_samples, x_rawReflections, x_correlation, x_predictor, x_oldPredictor, x_target, x_impulseResponse, x_pastExcitation, x_filteredPast, x_chosenPulses, tp, x_pulseSigns, x_excitation, x_receivedFields)) : wpX_searchTrack post ((nI P), (nI N), (nI T), x_pending, x_encodedStream, x_reflectionLevels, x_pulseLevels, x_memory, x_history, x_output, x_fields, x_frameCounts, x_reflections, x_samples, x_rawReflections, x_correlation, x_predictor, x_oldPredictor, x_target, x_impulseResponse, x_pastExcitation, x_filteredPast, x_chosenPulses, x_trialPulses, x_pulseSigns, x_excitation, x_receivedFields) (nI t) := by
  have q := sx_st16 hN ht hT hx hh' hz hg hE h T 0 0 x_trialPulses (by omega) (by omega)
  rw [show (sp_out E 16 0).1 = 9223372036854775807 from rfl, show (sp_out E 16 0).2.1 = 0 from rfl, show (sp_out E 16 0).2.2 = 0 from rfl, Nat.zero_div, Nat.zero_mod, nI_0] at q
  exact Exists.intro (T + 1) q
theorem sx_kp32 {P N T : Nat} {x_pending : Int32} {x_encodedStream : Int64} {x_reflectionLevels x_pulseLevels x_memory x_history x_output x_fields x_frameCounts x_reflections x_samples x_rawReflections x_target x_impulseResponse x_pastExcitation x_filteredPast x_chosenPulses x_trialPulses x_pulseSigns x_excitation x_receivedFields : Nat → Int32} {x_correlation x_predictor x_oldPredictor : Nat → Int64} {post : St2 → Prop} (hN : N ≤ 32) (h : post ((nI P), (nI N), (nI T), x_pending, x_encodedStream, x_reflectionLevels, x_pulseLevels, x_memory, x_history, x_output, x_fields, x_frameCounts, x_reflections, x_samples, x_rawReflections, x_correlation, x_predictor, x_oldPredictor, x_target, x_impulseResponse, x_pastExcitation, x_filteredPast, (sp_fl x_trialPulses N x_chosenPulses), x_trialPulses, x_pulseSigns, x_excitation, x_receivedFields)) :
    ∀ d i, i + d = N → wX_keepPulse_32 post (nI P) (nI N) (nI T) x_pending x_encodedStream (d + 1) (nI i) x_reflectionLevels x_pulseLevels x_memory x_history x_output x_fields x_frameCounts x_reflections x_samples x_rawReflections x_correlation x_predictor x_oldPredictor x_target x_impulseResponse x_pastExcitation x_filteredPast (sp_fl x_trialPulses i x_chosenPulses) x_trialPulses x_pulseSigns x_excitation x_receivedFields := by
  intro d
  induction d with
  | zero =>
    intro i hi
    obtain rfl : i = N := by omega
    exact br_t (nI_le (by omega) (by omega)) h
  | succ d ih =>
    intro i hi
    refine br_f (nI_ge (by omega) (by omega)) ⟨vp_in_nI (by omega) (by omega), vp_in_nI (by omega) (by omega), nm_r ?_ (nm_r (nI_1 i) (ih (i + 1) (by omega)))⟩
    rw [nI_clamp (by omega)]
    exact sp_flS
theorem sx_kp {P N T : Nat} {x_pending : Int32} {x_encodedStream : Int64} {x_reflectionLevels x_pulseLevels x_memory x_history x_output x_fields x_frameCounts x_reflections x_samples x_rawReflections x_target x_impulseResponse x_pastExcitation x_filteredPast x_chosenPulses x_trialPulses x_pulseSigns x_excitation x_receivedFields : Nat → Int32} {x_correlation x_predictor x_oldPredictor : Nat → Int64} {post : St2 → Prop} {hh z : Nat → Int32} {t sl sg : Nat} (hN : N ≤ 32) (ht : t < 4) (hsl : sl < 8) (hsg : sg < 2)
    (hh' : ∀ j, j < N → x_impulseResponse j = hh j) (hz : ∀ j, j < N → x_chosenPulses j = z j) (hf1 : x_fields (3 + t) = nI sl) (hf2 : x_fields (7 + t) = nI sg)
    (h : ∀ tp cp, (∀ j, j < N → cp j = z j + sp_pc hh (t + 4 * sl) sg j) → post ((nI P), (nI N), (nI T), x_pending, x_encodedStream, x_reflectionLevels, x_pulseLevels, x_memory, x_history, x_output, x_fields, x_frameCounts, x_reflections, x_samples, x_rawReflections, x_correlation, x_predictor, x_oldPredictor, x_target, x_impulseResponse, x_pastExcitation, x_filteredPast, cp, tp, x_pulseSigns, x_excitation, x_receivedFields)) : wpX_keepPulse post ((nI P), (nI N), (nI T), x_pending, x_encodedStream, x_reflectionLevels, x_pulseLevels, x_memory, x_history, x_output, x_fields, x_frameCounts, x_reflections, x_samples, x_rawReflections, x_correlation, x_predictor, x_oldPredictor, x_target, x_impulseResponse, x_pastExcitation, x_filteredPast, x_chosenPulses, x_trialPulses, x_pulseSigns, x_excitation, x_receivedFields) (nI t) := by
  have ep : nI t + 4 * nI sl = nI (t + 4 * sl) := by
    rw [show (4 : Int32) * nI sl = nI (4 * sl) from pk_mul 4 sl, nI_add]
  refine And.intro (pk_in (3 + t) 34 (by omega) (nI_add 3 t)) (nm_r (e' := nI sl) ?_ ⟨pk_in (7 + t) 34 (by omega) (nI_add 7 t), nm_r (e' := nI sg) ?_ ?_⟩)
  · rw [show (3 : Int32) + nI t = nI (3 + t) from nI_add 3 t, nI_clamp (by omega)]
    exact hf1
  · rw [show (7 : Int32) + nI t = nI (7 + t) from nI_add 7 t, nI_clamp (by omega)]
    exact hf2
  · rw [ep]
    refine sx_tp hN (by omega) hsg hh' hz ?_
    have q := sx_kp32 (x_chosenPulses := x_chosenPulses) (x_trialPulses := sp_fl (fun n => z n + sp_pc hh (t + 4 * sl) sg n) N x_trialPulses) hN (h _ _ (fun j hj => by
      rw [sp_fl_lo hj, sp_fl_lo hj])) N 0 (by omega)
    rw [sp_fl0] at q
    exact Exists.intro _ q
theorem sx_sp25 {P N T : Nat} {x_pending : Int32} {x_encodedStream : Int64} {x_reflectionLevels x_pulseLevels x_memory x_history x_output x_fields x_frameCounts x_reflections x_samples x_rawReflections x_target x_impulseResponse x_pastExcitation x_filteredPast x_pulseSigns x_excitation x_receivedFields : Nat → Int32} {x_correlation x_predictor x_oldPredictor : Nat → Int64} {post : St2 → Prop} {x hh : Nat → Int32} (hN : N ≤ 32) (hT1 : 1 ≤ T) (hT : T ≤ 8)
    (hx : ∀ j, j < N → x_target j = x j) (hh' : ∀ j, j < N → x_impulseResponse j = hh j) (hg : ∀ j, j < 16 → x_pulseLevels j = sp_fg j)
    (h : ∀ F tp cp, (∀ k, k < 4 → F (3 + k) = nI (sp_ch hh x N T 4 k / 2) ∧ F (7 + k) = nI (sp_ch hh x N T 4 k % 2)) → F 2 = nI (sp_gf hh x N T 3) →
      (∀ j, j < 2 ∨ 11 ≤ j → F j = x_fields j) → post ((nI P), (nI N), (nI T), x_pending, x_encodedStream, x_reflectionLevels, x_pulseLevels, x_memory, x_history, x_output, F, x_frameCounts, x_reflections, x_samples, x_rawReflections, x_correlation, x_predictor, x_oldPredictor, x_target, x_impulseResponse, x_pastExcitation, x_filteredPast, cp, tp, x_pulseSigns, x_excitation, x_receivedFields)) :
    ∀ d t F tp cp, t + d = 4 → (∀ j, j < N → cp j = sp_z hh (sp_ch hh x N T t) t j) →
      (∀ k, k < t → F (3 + k) = nI (sp_ch hh x N T t k / 2) ∧ F (7 + k) = nI (sp_ch hh x N T t k % 2)) → (1 ≤ t → F 2 = nI (sp_gf hh x N T (t - 1))) →
      (∀ j, j < 2 ∨ 11 ≤ j → F j = x_fields j) → wX_searchPulses_25 post (d + 1) (nI t) (nI P) (nI N) (nI T) x_pending x_encodedStream x_reflectionLevels x_pulseLevels x_memory x_history x_output F x_frameCounts x_reflections x_samples x_rawReflections x_correlation x_predictor x_oldPredictor x_target x_impulseResponse x_pastExcitation x_filteredPast cp tp x_pulseSigns x_excitation x_receivedFields := by
  intro d
  induction d with
  | zero =>
    intro t F tp cp ht hc hF h2 hf
    obtain rfl : t = 4 := by omega
    exact br_t (nI_le (a := 4) (by omega) (by omega)) (h F tp cp hF (h2 (by omega)) hf)
  | succ d ih =>
    intro t F tp cp ht hc hF h2 hf
    refine br_f (nI_ge (b := 4) (by omega) (by omega)) (sx_st (E := sp_et hh x N (sp_ch hh x N T t) t) hN (by omega) hT hx hh' hc hg (fun c g => rfl) (fun tp' => ?_))
    have bc := sp_ch_b (h := hh) (x := x) (N := N) (T := T) (by omega) (t + 1) t
    have ec : sp_ch hh x N T (t + 1) t = (sp_out (sp_et hh x N (sp_ch hh x N T t) t) 16 (2 * T)).2.1 := sp_ch_t
    rw [← ec]
    refine sx_kp (z := sp_z hh (sp_ch hh x N T t) t) (sl := sp_ch hh x N T (t + 1) t / 2) (sg := sp_ch hh x N T (t + 1) t % 2) hN (by omega) (by omega) (by omega) hh' hc ?_ ?_ (fun tp'' cp' hc' => nm_r (nI_1 t) (ih (t + 1) _ tp'' cp' (by omega) ?_ ?_ ?_ ?_))
    · rw [pk_un (by omega), pk_un (by omega), pk_us]
    · rw [pk_un (by omega), pk_us]
    · intro j hj
      rw [hc' j hj]
      show _ = sp_z hh (sp_ch hh x N T (t + 1)) t j + _
      rw [sp_z_c (ch := sp_ch hh x N T (t + 1)) (ch' := sp_ch hh x N T t) t (fun k hk => sp_ch_s (by omega))]
    · intro k hk
      by_cases e : k = t
      · subst e
        constructor
        · rw [pk_un (by omega), pk_un (by omega), pk_us]
        · rw [pk_un (by omega), pk_us]
      · have o := hF k (by omega)
        rw [sp_ch_s e]
        constructor
        · rw [pk_un (by omega), pk_un (by omega), pk_un (by omega)]
          exact o.1
        · rw [pk_un (by omega), pk_un (by omega), pk_un (by omega)]
          exact o.2
    · intro _
      rw [pk_us]
      rfl
    · intro j hj
      rw [pk_un (by omega), pk_un (by omega), pk_un (by omega)]
      exact hf j hj
theorem sx_sp2 {P N T : Nat} {x_pending : Int32} {x_encodedStream : Int64} {x_reflectionLevels x_pulseLevels x_memory x_history x_output x_fields x_frameCounts x_reflections x_samples x_rawReflections x_target x_impulseResponse x_pastExcitation x_filteredPast x_trialPulses x_pulseSigns x_excitation x_receivedFields : Nat → Int32} {x_correlation x_predictor x_oldPredictor : Nat → Int64} {post : St2 → Prop} {x hh : Nat → Int32} (hN : N ≤ 32) (hT1 : 1 ≤ T) (hT : T ≤ 8)
    (hx : ∀ j, j < N → x_target j = x j) (hh' : ∀ j, j < N → x_impulseResponse j = hh j) (hg : ∀ j, j < 16 → x_pulseLevels j = sp_fg j)
    (h : ∀ F tp cp, (∀ k, k < 4 → F (3 + k) = nI (sp_ch hh x N T 4 k / 2) ∧ F (7 + k) = nI (sp_ch hh x N T 4 k % 2)) → F 2 = nI (sp_gf hh x N T 3) →
      (∀ j, j < 2 ∨ 11 ≤ j → F j = x_fields j) → post ((nI P), (nI N), (nI T), x_pending, x_encodedStream, x_reflectionLevels, x_pulseLevels, x_memory, x_history, x_output, F, x_frameCounts, x_reflections, x_samples, x_rawReflections, x_correlation, x_predictor, x_oldPredictor, x_target, x_impulseResponse, x_pastExcitation, x_filteredPast, cp, tp, x_pulseSigns, x_excitation, x_receivedFields)) :
    ∀ d i cp, i + d = N → (∀ j, j < i → cp j = 0) → wX_searchPulses_2 post (nI P) (nI N) (nI T) x_pending x_encodedStream (d + 1) (nI i) x_reflectionLevels x_pulseLevels x_memory x_history x_output x_fields x_frameCounts x_reflections x_samples x_rawReflections x_correlation x_predictor x_oldPredictor x_target x_impulseResponse x_pastExcitation x_filteredPast cp x_trialPulses x_pulseSigns x_excitation x_receivedFields := by
  intro d
  induction d with
  | zero =>
    intro i cp hi hc
    obtain rfl : i = N := by omega
    exact br_t (nI_le (by omega) (by omega)) ⟨4 + 1, sx_sp25 hN hT1 hT hx hh' hg h 4 0 x_fields x_trialPulses cp (by omega) (fun j hj => hc j hj) (fun k hk => absurd hk (by omega)) (fun z => absurd z (by omega)) (fun _ _ => rfl)⟩
  | succ d ih =>
    intro i cp hi hc
    refine br_f (nI_ge (by omega) (by omega)) ⟨vp_in_nI (by omega) (by omega), nm_e (nm_r (nI_1 i) (ih (i + 1) _ (by omega) ?_))⟩
    intro j hj
    rw [nI_clamp (by omega)]
    by_cases e : j = i
    · subst e
      rw [pk_us]
    · rw [pk_un e]
      exact hc j (by omega)
theorem sx_sp {P N T : Nat} {x_pending : Int32} {x_encodedStream : Int64} {x_reflectionLevels x_pulseLevels x_memory x_history x_output x_fields x_frameCounts x_reflections x_samples x_rawReflections x_target x_impulseResponse x_pastExcitation x_filteredPast x_chosenPulses x_trialPulses x_pulseSigns x_excitation x_receivedFields : Nat → Int32} {x_correlation x_predictor x_oldPredictor : Nat → Int64} {post : St2 → Prop} {x hh : Nat → Int32} (hN : N ≤ 32) (hT1 : 1 ≤ T) (hT : T ≤ 8)
    (hx : ∀ j, j < N → x_target j = x j) (hh' : ∀ j, j < N → x_impulseResponse j = hh j) (hg : ∀ j, j < 16 → x_pulseLevels j = sp_fg j)
    (h : ∀ F tp cp, (∀ k, k < 4 → F (3 + k) = nI (sp_ch hh x N T 4 k / 2) ∧ F (7 + k) = nI (sp_ch hh x N T 4 k % 2)) → F 2 = nI (sp_gf hh x N T 3) →
      (∀ j, j < 2 ∨ 11 ≤ j → F j = x_fields j) → post ((nI P), (nI N), (nI T), x_pending, x_encodedStream, x_reflectionLevels, x_pulseLevels, x_memory, x_history, x_output, F, x_frameCounts, x_reflections, x_samples, x_rawReflections, x_correlation, x_predictor, x_oldPredictor, x_target, x_impulseResponse, x_pastExcitation, x_filteredPast, cp, tp, x_pulseSigns, x_excitation, x_receivedFields)) : wpX_searchPulses post ((nI P), (nI N), (nI T), x_pending, x_encodedStream, x_reflectionLevels, x_pulseLevels, x_memory, x_history, x_output, x_fields, x_frameCounts, x_reflections, x_samples, x_rawReflections, x_correlation, x_predictor, x_oldPredictor, x_target, x_impulseResponse, x_pastExcitation, x_filteredPast, x_chosenPulses, x_trialPulses, x_pulseSigns, x_excitation, x_receivedFields) :=
  Exists.intro (N + 1) (sx_sp2 hN hT1 hT hx hh' hg h N 0 x_chosenPulses (by omega) (fun j hj => absurd hj (by omega)))
