/-! the component: clamps, correlation, the recursion -/
theorem sx_clamp {post : Int32 → Prop} {w : Int64} {lo hi : Int32} {L H : Int64} (eL : lo.toInt64 = L) (eH : hi.toInt64 = H) (h : post (if w < L then lo else if H < w then hi else w.toInt32)) : wpX_clamp post () w lo hi := by
  unfold wpX_clamp
  rw [eL, eH]
  refine br_c (fun a => ?_) (fun a => ?_)
  · rw [if_neg (Int64.not_lt.mpr a)] at h
    refine br_c (fun b => ?_) (fun b => ?_)
    · rw [if_neg (Int64.not_lt.mpr b)] at h
      exact h
    · rw [if_pos (Int64.not_le.mp b)] at h
      exact h
  · rw [if_pos (Int64.not_le.mp a)] at h
    exact h
theorem sx_sat {post : Int32 → Prop} {w : Int64} (h : post (sp_satL w)) : wpX_saturate post () w := by
  unfold wpX_saturate
  exact sx_clamp (L := -32768) (H := 32767) (by decide) (by decide) h
theorem sx_satI {post : Int32 → Prop} {w : Int32} (h : post (sp_sat w)) : wpX_saturate post () w.toInt64 := sx_sat (by rw [sp_satI]; exact h)
theorem sx_clk {post : Int32 → Prop} {w : Int64} (h : post (sp_cl w).toInt32) : wpX_clamp post () w (-32767) 32767 := by
  refine sx_clamp (L := -32767) (H := 32767) (by decide) (by decide) ?_
  have e : (sp_cl w).toInt32 = (if w < -32767 then (-32767 : Int32) else if 32767 < w then 32767 else w.toInt32) := by
    unfold sp_cl
    split
    · rfl
    · split
      · rfl
      · rfl
  rw [← e]
  exact h
theorem sx_mc15 {P N T : Nat} {x_pending : Int32} {x_encodedStream : Int64} {x_reflectionLevels x_pulseLevels x_memory x_history x_output x_fields x_frameCounts x_reflections x_samples x_rawReflections x_target x_impulseResponse x_pastExcitation x_filteredPast x_chosenPulses x_trialPulses x_pulseSigns x_excitation x_receivedFields : Nat → Int32} {x_correlation x_predictor x_oldPredictor : Nat → Int64} {post : St2 → Prop} {J : _} {i : Nat} (hN : N ≤ 32) (hi : i ≤ 6)
    (hJ : J (nI (i + 1)) x_reflectionLevels x_pulseLevels x_memory x_history x_output x_fields x_frameCounts x_reflections x_samples x_rawReflections (vp_updL x_correlation i (sp_R x_samples N i)) x_predictor x_oldPredictor x_target x_impulseResponse x_pastExcitation x_filteredPast x_chosenPulses x_trialPulses x_pulseSigns x_excitation x_receivedFields) :
    ∀ d t, i + t + d = N → wX_measureCorrelation_15 post J (nI i) (nI P) (nI N) (nI T) x_pending x_encodedStream x_reflectionLevels x_pulseLevels x_memory x_history x_output x_fields x_frameCounts x_reflections x_samples x_rawReflections x_correlation x_predictor x_oldPredictor x_target x_impulseResponse x_pastExcitation x_filteredPast x_chosenPulses x_trialPulses x_pulseSigns x_excitation x_receivedFields (d + 1) (sp_sm (fun t => (x_samples (i + t)).toInt64 * (x_samples t).toInt64) t) (nI (i + t)) := by
  intro d
  induction d with
  | zero =>
    intro t ht
    obtain rfl : t = N - i := by omega
    refine br_t (nI_le (by omega) (by omega)) ⟨vp_in_nI (by omega) (by omega), ?_⟩
    exact nm_r (by rw [nI_clamp (by omega)]; rfl) (nm_r (nI_1 i) hJ)
  | succ d ih =>
    intro t ht
    refine br_f (nI_ge (by omega) (by omega)) ⟨vp_in_nI (by omega) (by omega), pk_in t 32 (by omega) ?_, nm_r ?_ (nm_r (nI_1 (i + t)) (ih (t + 1) (by omega)))⟩
    · rw [pk_sub (by omega), Nat.add_sub_cancel_left]
    · rw [pk_sub (by omega), Nat.add_sub_cancel_left, nI_clamp (by omega), nI_clamp (by omega)]
      rfl
theorem sx_mc2 {P N T : Nat} {x_pending : Int32} {x_encodedStream : Int64} {x_reflectionLevels x_pulseLevels x_memory x_history x_output x_fields x_frameCounts x_reflections x_samples x_rawReflections x_target x_impulseResponse x_pastExcitation x_filteredPast x_chosenPulses x_trialPulses x_pulseSigns x_excitation x_receivedFields : Nat → Int32} {x_correlation x_predictor x_oldPredictor : Nat → Int64} {post : St2 → Prop} (hN8 : 8 ≤ N) (hN : N ≤ 32) (hP : P ≤ 6)
    (h : ∀ co, (∀ i, i ≤ P → co i = sp_R x_samples N i) → post ((nI P), (nI N), (nI T), x_pending, x_encodedStream, x_reflectionLevels, x_pulseLevels, x_memory, x_history, x_output, x_fields, x_frameCounts, x_reflections, x_samples, x_rawReflections, co, x_predictor, x_oldPredictor, x_target, x_impulseResponse, x_pastExcitation, x_filteredPast, x_chosenPulses, x_trialPulses, x_pulseSigns, x_excitation, x_receivedFields)) :
    ∀ d i, i + d = P + 1 → wX_measureCorrelation_2 post (nI P) (nI N) (nI T) x_pending x_encodedStream (d + 1) (nI i) x_reflectionLevels x_pulseLevels x_memory x_history x_output x_fields x_frameCounts x_reflections x_samples x_rawReflections (sp_fl (sp_R x_samples N) i x_correlation) x_predictor x_oldPredictor x_target x_impulseResponse x_pastExcitation x_filteredPast x_chosenPulses x_trialPulses x_pulseSigns x_excitation x_receivedFields := by
  intro d
  induction d with
  | zero =>
    intro i hi
    exact br_t (nI_lt (by omega) (by omega)) (h _ (fun j hj => sp_fl_lo (by omega)))
  | succ d ih =>
    intro i hi
    refine br_f (nI_nlt (by omega) (by omega)) ⟨N - i + 1, sx_mc15 hN (by omega) ?_ (N - i) 0 (by omega)⟩
    rw [sp_flSL]
    exact ih (i + 1) (by omega)
theorem sx_mc {P N T : Nat} {x_pending : Int32} {x_encodedStream : Int64} {x_reflectionLevels x_pulseLevels x_memory x_history x_output x_fields x_frameCounts x_reflections x_samples x_rawReflections x_target x_impulseResponse x_pastExcitation x_filteredPast x_chosenPulses x_trialPulses x_pulseSigns x_excitation x_receivedFields : Nat → Int32} {x_correlation x_predictor x_oldPredictor : Nat → Int64} {post : St2 → Prop} (hN8 : 8 ≤ N) (hN : N ≤ 32) (hP : P ≤ 6)
    (h : ∀ co, (∀ i, i ≤ P → co i = sp_R x_samples N i) → post ((nI P), (nI N), (nI T), x_pending, x_encodedStream, x_reflectionLevels, x_pulseLevels, x_memory, x_history, x_output, x_fields, x_frameCounts, x_reflections, x_samples, x_rawReflections, co, x_predictor, x_oldPredictor, x_target, x_impulseResponse, x_pastExcitation, x_filteredPast, x_chosenPulses, x_trialPulses, x_pulseSigns, x_excitation, x_receivedFields)) : wpX_measureCorrelation post ((nI P), (nI N), (nI T), x_pending, x_encodedStream, x_reflectionLevels, x_pulseLevels, x_memory, x_history, x_output, x_fields, x_frameCounts, x_reflections, x_samples, x_rawReflections, x_correlation, x_predictor, x_oldPredictor, x_target, x_impulseResponse, x_pastExcitation, x_filteredPast, x_chosenPulses, x_trialPulses, x_pulseSigns, x_excitation, x_receivedFields) := by
  have t := sx_mc2 (x_correlation := x_correlation) hN8 hN hP h (P + 1) 0 (by omega)
  rw [sp_fl0] at t
  exact Exists.intro _ t
theorem sx_sc27 {P N T : Nat} {x_pending : Int32} {x_encodedStream : Int64} {x_reflectionLevels x_pulseLevels x_memory x_history x_output x_fields x_frameCounts x_reflections x_samples x_rawReflections x_target x_impulseResponse x_pastExcitation x_filteredPast x_chosenPulses x_trialPulses x_pulseSigns x_excitation x_receivedFields : Nat → Int32} {x_correlation x_predictor x_oldPredictor : Nat → Int64} {post : St2 → Prop} {den : Int64} (hd : ¬ den = 0) (hP : P ≤ 6)
    (h : post ((nI P), (nI N), (nI T), x_pending, x_encodedStream, x_reflectionLevels, x_pulseLevels, x_memory, x_history, x_output, x_fields, x_frameCounts, x_reflections, x_samples, x_rawReflections, (sp_fl (fun j => x_correlation j * 32767 / den) (P + 1) x_correlation), x_predictor, x_oldPredictor, x_target, x_impulseResponse, x_pastExcitation, x_filteredPast, x_chosenPulses, x_trialPulses, x_pulseSigns, x_excitation, x_receivedFields)) :
    ∀ d i, i + d = P + 1 → wX_scaleCorrelation_27 post den (nI P) (nI N) (nI T) x_pending x_encodedStream (d + 1) (nI i) x_reflectionLevels x_pulseLevels x_memory x_history x_output x_fields x_frameCounts x_reflections x_samples x_rawReflections (sp_fl (fun j => x_correlation j * 32767 / den) i x_correlation) x_predictor x_oldPredictor x_target x_impulseResponse x_pastExcitation x_filteredPast x_chosenPulses x_trialPulses x_pulseSigns x_excitation x_receivedFields := by
  intro d
  induction d with
  | zero =>
    intro i hi
    obtain rfl : i = P + 1 := by omega
    exact br_t (nI_lt (by omega) (by omega)) h
  | succ d ih =>
    intro i hi
    refine br_f (nI_nlt (by omega) (by omega)) ⟨vp_in_nI (by omega) (by omega), hd, vp_in_nI (by omega) (by omega), nm_r ?_ (nm_r (nI_1 i) (ih (i + 1) (by omega)))⟩
    rw [nI_clamp (by omega), sp_fl_hi (Nat.le_refl i)]
    exact sp_flSL (g := fun j => x_correlation j * 32767 / den)
theorem sx_sc {P N T : Nat} {x_pending : Int32} {x_encodedStream : Int64} {x_reflectionLevels x_pulseLevels x_memory x_history x_output x_fields x_frameCounts x_reflections x_samples x_rawReflections x_target x_impulseResponse x_pastExcitation x_filteredPast x_chosenPulses x_trialPulses x_pulseSigns x_excitation x_receivedFields : Nat → Int32} {x_correlation x_predictor x_oldPredictor : Nat → Int64} {post : St2 → Prop} {s : Nat → Int32} (hs : sp_bd s) (hN : N ≤ 32) (hP : P ≤ 6) (hc : ∀ i, i ≤ P → x_correlation i = sp_R s N i)
    (h : ∀ co, (∀ i, i ≤ P → co i = sp_r s N i) → post ((nI P), (nI N), (nI T), x_pending, x_encodedStream, x_reflectionLevels, x_pulseLevels, x_memory, x_history, x_output, x_fields, x_frameCounts, x_reflections, x_samples, x_rawReflections, co, x_predictor, x_oldPredictor, x_target, x_impulseResponse, x_pastExcitation, x_filteredPast, x_chosenPulses, x_trialPulses, x_pulseSigns, x_excitation, x_receivedFields)) : wpX_scaleCorrelation post ((nI P), (nI N), (nI T), x_pending, x_encodedStream, x_reflectionLevels, x_pulseLevels, x_memory, x_history, x_output, x_fields, x_frameCounts, x_reflections, x_samples, x_rawReflections, x_correlation, x_predictor, x_oldPredictor, x_target, x_impulseResponse, x_pastExcitation, x_filteredPast, x_chosenPulses, x_trialPulses, x_pulseSigns, x_excitation, x_receivedFields) := by
  have b := sp_R0_r hs hN
  have b2 := sp_den_0 b.1 b.2
  refine nm_r (e' := sp_den (sp_R s N 0)) ?_ (br_f ?_ (Exists.intro (P + 1 + 1) ?_))
  · show sp_den (x_correlation 0) = _
    rw [hc 0 (by omega)]
  · exact Int64.not_le.mpr b2.2
  · have t := sx_sc27 (x_correlation := x_correlation) b2.1 hP (h _ (fun i hi => by
      rw [sp_fl_lo (by omega)]
      show x_correlation i * 32767 / _ = _
      rw [hc i hi]
      rfl)) (P + 1) 0 (by omega)
    rw [sp_fl0] at t
    exact t
theorem sx_pm14 {P N T : Nat} {x_pending : Int32} {x_encodedStream : Int64} {x_reflectionLevels x_pulseLevels x_memory x_history x_output x_fields x_frameCounts x_reflections x_samples x_rawReflections x_target x_impulseResponse x_pastExcitation x_filteredPast x_chosenPulses x_trialPulses x_pulseSigns x_excitation x_receivedFields : Nat → Int32} {x_correlation x_predictor x_oldPredictor : Nat → Int64} {post : Int64 → Prop} {m : Nat} (hm : m ≤ 6) (h : post (sp_ac x_correlation x_predictor m (m - 1))) :
    ∀ d j, j + 1 + d = m → wX_predictionMismatch_14 post (nI m) (nI P) (nI N) (nI T) x_pending x_encodedStream x_reflectionLevels x_pulseLevels x_memory x_history x_output x_fields x_frameCounts x_reflections x_samples x_rawReflections x_correlation x_predictor x_oldPredictor x_target x_impulseResponse x_pastExcitation x_filteredPast x_chosenPulses x_trialPulses x_pulseSigns x_excitation x_receivedFields (d + 1) (sp_ac x_correlation x_predictor m j) (nI (j + 1)) := by
  intro d
  induction d with
  | zero =>
    intro j hj
    obtain rfl : j = m - 1 := by omega
    exact br_t (nI_le (by omega) (by omega)) h
  | succ d ih =>
    intro j hj
    refine br_f (nI_ge (by omega) (by omega)) ⟨vp_in_nI (by omega) (by omega), pk_in (m - (j + 1)) 7 (by omega) (pk_sub (by omega)), nm_r ?_ (nm_r (nI_1 (j + 1)) (ih (j + 1) (by omega)))⟩
    rw [pk_sub (by omega), nI_clamp (by omega), nI_clamp (by omega)]
    rfl
theorem sx_pm {P N T : Nat} {x_pending : Int32} {x_encodedStream : Int64} {x_reflectionLevels x_pulseLevels x_memory x_history x_output x_fields x_frameCounts x_reflections x_samples x_rawReflections x_target x_impulseResponse x_pastExcitation x_filteredPast x_chosenPulses x_trialPulses x_pulseSigns x_excitation x_receivedFields : Nat → Int32} {x_correlation x_predictor x_oldPredictor : Nat → Int64} {post : Int64 → Prop} {m : Nat} (h1 : 1 ≤ m) (hm : m ≤ 6) (h : post (sp_ac x_correlation x_predictor m (m - 1))) : wpX_predictionMismatch post ((nI P), (nI N), (nI T), x_pending, x_encodedStream, x_reflectionLevels, x_pulseLevels, x_memory, x_history, x_output, x_fields, x_frameCounts, x_reflections, x_samples, x_rawReflections, x_correlation, x_predictor, x_oldPredictor, x_target, x_impulseResponse, x_pastExcitation, x_filteredPast, x_chosenPulses, x_trialPulses, x_pulseSigns, x_excitation, x_receivedFields) (nI m) :=
  And.intro (vp_in_nI (by omega) (by omega)) (nm_r (e' := sp_ac x_correlation x_predictor m 0) (by rw [nI_clamp (by omega)]; rfl) (Exists.intro (m - 1 + 1) (sx_pm14 hm h (m - 1) 0 (by omega))))
theorem sx_ep27 {P N T : Nat} {x_pending : Int32} {x_encodedStream : Int64} {x_reflectionLevels x_pulseLevels x_memory x_history x_output x_fields x_frameCounts x_reflections x_samples x_rawReflections x_target x_impulseResponse x_pastExcitation x_filteredPast x_chosenPulses x_trialPulses x_pulseSigns x_excitation x_receivedFields : Nat → Int32} {x_correlation x_oldPredictor : Nat → Int64} {post : St2 → Prop} {A : Nat → Int64} {k : Int32} {kk : Int64} {m : Nat} (ek : k.toInt64 = kk) (h1 : 1 ≤ m) (hm : m ≤ P) (hP : P ≤ 6)
    (ho : ∀ j, 1 ≤ j → j < m → x_oldPredictor j = A j)
    (h : ∀ pr, (∀ j, 1 ≤ j → j ≤ P → pr j = sp_an A m kk j) → post ((nI P), (nI N), (nI T), x_pending, x_encodedStream, x_reflectionLevels, x_pulseLevels, x_memory, x_history, x_output, x_fields, x_frameCounts, x_reflections, x_samples, x_rawReflections, x_correlation, pr, x_oldPredictor, x_target, x_impulseResponse, x_pastExcitation, x_filteredPast, x_chosenPulses, x_trialPulses, x_pulseSigns, x_excitation, x_receivedFields)) :
    ∀ d i pr, i + d = m → 1 ≤ i → (∀ j, 1 ≤ j → j ≤ P → pr j = if j < i then sp_st kk (A j) (A (m - j)) else A j) → wX_extendPredictor_27 post (nI m) k (nI P) (nI N) (nI T) x_pending x_encodedStream (d + 1) (nI i) x_reflectionLevels x_pulseLevels x_memory x_history x_output x_fields x_frameCounts x_reflections x_samples x_rawReflections x_correlation pr x_oldPredictor x_target x_impulseResponse x_pastExcitation x_filteredPast x_chosenPulses x_trialPulses x_pulseSigns x_excitation x_receivedFields := by
  intro d
  induction d with
  | zero =>
    intro i pr hi h1i hp
    obtain rfl : i = m := by omega
    refine br_t (nI_le (by omega) (by omega)) ⟨vp_in_nI (by omega) (by omega), nm_e (h _ ?_)⟩
    intro j hj1 hj2
    rw [nI_clamp (by omega), ek]
    by_cases e : j = i
    · subst e
      rw [pk_uLs]
      exact (if_pos rfl).symm
    · rw [pk_uLn e, hp j hj1 hj2]
      unfold sp_an
      rw [if_neg e]
      by_cases e2 : j < i
      · rw [if_pos e2, if_pos ⟨hj1, e2⟩]
      · rw [if_neg e2, if_neg (fun z => e2 z.2)]
  | succ d ih =>
    intro i pr hi h1i hp
    refine br_f (nI_ge (by omega) (by omega)) ⟨vp_in_nI (by omega) (by omega), pk_in (m - i) 7 (by omega) (pk_sub (by omega)), vp_in_nI (by omega) (by omega), nm_e (nm_r (nI_1 i) (ih (i + 1) _ (by omega) (by omega) ?_))⟩
    intro j hj1 hj2
    rw [pk_sub (by omega), nI_clamp (by omega), nI_clamp (by omega), ek, ho i h1i (by omega), ho (m - i) (by omega) (by omega)]
    by_cases e : j = i
    · subst e
      rw [pk_uLs, if_pos (by omega)]
      rfl
    · rw [pk_uLn e, hp j hj1 hj2]
      by_cases e2 : j < i
      · rw [if_pos e2, if_pos (by omega)]
      · rw [if_neg e2, if_neg (by omega)]
theorem sx_ep2 {P N T : Nat} {x_pending : Int32} {x_encodedStream : Int64} {x_reflectionLevels x_pulseLevels x_memory x_history x_output x_fields x_frameCounts x_reflections x_samples x_rawReflections x_target x_impulseResponse x_pastExcitation x_filteredPast x_chosenPulses x_trialPulses x_pulseSigns x_excitation x_receivedFields : Nat → Int32} {x_correlation x_predictor : Nat → Int64} {post : St2 → Prop} {A : Nat → Int64} {k : Int32} {kk : Int64} {m : Nat} (ek : k.toInt64 = kk) (h1 : 1 ≤ m) (hm : m ≤ P) (hP : P ≤ 6)
    (ha : ∀ j, 1 ≤ j → j ≤ P → x_predictor j = A j)
    (h : ∀ pr op, (∀ j, 1 ≤ j → j ≤ P → pr j = sp_an A m kk j) → post ((nI P), (nI N), (nI T), x_pending, x_encodedStream, x_reflectionLevels, x_pulseLevels, x_memory, x_history, x_output, x_fields, x_frameCounts, x_reflections, x_samples, x_rawReflections, x_correlation, pr, op, x_target, x_impulseResponse, x_pastExcitation, x_filteredPast, x_chosenPulses, x_trialPulses, x_pulseSigns, x_excitation, x_receivedFields)) :
    ∀ d i op, i + d = m → 1 ≤ i → (∀ j, 1 ≤ j → j < i → op j = A j) → wX_extendPredictor_2 post (nI m) k (nI P) (nI N) (nI T) x_pending x_encodedStream (d + 1) (nI i) x_reflectionLevels x_pulseLevels x_memory x_history x_output x_fields x_frameCounts x_reflections x_samples x_rawReflections x_correlation x_predictor op x_target x_impulseResponse x_pastExcitation x_filteredPast x_chosenPulses x_trialPulses x_pulseSigns x_excitation x_receivedFields := by
  intro d
  induction d with
  | zero =>
    intro i op hi h1i hp
    obtain rfl : i = m := by omega
    exact br_t (nI_le (by omega) (by omega)) ⟨i - 1 + 1, sx_ep27 (x_oldPredictor := op) ek h1 hm hP hp (fun pr hpr => h pr op hpr) (i - 1) 1 x_predictor (by omega) (by omega) (fun j hj1 hj2 => by rw [if_neg (by omega)]; exact ha j hj1 hj2)⟩
  | succ d ih =>
    intro i op hi h1i hp
    refine br_f (nI_ge (by omega) (by omega)) ⟨vp_in_nI (by omega) (by omega), vp_in_nI (by omega) (by omega), nm_e (nm_r (nI_1 i) (ih (i + 1) _ (by omega) (by omega) ?_))⟩
    intro j hj1 hj2
    rw [nI_clamp (by omega)]
    by_cases e : j = i
    · subst e
      rw [pk_uLs]
      exact ha j hj1 (by omega)
    · rw [pk_uLn e]
      exact hp j hj1 (by omega)
theorem sx_ep {P N T : Nat} {x_pending : Int32} {x_encodedStream : Int64} {x_reflectionLevels x_pulseLevels x_memory x_history x_output x_fields x_frameCounts x_reflections x_samples x_rawReflections x_target x_impulseResponse x_pastExcitation x_filteredPast x_chosenPulses x_trialPulses x_pulseSigns x_excitation x_receivedFields : Nat → Int32} {x_correlation x_predictor x_oldPredictor : Nat → Int64} {post : St2 → Prop} {A : Nat → Int64} {k : Int32} {kk : Int64} {m : Nat} (ek : k.toInt64 = kk) (h1 : 1 ≤ m) (hm : m ≤ P) (hP : P ≤ 6)
    (ha : ∀ j, 1 ≤ j → j ≤ P → x_predictor j = A j)
    (h : ∀ pr op, (∀ j, 1 ≤ j → j ≤ P → pr j = sp_an A m kk j) → post ((nI P), (nI N), (nI T), x_pending, x_encodedStream, x_reflectionLevels, x_pulseLevels, x_memory, x_history, x_output, x_fields, x_frameCounts, x_reflections, x_samples, x_rawReflections, x_correlation, pr, op, x_target, x_impulseResponse, x_pastExcitation, x_filteredPast, x_chosenPulses, x_trialPulses, x_pulseSigns, x_excitation, x_receivedFields)) : wpX_extendPredictor post ((nI P), (nI N), (nI T), x_pending, x_encodedStream, x_reflectionLevels, x_pulseLevels, x_memory, x_history, x_output, x_fields, x_frameCounts, x_reflections, x_samples, x_rawReflections, x_correlation, x_predictor, x_oldPredictor, x_target, x_impulseResponse, x_pastExcitation, x_filteredPast, x_chosenPulses, x_trialPulses, x_pulseSigns, x_excitation, x_receivedFields) (nI m) k :=
  Exists.intro (m - 1 + 1) (sx_ep2 ek h1 hm hP ha h (m - 1) 1 x_oldPredictor (by omega) (by omega) (fun j hj1 hj2 => absurd hj2 (by omega)))
theorem sx_rr32 {P N T : Nat} {x_pending : Int32} {x_encodedStream : Int64} {x_reflectionLevels x_pulseLevels x_memory x_history x_output x_fields x_frameCounts x_reflections x_samples x_target x_impulseResponse x_pastExcitation x_filteredPast x_chosenPulses x_trialPulses x_pulseSigns x_excitation x_receivedFields : Nat → Int32} {x_correlation : Nat → Int64} {post : St2 → Prop} {r : Nat → Int64} (hP : P ≤ 6) (hc : ∀ i, i ≤ P → x_correlation i = r i)
    (h : ∀ raw pr op, (∀ j, j < P → raw j = (sp_lv r P).2.2 (j + 1)) → post ((nI P), (nI N), (nI T), x_pending, x_encodedStream, x_reflectionLevels, x_pulseLevels, x_memory, x_history, x_output, x_fields, x_frameCounts, x_reflections, x_samples, raw, x_correlation, pr, op, x_target, x_impulseResponse, x_pastExcitation, x_filteredPast, x_chosenPulses, x_trialPulses, x_pulseSigns, x_excitation, x_receivedFields)) :
    ∀ d m raw pr op, m + d = P → (∀ j, j < P → raw j = (sp_lv r m).2.2 (j + 1)) → (∀ j, 1 ≤ j → j ≤ P → pr j = (sp_lv r m).1 j) →
      wX_runRecursion_32 post (d + 1) (sp_lv r m).2.1 (nI (m + 1)) (nI P) (nI N) (nI T) x_pending x_encodedStream x_reflectionLevels x_pulseLevels x_memory x_history x_output x_fields x_frameCounts x_reflections x_samples raw x_correlation pr op x_target x_impulseResponse x_pastExcitation x_filteredPast x_chosenPulses x_trialPulses x_pulseSigns x_excitation x_receivedFields := by
  intro d
  induction d with
  | zero =>
    intro m raw pr op hm hr hp
    obtain rfl : m = P := by omega
    exact br_t (nI_lt (by omega) (by omega)) (h raw pr op hr)
  | succ d ih =>
    intro m raw pr op hm hr hp
    refine br_f (nI_nlt (by omega) (by omega)) ?_
    by_cases hE : 0 < (sp_lv r m).2.1
    · have e : sp_lv r (m + 1) = (sp_an (sp_lv r m).1 (m + 1) (sp_km r (sp_lv r m).1 (sp_lv r m).2.1 (m + 1)), sp_en (sp_lv r m).2.1 (sp_km r (sp_lv r m).1 (sp_lv r m).2.1 (m + 1)), upd (sp_lv r m).2.2 (m + 1) (sp_km r (sp_lv r m).1 (sp_lv r m).2.1 (m + 1)).toInt32) := if_pos hE
      have ea : sp_ac x_correlation pr (m + 1) m = sp_ac r (sp_lv r m).1 (m + 1) m := sp_ac_c (P := P) (by omega) (by omega) hc hp m (by omega)
      have ne : ¬ (sp_lv r m).2.1 = 0 := fun z => by rw [z] at hE; exact absurd hE (by decide)
      have ek : (sp_cl (-(sp_ac x_correlation pr (m + 1) m / (sp_lv r m).2.1))) = sp_km r (sp_lv r m).1 (sp_lv r m).2.1 (m + 1) := by rw [ea]; rfl
      refine br_f (Int64.not_le.mpr hE) (sx_pm (m := m + 1) (by omega) (by omega) ⟨ne, sx_clk ⟨pk_in m 6 (by omega) (nI_pred m), nm_e (sx_ep (A := (sp_lv r m).1) (sp_cl_64 _) (by omega) (by omega) hP hp (fun pr' op' hp' => ?_))⟩⟩)
      have i := ih (m + 1) (upd raw m (sp_km r (sp_lv r m).1 (sp_lv r m).2.1 (m + 1)).toInt32) pr' op' (by omega) (fun j hj => by
        rw [e]
        show upd raw m _ j = upd (sp_lv r m).2.2 (m + 1) _ (j + 1)
        by_cases q : j = m
        · subst q
          rw [pk_us, pk_us]
        · rw [pk_un q, pk_un (by omega)]
          exact hr j hj) (fun j h1 h2 => by
        rw [e]
        show pr' j = sp_an _ _ _ j
        rw [hp' j h1 h2]
        show sp_an _ _ (sp_cl (-(sp_ac x_correlation pr (m + 1) m / (sp_lv r m).2.1))) j = _
        rw [ek])
      rw [e] at i
      refine nm_r (e' := sp_en (sp_lv r m).2.1 (sp_km r (sp_lv r m).1 (sp_lv r m).2.1 (m + 1))) ?_ (nm_r (nI_1 (m + 1)) ?_)
      · show _ = sp_en (sp_lv r m).2.1 (sp_km r (sp_lv r m).1 (sp_lv r m).2.1 (m + 1))
        rw [← ek, sp_cl_64]
        rfl
      · rw [nI_pred, nI_clamp (by omega), show m + 1 - 1 = m from rfl, ek]
        exact i
    · have e : sp_lv r (m + 1) = sp_lv r m := if_neg hE
      have i := ih (m + 1) raw pr op (by omega) (by rw [e]; exact hr) (by rw [e]; exact hp)
      rw [e] at i
      exact br_t (Int64.not_lt.mp hE) (nm_r (nI_1 (m + 1)) i)
theorem sx_rr2 {P N T : Nat} {x_pending : Int32} {x_encodedStream : Int64} {x_reflectionLevels x_pulseLevels x_memory x_history x_output x_fields x_frameCounts x_reflections x_samples x_rawReflections x_target x_impulseResponse x_pastExcitation x_filteredPast x_chosenPulses x_trialPulses x_pulseSigns x_excitation x_receivedFields : Nat → Int32} {x_correlation x_oldPredictor : Nat → Int64} {post : St2 → Prop} {r : Nat → Int64} (hP : P ≤ 6) (hc : ∀ i, i ≤ P → x_correlation i = r i) (hr0 : ∀ j, j < P → x_rawReflections j = 0)
    (h : ∀ raw pr op, (∀ j, j < P → raw j = (sp_lv r P).2.2 (j + 1)) → post ((nI P), (nI N), (nI T), x_pending, x_encodedStream, x_reflectionLevels, x_pulseLevels, x_memory, x_history, x_output, x_fields, x_frameCounts, x_reflections, x_samples, raw, x_correlation, pr, op, x_target, x_impulseResponse, x_pastExcitation, x_filteredPast, x_chosenPulses, x_trialPulses, x_pulseSigns, x_excitation, x_receivedFields)) :
    ∀ d i pr, i + d = P + 1 → 1 ≤ i → (∀ j, 1 ≤ j → j < i → pr j = 0) → wX_runRecursion_2 post (nI P) (nI N) (nI T) x_pending x_encodedStream (d + 1) (nI i) x_reflectionLevels x_pulseLevels x_memory x_history x_output x_fields x_frameCounts x_reflections x_samples x_rawReflections x_correlation pr x_oldPredictor x_target x_impulseResponse x_pastExcitation x_filteredPast x_chosenPulses x_trialPulses x_pulseSigns x_excitation x_receivedFields := by
  intro d
  induction d with
  | zero =>
    intro i pr hi h1 hp
    refine br_t (nI_lt (by omega) (by omega)) (nm_r (e' := (sp_lv r 0).2.1) (hc 0 (by omega)) ⟨P + 1, ?_⟩)
    exact sx_rr32 hP hc h P 0 x_rawReflections pr x_oldPredictor (by omega) (fun j hj => hr0 j hj) (fun j h1 h2 => hp j h1 (by omega))
  | succ d ih =>
    intro i pr hi h1 hp
    refine br_f (nI_nlt (by omega) (by omega)) ⟨vp_in_nI (by omega) (by omega), nm_e (nm_r (nI_1 i) (ih (i + 1) _ (by omega) (by omega) ?_))⟩
    intro j hj1 hj2
    rw [nI_clamp (by omega)]
    by_cases e : j = i
    · subst e
      rw [pk_uLs]
    · rw [pk_uLn e]
      exact hp j hj1 (by omega)
theorem sx_rr {P N T : Nat} {x_pending : Int32} {x_encodedStream : Int64} {x_reflectionLevels x_pulseLevels x_memory x_history x_output x_fields x_frameCounts x_reflections x_samples x_rawReflections x_target x_impulseResponse x_pastExcitation x_filteredPast x_chosenPulses x_trialPulses x_pulseSigns x_excitation x_receivedFields : Nat → Int32} {x_correlation x_predictor x_oldPredictor : Nat → Int64} {post : St2 → Prop} {r : Nat → Int64} (hP : P ≤ 6) (hc : ∀ i, i ≤ P → x_correlation i = r i) (hr0 : ∀ j, j < P → x_rawReflections j = 0)
    (h : ∀ raw pr op, (∀ j, j < P → raw j = (sp_lv r P).2.2 (j + 1)) → post ((nI P), (nI N), (nI T), x_pending, x_encodedStream, x_reflectionLevels, x_pulseLevels, x_memory, x_history, x_output, x_fields, x_frameCounts, x_reflections, x_samples, raw, x_correlation, pr, op, x_target, x_impulseResponse, x_pastExcitation, x_filteredPast, x_chosenPulses, x_trialPulses, x_pulseSigns, x_excitation, x_receivedFields)) : wpX_runRecursion post ((nI P), (nI N), (nI T), x_pending, x_encodedStream, x_reflectionLevels, x_pulseLevels, x_memory, x_history, x_output, x_fields, x_frameCounts, x_reflections, x_samples, x_rawReflections, x_correlation, x_predictor, x_oldPredictor, x_target, x_impulseResponse, x_pastExcitation, x_filteredPast, x_chosenPulses, x_trialPulses, x_pulseSigns, x_excitation, x_receivedFields) :=
  Exists.intro (P + 1) (sx_rr2 hP hc hr0 h P 1 x_predictor (by omega) (by omega) (fun j hj1 hj2 => absurd hj2 (by omega)))
theorem sx_dr2 {P N T : Nat} {x_pending : Int32} {x_encodedStream : Int64} {x_reflectionLevels x_pulseLevels x_memory x_history x_output x_fields x_frameCounts x_reflections x_samples x_target x_impulseResponse x_pastExcitation x_filteredPast x_chosenPulses x_trialPulses x_pulseSigns x_excitation x_receivedFields : Nat → Int32} {x_correlation x_predictor x_oldPredictor : Nat → Int64} {post : St2 → Prop} {s : Nat → Int32} (es : x_samples = s) (hs : sp_bd s) (hN8 : 8 ≤ N) (hN : N ≤ 32) (hP : P ≤ 6)
    (h : ∀ raw co pr op, (∀ j, j < P → raw j = sp_K s N P (j + 1)) → post ((nI P), (nI N), (nI T), x_pending, x_encodedStream, x_reflectionLevels, x_pulseLevels, x_memory, x_history, x_output, x_fields, x_frameCounts, x_reflections, x_samples, raw, co, pr, op, x_target, x_impulseResponse, x_pastExcitation, x_filteredPast, x_chosenPulses, x_trialPulses, x_pulseSigns, x_excitation, x_receivedFields)) :
    ∀ d i raw, i + d = P → (∀ j, j < i → raw j = 0) → wX_deriveRawReflections_2 post (nI P) (nI N) (nI T) x_pending x_encodedStream (d + 1) (nI i) x_reflectionLevels x_pulseLevels x_memory x_history x_output x_fields x_frameCounts x_reflections x_samples raw x_correlation x_predictor x_oldPredictor x_target x_impulseResponse x_pastExcitation x_filteredPast x_chosenPulses x_trialPulses x_pulseSigns x_excitation x_receivedFields := by
  subst es
  have b := sp_R0_r hs hN
  intro d
  induction d with
  | zero =>
    intro i raw hi hr
    obtain rfl : i = P := by omega
    refine br_t (nI_le (by omega) (by omega)) (sx_mc hN8 hN hP (fun co hco => ?_))
    have c0 := hco 0 (by omega)
    by_cases z : sp_R x_samples N 0 = 0
    · refine br_t ?_ (h raw co x_predictor x_oldPredictor (fun j hj => ?_))
      · rw [c0, z]
        exact Int64.le_refl 0
      · rw [hr j hj]
        exact (if_pos z).symm
    · refine br_f ?_ (sx_sc hs hN hP hco (fun co' hco' => sx_rr hP hco' hr (fun raw' pr' op' hr' => h raw' co' pr' op' (fun j hj => ?_))))
      · rw [c0]
        exact Int64.not_le.mpr ((sp_R0_0 b.1).mpr z)
      · rw [hr' j hj]
        exact (if_neg z).symm
  | succ d ih =>
    intro i raw hi hr
    refine br_f (nI_ge (by omega) (by omega)) ⟨vp_in_nI (by omega) (by omega), nm_e (nm_r (nI_1 i) (ih (i + 1) _ (by omega) ?_))⟩
    intro j hj
    rw [nI_clamp (by omega)]
    by_cases e : j = i
    · subst e
      rw [pk_us]
    · rw [pk_un e]
      exact hr j (by omega)
theorem sx_dr {P N T : Nat} {x_pending : Int32} {x_encodedStream : Int64} {x_reflectionLevels x_pulseLevels x_memory x_history x_output x_fields x_frameCounts x_reflections x_samples x_rawReflections x_target x_impulseResponse x_pastExcitation x_filteredPast x_chosenPulses x_trialPulses x_pulseSigns x_excitation x_receivedFields : Nat → Int32} {x_correlation x_predictor x_oldPredictor : Nat → Int64} {post : St2 → Prop} {s : Nat → Int32} (es : x_samples = s) (hs : sp_bd s) (hN8 : 8 ≤ N) (hN : N ≤ 32) (hP : P ≤ 6)
    (h : ∀ raw co pr op, (∀ j, j < P → raw j = sp_K s N P (j + 1)) → post ((nI P), (nI N), (nI T), x_pending, x_encodedStream, x_reflectionLevels, x_pulseLevels, x_memory, x_history, x_output, x_fields, x_frameCounts, x_reflections, x_samples, raw, co, pr, op, x_target, x_impulseResponse, x_pastExcitation, x_filteredPast, x_chosenPulses, x_trialPulses, x_pulseSigns, x_excitation, x_receivedFields)) : wpX_deriveRawReflections post ((nI P), (nI N), (nI T), x_pending, x_encodedStream, x_reflectionLevels, x_pulseLevels, x_memory, x_history, x_output, x_fields, x_frameCounts, x_reflections, x_samples, x_rawReflections, x_correlation, x_predictor, x_oldPredictor, x_target, x_impulseResponse, x_pastExcitation, x_filteredPast, x_chosenPulses, x_trialPulses, x_pulseSigns, x_excitation, x_receivedFields) :=
  Exists.intro (P + 1) (sx_dr2 es hs hN8 hN hP h P 0 x_rawReflections (by omega) (fun j hj => absurd hj (by omega)))
