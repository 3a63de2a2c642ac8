/-! the readers -/
theorem sx_sideN {post : Int32 → Prop} {p : Int32} (h : p < 0) (hp : post 0) : wpX_isSide post () p := by
  refine br_f (fun e => ?_) (br_f (fun e => ?_) hp)
  · rw [e] at h
    exact absurd h (by decide)
  · rw [e] at h
    exact absurd h (by decide)
theorem sx_sideB {post : Int32 → Prop} {a : Nat} (ha : 2 ≤ a) (h31 : a < 2 ^ 31) (hp : post 0) : wpX_isSide post () (nI a) :=
  br_f (fun e => by
    have := (nI_eq (b := 0) h31 (by omega)).mp e
    omega) (br_f (fun e => by
    have := (nI_eq (b := 1) h31 (by omega)).mp e
    omega) hp)
theorem sx_sideO {post : Int32 → Prop} {a : Nat} (ha : a < 2) (hp : post 1) : wpX_isSide post () (nI a) := by
  have : a = 0 ∨ a = 1 := by omega
  rcases this with rfl | rfl
  · exact br_t rfl hp
  · exact br_f (by decide) (br_t rfl hp)
theorem sp_ge1 {x : Int32} (h : ¬ x < 1) : ∃ m : Nat, 1 ≤ m ∧ m < 2 ^ 31 ∧ x = nI m := by
  have p : ¬ x < 0 := fun z => h (Int32.lt_trans z (by decide))
  obtain ⟨m, hm, rfl⟩ := nI_of p
  refine ⟨m, ?_, hm, rfl⟩
  by_cases z : m = 0
  · subst z
    exact absurd (show nI 0 < 1 from by decide) h
  · omega
theorem sx_gr1 {P N T : Nat} {x_pending : Int32} {x_encodedStream : Int64} {x_reflectionLevels x_pulseLevels x_memory x_history x_output x_fields x_frameCounts x_reflections x_samples x_rawReflections x_target x_impulseResponse x_pastExcitation x_filteredPast x_chosenPulses x_trialPulses x_pulseSigns x_excitation x_receivedFields : Nat → Int32} {x_correlation x_predictor x_oldPredictor : Nat → Int64} {post : Int32 → Prop} {sd m : Nat} (hsd : sd < 2) (hP : P ≤ 6) (h1 : 1 ≤ m) (hm : m ≤ P) (h : post (x_reflections (sd * 6 + (m - 1)))) : wpX_getReflection post ((nI P), (nI N), (nI T), x_pending, x_encodedStream, x_reflectionLevels, x_pulseLevels, x_memory, x_history, x_output, x_fields, x_frameCounts, x_reflections, x_samples, x_rawReflections, x_correlation, x_predictor, x_oldPredictor, x_target, x_impulseResponse, x_pastExcitation, x_filteredPast, x_chosenPulses, x_trialPulses, x_pulseSigns, x_excitation, x_receivedFields) (nI sd) (nI m) := by
  have e : nI sd * 6 + nI m - 1 = nI (sd * 6 + (m - 1)) := by
    rw [show nI sd * 6 = nI (sd * 6) from pk_mul sd 6, nI_add, show sd * 6 + (m - 1) = sd * 6 + m - 1 from by omega]
    exact pk_sub (b := 1) (by omega)
  unfold wpX_getReflection
  dsimp only
  refine sx_sideO hsd (br_f (by decide) (br_f (nI_nlt (b := 1) h1 (by omega)) (br_t (nI_le hm (by omega)) ⟨pk_in (sd * 6 + (m - 1)) 12 (by omega) e, ?_⟩)))
  rw [e, nI_clamp (by omega)]
  exact h
theorem sx_gr0 {P N T : Nat} {x_pending : Int32} {x_encodedStream : Int64} {x_reflectionLevels x_pulseLevels x_memory x_history x_output x_fields x_frameCounts x_reflections x_samples x_rawReflections x_target x_impulseResponse x_pastExcitation x_filteredPast x_chosenPulses x_trialPulses x_pulseSigns x_excitation x_receivedFields : Nat → Int32} {x_correlation x_predictor x_oldPredictor : Nat → Int64} {post : Int32 → Prop} {sd : Nat} {x : Int32} (hsd : sd < 2) (hx : x < 1 ∨ ¬ x ≤ nI P) (h : post 0) : wpX_getReflection post ((nI P), (nI N), (nI T), x_pending, x_encodedStream, x_reflectionLevels, x_pulseLevels, x_memory, x_history, x_output, x_fields, x_frameCounts, x_reflections, x_samples, x_rawReflections, x_correlation, x_predictor, x_oldPredictor, x_target, x_impulseResponse, x_pastExcitation, x_filteredPast, x_chosenPulses, x_trialPulses, x_pulseSigns, x_excitation, x_receivedFields) (nI sd) x := by
  unfold wpX_getReflection
  dsimp only
  refine sx_sideO hsd (br_f (by decide) ?_)
  by_cases c : x < 1
  · exact br_t c h
  · rcases hx with hx | hx
    · exact absurd hx c
    · exact br_f c (br_f hx h)
theorem sx_gf1 {P N T : Nat} {x_pending : Int32} {x_encodedStream : Int64} {x_reflectionLevels x_pulseLevels x_memory x_history x_output x_fields x_frameCounts x_reflections x_samples x_rawReflections x_target x_impulseResponse x_pastExcitation x_filteredPast x_chosenPulses x_trialPulses x_pulseSigns x_excitation x_receivedFields : Nat → Int32} {x_correlation x_predictor x_oldPredictor : Nat → Int64} {post : Int32 → Prop} {sd m : Nat} (hsd : sd < 2) (hP : P ≤ 6) (hm : m < 11 + P) (h : post (x_fields (sd * 17 + m))) : wpX_getField post ((nI P), (nI N), (nI T), x_pending, x_encodedStream, x_reflectionLevels, x_pulseLevels, x_memory, x_history, x_output, x_fields, x_frameCounts, x_reflections, x_samples, x_rawReflections, x_correlation, x_predictor, x_oldPredictor, x_target, x_impulseResponse, x_pastExcitation, x_filteredPast, x_chosenPulses, x_trialPulses, x_pulseSigns, x_excitation, x_receivedFields) (nI sd) (nI m) := by
  have e : nI sd * 17 + nI m = nI (sd * 17 + m) := by
    rw [show nI sd * 17 = nI (sd * 17) from pk_mul sd 17, nI_add]
  unfold wpX_getField
  dsimp only
  refine sx_sideO hsd (br_f (by decide) (br_f (nI_pos (by omega)) (br_t ?_ ⟨pk_in (sd * 17 + m) 34 (by omega) e, ?_⟩)))
  · rw [show (11 : Int32) + nI P = nI (11 + P) from nI_add 11 P]
    exact nI_lt hm (by omega)
  · rw [e, nI_clamp (by omega)]
    exact h
theorem sx_gf0 {P N T : Nat} {x_pending : Int32} {x_encodedStream : Int64} {x_reflectionLevels x_pulseLevels x_memory x_history x_output x_fields x_frameCounts x_reflections x_samples x_rawReflections x_target x_impulseResponse x_pastExcitation x_filteredPast x_chosenPulses x_trialPulses x_pulseSigns x_excitation x_receivedFields : Nat → Int32} {x_correlation x_predictor x_oldPredictor : Nat → Int64} {post : Int32 → Prop} {sd : Nat} {x : Int32} (hsd : sd < 2) (hx : x < 0 ∨ ¬ x < 11 + nI P) (h : post (-1)) : wpX_getField post ((nI P), (nI N), (nI T), x_pending, x_encodedStream, x_reflectionLevels, x_pulseLevels, x_memory, x_history, x_output, x_fields, x_frameCounts, x_reflections, x_samples, x_rawReflections, x_correlation, x_predictor, x_oldPredictor, x_target, x_impulseResponse, x_pastExcitation, x_filteredPast, x_chosenPulses, x_trialPulses, x_pulseSigns, x_excitation, x_receivedFields) (nI sd) x := by
  unfold wpX_getField
  dsimp only
  refine sx_sideO hsd (br_f (by decide) ?_)
  by_cases c : x < 0
  · exact br_t c h
  · rcases hx with hx | hx
    · exact absurd hx c
    · exact br_f c (br_f hx h)
theorem sx_gm1 {P N T : Nat} {x_pending : Int32} {x_encodedStream : Int64} {x_reflectionLevels x_pulseLevels x_memory x_history x_output x_fields x_frameCounts x_reflections x_samples x_rawReflections x_target x_impulseResponse x_pastExcitation x_filteredPast x_chosenPulses x_trialPulses x_pulseSigns x_excitation x_receivedFields : Nat → Int32} {x_correlation x_predictor x_oldPredictor : Nat → Int64} {post : Int32 → Prop} {sd m : Nat} (hsd : sd < 2) (hP : P ≤ 6) (hm : m < P) (h : post (x_memory (sd * 6 + m))) : wpX_getMemory post ((nI P), (nI N), (nI T), x_pending, x_encodedStream, x_reflectionLevels, x_pulseLevels, x_memory, x_history, x_output, x_fields, x_frameCounts, x_reflections, x_samples, x_rawReflections, x_correlation, x_predictor, x_oldPredictor, x_target, x_impulseResponse, x_pastExcitation, x_filteredPast, x_chosenPulses, x_trialPulses, x_pulseSigns, x_excitation, x_receivedFields) (nI sd) (nI m) := by
  have e : nI sd * 6 + nI m = nI (sd * 6 + m) := by
    rw [show nI sd * 6 = nI (sd * 6) from pk_mul sd 6, nI_add]
  unfold wpX_getMemory
  dsimp only
  refine sx_sideO hsd (br_f (by decide) (br_f (nI_pos (by omega)) (br_t (nI_lt hm (by omega)) ⟨pk_in (sd * 6 + m) 18 (by omega) e, ?_⟩)))
  rw [e, nI_clamp (by omega)]
  exact h
theorem sx_gm0 {P N T : Nat} {x_pending : Int32} {x_encodedStream : Int64} {x_reflectionLevels x_pulseLevels x_memory x_history x_output x_fields x_frameCounts x_reflections x_samples x_rawReflections x_target x_impulseResponse x_pastExcitation x_filteredPast x_chosenPulses x_trialPulses x_pulseSigns x_excitation x_receivedFields : Nat → Int32} {x_correlation x_predictor x_oldPredictor : Nat → Int64} {post : Int32 → Prop} {sd : Nat} {x : Int32} (hsd : sd < 2) (hx : x < 0 ∨ ¬ x < nI P) (h : post 0) : wpX_getMemory post ((nI P), (nI N), (nI T), x_pending, x_encodedStream, x_reflectionLevels, x_pulseLevels, x_memory, x_history, x_output, x_fields, x_frameCounts, x_reflections, x_samples, x_rawReflections, x_correlation, x_predictor, x_oldPredictor, x_target, x_impulseResponse, x_pastExcitation, x_filteredPast, x_chosenPulses, x_trialPulses, x_pulseSigns, x_excitation, x_receivedFields) (nI sd) x := by
  unfold wpX_getMemory
  dsimp only
  refine sx_sideO hsd (br_f (by decide) ?_)
  by_cases c : x < 0
  · exact br_t c h
  · rcases hx with hx | hx
    · exact absurd hx c
    · exact br_f c (br_f hx h)
theorem sx_go1 {P N T : Nat} {x_pending : Int32} {x_encodedStream : Int64} {x_reflectionLevels x_pulseLevels x_memory x_history x_output x_fields x_frameCounts x_reflections x_samples x_rawReflections x_target x_impulseResponse x_pastExcitation x_filteredPast x_chosenPulses x_trialPulses x_pulseSigns x_excitation x_receivedFields : Nat → Int32} {x_correlation x_predictor x_oldPredictor : Nat → Int64} {post : Int32 → Prop} {sd m : Nat} (hsd : sd < 2) (hN : N ≤ 32) (hm : m < N) (h : post (x_output (sd * 32 + m))) : wpX_getOutput post ((nI P), (nI N), (nI T), x_pending, x_encodedStream, x_reflectionLevels, x_pulseLevels, x_memory, x_history, x_output, x_fields, x_frameCounts, x_reflections, x_samples, x_rawReflections, x_correlation, x_predictor, x_oldPredictor, x_target, x_impulseResponse, x_pastExcitation, x_filteredPast, x_chosenPulses, x_trialPulses, x_pulseSigns, x_excitation, x_receivedFields) (nI sd) (nI m) := by
  have e : nI sd * 32 + nI m = nI (sd * 32 + m) := by
    rw [show nI sd * 32 = nI (sd * 32) from pk_mul sd 32, nI_add]
  unfold wpX_getOutput
  dsimp only
  refine sx_sideO hsd (br_f (by decide) (br_f (nI_pos (by omega)) (br_t (nI_lt hm (by omega)) ⟨pk_in (sd * 32 + m) 64 (by omega) e, ?_⟩)))
  rw [e, nI_clamp (by omega)]
  exact h
theorem sx_go0 {P N T : Nat} {x_pending : Int32} {x_encodedStream : Int64} {x_reflectionLevels x_pulseLevels x_memory x_history x_output x_fields x_frameCounts x_reflections x_samples x_rawReflections x_target x_impulseResponse x_pastExcitation x_filteredPast x_chosenPulses x_trialPulses x_pulseSigns x_excitation x_receivedFields : Nat → Int32} {x_correlation x_predictor x_oldPredictor : Nat → Int64} {post : Int32 → Prop} {sd : Nat} {x : Int32} (hsd : sd < 2) (hx : x < 0 ∨ ¬ x < nI N) (h : post 0) : wpX_getOutput post ((nI P), (nI N), (nI T), x_pending, x_encodedStream, x_reflectionLevels, x_pulseLevels, x_memory, x_history, x_output, x_fields, x_frameCounts, x_reflections, x_samples, x_rawReflections, x_correlation, x_predictor, x_oldPredictor, x_target, x_impulseResponse, x_pastExcitation, x_filteredPast, x_chosenPulses, x_trialPulses, x_pulseSigns, x_excitation, x_receivedFields) (nI sd) x := by
  unfold wpX_getOutput
  dsimp only
  refine sx_sideO hsd (br_f (by decide) ?_)
  by_cases c : x < 0
  · exact br_t c h
  · rcases hx with hx | hx
    · exact absurd hx c
    · exact br_f c (br_f hx h)
theorem sx_gx1 {P N T : Nat} {x_pending : Int32} {x_encodedStream : Int64} {x_reflectionLevels x_pulseLevels x_memory x_history x_output x_fields x_frameCounts x_reflections x_samples x_rawReflections x_target x_impulseResponse x_pastExcitation x_filteredPast x_chosenPulses x_trialPulses x_pulseSigns x_excitation x_receivedFields : Nat → Int32} {x_correlation x_predictor x_oldPredictor : Nat → Int64} {post : Int32 → Prop} {sd m : Nat} (hsd : sd < 2) (h1 : 1 ≤ m) (hm : m ≤ 64) (h : post (x_history (sd * 64 + m - 1))) : wpX_getExcitation post ((nI P), (nI N), (nI T), x_pending, x_encodedStream, x_reflectionLevels, x_pulseLevels, x_memory, x_history, x_output, x_fields, x_frameCounts, x_reflections, x_samples, x_rawReflections, x_correlation, x_predictor, x_oldPredictor, x_target, x_impulseResponse, x_pastExcitation, x_filteredPast, x_chosenPulses, x_trialPulses, x_pulseSigns, x_excitation, x_receivedFields) (nI sd) (nI m) := by
  have e : nI sd * 64 + nI m - 1 = nI (sd * 64 + m - 1) := by
    rw [show nI sd * 64 = nI (sd * 64) from pk_mul sd 64, nI_add]
    exact pk_sub (b := 1) (by omega)
  unfold wpX_getExcitation
  dsimp only
  refine sx_sideO hsd (br_f (by decide) (br_f (nI_nlt (b := 1) h1 (by omega)) (br_t (nI_le (b := 64) hm (by omega)) ⟨pk_in (sd * 64 + m - 1) 128 (by omega) e, ?_⟩)))
  rw [e, nI_clamp (by omega)]
  exact h
theorem sx_gx0 {P N T : Nat} {x_pending : Int32} {x_encodedStream : Int64} {x_reflectionLevels x_pulseLevels x_memory x_history x_output x_fields x_frameCounts x_reflections x_samples x_rawReflections x_target x_impulseResponse x_pastExcitation x_filteredPast x_chosenPulses x_trialPulses x_pulseSigns x_excitation x_receivedFields : Nat → Int32} {x_correlation x_predictor x_oldPredictor : Nat → Int64} {post : Int32 → Prop} {sd : Nat} {x : Int32} (hsd : sd < 2) (hx : x < 1 ∨ ¬ x ≤ 64) (h : post 0) : wpX_getExcitation post ((nI P), (nI N), (nI T), x_pending, x_encodedStream, x_reflectionLevels, x_pulseLevels, x_memory, x_history, x_output, x_fields, x_frameCounts, x_reflections, x_samples, x_rawReflections, x_correlation, x_predictor, x_oldPredictor, x_target, x_impulseResponse, x_pastExcitation, x_filteredPast, x_chosenPulses, x_trialPulses, x_pulseSigns, x_excitation, x_receivedFields) (nI sd) x := by
  unfold wpX_getExcitation
  dsimp only
  refine sx_sideO hsd (br_f (by decide) ?_)
  by_cases c : x < 1
  · exact br_t c h
  · rcases hx with hx | hx
    · exact absurd hx c
    · exact br_f c (br_f hx h)
theorem sx_gc {P N T : Nat} {x_pending : Int32} {x_encodedStream : Int64} {x_reflectionLevels x_pulseLevels x_memory x_history x_output x_fields x_frameCounts x_reflections x_samples x_rawReflections x_target x_impulseResponse x_pastExcitation x_filteredPast x_chosenPulses x_trialPulses x_pulseSigns x_excitation x_receivedFields : Nat → Int32} {x_correlation x_predictor x_oldPredictor : Nat → Int64} {post : Int32 → Prop} {sd : Nat} (hsd : sd < 2) (h : post (x_frameCounts sd)) : wpX_getFrameCount post ((nI P), (nI N), (nI T), x_pending, x_encodedStream, x_reflectionLevels, x_pulseLevels, x_memory, x_history, x_output, x_fields, x_frameCounts, x_reflections, x_samples, x_rawReflections, x_correlation, x_predictor, x_oldPredictor, x_target, x_impulseResponse, x_pastExcitation, x_filteredPast, x_chosenPulses, x_trialPulses, x_pulseSigns, x_excitation, x_receivedFields) (nI sd) := by
  unfold wpX_getFrameCount
  dsimp only
  refine sx_sideO hsd (br_f (by decide) ⟨vp_in_nI hsd (by omega), ?_⟩)
  rw [nI_clamp (by omega)]
  exact h
theorem sx_gw {P N T : Nat} {x_pending : Int32} {x_reflectionLevels x_pulseLevels x_memory x_history x_output x_fields x_frameCounts x_reflections x_samples x_rawReflections x_target x_impulseResponse x_pastExcitation x_filteredPast x_chosenPulses x_trialPulses x_pulseSigns x_excitation x_receivedFields : Nat → Int32} {x_correlation x_predictor x_oldPredictor : Nat → Int64} {post : Int32 → Prop} {S i : Nat} (hS : S < 2 ^ 64) (hi : i < 4) (h : post (nI ((S >>> (48 - 16 * i)) % 65536))) : wpX_getWord post ((nI P), (nI N), (nI T), x_pending, (lN S), x_reflectionLevels, x_pulseLevels, x_memory, x_history, x_output, x_fields, x_frameCounts, x_reflections, x_samples, x_rawReflections, x_correlation, x_predictor, x_oldPredictor, x_target, x_impulseResponse, x_pastExcitation, x_filteredPast, x_chosenPulses, x_trialPulses, x_pulseSigns, x_excitation, x_receivedFields) (nI i) := by
  refine br_f (nI_pos (by omega)) (br_t (nI_lt (b := 4) hi (by omega)) ?_)
  rw [show (16 : Int32) * nI i = nI (16 * i) from pk_mul 16 i, show (48 : Int32) - nI (16 * i) = nI (48 - 16 * i) from pk_sub (a := 48) (by omega), sp_word hS hi rfl]
  exact h
/-- both sides asked alike -/
theorem sl_refl {P N T : Nat} {x_pending : Int32} {x_encodedStream : Int64} {x_reflectionLevels x_pulseLevels x_memory x_history x_output x_fields x_frameCounts x_reflections x_samples x_rawReflections x_target x_impulseResponse x_pastExcitation x_filteredPast x_chosenPulses x_trialPulses x_pulseSigns x_excitation x_receivedFields : Nat → Int32} {x_correlation x_predictor x_oldPredictor : Nat → Int64} {A B : Prop} {x : Int32} (hP : P ≤ 6) (hr : ∀ m, m < P → x_reflections (0 * 6 + m) = x_reflections (1 * 6 + m)) (hA : A) :
    wpX_getReflection (fun r => (wpX_getReflection (fun r' => ((r = r' → A) ∧ (¬ r = r' → B))) ((nI P), (nI N), (nI T), x_pending, x_encodedStream, x_reflectionLevels, x_pulseLevels, x_memory, x_history, x_output, x_fields, x_frameCounts, x_reflections, x_samples, x_rawReflections, x_correlation, x_predictor, x_oldPredictor, x_target, x_impulseResponse, x_pastExcitation, x_filteredPast, x_chosenPulses, x_trialPulses, x_pulseSigns, x_excitation, x_receivedFields) 1 x)) ((nI P), (nI N), (nI T), x_pending, x_encodedStream, x_reflectionLevels, x_pulseLevels, x_memory, x_history, x_output, x_fields, x_frameCounts, x_reflections, x_samples, x_rawReflections, x_correlation, x_predictor, x_oldPredictor, x_target, x_impulseResponse, x_pastExcitation, x_filteredPast, x_chosenPulses, x_trialPulses, x_pulseSigns, x_excitation, x_receivedFields) 0 x := by
  by_cases c : x < 1
  · exact sx_gr0 (sd := 0) (by omega) (Or.inl c) (sx_gr0 (sd := 1) (by omega) (Or.inl c) (br_t rfl hA))
  · obtain ⟨m, m1, hm, rfl⟩ := sp_ge1 c
    by_cases cm : m ≤ P
    · exact sx_gr1 (sd := 0) (by omega) hP m1 cm (sx_gr1 (sd := 1) (by omega) hP m1 cm (br_t (hr (m - 1) (by omega)) hA))
    · exact sx_gr0 (sd := 0) (by omega) (Or.inr (nI_ge (by omega) hm)) (sx_gr0 (sd := 1) (by omega) (Or.inr (nI_ge (by omega) hm)) (br_t rfl hA))
theorem sl_fld {P N T : Nat} {x_pending : Int32} {x_encodedStream : Int64} {x_reflectionLevels x_pulseLevels x_memory x_history x_output x_fields x_frameCounts x_reflections x_samples x_rawReflections x_target x_impulseResponse x_pastExcitation x_filteredPast x_chosenPulses x_trialPulses x_pulseSigns x_excitation x_receivedFields : Nat → Int32} {x_correlation x_predictor x_oldPredictor : Nat → Int64} {A B : Prop} {x : Int32} (hP : P ≤ 6) (hr : ∀ k, k < 11 + P → x_fields (0 * 17 + k) = x_fields (1 * 17 + k)) (hA : A) :
    wpX_getField (fun r => (wpX_getField (fun r' => ((r = r' → A) ∧ (¬ r = r' → B))) ((nI P), (nI N), (nI T), x_pending, x_encodedStream, x_reflectionLevels, x_pulseLevels, x_memory, x_history, x_output, x_fields, x_frameCounts, x_reflections, x_samples, x_rawReflections, x_correlation, x_predictor, x_oldPredictor, x_target, x_impulseResponse, x_pastExcitation, x_filteredPast, x_chosenPulses, x_trialPulses, x_pulseSigns, x_excitation, x_receivedFields) 1 x)) ((nI P), (nI N), (nI T), x_pending, x_encodedStream, x_reflectionLevels, x_pulseLevels, x_memory, x_history, x_output, x_fields, x_frameCounts, x_reflections, x_samples, x_rawReflections, x_correlation, x_predictor, x_oldPredictor, x_target, x_impulseResponse, x_pastExcitation, x_filteredPast, x_chosenPulses, x_trialPulses, x_pulseSigns, x_excitation, x_receivedFields) 0 x := by
  by_cases c : x < 0
  · exact sx_gf0 (sd := 0) (by omega) (Or.inl c) (sx_gf0 (sd := 1) (by omega) (Or.inl c) (br_t rfl hA))
  · obtain ⟨m, hm, rfl⟩ := nI_of c
    by_cases cm : m < 11 + P
    · exact sx_gf1 (sd := 0) (by omega) hP cm (sx_gf1 (sd := 1) (by omega) hP cm (br_t (hr m cm) hA))
    · have nl : ¬ nI m < 11 + nI P := by
        rw [show (11 : Int32) + nI P = nI (11 + P) from nI_add 11 P]
        exact nI_nlt (by omega) hm
      exact sx_gf0 (sd := 0) (by omega) (Or.inr nl) (sx_gf0 (sd := 1) (by omega) (Or.inr nl) (br_t rfl hA))
theorem sl_mem {P N T : Nat} {x_pending : Int32} {x_encodedStream : Int64} {x_reflectionLevels x_pulseLevels x_memory x_history x_output x_fields x_frameCounts x_reflections x_samples x_rawReflections x_target x_impulseResponse x_pastExcitation x_filteredPast x_chosenPulses x_trialPulses x_pulseSigns x_excitation x_receivedFields : Nat → Int32} {x_correlation x_predictor x_oldPredictor : Nat → Int64} {A B : Prop} {x : Int32} (hP : P ≤ 6) (hr : ∀ k, k < P → x_memory (0 * 6 + k) = x_memory (1 * 6 + k)) (hA : A) :
    wpX_getMemory (fun r => (wpX_getMemory (fun r' => ((r = r' → A) ∧ (¬ r = r' → B))) ((nI P), (nI N), (nI T), x_pending, x_encodedStream, x_reflectionLevels, x_pulseLevels, x_memory, x_history, x_output, x_fields, x_frameCounts, x_reflections, x_samples, x_rawReflections, x_correlation, x_predictor, x_oldPredictor, x_target, x_impulseResponse, x_pastExcitation, x_filteredPast, x_chosenPulses, x_trialPulses, x_pulseSigns, x_excitation, x_receivedFields) 1 x)) ((nI P), (nI N), (nI T), x_pending, x_encodedStream, x_reflectionLevels, x_pulseLevels, x_memory, x_history, x_output, x_fields, x_frameCounts, x_reflections, x_samples, x_rawReflections, x_correlation, x_predictor, x_oldPredictor, x_target, x_impulseResponse, x_pastExcitation, x_filteredPast, x_chosenPulses, x_trialPulses, x_pulseSigns, x_excitation, x_receivedFields) 0 x := by
  by_cases c : x < 0
  · exact sx_gm0 (sd := 0) (by omega) (Or.inl c) (sx_gm0 (sd := 1) (by omega) (Or.inl c) (br_t rfl hA))
  · obtain ⟨m, hm, rfl⟩ := nI_of c
    by_cases cm : m < P
    · exact sx_gm1 (sd := 0) (by omega) hP cm (sx_gm1 (sd := 1) (by omega) hP cm (br_t (hr m cm) hA))
    · have nl : ¬ nI m < nI P := nI_nlt (by omega) hm
      exact sx_gm0 (sd := 0) (by omega) (Or.inr nl) (sx_gm0 (sd := 1) (by omega) (Or.inr nl) (br_t rfl hA))
theorem sl_out {P N T : Nat} {x_pending : Int32} {x_encodedStream : Int64} {x_reflectionLevels x_pulseLevels x_memory x_history x_output x_fields x_frameCounts x_reflections x_samples x_rawReflections x_target x_impulseResponse x_pastExcitation x_filteredPast x_chosenPulses x_trialPulses x_pulseSigns x_excitation x_receivedFields : Nat → Int32} {x_correlation x_predictor x_oldPredictor : Nat → Int64} {A B : Prop} {x : Int32} (hN : N ≤ 32) (hr : ∀ k, k < N → x_output (0 * 32 + k) = x_output (1 * 32 + k)) (hA : A) :
    wpX_getOutput (fun r => (wpX_getOutput (fun r' => ((r = r' → A) ∧ (¬ r = r' → B))) ((nI P), (nI N), (nI T), x_pending, x_encodedStream, x_reflectionLevels, x_pulseLevels, x_memory, x_history, x_output, x_fields, x_frameCounts, x_reflections, x_samples, x_rawReflections, x_correlation, x_predictor, x_oldPredictor, x_target, x_impulseResponse, x_pastExcitation, x_filteredPast, x_chosenPulses, x_trialPulses, x_pulseSigns, x_excitation, x_receivedFields) 1 x)) ((nI P), (nI N), (nI T), x_pending, x_encodedStream, x_reflectionLevels, x_pulseLevels, x_memory, x_history, x_output, x_fields, x_frameCounts, x_reflections, x_samples, x_rawReflections, x_correlation, x_predictor, x_oldPredictor, x_target, x_impulseResponse, x_pastExcitation, x_filteredPast, x_chosenPulses, x_trialPulses, x_pulseSigns, x_excitation, x_receivedFields) 0 x := by
  by_cases c : x < 0
  · exact sx_go0 (sd := 0) (by omega) (Or.inl c) (sx_go0 (sd := 1) (by omega) (Or.inl c) (br_t rfl hA))
  · obtain ⟨m, hm, rfl⟩ := nI_of c
    by_cases cm : m < N
    · exact sx_go1 (sd := 0) (by omega) hN cm (sx_go1 (sd := 1) (by omega) hN cm (br_t (hr m cm) hA))
    · have nl : ¬ nI m < nI N := nI_nlt (by omega) hm
      exact sx_go0 (sd := 0) (by omega) (Or.inr nl) (sx_go0 (sd := 1) (by omega) (Or.inr nl) (br_t rfl hA))
theorem sl_exc {P N T : Nat} {x_pending : Int32} {x_encodedStream : Int64} {x_reflectionLevels x_pulseLevels x_memory x_history x_output x_fields x_frameCounts x_reflections x_samples x_rawReflections x_target x_impulseResponse x_pastExcitation x_filteredPast x_chosenPulses x_trialPulses x_pulseSigns x_excitation x_receivedFields : Nat → Int32} {x_correlation x_predictor x_oldPredictor : Nat → Int64} {A B : Prop} {x : Int32} (hr : ∀ j, 1 ≤ j → j ≤ 64 → x_history (0 * 64 + j - 1) = x_history (1 * 64 + j - 1)) (hA : A) :
    wpX_getExcitation (fun r => (wpX_getExcitation (fun r' => ((r = r' → A) ∧ (¬ r = r' → B))) ((nI P), (nI N), (nI T), x_pending, x_encodedStream, x_reflectionLevels, x_pulseLevels, x_memory, x_history, x_output, x_fields, x_frameCounts, x_reflections, x_samples, x_rawReflections, x_correlation, x_predictor, x_oldPredictor, x_target, x_impulseResponse, x_pastExcitation, x_filteredPast, x_chosenPulses, x_trialPulses, x_pulseSigns, x_excitation, x_receivedFields) 1 x)) ((nI P), (nI N), (nI T), x_pending, x_encodedStream, x_reflectionLevels, x_pulseLevels, x_memory, x_history, x_output, x_fields, x_frameCounts, x_reflections, x_samples, x_rawReflections, x_correlation, x_predictor, x_oldPredictor, x_target, x_impulseResponse, x_pastExcitation, x_filteredPast, x_chosenPulses, x_trialPulses, x_pulseSigns, x_excitation, x_receivedFields) 0 x := by
  by_cases c : x < 1
  · exact sx_gx0 (sd := 0) (by omega) (Or.inl c) (sx_gx0 (sd := 1) (by omega) (Or.inl c) (br_t rfl hA))
  · obtain ⟨m, m1, hm, rfl⟩ := sp_ge1 c
    by_cases cm : m ≤ 64
    · exact sx_gx1 (sd := 0) (by omega) m1 cm (sx_gx1 (sd := 1) (by omega) m1 cm (br_t (hr m m1 cm) hA))
    · have nl : ¬ nI m ≤ 64 := nI_ge (a := 64) (by omega) hm
      exact sx_gx0 (sd := 0) (by omega) (Or.inr nl) (sx_gx0 (sd := 1) (by omega) (Or.inr nl) (br_t rfl hA))
/-- a reflection is within 16 bits -/
theorem sl_rng {P N T : Nat} {x_pending : Int32} {x_encodedStream : Int64} {x_reflectionLevels x_pulseLevels x_memory x_history x_output x_fields x_frameCounts x_reflections x_samples x_rawReflections x_target x_impulseResponse x_pastExcitation x_filteredPast x_chosenPulses x_trialPulses x_pulseSigns x_excitation x_receivedFields : Nat → Int32} {x_correlation x_predictor x_oldPredictor : Nat → Int64} {A B C : Prop} {s x : Int32} (hP : P ≤ 6) (hr : ∀ sd, sd < 2 → ∀ m, m < P → -32768 < (x_reflections (sd * 6 + m)).toInt ∧ (x_reflections (sd * 6 + m)).toInt < 32768) (hA : A) :
    wpX_getReflection (fun r => ((r ≤ (-32768) → B) ∧ (¬ r ≤ (-32768) → ((r < 32768 → A) ∧ (¬ r < 32768 → C))))) ((nI P), (nI N), (nI T), x_pending, x_encodedStream, x_reflectionLevels, x_pulseLevels, x_memory, x_history, x_output, x_fields, x_frameCounts, x_reflections, x_samples, x_rawReflections, x_correlation, x_predictor, x_oldPredictor, x_target, x_impulseResponse, x_pastExcitation, x_filteredPast, x_chosenPulses, x_trialPulses, x_pulseSigns, x_excitation, x_receivedFields) s x := by
  have z0 : ¬ (0 : Int32) ≤ (-32768) := by decide
  have z1 : (0 : Int32) < 32768 := by decide
  by_cases n1 : s < 0
  · unfold wpX_getReflection
    dsimp only
    exact sx_sideN n1 (br_t rfl (br_f z0 (br_t z1 hA)))
  · obtain ⟨a, ha, rfl⟩ := nI_of n1
    by_cases c : a < 2
    · by_cases d : x < 1
      · exact sx_gr0 c (Or.inl d) (br_f z0 (br_t z1 hA))
      · obtain ⟨m, m1, hm, rfl⟩ := sp_ge1 d
        by_cases cm : m ≤ P
        · have q := hr a c (m - 1) (by omega)
          have e1 : (-32768 : Int32).toInt = -32768 := by decide
          have e2 : (32768 : Int32).toInt = 32768 := by decide
          refine sx_gr1 c hP m1 cm (br_f ?_ (br_t ?_ hA))
          · rw [Int32.le_iff_toInt_le, e1]
            omega
          · rw [Int32.lt_iff_toInt_lt, e2]
            exact q.2
        · exact sx_gr0 c (Or.inr (nI_ge (by omega) hm)) (br_f z0 (br_t z1 hA))
    · unfold wpX_getReflection
      dsimp only
      exact sx_sideB (by omega) ha (br_t rfl (br_f z0 (br_t z1 hA)))
theorem sl_put {P N T : Nat} {x_encodedStream : Int64} {x_reflectionLevels x_pulseLevels x_memory x_history x_output x_fields x_frameCounts x_reflections x_samples x_rawReflections x_target x_impulseResponse x_pastExcitation x_filteredPast x_chosenPulses x_trialPulses x_pulseSigns x_excitation x_receivedFields : Nat → Int32} {x_correlation x_predictor x_oldPredictor : Nat → Int64} {post : Int32 → St2 → Prop} {v : Int32} {c : Nat} (hN : N ≤ 32) (hc : c ≤ N) (hs : sp_bd x_samples)
    (h : ∀ r c' s', c' ≤ N → sp_bd s' → post r ((nI P), (nI N), (nI T), (nI c'), x_encodedStream, x_reflectionLevels, x_pulseLevels, x_memory, x_history, x_output, x_fields, x_frameCounts, x_reflections, s', x_rawReflections, x_correlation, x_predictor, x_oldPredictor, x_target, x_impulseResponse, x_pastExcitation, x_filteredPast, x_chosenPulses, x_trialPulses, x_pulseSigns, x_excitation, x_receivedFields)) : wpX_putSample post ((nI P), (nI N), (nI T), (nI c), x_encodedStream, x_reflectionLevels, x_pulseLevels, x_memory, x_history, x_output, x_fields, x_frameCounts, x_reflections, x_samples, x_rawReflections, x_correlation, x_predictor, x_oldPredictor, x_target, x_impulseResponse, x_pastExcitation, x_filteredPast, x_chosenPulses, x_trialPulses, x_pulseSigns, x_excitation, x_receivedFields) v := by
  by_cases cc : c < N
  · refine br_t (nI_lt cc (by omega)) (sx_satI ⟨vp_in_nI (by omega) (by omega), nm_e (nm_r (nI_1 c) (h 1 (c + 1) _ cc ?_))⟩)
    intro j
    by_cases e : j = (nI c).toNatClampNeg
    · subst e
      rw [pk_us]
      exact sp_sat_r _
    · rw [pk_un e]
      exact hs j
  · exact br_f (nI_nlt (by omega) (by omega)) (h 0 c x_samples hc hs)
