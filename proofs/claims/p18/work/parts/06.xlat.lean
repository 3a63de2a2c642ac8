/-! the component: quantisation, the lattice, target, impulse response -/
theorem sx_ds {post : Int32 → Prop} {a b : Int32} (h : post (sp_ds a b)) : wpX_distance post () a b := by
  unfold wpX_distance
  unfold sp_ds at h
  refine br_c (fun z => ?_) (fun z => ?_)
  · rw [if_neg (Int32.not_lt.mpr z)] at h
    exact h
  · rw [if_pos (Int32.not_le.mp z)] at h
    exact h
theorem sx_nl16 {P N T : Nat} {x_pending : Int32} {x_encodedStream : Int64} {x_reflectionLevels x_pulseLevels x_memory x_history x_output x_fields x_frameCounts x_reflections x_samples x_rawReflections x_target x_impulseResponse x_pastExcitation x_filteredPast x_chosenPulses x_trialPulses x_pulseSigns x_excitation x_receivedFields : Nat → Int32} {x_correlation x_predictor x_oldPredictor : Nat → Int64} {post : Int32 → Prop} {k : Int32} (hk : ∀ j, j < 16 → x_reflectionLevels j = sp_kq j) (h : post (nI (sp_nq k))) :
    ∀ d i, i + d = 15 → wX_nearestReflectionLevel_16 post k (nI P) (nI N) (nI T) x_pending x_encodedStream x_reflectionLevels x_pulseLevels x_memory x_history x_output x_fields x_frameCounts x_reflections x_samples x_rawReflections x_correlation x_predictor x_oldPredictor x_target x_impulseResponse x_pastExcitation x_filteredPast x_chosenPulses x_trialPulses x_pulseSigns x_excitation x_receivedFields (d + 1) (nI (sp_qs k i).1) (sp_qs k i).2 (nI (i + 1)) := by
  intro d
  induction d with
  | zero =>
    intro i hi
    obtain rfl : i = 15 := by omega
    exact br_t (nI_le (a := 16) (by omega) (by omega)) h
  | succ d ih =>
    intro i hi
    refine br_f (nI_ge (b := 16) (by omega) (by omega)) ⟨vp_in_nI (by omega) (by omega), sx_ds ?_⟩
    rw [nI_clamp (by omega), hk _ (by omega)]
    have t := ih (i + 1) (by omega)
    by_cases c : sp_ds k (sp_kq (i + 1)) < (sp_qs k i).2
    · rw [show sp_qs k (i + 1) = (i + 1, sp_ds k (sp_kq (i + 1))) from if_pos c] at t
      exact br_f (Int32.not_le.mpr c) (nm_r (nI_1 (i + 1)) t)
    · rw [show sp_qs k (i + 1) = sp_qs k i from if_neg c] at t
      exact br_t (Int32.not_lt.mp c) (nm_r (nI_1 (i + 1)) t)
theorem sx_nl {P N T : Nat} {x_pending : Int32} {x_encodedStream : Int64} {x_reflectionLevels x_pulseLevels x_memory x_history x_output x_fields x_frameCounts x_reflections x_samples x_rawReflections x_target x_impulseResponse x_pastExcitation x_filteredPast x_chosenPulses x_trialPulses x_pulseSigns x_excitation x_receivedFields : Nat → Int32} {x_correlation x_predictor x_oldPredictor : Nat → Int64} {post : Int32 → Prop} {k : Int32} (hk : ∀ j, j < 16 → x_reflectionLevels j = sp_kq j) (h : post (nI (sp_nq k))) : wpX_nearestReflectionLevel post ((nI P), (nI N), (nI T), x_pending, x_encodedStream, x_reflectionLevels, x_pulseLevels, x_memory, x_history, x_output, x_fields, x_frameCounts, x_reflections, x_samples, x_rawReflections, x_correlation, x_predictor, x_oldPredictor, x_target, x_impulseResponse, x_pastExcitation, x_filteredPast, x_chosenPulses, x_trialPulses, x_pulseSigns, x_excitation, x_receivedFields) k := by
  unfold wpX_nearestReflectionLevel
  dsimp only
  refine sx_ds (Exists.intro 16 ?_)
  rw [hk 0 (by omega)]
  exact sx_nl16 hk h 15 0 (by omega)
theorem sx_qr2 {P N T : Nat} {x_pending : Int32} {x_encodedStream : Int64} {x_reflectionLevels x_pulseLevels x_memory x_history x_output x_fields x_frameCounts x_reflections x_samples x_rawReflections x_target x_impulseResponse x_pastExcitation x_filteredPast x_chosenPulses x_trialPulses x_pulseSigns x_excitation x_receivedFields : Nat → Int32} {x_correlation x_predictor x_oldPredictor : Nat → Int64} {post : St2 → Prop} {k : Nat → Int32} (hP : P ≤ 6) (hk : ∀ j, j < 16 → x_reflectionLevels j = sp_kq j) (hr : ∀ j, j < P → x_rawReflections j = k j)
    (h : post ((nI P), (nI N), (nI T), x_pending, x_encodedStream, x_reflectionLevels, x_pulseLevels, x_memory, x_history, x_output, (sp_fo (fun m => nI (sp_nq (k m))) 11 P x_fields), x_frameCounts, (sp_fl (fun m => sp_kq (sp_nq (k m))) P x_reflections), x_samples, x_rawReflections, x_correlation, x_predictor, x_oldPredictor, x_target, x_impulseResponse, x_pastExcitation, x_filteredPast, x_chosenPulses, x_trialPulses, x_pulseSigns, x_excitation, x_receivedFields)) :
    ∀ d i, i + d = P → wX_quantiseReflections_2 post (nI P) (nI N) (nI T) x_pending x_encodedStream (d + 1) (nI i) x_reflectionLevels x_pulseLevels x_memory x_history x_output (sp_fo (fun m => nI (sp_nq (k m))) 11 i x_fields) x_frameCounts (sp_fl (fun m => sp_kq (sp_nq (k m))) i x_reflections) x_samples x_rawReflections x_correlation x_predictor x_oldPredictor x_target x_impulseResponse x_pastExcitation x_filteredPast x_chosenPulses x_trialPulses x_pulseSigns x_excitation x_receivedFields := by
  intro d
  induction d with
  | zero =>
    intro i hi
    obtain rfl : i = P := by omega
    exact br_t (nI_le (by omega) (by omega)) h
  | succ d ih =>
    intro i hi
    refine br_f (nI_ge (by omega) (by omega)) ⟨vp_in_nI (by omega) (by omega), sx_nl hk ?_⟩
    rw [nI_clamp (by omega), hr i (by omega)]
    have q := sp_nq_b (k i)
    refine ⟨pk_in (11 + i) 34 (by omega) (nI_add 11 i), nm_r ?_ ⟨vp_in_nI q (by omega), pk_in i 12 (by omega) (Int32.zero_add _), nm_r ?_ (nm_r (nI_1 i) (ih (i + 1) (by omega)))⟩⟩
    · rw [show (11 : Int32) + nI i = nI (11 + i) from nI_add 11 i, nI_clamp (by omega)]
      exact sp_foS (g := fun m => nI (sp_nq (k m)))
    · rw [Int32.zero_add, nI_clamp (by omega), nI_clamp (by omega), hk _ q]
      exact sp_flS (g := fun m => sp_kq (sp_nq (k m)))
theorem sx_qr {P N T : Nat} {x_pending : Int32} {x_encodedStream : Int64} {x_reflectionLevels x_pulseLevels x_memory x_history x_output x_fields x_frameCounts x_reflections x_samples x_rawReflections x_target x_impulseResponse x_pastExcitation x_filteredPast x_chosenPulses x_trialPulses x_pulseSigns x_excitation x_receivedFields : Nat → Int32} {x_correlation x_predictor x_oldPredictor : Nat → Int64} {post : St2 → Prop} {k : Nat → Int32} (hP : P ≤ 6) (hk : ∀ j, j < 16 → x_reflectionLevels j = sp_kq j) (hr : ∀ j, j < P → x_rawReflections j = k j)
    (h : post ((nI P), (nI N), (nI T), x_pending, x_encodedStream, x_reflectionLevels, x_pulseLevels, x_memory, x_history, x_output, (sp_fo (fun m => nI (sp_nq (k m))) 11 P x_fields), x_frameCounts, (sp_fl (fun m => sp_kq (sp_nq (k m))) P x_reflections), x_samples, x_rawReflections, x_correlation, x_predictor, x_oldPredictor, x_target, x_impulseResponse, x_pastExcitation, x_filteredPast, x_chosenPulses, x_trialPulses, x_pulseSigns, x_excitation, x_receivedFields)) : wpX_quantiseReflections post ((nI P), (nI N), (nI T), x_pending, x_encodedStream, x_reflectionLevels, x_pulseLevels, x_memory, x_history, x_output, x_fields, x_frameCounts, x_reflections, x_samples, x_rawReflections, x_correlation, x_predictor, x_oldPredictor, x_target, x_impulseResponse, x_pastExcitation, x_filteredPast, x_chosenPulses, x_trialPulses, x_pulseSigns, x_excitation, x_receivedFields) := by
  have t := sx_qr2 hP hk hr h P 0 (by omega)
  rw [sp_fl0, sp_fo0] at t
  exact Exists.intro _ t
theorem sx_satE {post : Int32 → Prop} {w v : Int32} (e : sp_sat w = v) (h : post v) : wpX_saturate post () w.toInt64 := sx_satI (by rw [e]; exact h)
theorem sp_x4 (a j : Nat) : nI a - 1 + nI (j + 1) = nI (a + j) := by
  rw [← nI_1, ← nI_add]
  grind
theorem sx_lat23 {P N T : Nat} {x_pending : Int32} {x_encodedStream : Int64} {x_reflectionLevels x_pulseLevels x_history x_output x_fields x_frameCounts x_reflections x_samples x_rawReflections x_target x_impulseResponse x_pastExcitation x_filteredPast x_chosenPulses x_trialPulses x_pulseSigns x_excitation x_receivedFields : Nat → Int32} {x_correlation x_predictor x_oldPredictor : Nat → Int64} {post : Int32 → St2 → Prop} {c : Nat → Int32} {sd B : Nat} {x4 : Int32} (hP1 : 1 ≤ P) (hP : P ≤ 6) (hsd : sd ≤ 1) (hB : B + P ≤ 18)
    (hc : ∀ j, j < P → x_reflections (sd * 6 + j) = c (j + 1)) (hx : ∀ j, x4 + nI (j + 1) = nI (sd * 6 + j)) :
    ∀ j f b M, j ≤ P → sp_row B P M b → (∀ M', sp_row B P M' (sp_go c P j f b).2 → (∀ q, q < B ∨ B + P ≤ q → M' q = M q) → post (sp_go c P j f b).1 ((nI P), (nI N), (nI T), x_pending, x_encodedStream, x_reflectionLevels, x_pulseLevels, M', x_history, x_output, x_fields, x_frameCounts, x_reflections, x_samples, x_rawReflections, x_correlation, x_predictor, x_oldPredictor, x_target, x_impulseResponse, x_pastExcitation, x_filteredPast, x_chosenPulses, x_trialPulses, x_pulseSigns, x_excitation, x_receivedFields)) →
      wX_latticeStep_23 post x4 (nI B) (nI P) (nI N) (nI T) x_pending x_encodedStream (j + 1) f (nI j) x_reflectionLevels x_pulseLevels M x_history x_output x_fields x_frameCounts x_reflections x_samples x_rawReflections x_correlation x_predictor x_oldPredictor x_target x_impulseResponse x_pastExcitation x_filteredPast x_chosenPulses x_trialPulses x_pulseSigns x_excitation x_receivedFields := by
  intro j
  induction j with
  | zero =>
    intro f b M _ hr h
    refine br_t (nI_lt (b := 1) (by omega) (by omega)) ⟨vp_in_nI (by omega) (by omega), nm_e (h _ ?_ ?_)⟩
    · rw [nI_clamp (by omega)]
      exact sp_row_u (k := 0) hr
    · intro q hq
      rw [nI_clamp (by omega), pk_un (by omega)]
  | succ j ih =>
    intro f b M hj hr h
    have eB : nI B + nI (j + 1) - 1 = nI (B + j) := by
      rw [nI_add]
      exact nI_pred (B + j)
    refine br_f (nI_nlt (b := 1) (by omega) (by omega)) ⟨pk_in (sd * 6 + j) 12 (by omega) (hx j), pk_in (B + j) 18 (by omega) eB, sx_satE (v := sp_lf c b j f) ?_ ?_⟩
    · rw [hx j, eB, nI_clamp (by omega), nI_clamp (by omega), hc j (by omega), hr j (by omega)]
      rfl
    · by_cases hjP : j + 1 < P
      · have eg : sp_go c P (j + 1) f b = sp_go c P j (sp_lf c b j f) (upd b (j + 1) (sp_lb c b j (sp_lf c b j f))) := by
          show sp_go c P j (sp_lf c b j f) (if j + 1 < P then upd b (j + 1) (sp_lb c b j (sp_lf c b j f)) else b) = _
          rw [if_pos hjP]
        rw [eg] at h
        refine br_f (nI_ge hjP (by omega)) ⟨pk_in (B + j) 18 (by omega) eB, pk_in (sd * 6 + j) 12 (by omega) (hx j), sx_satE (v := sp_lb c b j (sp_lf c b j f)) ?_ ⟨pk_in (B + (j + 1)) 18 (by omega) (nI_add B (j + 1)), nm_r (e' := upd M (B + (j + 1)) (sp_lb c b j (sp_lf c b j f))) ?_ (nm_r (pk_m1 j) (ih _ _ _ (by omega) (sp_row_u hr) (fun M' h1 h2 => h M' h1 (fun q hq => ?_))))⟩⟩
        · rw [hx j, eB, nI_clamp (by omega), nI_clamp (by omega), hc j (by omega), hr j (by omega)]
          rfl
        · rw [nI_add, nI_clamp (by omega)]
        · rw [h2 q hq, pk_un (by omega)]
      · have eg : sp_go c P (j + 1) f b = sp_go c P j (sp_lf c b j f) b := by
          show sp_go c P j (sp_lf c b j f) (if j + 1 < P then upd b (j + 1) (sp_lb c b j (sp_lf c b j f)) else b) = _
          rw [if_neg hjP]
        rw [eg] at h
        exact br_t (nI_le (by omega) (by omega)) (nm_r (pk_m1 j) (ih _ _ _ (by omega) hr h))
theorem sx_lat {P N T : Nat} {x_pending : Int32} {x_encodedStream : Int64} {x_reflectionLevels x_pulseLevels x_memory x_history x_output x_fields x_frameCounts x_reflections x_samples x_rawReflections x_target x_impulseResponse x_pastExcitation x_filteredPast x_chosenPulses x_trialPulses x_pulseSigns x_excitation x_receivedFields : Nat → Int32} {x_correlation x_predictor x_oldPredictor : Nat → Int64} {post : Int32 → St2 → Prop} {c b : Nat → Int32} {e : Int32} {sd rw : Nat} (hP1 : 1 ≤ P) (hP : P ≤ 6) (hsd : sd ≤ 1) (hB : rw ≤ 2)
    (hc : ∀ j, j < P → x_reflections (sd * 6 + j) = c (j + 1)) (hr : sp_row (rw * 6) P x_memory b)
    (h : ∀ M', sp_row (rw * 6) P M' (sp_go c P P e b).2 → (∀ q, q < rw * 6 ∨ rw * 6 + P ≤ q → M' q = x_memory q) → post (sp_go c P P e b).1 ((nI P), (nI N), (nI T), x_pending, x_encodedStream, x_reflectionLevels, x_pulseLevels, M', x_history, x_output, x_fields, x_frameCounts, x_reflections, x_samples, x_rawReflections, x_correlation, x_predictor, x_oldPredictor, x_target, x_impulseResponse, x_pastExcitation, x_filteredPast, x_chosenPulses, x_trialPulses, x_pulseSigns, x_excitation, x_receivedFields)) :
    wpX_latticeStep post ((nI P), (nI N), (nI T), x_pending, x_encodedStream, x_reflectionLevels, x_pulseLevels, x_memory, x_history, x_output, x_fields, x_frameCounts, x_reflections, x_samples, x_rawReflections, x_correlation, x_predictor, x_oldPredictor, x_target, x_impulseResponse, x_pastExcitation, x_filteredPast, x_chosenPulses, x_trialPulses, x_pulseSigns, x_excitation, x_receivedFields) (nI sd) (nI rw) e :=
  nm_e (nm_r (pk_mul rw 6) (Exists.intro (P + 1) (sx_lat23 hP1 hP hsd (by omega) hc (fun j => by rw [show nI sd * 6 = nI (sd * 6) from pk_mul sd 6]; exact sp_x4 _ _) P e b x_memory (Nat.le_refl P) hr h)))
theorem sx_lat23_3 {P N T : Nat} {x_pending : Int32} {x_encodedStream : Int64} {x_reflectionLevels x_pulseLevels x_history x_output x_fields x_frameCounts x_reflections x_samples x_rawReflections x_target x_impulseResponse x_pastExcitation x_filteredPast x_chosenPulses x_trialPulses x_pulseSigns x_excitation x_receivedFields : Nat → Int32} {x_correlation x_predictor x_oldPredictor : Nat → Int64} {post : Int32 → St2 → Prop} {c : Nat → Int32} {sd B : Nat} {x4 : Int32} (hP1 : 1 ≤ P) (hP : P ≤ 6) (hsd : sd ≤ 1) (hB : B + P ≤ 18)
    (hc : ∀ j, j < P → x_reflections (sd * 6 + j) = c (j + 1)) (hx : ∀ j, x4 + nI (j + 1) = nI (sd * 6 + j)) :
    ∀ j f b M, j ≤ P → sp_row B P M b → (∀ M', sp_row B P M' (sp_go c P j f b).2 → (∀ q, q < B ∨ B + P ≤ q → M' q = M q) → post (sp_go c P j f b).1 ((nI P), (nI N), (nI T), x_pending, x_encodedStream, x_reflectionLevels, x_pulseLevels, M', x_history, x_output, x_fields, x_frameCounts, x_reflections, x_samples, x_rawReflections, x_correlation, x_predictor, x_oldPredictor, x_target, x_impulseResponse, x_pastExcitation, x_filteredPast, x_chosenPulses, x_trialPulses, x_pulseSigns, x_excitation, x_receivedFields)) →
      wX_latticeStep_3_23 post x4 (nI B) (nI P) (nI N) (nI T) x_pending x_encodedStream (j + 1) f (nI j) x_reflectionLevels x_pulseLevels M x_history x_output x_fields x_frameCounts x_reflections x_samples x_rawReflections x_correlation x_predictor x_oldPredictor x_target x_impulseResponse x_pastExcitation x_filteredPast x_chosenPulses x_trialPulses x_pulseSigns x_excitation x_receivedFields := by
  intro j
  induction j with
  | zero =>
    intro f b M _ hr h
    refine br_t (nI_lt (b := 1) (by omega) (by omega)) ⟨vp_in_nI (by omega) (by omega), nm_e (h _ ?_ ?_)⟩
    · rw [nI_clamp (by omega)]
      exact sp_row_u (k := 0) hr
    · intro q hq
      rw [nI_clamp (by omega), pk_un (by omega)]
  | succ j ih =>
    intro f b M hj hr h
    have eB : nI B + nI (j + 1) - 1 = nI (B + j) := by
      rw [nI_add]
      exact nI_pred (B + j)
    refine br_f (nI_nlt (b := 1) (by omega) (by omega)) ⟨pk_in (sd * 6 + j) 12 (by omega) (hx j), pk_in (B + j) 18 (by omega) eB, sx_satE (v := sp_lf c b j f) ?_ ?_⟩
    · rw [hx j, eB, nI_clamp (by omega), nI_clamp (by omega), hc j (by omega), hr j (by omega)]
      rfl
    · by_cases hjP : j + 1 < P
      · have eg : sp_go c P (j + 1) f b = sp_go c P j (sp_lf c b j f) (upd b (j + 1) (sp_lb c b j (sp_lf c b j f))) := by
          show sp_go c P j (sp_lf c b j f) (if j + 1 < P then upd b (j + 1) (sp_lb c b j (sp_lf c b j f)) else b) = _
          rw [if_pos hjP]
        rw [eg] at h
        refine br_f (nI_ge hjP (by omega)) ⟨pk_in (B + j) 18 (by omega) eB, pk_in (sd * 6 + j) 12 (by omega) (hx j), sx_satE (v := sp_lb c b j (sp_lf c b j f)) ?_ ⟨pk_in (B + (j + 1)) 18 (by omega) (nI_add B (j + 1)), nm_r (e' := upd M (B + (j + 1)) (sp_lb c b j (sp_lf c b j f))) ?_ (nm_r (pk_m1 j) (ih _ _ _ (by omega) (sp_row_u hr) (fun M' h1 h2 => h M' h1 (fun q hq => ?_))))⟩⟩
        · rw [hx j, eB, nI_clamp (by omega), nI_clamp (by omega), hc j (by omega), hr j (by omega)]
          rfl
        · rw [nI_add, nI_clamp (by omega)]
        · rw [h2 q hq, pk_un (by omega)]
      · have eg : sp_go c P (j + 1) f b = sp_go c P j (sp_lf c b j f) b := by
          show sp_go c P j (sp_lf c b j f) (if j + 1 < P then upd b (j + 1) (sp_lb c b j (sp_lf c b j f)) else b) = _
          rw [if_neg hjP]
        rw [eg] at h
        exact br_t (nI_le (by omega) (by omega)) (nm_r (pk_m1 j) (ih _ _ _ (by omega) hr h))
theorem sx_lat_3 {P N T : Nat} {x_pending : Int32} {x_encodedStream : Int64} {x_reflectionLevels x_pulseLevels x_memory x_history x_output x_fields x_frameCounts x_reflections x_samples x_rawReflections x_target x_impulseResponse x_pastExcitation x_filteredPast x_chosenPulses x_trialPulses x_pulseSigns x_excitation x_receivedFields : Nat → Int32} {x_correlation x_predictor x_oldPredictor : Nat → Int64} {post : Int32 → St2 → Prop} {c b : Nat → Int32} {e : Int32} {sd rw : Nat} (hP1 : 1 ≤ P) (hP : P ≤ 6) (hsd : sd ≤ 1) (hB : rw ≤ 2)
    (hc : ∀ j, j < P → x_reflections (sd * 6 + j) = c (j + 1)) (hr : sp_row (rw * 6) P x_memory b)
    (h : ∀ M', sp_row (rw * 6) P M' (sp_go c P P e b).2 → (∀ q, q < rw * 6 ∨ rw * 6 + P ≤ q → M' q = x_memory q) → post (sp_go c P P e b).1 ((nI P), (nI N), (nI T), x_pending, x_encodedStream, x_reflectionLevels, x_pulseLevels, M', x_history, x_output, x_fields, x_frameCounts, x_reflections, x_samples, x_rawReflections, x_correlation, x_predictor, x_oldPredictor, x_target, x_impulseResponse, x_pastExcitation, x_filteredPast, x_chosenPulses, x_trialPulses, x_pulseSigns, x_excitation, x_receivedFields)) :
    wpX_latticeStep_3 post ((nI P), (nI N), (nI T), x_pending, x_encodedStream, x_reflectionLevels, x_pulseLevels, x_memory, x_history, x_output, x_fields, x_frameCounts, x_reflections, x_samples, x_rawReflections, x_correlation, x_predictor, x_oldPredictor, x_target, x_impulseResponse, x_pastExcitation, x_filteredPast, x_chosenPulses, x_trialPulses, x_pulseSigns, x_excitation, x_receivedFields) (nI sd) (nI rw) e :=
  nm_e (nm_r (pk_mul rw 6) (Exists.intro (P + 1) (sx_lat23_3 hP1 hP hsd (by omega) hc (fun j => by rw [show nI sd * 6 = nI (sd * 6) from pk_mul sd 6]; exact sp_x4 _ _) P e b x_memory (Nat.le_refl P) hr h)))
theorem sx_lat23_2 {P N T : Nat} {x_pending : Int32} {x_encodedStream : Int64} {x_reflectionLevels x_pulseLevels x_history x_output x_fields x_frameCounts x_reflections x_samples x_rawReflections x_target x_impulseResponse x_pastExcitation x_filteredPast x_chosenPulses x_trialPulses x_pulseSigns x_excitation x_receivedFields : Nat → Int32} {x_correlation x_predictor x_oldPredictor : Nat → Int64} {post : Int32 → St2 → Prop} {c : Nat → Int32} {sd B : Nat} {x4 : Int32} (hP1 : 1 ≤ P) (hP : P ≤ 6) (hsd : sd ≤ 1) (hB : B + P ≤ 18)
    (hc : ∀ j, j < P → x_reflections (sd * 6 + j) = c (j + 1)) (hx : ∀ j, x4 + nI (j + 1) = nI (sd * 6 + j)) :
    ∀ j f b M, j ≤ P → sp_row B P M b → (∀ M', sp_row B P M' (sp_go c P j f b).2 → (∀ q, q < B ∨ B + P ≤ q → M' q = M q) → post (sp_go c P j f b).1 ((nI P), (nI N), (nI T), x_pending, x_encodedStream, x_reflectionLevels, x_pulseLevels, M', x_history, x_output, x_fields, x_frameCounts, x_reflections, x_samples, x_rawReflections, x_correlation, x_predictor, x_oldPredictor, x_target, x_impulseResponse, x_pastExcitation, x_filteredPast, x_chosenPulses, x_trialPulses, x_pulseSigns, x_excitation, x_receivedFields)) →
      wX_latticeStep_2_23 post x4 (nI B) (nI P) (nI N) (nI T) x_pending x_encodedStream (j + 1) f (nI j) x_reflectionLevels x_pulseLevels M x_history x_output x_fields x_frameCounts x_reflections x_samples x_rawReflections x_correlation x_predictor x_oldPredictor x_target x_impulseResponse x_pastExcitation x_filteredPast x_chosenPulses x_trialPulses x_pulseSigns x_excitation x_receivedFields := by
  intro j
  induction j with
  | zero =>
    intro f b M _ hr h
    refine br_t (nI_lt (b := 1) (by omega) (by omega)) ⟨vp_in_nI (by omega) (by omega), nm_e (h _ ?_ ?_)⟩
    · rw [nI_clamp (by omega)]
      exact sp_row_u (k := 0) hr
    · intro q hq
      rw [nI_clamp (by omega), pk_un (by omega)]
  | succ j ih =>
    intro f b M hj hr h
    have eB : nI B + nI (j + 1) - 1 = nI (B + j) := by
      rw [nI_add]
      exact nI_pred (B + j)
    refine br_f (nI_nlt (b := 1) (by omega) (by omega)) ⟨pk_in (sd * 6 + j) 12 (by omega) (hx j), pk_in (B + j) 18 (by omega) eB, sx_satE (v := sp_lf c b j f) ?_ ?_⟩
    · rw [hx j, eB, nI_clamp (by omega), nI_clamp (by omega), hc j (by omega), hr j (by omega)]
      rfl
    · by_cases hjP : j + 1 < P
      · have eg : sp_go c P (j + 1) f b = sp_go c P j (sp_lf c b j f) (upd b (j + 1) (sp_lb c b j (sp_lf c b j f))) := by
          show sp_go c P j (sp_lf c b j f) (if j + 1 < P then upd b (j + 1) (sp_lb c b j (sp_lf c b j f)) else b) = _
          rw [if_pos hjP]
        rw [eg] at h
        refine br_f (nI_ge hjP (by omega)) ⟨pk_in (B + j) 18 (by omega) eB, pk_in (sd * 6 + j) 12 (by omega) (hx j), sx_satE (v := sp_lb c b j (sp_lf c b j f)) ?_ ⟨pk_in (B + (j + 1)) 18 (by omega) (nI_add B (j + 1)), nm_r (e' := upd M (B + (j + 1)) (sp_lb c b j (sp_lf c b j f))) ?_ (nm_r (pk_m1 j) (ih _ _ _ (by omega) (sp_row_u hr) (fun M' h1 h2 => h M' h1 (fun q hq => ?_))))⟩⟩
        · rw [hx j, eB, nI_clamp (by omega), nI_clamp (by omega), hc j (by omega), hr j (by omega)]
          rfl
        · rw [nI_add, nI_clamp (by omega)]
        · rw [h2 q hq, pk_un (by omega)]
      · have eg : sp_go c P (j + 1) f b = sp_go c P j (sp_lf c b j f) b := by
          show sp_go c P j (sp_lf c b j f) (if j + 1 < P then upd b (j + 1) (sp_lb c b j (sp_lf c b j f)) else b) = _
          rw [if_neg hjP]
        rw [eg] at h
        exact br_t (nI_le (by omega) (by omega)) (nm_r (pk_m1 j) (ih _ _ _ (by omega) hr h))
theorem sx_lat_2 {P N T : Nat} {x_pending : Int32} {x_encodedStream : Int64} {x_reflectionLevels x_pulseLevels x_memory x_history x_output x_fields x_frameCounts x_reflections x_samples x_rawReflections x_target x_impulseResponse x_pastExcitation x_filteredPast x_chosenPulses x_trialPulses x_pulseSigns x_excitation x_receivedFields : Nat → Int32} {x_correlation x_predictor x_oldPredictor : Nat → Int64} {post : Int32 → St2 → Prop} {c b : Nat → Int32} {e : Int32} {sd rw : Nat} (hP1 : 1 ≤ P) (hP : P ≤ 6) (hsd : sd ≤ 1) (hB : rw ≤ 2)
    (hc : ∀ j, j < P → x_reflections (sd * 6 + j) = c (j + 1)) (hr : sp_row (rw * 6) P x_memory b)
    (h : ∀ M', sp_row (rw * 6) P M' (sp_go c P P e b).2 → (∀ q, q < rw * 6 ∨ rw * 6 + P ≤ q → M' q = x_memory q) → post (sp_go c P P e b).1 ((nI P), (nI N), (nI T), x_pending, x_encodedStream, x_reflectionLevels, x_pulseLevels, M', x_history, x_output, x_fields, x_frameCounts, x_reflections, x_samples, x_rawReflections, x_correlation, x_predictor, x_oldPredictor, x_target, x_impulseResponse, x_pastExcitation, x_filteredPast, x_chosenPulses, x_trialPulses, x_pulseSigns, x_excitation, x_receivedFields)) :
    wpX_latticeStep_2 post ((nI P), (nI N), (nI T), x_pending, x_encodedStream, x_reflectionLevels, x_pulseLevels, x_memory, x_history, x_output, x_fields, x_frameCounts, x_reflections, x_samples, x_rawReflections, x_correlation, x_predictor, x_oldPredictor, x_target, x_impulseResponse, x_pastExcitation, x_filteredPast, x_chosenPulses, x_trialPulses, x_pulseSigns, x_excitation, x_receivedFields) (nI sd) (nI rw) e :=
  nm_e (nm_r (pk_mul rw 6) (Exists.intro (P + 1) (sx_lat23_2 hP1 hP hsd (by omega) hc (fun j => by rw [show nI sd * 6 = nI (sd * 6) from pk_mul sd 6]; exact sp_x4 _ _) P e b x_memory (Nat.le_refl P) hr h)))
theorem sx_ft35 {P N T : Nat} {x_pending : Int32} {x_encodedStream : Int64} {x_reflectionLevels x_pulseLevels x_memory x_history x_output x_fields x_frameCounts x_reflections x_samples x_rawReflections x_target x_impulseResponse x_pastExcitation x_filteredPast x_chosenPulses x_trialPulses x_pulseSigns x_excitation x_receivedFields : Nat → Int32} {x_correlation x_predictor x_oldPredictor : Nat → Int64} {post : St2 → Prop} {c b s : Nat → Int32} (hP1 : 1 ≤ P) (hP : P ≤ 6) (hN : N ≤ 32) (hs : ∀ j, j < N → x_samples j = s j)
    (hc : ∀ j, j < P → x_reflections (0 * 6 + j) = c (j + 1))
    (h : ∀ M', (∀ q, q < 12 → M' q = x_memory q) → post ((nI P), (nI N), (nI T), x_pending, x_encodedStream, x_reflectionLevels, x_pulseLevels, M', x_history, x_output, x_fields, x_frameCounts, x_reflections, x_samples, x_rawReflections, x_correlation, x_predictor, x_oldPredictor, (sp_fl (fun n => sp_sat (s n - sp_lo c P b (fun _ => 0) n)) N x_target), x_impulseResponse, x_pastExcitation, x_filteredPast, x_chosenPulses, x_trialPulses, x_pulseSigns, x_excitation, x_receivedFields)) :
    ∀ d i M, i + d = N → sp_row 12 P M (sp_lm c P b (fun _ => 0) i) → (∀ q, q < 12 → M q = x_memory q) →
      wX_formTarget_35 post (d + 1) (nI i) (nI P) (nI N) (nI T) x_pending x_encodedStream x_reflectionLevels x_pulseLevels M x_history x_output x_fields x_frameCounts x_reflections x_samples x_rawReflections x_correlation x_predictor x_oldPredictor (sp_fl (fun n => sp_sat (s n - sp_lo c P b (fun _ => 0) n)) i x_target) x_impulseResponse x_pastExcitation x_filteredPast x_chosenPulses x_trialPulses x_pulseSigns x_excitation x_receivedFields := by
  intro d
  induction d with
  | zero =>
    intro i M hi hr hf
    obtain rfl : i = N := by omega
    exact br_t (nI_le (by omega) (by omega)) (h M hf)
  | succ d ih =>
    intro i M hi hr hf
    refine br_f (nI_ge (by omega) (by omega)) (sx_lat (sd := 0) (rw := 2) hP1 hP (by omega) (by omega) hc hr (fun M' hr' hf' => ?_))
    refine ⟨vp_in_nI (by omega) (by omega), sx_satI ⟨vp_in_nI (by omega) (by omega), nm_r ?_ (nm_r (nI_1 i) (ih (i + 1) M' (by omega) hr' (fun q hq => (hf' q (by omega)).trans (hf q hq))))⟩⟩
    rw [nI_clamp (by omega), hs i (by omega)]
    exact sp_flS (g := fun n => sp_sat (s n - sp_lo c P b (fun _ => 0) n))
theorem sx_ft2 {P N T : Nat} {x_pending : Int32} {x_encodedStream : Int64} {x_reflectionLevels x_pulseLevels x_memory x_history x_output x_fields x_frameCounts x_reflections x_samples x_rawReflections x_target x_impulseResponse x_pastExcitation x_filteredPast x_chosenPulses x_trialPulses x_pulseSigns x_excitation x_receivedFields : Nat → Int32} {x_correlation x_predictor x_oldPredictor : Nat → Int64} {post : St2 → Prop} {c b s : Nat → Int32} (hP1 : 1 ≤ P) (hP : P ≤ 6) (hN : N ≤ 32) (hs : ∀ j, j < N → x_samples j = s j)
    (hc : ∀ j, j < P → x_reflections (0 * 6 + j) = c (j + 1)) (hb : ∀ j, j < P → x_memory j = b j)
    (h : ∀ M', (∀ q, q < 12 → M' q = x_memory q) → post ((nI P), (nI N), (nI T), x_pending, x_encodedStream, x_reflectionLevels, x_pulseLevels, M', x_history, x_output, x_fields, x_frameCounts, x_reflections, x_samples, x_rawReflections, x_correlation, x_predictor, x_oldPredictor, (sp_fl (fun n => sp_sat (s n - sp_lo c P b (fun _ => 0) n)) N x_target), x_impulseResponse, x_pastExcitation, x_filteredPast, x_chosenPulses, x_trialPulses, x_pulseSigns, x_excitation, x_receivedFields)) :
    ∀ d i M, i + d = P → (∀ j, j < i → M (12 + j) = b j) → (∀ q, q < 12 → M q = x_memory q) → wX_formTarget_2 post (nI P) (nI N) (nI T) x_pending x_encodedStream (d + 1) (nI i) x_reflectionLevels x_pulseLevels M x_history x_output x_fields x_frameCounts x_reflections x_samples x_rawReflections x_correlation x_predictor x_oldPredictor x_target x_impulseResponse x_pastExcitation x_filteredPast x_chosenPulses x_trialPulses x_pulseSigns x_excitation x_receivedFields := by
  intro d
  induction d with
  | zero =>
    intro i M hi hr hf
    obtain rfl : i = P := by omega
    refine br_t (nI_le (by omega) (by omega)) ⟨N + 1, ?_⟩
    have t := sx_ft35 (x_memory := M) (x_target := x_target) hP1 hP hN hs hc (b := b) (fun M' hM' => h M' (fun q hq => (hM' q hq).trans (hf q hq))) N 0 M (by omega) hr (fun _ _ => rfl)
    rw [sp_fl0] at t
    exact t
  | succ d ih =>
    intro i M hi hr hf
    refine br_f (nI_ge (by omega) (by omega)) ⟨pk_in i 18 (by omega) (Int32.zero_add _), pk_in (12 + i) 18 (by omega) (nI_add 12 i), nm_e (nm_r (nI_1 i) (ih (i + 1) _ (by omega) ?_ ?_))⟩
    · intro j hj
      rw [Int32.zero_add, show (12 : Int32) + nI i = nI (12 + i) from nI_add 12 i, nI_clamp (by omega), nI_clamp (by omega)]
      by_cases e : j = i
      · subst e
        rw [pk_us, hf j (by omega)]
        exact hb j (by omega)
      · rw [pk_un (by omega)]
        exact hr j (by omega)
    · intro q hq
      rw [show (12 : Int32) + nI i = nI (12 + i) from nI_add 12 i, nI_clamp (by omega), pk_un (by omega)]
      exact hf q hq
theorem sx_ft {P N T : Nat} {x_pending : Int32} {x_encodedStream : Int64} {x_reflectionLevels x_pulseLevels x_memory x_history x_output x_fields x_frameCounts x_reflections x_samples x_rawReflections x_target x_impulseResponse x_pastExcitation x_filteredPast x_chosenPulses x_trialPulses x_pulseSigns x_excitation x_receivedFields : Nat → Int32} {x_correlation x_predictor x_oldPredictor : Nat → Int64} {post : St2 → Prop} {c b s : Nat → Int32} (hP1 : 1 ≤ P) (hP : P ≤ 6) (hN : N ≤ 32) (hs : ∀ j, j < N → x_samples j = s j)
    (hc : ∀ j, j < P → x_reflections (0 * 6 + j) = c (j + 1)) (hb : ∀ j, j < P → x_memory j = b j)
    (h : ∀ M', (∀ q, q < 12 → M' q = x_memory q) → post ((nI P), (nI N), (nI T), x_pending, x_encodedStream, x_reflectionLevels, x_pulseLevels, M', x_history, x_output, x_fields, x_frameCounts, x_reflections, x_samples, x_rawReflections, x_correlation, x_predictor, x_oldPredictor, (sp_fl (fun n => sp_sat (s n - sp_lo c P b (fun _ => 0) n)) N x_target), x_impulseResponse, x_pastExcitation, x_filteredPast, x_chosenPulses, x_trialPulses, x_pulseSigns, x_excitation, x_receivedFields)) : wpX_formTarget post ((nI P), (nI N), (nI T), x_pending, x_encodedStream, x_reflectionLevels, x_pulseLevels, x_memory, x_history, x_output, x_fields, x_frameCounts, x_reflections, x_samples, x_rawReflections, x_correlation, x_predictor, x_oldPredictor, x_target, x_impulseResponse, x_pastExcitation, x_filteredPast, x_chosenPulses, x_trialPulses, x_pulseSigns, x_excitation, x_receivedFields) :=
  Exists.intro (P + 1) (sx_ft2 hP1 hP hN hs hc hb h P 0 x_memory (by omega) (fun j hj => absurd hj (by omega)) (fun _ _ => rfl))
def sp_imp (n : Nat) : Int32 := if n = 0 then 4096 else 0
theorem sx_fi47 {P N T : Nat} {x_pending : Int32} {x_encodedStream : Int64} {x_reflectionLevels x_pulseLevels x_memory x_history x_output x_fields x_frameCounts x_reflections x_samples x_rawReflections x_target x_impulseResponse x_pastExcitation x_filteredPast x_chosenPulses x_trialPulses x_pulseSigns x_excitation x_receivedFields : Nat → Int32} {x_correlation x_predictor x_oldPredictor : Nat → Int64} {post : St2 → Prop} {J : _} {c b : Nat → Int32} {i : Nat} {z0 zz : Int32} (ez : zz = z0) (hP1 : 1 ≤ P) (hP : P ≤ 6) (hi : i < 32)
    (hc : ∀ j, j < P → x_reflections (0 * 6 + j) = c (j + 1)) (hr : sp_row 12 P x_memory b)
    (h : ∀ M', sp_row 12 P M' (sp_go c P P zz b).2 → (∀ q, q < 12 → M' q = x_memory q) → J (nI (i + 1)) (nI P) (nI N) (nI T) x_pending x_encodedStream x_reflectionLevels x_pulseLevels M' x_history x_output x_fields x_frameCounts x_reflections x_samples x_rawReflections x_correlation x_predictor x_oldPredictor x_target (upd x_impulseResponse i (sp_go c P P zz b).1) x_pastExcitation x_filteredPast x_chosenPulses x_trialPulses x_pulseSigns x_excitation x_receivedFields) :
    wX_formImpulseResponse_47 post J (nI i) z0 (nI P) (nI N) (nI T) x_pending x_encodedStream x_reflectionLevels x_pulseLevels x_memory x_history x_output x_fields x_frameCounts x_reflections x_samples x_rawReflections x_correlation x_predictor x_oldPredictor x_target x_impulseResponse x_pastExcitation x_filteredPast x_chosenPulses x_trialPulses x_pulseSigns x_excitation x_receivedFields := by
  subst ez
  unfold wX_formImpulseResponse_47
  refine sx_lat_2 (sd := 0) (rw := 2) hP1 hP (by omega) (by omega) hc hr (fun M' hr' hf' => ?_)
  exact ⟨vp_in_nI hi (by omega), nm_r (by rw [nI_clamp (by omega)]) (nm_r (nI_1 i) (h M' hr' (fun q hq => hf' q (by omega))))⟩
theorem sx_fi28 {P N T : Nat} {x_pending : Int32} {x_encodedStream : Int64} {x_reflectionLevels x_pulseLevels x_memory x_history x_output x_fields x_frameCounts x_reflections x_samples x_rawReflections x_target x_impulseResponse x_pastExcitation x_filteredPast x_chosenPulses x_trialPulses x_pulseSigns x_excitation x_receivedFields : Nat → Int32} {x_correlation x_predictor x_oldPredictor : Nat → Int64} {post : St2 → Prop} {c : Nat → Int32} (hP1 : 1 ≤ P) (hP : P ≤ 6) (hN : N ≤ 32)
    (hc : ∀ j, j < P → x_reflections (0 * 6 + j) = c (j + 1))
    (h : ∀ M', (∀ q, q < 12 → M' q = x_memory q) → post ((nI P), (nI N), (nI T), x_pending, x_encodedStream, x_reflectionLevels, x_pulseLevels, M', x_history, x_output, x_fields, x_frameCounts, x_reflections, x_samples, x_rawReflections, x_correlation, x_predictor, x_oldPredictor, x_target, (sp_fl (sp_lo c P (fun _ => 0) sp_imp) N x_impulseResponse), x_pastExcitation, x_filteredPast, x_chosenPulses, x_trialPulses, x_pulseSigns, x_excitation, x_receivedFields)) :
    ∀ d i M, i + d = N → sp_row 12 P M (sp_lm c P (fun _ => 0) sp_imp i) → (∀ q, q < 12 → M q = x_memory q) →
      wX_formImpulseResponse_28 post (d + 1) (nI i) (nI P) (nI N) (nI T) x_pending x_encodedStream x_reflectionLevels x_pulseLevels M x_history x_output x_fields x_frameCounts x_reflections x_samples x_rawReflections x_correlation x_predictor x_oldPredictor x_target (sp_fl (sp_lo c P (fun _ => 0) sp_imp) i x_impulseResponse) x_pastExcitation x_filteredPast x_chosenPulses x_trialPulses x_pulseSigns x_excitation x_receivedFields := by
  intro d
  induction d with
  | zero =>
    intro i M hi hr hf
    obtain rfl : i = N := by omega
    exact br_t (nI_le (by omega) (by omega)) (h M hf)
  | succ d ih =>
    intro i M hi hr hf
    refine br_f (nI_ge (by omega) (by omega)) ?_
    by_cases z : i = 0
    · have e : sp_imp i = 4096 := if_pos z
      refine br_t (by rw [z]; rfl) (sx_fi47 e hP1 hP (by omega) hc hr (fun M' hr' hf' => ?_))
      have t := ih (i + 1) M' (by omega) hr' (fun q hq => (hf' q hq).trans (hf q hq))
      rw [← sp_flS] at t
      exact t
    · have e : sp_imp i = 0 := if_neg z
      refine br_f (nI_ne0 (by omega) (by omega)) (sx_fi47 e hP1 hP (by omega) hc hr (fun M' hr' hf' => ?_))
      have t := ih (i + 1) M' (by omega) hr' (fun q hq => (hf' q hq).trans (hf q hq))
      rw [← sp_flS] at t
      exact t
theorem sx_fi2 {P N T : Nat} {x_pending : Int32} {x_encodedStream : Int64} {x_reflectionLevels x_pulseLevels x_memory x_history x_output x_fields x_frameCounts x_reflections x_samples x_rawReflections x_target x_impulseResponse x_pastExcitation x_filteredPast x_chosenPulses x_trialPulses x_pulseSigns x_excitation x_receivedFields : Nat → Int32} {x_correlation x_predictor x_oldPredictor : Nat → Int64} {post : St2 → Prop} {c : Nat → Int32} (hP1 : 1 ≤ P) (hP : P ≤ 6) (hN : N ≤ 32)
    (hc : ∀ j, j < P → x_reflections (0 * 6 + j) = c (j + 1))
    (h : ∀ M', (∀ q, q < 12 → M' q = x_memory q) → post ((nI P), (nI N), (nI T), x_pending, x_encodedStream, x_reflectionLevels, x_pulseLevels, M', x_history, x_output, x_fields, x_frameCounts, x_reflections, x_samples, x_rawReflections, x_correlation, x_predictor, x_oldPredictor, x_target, (sp_fl (sp_lo c P (fun _ => 0) sp_imp) N x_impulseResponse), x_pastExcitation, x_filteredPast, x_chosenPulses, x_trialPulses, x_pulseSigns, x_excitation, x_receivedFields)) :
    ∀ d i M, i + d = P → (∀ j, j < i → M (12 + j) = 0) → (∀ q, q < 12 → M q = x_memory q) → wX_formImpulseResponse_2 post (nI P) (nI N) (nI T) x_pending x_encodedStream (d + 1) (nI i) x_reflectionLevels x_pulseLevels M x_history x_output x_fields x_frameCounts x_reflections x_samples x_rawReflections x_correlation x_predictor x_oldPredictor x_target x_impulseResponse x_pastExcitation x_filteredPast x_chosenPulses x_trialPulses x_pulseSigns x_excitation x_receivedFields := by
  intro d
  induction d with
  | zero =>
    intro i M hi hr hf
    obtain rfl : i = P := by omega
    refine br_t (nI_le (by omega) (by omega)) ⟨N + 1, ?_⟩
    have t := sx_fi28 (x_memory := M) (x_impulseResponse := x_impulseResponse) hP1 hP hN hc (fun M' hM' => h M' (fun q hq => (hM' q hq).trans (hf q hq))) N 0 M (by omega) hr (fun _ _ => rfl)
    rw [sp_fl0] at t
    exact t
  | succ d ih =>
    intro i M hi hr hf
    refine br_f (nI_ge (by omega) (by omega)) ⟨pk_in (12 + i) 18 (by omega) (nI_add 12 i), nm_e (nm_r (nI_1 i) (ih (i + 1) _ (by omega) ?_ ?_))⟩
    · intro j hj
      rw [show (12 : Int32) + nI i = nI (12 + i) from nI_add 12 i, nI_clamp (by omega)]
      by_cases e : j = i
      · subst e
        rw [pk_us]
      · rw [pk_un (by omega)]
        exact hr j (by omega)
    · intro q hq
      rw [show (12 : Int32) + nI i = nI (12 + i) from nI_add 12 i, nI_clamp (by omega), pk_un (by omega)]
      exact hf q hq
theorem sx_fi {P N T : Nat} {x_pending : Int32} {x_encodedStream : Int64} {x_reflectionLevels x_pulseLevels x_memory x_history x_output x_fields x_frameCounts x_reflections x_samples x_rawReflections x_target x_impulseResponse x_pastExcitation x_filteredPast x_chosenPulses x_trialPulses x_pulseSigns x_excitation x_receivedFields : Nat → Int32} {x_correlation x_predictor x_oldPredictor : Nat → Int64} {post : St2 → Prop} {c : Nat → Int32} (hP1 : 1 ≤ P) (hP : P ≤ 6) (hN : N ≤ 32)
    (hc : ∀ j, j < P → x_reflections (0 * 6 + j) = c (j + 1))
    (h : ∀ M', (∀ q, q < 12 → M' q = x_memory q) → post ((nI P), (nI N), (nI T), x_pending, x_encodedStream, x_reflectionLevels, x_pulseLevels, M', x_history, x_output, x_fields, x_frameCounts, x_reflections, x_samples, x_rawReflections, x_correlation, x_predictor, x_oldPredictor, x_target, (sp_fl (sp_lo c P (fun _ => 0) sp_imp) N x_impulseResponse), x_pastExcitation, x_filteredPast, x_chosenPulses, x_trialPulses, x_pulseSigns, x_excitation, x_receivedFields)) : wpX_formImpulseResponse post ((nI P), (nI N), (nI T), x_pending, x_encodedStream, x_reflectionLevels, x_pulseLevels, x_memory, x_history, x_output, x_fields, x_frameCounts, x_reflections, x_samples, x_rawReflections, x_correlation, x_predictor, x_oldPredictor, x_target, x_impulseResponse, x_pastExcitation, x_filteredPast, x_chosenPulses, x_trialPulses, x_pulseSigns, x_excitation, x_receivedFields) :=
  Exists.intro (P + 1) (sx_fi2 hP1 hP hN hc h P 0 x_memory (by omega) (fun j hj => absurd hj (by omega)) (fun _ _ => rfl))
