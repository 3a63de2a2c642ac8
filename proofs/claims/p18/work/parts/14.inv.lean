/-! congruences -/
theorem sp_go_c {c c' : Nat → Int32} {P : Nat} (h : ∀ j, j < P → c (j + 1) = c' (j + 1)) : ∀ j f b, j ≤ P → sp_go c P j f b = sp_go c' P j f b := by
  intro j
  induction j with
  | zero => intro f b _; rfl
  | succ j ih =>
    intro f b hj
    have e1 : sp_lf c b j f = sp_lf c' b j f := by
      unfold sp_lf
      rw [h j (by omega)]
    have e2 : ∀ x, sp_lb c b j x = sp_lb c' b j x := fun x => by
      unfold sp_lb
      rw [h j (by omega)]
    show sp_go c P j (sp_lf c b j f) (if j + 1 < P then upd b (j + 1) (sp_lb c b j (sp_lf c b j f)) else b) = sp_go c' P j (sp_lf c' b j f) (if j + 1 < P then upd b (j + 1) (sp_lb c' b j (sp_lf c' b j f)) else b)
    rw [e1, e2]
    exact ih _ _ (by omega)
theorem sp_lm_c {c c' b e : Nat → Int32} {P : Nat} (h : ∀ j, j < P → c (j + 1) = c' (j + 1)) : ∀ n, sp_lm c P b e n = sp_lm c' P b e n := by
  intro n
  induction n with
  | zero => rfl
  | succ n ih =>
    show (sp_go c P P (e n) (sp_lm c P b e n)).2 = (sp_go c' P P (e n) (sp_lm c' P b e n)).2
    rw [ih, sp_go_c h P _ _ (Nat.le_refl P)]
theorem sp_lo_c {c c' b e : Nat → Int32} {P : Nat} (h : ∀ j, j < P → c (j + 1) = c' (j + 1)) (n : Nat) : sp_lo c P b e n = sp_lo c' P b e n := by
  unfold sp_lo
  rw [sp_lm_c h, sp_go_c h P _ _ (Nat.le_refl P)]
theorem sp_u_c {H : Nat → Int32} {l ga gf : Nat} {sl sl' sg sg' : Nat → Nat} (h1 : ∀ t, t < 4 → sl t = sl' t) (h2 : ∀ t, t < 4 → sg t = sg' t) : sp_u H l ga gf sl sg = sp_u H l ga gf sl' sg' := by
  funext n
  unfold sp_u sp_cp
  rw [h1 (n % 4) (Nat.mod_lt _ (by decide)), h2 (n % 4) (Nat.mod_lt _ (by decide))]
theorem sp_FF2 {F G : Nat → Int32} {B D P l ga gf : Nat} {sl sg q : Nat → Nat} (h : sp_FF F B P l ga gf sl sg q) (g : sp_FF G D P l ga gf sl sg q) : ∀ k, k < 11 + P → F (B + k) = G (D + k) := by
  intro k hk
  obtain ⟨h0, h1, h2, h3, h7, h11⟩ := h
  obtain ⟨g0, g1, g2, g3, g7, g11⟩ := g
  by_cases c11 : 11 ≤ k
  · obtain ⟨m, rfl⟩ : ∃ m, k = 11 + m := ⟨k - 11, by omega⟩
    rw [← Nat.add_assoc, ← Nat.add_assoc, h11 m (by omega), g11 m (by omega)]
  · by_cases c7 : 7 ≤ k
    · obtain ⟨m, rfl⟩ : ∃ m, k = 7 + m := ⟨k - 7, by omega⟩
      rw [← Nat.add_assoc, ← Nat.add_assoc, h7 m (by omega), g7 m (by omega)]
    · by_cases c3 : 3 ≤ k
      · obtain ⟨m, rfl⟩ : ∃ m, k = 3 + m := ⟨k - 3, by omega⟩
        rw [← Nat.add_assoc, ← Nat.add_assoc, h3 m (by omega), g3 m (by omega)]
      · have hk' : k = 0 ∨ k = 1 ∨ k = 2 := by omega
        rcases hk' with rfl | rfl | rfl
        · rw [h0, g0]
        · rw [h1, g1]
        · rw [h2, g2]
theorem sp_kq_s : ∀ j, j < 16 → -32768 < (sp_kq j).toInt ∧ (sp_kq j).toInt < 32768 := by decide
/-! the law's invariant -/
def sl_B (P N T c S : Nat) (kx gx s rx : Nat → Int32) : Prop :=
  2 ≤ P ∧ P ≤ 6 ∧ N = 4 * T ∧ 2 ≤ T ∧ T ≤ 8 ∧ c ≤ N ∧ S < 2 ^ 64 ∧ sp_bd s ∧ (∀ j, j < 16 → kx j = sp_kq j) ∧ (∀ j, j < 16 → gx j = sp_fg j) ∧
  (∀ sd, sd < 2 → ∀ m, m < P → -32768 < (rx (sd * 6 + m)).toInt ∧ (rx (sd * 6 + m)).toInt < 32768)
/-- both sides hold the same frame -/
def sl_A (P N : Nat) (m h o f fc r : Nat → Int32) : Prop :=
  (∀ j, j < P → m (0 * 6 + j) = m (1 * 6 + j)) ∧ (∀ j, 1 ≤ j → j ≤ 64 → h (0 * 64 + j - 1) = h (1 * 64 + j - 1)) ∧ (∀ n, n < N → o (0 * 32 + n) = o (1 * 32 + n)) ∧
  (∀ k, k < 11 + P → f (0 * 17 + k) = f (1 * 17 + k)) ∧ (∀ j, j < P → r (0 * 6 + j) = r (1 * 6 + j)) ∧ fc 0 = fc 1
/-- the encoder is one frame ahead, and the words hold that frame -/
def sl_W (P N T : Nat) (w0 w1 w2 w3 : Int32) (m h o f fc r : Nat → Int32) : Prop :=
  ∃ (S : Nat) (b H : Nat → Int32), S < 2 ^ 64 ∧ w0 = nI ((S >>> (48 - 16 * 0)) % 65536) ∧ w1 = nI ((S >>> (48 - 16 * 1)) % 65536) ∧ w2 = nI ((S >>> (48 - 16 * 2)) % 65536) ∧ w3 = nI ((S >>> (48 - 16 * 3)) % 65536) ∧
  (∀ t, t < 4 → dr_SL S P t < T) ∧ fc 0 = fc 1 + 1 ∧ sp_FF f (0 * 17) P (dr_L S P) (dr_G S P) (dr_GF S P) (dr_SL S P) (dr_SG S P) (dr_Q S) ∧ (∀ j, j < P → r (0 * 6 + j) = sp_kq (dr_Q S j)) ∧
  sp_row (0 * 6) P m (sp_lm (dr_C S) P b (dr_U H S P) N) ∧ (∀ j, 1 ≤ j → j ≤ 64 → h (0 * 64 + j - 1) = sp_nh N (dr_U H S P) H j) ∧ (∀ n, n < N → o (0 * 32 + n) = sp_lo (dr_C S) P b (dr_U H S P) n) ∧
  sp_row (1 * 6) P m b ∧ (∀ j, 1 ≤ j → j ≤ 64 → h (1 * 64 + j - 1) = H j)
def sl_G (P N T : Nat) (x5 w0 w1 w2 w3 : Int32) (m h o f fc r : Nat → Int32) : Prop := (x5 = 0 ∧ sl_A P N m h o f fc r) ∨ (x5 = 1 ∧ sl_W P N T w0 w1 w2 w3 m h o f fc r)
def sl_I (x5 w0 w1 w2 w3 : Int32) (u : St2) : Prop := ∃ (P N T c S : Nat) (x_reflectionLevels x_pulseLevels x_memory x_history x_output x_fields x_frameCounts x_reflections x_samples x_rawReflections x_target x_impulseResponse x_pastExcitation x_filteredPast x_chosenPulses x_trialPulses x_pulseSigns x_excitation x_receivedFields : Nat → Int32) (x_correlation x_predictor x_oldPredictor : Nat → Int64), u = ((nI P), (nI N), (nI T), (nI c), (lN S), x_reflectionLevels, x_pulseLevels, x_memory, x_history, x_output, x_fields, x_frameCounts, x_reflections, x_samples, x_rawReflections, x_correlation, x_predictor, x_oldPredictor, x_target, x_impulseResponse, x_pastExcitation, x_filteredPast, x_chosenPulses, x_trialPulses, x_pulseSigns, x_excitation, x_receivedFields) ∧ sl_B P N T c S x_reflectionLevels x_pulseLevels x_samples x_reflections ∧ sl_G P N T x5 w0 w1 w2 w3 x_memory x_history x_output x_fields x_frameCounts x_reflections
def sl_J (k : Nat) (J : Int64 → Int32 → Int32 → Int32 → Int32 → Int32 → Int32 → Int32 → Int32 → Int32 → Int32 → Int64 → (Nat → Int32) → (Nat → Int32) → (Nat → Int32) → (Nat → Int32) → (Nat → Int32) → (Nat → Int32) → (Nat → Int32) → (Nat → Int32) → (Nat → Int32) → (Nat → Int32) → (Nat → Int64) → (Nat → Int64) → (Nat → Int64) → (Nat → Int32) → (Nat → Int32) → (Nat → Int32) → (Nat → Int32) → (Nat → Int32) → (Nat → Int32) → (Nat → Int32) → (Nat → Int32) → (Nat → Int32) → Prop) : Prop :=
  ∀ (x3 : Int64) (x5 w0 w1 w2 w3 f1 f2 f3 x_pending : Int32) (x_encodedStream : Int64) (x_reflectionLevels x_pulseLevels x_memory x_history x_output x_fields x_frameCounts x_reflections x_samples x_rawReflections x_target x_impulseResponse x_pastExcitation x_filteredPast x_chosenPulses x_trialPulses x_pulseSigns x_excitation x_receivedFields : Nat → Int32) (x_correlation x_predictor x_oldPredictor : Nat → Int64), sl_I x5 w0 w1 w2 w3 (f1, f2, f3, x_pending, x_encodedStream, x_reflectionLevels, x_pulseLevels, x_memory, x_history, x_output, x_fields, x_frameCounts, x_reflections, x_samples, x_rawReflections, x_correlation, x_predictor, x_oldPredictor, x_target, x_impulseResponse, x_pastExcitation, x_filteredPast, x_chosenPulses, x_trialPulses, x_pulseSigns, x_excitation, x_receivedFields) → J x3 x5 w0 w1 w2 w3 (nI (k + 1)) f1 f2 f3 x_pending x_encodedStream x_reflectionLevels x_pulseLevels x_memory x_history x_output x_fields x_frameCounts x_reflections x_samples x_rawReflections x_correlation x_predictor x_oldPredictor x_target x_impulseResponse x_pastExcitation x_filteredPast x_chosenPulses x_trialPulses x_pulseSigns x_excitation x_receivedFields
theorem sl_Ju {P N T : Nat} {x_reflectionLevels x_pulseLevels x_memory x_history x_output x_fields x_frameCounts x_reflections x_samples x_rawReflections x_target x_impulseResponse x_pastExcitation x_filteredPast x_chosenPulses x_trialPulses x_pulseSigns x_excitation x_receivedFields : Nat → Int32} {x_correlation x_predictor x_oldPredictor : Nat → Int64} {k c S : Nat} {J : Int64 → Int32 → Int32 → Int32 → Int32 → Int32 → Int32 → Int32 → Int32 → Int32 → Int32 → Int64 → (Nat → Int32) → (Nat → Int32) → (Nat → Int32) → (Nat → Int32) → (Nat → Int32) → (Nat → Int32) → (Nat → Int32) → (Nat → Int32) → (Nat → Int32) → (Nat → Int32) → (Nat → Int64) → (Nat → Int64) → (Nat → Int64) → (Nat → Int32) → (Nat → Int32) → (Nat → Int32) → (Nat → Int32) → (Nat → Int32) → (Nat → Int32) → (Nat → Int32) → (Nat → Int32) → (Nat → Int32) → Prop} {x3 : Int64} {x5 w0 w1 w2 w3 : Int32} (hJ : sl_J k J) (hB : sl_B P N T c S x_reflectionLevels x_pulseLevels x_samples x_reflections) (hG : sl_G P N T x5 w0 w1 w2 w3 x_memory x_history x_output x_fields x_frameCounts x_reflections) : J x3 x5 w0 w1 w2 w3 (nI (k + 1)) (nI P) (nI N) (nI T) (nI c) (lN S) x_reflectionLevels x_pulseLevels x_memory x_history x_output x_fields x_frameCounts x_reflections x_samples x_rawReflections x_correlation x_predictor x_oldPredictor x_target x_impulseResponse x_pastExcitation x_filteredPast x_chosenPulses x_trialPulses x_pulseSigns x_excitation x_receivedFields :=
  hJ x3 x5 w0 w1 w2 w3 _ _ _ _ _ _ _ _ _ _ _ _ _ _ _ _ _ _ _ _ _ _ _ _ _ _ _ ⟨P, N, T, c, S, _, _, _, _, _, _, _, _, _, _, _, _, _, _, _, _, _, _, _, _, _, _, rfl, hB, hG⟩
/-! the checks -/
theorem sl_gt {x : Int32} {k : Nat} (hk : k < 2 ^ 31) : nI k < x ↔ (k : Int) < x.toInt := by rw [Int32.lt_iff_toInt_lt, nI_toInt hk]
theorem sl_up {x : Int32} (h1 : -5 ≤ x.toInt) (h2 : x.toInt < 1000) : (x + 1).toInt = x.toInt + 1 := by
  rw [Int32.toInt_add, show (1 : Int32).toInt = 1 from by decide]
  exact Int.bmod_eq_of_le (by omega) (by omega)
theorem sl_534 {P N T : Nat} {x_pending : Int32} {x_encodedStream : Int64} {x_reflectionLevels x_pulseLevels x_memory x_history x_output x_fields x_frameCounts x_reflections x_samples x_rawReflections x_target x_impulseResponse x_pastExcitation x_filteredPast x_chosenPulses x_trialPulses x_pulseSigns x_excitation x_receivedFields : Nat → Int32} {x_correlation x_predictor x_oldPredictor : Nat → Int64} {post : Int32 → Prop} {L : Nat} {xs : Nat → Int32} {J : Int64 → Int32 → Int32 → Int32 → Int32 → Int32 → Int32 → Int32 → Int32 → Int32 → Int32 → Int64 → (Nat → Int32) → (Nat → Int32) → (Nat → Int32) → (Nat → Int32) → (Nat → Int32) → (Nat → Int32) → (Nat → Int32) → (Nat → Int32) → (Nat → Int32) → (Nat → Int32) → (Nat → Int64) → (Nat → Int64) → (Nat → Int64) → (Nat → Int32) → (Nat → Int32) → (Nat → Int32) → (Nat → Int32) → (Nat → Int32) → (Nat → Int32) → (Nat → Int32) → (Nat → Int32) → (Nat → Int32) → Prop} {x2 x5 x6 x7 x8 x9 x10 x11 : Int32} {x3 : Int64} {kc ks : Nat} (hP : P ≤ 6) (hr : ∀ m, m < P → x_reflections (0 * 6 + m) = x_reflections (1 * 6 + m)) (hJ : J x3 x5 x6 x7 x8 x9 (x11 + 1) (nI P) (nI N) (nI T) x_pending x_encodedStream x_reflectionLevels x_pulseLevels x_memory x_history x_output x_fields x_frameCounts x_reflections x_samples x_rawReflections x_correlation x_predictor x_oldPredictor x_target x_impulseResponse x_pastExcitation x_filteredPast x_chosenPulses x_trialPulses x_pulseSigns x_excitation x_receivedFields) :
    ∀ (d : Nat) (x : Int32), x.toInt + d = 8 → -5 ≤ x.toInt → wL_law_534 post L xs J x2 x3 x5 x6 x7 x8 x9 x10 x11 kc ks (nI P) (nI N) (nI T) x_pending x_encodedStream x_reflectionLevels x_pulseLevels x_memory x_history x_output x_fields x_frameCounts x_reflections x_samples x_rawReflections x_correlation x_predictor x_oldPredictor x_target x_impulseResponse x_pastExcitation x_filteredPast x_chosenPulses x_trialPulses x_pulseSigns x_excitation x_receivedFields (d + 1) x := by
  intro d
  induction d with
  | zero =>
    intro x hx _
    exact br_t ((sl_gt (k := 7) (by omega)).mpr (by omega)) (nm_e hJ)
  | succ d ih =>
    intro x hx h5
    have u := sl_up (x := x) h5 (by omega)
    exact br_f (fun z => by
      have := (sl_gt (k := 7) (by omega)).mp z
      omega) (sl_refl hP hr (nm_e (ih (x + 1) (by omega) (by omega))))
theorem sl_499 {P N T : Nat} {x_pending : Int32} {x_encodedStream : Int64} {x_reflectionLevels x_pulseLevels x_memory x_history x_output x_fields x_frameCounts x_reflections x_samples x_rawReflections x_target x_impulseResponse x_pastExcitation x_filteredPast x_chosenPulses x_trialPulses x_pulseSigns x_excitation x_receivedFields : Nat → Int32} {x_correlation x_predictor x_oldPredictor : Nat → Int64} {post : Int32 → Prop} {L : Nat} {xs : Nat → Int32} {J : Int64 → Int32 → Int32 → Int32 → Int32 → Int32 → Int32 → Int32 → Int32 → Int32 → Int32 → Int64 → (Nat → Int32) → (Nat → Int32) → (Nat → Int32) → (Nat → Int32) → (Nat → Int32) → (Nat → Int32) → (Nat → Int32) → (Nat → Int32) → (Nat → Int32) → (Nat → Int32) → (Nat → Int64) → (Nat → Int64) → (Nat → Int64) → (Nat → Int32) → (Nat → Int32) → (Nat → Int32) → (Nat → Int32) → (Nat → Int32) → (Nat → Int32) → (Nat → Int32) → (Nat → Int32) → (Nat → Int32) → Prop} {x2 x5 x6 x7 x8 x9 x10 x11 : Int32} {x3 : Int64} {kc ks : Nat} (hP : P ≤ 6) (hf : ∀ k, k < 11 + P → x_fields (0 * 17 + k) = x_fields (1 * 17 + k)) (hJ : ∃ n, wL_law_534 post L xs J x2 x3 x5 x6 x7 x8 x9 x10 x11 kc ks (nI P) (nI N) (nI T) x_pending x_encodedStream x_reflectionLevels x_pulseLevels x_memory x_history x_output x_fields x_frameCounts x_reflections x_samples x_rawReflections x_correlation x_predictor x_oldPredictor x_target x_impulseResponse x_pastExcitation x_filteredPast x_chosenPulses x_trialPulses x_pulseSigns x_excitation x_receivedFields n (-1)) :
    ∀ (d : Nat) (x : Int32), x.toInt + d = 18 → -5 ≤ x.toInt → wL_law_499 post L xs J x2 x3 x5 x6 x7 x8 x9 x10 x11 kc ks (nI P) (nI N) (nI T) x_pending x_encodedStream x_reflectionLevels x_pulseLevels x_memory x_history x_output x_fields x_frameCounts x_reflections x_samples x_rawReflections x_correlation x_predictor x_oldPredictor x_target x_impulseResponse x_pastExcitation x_filteredPast x_chosenPulses x_trialPulses x_pulseSigns x_excitation x_receivedFields (d + 1) x := by
  intro d
  induction d with
  | zero =>
    intro x hx _
    exact br_t ((sl_gt (k := 17) (by omega)).mpr (by omega)) (hJ)
  | succ d ih =>
    intro x hx h5
    have u := sl_up (x := x) h5 (by omega)
    exact br_f (fun z => by
      have := (sl_gt (k := 17) (by omega)).mp z
      omega) (sl_fld hP hf (nm_e (ih (x + 1) (by omega) (by omega))))
theorem sl_463 {P N T : Nat} {x_pending : Int32} {x_encodedStream : Int64} {x_reflectionLevels x_pulseLevels x_memory x_history x_output x_fields x_frameCounts x_reflections x_samples x_rawReflections x_target x_impulseResponse x_pastExcitation x_filteredPast x_chosenPulses x_trialPulses x_pulseSigns x_excitation x_receivedFields : Nat → Int32} {x_correlation x_predictor x_oldPredictor : Nat → Int64} {post : Int32 → Prop} {L : Nat} {xs : Nat → Int32} {J : Int64 → Int32 → Int32 → Int32 → Int32 → Int32 → Int32 → Int32 → Int32 → Int32 → Int32 → Int64 → (Nat → Int32) → (Nat → Int32) → (Nat → Int32) → (Nat → Int32) → (Nat → Int32) → (Nat → Int32) → (Nat → Int32) → (Nat → Int32) → (Nat → Int32) → (Nat → Int32) → (Nat → Int64) → (Nat → Int64) → (Nat → Int64) → (Nat → Int32) → (Nat → Int32) → (Nat → Int32) → (Nat → Int32) → (Nat → Int32) → (Nat → Int32) → (Nat → Int32) → (Nat → Int32) → (Nat → Int32) → Prop} {x2 x5 x6 x7 x8 x9 x10 x11 : Int32} {x3 : Int64} {kc ks : Nat} (hP : P ≤ 6) (hm : ∀ k, k < P → x_memory (0 * 6 + k) = x_memory (1 * 6 + k)) (hJ : ∃ n, wL_law_499 post L xs J x2 x3 x5 x6 x7 x8 x9 x10 x11 kc ks (nI P) (nI N) (nI T) x_pending x_encodedStream x_reflectionLevels x_pulseLevels x_memory x_history x_output x_fields x_frameCounts x_reflections x_samples x_rawReflections x_correlation x_predictor x_oldPredictor x_target x_impulseResponse x_pastExcitation x_filteredPast x_chosenPulses x_trialPulses x_pulseSigns x_excitation x_receivedFields n (-2)) :
    ∀ (d : Nat) (x : Int32), x.toInt + d = 7 → -5 ≤ x.toInt → wL_law_463 post L xs J x2 x3 x5 x6 x7 x8 x9 x10 x11 kc ks (nI P) (nI N) (nI T) x_pending x_encodedStream x_reflectionLevels x_pulseLevels x_memory x_history x_output x_fields x_frameCounts x_reflections x_samples x_rawReflections x_correlation x_predictor x_oldPredictor x_target x_impulseResponse x_pastExcitation x_filteredPast x_chosenPulses x_trialPulses x_pulseSigns x_excitation x_receivedFields (d + 1) x := by
  intro d
  induction d with
  | zero =>
    intro x hx _
    exact br_t ((sl_gt (k := 6) (by omega)).mpr (by omega)) (hJ)
  | succ d ih =>
    intro x hx h5
    have u := sl_up (x := x) h5 (by omega)
    exact br_f (fun z => by
      have := (sl_gt (k := 6) (by omega)).mp z
      omega) (sl_mem hP hm (nm_e (ih (x + 1) (by omega) (by omega))))
theorem sl_428 {P N T : Nat} {x_pending : Int32} {x_encodedStream : Int64} {x_reflectionLevels x_pulseLevels x_memory x_history x_output x_fields x_frameCounts x_reflections x_samples x_rawReflections x_target x_impulseResponse x_pastExcitation x_filteredPast x_chosenPulses x_trialPulses x_pulseSigns x_excitation x_receivedFields : Nat → Int32} {x_correlation x_predictor x_oldPredictor : Nat → Int64} {post : Int32 → Prop} {L : Nat} {xs : Nat → Int32} {J : Int64 → Int32 → Int32 → Int32 → Int32 → Int32 → Int32 → Int32 → Int32 → Int32 → Int32 → Int64 → (Nat → Int32) → (Nat → Int32) → (Nat → Int32) → (Nat → Int32) → (Nat → Int32) → (Nat → Int32) → (Nat → Int32) → (Nat → Int32) → (Nat → Int32) → (Nat → Int32) → (Nat → Int64) → (Nat → Int64) → (Nat → Int64) → (Nat → Int32) → (Nat → Int32) → (Nat → Int32) → (Nat → Int32) → (Nat → Int32) → (Nat → Int32) → (Nat → Int32) → (Nat → Int32) → (Nat → Int32) → Prop} {x2 x5 x6 x7 x8 x9 x10 x11 : Int32} {x3 : Int64} {kc ks : Nat} (hh : ∀ j, 1 ≤ j → j ≤ 64 → x_history (0 * 64 + j - 1) = x_history (1 * 64 + j - 1)) (hJ : ∃ n, wL_law_463 post L xs J x2 x3 x5 x6 x7 x8 x9 x10 x11 kc ks (nI P) (nI N) (nI T) x_pending x_encodedStream x_reflectionLevels x_pulseLevels x_memory x_history x_output x_fields x_frameCounts x_reflections x_samples x_rawReflections x_correlation x_predictor x_oldPredictor x_target x_impulseResponse x_pastExcitation x_filteredPast x_chosenPulses x_trialPulses x_pulseSigns x_excitation x_receivedFields n (-1)) :
    ∀ (d : Nat) (x : Int32), x.toInt + d = 66 → -5 ≤ x.toInt → wL_law_428 post L xs J x2 x3 x5 x6 x7 x8 x9 x10 x11 kc ks (nI P) (nI N) (nI T) x_pending x_encodedStream x_reflectionLevels x_pulseLevels x_memory x_history x_output x_fields x_frameCounts x_reflections x_samples x_rawReflections x_correlation x_predictor x_oldPredictor x_target x_impulseResponse x_pastExcitation x_filteredPast x_chosenPulses x_trialPulses x_pulseSigns x_excitation x_receivedFields (d + 1) x := by
  intro d
  induction d with
  | zero =>
    intro x hx _
    exact br_t ((sl_gt (k := 65) (by omega)).mpr (by omega)) (hJ)
  | succ d ih =>
    intro x hx h5
    have u := sl_up (x := x) h5 (by omega)
    exact br_f (fun z => by
      have := (sl_gt (k := 65) (by omega)).mp z
      omega) (sl_exc hh (nm_e (ih (x + 1) (by omega) (by omega))))
theorem sl_393 {P N T : Nat} {x_pending : Int32} {x_encodedStream : Int64} {x_reflectionLevels x_pulseLevels x_memory x_history x_output x_fields x_frameCounts x_reflections x_samples x_rawReflections x_target x_impulseResponse x_pastExcitation x_filteredPast x_chosenPulses x_trialPulses x_pulseSigns x_excitation x_receivedFields : Nat → Int32} {x_correlation x_predictor x_oldPredictor : Nat → Int64} {post : Int32 → Prop} {L : Nat} {xs : Nat → Int32} {J : Int64 → Int32 → Int32 → Int32 → Int32 → Int32 → Int32 → Int32 → Int32 → Int32 → Int32 → Int64 → (Nat → Int32) → (Nat → Int32) → (Nat → Int32) → (Nat → Int32) → (Nat → Int32) → (Nat → Int32) → (Nat → Int32) → (Nat → Int32) → (Nat → Int32) → (Nat → Int32) → (Nat → Int64) → (Nat → Int64) → (Nat → Int64) → (Nat → Int32) → (Nat → Int32) → (Nat → Int32) → (Nat → Int32) → (Nat → Int32) → (Nat → Int32) → (Nat → Int32) → (Nat → Int32) → (Nat → Int32) → Prop} {x2 x5 x6 x7 x8 x9 x10 x11 : Int32} {x3 : Int64} {kc ks : Nat} (hN : N ≤ 32) (ho : ∀ k, k < N → x_output (0 * 32 + k) = x_output (1 * 32 + k)) (hJ : ∃ n, wL_law_428 post L xs J x2 x3 x5 x6 x7 x8 x9 x10 x11 kc ks (nI P) (nI N) (nI T) x_pending x_encodedStream x_reflectionLevels x_pulseLevels x_memory x_history x_output x_fields x_frameCounts x_reflections x_samples x_rawReflections x_correlation x_predictor x_oldPredictor x_target x_impulseResponse x_pastExcitation x_filteredPast x_chosenPulses x_trialPulses x_pulseSigns x_excitation x_receivedFields n (-1)) :
    ∀ (d : Nat) (x : Int32), x.toInt + d = 33 → -5 ≤ x.toInt → wL_law_393 post L xs J x2 x3 x5 x6 x7 x8 x9 x10 x11 kc ks (nI P) (nI N) (nI T) x_pending x_encodedStream x_reflectionLevels x_pulseLevels x_memory x_history x_output x_fields x_frameCounts x_reflections x_samples x_rawReflections x_correlation x_predictor x_oldPredictor x_target x_impulseResponse x_pastExcitation x_filteredPast x_chosenPulses x_trialPulses x_pulseSigns x_excitation x_receivedFields (d + 1) x := by
  intro d
  induction d with
  | zero =>
    intro x hx _
    exact br_t ((sl_gt (k := 32) (by omega)).mpr (by omega)) (hJ)
  | succ d ih =>
    intro x hx h5
    have u := sl_up (x := x) h5 (by omega)
    exact br_f (fun z => by
      have := (sl_gt (k := 32) (by omega)).mp z
      omega) (sl_out hN ho (nm_e (ih (x + 1) (by omega) (by omega))))
theorem sl_331 {P N T : Nat} {x_pending : Int32} {x_encodedStream : Int64} {x_reflectionLevels x_pulseLevels x_memory x_history x_output x_fields x_frameCounts x_reflections x_samples x_rawReflections x_target x_impulseResponse x_pastExcitation x_filteredPast x_chosenPulses x_trialPulses x_pulseSigns x_excitation x_receivedFields : Nat → Int32} {x_correlation x_predictor x_oldPredictor : Nat → Int64} {post : Int32 → Prop} {L : Nat} {xs : Nat → Int32} {J : Int64 → Int32 → Int32 → Int32 → Int32 → Int32 → Int32 → Int32 → Int32 → Int32 → Int32 → Int64 → (Nat → Int32) → (Nat → Int32) → (Nat → Int32) → (Nat → Int32) → (Nat → Int32) → (Nat → Int32) → (Nat → Int32) → (Nat → Int32) → (Nat → Int32) → (Nat → Int32) → (Nat → Int64) → (Nat → Int64) → (Nat → Int64) → (Nat → Int32) → (Nat → Int32) → (Nat → Int32) → (Nat → Int32) → (Nat → Int32) → (Nat → Int32) → (Nat → Int32) → (Nat → Int32) → (Nat → Int32) → Prop} {x2 x5 x6 x7 x8 x9 x10 x11 : Int32} {x3 : Int64} {kc ks : Nat} {J' : Int32 → Prop} {x14 : Int32} (hP : P ≤ 6) (hr : ∀ sd, sd < 2 → ∀ m, m < P → -32768 < (x_reflections (sd * 6 + m)).toInt ∧ (x_reflections (sd * 6 + m)).toInt < 32768) (hJ : J' (x14 + 1)) :
    ∀ (d : Nat) (x : Int32), x.toInt + d = 8 → -5 ≤ x.toInt → wL_law_331 post L xs J J' x2 x3 x5 x6 x7 x8 x9 x10 x11 x14 kc ks (nI P) (nI N) (nI T) x_pending x_encodedStream x_reflectionLevels x_pulseLevels x_memory x_history x_output x_fields x_frameCounts x_reflections x_samples x_rawReflections x_correlation x_predictor x_oldPredictor x_target x_impulseResponse x_pastExcitation x_filteredPast x_chosenPulses x_trialPulses x_pulseSigns x_excitation x_receivedFields (d + 1) x := by
  intro d
  induction d with
  | zero =>
    intro x hx _
    exact br_t ((sl_gt (k := 7) (by omega)).mpr (by omega)) (nm_e hJ)
  | succ d ih =>
    intro x hx h5
    have u := sl_up (x := x) h5 (by omega)
    exact br_f (fun z => by
      have := (sl_gt (k := 7) (by omega)).mp z
      omega) (sl_rng hP hr (nm_e (ih (x + 1) (by omega) (by omega))))
theorem sl_322 {P N T : Nat} {x_pending : Int32} {x_encodedStream : Int64} {x_reflectionLevels x_pulseLevels x_memory x_history x_output x_fields x_frameCounts x_reflections x_samples x_rawReflections x_target x_impulseResponse x_pastExcitation x_filteredPast x_chosenPulses x_trialPulses x_pulseSigns x_excitation x_receivedFields : Nat → Int32} {x_correlation x_predictor x_oldPredictor : Nat → Int64} {post : Int32 → Prop} {L : Nat} {xs : Nat → Int32} {J : Int64 → Int32 → Int32 → Int32 → Int32 → Int32 → Int32 → Int32 → Int32 → Int32 → Int32 → Int64 → (Nat → Int32) → (Nat → Int32) → (Nat → Int32) → (Nat → Int32) → (Nat → Int32) → (Nat → Int32) → (Nat → Int32) → (Nat → Int32) → (Nat → Int32) → (Nat → Int32) → (Nat → Int64) → (Nat → Int64) → (Nat → Int64) → (Nat → Int32) → (Nat → Int32) → (Nat → Int32) → (Nat → Int32) → (Nat → Int32) → (Nat → Int32) → (Nat → Int32) → (Nat → Int32) → (Nat → Int32) → Prop} {x2 x5 x6 x7 x8 x9 x10 x11 : Int32} {x3 : Int64} {kc ks : Nat} (hP : P ≤ 6) (hN : N ≤ 32) (hr : ∀ sd, sd < 2 → ∀ m, m < P → -32768 < (x_reflections (sd * 6 + m)).toInt ∧ (x_reflections (sd * 6 + m)).toInt < 32768)
    (hc : sl_A P N x_memory x_history x_output x_fields x_frameCounts x_reflections ∨ ¬ x_frameCounts 0 = x_frameCounts 1)
    (hJ : J x3 x5 x6 x7 x8 x9 (x11 + 1) (nI P) (nI N) (nI T) x_pending x_encodedStream x_reflectionLevels x_pulseLevels x_memory x_history x_output x_fields x_frameCounts x_reflections x_samples x_rawReflections x_correlation x_predictor x_oldPredictor x_target x_impulseResponse x_pastExcitation x_filteredPast x_chosenPulses x_trialPulses x_pulseSigns x_excitation x_receivedFields) :
    ∀ (d : Nat) (x : Int32), x.toInt + d = 3 → -5 ≤ x.toInt → wL_law_322 post L xs J x2 x3 x5 x6 x7 x8 x9 x10 x11 kc ks (nI P) (nI N) (nI T) x_pending x_encodedStream x_reflectionLevels x_pulseLevels x_memory x_history x_output x_fields x_frameCounts x_reflections x_samples x_rawReflections x_correlation x_predictor x_oldPredictor x_target x_impulseResponse x_pastExcitation x_filteredPast x_chosenPulses x_trialPulses x_pulseSigns x_excitation x_receivedFields (d + 1) x := by
  intro d
  induction d with
  | zero =>
    intro x hx _
    refine br_t ((sl_gt (k := 2) (by omega)).mpr (by omega)) (sx_gc (sd := 0) (by omega) (sx_gc (sd := 1) (by omega) ?_))
    rcases hc with ⟨a1, a2, a3, a4, a5, a6⟩ | hc
    · have e1 : (-1 : Int32).toInt = -1 := by decide
      have e2 : (-2 : Int32).toInt = -2 := by decide
      refine br_t a6 ?_
      have h534 := sl_534 (post := post) (L := L) (xs := xs) (x2 := x2) (x10 := x10) (kc := kc) (ks := ks) hP a5 hJ 9 (-1) (by rw [e1]; rfl) (by rw [e1]; decide)
      have h499 := sl_499 hP a4 ⟨_, h534⟩ 20 (-2) (by rw [e2]; rfl) (by rw [e2]; decide)
      have h463 := sl_463 hP a1 ⟨_, h499⟩ 8 (-1) (by rw [e1]; rfl) (by rw [e1]; decide)
      have h428 := sl_428 a2 ⟨_, h463⟩ 67 (-1) (by rw [e1]; rfl) (by rw [e1]; decide)
      have h393 := sl_393 hN a3 ⟨_, h428⟩ 34 (-1) (by rw [e1]; rfl) (by rw [e1]; decide)
      exact ⟨_, h393⟩
    · exact br_f hc (nm_e hJ)
  | succ d ih =>
    intro x hx h5
    have u := sl_up (x := x) h5 (by omega)
    have e1 : (-1 : Int32).toInt = -1 := by decide
    exact br_f (fun z => by
      have := (sl_gt (k := 2) (by omega)).mp z
      omega) ⟨_, sl_331 hP hr (ih (x + 1) (by omega) (by omega)) 9 (-1) (by rw [e1]; rfl) (by rw [e1]; decide)⟩
theorem sl_ne (x : Int32) : ¬ x + 1 = x := by
  intro h
  have e : x + 1 - x = x - x := by rw [h]
  rw [Int32.sub_self] at e
  have e2 : x + 1 - x = 1 := by grind
  rw [e2] at e
  exact absurd e (by decide)
theorem sl_c322 {P N T : Nat} {x_reflectionLevels x_pulseLevels x_memory x_history x_output x_fields x_frameCounts x_reflections x_samples x_rawReflections x_target x_impulseResponse x_pastExcitation x_filteredPast x_chosenPulses x_trialPulses x_pulseSigns x_excitation x_receivedFields : Nat → Int32} {x_correlation x_predictor x_oldPredictor : Nat → Int64} {post : Int32 → Prop} {L : Nat} {xs : Nat → Int32} {J : Int64 → Int32 → Int32 → Int32 → Int32 → Int32 → Int32 → Int32 → Int32 → Int32 → Int32 → Int64 → (Nat → Int32) → (Nat → Int32) → (Nat → Int32) → (Nat → Int32) → (Nat → Int32) → (Nat → Int32) → (Nat → Int32) → (Nat → Int32) → (Nat → Int32) → (Nat → Int32) → (Nat → Int64) → (Nat → Int64) → (Nat → Int64) → (Nat → Int32) → (Nat → Int32) → (Nat → Int32) → (Nat → Int32) → (Nat → Int32) → (Nat → Int32) → (Nat → Int32) → (Nat → Int32) → (Nat → Int32) → Prop} {x2 x5 w0 w1 w2 w3 x10 : Int32} {x3 : Int64} {k kc ks c S : Nat} (hJ : sl_J k J) (hB : sl_B P N T c S x_reflectionLevels x_pulseLevels x_samples x_reflections) (hG : sl_G P N T x5 w0 w1 w2 w3 x_memory x_history x_output x_fields x_frameCounts x_reflections) :
    ∃ n, wL_law_322 post L xs J x2 x3 x5 w0 w1 w2 w3 x10 (nI k) kc ks (nI P) (nI N) (nI T) (nI c) (lN S) x_reflectionLevels x_pulseLevels x_memory x_history x_output x_fields x_frameCounts x_reflections x_samples x_rawReflections x_correlation x_predictor x_oldPredictor x_target x_impulseResponse x_pastExcitation x_filteredPast x_chosenPulses x_trialPulses x_pulseSigns x_excitation x_receivedFields n (-1) := by
  have hj : J x3 x5 w0 w1 w2 w3 (nI (k + 1)) (nI P) (nI N) (nI T) (nI c) (lN S) x_reflectionLevels x_pulseLevels x_memory x_history x_output x_fields x_frameCounts x_reflections x_samples x_rawReflections x_correlation x_predictor x_oldPredictor x_target x_impulseResponse x_pastExcitation x_filteredPast x_chosenPulses x_trialPulses x_pulseSigns x_excitation x_receivedFields := sl_Ju hJ hB hG
  rw [← nI_1] at hj
  obtain ⟨hP2, hP, hNT, hT2, hT, hc, hS, hs, hk, hg, hr⟩ := hB
  have e1 : (-1 : Int32).toInt = -1 := by decide
  refine ⟨_, sl_322 hP (by omega) hr ?_ hj 4 (-1) (by rw [e1]; rfl) (by rw [e1]; decide)⟩
  rcases hG with ⟨_, hA⟩ | ⟨_, hW⟩
  · exact Or.inl hA
  · obtain ⟨S', b, H, _, _, _, _, _, _, hf, _⟩ := hW
    refine Or.inr ?_
    rw [hf]
    exact sl_ne _
