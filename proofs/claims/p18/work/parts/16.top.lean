/-! the start, the loop, the law -/
theorem sp_cl3 (w : Int32) {lo hi : Nat} (h : lo ≤ hi) (hh : hi < 2 ^ 31) : ∃ L, lo ≤ L ∧ L ≤ hi ∧ ((¬ nI lo ≤ w ∧ L = lo) ∨ (nI lo ≤ w ∧ w ≤ nI hi ∧ w = nI L) ∨ (nI lo ≤ w ∧ ¬ w ≤ nI hi ∧ L = hi)) := by
  by_cases a : nI lo ≤ w
  · by_cases b : w ≤ nI hi
    · have p : ¬ w < 0 := fun z => by
        have q := Int32.lt_of_le_of_lt a z
        exact nI_pos (by omega) q
      obtain ⟨j, hj, rfl⟩ := nI_of p
      exact ⟨j, (nI_leI (by omega) hj).mp a, (nI_leI hj hh).mp b, Or.inr (Or.inl ⟨a, b, rfl⟩)⟩
    · exact ⟨hi, h, Nat.le_refl _, Or.inr (Or.inr ⟨a, b, rfl⟩)⟩
  · exact ⟨lo, Nat.le_refl _, h, Or.inl ⟨a, rfl⟩⟩
theorem sx_cl3 {post : Int32 → Prop} {w : Int32} {lo hi L : Nat} (h : (¬ nI lo ≤ w ∧ L = lo) ∨ (nI lo ≤ w ∧ w ≤ nI hi ∧ w = nI L) ∨ (nI lo ≤ w ∧ ¬ w ≤ nI hi ∧ L = hi)) (hp : post (nI L)) : wpX_clamp post () w.toInt64 (nI lo) (nI hi) := by
  unfold wpX_clamp
  rw [Int32.toInt64_le, Int32.toInt64_le, Int32.toInt32_toInt64]
  rcases h with ⟨a, e⟩ | ⟨a, b, e⟩ | ⟨a, b, e⟩
  · subst e
    exact br_f a hp
  · rw [e] at a b ⊢
    exact br_t a (br_t b hp)
  · subst e
    exact br_t a (br_f b hp)
theorem sp_neg : ∀ i, i < 8 → -sp_kq (15 - i) = sp_kq i := by decide +kernel
theorem sx_fl82 {x_pending : Int32} {x_encodedStream : Int64} {x_pulseLevels x_memory x_history x_output x_fields x_frameCounts x_reflections x_samples x_rawReflections x_target x_impulseResponse x_pastExcitation x_filteredPast x_chosenPulses x_trialPulses x_pulseSigns x_excitation x_receivedFields : Nat → Int32} {x_correlation x_predictor x_oldPredictor : Nat → Int64} {post : St2 → Prop} {f1 f2 f3 : Int32} (h : ∀ kl, (∀ j, j < 16 → kl j = sp_kq j) → post (f1, f2, f3, x_pending, x_encodedStream, kl, x_pulseLevels, x_memory, x_history, x_output, x_fields, x_frameCounts, x_reflections, x_samples, x_rawReflections, x_correlation, x_predictor, x_oldPredictor, x_target, x_impulseResponse, x_pastExcitation, x_filteredPast, x_chosenPulses, x_trialPulses, x_pulseSigns, x_excitation, x_receivedFields)) :
    ∀ d i kl, i + d = 8 → (∀ j, 8 ≤ j → j < 16 → kl j = sp_kq j) → (∀ j, j < i → kl j = sp_kq j) → wX_fillReflectionLevels_82 post f1 f2 f3 x_pending x_encodedStream (d + 1) (nI i) kl x_pulseLevels x_memory x_history x_output x_fields x_frameCounts x_reflections x_samples x_rawReflections x_correlation x_predictor x_oldPredictor x_target x_impulseResponse x_pastExcitation x_filteredPast x_chosenPulses x_trialPulses x_pulseSigns x_excitation x_receivedFields := by
  intro d
  induction d with
  | zero =>
    intro i kl hi h8 hk
    obtain rfl : i = 8 := by omega
    exact br_t (nI_le (a := 8) (by omega) (by omega)) (h kl (fun j hj => by
      by_cases c : 8 ≤ j
      · exact h8 j c hj
      · exact hk j (by omega)))
  | succ d ih =>
    intro i kl hi h8 hk
    have e : (15 : Int32) - nI i = nI (15 - i) := pk_sub (a := 15) (by omega)
    refine br_f (nI_ge (b := 8) (by omega) (by omega)) ⟨pk_in (15 - i) 16 (by omega) e, vp_in_nI (by omega) (by omega), nm_r (e' := upd kl i (sp_kq i)) ?_ (nm_r (nI_1 i) (ih (i + 1) _ (by omega) (fun j h1 h2 => ?_) (fun j hj => ?_)))⟩
    · rw [e, nI_clamp (n := 15 - i) (by omega), nI_clamp (by omega), h8 (15 - i) (by omega) (by omega), sp_neg i (by omega)]
    · rw [pk_un (by omega)]
      exact h8 j h1 h2
    · by_cases c : j = i
      · subst c
        rw [pk_us]
      · rw [pk_un c]
        exact hk j (by omega)
theorem sp_k8 : ∀ j, j < 16 → 8 ≤ j → upd (upd (upd (upd (upd (upd (upd (upd (fun _ => 0) 8 3277) 9 9011) 10 14746) 11 19661) 12 23757) 13 27034) 14 29491) 15 31130 j = sp_kq j := by decide +kernel
theorem sp_f16 : ∀ j, j < 16 → upd (upd (upd (upd (upd (upd (upd (upd (upd (upd (upd (upd (upd (upd (upd (upd (fun _ => 0) 0 0) 1 16) 2 23) 3 32) 4 45) 5 64) 6 91) 7 128) 8 181) 9 256) 10 362) 11 512) 12 724) 13 1024) 14 1448) 15 2048 j = sp_fg j := by decide +kernel
theorem sx_init {post : St2 → Prop} {k0 k1 : Int32}
    (h : ∀ (P N T : Nat) (kl gl : Nat → Int32), 2 ≤ P → P ≤ 6 → N = 4 * T → 2 ≤ T → T ≤ 8 → (∀ j, j < 16 → kl j = sp_kq j) → (∀ j, j < 16 → gl j = sp_fg j) → post (nI P, nI N, nI T, 0, 0, kl, gl, fun _ => 0, fun _ => 0, fun _ => 0, fun _ => 0, fun _ => 0, fun _ => 0, fun _ => 0, fun _ => 0, fun _ => 0, fun _ => 0, fun _ => 0, fun _ => 0, fun _ => 0, fun _ => 0, fun _ => 0, fun _ => 0, fun _ => 0, fun _ => 0, fun _ => 0, fun _ => 0)) :
    wpX_init post 22 622 (0, 0, 0, 0, 0) k0 k1 := by
  obtain ⟨P, hP2, hP, cP⟩ := sp_cl3 k0 (lo := 2) (hi := 6) (by omega) (by omega)
  obtain ⟨L, hL8, hL, cL⟩ := sp_cl3 k1 (lo := 8) (hi := 32) (by omega) (by omega)
  have er : nI L - nI L / 4 * 4 = nI (L % 4) := pk_rem (d := 4) (by omega) (by omega) (by omega)
  have eN : nI L - (nI L - nI L / 4 * 4) = nI (4 * (L / 4)) := by
    rw [er, pk_sub (by omega), show L - L % 4 = 4 * (L / 4) from by omega]
  have eT : nI L / 4 = nI (L / 4) := pk_div (d := 4) (by omega) (by omega) (by omega)
  unfold wpX_init
  dsimp only
  refine ⟨by decide, by decide, by decide, by decide, by decide, by decide, by decide, by decide, by decide, by decide, by decide, by decide, by decide, by decide, by decide, by decide, by decide, by decide, by decide, by decide, by decide, by decide, by decide, by decide, by decide, by decide, by decide, by decide, by decide, by decide, by decide, by decide, by decide, by decide, by decide, by decide, by decide, by decide, by decide, by decide, by decide, by decide, by decide, by decide, ?_⟩
  refine sx_cl3 (lo := 8) (hi := 32) cL (sx_cl3 (lo := 2) (hi := 6) cP ⟨by decide, nm_r eN ⟨by decide, nm_r eT ?_⟩⟩)
  unfold wpX_fillReflectionLevels
  dsimp only
  refine nm_e (nm_e (nm_e (nm_e (nm_e (nm_e (nm_e (nm_e (Exists.intro (8 + 1) (sx_fl82 (fun kl hkl => ?_) 8 0 _ (by omega) (fun j h8 h16 => sp_k8 j h16 h8) (fun j hj => absurd hj (by omega)))))))))))
  unfold wpX_fillPulseLevels
  dsimp only
  refine nm_e (nm_e (nm_e (nm_e (nm_e (nm_e (nm_e (nm_e (nm_e (nm_e (nm_e (nm_e (nm_e (nm_e (nm_e (nm_e ?_)))))))))))))))
  exact h P (4 * (L / 4)) (L / 4) kl _ hP2 hP rfl (by omega) (by omega) hkl sp_f16
theorem sl_cell {post : Int32 → Prop} {L i : Nat} {xs : Nat → Int32} (hL : L ≤ 260) (hi : i < 260) (h : ∀ v, post v) : wpL_cell post L xs () (nI i) := by
  by_cases c : i < L
  · exact br_f (nI_ge (b := L) c (by omega)) ⟨vp_in_nI c (by omega), h _⟩
  · exact br_t (nI_le (a := L) (by omega) (by omega)) (h _)
theorem sl_x5 {P N T : Nat} {x5 w0 w1 w2 w3 : Int32} {m h o f fc r : Nat → Int32} (hG : sl_G P N T x5 w0 w1 w2 w3 m h o f fc r) : x5 = 0 ∨ (¬ x5 = 0 ∧ x5 = 1) := by
  rcases hG with ⟨e, _⟩ | ⟨e, _⟩
  · exact Or.inl e
  · exact Or.inr ⟨by rw [e]; decide, e⟩
theorem sl_244 {P N T : Nat} {x_reflectionLevels x_pulseLevels x_memory x_history x_output x_fields x_frameCounts x_reflections x_samples x_rawReflections x_target x_impulseResponse x_pastExcitation x_filteredPast x_chosenPulses x_trialPulses x_pulseSigns x_excitation x_receivedFields : Nat → Int32} {x_correlation x_predictor x_oldPredictor : Nat → Int64} {post : Int32 → Prop} {L : Nat} {xs : Nat → Int32} {J : Int64 → Int32 → Int32 → Int32 → Int32 → Int32 → Int32 → Int32 → Int32 → Int32 → Int32 → Int64 → (Nat → Int32) → (Nat → Int32) → (Nat → Int32) → (Nat → Int32) → (Nat → Int32) → (Nat → Int32) → (Nat → Int32) → (Nat → Int32) → (Nat → Int32) → (Nat → Int32) → (Nat → Int64) → (Nat → Int64) → (Nat → Int64) → (Nat → Int32) → (Nat → Int32) → (Nat → Int32) → (Nat → Int32) → (Nat → Int32) → (Nat → Int32) → (Nat → Int32) → (Nat → Int32) → (Nat → Int32) → Prop} {x2 x5 w0 w1 w2 w3 x10 : Int32} {x3 : Int64} {k kc ks c S : Nat} {x12 x13 : Int32} (hJ : sl_J k J) (hB : sl_B P N T c S x_reflectionLevels x_pulseLevels x_samples x_reflections) (hG : sl_G P N T x5 w0 w1 w2 w3 x_memory x_history x_output x_fields x_frameCounts x_reflections) (h12 : x12 = 0 ∨ (¬ x12 = 0 ∧ x5 = 1)) (h13 : x13 = 0 ∨ (¬ x13 = 0 ∧ x5 = 0)) :
    wL_law_244 post L xs J x2 x3 x5 w0 w1 w2 w3 x10 (nI k) x12 x13 kc ks (nI P) (nI N) (nI T) (nI c) (lN S) x_reflectionLevels x_pulseLevels x_memory x_history x_output x_fields x_frameCounts x_reflections x_samples x_rawReflections x_correlation x_predictor x_oldPredictor x_target x_impulseResponse x_pastExcitation x_filteredPast x_chosenPulses x_trialPulses x_pulseSigns x_excitation x_receivedFields := by
  unfold wL_law_244
  exact sl_251 hJ hB hG h12 h13
theorem sl_70 {post : Int32 → Prop} {L : Nat} {xs : Nat → Int32} {x2 : Int32} {K kc ks : Nat} (hp : post 1) (hL : L ≤ 260) (hK : K ≤ 260) : ∀ d k, k + 1 + d = K + 1 → 1 ≤ k → sl_J k (wL_law_70 post L xs x2 (nI K) kc ks (d + 1)) := by
  intro d
  induction d with
  | zero =>
    intro k hk h1
    intro x3 x5 w0 w1 w2 w3 f1 f2 f3 x_pending x_encodedStream x_reflectionLevels x_pulseLevels x_memory x_history x_output x_fields x_frameCounts x_reflections x_samples x_rawReflections x_target x_impulseResponse x_pastExcitation x_filteredPast x_chosenPulses x_trialPulses x_pulseSigns x_excitation x_receivedFields x_correlation x_predictor x_oldPredictor hI
    exact br_t (nI_lt (by omega) (by omega)) hp
  | succ d ih =>
    intro k hk h1
    intro x3 x5 w0 w1 w2 w3 f1 f2 f3 x_pending x_encodedStream x_reflectionLevels' x_pulseLevels' x_memory' x_history' x_output' x_fields' x_frameCounts' x_reflections' x_samples' x_rawReflections' x_target' x_impulseResponse' x_pastExcitation' x_filteredPast' x_chosenPulses' x_trialPulses' x_pulseSigns' x_excitation' x_receivedFields' x_correlation' x_predictor' x_oldPredictor' hI
    obtain ⟨P, N, T, c, S, x_reflectionLevels, x_pulseLevels, x_memory, x_history, x_output, x_fields, x_frameCounts, x_reflections, x_samples, x_rawReflections, x_target, x_impulseResponse, x_pastExcitation, x_filteredPast, x_chosenPulses, x_trialPulses, x_pulseSigns, x_excitation, x_receivedFields, x_correlation, x_predictor, x_oldPredictor, hu, hB, hG⟩ := hI
    cases hu
    have hJ := ih (k + 1) (by omega) (by omega)
    have h5 := sl_x5 hG
    refine br_f (nI_nlt (by omega) (by omega)) ?_
    by_cases k2 : k + 1 = 2
    · exact br_t (by rw [k2]; rfl) (sl_251 hJ hB hG (Or.inl rfl) (Or.inl rfl))
    · refine br_f (fun z => k2 ((nI_eq (b := 2) (by omega) (by omega)).mp z)) ?_
      by_cases kL : k + 1 < L
      · refine br_f (nI_ge (b := L) kL (by omega)) ⟨vp_in_nI kL (by omega), nm_e (nm_e (br_c (fun _ => br_c (fun _ => br_c (fun e0 => nm_e ?_) (fun e0 => ?_)) (fun _ => br_c (fun _ => br_c (fun e0 => ?_) (fun e0 => ?_)) (fun _ => ?_))) (fun _ => ?_)))⟩
        · rcases hG with ⟨_, hA⟩ | ⟨e1, _⟩
          · have hN : N ≤ 32 := by
              obtain ⟨hP2, hP, hNT, hT2, hT, _⟩ := hB
              omega
            exact ⟨_, sl_159 (x3 := x3) (c := c) hJ hN e0 hA 32 0 x3 c _ (by omega) hB⟩
          · rw [e0] at e1
            exact absurd e1 (by decide)
        · rcases h5 with e | ⟨_, e⟩
          · exact absurd e e0
          · exact sl_244 hJ hB hG (Or.inr ⟨by decide, e⟩) (Or.inl rfl)
        · exact sl_244 hJ hB hG (Or.inl rfl) (Or.inr ⟨by decide, e0⟩)
        · rcases h5 with e | ⟨_, e⟩
          · exact absurd e e0
          · exact sl_244 hJ hB hG (Or.inr ⟨by decide, e⟩) (Or.inl rfl)
        · exact sl_244 hJ hB hG h5 (Or.inl rfl)
        · obtain ⟨hP2, hP, hNT, hT2, hT, hc, hS, hs, hk', hg, hr⟩ := hB
          exact sl_put (by omega) hc hs (fun r c' s' hc' hs' => sl_244 hJ ⟨hP2, hP, hNT, hT2, hT, hc', hS, hs', hk', hg, hr⟩ hG (Or.inl rfl) (Or.inl rfl))
      · exact br_t (nI_le (a := L) (by omega) (by omega)) (sl_251 hJ hB hG h5 (Or.inl rfl))
theorem i_vc (xs : Nat → Int32) (L : Nat) (hL : L ≤ 260) : wpL_law (fun r => r = 1) L xs := by
  unfold wpL_law
  refine sl_cell (i := 0) hL (by omega) (fun v0 => ⟨by decide, sl_cell (i := 1) hL (by omega) (fun v1 => ⟨by decide, 22, 622, by decide, by decide, sx_init (fun P N T kl gl hP2 hP hNT hT2 hT hk hg => ?_)⟩)⟩)
  have hI : sl_I 0 0 0 0 0 (nI P, nI N, nI T, 0, 0, kl, gl, fun _ => 0, fun _ => 0, fun _ => 0, fun _ => 0, fun _ => 0, fun _ => 0, fun _ => 0, fun _ => 0, fun _ => 0, fun _ => 0, fun _ => 0, fun _ => 0, fun _ => 0, fun _ => 0, fun _ => 0, fun _ => 0, fun _ => 0, fun _ => 0, fun _ => 0, fun _ => 0) :=
    ⟨P, N, T, 0, 0, _, _, _, _, _, _, _, _, _, _, _, _, _, _, _, _, _, _, _, _, _, _, rfl, ⟨hP2, hP, hNT, hT2, hT, by omega, by omega, fun _ => (by decide : -32768 ≤ (0 : Int32).toInt ∧ (0 : Int32).toInt ≤ 32767), hk, hg, fun _ _ _ _ => (by decide : -32768 < (0 : Int32).toInt ∧ (0 : Int32).toInt < 32768)⟩, Or.inl ⟨rfl, fun _ _ => rfl, fun _ _ _ => rfl, fun _ _ => rfl, fun _ _ => rfl, fun _ _ => rfl, rfl⟩⟩
  unfold wpX_getFrameLength
  dsimp only
  refine sl_cell (i := 2) hL (by omega) (fun v2 => ?_)
  by_cases c3 : 3 ≤ L
  · exact br_t (nI_le (a := 3) (b := L) c3 (by omega)) (nm_e ⟨L - 1 + 1, sl_70 (post := fun r => r = 1) (K := L) rfl hL hL (L - 1) 1 (by omega) (by omega) _ _ _ _ _ _ _ _ _ _ _ _ _ _ _ _ _ _ _ _ _ _ _ _ _ _ _ _ _ _ _ _ _ hI⟩)
  · exact br_f (nI_ge (a := L) (b := 3) (by omega) (by omega)) ⟨2 + 1, sl_70 (post := fun r => r = 1) (K := 3) rfl hL (by omega) 2 1 (by omega) (by omega) _ _ _ _ _ _ _ _ _ _ _ _ _ _ _ _ _ _ _ _ _ _ _ _ _ _ _ _ _ _ _ _ _ hI⟩
