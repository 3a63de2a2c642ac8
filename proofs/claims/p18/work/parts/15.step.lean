theorem fr_Sb {s b H : Nat → Int32} {N P T : Nat} (hP : P ≤ 6) (hT : 0 < T) (hT8 : T ≤ 8) : fr_S s b H N P T < 2 ^ 64 := by
  have h := sp_fs_b (q := fr_Q s N P) (P := P) (l := fr_L s b H N P) (ga := fr_G s b H N P) (gf := fr_GF s b H N P T) (sl := fr_SL s b H N P T) (sg := fr_SG s b H N P T) (fun m _ => fr_Qb) fr_Lb fr_Gb (fun t _ => Nat.lt_of_lt_of_le (fr_SLb hT) hT8) (fun t _ => fr_SGb) (fr_GFb hT)
  unfold fr_S
  rw [Nat.shiftLeft_eq]
  have q := Nat.mul_lt_mul_of_pos_right h (Nat.two_pow_pos (36 - 4 * P))
  rw [← Nat.pow_add, show 4 * P + 28 + (36 - 4 * P) = 64 from by omega] at q
  exact q
/-- an encoded frame, as its words will give it back -/
theorem sl_mkW {s b H : Nat → Int32} {N P T : Nat} {m h o f fc r : Nat → Int32} (hP : P ≤ 6) (hT : 0 < T) (hT8 : T ≤ 8) (hSb : fr_S s b H N P T < 2 ^ 64)
    (g2 : sp_FF f (0 * 17) P (fr_L s b H N P) (fr_G s b H N P) (fr_GF s b H N P T) (fr_SL s b H N P T) (fr_SG s b H N P T) (fr_Q s N P)) (g4 : ∀ j, j < P → r (0 * 6 + j) = sp_kq (fr_Q s N P j))
    (g6 : sp_row (0 * 6) P m (sp_lm (fr_C s N P) P b (fr_U s b H N P T) N)) (g8 : ∀ j, 1 ≤ j → j ≤ 64 → h (0 * 64 + j - 1) = sp_nh N (fr_U s b H N P T) H j) (go : ∀ n, n < N → o (0 * 32 + n) = sp_lo (fr_C s N P) P b (fr_U s b H N P T) n)
    (hf : fc 0 = fc 1 + 1) (hm1 : sp_row (1 * 6) P m b) (hh1 : ∀ j, 1 ≤ j → j ≤ 64 → h (1 * 64 + j - 1) = H j) :
    sl_W P N T (nI ((fr_S s b H N P T >>> (48 - 16 * 0)) % 65536)) (nI ((fr_S s b H N P T >>> (48 - 16 * 1)) % 65536)) (nI ((fr_S s b H N P T >>> (48 - 16 * 2)) % 65536)) (nI ((fr_S s b H N P T >>> (48 - 16 * 3)) % 65536)) m h o f fc r := by
  obtain ⟨u1, u2, u3, u4, u5, u6⟩ := sp_unp (q := fr_Q s N P) (P := P) (l := fr_L s b H N P) (ga := fr_G s b H N P) (gf := fr_GF s b H N P T) (sl := fr_SL s b H N P T) (sg := fr_SG s b H N P T) hP (fun m _ => fr_Qb) fr_Lb fr_Gb (fun t _ => Nat.lt_of_lt_of_le (fr_SLb hT) hT8) (fun t _ => fr_SGb) (fr_GFb hT) (S := fr_S s b H N P T) rfl
  have eC : ∀ j, j < P → fr_C s N P (j + 1) = dr_C (fr_S s b H N P T) (j + 1) := fun j hj => by
    show sp_kq (fr_Q s N P (j + 1 - 1)) = sp_kq (dr_Q (fr_S s b H N P T) (j + 1 - 1))
    rw [show j + 1 - 1 = j from rfl, u6 j hj]
  have eU : fr_U s b H N P T = dr_U H (fr_S s b H N P T) P := by
    unfold fr_U dr_U
    rw [u1, u2, u3]
    exact sp_u_c (fun t ht => (u4 t ht).symm) (fun t ht => (u5 t ht).symm)
  rw [eU] at g6 g8 go
  rw [sp_lm_c eC] at g6
  obtain ⟨f0, f1, f2, f3, f7, f11⟩ := g2
  refine ⟨fr_S s b H N P T, b, H, hSb, rfl, rfl, rfl, rfl, fun t ht => ?_, hf, ⟨by rw [u1]; exact f0, by rw [u2]; exact f1, by rw [u3]; exact f2, fun t ht => by rw [u4 t ht]; exact f3 t ht, fun t ht => by rw [u5 t ht]; exact f7 t ht, fun m hm => by rw [u6 m hm]; exact f11 m hm⟩, fun j hj => by rw [u6 j hj]; exact g4 j hj, g6, g8, fun n hn => by rw [go n hn, sp_lo_c eC], hm1, hh1⟩
  rw [u4 t ht]
  exact fr_SLb hT
/-! a step of the law -/
theorem sl_276 {P N T : Nat} {x_reflectionLevels x_pulseLevels x_memory x_history x_output x_fields x_frameCounts x_reflections x_samples x_rawReflections x_target x_impulseResponse x_pastExcitation x_filteredPast x_chosenPulses x_trialPulses x_pulseSigns x_excitation x_receivedFields : Nat → Int32} {x_correlation x_predictor x_oldPredictor : Nat → Int64} {post : Int32 → Prop} {L : Nat} {xs : Nat → Int32} {J : Int64 → Int32 → Int32 → Int32 → Int32 → Int32 → Int32 → Int32 → Int32 → Int32 → Int32 → Int64 → (Nat → Int32) → (Nat → Int32) → (Nat → Int32) → (Nat → Int32) → (Nat → Int32) → (Nat → Int32) → (Nat → Int32) → (Nat → Int32) → (Nat → Int32) → (Nat → Int32) → (Nat → Int64) → (Nat → Int64) → (Nat → Int64) → (Nat → Int32) → (Nat → Int32) → (Nat → Int32) → (Nat → Int32) → (Nat → Int32) → (Nat → Int32) → (Nat → Int32) → (Nat → Int32) → (Nat → Int32) → Prop} {x2 x5 w0 w1 w2 w3 x10 : Int32} {x3 : Int64} {k kc ks c S : Nat} {x13 : Int32} (hJ : sl_J k J) (hB : sl_B P N T c S x_reflectionLevels x_pulseLevels x_samples x_reflections) (hG : sl_G P N T x5 w0 w1 w2 w3 x_memory x_history x_output x_fields x_frameCounts x_reflections) (h13 : x13 = 0 ∨ (¬ x13 = 0 ∧ x5 = 0)) :
    wL_law_276 post L xs J x2 x3 x5 w0 w1 w2 w3 x10 (nI k) x13 kc ks (nI P) (nI N) (nI T) (nI c) (lN S) x_reflectionLevels x_pulseLevels x_memory x_history x_output x_fields x_frameCounts x_reflections x_samples x_rawReflections x_correlation x_predictor x_oldPredictor x_target x_impulseResponse x_pastExcitation x_filteredPast x_chosenPulses x_trialPulses x_pulseSigns x_excitation x_receivedFields := by
  rcases h13 with h13 | ⟨h13, h5⟩
  · exact br_t h13 (sl_c322 hJ hB hG)
  · rcases hG with ⟨_, hA⟩ | ⟨h5', _⟩
    · refine br_f h13 ?_
      have hB0 := hB
      obtain ⟨hP2, hP, hNT, hT2, hT, hc, hS, hs, hk, hg, hr⟩ := hB
      by_cases cc : c = N
      · subst cc
        obtain ⟨a1, a2, a3, a4, a5, a6⟩ := hA
        refine sx_enc (s := x_samples) (b := fun j => x_memory (0 * 6 + j)) (H := fun j => x_history (0 * 64 + j - 1)) rfl hs hP2 hP hNT hT2 hT hk hg (fun j _ => rfl) (fun j _ _ => rfl) (fun raw co pr op F Rf M A tg ir pe fp tp cp ps ex g1 g2 g3 g4 g5 g6 g7 g8 g9 => ?_)
        have hSb := fr_Sb (s := x_samples) (b := fun j => x_memory (0 * 6 + j)) (H := fun j => x_history (0 * 64 + j - 1)) (N := c) (P := P) (T := T) hP (by omega) hT
        refine br_f (by decide) (sx_gw (i := 0) hSb (by omega) (sx_gw (i := 1) hSb (by omega) (sx_gw (i := 2) hSb (by omega) (sx_gw (i := 3) hSb (by omega) ?_))))
        refine sl_c322 (c := 0) hJ ⟨hP2, hP, hNT, hT2, hT, by omega, hSb, hs, hk, hg, ?_⟩ (Or.inr ⟨rfl, ?_⟩)
        · intro sd hsd m hm
          have q : sd = 0 ∨ sd = 1 := by omega
          rcases q with rfl | rfl
          · rw [g4 m hm]
            exact sp_kq_s _ fr_Qb
          · rw [g5 _ (by omega)]
            exact hr 1 (by omega) m hm
        · exact sl_mkW hP (by omega) hT hSb g2 g4 g6 g8 (fun n hn => sp_fo_in hn) (by rw [pk_us, pk_un (by omega), a6]) (fun j hj => by rw [g7 _ (by omega) (by omega)]; exact (a1 j hj).symm) (fun j h1 h2 => by rw [g9 _ (by omega)]; exact (a2 j h1 h2).symm)
      · exact br_f (nI_ge (by omega) (by omega)) (br_t rfl (sl_c322 hJ hB0 (Or.inl ⟨h5, hA⟩)))
    · rw [h5] at h5'
      exact absurd h5' (by decide)
theorem sl_251 {P N T : Nat} {x_reflectionLevels x_pulseLevels x_memory x_history x_output x_fields x_frameCounts x_reflections x_samples x_rawReflections x_target x_impulseResponse x_pastExcitation x_filteredPast x_chosenPulses x_trialPulses x_pulseSigns x_excitation x_receivedFields : Nat → Int32} {x_correlation x_predictor x_oldPredictor : Nat → Int64} {post : Int32 → Prop} {L : Nat} {xs : Nat → Int32} {J : Int64 → Int32 → Int32 → Int32 → Int32 → Int32 → Int32 → Int32 → Int32 → Int32 → Int32 → Int64 → (Nat → Int32) → (Nat → Int32) → (Nat → Int32) → (Nat → Int32) → (Nat → Int32) → (Nat → Int32) → (Nat → Int32) → (Nat → Int32) → (Nat → Int32) → (Nat → Int32) → (Nat → Int64) → (Nat → Int64) → (Nat → Int64) → (Nat → Int32) → (Nat → Int32) → (Nat → Int32) → (Nat → Int32) → (Nat → Int32) → (Nat → Int32) → (Nat → Int32) → (Nat → Int32) → (Nat → Int32) → Prop} {x2 x5 w0 w1 w2 w3 x10 : Int32} {x3 : Int64} {k kc ks c S : Nat} {x12 x13 : Int32} (hJ : sl_J k J) (hB : sl_B P N T c S x_reflectionLevels x_pulseLevels x_samples x_reflections) (hG : sl_G P N T x5 w0 w1 w2 w3 x_memory x_history x_output x_fields x_frameCounts x_reflections) (h12 : x12 = 0 ∨ (¬ x12 = 0 ∧ x5 = 1)) (h13 : x13 = 0 ∨ (¬ x13 = 0 ∧ x5 = 0)) :
    wL_law_251 post L xs J x2 x3 x5 w0 w1 w2 w3 x10 (nI k) x12 x13 kc ks (nI P) (nI N) (nI T) (nI c) (lN S) x_reflectionLevels x_pulseLevels x_memory x_history x_output x_fields x_frameCounts x_reflections x_samples x_rawReflections x_correlation x_predictor x_oldPredictor x_target x_impulseResponse x_pastExcitation x_filteredPast x_chosenPulses x_trialPulses x_pulseSigns x_excitation x_receivedFields := by
  rcases h12 with h12 | ⟨h12, h5⟩
  · exact br_t h12 (sl_276 hJ hB hG h13)
  · refine br_f h12 ?_
    have h13' : x13 = 0 := by
      rcases h13 with h | ⟨_, h⟩
      · exact h
      · rw [h5] at h
        exact absurd h (by decide)
    rcases hG with ⟨h5', _⟩ | ⟨_, hW⟩
    · rw [h5] at h5'
      exact absurd h5' (by decide)
    · obtain ⟨hP2, hP, hNT, hT2, hT, hc, hS, hs, hk, hg, hr⟩ := hB
      obtain ⟨S', b, H, hS', e0, e1, e2, e3, hfit, hf, hF, hrq, hm0, hh0, ho0, hm1, hh1⟩ := hW
      refine sx_dec (b := b) (H := H) (S := S') hP2 hP hNT hT2 hT (sp_S_of hS' e0 e1 e2 e3) hk hg hm1 hh1 (fun hn => absurd hfit hn) (fun _ F Rf M A pe ps ex rf g2 g3 g4 g5 g6 g7 g8 g9 => ?_)
      refine br_f (by decide) (sl_276 (x5 := 0) hJ ⟨hP2, hP, hNT, hT2, hT, hc, hS, hs, hk, hg, ?_⟩ (Or.inl ⟨rfl, ?_, ?_, ?_, ?_, ?_, ?_⟩) (Or.inl h13'))
      · intro sd hsd m hm
        have q : sd = 0 ∨ sd = 1 := by omega
        rcases q with rfl | rfl
        · rw [g5 _ (by omega)]
          exact hr 0 (by omega) m hm
        · rw [g4 m hm]
          exact sp_kq_s _ dr_Qb
      · intro j hj
        rw [g6 j hj, g7 _ (by omega), hm0 j hj]
      · intro j h1 h2
        rw [g8 j h1 h2, g9 _ (by omega), hh0 j h1 h2]
      · intro n hn
        rw [sp_fo_in hn, sp_fo_out (by omega), ho0 n hn]
      · intro i hi
        rw [g3 _ (by omega)]
        exact sp_FF2 hF g2 i hi
      · intro j hj
        rw [g4 j hj, g5 _ (by omega), hrq j hj]
      · rw [pk_us, pk_un (by omega), hf]
theorem sl_159 {P N T : Nat} {x_reflectionLevels x_pulseLevels x_memory x_history x_output x_fields x_frameCounts x_reflections x_rawReflections x_target x_impulseResponse x_pastExcitation x_filteredPast x_chosenPulses x_trialPulses x_pulseSigns x_excitation x_receivedFields : Nat → Int32} {x_correlation x_predictor x_oldPredictor : Nat → Int64} {post : Int32 → Prop} {L : Nat} {xs : Nat → Int32} {J : Int64 → Int32 → Int32 → Int32 → Int32 → Int32 → Int32 → Int32 → Int32 → Int32 → Int32 → Int64 → (Nat → Int32) → (Nat → Int32) → (Nat → Int32) → (Nat → Int32) → (Nat → Int32) → (Nat → Int32) → (Nat → Int32) → (Nat → Int32) → (Nat → Int32) → (Nat → Int32) → (Nat → Int64) → (Nat → Int64) → (Nat → Int64) → (Nat → Int32) → (Nat → Int32) → (Nat → Int32) → (Nat → Int32) → (Nat → Int32) → (Nat → Int32) → (Nat → Int32) → (Nat → Int32) → (Nat → Int32) → Prop} {x2 x5 w0 w1 w2 w3 x10 : Int32} {x3 : Int64} {k kc ks c S : Nat} {x16 : Int32} (hJ : sl_J k J) (hN : N ≤ 32) (h5 : x5 = 0) (hA : sl_A P N x_memory x_history x_output x_fields x_frameCounts x_reflections) :
    ∀ (d i : Nat) (x3 : Int64) (c : Nat) (s : Nat → Int32), i + d = 32 → sl_B P N T c S x_reflectionLevels x_pulseLevels s x_reflections →
      wL_law_159 post L xs J x2 x5 w0 w1 w2 w3 x10 (nI k) 0 x16 kc ks (d + 1) x3 (nI i) (nI P) (nI N) (nI T) (nI c) (lN S) x_reflectionLevels x_pulseLevels x_memory x_history x_output x_fields x_frameCounts x_reflections s x_rawReflections x_correlation x_predictor x_oldPredictor x_target x_impulseResponse x_pastExcitation x_filteredPast x_chosenPulses x_trialPulses x_pulseSigns x_excitation x_receivedFields := by
  have go : ∀ (x3 : Int64) (c : Nat) (s : Nat → Int32), sl_B P N T c S x_reflectionLevels x_pulseLevels s x_reflections → wL_law_210 post L xs J x2 x3 x5 w0 w1 w2 w3 x10 (nI k) 0 kc ks (nI P) (nI N) (nI T) (nI c) (lN S) x_reflectionLevels x_pulseLevels x_memory x_history x_output x_fields x_frameCounts x_reflections s x_rawReflections x_correlation x_predictor x_oldPredictor x_target x_impulseResponse x_pastExcitation x_filteredPast x_chosenPulses x_trialPulses x_pulseSigns x_excitation x_receivedFields := by
    intro x3 c s hB
    unfold wL_law_210 wL_law_244
    exact sl_251 hJ hB (Or.inl ⟨h5, hA⟩) (Or.inl rfl) (Or.inr ⟨by decide, h5⟩)
  intro d
  induction d with
  | zero =>
    intro i x3 c s hi hB
    obtain rfl : i = 32 := by omega
    exact br_t (nI_le (a := 32) (by omega) (by omega)) (go x3 c s hB)
  | succ d ih =>
    intro i x3 c s hi hB
    refine br_f (nI_ge (b := 32) (by omega) (by omega)) ?_
    unfold wpX_getPending
    dsimp only
    refine br_c (fun _ => go x3 c s hB) (fun _ => nm_e ?_)
    obtain ⟨hP2, hP, hNT, hT2, hT, hc, hS, hs, hk, hg, hr⟩ := hB
    exact sl_put hN hc hs (fun r c' s' hc' hs' => nm_r (nI_1 i) (ih (i + 1) _ c' s' (by omega) ⟨hP2, hP, hNT, hT2, hT, hc', hS, hs', hk, hg, hr⟩))
