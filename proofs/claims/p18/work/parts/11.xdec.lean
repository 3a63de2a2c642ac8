/-! the component's decodeFrame -/
def dr_Q (S m : Nat) : Nat := sp_rd S (4 * m) 4
def dr_L (S P : Nat) : Nat := sp_rd S (4 * P) 5
def dr_G (S P : Nat) : Nat := sp_rd S (4 * P + 5) 3
def dr_SL (S P t : Nat) : Nat := sp_rd S (4 * P + 8 + 4 * t) 3
def dr_SG (S P t : Nat) : Nat := sp_rd S (4 * P + 8 + 4 * t + 3) 1
def dr_GF (S P : Nat) : Nat := sp_rd S (4 * P + 24) 4
def dr_C (S j : Nat) : Int32 := sp_kq (dr_Q S (j - 1))
def dr_U (H : Nat → Int32) (S P : Nat) : Nat → Int32 := sp_u H (dr_L S P) (dr_G S P) (dr_GF S P) (dr_SL S P) (dr_SG S P)
theorem sp_msk : ∀ k, k < 16 → (((1 : Int32) <<< (nI k &&& 31)) - 1).toBitVec.toNat = 2 ^ k - 1 := by decide +kernel
theorem sx_ba {post : Int32 → Prop} {S c k : Nat} {p1 p2 : Int32} (hS : S < 2 ^ 64) (hk : 1 ≤ k) (hk2 : k < 16) (hc : c + k ≤ 64) (h : post (nI (sp_rd S c k))) (e1 : p1 = nI c := by rfl) (e2 : p2 = nI k := by rfl) : wpX_bitsAt post () (lN S) p1 p2 := by
  subst e1 e2
  unfold wpX_bitsAt
  rw [show (64 : Int32) - nI c = nI (64 - c) from pk_sub (a := 64) (by omega), pk_sub (by omega), sp_bits hS hc (by omega) rfl (by omega) (sp_msk k hk2)]
  exact h
theorem sx_uf71 {P N T : Nat} {x_pending : Int32} {x_encodedStream : Int64} {x_reflectionLevels x_pulseLevels x_memory x_history x_output x_fields x_frameCounts x_reflections x_samples x_rawReflections x_target x_impulseResponse x_pastExcitation x_filteredPast x_chosenPulses x_trialPulses x_pulseSigns x_excitation x_receivedFields : Nat → Int32} {x_correlation x_predictor x_oldPredictor : Nat → Int64} {post : St2 → Prop} {S : Nat} (hS : S < 2 ^ 64) (hP : P ≤ 6)
    (h : ∀ rf, (∀ t, t < 4 → rf (3 + t) = nI (dr_SL S P t)) → (∀ t, t < 4 → rf (7 + t) = nI (dr_SG S P t)) → rf 2 = nI (dr_GF S P) → (∀ j, j < 2 ∨ 11 ≤ j → rf j = x_receivedFields j) → post ((nI P), (nI N), (nI T), x_pending, x_encodedStream, x_reflectionLevels, x_pulseLevels, x_memory, x_history, x_output, x_fields, x_frameCounts, x_reflections, x_samples, x_rawReflections, x_correlation, x_predictor, x_oldPredictor, x_target, x_impulseResponse, x_pastExcitation, x_filteredPast, x_chosenPulses, x_trialPulses, x_pulseSigns, x_excitation, rf)) :
    ∀ d t rf, t + d = 4 → (∀ k, k < t → rf (3 + k) = nI (dr_SL S P k)) → (∀ k, k < t → rf (7 + k) = nI (dr_SG S P k)) → (∀ j, j < 2 ∨ 11 ≤ j → rf j = x_receivedFields j) →
      wX_unpackFields_71 post (lN S) (nI P) (nI N) (nI T) x_pending x_encodedStream (d + 1) (nI (4 * P + 8 + 4 * t)) (nI t) x_reflectionLevels x_pulseLevels x_memory x_history x_output x_fields x_frameCounts x_reflections x_samples x_rawReflections x_correlation x_predictor x_oldPredictor x_target x_impulseResponse x_pastExcitation x_filteredPast x_chosenPulses x_trialPulses x_pulseSigns x_excitation rf := by
  intro d
  induction d with
  | zero =>
    intro t rf ht h3 h7 hf
    obtain rfl : t = 4 := by omega
    refine br_t (nI_le (a := 4) (by omega) (by omega)) (sx_ba (c := 4 * P + 24) (k := 4) hS (by omega) (by omega) (by omega) (nm_e (h _ ?_ ?_ ?_ ?_)))
    · intro k hk
      rw [pk_un (by omega)]
      exact h3 k hk
    · intro k hk
      rw [pk_un (by omega)]
      exact h7 k hk
    · rw [pk_us]
      rfl
    · intro j hj
      rw [pk_un (by omega)]
      exact hf j hj
  | succ d ih =>
    intro t rf ht h3 h7 hf
    have e3 : (3 : Int32) + nI t = nI (3 + t) := nI_add 3 t
    have e7 : (7 : Int32) + nI t = nI (7 + t) := nI_add 7 t
    refine br_f (nI_ge (b := 4) (by omega) (by omega)) (sx_ba (c := 4 * P + 8 + 4 * t) (k := 3) hS (by omega) (by omega) (by omega) ⟨pk_in (3 + t) 17 (by omega) e3, nm_e (sx_ba (c := 4 * P + 8 + 4 * t + 3) (k := 1) hS (by omega) (by omega) (by omega) ⟨pk_in (7 + t) 17 (by omega) e7, nm_e (nm_r (e' := nI (4 * P + 8 + 4 * (t + 1))) (nI_add _ 4) (nm_r (nI_1 t) (ih (t + 1) _ (by omega) ?_ ?_ ?_)))⟩ (nI_add _ 3))⟩)
    · intro k hk
      rw [e3, e7, nI_clamp (by omega), nI_clamp (by omega)]
      by_cases c : k = t
      · subst c
        rw [pk_un (by omega), pk_us]
        rfl
      · rw [pk_un (by omega), pk_un (by omega)]
        exact h3 k (by omega)
    · intro k hk
      rw [e3, e7, nI_clamp (by omega), nI_clamp (by omega)]
      by_cases c : k = t
      · subst c
        rw [pk_us]
        rfl
      · rw [pk_un (by omega), pk_un (by omega)]
        exact h7 k (by omega)
    · intro j hj
      rw [e3, e7, nI_clamp (by omega), nI_clamp (by omega), pk_un (by omega), pk_un (by omega)]
      exact hf j hj
theorem sx_uf5 {P N T : Nat} {x_pending : Int32} {x_encodedStream : Int64} {x_reflectionLevels x_pulseLevels x_memory x_history x_output x_fields x_frameCounts x_reflections x_samples x_rawReflections x_target x_impulseResponse x_pastExcitation x_filteredPast x_chosenPulses x_trialPulses x_pulseSigns x_excitation : Nat → Int32} {x_correlation x_predictor x_oldPredictor : Nat → Int64} {post : St2 → Prop} {S : Nat} (hS : S < 2 ^ 64) (hP : P ≤ 6)
    (h : ∀ rf, sp_FF rf 0 P (dr_L S P) (dr_G S P) (dr_GF S P) (dr_SL S P) (dr_SG S P) (dr_Q S) → post ((nI P), (nI N), (nI T), x_pending, x_encodedStream, x_reflectionLevels, x_pulseLevels, x_memory, x_history, x_output, x_fields, x_frameCounts, x_reflections, x_samples, x_rawReflections, x_correlation, x_predictor, x_oldPredictor, x_target, x_impulseResponse, x_pastExcitation, x_filteredPast, x_chosenPulses, x_trialPulses, x_pulseSigns, x_excitation, rf)) :
    ∀ d m rf, m + d = P → (∀ k, k < m → rf (11 + k) = nI (dr_Q S k)) →
      wX_unpackFields_5 post (lN S) (nI P) (nI N) (nI T) x_pending x_encodedStream (d + 1) (nI (4 * m)) (nI m) x_reflectionLevels x_pulseLevels x_memory x_history x_output x_fields x_frameCounts x_reflections x_samples x_rawReflections x_correlation x_predictor x_oldPredictor x_target x_impulseResponse x_pastExcitation x_filteredPast x_chosenPulses x_trialPulses x_pulseSigns x_excitation rf := by
  intro d
  induction d with
  | zero =>
    intro m rf hm hq
    obtain rfl : m = P := by omega
    refine br_t (nI_le (by omega) (by omega)) (sx_ba (c := 4 * m) (k := 5) hS (by omega) (by omega) (by omega) (nm_e (sx_ba (c := 4 * m + 5) (k := 3) hS (by omega) (by omega) (by omega) (nm_e (nm_r (e' := nI (4 * m + 8 + 4 * 0)) (nI_add _ 8) (Exists.intro (4 + 1) ?_))) (nI_add _ 5))))
    refine sx_uf71 hS hP (fun rf' g3 g7 g2 gf => h rf' ⟨?_, ?_, g2, ?_, ?_, ?_⟩) 4 0 _ (by omega) (fun k hk => absurd hk (by omega)) (fun k hk => absurd hk (by omega)) (fun _ _ => rfl)
    · rw [gf (0 + 0) (by omega), pk_un (by omega), pk_us]
      rfl
    · rw [gf (0 + 1) (by omega), pk_us]
      rfl
    · intro t ht
      rw [show 0 + 3 + t = 3 + t from by omega]
      exact g3 t ht
    · intro t ht
      rw [show 0 + 7 + t = 7 + t from by omega]
      exact g7 t ht
    · intro k hk
      rw [show 0 + 11 + k = 11 + k from by omega, gf (11 + k) (by omega), pk_un (by omega), pk_un (by omega)]
      exact hq k hk
  | succ d ih =>
    intro m rf hm hq
    have e : (11 : Int32) + nI m = nI (11 + m) := nI_add 11 m
    refine br_f (nI_ge (by omega) (by omega)) (sx_ba (c := 4 * m) (k := 4) hS (by omega) (by omega) (by omega) ⟨pk_in (11 + m) 17 (by omega) e, nm_e (nm_r (e' := nI (4 * (m + 1))) (nI_add _ 4) (nm_r (nI_1 m) (ih (m + 1) _ (by omega) ?_)))⟩)
    intro k hk
    rw [e, nI_clamp (by omega)]
    by_cases c : k = m
    · subst c
      rw [pk_us]
      rfl
    · rw [pk_un (by omega)]
      exact hq k (by omega)
theorem sx_uf {P N T : Nat} {x_pending : Int32} {x_encodedStream : Int64} {x_reflectionLevels x_pulseLevels x_memory x_history x_output x_fields x_frameCounts x_reflections x_samples x_rawReflections x_target x_impulseResponse x_pastExcitation x_filteredPast x_chosenPulses x_trialPulses x_pulseSigns x_excitation x_receivedFields : Nat → Int32} {x_correlation x_predictor x_oldPredictor : Nat → Int64} {post : St2 → Prop} {S : Nat} (hS : S < 2 ^ 64) (hP : P ≤ 6)
    (h : ∀ rf, sp_FF rf 0 P (dr_L S P) (dr_G S P) (dr_GF S P) (dr_SL S P) (dr_SG S P) (dr_Q S) → post ((nI P), (nI N), (nI T), x_pending, x_encodedStream, x_reflectionLevels, x_pulseLevels, x_memory, x_history, x_output, x_fields, x_frameCounts, x_reflections, x_samples, x_rawReflections, x_correlation, x_predictor, x_oldPredictor, x_target, x_impulseResponse, x_pastExcitation, x_filteredPast, x_chosenPulses, x_trialPulses, x_pulseSigns, x_excitation, rf)) : wpX_unpackFields post ((nI P), (nI N), (nI T), x_pending, x_encodedStream, x_reflectionLevels, x_pulseLevels, x_memory, x_history, x_output, x_fields, x_frameCounts, x_reflections, x_samples, x_rawReflections, x_correlation, x_predictor, x_oldPredictor, x_target, x_impulseResponse, x_pastExcitation, x_filteredPast, x_chosenPulses, x_trialPulses, x_pulseSigns, x_excitation, x_receivedFields) (lN S) :=
  Exists.intro (P + 1) (sx_uf5 hS hP h P 0 x_receivedFields (by omega) (fun k hk => absurd hk (by omega)))
theorem sx_rs2 {P N T : Nat} {x_pending : Int32} {x_encodedStream : Int64} {x_reflectionLevels x_pulseLevels x_memory x_history x_output x_fields x_frameCounts x_reflections x_samples x_rawReflections x_target x_impulseResponse x_pastExcitation x_filteredPast x_chosenPulses x_trialPulses x_pulseSigns x_excitation x_receivedFields : Nat → Int32} {x_correlation x_predictor x_oldPredictor : Nat → Int64} {post : Int32 → Prop} {sl : Nat → Nat} (hT : T ≤ 8) (hb : ∀ t, t < 4 → sl t < 8) (h3 : ∀ t, t < 4 → x_receivedFields (3 + t) = nI (sl t))
    (h1 : (∀ t, t < 4 → sl t < T) → post 1) (h0 : ¬ (∀ t, t < 4 → sl t < T) → post 0) :
    ∀ d t, t + d = 4 → (∀ k, k < t → sl k < T) → wX_receivedSlotsFit_2 post (nI P) (nI N) (nI T) x_pending x_encodedStream x_reflectionLevels x_pulseLevels x_memory x_history x_output x_fields x_frameCounts x_reflections x_samples x_rawReflections x_correlation x_predictor x_oldPredictor x_target x_impulseResponse x_pastExcitation x_filteredPast x_chosenPulses x_trialPulses x_pulseSigns x_excitation x_receivedFields (d + 1) (nI t) := by
  intro d
  induction d with
  | zero =>
    intro t ht hk
    obtain rfl : t = 4 := by omega
    exact br_t (nI_le (a := 4) (by omega) (by omega)) (h1 hk)
  | succ d ih =>
    intro t ht hk
    have e3 : (3 : Int32) + nI t = nI (3 + t) := nI_add 3 t
    refine br_f (nI_ge (b := 4) (by omega) (by omega)) ⟨pk_in (3 + t) 17 (by omega) e3, ?_⟩
    have b := hb t (by omega)
    rw [e3, nI_clamp (by omega), h3 t (by omega)]
    by_cases c : sl t < T
    · refine br_t (nI_lt c (by omega)) (nm_r (nI_1 t) (ih (t + 1) (by omega) (fun k hk' => ?_)))
      by_cases e : k = t
      · rw [e]
        exact c
      · exact hk k (by omega)
    · exact br_f (nI_nlt (by omega) (by omega)) (h0 (fun z => c (z t (by omega))))
theorem sx_rs {P N T : Nat} {x_pending : Int32} {x_encodedStream : Int64} {x_reflectionLevels x_pulseLevels x_memory x_history x_output x_fields x_frameCounts x_reflections x_samples x_rawReflections x_target x_impulseResponse x_pastExcitation x_filteredPast x_chosenPulses x_trialPulses x_pulseSigns x_excitation x_receivedFields : Nat → Int32} {x_correlation x_predictor x_oldPredictor : Nat → Int64} {post : Int32 → Prop} {sl : Nat → Nat} (hT : T ≤ 8) (hb : ∀ t, t < 4 → sl t < 8) (h3 : ∀ t, t < 4 → x_receivedFields (3 + t) = nI (sl t))
    (h1 : (∀ t, t < 4 → sl t < T) → post 1) (h0 : ¬ (∀ t, t < 4 → sl t < T) → post 0) : wpX_receivedSlotsFit post ((nI P), (nI N), (nI T), x_pending, x_encodedStream, x_reflectionLevels, x_pulseLevels, x_memory, x_history, x_output, x_fields, x_frameCounts, x_reflections, x_samples, x_rawReflections, x_correlation, x_predictor, x_oldPredictor, x_target, x_impulseResponse, x_pastExcitation, x_filteredPast, x_chosenPulses, x_trialPulses, x_pulseSigns, x_excitation, x_receivedFields) :=
  Exists.intro (4 + 1) (sx_rs2 hT hb h3 h1 h0 4 0 (by omega) (fun k hk => absurd hk (by omega)))
theorem sx_sr36 {P N T : Nat} {x_pending : Int32} {x_encodedStream : Int64} {x_reflectionLevels x_pulseLevels x_memory x_history x_output x_fields x_frameCounts x_reflections x_samples x_rawReflections x_target x_impulseResponse x_pastExcitation x_filteredPast x_chosenPulses x_trialPulses x_pulseSigns x_excitation x_receivedFields : Nat → Int32} {x_correlation x_predictor x_oldPredictor : Nat → Int64} {post : St2 → Prop} {q : Nat → Nat} (hP : P ≤ 6) (hk : ∀ j, j < 16 → x_reflectionLevels j = sp_kq j) (hq : ∀ m, m < P → x_receivedFields (11 + m) = nI (q m) ∧ q m < 16)
    (h : post ((nI P), (nI N), (nI T), x_pending, x_encodedStream, x_reflectionLevels, x_pulseLevels, x_memory, x_history, x_output, x_fields, x_frameCounts, (sp_fo (fun m => sp_kq (q m)) 6 P x_reflections), x_samples, x_rawReflections, x_correlation, x_predictor, x_oldPredictor, x_target, x_impulseResponse, x_pastExcitation, x_filteredPast, x_chosenPulses, x_trialPulses, x_pulseSigns, x_excitation, x_receivedFields)) :
    ∀ d i, i + d = P → wX_storeReceivedFields_36 post (nI P) (nI N) (nI T) x_pending x_encodedStream (d + 1) (nI i) x_reflectionLevels x_pulseLevels x_memory x_history x_output x_fields x_frameCounts (sp_fo (fun m => sp_kq (q m)) 6 i x_reflections) x_samples x_rawReflections x_correlation x_predictor x_oldPredictor x_target x_impulseResponse x_pastExcitation x_filteredPast x_chosenPulses x_trialPulses x_pulseSigns x_excitation x_receivedFields := by
  intro d
  induction d with
  | zero =>
    intro i hi
    obtain rfl : i = P := by omega
    exact br_t (nI_le (by omega) (by omega)) h
  | succ d ih =>
    intro i hi
    have e : (11 : Int32) + nI i = nI (11 + i) := nI_add 11 i
    have e6 : (6 : Int32) + nI i = nI (6 + i) := nI_add 6 i
    have o := hq i (by omega)
    have c : x_receivedFields ((11 : Int32) + nI i).toNatClampNeg = nI (q i) := by
      rw [e, nI_clamp (by omega)]
      exact o.1
    refine br_f (nI_ge (by omega) (by omega)) ⟨pk_in (11 + i) 17 (by omega) e, pk_in (q i) 16 o.2 c, pk_in (6 + i) 12 (by omega) e6, nm_r ?_ (nm_r (nI_1 i) (ih (i + 1) (by omega)))⟩
    rw [c, e6, nI_clamp (by omega), nI_clamp (by omega), hk _ o.2]
    exact sp_foS (g := fun m => sp_kq (q m))
theorem sx_sr2 {P N T : Nat} {x_pending : Int32} {x_encodedStream : Int64} {x_reflectionLevels x_pulseLevels x_memory x_history x_output x_fields x_frameCounts x_reflections x_samples x_rawReflections x_target x_impulseResponse x_pastExcitation x_filteredPast x_chosenPulses x_trialPulses x_pulseSigns x_excitation x_receivedFields : Nat → Int32} {x_correlation x_predictor x_oldPredictor : Nat → Int64} {post : St2 → Prop} {q : Nat → Nat} (hP : P ≤ 6) (hk : ∀ j, j < 16 → x_reflectionLevels j = sp_kq j) (hq : ∀ m, m < P → x_receivedFields (11 + m) = nI (q m) ∧ q m < 16)
    (h : post ((nI P), (nI N), (nI T), x_pending, x_encodedStream, x_reflectionLevels, x_pulseLevels, x_memory, x_history, x_output, (sp_fo x_receivedFields 17 (11 + P) x_fields), x_frameCounts, (sp_fo (fun m => sp_kq (q m)) 6 P x_reflections), x_samples, x_rawReflections, x_correlation, x_predictor, x_oldPredictor, x_target, x_impulseResponse, x_pastExcitation, x_filteredPast, x_chosenPulses, x_trialPulses, x_pulseSigns, x_excitation, x_receivedFields)) :
    ∀ d i, i + d = 11 + P → wX_storeReceivedFields_2 post (nI P) (nI N) (nI T) x_pending x_encodedStream (d + 1) (nI i) x_reflectionLevels x_pulseLevels x_memory x_history x_output (sp_fo x_receivedFields 17 i x_fields) x_frameCounts x_reflections x_samples x_rawReflections x_correlation x_predictor x_oldPredictor x_target x_impulseResponse x_pastExcitation x_filteredPast x_chosenPulses x_trialPulses x_pulseSigns x_excitation x_receivedFields := by
  have eP : (11 : Int32) + nI P = nI (11 + P) := nI_add 11 P
  intro d
  induction d with
  | zero =>
    intro i hi
    obtain rfl : i = 11 + P := by omega
    have t := sx_sr36 (x_reflections := x_reflections) (x_fields := sp_fo x_receivedFields 17 (11 + P) x_fields) hP hk hq h P 0 (by omega)
    rw [sp_fo0] at t
    exact br_t (by rw [eP]; exact nI_le (by omega) (by omega)) ⟨P + 1, t⟩
  | succ d ih =>
    intro i hi
    have e : (17 : Int32) + nI i = nI (17 + i) := nI_add 17 i
    refine br_f (by rw [eP]; exact nI_ge (by omega) (by omega)) ⟨vp_in_nI (by omega) (by omega), pk_in (17 + i) 34 (by omega) e, nm_r ?_ (nm_r (nI_1 i) (ih (i + 1) (by omega)))⟩
    rw [e, nI_clamp (by omega), nI_clamp (by omega)]
    exact sp_foS
theorem sx_sr {P N T : Nat} {x_pending : Int32} {x_encodedStream : Int64} {x_reflectionLevels x_pulseLevels x_memory x_history x_output x_fields x_frameCounts x_reflections x_samples x_rawReflections x_target x_impulseResponse x_pastExcitation x_filteredPast x_chosenPulses x_trialPulses x_pulseSigns x_excitation x_receivedFields : Nat → Int32} {x_correlation x_predictor x_oldPredictor : Nat → Int64} {post : St2 → Prop} {q : Nat → Nat} (hP : P ≤ 6) (hk : ∀ j, j < 16 → x_reflectionLevels j = sp_kq j) (hq : ∀ m, m < P → x_receivedFields (11 + m) = nI (q m) ∧ q m < 16)
    (h : post ((nI P), (nI N), (nI T), x_pending, x_encodedStream, x_reflectionLevels, x_pulseLevels, x_memory, x_history, x_output, (sp_fo x_receivedFields 17 (11 + P) x_fields), x_frameCounts, (sp_fo (fun m => sp_kq (q m)) 6 P x_reflections), x_samples, x_rawReflections, x_correlation, x_predictor, x_oldPredictor, x_target, x_impulseResponse, x_pastExcitation, x_filteredPast, x_chosenPulses, x_trialPulses, x_pulseSigns, x_excitation, x_receivedFields)) : wpX_storeReceivedFields post ((nI P), (nI N), (nI T), x_pending, x_encodedStream, x_reflectionLevels, x_pulseLevels, x_memory, x_history, x_output, x_fields, x_frameCounts, x_reflections, x_samples, x_rawReflections, x_correlation, x_predictor, x_oldPredictor, x_target, x_impulseResponse, x_pastExcitation, x_filteredPast, x_chosenPulses, x_trialPulses, x_pulseSigns, x_excitation, x_receivedFields) := by
  have t := sx_sr2 hP hk hq h (11 + P) 0 (by omega)
  rw [sp_fo0] at t
  exact Exists.intro _ t
theorem dr_SLb {S P t : Nat} : dr_SL S P t < 8 := sp_rd_b _ _ 3
theorem dr_Qb {S m : Nat} : dr_Q S m < 16 := sp_rd_b _ _ 4
theorem sp_FF_fo {rf F : Nat → Int32} {P l ga gf : Nat} {sl sg q : Nat → Nat} (h : sp_FF rf 0 P l ga gf sl sg q) : sp_FF (sp_fo rf 17 (11 + P) F) (1 * 17) P l ga gf sl sg q := by
  obtain ⟨h0, h1, h2, h3, h7, h11⟩ := h
  refine ⟨?_, ?_, ?_, fun t ht => ?_, fun t ht => ?_, fun m hm => ?_⟩
  · exact (sp_fo_in (B := 17) (j := 0) (by omega)).trans h0
  · exact (sp_fo_in (B := 17) (j := 1) (by omega)).trans h1
  · exact (sp_fo_in (B := 17) (j := 2) (by omega)).trans h2
  · rw [show 1 * 17 + 3 + t = 17 + (0 + 3 + t) from by omega]
    exact (sp_fo_in (by omega)).trans (h3 t ht)
  · rw [show 1 * 17 + 7 + t = 17 + (0 + 7 + t) from by omega]
    exact (sp_fo_in (by omega)).trans (h7 t ht)
  · rw [show 1 * 17 + 11 + m = 17 + (0 + 11 + m) from by omega]
    exact (sp_fo_in (by omega)).trans (h11 m hm)
theorem sx_dec {P N T : Nat} {x_pending : Int32} {x_encodedStream : Int64} {x_reflectionLevels x_pulseLevels x_memory x_history x_output x_fields x_frameCounts x_reflections x_samples x_rawReflections x_target x_impulseResponse x_pastExcitation x_filteredPast x_chosenPulses x_trialPulses x_pulseSigns x_excitation x_receivedFields : Nat → Int32} {x_correlation x_predictor x_oldPredictor : Nat → Int64} {post : Int32 → St2 → Prop} {b H : Nat → Int32} {p0 p1 p2 p3 : Int32} {S : Nat} (hP2 : 2 ≤ P) (hP : P ≤ 6) (hNT : N = 4 * T) (hT2 : 2 ≤ T) (hT : T ≤ 8)
    (eS : S = sp_S (p0.toBitVec.toNat % 65536) (p1.toBitVec.toNat % 65536) (p2.toBitVec.toNat % 65536) (p3.toBitVec.toNat % 65536))
    (hk : ∀ j, j < 16 → x_reflectionLevels j = sp_kq j) (hg : ∀ j, j < 16 → x_pulseLevels j = sp_fg j)
    (hb : sp_row (1 * 6) P x_memory b) (hH : ∀ j, 1 ≤ j → j ≤ 64 → x_history (1 * 64 + j - 1) = H j)
    (h0 : ¬ (∀ t, t < 4 → dr_SL S P t < T) → ∀ rf, post 0 ((nI P), (nI N), (nI T), x_pending, x_encodedStream, x_reflectionLevels, x_pulseLevels, x_memory, x_history, x_output, x_fields, x_frameCounts, x_reflections, x_samples, x_rawReflections, x_correlation, x_predictor, x_oldPredictor, x_target, x_impulseResponse, x_pastExcitation, x_filteredPast, x_chosenPulses, x_trialPulses, x_pulseSigns, x_excitation, rf))
    (h1 : (∀ t, t < 4 → dr_SL S P t < T) → ∀ F Rf M A pe ps ex rf,
      sp_FF F (1 * 17) P (dr_L S P) (dr_G S P) (dr_GF S P) (dr_SL S P) (dr_SG S P) (dr_Q S) → (∀ j, j < 17 → F j = x_fields j) →
      (∀ j, j < P → Rf (1 * 6 + j) = sp_kq (dr_Q S j)) → (∀ j, j < 6 → Rf j = x_reflections j) →
      sp_row (1 * 6) P M (sp_lm (dr_C S) P b (dr_U H S P) N) → (∀ q, q < 6 → M q = x_memory q) →
      (∀ j, 1 ≤ j → j ≤ 64 → A (1 * 64 + j - 1) = sp_nh N (dr_U H S P) H j) → (∀ q, q < 64 → A q = x_history q) →
      post 1 ((nI P), (nI N), (nI T), x_pending, x_encodedStream, x_reflectionLevels, x_pulseLevels, M, A, (sp_fo (sp_lo (dr_C S) P b (dr_U H S P)) (1 * 32) N x_output), F, (upd x_frameCounts 1 (x_frameCounts 1 + 1)), Rf, x_samples, x_rawReflections, x_correlation, x_predictor, x_oldPredictor, x_target, x_impulseResponse, pe, x_filteredPast, x_chosenPulses, x_trialPulses, ps, ex, rf)) :
    wpX_decodeFrame post ((nI P), (nI N), (nI T), x_pending, x_encodedStream, x_reflectionLevels, x_pulseLevels, x_memory, x_history, x_output, x_fields, x_frameCounts, x_reflections, x_samples, x_rawReflections, x_correlation, x_predictor, x_oldPredictor, x_target, x_impulseResponse, x_pastExcitation, x_filteredPast, x_chosenPulses, x_trialPulses, x_pulseSigns, x_excitation, x_receivedFields) p0 p1 p2 p3 := by
  have hS : S < 2 ^ 64 := by
    rw [eS]
    exact sp_S_b (Nat.mod_lt _ (by decide)) (Nat.mod_lt _ (by decide)) (Nat.mod_lt _ (by decide)) (Nat.mod_lt _ (by decide))
  refine nm_r (e' := lN S) ?_ (sx_uf hS hP (fun rf hrf => ?_))
  · rw [sp_lo16, sp_lo16, sp_lo16, sp_lo16, eS]
    exact sp_S_l (Nat.mod_lt _ (by decide)) (Nat.mod_lt _ (by decide)) (Nat.mod_lt _ (by decide)) (Nat.mod_lt _ (by decide))
  have r3 : ∀ t, t < 4 → rf (3 + t) = nI (dr_SL S P t) := fun t ht => by
    have q := hrf.2.2.2.1 t ht
    rw [show 0 + 3 + t = 3 + t from by omega] at q
    exact q
  have r11 : ∀ m, m < P → rf (11 + m) = nI (dr_Q S m) := fun m hm => by
    have q := hrf.2.2.2.2.2 m hm
    rw [show 0 + 11 + m = 11 + m from by omega] at q
    exact q
  refine sx_rs hT (fun t _ => dr_SLb) r3 (fun hfit => ?_) (fun hn => ?_)
  · refine br_f (by decide) (sx_sr hP hk (fun m hm => ⟨r11 m hm, dr_Qb⟩) ?_)
    have hF := sp_FF_fo (F := x_fields) hrf
    refine sx_syn (sd := 1) (c := dr_C S) (b := b) (H := H) (l := dr_L S P) (ga := dr_G S P) (gf := dr_GF S P) (sl := dr_SL S P) (sg := dr_SG S P) (by omega) hP (by omega) hNT hT (by omega) hg hb (fun j hj => sp_fo_in hj) hH hF.1 (sp_rd_b _ _ 5) hF.2.1 hF.2.2.1 (sp_rd_b _ _ 4) (fun t ht => ⟨hF.2.2.2.1 t ht, hfit t ht⟩) (fun t ht => ⟨hF.2.2.2.2.1 t ht, sp_rd_b _ _ 1⟩) (fun M A pe ps ex q1 q2 q3 q4 => ?_)
    exact h1 hfit _ _ M A pe ps ex rf hF (fun j hj => sp_fo_out (by omega)) (fun j hj => sp_fo_in hj) (fun j hj => sp_fo_out (by omega)) q1 (fun q hq => q2 q (by omega)) q3 (fun q hq => q4 q (by omega))
  · exact br_t rfl (h0 hn rf)
