/-! the owed statements, the readers first -/
theorem sx_sideN {post : Int32 → Prop} {p : Int32} (h : p < 0) (hp : post 0) : wpX_isSide post p := by
  refine br_f (fun e => ?_) (br_f (fun e => ?_) hp)
  · rw [e] at h
    exact absurd h (by decide)
  · rw [e] at h
    exact absurd h (by decide)
theorem sx_sideB {post : Int32 → Prop} {a : Nat} (ha : 2 ≤ a) (h31 : a < 2 ^ 31) (hp : post 0) : wpX_isSide post (nI a) :=
  br_f (fun e => by
    have := (nI_eq (b := 0) h31 (by omega)).mp e
    omega) (br_f (fun e => by
    have := (nI_eq (b := 1) h31 (by omega)).mp e
    omega) hp)
theorem sx_sideO {post : Int32 → Prop} {a : Nat} (ha : a < 2) (hp : post 1) : wpX_isSide post (nI a) := by
  have : a = 0 ∨ a = 1 := by omega
  rcases this with rfl | rfl
  · exact br_t rfl hp
  · exact br_f (by decide) (br_t rfl hp)
theorem sp_ge1 {x : Int32} (h : ¬ x < 1) : ∃ m : Nat, 1 ≤ m ∧ m < 2 ^ 31 ∧ x = nI m := by
  have p : ¬ x < 0 := fun z => h (Int32.lt_trans z (by decide))
  obtain ⟨m, hm, rfl⟩ := nI_of p
  refine ⟨m, ?_, hm, rfl⟩
  by_cases z : m = 0
  · subst z
    exact absurd (show nI 0 < 1 from by decide) h
  · omega
theorem i_vc_getOrder {k : Nat} {u : SX} {v : SY} (I : i_Rel k u v) (hk : k + 5 ≤ 2562) : wpX_getOrder (fun r => wpY_getOrder (fun r' => r' = r ∧ i_Rel (k + 5) u v) v) u := by
  have J : i_Rel (k + 5) u v := I
  obtain ⟨P, N, T, c, S, x_reflectionLevels, x_pulseLevels, x_memory, x_history, x_output, x_fields, x_frameCounts, x_reflections, x_samples, x_rawReflections, x_target, x_impulseResponse, x_pastExcitation, x_filteredPast, x_chosenPulses, x_trialPulses, x_pulseSigns, x_excitation, x_receivedFields, x_correlation, x_predictor, x_oldPredictor, y_cur, y_kq, y_fg, y_mem, y_hist, y_out, y_fld, y_fc, y_made, y_rawK, y_q, y_words, y_dw, y_tf, y_cw, y_x, y_x2, y_h, y_v, y_y, y_z, y_u, y_cp, y_oldH, y_encSlot, y_encSign, y_R, y_r, y_a, y_ao, rfl, rfl, hA, hS⟩ := I
  exact ⟨rfl, J⟩
theorem i_vc_getFrameLength {k : Nat} {u : SX} {v : SY} (I : i_Rel k u v) (hk : k + 5 ≤ 2562) : wpX_getFrameLength (fun r => wpY_getFrameLength (fun r' => r' = r ∧ i_Rel (k + 5) u v) v) u := by
  have J : i_Rel (k + 5) u v := I
  obtain ⟨P, N, T, c, S, x_reflectionLevels, x_pulseLevels, x_memory, x_history, x_output, x_fields, x_frameCounts, x_reflections, x_samples, x_rawReflections, x_target, x_impulseResponse, x_pastExcitation, x_filteredPast, x_chosenPulses, x_trialPulses, x_pulseSigns, x_excitation, x_receivedFields, x_correlation, x_predictor, x_oldPredictor, y_cur, y_kq, y_fg, y_mem, y_hist, y_out, y_fld, y_fc, y_made, y_rawK, y_q, y_words, y_dw, y_tf, y_cw, y_x, y_x2, y_h, y_v, y_y, y_z, y_u, y_cp, y_oldH, y_encSlot, y_encSign, y_R, y_r, y_a, y_ao, rfl, rfl, hA, hS⟩ := I
  exact ⟨rfl, J⟩
theorem i_vc_getBitCount {k : Nat} {u : SX} {v : SY} (I : i_Rel k u v) (hk : k + 5 ≤ 2562) : wpX_getBitCount (fun r => wpY_getBitCount (fun r' => r' = r ∧ i_Rel (k + 5) u v) v) u := by
  have J : i_Rel (k + 5) u v := I
  obtain ⟨P, N, T, c, S, x_reflectionLevels, x_pulseLevels, x_memory, x_history, x_output, x_fields, x_frameCounts, x_reflections, x_samples, x_rawReflections, x_target, x_impulseResponse, x_pastExcitation, x_filteredPast, x_chosenPulses, x_trialPulses, x_pulseSigns, x_excitation, x_receivedFields, x_correlation, x_predictor, x_oldPredictor, y_cur, y_kq, y_fg, y_mem, y_hist, y_out, y_fld, y_fc, y_made, y_rawK, y_q, y_words, y_dw, y_tf, y_cw, y_x, y_x2, y_h, y_v, y_y, y_z, y_u, y_cp, y_oldH, y_encSlot, y_encSign, y_R, y_r, y_a, y_ao, rfl, rfl, hA, hS⟩ := I
  exact ⟨rfl, J⟩
theorem i_vc_getPending {k : Nat} {u : SX} {v : SY} (I : i_Rel k u v) (hk : k + 5 ≤ 2562) : wpX_getPending (fun r => wpY_getPending (fun r' => r' = r ∧ i_Rel (k + 5) u v) v) u := by
  have J : i_Rel (k + 5) u v := I
  obtain ⟨P, N, T, c, S, x_reflectionLevels, x_pulseLevels, x_memory, x_history, x_output, x_fields, x_frameCounts, x_reflections, x_samples, x_rawReflections, x_target, x_impulseResponse, x_pastExcitation, x_filteredPast, x_chosenPulses, x_trialPulses, x_pulseSigns, x_excitation, x_receivedFields, x_correlation, x_predictor, x_oldPredictor, y_cur, y_kq, y_fg, y_mem, y_hist, y_out, y_fld, y_fc, y_made, y_rawK, y_q, y_words, y_dw, y_tf, y_cw, y_x, y_x2, y_h, y_v, y_y, y_z, y_u, y_cp, y_oldH, y_encSlot, y_encSign, y_R, y_r, y_a, y_ao, rfl, rfl, hA, hS⟩ := I
  exact ⟨rfl, J⟩
theorem i_vc_getWord {k : Nat} {u : SX} {v : SY} (I : i_Rel k u v) (hk : k + 5 ≤ 2562) (v1 : Int32) : wpX_getWord (fun r => wpY_getWord (fun r' => r' = r ∧ i_Rel (k + 5) u v) v v1) u v1 := by
  have J : i_Rel (k + 5) u v := I
  obtain ⟨P, N, T, c, S, x_reflectionLevels, x_pulseLevels, x_memory, x_history, x_output, x_fields, x_frameCounts, x_reflections, x_samples, x_rawReflections, x_target, x_impulseResponse, x_pastExcitation, x_filteredPast, x_chosenPulses, x_trialPulses, x_pulseSigns, x_excitation, x_receivedFields, x_correlation, x_predictor, x_oldPredictor, y_cur, y_kq, y_fg, y_mem, y_hist, y_out, y_fld, y_fc, y_made, y_rawK, y_q, y_words, y_dw, y_tf, y_cw, y_x, y_x2, y_h, y_v, y_y, y_z, y_u, y_cp, y_oldH, y_encSlot, y_encSign, y_R, y_r, y_a, y_ao, rfl, rfl, hA, hS⟩ := I
  obtain ⟨hP2, hP, hNT, hT2, hT, hc, hSb, hs, hkx, hky, hgx, hgy, hraw, hw⟩ := hA
  by_cases n1 : v1 < 0
  · exact br_t n1 (br_t n1 ⟨rfl, J⟩)
  · obtain ⟨i, hi, rfl⟩ := nI_of n1
    by_cases c4 : i < 4
    · refine br_f n1 (br_t (nI_lt (b := 4) c4 (by omega)) (br_f n1 (br_t (nI_le (b := 3) (by omega) (by omega)) ⟨vp_in_nI c4 (by omega), ?_, J⟩)))
      rw [nI_clamp hi, hw i c4, show (16 : Int32) * nI i = nI (16 * i) from pk_mul 16 i, show (48 : Int32) - nI (16 * i) = nI (48 - 16 * i) from pk_sub (a := 48) (by omega), sp_word hSb c4 rfl]
    · exact br_f n1 (br_f (nI_nlt (b := 4) (by omega) hi) (br_f n1 (br_f (nI_ge (a := 3) (by omega) hi) ⟨rfl, J⟩)))
theorem i_vc_getRawReflection {k : Nat} {u : SX} {v : SY} (I : i_Rel k u v) (hk : k + 5 ≤ 2562) (v1 : Int32) : wpX_getRawReflection (fun r => wpY_getRawReflection (fun r' => r' = r ∧ i_Rel (k + 5) u v) v v1) u v1 := by
  have J : i_Rel (k + 5) u v := I
  obtain ⟨P, N, T, c, S, x_reflectionLevels, x_pulseLevels, x_memory, x_history, x_output, x_fields, x_frameCounts, x_reflections, x_samples, x_rawReflections, x_target, x_impulseResponse, x_pastExcitation, x_filteredPast, x_chosenPulses, x_trialPulses, x_pulseSigns, x_excitation, x_receivedFields, x_correlation, x_predictor, x_oldPredictor, y_cur, y_kq, y_fg, y_mem, y_hist, y_out, y_fld, y_fc, y_made, y_rawK, y_q, y_words, y_dw, y_tf, y_cw, y_x, y_x2, y_h, y_v, y_y, y_z, y_u, y_cp, y_oldH, y_encSlot, y_encSign, y_R, y_r, y_a, y_ao, rfl, rfl, hA, hS⟩ := I
  obtain ⟨hP2, hP, hNT, hT2, hT, hc, hSb, hs, hkx, hky, hgx, hgy, hraw, hw⟩ := hA
  by_cases n1 : v1 < 1
  · exact br_t n1 (br_t n1 ⟨rfl, J⟩)
  · obtain ⟨m, m1, hm, rfl⟩ := sp_ge1 n1
    by_cases cm : m ≤ P
    · have e : nI m - 1 = nI (m - 1) := pk_sub (b := 1) m1
      refine br_f n1 (br_t (nI_le cm (by omega)) ⟨pk_in (m - 1) 6 (by omega) e, br_f n1 (br_t (nI_le cm (by omega)) ⟨vp_in_nI (by omega) (by omega), ?_, J⟩)⟩)
      rw [e, nI_clamp (by omega), nI_clamp (by omega), hraw (m - 1) (by omega), show m - 1 + 1 = m from by omega]
    · exact br_f n1 (br_f (nI_ge (by omega) hm) (br_f n1 (br_f (nI_ge (by omega) hm) ⟨rfl, J⟩)))
theorem i_vc_getReflection {k : Nat} {u : SX} {v : SY} (I : i_Rel k u v) (hk : k + 5 ≤ 2562) (v1 : Int32) (v2 : Int32) : wpX_getReflection (fun r => wpY_getReflection (fun r' => r' = r ∧ i_Rel (k + 5) u v) v v1 v2) u v1 v2 := by
  have J : i_Rel (k + 5) u v := I
  obtain ⟨P, N, T, c, S, x_reflectionLevels, x_pulseLevels, x_memory, x_history, x_output, x_fields, x_frameCounts, x_reflections, x_samples, x_rawReflections, x_target, x_impulseResponse, x_pastExcitation, x_filteredPast, x_chosenPulses, x_trialPulses, x_pulseSigns, x_excitation, x_receivedFields, x_correlation, x_predictor, x_oldPredictor, y_cur, y_kq, y_fg, y_mem, y_hist, y_out, y_fld, y_fc, y_made, y_rawK, y_q, y_words, y_dw, y_tf, y_cw, y_x, y_x2, y_h, y_v, y_y, y_z, y_u, y_cp, y_oldH, y_encSlot, y_encSign, y_R, y_r, y_a, y_ao, rfl, rfl, hA, hS⟩ := I
  obtain ⟨hP2, hP, hNT, hT2, hT, hc, hSb, hs, hkx, hky, hgx, hgy, hraw, hw⟩ := hA
  unfold wpX_getReflection
  dsimp only
  by_cases n1 : v1 < 0
  · exact sx_sideN n1 (br_t rfl (br_t n1 ⟨rfl, J⟩))
  · obtain ⟨a, ha, rfl⟩ := nI_of n1
    by_cases c : a < 2
    · have s1 : ¬ (1 : Int32) < nI a := nI_nlt (a := 1) (by omega) (by omega)
      obtain ⟨sm, sh, so, sf, sc, sr⟩ := hS a c
      refine sx_sideO c (br_f (by decide) ?_)
      by_cases n2 : v2 < 1
      · exact br_t n2 (br_f n1 (br_f s1 (br_t n2 ⟨rfl, J⟩)))
      · obtain ⟨m, m1, hm, rfl⟩ := sp_ge1 n2
        by_cases cm : m ≤ P
        · have e : nI a * 6 + nI m - 1 = nI (a * 6 + (m - 1)) := by
            rw [show nI a * 6 = nI (a * 6) from pk_mul a 6, nI_add, show a * 6 + (m - 1) = a * 6 + m - 1 from by omega]
            exact pk_sub (b := 1) (by omega)
          have e2 : nI a * 17 + 10 + nI m = nI (a * 17 + 11 + (m - 1)) := by
            rw [show nI a * 17 = nI (a * 17) from pk_mul a 17, show nI (a * 17) + 10 = nI (a * 17 + 10) from nI_add _ 10, nI_add, show a * 17 + 11 + (m - 1) = a * 17 + 10 + m from by omega]
          refine br_f n2 (br_t (nI_le cm (by omega)) ⟨pk_in (a * 6 + (m - 1)) 12 (by omega) e, br_f n1 (br_f s1 (br_f n2 (br_t (nI_le cm (by omega)) ⟨vp_in_nI c (by omega), ?_⟩)))⟩)
          rw [nI_clamp ha]
          rcases sr with ⟨z, zr⟩ | ⟨z, zr⟩
          · refine br_t z ⟨?_, J⟩
            rw [e, nI_clamp (by omega), zr (m - 1) (by omega)]
          · obtain ⟨q, hq, fq, rq⟩ := zr (m - 1) (by omega)
            have fe : y_fld (nI a * 17 + 10 + nI m).toNatClampNeg = nI q := by
              rw [e2, nI_clamp (by omega)]
              exact fq
            refine br_f z ⟨pk_in (a * 17 + 11 + (m - 1)) 34 (by omega) e2, pk_in q 16 hq fe, ?_, J⟩
            rw [fe, e, nI_clamp (n := q) (by omega), nI_clamp (by omega), rq, hky q hq]
        · exact br_f n2 (br_f (nI_ge (by omega) hm) (br_f n1 (br_f s1 (br_f n2 (br_f (nI_ge (by omega) hm) ⟨rfl, J⟩)))))
    · exact sx_sideB (by omega) ha (br_t rfl (br_f n1 (br_t (nI_lt (a := 1) (by omega) ha) ⟨rfl, J⟩)))
theorem i_vc_getField {k : Nat} {u : SX} {v : SY} (I : i_Rel k u v) (hk : k + 5 ≤ 2562) (v1 : Int32) (v2 : Int32) : wpX_getField (fun r => wpY_getField (fun r' => r' = r ∧ i_Rel (k + 5) u v) v v1 v2) u v1 v2 := by
  have J : i_Rel (k + 5) u v := I
  obtain ⟨P, N, T, c, S, x_reflectionLevels, x_pulseLevels, x_memory, x_history, x_output, x_fields, x_frameCounts, x_reflections, x_samples, x_rawReflections, x_target, x_impulseResponse, x_pastExcitation, x_filteredPast, x_chosenPulses, x_trialPulses, x_pulseSigns, x_excitation, x_receivedFields, x_correlation, x_predictor, x_oldPredictor, y_cur, y_kq, y_fg, y_mem, y_hist, y_out, y_fld, y_fc, y_made, y_rawK, y_q, y_words, y_dw, y_tf, y_cw, y_x, y_x2, y_h, y_v, y_y, y_z, y_u, y_cp, y_oldH, y_encSlot, y_encSign, y_R, y_r, y_a, y_ao, rfl, rfl, hA, hS⟩ := I
  obtain ⟨hP2, hP, hNT, hT2, hT, hc, hSb, hs, hkx, hky, hgx, hgy, hraw, hw⟩ := hA
  have eP : (11 : Int32) + nI P = nI (11 + P) := nI_add 11 P
  unfold wpX_getField
  dsimp only
  by_cases n1 : v1 < 0
  · exact sx_sideN n1 (br_t rfl (br_t n1 ⟨rfl, J⟩))
  · obtain ⟨a, ha, rfl⟩ := nI_of n1
    by_cases c : a < 2
    · have s1 : ¬ (1 : Int32) < nI a := nI_nlt (a := 1) (by omega) (by omega)
      obtain ⟨sm, sh, so, sf, sc, sr⟩ := hS a c
      refine sx_sideO c (br_f (by decide) ?_)
      by_cases n2 : v2 < 0
      · exact br_t n2 (br_f n1 (br_f s1 (br_t n2 ⟨rfl, J⟩)))
      · obtain ⟨m, hm, rfl⟩ := nI_of n2
        by_cases cm : m < 11 + P
        · have e : nI a * 17 + nI m = nI (a * 17 + m) := by
            rw [show nI a * 17 = nI (a * 17) from pk_mul a 17, nI_add]
          have lt : nI m < 11 + nI P := by
            rw [eP]
            exact nI_lt cm (by omega)
          refine br_f n2 (br_t lt ⟨pk_in (a * 17 + m) 34 (by omega) e, br_f n1 (br_f s1 (br_f n2 (br_f (nI_nlt (a := 16) (by omega) (by omega)) (br_t lt ⟨pk_in (a * 17 + m) 34 (by omega) e, ?_, J⟩))))⟩)
          rw [e, nI_clamp (by omega)]
          exact (sf m cm).symm
        · have nl : ¬ nI m < 11 + nI P := by
            rw [eP]
            exact nI_nlt (by omega) hm
          exact br_f n2 (br_f nl (br_f n1 (br_f s1 (br_f n2 (br_c (fun _ => ⟨rfl, J⟩) (fun _ => br_f nl ⟨rfl, J⟩))))))
    · exact sx_sideB (by omega) ha (br_t rfl (br_f n1 (br_t (nI_lt (a := 1) (by omega) ha) ⟨rfl, J⟩)))
theorem i_vc_getOutput {k : Nat} {u : SX} {v : SY} (I : i_Rel k u v) (hk : k + 5 ≤ 2562) (v1 : Int32) (v2 : Int32) : wpX_getOutput (fun r => wpY_getOutput (fun r' => r' = r ∧ i_Rel (k + 5) u v) v v1 v2) u v1 v2 := by
  have J : i_Rel (k + 5) u v := I
  obtain ⟨P, N, T, c, S, x_reflectionLevels, x_pulseLevels, x_memory, x_history, x_output, x_fields, x_frameCounts, x_reflections, x_samples, x_rawReflections, x_target, x_impulseResponse, x_pastExcitation, x_filteredPast, x_chosenPulses, x_trialPulses, x_pulseSigns, x_excitation, x_receivedFields, x_correlation, x_predictor, x_oldPredictor, y_cur, y_kq, y_fg, y_mem, y_hist, y_out, y_fld, y_fc, y_made, y_rawK, y_q, y_words, y_dw, y_tf, y_cw, y_x, y_x2, y_h, y_v, y_y, y_z, y_u, y_cp, y_oldH, y_encSlot, y_encSign, y_R, y_r, y_a, y_ao, rfl, rfl, hA, hS⟩ := I
  obtain ⟨hP2, hP, hNT, hT2, hT, hc, hSb, hs, hkx, hky, hgx, hgy, hraw, hw⟩ := hA
  unfold wpX_getOutput
  dsimp only
  by_cases n1 : v1 < 0
  · exact sx_sideN n1 (br_t rfl (br_t n1 ⟨rfl, J⟩))
  · obtain ⟨a, ha, rfl⟩ := nI_of n1
    by_cases c : a < 2
    · have s1 : ¬ (1 : Int32) < nI a := nI_nlt (a := 1) (by omega) (by omega)
      obtain ⟨sm, sh, so, sf, sc, sr⟩ := hS a c
      refine sx_sideO c (br_f (by decide) ?_)
      by_cases n2 : v2 < 0
      · exact br_t n2 (br_f n1 (br_f s1 (br_t n2 ⟨rfl, J⟩)))
      · obtain ⟨m, hm, rfl⟩ := nI_of n2
        by_cases cm : m < N
        · have e : nI a * 32 + nI m = nI (a * 32 + m) := by
            rw [show nI a * 32 = nI (a * 32) from pk_mul a 32, nI_add]
          refine br_f n2 (br_t (nI_lt cm (by omega)) ⟨pk_in (a * 32 + m) 64 (by omega) e, br_f n1 (br_f s1 (br_f n2 (br_t (nI_lt cm (by omega)) ⟨pk_in (a * 32 + m) 64 (by omega) e, ?_, J⟩)))⟩)
          rw [e, nI_clamp (by omega)]
          exact (so m cm).symm
        · exact br_f n2 (br_f (nI_nlt (by omega) hm) (br_f n1 (br_f s1 (br_f n2 (br_f (nI_nlt (by omega) hm) ⟨rfl, J⟩)))))
    · exact sx_sideB (by omega) ha (br_t rfl (br_f n1 (br_t (nI_lt (a := 1) (by omega) ha) ⟨rfl, J⟩)))
theorem i_vc_getExcitation {k : Nat} {u : SX} {v : SY} (I : i_Rel k u v) (hk : k + 5 ≤ 2562) (v1 : Int32) (v2 : Int32) : wpX_getExcitation (fun r => wpY_getExcitation (fun r' => r' = r ∧ i_Rel (k + 5) u v) v v1 v2) u v1 v2 := by
  have J : i_Rel (k + 5) u v := I
  obtain ⟨P, N, T, c, S, x_reflectionLevels, x_pulseLevels, x_memory, x_history, x_output, x_fields, x_frameCounts, x_reflections, x_samples, x_rawReflections, x_target, x_impulseResponse, x_pastExcitation, x_filteredPast, x_chosenPulses, x_trialPulses, x_pulseSigns, x_excitation, x_receivedFields, x_correlation, x_predictor, x_oldPredictor, y_cur, y_kq, y_fg, y_mem, y_hist, y_out, y_fld, y_fc, y_made, y_rawK, y_q, y_words, y_dw, y_tf, y_cw, y_x, y_x2, y_h, y_v, y_y, y_z, y_u, y_cp, y_oldH, y_encSlot, y_encSign, y_R, y_r, y_a, y_ao, rfl, rfl, hA, hS⟩ := I
  obtain ⟨hP2, hP, hNT, hT2, hT, hc, hSb, hs, hkx, hky, hgx, hgy, hraw, hw⟩ := hA
  unfold wpX_getExcitation
  dsimp only
  by_cases n1 : v1 < 0
  · exact sx_sideN n1 (br_t rfl (br_t n1 ⟨rfl, J⟩))
  · obtain ⟨a, ha, rfl⟩ := nI_of n1
    by_cases c : a < 2
    · have s1 : ¬ (1 : Int32) < nI a := nI_nlt (a := 1) (by omega) (by omega)
      obtain ⟨sm, sh, so, sf, sc, sr⟩ := hS a c
      refine sx_sideO c (br_f (by decide) ?_)
      by_cases n2 : v2 < 1
      · exact br_t n2 (br_f n1 (br_f s1 (br_t n2 ⟨rfl, J⟩)))
      · obtain ⟨m, m1, hm, rfl⟩ := sp_ge1 n2
        by_cases cm : m ≤ 64
        · have e : nI a * 64 + nI m - 1 = nI (a * 64 + m - 1) := by
            rw [show nI a * 64 = nI (a * 64) from pk_mul a 64, nI_add]
            exact pk_sub (b := 1) (by omega)
          have e2 : nI a * 65 + nI m = nI (a * 65 + m) := by
            rw [show nI a * 65 = nI (a * 65) from pk_mul a 65, nI_add]
          refine br_f n2 (br_t (nI_le (b := 64) cm (by omega)) ⟨pk_in (a * 64 + m - 1) 128 (by omega) e, br_f n1 (br_f s1 (br_f n2 (br_t (nI_le (b := 64) cm (by omega)) ⟨pk_in (a * 65 + m) 130 (by omega) e2, ?_, J⟩)))⟩)
          rw [e, e2, nI_clamp (n := a * 64 + m - 1) (by omega), nI_clamp (by omega)]
          exact (sh m m1 cm).symm
        · exact br_f n2 (br_f (nI_ge (a := 64) (by omega) hm) (br_f n1 (br_f s1 (br_f n2 (br_f (nI_ge (a := 64) (by omega) hm) ⟨rfl, J⟩)))))
    · exact sx_sideB (by omega) ha (br_t rfl (br_f n1 (br_t (nI_lt (a := 1) (by omega) ha) ⟨rfl, J⟩)))
theorem i_vc_getMemory {k : Nat} {u : SX} {v : SY} (I : i_Rel k u v) (hk : k + 5 ≤ 2562) (v1 : Int32) (v2 : Int32) : wpX_getMemory (fun r => wpY_getMemory (fun r' => r' = r ∧ i_Rel (k + 5) u v) v v1 v2) u v1 v2 := by
  have J : i_Rel (k + 5) u v := I
  obtain ⟨P, N, T, c, S, x_reflectionLevels, x_pulseLevels, x_memory, x_history, x_output, x_fields, x_frameCounts, x_reflections, x_samples, x_rawReflections, x_target, x_impulseResponse, x_pastExcitation, x_filteredPast, x_chosenPulses, x_trialPulses, x_pulseSigns, x_excitation, x_receivedFields, x_correlation, x_predictor, x_oldPredictor, y_cur, y_kq, y_fg, y_mem, y_hist, y_out, y_fld, y_fc, y_made, y_rawK, y_q, y_words, y_dw, y_tf, y_cw, y_x, y_x2, y_h, y_v, y_y, y_z, y_u, y_cp, y_oldH, y_encSlot, y_encSign, y_R, y_r, y_a, y_ao, rfl, rfl, hA, hS⟩ := I
  obtain ⟨hP2, hP, hNT, hT2, hT, hc, hSb, hs, hkx, hky, hgx, hgy, hraw, hw⟩ := hA
  unfold wpX_getMemory
  dsimp only
  by_cases n1 : v1 < 0
  · exact sx_sideN n1 (br_t rfl (br_t n1 ⟨rfl, J⟩))
  · obtain ⟨a, ha, rfl⟩ := nI_of n1
    by_cases c : a < 2
    · have s1 : ¬ (1 : Int32) < nI a := nI_nlt (a := 1) (by omega) (by omega)
      obtain ⟨sm, sh, so, sf, sc, sr⟩ := hS a c
      refine sx_sideO c (br_f (by decide) ?_)
      by_cases n2 : v2 < 0
      · exact br_t n2 (br_f n1 (br_f s1 (br_t n2 ⟨rfl, J⟩)))
      · obtain ⟨m, hm, rfl⟩ := nI_of n2
        by_cases cm : m < P
        · have e : nI a * 6 + nI m = nI (a * 6 + m) := by
            rw [show nI a * 6 = nI (a * 6) from pk_mul a 6, nI_add]
          refine br_f n2 (br_t (nI_lt cm (by omega)) ⟨pk_in (a * 6 + m) 18 (by omega) e, br_f n1 (br_f s1 (br_f n2 (br_t (nI_lt cm (by omega)) ⟨pk_in (a * 6 + m) 24 (by omega) e, ?_, J⟩)))⟩)
          rw [e, nI_clamp (by omega)]
          exact (sm m cm).symm
        · exact br_f n2 (br_f (nI_nlt (by omega) hm) (br_f n1 (br_f s1 (br_f n2 (br_f (nI_nlt (by omega) hm) ⟨rfl, J⟩)))))
    · exact sx_sideB (by omega) ha (br_t rfl (br_f n1 (br_t (nI_lt (a := 1) (by omega) ha) ⟨rfl, J⟩)))
theorem i_vc_getFrameCount {k : Nat} {u : SX} {v : SY} (I : i_Rel k u v) (hk : k + 5 ≤ 2562) (v1 : Int32) : wpX_getFrameCount (fun r => wpY_getFrameCount (fun r' => r' = r ∧ i_Rel (k + 5) u v) v v1) u v1 := by
  have J : i_Rel (k + 5) u v := I
  obtain ⟨P, N, T, c, S, x_reflectionLevels, x_pulseLevels, x_memory, x_history, x_output, x_fields, x_frameCounts, x_reflections, x_samples, x_rawReflections, x_target, x_impulseResponse, x_pastExcitation, x_filteredPast, x_chosenPulses, x_trialPulses, x_pulseSigns, x_excitation, x_receivedFields, x_correlation, x_predictor, x_oldPredictor, y_cur, y_kq, y_fg, y_mem, y_hist, y_out, y_fld, y_fc, y_made, y_rawK, y_q, y_words, y_dw, y_tf, y_cw, y_x, y_x2, y_h, y_v, y_y, y_z, y_u, y_cp, y_oldH, y_encSlot, y_encSign, y_R, y_r, y_a, y_ao, rfl, rfl, hA, hS⟩ := I
  unfold wpX_getFrameCount
  dsimp only
  by_cases n1 : v1 < 0
  · exact sx_sideN n1 (br_t rfl (br_t n1 ⟨rfl, J⟩))
  · obtain ⟨a, ha, rfl⟩ := nI_of n1
    by_cases c : a < 2
    · obtain ⟨sm, sh, so, sf, sc, sr⟩ := hS a c
      refine sx_sideO c (br_f (by decide) ⟨vp_in_nI c (by omega), br_f n1 (br_t (nI_le (b := 1) (by omega) (by omega)) ⟨vp_in_nI c (by omega), ?_, J⟩)⟩)
      rw [nI_clamp ha]
      exact sc.symm
    · exact sx_sideB (by omega) ha (br_t rfl (br_f n1 (br_f (nI_ge (a := 1) (by omega) ha) ⟨rfl, J⟩)))
theorem i_vc_putSample {k : Nat} {u : SX} {v : SY} (I : i_Rel k u v) (hk : k + 5 ≤ 2562) (v1 : Int32) : wpX_putSample (fun r u' => wpY_putSample (fun r' v' => r' = r ∧ i_Rel (k + 5) u' v') v v1) u v1 := by
  have J : i_Rel (k + 5) u v := I
  obtain ⟨P, N, T, c, S, x_reflectionLevels, x_pulseLevels, x_memory, x_history, x_output, x_fields, x_frameCounts, x_reflections, x_samples, x_rawReflections, x_target, x_impulseResponse, x_pastExcitation, x_filteredPast, x_chosenPulses, x_trialPulses, x_pulseSigns, x_excitation, x_receivedFields, x_correlation, x_predictor, x_oldPredictor, y_cur, y_kq, y_fg, y_mem, y_hist, y_out, y_fld, y_fc, y_made, y_rawK, y_q, y_words, y_dw, y_tf, y_cw, y_x, y_x2, y_h, y_v, y_y, y_z, y_u, y_cp, y_oldH, y_encSlot, y_encSign, y_R, y_r, y_a, y_ao, rfl, rfl, hA, hS⟩ := I
  have hA0 := hA
  obtain ⟨hP2, hP, hNT, hT2, hT, hc, hSb, hs, hkx, hky, hgx, hgy, hraw, hw⟩ := hA
  by_cases cc : c < N
  · refine br_t (nI_lt cc (by omega)) (sx_satI ⟨vp_in_nI (by omega) (by omega), nm_e (nm_r (nI_1 c) (br_t (nI_lt cc (by omega)) (sy_sat rfl ⟨vp_in_nI (by omega) (by omega), nm_e (nm_r (nI_1 c) ⟨rfl, sp_mk ⟨hP2, hP, hNT, hT2, hT, cc, hSb, ?_, hkx, hky, hgx, hgy, hraw, hw⟩ hS⟩)⟩)))⟩)
    intro j
    by_cases e : j = (nI c).toNatClampNeg
    · subst e
      rw [pk_us]
      exact sp_sat_r _
    · rw [pk_un e]
      exact hs j
  · exact br_f (nI_nlt (by omega) (by omega)) (br_f (nI_nlt (by omega) (by omega)) ⟨rfl, J⟩)
