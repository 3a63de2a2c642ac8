/-! the owed statements of encodeFrame and decodeFrame -/
theorem fr_Sb {s b H : Nat → Int32} {N P T : Nat} (hP : P ≤ 6) (hT : 0 < T) (hT8 : T ≤ 8) : fr_S s b H N P T < 2 ^ 64 := by
  have h := sp_fs_b (q := fr_Q s N P) (P := P) (l := fr_L s b H N P) (ga := fr_G s b H N P) (gf := fr_GF s b H N P T) (sl := fr_SL s b H N P T) (sg := fr_SG s b H N P T) (fun m _ => fr_Qb) fr_Lb fr_Gb (fun t _ => Nat.lt_of_lt_of_le (fr_SLb hT) hT8) (fun t _ => fr_SGb) (fr_GFb hT)
  unfold fr_S
  rw [Nat.shiftLeft_eq]
  have q := Nat.mul_lt_mul_of_pos_right h (Nat.two_pow_pos (36 - 4 * P))
  rw [← Nat.pow_add, show 4 * P + 28 + (36 - 4 * P) = 64 from by omega] at q
  exact q
theorem i_vc_encodeFrame {k : Nat} {u : SX} {v : SY} (I : i_Rel k u v) (hk : k + 5 ≤ 2562) : wpX_encodeFrame (fun r u' => wpY_encodeFrame (fun r' v' => r' = r ∧ i_Rel (k + 5) u' v') v) u := by
  have J : i_Rel (k + 5) u v := I
  obtain ⟨P, N, T, c, S, x_reflectionLevels, x_pulseLevels, x_memory, x_history, x_output, x_fields, x_frameCounts, x_reflections, x_samples, x_rawReflections, x_target, x_impulseResponse, x_pastExcitation, x_filteredPast, x_chosenPulses, x_trialPulses, x_pulseSigns, x_excitation, x_receivedFields, x_correlation, x_predictor, x_oldPredictor, y_cur, y_kq, y_fg, y_mem, y_hist, y_out, y_fld, y_fc, y_made, y_rawK, y_q, y_words, y_dw, y_tf, y_cw, y_x, y_x2, y_h, y_v, y_y, y_z, y_u, y_cp, y_oldH, y_encSlot, y_encSign, y_R, y_r, y_a, y_ao, rfl, rfl, hA, hS⟩ := I
  obtain ⟨hP2, hP, hNT, hT2, hT, hc, hSb, hs, hkx, hky, hgx, hgy, hraw, hw⟩ := hA
  by_cases cc : c = N
  · subst cc
    have s0 := hS 0 (by omega)
    have s1 := hS 1 (by omega)
    obtain ⟨a1, a2, a3, a4, a5, a6⟩ := s0
    obtain ⟨b1, b2, b3, b4, b5, b6⟩ := s1
    refine sx_enc (s := x_samples) (b := fun j => x_memory (0 * 6 + j)) (H := fun j => x_history (0 * 64 + j - 1)) rfl hs hP2 hP hNT hT2 hT hkx hgx (fun j _ => rfl) (fun j _ _ => rfl) (fun raw co pr op F Rf M A tg ir pe fp tp cp ps ex g1 g2 g3 g4 g5 g6 g7 g8 g9 => ?_)
    refine sy_enc (s := x_samples) (b := fun j => x_memory (0 * 6 + j)) (H := fun j => x_history (0 * 64 + j - 1)) rfl hs hP2 hP hNT hT2 hT hky hgy (fun j hj => (a1 j hj).symm) (fun j h1 h2 => (a2 j h1 h2).symm) (fun cur raw' q W cw x x2 hh v y z u cp' oh es eg R r a ao F' M' A' k1 k2 k3 k4 k5 k6 k7 k8 => ?_)
    refine ⟨rfl, sp_mk (c := 0) ⟨hP2, hP, hNT, hT2, hT, by omega, fr_Sb hP (by omega) hT, hs, hkx, hky, hgx, hgy, fun j hj => ?_, k4⟩ (sp_two ⟨fun j hj => ?_, fun j h1 h2 => ?_, fun n hn => ?_, ?_, ?_, Or.inr ⟨?_, fun m hm => ⟨_, fr_Qb, k2.2.2.2.2.2 m hm, g4 m hm⟩⟩⟩ ⟨fun j hj => ?_, fun j h1 h2 => ?_, fun n hn => ?_, fun i hi => ?_, ?_, ?_⟩)⟩
    · rw [g1 j hj, k1 (j + 1) (by omega) (by omega)]
    · rw [g6 j hj, k5 j hj]
    · rw [g8 j h1 h2, k7 j h1 h2]
    · rw [sp_fo_in hn, sp_fo_in hn]
    · exact sp_FFe g2 k2
    · rw [pk_us, pk_us, a5]
    · rw [pk_us]
      decide
    · rw [g7 _ (by omega) (by omega), k6 _ (by omega) (by omega)]
      exact b1 j hj
    · rw [g9 _ (by omega), k8 _ (by omega)]
      exact b2 j h1 h2
    · rw [sp_fo_out (by omega), sp_fo_out (by omega)]
      exact b3 n hn
    · rw [g3 _ (by omega), k3 _ (by omega)]
      exact b4 i hi
    · rw [pk_un (by omega), pk_un (by omega)]
      exact b5
    · rw [pk_un (by omega)]
      rcases b6 with ⟨z, zr⟩ | ⟨z, zr⟩
      · exact Or.inl ⟨z, fun m hm => by rw [g5 _ (by omega)]; exact zr m hm⟩
      · refine Or.inr ⟨z, fun m hm => ?_⟩
        obtain ⟨q, hq, fq, rq⟩ := zr m hm
        exact ⟨q, hq, by rw [k3 _ (by omega)]; exact fq, by rw [g5 _ (by omega)]; exact rq⟩
  · exact br_f (nI_ge (by omega) (by omega)) (br_f (nI_ge (by omega) (by omega)) ⟨rfl, J⟩)
theorem i_vc_decodeFrame {k : Nat} {u : SX} {v : SY} (I : i_Rel k u v) (hk : k + 5 ≤ 2562) (v1 : Int32) (v2 : Int32) (v3 : Int32) (v4 : Int32) : wpX_decodeFrame (fun r u' => wpY_decodeFrame (fun r' v' => r' = r ∧ i_Rel (k + 5) u' v') v v1 v2 v3 v4) u v1 v2 v3 v4 := by
  have J : i_Rel (k + 5) u v := I
  obtain ⟨P, N, T, c, S, x_reflectionLevels, x_pulseLevels, x_memory, x_history, x_output, x_fields, x_frameCounts, x_reflections, x_samples, x_rawReflections, x_target, x_impulseResponse, x_pastExcitation, x_filteredPast, x_chosenPulses, x_trialPulses, x_pulseSigns, x_excitation, x_receivedFields, x_correlation, x_predictor, x_oldPredictor, y_cur, y_kq, y_fg, y_mem, y_hist, y_out, y_fld, y_fc, y_made, y_rawK, y_q, y_words, y_dw, y_tf, y_cw, y_x, y_x2, y_h, y_v, y_y, y_z, y_u, y_cp, y_oldH, y_encSlot, y_encSign, y_R, y_r, y_a, y_ao, rfl, rfl, hA, hS⟩ := I
  have hA0 := hA
  obtain ⟨hP2, hP, hNT, hT2, hT, hc, hSb, hs, hkx, hky, hgx, hgy, hraw, hw⟩ := hA
  have s0 := hS 0 (by omega)
  have s1 := hS 1 (by omega)
  obtain ⟨a1, a2, a3, a4, a5, a6⟩ := s0
  obtain ⟨b1, b2, b3, b4, b5, b6⟩ := s1
  refine sx_dec (b := fun j => x_memory (1 * 6 + j)) (H := fun j => x_history (1 * 64 + j - 1)) hP2 hP hNT hT2 hT rfl hkx hgx (fun j _ => rfl) (fun j _ _ => rfl) (fun hn rf => ?_) (fun hfit F Rf M A pe ps ex rf g2 g3 g4 g5 g6 g7 g8 g9 => ?_)
  · refine sy_dec (b := fun j => x_memory (1 * 6 + j)) (H := fun j => x_history (1 * 64 + j - 1)) hP2 hP hNT hT2 hT rfl hky hgy (fun j hj => (b1 j hj).symm) (fun j h1 h2 => (b2 j h1 h2).symm) (fun _ cur dw tf => ⟨rfl, sp_mk hA0 hS⟩) (fun hfit => absurd hfit hn)
  · refine sy_dec (b := fun j => x_memory (1 * 6 + j)) (H := fun j => x_history (1 * 64 + j - 1)) hP2 hP hNT hT2 hT rfl hky hgy (fun j hj => (b1 j hj).symm) (fun j h1 h2 => (b2 j h1 h2).symm) (fun hn => absurd hfit hn) (fun _ cur dw tf F' M' A' u oh cp cw v k2 k3 k5 k6 k7 k8 => ?_)
    refine ⟨rfl, sp_mk hA0 (sp_two ⟨fun j hj => ?_, fun j h1 h2 => ?_, fun n hn => ?_, fun i hi => ?_, ?_, ?_⟩ ⟨fun j hj => ?_, fun j h1 h2 => ?_, fun n hn => ?_, ?_, ?_, Or.inr ⟨?_, fun m hm => ⟨_, dr_Qb, k2.2.2.2.2.2 m hm, g4 m hm⟩⟩⟩)⟩
    · rw [g7 _ (by omega), k6 _ (by omega)]
      exact a1 j hj
    · rw [g9 _ (by omega), k8 _ (by omega)]
      exact a2 j h1 h2
    · rw [sp_fo_out (by omega), sp_fo_out (by omega)]
      exact a3 n hn
    · rw [g3 _ (by omega), k3 _ (by omega)]
      exact a4 i hi
    · rw [pk_un (by omega), pk_un (by omega)]
      exact a5
    · rw [pk_un (by omega)]
      rcases a6 with ⟨z, zr⟩ | ⟨z, zr⟩
      · exact Or.inl ⟨z, fun m hm => by rw [g5 _ (by omega)]; exact zr m hm⟩
      · refine Or.inr ⟨z, fun m hm => ?_⟩
        obtain ⟨q, hq, fq, rq⟩ := zr m hm
        exact ⟨q, hq, by rw [k3 _ (by omega)]; exact fq, by rw [g5 _ (by omega)]; exact rq⟩
    · rw [g6 j hj, k5 j hj]
    · rw [g8 j h1 h2, k7 j h1 h2]
    · rw [sp_fo_in hn, sp_fo_in hn]
    · exact sp_FFe g2 k2
    · rw [pk_us, pk_us, b5]
    · rw [pk_us]
      decide
