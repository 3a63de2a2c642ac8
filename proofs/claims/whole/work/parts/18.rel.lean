/-! the relation -/
def sp_IS (P N sd : Nat) (mx my hx hy ox oy fx fy cx cy rx made : Nat → Int32) : Prop :=
  (∀ j, j < P → mx (sd * 6 + j) = my (sd * 6 + j)) ∧ (∀ j, 1 ≤ j → j ≤ 64 → hx (sd * 64 + j - 1) = hy (sd * 65 + j)) ∧ (∀ n, n < N → ox (sd * 32 + n) = oy (sd * 32 + n)) ∧
  (∀ k, k < 11 + P → fx (sd * 17 + k) = fy (sd * 17 + k)) ∧ cx sd = cy sd ∧
  ((made sd = 0 ∧ ∀ m, m < P → rx (sd * 6 + m) = 0) ∨ (¬ made sd = 0 ∧ ∀ m, m < P → ∃ q, q < 16 ∧ fy (sd * 17 + 11 + m) = nI q ∧ rx (sd * 6 + m) = sp_kq q))
def sp_IA (P N T c S : Nat) (kx ky gx gy s rawx rawy w : Nat → Int32) : Prop :=
  2 ≤ P ∧ P ≤ 6 ∧ N = 4 * T ∧ 2 ≤ T ∧ T ≤ 8 ∧ c ≤ N ∧ S < 2 ^ 64 ∧ sp_bd s ∧ (∀ j, j < 16 → kx j = sp_kq j) ∧ (∀ j, j < 16 → ky j = sp_kq j) ∧ (∀ j, j < 16 → gx j = sp_fg j) ∧ (∀ j, j < 16 → gy j = sp_fg j) ∧
  (∀ j, j < P → rawx j = rawy (j + 1)) ∧ sp_wd w S
/-- the two states hold the same data, each in its own form -/
def i_Rel (_ : Nat) (u : SX) (v : SY) : Prop := ∃ (P N T c S : Nat) (x_reflectionLevels x_pulseLevels x_memory x_history x_output x_fields x_frameCounts x_reflections x_samples x_rawReflections x_target x_impulseResponse x_pastExcitation x_filteredPast x_chosenPulses x_trialPulses x_pulseSigns x_excitation x_receivedFields : Nat → Int32) (x_correlation x_predictor x_oldPredictor : Nat → Int64) (y_cur : Int32) (y_kq y_fg y_mem y_hist y_out y_fld y_fc y_made y_rawK y_q y_words y_dw y_tf y_cw y_x y_x2 y_h y_v y_y y_z y_u y_cp y_oldH y_encSlot y_encSign : Nat → Int32) (y_R y_r y_a y_ao : Nat → Int64), u = ((nI P), (nI N), (nI T), (nI c), (lN S), x_reflectionLevels, x_pulseLevels, x_memory, x_history, x_output, x_fields, x_frameCounts, x_reflections, x_samples, x_rawReflections, x_correlation, x_predictor, x_oldPredictor, x_target, x_impulseResponse, x_pastExcitation, x_filteredPast, x_chosenPulses, x_trialPulses, x_pulseSigns, x_excitation, x_receivedFields) ∧ v = ((nI P), (nI N), (nI T), (nI c), y_cur, y_kq, y_fg, y_mem, y_hist, y_out, y_fld, y_fc, y_made, x_samples, y_rawK, y_q, y_words, y_dw, y_tf, y_cw, y_x, y_x2, y_h, y_v, y_y, y_z, y_u, y_cp, y_oldH, y_encSlot, y_encSign, y_R, y_r, y_a, y_ao) ∧ sp_IA P N T c S x_reflectionLevels y_kq x_pulseLevels y_fg x_samples x_rawReflections y_rawK y_words ∧ ∀ sd, sd < 2 → sp_IS P N sd x_memory y_mem x_history y_hist x_output y_out x_fields y_fld x_frameCounts y_fc x_reflections y_made
theorem i_up {k : Nat} {u : SX} {v : SY} (h : i_Rel k u v) : i_Rel (k + 5) u v := h
theorem sp_mk {P N T : Nat} {x_reflectionLevels x_pulseLevels x_memory x_history x_output x_fields x_frameCounts x_reflections x_samples x_rawReflections x_target x_impulseResponse x_pastExcitation x_filteredPast x_chosenPulses x_trialPulses x_pulseSigns x_excitation x_receivedFields : Nat → Int32} {x_correlation x_predictor x_oldPredictor : Nat → Int64} {y_cur : Int32} {y_kq y_fg y_mem y_hist y_out y_fld y_fc y_made y_rawK y_q y_words y_dw y_tf y_cw y_x y_x2 y_h y_v y_y y_z y_u y_cp y_oldH y_encSlot y_encSign : Nat → Int32} {y_R y_r y_a y_ao : Nat → Int64} {c S : Nat} {k : Nat} (hA : sp_IA P N T c S x_reflectionLevels y_kq x_pulseLevels y_fg x_samples x_rawReflections y_rawK y_words)
    (hS : ∀ sd, sd < 2 → sp_IS P N sd x_memory y_mem x_history y_hist x_output y_out x_fields y_fld x_frameCounts y_fc x_reflections y_made) :
    i_Rel k ((nI P), (nI N), (nI T), (nI c), (lN S), x_reflectionLevels, x_pulseLevels, x_memory, x_history, x_output, x_fields, x_frameCounts, x_reflections, x_samples, x_rawReflections, x_correlation, x_predictor, x_oldPredictor, x_target, x_impulseResponse, x_pastExcitation, x_filteredPast, x_chosenPulses, x_trialPulses, x_pulseSigns, x_excitation, x_receivedFields) ((nI P), (nI N), (nI T), (nI c), y_cur, y_kq, y_fg, y_mem, y_hist, y_out, y_fld, y_fc, y_made, x_samples, y_rawK, y_q, y_words, y_dw, y_tf, y_cw, y_x, y_x2, y_h, y_v, y_y, y_z, y_u, y_cp, y_oldH, y_encSlot, y_encSign, y_R, y_r, y_a, y_ao) :=
  ⟨P, N, T, c, S, _, _, _, _, _, _, _, _, _, _, _, _, _, _, _, _, _, _, _, _, _, _, _, _, _, _, _, _, _, _, _, _, _, _, _, _, _, _, _, _, _, _, _, _, _, _, _, _, _, _, _, _, rfl, rfl, hA, hS⟩
theorem sp_two {Q : Nat → Prop} (h0 : Q 0) (h1 : Q 1) : ∀ sd, sd < 2 → Q sd := by
  intro sd h
  have : sd = 0 ∨ sd = 1 := by omega
  rcases this with rfl | rfl
  · exact h0
  · exact h1
/-! the start -/
theorem sp_cl3 (w : Int32) {lo hi : Nat} (h : lo ≤ hi) (hh : hi < 2 ^ 31) : ∃ L, lo ≤ L ∧ L ≤ hi ∧ ((¬ nI lo ≤ w ∧ L = lo) ∨ (nI lo ≤ w ∧ w ≤ nI hi ∧ w = nI L) ∨ (nI lo ≤ w ∧ ¬ w ≤ nI hi ∧ L = hi)) := by
  by_cases a : nI lo ≤ w
  · by_cases b : w ≤ nI hi
    · have p : ¬ w < 0 := fun z => by
        have q := Int32.lt_of_le_of_lt a z
        exact nI_pos (by omega) q
      obtain ⟨j, hj, rfl⟩ := nI_of p
      exact ⟨j, (nI_leI (by omega) hj).mp a, (nI_leI hj hh).mp b, Or.inr (Or.inl ⟨a, b, rfl⟩)⟩
    · exact ⟨hi, h, Nat.le_refl _, Or.inr (Or.inr ⟨a, b, rfl⟩)⟩
  · exact ⟨lo, Nat.le_refl _, h, Or.inl ⟨a, rfl⟩⟩
theorem sx_cl3 {post : Int32 → Prop} {w : Int32} {lo hi L : Nat} (h : (¬ nI lo ≤ w ∧ L = lo) ∨ (nI lo ≤ w ∧ w ≤ nI hi ∧ w = nI L) ∨ (nI lo ≤ w ∧ ¬ w ≤ nI hi ∧ L = hi)) (hp : post (nI L)) : wpX_clamp post w.toInt64 (nI lo) (nI hi) := by
  unfold wpX_clamp
  rw [Int32.toInt64_le, Int32.toInt64_le, Int32.toInt32_toInt64]
  rcases h with ⟨a, e⟩ | ⟨a, b, e⟩ | ⟨a, b, e⟩
  · subst e
    exact br_f a hp
  · rw [e] at a b ⊢
    exact br_t a (br_t b hp)
  · subst e
    exact br_t a (br_f b hp)
theorem sy_i257 {post : SY → Prop} {p0 p1 : Int32} {L : Nat} (h : (¬ nI 2 ≤ p0 ∧ L = 2) ∨ (nI 2 ≤ p0 ∧ p0 ≤ nI 6 ∧ p0 = nI L) ∨ (nI 2 ≤ p0 ∧ ¬ p0 ≤ nI 6 ∧ L = 6))
    (hp : wY_init_257 post p1 (nI L) 0 0 0 0 0 (fun _ => 0) (fun _ => 0) (fun _ => 0) (fun _ => 0) (fun _ => 0) (fun _ => 0) (fun _ => 0) (fun _ => 0) (fun _ => 0) (fun _ => 0) (fun _ => 0) (fun _ => 0) (fun _ => 0) (fun _ => 0) (fun _ => 0) (fun _ => 0) (fun _ => 0) (fun _ => 0) (fun _ => 0) (fun _ => 0) (fun _ => 0) (fun _ => 0) (fun _ => 0) (fun _ => 0) (fun _ => 0) (fun _ => 0) (fun _ => 0) (fun _ => 0) (fun _ => 0) (fun _ => 0)) : wpY_init post p0 p1 := by
  rcases h with ⟨a, e⟩ | ⟨a, b, e⟩ | ⟨a, b, e⟩
  · subst e
    exact br_f a (br_t (by decide) hp)
  · rw [e] at a b ⊢
    exact br_t a (br_t b hp)
  · subst e
    exact br_t a (br_f b hp)
theorem sy_i287 {y_cnt y_cur : Int32} {y_kq y_fg y_mem y_hist y_out y_fld y_fc y_made y_s y_rawK y_q y_words y_dw y_tf y_cw y_x y_x2 y_h y_v y_y y_z y_u y_cp y_oldH y_encSlot y_encSign : Nat → Int32} {y_R y_r y_a y_ao : Nat → Int64} {post : SY → Prop} {p1 x3 : Int32} {y_P y_N y_T : Int32} {L : Nat} (h : (¬ nI 8 ≤ p1 ∧ L = 8) ∨ (nI 8 ≤ p1 ∧ p1 ≤ nI 32 ∧ p1 = nI L) ∨ (nI 8 ≤ p1 ∧ ¬ p1 ≤ nI 32 ∧ L = 32))
    (hp : wY_init_287 post (nI L) x3 y_N y_T y_cnt y_cur y_kq y_fg y_mem y_hist y_out y_fld y_fc y_made y_s y_rawK y_q y_words y_dw y_tf y_cw y_x y_x2 y_h y_v y_y y_z y_u y_cp y_oldH y_encSlot y_encSign y_R y_r y_a y_ao) : wY_init_257 post p1 x3 y_P y_N y_T y_cnt y_cur y_kq y_fg y_mem y_hist y_out y_fld y_fc y_made y_s y_rawK y_q y_words y_dw y_tf y_cw y_x y_x2 y_h y_v y_y y_z y_u y_cp y_oldH y_encSlot y_encSign y_R y_r y_a y_ao := by
  rcases h with ⟨a, e⟩ | ⟨a, b, e⟩ | ⟨a, b, e⟩
  · subst e
    exact br_f a (br_t (by decide) hp)
  · rw [e] at a b ⊢
    exact br_t a (br_t b hp)
  · subst e
    exact br_t a (br_f b hp)
theorem sp_neg : ∀ i, i < 8 → -sp_kq (15 - i) = sp_kq i := by decide +kernel
theorem sx_fl82 {x_pending : Int32} {x_encodedStream : Int64} {x_pulseLevels x_memory x_history x_output x_fields x_frameCounts x_reflections x_samples x_rawReflections x_target x_impulseResponse x_pastExcitation x_filteredPast x_chosenPulses x_trialPulses x_pulseSigns x_excitation x_receivedFields : Nat → Int32} {x_correlation x_predictor x_oldPredictor : Nat → Int64} {post : SX → Prop} {f1 f2 f3 : Int32} (h : ∀ kl, (∀ j, j < 16 → kl j = sp_kq j) → post (f1, f2, f3, x_pending, x_encodedStream, kl, x_pulseLevels, x_memory, x_history, x_output, x_fields, x_frameCounts, x_reflections, x_samples, x_rawReflections, x_correlation, x_predictor, x_oldPredictor, x_target, x_impulseResponse, x_pastExcitation, x_filteredPast, x_chosenPulses, x_trialPulses, x_pulseSigns, x_excitation, x_receivedFields)) :
    ∀ d i kl, i + d = 8 → (∀ j, 8 ≤ j → j < 16 → kl j = sp_kq j) → (∀ j, j < i → kl j = sp_kq j) → wX_fillReflectionLevels_82 post f1 f2 f3 x_pending x_encodedStream (d + 1) (nI i) kl x_pulseLevels x_memory x_history x_output x_fields x_frameCounts x_reflections x_samples x_rawReflections x_correlation x_predictor x_oldPredictor x_target x_impulseResponse x_pastExcitation x_filteredPast x_chosenPulses x_trialPulses x_pulseSigns x_excitation x_receivedFields := by
  intro d
  induction d with
  | zero =>
    intro i kl hi h8 hk
    obtain rfl : i = 8 := by omega
    exact br_t (nI_le (a := 8) (by omega) (by omega)) (h kl (fun j hj => by
      by_cases c : 8 ≤ j
      · exact h8 j c hj
      · exact hk j (by omega)))
  | succ d ih =>
    intro i kl hi h8 hk
    have e : (15 : Int32) - nI i = nI (15 - i) := pk_sub (a := 15) (by omega)
    refine br_f (nI_ge (b := 8) (by omega) (by omega)) ⟨pk_in (15 - i) 16 (by omega) e, vp_in_nI (by omega) (by omega), nm_r (e' := upd kl i (sp_kq i)) ?_ (nm_r (nI_1 i) (ih (i + 1) _ (by omega) (fun j h1 h2 => ?_) (fun j hj => ?_)))⟩
    · rw [e, nI_clamp (n := 15 - i) (by omega), nI_clamp (by omega), h8 (15 - i) (by omega) (by omega), sp_neg i (by omega)]
    · rw [pk_un (by omega)]
      exact h8 j h1 h2
    · by_cases c : j = i
      · subst c
        rw [pk_us]
      · rw [pk_un c]
        exact hk j (by omega)
theorem sp_k8 : ∀ j, j < 16 → 8 ≤ j → upd (upd (upd (upd (upd (upd (upd (upd (fun _ => 0) 8 3277) 9 9011) 10 14746) 11 19661) 12 23757) 13 27034) 14 29491) 15 31130 j = sp_kq j := by decide +kernel
theorem sp_k16 : ∀ j, j < 16 → upd (upd (upd (upd (upd (upd (upd (upd (upd (upd (upd (upd (upd (upd (upd (upd (fun _ => 0) 0 (-31130)) 1 (-29491)) 2 (-27034)) 3 (-23757)) 4 (-19661)) 5 (-14746)) 6 (-9011)) 7 (-3277)) 8 3277) 9 9011) 10 14746) 11 19661) 12 23757) 13 27034) 14 29491) 15 31130 j = sp_kq j := by decide +kernel
theorem sp_f16 : ∀ j, j < 16 → upd (upd (upd (upd (upd (upd (upd (upd (upd (upd (upd (upd (upd (upd (upd (upd (fun _ => 0) 0 0) 1 16) 2 23) 3 32) 4 45) 5 64) 6 91) 7 128) 8 181) 9 256) 10 362) 11 512) 12 724) 13 1024) 14 1448) 15 2048 j = sp_fg j := by decide +kernel
theorem i_vc0 (k0 : Int32) (k1 : Int32) : wpX_init (fun u => wpY_init (fun v => i_Rel 2 u v) k0 k1) k0 k1 := by
  obtain ⟨P, hP2, hP, cP⟩ := sp_cl3 k0 (lo := 2) (hi := 6) (by omega) (by omega)
  obtain ⟨L, hL8, hL, cL⟩ := sp_cl3 k1 (lo := 8) (hi := 32) (by omega) (by omega)
  have er : nI L - nI L / 4 * 4 = nI (L % 4) := pk_rem (d := 4) (by omega) (by omega) (by omega)
  have eN : nI L - (nI L - nI L / 4 * 4) = nI (4 * (L / 4)) := by
    rw [er, pk_sub (by omega), show L - L % 4 = 4 * (L / 4) from by omega]
  have eT : nI L / 4 = nI (L / 4) := pk_div (d := 4) (by omega) (by omega) (by omega)
  have eT' : nI (4 * (L / 4)) / 4 = nI (L / 4) := by
    rw [show nI (4 * (L / 4)) / 4 = nI (4 * (L / 4) / 4) from pk_div (d := 4) (by omega) (by omega) (by omega), show 4 * (L / 4) / 4 = L / 4 from by omega]
  unfold wpX_init
  refine sx_cl3 (lo := 8) (hi := 32) cL (sx_cl3 (lo := 2) (hi := 6) cP ⟨by decide, nm_r eN ⟨by decide, nm_r eT ?_⟩⟩)
  unfold wpX_fillReflectionLevels
  dsimp only
  refine nm_e (nm_e (nm_e (nm_e (nm_e (nm_e (nm_e (nm_e (Exists.intro (8 + 1) (sx_fl82 (fun kl hkl => ?_) 8 0 _ (by omega) (fun j h8 h16 => sp_k8 j h16 h8) (fun j hj => absurd hj (by omega)))))))))))
  unfold wpX_fillPulseLevels
  dsimp only
  refine nm_e (nm_e (nm_e (nm_e (nm_e (nm_e (nm_e (nm_e (nm_e (nm_e (nm_e (nm_e (nm_e (nm_e (nm_e (nm_e ?_)))))))))))))))
  refine sy_i257 cP (sy_i287 cL ⟨by decide, nm_r eN ⟨by decide, nm_r eT' ?_⟩⟩)
  refine nm_e (nm_e (nm_e (nm_e (nm_e (nm_e (nm_e (nm_e (nm_e (nm_e (nm_e (nm_e (nm_e (nm_e (nm_e (nm_e ?_)))))))))))))))
  refine nm_e (nm_e (nm_e (nm_e (nm_e (nm_e (nm_e (nm_e (nm_e (nm_e (nm_e (nm_e (nm_e (nm_e (nm_e (nm_e ?_)))))))))))))))
  refine sp_mk (c := 0) (S := 0) ⟨hP2, hP, rfl, by omega, by omega, by omega, by omega, fun _ => (by decide : -32768 ≤ (0 : Int32).toInt ∧ (0 : Int32).toInt ≤ 32767), hkl, sp_k16, sp_f16, sp_f16, fun _ _ => rfl, fun j _ => ?_⟩ (fun sd hsd => ⟨fun _ _ => rfl, fun _ _ _ => rfl, fun _ _ => rfl, fun _ _ => rfl, rfl, Or.inl ⟨rfl, fun _ _ => rfl⟩⟩)
  rw [Nat.zero_shiftRight]
  rfl
