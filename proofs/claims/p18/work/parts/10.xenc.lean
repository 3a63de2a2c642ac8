/-! one frame, purely; the component's encodeFrame -/
def fr_Q (s : Nat → Int32) (N P m : Nat) : Nat := sp_nq (sp_K s N P (m + 1))
def fr_C (s : Nat → Int32) (N P j : Nat) : Int32 := sp_kq (fr_Q s N P (j - 1))
def fr_X (s b : Nat → Int32) (N P n : Nat) : Int32 := sp_sat (s n - sp_lo (fr_C s N P) P b (fun _ => 0) n)
def fr_H (s : Nat → Int32) (N P : Nat) : Nat → Int32 := sp_lo (fr_C s N P) P (fun _ => 0) sp_imp
def fr_Y (s H : Nat → Int32) (N P l : Nat) : Nat → Int32 := sp_cy (sp_pv H (l + 4)) (fr_H s N P)
def fr_E (s b H : Nat → Int32) (N P l g : Nat) : Int64 := sp_ea (fr_X s b N P) (fr_Y s H N P l) N (nI g)
def fr_L (s b H : Nat → Int32) (N P : Nat) : Nat := (sp_out (fr_E s b H N P) 8 32).2.1
def fr_G (s b H : Nat → Int32) (N P : Nat) : Nat := (sp_out (fr_E s b H N P) 8 32).2.2
def fr_X2 (s b H : Nat → Int32) (N P : Nat) : Nat → Int32 := sp_x2 (fr_X s b N P) (fr_Y s H N P (fr_L s b H N P)) (fr_G s b H N P)
def fr_CH (s b H : Nat → Int32) (N P T : Nat) : Nat → Nat := sp_ch (fr_H s N P) (fr_X2 s b H N P) N T 4
def fr_SL (s b H : Nat → Int32) (N P T t : Nat) : Nat := fr_CH s b H N P T t / 2
def fr_SG (s b H : Nat → Int32) (N P T t : Nat) : Nat := fr_CH s b H N P T t % 2
def fr_GF (s b H : Nat → Int32) (N P T : Nat) : Nat := sp_gf (fr_H s N P) (fr_X2 s b H N P) N T 3
def fr_S (s b H : Nat → Int32) (N P T : Nat) : Nat := sp_fs (fr_Q s N P) P (fr_L s b H N P) (fr_G s b H N P) (fr_SL s b H N P T) (fr_SG s b H N P T) (fr_GF s b H N P T) <<< (36 - 4 * P)
def fr_U (s b H : Nat → Int32) (N P T : Nat) : Nat → Int32 := sp_u H (fr_L s b H N P) (fr_G s b H N P) (fr_GF s b H N P T) (fr_SL s b H N P T) (fr_SG s b H N P T)
theorem fr_Qb {s : Nat → Int32} {N P m : Nat} : fr_Q s N P m < 16 := sp_nq_b _
theorem fr_Lb {s b H : Nat → Int32} {N P : Nat} : fr_L s b H N P < 32 := (sp_out_b (by omega) (by omega) 32 (Nat.le_refl _)).1
theorem fr_Gb {s b H : Nat → Int32} {N P : Nat} : fr_G s b H N P < 8 := (sp_out_b (C := 32) (by omega) (by omega) 32 (Nat.le_refl _)).2
theorem fr_SLb {s b H : Nat → Int32} {N P T t : Nat} (hT : 0 < T) : fr_SL s b H N P T t < T := by
  have h := sp_ch_b (h := fr_H s N P) (x := fr_X2 s b H N P) (N := N) hT 4 t
  unfold fr_SL fr_CH
  omega
theorem fr_SGb {s b H : Nat → Int32} {N P T t : Nat} : fr_SG s b H N P T t < 2 := Nat.mod_lt _ (by decide)
theorem fr_GFb {s b H : Nat → Int32} {N P T : Nat} (hT : 0 < T) : fr_GF s b H N P T < 16 := sp_gf_b hT
/-- the fields of a frame, from cell B on -/
def sp_FF (F : Nat → Int32) (B P l ga gf : Nat) (sl sg q : Nat → Nat) : Prop :=
  F (B + 0) = nI l ∧ F (B + 1) = nI ga ∧ F (B + 2) = nI gf ∧ (∀ t, t < 4 → F (B + 3 + t) = nI (sl t)) ∧ (∀ t, t < 4 → F (B + 7 + t) = nI (sg t)) ∧ (∀ m, m < P → F (B + 11 + m) = nI (q m))
theorem sp_FFe {F G : Nat → Int32} {B P l ga gf : Nat} {sl sg q : Nat → Nat} (h : sp_FF F B P l ga gf sl sg q) (g : sp_FF G B P l ga gf sl sg q) : ∀ k, k < 11 + P → F (B + k) = G (B + k) := by
  intro k hk
  obtain ⟨h0, h1, h2, h3, h7, h11⟩ := h
  obtain ⟨g0, g1, g2, g3, g7, g11⟩ := g
  by_cases c11 : 11 ≤ k
  · obtain ⟨m, rfl⟩ : ∃ m, k = 11 + m := ⟨k - 11, by omega⟩
    rw [← Nat.add_assoc, h11 m (by omega), g11 m (by omega)]
  · by_cases c7 : 7 ≤ k
    · obtain ⟨m, rfl⟩ : ∃ m, k = 7 + m := ⟨k - 7, by omega⟩
      rw [← Nat.add_assoc, h7 m (by omega), g7 m (by omega)]
    · by_cases c3 : 3 ≤ k
      · obtain ⟨m, rfl⟩ : ∃ m, k = 3 + m := ⟨k - 3, by omega⟩
        rw [← Nat.add_assoc, h3 m (by omega), g3 m (by omega)]
      · have hk' : k = 0 ∨ k = 1 ∨ k = 2 := by omega
        rcases hk' with rfl | rfl | rfl
        · rw [h0, g0]
        · rw [h1, g1]
        · rw [h2, g2]
theorem sx_enc {P N T : Nat} {x_encodedStream : Int64} {x_reflectionLevels x_pulseLevels x_memory x_history x_output x_fields x_frameCounts x_reflections x_samples x_rawReflections x_target x_impulseResponse x_pastExcitation x_filteredPast x_chosenPulses x_trialPulses x_pulseSigns x_excitation x_receivedFields : Nat → Int32} {x_correlation x_predictor x_oldPredictor : Nat → Int64} {post : Int32 → St2 → Prop} {s b H : Nat → Int32} (es : x_samples = s) (hs : sp_bd s) (hP2 : 2 ≤ P) (hP : P ≤ 6) (hNT : N = 4 * T) (hT2 : 2 ≤ T) (hT : T ≤ 8)
    (hk : ∀ j, j < 16 → x_reflectionLevels j = sp_kq j) (hg : ∀ j, j < 16 → x_pulseLevels j = sp_fg j)
    (hb : sp_row (0 * 6) P x_memory b) (hH : ∀ j, 1 ≤ j → j ≤ 64 → x_history (0 * 64 + j - 1) = H j)
    (h : ∀ raw co pr op F Rf M A tg ir pe fp tp cp ps ex,
      (∀ j, j < P → raw j = sp_K s N P (j + 1)) →
      sp_FF F (0 * 17) P (fr_L s b H N P) (fr_G s b H N P) (fr_GF s b H N P T) (fr_SL s b H N P T) (fr_SG s b H N P T) (fr_Q s N P) → (∀ j, 17 ≤ j → F j = x_fields j) →
      (∀ j, j < P → Rf (0 * 6 + j) = sp_kq (fr_Q s N P j)) → (∀ j, 6 ≤ j → Rf j = x_reflections j) →
      sp_row (0 * 6) P M (sp_lm (fr_C s N P) P b (fr_U s b H N P T) N) → (∀ q, 6 ≤ q → q < 12 → M q = x_memory q) →
      (∀ j, 1 ≤ j → j ≤ 64 → A (0 * 64 + j - 1) = sp_nh N (fr_U s b H N P T) H j) → (∀ q, 64 ≤ q → A q = x_history q) →
      post 1 ((nI P), (nI N), (nI T), 0, (lN (fr_S s b H N P T)), x_reflectionLevels, x_pulseLevels, M, A, (sp_fo (sp_lo (fr_C s N P) P b (fr_U s b H N P T)) (0 * 32) N x_output), F, (upd x_frameCounts 0 (x_frameCounts 0 + 1)), Rf, x_samples, raw, co, pr, op, tg, ir, pe, fp, cp, tp, ps, ex, x_receivedFields)) :
    wpX_encodeFrame post ((nI P), (nI N), (nI T), (nI N), x_encodedStream, x_reflectionLevels, x_pulseLevels, x_memory, x_history, x_output, x_fields, x_frameCounts, x_reflections, x_samples, x_rawReflections, x_correlation, x_predictor, x_oldPredictor, x_target, x_impulseResponse, x_pastExcitation, x_filteredPast, x_chosenPulses, x_trialPulses, x_pulseSigns, x_excitation, x_receivedFields) := by
  have hN8 : 8 ≤ N := by omega
  have hN : N ≤ 32 := by omega
  have hP1 : 1 ≤ P := by omega
  have hb0 : ∀ j, j < P → x_memory j = b j := fun j hj => by
    have t := hb j hj
    rw [Nat.zero_mul, Nat.zero_add] at t
    exact t
  have hc : ∀ j, j < P → sp_fl (fun m => sp_kq (sp_nq (sp_K s N P (m + 1)))) P x_reflections (0 * 6 + j) = fr_C s N P (j + 1) := fun j hj => by
    rw [Nat.zero_mul, Nat.zero_add, sp_fl_lo hj]
    rfl
  refine br_t (nI_le (Nat.le_refl N) (by omega)) (sx_dr es hs hN8 hN hP (fun raw co pr op hraw => ?_))
  refine sx_qr hP hk hraw ?_
  refine sx_ft (s := s) hP1 hP hN (fun j _ => by rw [es]) hc hb0 (fun M1 hM1 => ?_)
  refine sx_fi hP1 hP hN hc (fun M2 hM2 => ?_)
  refine sx_sa (x := fr_X s b N P) (hh := fr_H s N P) (H := H) (E := fr_E s b H N P) hN (fun j hj => sp_fl_lo hj) (fun j hj => sp_fl_lo hj) hH (fun l g _ _ => rfl) (fun pe fp => ?_)
  refine sx_ra (x := fr_X s b N P) (hh := fr_H s N P) (H := H) (l := fr_L s b H N P) (g := fr_G s b H N P) hN fr_Lb (fun j hj => sp_fl_lo hj) (fun j hj => sp_fl_lo hj) hH ?_ ?_ (fun pe' fp' => ?_)
  · rw [pk_un (by omega), pk_us]
    rfl
  · rw [pk_us]
    rfl
  refine sx_sp (x := fr_X2 s b H N P) (hh := fr_H s N P) hN (by omega) hT (fun j hj => sp_fl_lo hj) (fun j hj => sp_fl_lo hj) hg (fun F tp cp hF1 hF2 hF3 => ?_)
  have f0 : F 0 = nI (fr_L s b H N P) := by
    rw [hF3 0 (by omega), pk_un (by omega), pk_us]
    rfl
  have f1 : F 1 = nI (fr_G s b H N P) := by
    rw [hF3 1 (by omega), pk_us]
    rfl
  have f11 : ∀ m, m < P → F (11 + m) = nI (fr_Q s N P m) := fun m hm => by
    rw [hF3 (11 + m) (by omega), pk_un (by omega), pk_un (by omega), sp_fo_in hm]
    rfl
  have f17 : ∀ j, 17 ≤ j → F j = x_fields j := fun j hj => by
    rw [hF3 j (by omega), pk_un (by omega), pk_un (by omega), sp_fo_out (by omega)]
  have f3 : ∀ t, t < 4 → F (3 + t) = nI (fr_SL s b H N P T t) := fun t ht => (hF1 t ht).1
  have f7 : ∀ t, t < 4 → F (7 + t) = nI (fr_SG s b H N P T t) := fun t ht => (hF1 t ht).2
  have hFF : sp_FF F (0 * 17) P (fr_L s b H N P) (fr_G s b H N P) (fr_GF s b H N P T) (fr_SL s b H N P T) (fr_SG s b H N P T) (fr_Q s N P) := ⟨f0, f1, hF2, f3, f7, f11⟩
  refine sx_pf (l := fr_L s b H N P) (ga := fr_G s b H N P) (gf := fr_GF s b H N P T) (q := fr_Q s N P) (sl := fr_SL s b H N P T) (sg := fr_SG s b H N P T) hP (fun m hm => ⟨f11 m hm, fr_Qb⟩) f0 fr_Lb f1 fr_Gb (fun t ht => ⟨f3 t ht, Nat.lt_of_lt_of_le (fr_SLb (by omega)) hT⟩) (fun t ht => ⟨f7 t ht, fr_SGb⟩) hF2 (fr_GFb (by omega)) ?_
  have hb2 : sp_row (0 * 6) P M2 b := fun j hj => by
    rw [hM2 _ (by omega), hM1 _ (by omega)]
    exact hb j hj
  refine sx_syn (sd := 0) (c := fr_C s N P) (b := b) (H := H) (l := fr_L s b H N P) (ga := fr_G s b H N P) (gf := fr_GF s b H N P T) (sl := fr_SL s b H N P T) (sg := fr_SG s b H N P T) hP1 hP hN8 hNT hT (by omega) hg hb2 hc hH f0 fr_Lb f1 hF2 (fr_GFb (by omega)) (fun t ht => ⟨f3 t ht, fr_SLb (by omega)⟩) (fun t ht => ⟨f7 t ht, fr_SGb⟩) (fun M3 A pe2 ps ex r1 r2 r3 r4 => ?_)
  refine h raw co pr op F _ M3 A _ _ pe2 _ tp cp ps ex hraw hFF f17 (fun j hj => ?_) (fun j hj => ?_) r1 (fun q h6 h12 => ?_) r3 (fun q hq => r4 q (by omega))
  · rw [Nat.zero_mul, Nat.zero_add, sp_fl_lo hj]
    rfl
  · rw [sp_fl_hi (by omega)]
  · rw [r2 q (by omega), hM2 q h12, hM1 q h12]
