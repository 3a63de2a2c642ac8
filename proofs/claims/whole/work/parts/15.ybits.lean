/-! the reference: bits, and rule D -/
theorem sp_c4 {c : Nat} (hc : c < 64) : nI c >>> ((4 : Int32) &&& 31) = nI (c / 16) := pk_shrN (by omega) _ 4 (by decide)
theorem sp_c15 {c : Nat} (hc : c < 64) : (15 : Int32) - (nI c &&& 15) = nI (15 - c % 16) := by
  rw [show nI c &&& 15 = nI (c % 2 ^ 4) from pk_andN (by omega) 4 (by decide)]
  exact pk_sub (a := 15) (by omega)
theorem sy_wb4 {P N T : Nat} {y_cnt : Int32} {y_kq y_fg y_mem y_hist y_out y_fld y_fc y_made y_s y_rawK y_q y_dw y_tf y_cw y_x y_x2 y_h y_v y_y y_z y_u y_cp y_oldH y_encSlot y_encSign : Nat → Int32} {y_R y_r y_a y_ao : Nat → Int64} {post : SY → Prop} {S v c w : Nat} (hv : v < 2 ^ 31) (hw : w < 32) (hcw : c + w ≤ 64)
    (h : ∀ W, sp_wd W (S ||| v <<< (64 - c - w)) → post ((nI P), (nI N), (nI T), y_cnt, (nI (c + w)), y_kq, y_fg, y_mem, y_hist, y_out, y_fld, y_fc, y_made, y_s, y_rawK, y_q, W, y_dw, y_tf, y_cw, y_x, y_x2, y_h, y_v, y_y, y_z, y_u, y_cp, y_oldH, y_encSlot, y_encSign, y_R, y_r, y_a, y_ao)) :
    ∀ k W, k ≤ w → sp_wd W (S ||| (v >>> k) <<< (k + (64 - c - w))) → wY_writeBits_4 post (nI v) (nI P) (nI N) (nI T) y_cnt (k + 1) (nI k - 1) (nI (c + (w - k))) y_kq y_fg y_mem y_hist y_out y_fld y_fc y_made y_s y_rawK y_q W y_dw y_tf y_cw y_x y_x2 y_h y_v y_y y_z y_u y_cp y_oldH y_encSlot y_encSign y_R y_r y_a y_ao := by
  intro k
  induction k with
  | zero =>
    intro W hk hW
    rw [Nat.shiftRight_zero, Nat.zero_add] at hW
    exact br_t (by decide) (h W hW)
  | succ k ih =>
    intro W hk hW
    have ec : c + (w - (k + 1)) < 64 := by omega
    have e1 : nI (c + (w - (k + 1))) + 1 = nI (c + (w - k)) := by
      rw [nI_1, show c + (w - (k + 1)) + 1 = c + (w - k) from by omega]
    have e2 : nI k + (-1) = nI k - 1 := (Int32.sub_eq_add_neg _ _).symm
    rw [nI_pred]
    refine br_f (nI_pos (by omega)) ?_
    rw [sp_bit hv (by omega)]
    have m2 : v / 2 ^ k % 2 < 2 := Nat.mod_lt _ (by decide)
    have step := sp_wbit S v k (64 - c - w)
    by_cases z : v / 2 ^ k % 2 = 0
    · rw [if_pos z, Nat.or_zero] at step
      rw [step] at hW
      rw [z]
      exact br_t rfl (nm_r e1 (nm_r e2 (ih W (by omega) hW)))
    · rw [if_neg z] at step
      refine br_f (nI_ne0 (by omega) (by omega)) (br_f (nI_ge (b := 64) ec (by omega)) ?_)
      rw [sp_c4 ec, sp_c15 ec]
      refine ⟨vp_in_nI (by omega) (by omega), vp_in_nI (by omega) (by omega), nm_r (e' := upd W ((c + (w - (k + 1))) / 16) (W ((c + (w - (k + 1))) / 16) ||| nI (2 ^ (15 - (c + (w - (k + 1))) % 16)))) ?_ (nm_r e1 (nm_r e2 (ih _ (by omega) ?_)))⟩
      · rw [nI_clamp (by omega), sp_1sh _ (by omega)]
      · have q := sp_wd_s ec hW
        rw [show 63 - (c + (w - (k + 1))) = k + (64 - c - w) from by omega, step] at q
        exact q
theorem sy_wb {P N T : Nat} {y_cnt : Int32} {y_kq y_fg y_mem y_hist y_out y_fld y_fc y_made y_s y_rawK y_q y_words y_dw y_tf y_cw y_x y_x2 y_h y_v y_y y_z y_u y_cp y_oldH y_encSlot y_encSign : Nat → Int32} {y_R y_r y_a y_ao : Nat → Int64} {post : SY → Prop} {S v c w : Nat} {p1 : Int32} (hv : v < 2 ^ w) (hw : w < 31) (hcw : c + w ≤ 64) (hW : sp_wd y_words S)
    (h : ∀ W, sp_wd W (S ||| v <<< (64 - c - w)) → post ((nI P), (nI N), (nI T), y_cnt, (nI (c + w)), y_kq, y_fg, y_mem, y_hist, y_out, y_fld, y_fc, y_made, y_s, y_rawK, y_q, W, y_dw, y_tf, y_cw, y_x, y_x2, y_h, y_v, y_y, y_z, y_u, y_cp, y_oldH, y_encSlot, y_encSign, y_R, y_r, y_a, y_ao)) (ep : p1 = nI w := by rfl) : wpY_writeBits post ((nI P), (nI N), (nI T), y_cnt, (nI c), y_kq, y_fg, y_mem, y_hist, y_out, y_fld, y_fc, y_made, y_s, y_rawK, y_q, y_words, y_dw, y_tf, y_cw, y_x, y_x2, y_h, y_v, y_y, y_z, y_u, y_cp, y_oldH, y_encSlot, y_encSign, y_R, y_r, y_a, y_ao) (nI v) p1 := by
  subst ep
  have v31 : v < 2 ^ 31 := Nat.lt_of_lt_of_le hv (Nat.pow_le_pow_right (by decide) (by omega))
  have q := sy_wb4 (S := S) (v := v) (c := c) (w := w) v31 (by omega) hcw h w y_words (Nat.le_refl w) (by
    rw [Nat.shiftRight_eq_div_pow, Nat.div_eq_of_lt hv, Nat.zero_shiftLeft, Nat.or_zero]
    exact hW)
  rw [Nat.sub_self, Nat.add_zero] at q
  exact nm_e (Exists.intro _ q)
theorem sy_rb4 {P N T : Nat} {y_cnt : Int32} {y_kq y_fg y_mem y_hist y_out y_fld y_fc y_made y_s y_rawK y_q y_words y_dw y_tf y_cw y_x y_x2 y_h y_v y_y y_z y_u y_cp y_oldH y_encSlot y_encSign : Nat → Int32} {y_R y_r y_a y_ao : Nat → Int64} {post : Int32 → SY → Prop} {S c w : Nat} (hw : w < 31) (hcw : c + w ≤ 64) (hD : sp_wd y_dw S)
    (h : post (nI (sp_rd S c w)) ((nI P), (nI N), (nI T), y_cnt, (nI (c + w)), y_kq, y_fg, y_mem, y_hist, y_out, y_fld, y_fc, y_made, y_s, y_rawK, y_q, y_words, y_dw, y_tf, y_cw, y_x, y_x2, y_h, y_v, y_y, y_z, y_u, y_cp, y_oldH, y_encSlot, y_encSign, y_R, y_r, y_a, y_ao)) :
    ∀ d k, k + d = w → wY_readBits_4 post (nI w) (nI P) (nI N) (nI T) y_cnt y_kq y_fg y_mem y_hist y_out y_fld y_fc y_made y_s y_rawK y_q y_words y_dw y_tf y_cw y_x y_x2 y_h y_v y_y y_z y_u y_cp y_oldH y_encSlot y_encSign y_R y_r y_a y_ao (d + 1) (nI (sp_rd S c k)) (nI k) (nI (c + k)) := by
  intro d
  induction d with
  | zero =>
    intro k hk
    obtain rfl : k = w := by omega
    exact br_t (nI_le (by omega) (by omega)) h
  | succ d ih =>
    intro k hk
    have ec : c + k < 64 := by omega
    refine br_f (nI_ge (by omega) (by omega)) (br_f (nI_ge (b := 64) ec (by omega)) ?_)
    rw [sp_c4 ec, sp_c15 ec]
    refine ⟨vp_in_nI (by omega) (by omega), nm_r (e' := nI ((S >>> (63 - (c + k))) % 2)) ?_ (nm_r (e' := nI (sp_rd S c (k + 1))) ?_ (nm_r (nI_1 (c + k)) (nm_r (nI_1 k) (ih (k + 1) (by omega)))))⟩
    · rw [nI_clamp (by omega)]
      exact sp_wd_b ec hD
    · rw [show nI (sp_rd S c k) * 2 = nI (sp_rd S c k * 2) from pk_mul _ 2, nI_add, sp_rd_s ec]
theorem sy_rb {P N T : Nat} {y_cnt : Int32} {y_kq y_fg y_mem y_hist y_out y_fld y_fc y_made y_s y_rawK y_q y_words y_dw y_tf y_cw y_x y_x2 y_h y_v y_y y_z y_u y_cp y_oldH y_encSlot y_encSign : Nat → Int32} {y_R y_r y_a y_ao : Nat → Int64} {post : Int32 → SY → Prop} {S c w : Nat} {p : Int32} (hw : w < 31) (hcw : c + w ≤ 64) (hD : sp_wd y_dw S)
    (h : post (nI (sp_rd S c w)) ((nI P), (nI N), (nI T), y_cnt, (nI (c + w)), y_kq, y_fg, y_mem, y_hist, y_out, y_fld, y_fc, y_made, y_s, y_rawK, y_q, y_words, y_dw, y_tf, y_cw, y_x, y_x2, y_h, y_v, y_y, y_z, y_u, y_cp, y_oldH, y_encSlot, y_encSign, y_R, y_r, y_a, y_ao)) (ep : p = nI w := by rfl) : wpY_readBits post ((nI P), (nI N), (nI T), y_cnt, (nI c), y_kq, y_fg, y_mem, y_hist, y_out, y_fld, y_fc, y_made, y_s, y_rawK, y_q, y_words, y_dw, y_tf, y_cw, y_x, y_x2, y_h, y_v, y_y, y_z, y_u, y_cp, y_oldH, y_encSlot, y_encSign, y_R, y_r, y_a, y_ao) p := by
  subst ep
  have q := sy_rb4 hw hcw hD h w 0 (by omega)
  rw [sp_rd_0] at q
  exact Exists.intro _ q
theorem sy_d258 {P N T : Nat} {y_cnt y_cur : Int32} {y_kq y_fg y_mem y_hist y_out y_fld y_fc y_made y_s y_rawK y_q y_words y_dw y_tf y_cw y_x y_x2 y_h y_v y_y y_z y_u y_cp y_oldH y_encSlot y_encSign : Nat → Int32} {y_R y_r y_a y_ao : Nat → Int64} {post : SY → Prop} {H u : Nat → Int32} {sd : Nat} (hN8 : 8 ≤ N) (hN : N ≤ 32) (hsd : sd ≤ 1) (hu : ∀ n, n < N → y_u n = u n) (ho : ∀ j, 1 ≤ j → j ≤ 64 → y_oldH j = H j)
    (h : ∀ A, (∀ j, 1 ≤ j → j ≤ 64 → A (sd * 65 + j) = sp_nh N u H j) → (∀ q, q ≤ sd * 65 ∨ sd * 65 + 65 ≤ q → A q = y_hist q) →
      post ((nI P), (nI N), (nI T), y_cnt, y_cur, y_kq, y_fg, y_mem, A, y_out, y_fld, (upd y_fc sd (y_fc sd + 1)), (upd y_made sd 1), y_s, y_rawK, y_q, y_words, y_dw, y_tf, y_cw, y_x, y_x2, y_h, y_v, y_y, y_z, y_u, y_cp, y_oldH, y_encSlot, y_encSign, y_R, y_r, y_a, y_ao)) :
    ∀ d i A, i + d = 65 → 1 ≤ i → (∀ j, 1 ≤ j → j < i → A (sd * 65 + j) = sp_nh N u H j) → (∀ q, q ≤ sd * 65 ∨ sd * 65 + 65 ≤ q → A q = y_hist q) →
      wY_runD_258 post (nI sd) (nI P) (nI N) (nI T) y_cnt y_cur (d + 1) (nI i) y_kq y_fg y_mem A y_out y_fld y_fc y_made y_s y_rawK y_q y_words y_dw y_tf y_cw y_x y_x2 y_h y_v y_y y_z y_u y_cp y_oldH y_encSlot y_encSign y_R y_r y_a y_ao := by
  intro d
  induction d with
  | zero =>
    intro i A hi h1 ha hf
    obtain rfl : i = 65 := by omega
    refine br_t (nI_lt (a := 64) (by omega) (by omega)) ⟨vp_in_nI (by omega) (by omega), vp_in_nI (by omega) (by omega), nm_r ?_ ⟨vp_in_nI (by omega) (by omega), nm_r ?_ (h A (fun j h1 h2 => ha j h1 (by omega)) hf)⟩⟩
    · rw [nI_clamp (by omega)]
    · rw [nI_clamp (by omega)]
      rfl
  | succ d ih =>
    intro i A hi h1 ha hf
    have e : nI sd * 65 + nI i = nI (sd * 65 + i) := by
      rw [show nI sd * 65 = nI (sd * 65) from pk_mul sd 65, nI_add]
    have key : ∀ x, x = sp_nh N u H i → ∀ j, 1 ≤ j → j < i + 1 → upd A (sd * 65 + i) x (sd * 65 + j) = sp_nh N u H j := by
      intro x ex j hj1 hj2
      by_cases c : j = i
      · subst c
        rw [pk_us, ex]
      · rw [pk_un (by omega)]
        exact ha j hj1 (by omega)
    have key2 : ∀ x q, q ≤ sd * 65 ∨ sd * 65 + 65 ≤ q → upd A (sd * 65 + i) x q = y_hist q := by
      intro x q hq
      rw [pk_un (by omega)]
      exact hf q hq
    refine br_f (nI_nlt (b := i) (a := 64) (by omega) (by omega)) ?_
    by_cases c : N < i
    · refine br_t (nI_lt c (by omega)) ⟨pk_in (i - N) 65 (by omega) (pk_sub (by omega)), pk_in (sd * 65 + i) 130 (by omega) e, nm_r (e' := upd A (sd * 65 + i) (y_oldH (i - N))) ?_ (nm_r (nI_1 i) (ih (i + 1) _ (by omega) (by omega) (key _ ?_) (key2 _)))⟩
      · rw [e, pk_sub (by omega), nI_clamp (by omega), nI_clamp (by omega)]
      · rw [ho (i - N) (by omega) (by omega)]
        unfold sp_nh
        rw [if_neg (by omega)]
    · refine br_f (nI_nlt (by omega) (by omega)) ⟨pk_in (N - i) 32 (by omega) (pk_sub (by omega)), pk_in (sd * 65 + i) 130 (by omega) e, nm_r (e' := upd A (sd * 65 + i) (y_u (N - i))) ?_ (nm_r (nI_1 i) (ih (i + 1) _ (by omega) (by omega) (key _ ?_) (key2 _)))⟩
      · rw [e, pk_sub (by omega), nI_clamp (by omega), nI_clamp (by omega)]
      · rw [hu (N - i) (by omega)]
        unfold sp_nh
        rw [if_pos (by omega)]
theorem sy_d227 {P N T : Nat} {y_cnt y_cur : Int32} {y_kq y_fg y_mem y_hist y_out y_fld y_fc y_made y_s y_rawK y_q y_words y_dw y_tf y_cw y_x y_x2 y_h y_v y_y y_z y_u y_cp y_encSlot y_encSign : Nat → Int32} {y_R y_r y_a y_ao : Nat → Int64} {post : SY → Prop} {H u : Nat → Int32} {sd : Nat} (hN8 : 8 ≤ N) (hN : N ≤ 32) (hsd : sd ≤ 1) (hu : ∀ n, n < N → y_u n = u n) (hH : ∀ j, 1 ≤ j → j ≤ 64 → y_hist (sd * 65 + j) = H j)
    (h : ∀ A oh, (∀ j, 1 ≤ j → j ≤ 64 → A (sd * 65 + j) = sp_nh N u H j) → (∀ q, q ≤ sd * 65 ∨ sd * 65 + 65 ≤ q → A q = y_hist q) →
      post ((nI P), (nI N), (nI T), y_cnt, y_cur, y_kq, y_fg, y_mem, A, y_out, y_fld, (upd y_fc sd (y_fc sd + 1)), (upd y_made sd 1), y_s, y_rawK, y_q, y_words, y_dw, y_tf, y_cw, y_x, y_x2, y_h, y_v, y_y, y_z, y_u, y_cp, oh, y_encSlot, y_encSign, y_R, y_r, y_a, y_ao)) :
    ∀ d i oh, i + d = 65 → 1 ≤ i → (∀ j, 1 ≤ j → j < i → oh j = H j) → wY_runD_227 post (nI sd) (nI P) (nI N) (nI T) y_cnt y_cur (d + 1) (nI i) y_kq y_fg y_mem y_hist y_out y_fld y_fc y_made y_s y_rawK y_q y_words y_dw y_tf y_cw y_x y_x2 y_h y_v y_y y_z y_u y_cp oh y_encSlot y_encSign y_R y_r y_a y_ao := by
  intro d
  induction d with
  | zero =>
    intro i oh hi h1 ha
    obtain rfl : i = 65 := by omega
    exact br_t (nI_lt (a := 64) (by omega) (by omega)) ⟨64 + 1, sy_d258 (y_oldH := oh) (H := H) (u := u) hN8 hN hsd hu (fun j h1 h2 => ha j h1 (by omega)) (fun A hA hf => h A oh hA hf) 64 1 y_hist (by omega) (by omega) (fun j h1 h2 => absurd h2 (by omega)) (fun _ _ => rfl)⟩
  | succ d ih =>
    intro i oh hi h1 ha
    have e : nI sd * 65 + nI i = nI (sd * 65 + i) := by
      rw [show nI sd * 65 = nI (sd * 65) from pk_mul sd 65, nI_add]
    refine br_f (nI_nlt (a := 64) (by omega) (by omega)) ⟨pk_in (sd * 65 + i) 130 (by omega) e, vp_in_nI (by omega) (by omega), nm_e (nm_r (nI_1 i) (ih (i + 1) _ (by omega) (by omega) ?_))⟩
    intro j hj1 hj2
    rw [e, nI_clamp (n := i) (by omega), nI_clamp (by omega)]
    by_cases c : j = i
    · subst c
      rw [pk_us]
      exact hH j hj1 (by omega)
    · rw [pk_un c]
      exact ha j hj1 (by omega)
theorem sy_d130 {P N T : Nat} {y_cnt y_cur : Int32} {y_kq y_fg y_mem y_hist y_out y_fld y_fc y_made y_s y_rawK y_q y_words y_dw y_tf y_cw y_x y_x2 y_h y_v y_y y_z y_cp y_oldH y_encSlot y_encSign : Nat → Int32} {y_R y_r y_a y_ao : Nat → Int64} {post : SY → Prop} {c b H : Nat → Int32} {sd l ga gf : Nat} {sl sg : Nat → Nat} (hP1 : 1 ≤ P) (hP : P ≤ 6) (hN8 : 8 ≤ N) (hN : N ≤ 32) (hsd : sd ≤ 1)
    (hg : ∀ j, j < 16 → y_fg j = sp_fg j) (hc : ∀ j, j < P → y_cw (j + 1) = c (j + 1)) (hH : ∀ j, 1 ≤ j → j ≤ 64 → y_hist (sd * 65 + j) = H j)
    (hga : y_fld (sd * 17 + 1) = nI ga) (hgf : y_fld (sd * 17 + 2) = nI gf) (hgf' : gf < 16)
    (hv : ∀ n, n < N → y_v n = sp_pv H (l + 4) n) (hp : ∀ n, n < N → y_cp n = sp_cp sl sg n)
    (h : ∀ M' A u oh, sp_row (sd * 6) P M' (sp_lm c P b (sp_u H l ga gf sl sg) N) → (∀ q, q < sd * 6 ∨ sd * 6 + P ≤ q → M' q = y_mem q) →
      (∀ j, 1 ≤ j → j ≤ 64 → A (sd * 65 + j) = sp_nh N (sp_u H l ga gf sl sg) H j) → (∀ q, q ≤ sd * 65 ∨ sd * 65 + 65 ≤ q → A q = y_hist q) →
      post ((nI P), (nI N), (nI T), y_cnt, y_cur, y_kq, y_fg, M', A, (sp_fo (sp_lo c P b (sp_u H l ga gf sl sg)) (sd * 32) N y_out), y_fld, (upd y_fc sd (y_fc sd + 1)), (upd y_made sd 1), y_s, y_rawK, y_q, y_words, y_dw, y_tf, y_cw, y_x, y_x2, y_h, y_v, y_y, y_z, u, y_cp, oh, y_encSlot, y_encSign, y_R, y_r, y_a, y_ao)) :
    ∀ d i M u, i + d = N → (∀ n, n < i → u n = sp_u H l ga gf sl sg n) → sp_row (sd * 6) P M (sp_lm c P b (sp_u H l ga gf sl sg) i) → (∀ q, q < sd * 6 ∨ sd * 6 + P ≤ q → M q = y_mem q) →
      wY_runD_130 post (nI sd) (nI (sd * 17)) (d + 1) (nI i) (nI P) (nI N) (nI T) y_cnt y_cur y_kq y_fg M y_hist (sp_fo (sp_lo c P b (sp_u H l ga gf sl sg)) (sd * 32) i y_out) y_fld y_fc y_made y_s y_rawK y_q y_words y_dw y_tf y_cw y_x y_x2 y_h y_v y_y y_z u y_cp y_oldH y_encSlot y_encSign y_R y_r y_a y_ao := by
  intro d
  induction d with
  | zero =>
    intro i M u hi hu hr hf
    obtain rfl : i = N := by omega
    exact br_t (nI_le (by omega) (by omega)) ⟨64 + 1, sy_d227 (y_u := u) (H := H) (u := sp_u H l ga gf sl sg) hN8 hN hsd hu hH (fun A oh h1 h2 => h M A u oh hr hf h1 h2) 64 1 y_oldH (by omega) (by omega) (fun j h1 h2 => absurd h2 (by omega))⟩
  | succ d ih =>
    intro i M u hi hu hr hf
    have e1 : nI (sd * 17) + 1 = nI (sd * 17 + 1) := nI_1 _
    have e2 : nI (sd * 17) + 2 = nI (sd * 17 + 2) := nI_add _ 2
    have e6 : nI sd * 6 = nI (sd * 6) := pk_mul sd 6
    have e32 : nI sd * 32 + nI i = nI (sd * 32 + i) := by
      rw [show nI sd * 32 = nI (sd * 32) from pk_mul sd 32, nI_add]
    have c2 : y_fld (nI (sd * 17) + 2).toNatClampNeg = nI gf := by
      rw [e2, nI_clamp (by omega)]
      exact hgf
    refine br_f (nI_ge (by omega) (by omega)) ⟨pk_in (sd * 17 + 1) 34 (by omega) e1, vp_in_nI (by omega) (by omega), pk_in (sd * 17 + 2) 34 (by omega) e2, pk_in gf 16 hgf' c2, vp_in_nI (by omega) (by omega), sy_sat (v := sp_u H l ga gf sl sg i) ?_ ⟨vp_in_nI (by omega) (by omega), nm_r (e' := upd u i (sp_u H l ga gf sl sg i)) ?_ ⟨vp_in_nI (by omega) (by omega), ?_⟩⟩⟩
    · rw [c2, e1, nI_clamp (n := gf) (by omega), nI_clamp (n := sd * 17 + 1) (by omega), nI_clamp (n := i) (by omega), hga, hv i (by omega), hp i (by omega), hg gf hgf']
      rfl
    · rw [nI_clamp (by omega)]
    · rw [nI_clamp (by omega), pk_us, e6]
      refine sy_lat (B := sd * 6) hP1 hP (by omega) hc hr (fun M' hr' hf' => ?_)
      refine ⟨pk_in (sd * 32 + i) 64 (by omega) e32, nm_r ?_ (nm_r (nI_1 i) (ih (i + 1) M' _ (by omega) (fun n hn => ?_) hr' (fun q hq => (hf' q hq).trans (hf q hq))))⟩
      · rw [e32, nI_clamp (by omega)]
        exact sp_foS (g := sp_lo c P b (sp_u H l ga gf sl sg))
      · by_cases z : n = i
        · subst z
          rw [pk_us]
        · rw [pk_un z]
          exact hu n (by omega)
theorem sy_d79 {P N T : Nat} {y_cnt y_cur : Int32} {y_kq y_fg y_mem y_hist y_out y_fld y_fc y_made y_s y_rawK y_q y_words y_dw y_tf y_cw y_x y_x2 y_h y_v y_y y_z y_u y_oldH y_encSlot y_encSign : Nat → Int32} {y_R y_r y_a y_ao : Nat → Int64} {post : SY → Prop} {c b H : Nat → Int32} {sd l ga gf : Nat} {sl sg : Nat → Nat} (hP1 : 1 ≤ P) (hP : P ≤ 6) (hN8 : 8 ≤ N) (hNT : N = 4 * T) (hT : T ≤ 8) (hsd : sd ≤ 1)
    (hg : ∀ j, j < 16 → y_fg j = sp_fg j) (hb : sp_row (sd * 6) P y_mem b) (hc : ∀ j, j < P → y_cw (j + 1) = c (j + 1)) (hH : ∀ j, 1 ≤ j → j ≤ 64 → y_hist (sd * 65 + j) = H j)
    (hga : y_fld (sd * 17 + 1) = nI ga) (hgf : y_fld (sd * 17 + 2) = nI gf) (hgf' : gf < 16)
    (h1 : ∀ t, t < 4 → y_fld (sd * 17 + 3 + t) = nI (sl t) ∧ sl t < T) (h2 : ∀ t, t < 4 → y_fld (sd * 17 + 7 + t) = nI (sg t) ∧ sg t < 2)
    (hv : ∀ n, n < N → y_v n = sp_pv H (l + 4) n)
    (h : ∀ M' A u oh cp, sp_row (sd * 6) P M' (sp_lm c P b (sp_u H l ga gf sl sg) N) → (∀ q, q < sd * 6 ∨ sd * 6 + P ≤ q → M' q = y_mem q) →
      (∀ j, 1 ≤ j → j ≤ 64 → A (sd * 65 + j) = sp_nh N (sp_u H l ga gf sl sg) H j) → (∀ q, q ≤ sd * 65 ∨ sd * 65 + 65 ≤ q → A q = y_hist q) →
      post ((nI P), (nI N), (nI T), y_cnt, y_cur, y_kq, y_fg, M', A, (sp_fo (sp_lo c P b (sp_u H l ga gf sl sg)) (sd * 32) N y_out), y_fld, (upd y_fc sd (y_fc sd + 1)), (upd y_made sd 1), y_s, y_rawK, y_q, y_words, y_dw, y_tf, y_cw, y_x, y_x2, y_h, y_v, y_y, y_z, u, cp, oh, y_encSlot, y_encSign, y_R, y_r, y_a, y_ao)) :
    ∀ d t cp, t + d = 4 → (∀ n, n < N → cp n = if n % 4 < t then sp_cp sl sg n else 0) → wY_runD_79 post (nI sd) (nI (sd * 17)) (nI P) (nI N) (nI T) y_cnt y_cur (d + 1) (nI t) y_kq y_fg y_mem y_hist y_out y_fld y_fc y_made y_s y_rawK y_q y_words y_dw y_tf y_cw y_x y_x2 y_h y_v y_y y_z y_u cp y_oldH y_encSlot y_encSign y_R y_r y_a y_ao := by
  intro d
  induction d with
  | zero =>
    intro t cp ht hp
    obtain rfl : t = 4 := by omega
    have q := sy_d130 (y_cp := cp) (y_oldH := y_oldH) (y_mem := y_mem) (y_out := y_out) (b := b) hP1 hP hN8 (by omega) hsd hg hc hH hga hgf hgf' hv (fun n hn => by rw [hp n hn, if_pos (by omega)]) (fun M' A u oh => h M' A u oh cp) N 0 y_mem y_u (by omega) (fun n hn => absurd hn (by omega)) hb (fun _ _ => rfl)
    rw [sp_fo0] at q
    exact br_t (nI_le (a := 4) (by omega) (by omega)) ⟨_, q⟩
  | succ d ih =>
    intro t cp ht hp
    have q1 := h1 t (by omega)
    have q2 := h2 t (by omega)
    have e3 : nI (sd * 17) + 3 + nI t = nI (sd * 17 + 3 + t) := by
      rw [show nI (sd * 17) + 3 = nI (sd * 17 + 3) from nI_add _ 3, nI_add]
    have e7 : nI (sd * 17) + 7 + nI t = nI (sd * 17 + 7 + t) := by
      rw [show nI (sd * 17) + 7 = nI (sd * 17 + 7) from nI_add _ 7, nI_add]
    have ep : nI t + 4 * nI (sl t) = nI (t + 4 * sl t) := by
      rw [show (4 : Int32) * nI (sl t) = nI (4 * sl t) from pk_mul 4 (sl t), nI_add]
    refine br_f (nI_ge (b := 4) (by omega) (by omega)) ⟨pk_in (sd * 17 + 3 + t) 34 (by omega) e3, pk_in (sd * 17 + 7 + t) 34 (by omega) e7, ?_⟩
    rw [e3, e7, nI_clamp (n := sd * 17 + 3 + t) (by omega), nI_clamp (n := sd * 17 + 7 + t) (by omega), q1.1, q2.1, ep]
    by_cases z : sg t = 0
    · refine br_t (by rw [z]; rfl) ⟨vp_in_nI (by omega) (by omega), nm_e (nm_r (nI_1 t) (ih (t + 1) _ (by omega) ?_))⟩
      rw [nI_clamp (by omega)]
      exact sp_cp_s (by omega) (by rw [if_pos z]) hp
    · refine br_f (nI_ne0 (by omega) (by omega)) ⟨vp_in_nI (by omega) (by omega), nm_e (nm_r (nI_1 t) (ih (t + 1) _ (by omega) ?_))⟩
      rw [nI_clamp (by omega)]
      exact sp_cp_s (by omega) (by rw [if_neg z]) hp
theorem sy_d56 {P N T : Nat} {y_cnt y_cur : Int32} {y_kq y_fg y_mem y_hist y_out y_fld y_fc y_made y_s y_rawK y_q y_words y_dw y_tf y_cw y_x y_x2 y_h y_v y_y y_z y_u y_oldH y_encSlot y_encSign : Nat → Int32} {y_R y_r y_a y_ao : Nat → Int64} {post : SY → Prop} {c b H : Nat → Int32} {sd l ga gf : Nat} {sl sg : Nat → Nat} (hP1 : 1 ≤ P) (hP : P ≤ 6) (hN8 : 8 ≤ N) (hNT : N = 4 * T) (hT : T ≤ 8) (hsd : sd ≤ 1)
    (hg : ∀ j, j < 16 → y_fg j = sp_fg j) (hb : sp_row (sd * 6) P y_mem b) (hc : ∀ j, j < P → y_cw (j + 1) = c (j + 1)) (hH : ∀ j, 1 ≤ j → j ≤ 64 → y_hist (sd * 65 + j) = H j)
    (hga : y_fld (sd * 17 + 1) = nI ga) (hgf : y_fld (sd * 17 + 2) = nI gf) (hgf' : gf < 16)
    (h1 : ∀ t, t < 4 → y_fld (sd * 17 + 3 + t) = nI (sl t) ∧ sl t < T) (h2 : ∀ t, t < 4 → y_fld (sd * 17 + 7 + t) = nI (sg t) ∧ sg t < 2)
    (hv : ∀ n, n < N → y_v n = sp_pv H (l + 4) n)
    (h : ∀ M' A u oh cp, sp_row (sd * 6) P M' (sp_lm c P b (sp_u H l ga gf sl sg) N) → (∀ q, q < sd * 6 ∨ sd * 6 + P ≤ q → M' q = y_mem q) →
      (∀ j, 1 ≤ j → j ≤ 64 → A (sd * 65 + j) = sp_nh N (sp_u H l ga gf sl sg) H j) → (∀ q, q ≤ sd * 65 ∨ sd * 65 + 65 ≤ q → A q = y_hist q) →
      post ((nI P), (nI N), (nI T), y_cnt, y_cur, y_kq, y_fg, M', A, (sp_fo (sp_lo c P b (sp_u H l ga gf sl sg)) (sd * 32) N y_out), y_fld, (upd y_fc sd (y_fc sd + 1)), (upd y_made sd 1), y_s, y_rawK, y_q, y_words, y_dw, y_tf, y_cw, y_x, y_x2, y_h, y_v, y_y, y_z, u, cp, oh, y_encSlot, y_encSign, y_R, y_r, y_a, y_ao)) :
    ∀ d i cp, i + d = N → (∀ n, n < i → cp n = 0) → wY_runD_56 post (nI sd) (nI (sd * 17)) (nI P) (nI N) (nI T) y_cnt y_cur (d + 1) (nI i) y_kq y_fg y_mem y_hist y_out y_fld y_fc y_made y_s y_rawK y_q y_words y_dw y_tf y_cw y_x y_x2 y_h y_v y_y y_z y_u cp y_oldH y_encSlot y_encSign y_R y_r y_a y_ao := by
  intro d
  induction d with
  | zero =>
    intro i cp hi hp
    obtain rfl : i = N := by omega
    exact br_t (nI_le (by omega) (by omega)) ⟨4 + 1, sy_d79 (b := b) hP1 hP hN8 hNT hT hsd hg hb hc hH hga hgf hgf' h1 h2 hv h 4 0 cp (by omega) (fun n hn => by rw [if_neg (by omega)]; exact hp n hn)⟩
  | succ d ih =>
    intro i cp hi hp
    refine br_f (nI_ge (by omega) (by omega)) ⟨vp_in_nI (by omega) (by omega), nm_e (nm_r (nI_1 i) (ih (i + 1) _ (by omega) ?_))⟩
    intro j hj
    rw [nI_clamp (by omega)]
    by_cases e : j = i
    · subst e
      rw [pk_us]
    · rw [pk_un e]
      exact hp j (by omega)
theorem sy_d7 {P N T : Nat} {y_cnt y_cur : Int32} {y_kq y_fg y_mem y_hist y_out y_fld y_fc y_made y_s y_rawK y_q y_words y_dw y_tf y_x y_x2 y_h y_v y_y y_z y_u y_cp y_oldH y_encSlot y_encSign : Nat → Int32} {y_R y_r y_a y_ao : Nat → Int64} {post : SY → Prop} {c b H : Nat → Int32} {sd l ga gf : Nat} {sl sg q : Nat → Nat} (hP1 : 1 ≤ P) (hP : P ≤ 6) (hN8 : 8 ≤ N) (hNT : N = 4 * T) (hT : T ≤ 8) (hsd : sd ≤ 1)
    (hk : ∀ j, j < 16 → y_kq j = sp_kq j) (hg : ∀ j, j < 16 → y_fg j = sp_fg j) (hb : sp_row (sd * 6) P y_mem b) (hcq : ∀ j, j < P → c (j + 1) = sp_kq (q j)) (hH : ∀ j, 1 ≤ j → j ≤ 64 → y_hist (sd * 65 + j) = H j)
    (hq : ∀ m, m < P → y_fld (sd * 17 + 11 + m) = nI (q m) ∧ q m < 16)
    (hl : y_fld (sd * 17 + 0) = nI l) (hl' : l < 32) (hga : y_fld (sd * 17 + 1) = nI ga) (hgf : y_fld (sd * 17 + 2) = nI gf) (hgf' : gf < 16)
    (h1 : ∀ t, t < 4 → y_fld (sd * 17 + 3 + t) = nI (sl t) ∧ sl t < T) (h2 : ∀ t, t < 4 → y_fld (sd * 17 + 7 + t) = nI (sg t) ∧ sg t < 2)
    (h : ∀ M' A u oh cp cw v, sp_row (sd * 6) P M' (sp_lm c P b (sp_u H l ga gf sl sg) N) → (∀ q, q < sd * 6 ∨ sd * 6 + P ≤ q → M' q = y_mem q) →
      (∀ j, 1 ≤ j → j ≤ 64 → A (sd * 65 + j) = sp_nh N (sp_u H l ga gf sl sg) H j) → (∀ q, q ≤ sd * 65 ∨ sd * 65 + 65 ≤ q → A q = y_hist q) →
      post ((nI P), (nI N), (nI T), y_cnt, y_cur, y_kq, y_fg, M', A, (sp_fo (sp_lo c P b (sp_u H l ga gf sl sg)) (sd * 32) N y_out), y_fld, (upd y_fc sd (y_fc sd + 1)), (upd y_made sd 1), y_s, y_rawK, y_q, y_words, y_dw, y_tf, cw, y_x, y_x2, y_h, v, y_y, y_z, u, cp, oh, y_encSlot, y_encSign, y_R, y_r, y_a, y_ao)) :
    ∀ d m cw, m + d = P → (∀ j, j < m → cw (j + 1) = c (j + 1)) → wY_runD_7 post (nI sd) (nI (sd * 17)) (nI P) (nI N) (nI T) y_cnt y_cur (d + 1) (nI (m + 1)) y_kq y_fg y_mem y_hist y_out y_fld y_fc y_made y_s y_rawK y_q y_words y_dw y_tf cw y_x y_x2 y_h y_v y_y y_z y_u y_cp y_oldH y_encSlot y_encSign y_R y_r y_a y_ao := by
  intro d
  induction d with
  | zero =>
    intro m cw hm hcw
    obtain rfl : m = P := by omega
    refine br_t (nI_lt (by omega) (by omega)) ⟨vp_in_nI (by omega) (by omega), ?_⟩
    rw [nI_clamp (by omega), show y_fld (sd * 17) = nI l from hl]
    refine sy_fv (by omega) hsd hl' hH ?_
    exact ⟨N + 1, sy_d56 (y_cw := cw) (c := c) (b := b) hP1 hP hN8 hNT hT hsd hg hb hcw hH hga hgf hgf' h1 h2 (fun n hn => sp_fl_lo hn) (fun M' A u oh cp => h M' A u oh cp cw _) N 0 y_cp (by omega) (fun n hn => absurd hn (by omega))⟩
  | succ d ih =>
    intro m cw hm hcw
    have o := hq m (by omega)
    have e : nI (sd * 17) + 10 + nI (m + 1) = nI (sd * 17 + 11 + m) := by
      rw [show nI (sd * 17) + 10 = nI (sd * 17 + 10) from nI_add _ 10, nI_add, show sd * 17 + 10 + (m + 1) = sd * 17 + 11 + m from by omega]
    have c1 : y_fld (nI (sd * 17) + 10 + nI (m + 1)).toNatClampNeg = nI (q m) := by
      rw [e, nI_clamp (by omega)]
      exact o.1
    refine br_f (nI_nlt (by omega) (by omega)) ⟨pk_in (sd * 17 + 11 + m) 34 (by omega) e, pk_in (q m) 16 o.2 c1, vp_in_nI (by omega) (by omega), nm_e (nm_r (nI_1 (m + 1)) (ih (m + 1) _ (by omega) ?_))⟩
    intro j hj
    rw [c1, nI_clamp (n := m + 1) (by omega), nI_clamp (by omega), hk _ o.2]
    by_cases z : j = m
    · subst z
      rw [pk_us]
      exact (hcq j (by omega)).symm
    · rw [pk_un (by omega)]
      exact hcw j (by omega)
theorem sy_d {P N T : Nat} {y_cnt y_cur : Int32} {y_kq y_fg y_mem y_hist y_out y_fld y_fc y_made y_s y_rawK y_q y_words y_dw y_tf y_cw y_x y_x2 y_h y_v y_y y_z y_u y_cp y_oldH y_encSlot y_encSign : Nat → Int32} {y_R y_r y_a y_ao : Nat → Int64} {post : SY → Prop} {c b H : Nat → Int32} {sd l ga gf : Nat} {sl sg q : Nat → Nat} {p : Int32} (hP1 : 1 ≤ P) (hP : P ≤ 6) (hN8 : 8 ≤ N) (hNT : N = 4 * T) (hT : T ≤ 8) (hsd : sd ≤ 1)
    (hk : ∀ j, j < 16 → y_kq j = sp_kq j) (hg : ∀ j, j < 16 → y_fg j = sp_fg j) (hb : sp_row (sd * 6) P y_mem b) (hcq : ∀ j, j < P → c (j + 1) = sp_kq (q j)) (hH : ∀ j, 1 ≤ j → j ≤ 64 → y_hist (sd * 65 + j) = H j)
    (hF : sp_FF y_fld (sd * 17) P l ga gf sl sg q) (hq : ∀ m, m < P → q m < 16) (hl' : l < 32) (hgf' : gf < 16) (hsl : ∀ t, t < 4 → sl t < T) (hsg : ∀ t, t < 4 → sg t < 2)
    (h : ∀ M' A u oh cp cw v, sp_row (sd * 6) P M' (sp_lm c P b (sp_u H l ga gf sl sg) N) → (∀ q, q < sd * 6 ∨ sd * 6 + P ≤ q → M' q = y_mem q) →
      (∀ j, 1 ≤ j → j ≤ 64 → A (sd * 65 + j) = sp_nh N (sp_u H l ga gf sl sg) H j) → (∀ q, q ≤ sd * 65 ∨ sd * 65 + 65 ≤ q → A q = y_hist q) →
      post ((nI P), (nI N), (nI T), y_cnt, y_cur, y_kq, y_fg, M', A, (sp_fo (sp_lo c P b (sp_u H l ga gf sl sg)) (sd * 32) N y_out), y_fld, (upd y_fc sd (y_fc sd + 1)), (upd y_made sd 1), y_s, y_rawK, y_q, y_words, y_dw, y_tf, cw, y_x, y_x2, y_h, v, y_y, y_z, u, cp, oh, y_encSlot, y_encSign, y_R, y_r, y_a, y_ao))
    (ep : p = nI sd := by rfl) : wpY_runD post ((nI P), (nI N), (nI T), y_cnt, y_cur, y_kq, y_fg, y_mem, y_hist, y_out, y_fld, y_fc, y_made, y_s, y_rawK, y_q, y_words, y_dw, y_tf, y_cw, y_x, y_x2, y_h, y_v, y_y, y_z, y_u, y_cp, y_oldH, y_encSlot, y_encSign, y_R, y_r, y_a, y_ao) p := by
  subst ep
  obtain ⟨f0, f1, f2, f3, f7, f11⟩ := hF
  exact nm_r (pk_mul sd 17) (Exists.intro (P + 1) (sy_d7 (c := c) (b := b) (q := q) hP1 hP hN8 hNT hT hsd hk hg hb hcq hH (fun m hm => ⟨f11 m hm, hq m hm⟩) f0 hl' f1 f2 hgf' (fun t ht => ⟨f3 t ht, hsl t ht⟩) (fun t ht => ⟨f7 t ht, hsg t ht⟩) h P 0 y_cw (by omega) (fun j hj => absurd hj (by omega))))
