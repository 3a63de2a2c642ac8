/-! the reference: saturation, the lattice, past excitation, errors, pulses -/
theorem sy_sat {P N T : Nat} {y_cnt y_cur : Int32} {y_kq y_fg y_mem y_hist y_out y_fld y_fc y_made y_s y_rawK y_q y_words y_dw y_tf y_cw y_x y_x2 y_h y_v y_y y_z y_u y_cp y_oldH y_encSlot y_encSign : Nat → Int32} {y_R y_r y_a y_ao : Nat → Int64} {post : Int32 → Prop} {w v : Int32} (e : sp_sat w = v) (h : post v) : wpY_sat post ((nI P), (nI N), (nI T), y_cnt, y_cur, y_kq, y_fg, y_mem, y_hist, y_out, y_fld, y_fc, y_made, y_s, y_rawK, y_q, y_words, y_dw, y_tf, y_cw, y_x, y_x2, y_h, y_v, y_y, y_z, y_u, y_cp, y_oldH, y_encSlot, y_encSign, y_R, y_r, y_a, y_ao) w := by
  unfold wpY_sat
  dsimp only
  unfold sp_sat at e
  refine br_c (fun a => ?_) (fun a => ?_)
  · rw [if_neg (Int32.not_lt.mpr a)] at e
    refine br_c (fun b => ?_) (fun b => ?_)
    · rw [if_neg (Int32.not_lt.mpr b)] at e
      rw [e]
      exact h
    · rw [if_pos (Int32.not_le.mp b)] at e
      rw [e]
      exact h
  · rw [if_pos (Int32.not_le.mp a)] at e
    rw [e]
    exact h
theorem sy_satL {P N T : Nat} {y_cnt y_cur : Int32} {y_kq y_fg y_mem y_hist y_out y_fld y_fc y_made y_s y_rawK y_q y_words y_dw y_tf y_cw y_x y_x2 y_h y_v y_y y_z y_u y_cp y_oldH y_encSlot y_encSign : Nat → Int32} {y_R y_r y_a y_ao : Nat → Int64} {post : Int32 → Prop} {w : Int64} {v : Int32} (e : sp_satL w = v) (h : post v) : wpY_satL post ((nI P), (nI N), (nI T), y_cnt, y_cur, y_kq, y_fg, y_mem, y_hist, y_out, y_fld, y_fc, y_made, y_s, y_rawK, y_q, y_words, y_dw, y_tf, y_cw, y_x, y_x2, y_h, y_v, y_y, y_z, y_u, y_cp, y_oldH, y_encSlot, y_encSign, y_R, y_r, y_a, y_ao) w := by
  unfold wpY_satL
  dsimp only
  unfold sp_satL at e
  refine br_c (fun a => ?_) (fun a => ?_)
  · rw [if_neg (Int64.not_lt.mpr a)] at e
    refine br_c (fun b => ?_) (fun b => ?_)
    · rw [if_neg (Int64.not_lt.mpr b)] at e
      rw [e]
      exact h
    · rw [if_pos (Int64.not_le.mp b)] at e
      rw [e]
      exact h
  · rw [if_pos (Int64.not_le.mp a)] at e
    rw [e]
    exact h
theorem sy_lat8 {P N T : Nat} {y_cnt y_cur : Int32} {y_kq y_fg y_hist y_out y_fld y_fc y_made y_s y_rawK y_q y_words y_dw y_tf y_cw y_x y_x2 y_h y_v y_y y_z y_u y_cp y_oldH y_encSlot y_encSign : Nat → Int32} {y_R y_r y_a y_ao : Nat → Int64} {post : Int32 → SY → Prop} {c : Nat → Int32} {B : Nat} (hP1 : 1 ≤ P) (hP : P ≤ 6) (hB : B + P ≤ 24)
    (hc : ∀ j, j < P → y_cw (j + 1) = c (j + 1)) :
    ∀ j f b M, j ≤ P → sp_row B P M b → (∀ M', sp_row B P M' (sp_go c P j f b).2 → (∀ q, q < B ∨ B + P ≤ q → M' q = M q) → post (sp_go c P j f b).1 ((nI P), (nI N), (nI T), y_cnt, y_cur, y_kq, y_fg, M', y_hist, y_out, y_fld, y_fc, y_made, y_s, y_rawK, y_q, y_words, y_dw, y_tf, y_cw, y_x, y_x2, y_h, y_v, y_y, y_z, y_u, y_cp, y_oldH, y_encSlot, y_encSign, y_R, y_r, y_a, y_ao)) →
      wY_lattice_8 post (nI B) (nI P) (nI N) (nI T) y_cnt y_cur (j + 1) f (nI j) y_kq y_fg M y_hist y_out y_fld y_fc y_made y_s y_rawK y_q y_words y_dw y_tf y_cw y_x y_x2 y_h y_v y_y y_z y_u y_cp y_oldH y_encSlot y_encSign y_R y_r y_a y_ao := by
  intro j
  induction j with
  | zero =>
    intro f b M _ hr h
    refine br_t (nI_lt (b := 1) (by omega) (by omega)) ⟨vp_in_nI (by omega) (by omega), nm_e (h _ ?_ ?_)⟩
    · rw [nI_clamp (by omega)]
      exact sp_row_u (k := 0) hr
    · intro q hq
      rw [nI_clamp (by omega), pk_un (by omega)]
  | succ j ih =>
    intro f b M hj hr h
    have eB : nI B + nI (j + 1) - 1 = nI (B + j) := by
      rw [nI_add]
      exact nI_pred (B + j)
    refine br_f (nI_nlt (b := 1) (by omega) (by omega)) ⟨vp_in_nI (by omega) (by omega), nm_r (e' := c (j + 1)) ?_ ⟨pk_in (B + j) 24 (by omega) eB, sy_sat (v := sp_lf c b j f) ?_ ?_⟩⟩
    · rw [nI_clamp (by omega)]
      exact hc j (by omega)
    · rw [eB, nI_clamp (by omega), hr j (by omega)]
      rfl
    · by_cases hjP : j + 1 < P
      · have eg : sp_go c P (j + 1) f b = sp_go c P j (sp_lf c b j f) (upd b (j + 1) (sp_lb c b j (sp_lf c b j f))) := by
          show sp_go c P j (sp_lf c b j f) (if j + 1 < P then upd b (j + 1) (sp_lb c b j (sp_lf c b j f)) else b) = _
          rw [if_pos hjP]
        rw [eg] at h
        refine br_f (nI_ge hjP (by omega)) ⟨pk_in (B + j) 24 (by omega) eB, sy_sat (v := sp_lb c b j (sp_lf c b j f)) ?_ ⟨pk_in (B + (j + 1)) 24 (by omega) (nI_add B (j + 1)), nm_r (e' := upd M (B + (j + 1)) (sp_lb c b j (sp_lf c b j f))) ?_ (nm_r (pk_m1 j) (ih _ _ _ (by omega) (sp_row_u hr) (fun M' h1 h2 => h M' h1 (fun q hq => ?_))))⟩⟩
        · rw [eB, nI_clamp (by omega), hr j (by omega)]
          rfl
        · rw [nI_add, nI_clamp (by omega)]
        · rw [h2 q hq, pk_un (by omega)]
      · have eg : sp_go c P (j + 1) f b = sp_go c P j (sp_lf c b j f) b := by
          show sp_go c P j (sp_lf c b j f) (if j + 1 < P then upd b (j + 1) (sp_lb c b j (sp_lf c b j f)) else b) = _
          rw [if_neg hjP]
        rw [eg] at h
        exact br_t (nI_le (by omega) (by omega)) (nm_r (pk_m1 j) (ih _ _ _ (by omega) hr h))
theorem sy_lat {P N T : Nat} {y_cnt y_cur : Int32} {y_kq y_fg y_mem y_hist y_out y_fld y_fc y_made y_s y_rawK y_q y_words y_dw y_tf y_cw y_x y_x2 y_h y_v y_y y_z y_u y_cp y_oldH y_encSlot y_encSign : Nat → Int32} {y_R y_r y_a y_ao : Nat → Int64} {post : Int32 → SY → Prop} {c b : Nat → Int32} {e p : Int32} {B : Nat} (hP1 : 1 ≤ P) (hP : P ≤ 6) (hB : B + P ≤ 24)
    (hc : ∀ j, j < P → y_cw (j + 1) = c (j + 1)) (hr : sp_row B P y_mem b)
    (h : ∀ M', sp_row B P M' (sp_go c P P e b).2 → (∀ q, q < B ∨ B + P ≤ q → M' q = y_mem q) → post (sp_go c P P e b).1 ((nI P), (nI N), (nI T), y_cnt, y_cur, y_kq, y_fg, M', y_hist, y_out, y_fld, y_fc, y_made, y_s, y_rawK, y_q, y_words, y_dw, y_tf, y_cw, y_x, y_x2, y_h, y_v, y_y, y_z, y_u, y_cp, y_oldH, y_encSlot, y_encSign, y_R, y_r, y_a, y_ao))
    (ep : p = nI B := by rfl) : wpY_lattice post ((nI P), (nI N), (nI T), y_cnt, y_cur, y_kq, y_fg, y_mem, y_hist, y_out, y_fld, y_fc, y_made, y_s, y_rawK, y_q, y_words, y_dw, y_tf, y_cw, y_x, y_x2, y_h, y_v, y_y, y_z, y_u, y_cp, y_oldH, y_encSlot, y_encSign, y_R, y_r, y_a, y_ao) p e := by
  subst ep
  exact Exists.intro (P + 1) (sy_lat8 hP1 hP hB hc P e b y_mem (Nat.le_refl P) hr h)
theorem sp_hy {sd L i : Nat} (h : i < L) : nI sd * 65 + nI L - nI i = nI (sd * 65 + (L - i)) := by
  rw [show nI sd * 65 = nI (sd * 65) from pk_mul sd 65, nI_add, pk_sub (by omega), show sd * 65 + L - i = sd * 65 + (L - i) from by omega]
theorem sy_fv7 {P N T : Nat} {y_cnt y_cur : Int32} {y_kq y_fg y_mem y_hist y_out y_fld y_fc y_made y_s y_rawK y_q y_words y_dw y_tf y_cw y_x y_x2 y_h y_v y_y y_z y_u y_cp y_oldH y_encSlot y_encSign : Nat → Int32} {y_R y_r y_a y_ao : Nat → Int64} {post : SY → Prop} {H : Nat → Int32} {sd L : Nat} (hN : N ≤ 32) (hsd : sd ≤ 1) (hL1 : 1 ≤ L) (hL : L ≤ 64)
    (hH : ∀ j, 1 ≤ j → j ≤ 64 → y_hist (sd * 65 + j) = H j)
    (h : post ((nI P), (nI N), (nI T), y_cnt, y_cur, y_kq, y_fg, y_mem, y_hist, y_out, y_fld, y_fc, y_made, y_s, y_rawK, y_q, y_words, y_dw, y_tf, y_cw, y_x, y_x2, y_h, (sp_fl (sp_pv H L) N y_v), y_y, y_z, y_u, y_cp, y_oldH, y_encSlot, y_encSign, y_R, y_r, y_a, y_ao)) :
    ∀ d i, i + d = N → wY_formV_7 post (nI sd) (nI L) (nI P) (nI N) (nI T) y_cnt y_cur (d + 1) (nI i) y_kq y_fg y_mem y_hist y_out y_fld y_fc y_made y_s y_rawK y_q y_words y_dw y_tf y_cw y_x y_x2 y_h (sp_fl (sp_pv H L) i y_v) y_y y_z y_u y_cp y_oldH y_encSlot y_encSign y_R y_r y_a y_ao := by
  intro d
  induction d with
  | zero =>
    intro i hi
    obtain rfl : i = N := by omega
    exact br_t (nI_le (by omega) (by omega)) h
  | succ d ih =>
    intro i hi
    refine br_f (nI_ge (by omega) (by omega)) ?_
    by_cases c : L ≤ i
    · refine br_t (nI_le c (by omega)) ⟨pk_in (i - L) 32 (by omega) (pk_sub c), vp_in_nI (by omega) (by omega), nm_r ?_ (nm_r (nI_1 i) (ih (i + 1) (by omega)))⟩
      rw [pk_sub c, nI_clamp (by omega), nI_clamp (by omega), sp_fl_lo (by omega), ← sp_pv_hi c]
      exact sp_flS
    · have e := sp_hy (sd := sd) (L := L) (i := i) (by omega)
      refine br_f (nI_ge (by omega) (by omega)) ⟨pk_in (sd * 65 + (L - i)) 130 (by omega) e, vp_in_nI (by omega) (by omega), nm_r ?_ (nm_r (nI_1 i) (ih (i + 1) (by omega)))⟩
      rw [e, nI_clamp (by omega), nI_clamp (by omega), hH (L - i) (by omega) (by omega), ← sp_pv_lo (H := H) (L := L) (n := i) (by omega)]
      exact sp_flS
theorem sy_fv {P N T : Nat} {y_cnt y_cur : Int32} {y_kq y_fg y_mem y_hist y_out y_fld y_fc y_made y_s y_rawK y_q y_words y_dw y_tf y_cw y_x y_x2 y_h y_v y_y y_z y_u y_cp y_oldH y_encSlot y_encSign : Nat → Int32} {y_R y_r y_a y_ao : Nat → Int64} {post : SY → Prop} {H : Nat → Int32} {sd l : Nat} (hN : N ≤ 32) (hsd : sd ≤ 1) (hl : l < 32)
    (hH : ∀ j, 1 ≤ j → j ≤ 64 → y_hist (sd * 65 + j) = H j)
    (h : post ((nI P), (nI N), (nI T), y_cnt, y_cur, y_kq, y_fg, y_mem, y_hist, y_out, y_fld, y_fc, y_made, y_s, y_rawK, y_q, y_words, y_dw, y_tf, y_cw, y_x, y_x2, y_h, (sp_fl (sp_pv H (l + 4)) N y_v), y_y, y_z, y_u, y_cp, y_oldH, y_encSlot, y_encSign, y_R, y_r, y_a, y_ao)) : wpY_formV post ((nI P), (nI N), (nI T), y_cnt, y_cur, y_kq, y_fg, y_mem, y_hist, y_out, y_fld, y_fc, y_made, y_s, y_rawK, y_q, y_words, y_dw, y_tf, y_cw, y_x, y_x2, y_h, y_v, y_y, y_z, y_u, y_cp, y_oldH, y_encSlot, y_encSign, y_R, y_r, y_a, y_ao) (nI sd) (nI l) := by
  have t := sy_fv7 hN hsd (L := l + 4) (by omega) (by omega) hH h N 0 (by omega)
  rw [sp_fl0] at t
  exact nm_r (nI_add l 4) (Exists.intro _ t)
theorem sy_cy15 {P N T : Nat} {y_cnt y_cur : Int32} {y_kq y_fg y_mem y_hist y_out y_fld y_fc y_made y_s y_rawK y_q y_words y_dw y_tf y_cw y_x y_x2 y_h y_v y_y y_z y_u y_cp y_oldH y_encSlot y_encSign : Nat → Int32} {y_R y_r y_a y_ao : Nat → Int64} {post : SY → Prop} {J : _} {i : Nat} (hi : i < 32)
    (hJ : J (nI (i + 1)) y_kq y_fg y_mem y_hist y_out y_fld y_fc y_made y_s y_rawK y_q y_words y_dw y_tf y_cw y_x y_x2 y_h y_v (upd y_y i (sp_cy y_v y_h i)) y_z y_u y_cp y_oldH y_encSlot y_encSign y_R y_r y_a y_ao) :
    ∀ d t, t + d = i + 1 → wY_computeY_15 post J (nI i) (nI P) (nI N) (nI T) y_cnt y_cur y_kq y_fg y_mem y_hist y_out y_fld y_fc y_made y_s y_rawK y_q y_words y_dw y_tf y_cw y_x y_x2 y_h y_v y_y y_z y_u y_cp y_oldH y_encSlot y_encSign y_R y_r y_a y_ao (d + 1) (sp_sm (fun j => (y_v j).toInt64 * (y_h (i - j)).toInt64) t) (nI t) := by
  intro d
  induction d with
  | zero =>
    intro t ht
    obtain rfl : t = i + 1 := by omega
    refine br_t (nI_lt (by omega) (by omega)) (sy_satL (v := sp_cy y_v y_h i) rfl ⟨vp_in_nI (by omega) (by omega), ?_⟩)
    exact nm_r (by rw [nI_clamp (by omega)]) (nm_r (nI_1 i) hJ)
  | succ d ih =>
    intro t ht
    refine br_f (nI_nlt (by omega) (by omega)) ⟨vp_in_nI (by omega) (by omega), pk_in (i - t) 32 (by omega) (pk_sub (by omega)), nm_r ?_ (nm_r (nI_1 t) (ih (t + 1) (by omega)))⟩
    rw [pk_sub (by omega), nI_clamp (by omega), nI_clamp (by omega)]
    rfl
theorem sy_cy2 {P N T : Nat} {y_cnt y_cur : Int32} {y_kq y_fg y_mem y_hist y_out y_fld y_fc y_made y_s y_rawK y_q y_words y_dw y_tf y_cw y_x y_x2 y_h y_v y_y y_z y_u y_cp y_oldH y_encSlot y_encSign : Nat → Int32} {y_R y_r y_a y_ao : Nat → Int64} {post : SY → Prop} {v hh : Nat → Int32} (hN : N ≤ 32) (hv : ∀ j, j < N → y_v j = v j) (hh' : ∀ j, j < N → y_h j = hh j)
    (h : post ((nI P), (nI N), (nI T), y_cnt, y_cur, y_kq, y_fg, y_mem, y_hist, y_out, y_fld, y_fc, y_made, y_s, y_rawK, y_q, y_words, y_dw, y_tf, y_cw, y_x, y_x2, y_h, y_v, (sp_fl (sp_cy v hh) N y_y), y_z, y_u, y_cp, y_oldH, y_encSlot, y_encSign, y_R, y_r, y_a, y_ao)) :
    ∀ d i, i + d = N → wY_computeY_2 post (nI P) (nI N) (nI T) y_cnt y_cur (d + 1) (nI i) y_kq y_fg y_mem y_hist y_out y_fld y_fc y_made y_s y_rawK y_q y_words y_dw y_tf y_cw y_x y_x2 y_h y_v (sp_fl (sp_cy v hh) i y_y) y_z y_u y_cp y_oldH y_encSlot y_encSign y_R y_r y_a y_ao := by
  intro d
  induction d with
  | zero =>
    intro i hi
    obtain rfl : i = N := by omega
    exact br_t (nI_le (by omega) (by omega)) h
  | succ d ih =>
    intro i hi
    refine br_f (nI_ge (by omega) (by omega)) ⟨i + 1 + 1, sy_cy15 (by omega) ?_ (i + 1) 0 (by omega)⟩
    rw [sp_cy_c (v' := v) (h' := hh) (fun j hj => hv j (by omega)) (fun j hj => hh' j (by omega)), sp_flS]
    exact ih (i + 1) (by omega)
theorem sy_cy {P N T : Nat} {y_cnt y_cur : Int32} {y_kq y_fg y_mem y_hist y_out y_fld y_fc y_made y_s y_rawK y_q y_words y_dw y_tf y_cw y_x y_x2 y_h y_v y_y y_z y_u y_cp y_oldH y_encSlot y_encSign : Nat → Int32} {y_R y_r y_a y_ao : Nat → Int64} {post : SY → Prop} {v hh : Nat → Int32} (hN : N ≤ 32) (hv : ∀ j, j < N → y_v j = v j) (hh' : ∀ j, j < N → y_h j = hh j)
    (h : post ((nI P), (nI N), (nI T), y_cnt, y_cur, y_kq, y_fg, y_mem, y_hist, y_out, y_fld, y_fc, y_made, y_s, y_rawK, y_q, y_words, y_dw, y_tf, y_cw, y_x, y_x2, y_h, y_v, (sp_fl (sp_cy v hh) N y_y), y_z, y_u, y_cp, y_oldH, y_encSlot, y_encSign, y_R, y_r, y_a, y_ao)) : wpY_computeY post ((nI P), (nI N), (nI T), y_cnt, y_cur, y_kq, y_fg, y_mem, y_hist, y_out, y_fld, y_fc, y_made, y_s, y_rawK, y_q, y_words, y_dw, y_tf, y_cw, y_x, y_x2, y_h, y_v, y_y, y_z, y_u, y_cp, y_oldH, y_encSlot, y_encSign, y_R, y_r, y_a, y_ao) := by
  have t := sy_cy2 hN hv hh' h N 0 (by omega)
  rw [sp_fl0] at t
  exact Exists.intro _ t
theorem sy_ea5 {P N T : Nat} {y_cnt y_cur : Int32} {y_kq y_fg y_mem y_hist y_out y_fld y_fc y_made y_s y_rawK y_q y_words y_dw y_tf y_cw y_x y_x2 y_h y_v y_y y_z y_u y_cp y_oldH y_encSlot y_encSign : Nat → Int32} {y_R y_r y_a y_ao : Nat → Int64} {post : Int64 → Prop} {g : Int32} (hN : N ≤ 32) (h : post (sp_ea y_x y_y N g)) :
    ∀ d t, t + d = N → wY_errA_5 post g (nI P) (nI N) (nI T) y_cnt y_cur y_kq y_fg y_mem y_hist y_out y_fld y_fc y_made y_s y_rawK y_q y_words y_dw y_tf y_cw y_x y_x2 y_h y_v y_y y_z y_u y_cp y_oldH y_encSlot y_encSign y_R y_r y_a y_ao (d + 1) (sp_sm (fun n => sp_sq (256 * y_x n - 37 * g * y_y n)) t) (nI t) := by
  intro d
  induction d with
  | zero =>
    intro t ht
    obtain rfl : t = N := by omega
    exact br_t (nI_le (by omega) (by omega)) h
  | succ d ih =>
    intro t ht
    refine br_f (nI_ge (by omega) (by omega)) ⟨vp_in_nI (by omega) (by omega), vp_in_nI (by omega) (by omega), nm_e (nm_r ?_ (nm_r (nI_1 t) (ih (t + 1) (by omega))))⟩
    rw [nI_clamp (by omega)]
    rfl
theorem sy_ea {P N T : Nat} {y_cnt y_cur : Int32} {y_kq y_fg y_mem y_hist y_out y_fld y_fc y_made y_s y_rawK y_q y_words y_dw y_tf y_cw y_x y_x2 y_h y_v y_y y_z y_u y_cp y_oldH y_encSlot y_encSign : Nat → Int32} {y_R y_r y_a y_ao : Nat → Int64} {post : Int64 → Prop} {x y : Nat → Int32} {g : Int32} (hN : N ≤ 32) (hx : ∀ j, j < N → y_x j = x j) (hy : ∀ j, j < N → y_y j = y j)
    (h : post (sp_ea x y N g)) : wpY_errA post ((nI P), (nI N), (nI T), y_cnt, y_cur, y_kq, y_fg, y_mem, y_hist, y_out, y_fld, y_fc, y_made, y_s, y_rawK, y_q, y_words, y_dw, y_tf, y_cw, y_x, y_x2, y_h, y_v, y_y, y_z, y_u, y_cp, y_oldH, y_encSlot, y_encSign, y_R, y_r, y_a, y_ao) g :=
  Exists.intro (N + 1) (sy_ea5 hN (by rw [sp_ea_c g hx hy]; exact h) N 0 (by omega))
theorem sy_ef5 {P N T : Nat} {y_cnt y_cur : Int32} {y_kq y_fg y_mem y_hist y_out y_fld y_fc y_made y_s y_rawK y_q y_words y_dw y_tf y_cw y_x y_x2 y_h y_v y_y y_z y_u y_cp y_oldH y_encSlot y_encSign : Nat → Int32} {y_R y_r y_a y_ao : Nat → Int64} {post : Int64 → Prop} {g : Nat} (hN : N ≤ 32) (hg : g < 16) (h : post (sp_ef y_x2 y_z N (y_fg g))) :
    ∀ d t, t + d = N → wY_errF_5 post (nI g) (nI P) (nI N) (nI T) y_cnt y_cur y_kq y_fg y_mem y_hist y_out y_fld y_fc y_made y_s y_rawK y_q y_words y_dw y_tf y_cw y_x y_x2 y_h y_v y_y y_z y_u y_cp y_oldH y_encSlot y_encSign y_R y_r y_a y_ao (d + 1) (sp_sm (fun n => sp_sq (4096 * y_x2 n - y_fg g * y_z n)) t) (nI t) := by
  intro d
  induction d with
  | zero =>
    intro t ht
    obtain rfl : t = N := by omega
    exact br_t (nI_le (by omega) (by omega)) h
  | succ d ih =>
    intro t ht
    refine br_f (nI_ge (by omega) (by omega)) ⟨vp_in_nI (by omega) (by omega), vp_in_nI (by omega) (by omega), vp_in_nI (by omega) (by omega), nm_e (nm_r ?_ (nm_r (nI_1 t) (ih (t + 1) (by omega))))⟩
    rw [nI_clamp (n := t) (by omega), nI_clamp (n := g) (by omega)]
    rfl
theorem sy_ef {P N T : Nat} {y_cnt y_cur : Int32} {y_kq y_fg y_mem y_hist y_out y_fld y_fc y_made y_s y_rawK y_q y_words y_dw y_tf y_cw y_x y_x2 y_h y_v y_y y_z y_u y_cp y_oldH y_encSlot y_encSign : Nat → Int32} {y_R y_r y_a y_ao : Nat → Int64} {post : Int64 → Prop} {x z : Nat → Int32} {g : Nat} (hN : N ≤ 32) (hg : g < 16) (hf : ∀ j, j < 16 → y_fg j = sp_fg j) (hx : ∀ j, j < N → y_x2 j = x j) (hz : ∀ j, j < N → y_z j = z j)
    (h : post (sp_ef x z N (sp_fg g))) : wpY_errF post ((nI P), (nI N), (nI T), y_cnt, y_cur, y_kq, y_fg, y_mem, y_hist, y_out, y_fld, y_fc, y_made, y_s, y_rawK, y_q, y_words, y_dw, y_tf, y_cw, y_x, y_x2, y_h, y_v, y_y, y_z, y_u, y_cp, y_oldH, y_encSlot, y_encSign, y_R, y_r, y_a, y_ao) (nI g) :=
  Exists.intro (N + 1) (sy_ef5 hN hg (by rw [sp_ef_c _ hx hz, hf g hg]; exact h) N 0 (by omega))
theorem sy_bz86 {P N T : Nat} {y_cnt y_cur : Int32} {y_kq y_fg y_mem y_hist y_out y_fld y_fc y_made y_s y_rawK y_q y_words y_dw y_tf y_cw y_x y_x2 y_h y_v y_y y_u y_cp y_oldH y_encSlot y_encSign : Nat → Int32} {y_R y_r y_a y_ao : Nat → Int64} {post : SY → Prop} {J : _} {hh z0 : Nat → Int32} {x1 x2 x3 : Int32} {k pos sg : Nat} (hN : N ≤ 32) (hsg : sg < 2) (hh' : ∀ j, j < N → y_h j = hh j)
    (hJ : ∀ z, (∀ j, j < N → z j = z0 j + sp_pc hh pos sg j) → J (nI (k + 1)) y_kq y_fg y_mem y_hist y_out y_fld y_fc y_made y_s y_rawK y_q y_words y_dw y_tf y_cw y_x y_x2 y_h y_v y_y z y_u y_cp y_oldH y_encSlot y_encSign y_R y_r y_a y_ao) :
    ∀ d n z, n + d = N → pos ≤ n → (∀ j, j < N → z j = z0 j + (if j < n then sp_pc hh pos sg j else 0)) → wY_buildZ_86 post J x1 x2 x3 (nI k) (nI pos) (nI sg) (nI P) (nI N) (nI T) y_cnt y_cur (d + 1) (nI n) y_kq y_fg y_mem y_hist y_out y_fld y_fc y_made y_s y_rawK y_q y_words y_dw y_tf y_cw y_x y_x2 y_h y_v y_y z y_u y_cp y_oldH y_encSlot y_encSign y_R y_r y_a y_ao := by
  intro d
  induction d with
  | zero =>
    intro n z hn hp hz
    obtain rfl : n = N := by omega
    exact br_t (nI_le (by omega) (by omega)) (nm_r (nI_1 k) (hJ z (fun j hj => by rw [hz j hj, if_pos hj])))
  | succ d ih =>
    intro n z hn hp hz
    have zn : z n = z0 n := by
      rw [hz n (by omega), if_neg (by omega), Int32.add_zero]
    have key : ∀ x, x = z0 n + sp_pc hh pos sg n → ∀ j, j < N → upd z n x j = z0 j + (if j < n + 1 then sp_pc hh pos sg j else 0) := by
      intro x ex j hj
      by_cases e : j = n
      · subst e
        rw [pk_us, ex, if_pos (by omega)]
      · rw [pk_un e, hz j hj]
        by_cases e2 : j < n
        · rw [if_pos e2, if_pos (by omega)]
        · rw [if_neg e2, if_neg (by omega)]
    refine br_f (nI_ge (by omega) (by omega)) ⟨vp_in_nI (by omega) (by omega), ?_⟩
    by_cases c : sg = 0
    · refine br_t (by rw [c]; rfl) ⟨pk_in (n - pos) 32 (by omega) (pk_sub hp), vp_in_nI (by omega) (by omega), nm_e (nm_r (nI_1 n) (ih (n + 1) _ (by omega) (by omega) ?_))⟩
      rw [pk_sub hp, nI_clamp (n := n) (by omega), nI_clamp (n := n - pos) (by omega), zn, hh' (n - pos) (by omega)]
      refine key _ ?_
      unfold sp_pc
      rw [if_neg (by omega), if_pos c]
    · refine br_f (nI_ne0 (by omega) (by omega)) ⟨pk_in (n - pos) 32 (by omega) (pk_sub hp), vp_in_nI (by omega) (by omega), nm_e (nm_r (nI_1 n) (ih (n + 1) _ (by omega) (by omega) ?_))⟩
      rw [pk_sub hp, nI_clamp (n := n) (by omega), nI_clamp (n := n - pos) (by omega), zn, hh' (n - pos) (by omega)]
      refine key _ ?_
      unfold sp_pc
      rw [if_neg (by omega), if_neg c]
theorem sy_bz29 {P N T : Nat} {y_cnt y_cur : Int32} {y_kq y_fg y_mem y_hist y_out y_fld y_fc y_made y_s y_rawK y_q y_words y_dw y_tf y_cw y_x y_x2 y_h y_v y_y y_u y_cp y_oldH y_encSlot y_encSign : Nat → Int32} {y_R y_r y_a y_ao : Nat → Int64} {post : SY → Prop} {hh : Nat → Int32} {ch : Nat → Nat} {t p sg : Nat} (hNT : N = 4 * T) (hT : T ≤ 8) (ht : t < 4) (hp : p < T) (hsg : sg < 2) (hh' : ∀ j, j < N → y_h j = hh j)
    (hc : ∀ k, k < t → ch k < 2 * T ∧ y_encSlot k = nI (ch k / 2) ∧ y_encSign k = nI (ch k % 2)) (hct : ch t = 2 * p + sg)
    (h : ∀ z, (∀ j, j < N → z j = sp_z hh ch (t + 1) j) → post ((nI P), (nI N), (nI T), y_cnt, y_cur, y_kq, y_fg, y_mem, y_hist, y_out, y_fld, y_fc, y_made, y_s, y_rawK, y_q, y_words, y_dw, y_tf, y_cw, y_x, y_x2, y_h, y_v, y_y, z, y_u, y_cp, y_oldH, y_encSlot, y_encSign, y_R, y_r, y_a, y_ao)) :
    ∀ d k z, k + d = t + 1 → (∀ j, j < N → z j = sp_z hh ch k j) → wY_buildZ_29 post (nI t) (nI p) (nI sg) (nI P) (nI N) (nI T) y_cnt y_cur (d + 1) (nI k) y_kq y_fg y_mem y_hist y_out y_fld y_fc y_made y_s y_rawK y_q y_words y_dw y_tf y_cw y_x y_x2 y_h y_v y_y z y_u y_cp y_oldH y_encSlot y_encSign y_R y_r y_a y_ao := by
  intro d
  induction d with
  | zero =>
    intro k z hk hz
    obtain rfl : k = t + 1 := by omega
    exact br_t (nI_lt (by omega) (by omega)) (h z hz)
  | succ d ih =>
    intro k z hk hz
    refine br_f (nI_nlt (by omega) (by omega)) ?_
    have go : ∀ x1 x2 x3, ∃ n86, wY_buildZ_86 post (wY_buildZ_29 post (nI t) (nI p) (nI sg) (nI P) (nI N) (nI T) y_cnt y_cur (d + 1)) x1 x2 x3 (nI k) (nI (k + 4 * (ch k / 2))) (nI (ch k % 2)) (nI P) (nI N) (nI T) y_cnt y_cur n86 (nI (k + 4 * (ch k / 2))) y_kq y_fg y_mem y_hist y_out y_fld y_fc y_made y_s y_rawK y_q y_words y_dw y_tf y_cw y_x y_x2 y_h y_v y_y z y_u y_cp y_oldH y_encSlot y_encSign y_R y_r y_a y_ao := by
      intro x1 x2 x3
      have bk : ch k < 2 * T := by
        by_cases e : k = t
        · rw [e, hct]
          omega
        · exact (hc k (by omega)).1
      refine ⟨N - (k + 4 * (ch k / 2)) + 1, sy_bz86 (z0 := sp_z hh ch k) (by omega) (Nat.mod_lt _ (by decide)) hh' (fun z' hz' => ih (k + 1) z' (by omega) hz') (N - (k + 4 * (ch k / 2))) (k + 4 * (ch k / 2)) z (by omega) (Nat.le_refl _) (fun j hj => ?_)⟩
      rw [hz j hj]
      by_cases e : j < k + 4 * (ch k / 2)
      · rw [if_pos e, show sp_pc hh (k + 4 * (ch k / 2)) (ch k % 2) j = 0 from if_pos e, Int32.add_zero]
      · rw [if_neg e, Int32.add_zero]
    by_cases e : k = t
    · have g := go (nI t) (nI p) (nI sg)
      rw [e, hct, show (2 * p + sg) / 2 = p from by omega, show (2 * p + sg) % 2 = sg from by omega] at g
      have ep : nI t + 4 * nI p = nI (t + 4 * p) := by
        rw [show (4 : Int32) * nI p = nI (4 * p) from pk_mul 4 p, nI_add]
      refine br_t (by rw [e]) ?_
      rw [e, ep]
      exact br_t rfl g
    · have o := hc k (by omega)
      have g := go (nI t) (nI p) (nI sg)
      have ne : ¬ nI k = nI t := fun z => e ((nI_eq (by omega) (by omega)).mp z)
      refine br_f ne ⟨vp_in_nI (by omega) (by omega), ?_⟩
      rw [nI_clamp (by omega), o.2.1, show (4 : Int32) * nI (ch k / 2) = nI (4 * (ch k / 2)) from pk_mul 4 _, nI_add]
      refine br_f ne ⟨vp_in_nI (by omega) (by omega), nm_r (e' := nI (ch k % 2)) ?_ g⟩
      rw [nI_clamp (by omega)]
      exact o.2.2
theorem sy_bz3 {P N T : Nat} {y_cnt y_cur : Int32} {y_kq y_fg y_mem y_hist y_out y_fld y_fc y_made y_s y_rawK y_q y_words y_dw y_tf y_cw y_x y_x2 y_h y_v y_y y_u y_cp y_oldH y_encSlot y_encSign : Nat → Int32} {y_R y_r y_a y_ao : Nat → Int64} {post : SY → Prop} {hh : Nat → Int32} {ch : Nat → Nat} {t p sg : Nat} (hNT : N = 4 * T) (hT : T ≤ 8) (ht : t < 4) (hp : p < T) (hsg : sg < 2) (hh' : ∀ j, j < N → y_h j = hh j)
    (hc : ∀ k, k < t → ch k < 2 * T ∧ y_encSlot k = nI (ch k / 2) ∧ y_encSign k = nI (ch k % 2)) (hct : ch t = 2 * p + sg)
    (h : ∀ z, (∀ j, j < N → z j = sp_z hh ch (t + 1) j) → post ((nI P), (nI N), (nI T), y_cnt, y_cur, y_kq, y_fg, y_mem, y_hist, y_out, y_fld, y_fc, y_made, y_s, y_rawK, y_q, y_words, y_dw, y_tf, y_cw, y_x, y_x2, y_h, y_v, y_y, z, y_u, y_cp, y_oldH, y_encSlot, y_encSign, y_R, y_r, y_a, y_ao)) :
    ∀ d i z, i + d = N → (∀ j, j < i → z j = 0) → wY_buildZ_3 post (nI t) (nI p) (nI sg) (nI P) (nI N) (nI T) y_cnt y_cur (d + 1) (nI i) y_kq y_fg y_mem y_hist y_out y_fld y_fc y_made y_s y_rawK y_q y_words y_dw y_tf y_cw y_x y_x2 y_h y_v y_y z y_u y_cp y_oldH y_encSlot y_encSign y_R y_r y_a y_ao := by
  intro d
  induction d with
  | zero =>
    intro i z hi hz
    obtain rfl : i = N := by omega
    exact br_t (nI_le (by omega) (by omega)) ⟨t + 1 + 1, sy_bz29 hNT hT ht hp hsg hh' hc hct h (t + 1) 0 z (by omega) (fun j hj => hz j hj)⟩
  | succ d ih =>
    intro i z hi hz
    refine br_f (nI_ge (by omega) (by omega)) ⟨vp_in_nI (by omega) (by omega), nm_e (nm_r (nI_1 i) (ih (i + 1) _ (by omega) ?_))⟩
    intro j hj
    rw [nI_clamp (by omega)]
    by_cases e : j = i
    · subst e
      rw [pk_us]
    · rw [pk_un e]
      exact hz j (by omega)
theorem sy_bz {P N T : Nat} {y_cnt y_cur : Int32} {y_kq y_fg y_mem y_hist y_out y_fld y_fc y_made y_s y_rawK y_q y_words y_dw y_tf y_cw y_x y_x2 y_h y_v y_y y_z y_u y_cp y_oldH y_encSlot y_encSign : Nat → Int32} {y_R y_r y_a y_ao : Nat → Int64} {post : SY → Prop} {hh : Nat → Int32} {ch : Nat → Nat} {t p sg : Nat} (hNT : N = 4 * T) (hT : T ≤ 8) (ht : t < 4) (hp : p < T) (hsg : sg < 2) (hh' : ∀ j, j < N → y_h j = hh j)
    (hc : ∀ k, k < t → ch k < 2 * T ∧ y_encSlot k = nI (ch k / 2) ∧ y_encSign k = nI (ch k % 2))
    (h : ∀ z, (∀ j, j < N → z j = sp_z hh ch t j + sp_pc hh (t + 4 * p) sg j) → post ((nI P), (nI N), (nI T), y_cnt, y_cur, y_kq, y_fg, y_mem, y_hist, y_out, y_fld, y_fc, y_made, y_s, y_rawK, y_q, y_words, y_dw, y_tf, y_cw, y_x, y_x2, y_h, y_v, y_y, z, y_u, y_cp, y_oldH, y_encSlot, y_encSign, y_R, y_r, y_a, y_ao)) : wpY_buildZ post ((nI P), (nI N), (nI T), y_cnt, y_cur, y_kq, y_fg, y_mem, y_hist, y_out, y_fld, y_fc, y_made, y_s, y_rawK, y_q, y_words, y_dw, y_tf, y_cw, y_x, y_x2, y_h, y_v, y_y, y_z, y_u, y_cp, y_oldH, y_encSlot, y_encSign, y_R, y_r, y_a, y_ao) (nI t) (nI p) (nI sg) := by
  have q := sy_bz3 (ch := fun k => if k = t then 2 * p + sg else ch k) (post := post) hNT hT ht hp hsg hh' (fun k hk => by
    rw [if_neg (by omega)]
    exact hc k hk) (if_pos rfl) (fun z hz => h z (fun j hj => by
    rw [hz j hj]
    show sp_z hh _ t j + sp_pc hh (t + 4 * ((if t = t then 2 * p + sg else ch t) / 2)) ((if t = t then 2 * p + sg else ch t) % 2) j = _
    rw [if_pos rfl, show (2 * p + sg) / 2 = p from by omega, show (2 * p + sg) % 2 = sg from by omega, sp_z_c (ch' := ch) t (fun k hk => if_neg (by omega))])) N 0 y_z (by omega) (fun j hj => absurd hj (by omega))
  exact Exists.intro _ q
