/-! the reference: the searches -/
theorem sp_ys_new {e : Int64} {c g : Nat} {s : Int64 × Nat × Nat} {first : Int32} {best : Int64} {bc bg : Nat} (h : sp_ys c g s first best bc bg) (hc : ¬ first = 0 ∨ e < best) :
    sp_ys c (g + 1) (if e < s.1 then (e, c, g) else s) 0 e c g := by
  refine Or.inr ?_
  rcases h with ⟨h1, h2, h3, h4, h5, h6, h7⟩ | ⟨h1, h2, h3, h4⟩
  · subst h1 h2 h7
    by_cases q : e < sp_mx
    · rw [if_pos q]
      exact ⟨rfl, rfl, rfl, rfl⟩
    · rw [if_neg q]
      exact ⟨rfl, sp_mx_le e q, rfl, rfl⟩
  · rcases hc with hc | hc
    · exact absurd h1 hc
    · rw [h2] at hc
      rw [if_pos hc]
      exact ⟨rfl, rfl, rfl, rfl⟩
theorem sp_ys_old {e : Int64} {c g : Nat} {s : Int64 × Nat × Nat} {first : Int32} {best : Int64} {bc bg : Nat} (h : sp_ys c g s first best bc bg) (h0 : first = 0) (hc : ¬ e < best) :
    sp_ys c (g + 1) (if e < s.1 then (e, c, g) else s) first best bc bg := by
  refine Or.inr ?_
  rcases h with ⟨h1, h2, h3, h4, h5, h6, h7⟩ | ⟨h1, h2, h3, h4⟩
  · rw [h3] at h0
    exact absurd h0 (by decide)
  · rw [h2] at hc
    rw [if_neg hc]
    exact ⟨h1, h2, h3, h4⟩
theorem sp_ys_up {c G : Nat} {s : Int64 × Nat × Nat} {first : Int32} {best : Int64} {bc bg : Nat} (hG : 0 < G) (h : sp_ys c G s first best bc bg) : sp_ys (c + 1) 0 s first best bc bg := by
  rcases h with ⟨h1, h2, h3⟩ | h
  · omega
  · exact Or.inr h
theorem sp_ys_end {c : Nat} {s : Int64 × Nat × Nat} {first : Int32} {best : Int64} {bc bg : Nat} (hc : 0 < c) (h : sp_ys c 0 s first best bc bg) : bc = s.2.1 ∧ bg = s.2.2 := by
  rcases h with ⟨h1, h2⟩ | h
  · omega
  · exact ⟨h.2.2.1, h.2.2.2⟩
theorem sy_st71 {P N T : Nat} {y_cnt y_cur : Int32} {y_kq y_fg y_mem y_hist y_out y_fld y_fc y_made y_s y_rawK y_q y_words y_dw y_tf y_cw y_x y_x2 y_h y_v y_y y_z y_u y_cp y_oldH y_encSlot y_encSign : Nat → Int32} {y_R y_r y_a y_ao : Nat → Int64} {post : Int32 → SY → Prop} {J17 J44 : _} {x1 : Int32} {x10 : Int64} {c g : Nat} (hc : c < 64) (hJ : J44 x10 0 (nI (c / 2)) (nI (c % 2)) (nI g) (nI (g + 1))) : wY_searchTrack_71 post J17 J44 x1 (nI c) (nI g) x10 (nI P) (nI N) (nI T) y_cnt y_cur y_kq y_fg y_mem y_hist y_out y_fld y_fc y_made y_s y_rawK y_q y_words y_dw y_tf y_cw y_x y_x2 y_h y_v y_y y_z y_u y_cp y_oldH y_encSlot y_encSign y_R y_r y_a y_ao :=
  And.intro (by decide) (nm_r (pk_div (d := 2) (by omega) (by omega) (by omega)) ⟨by decide, nm_r (pk_rem (d := 2) (by omega) (by omega) (by omega)) (nm_r (nI_1 g) hJ)⟩)
theorem sy_st44 {P N T : Nat} {y_cnt y_cur : Int32} {y_kq y_fg y_mem y_hist y_out y_fld y_fc y_made y_s y_rawK y_q y_words y_dw y_tf y_cw y_x y_x2 y_h y_v y_y y_z y_u y_cp y_oldH y_encSlot y_encSign : Nat → Int32} {y_R y_r y_a y_ao : Nat → Int64} {post : Int32 → SY → Prop} {J17 : _} {x z : Nat → Int32} {E : Nat → Nat → Int64} {x1 : Int32} {c : Nat} {s0 : Int64 × Nat × Nat} (hN : N ≤ 32) (hc : c < 64)
    (hf : ∀ j, j < 16 → y_fg j = sp_fg j) (hx : ∀ j, j < N → y_x2 j = x j) (hz : ∀ j, j < N → y_z j = z j) (hE : ∀ g, g < 16 → E c g = sp_ef x z N (sp_fg g))
    (hJ : ∀ x2 x4 bc bg, sp_ys c 16 (sp_in E c 16 s0) x4 x2 bc bg → J17 x2 x4 (nI (bc / 2)) (nI (bc % 2)) (nI bg) (nI (c + 1)) (nI P) (nI N) (nI T) y_cnt y_cur y_kq y_fg y_mem y_hist y_out y_fld y_fc y_made y_s y_rawK y_q y_words y_dw y_tf y_cw y_x y_x2 y_h y_v y_y y_z y_u y_cp y_oldH y_encSlot y_encSign y_R y_r y_a y_ao) :
    ∀ d g x2 x4 bc bg, g + d = 16 → sp_ys c g (sp_in E c g s0) x4 x2 bc bg → wY_searchTrack_44 post J17 x1 (nI c) (nI P) (nI N) (nI T) y_cnt y_cur y_kq y_fg y_mem y_hist y_out y_fld y_fc y_made y_s y_rawK y_q y_words y_dw y_tf y_cw y_x y_x2 y_h y_v y_y y_z y_u y_cp y_oldH y_encSlot y_encSign y_R y_r y_a y_ao (d + 1) x2 x4 (nI (bc / 2)) (nI (bc % 2)) (nI bg) (nI g) := by
  intro d
  induction d with
  | zero =>
    intro g x2 x4 bc bg hg h
    obtain rfl : g = 16 := by omega
    exact br_t (nI_le (a := 16) (by omega) (by omega)) (nm_r (nI_1 c) (hJ x2 x4 bc bg h))
  | succ d ih =>
    intro g x2 x4 bc bg hg h
    refine br_f (nI_ge (b := 16) (by omega) (by omega)) (sy_ef hN (by omega) hf hx hz ?_)
    rw [← hE g (by omega)]
    have nw := fun hc' => ih (g + 1) (E c g) 0 c g (by omega) (sp_ys_new h hc')
    refine br_c (fun h0 => br_c (fun hl => ?_) (fun hl => ?_)) (fun h0 => ?_)
    · exact nm_r (nI_1 g) (ih (g + 1) x2 x4 bc bg (by omega) (sp_ys_old h h0 (Int64.not_lt.mpr hl)))
    · exact sy_st71 hc (nw (Or.inr (Int64.not_le.mp hl)))
    · exact sy_st71 hc (nw (Or.inl h0))
theorem sy_st17 {P N T : Nat} {y_cnt y_cur : Int32} {y_kq y_fg y_mem y_hist y_out y_fld y_fc y_made y_s y_rawK y_q y_words y_dw y_tf y_cw y_x y_x2 y_h y_v y_y y_u y_cp y_oldH y_encSlot y_encSign : Nat → Int32} {y_R y_r y_a y_ao : Nat → Int64} {post : Int32 → SY → Prop} {x hh : Nat → Int32} {ch : Nat → Nat} {E : Nat → Nat → Int64} {t : Nat} (hNT : N = 4 * T) (hT2 : 2 ≤ T) (hT : T ≤ 8) (ht : t < 4)
    (hf : ∀ j, j < 16 → y_fg j = sp_fg j) (hx : ∀ j, j < N → y_x2 j = x j) (hh' : ∀ j, j < N → y_h j = hh j)
    (hc : ∀ k, k < t → ch k < 2 * T ∧ y_encSlot k = nI (ch k / 2) ∧ y_encSign k = nI (ch k % 2))
    (hE : ∀ c g, E c g = sp_ef x (fun n => sp_z hh ch t n + sp_pc hh (t + 4 * (c / 2)) (c % 2) n) N (sp_fg g))
    (h : ∀ z, post (nI (sp_out E 16 (2 * T)).2.2) ((nI P), (nI N), (nI T), y_cnt, y_cur, y_kq, y_fg, y_mem, y_hist, y_out, y_fld, y_fc, y_made, y_s, y_rawK, y_q, y_words, y_dw, y_tf, y_cw, y_x, y_x2, y_h, y_v, y_y, z, y_u, y_cp, y_oldH, (upd y_encSlot t (nI ((sp_out E 16 (2 * T)).2.1 / 2))), (upd y_encSign t (nI ((sp_out E 16 (2 * T)).2.1 % 2))), y_R, y_r, y_a, y_ao)) :
    ∀ d c z x2 x4 bc bg, c + d = 2 * T → sp_ys c 0 (sp_out E 16 c) x4 x2 bc bg → wY_searchTrack_17 post (nI t) (d + 1) x2 x4 (nI (bc / 2)) (nI (bc % 2)) (nI bg) (nI c) (nI P) (nI N) (nI T) y_cnt y_cur y_kq y_fg y_mem y_hist y_out y_fld y_fc y_made y_s y_rawK y_q y_words y_dw y_tf y_cw y_x y_x2 y_h y_v y_y z y_u y_cp y_oldH y_encSlot y_encSign y_R y_r y_a y_ao := by
  have eT : (2 : Int32) * nI T = nI (2 * T) := pk_mul 2 T
  intro d
  induction d with
  | zero =>
    intro c z x2 x4 bc bg hd hs
    obtain rfl : c = 2 * T := by omega
    obtain ⟨rfl, rfl⟩ := sp_ys_end (by omega) hs
    refine br_t (by rw [eT]; exact nI_le (by omega) (by omega)) ⟨vp_in_nI (by omega) (by omega), nm_r ?_ ⟨vp_in_nI (by omega) (by omega), nm_r ?_ (h z)⟩⟩
    · rw [nI_clamp (by omega)]
    · rw [nI_clamp (by omega)]
  | succ d ih =>
    intro c z x2 x4 bc bg hd hs
    refine br_f (by rw [eT]; exact nI_ge (by omega) (by omega)) ⟨by decide, by decide, ?_⟩
    rw [show nI c / 2 = nI (c / 2) from pk_div (d := 2) (by omega) (by omega) (by omega)]
    rw [show nI c - nI (c / 2) * 2 = nI (c % 2) from by
      rw [show nI (c / 2) * 2 = nI (c / 2 * 2) from pk_mul _ 2, pk_sub (by omega), show c - c / 2 * 2 = c % 2 from by omega]]
    refine sy_bz hNT hT ht (by omega) (by omega) hh' hc (fun z' hz' => ?_)
    refine ⟨16 + 1, sy_st44 (E := E) (s0 := sp_out E 16 c) (z := fun n => sp_z hh ch t n + sp_pc hh (t + 4 * (c / 2)) (c % 2) n) (by omega) (by omega) hf hx hz' (fun g _ => hE c g) (fun y2 y4 bc' bg' hs' => ?_) 16 0 x2 x4 bc bg (by omega) hs⟩
    rw [← sp_out_s] at hs'
    exact ih (c + 1) z' y2 y4 bc' bg' (by omega) (sp_ys_up (by omega) hs')
theorem sy_st {P N T : Nat} {y_cnt y_cur : Int32} {y_kq y_fg y_mem y_hist y_out y_fld y_fc y_made y_s y_rawK y_q y_words y_dw y_tf y_cw y_x y_x2 y_h y_v y_y y_z y_u y_cp y_oldH y_encSlot y_encSign : Nat → Int32} {y_R y_r y_a y_ao : Nat → Int64} {post : Int32 → SY → Prop} {x hh : Nat → Int32} {ch : Nat → Nat} {E : Nat → Nat → Int64} {t : Nat} (hNT : N = 4 * T) (hT2 : 2 ≤ T) (hT : T ≤ 8) (ht : t < 4)
    (hf : ∀ j, j < 16 → y_fg j = sp_fg j) (hx : ∀ j, j < N → y_x2 j = x j) (hh' : ∀ j, j < N → y_h j = hh j)
    (hc : ∀ k, k < t → ch k < 2 * T ∧ y_encSlot k = nI (ch k / 2) ∧ y_encSign k = nI (ch k % 2))
    (hE : ∀ c g, E c g = sp_ef x (fun n => sp_z hh ch t n + sp_pc hh (t + 4 * (c / 2)) (c % 2) n) N (sp_fg g))
    (h : ∀ z, post (nI (sp_out E 16 (2 * T)).2.2) ((nI P), (nI N), (nI T), y_cnt, y_cur, y_kq, y_fg, y_mem, y_hist, y_out, y_fld, y_fc, y_made, y_s, y_rawK, y_q, y_words, y_dw, y_tf, y_cw, y_x, y_x2, y_h, y_v, y_y, z, y_u, y_cp, y_oldH, (upd y_encSlot t (nI ((sp_out E 16 (2 * T)).2.1 / 2))), (upd y_encSign t (nI ((sp_out E 16 (2 * T)).2.1 % 2))), y_R, y_r, y_a, y_ao)) : wpY_searchTrack post ((nI P), (nI N), (nI T), y_cnt, y_cur, y_kq, y_fg, y_mem, y_hist, y_out, y_fld, y_fc, y_made, y_s, y_rawK, y_q, y_words, y_dw, y_tf, y_cw, y_x, y_x2, y_h, y_v, y_y, y_z, y_u, y_cp, y_oldH, y_encSlot, y_encSign, y_R, y_r, y_a, y_ao) (nI t) := by
  have q := sy_st17 hNT hT2 hT ht hf hx hh' hc hE h (2 * T) 0 y_z 0 1 0 0 (by omega) (Or.inl ⟨rfl, rfl, rfl, rfl, rfl, rfl, rfl⟩)
  rw [Nat.zero_div, Nat.zero_mod, nI_0] at q
  exact Exists.intro _ q
theorem sy_ad333 {P N T : Nat} {y_cnt y_cur : Int32} {y_kq y_fg y_mem y_hist y_out y_fld y_fc y_made y_s y_rawK y_q y_words y_dw y_tf y_cw y_x y_x2 y_h y_v y_y y_z y_u y_cp y_oldH y_encSlot y_encSign : Nat → Int32} {y_R y_r y_a y_ao : Nat → Int64} {post : Int32 → SY → Prop} {J : _} {x y : Nat → Int32} {E : Nat → Nat → Int64} {l : Nat} {s0 : Int64 × Nat × Nat} (hN : N ≤ 32)
    (hx : ∀ j, j < N → y_x j = x j) (hy : ∀ j, j < N → y_y j = y j) (hE : ∀ g, g < 8 → E l g = sp_ea x y N (nI g))
    (hJ : ∀ x1 x3 bc bg, sp_ys l 8 (sp_in E l 8 s0) x3 x1 bc bg → J x1 x3 (nI bc) (nI bg) (nI (l + 1)) (nI P) (nI N) (nI T) y_cnt y_cur y_kq y_fg y_mem y_hist y_out y_fld y_fc y_made y_s y_rawK y_q y_words y_dw y_tf y_cw y_x y_x2 y_h y_v y_y y_z y_u y_cp y_oldH y_encSlot y_encSign y_R y_r y_a y_ao) :
    ∀ d g x1 x3 bc bg, g + d = 8 → sp_ys l g (sp_in E l g s0) x3 x1 bc bg → wY_encodeFrame_333 post J (nI l) (nI P) (nI N) (nI T) y_cnt y_cur y_kq y_fg y_mem y_hist y_out y_fld y_fc y_made y_s y_rawK y_q y_words y_dw y_tf y_cw y_x y_x2 y_h y_v y_y y_z y_u y_cp y_oldH y_encSlot y_encSign y_R y_r y_a y_ao (d + 1) x1 x3 (nI bc) (nI bg) (nI g) := by
  intro d
  induction d with
  | zero =>
    intro g x1 x3 bc bg hg h
    obtain rfl : g = 8 := by omega
    exact br_t (nI_le (a := 8) (by omega) (by omega)) (nm_r (nI_1 l) (hJ x1 x3 bc bg h))
  | succ d ih =>
    intro g x1 x3 bc bg hg h
    refine br_f (nI_ge (b := 8) (by omega) (by omega)) (sy_ea hN hx hy ?_)
    rw [← hE g (by omega)]
    have nw := fun hc' => ih (g + 1) (E l g) 0 l g (by omega) (sp_ys_new h hc')
    refine br_c (fun h0 => br_c (fun hl => ?_) (fun hl => ?_)) (fun h0 => ?_)
    · exact nm_r (nI_1 g) (ih (g + 1) x1 x3 bc bg (by omega) (sp_ys_old h h0 (Int64.not_lt.mpr hl)))
    · exact nm_r (nI_1 g) (nw (Or.inr (Int64.not_le.mp hl)))
    · exact nm_r (nI_1 g) (nw (Or.inl h0))
theorem sy_ad312 {P N T : Nat} {y_cnt y_cur : Int32} {y_kq y_fg y_mem y_hist y_out y_fld y_fc y_made y_s y_rawK y_q y_words y_dw y_tf y_cw y_x y_x2 y_h y_z y_u y_cp y_oldH y_encSlot y_encSign : Nat → Int32} {y_R y_r y_a y_ao : Nat → Int64} {post : Int32 → SY → Prop} {x hh H : Nat → Int32} {E : Nat → Nat → Int64} {R : Int64 × Nat × Nat} (eR : sp_out E 8 32 = R) (hN : N ≤ 32)
    (hx : ∀ j, j < N → y_x j = x j) (hh' : ∀ j, j < N → y_h j = hh j) (hH : ∀ j, 1 ≤ j → j ≤ 64 → y_hist (0 * 65 + j) = H j)
    (hE : ∀ l g, l < 32 → g < 8 → E l g = sp_ea x (sp_cy (sp_pv H (l + 4)) hh) N (nI g)) (hL : R.2.1 < 32)
    (h : ∀ v y, (∀ j, j < N → y j = sp_cy (sp_pv H (R.2.1 + 4)) hh j) → ∃ n, wY_encodeFrame_398 post (nI R.2.1) (nI R.2.2) (nI P) (nI N) (nI T) y_cnt y_cur n 0 y_kq y_fg y_mem y_hist y_out y_fld y_fc y_made y_s y_rawK y_q y_words y_dw y_tf y_cw y_x y_x2 y_h v y y_z y_u y_cp y_oldH y_encSlot y_encSign y_R y_r y_a y_ao) :
    ∀ d l v y x1 x3 bc bg, l + d = 32 → sp_ys l 0 (sp_out E 8 l) x3 x1 bc bg → wY_encodeFrame_312 post (d + 1) x1 x3 (nI bc) (nI bg) (nI l) (nI P) (nI N) (nI T) y_cnt y_cur y_kq y_fg y_mem y_hist y_out y_fld y_fc y_made y_s y_rawK y_q y_words y_dw y_tf y_cw y_x y_x2 y_h v y y_z y_u y_cp y_oldH y_encSlot y_encSign y_R y_r y_a y_ao := by
  intro d
  induction d with
  | zero =>
    intro l v y x1 x3 bc bg hl hs
    obtain rfl : l = 32 := by omega
    rw [eR] at hs
    obtain ⟨rfl, rfl⟩ := sp_ys_end (by omega) hs
    refine br_t (nI_le (a := 32) (by omega) (by omega)) (sy_fv (sd := 0) hN (by omega) hL hH ?_)
    refine sy_cy (v := sp_pv H (R.2.1 + 4)) (hh := hh) hN (fun j hj => sp_fl_lo hj) hh' ?_
    exact h _ _ (fun j hj => sp_fl_lo hj)
  | succ d ih =>
    intro l v y x1 x3 bc bg hl hs
    refine br_f (nI_ge (b := 32) (by omega) (by omega)) (sy_fv (sd := 0) hN (by omega) (by omega) hH ?_)
    refine sy_cy (v := sp_pv H (l + 4)) (hh := hh) hN (fun j hj => sp_fl_lo hj) hh' ?_
    refine ⟨8 + 1, sy_ad333 (E := E) (s0 := sp_out E 8 l) hN hx (fun j hj => sp_fl_lo hj) (fun g hg => hE l g (by omega) hg) (fun x1' x3' bc' bg' hs' => ?_) 8 0 x1 x3 bc bg (by omega) hs⟩
    rw [← sp_out_s] at hs'
    exact ih (l + 1) _ _ x1' x3' bc' bg' (by omega) (sp_ys_up (by omega) hs')
