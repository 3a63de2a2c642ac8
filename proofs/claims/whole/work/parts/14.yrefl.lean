/-! the reference: correlation and recursion -/
theorem sp_lv_z (r : Nat → Int64) : ∀ m j, m < j → (sp_lv r m).2.2 j = 0 := by
  intro m
  induction m with
  | zero => intro j _; rfl
  | succ m ih =>
    intro j hj
    show (sp_ls r (sp_lv r m) (m + 1)).2.2 j = 0
    unfold sp_ls
    split
    · show upd (sp_lv r m).2.2 (m + 1) _ j = 0
      rw [pk_un (by omega)]
      exact ih j (by omega)
    · exact ih j (by omega)
theorem sy_rf249 {P N T : Nat} {y_cnt y_cur : Int32} {y_kq y_fg y_mem y_hist y_out y_fld y_fc y_made y_s y_rawK y_q y_words y_dw y_tf y_cw y_x y_x2 y_h y_v y_y y_z y_u y_cp y_oldH y_encSlot y_encSign : Nat → Int32} {y_R y_r y_ao : Nat → Int64} {post : SY → Prop} {J : _} {A : Nat → Int64} {E kk : Int64} {m : Nat} (h1 : 1 ≤ m) (hm : m ≤ P) (hP : P ≤ 6)
    (ho : ∀ j, 1 ≤ j → j < m → y_ao j = A j)
    (h : ∀ a, (∀ j, 1 ≤ j → j ≤ P → a j = sp_an A m kk j) → J (sp_en E kk) (nI (m + 1)) y_kq y_fg y_mem y_hist y_out y_fld y_fc y_made y_s (upd y_rawK m kk.toInt32) y_q y_words y_dw y_tf y_cw y_x y_x2 y_h y_v y_y y_z y_u y_cp y_oldH y_encSlot y_encSign y_R y_r a y_ao) :
    ∀ d i a, i + d = m → 1 ≤ i → (∀ j, 1 ≤ j → j ≤ P → a j = if j < i then sp_st kk (A j) (A (m - j)) else A j) → wY_reflect_249 post J E (nI m) kk (nI P) (nI N) (nI T) y_cnt y_cur (d + 1) (nI i) y_kq y_fg y_mem y_hist y_out y_fld y_fc y_made y_s y_rawK y_q y_words y_dw y_tf y_cw y_x y_x2 y_h y_v y_y y_z y_u y_cp y_oldH y_encSlot y_encSign y_R y_r a y_ao := by
  intro d
  induction d with
  | zero =>
    intro i a hi h1i hp
    obtain rfl : i = m := by omega
    refine br_t (nI_le (by omega) (by omega)) ⟨vp_in_nI (by omega) (by omega), nm_e (nm_r (e' := sp_en E kk) rfl ⟨vp_in_nI (by omega) (by omega), nm_r (e' := upd y_rawK i kk.toInt32) (by rw [nI_clamp (by omega)]) (nm_r (nI_1 i) (h _ ?_))⟩)⟩
    intro j hj1 hj2
    rw [nI_clamp (by omega)]
    by_cases e : j = i
    · subst e
      rw [pk_uLs]
      exact (if_pos rfl).symm
    · rw [pk_uLn e, hp j hj1 hj2]
      unfold sp_an
      rw [if_neg e]
      by_cases e2 : j < i
      · rw [if_pos e2, if_pos ⟨hj1, e2⟩]
      · rw [if_neg e2, if_neg (fun z => e2 z.2)]
  | succ d ih =>
    intro i a hi h1i hp
    refine br_f (nI_ge (by omega) (by omega)) ⟨vp_in_nI (by omega) (by omega), pk_in (m - i) 7 (by omega) (pk_sub (by omega)), vp_in_nI (by omega) (by omega), nm_e (nm_r (nI_1 i) (ih (i + 1) _ (by omega) (by omega) ?_))⟩
    intro j hj1 hj2
    rw [pk_sub (by omega), nI_clamp (by omega), nI_clamp (by omega), ho i h1i (by omega), ho (m - i) (by omega) (by omega)]
    by_cases e : j = i
    · subst e
      rw [pk_uLs, if_pos (by omega)]
      rfl
    · rw [pk_uLn e, hp j hj1 hj2]
      by_cases e2 : j < i
      · rw [if_pos e2, if_pos (by omega)]
      · rw [if_neg e2, if_neg (by omega)]
theorem sy_rf219 {P N T : Nat} {y_cnt y_cur : Int32} {y_kq y_fg y_mem y_hist y_out y_fld y_fc y_made y_s y_rawK y_q y_words y_dw y_tf y_cw y_x y_x2 y_h y_v y_y y_z y_u y_cp y_oldH y_encSlot y_encSign : Nat → Int32} {y_R y_r y_a : Nat → Int64} {post : SY → Prop} {J : _} {A : Nat → Int64} {E kk : Int64} {m : Nat} (h1 : 1 ≤ m) (hm : m ≤ P) (hP : P ≤ 6)
    (ha : ∀ j, 1 ≤ j → j ≤ P → y_a j = A j)
    (h : ∀ a ao, (∀ j, 1 ≤ j → j ≤ P → a j = sp_an A m kk j) → J (sp_en E kk) (nI (m + 1)) y_kq y_fg y_mem y_hist y_out y_fld y_fc y_made y_s (upd y_rawK m kk.toInt32) y_q y_words y_dw y_tf y_cw y_x y_x2 y_h y_v y_y y_z y_u y_cp y_oldH y_encSlot y_encSign y_R y_r a ao) :
    ∀ d i ao, i + d = m → 1 ≤ i → (∀ j, 1 ≤ j → j < i → ao j = A j) → wY_reflect_219 post J E (nI m) kk (nI P) (nI N) (nI T) y_cnt y_cur (d + 1) (nI i) y_kq y_fg y_mem y_hist y_out y_fld y_fc y_made y_s y_rawK y_q y_words y_dw y_tf y_cw y_x y_x2 y_h y_v y_y y_z y_u y_cp y_oldH y_encSlot y_encSign y_R y_r y_a ao := by
  intro d
  induction d with
  | zero =>
    intro i ao hi h1i hp
    obtain rfl : i = m := by omega
    exact br_t (nI_le (by omega) (by omega)) ⟨i - 1 + 1, sy_rf249 (y_ao := ao) h1 hm hP hp (fun a ha' => h a ao ha') (i - 1) 1 y_a (by omega) (by omega) (fun j hj1 hj2 => by rw [if_neg (by omega)]; exact ha j hj1 hj2)⟩
  | succ d ih =>
    intro i ao hi h1i hp
    refine br_f (nI_ge (by omega) (by omega)) ⟨vp_in_nI (by omega) (by omega), vp_in_nI (by omega) (by omega), nm_e (nm_r (nI_1 i) (ih (i + 1) _ (by omega) (by omega) ?_))⟩
    intro j hj1 hj2
    rw [nI_clamp (by omega)]
    by_cases e : j = i
    · subst e
      rw [pk_uLs]
      exact ha j hj1 (by omega)
    · rw [pk_uLn e]
      exact hp j hj1 (by omega)
theorem sy_rfcl {P N T : Nat} {y_cnt y_cur : Int32} {y_kq y_fg y_mem y_hist y_out y_fld y_fc y_made y_s y_rawK y_q y_words y_dw y_tf y_cw y_x y_x2 y_h y_v y_y y_z y_u y_cp y_oldH y_encSlot y_encSign : Nat → Int32} {y_R y_r y_a y_ao : Nat → Int64} {post : SY → Prop} {J : _} {E w : Int64} {x5 : Int32} (h : ∃ n, wY_reflect_219 post J E x5 (sp_cl w) (nI P) (nI N) (nI T) y_cnt y_cur n 1 y_kq y_fg y_mem y_hist y_out y_fld y_fc y_made y_s y_rawK y_q y_words y_dw y_tf y_cw y_x y_x2 y_h y_v y_y y_z y_u y_cp y_oldH y_encSlot y_encSign y_R y_r y_a y_ao) :
    ((-32767) ≤ w → (wY_reflect_202 post J E x5 w (nI P) (nI N) (nI T) y_cnt y_cur y_kq y_fg y_mem y_hist y_out y_fld y_fc y_made y_s y_rawK y_q y_words y_dw y_tf y_cw y_x y_x2 y_h y_v y_y y_z y_u y_cp y_oldH y_encSlot y_encSign y_R y_r y_a y_ao)) ∧ (¬ (-32767) ≤ w → (wY_reflect_202 post J E x5 (-32767) (nI P) (nI N) (nI T) y_cnt y_cur y_kq y_fg y_mem y_hist y_out y_fld y_fc y_made y_s y_rawK y_q y_words y_dw y_tf y_cw y_x y_x2 y_h y_v y_y y_z y_u y_cp y_oldH y_encSlot y_encSign y_R y_r y_a y_ao)) := by
  unfold sp_cl at h
  refine br_c (fun a => ?_) (fun a => ?_)
  · rw [if_neg (Int64.not_lt.mpr a)] at h
    refine br_c (fun b => ?_) (fun b => ?_)
    · rw [if_neg (Int64.not_lt.mpr b)] at h
      exact h
    · rw [if_pos (Int64.not_le.mp b)] at h
      exact h
  · rw [if_pos (Int64.not_le.mp a)] at h
    exact br_t (by decide) h
theorem sy_rf145 {P N T : Nat} {y_cnt y_cur : Int32} {y_kq y_fg y_mem y_hist y_out y_fld y_fc y_made y_s y_rawK y_q y_words y_dw y_tf y_cw y_x y_x2 y_h y_v y_y y_z y_u y_cp y_oldH y_encSlot y_encSign : Nat → Int32} {y_R y_r y_a y_ao : Nat → Int64} {post : SY → Prop} {J : _} {E : Int64} {m : Nat} (h1 : 1 ≤ m) (hm : m ≤ 6) (hE : ¬ E = 0)
    (h : ∃ n, wY_reflect_219 post J E (nI m) (sp_cl (-(sp_ac y_r y_a m (m - 1) / E))) (nI P) (nI N) (nI T) y_cnt y_cur n 1 y_kq y_fg y_mem y_hist y_out y_fld y_fc y_made y_s y_rawK y_q y_words y_dw y_tf y_cw y_x y_x2 y_h y_v y_y y_z y_u y_cp y_oldH y_encSlot y_encSign y_R y_r y_a y_ao) :
    ∀ d j, j + 1 + d = m → wY_reflect_145 post J E (nI m) (nI P) (nI N) (nI T) y_cnt y_cur y_kq y_fg y_mem y_hist y_out y_fld y_fc y_made y_s y_rawK y_q y_words y_dw y_tf y_cw y_x y_x2 y_h y_v y_y y_z y_u y_cp y_oldH y_encSlot y_encSign y_R y_r y_a y_ao (d + 1) (sp_ac y_r y_a m j) (nI (j + 1)) := by
  intro d
  induction d with
  | zero =>
    intro j hj
    obtain rfl : j = m - 1 := by omega
    exact br_t (nI_le (by omega) (by omega)) ⟨hE, nm_e (sy_rfcl h)⟩
  | succ d ih =>
    intro j hj
    refine br_f (nI_ge (by omega) (by omega)) ⟨vp_in_nI (by omega) (by omega), pk_in (m - (j + 1)) 7 (by omega) (pk_sub (by omega)), nm_r ?_ (nm_r (nI_1 (j + 1)) (ih (j + 1) (by omega)))⟩
    rw [pk_sub (by omega), nI_clamp (by omega), nI_clamp (by omega)]
    rfl
theorem sy_rf103 {P N T : Nat} {y_cnt y_cur : Int32} {y_kq y_fg y_mem y_hist y_out y_fld y_fc y_made y_s y_q y_words y_dw y_tf y_cw y_x y_x2 y_h y_v y_y y_z y_u y_cp y_oldH y_encSlot y_encSign : Nat → Int32} {y_R y_r : Nat → Int64} {post : SY → Prop} {r : Nat → Int64} (hP : P ≤ 6) (hr : ∀ i, i ≤ P → y_r i = r i)
    (h : ∀ raw a ao, (∀ j, 1 ≤ j → j ≤ P → raw j = (sp_lv r P).2.2 j) → post ((nI P), (nI N), (nI T), y_cnt, y_cur, y_kq, y_fg, y_mem, y_hist, y_out, y_fld, y_fc, y_made, y_s, raw, y_q, y_words, y_dw, y_tf, y_cw, y_x, y_x2, y_h, y_v, y_y, y_z, y_u, y_cp, y_oldH, y_encSlot, y_encSign, y_R, y_r, a, ao)) :
    ∀ d m raw a ao, m + d = P → (∀ j, 1 ≤ j → j ≤ P → raw j = (sp_lv r m).2.2 j) → (∀ j, 1 ≤ j → j ≤ P → a j = (sp_lv r m).1 j) →
      wY_reflect_103 post (nI P) (nI N) (nI T) y_cnt y_cur (d + 1) (sp_lv r m).2.1 (nI (m + 1)) y_kq y_fg y_mem y_hist y_out y_fld y_fc y_made y_s raw y_q y_words y_dw y_tf y_cw y_x y_x2 y_h y_v y_y y_z y_u y_cp y_oldH y_encSlot y_encSign y_R y_r a ao := by
  intro d
  induction d with
  | zero =>
    intro m raw a ao hm hk ha
    obtain rfl : m = P := by omega
    exact br_t (nI_lt (by omega) (by omega)) (h raw a ao hk)
  | succ d ih =>
    intro m raw a ao hm hk ha
    refine br_f (nI_nlt (by omega) (by omega)) ?_
    by_cases hE : 0 < (sp_lv r m).2.1
    · have e : sp_lv r (m + 1) = (sp_an (sp_lv r m).1 (m + 1) (sp_km r (sp_lv r m).1 (sp_lv r m).2.1 (m + 1)), sp_en (sp_lv r m).2.1 (sp_km r (sp_lv r m).1 (sp_lv r m).2.1 (m + 1)), upd (sp_lv r m).2.2 (m + 1) (sp_km r (sp_lv r m).1 (sp_lv r m).2.1 (m + 1)).toInt32) := if_pos hE
      have ea : sp_ac y_r a (m + 1) m = sp_ac r (sp_lv r m).1 (m + 1) m := sp_ac_c (P := P) (by omega) (by omega) hr ha m (by omega)
      have ne : ¬ (sp_lv r m).2.1 = 0 := fun z => by rw [z] at hE; exact absurd hE (by decide)
      have ek : (sp_cl (-(sp_ac y_r a (m + 1) (m + 1 - 1) / (sp_lv r m).2.1))) = sp_km r (sp_lv r m).1 (sp_lv r m).2.1 (m + 1) := by rw [show m + 1 - 1 = m from rfl, ea]; rfl
      refine br_t hE ⟨vp_in_nI (by omega) (by omega), nm_r (e' := sp_ac y_r a (m + 1) 0) (by rw [nI_clamp (by omega)]; rfl) ⟨m + 1, sy_rf145 (m := m + 1) (by omega) (by omega) ne ?_ m 0 (by omega)⟩⟩
      rw [ek]
      refine ⟨m + 1, sy_rf219 (A := (sp_lv r m).1) (by omega) (by omega) hP ha (fun a' ao' ha' => ?_) m 1 ao (by omega) (by omega) (fun j hj1 hj2 => absurd hj2 (by omega))⟩
      have i := ih (m + 1) (upd raw (m + 1) (sp_km r (sp_lv r m).1 (sp_lv r m).2.1 (m + 1)).toInt32) a' ao' (by omega) (fun j hj1 hj2 => by
        rw [e]
        show upd raw (m + 1) _ j = upd (sp_lv r m).2.2 (m + 1) _ j
        by_cases q : j = m + 1
        · subst q
          rw [pk_us, pk_us]
        · rw [pk_un q, pk_un q]
          exact hk j hj1 hj2) (fun j hj1 hj2 => by
        rw [e]
        exact ha' j hj1 hj2)
      rw [e] at i
      exact i
    · have e : sp_lv r (m + 1) = sp_lv r m := if_neg hE
      have i := ih (m + 1) (upd raw (m + 1) 0) a ao (by omega) (fun j hj1 hj2 => by
        rw [e]
        by_cases q : j = m + 1
        · subst q
          rw [pk_us, sp_lv_z r m (m + 1) (by omega)]
        · rw [pk_un q]
          exact hk j hj1 hj2) (by rw [e]; exact ha)
      rw [e] at i
      exact br_f hE ⟨vp_in_nI (by omega) (by omega), nm_r (by rw [nI_clamp (by omega)]) (nm_r (nI_1 (m + 1)) i)⟩
theorem sy_rf54 {P N T : Nat} {y_cnt y_cur : Int32} {y_kq y_fg y_mem y_hist y_out y_fld y_fc y_made y_s y_rawK y_q y_words y_dw y_tf y_cw y_x y_x2 y_h y_v y_y y_z y_u y_cp y_oldH y_encSlot y_encSign : Nat → Int32} {y_R y_ao : Nat → Int64} {post : SY → Prop} {s : Nat → Int32} (hs : sp_bd s) (hN : N ≤ 32) (hP : P ≤ 6) (hR : ∀ i, i ≤ P → y_R i = sp_R s N i) (hz : ∀ j, j < 7 → y_rawK j = 0)
    (h : ∀ raw r a ao, (∀ j, 1 ≤ j → j ≤ P → raw j = (sp_lv (sp_r s N) P).2.2 j) → post ((nI P), (nI N), (nI T), y_cnt, y_cur, y_kq, y_fg, y_mem, y_hist, y_out, y_fld, y_fc, y_made, y_s, raw, y_q, y_words, y_dw, y_tf, y_cw, y_x, y_x2, y_h, y_v, y_y, y_z, y_u, y_cp, y_oldH, y_encSlot, y_encSign, y_R, r, a, ao)) :
    ∀ d i r a, i + d = P + 1 → (∀ j, j < i → r j = sp_r s N j) → (∀ j, j < i → a j = 0) → wY_reflect_54 post (sp_den (sp_R s N 0)) (nI P) (nI N) (nI T) y_cnt y_cur (d + 1) (nI i) y_kq y_fg y_mem y_hist y_out y_fld y_fc y_made y_s y_rawK y_q y_words y_dw y_tf y_cw y_x y_x2 y_h y_v y_y y_z y_u y_cp y_oldH y_encSlot y_encSign y_R r a y_ao := by
  have b := sp_R0_r hs hN
  have b2 := sp_den_0 b.1 b.2
  intro d
  induction d with
  | zero =>
    intro i r a hi hr ha
    refine br_t (nI_lt (by omega) (by omega)) (nm_r (e' := (sp_lv (sp_r s N) 0).2.1) (hr 0 (by omega)) ⟨P + 1, ?_⟩)
    exact sy_rf103 (y_r := r) hP (fun j hj => hr j (by omega)) (fun raw' a' ao' h' => h raw' r a' ao' h') P 0 y_rawK a y_ao (by omega) (fun j h1 h2 => hz j (by omega)) (fun j h1 h2 => ha j (by omega))
  | succ d ih =>
    intro i r a hi hr ha
    refine br_f (nI_nlt (by omega) (by omega)) ⟨vp_in_nI (by omega) (by omega), b2.1, vp_in_nI (by omega) (by omega), nm_e ⟨vp_in_nI (by omega) (by omega), nm_e (nm_r (nI_1 i) (ih (i + 1) _ _ (by omega) ?_ ?_))⟩⟩
    · intro j hj
      rw [nI_clamp (by omega)]
      by_cases e : j = i
      · subst e
        rw [pk_uLs, hR j (by omega)]
        rfl
      · rw [pk_uLn e]
        exact hr j (by omega)
    · intro j hj
      rw [nI_clamp (by omega)]
      by_cases e : j = i
      · subst e
        rw [pk_uLs]
      · rw [pk_uLn e]
        exact ha j (by omega)
theorem sy_rf2 {P N T : Nat} {y_cnt y_cur : Int32} {y_kq y_fg y_mem y_hist y_out y_fld y_fc y_made y_s y_q y_words y_dw y_tf y_cw y_x y_x2 y_h y_v y_y y_z y_u y_cp y_oldH y_encSlot y_encSign : Nat → Int32} {y_R y_r y_a y_ao : Nat → Int64} {post : SY → Prop} {s : Nat → Int32} (hs : sp_bd s) (hN : N ≤ 32) (hP : P ≤ 6) (hR : ∀ i, i ≤ P → y_R i = sp_R s N i)
    (h : ∀ raw r a ao, (∀ j, 1 ≤ j → j ≤ P → raw j = sp_K s N P j) → post ((nI P), (nI N), (nI T), y_cnt, y_cur, y_kq, y_fg, y_mem, y_hist, y_out, y_fld, y_fc, y_made, y_s, raw, y_q, y_words, y_dw, y_tf, y_cw, y_x, y_x2, y_h, y_v, y_y, y_z, y_u, y_cp, y_oldH, y_encSlot, y_encSign, y_R, r, a, ao)) :
    ∀ d i raw, i + d = 7 → (∀ j, j < i → raw j = 0) → wY_reflect_2 post (nI P) (nI N) (nI T) y_cnt y_cur (d + 1) (nI i) y_kq y_fg y_mem y_hist y_out y_fld y_fc y_made y_s raw y_q y_words y_dw y_tf y_cw y_x y_x2 y_h y_v y_y y_z y_u y_cp y_oldH y_encSlot y_encSign y_R y_r y_a y_ao := by
  intro d
  induction d with
  | zero =>
    intro i raw hi hz
    obtain rfl : i = 7 := by omega
    have r0 := hR 0 (by omega)
    refine br_t (nI_le (a := 7) (by omega) (by omega)) ?_
    rw [r0]
    by_cases z : sp_R s N 0 = 0
    · exact br_t z (h raw y_r y_a y_ao (fun j h1 h2 => by rw [hz j (by omega)]; exact (if_pos z).symm))
    · refine br_f z (nm_r (e' := sp_den (sp_R s N 0)) rfl ⟨P + 1 + 1, ?_⟩)
      exact sy_rf54 (y_rawK := raw) hs hN hP hR hz (fun raw' r' a' ao' h' => h raw' r' a' ao' (fun j h1 h2 => by rw [h' j h1 h2]; exact (if_neg z).symm)) (P + 1) 0 y_r y_a (by omega) (fun j hj => absurd hj (by omega)) (fun j hj => absurd hj (by omega))
  | succ d ih =>
    intro i raw hi hz
    refine br_f (nI_ge (b := 7) (by omega) (by omega)) ⟨vp_in_nI (by omega) (by omega), nm_e (nm_r (nI_1 i) (ih (i + 1) _ (by omega) ?_))⟩
    intro j hj
    rw [nI_clamp (by omega)]
    by_cases e : j = i
    · subst e
      rw [pk_us]
    · rw [pk_un e]
      exact hz j (by omega)
theorem sy_rf {P N T : Nat} {y_cnt y_cur : Int32} {y_kq y_fg y_mem y_hist y_out y_fld y_fc y_made y_s y_rawK y_q y_words y_dw y_tf y_cw y_x y_x2 y_h y_v y_y y_z y_u y_cp y_oldH y_encSlot y_encSign : Nat → Int32} {y_R y_r y_a y_ao : Nat → Int64} {post : SY → Prop} {s : Nat → Int32} (hs : sp_bd s) (hN : N ≤ 32) (hP : P ≤ 6) (hR : ∀ i, i ≤ P → y_R i = sp_R s N i)
    (h : ∀ raw r a ao, (∀ j, 1 ≤ j → j ≤ P → raw j = sp_K s N P j) → post ((nI P), (nI N), (nI T), y_cnt, y_cur, y_kq, y_fg, y_mem, y_hist, y_out, y_fld, y_fc, y_made, y_s, raw, y_q, y_words, y_dw, y_tf, y_cw, y_x, y_x2, y_h, y_v, y_y, y_z, y_u, y_cp, y_oldH, y_encSlot, y_encSign, y_R, r, a, ao)) : wpY_reflect post ((nI P), (nI N), (nI T), y_cnt, y_cur, y_kq, y_fg, y_mem, y_hist, y_out, y_fld, y_fc, y_made, y_s, y_rawK, y_q, y_words, y_dw, y_tf, y_cw, y_x, y_x2, y_h, y_v, y_y, y_z, y_u, y_cp, y_oldH, y_encSlot, y_encSign, y_R, y_r, y_a, y_ao) :=
  Exists.intro (7 + 1) (sy_rf2 hs hN hP hR h 7 0 y_rawK (by omega) (fun j hj => absurd hj (by omega)))
theorem sy_e28 {P N T : Nat} {y_cnt y_cur : Int32} {y_kq y_fg y_mem y_hist y_out y_fld y_fc y_made y_s y_rawK y_q y_words y_dw y_tf y_cw y_x y_x2 y_h y_v y_y y_z y_u y_cp y_oldH y_encSlot y_encSign : Nat → Int32} {y_R y_r y_a y_ao : Nat → Int64} {post : Int32 → SY → Prop} {J : _} {i : Nat} (hN : N ≤ 32) (hi : i ≤ 6)
    (hJ : J (nI (i + 1)) y_kq y_fg y_mem y_hist y_out y_fld y_fc y_made y_s y_rawK y_q y_words y_dw y_tf y_cw y_x y_x2 y_h y_v y_y y_z y_u y_cp y_oldH y_encSlot y_encSign (vp_updL y_R i (sp_R y_s N i)) y_r y_a y_ao) :
    ∀ d t, i + t + d = N → wY_encodeFrame_28 post J (nI i) (nI P) (nI N) (nI T) y_cnt y_cur y_kq y_fg y_mem y_hist y_out y_fld y_fc y_made y_s y_rawK y_q y_words y_dw y_tf y_cw y_x y_x2 y_h y_v y_y y_z y_u y_cp y_oldH y_encSlot y_encSign y_R y_r y_a y_ao (d + 1) (sp_sm (fun t => (y_s (i + t)).toInt64 * (y_s t).toInt64) t) (nI (i + t)) := by
  intro d
  induction d with
  | zero =>
    intro t ht
    obtain rfl : t = N - i := by omega
    refine br_t (nI_le (by omega) (by omega)) ⟨vp_in_nI (by omega) (by omega), ?_⟩
    exact nm_r (by rw [nI_clamp (by omega)]; rfl) (nm_r (nI_1 i) hJ)
  | succ d ih =>
    intro t ht
    refine br_f (nI_ge (by omega) (by omega)) ⟨vp_in_nI (by omega) (by omega), pk_in t 32 (by omega) ?_, nm_r ?_ (nm_r (nI_1 (i + t)) (ih (t + 1) (by omega)))⟩
    · rw [pk_sub (by omega), Nat.add_sub_cancel_left]
    · rw [pk_sub (by omega), Nat.add_sub_cancel_left, nI_clamp (by omega), nI_clamp (by omega)]
      rfl
theorem sy_e15 {P N T : Nat} {y_cnt y_cur : Int32} {y_kq y_fg y_mem y_hist y_out y_fld y_fc y_made y_s y_rawK y_q y_words y_dw y_tf y_cw y_x y_x2 y_h y_v y_y y_z y_u y_cp y_oldH y_encSlot y_encSign : Nat → Int32} {y_R y_r y_a y_ao : Nat → Int64} {post : Int32 → SY → Prop} {s : Nat → Int32} (es : y_s = s) (hs : sp_bd s) (hN8 : 8 ≤ N) (hN : N ≤ 32) (hP : P ≤ 6)
    (h : ∀ raw R r a ao, (∀ j, 1 ≤ j → j ≤ P → raw j = sp_K s N P j) → ∃ n, wY_encodeFrame_84 post (nI P) (nI N) (nI T) y_cnt y_cur n 1 y_kq y_fg y_mem y_hist y_out y_fld y_fc y_made y_s raw y_q y_words y_dw y_tf y_cw y_x y_x2 y_h y_v y_y y_z y_u y_cp y_oldH y_encSlot y_encSign R r a ao) :
    ∀ d i, i + d = P + 1 → wY_encodeFrame_15 post (nI P) (nI N) (nI T) y_cnt y_cur (d + 1) (nI i) y_kq y_fg y_mem y_hist y_out y_fld y_fc y_made y_s y_rawK y_q y_words y_dw y_tf y_cw y_x y_x2 y_h y_v y_y y_z y_u y_cp y_oldH y_encSlot y_encSign (sp_fl (sp_R y_s N) i y_R) y_r y_a y_ao := by
  subst es
  intro d
  induction d with
  | zero =>
    intro i hi
    exact br_t (nI_lt (by omega) (by omega)) (sy_rf (s := y_s) hs hN hP (fun j hj => sp_fl_lo (by omega)) (fun raw r a ao hk => h raw _ r a ao hk))
  | succ d ih =>
    intro i hi
    refine br_f (nI_nlt (by omega) (by omega)) ⟨N - i + 1, sy_e28 hN (by omega) ?_ (N - i) 0 (by omega)⟩
    rw [sp_flSL]
    exact ih (i + 1) (by omega)
