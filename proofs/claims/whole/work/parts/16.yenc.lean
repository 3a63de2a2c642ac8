/-! the reference's encodeFrame: its loops from the first to the last -/
theorem sp_qs_n {k : Int32} (h1 : -32768 ≤ k.toInt) (h2 : k.toInt ≤ 32767) : ∀ i, i < 16 → ¬ (sp_qs k i).2 < 0 := by
  intro i
  induction i with
  | zero =>
    intro hi
    have r := sp_kq_r 0 hi
    exact (sp_ds_y h1 h2 r.1 r.2).2.2
  | succ i ih =>
    intro hi
    have r := sp_kq_r (i + 1) hi
    show ¬ (if sp_ds k (sp_kq (i + 1)) < (sp_qs k i).2 then (i + 1, sp_ds k (sp_kq (i + 1))) else sp_qs k i).2 < 0
    split
    · exact (sp_ds_y h1 h2 r.1 r.2).2.2
    · exact ih (by omega)
theorem sy_e99 {P N T : Nat} {y_cnt y_cur : Int32} {y_kq y_fg y_mem y_hist y_out y_fld y_fc y_made y_s y_rawK y_q y_words y_dw y_tf y_cw y_x y_x2 y_h y_v y_y y_z y_u y_cp y_oldH y_encSlot y_encSign : Nat → Int32} {y_R y_r y_a y_ao : Nat → Int64} {post : Int32 → SY → Prop} {J : _} {k : Int32} {m : Nat} (h1 : -32768 ≤ k.toInt) (h2 : k.toInt ≤ 32767) (hm : m ≤ 6) (hraw : y_rawK m = k) (hk : ∀ j, j < 16 → y_kq j = sp_kq j)
    (hJ : J (nI (m + 1)) y_kq y_fg y_mem y_hist y_out y_fld y_fc y_made y_s y_rawK (upd y_q m (nI (sp_nq k))) y_words y_dw y_tf (upd y_cw m (sp_kq (sp_nq k))) y_x y_x2 y_h y_v y_y y_z y_u y_cp y_oldH y_encSlot y_encSign y_R y_r y_a y_ao) :
    ∀ d i x2 x3, i + d = 16 → ((i = 0 ∧ x2 = 0 ∧ x3 = -1) ∨ (∃ i', i = i' + 1 ∧ x2 = nI (sp_qs k i').1 ∧ x3 = (sp_qs k i').2)) → wY_encodeFrame_99 post J (nI m) (nI P) (nI N) (nI T) y_cnt y_cur y_kq y_fg y_mem y_hist y_out y_fld y_fc y_made y_s y_rawK y_q y_words y_dw y_tf y_cw y_x y_x2 y_h y_v y_y y_z y_u y_cp y_oldH y_encSlot y_encSign y_R y_r y_a y_ao (d + 1) x2 x3 (nI i) := by
  intro d
  induction d with
  | zero =>
    intro i x2 x3 hi hs
    rcases hs with ⟨h, _⟩ | ⟨i', h, e2, e3⟩
    · omega
    · obtain rfl : i' = 15 := by omega
      obtain rfl : i = 16 := by omega
      subst e2
      have q := sp_nq_b k
      refine br_t (nI_le (a := 16) (by omega) (by omega)) ⟨vp_in_nI (by omega) (by omega), nm_r (e' := upd y_q m (nI (sp_nq k))) ?_ ⟨vp_in_nI q (by omega), vp_in_nI (by omega) (by omega), nm_r (e' := upd y_cw m (sp_kq (sp_nq k))) ?_ (nm_r (nI_1 m) hJ)⟩⟩
      · rw [nI_clamp (by omega)]
        rfl
      · rw [show (sp_qs k 15).1 = sp_nq k from rfl, nI_clamp (n := m) (by omega), nI_clamp (by omega), hk _ q]
  | succ d ih =>
    intro i x2 x3 hi hs
    have r := sp_kq_r i (by omega)
    have dy := sp_ds_y h1 h2 r.1 r.2
    have go : wY_encodeFrame_132 post J (wY_encodeFrame_99 post J (nI m) (nI P) (nI N) (nI T) y_cnt y_cur y_kq y_fg y_mem y_hist y_out y_fld y_fc y_made y_s y_rawK y_q y_words y_dw y_tf y_cw y_x y_x2 y_h y_v y_y y_z y_u y_cp y_oldH y_encSlot y_encSign y_R y_r y_a y_ao (d + 1)) (nI m) x2 x3 (nI i) (sp_ds k (sp_kq i)) (nI P) (nI N) (nI T) y_cnt y_cur y_kq y_fg y_mem y_hist y_out y_fld y_fc y_made y_s y_rawK y_q y_words y_dw y_tf y_cw y_x y_x2 y_h y_v y_y y_z y_u y_cp y_oldH y_encSlot y_encSign y_R y_r y_a y_ao := by
      rcases hs with ⟨h, e2, e3⟩ | ⟨i', h, e2, e3⟩
      · subst h
        refine br_t (by rw [e3]; decide) (nm_r (nI_1 0) (ih (0 + 1) _ _ (by omega) (Or.inr ⟨0, rfl, rfl, rfl⟩)))
      · subst h
        have n0 := sp_qs_n h1 h2 i' (by omega)
        rw [← e3] at n0
        refine br_f n0 (br_c (fun hl => ?_) (fun hl => ?_))
        · have e : sp_qs k (i' + 1) = sp_qs k i' := if_neg (by rw [← e3]; exact Int32.not_lt.mpr hl)
          exact nm_r (nI_1 (i' + 1)) (ih (i' + 1 + 1) _ _ (by omega) (Or.inr ⟨i' + 1, rfl, by rw [e]; exact e2, by rw [e]; exact e3⟩))
        · have e : sp_qs k (i' + 1) = (i' + 1, sp_ds k (sp_kq (i' + 1))) := if_pos (by rw [← e3]; exact Int32.not_le.mp hl)
          exact nm_r (nI_1 (i' + 1)) (ih (i' + 1 + 1) _ _ (by omega) (Or.inr ⟨i' + 1, rfl, by rw [e], by rw [e]⟩))
    refine br_f (nI_ge (b := 16) (by omega) (by omega)) ⟨vp_in_nI (by omega) (by omega), vp_in_nI (by omega) (by omega), nm_r (e' := k - sp_kq i) ?_ ?_⟩
    · rw [nI_clamp (n := m) (by omega), nI_clamp (n := i) (by omega), hraw, hk i (by omega)]
    · refine br_c (fun a => ?_) (fun a => ?_)
      · rw [← dy.2.1 (Int32.not_lt.mpr a)]
        exact go
      · exact nm_r (e' := sp_ds k (sp_kq i)) (dy.1 (Int32.not_le.mp a)).symm go
theorem sy_e84 {P N T : Nat} {y_cnt y_cur : Int32} {y_kq y_fg y_mem y_hist y_out y_fld y_fc y_made y_s y_rawK y_words y_dw y_tf y_x y_x2 y_h y_v y_y y_z y_u y_cp y_oldH y_encSlot y_encSign : Nat → Int32} {y_R y_r y_a y_ao : Nat → Int64} {post : Int32 → SY → Prop} {k : Nat → Int32} (hP : P ≤ 6) (hr : ∀ j, -32768 ≤ (k j).toInt ∧ (k j).toInt ≤ 32767) (hraw : ∀ j, 1 ≤ j → j ≤ P → y_rawK j = k j) (hk : ∀ j, j < 16 → y_kq j = sp_kq j)
    (h : ∀ q cw, (∀ j, j < P → q (j + 1) = nI (sp_nq (k (j + 1)))) → (∀ j, j < P → cw (j + 1) = sp_kq (sp_nq (k (j + 1)))) → ∃ n, wY_encodeFrame_181 post (nI P) (nI N) (nI T) y_cnt y_cur n 0 y_kq y_fg y_mem y_hist y_out y_fld y_fc y_made y_s y_rawK q y_words y_dw y_tf cw y_x y_x2 y_h y_v y_y y_z y_u y_cp y_oldH y_encSlot y_encSign y_R y_r y_a y_ao) :
    ∀ d m q cw, m + d = P → (∀ j, j < m → q (j + 1) = nI (sp_nq (k (j + 1)))) → (∀ j, j < m → cw (j + 1) = sp_kq (sp_nq (k (j + 1)))) → wY_encodeFrame_84 post (nI P) (nI N) (nI T) y_cnt y_cur (d + 1) (nI (m + 1)) y_kq y_fg y_mem y_hist y_out y_fld y_fc y_made y_s y_rawK q y_words y_dw y_tf cw y_x y_x2 y_h y_v y_y y_z y_u y_cp y_oldH y_encSlot y_encSign y_R y_r y_a y_ao := by
  intro d
  induction d with
  | zero =>
    intro m q cw hm hq hc
    obtain rfl : m = P := by omega
    exact br_t (nI_lt (by omega) (by omega)) (h q cw hq hc)
  | succ d ih =>
    intro m q cw hm hq hc
    refine br_f (nI_nlt (by omega) (by omega)) ⟨16 + 1, sy_e99 (k := k (m + 1)) (hr _).1 (hr _).2 (by omega) (hraw (m + 1) (by omega) (by omega)) hk (ih (m + 1) _ _ (by omega) (fun j hj => ?_) (fun j hj => ?_)) 16 0 0 (-1) (by omega) (Or.inl ⟨rfl, rfl, rfl⟩)⟩
    · by_cases e : j = m
      · subst e
        rw [pk_us]
      · rw [pk_un (by omega)]
        exact hq j (by omega)
    · by_cases e : j = m
      · subst e
        rw [pk_us]
      · rw [pk_un (by omega)]
        exact hc j (by omega)
theorem sy_e181 {P N T : Nat} {y_cnt y_cur : Int32} {y_kq y_fg y_mem y_hist y_out y_fld y_fc y_made y_s y_rawK y_q y_words y_dw y_tf y_cw y_x y_x2 y_h y_v y_y y_z y_u y_cp y_oldH y_encSlot y_encSign : Nat → Int32} {y_R y_r y_a y_ao : Nat → Int64} {post : Int32 → SY → Prop}
    (h : ∀ M, (∀ j, j < 6 → M (12 + j) = y_mem j) → (∀ j, j < 6 → M (18 + j) = 0) → (∀ q, q < 12 → M q = y_mem q) → ∃ n, wY_encodeFrame_220 post n 0 (nI P) (nI N) (nI T) y_cnt y_cur y_kq y_fg M y_hist y_out y_fld y_fc y_made y_s y_rawK y_q y_words y_dw y_tf y_cw y_x y_x2 y_h y_v y_y y_z y_u y_cp y_oldH y_encSlot y_encSign y_R y_r y_a y_ao) :
    ∀ d i M, i + d = 6 → (∀ j, j < i → M (12 + j) = y_mem j) → (∀ j, j < i → M (18 + j) = 0) → (∀ q, q < 12 → M q = y_mem q) → wY_encodeFrame_181 post (nI P) (nI N) (nI T) y_cnt y_cur (d + 1) (nI i) y_kq y_fg M y_hist y_out y_fld y_fc y_made y_s y_rawK y_q y_words y_dw y_tf y_cw y_x y_x2 y_h y_v y_y y_z y_u y_cp y_oldH y_encSlot y_encSign y_R y_r y_a y_ao := by
  intro d
  induction d with
  | zero =>
    intro i M hi h1 h2 h3
    obtain rfl : i = 6 := by omega
    exact br_t (nI_le (a := 6) (by omega) (by omega)) (h M h1 h2 h3)
  | succ d ih =>
    intro i M hi h1 h2 h3
    have e12 : (12 : Int32) + nI i = nI (12 + i) := nI_add 12 i
    have e18 : (18 : Int32) + nI i = nI (18 + i) := nI_add 18 i
    refine br_f (nI_ge (b := 6) (by omega) (by omega)) ⟨vp_in_nI (by omega) (by omega), pk_in (12 + i) 24 (by omega) e12, nm_r (e' := upd M (12 + i) (y_mem i)) ?_ ⟨pk_in (18 + i) 24 (by omega) e18, nm_r (e' := upd (upd M (12 + i) (y_mem i)) (18 + i) 0) ?_ (nm_r (nI_1 i) (ih (i + 1) _ (by omega) (fun j hj => ?_) (fun j hj => ?_) (fun q hq => ?_)))⟩⟩
    · rw [e12, nI_clamp (n := 12 + i) (by omega), nI_clamp (n := i) (by omega), h3 i (by omega)]
    · rw [e18, nI_clamp (by omega)]
    · rw [pk_un (by omega)]
      by_cases e : j = i
      · subst e
        rw [pk_us]
      · rw [pk_un (by omega)]
        exact h1 j (by omega)
    · by_cases e : j = i
      · subst e
        rw [pk_us]
      · rw [pk_un (by omega), pk_un (by omega)]
        exact h2 j (by omega)
    · rw [pk_un (by omega), pk_un (by omega)]
      exact h3 q hq
theorem sy_e220 {P N T : Nat} {y_cnt y_cur : Int32} {y_kq y_fg y_mem y_hist y_out y_fld y_fc y_made y_s y_rawK y_q y_words y_dw y_tf y_cw y_x y_x2 y_h y_v y_y y_z y_u y_cp y_oldH y_encSlot y_encSign : Nat → Int32} {y_R y_r y_a y_ao : Nat → Int64} {post : Int32 → SY → Prop} {c b s : Nat → Int32} (hP1 : 1 ≤ P) (hP : P ≤ 6) (hN : N ≤ 32) (hs : ∀ j, j < N → y_s j = s j)
    (hc : ∀ j, j < P → y_cw (j + 1) = c (j + 1))
    (h : ∀ M, (∀ j, j < 6 → M (18 + j) = 0) → (∀ q, q < 12 → M q = y_mem q) → ∃ n, wY_encodeFrame_262 post n 0 (nI P) (nI N) (nI T) y_cnt y_cur y_kq y_fg M y_hist y_out y_fld y_fc y_made y_s y_rawK y_q y_words y_dw y_tf y_cw (sp_fl (fun n => sp_sat (s n - sp_lo c P b (fun _ => 0) n)) N y_x) y_x2 y_h y_v y_y y_z y_u y_cp y_oldH y_encSlot y_encSign y_R y_r y_a y_ao) :
    ∀ d i M, i + d = N → sp_row 12 P M (sp_lm c P b (fun _ => 0) i) → (∀ j, j < 6 → M (18 + j) = 0) → (∀ q, q < 12 → M q = y_mem q) →
      wY_encodeFrame_220 post (d + 1) (nI i) (nI P) (nI N) (nI T) y_cnt y_cur y_kq y_fg M y_hist y_out y_fld y_fc y_made y_s y_rawK y_q y_words y_dw y_tf y_cw (sp_fl (fun n => sp_sat (s n - sp_lo c P b (fun _ => 0) n)) i y_x) y_x2 y_h y_v y_y y_z y_u y_cp y_oldH y_encSlot y_encSign y_R y_r y_a y_ao := by
  intro d
  induction d with
  | zero =>
    intro i M hi hr hz hf
    obtain rfl : i = N := by omega
    exact br_t (nI_le (by omega) (by omega)) (h M hz hf)
  | succ d ih =>
    intro i M hi hr hz hf
    refine br_f (nI_ge (by omega) (by omega)) (sy_lat (B := 12) hP1 hP (by omega) hc hr (fun M' hr' hf' => ?_))
    refine ⟨vp_in_nI (by omega) (by omega), sy_sat (v := sp_sat (s i - sp_lo c P b (fun _ => 0) i)) ?_ ⟨vp_in_nI (by omega) (by omega), nm_r ?_ (nm_r (nI_1 i) (ih (i + 1) M' (by omega) hr' (fun j hj => (hf' (18 + j) (by omega)).trans (hz j hj)) (fun q hq => (hf' q (by omega)).trans (hf q hq))))⟩⟩
    · rw [nI_clamp (by omega), hs i (by omega)]
      rfl
    · rw [nI_clamp (by omega)]
      exact sp_flS (g := fun n => sp_sat (s n - sp_lo c P b (fun _ => 0) n))
theorem sy_e289 {P N T : Nat} {y_cnt y_cur : Int32} {y_kq y_fg y_mem y_hist y_out y_fld y_fc y_made y_s y_rawK y_q y_words y_dw y_tf y_cw y_x y_x2 y_h y_v y_y y_z y_u y_cp y_oldH y_encSlot y_encSign : Nat → Int32} {y_R y_r y_a y_ao : Nat → Int64} {post : Int32 → SY → Prop} {J : _} {c b : Nat → Int32} {i : Nat} {z0 zz : Int32} (ez : zz = z0) (hP1 : 1 ≤ P) (hP : P ≤ 6) (hi : i < 32)
    (hc : ∀ j, j < P → y_cw (j + 1) = c (j + 1)) (hr : sp_row 18 P y_mem b)
    (h : ∀ M', sp_row 18 P M' (sp_go c P P zz b).2 → (∀ q, q < 12 → M' q = y_mem q) → J (nI (i + 1)) (nI P) (nI N) (nI T) y_cnt y_cur y_kq y_fg M' y_hist y_out y_fld y_fc y_made y_s y_rawK y_q y_words y_dw y_tf y_cw y_x y_x2 (upd y_h i (sp_go c P P zz b).1) y_v y_y y_z y_u y_cp y_oldH y_encSlot y_encSign y_R y_r y_a y_ao) :
    wY_encodeFrame_289 post J (nI i) z0 18 (nI i) (nI P) (nI N) (nI T) y_cnt y_cur y_kq y_fg y_mem y_hist y_out y_fld y_fc y_made y_s y_rawK y_q y_words y_dw y_tf y_cw y_x y_x2 y_h y_v y_y y_z y_u y_cp y_oldH y_encSlot y_encSign y_R y_r y_a y_ao := by
  subst ez
  unfold wY_encodeFrame_289
  refine sy_lat (B := 18) hP1 hP (by omega) hc hr (fun M' hr' hf' => ?_)
  exact ⟨vp_in_nI hi (by omega), nm_r (by rw [nI_clamp (by omega)]) (nm_r (nI_1 i) (h M' hr' (fun q hq => hf' q (by omega))))⟩
theorem sy_e262 {P N T : Nat} {y_cnt y_cur : Int32} {y_kq y_fg y_mem y_hist y_out y_fld y_fc y_made y_s y_rawK y_q y_words y_dw y_tf y_cw y_x y_x2 y_h y_v y_y y_z y_u y_cp y_oldH y_encSlot y_encSign : Nat → Int32} {y_R y_r y_a y_ao : Nat → Int64} {post : Int32 → SY → Prop} {c : Nat → Int32} (hP1 : 1 ≤ P) (hP : P ≤ 6) (hN : N ≤ 32)
    (hc : ∀ j, j < P → y_cw (j + 1) = c (j + 1))
    (h : ∀ M, (∀ q, q < 12 → M q = y_mem q) → ∃ n, wY_encodeFrame_312 post n 0 1 0 0 0 (nI P) (nI N) (nI T) y_cnt y_cur y_kq y_fg M y_hist y_out y_fld y_fc y_made y_s y_rawK y_q y_words y_dw y_tf y_cw y_x y_x2 (sp_fl (sp_lo c P (fun _ => 0) sp_imp) N y_h) y_v y_y y_z y_u y_cp y_oldH y_encSlot y_encSign y_R y_r y_a y_ao) :
    ∀ d i M, i + d = N → sp_row 18 P M (sp_lm c P (fun _ => 0) sp_imp i) → (∀ q, q < 12 → M q = y_mem q) →
      wY_encodeFrame_262 post (d + 1) (nI i) (nI P) (nI N) (nI T) y_cnt y_cur y_kq y_fg M y_hist y_out y_fld y_fc y_made y_s y_rawK y_q y_words y_dw y_tf y_cw y_x y_x2 (sp_fl (sp_lo c P (fun _ => 0) sp_imp) i y_h) y_v y_y y_z y_u y_cp y_oldH y_encSlot y_encSign y_R y_r y_a y_ao := by
  intro d
  induction d with
  | zero =>
    intro i M hi hr hf
    obtain rfl : i = N := by omega
    exact br_t (nI_le (by omega) (by omega)) (h M hf)
  | succ d ih =>
    intro i M hi hr hf
    refine br_f (nI_ge (by omega) (by omega)) ?_
    by_cases z : i = 0
    · have e : sp_imp i = 4096 := if_pos z
      refine br_t (by rw [z]; rfl) (sy_e289 e hP1 hP (by omega) hc hr (fun M' hr' hf' => ?_))
      have t := ih (i + 1) M' (by omega) hr' (fun q hq => (hf' q hq).trans (hf q hq))
      rw [← sp_flS] at t
      exact t
    · have e : sp_imp i = 0 := if_neg z
      refine br_f (nI_ne0 (by omega) (by omega)) (sy_e289 e hP1 hP (by omega) hc hr (fun M' hr' hf' => ?_))
      have t := ih (i + 1) M' (by omega) hr' (fun q hq => (hf' q hq).trans (hf q hq))
      rw [← sp_flS] at t
      exact t
theorem sy_e398 {P N T : Nat} {y_cnt y_cur : Int32} {y_kq y_fg y_mem y_hist y_out y_fld y_fc y_made y_s y_rawK y_q y_words y_dw y_tf y_cw y_x y_x2 y_h y_v y_y y_z y_u y_cp y_oldH y_encSlot y_encSign : Nat → Int32} {y_R y_r y_a y_ao : Nat → Int64} {post : Int32 → SY → Prop} {x y : Nat → Int32} {x4 : Int32} {g : Nat} (hN : N ≤ 32)
    (hx : ∀ j, j < N → y_x j = x j) (hy : ∀ j, j < N → y_y j = y j)
    (h : ∃ n, wY_encodeFrame_458 post x4 (nI g) n 0 0 (nI P) (nI N) (nI T) y_cnt y_cur y_kq y_fg y_mem y_hist y_out y_fld y_fc y_made y_s y_rawK y_q y_words y_dw y_tf y_cw y_x (sp_fl (sp_x2 x y g) N y_x2) y_h y_v y_y y_z y_u y_cp y_oldH y_encSlot y_encSign y_R y_r y_a y_ao) :
    ∀ d i, i + d = N → wY_encodeFrame_398 post x4 (nI g) (nI P) (nI N) (nI T) y_cnt y_cur (d + 1) (nI i) y_kq y_fg y_mem y_hist y_out y_fld y_fc y_made y_s y_rawK y_q y_words y_dw y_tf y_cw y_x (sp_fl (sp_x2 x y g) i y_x2) y_h y_v y_y y_z y_u y_cp y_oldH y_encSlot y_encSign y_R y_r y_a y_ao := by
  intro d
  induction d with
  | zero =>
    intro i hi
    obtain rfl : i = N := by omega
    exact br_t (nI_le (by omega) (by omega)) h
  | succ d ih =>
    intro i hi
    refine br_f (nI_ge (by omega) (by omega)) ⟨vp_in_nI (by omega) (by omega), vp_in_nI (by omega) (by omega), sy_sat (v := sp_x2 x y g i) ?_ ⟨vp_in_nI (by omega) (by omega), nm_r ?_ (nm_r (nI_1 i) (ih (i + 1) (by omega)))⟩⟩
    · rw [nI_clamp (by omega), hx i (by omega), hy i (by omega)]
      rfl
    · rw [nI_clamp (by omega)]
      exact sp_flS
theorem sy_e458 {P N T : Nat} {y_cnt y_cur : Int32} {y_kq y_fg y_mem y_hist y_out y_fld y_fc y_made y_s y_rawK y_q y_words y_dw y_tf y_cw y_x y_x2 y_h y_v y_y y_u y_cp y_oldH : Nat → Int32} {y_R y_r y_a y_ao : Nat → Int64} {post : Int32 → SY → Prop} {x hh : Nat → Int32} {x4 x5 : Int32} (hNT : N = 4 * T) (hT2 : 2 ≤ T) (hT : T ≤ 8)
    (hf : ∀ j, j < 16 → y_fg j = sp_fg j) (hx : ∀ j, j < N → y_x2 j = x j) (hh' : ∀ j, j < N → y_h j = hh j)
    (h : ∀ z es eg, (∀ k, k < 4 → es k = nI (sp_ch hh x N T 4 k / 2) ∧ eg k = nI (sp_ch hh x N T 4 k % 2)) →
      ∃ n, wY_encodeFrame_505 post x4 x5 (nI (sp_gf hh x N T 3)) (nI P) (nI N) (nI T) y_cnt y_cur n 0 y_kq y_fg y_mem y_hist y_out (upd (upd (upd y_fld 0 x4) 1 x5) 2 (nI (sp_gf hh x N T 3))) y_fc y_made y_s y_rawK y_q y_words y_dw y_tf y_cw y_x y_x2 y_h y_v y_y z y_u y_cp y_oldH es eg y_R y_r y_a y_ao) :
    ∀ d t g z es eg, t + d = 4 → (1 ≤ t → g = nI (sp_gf hh x N T (t - 1))) → (∀ k, k < t → es k = nI (sp_ch hh x N T t k / 2) ∧ eg k = nI (sp_ch hh x N T t k % 2)) →
      wY_encodeFrame_458 post x4 x5 (d + 1) g (nI t) (nI P) (nI N) (nI T) y_cnt y_cur y_kq y_fg y_mem y_hist y_out y_fld y_fc y_made y_s y_rawK y_q y_words y_dw y_tf y_cw y_x y_x2 y_h y_v y_y z y_u y_cp y_oldH es eg y_R y_r y_a y_ao := by
  intro d
  induction d with
  | zero =>
    intro t g z es eg ht hg hs
    obtain rfl : t = 4 := by omega
    have e := hg (by omega)
    rw [show 4 - 1 = 3 from rfl] at e
    subst e
    exact br_t (nI_le (a := 4) (by omega) (by omega)) (nm_e (nm_e (nm_e (h z es eg hs))))
  | succ d ih =>
    intro t g z es eg ht hg hs
    refine br_f (nI_ge (b := 4) (by omega) (by omega)) (sy_st (E := sp_et hh x N (sp_ch hh x N T t) t) (ch := sp_ch hh x N T t) hNT hT2 hT (by omega) hf hx hh' (fun k hk => ⟨sp_ch_b (by omega) t k, (hs k hk).1, (hs k hk).2⟩) (fun c g => rfl) (fun z' => ?_))
    have ec : sp_ch hh x N T (t + 1) t = (sp_out (sp_et hh x N (sp_ch hh x N T t) t) 16 (2 * T)).2.1 := sp_ch_t
    rw [← ec]
    refine nm_r (nI_1 t) (ih (t + 1) _ z' _ _ (by omega) (fun _ => rfl) (fun k hk => ?_))
    by_cases e : k = t
    · subst e
      rw [pk_us, pk_us]
      exact ⟨rfl, rfl⟩
    · rw [pk_un e, pk_un e, sp_ch_s e]
      exact hs k (by omega)
theorem sy_e505 {P N T : Nat} {y_cnt y_cur : Int32} {y_kq y_fg y_mem y_hist y_out y_fld y_fc y_made y_s y_rawK y_q y_words y_dw y_tf y_cw y_x y_x2 y_h y_v y_y y_z y_u y_cp y_oldH y_encSlot y_encSign : Nat → Int32} {y_R y_r y_a y_ao : Nat → Int64} {post : Int32 → SY → Prop} {sl sg : Nat → Nat} {x4 x5 x6 : Int32} (hs : ∀ k, k < 4 → y_encSlot k = nI (sl k) ∧ y_encSign k = nI (sg k))
    (h : ∀ F, (∀ t, t < 4 → F (3 + t) = nI (sl t)) → (∀ t, t < 4 → F (7 + t) = nI (sg t)) → (∀ j, j < 3 ∨ 11 ≤ j → F j = y_fld j) → ∃ n, wY_encodeFrame_553 post x4 x5 x6 (nI P) (nI N) (nI T) y_cnt y_cur n 1 y_kq y_fg y_mem y_hist y_out F y_fc y_made y_s y_rawK y_q y_words y_dw y_tf y_cw y_x y_x2 y_h y_v y_y y_z y_u y_cp y_oldH y_encSlot y_encSign y_R y_r y_a y_ao) :
    ∀ d t F, t + d = 4 → (∀ k, k < t → F (3 + k) = nI (sl k)) → (∀ k, k < t → F (7 + k) = nI (sg k)) → (∀ j, j < 3 ∨ 11 ≤ j → F j = y_fld j) → wY_encodeFrame_505 post x4 x5 x6 (nI P) (nI N) (nI T) y_cnt y_cur (d + 1) (nI t) y_kq y_fg y_mem y_hist y_out F y_fc y_made y_s y_rawK y_q y_words y_dw y_tf y_cw y_x y_x2 y_h y_v y_y y_z y_u y_cp y_oldH y_encSlot y_encSign y_R y_r y_a y_ao := by
  intro d
  induction d with
  | zero =>
    intro t F ht h3 h7 hf
    obtain rfl : t = 4 := by omega
    exact br_t (nI_le (a := 4) (by omega) (by omega)) (h F h3 h7 hf)
  | succ d ih =>
    intro t F ht h3 h7 hf
    have e3 : (3 : Int32) + nI t = nI (3 + t) := nI_add 3 t
    have e7 : (7 : Int32) + nI t = nI (7 + t) := nI_add 7 t
    have o := hs t (by omega)
    refine br_f (nI_ge (b := 4) (by omega) (by omega)) ⟨vp_in_nI (by omega) (by omega), pk_in (3 + t) 34 (by omega) e3, nm_r (e' := upd F (3 + t) (nI (sl t))) ?_ ⟨vp_in_nI (by omega) (by omega), pk_in (7 + t) 34 (by omega) e7, nm_r (e' := upd (upd F (3 + t) (nI (sl t))) (7 + t) (nI (sg t))) ?_ (nm_r (nI_1 t) (ih (t + 1) _ (by omega) (fun k hk => ?_) (fun k hk => ?_) (fun j hj => ?_)))⟩⟩
    · rw [e3, nI_clamp (n := 3 + t) (by omega), nI_clamp (by omega), o.1]
    · rw [e7, nI_clamp (n := 7 + t) (by omega), nI_clamp (by omega), o.2]
    · rw [pk_un (by omega)]
      by_cases e : k = t
      · subst e
        rw [pk_us]
      · rw [pk_un (by omega)]
        exact h3 k (by omega)
    · by_cases e : k = t
      · subst e
        rw [pk_us]
      · rw [pk_un (by omega), pk_un (by omega)]
        exact h7 k (by omega)
    · rw [pk_un (by omega), pk_un (by omega)]
      exact hf j hj
theorem sy_e553 {P N T : Nat} {y_cnt y_cur : Int32} {y_kq y_fg y_mem y_hist y_out y_fld y_fc y_made y_s y_rawK y_q y_words y_dw y_tf y_cw y_x y_x2 y_h y_v y_y y_z y_u y_cp y_oldH y_encSlot y_encSign : Nat → Int32} {y_R y_r y_a y_ao : Nat → Int64} {post : Int32 → SY → Prop} {q : Nat → Nat} {x4 x5 x6 : Int32} (hP : P ≤ 6) (hq : ∀ j, j < P → y_q (j + 1) = nI (q j))
    (h : ∀ F, (∀ m, m < P → F (11 + m) = nI (q m)) → (∀ j, j < 11 ∨ 17 ≤ j → F j = y_fld j) → ∃ n, wY_encodeFrame_588 post x4 x5 x6 (nI P) (nI N) (nI T) y_cnt y_cur n 0 y_kq y_fg y_mem y_hist y_out F y_fc y_made y_s y_rawK y_q y_words y_dw y_tf y_cw y_x y_x2 y_h y_v y_y y_z y_u y_cp y_oldH y_encSlot y_encSign y_R y_r y_a y_ao) :
    ∀ d m F, m + d = P → (∀ k, k < m → F (11 + k) = nI (q k)) → (∀ j, j < 11 ∨ 17 ≤ j → F j = y_fld j) → wY_encodeFrame_553 post x4 x5 x6 (nI P) (nI N) (nI T) y_cnt y_cur (d + 1) (nI (m + 1)) y_kq y_fg y_mem y_hist y_out F y_fc y_made y_s y_rawK y_q y_words y_dw y_tf y_cw y_x y_x2 y_h y_v y_y y_z y_u y_cp y_oldH y_encSlot y_encSign y_R y_r y_a y_ao := by
  intro d
  induction d with
  | zero =>
    intro m F hm h1 h2
    obtain rfl : m = P := by omega
    exact br_t (nI_lt (by omega) (by omega)) (h F h1 h2)
  | succ d ih =>
    intro m F hm h1 h2
    have e : (10 : Int32) + nI (m + 1) = nI (11 + m) := by
      rw [show (10 : Int32) + nI (m + 1) = nI (10 + (m + 1)) from nI_add 10 _, show 10 + (m + 1) = 11 + m from by omega]
    refine br_f (nI_nlt (by omega) (by omega)) ⟨vp_in_nI (by omega) (by omega), pk_in (11 + m) 34 (by omega) e, nm_r (e' := upd F (11 + m) (nI (q m))) ?_ (nm_r (nI_1 (m + 1)) (ih (m + 1) _ (by omega) (fun k hk => ?_) (fun j hj => ?_)))⟩
    · rw [e, nI_clamp (n := 11 + m) (by omega), nI_clamp (by omega), hq m (by omega)]
    · by_cases z : k = m
      · subst z
        rw [pk_us]
      · rw [pk_un (by omega)]
        exact h1 k (by omega)
    · rw [pk_un (by omega)]
      exact h2 j hj
theorem sy_e588 {P N T : Nat} {y_cnt y_cur : Int32} {y_kq y_fg y_mem y_hist y_out y_fld y_fc y_made y_s y_rawK y_q y_dw y_tf y_cw y_x y_x2 y_h y_v y_y y_z y_u y_cp y_oldH y_encSlot y_encSign : Nat → Int32} {y_R y_r y_a y_ao : Nat → Int64} {post : Int32 → SY → Prop} {x4 x5 x6 : Int32}
    (h : ∀ W, sp_wd W 0 → ∃ n, wY_encodeFrame_616 post x4 x5 x6 n 1 (nI P) (nI N) (nI T) y_cnt 0 y_kq y_fg y_mem y_hist y_out y_fld y_fc y_made y_s y_rawK y_q W y_dw y_tf y_cw y_x y_x2 y_h y_v y_y y_z y_u y_cp y_oldH y_encSlot y_encSign y_R y_r y_a y_ao) :
    ∀ d i W, i + d = 4 → (∀ j, j < i → W j = 0) → wY_encodeFrame_588 post x4 x5 x6 (nI P) (nI N) (nI T) y_cnt y_cur (d + 1) (nI i) y_kq y_fg y_mem y_hist y_out y_fld y_fc y_made y_s y_rawK y_q W y_dw y_tf y_cw y_x y_x2 y_h y_v y_y y_z y_u y_cp y_oldH y_encSlot y_encSign y_R y_r y_a y_ao := by
  intro d
  induction d with
  | zero =>
    intro i W hi hz
    obtain rfl : i = 4 := by omega
    refine br_t (nI_le (a := 4) (by omega) (by omega)) (h W (fun j hj => ?_))
    rw [hz j hj, Nat.zero_shiftRight]
    rfl
  | succ d ih =>
    intro i W hi hz
    refine br_f (nI_ge (b := 4) (by omega) (by omega)) ⟨vp_in_nI (by omega) (by omega), nm_e (nm_r (nI_1 i) (ih (i + 1) _ (by omega) ?_))⟩
    intro j hj
    rw [nI_clamp (by omega)]
    by_cases e : j = i
    · subst e
      rw [pk_us]
    · rw [pk_un e]
      exact hz j (by omega)
theorem sy_e660 {P N T : Nat} {y_cnt : Int32} {y_kq y_fg y_mem y_hist y_out y_fld y_fc y_made y_s y_rawK y_q y_dw y_tf y_cw y_x y_x2 y_h y_v y_y y_z y_u y_cp y_oldH y_encSlot y_encSign : Nat → Int32} {y_R y_r y_a y_ao : Nat → Int64} {post : Int32 → SY → Prop} {c b H : Nat → Int32} {l ga gf : Nat} {sl sg q : Nat → Nat} (hP1 : 1 ≤ P) (hP : P ≤ 6) (hN8 : 8 ≤ N) (hNT : N = 4 * T) (hT : T ≤ 8)
    (hk : ∀ j, j < 16 → y_kq j = sp_kq j) (hg : ∀ j, j < 16 → y_fg j = sp_fg j) (hb : sp_row (0 * 6) P y_mem b) (hcq : ∀ j, j < P → c (j + 1) = sp_kq (q j)) (hH : ∀ j, 1 ≤ j → j ≤ 64 → y_hist (0 * 65 + j) = H j)
    (hF : sp_FF y_fld (0 * 17) P l ga gf sl sg q) (hq : ∀ m, m < P → q m < 16) (hl' : l < 32) (hga : ga < 8) (hgf' : gf < 16) (hsl : ∀ t, t < 4 → sl t < T) (hsg : ∀ t, t < 4 → sg t < 2)
    (hes : ∀ t, t < 4 → y_encSlot t = nI (sl t) ∧ y_encSign t = nI (sg t))
    (h : ∀ cur W M' A u oh cp cw v, sp_wd W (sp_fs q P l ga sl sg gf <<< (36 - 4 * P)) → sp_row (0 * 6) P M' (sp_lm c P b (sp_u H l ga gf sl sg) N) → (∀ q, q < 0 * 6 ∨ 0 * 6 + P ≤ q → M' q = y_mem q) →
      (∀ j, 1 ≤ j → j ≤ 64 → A (0 * 65 + j) = sp_nh N (sp_u H l ga gf sl sg) H j) → (∀ q, q ≤ 0 * 65 ∨ 0 * 65 + 65 ≤ q → A q = y_hist q) →
      post 1 ((nI P), (nI N), (nI T), 0, cur, y_kq, y_fg, M', A, (sp_fo (sp_lo c P b (sp_u H l ga gf sl sg)) (0 * 32) N y_out), y_fld, (upd y_fc 0 (y_fc 0 + 1)), (upd y_made 0 1), y_s, y_rawK, y_q, W, y_dw, y_tf, cw, y_x, y_x2, y_h, v, y_y, y_z, u, cp, oh, y_encSlot, y_encSign, y_R, y_r, y_a, y_ao)) :
    ∀ d t W, t + d = 4 → sp_wd W (sp_ts (sp_hs q P l ga) sl sg t <<< (64 - (4 * P + 8 + 4 * t))) → wY_encodeFrame_660 post (nI gf) (d + 1) (nI t) (nI P) (nI N) (nI T) y_cnt (nI (4 * P + 8 + 4 * t)) y_kq y_fg y_mem y_hist y_out y_fld y_fc y_made y_s y_rawK y_q W y_dw y_tf y_cw y_x y_x2 y_h y_v y_y y_z y_u y_cp y_oldH y_encSlot y_encSign y_R y_r y_a y_ao := by
  intro d
  induction d with
  | zero =>
    intro t W ht hW
    obtain rfl : t = 4 := by omega
    refine br_t (nI_le (a := 4) (by omega) (by omega)) (sy_wb (w := 4) (v := gf) (c := 4 * P + 8 + 4 * 4) hgf' (by omega) (by omega) hW (fun W' hW' => ?_))
    rw [sp_pj_s (by omega), show 64 - (4 * P + 8 + 4 * 4 + 4) = 36 - 4 * P from by omega] at hW'
    exact sy_d (sd := 0) (c := c) (b := b) (q := q) hP1 hP hN8 hNT hT (by omega) hk hg hb hcq hH hF hq hl' hgf' hsl hsg (fun M' A u oh cp cw v r1 r2 r3 r4 => h _ W' M' A u oh cp cw v hW' r1 r2 r3 r4)
  | succ d ih =>
    intro t W ht hW
    have o := hes t (by omega)
    have b1 := hsl t (by omega)
    refine br_f (nI_ge (b := 4) (by omega) (by omega)) ⟨vp_in_nI (by omega) (by omega), ?_⟩
    rw [nI_clamp (by omega), o.1]
    refine sy_wb (w := 3) (v := sl t) (c := 4 * P + 8 + 4 * t) (by omega) (by omega) (by omega) hW (fun W' hW' => ?_)
    rw [sp_pj_s (by omega)] at hW'
    refine ⟨vp_in_nI (by omega) (by omega), ?_⟩
    rw [o.2]
    refine sy_wb (w := 1) (v := sg t) (c := 4 * P + 8 + 4 * t + 3) (hsg t (by omega)) (by omega) (by omega) hW' (fun W'' hW'' => ?_)
    rw [sp_pj_s (by omega)] at hW''
    exact nm_r (nI_1 t) (ih (t + 1) W'' (by omega) hW'')
theorem sy_e616 {P N T : Nat} {y_cnt : Int32} {y_kq y_fg y_mem y_hist y_out y_fld y_fc y_made y_s y_rawK y_q y_dw y_tf y_cw y_x y_x2 y_h y_v y_y y_z y_u y_cp y_oldH y_encSlot y_encSign : Nat → Int32} {y_R y_r y_a y_ao : Nat → Int64} {post : Int32 → SY → Prop} {l ga : Nat} {q : Nat → Nat} {x6 : Int32} (hP : P ≤ 6) (hq : ∀ m, m < P → y_q (m + 1) = nI (q m) ∧ q m < 16) (hl : l < 32) (hga : ga < 8)
    (h : ∀ W, sp_wd W (sp_hs q P l ga <<< (64 - (4 * P + 8 + 4 * 0))) → ∃ n, wY_encodeFrame_660 post x6 n 0 (nI P) (nI N) (nI T) y_cnt (nI (4 * P + 8 + 4 * 0)) y_kq y_fg y_mem y_hist y_out y_fld y_fc y_made y_s y_rawK y_q W y_dw y_tf y_cw y_x y_x2 y_h y_v y_y y_z y_u y_cp y_oldH y_encSlot y_encSign y_R y_r y_a y_ao) :
    ∀ d m W, m + d = P → sp_wd W (sp_ks q m <<< (64 - 4 * m)) → wY_encodeFrame_616 post (nI l) (nI ga) x6 (d + 1) (nI (m + 1)) (nI P) (nI N) (nI T) y_cnt (nI (4 * m)) y_kq y_fg y_mem y_hist y_out y_fld y_fc y_made y_s y_rawK y_q W y_dw y_tf y_cw y_x y_x2 y_h y_v y_y y_z y_u y_cp y_oldH y_encSlot y_encSign y_R y_r y_a y_ao := by
  intro d
  induction d with
  | zero =>
    intro m W hm hW
    obtain rfl : m = P := by omega
    refine br_t (nI_lt (by omega) (by omega)) (sy_wb (w := 5) (v := l) (c := 4 * m) hl (by omega) (by omega) hW (fun W' hW' => ?_))
    rw [sp_pj_s (by omega)] at hW'
    refine sy_wb (w := 3) (v := ga) (c := 4 * m + 5) hga (by omega) (by omega) hW' (fun W'' hW'' => ?_)
    rw [sp_pj_s (by omega)] at hW''
    exact h W'' hW''
  | succ d ih =>
    intro m W hm hW
    have o := hq m (by omega)
    refine br_f (nI_nlt (by omega) (by omega)) ⟨vp_in_nI (by omega) (by omega), ?_⟩
    rw [nI_clamp (by omega), o.1]
    refine sy_wb (w := 4) (v := q m) (c := 4 * m) o.2 (by omega) (by omega) hW (fun W' hW' => ?_)
    rw [sp_pj_s (by omega)] at hW'
    exact nm_r (nI_1 (m + 1)) (ih (m + 1) W' (by omega) hW')
