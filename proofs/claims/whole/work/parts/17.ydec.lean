/-! the reference: encodeFrame whole, decodeFrame -/
theorem sy_enc {P N T : Nat} {y_cur : Int32} {y_kq y_fg y_mem y_hist y_out y_fld y_fc y_made y_s y_rawK y_q y_words y_dw y_tf y_cw y_x y_x2 y_h y_v y_y y_z y_u y_cp y_oldH y_encSlot y_encSign : Nat → Int32} {y_R y_r y_a y_ao : Nat → Int64} {post : Int32 → SY → Prop} {s b H : Nat → Int32} (es : y_s = s) (hs : sp_bd s) (hP2 : 2 ≤ P) (hP : P ≤ 6) (hNT : N = 4 * T) (hT2 : 2 ≤ T) (hT : T ≤ 8)
    (hk : ∀ j, j < 16 → y_kq j = sp_kq j) (hg : ∀ j, j < 16 → y_fg j = sp_fg j)
    (hb : sp_row (0 * 6) P y_mem b) (hH : ∀ j, 1 ≤ j → j ≤ 64 → y_hist (0 * 65 + j) = H j)
    (h : ∀ cur raw q W cw x x2 hh v y z u cp oh es eg R r a ao F M A,
      (∀ j, 1 ≤ j → j ≤ P → raw j = sp_K s N P j) →
      sp_FF F (0 * 17) P (fr_L s b H N P) (fr_G s b H N P) (fr_GF s b H N P T) (fr_SL s b H N P T) (fr_SG s b H N P T) (fr_Q s N P) → (∀ j, 17 ≤ j → F j = y_fld j) →
      sp_wd W (fr_S s b H N P T) →
      sp_row (0 * 6) P M (sp_lm (fr_C s N P) P b (fr_U s b H N P T) N) → (∀ q, 6 ≤ q → q < 12 → M q = y_mem q) →
      (∀ j, 1 ≤ j → j ≤ 64 → A (0 * 65 + j) = sp_nh N (fr_U s b H N P T) H j) → (∀ q, 65 ≤ q → A q = y_hist q) →
      post 1 ((nI P), (nI N), (nI T), 0, cur, y_kq, y_fg, M, A, (sp_fo (sp_lo (fr_C s N P) P b (fr_U s b H N P T)) (0 * 32) N y_out), F, (upd y_fc 0 (y_fc 0 + 1)), (upd y_made 0 1), y_s, raw, q, W, y_dw, y_tf, cw, x, x2, hh, v, y, z, u, cp, oh, es, eg, R, r, a, ao)) :
    wpY_encodeFrame post ((nI P), (nI N), (nI T), (nI N), y_cur, y_kq, y_fg, y_mem, y_hist, y_out, y_fld, y_fc, y_made, y_s, y_rawK, y_q, y_words, y_dw, y_tf, y_cw, y_x, y_x2, y_h, y_v, y_y, y_z, y_u, y_cp, y_oldH, y_encSlot, y_encSign, y_R, y_r, y_a, y_ao) := by
  have hN8 : 8 ≤ N := by omega
  have hN : N ≤ 32 := by omega
  have hP1 : 1 ≤ P := by omega
  refine br_t (nI_le (Nat.le_refl N) (by omega)) (Exists.intro (P + 1 + 1) ?_)
  have t15 := sy_e15 (y_R := y_R) (post := post) (y_cnt := nI N) (y_cur := y_cur) (y_kq := y_kq) (y_fg := y_fg) (y_mem := y_mem) (y_hist := y_hist) (y_out := y_out) (y_fld := y_fld) (y_fc := y_fc) (y_made := y_made) (y_rawK := y_rawK) (y_q := y_q) (y_words := y_words) (y_dw := y_dw) (y_tf := y_tf) (y_cw := y_cw) (y_x := y_x) (y_x2 := y_x2) (y_h := y_h) (y_v := y_v) (y_y := y_y) (y_z := y_z) (y_u := y_u) (y_cp := y_cp) (y_oldH := y_oldH) (y_encSlot := y_encSlot) (y_encSign := y_encSign) (y_r := y_r) (y_a := y_a) (y_ao := y_ao) (T := T) es hs hN8 hN hP (fun raw R r a ao hraw => ?_) (P + 1) 0 (by omega)
  · rw [sp_fl0] at t15
    exact t15
  refine ⟨P + 1, sy_e84 (k := sp_K s N P) hP (fun j => ⟨by have := (sp_K_r s N P j).1; omega, (sp_K_r s N P j).2⟩) hraw hk (fun q cw hq hcw => ?_) P 0 y_q y_cw (by omega) (fun j hj => absurd hj (by omega)) (fun j hj => absurd hj (by omega))⟩
  refine ⟨6 + 1, sy_e181 (fun M hm1 hm2 hm3 => ?_) 6 0 y_mem (by omega) (fun j hj => absurd hj (by omega)) (fun j hj => absurd hj (by omega)) (fun _ _ => rfl)⟩
  have hb12 : sp_row 12 P M b := fun j hj => by
    rw [hm1 j (by omega)]
    have o := hb j hj
    rw [Nat.zero_mul, Nat.zero_add] at o
    exact o
  have hc : ∀ j, j < P → cw (j + 1) = fr_C s N P (j + 1) := hcw
  refine ⟨N + 1, ?_⟩
  have t220 := fun hh => sy_e220 (y_mem := M) (y_x := y_x) (y_s := y_s) (y_cw := cw) (y_q := q) (y_rawK := raw) (y_R := R) (y_r := r) (y_a := a) (y_ao := ao) (post := post) (y_cnt := nI N) (y_cur := y_cur) (y_kq := y_kq) (y_fg := y_fg) (y_hist := y_hist) (y_out := y_out) (y_fld := y_fld) (y_fc := y_fc) (y_made := y_made) (y_words := y_words) (y_dw := y_dw) (y_tf := y_tf) (y_x2 := y_x2) (y_h := y_h) (y_v := y_v) (y_y := y_y) (y_z := y_z) (y_u := y_u) (y_cp := y_cp) (y_oldH := y_oldH) (y_encSlot := y_encSlot) (y_encSign := y_encSign) (T := T) (b := b) (s := s) hP1 hP hN (fun j _ => by rw [es]) hc hh N 0 M (by omega) hb12 hm2 (fun _ _ => rfl)
  rw [sp_fl0] at t220
  refine t220 (fun M2 hz2 hf2 => ?_)
  have hb18 : sp_row 18 P M2 (fun _ => 0) := fun j hj => hz2 j (by omega)
  refine ⟨N + 1, ?_⟩
  have t262 := fun hh => sy_e262 (y_mem := M2) (y_h := y_h) (y_x := sp_fl (fun n => sp_sat (s n - sp_lo (fr_C s N P) P b (fun _ => 0) n)) N y_x) (y_s := y_s) (y_cw := cw) (y_q := q) (y_rawK := raw) (y_R := R) (y_r := r) (y_a := a) (y_ao := ao) (post := post) (y_cnt := nI N) (y_cur := y_cur) (y_kq := y_kq) (y_fg := y_fg) (y_hist := y_hist) (y_out := y_out) (y_fld := y_fld) (y_fc := y_fc) (y_made := y_made) (y_words := y_words) (y_dw := y_dw) (y_tf := y_tf) (y_x2 := y_x2) (y_v := y_v) (y_y := y_y) (y_z := y_z) (y_u := y_u) (y_cp := y_cp) (y_oldH := y_oldH) (y_encSlot := y_encSlot) (y_encSign := y_encSign) (T := T) hP1 hP hN hc hh N 0 M2 (by omega) hb18 (fun _ _ => rfl)
  rw [sp_fl0] at t262
  refine t262 (fun M3 hf3 => ?_)
  refine ⟨32 + 1, sy_ad312 (R := sp_out (fr_E s b H N P) 8 32) (E := fr_E s b H N P) (x := fr_X s b N P) (hh := fr_H s N P) (H := H) rfl hN (fun j hj => sp_fl_lo hj) (fun j hj => sp_fl_lo hj) hH (fun l g _ _ => rfl) fr_Lb (fun v y hy => ?_) 32 0 y_v y_y 0 1 0 0 (by omega) (Or.inl ⟨rfl, rfl, rfl, rfl, rfl, rfl, rfl⟩)⟩
  refine ⟨N + 1, ?_⟩
  have t398 := fun hh => sy_e398 (x := fr_X s b N P) (y := fr_Y s H N P (fr_L s b H N P)) (g := fr_G s b H N P) (x4 := nI (fr_L s b H N P)) (y_x2 := y_x2) (y_mem := M3) (y_h := sp_fl (sp_lo (fr_C s N P) P (fun _ => 0) sp_imp) N y_h) (y_x := sp_fl (fun n => sp_sat (s n - sp_lo (fr_C s N P) P b (fun _ => 0) n)) N y_x) (y_s := y_s) (y_cw := cw) (y_q := q) (y_rawK := raw) (y_R := R) (y_r := r) (y_a := a) (y_ao := ao) (post := post) (y_cnt := nI N) (y_cur := y_cur) (y_kq := y_kq) (y_fg := y_fg) (y_hist := y_hist) (y_out := y_out) (y_fld := y_fld) (y_fc := y_fc) (y_made := y_made) (y_words := y_words) (y_dw := y_dw) (y_tf := y_tf) (y_v := v) (y_y := y) (y_z := y_z) (y_u := y_u) (y_cp := y_cp) (y_oldH := y_oldH) (y_encSlot := y_encSlot) (y_encSign := y_encSign) (P := P) (T := T) hN (fun j hj => sp_fl_lo hj) hy hh N 0 (by omega)
  rw [sp_fl0] at t398
  refine t398 ?_
  refine ⟨4 + 1, sy_e458 (x := fr_X2 s b H N P) (hh := fr_H s N P) hNT hT2 hT hg (fun j hj => sp_fl_lo hj) (fun j hj => sp_fl_lo hj) (fun z es' eg' hse => ?_) 4 0 0 y_z y_encSlot y_encSign (by omega) (fun z => absurd z (by omega)) (fun k hk => absurd hk (by omega))⟩
  refine ⟨4 + 1, sy_e505 (sl := fr_SL s b H N P T) (sg := fr_SG s b H N P T) hse (fun F g3 g7 gf => ?_) 4 0 _ (by omega) (fun k hk => absurd hk (by omega)) (fun k hk => absurd hk (by omega)) (fun _ _ => rfl)⟩
  refine ⟨P + 1, sy_e553 (q := fr_Q s N P) hP hq (fun F2 k11 kf => ?_) P 0 F (by omega) (fun k hk => absurd hk (by omega)) (fun _ _ => rfl)⟩
  have f0 : F2 0 = nI (fr_L s b H N P) := by
    rw [kf 0 (by omega), gf 0 (by omega), pk_un (by omega), pk_un (by omega), pk_us]
  have f1 : F2 1 = nI (fr_G s b H N P) := by
    rw [kf 1 (by omega), gf 1 (by omega), pk_un (by omega), pk_us]
  have f2 : F2 2 = nI (fr_GF s b H N P T) := by
    rw [kf 2 (by omega), gf 2 (by omega), pk_us]
    rfl
  have f3 : ∀ t, t < 4 → F2 (3 + t) = nI (fr_SL s b H N P T t) := fun t ht => by
    rw [kf (3 + t) (by omega)]
    exact g3 t ht
  have f7 : ∀ t, t < 4 → F2 (7 + t) = nI (fr_SG s b H N P T t) := fun t ht => by
    rw [kf (7 + t) (by omega)]
    exact g7 t ht
  have f17 : ∀ j, 17 ≤ j → F2 j = y_fld j := fun j hj => by
    rw [kf j (by omega), gf j (by omega), pk_un (by omega), pk_un (by omega), pk_un (by omega)]
  have hFF : sp_FF F2 (0 * 17) P (fr_L s b H N P) (fr_G s b H N P) (fr_GF s b H N P T) (fr_SL s b H N P T) (fr_SG s b H N P T) (fr_Q s N P) := ⟨f0, f1, f2, f3, f7, k11⟩
  refine ⟨4 + 1, sy_e588 (fun W0 hW0 => ?_) 4 0 y_words (by omega) (fun j hj => absurd hj (by omega))⟩
  refine ⟨P + 1, sy_e616 (l := fr_L s b H N P) (ga := fr_G s b H N P) (q := fr_Q s N P) hP (fun m hm => ⟨hq m hm, fr_Qb⟩) fr_Lb fr_Gb (fun W1 hW1 => ?_) P 0 W0 (by omega) ?_⟩
  · have hbM : sp_row (0 * 6) P M3 b := fun j hj => by
      rw [hf3 _ (by omega), hf2 _ (by omega), hm3 _ (by omega)]
      exact hb j hj
    refine ⟨4 + 1, sy_e660 (c := fr_C s N P) (b := b) (H := H) (l := fr_L s b H N P) (ga := fr_G s b H N P) (gf := fr_GF s b H N P T) (sl := fr_SL s b H N P T) (sg := fr_SG s b H N P T) (q := fr_Q s N P) hP1 hP hN8 hNT hT hk hg hbM (fun j hj => rfl) hH hFF (fun m _ => fr_Qb) fr_Lb fr_Gb (fr_GFb (by omega)) (fun t _ => fr_SLb (by omega)) (fun t _ => fr_SGb) hse (fun cur W M' A u oh cp cw' v' w1 w2 w3 w4 w5 => ?_) 4 0 W1 (by omega) hW1⟩
    exact h _ _ _ W _ _ _ _ _ _ _ _ _ _ _ _ _ _ _ _ F2 M' A hraw hFF f17 w1 w2 (fun q h6 h12 => by rw [w3 q (by omega), hf3 q h12, hf2 q h12, hm3 q h12]) w4 (fun q hq' => w5 q (by omega))
  · rw [show sp_ks (fr_Q s N P) 0 = 0 from rfl, Nat.zero_shiftLeft]
    exact hW0
theorem sp_FF_fon {rf F : Nat → Int32} {P l ga gf n : Nat} {sl sg q : Nat → Nat} (hn : 11 + P ≤ n) (h : sp_FF rf 0 P l ga gf sl sg q) : sp_FF (sp_fo rf 17 n F) (1 * 17) P l ga gf sl sg q := by
  obtain ⟨h0, h1, h2, h3, h7, h11⟩ := h
  refine ⟨?_, ?_, ?_, fun t ht => ?_, fun t ht => ?_, fun m hm => ?_⟩
  · exact (sp_fo_in (B := 17) (j := 0) (by omega)).trans h0
  · exact (sp_fo_in (B := 17) (j := 1) (by omega)).trans h1
  · exact (sp_fo_in (B := 17) (j := 2) (by omega)).trans h2
  · rw [show 1 * 17 + 3 + t = 17 + (0 + 3 + t) from by omega]
    exact (sp_fo_in (by omega)).trans (h3 t ht)
  · rw [show 1 * 17 + 7 + t = 17 + (0 + 7 + t) from by omega]
    exact (sp_fo_in (by omega)).trans (h7 t ht)
  · rw [show 1 * 17 + 11 + m = 17 + (0 + 11 + m) from by omega]
    exact (sp_fo_in (by omega)).trans (h11 m hm)
theorem sy_f216 {P N T : Nat} {y_cnt y_cur : Int32} {y_kq y_fg y_mem y_hist y_out y_fld y_fc y_made y_s y_rawK y_q y_words y_dw y_tf y_cw y_x y_x2 y_h y_v y_y y_z y_u y_cp y_oldH y_encSlot y_encSign : Nat → Int32} {y_R y_r y_a y_ao : Nat → Int64} {post : Int32 → SY → Prop} {b H : Nat → Int32} {S : Nat} (hP1 : 1 ≤ P) (hP : P ≤ 6) (hN8 : 8 ≤ N) (hNT : N = 4 * T) (hT : T ≤ 8)
    (hk : ∀ j, j < 16 → y_kq j = sp_kq j) (hg : ∀ j, j < 16 → y_fg j = sp_fg j) (hb : sp_row (1 * 6) P y_mem b) (hH : ∀ j, 1 ≤ j → j ≤ 64 → y_hist (1 * 65 + j) = H j)
    (hF : sp_FF y_tf 0 P (dr_L S P) (dr_G S P) (dr_GF S P) (dr_SL S P) (dr_SG S P) (dr_Q S)) (hfit : ∀ t, t < 4 → dr_SL S P t < T)
    (h : ∀ M' A u oh cp cw v, sp_row (1 * 6) P M' (sp_lm (dr_C S) P b (dr_U H S P) N) → (∀ q, q < 1 * 6 ∨ 1 * 6 + P ≤ q → M' q = y_mem q) →
      (∀ j, 1 ≤ j → j ≤ 64 → A (1 * 65 + j) = sp_nh N (dr_U H S P) H j) → (∀ q, q ≤ 1 * 65 ∨ 1 * 65 + 65 ≤ q → A q = y_hist q) →
      post 1 ((nI P), (nI N), (nI T), y_cnt, y_cur, y_kq, y_fg, M', A, (sp_fo (sp_lo (dr_C S) P b (dr_U H S P)) (1 * 32) N y_out), (sp_fo y_tf 17 17 y_fld), (upd y_fc 1 (y_fc 1 + 1)), (upd y_made 1 1), y_s, y_rawK, y_q, y_words, y_dw, y_tf, cw, y_x, y_x2, y_h, v, y_y, y_z, u, cp, oh, y_encSlot, y_encSign, y_R, y_r, y_a, y_ao)) :
    ∀ d i, i + d = 17 → wY_decodeFrame_216 post (nI P) (nI N) (nI T) y_cnt y_cur (d + 1) (nI i) y_kq y_fg y_mem y_hist y_out (sp_fo y_tf 17 i y_fld) y_fc y_made y_s y_rawK y_q y_words y_dw y_tf y_cw y_x y_x2 y_h y_v y_y y_z y_u y_cp y_oldH y_encSlot y_encSign y_R y_r y_a y_ao := by
  intro d
  induction d with
  | zero =>
    intro i hi
    obtain rfl : i = 17 := by omega
    exact br_t (nI_le (a := 17) (by omega) (by omega)) (sy_d (sd := 1) (c := dr_C S) (b := b) (q := dr_Q S) hP1 hP hN8 hNT hT (by omega) hk hg hb (fun j hj => rfl) hH (sp_FF_fon (by omega) hF) (fun m _ => dr_Qb) (sp_rd_b _ _ 5) (sp_rd_b _ _ 4) hfit (fun t _ => sp_rd_b _ _ 1) h)
  | succ d ih =>
    intro i hi
    have e : (17 : Int32) + nI i = nI (17 + i) := nI_add 17 i
    refine br_f (nI_ge (b := 17) (by omega) (by omega)) ⟨vp_in_nI (by omega) (by omega), pk_in (17 + i) 34 (by omega) e, nm_r ?_ (nm_r (nI_1 i) (ih (i + 1) (by omega)))⟩
    rw [e, nI_clamp (n := 17 + i) (by omega), nI_clamp (by omega)]
    exact sp_foS
theorem sy_f183 {P N T : Nat} {y_cnt y_cur : Int32} {y_kq y_fg y_mem y_hist y_out y_fld y_fc y_made y_s y_rawK y_q y_words y_dw y_tf y_cw y_x y_x2 y_h y_v y_y y_z y_u y_cp y_oldH y_encSlot y_encSign : Nat → Int32} {y_R y_r y_a y_ao : Nat → Int64} {post : Int32 → SY → Prop} {sl : Nat → Nat} (hT : T ≤ 8) (hb : ∀ t, t < 4 → sl t < 8) (h3 : ∀ t, t < 4 → y_tf (3 + t) = nI (sl t))
    (h1 : (∀ t, t < 4 → sl t < T) → ∃ n, wY_decodeFrame_216 post (nI P) (nI N) (nI T) y_cnt y_cur n 0 y_kq y_fg y_mem y_hist y_out y_fld y_fc y_made y_s y_rawK y_q y_words y_dw y_tf y_cw y_x y_x2 y_h y_v y_y y_z y_u y_cp y_oldH y_encSlot y_encSign y_R y_r y_a y_ao) (h0 : ¬ (∀ t, t < 4 → sl t < T) → post 0 ((nI P), (nI N), (nI T), y_cnt, y_cur, y_kq, y_fg, y_mem, y_hist, y_out, y_fld, y_fc, y_made, y_s, y_rawK, y_q, y_words, y_dw, y_tf, y_cw, y_x, y_x2, y_h, y_v, y_y, y_z, y_u, y_cp, y_oldH, y_encSlot, y_encSign, y_R, y_r, y_a, y_ao)) :
    ∀ d t, t + d = 4 → (∀ k, k < t → sl k < T) → wY_decodeFrame_183 post (nI P) (nI N) (nI T) y_cnt y_cur y_kq y_fg y_mem y_hist y_out y_fld y_fc y_made y_s y_rawK y_q y_words y_dw y_tf y_cw y_x y_x2 y_h y_v y_y y_z y_u y_cp y_oldH y_encSlot y_encSign y_R y_r y_a y_ao (d + 1) (nI t) := by
  intro d
  induction d with
  | zero =>
    intro t ht hk
    obtain rfl : t = 4 := by omega
    exact br_t (nI_le (a := 4) (by omega) (by omega)) (h1 hk)
  | succ d ih =>
    intro t ht hk
    have e3 : (3 : Int32) + nI t = nI (3 + t) := nI_add 3 t
    refine br_f (nI_ge (b := 4) (by omega) (by omega)) ⟨pk_in (3 + t) 17 (by omega) e3, ?_⟩
    have b := hb t (by omega)
    rw [e3, nI_clamp (by omega), h3 t (by omega)]
    by_cases c : sl t < T
    · refine br_t (nI_lt c (by omega)) (nm_r (nI_1 t) (ih (t + 1) (by omega) (fun k hk' => ?_)))
      by_cases e : k = t
      · rw [e]
        exact c
      · exact hk k (by omega)
    · exact br_f (nI_nlt (by omega) (by omega)) (h0 (fun z => c (z t (by omega))))
theorem sy_f128 {P N T : Nat} {y_cnt : Int32} {y_kq y_fg y_mem y_hist y_out y_fld y_fc y_made y_s y_rawK y_q y_words y_dw y_tf y_cw y_x y_x2 y_h y_v y_y y_z y_u y_cp y_oldH y_encSlot y_encSign : Nat → Int32} {y_R y_r y_a y_ao : Nat → Int64} {post : Int32 → SY → Prop} {S : Nat} (hP : P ≤ 6) (hD : sp_wd y_dw S)
    (h : ∀ cur tf, (∀ t, t < 4 → tf (3 + t) = nI (dr_SL S P t)) → (∀ t, t < 4 → tf (7 + t) = nI (dr_SG S P t)) → tf 2 = nI (dr_GF S P) → (∀ j, j < 2 ∨ 11 ≤ j → tf j = y_tf j) → ∃ n, wY_decodeFrame_183 post (nI P) (nI N) (nI T) y_cnt cur y_kq y_fg y_mem y_hist y_out y_fld y_fc y_made y_s y_rawK y_q y_words y_dw tf y_cw y_x y_x2 y_h y_v y_y y_z y_u y_cp y_oldH y_encSlot y_encSign y_R y_r y_a y_ao n 0) :
    ∀ d t tf, t + d = 4 → (∀ k, k < t → tf (3 + k) = nI (dr_SL S P k)) → (∀ k, k < t → tf (7 + k) = nI (dr_SG S P k)) → (∀ j, j < 2 ∨ 11 ≤ j → tf j = y_tf j) →
      wY_decodeFrame_128 post (d + 1) (nI t) (nI P) (nI N) (nI T) y_cnt (nI (4 * P + 8 + 4 * t)) y_kq y_fg y_mem y_hist y_out y_fld y_fc y_made y_s y_rawK y_q y_words y_dw tf y_cw y_x y_x2 y_h y_v y_y y_z y_u y_cp y_oldH y_encSlot y_encSign y_R y_r y_a y_ao := by
  intro d
  induction d with
  | zero =>
    intro t tf ht h3 h7 hf
    obtain rfl : t = 4 := by omega
    refine br_t (nI_le (a := 4) (by omega) (by omega)) (sy_rb (w := 4) (by omega) (by omega) hD (nm_e (h _ _ ?_ ?_ ?_ ?_)))
    · intro k hk
      rw [pk_un (by omega)]
      exact h3 k hk
    · intro k hk
      rw [pk_un (by omega)]
      exact h7 k hk
    · rw [pk_us]
      rfl
    · intro j hj
      rw [pk_un (by omega)]
      exact hf j hj
  | succ d ih =>
    intro t tf ht h3 h7 hf
    have e3 : (3 : Int32) + nI t = nI (3 + t) := nI_add 3 t
    have e7 : (7 : Int32) + nI t = nI (7 + t) := nI_add 7 t
    refine br_f (nI_ge (b := 4) (by omega) (by omega)) (sy_rb (w := 3) (by omega) (by omega) hD ⟨pk_in (3 + t) 17 (by omega) e3, nm_e (sy_rb (w := 1) (by omega) (by omega) hD ⟨pk_in (7 + t) 17 (by omega) e7, nm_e (nm_r (nI_1 t) (ih (t + 1) _ (by omega) ?_ ?_ ?_))⟩)⟩)
    · intro k hk
      rw [e3, e7, nI_clamp (by omega), nI_clamp (by omega)]
      by_cases c : k = t
      · subst c
        rw [pk_un (by omega), pk_us]
        rfl
      · rw [pk_un (by omega), pk_un (by omega)]
        exact h3 k (by omega)
    · intro k hk
      rw [e3, e7, nI_clamp (by omega), nI_clamp (by omega)]
      by_cases c : k = t
      · subst c
        rw [pk_us]
        rfl
      · rw [pk_un (by omega), pk_un (by omega)]
        exact h7 k (by omega)
    · intro j hj
      rw [e3, e7, nI_clamp (by omega), nI_clamp (by omega), pk_un (by omega), pk_un (by omega)]
      exact hf j hj
theorem sy_f73 {P N T : Nat} {y_cnt : Int32} {y_kq y_fg y_mem y_hist y_out y_fld y_fc y_made y_s y_rawK y_q y_words y_dw y_cw y_x y_x2 y_h y_v y_y y_z y_u y_cp y_oldH y_encSlot y_encSign : Nat → Int32} {y_R y_r y_a y_ao : Nat → Int64} {post : Int32 → SY → Prop} {S : Nat} (hP : P ≤ 6) (hD : sp_wd y_dw S)
    (h : ∀ cur tf, sp_FF tf 0 P (dr_L S P) (dr_G S P) (dr_GF S P) (dr_SL S P) (dr_SG S P) (dr_Q S) → ∃ n, wY_decodeFrame_183 post (nI P) (nI N) (nI T) y_cnt cur y_kq y_fg y_mem y_hist y_out y_fld y_fc y_made y_s y_rawK y_q y_words y_dw tf y_cw y_x y_x2 y_h y_v y_y y_z y_u y_cp y_oldH y_encSlot y_encSign y_R y_r y_a y_ao n 0) :
    ∀ d m tf, m + d = P → (∀ k, k < m → tf (11 + k) = nI (dr_Q S k)) → wY_decodeFrame_73 post (d + 1) (nI (m + 1)) (nI P) (nI N) (nI T) y_cnt (nI (4 * m)) y_kq y_fg y_mem y_hist y_out y_fld y_fc y_made y_s y_rawK y_q y_words y_dw tf y_cw y_x y_x2 y_h y_v y_y y_z y_u y_cp y_oldH y_encSlot y_encSign y_R y_r y_a y_ao := by
  intro d
  induction d with
  | zero =>
    intro m tf hm hq
    obtain rfl : m = P := by omega
    refine br_t (nI_lt (by omega) (by omega)) (sy_rb (w := 5) (by omega) (by omega) hD (nm_e (sy_rb (w := 3) (by omega) (by omega) hD (nm_e (Exists.intro (4 + 1) ?_)))))
    refine sy_f128 hP hD (fun cur tf' g3 g7 g2 gf => h cur tf' ⟨?_, ?_, g2, ?_, ?_, ?_⟩) 4 0 _ (by omega) (fun k hk => absurd hk (by omega)) (fun k hk => absurd hk (by omega)) (fun _ _ => rfl)
    · rw [gf (0 + 0) (by omega), pk_un (by omega), pk_us]
      rfl
    · rw [gf (0 + 1) (by omega), pk_us]
      rfl
    · intro t ht
      rw [show 0 + 3 + t = 3 + t from by omega]
      exact g3 t ht
    · intro t ht
      rw [show 0 + 7 + t = 7 + t from by omega]
      exact g7 t ht
    · intro k hk
      rw [show 0 + 11 + k = 11 + k from by omega, gf (11 + k) (by omega), pk_un (by omega), pk_un (by omega)]
      exact hq k hk
  | succ d ih =>
    intro m tf hm hq
    have e : (10 : Int32) + nI (m + 1) = nI (11 + m) := by
      rw [show (10 : Int32) + nI (m + 1) = nI (10 + (m + 1)) from nI_add 10 _, show 10 + (m + 1) = 11 + m from by omega]
    refine br_f (nI_nlt (by omega) (by omega)) (sy_rb (w := 4) (by omega) (by omega) hD ⟨pk_in (11 + m) 17 (by omega) e, nm_e (nm_r (nI_1 (m + 1)) (ih (m + 1) _ (by omega) ?_))⟩)
    intro k hk
    rw [e, nI_clamp (by omega)]
    by_cases c : k = m
    · subst c
      rw [pk_us]
      rfl
    · rw [pk_un (by omega)]
      exact hq k (by omega)
theorem sy_f44 {P N T : Nat} {y_cnt y_cur : Int32} {y_kq y_fg y_mem y_hist y_out y_fld y_fc y_made y_s y_rawK y_q y_words y_dw y_cw y_x y_x2 y_h y_v y_y y_z y_u y_cp y_oldH y_encSlot y_encSign : Nat → Int32} {y_R y_r y_a y_ao : Nat → Int64} {post : Int32 → SY → Prop} {S : Nat} (hP : P ≤ 6) (hD : sp_wd y_dw S)
    (h : ∀ cur tf, sp_FF tf 0 P (dr_L S P) (dr_G S P) (dr_GF S P) (dr_SL S P) (dr_SG S P) (dr_Q S) → ∃ n, wY_decodeFrame_183 post (nI P) (nI N) (nI T) y_cnt cur y_kq y_fg y_mem y_hist y_out y_fld y_fc y_made y_s y_rawK y_q y_words y_dw tf y_cw y_x y_x2 y_h y_v y_y y_z y_u y_cp y_oldH y_encSlot y_encSign y_R y_r y_a y_ao n 0) :
    ∀ d i tf, i + d = 17 → wY_decodeFrame_44 post (nI P) (nI N) (nI T) y_cnt y_cur (d + 1) (nI i) y_kq y_fg y_mem y_hist y_out y_fld y_fc y_made y_s y_rawK y_q y_words y_dw tf y_cw y_x y_x2 y_h y_v y_y y_z y_u y_cp y_oldH y_encSlot y_encSign y_R y_r y_a y_ao := by
  intro d
  induction d with
  | zero =>
    intro i tf hi
    obtain rfl : i = 17 := by omega
    exact br_t (nI_le (a := 17) (by omega) (by omega)) ⟨P + 1, sy_f73 hP hD h P 0 tf (by omega) (fun k hk => absurd hk (by omega))⟩
  | succ d ih =>
    intro i tf hi
    exact br_f (nI_ge (b := 17) (by omega) (by omega)) ⟨vp_in_nI (by omega) (by omega), nm_e (nm_r (nI_1 i) (ih (i + 1) _ (by omega)))⟩
theorem sp_a16 (w : Int32) : w &&& 65535 = nI (w.toBitVec.toNat % 65536) := pk_and w 16 (by decide)
theorem sy_dec {P N T : Nat} {y_cnt y_cur : Int32} {y_kq y_fg y_mem y_hist y_out y_fld y_fc y_made y_s y_rawK y_q y_words y_dw y_tf y_cw y_x y_x2 y_h y_v y_y y_z y_u y_cp y_oldH y_encSlot y_encSign : Nat → Int32} {y_R y_r y_a y_ao : Nat → Int64} {post : Int32 → SY → Prop} {b H : Nat → Int32} {p0 p1 p2 p3 : Int32} {S : Nat} (hP2 : 2 ≤ P) (hP : P ≤ 6) (hNT : N = 4 * T) (hT2 : 2 ≤ T) (hT : T ≤ 8)
    (eS : S = sp_S (p0.toBitVec.toNat % 65536) (p1.toBitVec.toNat % 65536) (p2.toBitVec.toNat % 65536) (p3.toBitVec.toNat % 65536))
    (hk : ∀ j, j < 16 → y_kq j = sp_kq j) (hg : ∀ j, j < 16 → y_fg j = sp_fg j)
    (hb : sp_row (1 * 6) P y_mem b) (hH : ∀ j, 1 ≤ j → j ≤ 64 → y_hist (1 * 65 + j) = H j)
    (h0 : ¬ (∀ t, t < 4 → dr_SL S P t < T) → ∀ cur dw tf, post 0 ((nI P), (nI N), (nI T), y_cnt, cur, y_kq, y_fg, y_mem, y_hist, y_out, y_fld, y_fc, y_made, y_s, y_rawK, y_q, y_words, dw, tf, y_cw, y_x, y_x2, y_h, y_v, y_y, y_z, y_u, y_cp, y_oldH, y_encSlot, y_encSign, y_R, y_r, y_a, y_ao))
    (h1 : (∀ t, t < 4 → dr_SL S P t < T) → ∀ cur dw tf F M A u oh cp cw v,
      sp_FF F (1 * 17) P (dr_L S P) (dr_G S P) (dr_GF S P) (dr_SL S P) (dr_SG S P) (dr_Q S) → (∀ j, j < 17 → F j = y_fld j) →
      sp_row (1 * 6) P M (sp_lm (dr_C S) P b (dr_U H S P) N) → (∀ q, q < 6 → M q = y_mem q) →
      (∀ j, 1 ≤ j → j ≤ 64 → A (1 * 65 + j) = sp_nh N (dr_U H S P) H j) → (∀ q, q < 65 → A q = y_hist q) →
      post 1 ((nI P), (nI N), (nI T), y_cnt, cur, y_kq, y_fg, M, A, (sp_fo (sp_lo (dr_C S) P b (dr_U H S P)) (1 * 32) N y_out), F, (upd y_fc 1 (y_fc 1 + 1)), (upd y_made 1 1), y_s, y_rawK, y_q, y_words, dw, tf, cw, y_x, y_x2, y_h, v, y_y, y_z, u, cp, oh, y_encSlot, y_encSign, y_R, y_r, y_a, y_ao)) :
    wpY_decodeFrame post ((nI P), (nI N), (nI T), y_cnt, y_cur, y_kq, y_fg, y_mem, y_hist, y_out, y_fld, y_fc, y_made, y_s, y_rawK, y_q, y_words, y_dw, y_tf, y_cw, y_x, y_x2, y_h, y_v, y_y, y_z, y_u, y_cp, y_oldH, y_encSlot, y_encSign, y_R, y_r, y_a, y_ao) p0 p1 p2 p3 := by
  have hD : sp_wd (upd (upd (upd (upd y_dw 0 (p0 &&& 65535)) 1 (p1 &&& 65535)) 2 (p2 &&& 65535)) 3 (p3 &&& 65535)) S := by
    rw [eS]
    refine sp_S_w (Nat.mod_lt _ (by decide)) (Nat.mod_lt _ (by decide)) (Nat.mod_lt _ (by decide)) (Nat.mod_lt _ (by decide)) ?_ ?_ ?_ ?_
    · rw [pk_un (by omega), pk_un (by omega), pk_un (by omega), pk_us, sp_a16]
    · rw [pk_un (by omega), pk_un (by omega), pk_us, sp_a16]
    · rw [pk_un (by omega), pk_us, sp_a16]
    · rw [pk_us, sp_a16]
  refine nm_e (nm_e (nm_e (nm_e (Exists.intro (17 + 1) (sy_f44 hP hD (fun cur tf htf => ?_) 17 0 y_tf (by omega))))))
  have r3 : ∀ t, t < 4 → tf (3 + t) = nI (dr_SL S P t) := fun t ht => by
    have q := htf.2.2.2.1 t ht
    rw [show 0 + 3 + t = 3 + t from by omega] at q
    exact q
  refine ⟨4 + 1, sy_f183 (sl := dr_SL S P) hT (fun t _ => dr_SLb) r3 (fun hfit => ⟨17 + 1, ?_⟩) (fun hn => h0 hn _ _ _) 4 0 (by omega) (fun k hk => absurd hk (by omega))⟩
  have t216 := fun hh => sy_f216 (y_tf := tf) (y_fld := y_fld) (y_cur := cur) (y_dw := upd (upd (upd (upd y_dw 0 (p0 &&& 65535)) 1 (p1 &&& 65535)) 2 (p2 &&& 65535)) 3 (p3 &&& 65535)) (post := post) (y_cnt := y_cnt) (y_kq := y_kq) (y_fg := y_fg) (y_mem := y_mem) (y_hist := y_hist) (y_out := y_out) (y_fc := y_fc) (y_made := y_made) (y_s := y_s) (y_rawK := y_rawK) (y_q := y_q) (y_words := y_words) (y_cw := y_cw) (y_x := y_x) (y_x2 := y_x2) (y_h := y_h) (y_v := y_v) (y_y := y_y) (y_z := y_z) (y_u := y_u) (y_cp := y_cp) (y_oldH := y_oldH) (y_encSlot := y_encSlot) (y_encSign := y_encSign) (y_R := y_R) (y_r := y_r) (y_a := y_a) (y_ao := y_ao) (by omega) hP (by omega) hNT hT hk hg hb hH htf hfit hh 17 0 (by omega)
  rw [sp_fo0] at t216
  exact t216 (fun M' A u oh cp cw v r1 r2 r3 r4 => h1 hfit _ _ _ _ M' A u oh cp cw v (sp_FF_fon (by omega) htf) (fun j hj => sp_fo_out (by omega)) r1 (fun q hq => r2 q (by omega)) r3 (fun q hq => r4 q (by omega)))
