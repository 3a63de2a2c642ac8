/-! what was packed is read again -/
theorem sp_pj_sh {n v w : Nat} (hv : v < 2 ^ w) : sp_pj n v w >>> w = n := by
  unfold sp_pj
  rw [Nat.shiftRight_or_distrib, Nat.shiftLeft_shiftRight, Nat.shiftRight_eq_div_pow, Nat.div_eq_of_lt hv, Nat.or_zero]
theorem sp_pj_md {n v w : Nat} (hv : v < 2 ^ w) : sp_pj n v w % 2 ^ w = v := by
  unfold sp_pj
  rw [Nat.or_mod_two_pow, Nat.shiftLeft_eq, Nat.mul_mod_left, Nat.zero_or, Nat.mod_eq_of_lt hv]
theorem sp_ks_sh {q : Nat → Nat} {P : Nat} (hq : ∀ m, m < P → q m < 16) : ∀ d m, m + d = P → sp_ks q P >>> (4 * d) = sp_ks q m := by
  intro d
  induction d with
  | zero =>
    intro m hm
    obtain rfl : m = P := by omega
    rfl
  | succ d ih =>
    intro m hm
    rw [show 4 * (d + 1) = 4 * d + 4 from by omega, Nat.shiftRight_add, ih (m + 1) (by omega)]
    exact sp_pj_sh (hq m (by omega))
theorem sp_ts_sh {b : Nat} {sl sg : Nat → Nat} (h1 : ∀ t, t < 4 → sl t < 8) (h2 : ∀ t, t < 4 → sg t < 2) : ∀ d t, t + d = 4 → sp_ts b sl sg 4 >>> (4 * d) = sp_ts b sl sg t := by
  intro d
  induction d with
  | zero =>
    intro t ht
    obtain rfl : t = 4 := by omega
    rfl
  | succ d ih =>
    intro t ht
    rw [show 4 * (d + 1) = 4 * d + 1 + 3 from by omega, Nat.shiftRight_add, Nat.shiftRight_add, ih (t + 1) (by omega)]
    show sp_pj (sp_pj (sp_ts b sl sg t) (sl t) 3) (sg t) 1 >>> 1 >>> 3 = _
    rw [sp_pj_sh (h2 t (by omega)), sp_pj_sh (h1 t (by omega))]
theorem sp_rd_fs {F c k P r : Nat} (hP : P ≤ 6) (hr : c + k + r = 4 * P + 28) : sp_rd (F <<< (36 - 4 * P)) c k = F >>> r % 2 ^ k := by
  unfold sp_rd
  rw [show 64 - c - k = 36 - 4 * P + r from by omega, Nat.shiftRight_add, Nat.shiftLeft_shiftRight]
theorem sp_unp {q : Nat → Nat} {P l ga gf : Nat} {sl sg : Nat → Nat} (hP : P ≤ 6) (hq : ∀ m, m < P → q m < 16) (hl : l < 32) (hg : ga < 8) (h1 : ∀ t, t < 4 → sl t < 8) (h2 : ∀ t, t < 4 → sg t < 2) (hf : gf < 16) {S : Nat} (eS : S = sp_fs q P l ga sl sg gf <<< (36 - 4 * P)) :
    dr_L S P = l ∧ dr_G S P = ga ∧ dr_GF S P = gf ∧ (∀ t, t < 4 → dr_SL S P t = sl t) ∧ (∀ t, t < 4 → dr_SG S P t = sg t) ∧ (∀ m, m < P → dr_Q S m = q m) := by
  subst eS
  have f4 : sp_fs q P l ga sl sg gf >>> 4 = sp_ts (sp_hs q P l ga) sl sg 4 := sp_pj_sh hf
  have f20 : sp_fs q P l ga sl sg gf >>> 20 = sp_hs q P l ga := by
    rw [show 20 = 4 + 4 * 4 from rfl, Nat.shiftRight_add, f4, sp_ts_sh h1 h2 4 0 (by omega)]
    rfl
  have f23 : sp_fs q P l ga sl sg gf >>> 23 = sp_pj (sp_ks q P) l 5 := by
    rw [show 23 = 20 + 3 from rfl, Nat.shiftRight_add, f20]
    exact sp_pj_sh hg
  have f28 : sp_fs q P l ga sl sg gf >>> 28 = sp_ks q P := by
    rw [show 28 = 23 + 5 from rfl, Nat.shiftRight_add, f23]
    exact sp_pj_sh hl
  have ft : ∀ t, t < 4 → sp_fs q P l ga sl sg gf >>> (4 + 4 * (3 - t)) = sp_pj (sp_pj (sp_ts (sp_hs q P l ga) sl sg t) (sl t) 3) (sg t) 1 := fun t ht => by
    rw [Nat.shiftRight_add, f4, sp_ts_sh h1 h2 (3 - t) (t + 1) (by omega)]
    rfl
  refine ⟨?_, ?_, ?_, fun t ht => ?_, fun t ht => ?_, fun m hm => ?_⟩
  · unfold dr_L
    rw [sp_rd_fs (r := 23) hP (by omega), f23]
    exact sp_pj_md hl
  · unfold dr_G
    rw [sp_rd_fs (r := 20) hP (by omega), f20]
    exact sp_pj_md hg
  · unfold dr_GF
    rw [sp_rd_fs (r := 0) hP (by omega)]
    exact sp_pj_md hf
  · unfold dr_SL
    rw [sp_rd_fs (r := 4 + 4 * (3 - t) + 1) hP (by omega), Nat.shiftRight_add, ft t ht, sp_pj_sh (h2 t ht)]
    exact sp_pj_md (h1 t ht)
  · unfold dr_SG
    rw [sp_rd_fs (r := 4 + 4 * (3 - t)) hP (by omega), ft t ht]
    exact sp_pj_md (h2 t ht)
  · unfold dr_Q
    rw [sp_rd_fs (r := 28 + 4 * (P - (m + 1))) hP (by omega), Nat.shiftRight_add, f28, sp_ks_sh hq (P - (m + 1)) (m + 1) (by omega)]
    exact sp_pj_md (hq m hm)
theorem sp_S_of {S : Nat} (hS : S < 2 ^ 64) {a b c d : Int32} (ha : a = nI ((S >>> (48 - 16 * 0)) % 65536)) (hb : b = nI ((S >>> (48 - 16 * 1)) % 65536)) (hc : c = nI ((S >>> (48 - 16 * 2)) % 65536)) (hd : d = nI ((S >>> (48 - 16 * 3)) % 65536)) :
    S = sp_S (a.toBitVec.toNat % 65536) (b.toBitVec.toNat % 65536) (c.toBitVec.toNat % 65536) (d.toBitVec.toNat % 65536) := by
  have m : ∀ x : Nat, (nI (x % 65536)).toBitVec.toNat % 65536 = x % 65536 := fun x => by
    rw [pk_tn (by omega)]
    omega
  rw [ha, hb, hc, hd, m, m, m, m]
  unfold sp_S
  rw [Nat.shiftRight_eq_div_pow, Nat.shiftRight_eq_div_pow, Nat.shiftRight_eq_div_pow, Nat.shiftRight_eq_div_pow]
  show S = S / 281474976710656 % 65536 * 281474976710656 + S / 4294967296 % 65536 * 4294967296 + S / 65536 % 65536 * 65536 + S / 1 % 65536
  omega
