section
/-! rows of the kit to paste, as they stand (kit/rows) -/
theorem pk_us {f : Nat → Int32} {k : Nat} {x : Int32} : upd f k x k = x := if_pos rfl
theorem pk_un {f : Nat → Int32} {k j : Nat} {x : Int32} (h : j ≠ k) : upd f k x j = f j := if_neg h
theorem pk_uLs {f : Nat → Int64} {k : Nat} {x : Int64} : vp_updL f k x k = x := if_pos rfl
theorem pk_uLn {f : Nat → Int64} {k j : Nat} {x : Int64} (h : j ≠ k) : vp_updL f k x j = f j := if_neg h
theorem pk_sub {a b : Nat} (h : b ≤ a) : nI a - nI b = nI (a - b) := by
  obtain ⟨c, rfl⟩ : ∃ c, a = c + b := ⟨a - b, by omega⟩
  rw [← nI_add, Int32.add_sub_cancel, Nat.add_sub_cancel]
theorem pk_m1 (n : Nat) : nI (n + 1) + (-1) = nI n := by
  rw [← nI_1, Int32.add_assoc, show (1 : Int32) + (-1) = 0 from rfl, Int32.add_zero]
theorem pk_mul (a b : Nat) : nI a * nI b = nI (a * b) := (Int32.ofNat_mul a b).symm
theorem pk_div {a d : Nat} (ha : a < 2 ^ 31) (h0 : 0 < d) (hd : d < 2 ^ 31) : nI a / nI d = nI (a / d) := by
  apply Int32.toInt_inj.mp
  rw [lg_idiv_nonneg (by rw [nI_toInt ha]; omega) (by rw [nI_toInt hd]; omega), nI_toInt ha, nI_toInt hd, nI_toInt (Nat.lt_of_le_of_lt (Nat.div_le_self a d) ha)]
  first | rfl | exact (Int.natCast_ediv _ _).symm
theorem pk_rem {a d : Nat} (ha : a < 2 ^ 31) (h0 : 0 < d) (hd : d < 2 ^ 31) : nI a - nI a / nI d * nI d = nI (a % d) := by
  rw [pk_div ha h0 hd, pk_mul, pk_sub (Nat.div_mul_le_self a d)]
  exact congrArg nI (by have := Nat.div_add_mod' a d; omega)
theorem pk_sub_toInt {a b : Nat} (ha : a < 2 ^ 30) (hb : b < 2 ^ 30) : (nI a - nI b).toInt = (a : Int) - b := by
  rw [Int32.toInt_sub, nI_toInt (by omega), nI_toInt (by omega)]
  exact Int.bmod_eq_of_le (by omega) (by omega)
theorem pk_sneg {a b : Nat} (hb : b < 2 ^ 30) (h : a < b) : nI a - nI b < 0 := by
  rw [Int32.lt_iff_toInt_lt, pk_sub_toInt (by omega) hb, show (0 : Int32).toInt = 0 from by decide]
  omega
theorem pk_ix (x : Int32) {n : Nat} (hn : n < 2 ^ 31) : x < 0 ∨ nI n ≤ x ∨ ∃ j : Nat, j < n ∧ x = nI j := by
  by_cases h : x < 0
  · exact Or.inl h
  · obtain ⟨j, hj, rfl⟩ := nI_of h
    by_cases h2 : j < n
    · exact Or.inr (Or.inr ⟨j, h2, rfl⟩)
    · exact Or.inr (Or.inl (nI_le (by omega) hj))
theorem pk_le {x y : Int32} {A B : Prop} (a b : Nat) (f : a ≤ b → A) (g : b < a → B) (hx : x = nI a := by rfl) (hy : y = nI b := by rfl) (ha : a < 2 ^ 31 := by omega) (hb : b < 2 ^ 31 := by omega) : (x ≤ y → A) ∧ (¬ x ≤ y → B) := by
  subst hx hy
  rw [nI_leI ha hb]
  exact ⟨f, fun z => g (by omega)⟩
theorem pk_lt {x y : Int32} {A B : Prop} (a b : Nat) (f : a < b → A) (g : b ≤ a → B) (hx : x = nI a := by rfl) (hy : y = nI b := by rfl) (ha : a < 2 ^ 31 := by omega) (hb : b < 2 ^ 31 := by omega) : (x < y → A) ∧ (¬ x < y → B) := by
  subst hx hy
  rw [nI_ltI ha hb]
  exact ⟨f, fun z => g (by omega)⟩
theorem pk_eq {x y : Int32} {A B : Prop} (a b : Nat) (f : a = b → A) (g : a ≠ b → B) (hx : x = nI a := by rfl) (hy : y = nI b := by rfl) (ha : a < 2 ^ 31 := by omega) (hb : b < 2 ^ 31 := by omega) : (x = y → A) ∧ (¬ x = y → B) := by
  subst hx hy
  rw [nI_eq ha hb]
  exact ⟨f, g⟩
theorem pk_in {x : Int32} (n N : Nat) (h : n < N) (hx : x = nI n := by rfl) (hN : N < 2 ^ 31 := by omega) : vp_in x N := by
  subst hx
  exact vp_in_nI h hN
theorem pk_cl {x : Int32} (n : Nat) (hx : x = nI n := by rfl) (h : n < 2 ^ 31 := by omega) : x.toNatClampNeg = n := by
  subst hx
  exact nI_clamp h
theorem pk_tn {n : Nat} (h : n < 2 ^ 32) : (nI n).toBitVec.toNat = n := Nat.mod_eq_of_lt h
theorem pk_and (x : Int32) {m : Int32} (k : Nat) (hm : m.toBitVec.toNat = 2 ^ k - 1) : x &&& m = nI (x.toBitVec.toNat % 2 ^ k) := by
  apply Int32.toBitVec_inj.mp
  apply BitVec.eq_of_toNat_eq
  rw [Int32.toBitVec_and, BitVec.toNat_and, hm, Nat.and_two_pow_sub_one_eq_mod]
  show _ = (BitVec.ofNat 32 _).toNat
  rw [BitVec.toNat_ofNat]
  exact (Nat.mod_eq_of_lt (Nat.lt_of_le_of_lt (Nat.mod_le _ _) x.toBitVec.isLt)).symm
theorem pk_andN {n : Nat} (h : n < 2 ^ 32) {m : Int32} (k : Nat) (hm : m.toBitVec.toNat = 2 ^ k - 1) : nI n &&& m = nI (n % 2 ^ k) := by
  rw [pk_and _ k hm, pk_tn h]
theorem pk_andE (x : Int32) {m : Int32} (k : Nat) (hm : m.toBitVec.toNat = 2 ^ k - 1) : ∃ j : Nat, j < 2 ^ k ∧ x &&& m = nI j := ⟨_, Nat.mod_lt _ (Nat.two_pow_pos k), pk_and x k hm⟩
theorem pk_andIn (x : Int32) {m : Int32} (k : Nat) (hm : m.toBitVec.toNat = 2 ^ k - 1) (hk : k ≤ 30) : vp_in (x &&& m) (2 ^ k) := by
  obtain ⟨j, hj, e⟩ := pk_andE x k hm
  rw [e]
  exact vp_in_nI hj (Nat.lt_of_le_of_lt (Nat.pow_le_pow_right (by decide) hk) (by decide))
theorem pk_shl (a s : Int32) (k : Nat) (hs : (s.toBitVec.smod 32).toNat = k) : (a <<< s).toBitVec.toNat = a.toBitVec.toNat * 2 ^ k % 2 ^ 32 := by
  show (a.toBitVec <<< (s.toBitVec.smod 32).toNat).toNat = _
  rw [hs, BitVec.toNat_shiftLeft, Nat.shiftLeft_eq]
theorem pk_shlN {n : Nat} (s : Int32) (k : Nat) (hs : (s.toBitVec.smod 32).toNat = k) (h : n * 2 ^ k < 2 ^ 32) : nI n <<< s = nI (n * 2 ^ k) := by
  apply Int32.toBitVec_inj.mp
  apply BitVec.eq_of_toNat_eq
  have hn : n < 2 ^ 32 := Nat.lt_of_le_of_lt (Nat.le_mul_of_pos_right n (Nat.two_pow_pos k)) h
  rw [pk_shl _ _ k hs, pk_tn hn, pk_tn h, Nat.mod_eq_of_lt h]
theorem pk_shr (a s : Int32) (k : Nat) (hs : (s.toBitVec.smod 32).toNat = k) : (a >>> s).toInt = a.toInt >>> k := by
  show (a.toBitVec.sshiftRight (s.toBitVec.smod 32).toNat).toInt = _
  rw [hs, BitVec.toInt_sshiftRight]
  rfl
theorem pk_shrN {n : Nat} (h : n < 2 ^ 31) (s : Int32) (k : Nat) (hs : (s.toBitVec.smod 32).toNat = k) : nI n >>> s = nI (n / 2 ^ k) := by
  apply Int32.toInt_inj.mp
  have h2 : n / 2 ^ k ≤ n := Nat.div_le_self _ _
  rw [pk_shr _ _ k hs, nI_toInt h, nI_toInt (by omega), Int.shiftRight_eq_div_pow]
  rfl
theorem pk_ushr (x s : Int32) (k : Nat) (hs : ((s.toUInt32 &&& Int32.toUInt32 31).toBitVec % 32).toNat = k) : (x.toUInt32 >>> (s.toUInt32 &&& Int32.toUInt32 31)).toInt32.toBitVec.toNat = x.toBitVec.toNat / 2 ^ k := by
  have e : (x.toUInt32 >>> (s.toUInt32 &&& Int32.toUInt32 31)).toInt32.toBitVec = x.toBitVec >>> k := by
    rw [← hs]
    exact UInt32.toBitVec_shiftRight _ _
  rw [e, BitVec.toNat_ushiftRight, Nat.shiftRight_eq_div_pow]
theorem pk_ushrN {n : Nat} (hn : n < 2 ^ 32) (s : Int32) (k : Nat) (hs : ((s.toUInt32 &&& Int32.toUInt32 31).toBitVec % 32).toNat = k) : ((nI n).toUInt32 >>> (s.toUInt32 &&& Int32.toUInt32 31)).toInt32 = nI (n / 2 ^ k) := by
  apply Int32.toBitVec_inj.mp
  apply BitVec.eq_of_toNat_eq
  rw [pk_ushr _ s k hs, pk_tn hn, pk_tn (Nat.lt_of_le_of_lt (Nat.div_le_self _ _) hn)]
theorem pk_lT {n : Nat} (h : n < 2 ^ 63) : (lN n).toInt = (n : Int) := lg_ofNat_toInt h
theorem pk_lLT {a b : Nat} (ha : a < 2 ^ 63) (hb : b < 2 ^ 63) : lN a < lN b ↔ a < b := by
  rw [Int64.lt_iff_toInt_lt, pk_lT ha, pk_lT hb]; omega
theorem pk_lLE {a b : Nat} (ha : a < 2 ^ 63) (hb : b < 2 ^ 63) : lN a ≤ lN b ↔ a ≤ b := by
  rw [Int64.le_iff_toInt_le, pk_lT ha, pk_lT hb]; omega
theorem pk_lEQ {a b : Nat} (ha : a < 2 ^ 63) (hb : b < 2 ^ 63) : lN a = lN b ↔ a = b := by
  rw [← Int64.toInt_inj, pk_lT ha, pk_lT hb]; omega
theorem pk_lOf {x : Int64} (h : ¬ x < 0) : ∃ k : Nat, k < 2 ^ 63 ∧ x = lN k := by
  rw [Int64.lt_iff_toInt_lt] at h
  have h0 : (0 : Int64).toInt = 0 := by decide
  have hx := Int64.toInt_lt x
  refine ⟨x.toInt.toNat, by omega, Int64.toInt_inj.mp ?_⟩
  rw [pk_lT (by omega)]
  omega
theorem pk_lDiv {a b : Nat} (ha : a < 2 ^ 63) (h0 : 0 < b) (hb : b < 2 ^ 63) : lN a / lN b = lN (a / b) := by
  apply Int64.toInt_inj.mp
  rw [lg_ldiv_nonneg (by rw [pk_lT ha]; omega) (by rw [pk_lT hb]; omega), pk_lT ha, pk_lT hb, pk_lT (Nat.lt_of_le_of_lt (Nat.div_le_self a b) ha)]
  rfl
theorem pk_loop {σ : Type} (W : Nat → Nat → σ → Prop) (I : Nat → σ → Prop) (e i0 : Nat) (s : σ) (hi : i0 ≤ e) (h0 : I i0 s) (hx : ∀ n s, I e s → W (n + 1) e s)
    (hs : ∀ n i s, i < e → I i s → (∀ s', I (i + 1) s' → W n (i + 1) s') → W (n + 1) i s) : ∃ n, W n i0 s :=
  ⟨e + 1, loop_i W I e hx hs (e + 1) i0 s hi (by omega) h0⟩
theorem pk_loopD {σ : Type} (W : Nat → Nat → σ → Prop) (I : Nat → σ → Prop) (hx : ∀ n s, I 0 s → W (n + 1) 0 s)
    (hs : ∀ n i s, I (i + 1) s → (∀ s', I i s' → W n i s') → W (n + 1) (i + 1) s) : ∀ (e : Nat) (s : σ), I e s → W (e + 1) e s := by
  intro e
  induction e with
  | zero => exact fun s h => hx 0 s h
  | succ e ih => exact fun s h => hs (e + 1) e s h (fun s' h' => ih s' h')
theorem wb_tb (n : Nat) : (lN n).toBitVec = BitVec.ofNat 64 n := rfl
theorem wb_inj {a b : Int64} (h : a.toBitVec = b.toBitVec) : a = b := Int64.toBitVec_inj.mp h
theorem wb_tn {n : Nat} (h : n < 2 ^ 64) : (lN n).toBitVec.toNat = n := by rw [wb_tb, BitVec.toNat_ofNat, Nat.mod_eq_of_lt h]
theorem wb_of (x : Int64) : ∃ n, n < 2 ^ 64 ∧ x = lN n := ⟨x.toBitVec.toNat, x.toBitVec.isLt, wb_inj (by rw [wb_tb]; simp)⟩
theorem wb_of32 (x : Int32) : ∃ n, n < 2 ^ 32 ∧ x = nI n := ⟨x.toBitVec.toNat, x.toBitVec.isLt, Int32.toBitVec_inj.mp (by show _ = BitVec.ofNat 32 _; simp)⟩
theorem wb_c : ∀ k, k < 64 → ((nI k).toInt64 &&& 63) = lN k := by decide +kernel
theorem wb_cu : ∀ k, k < 64 → ((nI k).toInt64.toUInt64 &&& Int64.toUInt64 63) = UInt64.ofNat k := by decide +kernel
theorem wb_sm : ∀ k, k < 64 → (BitVec.ofNat 64 k).smod 64 = BitVec.ofNat 64 k := by decide +kernel
theorem wb_pw {a b : Nat} (h : a ≤ b) : 2 ^ b = 2 ^ a * 2 ^ (b - a) := by rw [← Nat.pow_add]; congr 1; omega
theorem wb_lt2 {a b : Nat} (h : a < b) : 2 ^ a < 2 ^ b := Nat.pow_lt_pow_right (by decide) h
theorem wb_mod (n : Nat) : lN n = lN (n % 2 ^ 64) := wb_inj (by rw [wb_tb, wb_tb]; apply BitVec.eq_of_toNat_eq; rw [BitVec.toNat_ofNat, BitVec.toNat_ofNat, Nat.mod_mod])
theorem wb_shr {n k : Nat} (hn : n < 2 ^ 64) (hk : k < 64) : ((lN n).toUInt64 >>> ((nI k).toInt64.toUInt64 &&& Int64.toUInt64 63)).toInt64 = lN (n / 2 ^ k) := by
  rw [wb_cu k hk]
  apply wb_inj
  apply BitVec.eq_of_toNat_eq
  show ((lN n).toUInt64 >>> UInt64.ofNat k).toNat = (BitVec.ofNat 64 _).toNat
  have h1 : (UInt64.ofNat k).toNat = k := by
    show (BitVec.ofNat 64 k).toNat = k
    rw [BitVec.toNat_ofNat, Nat.mod_eq_of_lt (by omega)]
  have h2 : (lN n).toUInt64.toNat = n := wb_tn hn
  rw [UInt64.toNat_shiftRight, h1, h2, Nat.mod_eq_of_lt hk, Nat.shiftRight_eq_div_pow, BitVec.toNat_ofNat, Nat.mod_eq_of_lt (Nat.lt_of_le_of_lt (Nat.div_le_self _ _) hn)]
theorem wb_shl (n : Nat) {k : Nat} (hk : k < 64) : lN n <<< ((nI k).toInt64 &&& 63) = lN (n * 2 ^ k) := by
  rw [wb_c k hk]
  apply wb_inj
  rw [Int64.toBitVec_shiftLeft, wb_tb, wb_tb, wb_tb, wb_sm k hk]
  apply BitVec.eq_of_toNat_eq
  rw [BitVec.shiftLeft_eq', BitVec.toNat_shiftLeft, BitVec.toNat_ofNat, BitVec.toNat_ofNat, BitVec.toNat_ofNat, Nat.mod_eq_of_lt (show k < 2 ^ 64 by omega), Nat.shiftLeft_eq, Nat.mul_mod, Nat.mod_mod, ← Nat.mul_mod]
theorem wb_and {a b : Nat} (ha : a < 2 ^ 64) (hb : b < 2 ^ 64) : lN a &&& lN b = lN (a &&& b) := by
  apply wb_inj
  rw [Int64.toBitVec_and, wb_tb, wb_tb, wb_tb]
  apply BitVec.eq_of_toNat_eq
  rw [BitVec.toNat_and, BitVec.toNat_ofNat, BitVec.toNat_ofNat, BitVec.toNat_ofNat, Nat.mod_eq_of_lt ha, Nat.mod_eq_of_lt hb, Nat.mod_eq_of_lt (Nat.and_lt_two_pow _ hb)]
theorem wb_or {a b : Nat} (ha : a < 2 ^ 64) (hb : b < 2 ^ 64) : lN a ||| lN b = lN (a ||| b) := by
  apply wb_inj
  rw [Int64.toBitVec_or, wb_tb, wb_tb, wb_tb]
  apply BitVec.eq_of_toNat_eq
  rw [BitVec.toNat_or, BitVec.toNat_ofNat, BitVec.toNat_ofNat, BitVec.toNat_ofNat, Nat.mod_eq_of_lt ha, Nat.mod_eq_of_lt hb, Nat.mod_eq_of_lt (Nat.or_lt_two_pow ha hb)]
theorem wb_mask {n k : Nat} (hn : n < 2 ^ 64) (hk : k < 64) : lN n &&& lN (2 ^ k - 1) = lN (n % 2 ^ k) := by
  rw [wb_and hn (by have := wb_lt2 hk; omega), Nat.and_two_pow_sub_one_eq_mod]
theorem wb_a1 {n : Nat} (hn : n < 2 ^ 64) : lN n &&& 1 = lN (n % 2) := wb_mask (k := 1) hn (by decide)
theorem wb_bit {n k : Nat} (hn : n < 2 ^ 64) (hk : k < 64) : ((lN n).toUInt64 >>> ((nI k).toInt64.toUInt64 &&& Int64.toUInt64 63)).toInt64 &&& 1 = lN (n / 2 ^ k % 2) := by
  rw [wb_shr hn hk, wb_a1 (Nat.lt_of_le_of_lt (Nat.div_le_self _ _) hn)]
theorem wb_xor {q k : Nat} (hk : k < 63) (h : 2 ^ k ≤ q) (h2 : q < 2 ^ (k + 1)) : lN q ^^^ lN (2 ^ k) = lN (q - 2 ^ k) := by
  obtain ⟨r, rfl⟩ : ∃ r, q = 2 ^ k + r := ⟨q - 2 ^ k, by omega⟩
  have hr : r < 2 ^ k := by rw [Nat.pow_succ] at h2; omega
  have hx : (2 ^ k + r) ^^^ 2 ^ k = r := by
    apply Nat.eq_of_testBit_eq
    intro i
    rw [Nat.testBit_xor, Nat.testBit_two_pow]
    rcases Nat.lt_trichotomy i k with h | h | h
    · rw [Nat.testBit_two_pow_add_gt h]
      simp [show ¬ k = i by omega]
    · subst h
      rw [Nat.testBit_two_pow_add_eq]
      simp
    · have a1 : 2 ^ (k + 1) ≤ 2 ^ i := Nat.pow_le_pow_right (by decide) h
      rw [Nat.testBit_lt_two_pow (show 2 ^ k + r < 2 ^ i by omega), Nat.testBit_lt_two_pow (show r < 2 ^ i by omega)]
      simp [show ¬ k = i by omega]
  have b1 := wb_lt2 (show k + 1 < 64 by omega)
  have b2 := wb_lt2 (show k < 64 by omega)
  apply wb_inj
  rw [Int64.toBitVec_xor, wb_tb, wb_tb, wb_tb]
  apply BitVec.eq_of_toNat_eq
  rw [BitVec.toNat_xor, BitVec.toNat_ofNat, BitVec.toNat_ofNat, BitVec.toNat_ofNat, Nat.mod_eq_of_lt (by omega : 2 ^ k + r < 2 ^ 64), Nat.mod_eq_of_lt b2, hx, Nat.add_sub_cancel_left, Nat.mod_eq_of_lt (by omega)]
theorem u_tn {n : Nat} (h : n < 2 ^ 64) : (UInt64.ofNat n).toNat = n := Nat.mod_eq_of_lt h
theorem g_and {a b c : Nat} (ha : a < 2 ^ 64) (hb : b < 2 ^ 64) (hc : a &&& b = c) : lN a &&& lN b = lN c := by
  subst hc
  have h : UInt64.ofNat a &&& UInt64.ofNat b = UInt64.ofNat (a &&& b) := UInt64.toNat_inj.mp (by rw [UInt64.toNat_and, u_tn ha, u_tn hb, u_tn (Nat.and_lt_two_pow a hb)])
  have h2 := congrArg UInt64.toInt64 h
  exact h2
theorem g_and1 {a : Nat} (ha : a < 2 ^ 64) : lN a &&& 1 = lN (a % 2) := g_and (b := 1) ha (by decide) (Nat.and_two_pow_sub_one_eq_mod a 1)
theorem g_mask {a s p : Nat} (hp : 2 ^ s = p) (hs : s < 64) (ha : a < 2 ^ 64) : lN a &&& lN (p - 1) = lN (a % p) := by
  subst hp
  have := Nat.pow_lt_pow_right (show 1 < 2 by decide) hs
  exact g_and ha (by omega) (Nat.and_two_pow_sub_one_eq_mod a s)
theorem g_or {k p a b : Nat} (hp : 2 ^ k = p) (ha : a < p) (h : b * p + a < 2 ^ 64) : lN (b * p) ||| lN a = lN (b * p + a) := by
  subst hp
  have h1 : b * 2 ^ k ||| a = b * 2 ^ k + a := by rw [← Nat.shiftLeft_eq, Nat.shiftLeft_add_eq_or_of_lt ha]
  have h3 : UInt64.ofNat (b * 2 ^ k) ||| UInt64.ofNat a = UInt64.ofNat (b * 2 ^ k + a) := UInt64.toNat_inj.mp (by rw [UInt64.toNat_or, u_tn (by omega), u_tn (by omega), u_tn h, h1])
  have h2 := congrArg UInt64.toInt64 h3
  exact h2
theorem g_or' {k p a b : Nat} (hp : 2 ^ k = p) (ha : a < p) (h : a + b * p < 2 ^ 64) : lN a ||| lN (b * p) = lN (a + b * p) := by
  rw [Int64.or_comm, g_or hp ha (by omega), Nat.add_comm]
theorem g_ushr {a k p : Nat} {y : UInt64} (hy : y = UInt64.ofNat k) (hk : k < 64) (hp : 2 ^ k = p) (ha : a < 2 ^ 64) : ((lN a).toUInt64 >>> y).toInt64 = lN (a / p) := by
  subst hy hp
  have h : UInt64.ofNat a >>> UInt64.ofNat k = UInt64.ofNat (a / 2 ^ k) := UInt64.toNat_inj.mp (by rw [UInt64.toNat_shiftRight, u_tn ha, u_tn (by omega), u_tn (Nat.lt_of_le_of_lt (Nat.div_le_self _ _) ha), Nat.mod_eq_of_lt hk, Nat.shiftRight_eq_div_pow])
  have h2 := congrArg UInt64.toInt64 h
  exact h2
theorem g_shl {a k p : Nat} {y : Int64} (hy : y.toBitVec.smod 64 = BitVec.ofNat 64 k) (hk : k < 64) (hp : 2 ^ k = p) (ha : a < 2 ^ 64) : lN a <<< y = lN (a * p) := by
  subst hp
  apply Int64.toBitVec_inj.mp
  rw [Int64.toBitVec_shiftLeft, hy]
  apply BitVec.eq_of_toNat_eq
  have hb : (lN a).toBitVec.toNat = a := Nat.mod_eq_of_lt ha
  have hk' : (BitVec.ofNat 64 k).toNat = k := Nat.mod_eq_of_lt (by omega)
  have h : ((lN a).toBitVec <<< BitVec.ofNat 64 k).toNat = (a * 2 ^ k) % 2 ^ 64 := by simp only [BitVec.shiftLeft_eq', BitVec.toNat_shiftLeft, hb, hk', Nat.shiftLeft_eq]
  exact h
end
section
/-! the pure picture: saturation, fills, sums, the lattice, the searches -/
def sp_sat (w : Int32) : Int32 := if w < -32768 then -32768 else if 32767 < w then 32767 else w
def sp_satL (w : Int64) : Int32 := if w < -32768 then -32768 else if 32767 < w then 32767 else w.toInt32
theorem sp_satI (w : Int32) : sp_satL w.toInt64 = sp_sat w := by
  have h1 : w.toInt64 < (-32768 : Int64) ↔ w < -32768 := by
    rw [show (-32768 : Int64) = (-32768 : Int32).toInt64 from by decide]; exact Int32.toInt64_lt
  have h2 : (32767 : Int64) < w.toInt64 ↔ (32767 : Int32) < w := by
    rw [show (32767 : Int64) = (32767 : Int32).toInt64 from by decide]; exact Int32.toInt64_lt
  unfold sp_satL sp_sat
  rw [Int32.toInt32_toInt64]
  simp only [h1, h2]
theorem sp_sat_r (w : Int32) : -32768 ≤ (sp_sat w).toInt ∧ (sp_sat w).toInt ≤ 32767 := by
  unfold sp_sat
  split
  · decide
  · split
    · decide
    · rename_i a b
      rw [Int32.lt_iff_toInt_lt] at a b
      have e1 : (-32768 : Int32).toInt = -32768 := by decide
      have e2 : (32767 : Int32).toInt = 32767 := by decide
      rw [e1] at a
      rw [e2] at b
      omega
def sp_fl {α : Type} (g : Nat → α) (i : Nat) (A : Nat → α) : Nat → α := fun j => if j < i then g j else A j
theorem sp_fl0 {α : Type} (g A : Nat → α) : sp_fl g 0 A = A := funext fun j => if_neg (Nat.not_lt_zero j)
theorem sp_fl_lo {α : Type} {g A : Nat → α} {i j : Nat} (h : j < i) : sp_fl g i A j = g j := if_pos h
theorem sp_fl_hi {α : Type} {g A : Nat → α} {i j : Nat} (h : i ≤ j) : sp_fl g i A j = A j := if_neg (Nat.not_lt.mpr h)
theorem sp_flS {g A : Nat → Int32} {i : Nat} : upd (sp_fl g i A) i (g i) = sp_fl g (i + 1) A := by
  funext j
  show (if j = i then g i else if j < i then g j else A j) = (if j < i + 1 then g j else A j)
  by_cases h : j = i
  · rw [if_pos h, if_pos (by omega), h]
  · rw [if_neg h]
    by_cases h2 : j < i
    · rw [if_pos h2, if_pos (by omega)]
    · rw [if_neg h2, if_neg (by omega)]
theorem sp_flSL {g A : Nat → Int64} {i : Nat} : vp_updL (sp_fl g i A) i (g i) = sp_fl g (i + 1) A := by
  funext j
  show (if j = i then g i else if j < i then g j else A j) = (if j < i + 1 then g j else A j)
  by_cases h : j = i
  · rw [if_pos h, if_pos (by omega), h]
  · rw [if_neg h]
    by_cases h2 : j < i
    · rw [if_pos h2, if_pos (by omega)]
    · rw [if_neg h2, if_neg (by omega)]
/-- a fill behind an offset -/
def sp_fo {α : Type} (g : Nat → α) (B i : Nat) (A : Nat → α) : Nat → α := fun j => if B ≤ j ∧ j < B + i then g (j - B) else A j
theorem sp_fo0 {α : Type} (g A : Nat → α) (B : Nat) : sp_fo g B 0 A = A := funext fun j => if_neg (by omega)
theorem sp_fo_in {α : Type} {g A : Nat → α} {B i j : Nat} (h : j < i) : sp_fo g B i A (B + j) = g j := by
  show (if B ≤ B + j ∧ B + j < B + i then g (B + j - B) else A (B + j)) = g j
  rw [if_pos (by omega), Nat.add_sub_cancel_left]
theorem sp_fo_out {α : Type} {g A : Nat → α} {B i j : Nat} (h : j < B ∨ B + i ≤ j) : sp_fo g B i A j = A j := if_neg (by omega)
theorem sp_foS {g A : Nat → Int32} {B i : Nat} : upd (sp_fo g B i A) (B + i) (g i) = sp_fo g B (i + 1) A := by
  funext j
  show (if j = B + i then g i else if B ≤ j ∧ j < B + i then g (j - B) else A j) = (if B ≤ j ∧ j < B + (i + 1) then g (j - B) else A j)
  by_cases h : j = B + i
  · rw [if_pos h, if_pos (by omega), h, Nat.add_sub_cancel_left]
  · rw [if_neg h]
    by_cases h2 : B ≤ j ∧ j < B + i
    · rw [if_pos h2, if_pos (by omega)]
    · rw [if_neg h2, if_neg (by omega)]
/-- sums in 64 bits -/
def sp_sm (f : Nat → Int64) : Nat → Int64
  | 0 => 0
  | n + 1 => sp_sm f n + f n
theorem sp_sm_c {f g : Nat → Int64} {n : Nat} (h : ∀ j, j < n → f j = g j) : sp_sm f n = sp_sm g n := by
  induction n with
  | zero => rfl
  | succ n ih =>
    show sp_sm f n + f n = sp_sm g n + g n
    rw [ih (fun j hj => h j (by omega)), h n (by omega)]
/-- the lattice on a row of its own -/
def sp_row (B P : Nat) (M b : Nat → Int32) : Prop := ∀ j, j < P → M (B + j) = b j
theorem sp_row_u {B P k : Nat} {M b : Nat → Int32} {x : Int32} (h : sp_row B P M b) : sp_row B P (upd M (B + k) x) (upd b k x) := by
  intro j hj
  by_cases e : j = k
  · subst e
    rw [pk_us, pk_us]
  · rw [pk_un (by omega), pk_un e]
    exact h j hj
theorem sp_row_o {B P k : Nat} {M b : Nat → Int32} {x : Int32} (h : sp_row B P M b) (hk : k < B ∨ B + P ≤ k) : sp_row B P (upd M k x) b := by
  intro j hj
  rw [pk_un (by omega)]
  exact h j hj
def sp_r15 (x : Int32) : Int32 := (x + 16384) >>> ((15 : Int32) &&& 31)
def sp_lf (c b : Nat → Int32) (j : Nat) (f : Int32) : Int32 := sp_sat (f - sp_r15 (c (j + 1) * b j))
def sp_lb (c b : Nat → Int32) (j : Nat) (f : Int32) : Int32 := sp_sat (b j + sp_r15 (c (j + 1) * f))
def sp_go (c : Nat → Int32) (P : Nat) : Nat → Int32 → (Nat → Int32) → Int32 × (Nat → Int32)
  | 0, f, b => (f, upd b 0 f)
  | j + 1, f, b => sp_go c P j (sp_lf c b j f) (if j + 1 < P then upd b (j + 1) (sp_lb c b j (sp_lf c b j f)) else b)
def sp_lm (c : Nat → Int32) (P : Nat) (b e : Nat → Int32) : Nat → (Nat → Int32)
  | 0 => b
  | n + 1 => (sp_go c P P (e n) (sp_lm c P b e n)).2
def sp_lo (c : Nat → Int32) (P : Nat) (b e : Nat → Int32) (n : Nat) : Int32 := (sp_go c P P (e n) (sp_lm c P b e n)).1
/-- the past excitation, its filtering, the errors -/
def sp_pv (H : Nat → Int32) (L n : Nat) : Int32 := H (L - n % L)
theorem sp_pv_lo {H : Nat → Int32} {L n : Nat} (h : n < L) : sp_pv H L n = H (L - n) := by
  show H (L - n % L) = _
  rw [Nat.mod_eq_of_lt h]
theorem sp_pv_hi {H : Nat → Int32} {L n : Nat} (h : L ≤ n) : sp_pv H L n = sp_pv H L (n - L) := by
  show H (L - n % L) = H (L - (n - L) % L)
  rw [Nat.mod_eq_sub_mod h]
def sp_cy (v h : Nat → Int32) (n : Nat) : Int32 := sp_satL ((sp_sm (fun j => (v j).toInt64 * (h (n - j)).toInt64) (n + 1) + 2048) >>> ((12 : Int32).toInt64 &&& 63))
theorem sp_cy_c {v v' h h' : Nat → Int32} {n : Nat} (hv : ∀ j, j ≤ n → v j = v' j) (hh : ∀ j, j ≤ n → h j = h' j) : sp_cy v h n = sp_cy v' h' n := by
  unfold sp_cy
  rw [sp_sm_c (f := fun j => (v j).toInt64 * (h (n - j)).toInt64) (g := fun j => (v' j).toInt64 * (h' (n - j)).toInt64) (fun j hj => by
    show (v j).toInt64 * (h (n - j)).toInt64 = (v' j).toInt64 * (h' (n - j)).toInt64
    rw [hv j (by omega), hh (n - j) (by omega)])]
def sp_sq (d : Int32) : Int64 := d.toInt64 * d.toInt64
def sp_ea (x y : Nat → Int32) (N : Nat) (g : Int32) : Int64 := sp_sm (fun n => sp_sq (256 * x n - 37 * g * y n)) N
theorem sp_ea_c {x x' y y' : Nat → Int32} {N : Nat} (g : Int32) (hx : ∀ j, j < N → x j = x' j) (hy : ∀ j, j < N → y j = y' j) : sp_ea x y N g = sp_ea x' y' N g :=
  sp_sm_c fun j hj => by
    show sp_sq (256 * x j - 37 * g * y j) = sp_sq (256 * x' j - 37 * g * y' j)
    rw [hx j hj, hy j hj]
def sp_ef (x z : Nat → Int32) (N : Nat) (l : Int32) : Int64 := sp_sm (fun n => sp_sq (4096 * x n - l * z n)) N
theorem sp_ef_c {x x' z z' : Nat → Int32} {N : Nat} (l : Int32) (hx : ∀ j, j < N → x j = x' j) (hz : ∀ j, j < N → z j = z' j) : sp_ef x z N l = sp_ef x' z' N l :=
  sp_sm_c fun j hj => by
    show sp_sq (4096 * x j - l * z j) = sp_sq (4096 * x' j - l * z' j)
    rw [hx j hj, hz j hj]
/-- the first candidate of the least error: c outer, g inner -/
def sp_mx : Int64 := 9223372036854775807
def sp_in (E : Nat → Nat → Int64) (c : Nat) : Nat → Int64 × Nat × Nat → Int64 × Nat × Nat
  | 0, s => s
  | g + 1, s => if E c g < (sp_in E c g s).1 then (E c g, c, g) else sp_in E c g s
def sp_out (E : Nat → Nat → Int64) (G : Nat) : Nat → Int64 × Nat × Nat
  | 0 => (sp_mx, 0, 0)
  | c + 1 => sp_in E c G (sp_out E G c)
theorem sp_in_b {E : Nat → Nat → Int64} {c C G : Nat} (hc : c < C) : ∀ (g : Nat) (s : Int64 × Nat × Nat), g ≤ G → s.2.1 < C → s.2.2 < G → (sp_in E c g s).2.1 < C ∧ (sp_in E c g s).2.2 < G := by
  intro g
  induction g with
  | zero => exact fun s _ h1 h2 => ⟨h1, h2⟩
  | succ g ih =>
    intro s hg h1 h2
    have h := ih s (by omega) h1 h2
    show (if E c g < (sp_in E c g s).1 then (E c g, c, g) else sp_in E c g s).2.1 < C ∧ (if E c g < (sp_in E c g s).1 then (E c g, c, g) else sp_in E c g s).2.2 < G
    split
    · exact ⟨hc, hg⟩
    · exact h
theorem sp_out_b {E : Nat → Nat → Int64} {G C : Nat} (hG : 0 < G) (hC : 0 < C) : ∀ c, c ≤ C → (sp_out E G c).2.1 < C ∧ (sp_out E G c).2.2 < G := by
  intro c
  induction c with
  | zero => exact fun _ => ⟨hC, hG⟩
  | succ c ih =>
    intro h
    have i := ih (by omega)
    exact sp_in_b (by omega) G _ (Nat.le_refl _) i.1 i.2
theorem sp_in_c {E E' : Nat → Nat → Int64} {c G : Nat} : ∀ (g : Nat) (s : Int64 × Nat × Nat), g ≤ G → (∀ j, j < G → E c j = E' c j) → sp_in E c g s = sp_in E' c g s := by
  intro g
  induction g with
  | zero => exact fun _ _ _ => rfl
  | succ g ih =>
    intro s hg h
    show (if E c g < (sp_in E c g s).1 then (E c g, c, g) else sp_in E c g s) = (if E' c g < (sp_in E' c g s).1 then (E' c g, c, g) else sp_in E' c g s)
    rw [ih s (by omega) h, h g (by omega)]
/-- the state of the reference's search: fresh, or the same best candidate -/
def sp_ys (c g : Nat) (s : Int64 × Nat × Nat) (first : Int32) (best : Int64) (bc bg : Nat) : Prop :=
  (c = 0 ∧ g = 0 ∧ first = 1 ∧ best = 0 ∧ bc = 0 ∧ bg = 0 ∧ s = (sp_mx, 0, 0)) ∨ (first = 0 ∧ best = s.1 ∧ bc = s.2.1 ∧ bg = s.2.2)
theorem sp_mx_le (e : Int64) (h : ¬ e < sp_mx) : e = sp_mx := by
  apply Int64.toInt_inj.mp
  rw [Int64.lt_iff_toInt_lt] at h
  have h1 := e.toInt_lt
  have h2 : sp_mx.toInt = 9223372036854775807 := by decide
  rw [h2] at h ⊢
  omega
/-- the tables -/
def sp_kq (j : Nat) : Int32 := ([-31130, -29491, -27034, -23757, -19661, -14746, -9011, -3277, 3277, 9011, 14746, 19661, 23757, 27034, 29491, 31130] : List Int32).getD j 0
def sp_fg (j : Nat) : Int32 := ([0, 16, 23, 32, 45, 64, 91, 128, 181, 256, 362, 512, 724, 1024, 1448, 2048] : List Int32).getD j 0
/-- the nearest level -/
def sp_ds (a b : Int32) : Int32 := if a < b then b - a else a - b
def sp_qs (k : Int32) : Nat → Nat × Int32
  | 0 => (0, sp_ds k (sp_kq 0))
  | i + 1 => if sp_ds k (sp_kq (i + 1)) < (sp_qs k i).2 then (i + 1, sp_ds k (sp_kq (i + 1))) else sp_qs k i
def sp_nq (k : Int32) : Nat := (sp_qs k 15).1
theorem sp_qs_b (k : Int32) : ∀ i, (sp_qs k i).1 ≤ i := by
  intro i
  induction i with
  | zero => exact Nat.le_refl _
  | succ i ih =>
    show (if sp_ds k (sp_kq (i + 1)) < (sp_qs k i).2 then (i + 1, sp_ds k (sp_kq (i + 1))) else sp_qs k i).1 ≤ i + 1
    split
    · exact Nat.le_refl _
    · omega
theorem sp_nq_b (k : Int32) : sp_nq k < 16 := Nat.lt_succ_of_le (sp_qs_b k 15)
theorem sp_kq_r : ∀ j, j < 16 → -32768 ≤ (sp_kq j).toInt ∧ (sp_kq j).toInt ≤ 32767 := by decide
/-- pulses -/
def sp_pc (h : Nat → Int32) (pos sg n : Nat) : Int32 := if n < pos then 0 else if sg = 0 then h (n - pos) else -h (n - pos)
def sp_z (h : Nat → Int32) (ch : Nat → Nat) : Nat → Nat → Int32
  | 0, _ => 0
  | t + 1, n => sp_z h ch t n + sp_pc h (t + 4 * (ch t / 2)) (ch t % 2) n
theorem sp_z_c {h : Nat → Int32} {ch ch' : Nat → Nat} {n : Nat} : ∀ t, (∀ k, k < t → ch k = ch' k) → sp_z h ch t n = sp_z h ch' t n := by
  intro t
  induction t with
  | zero => exact fun _ => rfl
  | succ t ih =>
    intro e
    show sp_z h ch t n + sp_pc h (t + 4 * (ch t / 2)) (ch t % 2) n = sp_z h ch' t n + sp_pc h (t + 4 * (ch' t / 2)) (ch' t % 2) n
    rw [ih (fun k hk => e k (by omega)), e t (by omega)]
def sp_et (h x : Nat → Int32) (N : Nat) (ch : Nat → Nat) (t c g : Nat) : Int64 :=
  sp_ef x (fun n => sp_z h ch t n + sp_pc h (t + 4 * (c / 2)) (c % 2) n) N (sp_fg g)
/-- what track t picks, the earlier tracks' picks being ch -/
def sp_pk (h x : Nat → Int32) (N T : Nat) (ch : Nat → Nat) (t : Nat) : Int64 × Nat × Nat := sp_out (sp_et h x N ch t) 16 (2 * T)
def sp_ch (h x : Nat → Int32) (N T : Nat) : Nat → Nat → Nat
  | 0 => fun _ => 0
  | t + 1 => fun k => if k = t then (sp_pk h x N T (sp_ch h x N T t) t).2.1 else sp_ch h x N T t k
theorem sp_ch_b {h x : Nat → Int32} {N T : Nat} (hT : 0 < T) : ∀ t k, sp_ch h x N T t k < 2 * T := by
  intro t
  induction t with
  | zero => intro k; show 0 < 2 * T; omega
  | succ t ih =>
    intro k
    show (if k = t then (sp_pk h x N T (sp_ch h x N T t) t).2.1 else sp_ch h x N T t k) < 2 * T
    split
    · exact (sp_out_b (by omega) (by omega) (2 * T) (Nat.le_refl _)).1
    · exact ih k
theorem sp_ch_s {h x : Nat → Int32} {N T t k : Nat} (hk : k ≠ t) : sp_ch h x N T (t + 1) k = sp_ch h x N T t k := if_neg hk
theorem sp_ch_t {h x : Nat → Int32} {N T t : Nat} : sp_ch h x N T (t + 1) t = (sp_pk h x N T (sp_ch h x N T t) t).2.1 := if_pos rfl
/-- the gain picked by the track before t -/
def sp_gf (h x : Nat → Int32) (N T : Nat) (t : Nat) : Nat := (sp_pk h x N T (sp_ch h x N T t) t).2.2
theorem sp_gf_b {h x : Nat → Int32} {N T t : Nat} (hT : 0 < T) : sp_gf h x N T t < 16 := (sp_out_b (by omega) (by omega) (2 * T) (Nat.le_refl _)).2
/-- rule D -/
def sp_cp (sl sg : Nat → Nat) (n : Nat) : Int32 := if n / 4 = sl (n % 4) then (if sg (n % 4) = 0 then 1 else -1) else 0
def sp_u (H : Nat → Int32) (l ga gf : Nat) (sl sg : Nat → Nat) (n : Nat) : Int32 :=
  sp_sat (((37 * nI ga * sp_pv H (l + 4) n + 128) >>> ((8 : Int32) &&& 31)) + sp_fg gf * sp_cp sl sg n)
def sp_nh (N : Nat) (u H : Nat → Int32) (j : Nat) : Int32 := if j ≤ N then u (N - j) else H (j - N)
end
section
/-! correlation and the recursion for the raw reflection coefficients -/
def sp_R (s : Nat → Int32) (N i : Nat) : Int64 := sp_sm (fun t => (s (i + t)).toInt64 * (s t).toInt64) (N - i)
def sp_den (R0 : Int64) : Int64 := R0 + (R0 >>> ((7 : Int32).toInt64 &&& 63)) + 1
def sp_r (s : Nat → Int32) (N i : Nat) : Int64 := sp_R s N i * 32767 / sp_den (sp_R s N 0)
def sp_ac (r a : Nat → Int64) (m : Nat) : Nat → Int64
  | 0 => r m * 32768
  | j + 1 => sp_ac r a m j + a (j + 1) * r (m - (j + 1))
theorem sp_ac_c {r r' a a' : Nat → Int64} {m P : Nat} (hm : m ≤ P) (h1 : 1 ≤ m) (hr : ∀ j, j ≤ P → r j = r' j) (ha : ∀ j, 1 ≤ j → j ≤ P → a j = a' j) : ∀ j, j < m → sp_ac r a m j = sp_ac r' a' m j := by
  intro j
  induction j with
  | zero => intro _; show r m * 32768 = r' m * 32768; rw [hr m hm]
  | succ j ih =>
    intro hj
    show sp_ac r a m j + a (j + 1) * r (m - (j + 1)) = sp_ac r' a' m j + a' (j + 1) * r' (m - (j + 1))
    rw [ih (by omega), ha (j + 1) (by omega) (by omega), hr (m - (j + 1)) (by omega)]
def sp_cl (w : Int64) : Int64 := if w < -32767 then -32767 else if 32767 < w then 32767 else w
def sp_km (r a : Nat → Int64) (E : Int64) (m : Nat) : Int64 := sp_cl (-(sp_ac r a m (m - 1) / E))
def sp_st (k x y : Int64) : Int64 := x + ((k * y + 16384) >>> ((15 : Int32).toInt64 &&& 63))
def sp_an (a : Nat → Int64) (m : Nat) (k : Int64) : Nat → Int64 := fun j => if j = m then k else if 1 ≤ j ∧ j < m then sp_st k (a j) (a (m - j)) else a j
def sp_en (E k : Int64) : Int64 := (E * (1073741824 - k * k)) >>> ((30 : Int32).toInt64 &&& 63)
def sp_ls (r : Nat → Int64) (q : (Nat → Int64) × Int64 × (Nat → Int32)) (m : Nat) : (Nat → Int64) × Int64 × (Nat → Int32) :=
  if 0 < q.2.1 then (sp_an q.1 m (sp_km r q.1 q.2.1 m), sp_en q.2.1 (sp_km r q.1 q.2.1 m), upd q.2.2 m (sp_km r q.1 q.2.1 m).toInt32) else q
def sp_lv (r : Nat → Int64) : Nat → (Nat → Int64) × Int64 × (Nat → Int32)
  | 0 => (fun _ => 0, r 0, fun _ => 0)
  | m + 1 => sp_ls r (sp_lv r m) (m + 1)
def sp_K (s : Nat → Int32) (N P m : Nat) : Int32 := if sp_R s N 0 = 0 then 0 else (sp_lv (sp_r s N) P).2.2 m
theorem sp_cl_r (w : Int64) : -32767 ≤ (sp_cl w).toInt ∧ (sp_cl w).toInt ≤ 32767 := by
  unfold sp_cl
  split
  · decide
  · split
    · decide
    · rename_i a b
      rw [Int64.lt_iff_toInt_lt] at a b
      have e1 : (-32767 : Int64).toInt = -32767 := by decide
      have e2 : (32767 : Int64).toInt = 32767 := by decide
      rw [e1] at a
      rw [e2] at b
      omega
theorem sp_cl_32 (w : Int64) : (sp_cl w).toInt32.toInt = (sp_cl w).toInt := by
  have h := sp_cl_r w
  rw [Int64.toInt_toInt32]
  exact Int.bmod_eq_of_le (by omega) (by omega)
theorem sp_cl_64 (w : Int64) : (sp_cl w).toInt32.toInt64 = sp_cl w := by
  apply Int64.toInt_inj.mp
  rw [Int32.toInt_toInt64, sp_cl_32]
theorem sp_lv_r (r : Nat → Int64) : ∀ m j, -32767 ≤ ((sp_lv r m).2.2 j).toInt ∧ ((sp_lv r m).2.2 j).toInt ≤ 32767 := by
  intro m
  induction m with
  | zero => intro j; show -32767 ≤ (0 : Int32).toInt ∧ (0 : Int32).toInt ≤ 32767; decide
  | succ m ih =>
    intro j
    show -32767 ≤ ((sp_ls r (sp_lv r m) (m + 1)).2.2 j).toInt ∧ ((sp_ls r (sp_lv r m) (m + 1)).2.2 j).toInt ≤ 32767
    unfold sp_ls
    split
    · show -32767 ≤ (upd (sp_lv r m).2.2 (m + 1) (sp_km r (sp_lv r m).1 (sp_lv r m).2.1 (m + 1)).toInt32 j).toInt ∧ (upd (sp_lv r m).2.2 (m + 1) (sp_km r (sp_lv r m).1 (sp_lv r m).2.1 (m + 1)).toInt32 j).toInt ≤ 32767
      by_cases e : j = m + 1
      · subst e
        rw [pk_us]
        unfold sp_km
        rw [sp_cl_32]
        exact sp_cl_r _
      · rw [pk_un e]
        exact ih j
    · exact ih j
theorem sp_K_r (s : Nat → Int32) (N P m : Nat) : -32767 ≤ (sp_K s N P m).toInt ∧ (sp_K s N P m).toInt ≤ 32767 := by
  unfold sp_K
  split
  · decide
  · exact sp_lv_r _ P m
/-- the first correlation is no negative number, and the divisor a positive one -/
theorem sp_sq_r {x : Int32} (h1 : -32768 ≤ x.toInt) (h2 : x.toInt ≤ 32767) : 0 ≤ (x.toInt64 * x.toInt64).toInt ∧ (x.toInt64 * x.toInt64).toInt ≤ 1073741824 := by
  have p : 0 ≤ x.toInt * x.toInt := by
    by_cases h : 0 ≤ x.toInt
    · exact Int.mul_nonneg h h
    · have := Int.mul_nonneg (a := -x.toInt) (b := -x.toInt) (by omega) (by omega)
      rw [Int.neg_mul_neg] at this
      exact this
  have q : x.toInt * x.toInt ≤ 1073741824 := by
    by_cases h : 0 ≤ x.toInt
    · have := Int.mul_le_mul (a := x.toInt) (b := x.toInt) (c := 32768) (d := 32768) (by omega) (by omega) h (by omega)
      omega
    · have := Int.mul_le_mul (a := -x.toInt) (b := -x.toInt) (c := 32768) (d := 32768) (by omega) (by omega) (by omega) (by omega)
      rw [Int.neg_mul_neg] at this
      omega
  rw [Int64.toInt_mul, Int32.toInt_toInt64, Int.bmod_eq_of_le (by omega) (by omega)]
  exact ⟨p, q⟩
theorem sp_sm_r {f : Nat → Int64} : ∀ n, n ≤ 32 → (∀ j, j < n → 0 ≤ (f j).toInt ∧ (f j).toInt ≤ 1073741824) → 0 ≤ (sp_sm f n).toInt ∧ (sp_sm f n).toInt ≤ n * 1073741824 := by
  intro n
  induction n with
  | zero => intro _ _; show 0 ≤ (0 : Int64).toInt ∧ (0 : Int64).toInt ≤ ((0 : Nat) : Int) * 1073741824; decide
  | succ n ih =>
    intro hn h
    have i := ih (by omega) (fun j hj => h j (by omega))
    have j := h n (by omega)
    show 0 ≤ (sp_sm f n + f n).toInt ∧ (sp_sm f n + f n).toInt ≤ ((n + 1 : Nat) : Int) * 1073741824
    rw [Int64.toInt_add, Int.bmod_eq_of_le (by omega) (by omega)]
    omega
def sp_bd (s : Nat → Int32) : Prop := ∀ j, -32768 ≤ (s j).toInt ∧ (s j).toInt ≤ 32767
theorem sp_R0_r {s : Nat → Int32} {N : Nat} (hs : sp_bd s) (hN : N ≤ 32) : 0 ≤ (sp_R s N 0).toInt ∧ (sp_R s N 0).toInt ≤ 34359738368 := by
  have h := sp_sm_r (f := fun t => (s (0 + t)).toInt64 * (s t).toInt64) (N - 0) (by omega) (fun j _ => by
    show 0 ≤ ((s (0 + j)).toInt64 * (s j).toInt64).toInt ∧ ((s (0 + j)).toInt64 * (s j).toInt64).toInt ≤ 1073741824
    rw [Nat.zero_add]
    exact sp_sq_r (hs j).1 (hs j).2)
  unfold sp_R
  omega
theorem sp_den_p {R0 : Int64} (h : 0 ≤ R0.toInt) (h2 : R0.toInt ≤ 34359738368) : 0 < (sp_den R0).toInt := by
  have e : (R0 >>> ((7 : Int32).toInt64 &&& 63)).toInt = R0.toInt >>> 7 := by
    show (R0.toBitVec.sshiftRight (((7 : Int32).toInt64 &&& 63).toBitVec.smod 64).toNat).toInt = _
    rw [show (((7 : Int32).toInt64 &&& 63).toBitVec.smod 64).toNat = 7 from by decide, BitVec.toInt_sshiftRight]
    rfl
  have e1 : (1 : Int64).toInt = 1 := by decide
  rw [Int.shiftRight_eq_div_pow] at e
  have e2 : ((2 ^ 7 : Nat) : Int) = 128 := by decide
  rw [e2] at e
  unfold sp_den
  rw [Int64.toInt_add, Int64.toInt_add, e, e1, Int.bmod_eq_of_le (n := R0.toInt + R0.toInt / 128) (by omega) (by omega), Int.bmod_eq_of_le (by omega) (by omega)]
  omega
theorem sp_den_0 {R0 : Int64} (h : 0 ≤ R0.toInt) (h2 : R0.toInt ≤ 34359738368) : ¬ sp_den R0 = 0 ∧ (0 : Int64) < sp_den R0 := by
  have p := sp_den_p h h2
  have e0 : (0 : Int64).toInt = 0 := by decide
  constructor
  · intro e
    rw [e, e0] at p
    omega
  · rw [Int64.lt_iff_toInt_lt, e0]
    exact p
theorem sp_R0_0 {R0 : Int64} (h : 0 ≤ R0.toInt) : (0 : Int64) < R0 ↔ ¬ R0 = 0 := by
  have e0 : (0 : Int64).toInt = 0 := by decide
  rw [Int64.lt_iff_toInt_lt, e0]
  constructor
  · intro p e
    rw [e, e0] at p
    omega
  · intro p
    have : R0.toInt ≠ 0 := fun z => p (Int64.toInt_inj.mp (z.trans e0.symm))
    omega
/-- the two forms of the distance -/
theorem sp_ds_y {k l : Int32} (h1 : -32768 ≤ k.toInt) (h2 : k.toInt ≤ 32767) (h3 : -32768 ≤ l.toInt) (h4 : l.toInt ≤ 32767) :
    (k - l < 0 → sp_ds k l = -(k - l)) ∧ (¬ k - l < 0 → sp_ds k l = k - l) ∧ ¬ sp_ds k l < 0 := by
  have e0 : (0 : Int32).toInt = 0 := by decide
  have d : (k - l).toInt = k.toInt - l.toInt := by
    rw [Int32.toInt_sub]
    exact Int.bmod_eq_of_le (by omega) (by omega)
  have d' : (l - k).toInt = l.toInt - k.toInt := by
    rw [Int32.toInt_sub]
    exact Int.bmod_eq_of_le (by omega) (by omega)
  have n : (-(k - l)).toInt = l.toInt - k.toInt := by
    rw [Int32.toInt_neg, d]
    rw [Int.bmod_eq_of_le (by omega) (by omega)]
    omega
  have c : k - l < 0 ↔ k < l := by
    rw [Int32.lt_iff_toInt_lt, Int32.lt_iff_toInt_lt, d, e0]
    omega
  unfold sp_ds
  refine ⟨fun h => ?_, fun h => ?_, fun h => ?_⟩
  · rw [if_pos (c.mp h)]
    apply Int32.toInt_inj.mp
    rw [d', n]
  · rw [if_neg (fun z => h (c.mpr z))]
  · rw [Int32.lt_iff_toInt_lt, e0] at h
    split at h
    · rename_i z
      rw [Int32.lt_iff_toInt_lt] at z
      omega
    · rename_i z
      rw [Int32.lt_iff_toInt_lt] at z
      omega
end
section
/-! the bit frame: four words against one stream -/
theorem sp_sl : ∀ n, n < 32 → ((nI n &&& 31).toBitVec.smod 32).toNat = n := by decide +kernel
theorem sp_or (a b : Nat) : nI a ||| nI b = nI (a ||| b) := by
  apply Int32.toBitVec_inj.1
  show BitVec.ofNat 32 a ||| BitVec.ofNat 32 b = BitVec.ofNat 32 (a ||| b)
  apply BitVec.eq_of_getLsbD_eq
  intro i hi
  simp [hi]
theorem sp_1sh : ∀ k, k < 16 → (1 : Int32) <<< (nI k &&& 31) = nI (2 ^ k) := by decide +kernel
theorem sp_shr {v k : Nat} (hv : v < 2 ^ 31) (hk : k < 32) : nI v >>> (nI k &&& 31) = nI (v / 2 ^ k) := pk_shrN hv _ k (sp_sl k hk)
theorem sp_bit {v k : Nat} (hv : v < 2 ^ 31) (hk : k < 32) : (nI v >>> (nI k &&& 31)) &&& 1 = nI (v / 2 ^ k % 2) := by
  rw [sp_shr hv hk]
  exact pk_andN (Nat.lt_of_le_of_lt (Nat.div_le_self _ _) (by omega)) 1 (by decide)
def sp_wd (W : Nat → Int32) (S : Nat) : Prop := ∀ i, i < 4 → W i = nI ((S >>> (48 - 16 * i)) % 65536)
theorem sp_p2 {p d : Nat} (h1 : d ≤ p) (h2 : p < d + 16) : (2 ^ p >>> d) % 2 ^ 16 = 2 ^ (p - d) := by
  rw [Nat.shiftRight_eq_div_pow, Nat.pow_div h1 (by decide)]
  exact Nat.mod_eq_of_lt (Nat.pow_lt_pow_right (by decide) (by omega))
theorem sp_p0 {p d : Nat} (h : p < d ∨ d + 16 ≤ p) : (2 ^ p >>> d) % 2 ^ 16 = 0 := by
  rw [Nat.shiftRight_eq_div_pow]
  rcases h with h | h
  · rw [Nat.div_eq_of_lt (Nat.pow_lt_pow_right (by decide) h)]
  · rw [Nat.pow_div (by omega) (by decide), show p - d = 16 + (p - d - 16) from by omega, Nat.pow_add]
    exact Nat.mul_mod_right _ _
theorem sp_wd_s {W : Nat → Int32} {S c : Nat} (hc : c < 64) (h : sp_wd W S) : sp_wd (upd W (c / 16) (W (c / 16) ||| nI (2 ^ (15 - c % 16)))) (S ||| 2 ^ (63 - c)) := by
  intro i hi
  have e : ∀ d, ((S ||| 2 ^ (63 - c)) >>> d) % 65536 = (S >>> d) % 65536 ||| (2 ^ (63 - c) >>> d) % 2 ^ 16 := by
    intro d
    rw [Nat.shiftRight_or_distrib]
    exact Nat.or_mod_two_pow (n := 16)
  rw [e]
  by_cases q : i = c / 16
  · subst q
    rw [pk_us, h _ hi, sp_or, sp_p2 (by omega) (by omega), show 63 - c - (48 - 16 * (c / 16)) = 15 - c % 16 from by omega]
  · rw [pk_un q, h _ hi, sp_p0 (by omega), Nat.or_zero]
theorem sp_wbit (S v k z : Nat) : (S ||| (v >>> (k + 1)) <<< (k + 1 + z)) ||| (if v / 2 ^ k % 2 = 0 then 0 else 2 ^ (k + z)) = S ||| (v >>> k) <<< (k + z) := by
  have hb : v.testBit k = decide (¬ v / 2 ^ k % 2 = 0) := by
    have t := Nat.toNat_testBit v k
    cases q : v.testBit k with
    | false => rw [q] at t; simp at t; simp [← t]
    | true => rw [q] at t; simp at t; simp [← t]
  rw [Nat.or_assoc]
  congr 1
  apply Nat.eq_of_testBit_eq
  intro i
  rw [Nat.testBit_or, Nat.testBit_shiftLeft, Nat.testBit_shiftLeft, Nat.testBit_shiftRight, Nat.testBit_shiftRight]
  rcases Nat.lt_trichotomy i (k + z) with h | h | h
  · have a : decide (k + 1 + z ≤ i) = false := decide_eq_false (by omega)
    have b : decide (k + z ≤ i) = false := decide_eq_false (by omega)
    have c : (if v / 2 ^ k % 2 = 0 then 0 else 2 ^ (k + z)).testBit i = false := by
      split
      · exact Nat.zero_testBit i
      · exact Nat.testBit_two_pow_of_ne (by omega)
    rw [c]
    simp [a, b]
  · subst h
    have a : decide (k + 1 + z ≤ k + z) = false := decide_eq_false (by omega)
    have hk0 : v.testBit (k + 0) = decide (¬ v / 2 ^ k % 2 = 0) := hb
    rw [Nat.sub_self, hk0]
    split
    · rename_i q
      simp [q]
      omega
    · rename_i q
      rw [Nat.testBit_two_pow_self]
      simp [q]
  · have a : decide (k + 1 + z ≤ i) = true := decide_eq_true (by omega)
    have b : decide (k + z ≤ i) = true := decide_eq_true (by omega)
    have c : (if v / 2 ^ k % 2 = 0 then 0 else 2 ^ (k + z)).testBit i = false := by
      split
      · exact Nat.zero_testBit i
      · exact Nat.testBit_two_pow_of_ne (by omega)
    rw [c, show k + 1 + (i - (k + 1 + z)) = k + (i - (k + z)) from by omega]
    simp [a, b]
/-- the stream with w bits more -/
def sp_pj (n v w : Nat) : Nat := n <<< w ||| v
theorem sp_pj_b {n v w c : Nat} (hn : n < 2 ^ c) (hv : v < 2 ^ w) : sp_pj n v w < 2 ^ (c + w) := by
  refine Nat.or_lt_two_pow ?_ (Nat.lt_of_lt_of_le hv (Nat.pow_le_pow_right (by decide) (by omega)))
  rw [Nat.shiftLeft_eq, Nat.pow_add]
  exact Nat.mul_lt_mul_of_pos_right hn (Nat.two_pow_pos w)
theorem sp_pj_s {n v w c : Nat} (h : c + w ≤ 64) : n <<< (64 - c) ||| v <<< (64 - c - w) = sp_pj n v w <<< (64 - (c + w)) := by
  unfold sp_pj
  rw [Nat.shiftLeft_or_distrib, ← Nat.shiftLeft_add, show w + (64 - (c + w)) = 64 - c from by omega, show 64 - (c + w) = 64 - c - w from by omega]
theorem sp_pj_l {n v w c : Nat} {s : Int64} (hs : s = (nI w).toInt64 &&& 63) (hw : w < 64) (hn : n < 2 ^ c) (hv : v < 2 ^ w) (hc : c + w ≤ 62) (hv3 : v < 2 ^ 31) : lN n <<< s ||| (nI v).toInt64 = lN (sp_pj n v w) := by
  subst hs
  have h1 : n * 2 ^ w < 2 ^ 64 := by
    have a : n * 2 ^ w < 2 ^ c * 2 ^ w := Nat.mul_lt_mul_of_pos_right hn (Nat.two_pow_pos w)
    rw [← Nat.pow_add] at a
    exact Nat.lt_of_lt_of_le a (Nat.pow_le_pow_right (by decide) (by omega))
  rw [wb_shl n hw, nI_l hv3, wb_or h1 (by omega)]
  unfold sp_pj
  rw [Nat.shiftLeft_eq]
/-- reading k bits at c -/
def sp_rd (S c k : Nat) : Nat := (S >>> (64 - c - k)) % 2 ^ k
theorem sp_rd_b (S c k : Nat) : sp_rd S c k < 2 ^ k := Nat.mod_lt _ (Nat.two_pow_pos k)
theorem sp_rd_0 (S c : Nat) : sp_rd S c 0 = 0 := by
  unfold sp_rd
  exact Nat.mod_one _
theorem sp_rd_s {S c k : Nat} (h : c + k < 64) : sp_rd S c (k + 1) = sp_rd S c k * 2 + (S >>> (63 - (c + k))) % 2 := by
  unfold sp_rd
  rw [show 64 - c - (k + 1) = 63 - (c + k) from by omega, show 64 - c - k = 63 - (c + k) + 1 from by omega, Nat.pow_succ', Nat.mod_mul, Nat.shiftRight_add, Nat.shiftRight_eq_div_pow _ 1, Nat.pow_one]
  omega
theorem sp_dwb {y e : Nat} (he : e < 16) : y % 65536 / 2 ^ e % 2 = y / 2 ^ e % 2 := by
  rw [← Nat.toNat_testBit, ← Nat.toNat_testBit]
  congr 1
  rw [show (65536 : Nat) = 2 ^ 16 from by decide, Nat.testBit_mod_two_pow]
  simp [he]
theorem sp_wd_b {W : Nat → Int32} {S c : Nat} (hc : c < 64) (h : sp_wd W S) : (W (c / 16) >>> (nI (15 - c % 16) &&& 31)) &&& 1 = nI ((S >>> (63 - c)) % 2) := by
  rw [h (c / 16) (by omega), sp_bit (Nat.lt_of_lt_of_le (Nat.mod_lt _ (by decide)) (by decide)) (by omega), sp_dwb (by omega), ← Nat.shiftRight_eq_div_pow, ← Nat.shiftRight_add, show 48 - 16 * (c / 16) + (15 - c % 16) = 63 - c from by omega]
/-- the component's stream of four arguments -/
theorem sp_lo16 (w : Int32) : w.toInt64 &&& 65535 = lN (w.toBitVec.toNat % 65536) := by
  apply wb_inj
  apply BitVec.eq_of_toNat_eq
  rw [wb_tn (by omega), Int64.toBitVec_and, BitVec.toNat_and, show (65535 : Int64).toBitVec.toNat = 2 ^ 16 - 1 from by decide, Nat.and_two_pow_sub_one_eq_mod, Int32.toBitVec_toInt64, BitVec.toNat_signExtend]
  split
  · rw [BitVec.toNat_setWidth]
    have := w.toBitVec.isLt
    omega
  · rw [BitVec.toNat_setWidth]
    have := w.toBitVec.isLt
    omega
def sp_S (a b c d : Nat) : Nat := a * 281474976710656 + b * 4294967296 + c * 65536 + d
theorem sp_S_w {a b c d : Nat} (ha : a < 65536) (hb : b < 65536) (hc : c < 65536) (hd : d < 65536) {W : Nat → Int32} (h0 : W 0 = nI a) (h1 : W 1 = nI b) (h2 : W 2 = nI c) (h3 : W 3 = nI d) : sp_wd W (sp_S a b c d) := by
  intro i hi
  unfold sp_S
  rw [Nat.shiftRight_eq_div_pow]
  have hi' : i = 0 ∨ i = 1 ∨ i = 2 ∨ i = 3 := by omega
  rcases hi' with rfl | rfl | rfl | rfl
  · rw [h0]; congr 1; show a = _ / 281474976710656 % 65536; omega
  · rw [h1]; congr 1; show b = _ / 4294967296 % 65536; omega
  · rw [h2]; congr 1; show c = _ / 65536 % 65536; omega
  · rw [h3]; congr 1; show d = _ / 1 % 65536; omega
theorem sp_S_b {a b c d : Nat} (ha : a < 65536) (hb : b < 65536) (hc : c < 65536) (hd : d < 65536) : sp_S a b c d < 2 ^ 64 := by
  unfold sp_S
  omega
theorem sp_S_l {a b c d : Nat} (ha : a < 65536) (hb : b < 65536) (hc : c < 65536) (hd : d < 65536) :
    lN a <<< ((48 : Int32).toInt64 &&& 63) ||| lN b <<< ((32 : Int32).toInt64 &&& 63) ||| lN c <<< ((16 : Int32).toInt64 &&& 63) ||| lN d = lN (sp_S a b c d) := by
  have e1 : lN a <<< ((48 : Int32).toInt64 &&& 63) = lN (a * 281474976710656) := wb_shl a (k := 48) (by decide)
  have e2 : lN b <<< ((32 : Int32).toInt64 &&& 63) = lN (b * 4294967296) := wb_shl b (k := 32) (by decide)
  have e3 : lN c <<< ((16 : Int32).toInt64 &&& 63) = lN (c * 65536) := wb_shl c (k := 16) (by decide)
  rw [e1, e2, e3, g_or (k := 48) (by decide) (by omega) (by omega), show a * 281474976710656 + b * 4294967296 = (a * 65536 + b) * 4294967296 from by omega, g_or (k := 32) (by decide) (by omega) (by omega), show (a * 65536 + b) * 4294967296 + c * 65536 = ((a * 65536 + b) * 65536 + c) * 65536 from by omega, g_or (k := 16) (by decide) (by omega) (by omega)]
  unfold sp_S
  exact congrArg lN (by omega)
theorem sp_and32 (x : Nat) {m : Int32} (k : Nat) (hk : k ≤ 32) (hm : m.toBitVec.toNat = 2 ^ k - 1) : nI x &&& m = nI (x % 2 ^ k) := by
  rw [pk_and _ k hm]
  congr 1
  show (BitVec.ofNat 32 x).toNat % 2 ^ k = x % 2 ^ k
  rw [BitVec.toNat_ofNat]
  exact Nat.mod_mod_of_dvd x (Nat.pow_dvd_pow 2 hk)
theorem sp_bits {S c k : Nat} {t : Int32} {m : Int32} (hS : S < 2 ^ 64) (h : c + k ≤ 64) (h1 : 1 ≤ c + k) (ht : t = nI (64 - c - k)) (hk : k ≤ 32) (hm : m.toBitVec.toNat = 2 ^ k - 1) :
    (((lN S).toUInt64 >>> (t.toInt64.toUInt64 &&& Int64.toUInt64 63)).toInt64).toInt32 &&& m = nI (sp_rd S c k) := by
  subst ht
  rw [wb_shr hS (by omega), lN_i, sp_and32 _ k hk hm]
  unfold sp_rd
  rw [Nat.shiftRight_eq_div_pow]
theorem sp_word {S i : Nat} {t : Int32} (hS : S < 2 ^ 64) (hi : i < 4) (ht : t = nI (48 - 16 * i)) :
    (((lN S).toUInt64 >>> (t.toInt64.toUInt64 &&& Int64.toUInt64 63)).toInt64 &&& 65535).toInt32 = nI ((S >>> (48 - 16 * i)) % 65536) := by
  subst ht
  rw [wb_shr hS (by omega), show (65535 : Int64) = lN (2 ^ 16 - 1) from by decide, wb_mask (Nat.lt_of_le_of_lt (Nat.div_le_self _ _) hS) (by decide), lN_i, Nat.shiftRight_eq_div_pow]
end
section
/-! the component: clamps, correlation, the recursion -/
theorem sx_clamp {post : Int32 → Prop} {w : Int64} {lo hi : Int32} {L H : Int64} (eL : lo.toInt64 = L) (eH : hi.toInt64 = H) (h : post (if w < L then lo else if H < w then hi else w.toInt32)) : wpX_clamp post w lo hi := by
  unfold wpX_clamp
  rw [eL, eH]
  refine br_c (fun a => ?_) (fun a => ?_)
  · rw [if_neg (Int64.not_lt.mpr a)] at h
    refine br_c (fun b => ?_) (fun b => ?_)
    · rw [if_neg (Int64.not_lt.mpr b)] at h
      exact h
    · rw [if_pos (Int64.not_le.mp b)] at h
      exact h
  · rw [if_pos (Int64.not_le.mp a)] at h
    exact h
theorem sx_sat {post : Int32 → Prop} {w : Int64} (h : post (sp_satL w)) : wpX_saturate post w := by
  unfold wpX_saturate
  exact sx_clamp (L := -32768) (H := 32767) (by decide) (by decide) h
theorem sx_satI {post : Int32 → Prop} {w : Int32} (h : post (sp_sat w)) : wpX_saturate post w.toInt64 := sx_sat (by rw [sp_satI]; exact h)
theorem sx_clk {post : Int32 → Prop} {w : Int64} (h : post (sp_cl w).toInt32) : wpX_clamp post w (-32767) 32767 := by
  refine sx_clamp (L := -32767) (H := 32767) (by decide) (by decide) ?_
  have e : (sp_cl w).toInt32 = (if w < -32767 then (-32767 : Int32) else if 32767 < w then 32767 else w.toInt32) := by
    unfold sp_cl
    split
    · rfl
    · split
      · rfl
      · rfl
  rw [← e]
  exact h
theorem sx_mc15 {P N T : Nat} {x_pending : Int32} {x_encodedStream : Int64} {x_reflectionLevels x_pulseLevels x_memory x_history x_output x_fields x_frameCounts x_reflections x_samples x_rawReflections x_target x_impulseResponse x_pastExcitation x_filteredPast x_chosenPulses x_trialPulses x_pulseSigns x_excitation x_receivedFields : Nat → Int32} {x_correlation x_predictor x_oldPredictor : Nat → Int64} {post : SX → Prop} {J : _} {i : Nat} (hN : N ≤ 32) (hi : i ≤ 6)
    (hJ : J (nI (i + 1)) x_reflectionLevels x_pulseLevels x_memory x_history x_output x_fields x_frameCounts x_reflections x_samples x_rawReflections (vp_updL x_correlation i (sp_R x_samples N i)) x_predictor x_oldPredictor x_target x_impulseResponse x_pastExcitation x_filteredPast x_chosenPulses x_trialPulses x_pulseSigns x_excitation x_receivedFields) :
    ∀ d t, i + t + d = N → wX_measureCorrelation_15 post J (nI i) (nI P) (nI N) (nI T) x_pending x_encodedStream x_reflectionLevels x_pulseLevels x_memory x_history x_output x_fields x_frameCounts x_reflections x_samples x_rawReflections x_correlation x_predictor x_oldPredictor x_target x_impulseResponse x_pastExcitation x_filteredPast x_chosenPulses x_trialPulses x_pulseSigns x_excitation x_receivedFields (d + 1) (sp_sm (fun t => (x_samples (i + t)).toInt64 * (x_samples t).toInt64) t) (nI (i + t)) := by
  intro d
  induction d with
  | zero =>
    intro t ht
    obtain rfl : t = N - i := by omega
    refine br_t (nI_le (by omega) (by omega)) ⟨vp_in_nI (by omega) (by omega), ?_⟩
    exact nm_r (by rw [nI_clamp (by omega)]; rfl) (nm_r (nI_1 i) hJ)
  | succ d ih =>
    intro t ht
    refine br_f (nI_ge (by omega) (by omega)) ⟨vp_in_nI (by omega) (by omega), pk_in t 32 (by omega) ?_, nm_r ?_ (nm_r (nI_1 (i + t)) (ih (t + 1) (by omega)))⟩
    · rw [pk_sub (by omega), Nat.add_sub_cancel_left]
    · rw [pk_sub (by omega), Nat.add_sub_cancel_left, nI_clamp (by omega), nI_clamp (by omega)]
      rfl
theorem sx_mc2 {P N T : Nat} {x_pending : Int32} {x_encodedStream : Int64} {x_reflectionLevels x_pulseLevels x_memory x_history x_output x_fields x_frameCounts x_reflections x_samples x_rawReflections x_target x_impulseResponse x_pastExcitation x_filteredPast x_chosenPulses x_trialPulses x_pulseSigns x_excitation x_receivedFields : Nat → Int32} {x_correlation x_predictor x_oldPredictor : Nat → Int64} {post : SX → Prop} (hN8 : 8 ≤ N) (hN : N ≤ 32) (hP : P ≤ 6)
    (h : ∀ co, (∀ i, i ≤ P → co i = sp_R x_samples N i) → post ((nI P), (nI N), (nI T), x_pending, x_encodedStream, x_reflectionLevels, x_pulseLevels, x_memory, x_history, x_output, x_fields, x_frameCounts, x_reflections, x_samples, x_rawReflections, co, x_predictor, x_oldPredictor, x_target, x_impulseResponse, x_pastExcitation, x_filteredPast, x_chosenPulses, x_trialPulses, x_pulseSigns, x_excitation, x_receivedFields)) :
    ∀ d i, i + d = P + 1 → wX_measureCorrelation_2 post (nI P) (nI N) (nI T) x_pending x_encodedStream (d + 1) (nI i) x_reflectionLevels x_pulseLevels x_memory x_history x_output x_fields x_frameCounts x_reflections x_samples x_rawReflections (sp_fl (sp_R x_samples N) i x_correlation) x_predictor x_oldPredictor x_target x_impulseResponse x_pastExcitation x_filteredPast x_chosenPulses x_trialPulses x_pulseSigns x_excitation x_receivedFields := by
  intro d
  induction d with
  | zero =>
    intro i hi
    exact br_t (nI_lt (by omega) (by omega)) (h _ (fun j hj => sp_fl_lo (by omega)))
  | succ d ih =>
    intro i hi
    refine br_f (nI_nlt (by omega) (by omega)) ⟨N - i + 1, sx_mc15 hN (by omega) ?_ (N - i) 0 (by omega)⟩
    rw [sp_flSL]
    exact ih (i + 1) (by omega)
theorem sx_mc {P N T : Nat} {x_pending : Int32} {x_encodedStream : Int64} {x_reflectionLevels x_pulseLevels x_memory x_history x_output x_fields x_frameCounts x_reflections x_samples x_rawReflections x_target x_impulseResponse x_pastExcitation x_filteredPast x_chosenPulses x_trialPulses x_pulseSigns x_excitation x_receivedFields : Nat → Int32} {x_correlation x_predictor x_oldPredictor : Nat → Int64} {post : SX → Prop} (hN8 : 8 ≤ N) (hN : N ≤ 32) (hP : P ≤ 6)
    (h : ∀ co, (∀ i, i ≤ P → co i = sp_R x_samples N i) → post ((nI P), (nI N), (nI T), x_pending, x_encodedStream, x_reflectionLevels, x_pulseLevels, x_memory, x_history, x_output, x_fields, x_frameCounts, x_reflections, x_samples, x_rawReflections, co, x_predictor, x_oldPredictor, x_target, x_impulseResponse, x_pastExcitation, x_filteredPast, x_chosenPulses, x_trialPulses, x_pulseSigns, x_excitation, x_receivedFields)) : wpX_measureCorrelation post ((nI P), (nI N), (nI T), x_pending, x_encodedStream, x_reflectionLevels, x_pulseLevels, x_memory, x_history, x_output, x_fields, x_frameCounts, x_reflections, x_samples, x_rawReflections, x_correlation, x_predictor, x_oldPredictor, x_target, x_impulseResponse, x_pastExcitation, x_filteredPast, x_chosenPulses, x_trialPulses, x_pulseSigns, x_excitation, x_receivedFields) := by
  have t := sx_mc2 (x_correlation := x_correlation) hN8 hN hP h (P + 1) 0 (by omega)
  rw [sp_fl0] at t
  exact Exists.intro _ t
theorem sx_sc27 {P N T : Nat} {x_pending : Int32} {x_encodedStream : Int64} {x_reflectionLevels x_pulseLevels x_memory x_history x_output x_fields x_frameCounts x_reflections x_samples x_rawReflections x_target x_impulseResponse x_pastExcitation x_filteredPast x_chosenPulses x_trialPulses x_pulseSigns x_excitation x_receivedFields : Nat → Int32} {x_correlation x_predictor x_oldPredictor : Nat → Int64} {post : SX → Prop} {den : Int64} (hd : ¬ den = 0) (hP : P ≤ 6)
    (h : post ((nI P), (nI N), (nI T), x_pending, x_encodedStream, x_reflectionLevels, x_pulseLevels, x_memory, x_history, x_output, x_fields, x_frameCounts, x_reflections, x_samples, x_rawReflections, (sp_fl (fun j => x_correlation j * 32767 / den) (P + 1) x_correlation), x_predictor, x_oldPredictor, x_target, x_impulseResponse, x_pastExcitation, x_filteredPast, x_chosenPulses, x_trialPulses, x_pulseSigns, x_excitation, x_receivedFields)) :
    ∀ d i, i + d = P + 1 → wX_scaleCorrelation_27 post den (nI P) (nI N) (nI T) x_pending x_encodedStream (d + 1) (nI i) x_reflectionLevels x_pulseLevels x_memory x_history x_output x_fields x_frameCounts x_reflections x_samples x_rawReflections (sp_fl (fun j => x_correlation j * 32767 / den) i x_correlation) x_predictor x_oldPredictor x_target x_impulseResponse x_pastExcitation x_filteredPast x_chosenPulses x_trialPulses x_pulseSigns x_excitation x_receivedFields := by
  intro d
  induction d with
  | zero =>
    intro i hi
    obtain rfl : i = P + 1 := by omega
    exact br_t (nI_lt (by omega) (by omega)) h
  | succ d ih =>
    intro i hi
    refine br_f (nI_nlt (by omega) (by omega)) ⟨vp_in_nI (by omega) (by omega), hd, vp_in_nI (by omega) (by omega), nm_r ?_ (nm_r (nI_1 i) (ih (i + 1) (by omega)))⟩
    rw [nI_clamp (by omega), sp_fl_hi (Nat.le_refl i)]
    exact sp_flSL (g := fun j => x_correlation j * 32767 / den)
theorem sx_sc {P N T : Nat} {x_pending : Int32} {x_encodedStream : Int64} {x_reflectionLevels x_pulseLevels x_memory x_history x_output x_fields x_frameCounts x_reflections x_samples x_rawReflections x_target x_impulseResponse x_pastExcitation x_filteredPast x_chosenPulses x_trialPulses x_pulseSigns x_excitation x_receivedFields : Nat → Int32} {x_correlation x_predictor x_oldPredictor : Nat → Int64} {post : SX → Prop} {s : Nat → Int32} (hs : sp_bd s) (hN : N ≤ 32) (hP : P ≤ 6) (hc : ∀ i, i ≤ P → x_correlation i = sp_R s N i)
    (h : ∀ co, (∀ i, i ≤ P → co i = sp_r s N i) → post ((nI P), (nI N), (nI T), x_pending, x_encodedStream, x_reflectionLevels, x_pulseLevels, x_memory, x_history, x_output, x_fields, x_frameCounts, x_reflections, x_samples, x_rawReflections, co, x_predictor, x_oldPredictor, x_target, x_impulseResponse, x_pastExcitation, x_filteredPast, x_chosenPulses, x_trialPulses, x_pulseSigns, x_excitation, x_receivedFields)) : wpX_scaleCorrelation post ((nI P), (nI N), (nI T), x_pending, x_encodedStream, x_reflectionLevels, x_pulseLevels, x_memory, x_history, x_output, x_fields, x_frameCounts, x_reflections, x_samples, x_rawReflections, x_correlation, x_predictor, x_oldPredictor, x_target, x_impulseResponse, x_pastExcitation, x_filteredPast, x_chosenPulses, x_trialPulses, x_pulseSigns, x_excitation, x_receivedFields) := by
  have b := sp_R0_r hs hN
  have b2 := sp_den_0 b.1 b.2
  refine nm_r (e' := sp_den (sp_R s N 0)) ?_ (br_f ?_ (Exists.intro (P + 1 + 1) ?_))
  · show sp_den (x_correlation 0) = _
    rw [hc 0 (by omega)]
  · exact Int64.not_le.mpr b2.2
  · have t := sx_sc27 (x_correlation := x_correlation) b2.1 hP (h _ (fun i hi => by
      rw [sp_fl_lo (by omega)]
      show x_correlation i * 32767 / _ = _
      rw [hc i hi]
      rfl)) (P + 1) 0 (by omega)
    rw [sp_fl0] at t
    exact t
theorem sx_pm14 {P N T : Nat} {x_pending : Int32} {x_encodedStream : Int64} {x_reflectionLevels x_pulseLevels x_memory x_history x_output x_fields x_frameCounts x_reflections x_samples x_rawReflections x_target x_impulseResponse x_pastExcitation x_filteredPast x_chosenPulses x_trialPulses x_pulseSigns x_excitation x_receivedFields : Nat → Int32} {x_correlation x_predictor x_oldPredictor : Nat → Int64} {post : Int64 → Prop} {m : Nat} (hm : m ≤ 6) (h : post (sp_ac x_correlation x_predictor m (m - 1))) :
    ∀ d j, j + 1 + d = m → wX_predictionMismatch_14 post (nI m) (nI P) (nI N) (nI T) x_pending x_encodedStream x_reflectionLevels x_pulseLevels x_memory x_history x_output x_fields x_frameCounts x_reflections x_samples x_rawReflections x_correlation x_predictor x_oldPredictor x_target x_impulseResponse x_pastExcitation x_filteredPast x_chosenPulses x_trialPulses x_pulseSigns x_excitation x_receivedFields (d + 1) (sp_ac x_correlation x_predictor m j) (nI (j + 1)) := by
  intro d
  induction d with
  | zero =>
    intro j hj
    obtain rfl : j = m - 1 := by omega
    exact br_t (nI_le (by omega) (by omega)) h
  | succ d ih =>
    intro j hj
    refine br_f (nI_ge (by omega) (by omega)) ⟨vp_in_nI (by omega) (by omega), pk_in (m - (j + 1)) 7 (by omega) (pk_sub (by omega)), nm_r ?_ (nm_r (nI_1 (j + 1)) (ih (j + 1) (by omega)))⟩
    rw [pk_sub (by omega), nI_clamp (by omega), nI_clamp (by omega)]
    rfl
theorem sx_pm {P N T : Nat} {x_pending : Int32} {x_encodedStream : Int64} {x_reflectionLevels x_pulseLevels x_memory x_history x_output x_fields x_frameCounts x_reflections x_samples x_rawReflections x_target x_impulseResponse x_pastExcitation x_filteredPast x_chosenPulses x_trialPulses x_pulseSigns x_excitation x_receivedFields : Nat → Int32} {x_correlation x_predictor x_oldPredictor : Nat → Int64} {post : Int64 → Prop} {m : Nat} (h1 : 1 ≤ m) (hm : m ≤ 6) (h : post (sp_ac x_correlation x_predictor m (m - 1))) : wpX_predictionMismatch post ((nI P), (nI N), (nI T), x_pending, x_encodedStream, x_reflectionLevels, x_pulseLevels, x_memory, x_history, x_output, x_fields, x_frameCounts, x_reflections, x_samples, x_rawReflections, x_correlation, x_predictor, x_oldPredictor, x_target, x_impulseResponse, x_pastExcitation, x_filteredPast, x_chosenPulses, x_trialPulses, x_pulseSigns, x_excitation, x_receivedFields) (nI m) :=
  And.intro (vp_in_nI (by omega) (by omega)) (nm_r (e' := sp_ac x_correlation x_predictor m 0) (by rw [nI_clamp (by omega)]; rfl) (Exists.intro (m - 1 + 1) (sx_pm14 hm h (m - 1) 0 (by omega))))
theorem sx_ep27 {P N T : Nat} {x_pending : Int32} {x_encodedStream : Int64} {x_reflectionLevels x_pulseLevels x_memory x_history x_output x_fields x_frameCounts x_reflections x_samples x_rawReflections x_target x_impulseResponse x_pastExcitation x_filteredPast x_chosenPulses x_trialPulses x_pulseSigns x_excitation x_receivedFields : Nat → Int32} {x_correlation x_oldPredictor : Nat → Int64} {post : SX → Prop} {A : Nat → Int64} {k : Int32} {kk : Int64} {m : Nat} (ek : k.toInt64 = kk) (h1 : 1 ≤ m) (hm : m ≤ P) (hP : P ≤ 6)
    (ho : ∀ j, 1 ≤ j → j < m → x_oldPredictor j = A j)
    (h : ∀ pr, (∀ j, 1 ≤ j → j ≤ P → pr j = sp_an A m kk j) → post ((nI P), (nI N), (nI T), x_pending, x_encodedStream, x_reflectionLevels, x_pulseLevels, x_memory, x_history, x_output, x_fields, x_frameCounts, x_reflections, x_samples, x_rawReflections, x_correlation, pr, x_oldPredictor, x_target, x_impulseResponse, x_pastExcitation, x_filteredPast, x_chosenPulses, x_trialPulses, x_pulseSigns, x_excitation, x_receivedFields)) :
    ∀ d i pr, i + d = m → 1 ≤ i → (∀ j, 1 ≤ j → j ≤ P → pr j = if j < i then sp_st kk (A j) (A (m - j)) else A j) → wX_extendPredictor_27 post (nI m) k (nI P) (nI N) (nI T) x_pending x_encodedStream (d + 1) (nI i) x_reflectionLevels x_pulseLevels x_memory x_history x_output x_fields x_frameCounts x_reflections x_samples x_rawReflections x_correlation pr x_oldPredictor x_target x_impulseResponse x_pastExcitation x_filteredPast x_chosenPulses x_trialPulses x_pulseSigns x_excitation x_receivedFields := by
  intro d
  induction d with
  | zero =>
    intro i pr hi h1i hp
    obtain rfl : i = m := by omega
    refine br_t (nI_le (by omega) (by omega)) ⟨vp_in_nI (by omega) (by omega), nm_e (h _ ?_)⟩
    intro j hj1 hj2
    rw [nI_clamp (by omega), ek]
    by_cases e : j = i
    · subst e
      rw [pk_uLs]
      exact (if_pos rfl).symm
    · rw [pk_uLn e, hp j hj1 hj2]
      unfold sp_an
      rw [if_neg e]
      by_cases e2 : j < i
      · rw [if_pos e2, if_pos ⟨hj1, e2⟩]
      · rw [if_neg e2, if_neg (fun z => e2 z.2)]
  | succ d ih =>
    intro i pr hi h1i hp
    refine br_f (nI_ge (by omega) (by omega)) ⟨vp_in_nI (by omega) (by omega), pk_in (m - i) 7 (by omega) (pk_sub (by omega)), vp_in_nI (by omega) (by omega), nm_e (nm_r (nI_1 i) (ih (i + 1) _ (by omega) (by omega) ?_))⟩
    intro j hj1 hj2
    rw [pk_sub (by omega), nI_clamp (by omega), nI_clamp (by omega), ek, ho i h1i (by omega), ho (m - i) (by omega) (by omega)]
    by_cases e : j = i
    · subst e
      rw [pk_uLs, if_pos (by omega)]
      rfl
    · rw [pk_uLn e, hp j hj1 hj2]
      by_cases e2 : j < i
      · rw [if_pos e2, if_pos (by omega)]
      · rw [if_neg e2, if_neg (by omega)]
theorem sx_ep2 {P N T : Nat} {x_pending : Int32} {x_encodedStream : Int64} {x_reflectionLevels x_pulseLevels x_memory x_history x_output x_fields x_frameCounts x_reflections x_samples x_rawReflections x_target x_impulseResponse x_pastExcitation x_filteredPast x_chosenPulses x_trialPulses x_pulseSigns x_excitation x_receivedFields : Nat → Int32} {x_correlation x_predictor : Nat → Int64} {post : SX → Prop} {A : Nat → Int64} {k : Int32} {kk : Int64} {m : Nat} (ek : k.toInt64 = kk) (h1 : 1 ≤ m) (hm : m ≤ P) (hP : P ≤ 6)
    (ha : ∀ j, 1 ≤ j → j ≤ P → x_predictor j = A j)
    (h : ∀ pr op, (∀ j, 1 ≤ j → j ≤ P → pr j = sp_an A m kk j) → post ((nI P), (nI N), (nI T), x_pending, x_encodedStream, x_reflectionLevels, x_pulseLevels, x_memory, x_history, x_output, x_fields, x_frameCounts, x_reflections, x_samples, x_rawReflections, x_correlation, pr, op, x_target, x_impulseResponse, x_pastExcitation, x_filteredPast, x_chosenPulses, x_trialPulses, x_pulseSigns, x_excitation, x_receivedFields)) :
    ∀ d i op, i + d = m → 1 ≤ i → (∀ j, 1 ≤ j → j < i → op j = A j) → wX_extendPredictor_2 post (nI m) k (nI P) (nI N) (nI T) x_pending x_encodedStream (d + 1) (nI i) x_reflectionLevels x_pulseLevels x_memory x_history x_output x_fields x_frameCounts x_reflections x_samples x_rawReflections x_correlation x_predictor op x_target x_impulseResponse x_pastExcitation x_filteredPast x_chosenPulses x_trialPulses x_pulseSigns x_excitation x_receivedFields := by
  intro d
  induction d with
  | zero =>
    intro i op hi h1i hp
    obtain rfl : i = m := by omega
    exact br_t (nI_le (by omega) (by omega)) ⟨i - 1 + 1, sx_ep27 (x_oldPredictor := op) ek h1 hm hP hp (fun pr hpr => h pr op hpr) (i - 1) 1 x_predictor (by omega) (by omega) (fun j hj1 hj2 => by rw [if_neg (by omega)]; exact ha j hj1 hj2)⟩
  | succ d ih =>
    intro i op hi h1i hp
    refine br_f (nI_ge (by omega) (by omega)) ⟨vp_in_nI (by omega) (by omega), vp_in_nI (by omega) (by omega), nm_e (nm_r (nI_1 i) (ih (i + 1) _ (by omega) (by omega) ?_))⟩
    intro j hj1 hj2
    rw [nI_clamp (by omega)]
    by_cases e : j = i
    · subst e
      rw [pk_uLs]
      exact ha j hj1 (by omega)
    · rw [pk_uLn e]
      exact hp j hj1 (by omega)
theorem sx_ep {P N T : Nat} {x_pending : Int32} {x_encodedStream : Int64} {x_reflectionLevels x_pulseLevels x_memory x_history x_output x_fields x_frameCounts x_reflections x_samples x_rawReflections x_target x_impulseResponse x_pastExcitation x_filteredPast x_chosenPulses x_trialPulses x_pulseSigns x_excitation x_receivedFields : Nat → Int32} {x_correlation x_predictor x_oldPredictor : Nat → Int64} {post : SX → Prop} {A : Nat → Int64} {k : Int32} {kk : Int64} {m : Nat} (ek : k.toInt64 = kk) (h1 : 1 ≤ m) (hm : m ≤ P) (hP : P ≤ 6)
    (ha : ∀ j, 1 ≤ j → j ≤ P → x_predictor j = A j)
    (h : ∀ pr op, (∀ j, 1 ≤ j → j ≤ P → pr j = sp_an A m kk j) → post ((nI P), (nI N), (nI T), x_pending, x_encodedStream, x_reflectionLevels, x_pulseLevels, x_memory, x_history, x_output, x_fields, x_frameCounts, x_reflections, x_samples, x_rawReflections, x_correlation, pr, op, x_target, x_impulseResponse, x_pastExcitation, x_filteredPast, x_chosenPulses, x_trialPulses, x_pulseSigns, x_excitation, x_receivedFields)) : wpX_extendPredictor post ((nI P), (nI N), (nI T), x_pending, x_encodedStream, x_reflectionLevels, x_pulseLevels, x_memory, x_history, x_output, x_fields, x_frameCounts, x_reflections, x_samples, x_rawReflections, x_correlation, x_predictor, x_oldPredictor, x_target, x_impulseResponse, x_pastExcitation, x_filteredPast, x_chosenPulses, x_trialPulses, x_pulseSigns, x_excitation, x_receivedFields) (nI m) k :=
  Exists.intro (m - 1 + 1) (sx_ep2 ek h1 hm hP ha h (m - 1) 1 x_oldPredictor (by omega) (by omega) (fun j hj1 hj2 => absurd hj2 (by omega)))
theorem sx_rr32 {P N T : Nat} {x_pending : Int32} {x_encodedStream : Int64} {x_reflectionLevels x_pulseLevels x_memory x_history x_output x_fields x_frameCounts x_reflections x_samples x_target x_impulseResponse x_pastExcitation x_filteredPast x_chosenPulses x_trialPulses x_pulseSigns x_excitation x_receivedFields : Nat → Int32} {x_correlation : Nat → Int64} {post : SX → Prop} {r : Nat → Int64} (hP : P ≤ 6) (hc : ∀ i, i ≤ P → x_correlation i = r i)
    (h : ∀ raw pr op, (∀ j, j < P → raw j = (sp_lv r P).2.2 (j + 1)) → post ((nI P), (nI N), (nI T), x_pending, x_encodedStream, x_reflectionLevels, x_pulseLevels, x_memory, x_history, x_output, x_fields, x_frameCounts, x_reflections, x_samples, raw, x_correlation, pr, op, x_target, x_impulseResponse, x_pastExcitation, x_filteredPast, x_chosenPulses, x_trialPulses, x_pulseSigns, x_excitation, x_receivedFields)) :
    ∀ d m raw pr op, m + d = P → (∀ j, j < P → raw j = (sp_lv r m).2.2 (j + 1)) → (∀ j, 1 ≤ j → j ≤ P → pr j = (sp_lv r m).1 j) →
      wX_runRecursion_32 post (d + 1) (sp_lv r m).2.1 (nI (m + 1)) (nI P) (nI N) (nI T) x_pending x_encodedStream x_reflectionLevels x_pulseLevels x_memory x_history x_output x_fields x_frameCounts x_reflections x_samples raw x_correlation pr op x_target x_impulseResponse x_pastExcitation x_filteredPast x_chosenPulses x_trialPulses x_pulseSigns x_excitation x_receivedFields := by
  intro d
  induction d with
  | zero =>
    intro m raw pr op hm hr hp
    obtain rfl : m = P := by omega
    exact br_t (nI_lt (by omega) (by omega)) (h raw pr op hr)
  | succ d ih =>
    intro m raw pr op hm hr hp
    refine br_f (nI_nlt (by omega) (by omega)) ?_
    by_cases hE : 0 < (sp_lv r m).2.1
    · have e : sp_lv r (m + 1) = (sp_an (sp_lv r m).1 (m + 1) (sp_km r (sp_lv r m).1 (sp_lv r m).2.1 (m + 1)), sp_en (sp_lv r m).2.1 (sp_km r (sp_lv r m).1 (sp_lv r m).2.1 (m + 1)), upd (sp_lv r m).2.2 (m + 1) (sp_km r (sp_lv r m).1 (sp_lv r m).2.1 (m + 1)).toInt32) := if_pos hE
      have ea : sp_ac x_correlation pr (m + 1) m = sp_ac r (sp_lv r m).1 (m + 1) m := sp_ac_c (P := P) (by omega) (by omega) hc hp m (by omega)
      have ne : ¬ (sp_lv r m).2.1 = 0 := fun z => by rw [z] at hE; exact absurd hE (by decide)
      have ek : (sp_cl (-(sp_ac x_correlation pr (m + 1) m / (sp_lv r m).2.1))) = sp_km r (sp_lv r m).1 (sp_lv r m).2.1 (m + 1) := by rw [ea]; rfl
      refine br_f (Int64.not_le.mpr hE) (sx_pm (m := m + 1) (by omega) (by omega) ⟨ne, sx_clk ⟨pk_in m 6 (by omega) (nI_pred m), nm_e (sx_ep (A := (sp_lv r m).1) (sp_cl_64 _) (by omega) (by omega) hP hp (fun pr' op' hp' => ?_))⟩⟩)
      have i := ih (m + 1) (upd raw m (sp_km r (sp_lv r m).1 (sp_lv r m).2.1 (m + 1)).toInt32) pr' op' (by omega) (fun j hj => by
        rw [e]
        show upd raw m _ j = upd (sp_lv r m).2.2 (m + 1) _ (j + 1)
        by_cases q : j = m
        · subst q
          rw [pk_us, pk_us]
        · rw [pk_un q, pk_un (by omega)]
          exact hr j hj) (fun j h1 h2 => by
        rw [e]
        show pr' j = sp_an _ _ _ j
        rw [hp' j h1 h2]
        show sp_an _ _ (sp_cl (-(sp_ac x_correlation pr (m + 1) m / (sp_lv r m).2.1))) j = _
        rw [ek])
      rw [e] at i
      refine nm_r (e' := sp_en (sp_lv r m).2.1 (sp_km r (sp_lv r m).1 (sp_lv r m).2.1 (m + 1))) ?_ (nm_r (nI_1 (m + 1)) ?_)
      · show _ = sp_en (sp_lv r m).2.1 (sp_km r (sp_lv r m).1 (sp_lv r m).2.1 (m + 1))
        rw [← ek, sp_cl_64]
        rfl
      · rw [nI_pred, nI_clamp (by omega), show m + 1 - 1 = m from rfl, ek]
        exact i
    · have e : sp_lv r (m + 1) = sp_lv r m := if_neg hE
      have i := ih (m + 1) raw pr op (by omega) (by rw [e]; exact hr) (by rw [e]; exact hp)
      rw [e] at i
      exact br_t (Int64.not_lt.mp hE) (nm_r (nI_1 (m + 1)) i)
theorem sx_rr2 {P N T : Nat} {x_pending : Int32} {x_encodedStream : Int64} {x_reflectionLevels x_pulseLevels x_memory x_history x_output x_fields x_frameCounts x_reflections x_samples x_rawReflections x_target x_impulseResponse x_pastExcitation x_filteredPast x_chosenPulses x_trialPulses x_pulseSigns x_excitation x_receivedFields : Nat → Int32} {x_correlation x_oldPredictor : Nat → Int64} {post : SX → Prop} {r : Nat → Int64} (hP : P ≤ 6) (hc : ∀ i, i ≤ P → x_correlation i = r i) (hr0 : ∀ j, j < P → x_rawReflections j = 0)
    (h : ∀ raw pr op, (∀ j, j < P → raw j = (sp_lv r P).2.2 (j + 1)) → post ((nI P), (nI N), (nI T), x_pending, x_encodedStream, x_reflectionLevels, x_pulseLevels, x_memory, x_history, x_output, x_fields, x_frameCounts, x_reflections, x_samples, raw, x_correlation, pr, op, x_target, x_impulseResponse, x_pastExcitation, x_filteredPast, x_chosenPulses, x_trialPulses, x_pulseSigns, x_excitation, x_receivedFields)) :
    ∀ d i pr, i + d = P + 1 → 1 ≤ i → (∀ j, 1 ≤ j → j < i → pr j = 0) → wX_runRecursion_2 post (nI P) (nI N) (nI T) x_pending x_encodedStream (d + 1) (nI i) x_reflectionLevels x_pulseLevels x_memory x_history x_output x_fields x_frameCounts x_reflections x_samples x_rawReflections x_correlation pr x_oldPredictor x_target x_impulseResponse x_pastExcitation x_filteredPast x_chosenPulses x_trialPulses x_pulseSigns x_excitation x_receivedFields := by
  intro d
  induction d with
  | zero =>
    intro i pr hi h1 hp
    refine br_t (nI_lt (by omega) (by omega)) (nm_r (e' := (sp_lv r 0).2.1) (hc 0 (by omega)) ⟨P + 1, ?_⟩)
    exact sx_rr32 hP hc h P 0 x_rawReflections pr x_oldPredictor (by omega) (fun j hj => hr0 j hj) (fun j h1 h2 => hp j h1 (by omega))
  | succ d ih =>
    intro i pr hi h1 hp
    refine br_f (nI_nlt (by omega) (by omega)) ⟨vp_in_nI (by omega) (by omega), nm_e (nm_r (nI_1 i) (ih (i + 1) _ (by omega) (by omega) ?_))⟩
    intro j hj1 hj2
    rw [nI_clamp (by omega)]
    by_cases e : j = i
    · subst e
      rw [pk_uLs]
    · rw [pk_uLn e]
      exact hp j hj1 (by omega)
theorem sx_rr {P N T : Nat} {x_pending : Int32} {x_encodedStream : Int64} {x_reflectionLevels x_pulseLevels x_memory x_history x_output x_fields x_frameCounts x_reflections x_samples x_rawReflections x_target x_impulseResponse x_pastExcitation x_filteredPast x_chosenPulses x_trialPulses x_pulseSigns x_excitation x_receivedFields : Nat → Int32} {x_correlation x_predictor x_oldPredictor : Nat → Int64} {post : SX → Prop} {r : Nat → Int64} (hP : P ≤ 6) (hc : ∀ i, i ≤ P → x_correlation i = r i) (hr0 : ∀ j, j < P → x_rawReflections j = 0)
    (h : ∀ raw pr op, (∀ j, j < P → raw j = (sp_lv r P).2.2 (j + 1)) → post ((nI P), (nI N), (nI T), x_pending, x_encodedStream, x_reflectionLevels, x_pulseLevels, x_memory, x_history, x_output, x_fields, x_frameCounts, x_reflections, x_samples, raw, x_correlation, pr, op, x_target, x_impulseResponse, x_pastExcitation, x_filteredPast, x_chosenPulses, x_trialPulses, x_pulseSigns, x_excitation, x_receivedFields)) : wpX_runRecursion post ((nI P), (nI N), (nI T), x_pending, x_encodedStream, x_reflectionLevels, x_pulseLevels, x_memory, x_history, x_output, x_fields, x_frameCounts, x_reflections, x_samples, x_rawReflections, x_correlation, x_predictor, x_oldPredictor, x_target, x_impulseResponse, x_pastExcitation, x_filteredPast, x_chosenPulses, x_trialPulses, x_pulseSigns, x_excitation, x_receivedFields) :=
  Exists.intro (P + 1) (sx_rr2 hP hc hr0 h P 1 x_predictor (by omega) (by omega) (fun j hj1 hj2 => absurd hj2 (by omega)))
theorem sx_dr2 {P N T : Nat} {x_pending : Int32} {x_encodedStream : Int64} {x_reflectionLevels x_pulseLevels x_memory x_history x_output x_fields x_frameCounts x_reflections x_samples x_target x_impulseResponse x_pastExcitation x_filteredPast x_chosenPulses x_trialPulses x_pulseSigns x_excitation x_receivedFields : Nat → Int32} {x_correlation x_predictor x_oldPredictor : Nat → Int64} {post : SX → Prop} {s : Nat → Int32} (es : x_samples = s) (hs : sp_bd s) (hN8 : 8 ≤ N) (hN : N ≤ 32) (hP : P ≤ 6)
    (h : ∀ raw co pr op, (∀ j, j < P → raw j = sp_K s N P (j + 1)) → post ((nI P), (nI N), (nI T), x_pending, x_encodedStream, x_reflectionLevels, x_pulseLevels, x_memory, x_history, x_output, x_fields, x_frameCounts, x_reflections, x_samples, raw, co, pr, op, x_target, x_impulseResponse, x_pastExcitation, x_filteredPast, x_chosenPulses, x_trialPulses, x_pulseSigns, x_excitation, x_receivedFields)) :
    ∀ d i raw, i + d = P → (∀ j, j < i → raw j = 0) → wX_deriveRawReflections_2 post (nI P) (nI N) (nI T) x_pending x_encodedStream (d + 1) (nI i) x_reflectionLevels x_pulseLevels x_memory x_history x_output x_fields x_frameCounts x_reflections x_samples raw x_correlation x_predictor x_oldPredictor x_target x_impulseResponse x_pastExcitation x_filteredPast x_chosenPulses x_trialPulses x_pulseSigns x_excitation x_receivedFields := by
  subst es
  have b := sp_R0_r hs hN
  intro d
  induction d with
  | zero =>
    intro i raw hi hr
    obtain rfl : i = P := by omega
    refine br_t (nI_le (by omega) (by omega)) (sx_mc hN8 hN hP (fun co hco => ?_))
    have c0 := hco 0 (by omega)
    by_cases z : sp_R x_samples N 0 = 0
    · refine br_t ?_ (h raw co x_predictor x_oldPredictor (fun j hj => ?_))
      · rw [c0, z]
        exact Int64.le_refl 0
      · rw [hr j hj]
        exact (if_pos z).symm
    · refine br_f ?_ (sx_sc hs hN hP hco (fun co' hco' => sx_rr hP hco' hr (fun raw' pr' op' hr' => h raw' co' pr' op' (fun j hj => ?_))))
      · rw [c0]
        exact Int64.not_le.mpr ((sp_R0_0 b.1).mpr z)
      · rw [hr' j hj]
        exact (if_neg z).symm
  | succ d ih =>
    intro i raw hi hr
    refine br_f (nI_ge (by omega) (by omega)) ⟨vp_in_nI (by omega) (by omega), nm_e (nm_r (nI_1 i) (ih (i + 1) _ (by omega) ?_))⟩
    intro j hj
    rw [nI_clamp (by omega)]
    by_cases e : j = i
    · subst e
      rw [pk_us]
    · rw [pk_un e]
      exact hr j (by omega)
theorem sx_dr {P N T : Nat} {x_pending : Int32} {x_encodedStream : Int64} {x_reflectionLevels x_pulseLevels x_memory x_history x_output x_fields x_frameCounts x_reflections x_samples x_rawReflections x_target x_impulseResponse x_pastExcitation x_filteredPast x_chosenPulses x_trialPulses x_pulseSigns x_excitation x_receivedFields : Nat → Int32} {x_correlation x_predictor x_oldPredictor : Nat → Int64} {post : SX → Prop} {s : Nat → Int32} (es : x_samples = s) (hs : sp_bd s) (hN8 : 8 ≤ N) (hN : N ≤ 32) (hP : P ≤ 6)
    (h : ∀ raw co pr op, (∀ j, j < P → raw j = sp_K s N P (j + 1)) → post ((nI P), (nI N), (nI T), x_pending, x_encodedStream, x_reflectionLevels, x_pulseLevels, x_memory, x_history, x_output, x_fields, x_frameCounts, x_reflections, x_samples, raw, co, pr, op, x_target, x_impulseResponse, x_pastExcitation, x_filteredPast, x_chosenPulses, x_trialPulses, x_pulseSigns, x_excitation, x_receivedFields)) : wpX_deriveRawReflections post ((nI P), (nI N), (nI T), x_pending, x_encodedStream, x_reflectionLevels, x_pulseLevels, x_memory, x_history, x_output, x_fields, x_frameCounts, x_reflections, x_samples, x_rawReflections, x_correlation, x_predictor, x_oldPredictor, x_target, x_impulseResponse, x_pastExcitation, x_filteredPast, x_chosenPulses, x_trialPulses, x_pulseSigns, x_excitation, x_receivedFields) :=
  Exists.intro (P + 1) (sx_dr2 es hs hN8 hN hP h P 0 x_rawReflections (by omega) (fun j hj => absurd hj (by omega)))
end
section
/-! the component: quantisation, the lattice, target, impulse response -/
theorem sx_ds {post : Int32 → Prop} {a b : Int32} (h : post (sp_ds a b)) : wpX_distance post a b := by
  unfold wpX_distance
  unfold sp_ds at h
  refine br_c (fun z => ?_) (fun z => ?_)
  · rw [if_neg (Int32.not_lt.mpr z)] at h
    exact h
  · rw [if_pos (Int32.not_le.mp z)] at h
    exact h
theorem sx_nl16 {P N T : Nat} {x_pending : Int32} {x_encodedStream : Int64} {x_reflectionLevels x_pulseLevels x_memory x_history x_output x_fields x_frameCounts x_reflections x_samples x_rawReflections x_target x_impulseResponse x_pastExcitation x_filteredPast x_chosenPulses x_trialPulses x_pulseSigns x_excitation x_receivedFields : Nat → Int32} {x_correlation x_predictor x_oldPredictor : Nat → Int64} {post : Int32 → Prop} {k : Int32} (hk : ∀ j, j < 16 → x_reflectionLevels j = sp_kq j) (h : post (nI (sp_nq k))) :
    ∀ d i, i + d = 15 → wX_nearestReflectionLevel_16 post k (nI P) (nI N) (nI T) x_pending x_encodedStream x_reflectionLevels x_pulseLevels x_memory x_history x_output x_fields x_frameCounts x_reflections x_samples x_rawReflections x_correlation x_predictor x_oldPredictor x_target x_impulseResponse x_pastExcitation x_filteredPast x_chosenPulses x_trialPulses x_pulseSigns x_excitation x_receivedFields (d + 1) (nI (sp_qs k i).1) (sp_qs k i).2 (nI (i + 1)) := by
  intro d
  induction d with
  | zero =>
    intro i hi
    obtain rfl : i = 15 := by omega
    exact br_t (nI_le (a := 16) (by omega) (by omega)) h
  | succ d ih =>
    intro i hi
    refine br_f (nI_ge (b := 16) (by omega) (by omega)) ⟨vp_in_nI (by omega) (by omega), sx_ds ?_⟩
    rw [nI_clamp (by omega), hk _ (by omega)]
    have t := ih (i + 1) (by omega)
    by_cases c : sp_ds k (sp_kq (i + 1)) < (sp_qs k i).2
    · rw [show sp_qs k (i + 1) = (i + 1, sp_ds k (sp_kq (i + 1))) from if_pos c] at t
      exact br_f (Int32.not_le.mpr c) (nm_r (nI_1 (i + 1)) t)
    · rw [show sp_qs k (i + 1) = sp_qs k i from if_neg c] at t
      exact br_t (Int32.not_lt.mp c) (nm_r (nI_1 (i + 1)) t)
theorem sx_nl {P N T : Nat} {x_pending : Int32} {x_encodedStream : Int64} {x_reflectionLevels x_pulseLevels x_memory x_history x_output x_fields x_frameCounts x_reflections x_samples x_rawReflections x_target x_impulseResponse x_pastExcitation x_filteredPast x_chosenPulses x_trialPulses x_pulseSigns x_excitation x_receivedFields : Nat → Int32} {x_correlation x_predictor x_oldPredictor : Nat → Int64} {post : Int32 → Prop} {k : Int32} (hk : ∀ j, j < 16 → x_reflectionLevels j = sp_kq j) (h : post (nI (sp_nq k))) : wpX_nearestReflectionLevel post ((nI P), (nI N), (nI T), x_pending, x_encodedStream, x_reflectionLevels, x_pulseLevels, x_memory, x_history, x_output, x_fields, x_frameCounts, x_reflections, x_samples, x_rawReflections, x_correlation, x_predictor, x_oldPredictor, x_target, x_impulseResponse, x_pastExcitation, x_filteredPast, x_chosenPulses, x_trialPulses, x_pulseSigns, x_excitation, x_receivedFields) k := by
  unfold wpX_nearestReflectionLevel
  dsimp only
  refine sx_ds (Exists.intro 16 ?_)
  rw [hk 0 (by omega)]
  exact sx_nl16 hk h 15 0 (by omega)
theorem sx_qr2 {P N T : Nat} {x_pending : Int32} {x_encodedStream : Int64} {x_reflectionLevels x_pulseLevels x_memory x_history x_output x_fields x_frameCounts x_reflections x_samples x_rawReflections x_target x_impulseResponse x_pastExcitation x_filteredPast x_chosenPulses x_trialPulses x_pulseSigns x_excitation x_receivedFields : Nat → Int32} {x_correlation x_predictor x_oldPredictor : Nat → Int64} {post : SX → Prop} {k : Nat → Int32} (hP : P ≤ 6) (hk : ∀ j, j < 16 → x_reflectionLevels j = sp_kq j) (hr : ∀ j, j < P → x_rawReflections j = k j)
    (h : post ((nI P), (nI N), (nI T), x_pending, x_encodedStream, x_reflectionLevels, x_pulseLevels, x_memory, x_history, x_output, (sp_fo (fun m => nI (sp_nq (k m))) 11 P x_fields), x_frameCounts, (sp_fl (fun m => sp_kq (sp_nq (k m))) P x_reflections), x_samples, x_rawReflections, x_correlation, x_predictor, x_oldPredictor, x_target, x_impulseResponse, x_pastExcitation, x_filteredPast, x_chosenPulses, x_trialPulses, x_pulseSigns, x_excitation, x_receivedFields)) :
    ∀ d i, i + d = P → wX_quantiseReflections_2 post (nI P) (nI N) (nI T) x_pending x_encodedStream (d + 1) (nI i) x_reflectionLevels x_pulseLevels x_memory x_history x_output (sp_fo (fun m => nI (sp_nq (k m))) 11 i x_fields) x_frameCounts (sp_fl (fun m => sp_kq (sp_nq (k m))) i x_reflections) x_samples x_rawReflections x_correlation x_predictor x_oldPredictor x_target x_impulseResponse x_pastExcitation x_filteredPast x_chosenPulses x_trialPulses x_pulseSigns x_excitation x_receivedFields := by
  intro d
  induction d with
  | zero =>
    intro i hi
    obtain rfl : i = P := by omega
    exact br_t (nI_le (by omega) (by omega)) h
  | succ d ih =>
    intro i hi
    refine br_f (nI_ge (by omega) (by omega)) ⟨vp_in_nI (by omega) (by omega), sx_nl hk ?_⟩
    rw [nI_clamp (by omega), hr i (by omega)]
    have q := sp_nq_b (k i)
    refine ⟨pk_in (11 + i) 34 (by omega) (nI_add 11 i), nm_r ?_ ⟨vp_in_nI q (by omega), pk_in i 12 (by omega) (Int32.zero_add _), nm_r ?_ (nm_r (nI_1 i) (ih (i + 1) (by omega)))⟩⟩
    · rw [show (11 : Int32) + nI i = nI (11 + i) from nI_add 11 i, nI_clamp (by omega)]
      exact sp_foS (g := fun m => nI (sp_nq (k m)))
    · rw [Int32.zero_add, nI_clamp (by omega), nI_clamp (by omega), hk _ q]
      exact sp_flS (g := fun m => sp_kq (sp_nq (k m)))
theorem sx_qr {P N T : Nat} {x_pending : Int32} {x_encodedStream : Int64} {x_reflectionLevels x_pulseLevels x_memory x_history x_output x_fields x_frameCounts x_reflections x_samples x_rawReflections x_target x_impulseResponse x_pastExcitation x_filteredPast x_chosenPulses x_trialPulses x_pulseSigns x_excitation x_receivedFields : Nat → Int32} {x_correlation x_predictor x_oldPredictor : Nat → Int64} {post : SX → Prop} {k : Nat → Int32} (hP : P ≤ 6) (hk : ∀ j, j < 16 → x_reflectionLevels j = sp_kq j) (hr : ∀ j, j < P → x_rawReflections j = k j)
    (h : post ((nI P), (nI N), (nI T), x_pending, x_encodedStream, x_reflectionLevels, x_pulseLevels, x_memory, x_history, x_output, (sp_fo (fun m => nI (sp_nq (k m))) 11 P x_fields), x_frameCounts, (sp_fl (fun m => sp_kq (sp_nq (k m))) P x_reflections), x_samples, x_rawReflections, x_correlation, x_predictor, x_oldPredictor, x_target, x_impulseResponse, x_pastExcitation, x_filteredPast, x_chosenPulses, x_trialPulses, x_pulseSigns, x_excitation, x_receivedFields)) : wpX_quantiseReflections post ((nI P), (nI N), (nI T), x_pending, x_encodedStream, x_reflectionLevels, x_pulseLevels, x_memory, x_history, x_output, x_fields, x_frameCounts, x_reflections, x_samples, x_rawReflections, x_correlation, x_predictor, x_oldPredictor, x_target, x_impulseResponse, x_pastExcitation, x_filteredPast, x_chosenPulses, x_trialPulses, x_pulseSigns, x_excitation, x_receivedFields) := by
  have t := sx_qr2 hP hk hr h P 0 (by omega)
  rw [sp_fl0, sp_fo0] at t
  exact Exists.intro _ t
theorem sx_satE {post : Int32 → Prop} {w v : Int32} (e : sp_sat w = v) (h : post v) : wpX_saturate post w.toInt64 := sx_satI (by rw [e]; exact h)
theorem sp_x4 (a j : Nat) : nI a - 1 + nI (j + 1) = nI (a + j) := by
  rw [← nI_1, ← nI_add]
  grind
theorem sx_lat23 {P N T : Nat} {x_pending : Int32} {x_encodedStream : Int64} {x_reflectionLevels x_pulseLevels x_history x_output x_fields x_frameCounts x_reflections x_samples x_rawReflections x_target x_impulseResponse x_pastExcitation x_filteredPast x_chosenPulses x_trialPulses x_pulseSigns x_excitation x_receivedFields : Nat → Int32} {x_correlation x_predictor x_oldPredictor : Nat → Int64} {post : Int32 → SX → Prop} {c : Nat → Int32} {sd B : Nat} {x4 : Int32} (hP1 : 1 ≤ P) (hP : P ≤ 6) (hsd : sd ≤ 1) (hB : B + P ≤ 18)
    (hc : ∀ j, j < P → x_reflections (sd * 6 + j) = c (j + 1)) (hx : ∀ j, x4 + nI (j + 1) = nI (sd * 6 + j)) :
    ∀ j f b M, j ≤ P → sp_row B P M b → (∀ M', sp_row B P M' (sp_go c P j f b).2 → (∀ q, q < B ∨ B + P ≤ q → M' q = M q) → post (sp_go c P j f b).1 ((nI P), (nI N), (nI T), x_pending, x_encodedStream, x_reflectionLevels, x_pulseLevels, M', x_history, x_output, x_fields, x_frameCounts, x_reflections, x_samples, x_rawReflections, x_correlation, x_predictor, x_oldPredictor, x_target, x_impulseResponse, x_pastExcitation, x_filteredPast, x_chosenPulses, x_trialPulses, x_pulseSigns, x_excitation, x_receivedFields)) →
      wX_latticeStep_23 post x4 (nI B) (nI P) (nI N) (nI T) x_pending x_encodedStream (j + 1) f (nI j) x_reflectionLevels x_pulseLevels M x_history x_output x_fields x_frameCounts x_reflections x_samples x_rawReflections x_correlation x_predictor x_oldPredictor x_target x_impulseResponse x_pastExcitation x_filteredPast x_chosenPulses x_trialPulses x_pulseSigns x_excitation x_receivedFields := by
  intro j
  induction j with
  | zero =>
    intro f b M _ hr h
    refine br_t (nI_lt (b := 1) (by omega) (by omega)) ⟨vp_in_nI (by omega) (by omega), nm_e (h _ ?_ ?_)⟩
    · rw [nI_clamp (by omega)]
      exact sp_row_u (k := 0) hr
    · intro q hq
      rw [nI_clamp (by omega), pk_un (by omega)]
  | succ j ih =>
    intro f b M hj hr h
    have eB : nI B + nI (j + 1) - 1 = nI (B + j) := by
      rw [nI_add]
      exact nI_pred (B + j)
    refine br_f (nI_nlt (b := 1) (by omega) (by omega)) ⟨pk_in (sd * 6 + j) 12 (by omega) (hx j), pk_in (B + j) 18 (by omega) eB, sx_satE (v := sp_lf c b j f) ?_ ?_⟩
    · rw [hx j, eB, nI_clamp (by omega), nI_clamp (by omega), hc j (by omega), hr j (by omega)]
      rfl
    · by_cases hjP : j + 1 < P
      · have eg : sp_go c P (j + 1) f b = sp_go c P j (sp_lf c b j f) (upd b (j + 1) (sp_lb c b j (sp_lf c b j f))) := by
          show sp_go c P j (sp_lf c b j f) (if j + 1 < P then upd b (j + 1) (sp_lb c b j (sp_lf c b j f)) else b) = _
          rw [if_pos hjP]
        rw [eg] at h
        refine br_f (nI_ge hjP (by omega)) ⟨pk_in (B + j) 18 (by omega) eB, pk_in (sd * 6 + j) 12 (by omega) (hx j), sx_satE (v := sp_lb c b j (sp_lf c b j f)) ?_ ⟨pk_in (B + (j + 1)) 18 (by omega) (nI_add B (j + 1)), nm_r (e' := upd M (B + (j + 1)) (sp_lb c b j (sp_lf c b j f))) ?_ (nm_r (pk_m1 j) (ih _ _ _ (by omega) (sp_row_u hr) (fun M' h1 h2 => h M' h1 (fun q hq => ?_))))⟩⟩
        · rw [hx j, eB, nI_clamp (by omega), nI_clamp (by omega), hc j (by omega), hr j (by omega)]
          rfl
        · rw [nI_add, nI_clamp (by omega)]
        · rw [h2 q hq, pk_un (by omega)]
      · have eg : sp_go c P (j + 1) f b = sp_go c P j (sp_lf c b j f) b := by
          show sp_go c P j (sp_lf c b j f) (if j + 1 < P then upd b (j + 1) (sp_lb c b j (sp_lf c b j f)) else b) = _
          rw [if_neg hjP]
        rw [eg] at h
        exact br_t (nI_le (by omega) (by omega)) (nm_r (pk_m1 j) (ih _ _ _ (by omega) hr h))
theorem sx_lat {P N T : Nat} {x_pending : Int32} {x_encodedStream : Int64} {x_reflectionLevels x_pulseLevels x_memory x_history x_output x_fields x_frameCounts x_reflections x_samples x_rawReflections x_target x_impulseResponse x_pastExcitation x_filteredPast x_chosenPulses x_trialPulses x_pulseSigns x_excitation x_receivedFields : Nat → Int32} {x_correlation x_predictor x_oldPredictor : Nat → Int64} {post : Int32 → SX → Prop} {c b : Nat → Int32} {e : Int32} {sd rw : Nat} (hP1 : 1 ≤ P) (hP : P ≤ 6) (hsd : sd ≤ 1) (hB : rw ≤ 2)
    (hc : ∀ j, j < P → x_reflections (sd * 6 + j) = c (j + 1)) (hr : sp_row (rw * 6) P x_memory b)
    (h : ∀ M', sp_row (rw * 6) P M' (sp_go c P P e b).2 → (∀ q, q < rw * 6 ∨ rw * 6 + P ≤ q → M' q = x_memory q) → post (sp_go c P P e b).1 ((nI P), (nI N), (nI T), x_pending, x_encodedStream, x_reflectionLevels, x_pulseLevels, M', x_history, x_output, x_fields, x_frameCounts, x_reflections, x_samples, x_rawReflections, x_correlation, x_predictor, x_oldPredictor, x_target, x_impulseResponse, x_pastExcitation, x_filteredPast, x_chosenPulses, x_trialPulses, x_pulseSigns, x_excitation, x_receivedFields)) :
    wpX_latticeStep post ((nI P), (nI N), (nI T), x_pending, x_encodedStream, x_reflectionLevels, x_pulseLevels, x_memory, x_history, x_output, x_fields, x_frameCounts, x_reflections, x_samples, x_rawReflections, x_correlation, x_predictor, x_oldPredictor, x_target, x_impulseResponse, x_pastExcitation, x_filteredPast, x_chosenPulses, x_trialPulses, x_pulseSigns, x_excitation, x_receivedFields) (nI sd) (nI rw) e :=
  nm_e (nm_r (pk_mul rw 6) (Exists.intro (P + 1) (sx_lat23 hP1 hP hsd (by omega) hc (fun j => by rw [show nI sd * 6 = nI (sd * 6) from pk_mul sd 6]; exact sp_x4 _ _) P e b x_memory (Nat.le_refl P) hr h)))
theorem sx_ft35 {P N T : Nat} {x_pending : Int32} {x_encodedStream : Int64} {x_reflectionLevels x_pulseLevels x_memory x_history x_output x_fields x_frameCounts x_reflections x_samples x_rawReflections x_target x_impulseResponse x_pastExcitation x_filteredPast x_chosenPulses x_trialPulses x_pulseSigns x_excitation x_receivedFields : Nat → Int32} {x_correlation x_predictor x_oldPredictor : Nat → Int64} {post : SX → Prop} {c b s : Nat → Int32} (hP1 : 1 ≤ P) (hP : P ≤ 6) (hN : N ≤ 32) (hs : ∀ j, j < N → x_samples j = s j)
    (hc : ∀ j, j < P → x_reflections (0 * 6 + j) = c (j + 1))
    (h : ∀ M', (∀ q, q < 12 → M' q = x_memory q) → post ((nI P), (nI N), (nI T), x_pending, x_encodedStream, x_reflectionLevels, x_pulseLevels, M', x_history, x_output, x_fields, x_frameCounts, x_reflections, x_samples, x_rawReflections, x_correlation, x_predictor, x_oldPredictor, (sp_fl (fun n => sp_sat (s n - sp_lo c P b (fun _ => 0) n)) N x_target), x_impulseResponse, x_pastExcitation, x_filteredPast, x_chosenPulses, x_trialPulses, x_pulseSigns, x_excitation, x_receivedFields)) :
    ∀ d i M, i + d = N → sp_row 12 P M (sp_lm c P b (fun _ => 0) i) → (∀ q, q < 12 → M q = x_memory q) →
      wX_formTarget_35 post (d + 1) (nI i) (nI P) (nI N) (nI T) x_pending x_encodedStream x_reflectionLevels x_pulseLevels M x_history x_output x_fields x_frameCounts x_reflections x_samples x_rawReflections x_correlation x_predictor x_oldPredictor (sp_fl (fun n => sp_sat (s n - sp_lo c P b (fun _ => 0) n)) i x_target) x_impulseResponse x_pastExcitation x_filteredPast x_chosenPulses x_trialPulses x_pulseSigns x_excitation x_receivedFields := by
  intro d
  induction d with
  | zero =>
    intro i M hi hr hf
    obtain rfl : i = N := by omega
    exact br_t (nI_le (by omega) (by omega)) (h M hf)
  | succ d ih =>
    intro i M hi hr hf
    refine br_f (nI_ge (by omega) (by omega)) (sx_lat (sd := 0) (rw := 2) hP1 hP (by omega) (by omega) hc hr (fun M' hr' hf' => ?_))
    refine ⟨vp_in_nI (by omega) (by omega), sx_satI ⟨vp_in_nI (by omega) (by omega), nm_r ?_ (nm_r (nI_1 i) (ih (i + 1) M' (by omega) hr' (fun q hq => (hf' q (by omega)).trans (hf q hq))))⟩⟩
    rw [nI_clamp (by omega), hs i (by omega)]
    exact sp_flS (g := fun n => sp_sat (s n - sp_lo c P b (fun _ => 0) n))
theorem sx_ft2 {P N T : Nat} {x_pending : Int32} {x_encodedStream : Int64} {x_reflectionLevels x_pulseLevels x_memory x_history x_output x_fields x_frameCounts x_reflections x_samples x_rawReflections x_target x_impulseResponse x_pastExcitation x_filteredPast x_chosenPulses x_trialPulses x_pulseSigns x_excitation x_receivedFields : Nat → Int32} {x_correlation x_predictor x_oldPredictor : Nat → Int64} {post : SX → Prop} {c b s : Nat → Int32} (hP1 : 1 ≤ P) (hP : P ≤ 6) (hN : N ≤ 32) (hs : ∀ j, j < N → x_samples j = s j)
    (hc : ∀ j, j < P → x_reflections (0 * 6 + j) = c (j + 1)) (hb : ∀ j, j < P → x_memory j = b j)
    (h : ∀ M', (∀ q, q < 12 → M' q = x_memory q) → post ((nI P), (nI N), (nI T), x_pending, x_encodedStream, x_reflectionLevels, x_pulseLevels, M', x_history, x_output, x_fields, x_frameCounts, x_reflections, x_samples, x_rawReflections, x_correlation, x_predictor, x_oldPredictor, (sp_fl (fun n => sp_sat (s n - sp_lo c P b (fun _ => 0) n)) N x_target), x_impulseResponse, x_pastExcitation, x_filteredPast, x_chosenPulses, x_trialPulses, x_pulseSigns, x_excitation, x_receivedFields)) :
    ∀ d i M, i + d = P → (∀ j, j < i → M (12 + j) = b j) → (∀ q, q < 12 → M q = x_memory q) → wX_formTarget_2 post (nI P) (nI N) (nI T) x_pending x_encodedStream (d + 1) (nI i) x_reflectionLevels x_pulseLevels M x_history x_output x_fields x_frameCounts x_reflections x_samples x_rawReflections x_correlation x_predictor x_oldPredictor x_target x_impulseResponse x_pastExcitation x_filteredPast x_chosenPulses x_trialPulses x_pulseSigns x_excitation x_receivedFields := by
  intro d
  induction d with
  | zero =>
    intro i M hi hr hf
    obtain rfl : i = P := by omega
    refine br_t (nI_le (by omega) (by omega)) ⟨N + 1, ?_⟩
    have t := sx_ft35 (x_memory := M) (x_target := x_target) hP1 hP hN hs hc (b := b) (fun M' hM' => h M' (fun q hq => (hM' q hq).trans (hf q hq))) N 0 M (by omega) hr (fun _ _ => rfl)
    rw [sp_fl0] at t
    exact t
  | succ d ih =>
    intro i M hi hr hf
    refine br_f (nI_ge (by omega) (by omega)) ⟨pk_in i 18 (by omega) (Int32.zero_add _), pk_in (12 + i) 18 (by omega) (nI_add 12 i), nm_e (nm_r (nI_1 i) (ih (i + 1) _ (by omega) ?_ ?_))⟩
    · intro j hj
      rw [Int32.zero_add, show (12 : Int32) + nI i = nI (12 + i) from nI_add 12 i, nI_clamp (by omega), nI_clamp (by omega)]
      by_cases e : j = i
      · subst e
        rw [pk_us, hf j (by omega)]
        exact hb j (by omega)
      · rw [pk_un (by omega)]
        exact hr j (by omega)
    · intro q hq
      rw [show (12 : Int32) + nI i = nI (12 + i) from nI_add 12 i, nI_clamp (by omega), pk_un (by omega)]
      exact hf q hq
theorem sx_ft {P N T : Nat} {x_pending : Int32} {x_encodedStream : Int64} {x_reflectionLevels x_pulseLevels x_memory x_history x_output x_fields x_frameCounts x_reflections x_samples x_rawReflections x_target x_impulseResponse x_pastExcitation x_filteredPast x_chosenPulses x_trialPulses x_pulseSigns x_excitation x_receivedFields : Nat → Int32} {x_correlation x_predictor x_oldPredictor : Nat → Int64} {post : SX → Prop} {c b s : Nat → Int32} (hP1 : 1 ≤ P) (hP : P ≤ 6) (hN : N ≤ 32) (hs : ∀ j, j < N → x_samples j = s j)
    (hc : ∀ j, j < P → x_reflections (0 * 6 + j) = c (j + 1)) (hb : ∀ j, j < P → x_memory j = b j)
    (h : ∀ M', (∀ q, q < 12 → M' q = x_memory q) → post ((nI P), (nI N), (nI T), x_pending, x_encodedStream, x_reflectionLevels, x_pulseLevels, M', x_history, x_output, x_fields, x_frameCounts, x_reflections, x_samples, x_rawReflections, x_correlation, x_predictor, x_oldPredictor, (sp_fl (fun n => sp_sat (s n - sp_lo c P b (fun _ => 0) n)) N x_target), x_impulseResponse, x_pastExcitation, x_filteredPast, x_chosenPulses, x_trialPulses, x_pulseSigns, x_excitation, x_receivedFields)) : wpX_formTarget post ((nI P), (nI N), (nI T), x_pending, x_encodedStream, x_reflectionLevels, x_pulseLevels, x_memory, x_history, x_output, x_fields, x_frameCounts, x_reflections, x_samples, x_rawReflections, x_correlation, x_predictor, x_oldPredictor, x_target, x_impulseResponse, x_pastExcitation, x_filteredPast, x_chosenPulses, x_trialPulses, x_pulseSigns, x_excitation, x_receivedFields) :=
  Exists.intro (P + 1) (sx_ft2 hP1 hP hN hs hc hb h P 0 x_memory (by omega) (fun j hj => absurd hj (by omega)) (fun _ _ => rfl))
def sp_imp (n : Nat) : Int32 := if n = 0 then 4096 else 0
theorem sx_fi47 {P N T : Nat} {x_pending : Int32} {x_encodedStream : Int64} {x_reflectionLevels x_pulseLevels x_memory x_history x_output x_fields x_frameCounts x_reflections x_samples x_rawReflections x_target x_impulseResponse x_pastExcitation x_filteredPast x_chosenPulses x_trialPulses x_pulseSigns x_excitation x_receivedFields : Nat → Int32} {x_correlation x_predictor x_oldPredictor : Nat → Int64} {post : SX → Prop} {J : _} {c b : Nat → Int32} {i : Nat} {z0 zz : Int32} (ez : zz = z0) (hP1 : 1 ≤ P) (hP : P ≤ 6) (hi : i < 32)
    (hc : ∀ j, j < P → x_reflections (0 * 6 + j) = c (j + 1)) (hr : sp_row 12 P x_memory b)
    (h : ∀ M', sp_row 12 P M' (sp_go c P P zz b).2 → (∀ q, q < 12 → M' q = x_memory q) → J (nI (i + 1)) (nI P) (nI N) (nI T) x_pending x_encodedStream x_reflectionLevels x_pulseLevels M' x_history x_output x_fields x_frameCounts x_reflections x_samples x_rawReflections x_correlation x_predictor x_oldPredictor x_target (upd x_impulseResponse i (sp_go c P P zz b).1) x_pastExcitation x_filteredPast x_chosenPulses x_trialPulses x_pulseSigns x_excitation x_receivedFields) :
    wX_formImpulseResponse_47 post J (nI i) z0 (nI P) (nI N) (nI T) x_pending x_encodedStream x_reflectionLevels x_pulseLevels x_memory x_history x_output x_fields x_frameCounts x_reflections x_samples x_rawReflections x_correlation x_predictor x_oldPredictor x_target x_impulseResponse x_pastExcitation x_filteredPast x_chosenPulses x_trialPulses x_pulseSigns x_excitation x_receivedFields := by
  subst ez
  unfold wX_formImpulseResponse_47
  refine sx_lat (sd := 0) (rw := 2) hP1 hP (by omega) (by omega) hc hr (fun M' hr' hf' => ?_)
  exact ⟨vp_in_nI hi (by omega), nm_r (by rw [nI_clamp (by omega)]) (nm_r (nI_1 i) (h M' hr' (fun q hq => hf' q (by omega))))⟩
theorem sx_fi28 {P N T : Nat} {x_pending : Int32} {x_encodedStream : Int64} {x_reflectionLevels x_pulseLevels x_memory x_history x_output x_fields x_frameCounts x_reflections x_samples x_rawReflections x_target x_impulseResponse x_pastExcitation x_filteredPast x_chosenPulses x_trialPulses x_pulseSigns x_excitation x_receivedFields : Nat → Int32} {x_correlation x_predictor x_oldPredictor : Nat → Int64} {post : SX → Prop} {c : Nat → Int32} (hP1 : 1 ≤ P) (hP : P ≤ 6) (hN : N ≤ 32)
    (hc : ∀ j, j < P → x_reflections (0 * 6 + j) = c (j + 1))
    (h : ∀ M', (∀ q, q < 12 → M' q = x_memory q) → post ((nI P), (nI N), (nI T), x_pending, x_encodedStream, x_reflectionLevels, x_pulseLevels, M', x_history, x_output, x_fields, x_frameCounts, x_reflections, x_samples, x_rawReflections, x_correlation, x_predictor, x_oldPredictor, x_target, (sp_fl (sp_lo c P (fun _ => 0) sp_imp) N x_impulseResponse), x_pastExcitation, x_filteredPast, x_chosenPulses, x_trialPulses, x_pulseSigns, x_excitation, x_receivedFields)) :
    ∀ d i M, i + d = N → sp_row 12 P M (sp_lm c P (fun _ => 0) sp_imp i) → (∀ q, q < 12 → M q = x_memory q) →
      wX_formImpulseResponse_28 post (d + 1) (nI i) (nI P) (nI N) (nI T) x_pending x_encodedStream x_reflectionLevels x_pulseLevels M x_history x_output x_fields x_frameCounts x_reflections x_samples x_rawReflections x_correlation x_predictor x_oldPredictor x_target (sp_fl (sp_lo c P (fun _ => 0) sp_imp) i x_impulseResponse) x_pastExcitation x_filteredPast x_chosenPulses x_trialPulses x_pulseSigns x_excitation x_receivedFields := by
  intro d
  induction d with
  | zero =>
    intro i M hi hr hf
    obtain rfl : i = N := by omega
    exact br_t (nI_le (by omega) (by omega)) (h M hf)
  | succ d ih =>
    intro i M hi hr hf
    refine br_f (nI_ge (by omega) (by omega)) ?_
    by_cases z : i = 0
    · have e : sp_imp i = 4096 := if_pos z
      refine br_t (by rw [z]; rfl) (sx_fi47 e hP1 hP (by omega) hc hr (fun M' hr' hf' => ?_))
      have t := ih (i + 1) M' (by omega) hr' (fun q hq => (hf' q hq).trans (hf q hq))
      rw [← sp_flS] at t
      exact t
    · have e : sp_imp i = 0 := if_neg z
      refine br_f (nI_ne0 (by omega) (by omega)) (sx_fi47 e hP1 hP (by omega) hc hr (fun M' hr' hf' => ?_))
      have t := ih (i + 1) M' (by omega) hr' (fun q hq => (hf' q hq).trans (hf q hq))
      rw [← sp_flS] at t
      exact t
theorem sx_fi2 {P N T : Nat} {x_pending : Int32} {x_encodedStream : Int64} {x_reflectionLevels x_pulseLevels x_memory x_history x_output x_fields x_frameCounts x_reflections x_samples x_rawReflections x_target x_impulseResponse x_pastExcitation x_filteredPast x_chosenPulses x_trialPulses x_pulseSigns x_excitation x_receivedFields : Nat → Int32} {x_correlation x_predictor x_oldPredictor : Nat → Int64} {post : SX → Prop} {c : Nat → Int32} (hP1 : 1 ≤ P) (hP : P ≤ 6) (hN : N ≤ 32)
    (hc : ∀ j, j < P → x_reflections (0 * 6 + j) = c (j + 1))
    (h : ∀ M', (∀ q, q < 12 → M' q = x_memory q) → post ((nI P), (nI N), (nI T), x_pending, x_encodedStream, x_reflectionLevels, x_pulseLevels, M', x_history, x_output, x_fields, x_frameCounts, x_reflections, x_samples, x_rawReflections, x_correlation, x_predictor, x_oldPredictor, x_target, (sp_fl (sp_lo c P (fun _ => 0) sp_imp) N x_impulseResponse), x_pastExcitation, x_filteredPast, x_chosenPulses, x_trialPulses, x_pulseSigns, x_excitation, x_receivedFields)) :
    ∀ d i M, i + d = P → (∀ j, j < i → M (12 + j) = 0) → (∀ q, q < 12 → M q = x_memory q) → wX_formImpulseResponse_2 post (nI P) (nI N) (nI T) x_pending x_encodedStream (d + 1) (nI i) x_reflectionLevels x_pulseLevels M x_history x_output x_fields x_frameCounts x_reflections x_samples x_rawReflections x_correlation x_predictor x_oldPredictor x_target x_impulseResponse x_pastExcitation x_filteredPast x_chosenPulses x_trialPulses x_pulseSigns x_excitation x_receivedFields := by
  intro d
  induction d with
  | zero =>
    intro i M hi hr hf
    obtain rfl : i = P := by omega
    refine br_t (nI_le (by omega) (by omega)) ⟨N + 1, ?_⟩
    have t := sx_fi28 (x_memory := M) (x_impulseResponse := x_impulseResponse) hP1 hP hN hc (fun M' hM' => h M' (fun q hq => (hM' q hq).trans (hf q hq))) N 0 M (by omega) hr (fun _ _ => rfl)
    rw [sp_fl0] at t
    exact t
  | succ d ih =>
    intro i M hi hr hf
    refine br_f (nI_ge (by omega) (by omega)) ⟨pk_in (12 + i) 18 (by omega) (nI_add 12 i), nm_e (nm_r (nI_1 i) (ih (i + 1) _ (by omega) ?_ ?_))⟩
    · intro j hj
      rw [show (12 : Int32) + nI i = nI (12 + i) from nI_add 12 i, nI_clamp (by omega)]
      by_cases e : j = i
      · subst e
        rw [pk_us]
      · rw [pk_un (by omega)]
        exact hr j (by omega)
    · intro q hq
      rw [show (12 : Int32) + nI i = nI (12 + i) from nI_add 12 i, nI_clamp (by omega), pk_un (by omega)]
      exact hf q hq
theorem sx_fi {P N T : Nat} {x_pending : Int32} {x_encodedStream : Int64} {x_reflectionLevels x_pulseLevels x_memory x_history x_output x_fields x_frameCounts x_reflections x_samples x_rawReflections x_target x_impulseResponse x_pastExcitation x_filteredPast x_chosenPulses x_trialPulses x_pulseSigns x_excitation x_receivedFields : Nat → Int32} {x_correlation x_predictor x_oldPredictor : Nat → Int64} {post : SX → Prop} {c : Nat → Int32} (hP1 : 1 ≤ P) (hP : P ≤ 6) (hN : N ≤ 32)
    (hc : ∀ j, j < P → x_reflections (0 * 6 + j) = c (j + 1))
    (h : ∀ M', (∀ q, q < 12 → M' q = x_memory q) → post ((nI P), (nI N), (nI T), x_pending, x_encodedStream, x_reflectionLevels, x_pulseLevels, M', x_history, x_output, x_fields, x_frameCounts, x_reflections, x_samples, x_rawReflections, x_correlation, x_predictor, x_oldPredictor, x_target, (sp_fl (sp_lo c P (fun _ => 0) sp_imp) N x_impulseResponse), x_pastExcitation, x_filteredPast, x_chosenPulses, x_trialPulses, x_pulseSigns, x_excitation, x_receivedFields)) : wpX_formImpulseResponse post ((nI P), (nI N), (nI T), x_pending, x_encodedStream, x_reflectionLevels, x_pulseLevels, x_memory, x_history, x_output, x_fields, x_frameCounts, x_reflections, x_samples, x_rawReflections, x_correlation, x_predictor, x_oldPredictor, x_target, x_impulseResponse, x_pastExcitation, x_filteredPast, x_chosenPulses, x_trialPulses, x_pulseSigns, x_excitation, x_receivedFields) :=
  Exists.intro (P + 1) (sx_fi2 hP1 hP hN hc h P 0 x_memory (by omega) (fun j hj => absurd hj (by omega)) (fun _ _ => rfl))
end
section
/-! the component: past excitation, its filtering, the adaptive search -/
theorem sp_hx {sd L i : Nat} (h : i < L) : nI sd * 64 + nI L - nI i - 1 = nI (sd * 64 + (L - i) - 1) := by
  rw [show nI sd * 64 = nI (sd * 64) from pk_mul sd 64, nI_add, pk_sub (by omega), show sd * 64 + (L - i) - 1 = sd * 64 + L - i - 1 from by omega]
  exact pk_sub (b := 1) (by omega)
theorem sx_fp7 {P N T : Nat} {x_pending : Int32} {x_encodedStream : Int64} {x_reflectionLevels x_pulseLevels x_memory x_history x_output x_fields x_frameCounts x_reflections x_samples x_rawReflections x_target x_impulseResponse x_pastExcitation x_filteredPast x_chosenPulses x_trialPulses x_pulseSigns x_excitation x_receivedFields : Nat → Int32} {x_correlation x_predictor x_oldPredictor : Nat → Int64} {post : SX → Prop} {H : Nat → Int32} {sd L : Nat} (hN : N ≤ 32) (hsd : sd ≤ 1) (hL1 : 1 ≤ L) (hL : L ≤ 64)
    (hH : ∀ j, 1 ≤ j → j ≤ 64 → x_history (sd * 64 + j - 1) = H j)
    (h : post ((nI P), (nI N), (nI T), x_pending, x_encodedStream, x_reflectionLevels, x_pulseLevels, x_memory, x_history, x_output, x_fields, x_frameCounts, x_reflections, x_samples, x_rawReflections, x_correlation, x_predictor, x_oldPredictor, x_target, x_impulseResponse, (sp_fl (sp_pv H L) N x_pastExcitation), x_filteredPast, x_chosenPulses, x_trialPulses, x_pulseSigns, x_excitation, x_receivedFields)) :
    ∀ d i, i + d = N → wX_formPastExcitation_7 post (nI sd) (nI L) (nI P) (nI N) (nI T) x_pending x_encodedStream (d + 1) (nI i) x_reflectionLevels x_pulseLevels x_memory x_history x_output x_fields x_frameCounts x_reflections x_samples x_rawReflections x_correlation x_predictor x_oldPredictor x_target x_impulseResponse (sp_fl (sp_pv H L) i x_pastExcitation) x_filteredPast x_chosenPulses x_trialPulses x_pulseSigns x_excitation x_receivedFields := by
  intro d
  induction d with
  | zero =>
    intro i hi
    obtain rfl : i = N := by omega
    exact br_t (nI_le (by omega) (by omega)) h
  | succ d ih =>
    intro i hi
    refine br_f (nI_ge (by omega) (by omega)) ?_
    by_cases c : L ≤ i
    · refine br_t (nI_le c (by omega)) ⟨pk_in (i - L) 32 (by omega) (pk_sub c), vp_in_nI (by omega) (by omega), nm_r ?_ (nm_r (nI_1 i) (ih (i + 1) (by omega)))⟩
      rw [pk_sub c, nI_clamp (by omega), nI_clamp (by omega), sp_fl_lo (by omega), ← sp_pv_hi c]
      exact sp_flS
    · have e := sp_hx (sd := sd) (L := L) (i := i) (by omega)
      refine br_f (nI_ge (by omega) (by omega)) ⟨pk_in (sd * 64 + (L - i) - 1) 128 (by omega) e, vp_in_nI (by omega) (by omega), nm_r ?_ (nm_r (nI_1 i) (ih (i + 1) (by omega)))⟩
      rw [e, nI_clamp (by omega), nI_clamp (by omega), hH (L - i) (by omega) (by omega), ← sp_pv_lo (H := H) (L := L) (n := i) (by omega)]
      exact sp_flS
theorem sx_fp {P N T : Nat} {x_pending : Int32} {x_encodedStream : Int64} {x_reflectionLevels x_pulseLevels x_memory x_history x_output x_fields x_frameCounts x_reflections x_samples x_rawReflections x_target x_impulseResponse x_pastExcitation x_filteredPast x_chosenPulses x_trialPulses x_pulseSigns x_excitation x_receivedFields : Nat → Int32} {x_correlation x_predictor x_oldPredictor : Nat → Int64} {post : SX → Prop} {H : Nat → Int32} {sd l : Nat} (hN : N ≤ 32) (hsd : sd ≤ 1) (hl : l < 32)
    (hH : ∀ j, 1 ≤ j → j ≤ 64 → x_history (sd * 64 + j - 1) = H j)
    (h : post ((nI P), (nI N), (nI T), x_pending, x_encodedStream, x_reflectionLevels, x_pulseLevels, x_memory, x_history, x_output, x_fields, x_frameCounts, x_reflections, x_samples, x_rawReflections, x_correlation, x_predictor, x_oldPredictor, x_target, x_impulseResponse, (sp_fl (sp_pv H (l + 4)) N x_pastExcitation), x_filteredPast, x_chosenPulses, x_trialPulses, x_pulseSigns, x_excitation, x_receivedFields)) : wpX_formPastExcitation post ((nI P), (nI N), (nI T), x_pending, x_encodedStream, x_reflectionLevels, x_pulseLevels, x_memory, x_history, x_output, x_fields, x_frameCounts, x_reflections, x_samples, x_rawReflections, x_correlation, x_predictor, x_oldPredictor, x_target, x_impulseResponse, x_pastExcitation, x_filteredPast, x_chosenPulses, x_trialPulses, x_pulseSigns, x_excitation, x_receivedFields) (nI sd) (nI l) := by
  have t := sx_fp7 hN hsd (L := l + 4) (by omega) (by omega) hH h N 0 (by omega)
  rw [sp_fl0] at t
  exact nm_r (nI_add l 4) (Exists.intro _ t)
theorem sx_fe15 {P N T : Nat} {x_pending : Int32} {x_encodedStream : Int64} {x_reflectionLevels x_pulseLevels x_memory x_history x_output x_fields x_frameCounts x_reflections x_samples x_rawReflections x_target x_impulseResponse x_pastExcitation x_filteredPast x_chosenPulses x_trialPulses x_pulseSigns x_excitation x_receivedFields : Nat → Int32} {x_correlation x_predictor x_oldPredictor : Nat → Int64} {post : SX → Prop} {J : _} {i : Nat} (hi : i < 32)
    (hJ : J (nI (i + 1)) x_reflectionLevels x_pulseLevels x_memory x_history x_output x_fields x_frameCounts x_reflections x_samples x_rawReflections x_correlation x_predictor x_oldPredictor x_target x_impulseResponse x_pastExcitation (upd x_filteredPast i (sp_cy x_pastExcitation x_impulseResponse i)) x_chosenPulses x_trialPulses x_pulseSigns x_excitation x_receivedFields) :
    ∀ d t, t + d = i + 1 → wX_filterPastExcitation_15 post J (nI i) (nI P) (nI N) (nI T) x_pending x_encodedStream x_reflectionLevels x_pulseLevels x_memory x_history x_output x_fields x_frameCounts x_reflections x_samples x_rawReflections x_correlation x_predictor x_oldPredictor x_target x_impulseResponse x_pastExcitation x_filteredPast x_chosenPulses x_trialPulses x_pulseSigns x_excitation x_receivedFields (d + 1) (sp_sm (fun j => (x_pastExcitation j).toInt64 * (x_impulseResponse (i - j)).toInt64) t) (nI t) := by
  intro d
  induction d with
  | zero =>
    intro t ht
    obtain rfl : t = i + 1 := by omega
    refine br_t (nI_lt (by omega) (by omega)) (sx_sat ⟨vp_in_nI (by omega) (by omega), ?_⟩)
    exact nm_r (by rw [nI_clamp (by omega)]; rfl) (nm_r (nI_1 i) hJ)
  | succ d ih =>
    intro t ht
    refine br_f (nI_nlt (by omega) (by omega)) ⟨vp_in_nI (by omega) (by omega), pk_in (i - t) 32 (by omega) (pk_sub (by omega)), nm_r ?_ (nm_r (nI_1 t) (ih (t + 1) (by omega)))⟩
    rw [pk_sub (by omega), nI_clamp (by omega), nI_clamp (by omega)]
    rfl
theorem sx_fe2 {P N T : Nat} {x_pending : Int32} {x_encodedStream : Int64} {x_reflectionLevels x_pulseLevels x_memory x_history x_output x_fields x_frameCounts x_reflections x_samples x_rawReflections x_target x_impulseResponse x_pastExcitation x_filteredPast x_chosenPulses x_trialPulses x_pulseSigns x_excitation x_receivedFields : Nat → Int32} {x_correlation x_predictor x_oldPredictor : Nat → Int64} {post : SX → Prop} {v hh : Nat → Int32} (hN : N ≤ 32) (hv : ∀ j, j < N → x_pastExcitation j = v j) (hh' : ∀ j, j < N → x_impulseResponse j = hh j)
    (h : post ((nI P), (nI N), (nI T), x_pending, x_encodedStream, x_reflectionLevels, x_pulseLevels, x_memory, x_history, x_output, x_fields, x_frameCounts, x_reflections, x_samples, x_rawReflections, x_correlation, x_predictor, x_oldPredictor, x_target, x_impulseResponse, x_pastExcitation, (sp_fl (sp_cy v hh) N x_filteredPast), x_chosenPulses, x_trialPulses, x_pulseSigns, x_excitation, x_receivedFields)) :
    ∀ d i, i + d = N → wX_filterPastExcitation_2 post (nI P) (nI N) (nI T) x_pending x_encodedStream (d + 1) (nI i) x_reflectionLevels x_pulseLevels x_memory x_history x_output x_fields x_frameCounts x_reflections x_samples x_rawReflections x_correlation x_predictor x_oldPredictor x_target x_impulseResponse x_pastExcitation (sp_fl (sp_cy v hh) i x_filteredPast) x_chosenPulses x_trialPulses x_pulseSigns x_excitation x_receivedFields := by
  intro d
  induction d with
  | zero =>
    intro i hi
    obtain rfl : i = N := by omega
    exact br_t (nI_le (by omega) (by omega)) h
  | succ d ih =>
    intro i hi
    refine br_f (nI_ge (by omega) (by omega)) ⟨i + 1 + 1, sx_fe15 (by omega) ?_ (i + 1) 0 (by omega)⟩
    rw [sp_cy_c (v' := v) (h' := hh) (fun j hj => hv j (by omega)) (fun j hj => hh' j (by omega)), sp_flS]
    exact ih (i + 1) (by omega)
theorem sx_fe {P N T : Nat} {x_pending : Int32} {x_encodedStream : Int64} {x_reflectionLevels x_pulseLevels x_memory x_history x_output x_fields x_frameCounts x_reflections x_samples x_rawReflections x_target x_impulseResponse x_pastExcitation x_filteredPast x_chosenPulses x_trialPulses x_pulseSigns x_excitation x_receivedFields : Nat → Int32} {x_correlation x_predictor x_oldPredictor : Nat → Int64} {post : SX → Prop} {v hh : Nat → Int32} (hN : N ≤ 32) (hv : ∀ j, j < N → x_pastExcitation j = v j) (hh' : ∀ j, j < N → x_impulseResponse j = hh j)
    (h : post ((nI P), (nI N), (nI T), x_pending, x_encodedStream, x_reflectionLevels, x_pulseLevels, x_memory, x_history, x_output, x_fields, x_frameCounts, x_reflections, x_samples, x_rawReflections, x_correlation, x_predictor, x_oldPredictor, x_target, x_impulseResponse, x_pastExcitation, (sp_fl (sp_cy v hh) N x_filteredPast), x_chosenPulses, x_trialPulses, x_pulseSigns, x_excitation, x_receivedFields)) : wpX_filterPastExcitation post ((nI P), (nI N), (nI T), x_pending, x_encodedStream, x_reflectionLevels, x_pulseLevels, x_memory, x_history, x_output, x_fields, x_frameCounts, x_reflections, x_samples, x_rawReflections, x_correlation, x_predictor, x_oldPredictor, x_target, x_impulseResponse, x_pastExcitation, x_filteredPast, x_chosenPulses, x_trialPulses, x_pulseSigns, x_excitation, x_receivedFields) := by
  have t := sx_fe2 hN hv hh' h N 0 (by omega)
  rw [sp_fl0] at t
  exact Exists.intro _ t
theorem sx_ae5 {P N T : Nat} {x_pending : Int32} {x_encodedStream : Int64} {x_reflectionLevels x_pulseLevels x_memory x_history x_output x_fields x_frameCounts x_reflections x_samples x_rawReflections x_target x_impulseResponse x_pastExcitation x_filteredPast x_chosenPulses x_trialPulses x_pulseSigns x_excitation x_receivedFields : Nat → Int32} {x_correlation x_predictor x_oldPredictor : Nat → Int64} {post : Int64 → Prop} {g : Int32} (hN : N ≤ 32) (h : post (sp_ea x_target x_filteredPast N g)) :
    ∀ d t, t + d = N → wX_adaptiveError_5 post g (nI P) (nI N) (nI T) x_pending x_encodedStream x_reflectionLevels x_pulseLevels x_memory x_history x_output x_fields x_frameCounts x_reflections x_samples x_rawReflections x_correlation x_predictor x_oldPredictor x_target x_impulseResponse x_pastExcitation x_filteredPast x_chosenPulses x_trialPulses x_pulseSigns x_excitation x_receivedFields (d + 1) (sp_sm (fun n => sp_sq (256 * x_target n - 37 * g * x_filteredPast n)) t) (nI t) := by
  intro d
  induction d with
  | zero =>
    intro t ht
    obtain rfl : t = N := by omega
    exact br_t (nI_le (by omega) (by omega)) h
  | succ d ih =>
    intro t ht
    refine br_f (nI_ge (by omega) (by omega)) ⟨vp_in_nI (by omega) (by omega), vp_in_nI (by omega) (by omega), nm_e (nm_r ?_ (nm_r (nI_1 t) (ih (t + 1) (by omega))))⟩
    rw [nI_clamp (by omega)]
    rfl
theorem sx_ae {P N T : Nat} {x_pending : Int32} {x_encodedStream : Int64} {x_reflectionLevels x_pulseLevels x_memory x_history x_output x_fields x_frameCounts x_reflections x_samples x_rawReflections x_target x_impulseResponse x_pastExcitation x_filteredPast x_chosenPulses x_trialPulses x_pulseSigns x_excitation x_receivedFields : Nat → Int32} {x_correlation x_predictor x_oldPredictor : Nat → Int64} {post : Int64 → Prop} {x y : Nat → Int32} {g : Int32} (hN : N ≤ 32) (hx : ∀ j, j < N → x_target j = x j) (hy : ∀ j, j < N → x_filteredPast j = y j)
    (h : post (sp_ea x y N g)) : wpX_adaptiveError post ((nI P), (nI N), (nI T), x_pending, x_encodedStream, x_reflectionLevels, x_pulseLevels, x_memory, x_history, x_output, x_fields, x_frameCounts, x_reflections, x_samples, x_rawReflections, x_correlation, x_predictor, x_oldPredictor, x_target, x_impulseResponse, x_pastExcitation, x_filteredPast, x_chosenPulses, x_trialPulses, x_pulseSigns, x_excitation, x_receivedFields) g :=
  Exists.intro (N + 1) (sx_ae5 hN (by rw [sp_ea_c g hx hy]; exact h) N 0 (by omega))
theorem sx_sa33 {P N T : Nat} {x_pending : Int32} {x_encodedStream : Int64} {x_reflectionLevels x_pulseLevels x_memory x_history x_output x_fields x_frameCounts x_reflections x_samples x_rawReflections x_target x_impulseResponse x_pastExcitation x_filteredPast x_chosenPulses x_trialPulses x_pulseSigns x_excitation x_receivedFields : Nat → Int32} {x_correlation x_predictor x_oldPredictor : Nat → Int64} {post : SX → Prop} {J : _} {x y : Nat → Int32} {E : Nat → Nat → Int64} {l : Nat} {s0 : Int64 × Nat × Nat} (hN : N ≤ 32)
    (hx : ∀ j, j < N → x_target j = x j) (hy : ∀ j, j < N → x_filteredPast j = y j) (hE : ∀ g, g < 8 → E l g = sp_ea x y N (nI g))
    (hJ : J (sp_in E l 8 s0).1 (nI (sp_in E l 8 s0).2.1) (nI (sp_in E l 8 s0).2.2) (nI (l + 1)) (nI P) (nI N) (nI T) x_pending x_encodedStream x_reflectionLevels x_pulseLevels x_memory x_history x_output x_fields x_frameCounts x_reflections x_samples x_rawReflections x_correlation x_predictor x_oldPredictor x_target x_impulseResponse x_pastExcitation x_filteredPast x_chosenPulses x_trialPulses x_pulseSigns x_excitation x_receivedFields) :
    ∀ d g, g + d = 8 → wX_searchAdaptive_33 post J (nI l) (nI P) (nI N) (nI T) x_pending x_encodedStream x_reflectionLevels x_pulseLevels x_memory x_history x_output x_fields x_frameCounts x_reflections x_samples x_rawReflections x_correlation x_predictor x_oldPredictor x_target x_impulseResponse x_pastExcitation x_filteredPast x_chosenPulses x_trialPulses x_pulseSigns x_excitation x_receivedFields (d + 1) (sp_in E l g s0).1 (nI (sp_in E l g s0).2.1) (nI (sp_in E l g s0).2.2) (nI g) := by
  intro d
  induction d with
  | zero =>
    intro g hg
    obtain rfl : g = 8 := by omega
    exact br_t (nI_le (a := 8) (by omega) (by omega)) (nm_r (nI_1 l) hJ)
  | succ d ih =>
    intro g hg
    refine br_f (nI_ge (b := 8) (by omega) (by omega)) (sx_ae hN hx hy ?_)
    rw [← hE g (by omega)]
    have t := ih (g + 1) (by omega)
    by_cases c : E l g < (sp_in E l g s0).1
    · rw [show sp_in E l (g + 1) s0 = (E l g, l, g) from if_pos c] at t
      exact br_f (Int64.not_le.mpr c) (nm_r (nI_1 g) t)
    · rw [show sp_in E l (g + 1) s0 = sp_in E l g s0 from if_neg c] at t
      exact br_t (Int64.not_lt.mp c) (nm_r (nI_1 g) t)
theorem sp_out_s {E : Nat → Nat → Int64} {G c : Nat} : sp_out E G (c + 1) = sp_in E c G (sp_out E G c) := rfl
theorem sx_sa12 {P N T : Nat} {x_pending : Int32} {x_encodedStream : Int64} {x_reflectionLevels x_pulseLevels x_memory x_history x_output x_fields x_frameCounts x_reflections x_samples x_rawReflections x_target x_impulseResponse x_chosenPulses x_trialPulses x_pulseSigns x_excitation x_receivedFields : Nat → Int32} {x_correlation x_predictor x_oldPredictor : Nat → Int64} {post : SX → Prop} {x hh H : Nat → Int32} {E : Nat → Nat → Int64} (hN : N ≤ 32)
    (hx : ∀ j, j < N → x_target j = x j) (hh' : ∀ j, j < N → x_impulseResponse j = hh j) (hH : ∀ j, 1 ≤ j → j ≤ 64 → x_history (0 * 64 + j - 1) = H j)
    (hE : ∀ l g, l < 32 → g < 8 → E l g = sp_ea x (sp_cy (sp_pv H (l + 4)) hh) N (nI g))
    (h : ∀ pe fp, post ((nI P), (nI N), (nI T), x_pending, x_encodedStream, x_reflectionLevels, x_pulseLevels, x_memory, x_history, x_output, (upd (upd x_fields 0 (nI (sp_out E 8 32).2.1)) 1 (nI (sp_out E 8 32).2.2)), x_frameCounts, x_reflections, x_samples, x_rawReflections, x_correlation, x_predictor, x_oldPredictor, x_target, x_impulseResponse, pe, fp, x_chosenPulses, x_trialPulses, x_pulseSigns, x_excitation, x_receivedFields)) :
    ∀ d l pe fp, l + d = 32 → wX_searchAdaptive_12 post (d + 1) (sp_out E 8 l).1 (nI (sp_out E 8 l).2.1) (nI (sp_out E 8 l).2.2) (nI l) (nI P) (nI N) (nI T) x_pending x_encodedStream x_reflectionLevels x_pulseLevels x_memory x_history x_output x_fields x_frameCounts x_reflections x_samples x_rawReflections x_correlation x_predictor x_oldPredictor x_target x_impulseResponse pe fp x_chosenPulses x_trialPulses x_pulseSigns x_excitation x_receivedFields := by
  intro d
  induction d with
  | zero =>
    intro l pe fp hl
    obtain rfl : l = 32 := by omega
    exact br_t (nI_le (a := 32) (by omega) (by omega)) (nm_e (nm_e (h pe fp)))
  | succ d ih =>
    intro l pe fp hl
    refine br_f (nI_ge (b := 32) (by omega) (by omega)) (sx_fp (sd := 0) hN (by omega) (by omega) hH ?_)
    refine sx_fe (v := sp_pv H (l + 4)) (hh := hh) hN (fun j hj => sp_fl_lo hj) hh' ?_
    refine ⟨8 + 1, sx_sa33 (E := E) (s0 := sp_out E 8 l) hN hx (fun j hj => sp_fl_lo hj) (fun g hg => hE l g (by omega) hg) ?_ 8 0 (by omega)⟩
    rw [← sp_out_s]
    exact ih (l + 1) _ _ (by omega)
theorem sx_sa {P N T : Nat} {x_pending : Int32} {x_encodedStream : Int64} {x_reflectionLevels x_pulseLevels x_memory x_history x_output x_fields x_frameCounts x_reflections x_samples x_rawReflections x_target x_impulseResponse x_pastExcitation x_filteredPast x_chosenPulses x_trialPulses x_pulseSigns x_excitation x_receivedFields : Nat → Int32} {x_correlation x_predictor x_oldPredictor : Nat → Int64} {post : SX → Prop} {x hh H : Nat → Int32} {E : Nat → Nat → Int64} (hN : N ≤ 32)
    (hx : ∀ j, j < N → x_target j = x j) (hh' : ∀ j, j < N → x_impulseResponse j = hh j) (hH : ∀ j, 1 ≤ j → j ≤ 64 → x_history (0 * 64 + j - 1) = H j)
    (hE : ∀ l g, l < 32 → g < 8 → E l g = sp_ea x (sp_cy (sp_pv H (l + 4)) hh) N (nI g))
    (h : ∀ pe fp, post ((nI P), (nI N), (nI T), x_pending, x_encodedStream, x_reflectionLevels, x_pulseLevels, x_memory, x_history, x_output, (upd (upd x_fields 0 (nI (sp_out E 8 32).2.1)) 1 (nI (sp_out E 8 32).2.2)), x_frameCounts, x_reflections, x_samples, x_rawReflections, x_correlation, x_predictor, x_oldPredictor, x_target, x_impulseResponse, pe, fp, x_chosenPulses, x_trialPulses, x_pulseSigns, x_excitation, x_receivedFields)) : wpX_searchAdaptive post ((nI P), (nI N), (nI T), x_pending, x_encodedStream, x_reflectionLevels, x_pulseLevels, x_memory, x_history, x_output, x_fields, x_frameCounts, x_reflections, x_samples, x_rawReflections, x_correlation, x_predictor, x_oldPredictor, x_target, x_impulseResponse, x_pastExcitation, x_filteredPast, x_chosenPulses, x_trialPulses, x_pulseSigns, x_excitation, x_receivedFields) :=
  Exists.intro 33 (sx_sa12 hN hx hh' hH hE h 32 0 x_pastExcitation x_filteredPast (by omega))
def sp_x2 (x y : Nat → Int32) (g n : Nat) : Int32 := sp_sat (x n - ((37 * nI g * y n + 128) >>> ((8 : Int32) &&& 31)))
theorem sx_ra27 {P N T : Nat} {x_pending : Int32} {x_encodedStream : Int64} {x_reflectionLevels x_pulseLevels x_memory x_history x_output x_fields x_frameCounts x_reflections x_samples x_rawReflections x_target x_impulseResponse x_pastExcitation x_filteredPast x_chosenPulses x_trialPulses x_pulseSigns x_excitation x_receivedFields : Nat → Int32} {x_correlation x_predictor x_oldPredictor : Nat → Int64} {post : SX → Prop} {x y : Nat → Int32} {g : Nat} {x1 : Int32} (e1 : x1 = 37 * nI g) (hN : N ≤ 32)
    (hx : ∀ j, j < N → x_target j = x j) (hy : ∀ j, j < N → x_filteredPast j = y j)
    (h : post ((nI P), (nI N), (nI T), x_pending, x_encodedStream, x_reflectionLevels, x_pulseLevels, x_memory, x_history, x_output, x_fields, x_frameCounts, x_reflections, x_samples, x_rawReflections, x_correlation, x_predictor, x_oldPredictor, (sp_fl (sp_x2 x y g) N x_target), x_impulseResponse, x_pastExcitation, x_filteredPast, x_chosenPulses, x_trialPulses, x_pulseSigns, x_excitation, x_receivedFields)) :
    ∀ d i, i + d = N → wX_removeAdaptivePart_27 post x1 (nI P) (nI N) (nI T) x_pending x_encodedStream (d + 1) (nI i) x_reflectionLevels x_pulseLevels x_memory x_history x_output x_fields x_frameCounts x_reflections x_samples x_rawReflections x_correlation x_predictor x_oldPredictor (sp_fl (sp_x2 x y g) i x_target) x_impulseResponse x_pastExcitation x_filteredPast x_chosenPulses x_trialPulses x_pulseSigns x_excitation x_receivedFields := by
  subst e1
  intro d
  induction d with
  | zero =>
    intro i hi
    obtain rfl : i = N := by omega
    exact br_t (nI_le (by omega) (by omega)) h
  | succ d ih =>
    intro i hi
    refine br_f (nI_ge (by omega) (by omega)) ⟨vp_in_nI (by omega) (by omega), vp_in_nI (by omega) (by omega), sx_satE (v := sp_x2 x y g i) ?_ ⟨vp_in_nI (by omega) (by omega), nm_r ?_ (nm_r (nI_1 i) (ih (i + 1) (by omega)))⟩⟩
    · rw [nI_clamp (by omega), sp_fl_hi (Nat.le_refl i), hx i (by omega), hy i (by omega)]
      rfl
    · rw [nI_clamp (by omega)]
      exact sp_flS
theorem sx_ra {P N T : Nat} {x_pending : Int32} {x_encodedStream : Int64} {x_reflectionLevels x_pulseLevels x_memory x_history x_output x_fields x_frameCounts x_reflections x_samples x_rawReflections x_target x_impulseResponse x_pastExcitation x_filteredPast x_chosenPulses x_trialPulses x_pulseSigns x_excitation x_receivedFields : Nat → Int32} {x_correlation x_predictor x_oldPredictor : Nat → Int64} {post : SX → Prop} {x hh H : Nat → Int32} {l g : Nat} (hN : N ≤ 32) (hl : l < 32)
    (hx : ∀ j, j < N → x_target j = x j) (hh' : ∀ j, j < N → x_impulseResponse j = hh j) (hH : ∀ j, 1 ≤ j → j ≤ 64 → x_history (0 * 64 + j - 1) = H j)
    (hfl : x_fields 0 = nI l) (hfg : x_fields 1 = nI g)
    (h : ∀ pe fp, post ((nI P), (nI N), (nI T), x_pending, x_encodedStream, x_reflectionLevels, x_pulseLevels, x_memory, x_history, x_output, x_fields, x_frameCounts, x_reflections, x_samples, x_rawReflections, x_correlation, x_predictor, x_oldPredictor, (sp_fl (sp_x2 x (sp_cy (sp_pv H (l + 4)) hh) g) N x_target), x_impulseResponse, pe, fp, x_chosenPulses, x_trialPulses, x_pulseSigns, x_excitation, x_receivedFields)) : wpX_removeAdaptivePart post ((nI P), (nI N), (nI T), x_pending, x_encodedStream, x_reflectionLevels, x_pulseLevels, x_memory, x_history, x_output, x_fields, x_frameCounts, x_reflections, x_samples, x_rawReflections, x_correlation, x_predictor, x_oldPredictor, x_target, x_impulseResponse, x_pastExcitation, x_filteredPast, x_chosenPulses, x_trialPulses, x_pulseSigns, x_excitation, x_receivedFields) := by
  refine nm_r (e' := 37 * nI g) (by rw [hfg]) ?_
  rw [hfl]
  refine sx_fp (sd := 0) hN (by omega) hl hH ?_
  refine sx_fe (v := sp_pv H (l + 4)) (hh := hh) hN (fun j hj => sp_fl_lo hj) hh' ?_
  have t := sx_ra27 (x_target := x_target) (x_pastExcitation := sp_fl (sp_pv H (l + 4)) N x_pastExcitation) (x_filteredPast := sp_fl (sp_cy (sp_pv H (l + 4)) hh) N x_filteredPast) (g := g) rfl hN hx (fun j hj => sp_fl_lo hj) (h _ _) N 0 (by omega)
  rw [sp_fl0] at t
  exact Exists.intro _ t
end
section
/-! the component: the pulse search -/
theorem sx_tp27 {P N T : Nat} {x_pending : Int32} {x_encodedStream : Int64} {x_reflectionLevels x_pulseLevels x_memory x_history x_output x_fields x_frameCounts x_reflections x_samples x_rawReflections x_target x_impulseResponse x_pastExcitation x_filteredPast x_chosenPulses x_trialPulses x_pulseSigns x_excitation x_receivedFields : Nat → Int32} {x_correlation x_predictor x_oldPredictor : Nat → Int64} {post : SX → Prop} {J : _} {x1 z0 : Int32} {sg i : Nat} (hi : i < 32) (hsg : sg < 2)
    (hJ : J (nI (i + 1)) x_reflectionLevels x_pulseLevels x_memory x_history x_output x_fields x_frameCounts x_reflections x_samples x_rawReflections x_correlation x_predictor x_oldPredictor x_target x_impulseResponse x_pastExcitation x_filteredPast x_chosenPulses (upd x_trialPulses i (x_chosenPulses i + (if sg = 0 then z0 else -z0))) x_pulseSigns x_excitation x_receivedFields) :
    wX_formTrialPulses_27 post J x1 (nI sg) (nI i) z0 (nI P) (nI N) (nI T) x_pending x_encodedStream x_reflectionLevels x_pulseLevels x_memory x_history x_output x_fields x_frameCounts x_reflections x_samples x_rawReflections x_correlation x_predictor x_oldPredictor x_target x_impulseResponse x_pastExcitation x_filteredPast x_chosenPulses x_trialPulses x_pulseSigns x_excitation x_receivedFields := by
  refine ⟨vp_in_nI hi (by omega), ?_⟩
  by_cases c : sg = 0
  · rw [if_pos c] at hJ
    exact br_t (by rw [c]; rfl) ⟨vp_in_nI hi (by omega), nm_r (by rw [nI_clamp (by omega)]) (nm_r (nI_1 i) hJ)⟩
  · rw [if_neg c] at hJ
    exact br_f (nI_ne0 (by omega) (by omega)) ⟨vp_in_nI hi (by omega), nm_r (by rw [nI_clamp (by omega)]) (nm_r (nI_1 i) hJ)⟩
theorem sx_tp2 {P N T : Nat} {x_pending : Int32} {x_encodedStream : Int64} {x_reflectionLevels x_pulseLevels x_memory x_history x_output x_fields x_frameCounts x_reflections x_samples x_rawReflections x_target x_impulseResponse x_pastExcitation x_filteredPast x_chosenPulses x_trialPulses x_pulseSigns x_excitation x_receivedFields : Nat → Int32} {x_correlation x_predictor x_oldPredictor : Nat → Int64} {post : SX → Prop} {hh z : Nat → Int32} {pos sg : Nat} (hN : N ≤ 32) (hpos : pos < 64) (hsg : sg < 2) (hh' : ∀ j, j < N → x_impulseResponse j = hh j) (hz : ∀ j, j < N → x_chosenPulses j = z j)
    (h : post ((nI P), (nI N), (nI T), x_pending, x_encodedStream, x_reflectionLevels, x_pulseLevels, x_memory, x_history, x_output, x_fields, x_frameCounts, x_reflections, x_samples, x_rawReflections, x_correlation, x_predictor, x_oldPredictor, x_target, x_impulseResponse, x_pastExcitation, x_filteredPast, x_chosenPulses, (sp_fl (fun n => z n + sp_pc hh pos sg n) N x_trialPulses), x_pulseSigns, x_excitation, x_receivedFields)) :
    ∀ d i, i + d = N → wX_formTrialPulses_2 post (nI pos) (nI sg) (nI P) (nI N) (nI T) x_pending x_encodedStream (d + 1) (nI i) x_reflectionLevels x_pulseLevels x_memory x_history x_output x_fields x_frameCounts x_reflections x_samples x_rawReflections x_correlation x_predictor x_oldPredictor x_target x_impulseResponse x_pastExcitation x_filteredPast x_chosenPulses (sp_fl (fun n => z n + sp_pc hh pos sg n) i x_trialPulses) x_pulseSigns x_excitation x_receivedFields := by
  intro d
  induction d with
  | zero =>
    intro i hi
    obtain rfl : i = N := by omega
    exact br_t (nI_le (by omega) (by omega)) h
  | succ d ih =>
    intro i hi
    have t := ih (i + 1) (by omega)
    rw [← sp_flS] at t
    refine br_f (nI_ge (by omega) (by omega)) ?_
    by_cases c : pos ≤ i
    · refine br_t (nI_le c (by omega)) ⟨pk_in (i - pos) 32 (by omega) (pk_sub c), sx_tp27 (by omega) hsg ?_⟩
      rw [pk_sub c, nI_clamp (by omega), hh' (i - pos) (by omega), hz i (by omega)]
      have e : sp_pc hh pos sg i = (if sg = 0 then hh (i - pos) else -hh (i - pos)) := if_neg (by omega)
      rw [← e]
      exact t
    · refine br_f (nI_ge (by omega) (by omega)) (sx_tp27 (by omega) hsg ?_)
      have e : (if sg = 0 then (0 : Int32) else -0) = sp_pc hh pos sg i := by
        rw [show sp_pc hh pos sg i = 0 from if_pos (by omega)]
        split
        · rfl
        · rfl
      rw [e, hz i (by omega)]
      exact t
theorem sx_tp {P N T : Nat} {x_pending : Int32} {x_encodedStream : Int64} {x_reflectionLevels x_pulseLevels x_memory x_history x_output x_fields x_frameCounts x_reflections x_samples x_rawReflections x_target x_impulseResponse x_pastExcitation x_filteredPast x_chosenPulses x_trialPulses x_pulseSigns x_excitation x_receivedFields : Nat → Int32} {x_correlation x_predictor x_oldPredictor : Nat → Int64} {post : SX → Prop} {hh z : Nat → Int32} {pos sg : Nat} (hN : N ≤ 32) (hpos : pos < 64) (hsg : sg < 2) (hh' : ∀ j, j < N → x_impulseResponse j = hh j) (hz : ∀ j, j < N → x_chosenPulses j = z j)
    (h : post ((nI P), (nI N), (nI T), x_pending, x_encodedStream, x_reflectionLevels, x_pulseLevels, x_memory, x_history, x_output, x_fields, x_frameCounts, x_reflections, x_samples, x_rawReflections, x_correlation, x_predictor, x_oldPredictor, x_target, x_impulseResponse, x_pastExcitation, x_filteredPast, x_chosenPulses, (sp_fl (fun n => z n + sp_pc hh pos sg n) N x_trialPulses), x_pulseSigns, x_excitation, x_receivedFields)) : wpX_formTrialPulses post ((nI P), (nI N), (nI T), x_pending, x_encodedStream, x_reflectionLevels, x_pulseLevels, x_memory, x_history, x_output, x_fields, x_frameCounts, x_reflections, x_samples, x_rawReflections, x_correlation, x_predictor, x_oldPredictor, x_target, x_impulseResponse, x_pastExcitation, x_filteredPast, x_chosenPulses, x_trialPulses, x_pulseSigns, x_excitation, x_receivedFields) (nI pos) (nI sg) := by
  have t := sx_tp2 hN hpos hsg hh' hz h N 0 (by omega)
  rw [sp_fl0] at t
  exact Exists.intro _ t
theorem sx_pe5 {P N T : Nat} {x_pending : Int32} {x_encodedStream : Int64} {x_reflectionLevels x_pulseLevels x_memory x_history x_output x_fields x_frameCounts x_reflections x_samples x_rawReflections x_target x_impulseResponse x_pastExcitation x_filteredPast x_chosenPulses x_trialPulses x_pulseSigns x_excitation x_receivedFields : Nat → Int32} {x_correlation x_predictor x_oldPredictor : Nat → Int64} {post : Int64 → Prop} {g : Int32} (hN : N ≤ 32) (h : post (sp_ef x_target x_trialPulses N g)) :
    ∀ d t, t + d = N → wX_pulseError_5 post g (nI P) (nI N) (nI T) x_pending x_encodedStream x_reflectionLevels x_pulseLevels x_memory x_history x_output x_fields x_frameCounts x_reflections x_samples x_rawReflections x_correlation x_predictor x_oldPredictor x_target x_impulseResponse x_pastExcitation x_filteredPast x_chosenPulses x_trialPulses x_pulseSigns x_excitation x_receivedFields (d + 1) (sp_sm (fun n => sp_sq (4096 * x_target n - g * x_trialPulses n)) t) (nI t) := by
  intro d
  induction d with
  | zero =>
    intro t ht
    obtain rfl : t = N := by omega
    exact br_t (nI_le (by omega) (by omega)) h
  | succ d ih =>
    intro t ht
    refine br_f (nI_ge (by omega) (by omega)) ⟨vp_in_nI (by omega) (by omega), vp_in_nI (by omega) (by omega), nm_e (nm_r ?_ (nm_r (nI_1 t) (ih (t + 1) (by omega))))⟩
    rw [nI_clamp (by omega)]
    rfl
theorem sx_pe {P N T : Nat} {x_pending : Int32} {x_encodedStream : Int64} {x_reflectionLevels x_pulseLevels x_memory x_history x_output x_fields x_frameCounts x_reflections x_samples x_rawReflections x_target x_impulseResponse x_pastExcitation x_filteredPast x_chosenPulses x_trialPulses x_pulseSigns x_excitation x_receivedFields : Nat → Int32} {x_correlation x_predictor x_oldPredictor : Nat → Int64} {post : Int64 → Prop} {x z : Nat → Int32} {g : Int32} (hN : N ≤ 32) (hx : ∀ j, j < N → x_target j = x j) (hz : ∀ j, j < N → x_trialPulses j = z j)
    (h : post (sp_ef x z N g)) : wpX_pulseError post ((nI P), (nI N), (nI T), x_pending, x_encodedStream, x_reflectionLevels, x_pulseLevels, x_memory, x_history, x_output, x_fields, x_frameCounts, x_reflections, x_samples, x_rawReflections, x_correlation, x_predictor, x_oldPredictor, x_target, x_impulseResponse, x_pastExcitation, x_filteredPast, x_chosenPulses, x_trialPulses, x_pulseSigns, x_excitation, x_receivedFields) g :=
  Exists.intro (N + 1) (sx_pe5 hN (by rw [sp_ef_c g hx hz]; exact h) N 0 (by omega))
theorem sx_st49 {P N T : Nat} {x_pending : Int32} {x_encodedStream : Int64} {x_reflectionLevels x_pulseLevels x_memory x_history x_output x_fields x_frameCounts x_reflections x_samples x_rawReflections x_target x_impulseResponse x_pastExcitation x_filteredPast x_chosenPulses x_trialPulses x_pulseSigns x_excitation x_receivedFields : Nat → Int32} {x_correlation x_predictor x_oldPredictor : Nat → Int64} {post : SX → Prop} {J16 J28 : _} {x z : Nat → Int32} {E : Nat → Nat → Int64} {x1 : Int32} {sl sg c : Nat} {s0 : Int64 × Nat × Nat} (hN : N ≤ 32)
    (hc : c = 2 * sl + sg) (hsg : sg < 2) (hx : ∀ j, j < N → x_target j = x j) (hz : ∀ j, j < N → x_trialPulses j = z j) (hg : ∀ j, j < 16 → x_pulseLevels j = sp_fg j)
    (hE : ∀ g, g < 16 → E c g = sp_ef x z N (sp_fg g))
    (hJ : J28 (sp_in E c 16 s0).1 (nI ((sp_in E c 16 s0).2.1 / 2)) (nI ((sp_in E c 16 s0).2.1 % 2)) (nI (sp_in E c 16 s0).2.2) (nI (sg + 1)) (nI P) (nI N) (nI T) x_pending x_encodedStream x_reflectionLevels x_pulseLevels x_memory x_history x_output x_fields x_frameCounts x_reflections x_samples x_rawReflections x_correlation x_predictor x_oldPredictor x_target x_impulseResponse x_pastExcitation x_filteredPast x_chosenPulses x_trialPulses x_pulseSigns x_excitation x_receivedFields) :
    ∀ d g, g + d = 16 → wX_searchTrack_49 post J16 J28 x1 (nI sl) (nI sg) (nI P) (nI N) (nI T) x_pending x_encodedStream x_reflectionLevels x_pulseLevels x_memory x_history x_output x_fields x_frameCounts x_reflections x_samples x_rawReflections x_correlation x_predictor x_oldPredictor x_target x_impulseResponse x_pastExcitation x_filteredPast x_chosenPulses x_trialPulses x_pulseSigns x_excitation x_receivedFields (d + 1) (sp_in E c g s0).1 (nI ((sp_in E c g s0).2.1 / 2)) (nI ((sp_in E c g s0).2.1 % 2)) (nI (sp_in E c g s0).2.2) (nI g) := by
  intro d
  induction d with
  | zero =>
    intro g hg'
    obtain rfl : g = 16 := by omega
    exact br_t (nI_le (a := 16) (by omega) (by omega)) (nm_r (nI_1 sg) hJ)
  | succ d ih =>
    intro g hg'
    refine br_f (nI_ge (b := 16) (by omega) (by omega)) ⟨vp_in_nI (by omega) (by omega), sx_pe hN hx hz ?_⟩
    rw [nI_clamp (by omega), hg g (by omega), ← hE g (by omega)]
    have t := ih (g + 1) (by omega)
    by_cases q : E c g < (sp_in E c g s0).1
    · rw [show sp_in E c (g + 1) s0 = (E c g, c, g) from if_pos q] at t
      dsimp only at t
      rw [show c / 2 = sl from by omega, show c % 2 = sg from by omega] at t
      exact br_f (Int64.not_le.mpr q) (nm_r (nI_1 g) t)
    · rw [show sp_in E c (g + 1) s0 = sp_in E c g s0 from if_neg q] at t
      exact br_t (Int64.not_lt.mp q) (nm_r (nI_1 g) t)
theorem sx_st28 {P N T : Nat} {x_pending : Int32} {x_encodedStream : Int64} {x_reflectionLevels x_pulseLevels x_memory x_history x_output x_fields x_frameCounts x_reflections x_samples x_rawReflections x_target x_impulseResponse x_pastExcitation x_filteredPast x_chosenPulses x_pulseSigns x_excitation x_receivedFields : Nat → Int32} {x_correlation x_predictor x_oldPredictor : Nat → Int64} {post : SX → Prop} {J16 : _} {x hh z : Nat → Int32} {E : Nat → Nat → Int64} {t sl : Nat} (hN : N ≤ 32) (ht : t < 4) (hsl : sl < 8)
    (hx : ∀ j, j < N → x_target j = x j) (hh' : ∀ j, j < N → x_impulseResponse j = hh j) (hz : ∀ j, j < N → x_chosenPulses j = z j) (hg : ∀ j, j < 16 → x_pulseLevels j = sp_fg j)
    (hE : ∀ c g, E c g = sp_ef x (fun n => z n + sp_pc hh (t + 4 * (c / 2)) (c % 2) n) N (sp_fg g))
    (hJ : ∀ tp c, c = 2 * sl + 2 → J16 (sp_out E 16 c).1 (nI ((sp_out E 16 c).2.1 / 2)) (nI ((sp_out E 16 c).2.1 % 2)) (nI (sp_out E 16 c).2.2) (nI (sl + 1)) (nI P) (nI N) (nI T) x_pending x_encodedStream x_reflectionLevels x_pulseLevels x_memory x_history x_output x_fields x_frameCounts x_reflections x_samples x_rawReflections x_correlation x_predictor x_oldPredictor x_target x_impulseResponse x_pastExcitation x_filteredPast x_chosenPulses tp x_pulseSigns x_excitation x_receivedFields) :
    ∀ d sg c tp, sg + d = 2 → c = 2 * sl + sg → wX_searchTrack_28 post J16 (nI t) (nI sl) (d + 1) (sp_out E 16 c).1 (nI ((sp_out E 16 c).2.1 / 2)) (nI ((sp_out E 16 c).2.1 % 2)) (nI (sp_out E 16 c).2.2) (nI sg) (nI P) (nI N) (nI T) x_pending x_encodedStream x_reflectionLevels x_pulseLevels x_memory x_history x_output x_fields x_frameCounts x_reflections x_samples x_rawReflections x_correlation x_predictor x_oldPredictor x_target x_impulseResponse x_pastExcitation x_filteredPast x_chosenPulses tp x_pulseSigns x_excitation x_receivedFields := by
  intro d
  induction d with
  | zero =>
    intro sg c tp hs hc
    obtain rfl : sg = 2 := by omega
    exact br_t (nI_le (a := 2) (by omega) (by omega)) (nm_r (nI_1 sl) (hJ tp c hc))
  | succ d ih =>
    intro sg c tp hs hc
    have ep : nI t + 4 * nI sl = nI (t + 4 * sl) := by
      rw [show (4 : Int32) * nI sl = nI (4 * sl) from pk_mul 4 sl, nI_add]
    refine br_f (nI_ge (b := 2) (by omega) (by omega)) ?_
    rw [ep]
    refine sx_tp hN (by omega) (by omega) hh' hz ?_
    refine ⟨16 + 1, sx_st49 (E := E) (c := c) (s0 := sp_out E 16 c) (z := fun n => z n + sp_pc hh (t + 4 * sl) sg n) hN hc (by omega) hx (fun j hj => sp_fl_lo hj) hg (fun g _ => ?_) ?_ 16 0 (by omega)⟩
    · rw [hE, show c / 2 = sl from by omega, show c % 2 = sg from by omega]
    · rw [← sp_out_s]
      exact ih (sg + 1) (c + 1) _ (by omega) (by omega)
theorem sx_st16 {P N T : Nat} {x_pending : Int32} {x_encodedStream : Int64} {x_reflectionLevels x_pulseLevels x_memory x_history x_output x_fields x_frameCounts x_reflections x_samples x_rawReflections x_target x_impulseResponse x_pastExcitation x_filteredPast x_chosenPulses x_pulseSigns x_excitation x_receivedFields : Nat → Int32} {x_correlation x_predictor x_oldPredictor : Nat → Int64} {post : SX → Prop} {x hh z : Nat → Int32} {E : Nat → Nat → Int64} {t : Nat} (hN : N ≤ 32) (ht : t < 4) (hT : T ≤ 8)
    (hx : ∀ j, j < N → x_target j = x j) (hh' : ∀ j, j < N → x_impulseResponse j = hh j) (hz : ∀ j, j < N → x_chosenPulses j = z j) (hg : ∀ j, j < 16 → x_pulseLevels j = sp_fg j)
    (hE : ∀ c g, E c g = sp_ef x (fun n => z n + sp_pc hh (t + 4 * (c / 2)) (c % 2) n) N (sp_fg g))
    (h : ∀ tp, post ((nI P), (nI N), (nI T), x_pending, x_encodedStream, x_reflectionLevels, x_pulseLevels, x_memory, x_history, x_output, (upd (upd (upd x_fields (3 + t) (nI ((sp_out E 16 (2 * T)).2.1 / 2))) (7 + t) (nI ((sp_out E 16 (2 * T)).2.1 % 2))) 2 (nI (sp_out E 16 (2 * T)).2.2)), x_frameCounts, x_reflections, x_samples, x_rawReflections, x_correlation, x_predictor, x_oldPredictor, x_target, x_impulseResponse, x_pastExcitation, x_filteredPast, x_chosenPulses, tp, x_pulseSigns, x_excitation, x_receivedFields)) :
    ∀ d sl c tp, sl + d = T → c = 2 * sl → wX_searchTrack_16 post (nI t) (d + 1) (sp_out E 16 c).1 (nI ((sp_out E 16 c).2.1 / 2)) (nI ((sp_out E 16 c).2.1 % 2)) (nI (sp_out E 16 c).2.2) (nI sl) (nI P) (nI N) (nI T) x_pending x_encodedStream x_reflectionLevels x_pulseLevels x_memory x_history x_output x_fields x_frameCounts x_reflections x_samples x_rawReflections x_correlation x_predictor x_oldPredictor x_target x_impulseResponse x_pastExcitation x_filteredPast x_chosenPulses tp x_pulseSigns x_excitation x_receivedFields := by
  intro d
  induction d with
  | zero =>
    intro sl c tp hs hc
    obtain rfl : sl = T := by omega
    subst hc
    refine br_t (nI_le (by omega) (by omega)) ⟨pk_in (3 + t) 34 (by omega) (nI_add 3 t), nm_r (e' := upd x_fields (3 + t) (nI ((sp_out E 16 (2 * sl)).2.1 / 2))) ?_ ⟨pk_in (7 + t) 34 (by omega) (nI_add 7 t), nm_r (e' := upd (upd x_fields (3 + t) (nI ((sp_out E 16 (2 * sl)).2.1 / 2))) (7 + t) (nI ((sp_out E 16 (2 * sl)).2.1 % 2))) ?_ (nm_e (h tp))⟩⟩
    · rw [show (3 : Int32) + nI t = nI (3 + t) from nI_add 3 t, nI_clamp (by omega)]
    · rw [show (7 : Int32) + nI t = nI (7 + t) from nI_add 7 t, nI_clamp (by omega)]
  | succ d ih =>
    intro sl c tp hs hc
    refine br_f (nI_ge (by omega) (by omega)) ⟨2 + 1, sx_st28 hN ht (by omega) hx hh' hz hg hE (fun tp' c' hc' => ?_) 2 0 c tp (by omega) (by omega)⟩
    exact ih (sl + 1) c' tp' (by omega) (by omega)
theorem sx_st {P N T : Nat} {x_pending : Int32} {x_encodedStream : Int64} {x_reflectionLevels x_pulseLevels x_memory x_history x_output x_fields x_frameCounts x_reflections x_samples x_rawReflections x_target x_impulseResponse x_pastExcitation x_filteredPast x_chosenPulses x_trialPulses x_pulseSigns x_excitation x_receivedFields : Nat → Int32} {x_correlation x_predictor x_oldPredictor : Nat → Int64} {post : SX → Prop} {x hh z : Nat → Int32} {E : Nat → Nat → Int64} {t : Nat} (hN : N ≤ 32) (ht : t < 4) (hT : T ≤ 8)
    (hx : ∀ j, j < N → x_target j = x j) (hh' : ∀ j, j < N → x_impulseResponse j = hh j) (hz : ∀ j, j < N → x_chosenPulses j = z j) (hg : ∀ j, j < 16 → x_pulseLevels j = sp_fg j)
    (hE : ∀ c g, E c g = sp_ef x (fun n => z n + sp_pc hh (t + 4 * (c / 2)) (c % 2) n) N (sp_fg g))
    (h : ∀ tp, post ((nI P), (nI N), (nI T), x_pending, x_encodedStream, x_reflectionLevels, x_pulseLevels, x_memory, x_history, x_output, (upd (upd (upd x_fields (3 + t) (nI ((sp_out E 16 (2 * T)).2.1 / 2))) (7 + t) (nI ((sp_out E 16 (2 * T)).2.1 % 2))) 2 (nI (sp_out E 16 (2 * T)).2.2)), x_frameCounts, x_reflections, x_samples, x_rawReflections, x_correlation, x_predictor, x_oldPredictor, x_target, x_impulseResponse, x_pastExcitation, x_filteredPast, x_chosenPulses, tp, x_pulseSigns, x_excitation, x_receivedFields)) : wpX_searchTrack post ((nI P), (nI N), (nI T), x_pending, x_encodedStream, x_reflectionLevels, x_pulseLevels, x_memory, x_history, x_output, x_fields, x_frameCounts, x_reflections, x_samples, x_rawReflections, x_correlation, x_predictor, x_oldPredictor, x_target, x_impulseResponse, x_pastExcitation, x_filteredPast, x_chosenPulses, x_trialPulses, x_pulseSigns, x_excitation, x_receivedFields) (nI t) := by
  have q := sx_st16 hN ht hT hx hh' hz hg hE h T 0 0 x_trialPulses (by omega) (by omega)
  rw [show (sp_out E 16 0).1 = 9223372036854775807 from rfl, show (sp_out E 16 0).2.1 = 0 from rfl, show (sp_out E 16 0).2.2 = 0 from rfl, Nat.zero_div, Nat.zero_mod, nI_0] at q
  exact Exists.intro (T + 1) q
theorem sx_kp32 {P N T : Nat} {x_pending : Int32} {x_encodedStream : Int64} {x_reflectionLevels x_pulseLevels x_memory x_history x_output x_fields x_frameCounts x_reflections x_samples x_rawReflections x_target x_impulseResponse x_pastExcitation x_filteredPast x_chosenPulses x_trialPulses x_pulseSigns x_excitation x_receivedFields : Nat → Int32} {x_correlation x_predictor x_oldPredictor : Nat → Int64} {post : SX → Prop} (hN : N ≤ 32) (h : post ((nI P), (nI N), (nI T), x_pending, x_encodedStream, x_reflectionLevels, x_pulseLevels, x_memory, x_history, x_output, x_fields, x_frameCounts, x_reflections, x_samples, x_rawReflections, x_correlation, x_predictor, x_oldPredictor, x_target, x_impulseResponse, x_pastExcitation, x_filteredPast, (sp_fl x_trialPulses N x_chosenPulses), x_trialPulses, x_pulseSigns, x_excitation, x_receivedFields)) :
    ∀ d i, i + d = N → wX_keepPulse_32 post (nI P) (nI N) (nI T) x_pending x_encodedStream (d + 1) (nI i) x_reflectionLevels x_pulseLevels x_memory x_history x_output x_fields x_frameCounts x_reflections x_samples x_rawReflections x_correlation x_predictor x_oldPredictor x_target x_impulseResponse x_pastExcitation x_filteredPast (sp_fl x_trialPulses i x_chosenPulses) x_trialPulses x_pulseSigns x_excitation x_receivedFields := by
  intro d
  induction d with
  | zero =>
    intro i hi
    obtain rfl : i = N := by omega
    exact br_t (nI_le (by omega) (by omega)) h
  | succ d ih =>
    intro i hi
    refine br_f (nI_ge (by omega) (by omega)) ⟨vp_in_nI (by omega) (by omega), vp_in_nI (by omega) (by omega), nm_r ?_ (nm_r (nI_1 i) (ih (i + 1) (by omega)))⟩
    rw [nI_clamp (by omega)]
    exact sp_flS
theorem sx_kp {P N T : Nat} {x_pending : Int32} {x_encodedStream : Int64} {x_reflectionLevels x_pulseLevels x_memory x_history x_output x_fields x_frameCounts x_reflections x_samples x_rawReflections x_target x_impulseResponse x_pastExcitation x_filteredPast x_chosenPulses x_trialPulses x_pulseSigns x_excitation x_receivedFields : Nat → Int32} {x_correlation x_predictor x_oldPredictor : Nat → Int64} {post : SX → Prop} {hh z : Nat → Int32} {t sl sg : Nat} (hN : N ≤ 32) (ht : t < 4) (hsl : sl < 8) (hsg : sg < 2)
    (hh' : ∀ j, j < N → x_impulseResponse j = hh j) (hz : ∀ j, j < N → x_chosenPulses j = z j) (hf1 : x_fields (3 + t) = nI sl) (hf2 : x_fields (7 + t) = nI sg)
    (h : ∀ tp cp, (∀ j, j < N → cp j = z j + sp_pc hh (t + 4 * sl) sg j) → post ((nI P), (nI N), (nI T), x_pending, x_encodedStream, x_reflectionLevels, x_pulseLevels, x_memory, x_history, x_output, x_fields, x_frameCounts, x_reflections, x_samples, x_rawReflections, x_correlation, x_predictor, x_oldPredictor, x_target, x_impulseResponse, x_pastExcitation, x_filteredPast, cp, tp, x_pulseSigns, x_excitation, x_receivedFields)) : wpX_keepPulse post ((nI P), (nI N), (nI T), x_pending, x_encodedStream, x_reflectionLevels, x_pulseLevels, x_memory, x_history, x_output, x_fields, x_frameCounts, x_reflections, x_samples, x_rawReflections, x_correlation, x_predictor, x_oldPredictor, x_target, x_impulseResponse, x_pastExcitation, x_filteredPast, x_chosenPulses, x_trialPulses, x_pulseSigns, x_excitation, x_receivedFields) (nI t) := by
  have ep : nI t + 4 * nI sl = nI (t + 4 * sl) := by
    rw [show (4 : Int32) * nI sl = nI (4 * sl) from pk_mul 4 sl, nI_add]
  refine And.intro (pk_in (3 + t) 34 (by omega) (nI_add 3 t)) (nm_r (e' := nI sl) ?_ ⟨pk_in (7 + t) 34 (by omega) (nI_add 7 t), nm_r (e' := nI sg) ?_ ?_⟩)
  · rw [show (3 : Int32) + nI t = nI (3 + t) from nI_add 3 t, nI_clamp (by omega)]
    exact hf1
  · rw [show (7 : Int32) + nI t = nI (7 + t) from nI_add 7 t, nI_clamp (by omega)]
    exact hf2
  · rw [ep]
    refine sx_tp hN (by omega) hsg hh' hz ?_
    have q := sx_kp32 (x_chosenPulses := x_chosenPulses) (x_trialPulses := sp_fl (fun n => z n + sp_pc hh (t + 4 * sl) sg n) N x_trialPulses) hN (h _ _ (fun j hj => by
      rw [sp_fl_lo hj, sp_fl_lo hj])) N 0 (by omega)
    rw [sp_fl0] at q
    exact Exists.intro _ q
theorem sx_sp25 {P N T : Nat} {x_pending : Int32} {x_encodedStream : Int64} {x_reflectionLevels x_pulseLevels x_memory x_history x_output x_fields x_frameCounts x_reflections x_samples x_rawReflections x_target x_impulseResponse x_pastExcitation x_filteredPast x_pulseSigns x_excitation x_receivedFields : Nat → Int32} {x_correlation x_predictor x_oldPredictor : Nat → Int64} {post : SX → Prop} {x hh : Nat → Int32} (hN : N ≤ 32) (hT1 : 1 ≤ T) (hT : T ≤ 8)
    (hx : ∀ j, j < N → x_target j = x j) (hh' : ∀ j, j < N → x_impulseResponse j = hh j) (hg : ∀ j, j < 16 → x_pulseLevels j = sp_fg j)
    (h : ∀ F tp cp, (∀ k, k < 4 → F (3 + k) = nI (sp_ch hh x N T 4 k / 2) ∧ F (7 + k) = nI (sp_ch hh x N T 4 k % 2)) → F 2 = nI (sp_gf hh x N T 3) →
      (∀ j, j < 2 ∨ 11 ≤ j → F j = x_fields j) → post ((nI P), (nI N), (nI T), x_pending, x_encodedStream, x_reflectionLevels, x_pulseLevels, x_memory, x_history, x_output, F, x_frameCounts, x_reflections, x_samples, x_rawReflections, x_correlation, x_predictor, x_oldPredictor, x_target, x_impulseResponse, x_pastExcitation, x_filteredPast, cp, tp, x_pulseSigns, x_excitation, x_receivedFields)) :
    ∀ d t F tp cp, t + d = 4 → (∀ j, j < N → cp j = sp_z hh (sp_ch hh x N T t) t j) →
      (∀ k, k < t → F (3 + k) = nI (sp_ch hh x N T t k / 2) ∧ F (7 + k) = nI (sp_ch hh x N T t k % 2)) → (1 ≤ t → F 2 = nI (sp_gf hh x N T (t - 1))) →
      (∀ j, j < 2 ∨ 11 ≤ j → F j = x_fields j) → wX_searchPulses_25 post (d + 1) (nI t) (nI P) (nI N) (nI T) x_pending x_encodedStream x_reflectionLevels x_pulseLevels x_memory x_history x_output F x_frameCounts x_reflections x_samples x_rawReflections x_correlation x_predictor x_oldPredictor x_target x_impulseResponse x_pastExcitation x_filteredPast cp tp x_pulseSigns x_excitation x_receivedFields := by
  intro d
  induction d with
  | zero =>
    intro t F tp cp ht hc hF h2 hf
    obtain rfl : t = 4 := by omega
    exact br_t (nI_le (a := 4) (by omega) (by omega)) (h F tp cp hF (h2 (by omega)) hf)
  | succ d ih =>
    intro t F tp cp ht hc hF h2 hf
    refine br_f (nI_ge (b := 4) (by omega) (by omega)) (sx_st (E := sp_et hh x N (sp_ch hh x N T t) t) hN (by omega) hT hx hh' hc hg (fun c g => rfl) (fun tp' => ?_))
    have bc := sp_ch_b (h := hh) (x := x) (N := N) (T := T) (by omega) (t + 1) t
    have ec : sp_ch hh x N T (t + 1) t = (sp_out (sp_et hh x N (sp_ch hh x N T t) t) 16 (2 * T)).2.1 := sp_ch_t
    rw [← ec]
    refine sx_kp (z := sp_z hh (sp_ch hh x N T t) t) (sl := sp_ch hh x N T (t + 1) t / 2) (sg := sp_ch hh x N T (t + 1) t % 2) hN (by omega) (by omega) (by omega) hh' hc ?_ ?_ (fun tp'' cp' hc' => nm_r (nI_1 t) (ih (t + 1) _ tp'' cp' (by omega) ?_ ?_ ?_ ?_))
    · rw [pk_un (by omega), pk_un (by omega), pk_us]
    · rw [pk_un (by omega), pk_us]
    · intro j hj
      rw [hc' j hj]
      show _ = sp_z hh (sp_ch hh x N T (t + 1)) t j + _
      rw [sp_z_c (ch := sp_ch hh x N T (t + 1)) (ch' := sp_ch hh x N T t) t (fun k hk => sp_ch_s (by omega))]
    · intro k hk
      by_cases e : k = t
      · subst e
        constructor
        · rw [pk_un (by omega), pk_un (by omega), pk_us]
        · rw [pk_un (by omega), pk_us]
      · have o := hF k (by omega)
        rw [sp_ch_s e]
        constructor
        · rw [pk_un (by omega), pk_un (by omega), pk_un (by omega)]
          exact o.1
        · rw [pk_un (by omega), pk_un (by omega), pk_un (by omega)]
          exact o.2
    · intro _
      rw [pk_us]
      rfl
    · intro j hj
      rw [pk_un (by omega), pk_un (by omega), pk_un (by omega)]
      exact hf j hj
theorem sx_sp2 {P N T : Nat} {x_pending : Int32} {x_encodedStream : Int64} {x_reflectionLevels x_pulseLevels x_memory x_history x_output x_fields x_frameCounts x_reflections x_samples x_rawReflections x_target x_impulseResponse x_pastExcitation x_filteredPast x_trialPulses x_pulseSigns x_excitation x_receivedFields : Nat → Int32} {x_correlation x_predictor x_oldPredictor : Nat → Int64} {post : SX → Prop} {x hh : Nat → Int32} (hN : N ≤ 32) (hT1 : 1 ≤ T) (hT : T ≤ 8)
    (hx : ∀ j, j < N → x_target j = x j) (hh' : ∀ j, j < N → x_impulseResponse j = hh j) (hg : ∀ j, j < 16 → x_pulseLevels j = sp_fg j)
    (h : ∀ F tp cp, (∀ k, k < 4 → F (3 + k) = nI (sp_ch hh x N T 4 k / 2) ∧ F (7 + k) = nI (sp_ch hh x N T 4 k % 2)) → F 2 = nI (sp_gf hh x N T 3) →
      (∀ j, j < 2 ∨ 11 ≤ j → F j = x_fields j) → post ((nI P), (nI N), (nI T), x_pending, x_encodedStream, x_reflectionLevels, x_pulseLevels, x_memory, x_history, x_output, F, x_frameCounts, x_reflections, x_samples, x_rawReflections, x_correlation, x_predictor, x_oldPredictor, x_target, x_impulseResponse, x_pastExcitation, x_filteredPast, cp, tp, x_pulseSigns, x_excitation, x_receivedFields)) :
    ∀ d i cp, i + d = N → (∀ j, j < i → cp j = 0) → wX_searchPulses_2 post (nI P) (nI N) (nI T) x_pending x_encodedStream (d + 1) (nI i) x_reflectionLevels x_pulseLevels x_memory x_history x_output x_fields x_frameCounts x_reflections x_samples x_rawReflections x_correlation x_predictor x_oldPredictor x_target x_impulseResponse x_pastExcitation x_filteredPast cp x_trialPulses x_pulseSigns x_excitation x_receivedFields := by
  intro d
  induction d with
  | zero =>
    intro i cp hi hc
    obtain rfl : i = N := by omega
    exact br_t (nI_le (by omega) (by omega)) ⟨4 + 1, sx_sp25 hN hT1 hT hx hh' hg h 4 0 x_fields x_trialPulses cp (by omega) (fun j hj => hc j hj) (fun k hk => absurd hk (by omega)) (fun z => absurd z (by omega)) (fun _ _ => rfl)⟩
  | succ d ih =>
    intro i cp hi hc
    refine br_f (nI_ge (by omega) (by omega)) ⟨vp_in_nI (by omega) (by omega), nm_e (nm_r (nI_1 i) (ih (i + 1) _ (by omega) ?_))⟩
    intro j hj
    rw [nI_clamp (by omega)]
    by_cases e : j = i
    · subst e
      rw [pk_us]
    · rw [pk_un e]
      exact hc j (by omega)
theorem sx_sp {P N T : Nat} {x_pending : Int32} {x_encodedStream : Int64} {x_reflectionLevels x_pulseLevels x_memory x_history x_output x_fields x_frameCounts x_reflections x_samples x_rawReflections x_target x_impulseResponse x_pastExcitation x_filteredPast x_chosenPulses x_trialPulses x_pulseSigns x_excitation x_receivedFields : Nat → Int32} {x_correlation x_predictor x_oldPredictor : Nat → Int64} {post : SX → Prop} {x hh : Nat → Int32} (hN : N ≤ 32) (hT1 : 1 ≤ T) (hT : T ≤ 8)
    (hx : ∀ j, j < N → x_target j = x j) (hh' : ∀ j, j < N → x_impulseResponse j = hh j) (hg : ∀ j, j < 16 → x_pulseLevels j = sp_fg j)
    (h : ∀ F tp cp, (∀ k, k < 4 → F (3 + k) = nI (sp_ch hh x N T 4 k / 2) ∧ F (7 + k) = nI (sp_ch hh x N T 4 k % 2)) → F 2 = nI (sp_gf hh x N T 3) →
      (∀ j, j < 2 ∨ 11 ≤ j → F j = x_fields j) → post ((nI P), (nI N), (nI T), x_pending, x_encodedStream, x_reflectionLevels, x_pulseLevels, x_memory, x_history, x_output, F, x_frameCounts, x_reflections, x_samples, x_rawReflections, x_correlation, x_predictor, x_oldPredictor, x_target, x_impulseResponse, x_pastExcitation, x_filteredPast, cp, tp, x_pulseSigns, x_excitation, x_receivedFields)) : wpX_searchPulses post ((nI P), (nI N), (nI T), x_pending, x_encodedStream, x_reflectionLevels, x_pulseLevels, x_memory, x_history, x_output, x_fields, x_frameCounts, x_reflections, x_samples, x_rawReflections, x_correlation, x_predictor, x_oldPredictor, x_target, x_impulseResponse, x_pastExcitation, x_filteredPast, x_chosenPulses, x_trialPulses, x_pulseSigns, x_excitation, x_receivedFields) :=
  Exists.intro (N + 1) (sx_sp2 hN hT1 hT hx hh' hg h N 0 x_chosenPulses (by omega) (fun j hj => absurd hj (by omega)))
end
section
/-! the component: packing, and rule D -/
def sp_ks (q : Nat → Nat) : Nat → Nat
  | 0 => 0
  | m + 1 => sp_pj (sp_ks q m) (q m) 4
def sp_ts (b : Nat) (sl sg : Nat → Nat) : Nat → Nat
  | 0 => b
  | t + 1 => sp_pj (sp_pj (sp_ts b sl sg t) (sl t) 3) (sg t) 1
def sp_hs (q : Nat → Nat) (P l ga : Nat) : Nat := sp_pj (sp_pj (sp_ks q P) l 5) ga 3
def sp_fs (q : Nat → Nat) (P l ga : Nat) (sl sg : Nat → Nat) (gf : Nat) : Nat := sp_pj (sp_ts (sp_hs q P l ga) sl sg 4) gf 4
theorem sp_ks_b {q : Nat → Nat} {P : Nat} (hq : ∀ m, m < P → q m < 16) : ∀ m, m ≤ P → sp_ks q m < 2 ^ (4 * m) := by
  intro m
  induction m with
  | zero => intro _; exact Nat.lt_succ_self 0
  | succ m ih => intro h; exact sp_pj_b (c := 4 * m) (ih (by omega)) (hq m (by omega))
theorem sp_hs_b {q : Nat → Nat} {P l ga : Nat} (hq : ∀ m, m < P → q m < 16) (hl : l < 32) (hg : ga < 8) : sp_hs q P l ga < 2 ^ (4 * P + 8) :=
  sp_pj_b (c := 4 * P + 5) (sp_pj_b (sp_ks_b hq P (Nat.le_refl P)) hl) hg
theorem sp_ts_b {b c : Nat} {sl sg : Nat → Nat} (hb : b < 2 ^ c) (h1 : ∀ t, t < 4 → sl t < 8) (h2 : ∀ t, t < 4 → sg t < 2) : ∀ t, t ≤ 4 → sp_ts b sl sg t < 2 ^ (c + 4 * t) := by
  intro t
  induction t with
  | zero => intro _; exact hb
  | succ t ih => intro h; exact sp_pj_b (c := c + 4 * t + 3) (sp_pj_b (ih (by omega)) (h1 t (by omega))) (h2 t (by omega))
theorem sp_fs_b {q : Nat → Nat} {P l ga gf : Nat} {sl sg : Nat → Nat} (hq : ∀ m, m < P → q m < 16) (hl : l < 32) (hg : ga < 8) (h1 : ∀ t, t < 4 → sl t < 8) (h2 : ∀ t, t < 4 → sg t < 2) (hf : gf < 16) :
    sp_fs q P l ga sl sg gf < 2 ^ (4 * P + 28) :=
  sp_pj_b (c := 4 * P + 8 + 4 * 4) (sp_ts_b (sp_hs_b hq hl hg) h1 h2 4 (Nat.le_refl 4)) hf
theorem sx_pf71 {P N T : Nat} {x_pending : Int32} {x_encodedStream : Int64} {x_reflectionLevels x_pulseLevels x_memory x_history x_output x_fields x_frameCounts x_reflections x_samples x_rawReflections x_target x_impulseResponse x_pastExcitation x_filteredPast x_chosenPulses x_trialPulses x_pulseSigns x_excitation x_receivedFields : Nat → Int32} {x_correlation x_predictor x_oldPredictor : Nat → Int64} {post : SX → Prop} {b gf : Nat} {sl sg : Nat → Nat} (hP : P ≤ 6) (hb : b < 2 ^ (4 * P + 8)) (h1 : ∀ t, t < 4 → x_fields (3 + t) = nI (sl t) ∧ sl t < 8) (h2 : ∀ t, t < 4 → x_fields (7 + t) = nI (sg t) ∧ sg t < 2)
    (hf : x_fields 2 = nI gf) (hf' : gf < 16)
    (h : post ((nI P), (nI N), (nI T), x_pending, (lN (sp_pj (sp_ts b sl sg 4) gf 4 <<< (36 - 4 * P))), x_reflectionLevels, x_pulseLevels, x_memory, x_history, x_output, x_fields, x_frameCounts, x_reflections, x_samples, x_rawReflections, x_correlation, x_predictor, x_oldPredictor, x_target, x_impulseResponse, x_pastExcitation, x_filteredPast, x_chosenPulses, x_trialPulses, x_pulseSigns, x_excitation, x_receivedFields)) :
    ∀ d t, t + d = 4 → wX_packFields_71 post 0 (nI P) (nI N) (nI T) x_pending x_encodedStream x_reflectionLevels x_pulseLevels x_memory x_history x_output x_fields x_frameCounts x_reflections x_samples x_rawReflections x_correlation x_predictor x_oldPredictor x_target x_impulseResponse x_pastExcitation x_filteredPast x_chosenPulses x_trialPulses x_pulseSigns x_excitation x_receivedFields (d + 1) (lN (sp_ts b sl sg t)) (nI t) := by
  intro d
  induction d with
  | zero =>
    intro t ht
    obtain rfl : t = 4 := by omega
    have tb := sp_ts_b hb (fun t ht => (h1 t ht).2) (fun t ht => (h2 t ht).2) 4 (Nat.le_refl 4)
    refine br_t (nI_le (a := 4) (by omega) (by omega)) ⟨vp_in_nI (n := 2) (by omega) (by omega), nm_r (e' := lN (sp_pj (sp_ts b sl sg 4) gf 4)) ?_ (nm_r (e' := lN (sp_pj (sp_ts b sl sg 4) gf 4 <<< (36 - 4 * P))) ?_ h)⟩
    · rw [show x_fields ((0 : Int32) + 2).toNatClampNeg = nI gf from hf]
      exact sp_pj_l (w := 4) (c := 4 * P + 8 + 4 * 4) rfl (by omega) tb hf' (by omega) (by omega)
    · rw [show (4 : Int32) * nI P = nI (4 * P) from pk_mul 4 P, show (36 : Int32) - nI (4 * P) = nI (36 - 4 * P) from pk_sub (a := 36) (by omega), wb_shl _ (by omega), Nat.shiftLeft_eq]
  | succ d ih =>
    intro t ht
    have tb := sp_ts_b hb (fun t ht => (h1 t ht).2) (fun t ht => (h2 t ht).2) t (by omega)
    have e3 : (0 : Int32) + 3 + nI t = nI (3 + t) := nI_add 3 t
    have e7 : (0 : Int32) + 7 + nI t = nI (7 + t) := nI_add 7 t
    refine br_f (nI_ge (b := 4) (by omega) (by omega)) ⟨pk_in (3 + t) 34 (by omega) e3, nm_r (e' := lN (sp_pj (sp_ts b sl sg t) (sl t) 3)) ?_ ⟨pk_in (7 + t) 34 (by omega) e7, nm_r (e' := lN (sp_ts b sl sg (t + 1))) ?_ (nm_r (nI_1 t) (ih (t + 1) (by omega)))⟩⟩
    · have q := h1 t (by omega)
      rw [e3, nI_clamp (by omega), q.1]
      exact sp_pj_l (w := 3) (c := 4 * P + 8 + 4 * t) rfl (by omega) tb q.2 (by omega) (by omega)
    · have q := h2 t (by omega)
      have q1 := h1 t (by omega)
      rw [e7, nI_clamp (by omega), q.1]
      exact sp_pj_l (w := 1) (c := 4 * P + 8 + 4 * t + 3) rfl (by omega) (sp_pj_b tb q1.2) q.2 (by omega) (by omega)
theorem sx_pf7 {P N T : Nat} {x_pending : Int32} {x_encodedStream : Int64} {x_reflectionLevels x_pulseLevels x_memory x_history x_output x_fields x_frameCounts x_reflections x_samples x_rawReflections x_target x_impulseResponse x_pastExcitation x_filteredPast x_chosenPulses x_trialPulses x_pulseSigns x_excitation x_receivedFields : Nat → Int32} {x_correlation x_predictor x_oldPredictor : Nat → Int64} {post : SX → Prop} {l ga gf : Nat} {q sl sg : Nat → Nat} (hP : P ≤ 6) (hq : ∀ m, m < P → x_fields (11 + m) = nI (q m) ∧ q m < 16)
    (h0 : x_fields 0 = nI l) (hl : l < 32) (hg0 : x_fields 1 = nI ga) (hg : ga < 8) (h1 : ∀ t, t < 4 → x_fields (3 + t) = nI (sl t) ∧ sl t < 8) (h2 : ∀ t, t < 4 → x_fields (7 + t) = nI (sg t) ∧ sg t < 2)
    (hf : x_fields 2 = nI gf) (hf' : gf < 16)
    (h : post ((nI P), (nI N), (nI T), x_pending, (lN (sp_fs q P l ga sl sg gf <<< (36 - 4 * P))), x_reflectionLevels, x_pulseLevels, x_memory, x_history, x_output, x_fields, x_frameCounts, x_reflections, x_samples, x_rawReflections, x_correlation, x_predictor, x_oldPredictor, x_target, x_impulseResponse, x_pastExcitation, x_filteredPast, x_chosenPulses, x_trialPulses, x_pulseSigns, x_excitation, x_receivedFields)) :
    ∀ d m, m + d = P → wX_packFields_7 post 0 (nI P) (nI N) (nI T) x_pending x_encodedStream x_reflectionLevels x_pulseLevels x_memory x_history x_output x_fields x_frameCounts x_reflections x_samples x_rawReflections x_correlation x_predictor x_oldPredictor x_target x_impulseResponse x_pastExcitation x_filteredPast x_chosenPulses x_trialPulses x_pulseSigns x_excitation x_receivedFields (d + 1) (lN (sp_ks q m)) (nI m) := by
  have kb := fun m hm => sp_ks_b (q := q) (P := P) (fun m hm => (hq m hm).2) m hm
  intro d
  induction d with
  | zero =>
    intro m hm
    obtain rfl : m = P := by omega
    have b0 := kb m (Nat.le_refl m)
    refine br_t (nI_le (by omega) (by omega)) ⟨vp_in_nI (n := 0) (by omega) (by omega), nm_r (e' := lN (sp_pj (sp_ks q m) l 5)) ?_ ⟨vp_in_nI (n := 1) (by omega) (by omega), nm_r (e' := lN (sp_hs q m l ga)) ?_ ⟨4 + 1, sx_pf71 (b := sp_hs q m l ga) hP (sp_hs_b (fun m hm => (hq m hm).2) hl hg) h1 h2 hf hf' h 4 0 (by omega)⟩⟩⟩
    · rw [show x_fields ((0 : Int32) + 0).toNatClampNeg = nI l from h0]
      exact sp_pj_l (w := 5) (c := 4 * m) rfl (by omega) b0 hl (by omega) (by omega)
    · rw [show x_fields ((0 : Int32) + 1).toNatClampNeg = nI ga from hg0]
      exact sp_pj_l (w := 3) (c := 4 * m + 5) rfl (by omega) (sp_pj_b b0 hl) hg (by omega) (by omega)
  | succ d ih =>
    intro m hm
    have e : (0 : Int32) + 11 + nI m = nI (11 + m) := nI_add 11 m
    refine br_f (nI_ge (by omega) (by omega)) ⟨pk_in (11 + m) 34 (by omega) e, nm_r (e' := lN (sp_ks q (m + 1))) ?_ (nm_r (nI_1 m) (ih (m + 1) (by omega)))⟩
    have o := hq m (by omega)
    rw [e, nI_clamp (by omega), o.1]
    exact sp_pj_l (w := 4) (c := 4 * m) rfl (by omega) (kb m (by omega)) o.2 (by omega) (by omega)
theorem sx_pf {P N T : Nat} {x_pending : Int32} {x_encodedStream : Int64} {x_reflectionLevels x_pulseLevels x_memory x_history x_output x_fields x_frameCounts x_reflections x_samples x_rawReflections x_target x_impulseResponse x_pastExcitation x_filteredPast x_chosenPulses x_trialPulses x_pulseSigns x_excitation x_receivedFields : Nat → Int32} {x_correlation x_predictor x_oldPredictor : Nat → Int64} {post : SX → Prop} {l ga gf : Nat} {q sl sg : Nat → Nat} (hP : P ≤ 6) (hq : ∀ m, m < P → x_fields (11 + m) = nI (q m) ∧ q m < 16)
    (h0 : x_fields 0 = nI l) (hl : l < 32) (hg0 : x_fields 1 = nI ga) (hg : ga < 8) (h1 : ∀ t, t < 4 → x_fields (3 + t) = nI (sl t) ∧ sl t < 8) (h2 : ∀ t, t < 4 → x_fields (7 + t) = nI (sg t) ∧ sg t < 2)
    (hf : x_fields 2 = nI gf) (hf' : gf < 16)
    (h : post ((nI P), (nI N), (nI T), x_pending, (lN (sp_fs q P l ga sl sg gf <<< (36 - 4 * P))), x_reflectionLevels, x_pulseLevels, x_memory, x_history, x_output, x_fields, x_frameCounts, x_reflections, x_samples, x_rawReflections, x_correlation, x_predictor, x_oldPredictor, x_target, x_impulseResponse, x_pastExcitation, x_filteredPast, x_chosenPulses, x_trialPulses, x_pulseSigns, x_excitation, x_receivedFields)) : wpX_packFields post ((nI P), (nI N), (nI T), x_pending, x_encodedStream, x_reflectionLevels, x_pulseLevels, x_memory, x_history, x_output, x_fields, x_frameCounts, x_reflections, x_samples, x_rawReflections, x_correlation, x_predictor, x_oldPredictor, x_target, x_impulseResponse, x_pastExcitation, x_filteredPast, x_chosenPulses, x_trialPulses, x_pulseSigns, x_excitation, x_receivedFields) :=
  Exists.intro (P + 1) (sx_pf7 hP hq h0 hl hg0 hg h1 h2 hf hf' h P 0 (by omega))
/-- placing the pulses: a step -/
theorem sp_cp_s {sl sg : Nat → Nat} {N t : Nat} {A : Nat → Int32} {x : Int32} (ht : t < 4) (hx : x = if sg t = 0 then 1 else -1)
    (h : ∀ n, n < N → A n = if n % 4 < t then sp_cp sl sg n else 0) : ∀ n, n < N → upd A (t + 4 * sl t) x n = if n % 4 < t + 1 then sp_cp sl sg n else 0 := by
  intro n hn
  by_cases e : n = t + 4 * sl t
  · subst e
    have m4 : (t + 4 * sl t) % 4 = t := by omega
    have d4 : (t + 4 * sl t) / 4 = sl t := by omega
    rw [pk_us, if_pos (by omega), hx]
    unfold sp_cp
    rw [m4, d4, if_pos rfl]
  · rw [pk_un e, h n hn]
    by_cases c : n % 4 < t
    · rw [if_pos c, if_pos (by omega)]
    · rw [if_neg c]
      by_cases c2 : n % 4 = t
      · rw [if_pos (by omega)]
        unfold sp_cp
        rw [c2, if_neg (by omega)]
      · rw [if_neg (by omega)]
theorem sx_pp25 {P N T : Nat} {x_pending : Int32} {x_encodedStream : Int64} {x_reflectionLevels x_pulseLevels x_memory x_history x_output x_fields x_frameCounts x_reflections x_samples x_rawReflections x_target x_impulseResponse x_pastExcitation x_filteredPast x_chosenPulses x_trialPulses x_excitation x_receivedFields : Nat → Int32} {x_correlation x_predictor x_oldPredictor : Nat → Int64} {post : SX → Prop} {sl sg : Nat → Nat} {sd : Nat} (hsd : sd ≤ 1) (hT : T ≤ 8) (hNT : N = 4 * T)
    (h1 : ∀ t, t < 4 → x_fields (sd * 17 + 3 + t) = nI (sl t) ∧ sl t < T) (h2 : ∀ t, t < 4 → x_fields (sd * 17 + 7 + t) = nI (sg t) ∧ sg t < 2)
    (h : ∀ ps, (∀ n, n < N → ps n = sp_cp sl sg n) → post ((nI P), (nI N), (nI T), x_pending, x_encodedStream, x_reflectionLevels, x_pulseLevels, x_memory, x_history, x_output, x_fields, x_frameCounts, x_reflections, x_samples, x_rawReflections, x_correlation, x_predictor, x_oldPredictor, x_target, x_impulseResponse, x_pastExcitation, x_filteredPast, x_chosenPulses, x_trialPulses, ps, x_excitation, x_receivedFields)) :
    ∀ d t ps, t + d = 4 → (∀ n, n < N → ps n = if n % 4 < t then sp_cp sl sg n else 0) → wX_placePulses_25 post (nI sd) (nI P) (nI N) (nI T) x_pending x_encodedStream (d + 1) (nI t) x_reflectionLevels x_pulseLevels x_memory x_history x_output x_fields x_frameCounts x_reflections x_samples x_rawReflections x_correlation x_predictor x_oldPredictor x_target x_impulseResponse x_pastExcitation x_filteredPast x_chosenPulses x_trialPulses ps x_excitation x_receivedFields := by
  intro d
  induction d with
  | zero =>
    intro t ps ht hp
    obtain rfl : t = 4 := by omega
    exact br_t (nI_le (a := 4) (by omega) (by omega)) (h ps (fun n hn => by rw [hp n hn, if_pos (by omega)]))
  | succ d ih =>
    intro t ps ht hp
    have q1 := h1 t (by omega)
    have q2 := h2 t (by omega)
    have e3 : nI sd * 17 + 3 + nI t = nI (sd * 17 + 3 + t) := by
      rw [show nI sd * 17 = nI (sd * 17) from pk_mul sd 17, show nI (sd * 17) + 3 = nI (sd * 17 + 3) from nI_add _ 3, nI_add]
    have e7 : nI sd * 17 + 7 + nI t = nI (sd * 17 + 7 + t) := by
      rw [show nI sd * 17 = nI (sd * 17) from pk_mul sd 17, show nI (sd * 17) + 7 = nI (sd * 17 + 7) from nI_add _ 7, nI_add]
    have ep : nI t + 4 * nI (sl t) = nI (t + 4 * sl t) := by
      rw [show (4 : Int32) * nI (sl t) = nI (4 * sl t) from pk_mul 4 (sl t), nI_add]
    refine br_f (nI_ge (b := 4) (by omega) (by omega)) ⟨pk_in (sd * 17 + 3 + t) 34 (by omega) e3, nm_r (e' := nI (sl t)) ?_ ⟨pk_in (sd * 17 + 7 + t) 34 (by omega) e7, nm_r (e' := nI (sg t)) ?_ ?_⟩⟩
    · rw [e3, nI_clamp (by omega)]
      exact q1.1
    · rw [e7, nI_clamp (by omega)]
      exact q2.1
    · by_cases z : sg t = 0
      · refine br_t (by rw [z]; rfl) ⟨pk_in (t + 4 * sl t) 32 (by omega) ep, nm_e (nm_r (nI_1 t) (ih (t + 1) _ (by omega) ?_))⟩
        rw [ep, nI_clamp (by omega)]
        exact sp_cp_s (by omega) (by rw [if_pos z]) hp
      · refine br_f (nI_ne0 (by omega) (by omega)) ⟨pk_in (t + 4 * sl t) 32 (by omega) ep, nm_e (nm_r (nI_1 t) (ih (t + 1) _ (by omega) ?_))⟩
        rw [ep, nI_clamp (by omega)]
        exact sp_cp_s (by omega) (by rw [if_neg z]) hp
theorem sx_pp2 {P N T : Nat} {x_pending : Int32} {x_encodedStream : Int64} {x_reflectionLevels x_pulseLevels x_memory x_history x_output x_fields x_frameCounts x_reflections x_samples x_rawReflections x_target x_impulseResponse x_pastExcitation x_filteredPast x_chosenPulses x_trialPulses x_excitation x_receivedFields : Nat → Int32} {x_correlation x_predictor x_oldPredictor : Nat → Int64} {post : SX → Prop} {sl sg : Nat → Nat} {sd : Nat} (hsd : sd ≤ 1) (hT : T ≤ 8) (hNT : N = 4 * T)
    (h1 : ∀ t, t < 4 → x_fields (sd * 17 + 3 + t) = nI (sl t) ∧ sl t < T) (h2 : ∀ t, t < 4 → x_fields (sd * 17 + 7 + t) = nI (sg t) ∧ sg t < 2)
    (h : ∀ ps, (∀ n, n < N → ps n = sp_cp sl sg n) → post ((nI P), (nI N), (nI T), x_pending, x_encodedStream, x_reflectionLevels, x_pulseLevels, x_memory, x_history, x_output, x_fields, x_frameCounts, x_reflections, x_samples, x_rawReflections, x_correlation, x_predictor, x_oldPredictor, x_target, x_impulseResponse, x_pastExcitation, x_filteredPast, x_chosenPulses, x_trialPulses, ps, x_excitation, x_receivedFields)) :
    ∀ d i ps, i + d = N → (∀ n, n < i → ps n = 0) → wX_placePulses_2 post (nI sd) (nI P) (nI N) (nI T) x_pending x_encodedStream (d + 1) (nI i) x_reflectionLevels x_pulseLevels x_memory x_history x_output x_fields x_frameCounts x_reflections x_samples x_rawReflections x_correlation x_predictor x_oldPredictor x_target x_impulseResponse x_pastExcitation x_filteredPast x_chosenPulses x_trialPulses ps x_excitation x_receivedFields := by
  intro d
  induction d with
  | zero =>
    intro i ps hi hp
    obtain rfl : i = N := by omega
    exact br_t (nI_le (by omega) (by omega)) ⟨4 + 1, sx_pp25 hsd hT hNT h1 h2 h 4 0 ps (by omega) (fun n hn => by rw [if_neg (by omega)]; exact hp n hn)⟩
  | succ d ih =>
    intro i ps hi hp
    refine br_f (nI_ge (by omega) (by omega)) ⟨vp_in_nI (by omega) (by omega), nm_e (nm_r (nI_1 i) (ih (i + 1) _ (by omega) ?_))⟩
    intro j hj
    rw [nI_clamp (by omega)]
    by_cases e : j = i
    · subst e
      rw [pk_us]
    · rw [pk_un e]
      exact hp j (by omega)
theorem sx_pp {P N T : Nat} {x_pending : Int32} {x_encodedStream : Int64} {x_reflectionLevels x_pulseLevels x_memory x_history x_output x_fields x_frameCounts x_reflections x_samples x_rawReflections x_target x_impulseResponse x_pastExcitation x_filteredPast x_chosenPulses x_trialPulses x_pulseSigns x_excitation x_receivedFields : Nat → Int32} {x_correlation x_predictor x_oldPredictor : Nat → Int64} {post : SX → Prop} {sl sg : Nat → Nat} {sd : Nat} (hsd : sd ≤ 1) (hT : T ≤ 8) (hNT : N = 4 * T)
    (h1 : ∀ t, t < 4 → x_fields (sd * 17 + 3 + t) = nI (sl t) ∧ sl t < T) (h2 : ∀ t, t < 4 → x_fields (sd * 17 + 7 + t) = nI (sg t) ∧ sg t < 2)
    (h : ∀ ps, (∀ n, n < N → ps n = sp_cp sl sg n) → post ((nI P), (nI N), (nI T), x_pending, x_encodedStream, x_reflectionLevels, x_pulseLevels, x_memory, x_history, x_output, x_fields, x_frameCounts, x_reflections, x_samples, x_rawReflections, x_correlation, x_predictor, x_oldPredictor, x_target, x_impulseResponse, x_pastExcitation, x_filteredPast, x_chosenPulses, x_trialPulses, ps, x_excitation, x_receivedFields)) : wpX_placePulses post ((nI P), (nI N), (nI T), x_pending, x_encodedStream, x_reflectionLevels, x_pulseLevels, x_memory, x_history, x_output, x_fields, x_frameCounts, x_reflections, x_samples, x_rawReflections, x_correlation, x_predictor, x_oldPredictor, x_target, x_impulseResponse, x_pastExcitation, x_filteredPast, x_chosenPulses, x_trialPulses, x_pulseSigns, x_excitation, x_receivedFields) (nI sd) :=
  Exists.intro (N + 1) (sx_pp2 hsd hT hNT h1 h2 h N 0 x_pulseSigns (by omega) (fun n hn => absurd hn (by omega)))
theorem sx_me35 {P N T : Nat} {x_pending : Int32} {x_encodedStream : Int64} {x_reflectionLevels x_pulseLevels x_memory x_history x_output x_fields x_frameCounts x_reflections x_samples x_rawReflections x_target x_impulseResponse x_pastExcitation x_filteredPast x_chosenPulses x_trialPulses x_pulseSigns x_excitation x_receivedFields : Nat → Int32} {x_correlation x_predictor x_oldPredictor : Nat → Int64} {post : SX → Prop} {H : Nat → Int32} {l ga gf : Nat} {sl sg : Nat → Nat} (hN : N ≤ 32)
    (hv : ∀ n, n < N → x_pastExcitation n = sp_pv H (l + 4) n) (hp : ∀ n, n < N → x_pulseSigns n = sp_cp sl sg n)
    (h : post ((nI P), (nI N), (nI T), x_pending, x_encodedStream, x_reflectionLevels, x_pulseLevels, x_memory, x_history, x_output, x_fields, x_frameCounts, x_reflections, x_samples, x_rawReflections, x_correlation, x_predictor, x_oldPredictor, x_target, x_impulseResponse, x_pastExcitation, x_filteredPast, x_chosenPulses, x_trialPulses, x_pulseSigns, (sp_fl (sp_u H l ga gf sl sg) N x_excitation), x_receivedFields)) :
    ∀ d i, i + d = N → wX_mixExcitation_35 post (37 * nI ga) (sp_fg gf) (nI P) (nI N) (nI T) x_pending x_encodedStream (d + 1) (nI i) x_reflectionLevels x_pulseLevels x_memory x_history x_output x_fields x_frameCounts x_reflections x_samples x_rawReflections x_correlation x_predictor x_oldPredictor x_target x_impulseResponse x_pastExcitation x_filteredPast x_chosenPulses x_trialPulses x_pulseSigns (sp_fl (sp_u H l ga gf sl sg) i x_excitation) x_receivedFields := by
  intro d
  induction d with
  | zero =>
    intro i hi
    obtain rfl : i = N := by omega
    exact br_t (nI_le (by omega) (by omega)) h
  | succ d ih =>
    intro i hi
    refine br_f (nI_ge (by omega) (by omega)) ⟨vp_in_nI (by omega) (by omega), vp_in_nI (by omega) (by omega), sx_satE (v := sp_u H l ga gf sl sg i) ?_ ⟨vp_in_nI (by omega) (by omega), nm_r ?_ (nm_r (nI_1 i) (ih (i + 1) (by omega)))⟩⟩
    · rw [nI_clamp (by omega), hv i (by omega), hp i (by omega)]
      rfl
    · rw [nI_clamp (by omega)]
      exact sp_flS
theorem sx_me {P N T : Nat} {x_pending : Int32} {x_encodedStream : Int64} {x_reflectionLevels x_pulseLevels x_memory x_history x_output x_fields x_frameCounts x_reflections x_samples x_rawReflections x_target x_impulseResponse x_pastExcitation x_filteredPast x_chosenPulses x_trialPulses x_pulseSigns x_excitation x_receivedFields : Nat → Int32} {x_correlation x_predictor x_oldPredictor : Nat → Int64} {post : SX → Prop} {H : Nat → Int32} {l ga gf sd : Nat} {sl sg : Nat → Nat} (hN : N ≤ 32) (hsd : sd ≤ 1)
    (hv : ∀ n, n < N → x_pastExcitation n = sp_pv H (l + 4) n) (hp : ∀ n, n < N → x_pulseSigns n = sp_cp sl sg n) (hg : ∀ j, j < 16 → x_pulseLevels j = sp_fg j)
    (hga : x_fields (sd * 17 + 1) = nI ga) (hgf : x_fields (sd * 17 + 2) = nI gf) (hgf' : gf < 16)
    (h : post ((nI P), (nI N), (nI T), x_pending, x_encodedStream, x_reflectionLevels, x_pulseLevels, x_memory, x_history, x_output, x_fields, x_frameCounts, x_reflections, x_samples, x_rawReflections, x_correlation, x_predictor, x_oldPredictor, x_target, x_impulseResponse, x_pastExcitation, x_filteredPast, x_chosenPulses, x_trialPulses, x_pulseSigns, (sp_fl (sp_u H l ga gf sl sg) N x_excitation), x_receivedFields)) : wpX_mixExcitation post ((nI P), (nI N), (nI T), x_pending, x_encodedStream, x_reflectionLevels, x_pulseLevels, x_memory, x_history, x_output, x_fields, x_frameCounts, x_reflections, x_samples, x_rawReflections, x_correlation, x_predictor, x_oldPredictor, x_target, x_impulseResponse, x_pastExcitation, x_filteredPast, x_chosenPulses, x_trialPulses, x_pulseSigns, x_excitation, x_receivedFields) (nI sd) := by
  have e1 : nI sd * 17 + 1 = nI (sd * 17 + 1) := by
    rw [show nI sd * 17 = nI (sd * 17) from pk_mul sd 17, nI_1]
  have e2 : nI sd * 17 + 2 = nI (sd * 17 + 2) := by
    rw [show nI sd * 17 = nI (sd * 17) from pk_mul sd 17]
    exact nI_add _ 2
  have t := sx_me35 (x_excitation := x_excitation) (ga := ga) (gf := gf) hN hv hp h N 0 (by omega)
  rw [sp_fl0] at t
  have c2 : x_fields (nI sd * 17 + 2).toNatClampNeg = nI gf := by
    rw [e2, nI_clamp (by omega)]
    exact hgf
  refine And.intro (pk_in (sd * 17 + 1) 34 (by omega) e1) (nm_r (e' := 37 * nI ga) ?_ ⟨pk_in (sd * 17 + 2) 34 (by omega) e2, pk_in gf 16 hgf' c2, nm_r (e' := sp_fg gf) ?_ (Exists.intro _ t)⟩)
  · rw [e1, nI_clamp (by omega), hga]
  · rw [c2, nI_clamp (by omega)]
    exact hg gf hgf'
theorem sx_sh45 {P N T : Nat} {x_pending : Int32} {x_encodedStream : Int64} {x_reflectionLevels x_pulseLevels x_memory x_history x_output x_fields x_frameCounts x_reflections x_samples x_rawReflections x_target x_impulseResponse x_pastExcitation x_filteredPast x_chosenPulses x_trialPulses x_pulseSigns x_excitation x_receivedFields : Nat → Int32} {x_correlation x_predictor x_oldPredictor : Nat → Int64} {post : SX → Prop} {H u : Nat → Int32} {sd : Nat} (hN8 : 8 ≤ N) (hN : N ≤ 32) (hsd : sd ≤ 1) (hu : ∀ n, n < N → x_excitation n = u n)
    (h : ∀ A, (∀ j, 1 ≤ j → j ≤ 64 → A (sd * 64 + j - 1) = sp_nh N u H j) → (∀ q, q < sd * 64 ∨ sd * 64 + 64 ≤ q → A q = x_history q) → post ((nI P), (nI N), (nI T), x_pending, x_encodedStream, x_reflectionLevels, x_pulseLevels, x_memory, A, x_output, x_fields, x_frameCounts, x_reflections, x_samples, x_rawReflections, x_correlation, x_predictor, x_oldPredictor, x_target, x_impulseResponse, x_pastExcitation, x_filteredPast, x_chosenPulses, x_trialPulses, x_pulseSigns, x_excitation, x_receivedFields)) :
    ∀ d i A, i + d = N → (∀ j, 1 ≤ j → j ≤ 64 → A (sd * 64 + j - 1) = if j ≤ i then u (N - j) else if N < j then H (j - N) else H j) → (∀ q, q < sd * 64 ∨ sd * 64 + 64 ≤ q → A q = x_history q) →
      wX_shiftHistory_45 post (nI (sd * 64)) (nI P) (nI N) (nI T) x_pending x_encodedStream (d + 1) (nI i) x_reflectionLevels x_pulseLevels x_memory A x_output x_fields x_frameCounts x_reflections x_samples x_rawReflections x_correlation x_predictor x_oldPredictor x_target x_impulseResponse x_pastExcitation x_filteredPast x_chosenPulses x_trialPulses x_pulseSigns x_excitation x_receivedFields := by
  intro d
  induction d with
  | zero =>
    intro i A hi ha hf
    obtain rfl : i = N := by omega
    refine br_t (nI_le (by omega) (by omega)) (h A (fun j h1 h2 => ?_) hf)
    rw [ha j h1 h2]
    unfold sp_nh
    by_cases c : j ≤ i
    · rw [if_pos c, if_pos c]
    · rw [if_neg c, if_neg c, if_pos (by omega)]
  | succ d ih =>
    intro i A hi ha hf
    have e : nI N - 1 - nI i = nI (N - (i + 1)) := by
      rw [show nI N - 1 = nI (N - 1) from pk_sub (b := 1) (by omega), pk_sub (by omega), show N - 1 - i = N - (i + 1) from by omega]
    refine br_f (nI_ge (by omega) (by omega)) ⟨pk_in (N - (i + 1)) 32 (by omega) e, pk_in (sd * 64 + i) 128 (by omega) (nI_add _ _), nm_e (nm_r (nI_1 i) (ih (i + 1) _ (by omega) ?_ ?_))⟩
    · intro j h1 h2
      rw [e, nI_add, nI_clamp (by omega), nI_clamp (by omega), hu _ (by omega)]
      by_cases c : j = i + 1
      · subst c
        rw [show sd * 64 + (i + 1) - 1 = sd * 64 + i from by omega, pk_us, if_pos (by omega)]
      · rw [pk_un (by omega), ha j h1 h2]
        by_cases c2 : j ≤ i
        · rw [if_pos c2, if_pos (by omega)]
        · rw [if_neg c2, if_neg (show ¬ j ≤ i + 1 from by omega)]
    · intro q hq
      rw [nI_add, nI_clamp (by omega), pk_un (by omega)]
      exact hf q hq
theorem sx_sh8 {P N T : Nat} {x_pending : Int32} {x_encodedStream : Int64} {x_reflectionLevels x_pulseLevels x_memory x_history x_output x_fields x_frameCounts x_reflections x_samples x_rawReflections x_target x_impulseResponse x_pastExcitation x_filteredPast x_chosenPulses x_trialPulses x_pulseSigns x_excitation x_receivedFields : Nat → Int32} {x_correlation x_predictor x_oldPredictor : Nat → Int64} {post : SX → Prop} {H u : Nat → Int32} {sd : Nat} (hN8 : 8 ≤ N) (hN : N ≤ 32) (hsd : sd ≤ 1) (hu : ∀ n, n < N → x_excitation n = u n)
    (h : ∀ A, (∀ j, 1 ≤ j → j ≤ 64 → A (sd * 64 + j - 1) = sp_nh N u H j) → (∀ q, q < sd * 64 ∨ sd * 64 + 64 ≤ q → A q = x_history q) → post ((nI P), (nI N), (nI T), x_pending, x_encodedStream, x_reflectionLevels, x_pulseLevels, x_memory, A, x_output, x_fields, x_frameCounts, x_reflections, x_samples, x_rawReflections, x_correlation, x_predictor, x_oldPredictor, x_target, x_impulseResponse, x_pastExcitation, x_filteredPast, x_chosenPulses, x_trialPulses, x_pulseSigns, x_excitation, x_receivedFields)) :
    ∀ d k A, k + 1 = N + d → k < 64 → (∀ j, 1 ≤ j → j ≤ 64 → A (sd * 64 + j - 1) = if k + 1 < j then H (j - N) else H j) → (∀ q, q < sd * 64 ∨ sd * 64 + 64 ≤ q → A q = x_history q) →
      wX_shiftHistory_8 post (nI (sd * 64)) (nI P) (nI N) (nI T) x_pending x_encodedStream (d + 1) (nI k) x_reflectionLevels x_pulseLevels x_memory A x_output x_fields x_frameCounts x_reflections x_samples x_rawReflections x_correlation x_predictor x_oldPredictor x_target x_impulseResponse x_pastExcitation x_filteredPast x_chosenPulses x_trialPulses x_pulseSigns x_excitation x_receivedFields := by
  intro d
  induction d with
  | zero =>
    intro k A hk hk2 ha hf
    refine br_t (nI_lt (by omega) (by omega)) ⟨N + 1, sx_sh45 (x_history := x_history) (H := H) hN8 hN hsd hu h N 0 A (by omega) (fun j h1 h2 => ?_) hf⟩
    rw [ha j h1 h2, if_neg (show ¬ j ≤ 0 from by omega), show k + 1 = N from by omega]
  | succ d ih =>
    intro k A hk hk2 ha hf
    obtain ⟨m, rfl⟩ : ∃ m, k = m + 1 := ⟨k - 1, by omega⟩
    have e : nI (sd * 64) + nI (m + 1) - nI N = nI (sd * 64 + (m + 1 + 1 - N) - 1) := by
      rw [nI_add, pk_sub (by omega), show sd * 64 + (m + 1) - N = sd * 64 + (m + 1 + 1 - N) - 1 from by omega]
    refine br_f (nI_nlt (by omega) (by omega)) ⟨pk_in (sd * 64 + (m + 1 + 1 - N) - 1) 128 (by omega) e, pk_in (sd * 64 + (m + 1)) 128 (by omega) (nI_add _ _), nm_e (nm_r (pk_m1 m) (ih m _ (by omega) (by omega) ?_ ?_))⟩
    · intro j h1 h2
      rw [e, nI_add, nI_clamp (by omega), nI_clamp (by omega), ha (m + 1 + 1 - N) (by omega) (by omega), if_neg (by omega)]
      by_cases c : j = m + 1 + 1
      · subst c
        rw [show sd * 64 + (m + 1 + 1) - 1 = sd * 64 + (m + 1) from by omega, pk_us, if_pos (by omega)]
      · rw [pk_un (by omega), ha j h1 h2]
        by_cases c2 : m + 1 + 1 < j
        · rw [if_pos c2, if_pos (by omega)]
        · rw [if_neg c2, if_neg (by omega)]
    · intro q hq
      rw [nI_add, nI_clamp (by omega), pk_un (by omega)]
      exact hf q hq
theorem sx_sh {P N T : Nat} {x_pending : Int32} {x_encodedStream : Int64} {x_reflectionLevels x_pulseLevels x_memory x_history x_output x_fields x_frameCounts x_reflections x_samples x_rawReflections x_target x_impulseResponse x_pastExcitation x_filteredPast x_chosenPulses x_trialPulses x_pulseSigns x_excitation x_receivedFields : Nat → Int32} {x_correlation x_predictor x_oldPredictor : Nat → Int64} {post : SX → Prop} {H u : Nat → Int32} {sd : Nat} (hN8 : 8 ≤ N) (hN : N ≤ 32) (hsd : sd ≤ 1) (hu : ∀ n, n < N → x_excitation n = u n)
    (hH : ∀ j, 1 ≤ j → j ≤ 64 → x_history (sd * 64 + j - 1) = H j)
    (h : ∀ A, (∀ j, 1 ≤ j → j ≤ 64 → A (sd * 64 + j - 1) = sp_nh N u H j) → (∀ q, q < sd * 64 ∨ sd * 64 + 64 ≤ q → A q = x_history q) → post ((nI P), (nI N), (nI T), x_pending, x_encodedStream, x_reflectionLevels, x_pulseLevels, x_memory, A, x_output, x_fields, x_frameCounts, x_reflections, x_samples, x_rawReflections, x_correlation, x_predictor, x_oldPredictor, x_target, x_impulseResponse, x_pastExcitation, x_filteredPast, x_chosenPulses, x_trialPulses, x_pulseSigns, x_excitation, x_receivedFields)) : wpX_shiftHistory post ((nI P), (nI N), (nI T), x_pending, x_encodedStream, x_reflectionLevels, x_pulseLevels, x_memory, x_history, x_output, x_fields, x_frameCounts, x_reflections, x_samples, x_rawReflections, x_correlation, x_predictor, x_oldPredictor, x_target, x_impulseResponse, x_pastExcitation, x_filteredPast, x_chosenPulses, x_trialPulses, x_pulseSigns, x_excitation, x_receivedFields) (nI sd) :=
  nm_r (pk_mul sd 64) (Exists.intro (64 - N + 1) (sx_sh8 hN8 hN hsd hu h (64 - N) 63 x_history (by omega) (by omega) (fun j h1 h2 => by rw [if_neg (by omega)]; exact hH j h1 h2) (fun _ _ => rfl)))
theorem sx_sy28 {P N T : Nat} {x_pending : Int32} {x_encodedStream : Int64} {x_reflectionLevels x_pulseLevels x_memory x_history x_output x_fields x_frameCounts x_reflections x_samples x_rawReflections x_target x_impulseResponse x_pastExcitation x_filteredPast x_chosenPulses x_trialPulses x_pulseSigns x_excitation x_receivedFields : Nat → Int32} {x_correlation x_predictor x_oldPredictor : Nat → Int64} {post : SX → Prop} {c b H u : Nat → Int32} {sd : Nat} (hP1 : 1 ≤ P) (hP : P ≤ 6) (hN8 : 8 ≤ N) (hN : N ≤ 32) (hsd : sd ≤ 1) (hu : ∀ n, n < N → x_excitation n = u n)
    (hc : ∀ j, j < P → x_reflections (sd * 6 + j) = c (j + 1)) (hH : ∀ j, 1 ≤ j → j ≤ 64 → x_history (sd * 64 + j - 1) = H j)
    (h : ∀ M' A, sp_row (sd * 6) P M' (sp_lm c P b u N) → (∀ q, q < sd * 6 ∨ sd * 6 + P ≤ q → M' q = x_memory q) →
      (∀ j, 1 ≤ j → j ≤ 64 → A (sd * 64 + j - 1) = sp_nh N u H j) → (∀ q, q < sd * 64 ∨ sd * 64 + 64 ≤ q → A q = x_history q) →
      post ((nI P), (nI N), (nI T), x_pending, x_encodedStream, x_reflectionLevels, x_pulseLevels, M', A, (sp_fo (sp_lo c P b u) (sd * 32) N x_output), x_fields, (upd x_frameCounts sd (x_frameCounts sd + 1)), x_reflections, x_samples, x_rawReflections, x_correlation, x_predictor, x_oldPredictor, x_target, x_impulseResponse, x_pastExcitation, x_filteredPast, x_chosenPulses, x_trialPulses, x_pulseSigns, x_excitation, x_receivedFields)) :
    ∀ d i M, i + d = N → sp_row (sd * 6) P M (sp_lm c P b u i) → (∀ q, q < sd * 6 ∨ sd * 6 + P ≤ q → M q = x_memory q) →
      wX_synthesise_28 post (nI sd) (d + 1) (nI i) (nI P) (nI N) (nI T) x_pending x_encodedStream x_reflectionLevels x_pulseLevels M x_history (sp_fo (sp_lo c P b u) (sd * 32) i x_output) x_fields x_frameCounts x_reflections x_samples x_rawReflections x_correlation x_predictor x_oldPredictor x_target x_impulseResponse x_pastExcitation x_filteredPast x_chosenPulses x_trialPulses x_pulseSigns x_excitation x_receivedFields := by
  intro d
  induction d with
  | zero =>
    intro i M hi hr hf
    obtain rfl : i = N := by omega
    refine br_t (nI_le (by omega) (by omega)) (sx_sh hN8 hN hsd hu hH (fun A h1 h2 => ?_))
    refine ⟨vp_in_nI (by omega) (by omega), vp_in_nI (by omega) (by omega), nm_r ?_ (h M A hr hf h1 h2)⟩
    rw [nI_clamp (by omega)]
  | succ d ih =>
    intro i M hi hr hf
    have e : nI sd * 32 + nI i = nI (sd * 32 + i) := by
      rw [show nI sd * 32 = nI (sd * 32) from pk_mul sd 32, nI_add]
    refine br_f (nI_ge (by omega) (by omega)) ⟨vp_in_nI (by omega) (by omega), ?_⟩
    rw [nI_clamp (by omega), hu i (by omega)]
    refine sx_lat (sd := sd) (rw := sd) hP1 hP hsd (by omega) hc hr (fun M' hr' hf' => ?_)
    refine ⟨pk_in (sd * 32 + i) 64 (by omega) e, nm_r ?_ (nm_r (nI_1 i) (ih (i + 1) M' (by omega) hr' (fun q hq => (hf' q hq).trans (hf q hq))))⟩
    rw [e, nI_clamp (by omega)]
    exact sp_foS (g := sp_lo c P b u)
theorem sx_syn {P N T : Nat} {x_pending : Int32} {x_encodedStream : Int64} {x_reflectionLevels x_pulseLevels x_memory x_history x_output x_fields x_frameCounts x_reflections x_samples x_rawReflections x_target x_impulseResponse x_pastExcitation x_filteredPast x_chosenPulses x_trialPulses x_pulseSigns x_excitation x_receivedFields : Nat → Int32} {x_correlation x_predictor x_oldPredictor : Nat → Int64} {post : SX → Prop} {c b H : Nat → Int32} {sd l ga gf : Nat} {sl sg : Nat → Nat} (hP1 : 1 ≤ P) (hP : P ≤ 6) (hN8 : 8 ≤ N) (hNT : N = 4 * T) (hT : T ≤ 8) (hsd : sd ≤ 1)
    (hg : ∀ j, j < 16 → x_pulseLevels j = sp_fg j) (hb : sp_row (sd * 6) P x_memory b)
    (hc : ∀ j, j < P → x_reflections (sd * 6 + j) = c (j + 1)) (hH : ∀ j, 1 ≤ j → j ≤ 64 → x_history (sd * 64 + j - 1) = H j)
    (hl : x_fields (sd * 17 + 0) = nI l) (hl' : l < 32) (hga : x_fields (sd * 17 + 1) = nI ga) (hgf : x_fields (sd * 17 + 2) = nI gf) (hgf' : gf < 16)
    (h1 : ∀ t, t < 4 → x_fields (sd * 17 + 3 + t) = nI (sl t) ∧ sl t < T) (h2 : ∀ t, t < 4 → x_fields (sd * 17 + 7 + t) = nI (sg t) ∧ sg t < 2)
    (h : ∀ M' A pe ps ex, sp_row (sd * 6) P M' (sp_lm c P b (sp_u H l ga gf sl sg) N) → (∀ q, q < sd * 6 ∨ sd * 6 + P ≤ q → M' q = x_memory q) →
      (∀ j, 1 ≤ j → j ≤ 64 → A (sd * 64 + j - 1) = sp_nh N (sp_u H l ga gf sl sg) H j) → (∀ q, q < sd * 64 ∨ sd * 64 + 64 ≤ q → A q = x_history q) →
      post ((nI P), (nI N), (nI T), x_pending, x_encodedStream, x_reflectionLevels, x_pulseLevels, M', A, (sp_fo (sp_lo c P b (sp_u H l ga gf sl sg)) (sd * 32) N x_output), x_fields, (upd x_frameCounts sd (x_frameCounts sd + 1)), x_reflections, x_samples, x_rawReflections, x_correlation, x_predictor, x_oldPredictor, x_target, x_impulseResponse, pe, x_filteredPast, x_chosenPulses, x_trialPulses, ps, ex, x_receivedFields)) :
    wpX_synthesise post ((nI P), (nI N), (nI T), x_pending, x_encodedStream, x_reflectionLevels, x_pulseLevels, x_memory, x_history, x_output, x_fields, x_frameCounts, x_reflections, x_samples, x_rawReflections, x_correlation, x_predictor, x_oldPredictor, x_target, x_impulseResponse, x_pastExcitation, x_filteredPast, x_chosenPulses, x_trialPulses, x_pulseSigns, x_excitation, x_receivedFields) (nI sd) := by
  have e : nI sd * 17 + 0 = nI (sd * 17 + 0) := by
    rw [show nI sd * 17 = nI (sd * 17) from pk_mul sd 17, Int32.add_zero]
    rfl
  refine And.intro (pk_in (sd * 17 + 0) 34 (by omega) e) ?_
  rw [e, nI_clamp (by omega), hl]
  refine sx_fp (by omega) hsd hl' hH ?_
  refine sx_pp hsd hT hNT h1 h2 (fun ps hps => ?_)
  refine sx_me (by omega) hsd (fun n hn => sp_fl_lo hn) hps hg hga hgf hgf' ?_
  have t := sx_sy28 (x_memory := x_memory) (x_output := x_output) (x_excitation := sp_fl (sp_u H l ga gf sl sg) N x_excitation) (x_pulseSigns := ps) (x_pastExcitation := sp_fl (sp_pv H (l + 4)) N x_pastExcitation) (u := sp_u H l ga gf sl sg) hP1 hP hN8 (by omega) hsd (fun n hn => sp_fl_lo hn) hc hH (fun M' A q1 q2 q3 q4 => h M' A _ _ _ q1 q2 q3 q4) N 0 x_memory (by omega) hb (fun _ _ => rfl)
  rw [sp_fo0] at t
  exact Exists.intro _ t
end
section
/-! one frame, purely; the component's encodeFrame -/
def fr_Q (s : Nat → Int32) (N P m : Nat) : Nat := sp_nq (sp_K s N P (m + 1))
def fr_C (s : Nat → Int32) (N P j : Nat) : Int32 := sp_kq (fr_Q s N P (j - 1))
def fr_X (s b : Nat → Int32) (N P n : Nat) : Int32 := sp_sat (s n - sp_lo (fr_C s N P) P b (fun _ => 0) n)
def fr_H (s : Nat → Int32) (N P : Nat) : Nat → Int32 := sp_lo (fr_C s N P) P (fun _ => 0) sp_imp
def fr_Y (s H : Nat → Int32) (N P l : Nat) : Nat → Int32 := sp_cy (sp_pv H (l + 4)) (fr_H s N P)
def fr_E (s b H : Nat → Int32) (N P l g : Nat) : Int64 := sp_ea (fr_X s b N P) (fr_Y s H N P l) N (nI g)
def fr_L (s b H : Nat → Int32) (N P : Nat) : Nat := (sp_out (fr_E s b H N P) 8 32).2.1
def fr_G (s b H : Nat → Int32) (N P : Nat) : Nat := (sp_out (fr_E s b H N P) 8 32).2.2
def fr_X2 (s b H : Nat → Int32) (N P : Nat) : Nat → Int32 := sp_x2 (fr_X s b N P) (fr_Y s H N P (fr_L s b H N P)) (fr_G s b H N P)
def fr_CH (s b H : Nat → Int32) (N P T : Nat) : Nat → Nat := sp_ch (fr_H s N P) (fr_X2 s b H N P) N T 4
def fr_SL (s b H : Nat → Int32) (N P T t : Nat) : Nat := fr_CH s b H N P T t / 2
def fr_SG (s b H : Nat → Int32) (N P T t : Nat) : Nat := fr_CH s b H N P T t % 2
def fr_GF (s b H : Nat → Int32) (N P T : Nat) : Nat := sp_gf (fr_H s N P) (fr_X2 s b H N P) N T 3
def fr_S (s b H : Nat → Int32) (N P T : Nat) : Nat := sp_fs (fr_Q s N P) P (fr_L s b H N P) (fr_G s b H N P) (fr_SL s b H N P T) (fr_SG s b H N P T) (fr_GF s b H N P T) <<< (36 - 4 * P)
def fr_U (s b H : Nat → Int32) (N P T : Nat) : Nat → Int32 := sp_u H (fr_L s b H N P) (fr_G s b H N P) (fr_GF s b H N P T) (fr_SL s b H N P T) (fr_SG s b H N P T)
theorem fr_Qb {s : Nat → Int32} {N P m : Nat} : fr_Q s N P m < 16 := sp_nq_b _
theorem fr_Lb {s b H : Nat → Int32} {N P : Nat} : fr_L s b H N P < 32 := (sp_out_b (by omega) (by omega) 32 (Nat.le_refl _)).1
theorem fr_Gb {s b H : Nat → Int32} {N P : Nat} : fr_G s b H N P < 8 := (sp_out_b (C := 32) (by omega) (by omega) 32 (Nat.le_refl _)).2
theorem fr_SLb {s b H : Nat → Int32} {N P T t : Nat} (hT : 0 < T) : fr_SL s b H N P T t < T := by
  have h := sp_ch_b (h := fr_H s N P) (x := fr_X2 s b H N P) (N := N) hT 4 t
  unfold fr_SL fr_CH
  omega
theorem fr_SGb {s b H : Nat → Int32} {N P T t : Nat} : fr_SG s b H N P T t < 2 := Nat.mod_lt _ (by decide)
theorem fr_GFb {s b H : Nat → Int32} {N P T : Nat} (hT : 0 < T) : fr_GF s b H N P T < 16 := sp_gf_b hT
/-- the fields of a frame, from cell B on -/
def sp_FF (F : Nat → Int32) (B P l ga gf : Nat) (sl sg q : Nat → Nat) : Prop :=
  F (B + 0) = nI l ∧ F (B + 1) = nI ga ∧ F (B + 2) = nI gf ∧ (∀ t, t < 4 → F (B + 3 + t) = nI (sl t)) ∧ (∀ t, t < 4 → F (B + 7 + t) = nI (sg t)) ∧ (∀ m, m < P → F (B + 11 + m) = nI (q m))
theorem sp_FFe {F G : Nat → Int32} {B P l ga gf : Nat} {sl sg q : Nat → Nat} (h : sp_FF F B P l ga gf sl sg q) (g : sp_FF G B P l ga gf sl sg q) : ∀ k, k < 11 + P → F (B + k) = G (B + k) := by
  intro k hk
  obtain ⟨h0, h1, h2, h3, h7, h11⟩ := h
  obtain ⟨g0, g1, g2, g3, g7, g11⟩ := g
  by_cases c11 : 11 ≤ k
  · obtain ⟨m, rfl⟩ : ∃ m, k = 11 + m := ⟨k - 11, by omega⟩
    rw [← Nat.add_assoc, h11 m (by omega), g11 m (by omega)]
  · by_cases c7 : 7 ≤ k
    · obtain ⟨m, rfl⟩ : ∃ m, k = 7 + m := ⟨k - 7, by omega⟩
      rw [← Nat.add_assoc, h7 m (by omega), g7 m (by omega)]
    · by_cases c3 : 3 ≤ k
      · obtain ⟨m, rfl⟩ : ∃ m, k = 3 + m := ⟨k - 3, by omega⟩
        rw [← Nat.add_assoc, h3 m (by omega), g3 m (by omega)]
      · have hk' : k = 0 ∨ k = 1 ∨ k = 2 := by omega
        rcases hk' with rfl | rfl | rfl
        · rw [h0, g0]
        · rw [h1, g1]
        · rw [h2, g2]
theorem sx_enc {P N T : Nat} {x_encodedStream : Int64} {x_reflectionLevels x_pulseLevels x_memory x_history x_output x_fields x_frameCounts x_reflections x_samples x_rawReflections x_target x_impulseResponse x_pastExcitation x_filteredPast x_chosenPulses x_trialPulses x_pulseSigns x_excitation x_receivedFields : Nat → Int32} {x_correlation x_predictor x_oldPredictor : Nat → Int64} {post : Int32 → SX → Prop} {s b H : Nat → Int32} (es : x_samples = s) (hs : sp_bd s) (hP2 : 2 ≤ P) (hP : P ≤ 6) (hNT : N = 4 * T) (hT2 : 2 ≤ T) (hT : T ≤ 8)
    (hk : ∀ j, j < 16 → x_reflectionLevels j = sp_kq j) (hg : ∀ j, j < 16 → x_pulseLevels j = sp_fg j)
    (hb : sp_row (0 * 6) P x_memory b) (hH : ∀ j, 1 ≤ j → j ≤ 64 → x_history (0 * 64 + j - 1) = H j)
    (h : ∀ raw co pr op F Rf M A tg ir pe fp tp cp ps ex,
      (∀ j, j < P → raw j = sp_K s N P (j + 1)) →
      sp_FF F (0 * 17) P (fr_L s b H N P) (fr_G s b H N P) (fr_GF s b H N P T) (fr_SL s b H N P T) (fr_SG s b H N P T) (fr_Q s N P) → (∀ j, 17 ≤ j → F j = x_fields j) →
      (∀ j, j < P → Rf (0 * 6 + j) = sp_kq (fr_Q s N P j)) → (∀ j, 6 ≤ j → Rf j = x_reflections j) →
      sp_row (0 * 6) P M (sp_lm (fr_C s N P) P b (fr_U s b H N P T) N) → (∀ q, 6 ≤ q → q < 12 → M q = x_memory q) →
      (∀ j, 1 ≤ j → j ≤ 64 → A (0 * 64 + j - 1) = sp_nh N (fr_U s b H N P T) H j) → (∀ q, 64 ≤ q → A q = x_history q) →
      post 1 ((nI P), (nI N), (nI T), 0, (lN (fr_S s b H N P T)), x_reflectionLevels, x_pulseLevels, M, A, (sp_fo (sp_lo (fr_C s N P) P b (fr_U s b H N P T)) (0 * 32) N x_output), F, (upd x_frameCounts 0 (x_frameCounts 0 + 1)), Rf, x_samples, raw, co, pr, op, tg, ir, pe, fp, cp, tp, ps, ex, x_receivedFields)) :
    wpX_encodeFrame post ((nI P), (nI N), (nI T), (nI N), x_encodedStream, x_reflectionLevels, x_pulseLevels, x_memory, x_history, x_output, x_fields, x_frameCounts, x_reflections, x_samples, x_rawReflections, x_correlation, x_predictor, x_oldPredictor, x_target, x_impulseResponse, x_pastExcitation, x_filteredPast, x_chosenPulses, x_trialPulses, x_pulseSigns, x_excitation, x_receivedFields) := by
  have hN8 : 8 ≤ N := by omega
  have hN : N ≤ 32 := by omega
  have hP1 : 1 ≤ P := by omega
  have hb0 : ∀ j, j < P → x_memory j = b j := fun j hj => by
    have t := hb j hj
    rw [Nat.zero_mul, Nat.zero_add] at t
    exact t
  have hc : ∀ j, j < P → sp_fl (fun m => sp_kq (sp_nq (sp_K s N P (m + 1)))) P x_reflections (0 * 6 + j) = fr_C s N P (j + 1) := fun j hj => by
    rw [Nat.zero_mul, Nat.zero_add, sp_fl_lo hj]
    rfl
  refine br_t (nI_le (Nat.le_refl N) (by omega)) (sx_dr es hs hN8 hN hP (fun raw co pr op hraw => ?_))
  refine sx_qr hP hk hraw ?_
  refine sx_ft (s := s) hP1 hP hN (fun j _ => by rw [es]) hc hb0 (fun M1 hM1 => ?_)
  refine sx_fi hP1 hP hN hc (fun M2 hM2 => ?_)
  refine sx_sa (x := fr_X s b N P) (hh := fr_H s N P) (H := H) (E := fr_E s b H N P) hN (fun j hj => sp_fl_lo hj) (fun j hj => sp_fl_lo hj) hH (fun l g _ _ => rfl) (fun pe fp => ?_)
  refine sx_ra (x := fr_X s b N P) (hh := fr_H s N P) (H := H) (l := fr_L s b H N P) (g := fr_G s b H N P) hN fr_Lb (fun j hj => sp_fl_lo hj) (fun j hj => sp_fl_lo hj) hH ?_ ?_ (fun pe' fp' => ?_)
  · rw [pk_un (by omega), pk_us]
    rfl
  · rw [pk_us]
    rfl
  refine sx_sp (x := fr_X2 s b H N P) (hh := fr_H s N P) hN (by omega) hT (fun j hj => sp_fl_lo hj) (fun j hj => sp_fl_lo hj) hg (fun F tp cp hF1 hF2 hF3 => ?_)
  have f0 : F 0 = nI (fr_L s b H N P) := by
    rw [hF3 0 (by omega), pk_un (by omega), pk_us]
    rfl
  have f1 : F 1 = nI (fr_G s b H N P) := by
    rw [hF3 1 (by omega), pk_us]
    rfl
  have f11 : ∀ m, m < P → F (11 + m) = nI (fr_Q s N P m) := fun m hm => by
    rw [hF3 (11 + m) (by omega), pk_un (by omega), pk_un (by omega), sp_fo_in hm]
    rfl
  have f17 : ∀ j, 17 ≤ j → F j = x_fields j := fun j hj => by
    rw [hF3 j (by omega), pk_un (by omega), pk_un (by omega), sp_fo_out (by omega)]
  have f3 : ∀ t, t < 4 → F (3 + t) = nI (fr_SL s b H N P T t) := fun t ht => (hF1 t ht).1
  have f7 : ∀ t, t < 4 → F (7 + t) = nI (fr_SG s b H N P T t) := fun t ht => (hF1 t ht).2
  have hFF : sp_FF F (0 * 17) P (fr_L s b H N P) (fr_G s b H N P) (fr_GF s b H N P T) (fr_SL s b H N P T) (fr_SG s b H N P T) (fr_Q s N P) := ⟨f0, f1, hF2, f3, f7, f11⟩
  refine sx_pf (l := fr_L s b H N P) (ga := fr_G s b H N P) (gf := fr_GF s b H N P T) (q := fr_Q s N P) (sl := fr_SL s b H N P T) (sg := fr_SG s b H N P T) hP (fun m hm => ⟨f11 m hm, fr_Qb⟩) f0 fr_Lb f1 fr_Gb (fun t ht => ⟨f3 t ht, Nat.lt_of_lt_of_le (fr_SLb (by omega)) hT⟩) (fun t ht => ⟨f7 t ht, fr_SGb⟩) hF2 (fr_GFb (by omega)) ?_
  have hb2 : sp_row (0 * 6) P M2 b := fun j hj => by
    rw [hM2 _ (by omega), hM1 _ (by omega)]
    exact hb j hj
  refine sx_syn (sd := 0) (c := fr_C s N P) (b := b) (H := H) (l := fr_L s b H N P) (ga := fr_G s b H N P) (gf := fr_GF s b H N P T) (sl := fr_SL s b H N P T) (sg := fr_SG s b H N P T) hP1 hP hN8 hNT hT (by omega) hg hb2 hc hH f0 fr_Lb f1 hF2 (fr_GFb (by omega)) (fun t ht => ⟨f3 t ht, fr_SLb (by omega)⟩) (fun t ht => ⟨f7 t ht, fr_SGb⟩) (fun M3 A pe2 ps ex r1 r2 r3 r4 => ?_)
  refine h raw co pr op F _ M3 A _ _ pe2 _ tp cp ps ex hraw hFF f17 (fun j hj => ?_) (fun j hj => ?_) r1 (fun q h6 h12 => ?_) r3 (fun q hq => r4 q (by omega))
  · rw [Nat.zero_mul, Nat.zero_add, sp_fl_lo hj]
    rfl
  · rw [sp_fl_hi (by omega)]
  · rw [r2 q (by omega), hM2 q h12, hM1 q h12]
end
section
/-! the component's decodeFrame -/
def dr_Q (S m : Nat) : Nat := sp_rd S (4 * m) 4
def dr_L (S P : Nat) : Nat := sp_rd S (4 * P) 5
def dr_G (S P : Nat) : Nat := sp_rd S (4 * P + 5) 3
def dr_SL (S P t : Nat) : Nat := sp_rd S (4 * P + 8 + 4 * t) 3
def dr_SG (S P t : Nat) : Nat := sp_rd S (4 * P + 8 + 4 * t + 3) 1
def dr_GF (S P : Nat) : Nat := sp_rd S (4 * P + 24) 4
def dr_C (S j : Nat) : Int32 := sp_kq (dr_Q S (j - 1))
def dr_U (H : Nat → Int32) (S P : Nat) : Nat → Int32 := sp_u H (dr_L S P) (dr_G S P) (dr_GF S P) (dr_SL S P) (dr_SG S P)
theorem sp_msk : ∀ k, k < 16 → (((1 : Int32) <<< (nI k &&& 31)) - 1).toBitVec.toNat = 2 ^ k - 1 := by decide +kernel
theorem sx_ba {post : Int32 → Prop} {S c k : Nat} {p1 p2 : Int32} (hS : S < 2 ^ 64) (hk : 1 ≤ k) (hk2 : k < 16) (hc : c + k ≤ 64) (h : post (nI (sp_rd S c k))) (e1 : p1 = nI c := by rfl) (e2 : p2 = nI k := by rfl) : wpX_bitsAt post (lN S) p1 p2 := by
  subst e1 e2
  unfold wpX_bitsAt
  rw [show (64 : Int32) - nI c = nI (64 - c) from pk_sub (a := 64) (by omega), pk_sub (by omega), sp_bits hS hc (by omega) rfl (by omega) (sp_msk k hk2)]
  exact h
theorem sx_uf71 {P N T : Nat} {x_pending : Int32} {x_encodedStream : Int64} {x_reflectionLevels x_pulseLevels x_memory x_history x_output x_fields x_frameCounts x_reflections x_samples x_rawReflections x_target x_impulseResponse x_pastExcitation x_filteredPast x_chosenPulses x_trialPulses x_pulseSigns x_excitation x_receivedFields : Nat → Int32} {x_correlation x_predictor x_oldPredictor : Nat → Int64} {post : SX → Prop} {S : Nat} (hS : S < 2 ^ 64) (hP : P ≤ 6)
    (h : ∀ rf, (∀ t, t < 4 → rf (3 + t) = nI (dr_SL S P t)) → (∀ t, t < 4 → rf (7 + t) = nI (dr_SG S P t)) → rf 2 = nI (dr_GF S P) → (∀ j, j < 2 ∨ 11 ≤ j → rf j = x_receivedFields j) → post ((nI P), (nI N), (nI T), x_pending, x_encodedStream, x_reflectionLevels, x_pulseLevels, x_memory, x_history, x_output, x_fields, x_frameCounts, x_reflections, x_samples, x_rawReflections, x_correlation, x_predictor, x_oldPredictor, x_target, x_impulseResponse, x_pastExcitation, x_filteredPast, x_chosenPulses, x_trialPulses, x_pulseSigns, x_excitation, rf)) :
    ∀ d t rf, t + d = 4 → (∀ k, k < t → rf (3 + k) = nI (dr_SL S P k)) → (∀ k, k < t → rf (7 + k) = nI (dr_SG S P k)) → (∀ j, j < 2 ∨ 11 ≤ j → rf j = x_receivedFields j) →
      wX_unpackFields_71 post (lN S) (nI P) (nI N) (nI T) x_pending x_encodedStream (d + 1) (nI (4 * P + 8 + 4 * t)) (nI t) x_reflectionLevels x_pulseLevels x_memory x_history x_output x_fields x_frameCounts x_reflections x_samples x_rawReflections x_correlation x_predictor x_oldPredictor x_target x_impulseResponse x_pastExcitation x_filteredPast x_chosenPulses x_trialPulses x_pulseSigns x_excitation rf := by
  intro d
  induction d with
  | zero =>
    intro t rf ht h3 h7 hf
    obtain rfl : t = 4 := by omega
    refine br_t (nI_le (a := 4) (by omega) (by omega)) (sx_ba (c := 4 * P + 24) (k := 4) hS (by omega) (by omega) (by omega) (nm_e (h _ ?_ ?_ ?_ ?_)))
    · intro k hk
      rw [pk_un (by omega)]
      exact h3 k hk
    · intro k hk
      rw [pk_un (by omega)]
      exact h7 k hk
    · rw [pk_us]
      rfl
    · intro j hj
      rw [pk_un (by omega)]
      exact hf j hj
  | succ d ih =>
    intro t rf ht h3 h7 hf
    have e3 : (3 : Int32) + nI t = nI (3 + t) := nI_add 3 t
    have e7 : (7 : Int32) + nI t = nI (7 + t) := nI_add 7 t
    refine br_f (nI_ge (b := 4) (by omega) (by omega)) (sx_ba (c := 4 * P + 8 + 4 * t) (k := 3) hS (by omega) (by omega) (by omega) ⟨pk_in (3 + t) 17 (by omega) e3, nm_e (sx_ba (c := 4 * P + 8 + 4 * t + 3) (k := 1) hS (by omega) (by omega) (by omega) ⟨pk_in (7 + t) 17 (by omega) e7, nm_e (nm_r (e' := nI (4 * P + 8 + 4 * (t + 1))) (nI_add _ 4) (nm_r (nI_1 t) (ih (t + 1) _ (by omega) ?_ ?_ ?_)))⟩ (nI_add _ 3))⟩)
    · intro k hk
      rw [e3, e7, nI_clamp (by omega), nI_clamp (by omega)]
      by_cases c : k = t
      · subst c
        rw [pk_un (by omega), pk_us]
        rfl
      · rw [pk_un (by omega), pk_un (by omega)]
        exact h3 k (by omega)
    · intro k hk
      rw [e3, e7, nI_clamp (by omega), nI_clamp (by omega)]
      by_cases c : k = t
      · subst c
        rw [pk_us]
        rfl
      · rw [pk_un (by omega), pk_un (by omega)]
        exact h7 k (by omega)
    · intro j hj
      rw [e3, e7, nI_clamp (by omega), nI_clamp (by omega), pk_un (by omega), pk_un (by omega)]
      exact hf j hj
theorem sx_uf5 {P N T : Nat} {x_pending : Int32} {x_encodedStream : Int64} {x_reflectionLevels x_pulseLevels x_memory x_history x_output x_fields x_frameCounts x_reflections x_samples x_rawReflections x_target x_impulseResponse x_pastExcitation x_filteredPast x_chosenPulses x_trialPulses x_pulseSigns x_excitation : Nat → Int32} {x_correlation x_predictor x_oldPredictor : Nat → Int64} {post : SX → Prop} {S : Nat} (hS : S < 2 ^ 64) (hP : P ≤ 6)
    (h : ∀ rf, sp_FF rf 0 P (dr_L S P) (dr_G S P) (dr_GF S P) (dr_SL S P) (dr_SG S P) (dr_Q S) → post ((nI P), (nI N), (nI T), x_pending, x_encodedStream, x_reflectionLevels, x_pulseLevels, x_memory, x_history, x_output, x_fields, x_frameCounts, x_reflections, x_samples, x_rawReflections, x_correlation, x_predictor, x_oldPredictor, x_target, x_impulseResponse, x_pastExcitation, x_filteredPast, x_chosenPulses, x_trialPulses, x_pulseSigns, x_excitation, rf)) :
    ∀ d m rf, m + d = P → (∀ k, k < m → rf (11 + k) = nI (dr_Q S k)) →
      wX_unpackFields_5 post (lN S) (nI P) (nI N) (nI T) x_pending x_encodedStream (d + 1) (nI (4 * m)) (nI m) x_reflectionLevels x_pulseLevels x_memory x_history x_output x_fields x_frameCounts x_reflections x_samples x_rawReflections x_correlation x_predictor x_oldPredictor x_target x_impulseResponse x_pastExcitation x_filteredPast x_chosenPulses x_trialPulses x_pulseSigns x_excitation rf := by
  intro d
  induction d with
  | zero =>
    intro m rf hm hq
    obtain rfl : m = P := by omega
    refine br_t (nI_le (by omega) (by omega)) (sx_ba (c := 4 * m) (k := 5) hS (by omega) (by omega) (by omega) (nm_e (sx_ba (c := 4 * m + 5) (k := 3) hS (by omega) (by omega) (by omega) (nm_e (nm_r (e' := nI (4 * m + 8 + 4 * 0)) (nI_add _ 8) (Exists.intro (4 + 1) ?_))) (nI_add _ 5))))
    refine sx_uf71 hS hP (fun rf' g3 g7 g2 gf => h rf' ⟨?_, ?_, g2, ?_, ?_, ?_⟩) 4 0 _ (by omega) (fun k hk => absurd hk (by omega)) (fun k hk => absurd hk (by omega)) (fun _ _ => rfl)
    · rw [gf (0 + 0) (by omega), pk_un (by omega), pk_us]
      rfl
    · rw [gf (0 + 1) (by omega), pk_us]
      rfl
    · intro t ht
      rw [show 0 + 3 + t = 3 + t from by omega]
      exact g3 t ht
    · intro t ht
      rw [show 0 + 7 + t = 7 + t from by omega]
      exact g7 t ht
    · intro k hk
      rw [show 0 + 11 + k = 11 + k from by omega, gf (11 + k) (by omega), pk_un (by omega), pk_un (by omega)]
      exact hq k hk
  | succ d ih =>
    intro m rf hm hq
    have e : (11 : Int32) + nI m = nI (11 + m) := nI_add 11 m
    refine br_f (nI_ge (by omega) (by omega)) (sx_ba (c := 4 * m) (k := 4) hS (by omega) (by omega) (by omega) ⟨pk_in (11 + m) 17 (by omega) e, nm_e (nm_r (e' := nI (4 * (m + 1))) (nI_add _ 4) (nm_r (nI_1 m) (ih (m + 1) _ (by omega) ?_)))⟩)
    intro k hk
    rw [e, nI_clamp (by omega)]
    by_cases c : k = m
    · subst c
      rw [pk_us]
      rfl
    · rw [pk_un (by omega)]
      exact hq k (by omega)
theorem sx_uf {P N T : Nat} {x_pending : Int32} {x_encodedStream : Int64} {x_reflectionLevels x_pulseLevels x_memory x_history x_output x_fields x_frameCounts x_reflections x_samples x_rawReflections x_target x_impulseResponse x_pastExcitation x_filteredPast x_chosenPulses x_trialPulses x_pulseSigns x_excitation x_receivedFields : Nat → Int32} {x_correlation x_predictor x_oldPredictor : Nat → Int64} {post : SX → Prop} {S : Nat} (hS : S < 2 ^ 64) (hP : P ≤ 6)
    (h : ∀ rf, sp_FF rf 0 P (dr_L S P) (dr_G S P) (dr_GF S P) (dr_SL S P) (dr_SG S P) (dr_Q S) → post ((nI P), (nI N), (nI T), x_pending, x_encodedStream, x_reflectionLevels, x_pulseLevels, x_memory, x_history, x_output, x_fields, x_frameCounts, x_reflections, x_samples, x_rawReflections, x_correlation, x_predictor, x_oldPredictor, x_target, x_impulseResponse, x_pastExcitation, x_filteredPast, x_chosenPulses, x_trialPulses, x_pulseSigns, x_excitation, rf)) : wpX_unpackFields post ((nI P), (nI N), (nI T), x_pending, x_encodedStream, x_reflectionLevels, x_pulseLevels, x_memory, x_history, x_output, x_fields, x_frameCounts, x_reflections, x_samples, x_rawReflections, x_correlation, x_predictor, x_oldPredictor, x_target, x_impulseResponse, x_pastExcitation, x_filteredPast, x_chosenPulses, x_trialPulses, x_pulseSigns, x_excitation, x_receivedFields) (lN S) :=
  Exists.intro (P + 1) (sx_uf5 hS hP h P 0 x_receivedFields (by omega) (fun k hk => absurd hk (by omega)))
theorem sx_rs2 {P N T : Nat} {x_pending : Int32} {x_encodedStream : Int64} {x_reflectionLevels x_pulseLevels x_memory x_history x_output x_fields x_frameCounts x_reflections x_samples x_rawReflections x_target x_impulseResponse x_pastExcitation x_filteredPast x_chosenPulses x_trialPulses x_pulseSigns x_excitation x_receivedFields : Nat → Int32} {x_correlation x_predictor x_oldPredictor : Nat → Int64} {post : Int32 → Prop} {sl : Nat → Nat} (hT : T ≤ 8) (hb : ∀ t, t < 4 → sl t < 8) (h3 : ∀ t, t < 4 → x_receivedFields (3 + t) = nI (sl t))
    (h1 : (∀ t, t < 4 → sl t < T) → post 1) (h0 : ¬ (∀ t, t < 4 → sl t < T) → post 0) :
    ∀ d t, t + d = 4 → (∀ k, k < t → sl k < T) → wX_receivedSlotsFit_2 post (nI P) (nI N) (nI T) x_pending x_encodedStream x_reflectionLevels x_pulseLevels x_memory x_history x_output x_fields x_frameCounts x_reflections x_samples x_rawReflections x_correlation x_predictor x_oldPredictor x_target x_impulseResponse x_pastExcitation x_filteredPast x_chosenPulses x_trialPulses x_pulseSigns x_excitation x_receivedFields (d + 1) (nI t) := by
  intro d
  induction d with
  | zero =>
    intro t ht hk
    obtain rfl : t = 4 := by omega
    exact br_t (nI_le (a := 4) (by omega) (by omega)) (h1 hk)
  | succ d ih =>
    intro t ht hk
    have e3 : (3 : Int32) + nI t = nI (3 + t) := nI_add 3 t
    refine br_f (nI_ge (b := 4) (by omega) (by omega)) ⟨pk_in (3 + t) 17 (by omega) e3, ?_⟩
    have b := hb t (by omega)
    rw [e3, nI_clamp (by omega), h3 t (by omega)]
    by_cases c : sl t < T
    · refine br_t (nI_lt c (by omega)) (nm_r (nI_1 t) (ih (t + 1) (by omega) (fun k hk' => ?_)))
      by_cases e : k = t
      · rw [e]
        exact c
      · exact hk k (by omega)
    · exact br_f (nI_nlt (by omega) (by omega)) (h0 (fun z => c (z t (by omega))))
theorem sx_rs {P N T : Nat} {x_pending : Int32} {x_encodedStream : Int64} {x_reflectionLevels x_pulseLevels x_memory x_history x_output x_fields x_frameCounts x_reflections x_samples x_rawReflections x_target x_impulseResponse x_pastExcitation x_filteredPast x_chosenPulses x_trialPulses x_pulseSigns x_excitation x_receivedFields : Nat → Int32} {x_correlation x_predictor x_oldPredictor : Nat → Int64} {post : Int32 → Prop} {sl : Nat → Nat} (hT : T ≤ 8) (hb : ∀ t, t < 4 → sl t < 8) (h3 : ∀ t, t < 4 → x_receivedFields (3 + t) = nI (sl t))
    (h1 : (∀ t, t < 4 → sl t < T) → post 1) (h0 : ¬ (∀ t, t < 4 → sl t < T) → post 0) : wpX_receivedSlotsFit post ((nI P), (nI N), (nI T), x_pending, x_encodedStream, x_reflectionLevels, x_pulseLevels, x_memory, x_history, x_output, x_fields, x_frameCounts, x_reflections, x_samples, x_rawReflections, x_correlation, x_predictor, x_oldPredictor, x_target, x_impulseResponse, x_pastExcitation, x_filteredPast, x_chosenPulses, x_trialPulses, x_pulseSigns, x_excitation, x_receivedFields) :=
  Exists.intro (4 + 1) (sx_rs2 hT hb h3 h1 h0 4 0 (by omega) (fun k hk => absurd hk (by omega)))
theorem sx_sr36 {P N T : Nat} {x_pending : Int32} {x_encodedStream : Int64} {x_reflectionLevels x_pulseLevels x_memory x_history x_output x_fields x_frameCounts x_reflections x_samples x_rawReflections x_target x_impulseResponse x_pastExcitation x_filteredPast x_chosenPulses x_trialPulses x_pulseSigns x_excitation x_receivedFields : Nat → Int32} {x_correlation x_predictor x_oldPredictor : Nat → Int64} {post : SX → Prop} {q : Nat → Nat} (hP : P ≤ 6) (hk : ∀ j, j < 16 → x_reflectionLevels j = sp_kq j) (hq : ∀ m, m < P → x_receivedFields (11 + m) = nI (q m) ∧ q m < 16)
    (h : post ((nI P), (nI N), (nI T), x_pending, x_encodedStream, x_reflectionLevels, x_pulseLevels, x_memory, x_history, x_output, x_fields, x_frameCounts, (sp_fo (fun m => sp_kq (q m)) 6 P x_reflections), x_samples, x_rawReflections, x_correlation, x_predictor, x_oldPredictor, x_target, x_impulseResponse, x_pastExcitation, x_filteredPast, x_chosenPulses, x_trialPulses, x_pulseSigns, x_excitation, x_receivedFields)) :
    ∀ d i, i + d = P → wX_storeReceivedFields_36 post (nI P) (nI N) (nI T) x_pending x_encodedStream (d + 1) (nI i) x_reflectionLevels x_pulseLevels x_memory x_history x_output x_fields x_frameCounts (sp_fo (fun m => sp_kq (q m)) 6 i x_reflections) x_samples x_rawReflections x_correlation x_predictor x_oldPredictor x_target x_impulseResponse x_pastExcitation x_filteredPast x_chosenPulses x_trialPulses x_pulseSigns x_excitation x_receivedFields := by
  intro d
  induction d with
  | zero =>
    intro i hi
    obtain rfl : i = P := by omega
    exact br_t (nI_le (by omega) (by omega)) h
  | succ d ih =>
    intro i hi
    have e : (11 : Int32) + nI i = nI (11 + i) := nI_add 11 i
    have e6 : (6 : Int32) + nI i = nI (6 + i) := nI_add 6 i
    have o := hq i (by omega)
    have c : x_receivedFields ((11 : Int32) + nI i).toNatClampNeg = nI (q i) := by
      rw [e, nI_clamp (by omega)]
      exact o.1
    refine br_f (nI_ge (by omega) (by omega)) ⟨pk_in (11 + i) 17 (by omega) e, pk_in (q i) 16 o.2 c, pk_in (6 + i) 12 (by omega) e6, nm_r ?_ (nm_r (nI_1 i) (ih (i + 1) (by omega)))⟩
    rw [c, e6, nI_clamp (by omega), nI_clamp (by omega), hk _ o.2]
    exact sp_foS (g := fun m => sp_kq (q m))
theorem sx_sr2 {P N T : Nat} {x_pending : Int32} {x_encodedStream : Int64} {x_reflectionLevels x_pulseLevels x_memory x_history x_output x_fields x_frameCounts x_reflections x_samples x_rawReflections x_target x_impulseResponse x_pastExcitation x_filteredPast x_chosenPulses x_trialPulses x_pulseSigns x_excitation x_receivedFields : Nat → Int32} {x_correlation x_predictor x_oldPredictor : Nat → Int64} {post : SX → Prop} {q : Nat → Nat} (hP : P ≤ 6) (hk : ∀ j, j < 16 → x_reflectionLevels j = sp_kq j) (hq : ∀ m, m < P → x_receivedFields (11 + m) = nI (q m) ∧ q m < 16)
    (h : post ((nI P), (nI N), (nI T), x_pending, x_encodedStream, x_reflectionLevels, x_pulseLevels, x_memory, x_history, x_output, (sp_fo x_receivedFields 17 (11 + P) x_fields), x_frameCounts, (sp_fo (fun m => sp_kq (q m)) 6 P x_reflections), x_samples, x_rawReflections, x_correlation, x_predictor, x_oldPredictor, x_target, x_impulseResponse, x_pastExcitation, x_filteredPast, x_chosenPulses, x_trialPulses, x_pulseSigns, x_excitation, x_receivedFields)) :
    ∀ d i, i + d = 11 + P → wX_storeReceivedFields_2 post (nI P) (nI N) (nI T) x_pending x_encodedStream (d + 1) (nI i) x_reflectionLevels x_pulseLevels x_memory x_history x_output (sp_fo x_receivedFields 17 i x_fields) x_frameCounts x_reflections x_samples x_rawReflections x_correlation x_predictor x_oldPredictor x_target x_impulseResponse x_pastExcitation x_filteredPast x_chosenPulses x_trialPulses x_pulseSigns x_excitation x_receivedFields := by
  have eP : (11 : Int32) + nI P = nI (11 + P) := nI_add 11 P
  intro d
  induction d with
  | zero =>
    intro i hi
    obtain rfl : i = 11 + P := by omega
    have t := sx_sr36 (x_reflections := x_reflections) (x_fields := sp_fo x_receivedFields 17 (11 + P) x_fields) hP hk hq h P 0 (by omega)
    rw [sp_fo0] at t
    exact br_t (by rw [eP]; exact nI_le (by omega) (by omega)) ⟨P + 1, t⟩
  | succ d ih =>
    intro i hi
    have e : (17 : Int32) + nI i = nI (17 + i) := nI_add 17 i
    refine br_f (by rw [eP]; exact nI_ge (by omega) (by omega)) ⟨vp_in_nI (by omega) (by omega), pk_in (17 + i) 34 (by omega) e, nm_r ?_ (nm_r (nI_1 i) (ih (i + 1) (by omega)))⟩
    rw [e, nI_clamp (by omega), nI_clamp (by omega)]
    exact sp_foS
theorem sx_sr {P N T : Nat} {x_pending : Int32} {x_encodedStream : Int64} {x_reflectionLevels x_pulseLevels x_memory x_history x_output x_fields x_frameCounts x_reflections x_samples x_rawReflections x_target x_impulseResponse x_pastExcitation x_filteredPast x_chosenPulses x_trialPulses x_pulseSigns x_excitation x_receivedFields : Nat → Int32} {x_correlation x_predictor x_oldPredictor : Nat → Int64} {post : SX → Prop} {q : Nat → Nat} (hP : P ≤ 6) (hk : ∀ j, j < 16 → x_reflectionLevels j = sp_kq j) (hq : ∀ m, m < P → x_receivedFields (11 + m) = nI (q m) ∧ q m < 16)
    (h : post ((nI P), (nI N), (nI T), x_pending, x_encodedStream, x_reflectionLevels, x_pulseLevels, x_memory, x_history, x_output, (sp_fo x_receivedFields 17 (11 + P) x_fields), x_frameCounts, (sp_fo (fun m => sp_kq (q m)) 6 P x_reflections), x_samples, x_rawReflections, x_correlation, x_predictor, x_oldPredictor, x_target, x_impulseResponse, x_pastExcitation, x_filteredPast, x_chosenPulses, x_trialPulses, x_pulseSigns, x_excitation, x_receivedFields)) : wpX_storeReceivedFields post ((nI P), (nI N), (nI T), x_pending, x_encodedStream, x_reflectionLevels, x_pulseLevels, x_memory, x_history, x_output, x_fields, x_frameCounts, x_reflections, x_samples, x_rawReflections, x_correlation, x_predictor, x_oldPredictor, x_target, x_impulseResponse, x_pastExcitation, x_filteredPast, x_chosenPulses, x_trialPulses, x_pulseSigns, x_excitation, x_receivedFields) := by
  have t := sx_sr2 hP hk hq h (11 + P) 0 (by omega)
  rw [sp_fo0] at t
  exact Exists.intro _ t
theorem dr_SLb {S P t : Nat} : dr_SL S P t < 8 := sp_rd_b _ _ 3
theorem dr_Qb {S m : Nat} : dr_Q S m < 16 := sp_rd_b _ _ 4
theorem sp_FF_fo {rf F : Nat → Int32} {P l ga gf : Nat} {sl sg q : Nat → Nat} (h : sp_FF rf 0 P l ga gf sl sg q) : sp_FF (sp_fo rf 17 (11 + P) F) (1 * 17) P l ga gf sl sg q := by
  obtain ⟨h0, h1, h2, h3, h7, h11⟩ := h
  refine ⟨?_, ?_, ?_, fun t ht => ?_, fun t ht => ?_, fun m hm => ?_⟩
  · exact (sp_fo_in (B := 17) (j := 0) (by omega)).trans h0
  · exact (sp_fo_in (B := 17) (j := 1) (by omega)).trans h1
  · exact (sp_fo_in (B := 17) (j := 2) (by omega)).trans h2
  · rw [show 1 * 17 + 3 + t = 17 + (0 + 3 + t) from by omega]
    exact (sp_fo_in (by omega)).trans (h3 t ht)
  · rw [show 1 * 17 + 7 + t = 17 + (0 + 7 + t) from by omega]
    exact (sp_fo_in (by omega)).trans (h7 t ht)
  · rw [show 1 * 17 + 11 + m = 17 + (0 + 11 + m) from by omega]
    exact (sp_fo_in (by omega)).trans (h11 m hm)
theorem sx_dec {P N T : Nat} {x_pending : Int32} {x_encodedStream : Int64} {x_reflectionLevels x_pulseLevels x_memory x_history x_output x_fields x_frameCounts x_reflections x_samples x_rawReflections x_target x_impulseResponse x_pastExcitation x_filteredPast x_chosenPulses x_trialPulses x_pulseSigns x_excitation x_receivedFields : Nat → Int32} {x_correlation x_predictor x_oldPredictor : Nat → Int64} {post : Int32 → SX → Prop} {b H : Nat → Int32} {p0 p1 p2 p3 : Int32} {S : Nat} (hP2 : 2 ≤ P) (hP : P ≤ 6) (hNT : N = 4 * T) (hT2 : 2 ≤ T) (hT : T ≤ 8)
    (eS : S = sp_S (p0.toBitVec.toNat % 65536) (p1.toBitVec.toNat % 65536) (p2.toBitVec.toNat % 65536) (p3.toBitVec.toNat % 65536))
    (hk : ∀ j, j < 16 → x_reflectionLevels j = sp_kq j) (hg : ∀ j, j < 16 → x_pulseLevels j = sp_fg j)
    (hb : sp_row (1 * 6) P x_memory b) (hH : ∀ j, 1 ≤ j → j ≤ 64 → x_history (1 * 64 + j - 1) = H j)
    (h0 : ¬ (∀ t, t < 4 → dr_SL S P t < T) → ∀ rf, post 0 ((nI P), (nI N), (nI T), x_pending, x_encodedStream, x_reflectionLevels, x_pulseLevels, x_memory, x_history, x_output, x_fields, x_frameCounts, x_reflections, x_samples, x_rawReflections, x_correlation, x_predictor, x_oldPredictor, x_target, x_impulseResponse, x_pastExcitation, x_filteredPast, x_chosenPulses, x_trialPulses, x_pulseSigns, x_excitation, rf))
    (h1 : (∀ t, t < 4 → dr_SL S P t < T) → ∀ F Rf M A pe ps ex rf,
      sp_FF F (1 * 17) P (dr_L S P) (dr_G S P) (dr_GF S P) (dr_SL S P) (dr_SG S P) (dr_Q S) → (∀ j, j < 17 → F j = x_fields j) →
      (∀ j, j < P → Rf (1 * 6 + j) = sp_kq (dr_Q S j)) → (∀ j, j < 6 → Rf j = x_reflections j) →
      sp_row (1 * 6) P M (sp_lm (dr_C S) P b (dr_U H S P) N) → (∀ q, q < 6 → M q = x_memory q) →
      (∀ j, 1 ≤ j → j ≤ 64 → A (1 * 64 + j - 1) = sp_nh N (dr_U H S P) H j) → (∀ q, q < 64 → A q = x_history q) →
      post 1 ((nI P), (nI N), (nI T), x_pending, x_encodedStream, x_reflectionLevels, x_pulseLevels, M, A, (sp_fo (sp_lo (dr_C S) P b (dr_U H S P)) (1 * 32) N x_output), F, (upd x_frameCounts 1 (x_frameCounts 1 + 1)), Rf, x_samples, x_rawReflections, x_correlation, x_predictor, x_oldPredictor, x_target, x_impulseResponse, pe, x_filteredPast, x_chosenPulses, x_trialPulses, ps, ex, rf)) :
    wpX_decodeFrame post ((nI P), (nI N), (nI T), x_pending, x_encodedStream, x_reflectionLevels, x_pulseLevels, x_memory, x_history, x_output, x_fields, x_frameCounts, x_reflections, x_samples, x_rawReflections, x_correlation, x_predictor, x_oldPredictor, x_target, x_impulseResponse, x_pastExcitation, x_filteredPast, x_chosenPulses, x_trialPulses, x_pulseSigns, x_excitation, x_receivedFields) p0 p1 p2 p3 := by
  have hS : S < 2 ^ 64 := by
    rw [eS]
    exact sp_S_b (Nat.mod_lt _ (by decide)) (Nat.mod_lt _ (by decide)) (Nat.mod_lt _ (by decide)) (Nat.mod_lt _ (by decide))
  refine nm_r (e' := lN S) ?_ (sx_uf hS hP (fun rf hrf => ?_))
  · rw [sp_lo16, sp_lo16, sp_lo16, sp_lo16, eS]
    exact sp_S_l (Nat.mod_lt _ (by decide)) (Nat.mod_lt _ (by decide)) (Nat.mod_lt _ (by decide)) (Nat.mod_lt _ (by decide))
  have r3 : ∀ t, t < 4 → rf (3 + t) = nI (dr_SL S P t) := fun t ht => by
    have q := hrf.2.2.2.1 t ht
    rw [show 0 + 3 + t = 3 + t from by omega] at q
    exact q
  have r11 : ∀ m, m < P → rf (11 + m) = nI (dr_Q S m) := fun m hm => by
    have q := hrf.2.2.2.2.2 m hm
    rw [show 0 + 11 + m = 11 + m from by omega] at q
    exact q
  refine sx_rs hT (fun t _ => dr_SLb) r3 (fun hfit => ?_) (fun hn => ?_)
  · refine br_f (by decide) (sx_sr hP hk (fun m hm => ⟨r11 m hm, dr_Qb⟩) ?_)
    have hF := sp_FF_fo (F := x_fields) hrf
    refine sx_syn (sd := 1) (c := dr_C S) (b := b) (H := H) (l := dr_L S P) (ga := dr_G S P) (gf := dr_GF S P) (sl := dr_SL S P) (sg := dr_SG S P) (by omega) hP (by omega) hNT hT (by omega) hg hb (fun j hj => sp_fo_in hj) hH hF.1 (sp_rd_b _ _ 5) hF.2.1 hF.2.2.1 (sp_rd_b _ _ 4) (fun t ht => ⟨hF.2.2.2.1 t ht, hfit t ht⟩) (fun t ht => ⟨hF.2.2.2.2.1 t ht, sp_rd_b _ _ 1⟩) (fun M A pe ps ex q1 q2 q3 q4 => ?_)
    exact h1 hfit _ _ M A pe ps ex rf hF (fun j hj => sp_fo_out (by omega)) (fun j hj => sp_fo_in hj) (fun j hj => sp_fo_out (by omega)) q1 (fun q hq => q2 q (by omega)) q3 (fun q hq => q4 q (by omega))
  · exact br_t rfl (h0 hn rf)
end
section
/-! the reference: saturation, the lattice, past excitation, errors, pulses -/
theorem sy_sat {P N T : Nat} {y_cnt y_cur : Int32} {y_kq y_fg y_mem y_hist y_out y_fld y_fc y_made y_s y_rawK y_q y_words y_dw y_tf y_cw y_x y_x2 y_h y_v y_y y_z y_u y_cp y_oldH y_encSlot y_encSign : Nat → Int32} {y_R y_r y_a y_ao : Nat → Int64} {post : Int32 → Prop} {w v : Int32} (e : sp_sat w = v) (h : post v) : wpY_sat post ((nI P), (nI N), (nI T), y_cnt, y_cur, y_kq, y_fg, y_mem, y_hist, y_out, y_fld, y_fc, y_made, y_s, y_rawK, y_q, y_words, y_dw, y_tf, y_cw, y_x, y_x2, y_h, y_v, y_y, y_z, y_u, y_cp, y_oldH, y_encSlot, y_encSign, y_R, y_r, y_a, y_ao) w := by
  unfold wpY_sat
  dsimp only
  unfold sp_sat at e
  refine br_c (fun a => ?_) (fun a => ?_)
  · rw [if_neg (Int32.not_lt.mpr a)] at e
    refine br_c (fun b => ?_) (fun b => ?_)
    · rw [if_neg (Int32.not_lt.mpr b)] at e
      rw [e]
      exact h
    · rw [if_pos (Int32.not_le.mp b)] at e
      rw [e]
      exact h
  · rw [if_pos (Int32.not_le.mp a)] at e
    rw [e]
    exact h
theorem sy_satL {P N T : Nat} {y_cnt y_cur : Int32} {y_kq y_fg y_mem y_hist y_out y_fld y_fc y_made y_s y_rawK y_q y_words y_dw y_tf y_cw y_x y_x2 y_h y_v y_y y_z y_u y_cp y_oldH y_encSlot y_encSign : Nat → Int32} {y_R y_r y_a y_ao : Nat → Int64} {post : Int32 → Prop} {w : Int64} {v : Int32} (e : sp_satL w = v) (h : post v) : wpY_satL post ((nI P), (nI N), (nI T), y_cnt, y_cur, y_kq, y_fg, y_mem, y_hist, y_out, y_fld, y_fc, y_made, y_s, y_rawK, y_q, y_words, y_dw, y_tf, y_cw, y_x, y_x2, y_h, y_v, y_y, y_z, y_u, y_cp, y_oldH, y_encSlot, y_encSign, y_R, y_r, y_a, y_ao) w := by
  unfold wpY_satL
  dsimp only
  unfold sp_satL at e
  refine br_c (fun a => ?_) (fun a => ?_)
  · rw [if_neg (Int64.not_lt.mpr a)] at e
    refine br_c (fun b => ?_) (fun b => ?_)
    · rw [if_neg (Int64.not_lt.mpr b)] at e
      rw [e]
      exact h
    · rw [if_pos (Int64.not_le.mp b)] at e
      rw [e]
      exact h
  · rw [if_pos (Int64.not_le.mp a)] at e
    rw [e]
    exact h
theorem sy_lat8 {P N T : Nat} {y_cnt y_cur : Int32} {y_kq y_fg y_hist y_out y_fld y_fc y_made y_s y_rawK y_q y_words y_dw y_tf y_cw y_x y_x2 y_h y_v y_y y_z y_u y_cp y_oldH y_encSlot y_encSign : Nat → Int32} {y_R y_r y_a y_ao : Nat → Int64} {post : Int32 → SY → Prop} {c : Nat → Int32} {B : Nat} (hP1 : 1 ≤ P) (hP : P ≤ 6) (hB : B + P ≤ 24)
    (hc : ∀ j, j < P → y_cw (j + 1) = c (j + 1)) :
    ∀ j f b M, j ≤ P → sp_row B P M b → (∀ M', sp_row B P M' (sp_go c P j f b).2 → (∀ q, q < B ∨ B + P ≤ q → M' q = M q) → post (sp_go c P j f b).1 ((nI P), (nI N), (nI T), y_cnt, y_cur, y_kq, y_fg, M', y_hist, y_out, y_fld, y_fc, y_made, y_s, y_rawK, y_q, y_words, y_dw, y_tf, y_cw, y_x, y_x2, y_h, y_v, y_y, y_z, y_u, y_cp, y_oldH, y_encSlot, y_encSign, y_R, y_r, y_a, y_ao)) →
      wY_lattice_8 post (nI B) (nI P) (nI N) (nI T) y_cnt y_cur (j + 1) f (nI j) y_kq y_fg M y_hist y_out y_fld y_fc y_made y_s y_rawK y_q y_words y_dw y_tf y_cw y_x y_x2 y_h y_v y_y y_z y_u y_cp y_oldH y_encSlot y_encSign y_R y_r y_a y_ao := by
  intro j
  induction j with
  | zero =>
    intro f b M _ hr h
    refine br_t (nI_lt (b := 1) (by omega) (by omega)) ⟨vp_in_nI (by omega) (by omega), nm_e (h _ ?_ ?_)⟩
    · rw [nI_clamp (by omega)]
      exact sp_row_u (k := 0) hr
    · intro q hq
      rw [nI_clamp (by omega), pk_un (by omega)]
  | succ j ih =>
    intro f b M hj hr h
    have eB : nI B + nI (j + 1) - 1 = nI (B + j) := by
      rw [nI_add]
      exact nI_pred (B + j)
    refine br_f (nI_nlt (b := 1) (by omega) (by omega)) ⟨vp_in_nI (by omega) (by omega), nm_r (e' := c (j + 1)) ?_ ⟨pk_in (B + j) 24 (by omega) eB, sy_sat (v := sp_lf c b j f) ?_ ?_⟩⟩
    · rw [nI_clamp (by omega)]
      exact hc j (by omega)
    · rw [eB, nI_clamp (by omega), hr j (by omega)]
      rfl
    · by_cases hjP : j + 1 < P
      · have eg : sp_go c P (j + 1) f b = sp_go c P j (sp_lf c b j f) (upd b (j + 1) (sp_lb c b j (sp_lf c b j f))) := by
          show sp_go c P j (sp_lf c b j f) (if j + 1 < P then upd b (j + 1) (sp_lb c b j (sp_lf c b j f)) else b) = _
          rw [if_pos hjP]
        rw [eg] at h
        refine br_f (nI_ge hjP (by omega)) ⟨pk_in (B + j) 24 (by omega) eB, sy_sat (v := sp_lb c b j (sp_lf c b j f)) ?_ ⟨pk_in (B + (j + 1)) 24 (by omega) (nI_add B (j + 1)), nm_r (e' := upd M (B + (j + 1)) (sp_lb c b j (sp_lf c b j f))) ?_ (nm_r (pk_m1 j) (ih _ _ _ (by omega) (sp_row_u hr) (fun M' h1 h2 => h M' h1 (fun q hq => ?_))))⟩⟩
        · rw [eB, nI_clamp (by omega), hr j (by omega)]
          rfl
        · rw [nI_add, nI_clamp (by omega)]
        · rw [h2 q hq, pk_un (by omega)]
      · have eg : sp_go c P (j + 1) f b = sp_go c P j (sp_lf c b j f) b := by
          show sp_go c P j (sp_lf c b j f) (if j + 1 < P then upd b (j + 1) (sp_lb c b j (sp_lf c b j f)) else b) = _
          rw [if_neg hjP]
        rw [eg] at h
        exact br_t (nI_le (by omega) (by omega)) (nm_r (pk_m1 j) (ih _ _ _ (by omega) hr h))
theorem sy_lat {P N T : Nat} {y_cnt y_cur : Int32} {y_kq y_fg y_mem y_hist y_out y_fld y_fc y_made y_s y_rawK y_q y_words y_dw y_tf y_cw y_x y_x2 y_h y_v y_y y_z y_u y_cp y_oldH y_encSlot y_encSign : Nat → Int32} {y_R y_r y_a y_ao : Nat → Int64} {post : Int32 → SY → Prop} {c b : Nat → Int32} {e p : Int32} {B : Nat} (hP1 : 1 ≤ P) (hP : P ≤ 6) (hB : B + P ≤ 24)
    (hc : ∀ j, j < P → y_cw (j + 1) = c (j + 1)) (hr : sp_row B P y_mem b)
    (h : ∀ M', sp_row B P M' (sp_go c P P e b).2 → (∀ q, q < B ∨ B + P ≤ q → M' q = y_mem q) → post (sp_go c P P e b).1 ((nI P), (nI N), (nI T), y_cnt, y_cur, y_kq, y_fg, M', y_hist, y_out, y_fld, y_fc, y_made, y_s, y_rawK, y_q, y_words, y_dw, y_tf, y_cw, y_x, y_x2, y_h, y_v, y_y, y_z, y_u, y_cp, y_oldH, y_encSlot, y_encSign, y_R, y_r, y_a, y_ao))
    (ep : p = nI B := by rfl) : wpY_lattice post ((nI P), (nI N), (nI T), y_cnt, y_cur, y_kq, y_fg, y_mem, y_hist, y_out, y_fld, y_fc, y_made, y_s, y_rawK, y_q, y_words, y_dw, y_tf, y_cw, y_x, y_x2, y_h, y_v, y_y, y_z, y_u, y_cp, y_oldH, y_encSlot, y_encSign, y_R, y_r, y_a, y_ao) p e := by
  subst ep
  exact Exists.intro (P + 1) (sy_lat8 hP1 hP hB hc P e b y_mem (Nat.le_refl P) hr h)
theorem sp_hy {sd L i : Nat} (h : i < L) : nI sd * 65 + nI L - nI i = nI (sd * 65 + (L - i)) := by
  rw [show nI sd * 65 = nI (sd * 65) from pk_mul sd 65, nI_add, pk_sub (by omega), show sd * 65 + L - i = sd * 65 + (L - i) from by omega]
theorem sy_fv7 {P N T : Nat} {y_cnt y_cur : Int32} {y_kq y_fg y_mem y_hist y_out y_fld y_fc y_made y_s y_rawK y_q y_words y_dw y_tf y_cw y_x y_x2 y_h y_v y_y y_z y_u y_cp y_oldH y_encSlot y_encSign : Nat → Int32} {y_R y_r y_a y_ao : Nat → Int64} {post : SY → Prop} {H : Nat → Int32} {sd L : Nat} (hN : N ≤ 32) (hsd : sd ≤ 1) (hL1 : 1 ≤ L) (hL : L ≤ 64)
    (hH : ∀ j, 1 ≤ j → j ≤ 64 → y_hist (sd * 65 + j) = H j)
    (h : post ((nI P), (nI N), (nI T), y_cnt, y_cur, y_kq, y_fg, y_mem, y_hist, y_out, y_fld, y_fc, y_made, y_s, y_rawK, y_q, y_words, y_dw, y_tf, y_cw, y_x, y_x2, y_h, (sp_fl (sp_pv H L) N y_v), y_y, y_z, y_u, y_cp, y_oldH, y_encSlot, y_encSign, y_R, y_r, y_a, y_ao)) :
    ∀ d i, i + d = N → wY_formV_7 post (nI sd) (nI L) (nI P) (nI N) (nI T) y_cnt y_cur (d + 1) (nI i) y_kq y_fg y_mem y_hist y_out y_fld y_fc y_made y_s y_rawK y_q y_words y_dw y_tf y_cw y_x y_x2 y_h (sp_fl (sp_pv H L) i y_v) y_y y_z y_u y_cp y_oldH y_encSlot y_encSign y_R y_r y_a y_ao := by
  intro d
  induction d with
  | zero =>
    intro i hi
    obtain rfl : i = N := by omega
    exact br_t (nI_le (by omega) (by omega)) h
  | succ d ih =>
    intro i hi
    refine br_f (nI_ge (by omega) (by omega)) ?_
    by_cases c : L ≤ i
    · refine br_t (nI_le c (by omega)) ⟨pk_in (i - L) 32 (by omega) (pk_sub c), vp_in_nI (by omega) (by omega), nm_r ?_ (nm_r (nI_1 i) (ih (i + 1) (by omega)))⟩
      rw [pk_sub c, nI_clamp (by omega), nI_clamp (by omega), sp_fl_lo (by omega), ← sp_pv_hi c]
      exact sp_flS
    · have e := sp_hy (sd := sd) (L := L) (i := i) (by omega)
      refine br_f (nI_ge (by omega) (by omega)) ⟨pk_in (sd * 65 + (L - i)) 130 (by omega) e, vp_in_nI (by omega) (by omega), nm_r ?_ (nm_r (nI_1 i) (ih (i + 1) (by omega)))⟩
      rw [e, nI_clamp (by omega), nI_clamp (by omega), hH (L - i) (by omega) (by omega), ← sp_pv_lo (H := H) (L := L) (n := i) (by omega)]
      exact sp_flS
theorem sy_fv {P N T : Nat} {y_cnt y_cur : Int32} {y_kq y_fg y_mem y_hist y_out y_fld y_fc y_made y_s y_rawK y_q y_words y_dw y_tf y_cw y_x y_x2 y_h y_v y_y y_z y_u y_cp y_oldH y_encSlot y_encSign : Nat → Int32} {y_R y_r y_a y_ao : Nat → Int64} {post : SY → Prop} {H : Nat → Int32} {sd l : Nat} (hN : N ≤ 32) (hsd : sd ≤ 1) (hl : l < 32)
    (hH : ∀ j, 1 ≤ j → j ≤ 64 → y_hist (sd * 65 + j) = H j)
    (h : post ((nI P), (nI N), (nI T), y_cnt, y_cur, y_kq, y_fg, y_mem, y_hist, y_out, y_fld, y_fc, y_made, y_s, y_rawK, y_q, y_words, y_dw, y_tf, y_cw, y_x, y_x2, y_h, (sp_fl (sp_pv H (l + 4)) N y_v), y_y, y_z, y_u, y_cp, y_oldH, y_encSlot, y_encSign, y_R, y_r, y_a, y_ao)) : wpY_formV post ((nI P), (nI N), (nI T), y_cnt, y_cur, y_kq, y_fg, y_mem, y_hist, y_out, y_fld, y_fc, y_made, y_s, y_rawK, y_q, y_words, y_dw, y_tf, y_cw, y_x, y_x2, y_h, y_v, y_y, y_z, y_u, y_cp, y_oldH, y_encSlot, y_encSign, y_R, y_r, y_a, y_ao) (nI sd) (nI l) := by
  have t := sy_fv7 hN hsd (L := l + 4) (by omega) (by omega) hH h N 0 (by omega)
  rw [sp_fl0] at t
  exact nm_r (nI_add l 4) (Exists.intro _ t)
theorem sy_cy15 {P N T : Nat} {y_cnt y_cur : Int32} {y_kq y_fg y_mem y_hist y_out y_fld y_fc y_made y_s y_rawK y_q y_words y_dw y_tf y_cw y_x y_x2 y_h y_v y_y y_z y_u y_cp y_oldH y_encSlot y_encSign : Nat → Int32} {y_R y_r y_a y_ao : Nat → Int64} {post : SY → Prop} {J : _} {i : Nat} (hi : i < 32)
    (hJ : J (nI (i + 1)) y_kq y_fg y_mem y_hist y_out y_fld y_fc y_made y_s y_rawK y_q y_words y_dw y_tf y_cw y_x y_x2 y_h y_v (upd y_y i (sp_cy y_v y_h i)) y_z y_u y_cp y_oldH y_encSlot y_encSign y_R y_r y_a y_ao) :
    ∀ d t, t + d = i + 1 → wY_computeY_15 post J (nI i) (nI P) (nI N) (nI T) y_cnt y_cur y_kq y_fg y_mem y_hist y_out y_fld y_fc y_made y_s y_rawK y_q y_words y_dw y_tf y_cw y_x y_x2 y_h y_v y_y y_z y_u y_cp y_oldH y_encSlot y_encSign y_R y_r y_a y_ao (d + 1) (sp_sm (fun j => (y_v j).toInt64 * (y_h (i - j)).toInt64) t) (nI t) := by
  intro d
  induction d with
  | zero =>
    intro t ht
    obtain rfl : t = i + 1 := by omega
    refine br_t (nI_lt (by omega) (by omega)) (sy_satL (v := sp_cy y_v y_h i) rfl ⟨vp_in_nI (by omega) (by omega), ?_⟩)
    exact nm_r (by rw [nI_clamp (by omega)]) (nm_r (nI_1 i) hJ)
  | succ d ih =>
    intro t ht
    refine br_f (nI_nlt (by omega) (by omega)) ⟨vp_in_nI (by omega) (by omega), pk_in (i - t) 32 (by omega) (pk_sub (by omega)), nm_r ?_ (nm_r (nI_1 t) (ih (t + 1) (by omega)))⟩
    rw [pk_sub (by omega), nI_clamp (by omega), nI_clamp (by omega)]
    rfl
theorem sy_cy2 {P N T : Nat} {y_cnt y_cur : Int32} {y_kq y_fg y_mem y_hist y_out y_fld y_fc y_made y_s y_rawK y_q y_words y_dw y_tf y_cw y_x y_x2 y_h y_v y_y y_z y_u y_cp y_oldH y_encSlot y_encSign : Nat → Int32} {y_R y_r y_a y_ao : Nat → Int64} {post : SY → Prop} {v hh : Nat → Int32} (hN : N ≤ 32) (hv : ∀ j, j < N → y_v j = v j) (hh' : ∀ j, j < N → y_h j = hh j)
    (h : post ((nI P), (nI N), (nI T), y_cnt, y_cur, y_kq, y_fg, y_mem, y_hist, y_out, y_fld, y_fc, y_made, y_s, y_rawK, y_q, y_words, y_dw, y_tf, y_cw, y_x, y_x2, y_h, y_v, (sp_fl (sp_cy v hh) N y_y), y_z, y_u, y_cp, y_oldH, y_encSlot, y_encSign, y_R, y_r, y_a, y_ao)) :
    ∀ d i, i + d = N → wY_computeY_2 post (nI P) (nI N) (nI T) y_cnt y_cur (d + 1) (nI i) y_kq y_fg y_mem y_hist y_out y_fld y_fc y_made y_s y_rawK y_q y_words y_dw y_tf y_cw y_x y_x2 y_h y_v (sp_fl (sp_cy v hh) i y_y) y_z y_u y_cp y_oldH y_encSlot y_encSign y_R y_r y_a y_ao := by
  intro d
  induction d with
  | zero =>
    intro i hi
    obtain rfl : i = N := by omega
    exact br_t (nI_le (by omega) (by omega)) h
  | succ d ih =>
    intro i hi
    refine br_f (nI_ge (by omega) (by omega)) ⟨i + 1 + 1, sy_cy15 (by omega) ?_ (i + 1) 0 (by omega)⟩
    rw [sp_cy_c (v' := v) (h' := hh) (fun j hj => hv j (by omega)) (fun j hj => hh' j (by omega)), sp_flS]
    exact ih (i + 1) (by omega)
theorem sy_cy {P N T : Nat} {y_cnt y_cur : Int32} {y_kq y_fg y_mem y_hist y_out y_fld y_fc y_made y_s y_rawK y_q y_words y_dw y_tf y_cw y_x y_x2 y_h y_v y_y y_z y_u y_cp y_oldH y_encSlot y_encSign : Nat → Int32} {y_R y_r y_a y_ao : Nat → Int64} {post : SY → Prop} {v hh : Nat → Int32} (hN : N ≤ 32) (hv : ∀ j, j < N → y_v j = v j) (hh' : ∀ j, j < N → y_h j = hh j)
    (h : post ((nI P), (nI N), (nI T), y_cnt, y_cur, y_kq, y_fg, y_mem, y_hist, y_out, y_fld, y_fc, y_made, y_s, y_rawK, y_q, y_words, y_dw, y_tf, y_cw, y_x, y_x2, y_h, y_v, (sp_fl (sp_cy v hh) N y_y), y_z, y_u, y_cp, y_oldH, y_encSlot, y_encSign, y_R, y_r, y_a, y_ao)) : wpY_computeY post ((nI P), (nI N), (nI T), y_cnt, y_cur, y_kq, y_fg, y_mem, y_hist, y_out, y_fld, y_fc, y_made, y_s, y_rawK, y_q, y_words, y_dw, y_tf, y_cw, y_x, y_x2, y_h, y_v, y_y, y_z, y_u, y_cp, y_oldH, y_encSlot, y_encSign, y_R, y_r, y_a, y_ao) := by
  have t := sy_cy2 hN hv hh' h N 0 (by omega)
  rw [sp_fl0] at t
  exact Exists.intro _ t
theorem sy_ea5 {P N T : Nat} {y_cnt y_cur : Int32} {y_kq y_fg y_mem y_hist y_out y_fld y_fc y_made y_s y_rawK y_q y_words y_dw y_tf y_cw y_x y_x2 y_h y_v y_y y_z y_u y_cp y_oldH y_encSlot y_encSign : Nat → Int32} {y_R y_r y_a y_ao : Nat → Int64} {post : Int64 → Prop} {g : Int32} (hN : N ≤ 32) (h : post (sp_ea y_x y_y N g)) :
    ∀ d t, t + d = N → wY_errA_5 post g (nI P) (nI N) (nI T) y_cnt y_cur y_kq y_fg y_mem y_hist y_out y_fld y_fc y_made y_s y_rawK y_q y_words y_dw y_tf y_cw y_x y_x2 y_h y_v y_y y_z y_u y_cp y_oldH y_encSlot y_encSign y_R y_r y_a y_ao (d + 1) (sp_sm (fun n => sp_sq (256 * y_x n - 37 * g * y_y n)) t) (nI t) := by
  intro d
  induction d with
  | zero =>
    intro t ht
    obtain rfl : t = N := by omega
    exact br_t (nI_le (by omega) (by omega)) h
  | succ d ih =>
    intro t ht
    refine br_f (nI_ge (by omega) (by omega)) ⟨vp_in_nI (by omega) (by omega), vp_in_nI (by omega) (by omega), nm_e (nm_r ?_ (nm_r (nI_1 t) (ih (t + 1) (by omega))))⟩
    rw [nI_clamp (by omega)]
    rfl
theorem sy_ea {P N T : Nat} {y_cnt y_cur : Int32} {y_kq y_fg y_mem y_hist y_out y_fld y_fc y_made y_s y_rawK y_q y_words y_dw y_tf y_cw y_x y_x2 y_h y_v y_y y_z y_u y_cp y_oldH y_encSlot y_encSign : Nat → Int32} {y_R y_r y_a y_ao : Nat → Int64} {post : Int64 → Prop} {x y : Nat → Int32} {g : Int32} (hN : N ≤ 32) (hx : ∀ j, j < N → y_x j = x j) (hy : ∀ j, j < N → y_y j = y j)
    (h : post (sp_ea x y N g)) : wpY_errA post ((nI P), (nI N), (nI T), y_cnt, y_cur, y_kq, y_fg, y_mem, y_hist, y_out, y_fld, y_fc, y_made, y_s, y_rawK, y_q, y_words, y_dw, y_tf, y_cw, y_x, y_x2, y_h, y_v, y_y, y_z, y_u, y_cp, y_oldH, y_encSlot, y_encSign, y_R, y_r, y_a, y_ao) g :=
  Exists.intro (N + 1) (sy_ea5 hN (by rw [sp_ea_c g hx hy]; exact h) N 0 (by omega))
theorem sy_ef5 {P N T : Nat} {y_cnt y_cur : Int32} {y_kq y_fg y_mem y_hist y_out y_fld y_fc y_made y_s y_rawK y_q y_words y_dw y_tf y_cw y_x y_x2 y_h y_v y_y y_z y_u y_cp y_oldH y_encSlot y_encSign : Nat → Int32} {y_R y_r y_a y_ao : Nat → Int64} {post : Int64 → Prop} {g : Nat} (hN : N ≤ 32) (hg : g < 16) (h : post (sp_ef y_x2 y_z N (y_fg g))) :
    ∀ d t, t + d = N → wY_errF_5 post (nI g) (nI P) (nI N) (nI T) y_cnt y_cur y_kq y_fg y_mem y_hist y_out y_fld y_fc y_made y_s y_rawK y_q y_words y_dw y_tf y_cw y_x y_x2 y_h y_v y_y y_z y_u y_cp y_oldH y_encSlot y_encSign y_R y_r y_a y_ao (d + 1) (sp_sm (fun n => sp_sq (4096 * y_x2 n - y_fg g * y_z n)) t) (nI t) := by
  intro d
  induction d with
  | zero =>
    intro t ht
    obtain rfl : t = N := by omega
    exact br_t (nI_le (by omega) (by omega)) h
  | succ d ih =>
    intro t ht
    refine br_f (nI_ge (by omega) (by omega)) ⟨vp_in_nI (by omega) (by omega), vp_in_nI (by omega) (by omega), vp_in_nI (by omega) (by omega), nm_e (nm_r ?_ (nm_r (nI_1 t) (ih (t + 1) (by omega))))⟩
    rw [nI_clamp (n := t) (by omega), nI_clamp (n := g) (by omega)]
    rfl
theorem sy_ef {P N T : Nat} {y_cnt y_cur : Int32} {y_kq y_fg y_mem y_hist y_out y_fld y_fc y_made y_s y_rawK y_q y_words y_dw y_tf y_cw y_x y_x2 y_h y_v y_y y_z y_u y_cp y_oldH y_encSlot y_encSign : Nat → Int32} {y_R y_r y_a y_ao : Nat → Int64} {post : Int64 → Prop} {x z : Nat → Int32} {g : Nat} (hN : N ≤ 32) (hg : g < 16) (hf : ∀ j, j < 16 → y_fg j = sp_fg j) (hx : ∀ j, j < N → y_x2 j = x j) (hz : ∀ j, j < N → y_z j = z j)
    (h : post (sp_ef x z N (sp_fg g))) : wpY_errF post ((nI P), (nI N), (nI T), y_cnt, y_cur, y_kq, y_fg, y_mem, y_hist, y_out, y_fld, y_fc, y_made, y_s, y_rawK, y_q, y_words, y_dw, y_tf, y_cw, y_x, y_x2, y_h, y_v, y_y, y_z, y_u, y_cp, y_oldH, y_encSlot, y_encSign, y_R, y_r, y_a, y_ao) (nI g) :=
  Exists.intro (N + 1) (sy_ef5 hN hg (by rw [sp_ef_c _ hx hz, hf g hg]; exact h) N 0 (by omega))
theorem sy_bz86 {P N T : Nat} {y_cnt y_cur : Int32} {y_kq y_fg y_mem y_hist y_out y_fld y_fc y_made y_s y_rawK y_q y_words y_dw y_tf y_cw y_x y_x2 y_h y_v y_y y_u y_cp y_oldH y_encSlot y_encSign : Nat → Int32} {y_R y_r y_a y_ao : Nat → Int64} {post : SY → Prop} {J : _} {hh z0 : Nat → Int32} {x1 x2 x3 : Int32} {k pos sg : Nat} (hN : N ≤ 32) (hsg : sg < 2) (hh' : ∀ j, j < N → y_h j = hh j)
    (hJ : ∀ z, (∀ j, j < N → z j = z0 j + sp_pc hh pos sg j) → J (nI (k + 1)) y_kq y_fg y_mem y_hist y_out y_fld y_fc y_made y_s y_rawK y_q y_words y_dw y_tf y_cw y_x y_x2 y_h y_v y_y z y_u y_cp y_oldH y_encSlot y_encSign y_R y_r y_a y_ao) :
    ∀ d n z, n + d = N → pos ≤ n → (∀ j, j < N → z j = z0 j + (if j < n then sp_pc hh pos sg j else 0)) → wY_buildZ_86 post J x1 x2 x3 (nI k) (nI pos) (nI sg) (nI P) (nI N) (nI T) y_cnt y_cur (d + 1) (nI n) y_kq y_fg y_mem y_hist y_out y_fld y_fc y_made y_s y_rawK y_q y_words y_dw y_tf y_cw y_x y_x2 y_h y_v y_y z y_u y_cp y_oldH y_encSlot y_encSign y_R y_r y_a y_ao := by
  intro d
  induction d with
  | zero =>
    intro n z hn hp hz
    obtain rfl : n = N := by omega
    exact br_t (nI_le (by omega) (by omega)) (nm_r (nI_1 k) (hJ z (fun j hj => by rw [hz j hj, if_pos hj])))
  | succ d ih =>
    intro n z hn hp hz
    have zn : z n = z0 n := by
      rw [hz n (by omega), if_neg (by omega), Int32.add_zero]
    have key : ∀ x, x = z0 n + sp_pc hh pos sg n → ∀ j, j < N → upd z n x j = z0 j + (if j < n + 1 then sp_pc hh pos sg j else 0) := by
      intro x ex j hj
      by_cases e : j = n
      · subst e
        rw [pk_us, ex, if_pos (by omega)]
      · rw [pk_un e, hz j hj]
        by_cases e2 : j < n
        · rw [if_pos e2, if_pos (by omega)]
        · rw [if_neg e2, if_neg (by omega)]
    refine br_f (nI_ge (by omega) (by omega)) ⟨vp_in_nI (by omega) (by omega), ?_⟩
    by_cases c : sg = 0
    · refine br_t (by rw [c]; rfl) ⟨pk_in (n - pos) 32 (by omega) (pk_sub hp), vp_in_nI (by omega) (by omega), nm_e (nm_r (nI_1 n) (ih (n + 1) _ (by omega) (by omega) ?_))⟩
      rw [pk_sub hp, nI_clamp (n := n) (by omega), nI_clamp (n := n - pos) (by omega), zn, hh' (n - pos) (by omega)]
      refine key _ ?_
      unfold sp_pc
      rw [if_neg (by omega), if_pos c]
    · refine br_f (nI_ne0 (by omega) (by omega)) ⟨pk_in (n - pos) 32 (by omega) (pk_sub hp), vp_in_nI (by omega) (by omega), nm_e (nm_r (nI_1 n) (ih (n + 1) _ (by omega) (by omega) ?_))⟩
      rw [pk_sub hp, nI_clamp (n := n) (by omega), nI_clamp (n := n - pos) (by omega), zn, hh' (n - pos) (by omega)]
      refine key _ ?_
      unfold sp_pc
      rw [if_neg (by omega), if_neg c]
theorem sy_bz29 {P N T : Nat} {y_cnt y_cur : Int32} {y_kq y_fg y_mem y_hist y_out y_fld y_fc y_made y_s y_rawK y_q y_words y_dw y_tf y_cw y_x y_x2 y_h y_v y_y y_u y_cp y_oldH y_encSlot y_encSign : Nat → Int32} {y_R y_r y_a y_ao : Nat → Int64} {post : SY → Prop} {hh : Nat → Int32} {ch : Nat → Nat} {t p sg : Nat} (hNT : N = 4 * T) (hT : T ≤ 8) (ht : t < 4) (hp : p < T) (hsg : sg < 2) (hh' : ∀ j, j < N → y_h j = hh j)
    (hc : ∀ k, k < t → ch k < 2 * T ∧ y_encSlot k = nI (ch k / 2) ∧ y_encSign k = nI (ch k % 2)) (hct : ch t = 2 * p + sg)
    (h : ∀ z, (∀ j, j < N → z j = sp_z hh ch (t + 1) j) → post ((nI P), (nI N), (nI T), y_cnt, y_cur, y_kq, y_fg, y_mem, y_hist, y_out, y_fld, y_fc, y_made, y_s, y_rawK, y_q, y_words, y_dw, y_tf, y_cw, y_x, y_x2, y_h, y_v, y_y, z, y_u, y_cp, y_oldH, y_encSlot, y_encSign, y_R, y_r, y_a, y_ao)) :
    ∀ d k z, k + d = t + 1 → (∀ j, j < N → z j = sp_z hh ch k j) → wY_buildZ_29 post (nI t) (nI p) (nI sg) (nI P) (nI N) (nI T) y_cnt y_cur (d + 1) (nI k) y_kq y_fg y_mem y_hist y_out y_fld y_fc y_made y_s y_rawK y_q y_words y_dw y_tf y_cw y_x y_x2 y_h y_v y_y z y_u y_cp y_oldH y_encSlot y_encSign y_R y_r y_a y_ao := by
  intro d
  induction d with
  | zero =>
    intro k z hk hz
    obtain rfl : k = t + 1 := by omega
    exact br_t (nI_lt (by omega) (by omega)) (h z hz)
  | succ d ih =>
    intro k z hk hz
    refine br_f (nI_nlt (by omega) (by omega)) ?_
    have go : ∀ x1 x2 x3, ∃ n86, wY_buildZ_86 post (wY_buildZ_29 post (nI t) (nI p) (nI sg) (nI P) (nI N) (nI T) y_cnt y_cur (d + 1)) x1 x2 x3 (nI k) (nI (k + 4 * (ch k / 2))) (nI (ch k % 2)) (nI P) (nI N) (nI T) y_cnt y_cur n86 (nI (k + 4 * (ch k / 2))) y_kq y_fg y_mem y_hist y_out y_fld y_fc y_made y_s y_rawK y_q y_words y_dw y_tf y_cw y_x y_x2 y_h y_v y_y z y_u y_cp y_oldH y_encSlot y_encSign y_R y_r y_a y_ao := by
      intro x1 x2 x3
      have bk : ch k < 2 * T := by
        by_cases e : k = t
        · rw [e, hct]
          omega
        · exact (hc k (by omega)).1
      refine ⟨N - (k + 4 * (ch k / 2)) + 1, sy_bz86 (z0 := sp_z hh ch k) (by omega) (Nat.mod_lt _ (by decide)) hh' (fun z' hz' => ih (k + 1) z' (by omega) hz') (N - (k + 4 * (ch k / 2))) (k + 4 * (ch k / 2)) z (by omega) (Nat.le_refl _) (fun j hj => ?_)⟩
      rw [hz j hj]
      by_cases e : j < k + 4 * (ch k / 2)
      · rw [if_pos e, show sp_pc hh (k + 4 * (ch k / 2)) (ch k % 2) j = 0 from if_pos e, Int32.add_zero]
      · rw [if_neg e, Int32.add_zero]
    by_cases e : k = t
    · have g := go (nI t) (nI p) (nI sg)
      rw [e, hct, show (2 * p + sg) / 2 = p from by omega, show (2 * p + sg) % 2 = sg from by omega] at g
      have ep : nI t + 4 * nI p = nI (t + 4 * p) := by
        rw [show (4 : Int32) * nI p = nI (4 * p) from pk_mul 4 p, nI_add]
      refine br_t (by rw [e]) ?_
      rw [e, ep]
      exact br_t rfl g
    · have o := hc k (by omega)
      have g := go (nI t) (nI p) (nI sg)
      have ne : ¬ nI k = nI t := fun z => e ((nI_eq (by omega) (by omega)).mp z)
      refine br_f ne ⟨vp_in_nI (by omega) (by omega), ?_⟩
      rw [nI_clamp (by omega), o.2.1, show (4 : Int32) * nI (ch k / 2) = nI (4 * (ch k / 2)) from pk_mul 4 _, nI_add]
      refine br_f ne ⟨vp_in_nI (by omega) (by omega), nm_r (e' := nI (ch k % 2)) ?_ g⟩
      rw [nI_clamp (by omega)]
      exact o.2.2
theorem sy_bz3 {P N T : Nat} {y_cnt y_cur : Int32} {y_kq y_fg y_mem y_hist y_out y_fld y_fc y_made y_s y_rawK y_q y_words y_dw y_tf y_cw y_x y_x2 y_h y_v y_y y_u y_cp y_oldH y_encSlot y_encSign : Nat → Int32} {y_R y_r y_a y_ao : Nat → Int64} {post : SY → Prop} {hh : Nat → Int32} {ch : Nat → Nat} {t p sg : Nat} (hNT : N = 4 * T) (hT : T ≤ 8) (ht : t < 4) (hp : p < T) (hsg : sg < 2) (hh' : ∀ j, j < N → y_h j = hh j)
    (hc : ∀ k, k < t → ch k < 2 * T ∧ y_encSlot k = nI (ch k / 2) ∧ y_encSign k = nI (ch k % 2)) (hct : ch t = 2 * p + sg)
    (h : ∀ z, (∀ j, j < N → z j = sp_z hh ch (t + 1) j) → post ((nI P), (nI N), (nI T), y_cnt, y_cur, y_kq, y_fg, y_mem, y_hist, y_out, y_fld, y_fc, y_made, y_s, y_rawK, y_q, y_words, y_dw, y_tf, y_cw, y_x, y_x2, y_h, y_v, y_y, z, y_u, y_cp, y_oldH, y_encSlot, y_encSign, y_R, y_r, y_a, y_ao)) :
    ∀ d i z, i + d = N → (∀ j, j < i → z j = 0) → wY_buildZ_3 post (nI t) (nI p) (nI sg) (nI P) (nI N) (nI T) y_cnt y_cur (d + 1) (nI i) y_kq y_fg y_mem y_hist y_out y_fld y_fc y_made y_s y_rawK y_q y_words y_dw y_tf y_cw y_x y_x2 y_h y_v y_y z y_u y_cp y_oldH y_encSlot y_encSign y_R y_r y_a y_ao := by
  intro d
  induction d with
  | zero =>
    intro i z hi hz
    obtain rfl : i = N := by omega
    exact br_t (nI_le (by omega) (by omega)) ⟨t + 1 + 1, sy_bz29 hNT hT ht hp hsg hh' hc hct h (t + 1) 0 z (by omega) (fun j hj => hz j hj)⟩
  | succ d ih =>
    intro i z hi hz
    refine br_f (nI_ge (by omega) (by omega)) ⟨vp_in_nI (by omega) (by omega), nm_e (nm_r (nI_1 i) (ih (i + 1) _ (by omega) ?_))⟩
    intro j hj
    rw [nI_clamp (by omega)]
    by_cases e : j = i
    · subst e
      rw [pk_us]
    · rw [pk_un e]
      exact hz j (by omega)
theorem sy_bz {P N T : Nat} {y_cnt y_cur : Int32} {y_kq y_fg y_mem y_hist y_out y_fld y_fc y_made y_s y_rawK y_q y_words y_dw y_tf y_cw y_x y_x2 y_h y_v y_y y_z y_u y_cp y_oldH y_encSlot y_encSign : Nat → Int32} {y_R y_r y_a y_ao : Nat → Int64} {post : SY → Prop} {hh : Nat → Int32} {ch : Nat → Nat} {t p sg : Nat} (hNT : N = 4 * T) (hT : T ≤ 8) (ht : t < 4) (hp : p < T) (hsg : sg < 2) (hh' : ∀ j, j < N → y_h j = hh j)
    (hc : ∀ k, k < t → ch k < 2 * T ∧ y_encSlot k = nI (ch k / 2) ∧ y_encSign k = nI (ch k % 2))
    (h : ∀ z, (∀ j, j < N → z j = sp_z hh ch t j + sp_pc hh (t + 4 * p) sg j) → post ((nI P), (nI N), (nI T), y_cnt, y_cur, y_kq, y_fg, y_mem, y_hist, y_out, y_fld, y_fc, y_made, y_s, y_rawK, y_q, y_words, y_dw, y_tf, y_cw, y_x, y_x2, y_h, y_v, y_y, z, y_u, y_cp, y_oldH, y_encSlot, y_encSign, y_R, y_r, y_a, y_ao)) : wpY_buildZ post ((nI P), (nI N), (nI T), y_cnt, y_cur, y_kq, y_fg, y_mem, y_hist, y_out, y_fld, y_fc, y_made, y_s, y_rawK, y_q, y_words, y_dw, y_tf, y_cw, y_x, y_x2, y_h, y_v, y_y, y_z, y_u, y_cp, y_oldH, y_encSlot, y_encSign, y_R, y_r, y_a, y_ao) (nI t) (nI p) (nI sg) := by
  have q := sy_bz3 (ch := fun k => if k = t then 2 * p + sg else ch k) (post := post) hNT hT ht hp hsg hh' (fun k hk => by
    rw [if_neg (by omega)]
    exact hc k hk) (if_pos rfl) (fun z hz => h z (fun j hj => by
    rw [hz j hj]
    show sp_z hh _ t j + sp_pc hh (t + 4 * ((if t = t then 2 * p + sg else ch t) / 2)) ((if t = t then 2 * p + sg else ch t) % 2) j = _
    rw [if_pos rfl, show (2 * p + sg) / 2 = p from by omega, show (2 * p + sg) % 2 = sg from by omega, sp_z_c (ch' := ch) t (fun k hk => if_neg (by omega))])) N 0 y_z (by omega) (fun j hj => absurd hj (by omega))
  exact Exists.intro _ q
end
section
/-! the reference: the searches -/
theorem sp_ys_new {e : Int64} {c g : Nat} {s : Int64 × Nat × Nat} {first : Int32} {best : Int64} {bc bg : Nat} (h : sp_ys c g s first best bc bg) (hc : ¬ first = 0 ∨ e < best) :
    sp_ys c (g + 1) (if e < s.1 then (e, c, g) else s) 0 e c g := by
  refine Or.inr ?_
  rcases h with ⟨h1, h2, h3, h4, h5, h6, h7⟩ | ⟨h1, h2, h3, h4⟩
  · subst h1 h2 h7
    by_cases q : e < sp_mx
    · rw [if_pos q]
      exact ⟨rfl, rfl, rfl, rfl⟩
    · rw [if_neg q]
      exact ⟨rfl, sp_mx_le e q, rfl, rfl⟩
  · rcases hc with hc | hc
    · exact absurd h1 hc
    · rw [h2] at hc
      rw [if_pos hc]
      exact ⟨rfl, rfl, rfl, rfl⟩
theorem sp_ys_old {e : Int64} {c g : Nat} {s : Int64 × Nat × Nat} {first : Int32} {best : Int64} {bc bg : Nat} (h : sp_ys c g s first best bc bg) (h0 : first = 0) (hc : ¬ e < best) :
    sp_ys c (g + 1) (if e < s.1 then (e, c, g) else s) first best bc bg := by
  refine Or.inr ?_
  rcases h with ⟨h1, h2, h3, h4, h5, h6, h7⟩ | ⟨h1, h2, h3, h4⟩
  · rw [h3] at h0
    exact absurd h0 (by decide)
  · rw [h2] at hc
    rw [if_neg hc]
    exact ⟨h1, h2, h3, h4⟩
theorem sp_ys_up {c G : Nat} {s : Int64 × Nat × Nat} {first : Int32} {best : Int64} {bc bg : Nat} (hG : 0 < G) (h : sp_ys c G s first best bc bg) : sp_ys (c + 1) 0 s first best bc bg := by
  rcases h with ⟨h1, h2, h3⟩ | h
  · omega
  · exact Or.inr h
theorem sp_ys_end {c : Nat} {s : Int64 × Nat × Nat} {first : Int32} {best : Int64} {bc bg : Nat} (hc : 0 < c) (h : sp_ys c 0 s first best bc bg) : bc = s.2.1 ∧ bg = s.2.2 := by
  rcases h with ⟨h1, h2⟩ | h
  · omega
  · exact ⟨h.2.2.1, h.2.2.2⟩
theorem sy_st71 {P N T : Nat} {y_cnt y_cur : Int32} {y_kq y_fg y_mem y_hist y_out y_fld y_fc y_made y_s y_rawK y_q y_words y_dw y_tf y_cw y_x y_x2 y_h y_v y_y y_z y_u y_cp y_oldH y_encSlot y_encSign : Nat → Int32} {y_R y_r y_a y_ao : Nat → Int64} {post : Int32 → SY → Prop} {J17 J44 : _} {x1 : Int32} {x10 : Int64} {c g : Nat} (hc : c < 64) (hJ : J44 x10 0 (nI (c / 2)) (nI (c % 2)) (nI g) (nI (g + 1))) : wY_searchTrack_71 post J17 J44 x1 (nI c) (nI g) x10 (nI P) (nI N) (nI T) y_cnt y_cur y_kq y_fg y_mem y_hist y_out y_fld y_fc y_made y_s y_rawK y_q y_words y_dw y_tf y_cw y_x y_x2 y_h y_v y_y y_z y_u y_cp y_oldH y_encSlot y_encSign y_R y_r y_a y_ao :=
  And.intro (by decide) (nm_r (pk_div (d := 2) (by omega) (by omega) (by omega)) ⟨by decide, nm_r (pk_rem (d := 2) (by omega) (by omega) (by omega)) (nm_r (nI_1 g) hJ)⟩)
theorem sy_st44 {P N T : Nat} {y_cnt y_cur : Int32} {y_kq y_fg y_mem y_hist y_out y_fld y_fc y_made y_s y_rawK y_q y_words y_dw y_tf y_cw y_x y_x2 y_h y_v y_y y_z y_u y_cp y_oldH y_encSlot y_encSign : Nat → Int32} {y_R y_r y_a y_ao : Nat → Int64} {post : Int32 → SY → Prop} {J17 : _} {x z : Nat → Int32} {E : Nat → Nat → Int64} {x1 : Int32} {c : Nat} {s0 : Int64 × Nat × Nat} (hN : N ≤ 32) (hc : c < 64)
    (hf : ∀ j, j < 16 → y_fg j = sp_fg j) (hx : ∀ j, j < N → y_x2 j = x j) (hz : ∀ j, j < N → y_z j = z j) (hE : ∀ g, g < 16 → E c g = sp_ef x z N (sp_fg g))
    (hJ : ∀ x2 x4 bc bg, sp_ys c 16 (sp_in E c 16 s0) x4 x2 bc bg → J17 x2 x4 (nI (bc / 2)) (nI (bc % 2)) (nI bg) (nI (c + 1)) (nI P) (nI N) (nI T) y_cnt y_cur y_kq y_fg y_mem y_hist y_out y_fld y_fc y_made y_s y_rawK y_q y_words y_dw y_tf y_cw y_x y_x2 y_h y_v y_y y_z y_u y_cp y_oldH y_encSlot y_encSign y_R y_r y_a y_ao) :
    ∀ d g x2 x4 bc bg, g + d = 16 → sp_ys c g (sp_in E c g s0) x4 x2 bc bg → wY_searchTrack_44 post J17 x1 (nI c) (nI P) (nI N) (nI T) y_cnt y_cur y_kq y_fg y_mem y_hist y_out y_fld y_fc y_made y_s y_rawK y_q y_words y_dw y_tf y_cw y_x y_x2 y_h y_v y_y y_z y_u y_cp y_oldH y_encSlot y_encSign y_R y_r y_a y_ao (d + 1) x2 x4 (nI (bc / 2)) (nI (bc % 2)) (nI bg) (nI g) := by
  intro d
  induction d with
  | zero =>
    intro g x2 x4 bc bg hg h
    obtain rfl : g = 16 := by omega
    exact br_t (nI_le (a := 16) (by omega) (by omega)) (nm_r (nI_1 c) (hJ x2 x4 bc bg h))
  | succ d ih =>
    intro g x2 x4 bc bg hg h
    refine br_f (nI_ge (b := 16) (by omega) (by omega)) (sy_ef hN (by omega) hf hx hz ?_)
    rw [← hE g (by omega)]
    have nw := fun hc' => ih (g + 1) (E c g) 0 c g (by omega) (sp_ys_new h hc')
    refine br_c (fun h0 => br_c (fun hl => ?_) (fun hl => ?_)) (fun h0 => ?_)
    · exact nm_r (nI_1 g) (ih (g + 1) x2 x4 bc bg (by omega) (sp_ys_old h h0 (Int64.not_lt.mpr hl)))
    · exact sy_st71 hc (nw (Or.inr (Int64.not_le.mp hl)))
    · exact sy_st71 hc (nw (Or.inl h0))
theorem sy_st17 {P N T : Nat} {y_cnt y_cur : Int32} {y_kq y_fg y_mem y_hist y_out y_fld y_fc y_made y_s y_rawK y_q y_words y_dw y_tf y_cw y_x y_x2 y_h y_v y_y y_u y_cp y_oldH y_encSlot y_encSign : Nat → Int32} {y_R y_r y_a y_ao : Nat → Int64} {post : Int32 → SY → Prop} {x hh : Nat → Int32} {ch : Nat → Nat} {E : Nat → Nat → Int64} {t : Nat} (hNT : N = 4 * T) (hT2 : 2 ≤ T) (hT : T ≤ 8) (ht : t < 4)
    (hf : ∀ j, j < 16 → y_fg j = sp_fg j) (hx : ∀ j, j < N → y_x2 j = x j) (hh' : ∀ j, j < N → y_h j = hh j)
    (hc : ∀ k, k < t → ch k < 2 * T ∧ y_encSlot k = nI (ch k / 2) ∧ y_encSign k = nI (ch k % 2))
    (hE : ∀ c g, E c g = sp_ef x (fun n => sp_z hh ch t n + sp_pc hh (t + 4 * (c / 2)) (c % 2) n) N (sp_fg g))
    (h : ∀ z, post (nI (sp_out E 16 (2 * T)).2.2) ((nI P), (nI N), (nI T), y_cnt, y_cur, y_kq, y_fg, y_mem, y_hist, y_out, y_fld, y_fc, y_made, y_s, y_rawK, y_q, y_words, y_dw, y_tf, y_cw, y_x, y_x2, y_h, y_v, y_y, z, y_u, y_cp, y_oldH, (upd y_encSlot t (nI ((sp_out E 16 (2 * T)).2.1 / 2))), (upd y_encSign t (nI ((sp_out E 16 (2 * T)).2.1 % 2))), y_R, y_r, y_a, y_ao)) :
    ∀ d c z x2 x4 bc bg, c + d = 2 * T → sp_ys c 0 (sp_out E 16 c) x4 x2 bc bg → wY_searchTrack_17 post (nI t) (d + 1) x2 x4 (nI (bc / 2)) (nI (bc % 2)) (nI bg) (nI c) (nI P) (nI N) (nI T) y_cnt y_cur y_kq y_fg y_mem y_hist y_out y_fld y_fc y_made y_s y_rawK y_q y_words y_dw y_tf y_cw y_x y_x2 y_h y_v y_y z y_u y_cp y_oldH y_encSlot y_encSign y_R y_r y_a y_ao := by
  have eT : (2 : Int32) * nI T = nI (2 * T) := pk_mul 2 T
  intro d
  induction d with
  | zero =>
    intro c z x2 x4 bc bg hd hs
    obtain rfl : c = 2 * T := by omega
    obtain ⟨rfl, rfl⟩ := sp_ys_end (by omega) hs
    refine br_t (by rw [eT]; exact nI_le (by omega) (by omega)) ⟨vp_in_nI (by omega) (by omega), nm_r ?_ ⟨vp_in_nI (by omega) (by omega), nm_r ?_ (h z)⟩⟩
    · rw [nI_clamp (by omega)]
    · rw [nI_clamp (by omega)]
  | succ d ih =>
    intro c z x2 x4 bc bg hd hs
    refine br_f (by rw [eT]; exact nI_ge (by omega) (by omega)) ⟨by decide, by decide, ?_⟩
    rw [show nI c / 2 = nI (c / 2) from pk_div (d := 2) (by omega) (by omega) (by omega)]
    rw [show nI c - nI (c / 2) * 2 = nI (c % 2) from by
      rw [show nI (c / 2) * 2 = nI (c / 2 * 2) from pk_mul _ 2, pk_sub (by omega), show c - c / 2 * 2 = c % 2 from by omega]]
    refine sy_bz hNT hT ht (by omega) (by omega) hh' hc (fun z' hz' => ?_)
    refine ⟨16 + 1, sy_st44 (E := E) (s0 := sp_out E 16 c) (z := fun n => sp_z hh ch t n + sp_pc hh (t + 4 * (c / 2)) (c % 2) n) (by omega) (by omega) hf hx hz' (fun g _ => hE c g) (fun y2 y4 bc' bg' hs' => ?_) 16 0 x2 x4 bc bg (by omega) hs⟩
    rw [← sp_out_s] at hs'
    exact ih (c + 1) z' y2 y4 bc' bg' (by omega) (sp_ys_up (by omega) hs')
theorem sy_st {P N T : Nat} {y_cnt y_cur : Int32} {y_kq y_fg y_mem y_hist y_out y_fld y_fc y_made y_s y_rawK y_q y_words y_dw y_tf y_cw y_x y_x2 y_h y_v y_y y_z y_u y_cp y_oldH y_encSlot y_encSign : Nat → Int32} {y_R y_r y_a y_ao : Nat → Int64} {post : Int32 → SY → Prop} {x hh : Nat → Int32} {ch : Nat → Nat} {E : Nat → Nat → Int64} {t : Nat} (hNT : N = 4 * T) (hT2 : 2 ≤ T) (hT : T ≤ 8) (ht : t < 4)
    (hf : ∀ j, j < 16 → y_fg j = sp_fg j) (hx : ∀ j, j < N → y_x2 j = x j) (hh' : ∀ j, j < N → y_h j = hh j)
    (hc : ∀ k, k < t → ch k < 2 * T ∧ y_encSlot k = nI (ch k / 2) ∧ y_encSign k = nI (ch k % 2))
    (hE : ∀ c g, E c g = sp_ef x (fun n => sp_z hh ch t n + sp_pc hh (t + 4 * (c / 2)) (c % 2) n) N (sp_fg g))
    (h : ∀ z, post (nI (sp_out E 16 (2 * T)).2.2) ((nI P), (nI N), (nI T), y_cnt, y_cur, y_kq, y_fg, y_mem, y_hist, y_out, y_fld, y_fc, y_made, y_s, y_rawK, y_q, y_words, y_dw, y_tf, y_cw, y_x, y_x2, y_h, y_v, y_y, z, y_u, y_cp, y_oldH, (upd y_encSlot t (nI ((sp_out E 16 (2 * T)).2.1 / 2))), (upd y_encSign t (nI ((sp_out E 16 (2 * T)).2.1 % 2))), y_R, y_r, y_a, y_ao)) : wpY_searchTrack post ((nI P), (nI N), (nI T), y_cnt, y_cur, y_kq, y_fg, y_mem, y_hist, y_out, y_fld, y_fc, y_made, y_s, y_rawK, y_q, y_words, y_dw, y_tf, y_cw, y_x, y_x2, y_h, y_v, y_y, y_z, y_u, y_cp, y_oldH, y_encSlot, y_encSign, y_R, y_r, y_a, y_ao) (nI t) := by
  have q := sy_st17 hNT hT2 hT ht hf hx hh' hc hE h (2 * T) 0 y_z 0 1 0 0 (by omega) (Or.inl ⟨rfl, rfl, rfl, rfl, rfl, rfl, rfl⟩)
  rw [Nat.zero_div, Nat.zero_mod, nI_0] at q
  exact Exists.intro _ q
theorem sy_ad333 {P N T : Nat} {y_cnt y_cur : Int32} {y_kq y_fg y_mem y_hist y_out y_fld y_fc y_made y_s y_rawK y_q y_words y_dw y_tf y_cw y_x y_x2 y_h y_v y_y y_z y_u y_cp y_oldH y_encSlot y_encSign : Nat → Int32} {y_R y_r y_a y_ao : Nat → Int64} {post : Int32 → SY → Prop} {J : _} {x y : Nat → Int32} {E : Nat → Nat → Int64} {l : Nat} {s0 : Int64 × Nat × Nat} (hN : N ≤ 32)
    (hx : ∀ j, j < N → y_x j = x j) (hy : ∀ j, j < N → y_y j = y j) (hE : ∀ g, g < 8 → E l g = sp_ea x y N (nI g))
    (hJ : ∀ x1 x3 bc bg, sp_ys l 8 (sp_in E l 8 s0) x3 x1 bc bg → J x1 x3 (nI bc) (nI bg) (nI (l + 1)) (nI P) (nI N) (nI T) y_cnt y_cur y_kq y_fg y_mem y_hist y_out y_fld y_fc y_made y_s y_rawK y_q y_words y_dw y_tf y_cw y_x y_x2 y_h y_v y_y y_z y_u y_cp y_oldH y_encSlot y_encSign y_R y_r y_a y_ao) :
    ∀ d g x1 x3 bc bg, g + d = 8 → sp_ys l g (sp_in E l g s0) x3 x1 bc bg → wY_encodeFrame_333 post J (nI l) (nI P) (nI N) (nI T) y_cnt y_cur y_kq y_fg y_mem y_hist y_out y_fld y_fc y_made y_s y_rawK y_q y_words y_dw y_tf y_cw y_x y_x2 y_h y_v y_y y_z y_u y_cp y_oldH y_encSlot y_encSign y_R y_r y_a y_ao (d + 1) x1 x3 (nI bc) (nI bg) (nI g) := by
  intro d
  induction d with
  | zero =>
    intro g x1 x3 bc bg hg h
    obtain rfl : g = 8 := by omega
    exact br_t (nI_le (a := 8) (by omega) (by omega)) (nm_r (nI_1 l) (hJ x1 x3 bc bg h))
  | succ d ih =>
    intro g x1 x3 bc bg hg h
    refine br_f (nI_ge (b := 8) (by omega) (by omega)) (sy_ea hN hx hy ?_)
    rw [← hE g (by omega)]
    have nw := fun hc' => ih (g + 1) (E l g) 0 l g (by omega) (sp_ys_new h hc')
    refine br_c (fun h0 => br_c (fun hl => ?_) (fun hl => ?_)) (fun h0 => ?_)
    · exact nm_r (nI_1 g) (ih (g + 1) x1 x3 bc bg (by omega) (sp_ys_old h h0 (Int64.not_lt.mpr hl)))
    · exact nm_r (nI_1 g) (nw (Or.inr (Int64.not_le.mp hl)))
    · exact nm_r (nI_1 g) (nw (Or.inl h0))
theorem sy_ad312 {P N T : Nat} {y_cnt y_cur : Int32} {y_kq y_fg y_mem y_hist y_out y_fld y_fc y_made y_s y_rawK y_q y_words y_dw y_tf y_cw y_x y_x2 y_h y_z y_u y_cp y_oldH y_encSlot y_encSign : Nat → Int32} {y_R y_r y_a y_ao : Nat → Int64} {post : Int32 → SY → Prop} {x hh H : Nat → Int32} {E : Nat → Nat → Int64} {R : Int64 × Nat × Nat} (eR : sp_out E 8 32 = R) (hN : N ≤ 32)
    (hx : ∀ j, j < N → y_x j = x j) (hh' : ∀ j, j < N → y_h j = hh j) (hH : ∀ j, 1 ≤ j → j ≤ 64 → y_hist (0 * 65 + j) = H j)
    (hE : ∀ l g, l < 32 → g < 8 → E l g = sp_ea x (sp_cy (sp_pv H (l + 4)) hh) N (nI g)) (hL : R.2.1 < 32)
    (h : ∀ v y, (∀ j, j < N → y j = sp_cy (sp_pv H (R.2.1 + 4)) hh j) → ∃ n, wY_encodeFrame_398 post (nI R.2.1) (nI R.2.2) (nI P) (nI N) (nI T) y_cnt y_cur n 0 y_kq y_fg y_mem y_hist y_out y_fld y_fc y_made y_s y_rawK y_q y_words y_dw y_tf y_cw y_x y_x2 y_h v y y_z y_u y_cp y_oldH y_encSlot y_encSign y_R y_r y_a y_ao) :
    ∀ d l v y x1 x3 bc bg, l + d = 32 → sp_ys l 0 (sp_out E 8 l) x3 x1 bc bg → wY_encodeFrame_312 post (d + 1) x1 x3 (nI bc) (nI bg) (nI l) (nI P) (nI N) (nI T) y_cnt y_cur y_kq y_fg y_mem y_hist y_out y_fld y_fc y_made y_s y_rawK y_q y_words y_dw y_tf y_cw y_x y_x2 y_h v y y_z y_u y_cp y_oldH y_encSlot y_encSign y_R y_r y_a y_ao := by
  intro d
  induction d with
  | zero =>
    intro l v y x1 x3 bc bg hl hs
    obtain rfl : l = 32 := by omega
    rw [eR] at hs
    obtain ⟨rfl, rfl⟩ := sp_ys_end (by omega) hs
    refine br_t (nI_le (a := 32) (by omega) (by omega)) (sy_fv (sd := 0) hN (by omega) hL hH ?_)
    refine sy_cy (v := sp_pv H (R.2.1 + 4)) (hh := hh) hN (fun j hj => sp_fl_lo hj) hh' ?_
    exact h _ _ (fun j hj => sp_fl_lo hj)
  | succ d ih =>
    intro l v y x1 x3 bc bg hl hs
    refine br_f (nI_ge (b := 32) (by omega) (by omega)) (sy_fv (sd := 0) hN (by omega) (by omega) hH ?_)
    refine sy_cy (v := sp_pv H (l + 4)) (hh := hh) hN (fun j hj => sp_fl_lo hj) hh' ?_
    refine ⟨8 + 1, sy_ad333 (E := E) (s0 := sp_out E 8 l) hN hx (fun j hj => sp_fl_lo hj) (fun g hg => hE l g (by omega) hg) (fun x1' x3' bc' bg' hs' => ?_) 8 0 x1 x3 bc bg (by omega) hs⟩
    rw [← sp_out_s] at hs'
    exact ih (l + 1) _ _ x1' x3' bc' bg' (by omega) (sp_ys_up (by omega) hs')
end
section
/-! the reference: correlation and recursion -/
theorem sp_lv_z (r : Nat → Int64) : ∀ m j, m < j → (sp_lv r m).2.2 j = 0 := by
  intro m
  induction m with
  | zero => intro j _; rfl
  | succ m ih =>
    intro j hj
    show (sp_ls r (sp_lv r m) (m + 1)).2.2 j = 0
    unfold sp_ls
    split
    · show upd (sp_lv r m).2.2 (m + 1) _ j = 0
      rw [pk_un (by omega)]
      exact ih j (by omega)
    · exact ih j (by omega)
theorem sy_rf249 {P N T : Nat} {y_cnt y_cur : Int32} {y_kq y_fg y_mem y_hist y_out y_fld y_fc y_made y_s y_rawK y_q y_words y_dw y_tf y_cw y_x y_x2 y_h y_v y_y y_z y_u y_cp y_oldH y_encSlot y_encSign : Nat → Int32} {y_R y_r y_ao : Nat → Int64} {post : SY → Prop} {J : _} {A : Nat → Int64} {E kk : Int64} {m : Nat} (h1 : 1 ≤ m) (hm : m ≤ P) (hP : P ≤ 6)
    (ho : ∀ j, 1 ≤ j → j < m → y_ao j = A j)
    (h : ∀ a, (∀ j, 1 ≤ j → j ≤ P → a j = sp_an A m kk j) → J (sp_en E kk) (nI (m + 1)) y_kq y_fg y_mem y_hist y_out y_fld y_fc y_made y_s (upd y_rawK m kk.toInt32) y_q y_words y_dw y_tf y_cw y_x y_x2 y_h y_v y_y y_z y_u y_cp y_oldH y_encSlot y_encSign y_R y_r a y_ao) :
    ∀ d i a, i + d = m → 1 ≤ i → (∀ j, 1 ≤ j → j ≤ P → a j = if j < i then sp_st kk (A j) (A (m - j)) else A j) → wY_reflect_249 post J E (nI m) kk (nI P) (nI N) (nI T) y_cnt y_cur (d + 1) (nI i) y_kq y_fg y_mem y_hist y_out y_fld y_fc y_made y_s y_rawK y_q y_words y_dw y_tf y_cw y_x y_x2 y_h y_v y_y y_z y_u y_cp y_oldH y_encSlot y_encSign y_R y_r a y_ao := by
  intro d
  induction d with
  | zero =>
    intro i a hi h1i hp
    obtain rfl : i = m := by omega
    refine br_t (nI_le (by omega) (by omega)) ⟨vp_in_nI (by omega) (by omega), nm_e (nm_r (e' := sp_en E kk) rfl ⟨vp_in_nI (by omega) (by omega), nm_r (e' := upd y_rawK i kk.toInt32) (by rw [nI_clamp (by omega)]) (nm_r (nI_1 i) (h _ ?_))⟩)⟩
    intro j hj1 hj2
    rw [nI_clamp (by omega)]
    by_cases e : j = i
    · subst e
      rw [pk_uLs]
      exact (if_pos rfl).symm
    · rw [pk_uLn e, hp j hj1 hj2]
      unfold sp_an
      rw [if_neg e]
      by_cases e2 : j < i
      · rw [if_pos e2, if_pos ⟨hj1, e2⟩]
      · rw [if_neg e2, if_neg (fun z => e2 z.2)]
  | succ d ih =>
    intro i a hi h1i hp
    refine br_f (nI_ge (by omega) (by omega)) ⟨vp_in_nI (by omega) (by omega), pk_in (m - i) 7 (by omega) (pk_sub (by omega)), vp_in_nI (by omega) (by omega), nm_e (nm_r (nI_1 i) (ih (i + 1) _ (by omega) (by omega) ?_))⟩
    intro j hj1 hj2
    rw [pk_sub (by omega), nI_clamp (by omega), nI_clamp (by omega), ho i h1i (by omega), ho (m - i) (by omega) (by omega)]
    by_cases e : j = i
    · subst e
      rw [pk_uLs, if_pos (by omega)]
      rfl
    · rw [pk_uLn e, hp j hj1 hj2]
      by_cases e2 : j < i
      · rw [if_pos e2, if_pos (by omega)]
      · rw [if_neg e2, if_neg (by omega)]
theorem sy_rf219 {P N T : Nat} {y_cnt y_cur : Int32} {y_kq y_fg y_mem y_hist y_out y_fld y_fc y_made y_s y_rawK y_q y_words y_dw y_tf y_cw y_x y_x2 y_h y_v y_y y_z y_u y_cp y_oldH y_encSlot y_encSign : Nat → Int32} {y_R y_r y_a : Nat → Int64} {post : SY → Prop} {J : _} {A : Nat → Int64} {E kk : Int64} {m : Nat} (h1 : 1 ≤ m) (hm : m ≤ P) (hP : P ≤ 6)
    (ha : ∀ j, 1 ≤ j → j ≤ P → y_a j = A j)
    (h : ∀ a ao, (∀ j, 1 ≤ j → j ≤ P → a j = sp_an A m kk j) → J (sp_en E kk) (nI (m + 1)) y_kq y_fg y_mem y_hist y_out y_fld y_fc y_made y_s (upd y_rawK m kk.toInt32) y_q y_words y_dw y_tf y_cw y_x y_x2 y_h y_v y_y y_z y_u y_cp y_oldH y_encSlot y_encSign y_R y_r a ao) :
    ∀ d i ao, i + d = m → 1 ≤ i → (∀ j, 1 ≤ j → j < i → ao j = A j) → wY_reflect_219 post J E (nI m) kk (nI P) (nI N) (nI T) y_cnt y_cur (d + 1) (nI i) y_kq y_fg y_mem y_hist y_out y_fld y_fc y_made y_s y_rawK y_q y_words y_dw y_tf y_cw y_x y_x2 y_h y_v y_y y_z y_u y_cp y_oldH y_encSlot y_encSign y_R y_r y_a ao := by
  intro d
  induction d with
  | zero =>
    intro i ao hi h1i hp
    obtain rfl : i = m := by omega
    exact br_t (nI_le (by omega) (by omega)) ⟨i - 1 + 1, sy_rf249 (y_ao := ao) h1 hm hP hp (fun a ha' => h a ao ha') (i - 1) 1 y_a (by omega) (by omega) (fun j hj1 hj2 => by rw [if_neg (by omega)]; exact ha j hj1 hj2)⟩
  | succ d ih =>
    intro i ao hi h1i hp
    refine br_f (nI_ge (by omega) (by omega)) ⟨vp_in_nI (by omega) (by omega), vp_in_nI (by omega) (by omega), nm_e (nm_r (nI_1 i) (ih (i + 1) _ (by omega) (by omega) ?_))⟩
    intro j hj1 hj2
    rw [nI_clamp (by omega)]
    by_cases e : j = i
    · subst e
      rw [pk_uLs]
      exact ha j hj1 (by omega)
    · rw [pk_uLn e]
      exact hp j hj1 (by omega)
theorem sy_rfcl {P N T : Nat} {y_cnt y_cur : Int32} {y_kq y_fg y_mem y_hist y_out y_fld y_fc y_made y_s y_rawK y_q y_words y_dw y_tf y_cw y_x y_x2 y_h y_v y_y y_z y_u y_cp y_oldH y_encSlot y_encSign : Nat → Int32} {y_R y_r y_a y_ao : Nat → Int64} {post : SY → Prop} {J : _} {E w : Int64} {x5 : Int32} (h : ∃ n, wY_reflect_219 post J E x5 (sp_cl w) (nI P) (nI N) (nI T) y_cnt y_cur n 1 y_kq y_fg y_mem y_hist y_out y_fld y_fc y_made y_s y_rawK y_q y_words y_dw y_tf y_cw y_x y_x2 y_h y_v y_y y_z y_u y_cp y_oldH y_encSlot y_encSign y_R y_r y_a y_ao) :
    ((-32767) ≤ w → (wY_reflect_202 post J E x5 w (nI P) (nI N) (nI T) y_cnt y_cur y_kq y_fg y_mem y_hist y_out y_fld y_fc y_made y_s y_rawK y_q y_words y_dw y_tf y_cw y_x y_x2 y_h y_v y_y y_z y_u y_cp y_oldH y_encSlot y_encSign y_R y_r y_a y_ao)) ∧ (¬ (-32767) ≤ w → (wY_reflect_202 post J E x5 (-32767) (nI P) (nI N) (nI T) y_cnt y_cur y_kq y_fg y_mem y_hist y_out y_fld y_fc y_made y_s y_rawK y_q y_words y_dw y_tf y_cw y_x y_x2 y_h y_v y_y y_z y_u y_cp y_oldH y_encSlot y_encSign y_R y_r y_a y_ao)) := by
  unfold sp_cl at h
  refine br_c (fun a => ?_) (fun a => ?_)
  · rw [if_neg (Int64.not_lt.mpr a)] at h
    refine br_c (fun b => ?_) (fun b => ?_)
    · rw [if_neg (Int64.not_lt.mpr b)] at h
      exact h
    · rw [if_pos (Int64.not_le.mp b)] at h
      exact h
  · rw [if_pos (Int64.not_le.mp a)] at h
    exact br_t (by decide) h
theorem sy_rf145 {P N T : Nat} {y_cnt y_cur : Int32} {y_kq y_fg y_mem y_hist y_out y_fld y_fc y_made y_s y_rawK y_q y_words y_dw y_tf y_cw y_x y_x2 y_h y_v y_y y_z y_u y_cp y_oldH y_encSlot y_encSign : Nat → Int32} {y_R y_r y_a y_ao : Nat → Int64} {post : SY → Prop} {J : _} {E : Int64} {m : Nat} (h1 : 1 ≤ m) (hm : m ≤ 6) (hE : ¬ E = 0)
    (h : ∃ n, wY_reflect_219 post J E (nI m) (sp_cl (-(sp_ac y_r y_a m (m - 1) / E))) (nI P) (nI N) (nI T) y_cnt y_cur n 1 y_kq y_fg y_mem y_hist y_out y_fld y_fc y_made y_s y_rawK y_q y_words y_dw y_tf y_cw y_x y_x2 y_h y_v y_y y_z y_u y_cp y_oldH y_encSlot y_encSign y_R y_r y_a y_ao) :
    ∀ d j, j + 1 + d = m → wY_reflect_145 post J E (nI m) (nI P) (nI N) (nI T) y_cnt y_cur y_kq y_fg y_mem y_hist y_out y_fld y_fc y_made y_s y_rawK y_q y_words y_dw y_tf y_cw y_x y_x2 y_h y_v y_y y_z y_u y_cp y_oldH y_encSlot y_encSign y_R y_r y_a y_ao (d + 1) (sp_ac y_r y_a m j) (nI (j + 1)) := by
  intro d
  induction d with
  | zero =>
    intro j hj
    obtain rfl : j = m - 1 := by omega
    exact br_t (nI_le (by omega) (by omega)) ⟨hE, nm_e (sy_rfcl h)⟩
  | succ d ih =>
    intro j hj
    refine br_f (nI_ge (by omega) (by omega)) ⟨vp_in_nI (by omega) (by omega), pk_in (m - (j + 1)) 7 (by omega) (pk_sub (by omega)), nm_r ?_ (nm_r (nI_1 (j + 1)) (ih (j + 1) (by omega)))⟩
    rw [pk_sub (by omega), nI_clamp (by omega), nI_clamp (by omega)]
    rfl
theorem sy_rf103 {P N T : Nat} {y_cnt y_cur : Int32} {y_kq y_fg y_mem y_hist y_out y_fld y_fc y_made y_s y_q y_words y_dw y_tf y_cw y_x y_x2 y_h y_v y_y y_z y_u y_cp y_oldH y_encSlot y_encSign : Nat → Int32} {y_R y_r : Nat → Int64} {post : SY → Prop} {r : Nat → Int64} (hP : P ≤ 6) (hr : ∀ i, i ≤ P → y_r i = r i)
    (h : ∀ raw a ao, (∀ j, 1 ≤ j → j ≤ P → raw j = (sp_lv r P).2.2 j) → post ((nI P), (nI N), (nI T), y_cnt, y_cur, y_kq, y_fg, y_mem, y_hist, y_out, y_fld, y_fc, y_made, y_s, raw, y_q, y_words, y_dw, y_tf, y_cw, y_x, y_x2, y_h, y_v, y_y, y_z, y_u, y_cp, y_oldH, y_encSlot, y_encSign, y_R, y_r, a, ao)) :
    ∀ d m raw a ao, m + d = P → (∀ j, 1 ≤ j → j ≤ P → raw j = (sp_lv r m).2.2 j) → (∀ j, 1 ≤ j → j ≤ P → a j = (sp_lv r m).1 j) →
      wY_reflect_103 post (nI P) (nI N) (nI T) y_cnt y_cur (d + 1) (sp_lv r m).2.1 (nI (m + 1)) y_kq y_fg y_mem y_hist y_out y_fld y_fc y_made y_s raw y_q y_words y_dw y_tf y_cw y_x y_x2 y_h y_v y_y y_z y_u y_cp y_oldH y_encSlot y_encSign y_R y_r a ao := by
  intro d
  induction d with
  | zero =>
    intro m raw a ao hm hk ha
    obtain rfl : m = P := by omega
    exact br_t (nI_lt (by omega) (by omega)) (h raw a ao hk)
  | succ d ih =>
    intro m raw a ao hm hk ha
    refine br_f (nI_nlt (by omega) (by omega)) ?_
    by_cases hE : 0 < (sp_lv r m).2.1
    · have e : sp_lv r (m + 1) = (sp_an (sp_lv r m).1 (m + 1) (sp_km r (sp_lv r m).1 (sp_lv r m).2.1 (m + 1)), sp_en (sp_lv r m).2.1 (sp_km r (sp_lv r m).1 (sp_lv r m).2.1 (m + 1)), upd (sp_lv r m).2.2 (m + 1) (sp_km r (sp_lv r m).1 (sp_lv r m).2.1 (m + 1)).toInt32) := if_pos hE
      have ea : sp_ac y_r a (m + 1) m = sp_ac r (sp_lv r m).1 (m + 1) m := sp_ac_c (P := P) (by omega) (by omega) hr ha m (by omega)
      have ne : ¬ (sp_lv r m).2.1 = 0 := fun z => by rw [z] at hE; exact absurd hE (by decide)
      have ek : (sp_cl (-(sp_ac y_r a (m + 1) (m + 1 - 1) / (sp_lv r m).2.1))) = sp_km r (sp_lv r m).1 (sp_lv r m).2.1 (m + 1) := by rw [show m + 1 - 1 = m from rfl, ea]; rfl
      refine br_t hE ⟨vp_in_nI (by omega) (by omega), nm_r (e' := sp_ac y_r a (m + 1) 0) (by rw [nI_clamp (by omega)]; rfl) ⟨m + 1, sy_rf145 (m := m + 1) (by omega) (by omega) ne ?_ m 0 (by omega)⟩⟩
      rw [ek]
      refine ⟨m + 1, sy_rf219 (A := (sp_lv r m).1) (by omega) (by omega) hP ha (fun a' ao' ha' => ?_) m 1 ao (by omega) (by omega) (fun j hj1 hj2 => absurd hj2 (by omega))⟩
      have i := ih (m + 1) (upd raw (m + 1) (sp_km r (sp_lv r m).1 (sp_lv r m).2.1 (m + 1)).toInt32) a' ao' (by omega) (fun j hj1 hj2 => by
        rw [e]
        show upd raw (m + 1) _ j = upd (sp_lv r m).2.2 (m + 1) _ j
        by_cases q : j = m + 1
        · subst q
          rw [pk_us, pk_us]
        · rw [pk_un q, pk_un q]
          exact hk j hj1 hj2) (fun j hj1 hj2 => by
        rw [e]
        exact ha' j hj1 hj2)
      rw [e] at i
      exact i
    · have e : sp_lv r (m + 1) = sp_lv r m := if_neg hE
      have i := ih (m + 1) (upd raw (m + 1) 0) a ao (by omega) (fun j hj1 hj2 => by
        rw [e]
        by_cases q : j = m + 1
        · subst q
          rw [pk_us, sp_lv_z r m (m + 1) (by omega)]
        · rw [pk_un q]
          exact hk j hj1 hj2) (by rw [e]; exact ha)
      rw [e] at i
      exact br_f hE ⟨vp_in_nI (by omega) (by omega), nm_r (by rw [nI_clamp (by omega)]) (nm_r (nI_1 (m + 1)) i)⟩
theorem sy_rf54 {P N T : Nat} {y_cnt y_cur : Int32} {y_kq y_fg y_mem y_hist y_out y_fld y_fc y_made y_s y_rawK y_q y_words y_dw y_tf y_cw y_x y_x2 y_h y_v y_y y_z y_u y_cp y_oldH y_encSlot y_encSign : Nat → Int32} {y_R y_ao : Nat → Int64} {post : SY → Prop} {s : Nat → Int32} (hs : sp_bd s) (hN : N ≤ 32) (hP : P ≤ 6) (hR : ∀ i, i ≤ P → y_R i = sp_R s N i) (hz : ∀ j, j < 7 → y_rawK j = 0)
    (h : ∀ raw r a ao, (∀ j, 1 ≤ j → j ≤ P → raw j = (sp_lv (sp_r s N) P).2.2 j) → post ((nI P), (nI N), (nI T), y_cnt, y_cur, y_kq, y_fg, y_mem, y_hist, y_out, y_fld, y_fc, y_made, y_s, raw, y_q, y_words, y_dw, y_tf, y_cw, y_x, y_x2, y_h, y_v, y_y, y_z, y_u, y_cp, y_oldH, y_encSlot, y_encSign, y_R, r, a, ao)) :
    ∀ d i r a, i + d = P + 1 → (∀ j, j < i → r j = sp_r s N j) → (∀ j, j < i → a j = 0) → wY_reflect_54 post (sp_den (sp_R s N 0)) (nI P) (nI N) (nI T) y_cnt y_cur (d + 1) (nI i) y_kq y_fg y_mem y_hist y_out y_fld y_fc y_made y_s y_rawK y_q y_words y_dw y_tf y_cw y_x y_x2 y_h y_v y_y y_z y_u y_cp y_oldH y_encSlot y_encSign y_R r a y_ao := by
  have b := sp_R0_r hs hN
  have b2 := sp_den_0 b.1 b.2
  intro d
  induction d with
  | zero =>
    intro i r a hi hr ha
    refine br_t (nI_lt (by omega) (by omega)) (nm_r (e' := (sp_lv (sp_r s N) 0).2.1) (hr 0 (by omega)) ⟨P + 1, ?_⟩)
    exact sy_rf103 (y_r := r) hP (fun j hj => hr j (by omega)) (fun raw' a' ao' h' => h raw' r a' ao' h') P 0 y_rawK a y_ao (by omega) (fun j h1 h2 => hz j (by omega)) (fun j h1 h2 => ha j (by omega))
  | succ d ih =>
    intro i r a hi hr ha
    refine br_f (nI_nlt (by omega) (by omega)) ⟨vp_in_nI (by omega) (by omega), b2.1, vp_in_nI (by omega) (by omega), nm_e ⟨vp_in_nI (by omega) (by omega), nm_e (nm_r (nI_1 i) (ih (i + 1) _ _ (by omega) ?_ ?_))⟩⟩
    · intro j hj
      rw [nI_clamp (by omega)]
      by_cases e : j = i
      · subst e
        rw [pk_uLs, hR j (by omega)]
        rfl
      · rw [pk_uLn e]
        exact hr j (by omega)
    · intro j hj
      rw [nI_clamp (by omega)]
      by_cases e : j = i
      · subst e
        rw [pk_uLs]
      · rw [pk_uLn e]
        exact ha j (by omega)
theorem sy_rf2 {P N T : Nat} {y_cnt y_cur : Int32} {y_kq y_fg y_mem y_hist y_out y_fld y_fc y_made y_s y_q y_words y_dw y_tf y_cw y_x y_x2 y_h y_v y_y y_z y_u y_cp y_oldH y_encSlot y_encSign : Nat → Int32} {y_R y_r y_a y_ao : Nat → Int64} {post : SY → Prop} {s : Nat → Int32} (hs : sp_bd s) (hN : N ≤ 32) (hP : P ≤ 6) (hR : ∀ i, i ≤ P → y_R i = sp_R s N i)
    (h : ∀ raw r a ao, (∀ j, 1 ≤ j → j ≤ P → raw j = sp_K s N P j) → post ((nI P), (nI N), (nI T), y_cnt, y_cur, y_kq, y_fg, y_mem, y_hist, y_out, y_fld, y_fc, y_made, y_s, raw, y_q, y_words, y_dw, y_tf, y_cw, y_x, y_x2, y_h, y_v, y_y, y_z, y_u, y_cp, y_oldH, y_encSlot, y_encSign, y_R, r, a, ao)) :
    ∀ d i raw, i + d = 7 → (∀ j, j < i → raw j = 0) → wY_reflect_2 post (nI P) (nI N) (nI T) y_cnt y_cur (d + 1) (nI i) y_kq y_fg y_mem y_hist y_out y_fld y_fc y_made y_s raw y_q y_words y_dw y_tf y_cw y_x y_x2 y_h y_v y_y y_z y_u y_cp y_oldH y_encSlot y_encSign y_R y_r y_a y_ao := by
  intro d
  induction d with
  | zero =>
    intro i raw hi hz
    obtain rfl : i = 7 := by omega
    have r0 := hR 0 (by omega)
    refine br_t (nI_le (a := 7) (by omega) (by omega)) ?_
    rw [r0]
    by_cases z : sp_R s N 0 = 0
    · exact br_t z (h raw y_r y_a y_ao (fun j h1 h2 => by rw [hz j (by omega)]; exact (if_pos z).symm))
    · refine br_f z (nm_r (e' := sp_den (sp_R s N 0)) rfl ⟨P + 1 + 1, ?_⟩)
      exact sy_rf54 (y_rawK := raw) hs hN hP hR hz (fun raw' r' a' ao' h' => h raw' r' a' ao' (fun j h1 h2 => by rw [h' j h1 h2]; exact (if_neg z).symm)) (P + 1) 0 y_r y_a (by omega) (fun j hj => absurd hj (by omega)) (fun j hj => absurd hj (by omega))
  | succ d ih =>
    intro i raw hi hz
    refine br_f (nI_ge (b := 7) (by omega) (by omega)) ⟨vp_in_nI (by omega) (by omega), nm_e (nm_r (nI_1 i) (ih (i + 1) _ (by omega) ?_))⟩
    intro j hj
    rw [nI_clamp (by omega)]
    by_cases e : j = i
    · subst e
      rw [pk_us]
    · rw [pk_un e]
      exact hz j (by omega)
theorem sy_rf {P N T : Nat} {y_cnt y_cur : Int32} {y_kq y_fg y_mem y_hist y_out y_fld y_fc y_made y_s y_rawK y_q y_words y_dw y_tf y_cw y_x y_x2 y_h y_v y_y y_z y_u y_cp y_oldH y_encSlot y_encSign : Nat → Int32} {y_R y_r y_a y_ao : Nat → Int64} {post : SY → Prop} {s : Nat → Int32} (hs : sp_bd s) (hN : N ≤ 32) (hP : P ≤ 6) (hR : ∀ i, i ≤ P → y_R i = sp_R s N i)
    (h : ∀ raw r a ao, (∀ j, 1 ≤ j → j ≤ P → raw j = sp_K s N P j) → post ((nI P), (nI N), (nI T), y_cnt, y_cur, y_kq, y_fg, y_mem, y_hist, y_out, y_fld, y_fc, y_made, y_s, raw, y_q, y_words, y_dw, y_tf, y_cw, y_x, y_x2, y_h, y_v, y_y, y_z, y_u, y_cp, y_oldH, y_encSlot, y_encSign, y_R, r, a, ao)) : wpY_reflect post ((nI P), (nI N), (nI T), y_cnt, y_cur, y_kq, y_fg, y_mem, y_hist, y_out, y_fld, y_fc, y_made, y_s, y_rawK, y_q, y_words, y_dw, y_tf, y_cw, y_x, y_x2, y_h, y_v, y_y, y_z, y_u, y_cp, y_oldH, y_encSlot, y_encSign, y_R, y_r, y_a, y_ao) :=
  Exists.intro (7 + 1) (sy_rf2 hs hN hP hR h 7 0 y_rawK (by omega) (fun j hj => absurd hj (by omega)))
theorem sy_e28 {P N T : Nat} {y_cnt y_cur : Int32} {y_kq y_fg y_mem y_hist y_out y_fld y_fc y_made y_s y_rawK y_q y_words y_dw y_tf y_cw y_x y_x2 y_h y_v y_y y_z y_u y_cp y_oldH y_encSlot y_encSign : Nat → Int32} {y_R y_r y_a y_ao : Nat → Int64} {post : Int32 → SY → Prop} {J : _} {i : Nat} (hN : N ≤ 32) (hi : i ≤ 6)
    (hJ : J (nI (i + 1)) y_kq y_fg y_mem y_hist y_out y_fld y_fc y_made y_s y_rawK y_q y_words y_dw y_tf y_cw y_x y_x2 y_h y_v y_y y_z y_u y_cp y_oldH y_encSlot y_encSign (vp_updL y_R i (sp_R y_s N i)) y_r y_a y_ao) :
    ∀ d t, i + t + d = N → wY_encodeFrame_28 post J (nI i) (nI P) (nI N) (nI T) y_cnt y_cur y_kq y_fg y_mem y_hist y_out y_fld y_fc y_made y_s y_rawK y_q y_words y_dw y_tf y_cw y_x y_x2 y_h y_v y_y y_z y_u y_cp y_oldH y_encSlot y_encSign y_R y_r y_a y_ao (d + 1) (sp_sm (fun t => (y_s (i + t)).toInt64 * (y_s t).toInt64) t) (nI (i + t)) := by
  intro d
  induction d with
  | zero =>
    intro t ht
    obtain rfl : t = N - i := by omega
    refine br_t (nI_le (by omega) (by omega)) ⟨vp_in_nI (by omega) (by omega), ?_⟩
    exact nm_r (by rw [nI_clamp (by omega)]; rfl) (nm_r (nI_1 i) hJ)
  | succ d ih =>
    intro t ht
    refine br_f (nI_ge (by omega) (by omega)) ⟨vp_in_nI (by omega) (by omega), pk_in t 32 (by omega) ?_, nm_r ?_ (nm_r (nI_1 (i + t)) (ih (t + 1) (by omega)))⟩
    · rw [pk_sub (by omega), Nat.add_sub_cancel_left]
    · rw [pk_sub (by omega), Nat.add_sub_cancel_left, nI_clamp (by omega), nI_clamp (by omega)]
      rfl
theorem sy_e15 {P N T : Nat} {y_cnt y_cur : Int32} {y_kq y_fg y_mem y_hist y_out y_fld y_fc y_made y_s y_rawK y_q y_words y_dw y_tf y_cw y_x y_x2 y_h y_v y_y y_z y_u y_cp y_oldH y_encSlot y_encSign : Nat → Int32} {y_R y_r y_a y_ao : Nat → Int64} {post : Int32 → SY → Prop} {s : Nat → Int32} (es : y_s = s) (hs : sp_bd s) (hN8 : 8 ≤ N) (hN : N ≤ 32) (hP : P ≤ 6)
    (h : ∀ raw R r a ao, (∀ j, 1 ≤ j → j ≤ P → raw j = sp_K s N P j) → ∃ n, wY_encodeFrame_84 post (nI P) (nI N) (nI T) y_cnt y_cur n 1 y_kq y_fg y_mem y_hist y_out y_fld y_fc y_made y_s raw y_q y_words y_dw y_tf y_cw y_x y_x2 y_h y_v y_y y_z y_u y_cp y_oldH y_encSlot y_encSign R r a ao) :
    ∀ d i, i + d = P + 1 → wY_encodeFrame_15 post (nI P) (nI N) (nI T) y_cnt y_cur (d + 1) (nI i) y_kq y_fg y_mem y_hist y_out y_fld y_fc y_made y_s y_rawK y_q y_words y_dw y_tf y_cw y_x y_x2 y_h y_v y_y y_z y_u y_cp y_oldH y_encSlot y_encSign (sp_fl (sp_R y_s N) i y_R) y_r y_a y_ao := by
  subst es
  intro d
  induction d with
  | zero =>
    intro i hi
    exact br_t (nI_lt (by omega) (by omega)) (sy_rf (s := y_s) hs hN hP (fun j hj => sp_fl_lo (by omega)) (fun raw r a ao hk => h raw _ r a ao hk))
  | succ d ih =>
    intro i hi
    refine br_f (nI_nlt (by omega) (by omega)) ⟨N - i + 1, sy_e28 hN (by omega) ?_ (N - i) 0 (by omega)⟩
    rw [sp_flSL]
    exact ih (i + 1) (by omega)
end
section
/-! the reference: bits, and rule D -/
theorem sp_c4 {c : Nat} (hc : c < 64) : nI c >>> ((4 : Int32) &&& 31) = nI (c / 16) := pk_shrN (by omega) _ 4 (by decide)
theorem sp_c15 {c : Nat} (hc : c < 64) : (15 : Int32) - (nI c &&& 15) = nI (15 - c % 16) := by
  rw [show nI c &&& 15 = nI (c % 2 ^ 4) from pk_andN (by omega) 4 (by decide)]
  exact pk_sub (a := 15) (by omega)
theorem sy_wb4 {P N T : Nat} {y_cnt : Int32} {y_kq y_fg y_mem y_hist y_out y_fld y_fc y_made y_s y_rawK y_q y_dw y_tf y_cw y_x y_x2 y_h y_v y_y y_z y_u y_cp y_oldH y_encSlot y_encSign : Nat → Int32} {y_R y_r y_a y_ao : Nat → Int64} {post : SY → Prop} {S v c w : Nat} (hv : v < 2 ^ 31) (hw : w < 32) (hcw : c + w ≤ 64)
    (h : ∀ W, sp_wd W (S ||| v <<< (64 - c - w)) → post ((nI P), (nI N), (nI T), y_cnt, (nI (c + w)), y_kq, y_fg, y_mem, y_hist, y_out, y_fld, y_fc, y_made, y_s, y_rawK, y_q, W, y_dw, y_tf, y_cw, y_x, y_x2, y_h, y_v, y_y, y_z, y_u, y_cp, y_oldH, y_encSlot, y_encSign, y_R, y_r, y_a, y_ao)) :
    ∀ k W, k ≤ w → sp_wd W (S ||| (v >>> k) <<< (k + (64 - c - w))) → wY_writeBits_4 post (nI v) (nI P) (nI N) (nI T) y_cnt (k + 1) (nI k - 1) (nI (c + (w - k))) y_kq y_fg y_mem y_hist y_out y_fld y_fc y_made y_s y_rawK y_q W y_dw y_tf y_cw y_x y_x2 y_h y_v y_y y_z y_u y_cp y_oldH y_encSlot y_encSign y_R y_r y_a y_ao := by
  intro k
  induction k with
  | zero =>
    intro W hk hW
    rw [Nat.shiftRight_zero, Nat.zero_add] at hW
    exact br_t (by decide) (h W hW)
  | succ k ih =>
    intro W hk hW
    have ec : c + (w - (k + 1)) < 64 := by omega
    have e1 : nI (c + (w - (k + 1))) + 1 = nI (c + (w - k)) := by
      rw [nI_1, show c + (w - (k + 1)) + 1 = c + (w - k) from by omega]
    have e2 : nI k + (-1) = nI k - 1 := (Int32.sub_eq_add_neg _ _).symm
    rw [nI_pred]
    refine br_f (nI_pos (by omega)) ?_
    rw [sp_bit hv (by omega)]
    have m2 : v / 2 ^ k % 2 < 2 := Nat.mod_lt _ (by decide)
    have step := sp_wbit S v k (64 - c - w)
    by_cases z : v / 2 ^ k % 2 = 0
    · rw [if_pos z, Nat.or_zero] at step
      rw [step] at hW
      rw [z]
      exact br_t rfl (nm_r e1 (nm_r e2 (ih W (by omega) hW)))
    · rw [if_neg z] at step
      refine br_f (nI_ne0 (by omega) (by omega)) (br_f (nI_ge (b := 64) ec (by omega)) ?_)
      rw [sp_c4 ec, sp_c15 ec]
      refine ⟨vp_in_nI (by omega) (by omega), vp_in_nI (by omega) (by omega), nm_r (e' := upd W ((c + (w - (k + 1))) / 16) (W ((c + (w - (k + 1))) / 16) ||| nI (2 ^ (15 - (c + (w - (k + 1))) % 16)))) ?_ (nm_r e1 (nm_r e2 (ih _ (by omega) ?_)))⟩
      · rw [nI_clamp (by omega), sp_1sh _ (by omega)]
      · have q := sp_wd_s ec hW
        rw [show 63 - (c + (w - (k + 1))) = k + (64 - c - w) from by omega, step] at q
        exact q
theorem sy_wb {P N T : Nat} {y_cnt : Int32} {y_kq y_fg y_mem y_hist y_out y_fld y_fc y_made y_s y_rawK y_q y_words y_dw y_tf y_cw y_x y_x2 y_h y_v y_y y_z y_u y_cp y_oldH y_encSlot y_encSign : Nat → Int32} {y_R y_r y_a y_ao : Nat → Int64} {post : SY → Prop} {S v c w : Nat} {p1 : Int32} (hv : v < 2 ^ w) (hw : w < 31) (hcw : c + w ≤ 64) (hW : sp_wd y_words S)
    (h : ∀ W, sp_wd W (S ||| v <<< (64 - c - w)) → post ((nI P), (nI N), (nI T), y_cnt, (nI (c + w)), y_kq, y_fg, y_mem, y_hist, y_out, y_fld, y_fc, y_made, y_s, y_rawK, y_q, W, y_dw, y_tf, y_cw, y_x, y_x2, y_h, y_v, y_y, y_z, y_u, y_cp, y_oldH, y_encSlot, y_encSign, y_R, y_r, y_a, y_ao)) (ep : p1 = nI w := by rfl) : wpY_writeBits post ((nI P), (nI N), (nI T), y_cnt, (nI c), y_kq, y_fg, y_mem, y_hist, y_out, y_fld, y_fc, y_made, y_s, y_rawK, y_q, y_words, y_dw, y_tf, y_cw, y_x, y_x2, y_h, y_v, y_y, y_z, y_u, y_cp, y_oldH, y_encSlot, y_encSign, y_R, y_r, y_a, y_ao) (nI v) p1 := by
  subst ep
  have v31 : v < 2 ^ 31 := Nat.lt_of_lt_of_le hv (Nat.pow_le_pow_right (by decide) (by omega))
  have q := sy_wb4 (S := S) (v := v) (c := c) (w := w) v31 (by omega) hcw h w y_words (Nat.le_refl w) (by
    rw [Nat.shiftRight_eq_div_pow, Nat.div_eq_of_lt hv, Nat.zero_shiftLeft, Nat.or_zero]
    exact hW)
  rw [Nat.sub_self, Nat.add_zero] at q
  exact nm_e (Exists.intro _ q)
theorem sy_rb4 {P N T : Nat} {y_cnt : Int32} {y_kq y_fg y_mem y_hist y_out y_fld y_fc y_made y_s y_rawK y_q y_words y_dw y_tf y_cw y_x y_x2 y_h y_v y_y y_z y_u y_cp y_oldH y_encSlot y_encSign : Nat → Int32} {y_R y_r y_a y_ao : Nat → Int64} {post : Int32 → SY → Prop} {S c w : Nat} (hw : w < 31) (hcw : c + w ≤ 64) (hD : sp_wd y_dw S)
    (h : post (nI (sp_rd S c w)) ((nI P), (nI N), (nI T), y_cnt, (nI (c + w)), y_kq, y_fg, y_mem, y_hist, y_out, y_fld, y_fc, y_made, y_s, y_rawK, y_q, y_words, y_dw, y_tf, y_cw, y_x, y_x2, y_h, y_v, y_y, y_z, y_u, y_cp, y_oldH, y_encSlot, y_encSign, y_R, y_r, y_a, y_ao)) :
    ∀ d k, k + d = w → wY_readBits_4 post (nI w) (nI P) (nI N) (nI T) y_cnt y_kq y_fg y_mem y_hist y_out y_fld y_fc y_made y_s y_rawK y_q y_words y_dw y_tf y_cw y_x y_x2 y_h y_v y_y y_z y_u y_cp y_oldH y_encSlot y_encSign y_R y_r y_a y_ao (d + 1) (nI (sp_rd S c k)) (nI k) (nI (c + k)) := by
  intro d
  induction d with
  | zero =>
    intro k hk
    obtain rfl : k = w := by omega
    exact br_t (nI_le (by omega) (by omega)) h
  | succ d ih =>
    intro k hk
    have ec : c + k < 64 := by omega
    refine br_f (nI_ge (by omega) (by omega)) (br_f (nI_ge (b := 64) ec (by omega)) ?_)
    rw [sp_c4 ec, sp_c15 ec]
    refine ⟨vp_in_nI (by omega) (by omega), nm_r (e' := nI ((S >>> (63 - (c + k))) % 2)) ?_ (nm_r (e' := nI (sp_rd S c (k + 1))) ?_ (nm_r (nI_1 (c + k)) (nm_r (nI_1 k) (ih (k + 1) (by omega)))))⟩
    · rw [nI_clamp (by omega)]
      exact sp_wd_b ec hD
    · rw [show nI (sp_rd S c k) * 2 = nI (sp_rd S c k * 2) from pk_mul _ 2, nI_add, sp_rd_s ec]
theorem sy_rb {P N T : Nat} {y_cnt : Int32} {y_kq y_fg y_mem y_hist y_out y_fld y_fc y_made y_s y_rawK y_q y_words y_dw y_tf y_cw y_x y_x2 y_h y_v y_y y_z y_u y_cp y_oldH y_encSlot y_encSign : Nat → Int32} {y_R y_r y_a y_ao : Nat → Int64} {post : Int32 → SY → Prop} {S c w : Nat} {p : Int32} (hw : w < 31) (hcw : c + w ≤ 64) (hD : sp_wd y_dw S)
    (h : post (nI (sp_rd S c w)) ((nI P), (nI N), (nI T), y_cnt, (nI (c + w)), y_kq, y_fg, y_mem, y_hist, y_out, y_fld, y_fc, y_made, y_s, y_rawK, y_q, y_words, y_dw, y_tf, y_cw, y_x, y_x2, y_h, y_v, y_y, y_z, y_u, y_cp, y_oldH, y_encSlot, y_encSign, y_R, y_r, y_a, y_ao)) (ep : p = nI w := by rfl) : wpY_readBits post ((nI P), (nI N), (nI T), y_cnt, (nI c), y_kq, y_fg, y_mem, y_hist, y_out, y_fld, y_fc, y_made, y_s, y_rawK, y_q, y_words, y_dw, y_tf, y_cw, y_x, y_x2, y_h, y_v, y_y, y_z, y_u, y_cp, y_oldH, y_encSlot, y_encSign, y_R, y_r, y_a, y_ao) p := by
  subst ep
  have q := sy_rb4 hw hcw hD h w 0 (by omega)
  rw [sp_rd_0] at q
  exact Exists.intro _ q
theorem sy_d258 {P N T : Nat} {y_cnt y_cur : Int32} {y_kq y_fg y_mem y_hist y_out y_fld y_fc y_made y_s y_rawK y_q y_words y_dw y_tf y_cw y_x y_x2 y_h y_v y_y y_z y_u y_cp y_oldH y_encSlot y_encSign : Nat → Int32} {y_R y_r y_a y_ao : Nat → Int64} {post : SY → Prop} {H u : Nat → Int32} {sd : Nat} (hN8 : 8 ≤ N) (hN : N ≤ 32) (hsd : sd ≤ 1) (hu : ∀ n, n < N → y_u n = u n) (ho : ∀ j, 1 ≤ j → j ≤ 64 → y_oldH j = H j)
    (h : ∀ A, (∀ j, 1 ≤ j → j ≤ 64 → A (sd * 65 + j) = sp_nh N u H j) → (∀ q, q ≤ sd * 65 ∨ sd * 65 + 65 ≤ q → A q = y_hist q) →
      post ((nI P), (nI N), (nI T), y_cnt, y_cur, y_kq, y_fg, y_mem, A, y_out, y_fld, (upd y_fc sd (y_fc sd + 1)), (upd y_made sd 1), y_s, y_rawK, y_q, y_words, y_dw, y_tf, y_cw, y_x, y_x2, y_h, y_v, y_y, y_z, y_u, y_cp, y_oldH, y_encSlot, y_encSign, y_R, y_r, y_a, y_ao)) :
    ∀ d i A, i + d = 65 → 1 ≤ i → (∀ j, 1 ≤ j → j < i → A (sd * 65 + j) = sp_nh N u H j) → (∀ q, q ≤ sd * 65 ∨ sd * 65 + 65 ≤ q → A q = y_hist q) →
      wY_runD_258 post (nI sd) (nI P) (nI N) (nI T) y_cnt y_cur (d + 1) (nI i) y_kq y_fg y_mem A y_out y_fld y_fc y_made y_s y_rawK y_q y_words y_dw y_tf y_cw y_x y_x2 y_h y_v y_y y_z y_u y_cp y_oldH y_encSlot y_encSign y_R y_r y_a y_ao := by
  intro d
  induction d with
  | zero =>
    intro i A hi h1 ha hf
    obtain rfl : i = 65 := by omega
    refine br_t (nI_lt (a := 64) (by omega) (by omega)) ⟨vp_in_nI (by omega) (by omega), vp_in_nI (by omega) (by omega), nm_r ?_ ⟨vp_in_nI (by omega) (by omega), nm_r ?_ (h A (fun j h1 h2 => ha j h1 (by omega)) hf)⟩⟩
    · rw [nI_clamp (by omega)]
    · rw [nI_clamp (by omega)]
      rfl
  | succ d ih =>
    intro i A hi h1 ha hf
    have e : nI sd * 65 + nI i = nI (sd * 65 + i) := by
      rw [show nI sd * 65 = nI (sd * 65) from pk_mul sd 65, nI_add]
    have key : ∀ x, x = sp_nh N u H i → ∀ j, 1 ≤ j → j < i + 1 → upd A (sd * 65 + i) x (sd * 65 + j) = sp_nh N u H j := by
      intro x ex j hj1 hj2
      by_cases c : j = i
      · subst c
        rw [pk_us, ex]
      · rw [pk_un (by omega)]
        exact ha j hj1 (by omega)
    have key2 : ∀ x q, q ≤ sd * 65 ∨ sd * 65 + 65 ≤ q → upd A (sd * 65 + i) x q = y_hist q := by
      intro x q hq
      rw [pk_un (by omega)]
      exact hf q hq
    refine br_f (nI_nlt (b := i) (a := 64) (by omega) (by omega)) ?_
    by_cases c : N < i
    · refine br_t (nI_lt c (by omega)) ⟨pk_in (i - N) 65 (by omega) (pk_sub (by omega)), pk_in (sd * 65 + i) 130 (by omega) e, nm_r (e' := upd A (sd * 65 + i) (y_oldH (i - N))) ?_ (nm_r (nI_1 i) (ih (i + 1) _ (by omega) (by omega) (key _ ?_) (key2 _)))⟩
      · rw [e, pk_sub (by omega), nI_clamp (by omega), nI_clamp (by omega)]
      · rw [ho (i - N) (by omega) (by omega)]
        unfold sp_nh
        rw [if_neg (by omega)]
    · refine br_f (nI_nlt (by omega) (by omega)) ⟨pk_in (N - i) 32 (by omega) (pk_sub (by omega)), pk_in (sd * 65 + i) 130 (by omega) e, nm_r (e' := upd A (sd * 65 + i) (y_u (N - i))) ?_ (nm_r (nI_1 i) (ih (i + 1) _ (by omega) (by omega) (key _ ?_) (key2 _)))⟩
      · rw [e, pk_sub (by omega), nI_clamp (by omega), nI_clamp (by omega)]
      · rw [hu (N - i) (by omega)]
        unfold sp_nh
        rw [if_pos (by omega)]
theorem sy_d227 {P N T : Nat} {y_cnt y_cur : Int32} {y_kq y_fg y_mem y_hist y_out y_fld y_fc y_made y_s y_rawK y_q y_words y_dw y_tf y_cw y_x y_x2 y_h y_v y_y y_z y_u y_cp y_encSlot y_encSign : Nat → Int32} {y_R y_r y_a y_ao : Nat → Int64} {post : SY → Prop} {H u : Nat → Int32} {sd : Nat} (hN8 : 8 ≤ N) (hN : N ≤ 32) (hsd : sd ≤ 1) (hu : ∀ n, n < N → y_u n = u n) (hH : ∀ j, 1 ≤ j → j ≤ 64 → y_hist (sd * 65 + j) = H j)
    (h : ∀ A oh, (∀ j, 1 ≤ j → j ≤ 64 → A (sd * 65 + j) = sp_nh N u H j) → (∀ q, q ≤ sd * 65 ∨ sd * 65 + 65 ≤ q → A q = y_hist q) →
      post ((nI P), (nI N), (nI T), y_cnt, y_cur, y_kq, y_fg, y_mem, A, y_out, y_fld, (upd y_fc sd (y_fc sd + 1)), (upd y_made sd 1), y_s, y_rawK, y_q, y_words, y_dw, y_tf, y_cw, y_x, y_x2, y_h, y_v, y_y, y_z, y_u, y_cp, oh, y_encSlot, y_encSign, y_R, y_r, y_a, y_ao)) :
    ∀ d i oh, i + d = 65 → 1 ≤ i → (∀ j, 1 ≤ j → j < i → oh j = H j) → wY_runD_227 post (nI sd) (nI P) (nI N) (nI T) y_cnt y_cur (d + 1) (nI i) y_kq y_fg y_mem y_hist y_out y_fld y_fc y_made y_s y_rawK y_q y_words y_dw y_tf y_cw y_x y_x2 y_h y_v y_y y_z y_u y_cp oh y_encSlot y_encSign y_R y_r y_a y_ao := by
  intro d
  induction d with
  | zero =>
    intro i oh hi h1 ha
    obtain rfl : i = 65 := by omega
    exact br_t (nI_lt (a := 64) (by omega) (by omega)) ⟨64 + 1, sy_d258 (y_oldH := oh) (H := H) (u := u) hN8 hN hsd hu (fun j h1 h2 => ha j h1 (by omega)) (fun A hA hf => h A oh hA hf) 64 1 y_hist (by omega) (by omega) (fun j h1 h2 => absurd h2 (by omega)) (fun _ _ => rfl)⟩
  | succ d ih =>
    intro i oh hi h1 ha
    have e : nI sd * 65 + nI i = nI (sd * 65 + i) := by
      rw [show nI sd * 65 = nI (sd * 65) from pk_mul sd 65, nI_add]
    refine br_f (nI_nlt (a := 64) (by omega) (by omega)) ⟨pk_in (sd * 65 + i) 130 (by omega) e, vp_in_nI (by omega) (by omega), nm_e (nm_r (nI_1 i) (ih (i + 1) _ (by omega) (by omega) ?_))⟩
    intro j hj1 hj2
    rw [e, nI_clamp (n := i) (by omega), nI_clamp (by omega)]
    by_cases c : j = i
    · subst c
      rw [pk_us]
      exact hH j hj1 (by omega)
    · rw [pk_un c]
      exact ha j hj1 (by omega)
theorem sy_d130 {P N T : Nat} {y_cnt y_cur : Int32} {y_kq y_fg y_mem y_hist y_out y_fld y_fc y_made y_s y_rawK y_q y_words y_dw y_tf y_cw y_x y_x2 y_h y_v y_y y_z y_cp y_oldH y_encSlot y_encSign : Nat → Int32} {y_R y_r y_a y_ao : Nat → Int64} {post : SY → Prop} {c b H : Nat → Int32} {sd l ga gf : Nat} {sl sg : Nat → Nat} (hP1 : 1 ≤ P) (hP : P ≤ 6) (hN8 : 8 ≤ N) (hN : N ≤ 32) (hsd : sd ≤ 1)
    (hg : ∀ j, j < 16 → y_fg j = sp_fg j) (hc : ∀ j, j < P → y_cw (j + 1) = c (j + 1)) (hH : ∀ j, 1 ≤ j → j ≤ 64 → y_hist (sd * 65 + j) = H j)
    (hga : y_fld (sd * 17 + 1) = nI ga) (hgf : y_fld (sd * 17 + 2) = nI gf) (hgf' : gf < 16)
    (hv : ∀ n, n < N → y_v n = sp_pv H (l + 4) n) (hp : ∀ n, n < N → y_cp n = sp_cp sl sg n)
    (h : ∀ M' A u oh, sp_row (sd * 6) P M' (sp_lm c P b (sp_u H l ga gf sl sg) N) → (∀ q, q < sd * 6 ∨ sd * 6 + P ≤ q → M' q = y_mem q) →
      (∀ j, 1 ≤ j → j ≤ 64 → A (sd * 65 + j) = sp_nh N (sp_u H l ga gf sl sg) H j) → (∀ q, q ≤ sd * 65 ∨ sd * 65 + 65 ≤ q → A q = y_hist q) →
      post ((nI P), (nI N), (nI T), y_cnt, y_cur, y_kq, y_fg, M', A, (sp_fo (sp_lo c P b (sp_u H l ga gf sl sg)) (sd * 32) N y_out), y_fld, (upd y_fc sd (y_fc sd + 1)), (upd y_made sd 1), y_s, y_rawK, y_q, y_words, y_dw, y_tf, y_cw, y_x, y_x2, y_h, y_v, y_y, y_z, u, y_cp, oh, y_encSlot, y_encSign, y_R, y_r, y_a, y_ao)) :
    ∀ d i M u, i + d = N → (∀ n, n < i → u n = sp_u H l ga gf sl sg n) → sp_row (sd * 6) P M (sp_lm c P b (sp_u H l ga gf sl sg) i) → (∀ q, q < sd * 6 ∨ sd * 6 + P ≤ q → M q = y_mem q) →
      wY_runD_130 post (nI sd) (nI (sd * 17)) (d + 1) (nI i) (nI P) (nI N) (nI T) y_cnt y_cur y_kq y_fg M y_hist (sp_fo (sp_lo c P b (sp_u H l ga gf sl sg)) (sd * 32) i y_out) y_fld y_fc y_made y_s y_rawK y_q y_words y_dw y_tf y_cw y_x y_x2 y_h y_v y_y y_z u y_cp y_oldH y_encSlot y_encSign y_R y_r y_a y_ao := by
  intro d
  induction d with
  | zero =>
    intro i M u hi hu hr hf
    obtain rfl : i = N := by omega
    exact br_t (nI_le (by omega) (by omega)) ⟨64 + 1, sy_d227 (y_u := u) (H := H) (u := sp_u H l ga gf sl sg) hN8 hN hsd hu hH (fun A oh h1 h2 => h M A u oh hr hf h1 h2) 64 1 y_oldH (by omega) (by omega) (fun j h1 h2 => absurd h2 (by omega))⟩
  | succ d ih =>
    intro i M u hi hu hr hf
    have e1 : nI (sd * 17) + 1 = nI (sd * 17 + 1) := nI_1 _
    have e2 : nI (sd * 17) + 2 = nI (sd * 17 + 2) := nI_add _ 2
    have e6 : nI sd * 6 = nI (sd * 6) := pk_mul sd 6
    have e32 : nI sd * 32 + nI i = nI (sd * 32 + i) := by
      rw [show nI sd * 32 = nI (sd * 32) from pk_mul sd 32, nI_add]
    have c2 : y_fld (nI (sd * 17) + 2).toNatClampNeg = nI gf := by
      rw [e2, nI_clamp (by omega)]
      exact hgf
    refine br_f (nI_ge (by omega) (by omega)) ⟨pk_in (sd * 17 + 1) 34 (by omega) e1, vp_in_nI (by omega) (by omega), pk_in (sd * 17 + 2) 34 (by omega) e2, pk_in gf 16 hgf' c2, vp_in_nI (by omega) (by omega), sy_sat (v := sp_u H l ga gf sl sg i) ?_ ⟨vp_in_nI (by omega) (by omega), nm_r (e' := upd u i (sp_u H l ga gf sl sg i)) ?_ ⟨vp_in_nI (by omega) (by omega), ?_⟩⟩⟩
    · rw [c2, e1, nI_clamp (n := gf) (by omega), nI_clamp (n := sd * 17 + 1) (by omega), nI_clamp (n := i) (by omega), hga, hv i (by omega), hp i (by omega), hg gf hgf']
      rfl
    · rw [nI_clamp (by omega)]
    · rw [nI_clamp (by omega), pk_us, e6]
      refine sy_lat (B := sd * 6) hP1 hP (by omega) hc hr (fun M' hr' hf' => ?_)
      refine ⟨pk_in (sd * 32 + i) 64 (by omega) e32, nm_r ?_ (nm_r (nI_1 i) (ih (i + 1) M' _ (by omega) (fun n hn => ?_) hr' (fun q hq => (hf' q hq).trans (hf q hq))))⟩
      · rw [e32, nI_clamp (by omega)]
        exact sp_foS (g := sp_lo c P b (sp_u H l ga gf sl sg))
      · by_cases z : n = i
        · subst z
          rw [pk_us]
        · rw [pk_un z]
          exact hu n (by omega)
theorem sy_d79 {P N T : Nat} {y_cnt y_cur : Int32} {y_kq y_fg y_mem y_hist y_out y_fld y_fc y_made y_s y_rawK y_q y_words y_dw y_tf y_cw y_x y_x2 y_h y_v y_y y_z y_u y_oldH y_encSlot y_encSign : Nat → Int32} {y_R y_r y_a y_ao : Nat → Int64} {post : SY → Prop} {c b H : Nat → Int32} {sd l ga gf : Nat} {sl sg : Nat → Nat} (hP1 : 1 ≤ P) (hP : P ≤ 6) (hN8 : 8 ≤ N) (hNT : N = 4 * T) (hT : T ≤ 8) (hsd : sd ≤ 1)
    (hg : ∀ j, j < 16 → y_fg j = sp_fg j) (hb : sp_row (sd * 6) P y_mem b) (hc : ∀ j, j < P → y_cw (j + 1) = c (j + 1)) (hH : ∀ j, 1 ≤ j → j ≤ 64 → y_hist (sd * 65 + j) = H j)
    (hga : y_fld (sd * 17 + 1) = nI ga) (hgf : y_fld (sd * 17 + 2) = nI gf) (hgf' : gf < 16)
    (h1 : ∀ t, t < 4 → y_fld (sd * 17 + 3 + t) = nI (sl t) ∧ sl t < T) (h2 : ∀ t, t < 4 → y_fld (sd * 17 + 7 + t) = nI (sg t) ∧ sg t < 2)
    (hv : ∀ n, n < N → y_v n = sp_pv H (l + 4) n)
    (h : ∀ M' A u oh cp, sp_row (sd * 6) P M' (sp_lm c P b (sp_u H l ga gf sl sg) N) → (∀ q, q < sd * 6 ∨ sd * 6 + P ≤ q → M' q = y_mem q) →
      (∀ j, 1 ≤ j → j ≤ 64 → A (sd * 65 + j) = sp_nh N (sp_u H l ga gf sl sg) H j) → (∀ q, q ≤ sd * 65 ∨ sd * 65 + 65 ≤ q → A q = y_hist q) →
      post ((nI P), (nI N), (nI T), y_cnt, y_cur, y_kq, y_fg, M', A, (sp_fo (sp_lo c P b (sp_u H l ga gf sl sg)) (sd * 32) N y_out), y_fld, (upd y_fc sd (y_fc sd + 1)), (upd y_made sd 1), y_s, y_rawK, y_q, y_words, y_dw, y_tf, y_cw, y_x, y_x2, y_h, y_v, y_y, y_z, u, cp, oh, y_encSlot, y_encSign, y_R, y_r, y_a, y_ao)) :
    ∀ d t cp, t + d = 4 → (∀ n, n < N → cp n = if n % 4 < t then sp_cp sl sg n else 0) → wY_runD_79 post (nI sd) (nI (sd * 17)) (nI P) (nI N) (nI T) y_cnt y_cur (d + 1) (nI t) y_kq y_fg y_mem y_hist y_out y_fld y_fc y_made y_s y_rawK y_q y_words y_dw y_tf y_cw y_x y_x2 y_h y_v y_y y_z y_u cp y_oldH y_encSlot y_encSign y_R y_r y_a y_ao := by
  intro d
  induction d with
  | zero =>
    intro t cp ht hp
    obtain rfl : t = 4 := by omega
    have q := sy_d130 (y_cp := cp) (y_oldH := y_oldH) (y_mem := y_mem) (y_out := y_out) (b := b) hP1 hP hN8 (by omega) hsd hg hc hH hga hgf hgf' hv (fun n hn => by rw [hp n hn, if_pos (by omega)]) (fun M' A u oh => h M' A u oh cp) N 0 y_mem y_u (by omega) (fun n hn => absurd hn (by omega)) hb (fun _ _ => rfl)
    rw [sp_fo0] at q
    exact br_t (nI_le (a := 4) (by omega) (by omega)) ⟨_, q⟩
  | succ d ih =>
    intro t cp ht hp
    have q1 := h1 t (by omega)
    have q2 := h2 t (by omega)
    have e3 : nI (sd * 17) + 3 + nI t = nI (sd * 17 + 3 + t) := by
      rw [show nI (sd * 17) + 3 = nI (sd * 17 + 3) from nI_add _ 3, nI_add]
    have e7 : nI (sd * 17) + 7 + nI t = nI (sd * 17 + 7 + t) := by
      rw [show nI (sd * 17) + 7 = nI (sd * 17 + 7) from nI_add _ 7, nI_add]
    have ep : nI t + 4 * nI (sl t) = nI (t + 4 * sl t) := by
      rw [show (4 : Int32) * nI (sl t) = nI (4 * sl t) from pk_mul 4 (sl t), nI_add]
    refine br_f (nI_ge (b := 4) (by omega) (by omega)) ⟨pk_in (sd * 17 + 3 + t) 34 (by omega) e3, pk_in (sd * 17 + 7 + t) 34 (by omega) e7, ?_⟩
    rw [e3, e7, nI_clamp (n := sd * 17 + 3 + t) (by omega), nI_clamp (n := sd * 17 + 7 + t) (by omega), q1.1, q2.1, ep]
    by_cases z : sg t = 0
    · refine br_t (by rw [z]; rfl) ⟨vp_in_nI (by omega) (by omega), nm_e (nm_r (nI_1 t) (ih (t + 1) _ (by omega) ?_))⟩
      rw [nI_clamp (by omega)]
      exact sp_cp_s (by omega) (by rw [if_pos z]) hp
    · refine br_f (nI_ne0 (by omega) (by omega)) ⟨vp_in_nI (by omega) (by omega), nm_e (nm_r (nI_1 t) (ih (t + 1) _ (by omega) ?_))⟩
      rw [nI_clamp (by omega)]
      exact sp_cp_s (by omega) (by rw [if_neg z]) hp
theorem sy_d56 {P N T : Nat} {y_cnt y_cur : Int32} {y_kq y_fg y_mem y_hist y_out y_fld y_fc y_made y_s y_rawK y_q y_words y_dw y_tf y_cw y_x y_x2 y_h y_v y_y y_z y_u y_oldH y_encSlot y_encSign : Nat → Int32} {y_R y_r y_a y_ao : Nat → Int64} {post : SY → Prop} {c b H : Nat → Int32} {sd l ga gf : Nat} {sl sg : Nat → Nat} (hP1 : 1 ≤ P) (hP : P ≤ 6) (hN8 : 8 ≤ N) (hNT : N = 4 * T) (hT : T ≤ 8) (hsd : sd ≤ 1)
    (hg : ∀ j, j < 16 → y_fg j = sp_fg j) (hb : sp_row (sd * 6) P y_mem b) (hc : ∀ j, j < P → y_cw (j + 1) = c (j + 1)) (hH : ∀ j, 1 ≤ j → j ≤ 64 → y_hist (sd * 65 + j) = H j)
    (hga : y_fld (sd * 17 + 1) = nI ga) (hgf : y_fld (sd * 17 + 2) = nI gf) (hgf' : gf < 16)
    (h1 : ∀ t, t < 4 → y_fld (sd * 17 + 3 + t) = nI (sl t) ∧ sl t < T) (h2 : ∀ t, t < 4 → y_fld (sd * 17 + 7 + t) = nI (sg t) ∧ sg t < 2)
    (hv : ∀ n, n < N → y_v n = sp_pv H (l + 4) n)
    (h : ∀ M' A u oh cp, sp_row (sd * 6) P M' (sp_lm c P b (sp_u H l ga gf sl sg) N) → (∀ q, q < sd * 6 ∨ sd * 6 + P ≤ q → M' q = y_mem q) →
      (∀ j, 1 ≤ j → j ≤ 64 → A (sd * 65 + j) = sp_nh N (sp_u H l ga gf sl sg) H j) → (∀ q, q ≤ sd * 65 ∨ sd * 65 + 65 ≤ q → A q = y_hist q) →
      post ((nI P), (nI N), (nI T), y_cnt, y_cur, y_kq, y_fg, M', A, (sp_fo (sp_lo c P b (sp_u H l ga gf sl sg)) (sd * 32) N y_out), y_fld, (upd y_fc sd (y_fc sd + 1)), (upd y_made sd 1), y_s, y_rawK, y_q, y_words, y_dw, y_tf, y_cw, y_x, y_x2, y_h, y_v, y_y, y_z, u, cp, oh, y_encSlot, y_encSign, y_R, y_r, y_a, y_ao)) :
    ∀ d i cp, i + d = N → (∀ n, n < i → cp n = 0) → wY_runD_56 post (nI sd) (nI (sd * 17)) (nI P) (nI N) (nI T) y_cnt y_cur (d + 1) (nI i) y_kq y_fg y_mem y_hist y_out y_fld y_fc y_made y_s y_rawK y_q y_words y_dw y_tf y_cw y_x y_x2 y_h y_v y_y y_z y_u cp y_oldH y_encSlot y_encSign y_R y_r y_a y_ao := by
  intro d
  induction d with
  | zero =>
    intro i cp hi hp
    obtain rfl : i = N := by omega
    exact br_t (nI_le (by omega) (by omega)) ⟨4 + 1, sy_d79 (b := b) hP1 hP hN8 hNT hT hsd hg hb hc hH hga hgf hgf' h1 h2 hv h 4 0 cp (by omega) (fun n hn => by rw [if_neg (by omega)]; exact hp n hn)⟩
  | succ d ih =>
    intro i cp hi hp
    refine br_f (nI_ge (by omega) (by omega)) ⟨vp_in_nI (by omega) (by omega), nm_e (nm_r (nI_1 i) (ih (i + 1) _ (by omega) ?_))⟩
    intro j hj
    rw [nI_clamp (by omega)]
    by_cases e : j = i
    · subst e
      rw [pk_us]
    · rw [pk_un e]
      exact hp j (by omega)
theorem sy_d7 {P N T : Nat} {y_cnt y_cur : Int32} {y_kq y_fg y_mem y_hist y_out y_fld y_fc y_made y_s y_rawK y_q y_words y_dw y_tf y_x y_x2 y_h y_v y_y y_z y_u y_cp y_oldH y_encSlot y_encSign : Nat → Int32} {y_R y_r y_a y_ao : Nat → Int64} {post : SY → Prop} {c b H : Nat → Int32} {sd l ga gf : Nat} {sl sg q : Nat → Nat} (hP1 : 1 ≤ P) (hP : P ≤ 6) (hN8 : 8 ≤ N) (hNT : N = 4 * T) (hT : T ≤ 8) (hsd : sd ≤ 1)
    (hk : ∀ j, j < 16 → y_kq j = sp_kq j) (hg : ∀ j, j < 16 → y_fg j = sp_fg j) (hb : sp_row (sd * 6) P y_mem b) (hcq : ∀ j, j < P → c (j + 1) = sp_kq (q j)) (hH : ∀ j, 1 ≤ j → j ≤ 64 → y_hist (sd * 65 + j) = H j)
    (hq : ∀ m, m < P → y_fld (sd * 17 + 11 + m) = nI (q m) ∧ q m < 16)
    (hl : y_fld (sd * 17 + 0) = nI l) (hl' : l < 32) (hga : y_fld (sd * 17 + 1) = nI ga) (hgf : y_fld (sd * 17 + 2) = nI gf) (hgf' : gf < 16)
    (h1 : ∀ t, t < 4 → y_fld (sd * 17 + 3 + t) = nI (sl t) ∧ sl t < T) (h2 : ∀ t, t < 4 → y_fld (sd * 17 + 7 + t) = nI (sg t) ∧ sg t < 2)
    (h : ∀ M' A u oh cp cw v, sp_row (sd * 6) P M' (sp_lm c P b (sp_u H l ga gf sl sg) N) → (∀ q, q < sd * 6 ∨ sd * 6 + P ≤ q → M' q = y_mem q) →
      (∀ j, 1 ≤ j → j ≤ 64 → A (sd * 65 + j) = sp_nh N (sp_u H l ga gf sl sg) H j) → (∀ q, q ≤ sd * 65 ∨ sd * 65 + 65 ≤ q → A q = y_hist q) →
      post ((nI P), (nI N), (nI T), y_cnt, y_cur, y_kq, y_fg, M', A, (sp_fo (sp_lo c P b (sp_u H l ga gf sl sg)) (sd * 32) N y_out), y_fld, (upd y_fc sd (y_fc sd + 1)), (upd y_made sd 1), y_s, y_rawK, y_q, y_words, y_dw, y_tf, cw, y_x, y_x2, y_h, v, y_y, y_z, u, cp, oh, y_encSlot, y_encSign, y_R, y_r, y_a, y_ao)) :
    ∀ d m cw, m + d = P → (∀ j, j < m → cw (j + 1) = c (j + 1)) → wY_runD_7 post (nI sd) (nI (sd * 17)) (nI P) (nI N) (nI T) y_cnt y_cur (d + 1) (nI (m + 1)) y_kq y_fg y_mem y_hist y_out y_fld y_fc y_made y_s y_rawK y_q y_words y_dw y_tf cw y_x y_x2 y_h y_v y_y y_z y_u y_cp y_oldH y_encSlot y_encSign y_R y_r y_a y_ao := by
  intro d
  induction d with
  | zero =>
    intro m cw hm hcw
    obtain rfl : m = P := by omega
    refine br_t (nI_lt (by omega) (by omega)) ⟨vp_in_nI (by omega) (by omega), ?_⟩
    rw [nI_clamp (by omega), show y_fld (sd * 17) = nI l from hl]
    refine sy_fv (by omega) hsd hl' hH ?_
    exact ⟨N + 1, sy_d56 (y_cw := cw) (c := c) (b := b) hP1 hP hN8 hNT hT hsd hg hb hcw hH hga hgf hgf' h1 h2 (fun n hn => sp_fl_lo hn) (fun M' A u oh cp => h M' A u oh cp cw _) N 0 y_cp (by omega) (fun n hn => absurd hn (by omega))⟩
  | succ d ih =>
    intro m cw hm hcw
    have o := hq m (by omega)
    have e : nI (sd * 17) + 10 + nI (m + 1) = nI (sd * 17 + 11 + m) := by
      rw [show nI (sd * 17) + 10 = nI (sd * 17 + 10) from nI_add _ 10, nI_add, show sd * 17 + 10 + (m + 1) = sd * 17 + 11 + m from by omega]
    have c1 : y_fld (nI (sd * 17) + 10 + nI (m + 1)).toNatClampNeg = nI (q m) := by
      rw [e, nI_clamp (by omega)]
      exact o.1
    refine br_f (nI_nlt (by omega) (by omega)) ⟨pk_in (sd * 17 + 11 + m) 34 (by omega) e, pk_in (q m) 16 o.2 c1, vp_in_nI (by omega) (by omega), nm_e (nm_r (nI_1 (m + 1)) (ih (m + 1) _ (by omega) ?_))⟩
    intro j hj
    rw [c1, nI_clamp (n := m + 1) (by omega), nI_clamp (by omega), hk _ o.2]
    by_cases z : j = m
    · subst z
      rw [pk_us]
      exact (hcq j (by omega)).symm
    · rw [pk_un (by omega)]
      exact hcw j (by omega)
theorem sy_d {P N T : Nat} {y_cnt y_cur : Int32} {y_kq y_fg y_mem y_hist y_out y_fld y_fc y_made y_s y_rawK y_q y_words y_dw y_tf y_cw y_x y_x2 y_h y_v y_y y_z y_u y_cp y_oldH y_encSlot y_encSign : Nat → Int32} {y_R y_r y_a y_ao : Nat → Int64} {post : SY → Prop} {c b H : Nat → Int32} {sd l ga gf : Nat} {sl sg q : Nat → Nat} {p : Int32} (hP1 : 1 ≤ P) (hP : P ≤ 6) (hN8 : 8 ≤ N) (hNT : N = 4 * T) (hT : T ≤ 8) (hsd : sd ≤ 1)
    (hk : ∀ j, j < 16 → y_kq j = sp_kq j) (hg : ∀ j, j < 16 → y_fg j = sp_fg j) (hb : sp_row (sd * 6) P y_mem b) (hcq : ∀ j, j < P → c (j + 1) = sp_kq (q j)) (hH : ∀ j, 1 ≤ j → j ≤ 64 → y_hist (sd * 65 + j) = H j)
    (hF : sp_FF y_fld (sd * 17) P l ga gf sl sg q) (hq : ∀ m, m < P → q m < 16) (hl' : l < 32) (hgf' : gf < 16) (hsl : ∀ t, t < 4 → sl t < T) (hsg : ∀ t, t < 4 → sg t < 2)
    (h : ∀ M' A u oh cp cw v, sp_row (sd * 6) P M' (sp_lm c P b (sp_u H l ga gf sl sg) N) → (∀ q, q < sd * 6 ∨ sd * 6 + P ≤ q → M' q = y_mem q) →
      (∀ j, 1 ≤ j → j ≤ 64 → A (sd * 65 + j) = sp_nh N (sp_u H l ga gf sl sg) H j) → (∀ q, q ≤ sd * 65 ∨ sd * 65 + 65 ≤ q → A q = y_hist q) →
      post ((nI P), (nI N), (nI T), y_cnt, y_cur, y_kq, y_fg, M', A, (sp_fo (sp_lo c P b (sp_u H l ga gf sl sg)) (sd * 32) N y_out), y_fld, (upd y_fc sd (y_fc sd + 1)), (upd y_made sd 1), y_s, y_rawK, y_q, y_words, y_dw, y_tf, cw, y_x, y_x2, y_h, v, y_y, y_z, u, cp, oh, y_encSlot, y_encSign, y_R, y_r, y_a, y_ao))
    (ep : p = nI sd := by rfl) : wpY_runD post ((nI P), (nI N), (nI T), y_cnt, y_cur, y_kq, y_fg, y_mem, y_hist, y_out, y_fld, y_fc, y_made, y_s, y_rawK, y_q, y_words, y_dw, y_tf, y_cw, y_x, y_x2, y_h, y_v, y_y, y_z, y_u, y_cp, y_oldH, y_encSlot, y_encSign, y_R, y_r, y_a, y_ao) p := by
  subst ep
  obtain ⟨f0, f1, f2, f3, f7, f11⟩ := hF
  exact nm_r (pk_mul sd 17) (Exists.intro (P + 1) (sy_d7 (c := c) (b := b) (q := q) hP1 hP hN8 hNT hT hsd hk hg hb hcq hH (fun m hm => ⟨f11 m hm, hq m hm⟩) f0 hl' f1 f2 hgf' (fun t ht => ⟨f3 t ht, hsl t ht⟩) (fun t ht => ⟨f7 t ht, hsg t ht⟩) h P 0 y_cw (by omega) (fun j hj => absurd hj (by omega))))
end
section
/-! the reference's encodeFrame: its loops from the first to the last -/
theorem sp_qs_n {k : Int32} (h1 : -32768 ≤ k.toInt) (h2 : k.toInt ≤ 32767) : ∀ i, i < 16 → ¬ (sp_qs k i).2 < 0 := by
  intro i
  induction i with
  | zero =>
    intro hi
    have r := sp_kq_r 0 hi
    exact (sp_ds_y h1 h2 r.1 r.2).2.2
  | succ i ih =>
    intro hi
    have r := sp_kq_r (i + 1) hi
    show ¬ (if sp_ds k (sp_kq (i + 1)) < (sp_qs k i).2 then (i + 1, sp_ds k (sp_kq (i + 1))) else sp_qs k i).2 < 0
    split
    · exact (sp_ds_y h1 h2 r.1 r.2).2.2
    · exact ih (by omega)
theorem sy_e99 {P N T : Nat} {y_cnt y_cur : Int32} {y_kq y_fg y_mem y_hist y_out y_fld y_fc y_made y_s y_rawK y_q y_words y_dw y_tf y_cw y_x y_x2 y_h y_v y_y y_z y_u y_cp y_oldH y_encSlot y_encSign : Nat → Int32} {y_R y_r y_a y_ao : Nat → Int64} {post : Int32 → SY → Prop} {J : _} {k : Int32} {m : Nat} (h1 : -32768 ≤ k.toInt) (h2 : k.toInt ≤ 32767) (hm : m ≤ 6) (hraw : y_rawK m = k) (hk : ∀ j, j < 16 → y_kq j = sp_kq j)
    (hJ : J (nI (m + 1)) y_kq y_fg y_mem y_hist y_out y_fld y_fc y_made y_s y_rawK (upd y_q m (nI (sp_nq k))) y_words y_dw y_tf (upd y_cw m (sp_kq (sp_nq k))) y_x y_x2 y_h y_v y_y y_z y_u y_cp y_oldH y_encSlot y_encSign y_R y_r y_a y_ao) :
    ∀ d i x2 x3, i + d = 16 → ((i = 0 ∧ x2 = 0 ∧ x3 = -1) ∨ (∃ i', i = i' + 1 ∧ x2 = nI (sp_qs k i').1 ∧ x3 = (sp_qs k i').2)) → wY_encodeFrame_99 post J (nI m) (nI P) (nI N) (nI T) y_cnt y_cur y_kq y_fg y_mem y_hist y_out y_fld y_fc y_made y_s y_rawK y_q y_words y_dw y_tf y_cw y_x y_x2 y_h y_v y_y y_z y_u y_cp y_oldH y_encSlot y_encSign y_R y_r y_a y_ao (d + 1) x2 x3 (nI i) := by
  intro d
  induction d with
  | zero =>
    intro i x2 x3 hi hs
    rcases hs with ⟨h, _⟩ | ⟨i', h, e2, e3⟩
    · omega
    · obtain rfl : i' = 15 := by omega
      obtain rfl : i = 16 := by omega
      subst e2
      have q := sp_nq_b k
      refine br_t (nI_le (a := 16) (by omega) (by omega)) ⟨vp_in_nI (by omega) (by omega), nm_r (e' := upd y_q m (nI (sp_nq k))) ?_ ⟨vp_in_nI q (by omega), vp_in_nI (by omega) (by omega), nm_r (e' := upd y_cw m (sp_kq (sp_nq k))) ?_ (nm_r (nI_1 m) hJ)⟩⟩
      · rw [nI_clamp (by omega)]
        rfl
      · rw [show (sp_qs k 15).1 = sp_nq k from rfl, nI_clamp (n := m) (by omega), nI_clamp (by omega), hk _ q]
  | succ d ih =>
    intro i x2 x3 hi hs
    have r := sp_kq_r i (by omega)
    have dy := sp_ds_y h1 h2 r.1 r.2
    have go : wY_encodeFrame_132 post J (wY_encodeFrame_99 post J (nI m) (nI P) (nI N) (nI T) y_cnt y_cur y_kq y_fg y_mem y_hist y_out y_fld y_fc y_made y_s y_rawK y_q y_words y_dw y_tf y_cw y_x y_x2 y_h y_v y_y y_z y_u y_cp y_oldH y_encSlot y_encSign y_R y_r y_a y_ao (d + 1)) (nI m) x2 x3 (nI i) (sp_ds k (sp_kq i)) (nI P) (nI N) (nI T) y_cnt y_cur y_kq y_fg y_mem y_hist y_out y_fld y_fc y_made y_s y_rawK y_q y_words y_dw y_tf y_cw y_x y_x2 y_h y_v y_y y_z y_u y_cp y_oldH y_encSlot y_encSign y_R y_r y_a y_ao := by
      rcases hs with ⟨h, e2, e3⟩ | ⟨i', h, e2, e3⟩
      · subst h
        refine br_t (by rw [e3]; decide) (nm_r (nI_1 0) (ih (0 + 1) _ _ (by omega) (Or.inr ⟨0, rfl, rfl, rfl⟩)))
      · subst h
        have n0 := sp_qs_n h1 h2 i' (by omega)
        rw [← e3] at n0
        refine br_f n0 (br_c (fun hl => ?_) (fun hl => ?_))
        · have e : sp_qs k (i' + 1) = sp_qs k i' := if_neg (by rw [← e3]; exact Int32.not_lt.mpr hl)
          exact nm_r (nI_1 (i' + 1)) (ih (i' + 1 + 1) _ _ (by omega) (Or.inr ⟨i' + 1, rfl, by rw [e]; exact e2, by rw [e]; exact e3⟩))
        · have e : sp_qs k (i' + 1) = (i' + 1, sp_ds k (sp_kq (i' + 1))) := if_pos (by rw [← e3]; exact Int32.not_le.mp hl)
          exact nm_r (nI_1 (i' + 1)) (ih (i' + 1 + 1) _ _ (by omega) (Or.inr ⟨i' + 1, rfl, by rw [e], by rw [e]⟩))
    refine br_f (nI_ge (b := 16) (by omega) (by omega)) ⟨vp_in_nI (by omega) (by omega), vp_in_nI (by omega) (by omega), nm_r (e' := k - sp_kq i) ?_ ?_⟩
    · rw [nI_clamp (n := m) (by omega), nI_clamp (n := i) (by omega), hraw, hk i (by omega)]
    · refine br_c (fun a => ?_) (fun a => ?_)
      · rw [← dy.2.1 (Int32.not_lt.mpr a)]
        exact go
      · exact nm_r (e' := sp_ds k (sp_kq i)) (dy.1 (Int32.not_le.mp a)).symm go
theorem sy_e84 {P N T : Nat} {y_cnt y_cur : Int32} {y_kq y_fg y_mem y_hist y_out y_fld y_fc y_made y_s y_rawK y_words y_dw y_tf y_x y_x2 y_h y_v y_y y_z y_u y_cp y_oldH y_encSlot y_encSign : Nat → Int32} {y_R y_r y_a y_ao : Nat → Int64} {post : Int32 → SY → Prop} {k : Nat → Int32} (hP : P ≤ 6) (hr : ∀ j, -32768 ≤ (k j).toInt ∧ (k j).toInt ≤ 32767) (hraw : ∀ j, 1 ≤ j → j ≤ P → y_rawK j = k j) (hk : ∀ j, j < 16 → y_kq j = sp_kq j)
    (h : ∀ q cw, (∀ j, j < P → q (j + 1) = nI (sp_nq (k (j + 1)))) → (∀ j, j < P → cw (j + 1) = sp_kq (sp_nq (k (j + 1)))) → ∃ n, wY_encodeFrame_181 post (nI P) (nI N) (nI T) y_cnt y_cur n 0 y_kq y_fg y_mem y_hist y_out y_fld y_fc y_made y_s y_rawK q y_words y_dw y_tf cw y_x y_x2 y_h y_v y_y y_z y_u y_cp y_oldH y_encSlot y_encSign y_R y_r y_a y_ao) :
    ∀ d m q cw, m + d = P → (∀ j, j < m → q (j + 1) = nI (sp_nq (k (j + 1)))) → (∀ j, j < m → cw (j + 1) = sp_kq (sp_nq (k (j + 1)))) → wY_encodeFrame_84 post (nI P) (nI N) (nI T) y_cnt y_cur (d + 1) (nI (m + 1)) y_kq y_fg y_mem y_hist y_out y_fld y_fc y_made y_s y_rawK q y_words y_dw y_tf cw y_x y_x2 y_h y_v y_y y_z y_u y_cp y_oldH y_encSlot y_encSign y_R y_r y_a y_ao := by
  intro d
  induction d with
  | zero =>
    intro m q cw hm hq hc
    obtain rfl : m = P := by omega
    exact br_t (nI_lt (by omega) (by omega)) (h q cw hq hc)
  | succ d ih =>
    intro m q cw hm hq hc
    refine br_f (nI_nlt (by omega) (by omega)) ⟨16 + 1, sy_e99 (k := k (m + 1)) (hr _).1 (hr _).2 (by omega) (hraw (m + 1) (by omega) (by omega)) hk (ih (m + 1) _ _ (by omega) (fun j hj => ?_) (fun j hj => ?_)) 16 0 0 (-1) (by omega) (Or.inl ⟨rfl, rfl, rfl⟩)⟩
    · by_cases e : j = m
      · subst e
        rw [pk_us]
      · rw [pk_un (by omega)]
        exact hq j (by omega)
    · by_cases e : j = m
      · subst e
        rw [pk_us]
      · rw [pk_un (by omega)]
        exact hc j (by omega)
theorem sy_e181 {P N T : Nat} {y_cnt y_cur : Int32} {y_kq y_fg y_mem y_hist y_out y_fld y_fc y_made y_s y_rawK y_q y_words y_dw y_tf y_cw y_x y_x2 y_h y_v y_y y_z y_u y_cp y_oldH y_encSlot y_encSign : Nat → Int32} {y_R y_r y_a y_ao : Nat → Int64} {post : Int32 → SY → Prop}
    (h : ∀ M, (∀ j, j < 6 → M (12 + j) = y_mem j) → (∀ j, j < 6 → M (18 + j) = 0) → (∀ q, q < 12 → M q = y_mem q) → ∃ n, wY_encodeFrame_220 post n 0 (nI P) (nI N) (nI T) y_cnt y_cur y_kq y_fg M y_hist y_out y_fld y_fc y_made y_s y_rawK y_q y_words y_dw y_tf y_cw y_x y_x2 y_h y_v y_y y_z y_u y_cp y_oldH y_encSlot y_encSign y_R y_r y_a y_ao) :
    ∀ d i M, i + d = 6 → (∀ j, j < i → M (12 + j) = y_mem j) → (∀ j, j < i → M (18 + j) = 0) → (∀ q, q < 12 → M q = y_mem q) → wY_encodeFrame_181 post (nI P) (nI N) (nI T) y_cnt y_cur (d + 1) (nI i) y_kq y_fg M y_hist y_out y_fld y_fc y_made y_s y_rawK y_q y_words y_dw y_tf y_cw y_x y_x2 y_h y_v y_y y_z y_u y_cp y_oldH y_encSlot y_encSign y_R y_r y_a y_ao := by
  intro d
  induction d with
  | zero =>
    intro i M hi h1 h2 h3
    obtain rfl : i = 6 := by omega
    exact br_t (nI_le (a := 6) (by omega) (by omega)) (h M h1 h2 h3)
  | succ d ih =>
    intro i M hi h1 h2 h3
    have e12 : (12 : Int32) + nI i = nI (12 + i) := nI_add 12 i
    have e18 : (18 : Int32) + nI i = nI (18 + i) := nI_add 18 i
    refine br_f (nI_ge (b := 6) (by omega) (by omega)) ⟨vp_in_nI (by omega) (by omega), pk_in (12 + i) 24 (by omega) e12, nm_r (e' := upd M (12 + i) (y_mem i)) ?_ ⟨pk_in (18 + i) 24 (by omega) e18, nm_r (e' := upd (upd M (12 + i) (y_mem i)) (18 + i) 0) ?_ (nm_r (nI_1 i) (ih (i + 1) _ (by omega) (fun j hj => ?_) (fun j hj => ?_) (fun q hq => ?_)))⟩⟩
    · rw [e12, nI_clamp (n := 12 + i) (by omega), nI_clamp (n := i) (by omega), h3 i (by omega)]
    · rw [e18, nI_clamp (by omega)]
    · rw [pk_un (by omega)]
      by_cases e : j = i
      · subst e
        rw [pk_us]
      · rw [pk_un (by omega)]
        exact h1 j (by omega)
    · by_cases e : j = i
      · subst e
        rw [pk_us]
      · rw [pk_un (by omega), pk_un (by omega)]
        exact h2 j (by omega)
    · rw [pk_un (by omega), pk_un (by omega)]
      exact h3 q hq
theorem sy_e220 {P N T : Nat} {y_cnt y_cur : Int32} {y_kq y_fg y_mem y_hist y_out y_fld y_fc y_made y_s y_rawK y_q y_words y_dw y_tf y_cw y_x y_x2 y_h y_v y_y y_z y_u y_cp y_oldH y_encSlot y_encSign : Nat → Int32} {y_R y_r y_a y_ao : Nat → Int64} {post : Int32 → SY → Prop} {c b s : Nat → Int32} (hP1 : 1 ≤ P) (hP : P ≤ 6) (hN : N ≤ 32) (hs : ∀ j, j < N → y_s j = s j)
    (hc : ∀ j, j < P → y_cw (j + 1) = c (j + 1))
    (h : ∀ M, (∀ j, j < 6 → M (18 + j) = 0) → (∀ q, q < 12 → M q = y_mem q) → ∃ n, wY_encodeFrame_262 post n 0 (nI P) (nI N) (nI T) y_cnt y_cur y_kq y_fg M y_hist y_out y_fld y_fc y_made y_s y_rawK y_q y_words y_dw y_tf y_cw (sp_fl (fun n => sp_sat (s n - sp_lo c P b (fun _ => 0) n)) N y_x) y_x2 y_h y_v y_y y_z y_u y_cp y_oldH y_encSlot y_encSign y_R y_r y_a y_ao) :
    ∀ d i M, i + d = N → sp_row 12 P M (sp_lm c P b (fun _ => 0) i) → (∀ j, j < 6 → M (18 + j) = 0) → (∀ q, q < 12 → M q = y_mem q) →
      wY_encodeFrame_220 post (d + 1) (nI i) (nI P) (nI N) (nI T) y_cnt y_cur y_kq y_fg M y_hist y_out y_fld y_fc y_made y_s y_rawK y_q y_words y_dw y_tf y_cw (sp_fl (fun n => sp_sat (s n - sp_lo c P b (fun _ => 0) n)) i y_x) y_x2 y_h y_v y_y y_z y_u y_cp y_oldH y_encSlot y_encSign y_R y_r y_a y_ao := by
  intro d
  induction d with
  | zero =>
    intro i M hi hr hz hf
    obtain rfl : i = N := by omega
    exact br_t (nI_le (by omega) (by omega)) (h M hz hf)
  | succ d ih =>
    intro i M hi hr hz hf
    refine br_f (nI_ge (by omega) (by omega)) (sy_lat (B := 12) hP1 hP (by omega) hc hr (fun M' hr' hf' => ?_))
    refine ⟨vp_in_nI (by omega) (by omega), sy_sat (v := sp_sat (s i - sp_lo c P b (fun _ => 0) i)) ?_ ⟨vp_in_nI (by omega) (by omega), nm_r ?_ (nm_r (nI_1 i) (ih (i + 1) M' (by omega) hr' (fun j hj => (hf' (18 + j) (by omega)).trans (hz j hj)) (fun q hq => (hf' q (by omega)).trans (hf q hq))))⟩⟩
    · rw [nI_clamp (by omega), hs i (by omega)]
      rfl
    · rw [nI_clamp (by omega)]
      exact sp_flS (g := fun n => sp_sat (s n - sp_lo c P b (fun _ => 0) n))
theorem sy_e289 {P N T : Nat} {y_cnt y_cur : Int32} {y_kq y_fg y_mem y_hist y_out y_fld y_fc y_made y_s y_rawK y_q y_words y_dw y_tf y_cw y_x y_x2 y_h y_v y_y y_z y_u y_cp y_oldH y_encSlot y_encSign : Nat → Int32} {y_R y_r y_a y_ao : Nat → Int64} {post : Int32 → SY → Prop} {J : _} {c b : Nat → Int32} {i : Nat} {z0 zz : Int32} (ez : zz = z0) (hP1 : 1 ≤ P) (hP : P ≤ 6) (hi : i < 32)
    (hc : ∀ j, j < P → y_cw (j + 1) = c (j + 1)) (hr : sp_row 18 P y_mem b)
    (h : ∀ M', sp_row 18 P M' (sp_go c P P zz b).2 → (∀ q, q < 12 → M' q = y_mem q) → J (nI (i + 1)) (nI P) (nI N) (nI T) y_cnt y_cur y_kq y_fg M' y_hist y_out y_fld y_fc y_made y_s y_rawK y_q y_words y_dw y_tf y_cw y_x y_x2 (upd y_h i (sp_go c P P zz b).1) y_v y_y y_z y_u y_cp y_oldH y_encSlot y_encSign y_R y_r y_a y_ao) :
    wY_encodeFrame_289 post J (nI i) z0 18 (nI i) (nI P) (nI N) (nI T) y_cnt y_cur y_kq y_fg y_mem y_hist y_out y_fld y_fc y_made y_s y_rawK y_q y_words y_dw y_tf y_cw y_x y_x2 y_h y_v y_y y_z y_u y_cp y_oldH y_encSlot y_encSign y_R y_r y_a y_ao := by
  subst ez
  unfold wY_encodeFrame_289
  refine sy_lat (B := 18) hP1 hP (by omega) hc hr (fun M' hr' hf' => ?_)
  exact ⟨vp_in_nI hi (by omega), nm_r (by rw [nI_clamp (by omega)]) (nm_r (nI_1 i) (h M' hr' (fun q hq => hf' q (by omega))))⟩
theorem sy_e262 {P N T : Nat} {y_cnt y_cur : Int32} {y_kq y_fg y_mem y_hist y_out y_fld y_fc y_made y_s y_rawK y_q y_words y_dw y_tf y_cw y_x y_x2 y_h y_v y_y y_z y_u y_cp y_oldH y_encSlot y_encSign : Nat → Int32} {y_R y_r y_a y_ao : Nat → Int64} {post : Int32 → SY → Prop} {c : Nat → Int32} (hP1 : 1 ≤ P) (hP : P ≤ 6) (hN : N ≤ 32)
    (hc : ∀ j, j < P → y_cw (j + 1) = c (j + 1))
    (h : ∀ M, (∀ q, q < 12 → M q = y_mem q) → ∃ n, wY_encodeFrame_312 post n 0 1 0 0 0 (nI P) (nI N) (nI T) y_cnt y_cur y_kq y_fg M y_hist y_out y_fld y_fc y_made y_s y_rawK y_q y_words y_dw y_tf y_cw y_x y_x2 (sp_fl (sp_lo c P (fun _ => 0) sp_imp) N y_h) y_v y_y y_z y_u y_cp y_oldH y_encSlot y_encSign y_R y_r y_a y_ao) :
    ∀ d i M, i + d = N → sp_row 18 P M (sp_lm c P (fun _ => 0) sp_imp i) → (∀ q, q < 12 → M q = y_mem q) →
      wY_encodeFrame_262 post (d + 1) (nI i) (nI P) (nI N) (nI T) y_cnt y_cur y_kq y_fg M y_hist y_out y_fld y_fc y_made y_s y_rawK y_q y_words y_dw y_tf y_cw y_x y_x2 (sp_fl (sp_lo c P (fun _ => 0) sp_imp) i y_h) y_v y_y y_z y_u y_cp y_oldH y_encSlot y_encSign y_R y_r y_a y_ao := by
  intro d
  induction d with
  | zero =>
    intro i M hi hr hf
    obtain rfl : i = N := by omega
    exact br_t (nI_le (by omega) (by omega)) (h M hf)
  | succ d ih =>
    intro i M hi hr hf
    refine br_f (nI_ge (by omega) (by omega)) ?_
    by_cases z : i = 0
    · have e : sp_imp i = 4096 := if_pos z
      refine br_t (by rw [z]; rfl) (sy_e289 e hP1 hP (by omega) hc hr (fun M' hr' hf' => ?_))
      have t := ih (i + 1) M' (by omega) hr' (fun q hq => (hf' q hq).trans (hf q hq))
      rw [← sp_flS] at t
      exact t
    · have e : sp_imp i = 0 := if_neg z
      refine br_f (nI_ne0 (by omega) (by omega)) (sy_e289 e hP1 hP (by omega) hc hr (fun M' hr' hf' => ?_))
      have t := ih (i + 1) M' (by omega) hr' (fun q hq => (hf' q hq).trans (hf q hq))
      rw [← sp_flS] at t
      exact t
theorem sy_e398 {P N T : Nat} {y_cnt y_cur : Int32} {y_kq y_fg y_mem y_hist y_out y_fld y_fc y_made y_s y_rawK y_q y_words y_dw y_tf y_cw y_x y_x2 y_h y_v y_y y_z y_u y_cp y_oldH y_encSlot y_encSign : Nat → Int32} {y_R y_r y_a y_ao : Nat → Int64} {post : Int32 → SY → Prop} {x y : Nat → Int32} {x4 : Int32} {g : Nat} (hN : N ≤ 32)
    (hx : ∀ j, j < N → y_x j = x j) (hy : ∀ j, j < N → y_y j = y j)
    (h : ∃ n, wY_encodeFrame_458 post x4 (nI g) n 0 0 (nI P) (nI N) (nI T) y_cnt y_cur y_kq y_fg y_mem y_hist y_out y_fld y_fc y_made y_s y_rawK y_q y_words y_dw y_tf y_cw y_x (sp_fl (sp_x2 x y g) N y_x2) y_h y_v y_y y_z y_u y_cp y_oldH y_encSlot y_encSign y_R y_r y_a y_ao) :
    ∀ d i, i + d = N → wY_encodeFrame_398 post x4 (nI g) (nI P) (nI N) (nI T) y_cnt y_cur (d + 1) (nI i) y_kq y_fg y_mem y_hist y_out y_fld y_fc y_made y_s y_rawK y_q y_words y_dw y_tf y_cw y_x (sp_fl (sp_x2 x y g) i y_x2) y_h y_v y_y y_z y_u y_cp y_oldH y_encSlot y_encSign y_R y_r y_a y_ao := by
  intro d
  induction d with
  | zero =>
    intro i hi
    obtain rfl : i = N := by omega
    exact br_t (nI_le (by omega) (by omega)) h
  | succ d ih =>
    intro i hi
    refine br_f (nI_ge (by omega) (by omega)) ⟨vp_in_nI (by omega) (by omega), vp_in_nI (by omega) (by omega), sy_sat (v := sp_x2 x y g i) ?_ ⟨vp_in_nI (by omega) (by omega), nm_r ?_ (nm_r (nI_1 i) (ih (i + 1) (by omega)))⟩⟩
    · rw [nI_clamp (by omega), hx i (by omega), hy i (by omega)]
      rfl
    · rw [nI_clamp (by omega)]
      exact sp_flS
theorem sy_e458 {P N T : Nat} {y_cnt y_cur : Int32} {y_kq y_fg y_mem y_hist y_out y_fld y_fc y_made y_s y_rawK y_q y_words y_dw y_tf y_cw y_x y_x2 y_h y_v y_y y_u y_cp y_oldH : Nat → Int32} {y_R y_r y_a y_ao : Nat → Int64} {post : Int32 → SY → Prop} {x hh : Nat → Int32} {x4 x5 : Int32} (hNT : N = 4 * T) (hT2 : 2 ≤ T) (hT : T ≤ 8)
    (hf : ∀ j, j < 16 → y_fg j = sp_fg j) (hx : ∀ j, j < N → y_x2 j = x j) (hh' : ∀ j, j < N → y_h j = hh j)
    (h : ∀ z es eg, (∀ k, k < 4 → es k = nI (sp_ch hh x N T 4 k / 2) ∧ eg k = nI (sp_ch hh x N T 4 k % 2)) →
      ∃ n, wY_encodeFrame_505 post x4 x5 (nI (sp_gf hh x N T 3)) (nI P) (nI N) (nI T) y_cnt y_cur n 0 y_kq y_fg y_mem y_hist y_out (upd (upd (upd y_fld 0 x4) 1 x5) 2 (nI (sp_gf hh x N T 3))) y_fc y_made y_s y_rawK y_q y_words y_dw y_tf y_cw y_x y_x2 y_h y_v y_y z y_u y_cp y_oldH es eg y_R y_r y_a y_ao) :
    ∀ d t g z es eg, t + d = 4 → (1 ≤ t → g = nI (sp_gf hh x N T (t - 1))) → (∀ k, k < t → es k = nI (sp_ch hh x N T t k / 2) ∧ eg k = nI (sp_ch hh x N T t k % 2)) →
      wY_encodeFrame_458 post x4 x5 (d + 1) g (nI t) (nI P) (nI N) (nI T) y_cnt y_cur y_kq y_fg y_mem y_hist y_out y_fld y_fc y_made y_s y_rawK y_q y_words y_dw y_tf y_cw y_x y_x2 y_h y_v y_y z y_u y_cp y_oldH es eg y_R y_r y_a y_ao := by
  intro d
  induction d with
  | zero =>
    intro t g z es eg ht hg hs
    obtain rfl : t = 4 := by omega
    have e := hg (by omega)
    rw [show 4 - 1 = 3 from rfl] at e
    subst e
    exact br_t (nI_le (a := 4) (by omega) (by omega)) (nm_e (nm_e (nm_e (h z es eg hs))))
  | succ d ih =>
    intro t g z es eg ht hg hs
    refine br_f (nI_ge (b := 4) (by omega) (by omega)) (sy_st (E := sp_et hh x N (sp_ch hh x N T t) t) (ch := sp_ch hh x N T t) hNT hT2 hT (by omega) hf hx hh' (fun k hk => ⟨sp_ch_b (by omega) t k, (hs k hk).1, (hs k hk).2⟩) (fun c g => rfl) (fun z' => ?_))
    have ec : sp_ch hh x N T (t + 1) t = (sp_out (sp_et hh x N (sp_ch hh x N T t) t) 16 (2 * T)).2.1 := sp_ch_t
    rw [← ec]
    refine nm_r (nI_1 t) (ih (t + 1) _ z' _ _ (by omega) (fun _ => rfl) (fun k hk => ?_))
    by_cases e : k = t
    · subst e
      rw [pk_us, pk_us]
      exact ⟨rfl, rfl⟩
    · rw [pk_un e, pk_un e, sp_ch_s e]
      exact hs k (by omega)
theorem sy_e505 {P N T : Nat} {y_cnt y_cur : Int32} {y_kq y_fg y_mem y_hist y_out y_fld y_fc y_made y_s y_rawK y_q y_words y_dw y_tf y_cw y_x y_x2 y_h y_v y_y y_z y_u y_cp y_oldH y_encSlot y_encSign : Nat → Int32} {y_R y_r y_a y_ao : Nat → Int64} {post : Int32 → SY → Prop} {sl sg : Nat → Nat} {x4 x5 x6 : Int32} (hs : ∀ k, k < 4 → y_encSlot k = nI (sl k) ∧ y_encSign k = nI (sg k))
    (h : ∀ F, (∀ t, t < 4 → F (3 + t) = nI (sl t)) → (∀ t, t < 4 → F (7 + t) = nI (sg t)) → (∀ j, j < 3 ∨ 11 ≤ j → F j = y_fld j) → ∃ n, wY_encodeFrame_553 post x4 x5 x6 (nI P) (nI N) (nI T) y_cnt y_cur n 1 y_kq y_fg y_mem y_hist y_out F y_fc y_made y_s y_rawK y_q y_words y_dw y_tf y_cw y_x y_x2 y_h y_v y_y y_z y_u y_cp y_oldH y_encSlot y_encSign y_R y_r y_a y_ao) :
    ∀ d t F, t + d = 4 → (∀ k, k < t → F (3 + k) = nI (sl k)) → (∀ k, k < t → F (7 + k) = nI (sg k)) → (∀ j, j < 3 ∨ 11 ≤ j → F j = y_fld j) → wY_encodeFrame_505 post x4 x5 x6 (nI P) (nI N) (nI T) y_cnt y_cur (d + 1) (nI t) y_kq y_fg y_mem y_hist y_out F y_fc y_made y_s y_rawK y_q y_words y_dw y_tf y_cw y_x y_x2 y_h y_v y_y y_z y_u y_cp y_oldH y_encSlot y_encSign y_R y_r y_a y_ao := by
  intro d
  induction d with
  | zero =>
    intro t F ht h3 h7 hf
    obtain rfl : t = 4 := by omega
    exact br_t (nI_le (a := 4) (by omega) (by omega)) (h F h3 h7 hf)
  | succ d ih =>
    intro t F ht h3 h7 hf
    have e3 : (3 : Int32) + nI t = nI (3 + t) := nI_add 3 t
    have e7 : (7 : Int32) + nI t = nI (7 + t) := nI_add 7 t
    have o := hs t (by omega)
    refine br_f (nI_ge (b := 4) (by omega) (by omega)) ⟨vp_in_nI (by omega) (by omega), pk_in (3 + t) 34 (by omega) e3, nm_r (e' := upd F (3 + t) (nI (sl t))) ?_ ⟨vp_in_nI (by omega) (by omega), pk_in (7 + t) 34 (by omega) e7, nm_r (e' := upd (upd F (3 + t) (nI (sl t))) (7 + t) (nI (sg t))) ?_ (nm_r (nI_1 t) (ih (t + 1) _ (by omega) (fun k hk => ?_) (fun k hk => ?_) (fun j hj => ?_)))⟩⟩
    · rw [e3, nI_clamp (n := 3 + t) (by omega), nI_clamp (by omega), o.1]
    · rw [e7, nI_clamp (n := 7 + t) (by omega), nI_clamp (by omega), o.2]
    · rw [pk_un (by omega)]
      by_cases e : k = t
      · subst e
        rw [pk_us]
      · rw [pk_un (by omega)]
        exact h3 k (by omega)
    · by_cases e : k = t
      · subst e
        rw [pk_us]
      · rw [pk_un (by omega), pk_un (by omega)]
        exact h7 k (by omega)
    · rw [pk_un (by omega), pk_un (by omega)]
      exact hf j hj
theorem sy_e553 {P N T : Nat} {y_cnt y_cur : Int32} {y_kq y_fg y_mem y_hist y_out y_fld y_fc y_made y_s y_rawK y_q y_words y_dw y_tf y_cw y_x y_x2 y_h y_v y_y y_z y_u y_cp y_oldH y_encSlot y_encSign : Nat → Int32} {y_R y_r y_a y_ao : Nat → Int64} {post : Int32 → SY → Prop} {q : Nat → Nat} {x4 x5 x6 : Int32} (hP : P ≤ 6) (hq : ∀ j, j < P → y_q (j + 1) = nI (q j))
    (h : ∀ F, (∀ m, m < P → F (11 + m) = nI (q m)) → (∀ j, j < 11 ∨ 17 ≤ j → F j = y_fld j) → ∃ n, wY_encodeFrame_588 post x4 x5 x6 (nI P) (nI N) (nI T) y_cnt y_cur n 0 y_kq y_fg y_mem y_hist y_out F y_fc y_made y_s y_rawK y_q y_words y_dw y_tf y_cw y_x y_x2 y_h y_v y_y y_z y_u y_cp y_oldH y_encSlot y_encSign y_R y_r y_a y_ao) :
    ∀ d m F, m + d = P → (∀ k, k < m → F (11 + k) = nI (q k)) → (∀ j, j < 11 ∨ 17 ≤ j → F j = y_fld j) → wY_encodeFrame_553 post x4 x5 x6 (nI P) (nI N) (nI T) y_cnt y_cur (d + 1) (nI (m + 1)) y_kq y_fg y_mem y_hist y_out F y_fc y_made y_s y_rawK y_q y_words y_dw y_tf y_cw y_x y_x2 y_h y_v y_y y_z y_u y_cp y_oldH y_encSlot y_encSign y_R y_r y_a y_ao := by
  intro d
  induction d with
  | zero =>
    intro m F hm h1 h2
    obtain rfl : m = P := by omega
    exact br_t (nI_lt (by omega) (by omega)) (h F h1 h2)
  | succ d ih =>
    intro m F hm h1 h2
    have e : (10 : Int32) + nI (m + 1) = nI (11 + m) := by
      rw [show (10 : Int32) + nI (m + 1) = nI (10 + (m + 1)) from nI_add 10 _, show 10 + (m + 1) = 11 + m from by omega]
    refine br_f (nI_nlt (by omega) (by omega)) ⟨vp_in_nI (by omega) (by omega), pk_in (11 + m) 34 (by omega) e, nm_r (e' := upd F (11 + m) (nI (q m))) ?_ (nm_r (nI_1 (m + 1)) (ih (m + 1) _ (by omega) (fun k hk => ?_) (fun j hj => ?_)))⟩
    · rw [e, nI_clamp (n := 11 + m) (by omega), nI_clamp (by omega), hq m (by omega)]
    · by_cases z : k = m
      · subst z
        rw [pk_us]
      · rw [pk_un (by omega)]
        exact h1 k (by omega)
    · rw [pk_un (by omega)]
      exact h2 j hj
theorem sy_e588 {P N T : Nat} {y_cnt y_cur : Int32} {y_kq y_fg y_mem y_hist y_out y_fld y_fc y_made y_s y_rawK y_q y_dw y_tf y_cw y_x y_x2 y_h y_v y_y y_z y_u y_cp y_oldH y_encSlot y_encSign : Nat → Int32} {y_R y_r y_a y_ao : Nat → Int64} {post : Int32 → SY → Prop} {x4 x5 x6 : Int32}
    (h : ∀ W, sp_wd W 0 → ∃ n, wY_encodeFrame_616 post x4 x5 x6 n 1 (nI P) (nI N) (nI T) y_cnt 0 y_kq y_fg y_mem y_hist y_out y_fld y_fc y_made y_s y_rawK y_q W y_dw y_tf y_cw y_x y_x2 y_h y_v y_y y_z y_u y_cp y_oldH y_encSlot y_encSign y_R y_r y_a y_ao) :
    ∀ d i W, i + d = 4 → (∀ j, j < i → W j = 0) → wY_encodeFrame_588 post x4 x5 x6 (nI P) (nI N) (nI T) y_cnt y_cur (d + 1) (nI i) y_kq y_fg y_mem y_hist y_out y_fld y_fc y_made y_s y_rawK y_q W y_dw y_tf y_cw y_x y_x2 y_h y_v y_y y_z y_u y_cp y_oldH y_encSlot y_encSign y_R y_r y_a y_ao := by
  intro d
  induction d with
  | zero =>
    intro i W hi hz
    obtain rfl : i = 4 := by omega
    refine br_t (nI_le (a := 4) (by omega) (by omega)) (h W (fun j hj => ?_))
    rw [hz j hj, Nat.zero_shiftRight]
    rfl
  | succ d ih =>
    intro i W hi hz
    refine br_f (nI_ge (b := 4) (by omega) (by omega)) ⟨vp_in_nI (by omega) (by omega), nm_e (nm_r (nI_1 i) (ih (i + 1) _ (by omega) ?_))⟩
    intro j hj
    rw [nI_clamp (by omega)]
    by_cases e : j = i
    · subst e
      rw [pk_us]
    · rw [pk_un e]
      exact hz j (by omega)
theorem sy_e660 {P N T : Nat} {y_cnt : Int32} {y_kq y_fg y_mem y_hist y_out y_fld y_fc y_made y_s y_rawK y_q y_dw y_tf y_cw y_x y_x2 y_h y_v y_y y_z y_u y_cp y_oldH y_encSlot y_encSign : Nat → Int32} {y_R y_r y_a y_ao : Nat → Int64} {post : Int32 → SY → Prop} {c b H : Nat → Int32} {l ga gf : Nat} {sl sg q : Nat → Nat} (hP1 : 1 ≤ P) (hP : P ≤ 6) (hN8 : 8 ≤ N) (hNT : N = 4 * T) (hT : T ≤ 8)
    (hk : ∀ j, j < 16 → y_kq j = sp_kq j) (hg : ∀ j, j < 16 → y_fg j = sp_fg j) (hb : sp_row (0 * 6) P y_mem b) (hcq : ∀ j, j < P → c (j + 1) = sp_kq (q j)) (hH : ∀ j, 1 ≤ j → j ≤ 64 → y_hist (0 * 65 + j) = H j)
    (hF : sp_FF y_fld (0 * 17) P l ga gf sl sg q) (hq : ∀ m, m < P → q m < 16) (hl' : l < 32) (hga : ga < 8) (hgf' : gf < 16) (hsl : ∀ t, t < 4 → sl t < T) (hsg : ∀ t, t < 4 → sg t < 2)
    (hes : ∀ t, t < 4 → y_encSlot t = nI (sl t) ∧ y_encSign t = nI (sg t))
    (h : ∀ cur W M' A u oh cp cw v, sp_wd W (sp_fs q P l ga sl sg gf <<< (36 - 4 * P)) → sp_row (0 * 6) P M' (sp_lm c P b (sp_u H l ga gf sl sg) N) → (∀ q, q < 0 * 6 ∨ 0 * 6 + P ≤ q → M' q = y_mem q) →
      (∀ j, 1 ≤ j → j ≤ 64 → A (0 * 65 + j) = sp_nh N (sp_u H l ga gf sl sg) H j) → (∀ q, q ≤ 0 * 65 ∨ 0 * 65 + 65 ≤ q → A q = y_hist q) →
      post 1 ((nI P), (nI N), (nI T), 0, cur, y_kq, y_fg, M', A, (sp_fo (sp_lo c P b (sp_u H l ga gf sl sg)) (0 * 32) N y_out), y_fld, (upd y_fc 0 (y_fc 0 + 1)), (upd y_made 0 1), y_s, y_rawK, y_q, W, y_dw, y_tf, cw, y_x, y_x2, y_h, v, y_y, y_z, u, cp, oh, y_encSlot, y_encSign, y_R, y_r, y_a, y_ao)) :
    ∀ d t W, t + d = 4 → sp_wd W (sp_ts (sp_hs q P l ga) sl sg t <<< (64 - (4 * P + 8 + 4 * t))) → wY_encodeFrame_660 post (nI gf) (d + 1) (nI t) (nI P) (nI N) (nI T) y_cnt (nI (4 * P + 8 + 4 * t)) y_kq y_fg y_mem y_hist y_out y_fld y_fc y_made y_s y_rawK y_q W y_dw y_tf y_cw y_x y_x2 y_h y_v y_y y_z y_u y_cp y_oldH y_encSlot y_encSign y_R y_r y_a y_ao := by
  intro d
  induction d with
  | zero =>
    intro t W ht hW
    obtain rfl : t = 4 := by omega
    refine br_t (nI_le (a := 4) (by omega) (by omega)) (sy_wb (w := 4) (v := gf) (c := 4 * P + 8 + 4 * 4) hgf' (by omega) (by omega) hW (fun W' hW' => ?_))
    rw [sp_pj_s (by omega), show 64 - (4 * P + 8 + 4 * 4 + 4) = 36 - 4 * P from by omega] at hW'
    exact sy_d (sd := 0) (c := c) (b := b) (q := q) hP1 hP hN8 hNT hT (by omega) hk hg hb hcq hH hF hq hl' hgf' hsl hsg (fun M' A u oh cp cw v r1 r2 r3 r4 => h _ W' M' A u oh cp cw v hW' r1 r2 r3 r4)
  | succ d ih =>
    intro t W ht hW
    have o := hes t (by omega)
    have b1 := hsl t (by omega)
    refine br_f (nI_ge (b := 4) (by omega) (by omega)) ⟨vp_in_nI (by omega) (by omega), ?_⟩
    rw [nI_clamp (by omega), o.1]
    refine sy_wb (w := 3) (v := sl t) (c := 4 * P + 8 + 4 * t) (by omega) (by omega) (by omega) hW (fun W' hW' => ?_)
    rw [sp_pj_s (by omega)] at hW'
    refine ⟨vp_in_nI (by omega) (by omega), ?_⟩
    rw [o.2]
    refine sy_wb (w := 1) (v := sg t) (c := 4 * P + 8 + 4 * t + 3) (hsg t (by omega)) (by omega) (by omega) hW' (fun W'' hW'' => ?_)
    rw [sp_pj_s (by omega)] at hW''
    exact nm_r (nI_1 t) (ih (t + 1) W'' (by omega) hW'')
theorem sy_e616 {P N T : Nat} {y_cnt : Int32} {y_kq y_fg y_mem y_hist y_out y_fld y_fc y_made y_s y_rawK y_q y_dw y_tf y_cw y_x y_x2 y_h y_v y_y y_z y_u y_cp y_oldH y_encSlot y_encSign : Nat → Int32} {y_R y_r y_a y_ao : Nat → Int64} {post : Int32 → SY → Prop} {l ga : Nat} {q : Nat → Nat} {x6 : Int32} (hP : P ≤ 6) (hq : ∀ m, m < P → y_q (m + 1) = nI (q m) ∧ q m < 16) (hl : l < 32) (hga : ga < 8)
    (h : ∀ W, sp_wd W (sp_hs q P l ga <<< (64 - (4 * P + 8 + 4 * 0))) → ∃ n, wY_encodeFrame_660 post x6 n 0 (nI P) (nI N) (nI T) y_cnt (nI (4 * P + 8 + 4 * 0)) y_kq y_fg y_mem y_hist y_out y_fld y_fc y_made y_s y_rawK y_q W y_dw y_tf y_cw y_x y_x2 y_h y_v y_y y_z y_u y_cp y_oldH y_encSlot y_encSign y_R y_r y_a y_ao) :
    ∀ d m W, m + d = P → sp_wd W (sp_ks q m <<< (64 - 4 * m)) → wY_encodeFrame_616 post (nI l) (nI ga) x6 (d + 1) (nI (m + 1)) (nI P) (nI N) (nI T) y_cnt (nI (4 * m)) y_kq y_fg y_mem y_hist y_out y_fld y_fc y_made y_s y_rawK y_q W y_dw y_tf y_cw y_x y_x2 y_h y_v y_y y_z y_u y_cp y_oldH y_encSlot y_encSign y_R y_r y_a y_ao := by
  intro d
  induction d with
  | zero =>
    intro m W hm hW
    obtain rfl : m = P := by omega
    refine br_t (nI_lt (by omega) (by omega)) (sy_wb (w := 5) (v := l) (c := 4 * m) hl (by omega) (by omega) hW (fun W' hW' => ?_))
    rw [sp_pj_s (by omega)] at hW'
    refine sy_wb (w := 3) (v := ga) (c := 4 * m + 5) hga (by omega) (by omega) hW' (fun W'' hW'' => ?_)
    rw [sp_pj_s (by omega)] at hW''
    exact h W'' hW''
  | succ d ih =>
    intro m W hm hW
    have o := hq m (by omega)
    refine br_f (nI_nlt (by omega) (by omega)) ⟨vp_in_nI (by omega) (by omega), ?_⟩
    rw [nI_clamp (by omega), o.1]
    refine sy_wb (w := 4) (v := q m) (c := 4 * m) o.2 (by omega) (by omega) hW (fun W' hW' => ?_)
    rw [sp_pj_s (by omega)] at hW'
    exact nm_r (nI_1 (m + 1)) (ih (m + 1) W' (by omega) hW')
end
section
/-! the reference: encodeFrame whole, decodeFrame -/
theorem sy_enc {P N T : Nat} {y_cur : Int32} {y_kq y_fg y_mem y_hist y_out y_fld y_fc y_made y_s y_rawK y_q y_words y_dw y_tf y_cw y_x y_x2 y_h y_v y_y y_z y_u y_cp y_oldH y_encSlot y_encSign : Nat → Int32} {y_R y_r y_a y_ao : Nat → Int64} {post : Int32 → SY → Prop} {s b H : Nat → Int32} (es : y_s = s) (hs : sp_bd s) (hP2 : 2 ≤ P) (hP : P ≤ 6) (hNT : N = 4 * T) (hT2 : 2 ≤ T) (hT : T ≤ 8)
    (hk : ∀ j, j < 16 → y_kq j = sp_kq j) (hg : ∀ j, j < 16 → y_fg j = sp_fg j)
    (hb : sp_row (0 * 6) P y_mem b) (hH : ∀ j, 1 ≤ j → j ≤ 64 → y_hist (0 * 65 + j) = H j)
    (h : ∀ cur raw q W cw x x2 hh v y z u cp oh es eg R r a ao F M A,
      (∀ j, 1 ≤ j → j ≤ P → raw j = sp_K s N P j) →
      sp_FF F (0 * 17) P (fr_L s b H N P) (fr_G s b H N P) (fr_GF s b H N P T) (fr_SL s b H N P T) (fr_SG s b H N P T) (fr_Q s N P) → (∀ j, 17 ≤ j → F j = y_fld j) →
      sp_wd W (fr_S s b H N P T) →
      sp_row (0 * 6) P M (sp_lm (fr_C s N P) P b (fr_U s b H N P T) N) → (∀ q, 6 ≤ q → q < 12 → M q = y_mem q) →
      (∀ j, 1 ≤ j → j ≤ 64 → A (0 * 65 + j) = sp_nh N (fr_U s b H N P T) H j) → (∀ q, 65 ≤ q → A q = y_hist q) →
      post 1 ((nI P), (nI N), (nI T), 0, cur, y_kq, y_fg, M, A, (sp_fo (sp_lo (fr_C s N P) P b (fr_U s b H N P T)) (0 * 32) N y_out), F, (upd y_fc 0 (y_fc 0 + 1)), (upd y_made 0 1), y_s, raw, q, W, y_dw, y_tf, cw, x, x2, hh, v, y, z, u, cp, oh, es, eg, R, r, a, ao)) :
    wpY_encodeFrame post ((nI P), (nI N), (nI T), (nI N), y_cur, y_kq, y_fg, y_mem, y_hist, y_out, y_fld, y_fc, y_made, y_s, y_rawK, y_q, y_words, y_dw, y_tf, y_cw, y_x, y_x2, y_h, y_v, y_y, y_z, y_u, y_cp, y_oldH, y_encSlot, y_encSign, y_R, y_r, y_a, y_ao) := by
  have hN8 : 8 ≤ N := by omega
  have hN : N ≤ 32 := by omega
  have hP1 : 1 ≤ P := by omega
  refine br_t (nI_le (Nat.le_refl N) (by omega)) (Exists.intro (P + 1 + 1) ?_)
  have t15 := sy_e15 (y_R := y_R) (post := post) (y_cnt := nI N) (y_cur := y_cur) (y_kq := y_kq) (y_fg := y_fg) (y_mem := y_mem) (y_hist := y_hist) (y_out := y_out) (y_fld := y_fld) (y_fc := y_fc) (y_made := y_made) (y_rawK := y_rawK) (y_q := y_q) (y_words := y_words) (y_dw := y_dw) (y_tf := y_tf) (y_cw := y_cw) (y_x := y_x) (y_x2 := y_x2) (y_h := y_h) (y_v := y_v) (y_y := y_y) (y_z := y_z) (y_u := y_u) (y_cp := y_cp) (y_oldH := y_oldH) (y_encSlot := y_encSlot) (y_encSign := y_encSign) (y_r := y_r) (y_a := y_a) (y_ao := y_ao) (T := T) es hs hN8 hN hP (fun raw R r a ao hraw => ?_) (P + 1) 0 (by omega)
  · rw [sp_fl0] at t15
    exact t15
  refine ⟨P + 1, sy_e84 (k := sp_K s N P) hP (fun j => ⟨by have := (sp_K_r s N P j).1; omega, (sp_K_r s N P j).2⟩) hraw hk (fun q cw hq hcw => ?_) P 0 y_q y_cw (by omega) (fun j hj => absurd hj (by omega)) (fun j hj => absurd hj (by omega))⟩
  refine ⟨6 + 1, sy_e181 (fun M hm1 hm2 hm3 => ?_) 6 0 y_mem (by omega) (fun j hj => absurd hj (by omega)) (fun j hj => absurd hj (by omega)) (fun _ _ => rfl)⟩
  have hb12 : sp_row 12 P M b := fun j hj => by
    rw [hm1 j (by omega)]
    have o := hb j hj
    rw [Nat.zero_mul, Nat.zero_add] at o
    exact o
  have hc : ∀ j, j < P → cw (j + 1) = fr_C s N P (j + 1) := hcw
  refine ⟨N + 1, ?_⟩
  have t220 := fun hh => sy_e220 (y_mem := M) (y_x := y_x) (y_s := y_s) (y_cw := cw) (y_q := q) (y_rawK := raw) (y_R := R) (y_r := r) (y_a := a) (y_ao := ao) (post := post) (y_cnt := nI N) (y_cur := y_cur) (y_kq := y_kq) (y_fg := y_fg) (y_hist := y_hist) (y_out := y_out) (y_fld := y_fld) (y_fc := y_fc) (y_made := y_made) (y_words := y_words) (y_dw := y_dw) (y_tf := y_tf) (y_x2 := y_x2) (y_h := y_h) (y_v := y_v) (y_y := y_y) (y_z := y_z) (y_u := y_u) (y_cp := y_cp) (y_oldH := y_oldH) (y_encSlot := y_encSlot) (y_encSign := y_encSign) (T := T) (b := b) (s := s) hP1 hP hN (fun j _ => by rw [es]) hc hh N 0 M (by omega) hb12 hm2 (fun _ _ => rfl)
  rw [sp_fl0] at t220
  refine t220 (fun M2 hz2 hf2 => ?_)
  have hb18 : sp_row 18 P M2 (fun _ => 0) := fun j hj => hz2 j (by omega)
  refine ⟨N + 1, ?_⟩
  have t262 := fun hh => sy_e262 (y_mem := M2) (y_h := y_h) (y_x := sp_fl (fun n => sp_sat (s n - sp_lo (fr_C s N P) P b (fun _ => 0) n)) N y_x) (y_s := y_s) (y_cw := cw) (y_q := q) (y_rawK := raw) (y_R := R) (y_r := r) (y_a := a) (y_ao := ao) (post := post) (y_cnt := nI N) (y_cur := y_cur) (y_kq := y_kq) (y_fg := y_fg) (y_hist := y_hist) (y_out := y_out) (y_fld := y_fld) (y_fc := y_fc) (y_made := y_made) (y_words := y_words) (y_dw := y_dw) (y_tf := y_tf) (y_x2 := y_x2) (y_v := y_v) (y_y := y_y) (y_z := y_z) (y_u := y_u) (y_cp := y_cp) (y_oldH := y_oldH) (y_encSlot := y_encSlot) (y_encSign := y_encSign) (T := T) hP1 hP hN hc hh N 0 M2 (by omega) hb18 (fun _ _ => rfl)
  rw [sp_fl0] at t262
  refine t262 (fun M3 hf3 => ?_)
  refine ⟨32 + 1, sy_ad312 (R := sp_out (fr_E s b H N P) 8 32) (E := fr_E s b H N P) (x := fr_X s b N P) (hh := fr_H s N P) (H := H) rfl hN (fun j hj => sp_fl_lo hj) (fun j hj => sp_fl_lo hj) hH (fun l g _ _ => rfl) fr_Lb (fun v y hy => ?_) 32 0 y_v y_y 0 1 0 0 (by omega) (Or.inl ⟨rfl, rfl, rfl, rfl, rfl, rfl, rfl⟩)⟩
  refine ⟨N + 1, ?_⟩
  have t398 := fun hh => sy_e398 (x := fr_X s b N P) (y := fr_Y s H N P (fr_L s b H N P)) (g := fr_G s b H N P) (x4 := nI (fr_L s b H N P)) (y_x2 := y_x2) (y_mem := M3) (y_h := sp_fl (sp_lo (fr_C s N P) P (fun _ => 0) sp_imp) N y_h) (y_x := sp_fl (fun n => sp_sat (s n - sp_lo (fr_C s N P) P b (fun _ => 0) n)) N y_x) (y_s := y_s) (y_cw := cw) (y_q := q) (y_rawK := raw) (y_R := R) (y_r := r) (y_a := a) (y_ao := ao) (post := post) (y_cnt := nI N) (y_cur := y_cur) (y_kq := y_kq) (y_fg := y_fg) (y_hist := y_hist) (y_out := y_out) (y_fld := y_fld) (y_fc := y_fc) (y_made := y_made) (y_words := y_words) (y_dw := y_dw) (y_tf := y_tf) (y_v := v) (y_y := y) (y_z := y_z) (y_u := y_u) (y_cp := y_cp) (y_oldH := y_oldH) (y_encSlot := y_encSlot) (y_encSign := y_encSign) (P := P) (T := T) hN (fun j hj => sp_fl_lo hj) hy hh N 0 (by omega)
  rw [sp_fl0] at t398
  refine t398 ?_
  refine ⟨4 + 1, sy_e458 (x := fr_X2 s b H N P) (hh := fr_H s N P) hNT hT2 hT hg (fun j hj => sp_fl_lo hj) (fun j hj => sp_fl_lo hj) (fun z es' eg' hse => ?_) 4 0 0 y_z y_encSlot y_encSign (by omega) (fun z => absurd z (by omega)) (fun k hk => absurd hk (by omega))⟩
  refine ⟨4 + 1, sy_e505 (sl := fr_SL s b H N P T) (sg := fr_SG s b H N P T) hse (fun F g3 g7 gf => ?_) 4 0 _ (by omega) (fun k hk => absurd hk (by omega)) (fun k hk => absurd hk (by omega)) (fun _ _ => rfl)⟩
  refine ⟨P + 1, sy_e553 (q := fr_Q s N P) hP hq (fun F2 k11 kf => ?_) P 0 F (by omega) (fun k hk => absurd hk (by omega)) (fun _ _ => rfl)⟩
  have f0 : F2 0 = nI (fr_L s b H N P) := by
    rw [kf 0 (by omega), gf 0 (by omega), pk_un (by omega), pk_un (by omega), pk_us]
  have f1 : F2 1 = nI (fr_G s b H N P) := by
    rw [kf 1 (by omega), gf 1 (by omega), pk_un (by omega), pk_us]
  have f2 : F2 2 = nI (fr_GF s b H N P T) := by
    rw [kf 2 (by omega), gf 2 (by omega), pk_us]
    rfl
  have f3 : ∀ t, t < 4 → F2 (3 + t) = nI (fr_SL s b H N P T t) := fun t ht => by
    rw [kf (3 + t) (by omega)]
    exact g3 t ht
  have f7 : ∀ t, t < 4 → F2 (7 + t) = nI (fr_SG s b H N P T t) := fun t ht => by
    rw [kf (7 + t) (by omega)]
    exact g7 t ht
  have f17 : ∀ j, 17 ≤ j → F2 j = y_fld j := fun j hj => by
    rw [kf j (by omega), gf j (by omega), pk_un (by omega), pk_un (by omega), pk_un (by omega)]
  have hFF : sp_FF F2 (0 * 17) P (fr_L s b H N P) (fr_G s b H N P) (fr_GF s b H N P T) (fr_SL s b H N P T) (fr_SG s b H N P T) (fr_Q s N P) := ⟨f0, f1, f2, f3, f7, k11⟩
  refine ⟨4 + 1, sy_e588 (fun W0 hW0 => ?_) 4 0 y_words (by omega) (fun j hj => absurd hj (by omega))⟩
  refine ⟨P + 1, sy_e616 (l := fr_L s b H N P) (ga := fr_G s b H N P) (q := fr_Q s N P) hP (fun m hm => ⟨hq m hm, fr_Qb⟩) fr_Lb fr_Gb (fun W1 hW1 => ?_) P 0 W0 (by omega) ?_⟩
  · have hbM : sp_row (0 * 6) P M3 b := fun j hj => by
      rw [hf3 _ (by omega), hf2 _ (by omega), hm3 _ (by omega)]
      exact hb j hj
    refine ⟨4 + 1, sy_e660 (c := fr_C s N P) (b := b) (H := H) (l := fr_L s b H N P) (ga := fr_G s b H N P) (gf := fr_GF s b H N P T) (sl := fr_SL s b H N P T) (sg := fr_SG s b H N P T) (q := fr_Q s N P) hP1 hP hN8 hNT hT hk hg hbM (fun j hj => rfl) hH hFF (fun m _ => fr_Qb) fr_Lb fr_Gb (fr_GFb (by omega)) (fun t _ => fr_SLb (by omega)) (fun t _ => fr_SGb) hse (fun cur W M' A u oh cp cw' v' w1 w2 w3 w4 w5 => ?_) 4 0 W1 (by omega) hW1⟩
    exact h _ _ _ W _ _ _ _ _ _ _ _ _ _ _ _ _ _ _ _ F2 M' A hraw hFF f17 w1 w2 (fun q h6 h12 => by rw [w3 q (by omega), hf3 q h12, hf2 q h12, hm3 q h12]) w4 (fun q hq' => w5 q (by omega))
  · rw [show sp_ks (fr_Q s N P) 0 = 0 from rfl, Nat.zero_shiftLeft]
    exact hW0
theorem sp_FF_fon {rf F : Nat → Int32} {P l ga gf n : Nat} {sl sg q : Nat → Nat} (hn : 11 + P ≤ n) (h : sp_FF rf 0 P l ga gf sl sg q) : sp_FF (sp_fo rf 17 n F) (1 * 17) P l ga gf sl sg q := by
  obtain ⟨h0, h1, h2, h3, h7, h11⟩ := h
  refine ⟨?_, ?_, ?_, fun t ht => ?_, fun t ht => ?_, fun m hm => ?_⟩
  · exact (sp_fo_in (B := 17) (j := 0) (by omega)).trans h0
  · exact (sp_fo_in (B := 17) (j := 1) (by omega)).trans h1
  · exact (sp_fo_in (B := 17) (j := 2) (by omega)).trans h2
  · rw [show 1 * 17 + 3 + t = 17 + (0 + 3 + t) from by omega]
    exact (sp_fo_in (by omega)).trans (h3 t ht)
  · rw [show 1 * 17 + 7 + t = 17 + (0 + 7 + t) from by omega]
    exact (sp_fo_in (by omega)).trans (h7 t ht)
  · rw [show 1 * 17 + 11 + m = 17 + (0 + 11 + m) from by omega]
    exact (sp_fo_in (by omega)).trans (h11 m hm)
theorem sy_f216 {P N T : Nat} {y_cnt y_cur : Int32} {y_kq y_fg y_mem y_hist y_out y_fld y_fc y_made y_s y_rawK y_q y_words y_dw y_tf y_cw y_x y_x2 y_h y_v y_y y_z y_u y_cp y_oldH y_encSlot y_encSign : Nat → Int32} {y_R y_r y_a y_ao : Nat → Int64} {post : Int32 → SY → Prop} {b H : Nat → Int32} {S : Nat} (hP1 : 1 ≤ P) (hP : P ≤ 6) (hN8 : 8 ≤ N) (hNT : N = 4 * T) (hT : T ≤ 8)
    (hk : ∀ j, j < 16 → y_kq j = sp_kq j) (hg : ∀ j, j < 16 → y_fg j = sp_fg j) (hb : sp_row (1 * 6) P y_mem b) (hH : ∀ j, 1 ≤ j → j ≤ 64 → y_hist (1 * 65 + j) = H j)
    (hF : sp_FF y_tf 0 P (dr_L S P) (dr_G S P) (dr_GF S P) (dr_SL S P) (dr_SG S P) (dr_Q S)) (hfit : ∀ t, t < 4 → dr_SL S P t < T)
    (h : ∀ M' A u oh cp cw v, sp_row (1 * 6) P M' (sp_lm (dr_C S) P b (dr_U H S P) N) → (∀ q, q < 1 * 6 ∨ 1 * 6 + P ≤ q → M' q = y_mem q) →
      (∀ j, 1 ≤ j → j ≤ 64 → A (1 * 65 + j) = sp_nh N (dr_U H S P) H j) → (∀ q, q ≤ 1 * 65 ∨ 1 * 65 + 65 ≤ q → A q = y_hist q) →
      post 1 ((nI P), (nI N), (nI T), y_cnt, y_cur, y_kq, y_fg, M', A, (sp_fo (sp_lo (dr_C S) P b (dr_U H S P)) (1 * 32) N y_out), (sp_fo y_tf 17 17 y_fld), (upd y_fc 1 (y_fc 1 + 1)), (upd y_made 1 1), y_s, y_rawK, y_q, y_words, y_dw, y_tf, cw, y_x, y_x2, y_h, v, y_y, y_z, u, cp, oh, y_encSlot, y_encSign, y_R, y_r, y_a, y_ao)) :
    ∀ d i, i + d = 17 → wY_decodeFrame_216 post (nI P) (nI N) (nI T) y_cnt y_cur (d + 1) (nI i) y_kq y_fg y_mem y_hist y_out (sp_fo y_tf 17 i y_fld) y_fc y_made y_s y_rawK y_q y_words y_dw y_tf y_cw y_x y_x2 y_h y_v y_y y_z y_u y_cp y_oldH y_encSlot y_encSign y_R y_r y_a y_ao := by
  intro d
  induction d with
  | zero =>
    intro i hi
    obtain rfl : i = 17 := by omega
    exact br_t (nI_le (a := 17) (by omega) (by omega)) (sy_d (sd := 1) (c := dr_C S) (b := b) (q := dr_Q S) hP1 hP hN8 hNT hT (by omega) hk hg hb (fun j hj => rfl) hH (sp_FF_fon (by omega) hF) (fun m _ => dr_Qb) (sp_rd_b _ _ 5) (sp_rd_b _ _ 4) hfit (fun t _ => sp_rd_b _ _ 1) h)
  | succ d ih =>
    intro i hi
    have e : (17 : Int32) + nI i = nI (17 + i) := nI_add 17 i
    refine br_f (nI_ge (b := 17) (by omega) (by omega)) ⟨vp_in_nI (by omega) (by omega), pk_in (17 + i) 34 (by omega) e, nm_r ?_ (nm_r (nI_1 i) (ih (i + 1) (by omega)))⟩
    rw [e, nI_clamp (n := 17 + i) (by omega), nI_clamp (by omega)]
    exact sp_foS
theorem sy_f183 {P N T : Nat} {y_cnt y_cur : Int32} {y_kq y_fg y_mem y_hist y_out y_fld y_fc y_made y_s y_rawK y_q y_words y_dw y_tf y_cw y_x y_x2 y_h y_v y_y y_z y_u y_cp y_oldH y_encSlot y_encSign : Nat → Int32} {y_R y_r y_a y_ao : Nat → Int64} {post : Int32 → SY → Prop} {sl : Nat → Nat} (hT : T ≤ 8) (hb : ∀ t, t < 4 → sl t < 8) (h3 : ∀ t, t < 4 → y_tf (3 + t) = nI (sl t))
    (h1 : (∀ t, t < 4 → sl t < T) → ∃ n, wY_decodeFrame_216 post (nI P) (nI N) (nI T) y_cnt y_cur n 0 y_kq y_fg y_mem y_hist y_out y_fld y_fc y_made y_s y_rawK y_q y_words y_dw y_tf y_cw y_x y_x2 y_h y_v y_y y_z y_u y_cp y_oldH y_encSlot y_encSign y_R y_r y_a y_ao) (h0 : ¬ (∀ t, t < 4 → sl t < T) → post 0 ((nI P), (nI N), (nI T), y_cnt, y_cur, y_kq, y_fg, y_mem, y_hist, y_out, y_fld, y_fc, y_made, y_s, y_rawK, y_q, y_words, y_dw, y_tf, y_cw, y_x, y_x2, y_h, y_v, y_y, y_z, y_u, y_cp, y_oldH, y_encSlot, y_encSign, y_R, y_r, y_a, y_ao)) :
    ∀ d t, t + d = 4 → (∀ k, k < t → sl k < T) → wY_decodeFrame_183 post (nI P) (nI N) (nI T) y_cnt y_cur y_kq y_fg y_mem y_hist y_out y_fld y_fc y_made y_s y_rawK y_q y_words y_dw y_tf y_cw y_x y_x2 y_h y_v y_y y_z y_u y_cp y_oldH y_encSlot y_encSign y_R y_r y_a y_ao (d + 1) (nI t) := by
  intro d
  induction d with
  | zero =>
    intro t ht hk
    obtain rfl : t = 4 := by omega
    exact br_t (nI_le (a := 4) (by omega) (by omega)) (h1 hk)
  | succ d ih =>
    intro t ht hk
    have e3 : (3 : Int32) + nI t = nI (3 + t) := nI_add 3 t
    refine br_f (nI_ge (b := 4) (by omega) (by omega)) ⟨pk_in (3 + t) 17 (by omega) e3, ?_⟩
    have b := hb t (by omega)
    rw [e3, nI_clamp (by omega), h3 t (by omega)]
    by_cases c : sl t < T
    · refine br_t (nI_lt c (by omega)) (nm_r (nI_1 t) (ih (t + 1) (by omega) (fun k hk' => ?_)))
      by_cases e : k = t
      · rw [e]
        exact c
      · exact hk k (by omega)
    · exact br_f (nI_nlt (by omega) (by omega)) (h0 (fun z => c (z t (by omega))))
theorem sy_f128 {P N T : Nat} {y_cnt : Int32} {y_kq y_fg y_mem y_hist y_out y_fld y_fc y_made y_s y_rawK y_q y_words y_dw y_tf y_cw y_x y_x2 y_h y_v y_y y_z y_u y_cp y_oldH y_encSlot y_encSign : Nat → Int32} {y_R y_r y_a y_ao : Nat → Int64} {post : Int32 → SY → Prop} {S : Nat} (hP : P ≤ 6) (hD : sp_wd y_dw S)
    (h : ∀ cur tf, (∀ t, t < 4 → tf (3 + t) = nI (dr_SL S P t)) → (∀ t, t < 4 → tf (7 + t) = nI (dr_SG S P t)) → tf 2 = nI (dr_GF S P) → (∀ j, j < 2 ∨ 11 ≤ j → tf j = y_tf j) → ∃ n, wY_decodeFrame_183 post (nI P) (nI N) (nI T) y_cnt cur y_kq y_fg y_mem y_hist y_out y_fld y_fc y_made y_s y_rawK y_q y_words y_dw tf y_cw y_x y_x2 y_h y_v y_y y_z y_u y_cp y_oldH y_encSlot y_encSign y_R y_r y_a y_ao n 0) :
    ∀ d t tf, t + d = 4 → (∀ k, k < t → tf (3 + k) = nI (dr_SL S P k)) → (∀ k, k < t → tf (7 + k) = nI (dr_SG S P k)) → (∀ j, j < 2 ∨ 11 ≤ j → tf j = y_tf j) →
      wY_decodeFrame_128 post (d + 1) (nI t) (nI P) (nI N) (nI T) y_cnt (nI (4 * P + 8 + 4 * t)) y_kq y_fg y_mem y_hist y_out y_fld y_fc y_made y_s y_rawK y_q y_words y_dw tf y_cw y_x y_x2 y_h y_v y_y y_z y_u y_cp y_oldH y_encSlot y_encSign y_R y_r y_a y_ao := by
  intro d
  induction d with
  | zero =>
    intro t tf ht h3 h7 hf
    obtain rfl : t = 4 := by omega
    refine br_t (nI_le (a := 4) (by omega) (by omega)) (sy_rb (w := 4) (by omega) (by omega) hD (nm_e (h _ _ ?_ ?_ ?_ ?_)))
    · intro k hk
      rw [pk_un (by omega)]
      exact h3 k hk
    · intro k hk
      rw [pk_un (by omega)]
      exact h7 k hk
    · rw [pk_us]
      rfl
    · intro j hj
      rw [pk_un (by omega)]
      exact hf j hj
  | succ d ih =>
    intro t tf ht h3 h7 hf
    have e3 : (3 : Int32) + nI t = nI (3 + t) := nI_add 3 t
    have e7 : (7 : Int32) + nI t = nI (7 + t) := nI_add 7 t
    refine br_f (nI_ge (b := 4) (by omega) (by omega)) (sy_rb (w := 3) (by omega) (by omega) hD ⟨pk_in (3 + t) 17 (by omega) e3, nm_e (sy_rb (w := 1) (by omega) (by omega) hD ⟨pk_in (7 + t) 17 (by omega) e7, nm_e (nm_r (nI_1 t) (ih (t + 1) _ (by omega) ?_ ?_ ?_))⟩)⟩)
    · intro k hk
      rw [e3, e7, nI_clamp (by omega), nI_clamp (by omega)]
      by_cases c : k = t
      · subst c
        rw [pk_un (by omega), pk_us]
        rfl
      · rw [pk_un (by omega), pk_un (by omega)]
        exact h3 k (by omega)
    · intro k hk
      rw [e3, e7, nI_clamp (by omega), nI_clamp (by omega)]
      by_cases c : k = t
      · subst c
        rw [pk_us]
        rfl
      · rw [pk_un (by omega), pk_un (by omega)]
        exact h7 k (by omega)
    · intro j hj
      rw [e3, e7, nI_clamp (by omega), nI_clamp (by omega), pk_un (by omega), pk_un (by omega)]
      exact hf j hj
theorem sy_f73 {P N T : Nat} {y_cnt : Int32} {y_kq y_fg y_mem y_hist y_out y_fld y_fc y_made y_s y_rawK y_q y_words y_dw y_cw y_x y_x2 y_h y_v y_y y_z y_u y_cp y_oldH y_encSlot y_encSign : Nat → Int32} {y_R y_r y_a y_ao : Nat → Int64} {post : Int32 → SY → Prop} {S : Nat} (hP : P ≤ 6) (hD : sp_wd y_dw S)
    (h : ∀ cur tf, sp_FF tf 0 P (dr_L S P) (dr_G S P) (dr_GF S P) (dr_SL S P) (dr_SG S P) (dr_Q S) → ∃ n, wY_decodeFrame_183 post (nI P) (nI N) (nI T) y_cnt cur y_kq y_fg y_mem y_hist y_out y_fld y_fc y_made y_s y_rawK y_q y_words y_dw tf y_cw y_x y_x2 y_h y_v y_y y_z y_u y_cp y_oldH y_encSlot y_encSign y_R y_r y_a y_ao n 0) :
    ∀ d m tf, m + d = P → (∀ k, k < m → tf (11 + k) = nI (dr_Q S k)) → wY_decodeFrame_73 post (d + 1) (nI (m + 1)) (nI P) (nI N) (nI T) y_cnt (nI (4 * m)) y_kq y_fg y_mem y_hist y_out y_fld y_fc y_made y_s y_rawK y_q y_words y_dw tf y_cw y_x y_x2 y_h y_v y_y y_z y_u y_cp y_oldH y_encSlot y_encSign y_R y_r y_a y_ao := by
  intro d
  induction d with
  | zero =>
    intro m tf hm hq
    obtain rfl : m = P := by omega
    refine br_t (nI_lt (by omega) (by omega)) (sy_rb (w := 5) (by omega) (by omega) hD (nm_e (sy_rb (w := 3) (by omega) (by omega) hD (nm_e (Exists.intro (4 + 1) ?_)))))
    refine sy_f128 hP hD (fun cur tf' g3 g7 g2 gf => h cur tf' ⟨?_, ?_, g2, ?_, ?_, ?_⟩) 4 0 _ (by omega) (fun k hk => absurd hk (by omega)) (fun k hk => absurd hk (by omega)) (fun _ _ => rfl)
    · rw [gf (0 + 0) (by omega), pk_un (by omega), pk_us]
      rfl
    · rw [gf (0 + 1) (by omega), pk_us]
      rfl
    · intro t ht
      rw [show 0 + 3 + t = 3 + t from by omega]
      exact g3 t ht
    · intro t ht
      rw [show 0 + 7 + t = 7 + t from by omega]
      exact g7 t ht
    · intro k hk
      rw [show 0 + 11 + k = 11 + k from by omega, gf (11 + k) (by omega), pk_un (by omega), pk_un (by omega)]
      exact hq k hk
  | succ d ih =>
    intro m tf hm hq
    have e : (10 : Int32) + nI (m + 1) = nI (11 + m) := by
      rw [show (10 : Int32) + nI (m + 1) = nI (10 + (m + 1)) from nI_add 10 _, show 10 + (m + 1) = 11 + m from by omega]
    refine br_f (nI_nlt (by omega) (by omega)) (sy_rb (w := 4) (by omega) (by omega) hD ⟨pk_in (11 + m) 17 (by omega) e, nm_e (nm_r (nI_1 (m + 1)) (ih (m + 1) _ (by omega) ?_))⟩)
    intro k hk
    rw [e, nI_clamp (by omega)]
    by_cases c : k = m
    · subst c
      rw [pk_us]
      rfl
    · rw [pk_un (by omega)]
      exact hq k (by omega)
theorem sy_f44 {P N T : Nat} {y_cnt y_cur : Int32} {y_kq y_fg y_mem y_hist y_out y_fld y_fc y_made y_s y_rawK y_q y_words y_dw y_cw y_x y_x2 y_h y_v y_y y_z y_u y_cp y_oldH y_encSlot y_encSign : Nat → Int32} {y_R y_r y_a y_ao : Nat → Int64} {post : Int32 → SY → Prop} {S : Nat} (hP : P ≤ 6) (hD : sp_wd y_dw S)
    (h : ∀ cur tf, sp_FF tf 0 P (dr_L S P) (dr_G S P) (dr_GF S P) (dr_SL S P) (dr_SG S P) (dr_Q S) → ∃ n, wY_decodeFrame_183 post (nI P) (nI N) (nI T) y_cnt cur y_kq y_fg y_mem y_hist y_out y_fld y_fc y_made y_s y_rawK y_q y_words y_dw tf y_cw y_x y_x2 y_h y_v y_y y_z y_u y_cp y_oldH y_encSlot y_encSign y_R y_r y_a y_ao n 0) :
    ∀ d i tf, i + d = 17 → wY_decodeFrame_44 post (nI P) (nI N) (nI T) y_cnt y_cur (d + 1) (nI i) y_kq y_fg y_mem y_hist y_out y_fld y_fc y_made y_s y_rawK y_q y_words y_dw tf y_cw y_x y_x2 y_h y_v y_y y_z y_u y_cp y_oldH y_encSlot y_encSign y_R y_r y_a y_ao := by
  intro d
  induction d with
  | zero =>
    intro i tf hi
    obtain rfl : i = 17 := by omega
    exact br_t (nI_le (a := 17) (by omega) (by omega)) ⟨P + 1, sy_f73 hP hD h P 0 tf (by omega) (fun k hk => absurd hk (by omega))⟩
  | succ d ih =>
    intro i tf hi
    exact br_f (nI_ge (b := 17) (by omega) (by omega)) ⟨vp_in_nI (by omega) (by omega), nm_e (nm_r (nI_1 i) (ih (i + 1) _ (by omega)))⟩
theorem sp_a16 (w : Int32) : w &&& 65535 = nI (w.toBitVec.toNat % 65536) := pk_and w 16 (by decide)
theorem sy_dec {P N T : Nat} {y_cnt y_cur : Int32} {y_kq y_fg y_mem y_hist y_out y_fld y_fc y_made y_s y_rawK y_q y_words y_dw y_tf y_cw y_x y_x2 y_h y_v y_y y_z y_u y_cp y_oldH y_encSlot y_encSign : Nat → Int32} {y_R y_r y_a y_ao : Nat → Int64} {post : Int32 → SY → Prop} {b H : Nat → Int32} {p0 p1 p2 p3 : Int32} {S : Nat} (hP2 : 2 ≤ P) (hP : P ≤ 6) (hNT : N = 4 * T) (hT2 : 2 ≤ T) (hT : T ≤ 8)
    (eS : S = sp_S (p0.toBitVec.toNat % 65536) (p1.toBitVec.toNat % 65536) (p2.toBitVec.toNat % 65536) (p3.toBitVec.toNat % 65536))
    (hk : ∀ j, j < 16 → y_kq j = sp_kq j) (hg : ∀ j, j < 16 → y_fg j = sp_fg j)
    (hb : sp_row (1 * 6) P y_mem b) (hH : ∀ j, 1 ≤ j → j ≤ 64 → y_hist (1 * 65 + j) = H j)
    (h0 : ¬ (∀ t, t < 4 → dr_SL S P t < T) → ∀ cur dw tf, post 0 ((nI P), (nI N), (nI T), y_cnt, cur, y_kq, y_fg, y_mem, y_hist, y_out, y_fld, y_fc, y_made, y_s, y_rawK, y_q, y_words, dw, tf, y_cw, y_x, y_x2, y_h, y_v, y_y, y_z, y_u, y_cp, y_oldH, y_encSlot, y_encSign, y_R, y_r, y_a, y_ao))
    (h1 : (∀ t, t < 4 → dr_SL S P t < T) → ∀ cur dw tf F M A u oh cp cw v,
      sp_FF F (1 * 17) P (dr_L S P) (dr_G S P) (dr_GF S P) (dr_SL S P) (dr_SG S P) (dr_Q S) → (∀ j, j < 17 → F j = y_fld j) →
      sp_row (1 * 6) P M (sp_lm (dr_C S) P b (dr_U H S P) N) → (∀ q, q < 6 → M q = y_mem q) →
      (∀ j, 1 ≤ j → j ≤ 64 → A (1 * 65 + j) = sp_nh N (dr_U H S P) H j) → (∀ q, q < 65 → A q = y_hist q) →
      post 1 ((nI P), (nI N), (nI T), y_cnt, cur, y_kq, y_fg, M, A, (sp_fo (sp_lo (dr_C S) P b (dr_U H S P)) (1 * 32) N y_out), F, (upd y_fc 1 (y_fc 1 + 1)), (upd y_made 1 1), y_s, y_rawK, y_q, y_words, dw, tf, cw, y_x, y_x2, y_h, v, y_y, y_z, u, cp, oh, y_encSlot, y_encSign, y_R, y_r, y_a, y_ao)) :
    wpY_decodeFrame post ((nI P), (nI N), (nI T), y_cnt, y_cur, y_kq, y_fg, y_mem, y_hist, y_out, y_fld, y_fc, y_made, y_s, y_rawK, y_q, y_words, y_dw, y_tf, y_cw, y_x, y_x2, y_h, y_v, y_y, y_z, y_u, y_cp, y_oldH, y_encSlot, y_encSign, y_R, y_r, y_a, y_ao) p0 p1 p2 p3 := by
  have hD : sp_wd (upd (upd (upd (upd y_dw 0 (p0 &&& 65535)) 1 (p1 &&& 65535)) 2 (p2 &&& 65535)) 3 (p3 &&& 65535)) S := by
    rw [eS]
    refine sp_S_w (Nat.mod_lt _ (by decide)) (Nat.mod_lt _ (by decide)) (Nat.mod_lt _ (by decide)) (Nat.mod_lt _ (by decide)) ?_ ?_ ?_ ?_
    · rw [pk_un (by omega), pk_un (by omega), pk_un (by omega), pk_us, sp_a16]
    · rw [pk_un (by omega), pk_un (by omega), pk_us, sp_a16]
    · rw [pk_un (by omega), pk_us, sp_a16]
    · rw [pk_us, sp_a16]
  refine nm_e (nm_e (nm_e (nm_e (Exists.intro (17 + 1) (sy_f44 hP hD (fun cur tf htf => ?_) 17 0 y_tf (by omega))))))
  have r3 : ∀ t, t < 4 → tf (3 + t) = nI (dr_SL S P t) := fun t ht => by
    have q := htf.2.2.2.1 t ht
    rw [show 0 + 3 + t = 3 + t from by omega] at q
    exact q
  refine ⟨4 + 1, sy_f183 (sl := dr_SL S P) hT (fun t _ => dr_SLb) r3 (fun hfit => ⟨17 + 1, ?_⟩) (fun hn => h0 hn _ _ _) 4 0 (by omega) (fun k hk => absurd hk (by omega))⟩
  have t216 := fun hh => sy_f216 (y_tf := tf) (y_fld := y_fld) (y_cur := cur) (y_dw := upd (upd (upd (upd y_dw 0 (p0 &&& 65535)) 1 (p1 &&& 65535)) 2 (p2 &&& 65535)) 3 (p3 &&& 65535)) (post := post) (y_cnt := y_cnt) (y_kq := y_kq) (y_fg := y_fg) (y_mem := y_mem) (y_hist := y_hist) (y_out := y_out) (y_fc := y_fc) (y_made := y_made) (y_s := y_s) (y_rawK := y_rawK) (y_q := y_q) (y_words := y_words) (y_cw := y_cw) (y_x := y_x) (y_x2 := y_x2) (y_h := y_h) (y_v := y_v) (y_y := y_y) (y_z := y_z) (y_u := y_u) (y_cp := y_cp) (y_oldH := y_oldH) (y_encSlot := y_encSlot) (y_encSign := y_encSign) (y_R := y_R) (y_r := y_r) (y_a := y_a) (y_ao := y_ao) (by omega) hP (by omega) hNT hT hk hg hb hH htf hfit hh 17 0 (by omega)
  rw [sp_fo0] at t216
  exact t216 (fun M' A u oh cp cw v r1 r2 r3 r4 => h1 hfit _ _ _ _ M' A u oh cp cw v (sp_FF_fon (by omega) htf) (fun j hj => sp_fo_out (by omega)) r1 (fun q hq => r2 q (by omega)) r3 (fun q hq => r4 q (by omega)))
end
section
/-! the relation -/
def sp_IS (P N sd : Nat) (mx my hx hy ox oy fx fy cx cy rx made : Nat → Int32) : Prop :=
  (∀ j, j < P → mx (sd * 6 + j) = my (sd * 6 + j)) ∧ (∀ j, 1 ≤ j → j ≤ 64 → hx (sd * 64 + j - 1) = hy (sd * 65 + j)) ∧ (∀ n, n < N → ox (sd * 32 + n) = oy (sd * 32 + n)) ∧
  (∀ k, k < 11 + P → fx (sd * 17 + k) = fy (sd * 17 + k)) ∧ cx sd = cy sd ∧
  ((made sd = 0 ∧ ∀ m, m < P → rx (sd * 6 + m) = 0) ∨ (¬ made sd = 0 ∧ ∀ m, m < P → ∃ q, q < 16 ∧ fy (sd * 17 + 11 + m) = nI q ∧ rx (sd * 6 + m) = sp_kq q))
def sp_IA (P N T c S : Nat) (kx ky gx gy s rawx rawy w : Nat → Int32) : Prop :=
  2 ≤ P ∧ P ≤ 6 ∧ N = 4 * T ∧ 2 ≤ T ∧ T ≤ 8 ∧ c ≤ N ∧ S < 2 ^ 64 ∧ sp_bd s ∧ (∀ j, j < 16 → kx j = sp_kq j) ∧ (∀ j, j < 16 → ky j = sp_kq j) ∧ (∀ j, j < 16 → gx j = sp_fg j) ∧ (∀ j, j < 16 → gy j = sp_fg j) ∧
  (∀ j, j < P → rawx j = rawy (j + 1)) ∧ sp_wd w S
/-- the two states hold the same data, each in its own form -/
def i_Rel (_ : Nat) (u : SX) (v : SY) : Prop := ∃ (P N T c S : Nat) (x_reflectionLevels x_pulseLevels x_memory x_history x_output x_fields x_frameCounts x_reflections x_samples x_rawReflections x_target x_impulseResponse x_pastExcitation x_filteredPast x_chosenPulses x_trialPulses x_pulseSigns x_excitation x_receivedFields : Nat → Int32) (x_correlation x_predictor x_oldPredictor : Nat → Int64) (y_cur : Int32) (y_kq y_fg y_mem y_hist y_out y_fld y_fc y_made y_rawK y_q y_words y_dw y_tf y_cw y_x y_x2 y_h y_v y_y y_z y_u y_cp y_oldH y_encSlot y_encSign : Nat → Int32) (y_R y_r y_a y_ao : Nat → Int64), u = ((nI P), (nI N), (nI T), (nI c), (lN S), x_reflectionLevels, x_pulseLevels, x_memory, x_history, x_output, x_fields, x_frameCounts, x_reflections, x_samples, x_rawReflections, x_correlation, x_predictor, x_oldPredictor, x_target, x_impulseResponse, x_pastExcitation, x_filteredPast, x_chosenPulses, x_trialPulses, x_pulseSigns, x_excitation, x_receivedFields) ∧ v = ((nI P), (nI N), (nI T), (nI c), y_cur, y_kq, y_fg, y_mem, y_hist, y_out, y_fld, y_fc, y_made, x_samples, y_rawK, y_q, y_words, y_dw, y_tf, y_cw, y_x, y_x2, y_h, y_v, y_y, y_z, y_u, y_cp, y_oldH, y_encSlot, y_encSign, y_R, y_r, y_a, y_ao) ∧ sp_IA P N T c S x_reflectionLevels y_kq x_pulseLevels y_fg x_samples x_rawReflections y_rawK y_words ∧ ∀ sd, sd < 2 → sp_IS P N sd x_memory y_mem x_history y_hist x_output y_out x_fields y_fld x_frameCounts y_fc x_reflections y_made
theorem i_up {k : Nat} {u : SX} {v : SY} (h : i_Rel k u v) : i_Rel (k + 5) u v := h
theorem sp_mk {P N T : Nat} {x_reflectionLevels x_pulseLevels x_memory x_history x_output x_fields x_frameCounts x_reflections x_samples x_rawReflections x_target x_impulseResponse x_pastExcitation x_filteredPast x_chosenPulses x_trialPulses x_pulseSigns x_excitation x_receivedFields : Nat → Int32} {x_correlation x_predictor x_oldPredictor : Nat → Int64} {y_cur : Int32} {y_kq y_fg y_mem y_hist y_out y_fld y_fc y_made y_rawK y_q y_words y_dw y_tf y_cw y_x y_x2 y_h y_v y_y y_z y_u y_cp y_oldH y_encSlot y_encSign : Nat → Int32} {y_R y_r y_a y_ao : Nat → Int64} {c S : Nat} {k : Nat} (hA : sp_IA P N T c S x_reflectionLevels y_kq x_pulseLevels y_fg x_samples x_rawReflections y_rawK y_words)
    (hS : ∀ sd, sd < 2 → sp_IS P N sd x_memory y_mem x_history y_hist x_output y_out x_fields y_fld x_frameCounts y_fc x_reflections y_made) :
    i_Rel k ((nI P), (nI N), (nI T), (nI c), (lN S), x_reflectionLevels, x_pulseLevels, x_memory, x_history, x_output, x_fields, x_frameCounts, x_reflections, x_samples, x_rawReflections, x_correlation, x_predictor, x_oldPredictor, x_target, x_impulseResponse, x_pastExcitation, x_filteredPast, x_chosenPulses, x_trialPulses, x_pulseSigns, x_excitation, x_receivedFields) ((nI P), (nI N), (nI T), (nI c), y_cur, y_kq, y_fg, y_mem, y_hist, y_out, y_fld, y_fc, y_made, x_samples, y_rawK, y_q, y_words, y_dw, y_tf, y_cw, y_x, y_x2, y_h, y_v, y_y, y_z, y_u, y_cp, y_oldH, y_encSlot, y_encSign, y_R, y_r, y_a, y_ao) :=
  ⟨P, N, T, c, S, _, _, _, _, _, _, _, _, _, _, _, _, _, _, _, _, _, _, _, _, _, _, _, _, _, _, _, _, _, _, _, _, _, _, _, _, _, _, _, _, _, _, _, _, _, _, _, _, _, _, _, _, rfl, rfl, hA, hS⟩
theorem sp_two {Q : Nat → Prop} (h0 : Q 0) (h1 : Q 1) : ∀ sd, sd < 2 → Q sd := by
  intro sd h
  have : sd = 0 ∨ sd = 1 := by omega
  rcases this with rfl | rfl
  · exact h0
  · exact h1
/-! the start -/
theorem sp_cl3 (w : Int32) {lo hi : Nat} (h : lo ≤ hi) (hh : hi < 2 ^ 31) : ∃ L, lo ≤ L ∧ L ≤ hi ∧ ((¬ nI lo ≤ w ∧ L = lo) ∨ (nI lo ≤ w ∧ w ≤ nI hi ∧ w = nI L) ∨ (nI lo ≤ w ∧ ¬ w ≤ nI hi ∧ L = hi)) := by
  by_cases a : nI lo ≤ w
  · by_cases b : w ≤ nI hi
    · have p : ¬ w < 0 := fun z => by
        have q := Int32.lt_of_le_of_lt a z
        exact nI_pos (by omega) q
      obtain ⟨j, hj, rfl⟩ := nI_of p
      exact ⟨j, (nI_leI (by omega) hj).mp a, (nI_leI hj hh).mp b, Or.inr (Or.inl ⟨a, b, rfl⟩)⟩
    · exact ⟨hi, h, Nat.le_refl _, Or.inr (Or.inr ⟨a, b, rfl⟩)⟩
  · exact ⟨lo, Nat.le_refl _, h, Or.inl ⟨a, rfl⟩⟩
theorem sx_cl3 {post : Int32 → Prop} {w : Int32} {lo hi L : Nat} (h : (¬ nI lo ≤ w ∧ L = lo) ∨ (nI lo ≤ w ∧ w ≤ nI hi ∧ w = nI L) ∨ (nI lo ≤ w ∧ ¬ w ≤ nI hi ∧ L = hi)) (hp : post (nI L)) : wpX_clamp post w.toInt64 (nI lo) (nI hi) := by
  unfold wpX_clamp
  rw [Int32.toInt64_le, Int32.toInt64_le, Int32.toInt32_toInt64]
  rcases h with ⟨a, e⟩ | ⟨a, b, e⟩ | ⟨a, b, e⟩
  · subst e
    exact br_f a hp
  · rw [e] at a b ⊢
    exact br_t a (br_t b hp)
  · subst e
    exact br_t a (br_f b hp)
theorem sy_i257 {post : SY → Prop} {p0 p1 : Int32} {L : Nat} (h : (¬ nI 2 ≤ p0 ∧ L = 2) ∨ (nI 2 ≤ p0 ∧ p0 ≤ nI 6 ∧ p0 = nI L) ∨ (nI 2 ≤ p0 ∧ ¬ p0 ≤ nI 6 ∧ L = 6))
    (hp : wY_init_257 post p1 (nI L) 0 0 0 0 0 (fun _ => 0) (fun _ => 0) (fun _ => 0) (fun _ => 0) (fun _ => 0) (fun _ => 0) (fun _ => 0) (fun _ => 0) (fun _ => 0) (fun _ => 0) (fun _ => 0) (fun _ => 0) (fun _ => 0) (fun _ => 0) (fun _ => 0) (fun _ => 0) (fun _ => 0) (fun _ => 0) (fun _ => 0) (fun _ => 0) (fun _ => 0) (fun _ => 0) (fun _ => 0) (fun _ => 0) (fun _ => 0) (fun _ => 0) (fun _ => 0) (fun _ => 0) (fun _ => 0) (fun _ => 0)) : wpY_init post p0 p1 := by
  rcases h with ⟨a, e⟩ | ⟨a, b, e⟩ | ⟨a, b, e⟩
  · subst e
    exact br_f a (br_t (by decide) hp)
  · rw [e] at a b ⊢
    exact br_t a (br_t b hp)
  · subst e
    exact br_t a (br_f b hp)
theorem sy_i287 {y_cnt y_cur : Int32} {y_kq y_fg y_mem y_hist y_out y_fld y_fc y_made y_s y_rawK y_q y_words y_dw y_tf y_cw y_x y_x2 y_h y_v y_y y_z y_u y_cp y_oldH y_encSlot y_encSign : Nat → Int32} {y_R y_r y_a y_ao : Nat → Int64} {post : SY → Prop} {p1 x3 : Int32} {y_P y_N y_T : Int32} {L : Nat} (h : (¬ nI 8 ≤ p1 ∧ L = 8) ∨ (nI 8 ≤ p1 ∧ p1 ≤ nI 32 ∧ p1 = nI L) ∨ (nI 8 ≤ p1 ∧ ¬ p1 ≤ nI 32 ∧ L = 32))
    (hp : wY_init_287 post (nI L) x3 y_N y_T y_cnt y_cur y_kq y_fg y_mem y_hist y_out y_fld y_fc y_made y_s y_rawK y_q y_words y_dw y_tf y_cw y_x y_x2 y_h y_v y_y y_z y_u y_cp y_oldH y_encSlot y_encSign y_R y_r y_a y_ao) : wY_init_257 post p1 x3 y_P y_N y_T y_cnt y_cur y_kq y_fg y_mem y_hist y_out y_fld y_fc y_made y_s y_rawK y_q y_words y_dw y_tf y_cw y_x y_x2 y_h y_v y_y y_z y_u y_cp y_oldH y_encSlot y_encSign y_R y_r y_a y_ao := by
  rcases h with ⟨a, e⟩ | ⟨a, b, e⟩ | ⟨a, b, e⟩
  · subst e
    exact br_f a (br_t (by decide) hp)
  · rw [e] at a b ⊢
    exact br_t a (br_t b hp)
  · subst e
    exact br_t a (br_f b hp)
theorem sp_neg : ∀ i, i < 8 → -sp_kq (15 - i) = sp_kq i := by decide +kernel
theorem sx_fl82 {x_pending : Int32} {x_encodedStream : Int64} {x_pulseLevels x_memory x_history x_output x_fields x_frameCounts x_reflections x_samples x_rawReflections x_target x_impulseResponse x_pastExcitation x_filteredPast x_chosenPulses x_trialPulses x_pulseSigns x_excitation x_receivedFields : Nat → Int32} {x_correlation x_predictor x_oldPredictor : Nat → Int64} {post : SX → Prop} {f1 f2 f3 : Int32} (h : ∀ kl, (∀ j, j < 16 → kl j = sp_kq j) → post (f1, f2, f3, x_pending, x_encodedStream, kl, x_pulseLevels, x_memory, x_history, x_output, x_fields, x_frameCounts, x_reflections, x_samples, x_rawReflections, x_correlation, x_predictor, x_oldPredictor, x_target, x_impulseResponse, x_pastExcitation, x_filteredPast, x_chosenPulses, x_trialPulses, x_pulseSigns, x_excitation, x_receivedFields)) :
    ∀ d i kl, i + d = 8 → (∀ j, 8 ≤ j → j < 16 → kl j = sp_kq j) → (∀ j, j < i → kl j = sp_kq j) → wX_fillReflectionLevels_82 post f1 f2 f3 x_pending x_encodedStream (d + 1) (nI i) kl x_pulseLevels x_memory x_history x_output x_fields x_frameCounts x_reflections x_samples x_rawReflections x_correlation x_predictor x_oldPredictor x_target x_impulseResponse x_pastExcitation x_filteredPast x_chosenPulses x_trialPulses x_pulseSigns x_excitation x_receivedFields := by
  intro d
  induction d with
  | zero =>
    intro i kl hi h8 hk
    obtain rfl : i = 8 := by omega
    exact br_t (nI_le (a := 8) (by omega) (by omega)) (h kl (fun j hj => by
      by_cases c : 8 ≤ j
      · exact h8 j c hj
      · exact hk j (by omega)))
  | succ d ih =>
    intro i kl hi h8 hk
    have e : (15 : Int32) - nI i = nI (15 - i) := pk_sub (a := 15) (by omega)
    refine br_f (nI_ge (b := 8) (by omega) (by omega)) ⟨pk_in (15 - i) 16 (by omega) e, vp_in_nI (by omega) (by omega), nm_r (e' := upd kl i (sp_kq i)) ?_ (nm_r (nI_1 i) (ih (i + 1) _ (by omega) (fun j h1 h2 => ?_) (fun j hj => ?_)))⟩
    · rw [e, nI_clamp (n := 15 - i) (by omega), nI_clamp (by omega), h8 (15 - i) (by omega) (by omega), sp_neg i (by omega)]
    · rw [pk_un (by omega)]
      exact h8 j h1 h2
    · by_cases c : j = i
      · subst c
        rw [pk_us]
      · rw [pk_un c]
        exact hk j (by omega)
theorem sp_k8 : ∀ j, j < 16 → 8 ≤ j → upd (upd (upd (upd (upd (upd (upd (upd (fun _ => 0) 8 3277) 9 9011) 10 14746) 11 19661) 12 23757) 13 27034) 14 29491) 15 31130 j = sp_kq j := by decide +kernel
theorem sp_k16 : ∀ j, j < 16 → upd (upd (upd (upd (upd (upd (upd (upd (upd (upd (upd (upd (upd (upd (upd (upd (fun _ => 0) 0 (-31130)) 1 (-29491)) 2 (-27034)) 3 (-23757)) 4 (-19661)) 5 (-14746)) 6 (-9011)) 7 (-3277)) 8 3277) 9 9011) 10 14746) 11 19661) 12 23757) 13 27034) 14 29491) 15 31130 j = sp_kq j := by decide +kernel
theorem sp_f16 : ∀ j, j < 16 → upd (upd (upd (upd (upd (upd (upd (upd (upd (upd (upd (upd (upd (upd (upd (upd (fun _ => 0) 0 0) 1 16) 2 23) 3 32) 4 45) 5 64) 6 91) 7 128) 8 181) 9 256) 10 362) 11 512) 12 724) 13 1024) 14 1448) 15 2048 j = sp_fg j := by decide +kernel
theorem i_vc0 (k0 : Int32) (k1 : Int32) : wpX_init (fun u => wpY_init (fun v => i_Rel 2 u v) k0 k1) k0 k1 := by
  obtain ⟨P, hP2, hP, cP⟩ := sp_cl3 k0 (lo := 2) (hi := 6) (by omega) (by omega)
  obtain ⟨L, hL8, hL, cL⟩ := sp_cl3 k1 (lo := 8) (hi := 32) (by omega) (by omega)
  have er : nI L - nI L / 4 * 4 = nI (L % 4) := pk_rem (d := 4) (by omega) (by omega) (by omega)
  have eN : nI L - (nI L - nI L / 4 * 4) = nI (4 * (L / 4)) := by
    rw [er, pk_sub (by omega), show L - L % 4 = 4 * (L / 4) from by omega]
  have eT : nI L / 4 = nI (L / 4) := pk_div (d := 4) (by omega) (by omega) (by omega)
  have eT' : nI (4 * (L / 4)) / 4 = nI (L / 4) := by
    rw [show nI (4 * (L / 4)) / 4 = nI (4 * (L / 4) / 4) from pk_div (d := 4) (by omega) (by omega) (by omega), show 4 * (L / 4) / 4 = L / 4 from by omega]
  unfold wpX_init
  refine sx_cl3 (lo := 8) (hi := 32) cL (sx_cl3 (lo := 2) (hi := 6) cP ⟨by decide, nm_r eN ⟨by decide, nm_r eT ?_⟩⟩)
  unfold wpX_fillReflectionLevels
  dsimp only
  refine nm_e (nm_e (nm_e (nm_e (nm_e (nm_e (nm_e (nm_e (Exists.intro (8 + 1) (sx_fl82 (fun kl hkl => ?_) 8 0 _ (by omega) (fun j h8 h16 => sp_k8 j h16 h8) (fun j hj => absurd hj (by omega)))))))))))
  unfold wpX_fillPulseLevels
  dsimp only
  refine nm_e (nm_e (nm_e (nm_e (nm_e (nm_e (nm_e (nm_e (nm_e (nm_e (nm_e (nm_e (nm_e (nm_e (nm_e (nm_e ?_)))))))))))))))
  refine sy_i257 cP (sy_i287 cL ⟨by decide, nm_r eN ⟨by decide, nm_r eT' ?_⟩⟩)
  refine nm_e (nm_e (nm_e (nm_e (nm_e (nm_e (nm_e (nm_e (nm_e (nm_e (nm_e (nm_e (nm_e (nm_e (nm_e (nm_e ?_)))))))))))))))
  refine nm_e (nm_e (nm_e (nm_e (nm_e (nm_e (nm_e (nm_e (nm_e (nm_e (nm_e (nm_e (nm_e (nm_e (nm_e (nm_e ?_)))))))))))))))
  refine sp_mk (c := 0) (S := 0) ⟨hP2, hP, rfl, by omega, by omega, by omega, by omega, fun _ => (by decide : -32768 ≤ (0 : Int32).toInt ∧ (0 : Int32).toInt ≤ 32767), hkl, sp_k16, sp_f16, sp_f16, fun _ _ => rfl, fun j _ => ?_⟩ (fun sd hsd => ⟨fun _ _ => rfl, fun _ _ _ => rfl, fun _ _ => rfl, fun _ _ => rfl, rfl, Or.inl ⟨rfl, fun _ _ => rfl⟩⟩)
  rw [Nat.zero_shiftRight]
  rfl
end
section
/-! the owed statements, the readers first -/
theorem sx_sideN {post : Int32 → Prop} {p : Int32} (h : p < 0) (hp : post 0) : wpX_isSide post p := by
  refine br_f (fun e => ?_) (br_f (fun e => ?_) hp)
  · rw [e] at h
    exact absurd h (by decide)
  · rw [e] at h
    exact absurd h (by decide)
theorem sx_sideB {post : Int32 → Prop} {a : Nat} (ha : 2 ≤ a) (h31 : a < 2 ^ 31) (hp : post 0) : wpX_isSide post (nI a) :=
  br_f (fun e => by
    have := (nI_eq (b := 0) h31 (by omega)).mp e
    omega) (br_f (fun e => by
    have := (nI_eq (b := 1) h31 (by omega)).mp e
    omega) hp)
theorem sx_sideO {post : Int32 → Prop} {a : Nat} (ha : a < 2) (hp : post 1) : wpX_isSide post (nI a) := by
  have : a = 0 ∨ a = 1 := by omega
  rcases this with rfl | rfl
  · exact br_t rfl hp
  · exact br_f (by decide) (br_t rfl hp)
theorem sp_ge1 {x : Int32} (h : ¬ x < 1) : ∃ m : Nat, 1 ≤ m ∧ m < 2 ^ 31 ∧ x = nI m := by
  have p : ¬ x < 0 := fun z => h (Int32.lt_trans z (by decide))
  obtain ⟨m, hm, rfl⟩ := nI_of p
  refine ⟨m, ?_, hm, rfl⟩
  by_cases z : m = 0
  · subst z
    exact absurd (show nI 0 < 1 from by decide) h
  · omega
theorem i_vc_getOrder {k : Nat} {u : SX} {v : SY} (I : i_Rel k u v) (hk : k + 5 ≤ 2562) : wpX_getOrder (fun r => wpY_getOrder (fun r' => r' = r ∧ i_Rel (k + 5) u v) v) u := by
  have J : i_Rel (k + 5) u v := I
  obtain ⟨P, N, T, c, S, x_reflectionLevels, x_pulseLevels, x_memory, x_history, x_output, x_fields, x_frameCounts, x_reflections, x_samples, x_rawReflections, x_target, x_impulseResponse, x_pastExcitation, x_filteredPast, x_chosenPulses, x_trialPulses, x_pulseSigns, x_excitation, x_receivedFields, x_correlation, x_predictor, x_oldPredictor, y_cur, y_kq, y_fg, y_mem, y_hist, y_out, y_fld, y_fc, y_made, y_rawK, y_q, y_words, y_dw, y_tf, y_cw, y_x, y_x2, y_h, y_v, y_y, y_z, y_u, y_cp, y_oldH, y_encSlot, y_encSign, y_R, y_r, y_a, y_ao, rfl, rfl, hA, hS⟩ := I
  exact ⟨rfl, J⟩
theorem i_vc_getFrameLength {k : Nat} {u : SX} {v : SY} (I : i_Rel k u v) (hk : k + 5 ≤ 2562) : wpX_getFrameLength (fun r => wpY_getFrameLength (fun r' => r' = r ∧ i_Rel (k + 5) u v) v) u := by
  have J : i_Rel (k + 5) u v := I
  obtain ⟨P, N, T, c, S, x_reflectionLevels, x_pulseLevels, x_memory, x_history, x_output, x_fields, x_frameCounts, x_reflections, x_samples, x_rawReflections, x_target, x_impulseResponse, x_pastExcitation, x_filteredPast, x_chosenPulses, x_trialPulses, x_pulseSigns, x_excitation, x_receivedFields, x_correlation, x_predictor, x_oldPredictor, y_cur, y_kq, y_fg, y_mem, y_hist, y_out, y_fld, y_fc, y_made, y_rawK, y_q, y_words, y_dw, y_tf, y_cw, y_x, y_x2, y_h, y_v, y_y, y_z, y_u, y_cp, y_oldH, y_encSlot, y_encSign, y_R, y_r, y_a, y_ao, rfl, rfl, hA, hS⟩ := I
  exact ⟨rfl, J⟩
theorem i_vc_getBitCount {k : Nat} {u : SX} {v : SY} (I : i_Rel k u v) (hk : k + 5 ≤ 2562) : wpX_getBitCount (fun r => wpY_getBitCount (fun r' => r' = r ∧ i_Rel (k + 5) u v) v) u := by
  have J : i_Rel (k + 5) u v := I
  obtain ⟨P, N, T, c, S, x_reflectionLevels, x_pulseLevels, x_memory, x_history, x_output, x_fields, x_frameCounts, x_reflections, x_samples, x_rawReflections, x_target, x_impulseResponse, x_pastExcitation, x_filteredPast, x_chosenPulses, x_trialPulses, x_pulseSigns, x_excitation, x_receivedFields, x_correlation, x_predictor, x_oldPredictor, y_cur, y_kq, y_fg, y_mem, y_hist, y_out, y_fld, y_fc, y_made, y_rawK, y_q, y_words, y_dw, y_tf, y_cw, y_x, y_x2, y_h, y_v, y_y, y_z, y_u, y_cp, y_oldH, y_encSlot, y_encSign, y_R, y_r, y_a, y_ao, rfl, rfl, hA, hS⟩ := I
  exact ⟨rfl, J⟩
theorem i_vc_getPending {k : Nat} {u : SX} {v : SY} (I : i_Rel k u v) (hk : k + 5 ≤ 2562) : wpX_getPending (fun r => wpY_getPending (fun r' => r' = r ∧ i_Rel (k + 5) u v) v) u := by
  have J : i_Rel (k + 5) u v := I
  obtain ⟨P, N, T, c, S, x_reflectionLevels, x_pulseLevels, x_memory, x_history, x_output, x_fields, x_frameCounts, x_reflections, x_samples, x_rawReflections, x_target, x_impulseResponse, x_pastExcitation, x_filteredPast, x_chosenPulses, x_trialPulses, x_pulseSigns, x_excitation, x_receivedFields, x_correlation, x_predictor, x_oldPredictor, y_cur, y_kq, y_fg, y_mem, y_hist, y_out, y_fld, y_fc, y_made, y_rawK, y_q, y_words, y_dw, y_tf, y_cw, y_x, y_x2, y_h, y_v, y_y, y_z, y_u, y_cp, y_oldH, y_encSlot, y_encSign, y_R, y_r, y_a, y_ao, rfl, rfl, hA, hS⟩ := I
  exact ⟨rfl, J⟩
theorem i_vc_getWord {k : Nat} {u : SX} {v : SY} (I : i_Rel k u v) (hk : k + 5 ≤ 2562) (v1 : Int32) : wpX_getWord (fun r => wpY_getWord (fun r' => r' = r ∧ i_Rel (k + 5) u v) v v1) u v1 := by
  have J : i_Rel (k + 5) u v := I
  obtain ⟨P, N, T, c, S, x_reflectionLevels, x_pulseLevels, x_memory, x_history, x_output, x_fields, x_frameCounts, x_reflections, x_samples, x_rawReflections, x_target, x_impulseResponse, x_pastExcitation, x_filteredPast, x_chosenPulses, x_trialPulses, x_pulseSigns, x_excitation, x_receivedFields, x_correlation, x_predictor, x_oldPredictor, y_cur, y_kq, y_fg, y_mem, y_hist, y_out, y_fld, y_fc, y_made, y_rawK, y_q, y_words, y_dw, y_tf, y_cw, y_x, y_x2, y_h, y_v, y_y, y_z, y_u, y_cp, y_oldH, y_encSlot, y_encSign, y_R, y_r, y_a, y_ao, rfl, rfl, hA, hS⟩ := I
  obtain ⟨hP2, hP, hNT, hT2, hT, hc, hSb, hs, hkx, hky, hgx, hgy, hraw, hw⟩ := hA
  by_cases n1 : v1 < 0
  · exact br_t n1 (br_t n1 ⟨rfl, J⟩)
  · obtain ⟨i, hi, rfl⟩ := nI_of n1
    by_cases c4 : i < 4
    · refine br_f n1 (br_t (nI_lt (b := 4) c4 (by omega)) (br_f n1 (br_t (nI_le (b := 3) (by omega) (by omega)) ⟨vp_in_nI c4 (by omega), ?_, J⟩)))
      rw [nI_clamp hi, hw i c4, show (16 : Int32) * nI i = nI (16 * i) from pk_mul 16 i, show (48 : Int32) - nI (16 * i) = nI (48 - 16 * i) from pk_sub (a := 48) (by omega), sp_word hSb c4 rfl]
    · exact br_f n1 (br_f (nI_nlt (b := 4) (by omega) hi) (br_f n1 (br_f (nI_ge (a := 3) (by omega) hi) ⟨rfl, J⟩)))
theorem i_vc_getRawReflection {k : Nat} {u : SX} {v : SY} (I : i_Rel k u v) (hk : k + 5 ≤ 2562) (v1 : Int32) : wpX_getRawReflection (fun r => wpY_getRawReflection (fun r' => r' = r ∧ i_Rel (k + 5) u v) v v1) u v1 := by
  have J : i_Rel (k + 5) u v := I
  obtain ⟨P, N, T, c, S, x_reflectionLevels, x_pulseLevels, x_memory, x_history, x_output, x_fields, x_frameCounts, x_reflections, x_samples, x_rawReflections, x_target, x_impulseResponse, x_pastExcitation, x_filteredPast, x_chosenPulses, x_trialPulses, x_pulseSigns, x_excitation, x_receivedFields, x_correlation, x_predictor, x_oldPredictor, y_cur, y_kq, y_fg, y_mem, y_hist, y_out, y_fld, y_fc, y_made, y_rawK, y_q, y_words, y_dw, y_tf, y_cw, y_x, y_x2, y_h, y_v, y_y, y_z, y_u, y_cp, y_oldH, y_encSlot, y_encSign, y_R, y_r, y_a, y_ao, rfl, rfl, hA, hS⟩ := I
  obtain ⟨hP2, hP, hNT, hT2, hT, hc, hSb, hs, hkx, hky, hgx, hgy, hraw, hw⟩ := hA
  by_cases n1 : v1 < 1
  · exact br_t n1 (br_t n1 ⟨rfl, J⟩)
  · obtain ⟨m, m1, hm, rfl⟩ := sp_ge1 n1
    by_cases cm : m ≤ P
    · have e : nI m - 1 = nI (m - 1) := pk_sub (b := 1) m1
      refine br_f n1 (br_t (nI_le cm (by omega)) ⟨pk_in (m - 1) 6 (by omega) e, br_f n1 (br_t (nI_le cm (by omega)) ⟨vp_in_nI (by omega) (by omega), ?_, J⟩)⟩)
      rw [e, nI_clamp (by omega), nI_clamp (by omega), hraw (m - 1) (by omega), show m - 1 + 1 = m from by omega]
    · exact br_f n1 (br_f (nI_ge (by omega) hm) (br_f n1 (br_f (nI_ge (by omega) hm) ⟨rfl, J⟩)))
theorem i_vc_getReflection {k : Nat} {u : SX} {v : SY} (I : i_Rel k u v) (hk : k + 5 ≤ 2562) (v1 : Int32) (v2 : Int32) : wpX_getReflection (fun r => wpY_getReflection (fun r' => r' = r ∧ i_Rel (k + 5) u v) v v1 v2) u v1 v2 := by
  have J : i_Rel (k + 5) u v := I
  obtain ⟨P, N, T, c, S, x_reflectionLevels, x_pulseLevels, x_memory, x_history, x_output, x_fields, x_frameCounts, x_reflections, x_samples, x_rawReflections, x_target, x_impulseResponse, x_pastExcitation, x_filteredPast, x_chosenPulses, x_trialPulses, x_pulseSigns, x_excitation, x_receivedFields, x_correlation, x_predictor, x_oldPredictor, y_cur, y_kq, y_fg, y_mem, y_hist, y_out, y_fld, y_fc, y_made, y_rawK, y_q, y_words, y_dw, y_tf, y_cw, y_x, y_x2, y_h, y_v, y_y, y_z, y_u, y_cp, y_oldH, y_encSlot, y_encSign, y_R, y_r, y_a, y_ao, rfl, rfl, hA, hS⟩ := I
  obtain ⟨hP2, hP, hNT, hT2, hT, hc, hSb, hs, hkx, hky, hgx, hgy, hraw, hw⟩ := hA
  unfold wpX_getReflection
  dsimp only
  by_cases n1 : v1 < 0
  · exact sx_sideN n1 (br_t rfl (br_t n1 ⟨rfl, J⟩))
  · obtain ⟨a, ha, rfl⟩ := nI_of n1
    by_cases c : a < 2
    · have s1 : ¬ (1 : Int32) < nI a := nI_nlt (a := 1) (by omega) (by omega)
      obtain ⟨sm, sh, so, sf, sc, sr⟩ := hS a c
      refine sx_sideO c (br_f (by decide) ?_)
      by_cases n2 : v2 < 1
      · exact br_t n2 (br_f n1 (br_f s1 (br_t n2 ⟨rfl, J⟩)))
      · obtain ⟨m, m1, hm, rfl⟩ := sp_ge1 n2
        by_cases cm : m ≤ P
        · have e : nI a * 6 + nI m - 1 = nI (a * 6 + (m - 1)) := by
            rw [show nI a * 6 = nI (a * 6) from pk_mul a 6, nI_add, show a * 6 + (m - 1) = a * 6 + m - 1 from by omega]
            exact pk_sub (b := 1) (by omega)
          have e2 : nI a * 17 + 10 + nI m = nI (a * 17 + 11 + (m - 1)) := by
            rw [show nI a * 17 = nI (a * 17) from pk_mul a 17, show nI (a * 17) + 10 = nI (a * 17 + 10) from nI_add _ 10, nI_add, show a * 17 + 11 + (m - 1) = a * 17 + 10 + m from by omega]
          refine br_f n2 (br_t (nI_le cm (by omega)) ⟨pk_in (a * 6 + (m - 1)) 12 (by omega) e, br_f n1 (br_f s1 (br_f n2 (br_t (nI_le cm (by omega)) ⟨vp_in_nI c (by omega), ?_⟩)))⟩)
          rw [nI_clamp ha]
          rcases sr with ⟨z, zr⟩ | ⟨z, zr⟩
          · refine br_t z ⟨?_, J⟩
            rw [e, nI_clamp (by omega), zr (m - 1) (by omega)]
          · obtain ⟨q, hq, fq, rq⟩ := zr (m - 1) (by omega)
            have fe : y_fld (nI a * 17 + 10 + nI m).toNatClampNeg = nI q := by
              rw [e2, nI_clamp (by omega)]
              exact fq
            refine br_f z ⟨pk_in (a * 17 + 11 + (m - 1)) 34 (by omega) e2, pk_in q 16 hq fe, ?_, J⟩
            rw [fe, e, nI_clamp (n := q) (by omega), nI_clamp (by omega), rq, hky q hq]
        · exact br_f n2 (br_f (nI_ge (by omega) hm) (br_f n1 (br_f s1 (br_f n2 (br_f (nI_ge (by omega) hm) ⟨rfl, J⟩)))))
    · exact sx_sideB (by omega) ha (br_t rfl (br_f n1 (br_t (nI_lt (a := 1) (by omega) ha) ⟨rfl, J⟩)))
theorem i_vc_getField {k : Nat} {u : SX} {v : SY} (I : i_Rel k u v) (hk : k + 5 ≤ 2562) (v1 : Int32) (v2 : Int32) : wpX_getField (fun r => wpY_getField (fun r' => r' = r ∧ i_Rel (k + 5) u v) v v1 v2) u v1 v2 := by
  have J : i_Rel (k + 5) u v := I
  obtain ⟨P, N, T, c, S, x_reflectionLevels, x_pulseLevels, x_memory, x_history, x_output, x_fields, x_frameCounts, x_reflections, x_samples, x_rawReflections, x_target, x_impulseResponse, x_pastExcitation, x_filteredPast, x_chosenPulses, x_trialPulses, x_pulseSigns, x_excitation, x_receivedFields, x_correlation, x_predictor, x_oldPredictor, y_cur, y_kq, y_fg, y_mem, y_hist, y_out, y_fld, y_fc, y_made, y_rawK, y_q, y_words, y_dw, y_tf, y_cw, y_x, y_x2, y_h, y_v, y_y, y_z, y_u, y_cp, y_oldH, y_encSlot, y_encSign, y_R, y_r, y_a, y_ao, rfl, rfl, hA, hS⟩ := I
  obtain ⟨hP2, hP, hNT, hT2, hT, hc, hSb, hs, hkx, hky, hgx, hgy, hraw, hw⟩ := hA
  have eP : (11 : Int32) + nI P = nI (11 + P) := nI_add 11 P
  unfold wpX_getField
  dsimp only
  by_cases n1 : v1 < 0
  · exact sx_sideN n1 (br_t rfl (br_t n1 ⟨rfl, J⟩))
  · obtain ⟨a, ha, rfl⟩ := nI_of n1
    by_cases c : a < 2
    · have s1 : ¬ (1 : Int32) < nI a := nI_nlt (a := 1) (by omega) (by omega)
      obtain ⟨sm, sh, so, sf, sc, sr⟩ := hS a c
      refine sx_sideO c (br_f (by decide) ?_)
      by_cases n2 : v2 < 0
      · exact br_t n2 (br_f n1 (br_f s1 (br_t n2 ⟨rfl, J⟩)))
      · obtain ⟨m, hm, rfl⟩ := nI_of n2
        by_cases cm : m < 11 + P
        · have e : nI a * 17 + nI m = nI (a * 17 + m) := by
            rw [show nI a * 17 = nI (a * 17) from pk_mul a 17, nI_add]
          have lt : nI m < 11 + nI P := by
            rw [eP]
            exact nI_lt cm (by omega)
          refine br_f n2 (br_t lt ⟨pk_in (a * 17 + m) 34 (by omega) e, br_f n1 (br_f s1 (br_f n2 (br_f (nI_nlt (a := 16) (by omega) (by omega)) (br_t lt ⟨pk_in (a * 17 + m) 34 (by omega) e, ?_, J⟩))))⟩)
          rw [e, nI_clamp (by omega)]
          exact (sf m cm).symm
        · have nl : ¬ nI m < 11 + nI P := by
            rw [eP]
            exact nI_nlt (by omega) hm
          exact br_f n2 (br_f nl (br_f n1 (br_f s1 (br_f n2 (br_c (fun _ => ⟨rfl, J⟩) (fun _ => br_f nl ⟨rfl, J⟩))))))
    · exact sx_sideB (by omega) ha (br_t rfl (br_f n1 (br_t (nI_lt (a := 1) (by omega) ha) ⟨rfl, J⟩)))
theorem i_vc_getOutput {k : Nat} {u : SX} {v : SY} (I : i_Rel k u v) (hk : k + 5 ≤ 2562) (v1 : Int32) (v2 : Int32) : wpX_getOutput (fun r => wpY_getOutput (fun r' => r' = r ∧ i_Rel (k + 5) u v) v v1 v2) u v1 v2 := by
  have J : i_Rel (k + 5) u v := I
  obtain ⟨P, N, T, c, S, x_reflectionLevels, x_pulseLevels, x_memory, x_history, x_output, x_fields, x_frameCounts, x_reflections, x_samples, x_rawReflections, x_target, x_impulseResponse, x_pastExcitation, x_filteredPast, x_chosenPulses, x_trialPulses, x_pulseSigns, x_excitation, x_receivedFields, x_correlation, x_predictor, x_oldPredictor, y_cur, y_kq, y_fg, y_mem, y_hist, y_out, y_fld, y_fc, y_made, y_rawK, y_q, y_words, y_dw, y_tf, y_cw, y_x, y_x2, y_h, y_v, y_y, y_z, y_u, y_cp, y_oldH, y_encSlot, y_encSign, y_R, y_r, y_a, y_ao, rfl, rfl, hA, hS⟩ := I
  obtain ⟨hP2, hP, hNT, hT2, hT, hc, hSb, hs, hkx, hky, hgx, hgy, hraw, hw⟩ := hA
  unfold wpX_getOutput
  dsimp only
  by_cases n1 : v1 < 0
  · exact sx_sideN n1 (br_t rfl (br_t n1 ⟨rfl, J⟩))
  · obtain ⟨a, ha, rfl⟩ := nI_of n1
    by_cases c : a < 2
    · have s1 : ¬ (1 : Int32) < nI a := nI_nlt (a := 1) (by omega) (by omega)
      obtain ⟨sm, sh, so, sf, sc, sr⟩ := hS a c
      refine sx_sideO c (br_f (by decide) ?_)
      by_cases n2 : v2 < 0
      · exact br_t n2 (br_f n1 (br_f s1 (br_t n2 ⟨rfl, J⟩)))
      · obtain ⟨m, hm, rfl⟩ := nI_of n2
        by_cases cm : m < N
        · have e : nI a * 32 + nI m = nI (a * 32 + m) := by
            rw [show nI a * 32 = nI (a * 32) from pk_mul a 32, nI_add]
          refine br_f n2 (br_t (nI_lt cm (by omega)) ⟨pk_in (a * 32 + m) 64 (by omega) e, br_f n1 (br_f s1 (br_f n2 (br_t (nI_lt cm (by omega)) ⟨pk_in (a * 32 + m) 64 (by omega) e, ?_, J⟩)))⟩)
          rw [e, nI_clamp (by omega)]
          exact (so m cm).symm
        · exact br_f n2 (br_f (nI_nlt (by omega) hm) (br_f n1 (br_f s1 (br_f n2 (br_f (nI_nlt (by omega) hm) ⟨rfl, J⟩)))))
    · exact sx_sideB (by omega) ha (br_t rfl (br_f n1 (br_t (nI_lt (a := 1) (by omega) ha) ⟨rfl, J⟩)))
theorem i_vc_getExcitation {k : Nat} {u : SX} {v : SY} (I : i_Rel k u v) (hk : k + 5 ≤ 2562) (v1 : Int32) (v2 : Int32) : wpX_getExcitation (fun r => wpY_getExcitation (fun r' => r' = r ∧ i_Rel (k + 5) u v) v v1 v2) u v1 v2 := by
  have J : i_Rel (k + 5) u v := I
  obtain ⟨P, N, T, c, S, x_reflectionLevels, x_pulseLevels, x_memory, x_history, x_output, x_fields, x_frameCounts, x_reflections, x_samples, x_rawReflections, x_target, x_impulseResponse, x_pastExcitation, x_filteredPast, x_chosenPulses, x_trialPulses, x_pulseSigns, x_excitation, x_receivedFields, x_correlation, x_predictor, x_oldPredictor, y_cur, y_kq, y_fg, y_mem, y_hist, y_out, y_fld, y_fc, y_made, y_rawK, y_q, y_words, y_dw, y_tf, y_cw, y_x, y_x2, y_h, y_v, y_y, y_z, y_u, y_cp, y_oldH, y_encSlot, y_encSign, y_R, y_r, y_a, y_ao, rfl, rfl, hA, hS⟩ := I
  obtain ⟨hP2, hP, hNT, hT2, hT, hc, hSb, hs, hkx, hky, hgx, hgy, hraw, hw⟩ := hA
  unfold wpX_getExcitation
  dsimp only
  by_cases n1 : v1 < 0
  · exact sx_sideN n1 (br_t rfl (br_t n1 ⟨rfl, J⟩))
  · obtain ⟨a, ha, rfl⟩ := nI_of n1
    by_cases c : a < 2
    · have s1 : ¬ (1 : Int32) < nI a := nI_nlt (a := 1) (by omega) (by omega)
      obtain ⟨sm, sh, so, sf, sc, sr⟩ := hS a c
      refine sx_sideO c (br_f (by decide) ?_)
      by_cases n2 : v2 < 1
      · exact br_t n2 (br_f n1 (br_f s1 (br_t n2 ⟨rfl, J⟩)))
      · obtain ⟨m, m1, hm, rfl⟩ := sp_ge1 n2
        by_cases cm : m ≤ 64
        · have e : nI a * 64 + nI m - 1 = nI (a * 64 + m - 1) := by
            rw [show nI a * 64 = nI (a * 64) from pk_mul a 64, nI_add]
            exact pk_sub (b := 1) (by omega)
          have e2 : nI a * 65 + nI m = nI (a * 65 + m) := by
            rw [show nI a * 65 = nI (a * 65) from pk_mul a 65, nI_add]
          refine br_f n2 (br_t (nI_le (b := 64) cm (by omega)) ⟨pk_in (a * 64 + m - 1) 128 (by omega) e, br_f n1 (br_f s1 (br_f n2 (br_t (nI_le (b := 64) cm (by omega)) ⟨pk_in (a * 65 + m) 130 (by omega) e2, ?_, J⟩)))⟩)
          rw [e, e2, nI_clamp (n := a * 64 + m - 1) (by omega), nI_clamp (by omega)]
          exact (sh m m1 cm).symm
        · exact br_f n2 (br_f (nI_ge (a := 64) (by omega) hm) (br_f n1 (br_f s1 (br_f n2 (br_f (nI_ge (a := 64) (by omega) hm) ⟨rfl, J⟩)))))
    · exact sx_sideB (by omega) ha (br_t rfl (br_f n1 (br_t (nI_lt (a := 1) (by omega) ha) ⟨rfl, J⟩)))
theorem i_vc_getMemory {k : Nat} {u : SX} {v : SY} (I : i_Rel k u v) (hk : k + 5 ≤ 2562) (v1 : Int32) (v2 : Int32) : wpX_getMemory (fun r => wpY_getMemory (fun r' => r' = r ∧ i_Rel (k + 5) u v) v v1 v2) u v1 v2 := by
  have J : i_Rel (k + 5) u v := I
  obtain ⟨P, N, T, c, S, x_reflectionLevels, x_pulseLevels, x_memory, x_history, x_output, x_fields, x_frameCounts, x_reflections, x_samples, x_rawReflections, x_target, x_impulseResponse, x_pastExcitation, x_filteredPast, x_chosenPulses, x_trialPulses, x_pulseSigns, x_excitation, x_receivedFields, x_correlation, x_predictor, x_oldPredictor, y_cur, y_kq, y_fg, y_mem, y_hist, y_out, y_fld, y_fc, y_made, y_rawK, y_q, y_words, y_dw, y_tf, y_cw, y_x, y_x2, y_h, y_v, y_y, y_z, y_u, y_cp, y_oldH, y_encSlot, y_encSign, y_R, y_r, y_a, y_ao, rfl, rfl, hA, hS⟩ := I
  obtain ⟨hP2, hP, hNT, hT2, hT, hc, hSb, hs, hkx, hky, hgx, hgy, hraw, hw⟩ := hA
  unfold wpX_getMemory
  dsimp only
  by_cases n1 : v1 < 0
  · exact sx_sideN n1 (br_t rfl (br_t n1 ⟨rfl, J⟩))
  · obtain ⟨a, ha, rfl⟩ := nI_of n1
    by_cases c : a < 2
    · have s1 : ¬ (1 : Int32) < nI a := nI_nlt (a := 1) (by omega) (by omega)
      obtain ⟨sm, sh, so, sf, sc, sr⟩ := hS a c
      refine sx_sideO c (br_f (by decide) ?_)
      by_cases n2 : v2 < 0
      · exact br_t n2 (br_f n1 (br_f s1 (br_t n2 ⟨rfl, J⟩)))
      · obtain ⟨m, hm, rfl⟩ := nI_of n2
        by_cases cm : m < P
        · have e : nI a * 6 + nI m = nI (a * 6 + m) := by
            rw [show nI a * 6 = nI (a * 6) from pk_mul a 6, nI_add]
          refine br_f n2 (br_t (nI_lt cm (by omega)) ⟨pk_in (a * 6 + m) 18 (by omega) e, br_f n1 (br_f s1 (br_f n2 (br_t (nI_lt cm (by omega)) ⟨pk_in (a * 6 + m) 24 (by omega) e, ?_, J⟩)))⟩)
          rw [e, nI_clamp (by omega)]
          exact (sm m cm).symm
        · exact br_f n2 (br_f (nI_nlt (by omega) hm) (br_f n1 (br_f s1 (br_f n2 (br_f (nI_nlt (by omega) hm) ⟨rfl, J⟩)))))
    · exact sx_sideB (by omega) ha (br_t rfl (br_f n1 (br_t (nI_lt (a := 1) (by omega) ha) ⟨rfl, J⟩)))
theorem i_vc_getFrameCount {k : Nat} {u : SX} {v : SY} (I : i_Rel k u v) (hk : k + 5 ≤ 2562) (v1 : Int32) : wpX_getFrameCount (fun r => wpY_getFrameCount (fun r' => r' = r ∧ i_Rel (k + 5) u v) v v1) u v1 := by
  have J : i_Rel (k + 5) u v := I
  obtain ⟨P, N, T, c, S, x_reflectionLevels, x_pulseLevels, x_memory, x_history, x_output, x_fields, x_frameCounts, x_reflections, x_samples, x_rawReflections, x_target, x_impulseResponse, x_pastExcitation, x_filteredPast, x_chosenPulses, x_trialPulses, x_pulseSigns, x_excitation, x_receivedFields, x_correlation, x_predictor, x_oldPredictor, y_cur, y_kq, y_fg, y_mem, y_hist, y_out, y_fld, y_fc, y_made, y_rawK, y_q, y_words, y_dw, y_tf, y_cw, y_x, y_x2, y_h, y_v, y_y, y_z, y_u, y_cp, y_oldH, y_encSlot, y_encSign, y_R, y_r, y_a, y_ao, rfl, rfl, hA, hS⟩ := I
  unfold wpX_getFrameCount
  dsimp only
  by_cases n1 : v1 < 0
  · exact sx_sideN n1 (br_t rfl (br_t n1 ⟨rfl, J⟩))
  · obtain ⟨a, ha, rfl⟩ := nI_of n1
    by_cases c : a < 2
    · obtain ⟨sm, sh, so, sf, sc, sr⟩ := hS a c
      refine sx_sideO c (br_f (by decide) ⟨vp_in_nI c (by omega), br_f n1 (br_t (nI_le (b := 1) (by omega) (by omega)) ⟨vp_in_nI c (by omega), ?_, J⟩)⟩)
      rw [nI_clamp ha]
      exact sc.symm
    · exact sx_sideB (by omega) ha (br_t rfl (br_f n1 (br_f (nI_ge (a := 1) (by omega) ha) ⟨rfl, J⟩)))
theorem i_vc_putSample {k : Nat} {u : SX} {v : SY} (I : i_Rel k u v) (hk : k + 5 ≤ 2562) (v1 : Int32) : wpX_putSample (fun r u' => wpY_putSample (fun r' v' => r' = r ∧ i_Rel (k + 5) u' v') v v1) u v1 := by
  have J : i_Rel (k + 5) u v := I
  obtain ⟨P, N, T, c, S, x_reflectionLevels, x_pulseLevels, x_memory, x_history, x_output, x_fields, x_frameCounts, x_reflections, x_samples, x_rawReflections, x_target, x_impulseResponse, x_pastExcitation, x_filteredPast, x_chosenPulses, x_trialPulses, x_pulseSigns, x_excitation, x_receivedFields, x_correlation, x_predictor, x_oldPredictor, y_cur, y_kq, y_fg, y_mem, y_hist, y_out, y_fld, y_fc, y_made, y_rawK, y_q, y_words, y_dw, y_tf, y_cw, y_x, y_x2, y_h, y_v, y_y, y_z, y_u, y_cp, y_oldH, y_encSlot, y_encSign, y_R, y_r, y_a, y_ao, rfl, rfl, hA, hS⟩ := I
  have hA0 := hA
  obtain ⟨hP2, hP, hNT, hT2, hT, hc, hSb, hs, hkx, hky, hgx, hgy, hraw, hw⟩ := hA
  by_cases cc : c < N
  · refine br_t (nI_lt cc (by omega)) (sx_satI ⟨vp_in_nI (by omega) (by omega), nm_e (nm_r (nI_1 c) (br_t (nI_lt cc (by omega)) (sy_sat rfl ⟨vp_in_nI (by omega) (by omega), nm_e (nm_r (nI_1 c) ⟨rfl, sp_mk ⟨hP2, hP, hNT, hT2, hT, cc, hSb, ?_, hkx, hky, hgx, hgy, hraw, hw⟩ hS⟩)⟩)))⟩)
    intro j
    by_cases e : j = (nI c).toNatClampNeg
    · subst e
      rw [pk_us]
      exact sp_sat_r _
    · rw [pk_un e]
      exact hs j
  · exact br_f (nI_nlt (by omega) (by omega)) (br_f (nI_nlt (by omega) (by omega)) ⟨rfl, J⟩)
end
section
/-! the owed statements of encodeFrame and decodeFrame -/
theorem fr_Sb {s b H : Nat → Int32} {N P T : Nat} (hP : P ≤ 6) (hT : 0 < T) (hT8 : T ≤ 8) : fr_S s b H N P T < 2 ^ 64 := by
  have h := sp_fs_b (q := fr_Q s N P) (P := P) (l := fr_L s b H N P) (ga := fr_G s b H N P) (gf := fr_GF s b H N P T) (sl := fr_SL s b H N P T) (sg := fr_SG s b H N P T) (fun m _ => fr_Qb) fr_Lb fr_Gb (fun t _ => Nat.lt_of_lt_of_le (fr_SLb hT) hT8) (fun t _ => fr_SGb) (fr_GFb hT)
  unfold fr_S
  rw [Nat.shiftLeft_eq]
  have q := Nat.mul_lt_mul_of_pos_right h (Nat.two_pow_pos (36 - 4 * P))
  rw [← Nat.pow_add, show 4 * P + 28 + (36 - 4 * P) = 64 from by omega] at q
  exact q
theorem i_vc_encodeFrame {k : Nat} {u : SX} {v : SY} (I : i_Rel k u v) (hk : k + 5 ≤ 2562) : wpX_encodeFrame (fun r u' => wpY_encodeFrame (fun r' v' => r' = r ∧ i_Rel (k + 5) u' v') v) u := by
  have J : i_Rel (k + 5) u v := I
  obtain ⟨P, N, T, c, S, x_reflectionLevels, x_pulseLevels, x_memory, x_history, x_output, x_fields, x_frameCounts, x_reflections, x_samples, x_rawReflections, x_target, x_impulseResponse, x_pastExcitation, x_filteredPast, x_chosenPulses, x_trialPulses, x_pulseSigns, x_excitation, x_receivedFields, x_correlation, x_predictor, x_oldPredictor, y_cur, y_kq, y_fg, y_mem, y_hist, y_out, y_fld, y_fc, y_made, y_rawK, y_q, y_words, y_dw, y_tf, y_cw, y_x, y_x2, y_h, y_v, y_y, y_z, y_u, y_cp, y_oldH, y_encSlot, y_encSign, y_R, y_r, y_a, y_ao, rfl, rfl, hA, hS⟩ := I
  obtain ⟨hP2, hP, hNT, hT2, hT, hc, hSb, hs, hkx, hky, hgx, hgy, hraw, hw⟩ := hA
  by_cases cc : c = N
  · subst cc
    have s0 := hS 0 (by omega)
    have s1 := hS 1 (by omega)
    obtain ⟨a1, a2, a3, a4, a5, a6⟩ := s0
    obtain ⟨b1, b2, b3, b4, b5, b6⟩ := s1
    refine sx_enc (s := x_samples) (b := fun j => x_memory (0 * 6 + j)) (H := fun j => x_history (0 * 64 + j - 1)) rfl hs hP2 hP hNT hT2 hT hkx hgx (fun j _ => rfl) (fun j _ _ => rfl) (fun raw co pr op F Rf M A tg ir pe fp tp cp ps ex g1 g2 g3 g4 g5 g6 g7 g8 g9 => ?_)
    refine sy_enc (s := x_samples) (b := fun j => x_memory (0 * 6 + j)) (H := fun j => x_history (0 * 64 + j - 1)) rfl hs hP2 hP hNT hT2 hT hky hgy (fun j hj => (a1 j hj).symm) (fun j h1 h2 => (a2 j h1 h2).symm) (fun cur raw' q W cw x x2 hh v y z u cp' oh es eg R r a ao F' M' A' k1 k2 k3 k4 k5 k6 k7 k8 => ?_)
    refine ⟨rfl, sp_mk (c := 0) ⟨hP2, hP, hNT, hT2, hT, by omega, fr_Sb hP (by omega) hT, hs, hkx, hky, hgx, hgy, fun j hj => ?_, k4⟩ (sp_two ⟨fun j hj => ?_, fun j h1 h2 => ?_, fun n hn => ?_, ?_, ?_, Or.inr ⟨?_, fun m hm => ⟨_, fr_Qb, k2.2.2.2.2.2 m hm, g4 m hm⟩⟩⟩ ⟨fun j hj => ?_, fun j h1 h2 => ?_, fun n hn => ?_, fun i hi => ?_, ?_, ?_⟩)⟩
    · rw [g1 j hj, k1 (j + 1) (by omega) (by omega)]
    · rw [g6 j hj, k5 j hj]
    · rw [g8 j h1 h2, k7 j h1 h2]
    · rw [sp_fo_in hn, sp_fo_in hn]
    · exact sp_FFe g2 k2
    · rw [pk_us, pk_us, a5]
    · rw [pk_us]
      decide
    · rw [g7 _ (by omega) (by omega), k6 _ (by omega) (by omega)]
      exact b1 j hj
    · rw [g9 _ (by omega), k8 _ (by omega)]
      exact b2 j h1 h2
    · rw [sp_fo_out (by omega), sp_fo_out (by omega)]
      exact b3 n hn
    · rw [g3 _ (by omega), k3 _ (by omega)]
      exact b4 i hi
    · rw [pk_un (by omega), pk_un (by omega)]
      exact b5
    · rw [pk_un (by omega)]
      rcases b6 with ⟨z, zr⟩ | ⟨z, zr⟩
      · exact Or.inl ⟨z, fun m hm => by rw [g5 _ (by omega)]; exact zr m hm⟩
      · refine Or.inr ⟨z, fun m hm => ?_⟩
        obtain ⟨q, hq, fq, rq⟩ := zr m hm
        exact ⟨q, hq, by rw [k3 _ (by omega)]; exact fq, by rw [g5 _ (by omega)]; exact rq⟩
  · exact br_f (nI_ge (by omega) (by omega)) (br_f (nI_ge (by omega) (by omega)) ⟨rfl, J⟩)
theorem i_vc_decodeFrame {k : Nat} {u : SX} {v : SY} (I : i_Rel k u v) (hk : k + 5 ≤ 2562) (v1 : Int32) (v2 : Int32) (v3 : Int32) (v4 : Int32) : wpX_decodeFrame (fun r u' => wpY_decodeFrame (fun r' v' => r' = r ∧ i_Rel (k + 5) u' v') v v1 v2 v3 v4) u v1 v2 v3 v4 := by
  have J : i_Rel (k + 5) u v := I
  obtain ⟨P, N, T, c, S, x_reflectionLevels, x_pulseLevels, x_memory, x_history, x_output, x_fields, x_frameCounts, x_reflections, x_samples, x_rawReflections, x_target, x_impulseResponse, x_pastExcitation, x_filteredPast, x_chosenPulses, x_trialPulses, x_pulseSigns, x_excitation, x_receivedFields, x_correlation, x_predictor, x_oldPredictor, y_cur, y_kq, y_fg, y_mem, y_hist, y_out, y_fld, y_fc, y_made, y_rawK, y_q, y_words, y_dw, y_tf, y_cw, y_x, y_x2, y_h, y_v, y_y, y_z, y_u, y_cp, y_oldH, y_encSlot, y_encSign, y_R, y_r, y_a, y_ao, rfl, rfl, hA, hS⟩ := I
  have hA0 := hA
  obtain ⟨hP2, hP, hNT, hT2, hT, hc, hSb, hs, hkx, hky, hgx, hgy, hraw, hw⟩ := hA
  have s0 := hS 0 (by omega)
  have s1 := hS 1 (by omega)
  obtain ⟨a1, a2, a3, a4, a5, a6⟩ := s0
  obtain ⟨b1, b2, b3, b4, b5, b6⟩ := s1
  refine sx_dec (b := fun j => x_memory (1 * 6 + j)) (H := fun j => x_history (1 * 64 + j - 1)) hP2 hP hNT hT2 hT rfl hkx hgx (fun j _ => rfl) (fun j _ _ => rfl) (fun hn rf => ?_) (fun hfit F Rf M A pe ps ex rf g2 g3 g4 g5 g6 g7 g8 g9 => ?_)
  · refine sy_dec (b := fun j => x_memory (1 * 6 + j)) (H := fun j => x_history (1 * 64 + j - 1)) hP2 hP hNT hT2 hT rfl hky hgy (fun j hj => (b1 j hj).symm) (fun j h1 h2 => (b2 j h1 h2).symm) (fun _ cur dw tf => ⟨rfl, sp_mk hA0 hS⟩) (fun hfit => absurd hfit hn)
  · refine sy_dec (b := fun j => x_memory (1 * 6 + j)) (H := fun j => x_history (1 * 64 + j - 1)) hP2 hP hNT hT2 hT rfl hky hgy (fun j hj => (b1 j hj).symm) (fun j h1 h2 => (b2 j h1 h2).symm) (fun hn => absurd hfit hn) (fun _ cur dw tf F' M' A' u oh cp cw v k2 k3 k5 k6 k7 k8 => ?_)
    refine ⟨rfl, sp_mk hA0 (sp_two ⟨fun j hj => ?_, fun j h1 h2 => ?_, fun n hn => ?_, fun i hi => ?_, ?_, ?_⟩ ⟨fun j hj => ?_, fun j h1 h2 => ?_, fun n hn => ?_, ?_, ?_, Or.inr ⟨?_, fun m hm => ⟨_, dr_Qb, k2.2.2.2.2.2 m hm, g4 m hm⟩⟩⟩)⟩
    · rw [g7 _ (by omega), k6 _ (by omega)]
      exact a1 j hj
    · rw [g9 _ (by omega), k8 _ (by omega)]
      exact a2 j h1 h2
    · rw [sp_fo_out (by omega), sp_fo_out (by omega)]
      exact a3 n hn
    · rw [g3 _ (by omega), k3 _ (by omega)]
      exact a4 i hi
    · rw [pk_un (by omega), pk_un (by omega)]
      exact a5
    · rw [pk_un (by omega)]
      rcases a6 with ⟨z, zr⟩ | ⟨z, zr⟩
      · exact Or.inl ⟨z, fun m hm => by rw [g5 _ (by omega)]; exact zr m hm⟩
      · refine Or.inr ⟨z, fun m hm => ?_⟩
        obtain ⟨q, hq, fq, rq⟩ := zr m hm
        exact ⟨q, hq, by rw [k3 _ (by omega)]; exact fq, by rw [g5 _ (by omega)]; exact rq⟩
    · rw [g6 j hj, k5 j hj]
    · rw [g8 j h1 h2, k7 j h1 h2]
    · rw [sp_fo_in hn, sp_fo_in hn]
    · exact sp_FFe g2 k2
    · rw [pk_us, pk_us, b5]
    · rw [pk_us]
      decide
end
