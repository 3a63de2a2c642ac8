/-! the bit frame: four words against one stream -/
theorem sp_sl : ∀ n, n < 32 → ((nI n &&& 31).toBitVec.smod 32).toNat = n := by decide +kernel
theorem sp_or (a b : Nat) : nI a ||| nI b = nI (a ||| b) := by
  apply Int32.toBitVec_inj.1
  show BitVec.ofNat 32 a ||| BitVec.ofNat 32 b = BitVec.ofNat 32 (a ||| b)
  apply BitVec.eq_of_getLsbD_eq
  intro i hi
  simp [hi]
theorem sp_1sh : ∀ k, k < 16 → (1 : Int32) <<< (nI k &&& 31) = nI (2 ^ k) := by decide +kernel
theorem sp_shr {v k : Nat} (hv : v < 2 ^ 31) (hk : k < 32) : nI v >>> (nI k &&& 31) = nI (v / 2 ^ k) := pk_shrN hv _ k (sp_sl k hk)
theorem sp_bit {v k : Nat} (hv : v < 2 ^ 31) (hk : k < 32) : (nI v >>> (nI k &&& 31)) &&& 1 = nI (v / 2 ^ k % 2) := by
  rw [sp_shr hv hk]
  exact pk_andN (Nat.lt_of_le_of_lt (Nat.div_le_self _ _) (by omega)) 1 (by decide)
def sp_wd (W : Nat → Int32) (S : Nat) : Prop := ∀ i, i < 4 → W i = nI ((S >>> (48 - 16 * i)) % 65536)
theorem sp_p2 {p d : Nat} (h1 : d ≤ p) (h2 : p < d + 16) : (2 ^ p >>> d) % 2 ^ 16 = 2 ^ (p - d) := by
  rw [Nat.shiftRight_eq_div_pow, Nat.pow_div h1 (by decide)]
  exact Nat.mod_eq_of_lt (Nat.pow_lt_pow_right (by decide) (by omega))
theorem sp_p0 {p d : Nat} (h : p < d ∨ d + 16 ≤ p) : (2 ^ p >>> d) % 2 ^ 16 = 0 := by
  rw [Nat.shiftRight_eq_div_pow]
  rcases h with h | h
  · rw [Nat.div_eq_of_lt (Nat.pow_lt_pow_right (by decide) h)]
  · rw [Nat.pow_div (by omega) (by decide), show p - d = 16 + (p - d - 16) from by omega, Nat.pow_add]
    exact Nat.mul_mod_right _ _
theorem sp_wd_s {W : Nat → Int32} {S c : Nat} (hc : c < 64) (h : sp_wd W S) : sp_wd (upd W (c / 16) (W (c / 16) ||| nI (2 ^ (15 - c % 16)))) (S ||| 2 ^ (63 - c)) := by
  intro i hi
  have e : ∀ d, ((S ||| 2 ^ (63 - c)) >>> d) % 65536 = (S >>> d) % 65536 ||| (2 ^ (63 - c) >>> d) % 2 ^ 16 := by
    intro d
    rw [Nat.shiftRight_or_distrib]
    exact Nat.or_mod_two_pow (n := 16)
  rw [e]
  by_cases q : i = c / 16
  · subst q
    rw [pk_us, h _ hi, sp_or, sp_p2 (by omega) (by omega), show 63 - c - (48 - 16 * (c / 16)) = 15 - c % 16 from by omega]
  · rw [pk_un q, h _ hi, sp_p0 (by omega), Nat.or_zero]
theorem sp_wbit (S v k z : Nat) : (S ||| (v >>> (k + 1)) <<< (k + 1 + z)) ||| (if v / 2 ^ k % 2 = 0 then 0 else 2 ^ (k + z)) = S ||| (v >>> k) <<< (k + z) := by
  have hb : v.testBit k = decide (¬ v / 2 ^ k % 2 = 0) := by
    have t := Nat.toNat_testBit v k
    cases q : v.testBit k with
    | false => rw [q] at t; simp at t; simp [← t]
    | true => rw [q] at t; simp at t; simp [← t]
  rw [Nat.or_assoc]
  congr 1
  apply Nat.eq_of_testBit_eq
  intro i
  rw [Nat.testBit_or, Nat.testBit_shiftLeft, Nat.testBit_shiftLeft, Nat.testBit_shiftRight, Nat.testBit_shiftRight]
  rcases Nat.lt_trichotomy i (k + z) with h | h | h
  · have a : decide (k + 1 + z ≤ i) = false := decide_eq_false (by omega)
    have b : decide (k + z ≤ i) = false := decide_eq_false (by omega)
    have c : (if v / 2 ^ k % 2 = 0 then 0 else 2 ^ (k + z)).testBit i = false := by
      split
      · exact Nat.zero_testBit i
      · exact Nat.testBit_two_pow_of_ne (by omega)
    rw [c]
    simp [a, b]
  · subst h
    have a : decide (k + 1 + z ≤ k + z) = false := decide_eq_false (by omega)
    have hk0 : v.testBit (k + 0) = decide (¬ v / 2 ^ k % 2 = 0) := hb
    rw [Nat.sub_self, hk0]
    split
    · rename_i q
      simp [q]
      omega
    · rename_i q
      rw [Nat.testBit_two_pow_self]
      simp [q]
  · have a : decide (k + 1 + z ≤ i) = true := decide_eq_true (by omega)
    have b : decide (k + z ≤ i) = true := decide_eq_true (by omega)
    have c : (if v / 2 ^ k % 2 = 0 then 0 else 2 ^ (k + z)).testBit i = false := by
      split
      · exact Nat.zero_testBit i
      · exact Nat.testBit_two_pow_of_ne (by omega)
    rw [c, show k + 1 + (i - (k + 1 + z)) = k + (i - (k + z)) from by omega]
    simp [a, b]
/-- the stream with w bits more -/
def sp_pj (n v w : Nat) : Nat := n <<< w ||| v
theorem sp_pj_b {n v w c : Nat} (hn : n < 2 ^ c) (hv : v < 2 ^ w) : sp_pj n v w < 2 ^ (c + w) := by
  refine Nat.or_lt_two_pow ?_ (Nat.lt_of_lt_of_le hv (Nat.pow_le_pow_right (by decide) (by omega)))
  rw [Nat.shiftLeft_eq, Nat.pow_add]
  exact Nat.mul_lt_mul_of_pos_right hn (Nat.two_pow_pos w)
theorem sp_pj_s {n v w c : Nat} (h : c + w ≤ 64) : n <<< (64 - c) ||| v <<< (64 - c - w) = sp_pj n v w <<< (64 - (c + w)) := by
  unfold sp_pj
  rw [Nat.shiftLeft_or_distrib, ← Nat.shiftLeft_add, show w + (64 - (c + w)) = 64 - c from by omega, show 64 - (c + w) = 64 - c - w from by omega]
theorem sp_pj_l {n v w c : Nat} {s : Int64} (hs : s = (nI w).toInt64 &&& 63) (hw : w < 64) (hn : n < 2 ^ c) (hv : v < 2 ^ w) (hc : c + w ≤ 62) (hv3 : v < 2 ^ 31) : lN n <<< s ||| (nI v).toInt64 = lN (sp_pj n v w) := by
  subst hs
  have h1 : n * 2 ^ w < 2 ^ 64 := by
    have a : n * 2 ^ w < 2 ^ c * 2 ^ w := Nat.mul_lt_mul_of_pos_right hn (Nat.two_pow_pos w)
    rw [← Nat.pow_add] at a
    exact Nat.lt_of_lt_of_le a (Nat.pow_le_pow_right (by decide) (by omega))
  rw [wb_shl n hw, nI_l hv3, wb_or h1 (by omega)]
  unfold sp_pj
  rw [Nat.shiftLeft_eq]
/-- reading k bits at c -/
def sp_rd (S c k : Nat) : Nat := (S >>> (64 - c - k)) % 2 ^ k
theorem sp_rd_b (S c k : Nat) : sp_rd S c k < 2 ^ k := Nat.mod_lt _ (Nat.two_pow_pos k)
theorem sp_rd_0 (S c : Nat) : sp_rd S c 0 = 0 := by
  unfold sp_rd
  exact Nat.mod_one _
theorem sp_rd_s {S c k : Nat} (h : c + k < 64) : sp_rd S c (k + 1) = sp_rd S c k * 2 + (S >>> (63 - (c + k))) % 2 := by
  unfold sp_rd
  rw [show 64 - c - (k + 1) = 63 - (c + k) from by omega, show 64 - c - k = 63 - (c + k) + 1 from by omega, Nat.pow_succ', Nat.mod_mul, Nat.shiftRight_add, Nat.shiftRight_eq_div_pow _ 1, Nat.pow_one]
  omega
theorem sp_dwb {y e : Nat} (he : e < 16) : y % 65536 / 2 ^ e % 2 = y / 2 ^ e % 2 := by
  rw [← Nat.toNat_testBit, ← Nat.toNat_testBit]
  congr 1
  rw [show (65536 : Nat) = 2 ^ 16 from by decide, Nat.testBit_mod_two_pow]
  simp [he]
theorem sp_wd_b {W : Nat → Int32} {S c : Nat} (hc : c < 64) (h : sp_wd W S) : (W (c / 16) >>> (nI (15 - c % 16) &&& 31)) &&& 1 = nI ((S >>> (63 - c)) % 2) := by
  rw [h (c / 16) (by omega), sp_bit (Nat.lt_of_lt_of_le (Nat.mod_lt _ (by decide)) (by decide)) (by omega), sp_dwb (by omega), ← Nat.shiftRight_eq_div_pow, ← Nat.shiftRight_add, show 48 - 16 * (c / 16) + (15 - c % 16) = 63 - c from by omega]
/-- the component's stream of four arguments -/
theorem sp_lo16 (w : Int32) : w.toInt64 &&& 65535 = lN (w.toBitVec.toNat % 65536) := by
  apply wb_inj
  apply BitVec.eq_of_toNat_eq
  rw [wb_tn (by omega), Int64.toBitVec_and, BitVec.toNat_and, show (65535 : Int64).toBitVec.toNat = 2 ^ 16 - 1 from by decide, Nat.and_two_pow_sub_one_eq_mod, Int32.toBitVec_toInt64, BitVec.toNat_signExtend]
  split
  · rw [BitVec.toNat_setWidth]
    have := w.toBitVec.isLt
    omega
  · rw [BitVec.toNat_setWidth]
    have := w.toBitVec.isLt
    omega
def sp_S (a b c d : Nat) : Nat := a * 281474976710656 + b * 4294967296 + c * 65536 + d
theorem sp_S_w {a b c d : Nat} (ha : a < 65536) (hb : b < 65536) (hc : c < 65536) (hd : d < 65536) {W : Nat → Int32} (h0 : W 0 = nI a) (h1 : W 1 = nI b) (h2 : W 2 = nI c) (h3 : W 3 = nI d) : sp_wd W (sp_S a b c d) := by
  intro i hi
  unfold sp_S
  rw [Nat.shiftRight_eq_div_pow]
  have hi' : i = 0 ∨ i = 1 ∨ i = 2 ∨ i = 3 := by omega
  rcases hi' with rfl | rfl | rfl | rfl
  · rw [h0]; congr 1; show a = _ / 281474976710656 % 65536; omega
  · rw [h1]; congr 1; show b = _ / 4294967296 % 65536; omega
  · rw [h2]; congr 1; show c = _ / 65536 % 65536; omega
  · rw [h3]; congr 1; show d = _ / 1 % 65536; omega
theorem sp_S_b {a b c d : Nat} (ha : a < 65536) (hb : b < 65536) (hc : c < 65536) (hd : d < 65536) : sp_S a b c d < 2 ^ 64 := by
  unfold sp_S
  omega
theorem sp_S_l {a b c d : Nat} (ha : a < 65536) (hb : b < 65536) (hc : c < 65536) (hd : d < 65536) :
    lN a <<< ((48 : Int32).toInt64 &&& 63) ||| lN b <<< ((32 : Int32).toInt64 &&& 63) ||| lN c <<< ((16 : Int32).toInt64 &&& 63) ||| lN d = lN (sp_S a b c d) := by
  have e1 : lN a <<< ((48 : Int32).toInt64 &&& 63) = lN (a * 281474976710656) := wb_shl a (k := 48) (by decide)
  have e2 : lN b <<< ((32 : Int32).toInt64 &&& 63) = lN (b * 4294967296) := wb_shl b (k := 32) (by decide)
  have e3 : lN c <<< ((16 : Int32).toInt64 &&& 63) = lN (c * 65536) := wb_shl c (k := 16) (by decide)
  rw [e1, e2, e3, g_or (k := 48) (by decide) (by omega) (by omega), show a * 281474976710656 + b * 4294967296 = (a * 65536 + b) * 4294967296 from by omega, g_or (k := 32) (by decide) (by omega) (by omega), show (a * 65536 + b) * 4294967296 + c * 65536 = ((a * 65536 + b) * 65536 + c) * 65536 from by omega, g_or (k := 16) (by decide) (by omega) (by omega)]
  unfold sp_S
  exact congrArg lN (by omega)
theorem sp_and32 (x : Nat) {m : Int32} (k : Nat) (hk : k ≤ 32) (hm : m.toBitVec.toNat = 2 ^ k - 1) : nI x &&& m = nI (x % 2 ^ k) := by
  rw [pk_and _ k hm]
  congr 1
  show (BitVec.ofNat 32 x).toNat % 2 ^ k = x % 2 ^ k
  rw [BitVec.toNat_ofNat]
  exact Nat.mod_mod_of_dvd x (Nat.pow_dvd_pow 2 hk)
theorem sp_bits {S c k : Nat} {t : Int32} {m : Int32} (hS : S < 2 ^ 64) (h : c + k ≤ 64) (h1 : 1 ≤ c + k) (ht : t = nI (64 - c - k)) (hk : k ≤ 32) (hm : m.toBitVec.toNat = 2 ^ k - 1) :
    (((lN S).toUInt64 >>> (t.toInt64.toUInt64 &&& Int64.toUInt64 63)).toInt64).toInt32 &&& m = nI (sp_rd S c k) := by
  subst ht
  rw [wb_shr hS (by omega), lN_i, sp_and32 _ k hk hm]
  unfold sp_rd
  rw [Nat.shiftRight_eq_div_pow]
theorem sp_word {S i : Nat} {t : Int32} (hS : S < 2 ^ 64) (hi : i < 4) (ht : t = nI (48 - 16 * i)) :
    (((lN S).toUInt64 >>> (t.toInt64.toUInt64 &&& Int64.toUInt64 63)).toInt64 &&& 65535).toInt32 = nI ((S >>> (48 - 16 * i)) % 65536) := by
  subst ht
  rw [wb_shr hS (by omega), show (65535 : Int64) = lN (2 ^ 16 - 1) from by decide, wb_mask (Nat.lt_of_le_of_lt (Nat.div_le_self _ _) hS) (by decide), lN_i, Nat.shiftRight_eq_div_pow]
