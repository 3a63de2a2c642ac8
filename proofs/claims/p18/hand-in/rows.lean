section
/-! rows of the kit to paste, as they stand (kit/laws/BITS) -/
theorem wb_tb (n : Nat) : (lN n).toBitVec = BitVec.ofNat 64 n := rfl
theorem wb_inj {a b : Int64} (h : a.toBitVec = b.toBitVec) : a = b := Int64.toBitVec_inj.mp h
theorem wb_tn {n : Nat} (h : n < 2 ^ 64) : (lN n).toBitVec.toNat = n := by rw [wb_tb, BitVec.toNat_ofNat, Nat.mod_eq_of_lt h]
theorem wb_of (x : Int64) : ∃ n, n < 2 ^ 64 ∧ x = lN n := ⟨x.toBitVec.toNat, x.toBitVec.isLt, wb_inj (by rw [wb_tb]; simp)⟩
theorem wb_of32 (x : Int32) : ∃ n, n < 2 ^ 32 ∧ x = nI n := ⟨x.toBitVec.toNat, x.toBitVec.isLt, Int32.toBitVec_inj.mp (by show _ = BitVec.ofNat 32 _; simp)⟩
theorem wb_c : ∀ k, k < 64 → ((nI k).toInt64 &&& 63) = lN k := by decide +kernel
theorem wb_cu : ∀ k, k < 64 → ((nI k).toInt64.toUInt64 &&& Int64.toUInt64 63) = UInt64.ofNat k := by decide +kernel
theorem wb_sm : ∀ k, k < 64 → (BitVec.ofNat 64 k).smod 64 = BitVec.ofNat 64 k := by decide +kernel
theorem wb_pw {a b : Nat} (h : a ≤ b) : 2 ^ b = 2 ^ a * 2 ^ (b - a) := by rw [← Nat.pow_add]; congr 1; omega
theorem wb_lt2 {a b : Nat} (h : a < b) : 2 ^ a < 2 ^ b := Nat.pow_lt_pow_right (by decide) h
theorem wb_mod (n : Nat) : lN n = lN (n % 2 ^ 64) := wb_inj (by rw [wb_tb, wb_tb]; apply BitVec.eq_of_toNat_eq; rw [BitVec.toNat_ofNat, BitVec.toNat_ofNat, Nat.mod_mod])
theorem wb_shr {n k : Nat} (hn : n < 2 ^ 64) (hk : k < 64) : ((lN n).toUInt64 >>> ((nI k).toInt64.toUInt64 &&& Int64.toUInt64 63)).toInt64 = lN (n / 2 ^ k) := by
  rw [wb_cu k hk]
  apply wb_inj
  apply BitVec.eq_of_toNat_eq
  show ((lN n).toUInt64 >>> UInt64.ofNat k).toNat = (BitVec.ofNat 64 _).toNat
  have h1 : (UInt64.ofNat k).toNat = k := by
    show (BitVec.ofNat 64 k).toNat = k
    rw [BitVec.toNat_ofNat, Nat.mod_eq_of_lt (by omega)]
  have h2 : (lN n).toUInt64.toNat = n := wb_tn hn
  rw [UInt64.toNat_shiftRight, h1, h2, Nat.mod_eq_of_lt hk, Nat.shiftRight_eq_div_pow, BitVec.toNat_ofNat, Nat.mod_eq_of_lt (Nat.lt_of_le_of_lt (Nat.div_le_self _ _) hn)]
theorem wb_shl (n : Nat) {k : Nat} (hk : k < 64) : lN n <<< ((nI k).toInt64 &&& 63) = lN (n * 2 ^ k) := by
  rw [wb_c k hk]
  apply wb_inj
  rw [Int64.toBitVec_shiftLeft, wb_tb, wb_tb, wb_tb, wb_sm k hk]
  apply BitVec.eq_of_toNat_eq
  rw [BitVec.shiftLeft_eq', BitVec.toNat_shiftLeft, BitVec.toNat_ofNat, BitVec.toNat_ofNat, BitVec.toNat_ofNat, Nat.mod_eq_of_lt (show k < 2 ^ 64 by omega), Nat.shiftLeft_eq, Nat.mul_mod, Nat.mod_mod, ← Nat.mul_mod]
theorem wb_and {a b : Nat} (ha : a < 2 ^ 64) (hb : b < 2 ^ 64) : lN a &&& lN b = lN (a &&& b) := by
  apply wb_inj
  rw [Int64.toBitVec_and, wb_tb, wb_tb, wb_tb]
  apply BitVec.eq_of_toNat_eq
  rw [BitVec.toNat_and, BitVec.toNat_ofNat, BitVec.toNat_ofNat, BitVec.toNat_ofNat, Nat.mod_eq_of_lt ha, Nat.mod_eq_of_lt hb, Nat.mod_eq_of_lt (Nat.and_lt_two_pow _ hb)]
theorem wb_or {a b : Nat} (ha : a < 2 ^ 64) (hb : b < 2 ^ 64) : lN a ||| lN b = lN (a ||| b) := by
  apply wb_inj
  rw [Int64.toBitVec_or, wb_tb, wb_tb, wb_tb]
  apply BitVec.eq_of_toNat_eq
  rw [BitVec.toNat_or, BitVec.toNat_ofNat, BitVec.toNat_ofNat, BitVec.toNat_ofNat, Nat.mod_eq_of_lt ha, Nat.mod_eq_of_lt hb, Nat.mod_eq_of_lt (Nat.or_lt_two_pow ha hb)]
theorem wb_mask {n k : Nat} (hn : n < 2 ^ 64) (hk : k < 64) : lN n &&& lN (2 ^ k - 1) = lN (n % 2 ^ k) := by
  rw [wb_and hn (by have := wb_lt2 hk; omega), Nat.and_two_pow_sub_one_eq_mod]
theorem wb_a1 {n : Nat} (hn : n < 2 ^ 64) : lN n &&& 1 = lN (n % 2) := wb_mask (k := 1) hn (by decide)
theorem wb_bit {n k : Nat} (hn : n < 2 ^ 64) (hk : k < 64) : ((lN n).toUInt64 >>> ((nI k).toInt64.toUInt64 &&& Int64.toUInt64 63)).toInt64 &&& 1 = lN (n / 2 ^ k % 2) := by
  rw [wb_shr hn hk, wb_a1 (Nat.lt_of_le_of_lt (Nat.div_le_self _ _) hn)]
theorem wb_xor {q k : Nat} (hk : k < 63) (h : 2 ^ k ≤ q) (h2 : q < 2 ^ (k + 1)) : lN q ^^^ lN (2 ^ k) = lN (q - 2 ^ k) := by
  obtain ⟨r, rfl⟩ : ∃ r, q = 2 ^ k + r := ⟨q - 2 ^ k, by omega⟩
  have hr : r < 2 ^ k := by rw [Nat.pow_succ] at h2; omega
  have hx : (2 ^ k + r) ^^^ 2 ^ k = r := by
    apply Nat.eq_of_testBit_eq
    intro i
    rw [Nat.testBit_xor, Nat.testBit_two_pow]
    rcases Nat.lt_trichotomy i k with h | h | h
    · rw [Nat.testBit_two_pow_add_gt h]
      simp [show ¬ k = i by omega]
    · subst h
      rw [Nat.testBit_two_pow_add_eq]
      simp
    · have a1 : 2 ^ (k + 1) ≤ 2 ^ i := Nat.pow_le_pow_right (by decide) h
      rw [Nat.testBit_lt_two_pow (show 2 ^ k + r < 2 ^ i by omega), Nat.testBit_lt_two_pow (show r < 2 ^ i by omega)]
      simp [show ¬ k = i by omega]
  have b1 := wb_lt2 (show k + 1 < 64 by omega)
  have b2 := wb_lt2 (show k < 64 by omega)
  apply wb_inj
  rw [Int64.toBitVec_xor, wb_tb, wb_tb, wb_tb]
  apply BitVec.eq_of_toNat_eq
  rw [BitVec.toNat_xor, BitVec.toNat_ofNat, BitVec.toNat_ofNat, BitVec.toNat_ofNat, Nat.mod_eq_of_lt (by omega : 2 ^ k + r < 2 ^ 64), Nat.mod_eq_of_lt b2, hx, Nat.add_sub_cancel_left, Nat.mod_eq_of_lt (by omega)]
theorem u_tn {n : Nat} (h : n < 2 ^ 64) : (UInt64.ofNat n).toNat = n := Nat.mod_eq_of_lt h
theorem g_and {a b c : Nat} (ha : a < 2 ^ 64) (hb : b < 2 ^ 64) (hc : a &&& b = c) : lN a &&& lN b = lN c := by
  subst hc
  have h : UInt64.ofNat a &&& UInt64.ofNat b = UInt64.ofNat (a &&& b) := UInt64.toNat_inj.mp (by rw [UInt64.toNat_and, u_tn ha, u_tn hb, u_tn (Nat.and_lt_two_pow a hb)])
  have h2 := congrArg UInt64.toInt64 h
  exact h2
theorem g_and1 {a : Nat} (ha : a < 2 ^ 64) : lN a &&& 1 = lN (a % 2) := g_and (b := 1) ha (by decide) (Nat.and_two_pow_sub_one_eq_mod a 1)
theorem g_mask {a s p : Nat} (hp : 2 ^ s = p) (hs : s < 64) (ha : a < 2 ^ 64) : lN a &&& lN (p - 1) = lN (a % p) := by
  subst hp
  have := Nat.pow_lt_pow_right (show 1 < 2 by decide) hs
  exact g_and ha (by omega) (Nat.and_two_pow_sub_one_eq_mod a s)
theorem g_or {k p a b : Nat} (hp : 2 ^ k = p) (ha : a < p) (h : b * p + a < 2 ^ 64) : lN (b * p) ||| lN a = lN (b * p + a) := by
  subst hp
  have h1 : b * 2 ^ k ||| a = b * 2 ^ k + a := by rw [← Nat.shiftLeft_eq, Nat.shiftLeft_add_eq_or_of_lt ha]
  have h3 : UInt64.ofNat (b * 2 ^ k) ||| UInt64.ofNat a = UInt64.ofNat (b * 2 ^ k + a) := UInt64.toNat_inj.mp (by rw [UInt64.toNat_or, u_tn (by omega), u_tn (by omega), u_tn h, h1])
  have h2 := congrArg UInt64.toInt64 h3
  exact h2
theorem g_or' {k p a b : Nat} (hp : 2 ^ k = p) (ha : a < p) (h : a + b * p < 2 ^ 64) : lN a ||| lN (b * p) = lN (a + b * p) := by
  rw [Int64.or_comm, g_or hp ha (by omega), Nat.add_comm]
theorem g_ushr {a k p : Nat} {y : UInt64} (hy : y = UInt64.ofNat k) (hk : k < 64) (hp : 2 ^ k = p) (ha : a < 2 ^ 64) : ((lN a).toUInt64 >>> y).toInt64 = lN (a / p) := by
  subst hy hp
  have h : UInt64.ofNat a >>> UInt64.ofNat k = UInt64.ofNat (a / 2 ^ k) := UInt64.toNat_inj.mp (by rw [UInt64.toNat_shiftRight, u_tn ha, u_tn (by omega), u_tn (Nat.lt_of_le_of_lt (Nat.div_le_self _ _) ha), Nat.mod_eq_of_lt hk, Nat.shiftRight_eq_div_pow])
  have h2 := congrArg UInt64.toInt64 h
  exact h2
theorem g_shl {a k p : Nat} {y : Int64} (hy : y.toBitVec.smod 64 = BitVec.ofNat 64 k) (hk : k < 64) (hp : 2 ^ k = p) (ha : a < 2 ^ 64) : lN a <<< y = lN (a * p) := by
  subst hp
  apply Int64.toBitVec_inj.mp
  rw [Int64.toBitVec_shiftLeft, hy]
  apply BitVec.eq_of_toNat_eq
  have hb : (lN a).toBitVec.toNat = a := Nat.mod_eq_of_lt ha
  have hk' : (BitVec.ofNat 64 k).toNat = k := Nat.mod_eq_of_lt (by omega)
  have h : ((lN a).toBitVec <<< BitVec.ofNat 64 k).toNat = (a * 2 ^ k) % 2 ^ 64 := by simp only [BitVec.shiftLeft_eq', BitVec.toNat_shiftLeft, hb, hk', Nat.shiftLeft_eq]
  exact h
end
section
/-! the pure picture: saturation, fills, sums, the lattice, the searches -/
def sp_sat (w : Int32) : Int32 := if w < -32768 then -32768 else if 32767 < w then 32767 else w
def sp_satL (w : Int64) : Int32 := if w < -32768 then -32768 else if 32767 < w then 32767 else w.toInt32
theorem sp_satI (w : Int32) : sp_satL w.toInt64 = sp_sat w := by
  have h1 : w.toInt64 < (-32768 : Int64) ↔ w < -32768 := by
    rw [show (-32768 : Int64) = (-32768 : Int32).toInt64 from by decide]; exact Int32.toInt64_lt
  have h2 : (32767 : Int64) < w.toInt64 ↔ (32767 : Int32) < w := by
    rw [show (32767 : Int64) = (32767 : Int32).toInt64 from by decide]; exact Int32.toInt64_lt
  unfold sp_satL sp_sat
  rw [Int32.toInt32_toInt64]
  simp only [h1, h2]
theorem sp_sat_r (w : Int32) : -32768 ≤ (sp_sat w).toInt ∧ (sp_sat w).toInt ≤ 32767 := by
  unfold sp_sat
  split
  · decide
  · split
    · decide
    · rename_i a b
      rw [Int32.lt_iff_toInt_lt] at a b
      have e1 : (-32768 : Int32).toInt = -32768 := by decide
      have e2 : (32767 : Int32).toInt = 32767 := by decide
      rw [e1] at a
      rw [e2] at b
      omega
def sp_fl {α : Type} (g : Nat → α) (i : Nat) (A : Nat → α) : Nat → α := fun j => if j < i then g j else A j
theorem sp_fl0 {α : Type} (g A : Nat → α) : sp_fl g 0 A = A := funext fun j => if_neg (Nat.not_lt_zero j)
theorem sp_fl_lo {α : Type} {g A : Nat → α} {i j : Nat} (h : j < i) : sp_fl g i A j = g j := if_pos h
theorem sp_fl_hi {α : Type} {g A : Nat → α} {i j : Nat} (h : i ≤ j) : sp_fl g i A j = A j := if_neg (Nat.not_lt.mpr h)
theorem sp_flS {g A : Nat → Int32} {i : Nat} : upd (sp_fl g i A) i (g i) = sp_fl g (i + 1) A := by
  funext j
  show (if j = i then g i else if j < i then g j else A j) = (if j < i + 1 then g j else A j)
  by_cases h : j = i
  · rw [if_pos h, if_pos (by omega), h]
  · rw [if_neg h]
    by_cases h2 : j < i
    · rw [if_pos h2, if_pos (by omega)]
    · rw [if_neg h2, if_neg (by omega)]
theorem sp_flSL {g A : Nat → Int64} {i : Nat} : vp_updL (sp_fl g i A) i (g i) = sp_fl g (i + 1) A := by
  funext j
  show (if j = i then g i else if j < i then g j else A j) = (if j < i + 1 then g j else A j)
  by_cases h : j = i
  · rw [if_pos h, if_pos (by omega), h]
  · rw [if_neg h]
    by_cases h2 : j < i
    · rw [if_pos h2, if_pos (by omega)]
    · rw [if_neg h2, if_neg (by omega)]
/-- a fill behind an offset -/
def sp_fo {α : Type} (g : Nat → α) (B i : Nat) (A : Nat → α) : Nat → α := fun j => if B ≤ j ∧ j < B + i then g (j - B) else A j
theorem sp_fo0 {α : Type} (g A : Nat → α) (B : Nat) : sp_fo g B 0 A = A := funext fun j => if_neg (by omega)
theorem sp_fo_in {α : Type} {g A : Nat → α} {B i j : Nat} (h : j < i) : sp_fo g B i A (B + j) = g j := by
  show (if B ≤ B + j ∧ B + j < B + i then g (B + j - B) else A (B + j)) = g j
  rw [if_pos (by omega), Nat.add_sub_cancel_left]
theorem sp_fo_out {α : Type} {g A : Nat → α} {B i j : Nat} (h : j < B ∨ B + i ≤ j) : sp_fo g B i A j = A j := if_neg (by omega)
theorem sp_foS {g A : Nat → Int32} {B i : Nat} : upd (sp_fo g B i A) (B + i) (g i) = sp_fo g B (i + 1) A := by
  funext j
  show (if j = B + i then g i else if B ≤ j ∧ j < B + i then g (j - B) else A j) = (if B ≤ j ∧ j < B + (i + 1) then g (j - B) else A j)
  by_cases h : j = B + i
  · rw [if_pos h, if_pos (by omega), h, Nat.add_sub_cancel_left]
  · rw [if_neg h]
    by_cases h2 : B ≤ j ∧ j < B + i
    · rw [if_pos h2, if_pos (by omega)]
    · rw [if_neg h2, if_neg (by omega)]
/-- sums in 64 bits -/
def sp_sm (f : Nat → Int64) : Nat → Int64
  | 0 => 0
  | n + 1 => sp_sm f n + f n
theorem sp_sm_c {f g : Nat → Int64} {n : Nat} (h : ∀ j, j < n → f j = g j) : sp_sm f n = sp_sm g n := by
  induction n with
  | zero => rfl
  | succ n ih =>
    show sp_sm f n + f n = sp_sm g n + g n
    rw [ih (fun j hj => h j (by omega)), h n (by omega)]
/-- the lattice on a row of its own -/
def sp_row (B P : Nat) (M b : Nat → Int32) : Prop := ∀ j, j < P → M (B + j) = b j
theorem sp_row_u {B P k : Nat} {M b : Nat → Int32} {x : Int32} (h : sp_row B P M b) : sp_row B P (upd M (B + k) x) (upd b k x) := by
  intro j hj
  by_cases e : j = k
  · subst e
    rw [pk_us, pk_us]
  · rw [pk_un (by omega), pk_un e]
    exact h j hj
theorem sp_row_o {B P k : Nat} {M b : Nat → Int32} {x : Int32} (h : sp_row B P M b) (hk : k < B ∨ B + P ≤ k) : sp_row B P (upd M k x) b := by
  intro j hj
  rw [pk_un (by omega)]
  exact h j hj
def sp_r15 (x : Int32) : Int32 := (x + 16384) >>> ((15 : Int32) &&& 31)
def sp_lf (c b : Nat → Int32) (j : Nat) (f : Int32) : Int32 := sp_sat (f - sp_r15 (c (j + 1) * b j))
def sp_lb (c b : Nat → Int32) (j : Nat) (f : Int32) : Int32 := sp_sat (b j + sp_r15 (c (j + 1) * f))
def sp_go (c : Nat → Int32) (P : Nat) : Nat → Int32 → (Nat → Int32) → Int32 × (Nat → Int32)
  | 0, f, b => (f, upd b 0 f)
  | j + 1, f, b => sp_go c P j (sp_lf c b j f) (if j + 1 < P then upd b (j + 1) (sp_lb c b j (sp_lf c b j f)) else b)
def sp_lm (c : Nat → Int32) (P : Nat) (b e : Nat → Int32) : Nat → (Nat → Int32)
  | 0 => b
  | n + 1 => (sp_go c P P (e n) (sp_lm c P b e n)).2
def sp_lo (c : Nat → Int32) (P : Nat) (b e : Nat → Int32) (n : Nat) : Int32 := (sp_go c P P (e n) (sp_lm c P b e n)).1
/-- the past excitation, its filtering, the errors -/
def sp_pv (H : Nat → Int32) (L n : Nat) : Int32 := H (L - n % L)
theorem sp_pv_lo {H : Nat → Int32} {L n : Nat} (h : n < L) : sp_pv H L n = H (L - n) := by
  show H (L - n % L) = _
  rw [Nat.mod_eq_of_lt h]
theorem sp_pv_hi {H : Nat → Int32} {L n : Nat} (h : L ≤ n) : sp_pv H L n = sp_pv H L (n - L) := by
  show H (L - n % L) = H (L - (n - L) % L)
  rw [Nat.mod_eq_sub_mod h]
def sp_cy (v h : Nat → Int32) (n : Nat) : Int32 := sp_satL ((sp_sm (fun j => (v j).toInt64 * (h (n - j)).toInt64) (n + 1) + 2048) >>> ((12 : Int32).toInt64 &&& 63))
theorem sp_cy_c {v v' h h' : Nat → Int32} {n : Nat} (hv : ∀ j, j ≤ n → v j = v' j) (hh : ∀ j, j ≤ n → h j = h' j) : sp_cy v h n = sp_cy v' h' n := by
  unfold sp_cy
  rw [sp_sm_c (f := fun j => (v j).toInt64 * (h (n - j)).toInt64) (g := fun j => (v' j).toInt64 * (h' (n - j)).toInt64) (fun j hj => by
    show (v j).toInt64 * (h (n - j)).toInt64 = (v' j).toInt64 * (h' (n - j)).toInt64
    rw [hv j (by omega), hh (n - j) (by omega)])]
def sp_sq (d : Int32) : Int64 := d.toInt64 * d.toInt64
def sp_ea (x y : Nat → Int32) (N : Nat) (g : Int32) : Int64 := sp_sm (fun n => sp_sq (256 * x n - 37 * g * y n)) N
theorem sp_ea_c {x x' y y' : Nat → Int32} {N : Nat} (g : Int32) (hx : ∀ j, j < N → x j = x' j) (hy : ∀ j, j < N → y j = y' j) : sp_ea x y N g = sp_ea x' y' N g :=
  sp_sm_c fun j hj => by
    show sp_sq (256 * x j - 37 * g * y j) = sp_sq (256 * x' j - 37 * g * y' j)
    rw [hx j hj, hy j hj]
def sp_ef (x z : Nat → Int32) (N : Nat) (l : Int32) : Int64 := sp_sm (fun n => sp_sq (4096 * x n - l * z n)) N
theorem sp_ef_c {x x' z z' : Nat → Int32} {N : Nat} (l : Int32) (hx : ∀ j, j < N → x j = x' j) (hz : ∀ j, j < N → z j = z' j) : sp_ef x z N l = sp_ef x' z' N l :=
  sp_sm_c fun j hj => by
    show sp_sq (4096 * x j - l * z j) = sp_sq (4096 * x' j - l * z' j)
    rw [hx j hj, hz j hj]
/-- the first candidate of the least error: c outer, g inner -/
def sp_mx : Int64 := 9223372036854775807
def sp_in (E : Nat → Nat → Int64) (c : Nat) : Nat → Int64 × Nat × Nat → Int64 × Nat × Nat
  | 0, s => s
  | g + 1, s => if E c g < (sp_in E c g s).1 then (E c g, c, g) else sp_in E c g s
def sp_out (E : Nat → Nat → Int64) (G : Nat) : Nat → Int64 × Nat × Nat
  | 0 => (sp_mx, 0, 0)
  | c + 1 => sp_in E c G (sp_out E G c)
theorem sp_in_b {E : Nat → Nat → Int64} {c C G : Nat} (hc : c < C) : ∀ (g : Nat) (s : Int64 × Nat × Nat), g ≤ G → s.2.1 < C → s.2.2 < G → (sp_in E c g s).2.1 < C ∧ (sp_in E c g s).2.2 < G := by
  intro g
  induction g with
  | zero => exact fun s _ h1 h2 => ⟨h1, h2⟩
  | succ g ih =>
    intro s hg h1 h2
    have h := ih s (by omega) h1 h2
    show (if E c g < (sp_in E c g s).1 then (E c g, c, g) else sp_in E c g s).2.1 < C ∧ (if E c g < (sp_in E c g s).1 then (E c g, c, g) else sp_in E c g s).2.2 < G
    split
    · exact ⟨hc, hg⟩
    · exact h
theorem sp_out_b {E : Nat → Nat → Int64} {G C : Nat} (hG : 0 < G) (hC : 0 < C) : ∀ c, c ≤ C → (sp_out E G c).2.1 < C ∧ (sp_out E G c).2.2 < G := by
  intro c
  induction c with
  | zero => exact fun _ => ⟨hC, hG⟩
  | succ c ih =>
    intro h
    have i := ih (by omega)
    exact sp_in_b (by omega) G _ (Nat.le_refl _) i.1 i.2
theorem sp_in_c {E E' : Nat → Nat → Int64} {c G : Nat} : ∀ (g : Nat) (s : Int64 × Nat × Nat), g ≤ G → (∀ j, j < G → E c j = E' c j) → sp_in E c g s = sp_in E' c g s := by
  intro g
  induction g with
  | zero => exact fun _ _ _ => rfl
  | succ g ih =>
    intro s hg h
    show (if E c g < (sp_in E c g s).1 then (E c g, c, g) else sp_in E c g s) = (if E' c g < (sp_in E' c g s).1 then (E' c g, c, g) else sp_in E' c g s)
    rw [ih s (by omega) h, h g (by omega)]
/-- the state of the reference's search: fresh, or the same best candidate -/
def sp_ys (c g : Nat) (s : Int64 × Nat × Nat) (first : Int32) (best : Int64) (bc bg : Nat) : Prop :=
  (c = 0 ∧ g = 0 ∧ first = 1 ∧ best = 0 ∧ bc = 0 ∧ bg = 0 ∧ s = (sp_mx, 0, 0)) ∨ (first = 0 ∧ best = s.1 ∧ bc = s.2.1 ∧ bg = s.2.2)
theorem sp_mx_le (e : Int64) (h : ¬ e < sp_mx) : e = sp_mx := by
  apply Int64.toInt_inj.mp
  rw [Int64.lt_iff_toInt_lt] at h
  have h1 := e.toInt_lt
  have h2 : sp_mx.toInt = 9223372036854775807 := by decide
  rw [h2] at h ⊢
  omega
/-- the tables -/
def sp_kq (j : Nat) : Int32 := ([-31130, -29491, -27034, -23757, -19661, -14746, -9011, -3277, 3277, 9011, 14746, 19661, 23757, 27034, 29491, 31130] : List Int32).getD j 0
def sp_fg (j : Nat) : Int32 := ([0, 16, 23, 32, 45, 64, 91, 128, 181, 256, 362, 512, 724, 1024, 1448, 2048] : List Int32).getD j 0
/-- the nearest level -/
def sp_ds (a b : Int32) : Int32 := if a < b then b - a else a - b
def sp_qs (k : Int32) : Nat → Nat × Int32
  | 0 => (0, sp_ds k (sp_kq 0))
  | i + 1 => if sp_ds k (sp_kq (i + 1)) < (sp_qs k i).2 then (i + 1, sp_ds k (sp_kq (i + 1))) else sp_qs k i
def sp_nq (k : Int32) : Nat := (sp_qs k 15).1
theorem sp_qs_b (k : Int32) : ∀ i, (sp_qs k i).1 ≤ i := by
  intro i
  induction i with
  | zero => exact Nat.le_refl _
  | succ i ih =>
    show (if sp_ds k (sp_kq (i + 1)) < (sp_qs k i).2 then (i + 1, sp_ds k (sp_kq (i + 1))) else sp_qs k i).1 ≤ i + 1
    split
    · exact Nat.le_refl _
    · omega
theorem sp_nq_b (k : Int32) : sp_nq k < 16 := Nat.lt_succ_of_le (sp_qs_b k 15)
theorem sp_kq_r : ∀ j, j < 16 → -32768 ≤ (sp_kq j).toInt ∧ (sp_kq j).toInt ≤ 32767 := by decide
/-- pulses -/
def sp_pc (h : Nat → Int32) (pos sg n : Nat) : Int32 := if n < pos then 0 else if sg = 0 then h (n - pos) else -h (n - pos)
def sp_z (h : Nat → Int32) (ch : Nat → Nat) : Nat → Nat → Int32
  | 0, _ => 0
  | t + 1, n => sp_z h ch t n + sp_pc h (t + 4 * (ch t / 2)) (ch t % 2) n
theorem sp_z_c {h : Nat → Int32} {ch ch' : Nat → Nat} {n : Nat} : ∀ t, (∀ k, k < t → ch k = ch' k) → sp_z h ch t n = sp_z h ch' t n := by
  intro t
  induction t with
  | zero => exact fun _ => rfl
  | succ t ih =>
    intro e
    show sp_z h ch t n + sp_pc h (t + 4 * (ch t / 2)) (ch t % 2) n = sp_z h ch' t n + sp_pc h (t + 4 * (ch' t / 2)) (ch' t % 2) n
    rw [ih (fun k hk => e k (by omega)), e t (by omega)]
def sp_et (h x : Nat → Int32) (N : Nat) (ch : Nat → Nat) (t c g : Nat) : Int64 :=
  sp_ef x (fun n => sp_z h ch t n + sp_pc h (t + 4 * (c / 2)) (c % 2) n) N (sp_fg g)
/-- what track t picks, the earlier tracks' picks being ch -/
def sp_pk (h x : Nat → Int32) (N T : Nat) (ch : Nat → Nat) (t : Nat) : Int64 × Nat × Nat := sp_out (sp_et h x N ch t) 16 (2 * T)
def sp_ch (h x : Nat → Int32) (N T : Nat) : Nat → Nat → Nat
  | 0 => fun _ => 0
  | t + 1 => fun k => if k = t then (sp_pk h x N T (sp_ch h x N T t) t).2.1 else sp_ch h x N T t k
theorem sp_ch_b {h x : Nat → Int32} {N T : Nat} (hT : 0 < T) : ∀ t k, sp_ch h x N T t k < 2 * T := by
  intro t
  induction t with
  | zero => intro k; show 0 < 2 * T; omega
  | succ t ih =>
    intro k
    show (if k = t then (sp_pk h x N T (sp_ch h x N T t) t).2.1 else sp_ch h x N T t k) < 2 * T
    split
    · exact (sp_out_b (by omega) (by omega) (2 * T) (Nat.le_refl _)).1
    · exact ih k
theorem sp_ch_s {h x : Nat → Int32} {N T t k : Nat} (hk : k ≠ t) : sp_ch h x N T (t + 1) k = sp_ch h x N T t k := if_neg hk
theorem sp_ch_t {h x : Nat → Int32} {N T t : Nat} : sp_ch h x N T (t + 1) t = (sp_pk h x N T (sp_ch h x N T t) t).2.1 := if_pos rfl
/-- the gain picked by the track before t -/
def sp_gf (h x : Nat → Int32) (N T : Nat) (t : Nat) : Nat := (sp_pk h x N T (sp_ch h x N T t) t).2.2
theorem sp_gf_b {h x : Nat → Int32} {N T t : Nat} (hT : 0 < T) : sp_gf h x N T t < 16 := (sp_out_b (by omega) (by omega) (2 * T) (Nat.le_refl _)).2
/-- rule D -/
def sp_cp (sl sg : Nat → Nat) (n : Nat) : Int32 := if n / 4 = sl (n % 4) then (if sg (n % 4) = 0 then 1 else -1) else 0
def sp_u (H : Nat → Int32) (l ga gf : Nat) (sl sg : Nat → Nat) (n : Nat) : Int32 :=
  sp_sat (((37 * nI ga * sp_pv H (l + 4) n + 128) >>> ((8 : Int32) &&& 31)) + sp_fg gf * sp_cp sl sg n)
def sp_nh (N : Nat) (u H : Nat → Int32) (j : Nat) : Int32 := if j ≤ N then u (N - j) else H (j - N)
end
section
/-! correlation and the recursion for the raw reflection coefficients -/
def sp_R (s : Nat → Int32) (N i : Nat) : Int64 := sp_sm (fun t => (s (i + t)).toInt64 * (s t).toInt64) (N - i)
def sp_den (R0 : Int64) : Int64 := R0 + (R0 >>> ((7 : Int32).toInt64 &&& 63)) + 1
def sp_r (s : Nat → Int32) (N i : Nat) : Int64 := sp_R s N i * 32767 / sp_den (sp_R s N 0)
def sp_ac (r a : Nat → Int64) (m : Nat) : Nat → Int64
  | 0 => r m * 32768
  | j + 1 => sp_ac r a m j + a (j + 1) * r (m - (j + 1))
theorem sp_ac_c {r r' a a' : Nat → Int64} {m P : Nat} (hm : m ≤ P) (h1 : 1 ≤ m) (hr : ∀ j, j ≤ P → r j = r' j) (ha : ∀ j, 1 ≤ j → j ≤ P → a j = a' j) : ∀ j, j < m → sp_ac r a m j = sp_ac r' a' m j := by
  intro j
  induction j with
  | zero => intro _; show r m * 32768 = r' m * 32768; rw [hr m hm]
  | succ j ih =>
    intro hj
    show sp_ac r a m j + a (j + 1) * r (m - (j + 1)) = sp_ac r' a' m j + a' (j + 1) * r' (m - (j + 1))
    rw [ih (by omega), ha (j + 1) (by omega) (by omega), hr (m - (j + 1)) (by omega)]
def sp_cl (w : Int64) : Int64 := if w < -32767 then -32767 else if 32767 < w then 32767 else w
def sp_km (r a : Nat → Int64) (E : Int64) (m : Nat) : Int64 := sp_cl (-(sp_ac r a m (m - 1) / E))
def sp_st (k x y : Int64) : Int64 := x + ((k * y + 16384) >>> ((15 : Int32).toInt64 &&& 63))
def sp_an (a : Nat → Int64) (m : Nat) (k : Int64) : Nat → Int64 := fun j => if j = m then k else if 1 ≤ j ∧ j < m then sp_st k (a j) (a (m - j)) else a j
def sp_en (E k : Int64) : Int64 := (E * (1073741824 - k * k)) >>> ((30 : Int32).toInt64 &&& 63)
def sp_ls (r : Nat → Int64) (q : (Nat → Int64) × Int64 × (Nat → Int32)) (m : Nat) : (Nat → Int64) × Int64 × (Nat → Int32) :=
  if 0 < q.2.1 then (sp_an q.1 m (sp_km r q.1 q.2.1 m), sp_en q.2.1 (sp_km r q.1 q.2.1 m), upd q.2.2 m (sp_km r q.1 q.2.1 m).toInt32) else q
def sp_lv (r : Nat → Int64) : Nat → (Nat → Int64) × Int64 × (Nat → Int32)
  | 0 => (fun _ => 0, r 0, fun _ => 0)
  | m + 1 => sp_ls r (sp_lv r m) (m + 1)
def sp_K (s : Nat → Int32) (N P m : Nat) : Int32 := if sp_R s N 0 = 0 then 0 else (sp_lv (sp_r s N) P).2.2 m
theorem sp_cl_r (w : Int64) : -32767 ≤ (sp_cl w).toInt ∧ (sp_cl w).toInt ≤ 32767 := by
  unfold sp_cl
  split
  · decide
  · split
    · decide
    · rename_i a b
      rw [Int64.lt_iff_toInt_lt] at a b
      have e1 : (-32767 : Int64).toInt = -32767 := by decide
      have e2 : (32767 : Int64).toInt = 32767 := by decide
      rw [e1] at a
      rw [e2] at b
      omega
theorem sp_cl_32 (w : Int64) : (sp_cl w).toInt32.toInt = (sp_cl w).toInt := by
  have h := sp_cl_r w
  rw [Int64.toInt_toInt32]
  exact Int.bmod_eq_of_le (by omega) (by omega)
theorem sp_cl_64 (w : Int64) : (sp_cl w).toInt32.toInt64 = sp_cl w := by
  apply Int64.toInt_inj.mp
  rw [Int32.toInt_toInt64, sp_cl_32]
theorem sp_lv_r (r : Nat → Int64) : ∀ m j, -32767 ≤ ((sp_lv r m).2.2 j).toInt ∧ ((sp_lv r m).2.2 j).toInt ≤ 32767 := by
  intro m
  induction m with
  | zero => intro j; show -32767 ≤ (0 : Int32).toInt ∧ (0 : Int32).toInt ≤ 32767; decide
  | succ m ih =>
    intro j
    show -32767 ≤ ((sp_ls r (sp_lv r m) (m + 1)).2.2 j).toInt ∧ ((sp_ls r (sp_lv r m) (m + 1)).2.2 j).toInt ≤ 32767
    unfold sp_ls
    split
    · show -32767 ≤ (upd (sp_lv r m).2.2 (m + 1) (sp_km r (sp_lv r m).1 (sp_lv r m).2.1 (m + 1)).toInt32 j).toInt ∧ (upd (sp_lv r m).2.2 (m + 1) (sp_km r (sp_lv r m).1 (sp_lv r m).2.1 (m + 1)).toInt32 j).toInt ≤ 32767
      by_cases e : j = m + 1
      · subst e
        rw [pk_us]
        unfold sp_km
        rw [sp_cl_32]
        exact sp_cl_r _
      · rw [pk_un e]
        exact ih j
    · exact ih j
theorem sp_K_r (s : Nat → Int32) (N P m : Nat) : -32767 ≤ (sp_K s N P m).toInt ∧ (sp_K s N P m).toInt ≤ 32767 := by
  unfold sp_K
  split
  · decide
  · exact sp_lv_r _ P m
/-- the first correlation is no negative number, and the divisor a positive one -/
theorem sp_sq_r {x : Int32} (h1 : -32768 ≤ x.toInt) (h2 : x.toInt ≤ 32767) : 0 ≤ (x.toInt64 * x.toInt64).toInt ∧ (x.toInt64 * x.toInt64).toInt ≤ 1073741824 := by
  have p : 0 ≤ x.toInt * x.toInt := by
    by_cases h : 0 ≤ x.toInt
    · exact Int.mul_nonneg h h
    · have := Int.mul_nonneg (a := -x.toInt) (b := -x.toInt) (by omega) (by omega)
      rw [Int.neg_mul_neg] at this
      exact this
  have q : x.toInt * x.toInt ≤ 1073741824 := by
    by_cases h : 0 ≤ x.toInt
    · have := Int.mul_le_mul (a := x.toInt) (b := x.toInt) (c := 32768) (d := 32768) (by omega) (by omega) h (by omega)
      omega
    · have := Int.mul_le_mul (a := -x.toInt) (b := -x.toInt) (c := 32768) (d := 32768) (by omega) (by omega) (by omega) (by omega)
      rw [Int.neg_mul_neg] at this
      omega
  rw [Int64.toInt_mul, Int32.toInt_toInt64, Int.bmod_eq_of_le (by omega) (by omega)]
  exact ⟨p, q⟩
theorem sp_sm_r {f : Nat → Int64} : ∀ n, n ≤ 32 → (∀ j, j < n → 0 ≤ (f j).toInt ∧ (f j).toInt ≤ 1073741824) → 0 ≤ (sp_sm f n).toInt ∧ (sp_sm f n).toInt ≤ n * 1073741824 := by
  intro n
  induction n with
  | zero => intro _ _; show 0 ≤ (0 : Int64).toInt ∧ (0 : Int64).toInt ≤ ((0 : Nat) : Int) * 1073741824; decide
  | succ n ih =>
    intro hn h
    have i := ih (by omega) (fun j hj => h j (by omega))
    have j := h n (by omega)
    show 0 ≤ (sp_sm f n + f n).toInt ∧ (sp_sm f n + f n).toInt ≤ ((n + 1 : Nat) : Int) * 1073741824
    rw [Int64.toInt_add, Int.bmod_eq_of_le (by omega) (by omega)]
    omega
def sp_bd (s : Nat → Int32) : Prop := ∀ j, -32768 ≤ (s j).toInt ∧ (s j).toInt ≤ 32767
theorem sp_R0_r {s : Nat → Int32} {N : Nat} (hs : sp_bd s) (hN : N ≤ 32) : 0 ≤ (sp_R s N 0).toInt ∧ (sp_R s N 0).toInt ≤ 34359738368 := by
  have h := sp_sm_r (f := fun t => (s (0 + t)).toInt64 * (s t).toInt64) (N - 0) (by omega) (fun j _ => by
    show 0 ≤ ((s (0 + j)).toInt64 * (s j).toInt64).toInt ∧ ((s (0 + j)).toInt64 * (s j).toInt64).toInt ≤ 1073741824
    rw [Nat.zero_add]
    exact sp_sq_r (hs j).1 (hs j).2)
  unfold sp_R
  omega
theorem sp_den_p {R0 : Int64} (h : 0 ≤ R0.toInt) (h2 : R0.toInt ≤ 34359738368) : 0 < (sp_den R0).toInt := by
  have e : (R0 >>> ((7 : Int32).toInt64 &&& 63)).toInt = R0.toInt >>> 7 := by
    show (R0.toBitVec.sshiftRight (((7 : Int32).toInt64 &&& 63).toBitVec.smod 64).toNat).toInt = _
    rw [show (((7 : Int32).toInt64 &&& 63).toBitVec.smod 64).toNat = 7 from by decide, BitVec.toInt_sshiftRight]
    rfl
  have e1 : (1 : Int64).toInt = 1 := by decide
  rw [Int.shiftRight_eq_div_pow] at e
  have e2 : ((2 ^ 7 : Nat) : Int) = 128 := by decide
  rw [e2] at e
  unfold sp_den
  rw [Int64.toInt_add, Int64.toInt_add, e, e1, Int.bmod_eq_of_le (n := R0.toInt + R0.toInt / 128) (by omega) (by omega), Int.bmod_eq_of_le (by omega) (by omega)]
  omega
theorem sp_den_0 {R0 : Int64} (h : 0 ≤ R0.toInt) (h2 : R0.toInt ≤ 34359738368) : ¬ sp_den R0 = 0 ∧ (0 : Int64) < sp_den R0 := by
  have p := sp_den_p h h2
  have e0 : (0 : Int64).toInt = 0 := by decide
  constructor
  · intro e
    rw [e, e0] at p
    omega
  · rw [Int64.lt_iff_toInt_lt, e0]
    exact p
theorem sp_R0_0 {R0 : Int64} (h : 0 ≤ R0.toInt) : (0 : Int64) < R0 ↔ ¬ R0 = 0 := by
  have e0 : (0 : Int64).toInt = 0 := by decide
  rw [Int64.lt_iff_toInt_lt, e0]
  constructor
  · intro p e
    rw [e, e0] at p
    omega
  · intro p
    have : R0.toInt ≠ 0 := fun z => p (Int64.toInt_inj.mp (z.trans e0.symm))
    omega
/-- the two forms of the distance -/
theorem sp_ds_y {k l : Int32} (h1 : -32768 ≤ k.toInt) (h2 : k.toInt ≤ 32767) (h3 : -32768 ≤ l.toInt) (h4 : l.toInt ≤ 32767) :
    (k - l < 0 → sp_ds k l = -(k - l)) ∧ (¬ k - l < 0 → sp_ds k l = k - l) ∧ ¬ sp_ds k l < 0 := by
  have e0 : (0 : Int32).toInt = 0 := by decide
  have d : (k - l).toInt = k.toInt - l.toInt := by
    rw [Int32.toInt_sub]
    exact Int.bmod_eq_of_le (by omega) (by omega)
  have d' : (l - k).toInt = l.toInt - k.toInt := by
    rw [Int32.toInt_sub]
    exact Int.bmod_eq_of_le (by omega) (by omega)
  have n : (-(k - l)).toInt = l.toInt - k.toInt := by
    rw [Int32.toInt_neg, d]
    rw [Int.bmod_eq_of_le (by omega) (by omega)]
    omega
  have c : k - l < 0 ↔ k < l := by
    rw [Int32.lt_iff_toInt_lt, Int32.lt_iff_toInt_lt, d, e0]
    omega
  unfold sp_ds
  refine ⟨fun h => ?_, fun h => ?_, fun h => ?_⟩
  · rw [if_pos (c.mp h)]
    apply Int32.toInt_inj.mp
    rw [d', n]
  · rw [if_neg (fun z => h (c.mpr z))]
  · rw [Int32.lt_iff_toInt_lt, e0] at h
    split at h
    · rename_i z
      rw [Int32.lt_iff_toInt_lt] at z
      omega
    · rename_i z
      rw [Int32.lt_iff_toInt_lt] at z
      omega
end
section
/-! the bit frame: four words against one stream -/
theorem sp_sl : ∀ n, n < 32 → ((nI n &&& 31).toBitVec.smod 32).toNat = n := by decide +kernel
theorem sp_or (a b : Nat) : nI a ||| nI b = nI (a ||| b) := by
  apply Int32.toBitVec_inj.1
  show BitVec.ofNat 32 a ||| BitVec.ofNat 32 b = BitVec.ofNat 32 (a ||| b)
  apply BitVec.eq_of_getLsbD_eq
  intro i hi
  simp [hi]
theorem sp_1sh : ∀ k, k < 16 → (1 : Int32) <<< (nI k &&& 31) = nI (2 ^ k) := by decide +kernel
theorem sp_shr {v k : Nat} (hv : v < 2 ^ 31) (hk : k < 32) : nI v >>> (nI k &&& 31) = nI (v / 2 ^ k) := pk_shrN hv _ k (sp_sl k hk)
theorem sp_bit {v k : Nat} (hv : v < 2 ^ 31) (hk : k < 32) : (nI v >>> (nI k &&& 31)) &&& 1 = nI (v / 2 ^ k % 2) := by
  rw [sp_shr hv hk]
  exact pk_andN (Nat.lt_of_le_of_lt (Nat.div_le_self _ _) (by omega)) 1 (by decide)
def sp_wd (W : Nat → Int32) (S : Nat) : Prop := ∀ i, i < 4 → W i = nI ((S >>> (48 - 16 * i)) % 65536)
theorem sp_p2 {p d : Nat} (h1 : d ≤ p) (h2 : p < d + 16) : (2 ^ p >>> d) % 2 ^ 16 = 2 ^ (p - d) := by
  rw [Nat.shiftRight_eq_div_pow, Nat.pow_div h1 (by decide)]
  exact Nat.mod_eq_of_lt (Nat.pow_lt_pow_right (by decide) (by omega))
theorem sp_p0 {p d : Nat} (h : p < d ∨ d + 16 ≤ p) : (2 ^ p >>> d) % 2 ^ 16 = 0 := by
  rw [Nat.shiftRight_eq_div_pow]
  rcases h with h | h
  · rw [Nat.div_eq_of_lt (Nat.pow_lt_pow_right (by decide) h)]
  · rw [Nat.pow_div (by omega) (by decide), show p - d = 16 + (p - d - 16) from by omega, Nat.pow_add]
    exact Nat.mul_mod_right _ _
theorem sp_wd_s {W : Nat → Int32} {S c : Nat} (hc : c < 64) (h : sp_wd W S) : sp_wd (upd W (c / 16) (W (c / 16) ||| nI (2 ^ (15 - c % 16)))) (S ||| 2 ^ (63 - c)) := by
  intro i hi
  have e : ∀ d, ((S ||| 2 ^ (63 - c)) >>> d) % 65536 = (S >>> d) % 65536 ||| (2 ^ (63 - c) >>> d) % 2 ^ 16 := by
    intro d
    rw [Nat.shiftRight_or_distrib]
    exact Nat.or_mod_two_pow (n := 16)
  rw [e]
  by_cases q : i = c / 16
  · subst q
    rw [pk_us, h _ hi, sp_or, sp_p2 (by omega) (by omega), show 63 - c - (48 - 16 * (c / 16)) = 15 - c % 16 from by omega]
  · rw [pk_un q, h _ hi, sp_p0 (by omega), Nat.or_zero]
theorem sp_wbit (S v k z : Nat) : (S ||| (v >>> (k + 1)) <<< (k + 1 + z)) ||| (if v / 2 ^ k % 2 = 0 then 0 else 2 ^ (k + z)) = S ||| (v >>> k) <<< (k + z) := by
  have hb : v.testBit k = decide (¬ v / 2 ^ k % 2 = 0) := by
    have t := Nat.toNat_testBit v k
    cases q : v.testBit k with
    | false => rw [q] at t; simp at t; simp [← t]
    | true => rw [q] at t; simp at t; simp [← t]
  rw [Nat.or_assoc]
  congr 1
  apply Nat.eq_of_testBit_eq
  intro i
  rw [Nat.testBit_or, Nat.testBit_shiftLeft, Nat.testBit_shiftLeft, Nat.testBit_shiftRight, Nat.testBit_shiftRight]
  rcases Nat.lt_trichotomy i (k + z) with h | h | h
  · have a : decide (k + 1 + z ≤ i) = false := decide_eq_false (by omega)
    have b : decide (k + z ≤ i) = false := decide_eq_false (by omega)
    have c : (if v / 2 ^ k % 2 = 0 then 0 else 2 ^ (k + z)).testBit i = false := by
      split
      · exact Nat.zero_testBit i
      · exact Nat.testBit_two_pow_of_ne (by omega)
    rw [c]
    simp [a, b]
  · subst h
    have a : decide (k + 1 + z ≤ k + z) = false := decide_eq_false (by omega)
    have hk0 : v.testBit (k + 0) = decide (¬ v / 2 ^ k % 2 = 0) := hb
    rw [Nat.sub_self, hk0]
    split
    · rename_i q
      simp [q]
      omega
    · rename_i q
      rw [Nat.testBit_two_pow_self]
      simp [q]
  · have a : decide (k + 1 + z ≤ i) = true := decide_eq_true (by omega)
    have b : decide (k + z ≤ i) = true := decide_eq_true (by omega)
    have c : (if v / 2 ^ k % 2 = 0 then 0 else 2 ^ (k + z)).testBit i = false := by
      split
      · exact Nat.zero_testBit i
      · exact Nat.testBit_two_pow_of_ne (by omega)
    rw [c, show k + 1 + (i - (k + 1 + z)) = k + (i - (k + z)) from by omega]
    simp [a, b]
/-- the stream with w bits more -/
def sp_pj (n v w : Nat) : Nat := n <<< w ||| v
theorem sp_pj_b {n v w c : Nat} (hn : n < 2 ^ c) (hv : v < 2 ^ w) : sp_pj n v w < 2 ^ (c + w) := by
  refine Nat.or_lt_two_pow ?_ (Nat.lt_of_lt_of_le hv (Nat.pow_le_pow_right (by decide) (by omega)))
  rw [Nat.shiftLeft_eq, Nat.pow_add]
  exact Nat.mul_lt_mul_of_pos_right hn (Nat.two_pow_pos w)
theorem sp_pj_s {n v w c : Nat} (h : c + w ≤ 64) : n <<< (64 - c) ||| v <<< (64 - c - w) = sp_pj n v w <<< (64 - (c + w)) := by
  unfold sp_pj
  rw [Nat.shiftLeft_or_distrib, ← Nat.shiftLeft_add, show w + (64 - (c + w)) = 64 - c from by omega, show 64 - (c + w) = 64 - c - w from by omega]
theorem sp_pj_l {n v w c : Nat} {s : Int64} (hs : s = (nI w).toInt64 &&& 63) (hw : w < 64) (hn : n < 2 ^ c) (hv : v < 2 ^ w) (hc : c + w ≤ 62) (hv3 : v < 2 ^ 31) : lN n <<< s ||| (nI v).toInt64 = lN (sp_pj n v w) := by
  subst hs
  have h1 : n * 2 ^ w < 2 ^ 64 := by
    have a : n * 2 ^ w < 2 ^ c * 2 ^ w := Nat.mul_lt_mul_of_pos_right hn (Nat.two_pow_pos w)
    rw [← Nat.pow_add] at a
    exact Nat.lt_of_lt_of_le a (Nat.pow_le_pow_right (by decide) (by omega))
  rw [wb_shl n hw, nI_l hv3, wb_or h1 (by omega)]
  unfold sp_pj
  rw [Nat.shiftLeft_eq]
/-- reading k bits at c -/
def sp_rd (S c k : Nat) : Nat := (S >>> (64 - c - k)) % 2 ^ k
theorem sp_rd_b (S c k : Nat) : sp_rd S c k < 2 ^ k := Nat.mod_lt _ (Nat.two_pow_pos k)
theorem sp_rd_0 (S c : Nat) : sp_rd S c 0 = 0 := by
  unfold sp_rd
  exact Nat.mod_one _
theorem sp_rd_s {S c k : Nat} (h : c + k < 64) : sp_rd S c (k + 1) = sp_rd S c k * 2 + (S >>> (63 - (c + k))) % 2 := by
  unfold sp_rd
  rw [show 64 - c - (k + 1) = 63 - (c + k) from by omega, show 64 - c - k = 63 - (c + k) + 1 from by omega, Nat.pow_succ', Nat.mod_mul, Nat.shiftRight_add, Nat.shiftRight_eq_div_pow _ 1, Nat.pow_one]
  omega
theorem sp_dwb {y e : Nat} (he : e < 16) : y % 65536 / 2 ^ e % 2 = y / 2 ^ e % 2 := by
  rw [← Nat.toNat_testBit, ← Nat.toNat_testBit]
  congr 1
  rw [show (65536 : Nat) = 2 ^ 16 from by decide, Nat.testBit_mod_two_pow]
  simp [he]
theorem sp_wd_b {W : Nat → Int32} {S c : Nat} (hc : c < 64) (h : sp_wd W S) : (W (c / 16) >>> (nI (15 - c % 16) &&& 31)) &&& 1 = nI ((S >>> (63 - c)) % 2) := by
  rw [h (c / 16) (by omega), sp_bit (Nat.lt_of_lt_of_le (Nat.mod_lt _ (by decide)) (by decide)) (by omega), sp_dwb (by omega), ← Nat.shiftRight_eq_div_pow, ← Nat.shiftRight_add, show 48 - 16 * (c / 16) + (15 - c % 16) = 63 - c from by omega]
/-- the component's stream of four arguments -/
theorem sp_lo16 (w : Int32) : w.toInt64 &&& 65535 = lN (w.toBitVec.toNat % 65536) := by
  apply wb_inj
  apply BitVec.eq_of_toNat_eq
  rw [wb_tn (by omega), Int64.toBitVec_and, BitVec.toNat_and, show (65535 : Int64).toBitVec.toNat = 2 ^ 16 - 1 from by decide, Nat.and_two_pow_sub_one_eq_mod, Int32.toBitVec_toInt64, BitVec.toNat_signExtend]
  split
  · rw [BitVec.toNat_setWidth]
    have := w.toBitVec.isLt
    omega
  · rw [BitVec.toNat_setWidth]
    have := w.toBitVec.isLt
    omega
def sp_S (a b c d : Nat) : Nat := a * 281474976710656 + b * 4294967296 + c * 65536 + d
theorem sp_S_w {a b c d : Nat} (ha : a < 65536) (hb : b < 65536) (hc : c < 65536) (hd : d < 65536) {W : Nat → Int32} (h0 : W 0 = nI a) (h1 : W 1 = nI b) (h2 : W 2 = nI c) (h3 : W 3 = nI d) : sp_wd W (sp_S a b c d) := by
  intro i hi
  unfold sp_S
  rw [Nat.shiftRight_eq_div_pow]
  have hi' : i = 0 ∨ i = 1 ∨ i = 2 ∨ i = 3 := by omega
  rcases hi' with rfl | rfl | rfl | rfl
  · rw [h0]; congr 1; show a = _ / 281474976710656 % 65536; omega
  · rw [h1]; congr 1; show b = _ / 4294967296 % 65536; omega
  · rw [h2]; congr 1; show c = _ / 65536 % 65536; omega
  · rw [h3]; congr 1; show d = _ / 1 % 65536; omega
theorem sp_S_b {a b c d : Nat} (ha : a < 65536) (hb : b < 65536) (hc : c < 65536) (hd : d < 65536) : sp_S a b c d < 2 ^ 64 := by
  unfold sp_S
  omega
theorem sp_S_l {a b c d : Nat} (ha : a < 65536) (hb : b < 65536) (hc : c < 65536) (hd : d < 65536) :
    lN a <<< ((48 : Int32).toInt64 &&& 63) ||| lN b <<< ((32 : Int32).toInt64 &&& 63) ||| lN c <<< ((16 : Int32).toInt64 &&& 63) ||| lN d = lN (sp_S a b c d) := by
  have e1 : lN a <<< ((48 : Int32).toInt64 &&& 63) = lN (a * 281474976710656) := wb_shl a (k := 48) (by decide)
  have e2 : lN b <<< ((32 : Int32).toInt64 &&& 63) = lN (b * 4294967296) := wb_shl b (k := 32) (by decide)
  have e3 : lN c <<< ((16 : Int32).toInt64 &&& 63) = lN (c * 65536) := wb_shl c (k := 16) (by decide)
  rw [e1, e2, e3, g_or (k := 48) (by decide) (by omega) (by omega), show a * 281474976710656 + b * 4294967296 = (a * 65536 + b) * 4294967296 from by omega, g_or (k := 32) (by decide) (by omega) (by omega), show (a * 65536 + b) * 4294967296 + c * 65536 = ((a * 65536 + b) * 65536 + c) * 65536 from by omega, g_or (k := 16) (by decide) (by omega) (by omega)]
  unfold sp_S
  exact congrArg lN (by omega)
theorem sp_and32 (x : Nat) {m : Int32} (k : Nat) (hk : k ≤ 32) (hm : m.toBitVec.toNat = 2 ^ k - 1) : nI x &&& m = nI (x % 2 ^ k) := by
  rw [pk_and _ k hm]
  congr 1
  show (BitVec.ofNat 32 x).toNat % 2 ^ k = x % 2 ^ k
  rw [BitVec.toNat_ofNat]
  exact Nat.mod_mod_of_dvd x (Nat.pow_dvd_pow 2 hk)
theorem sp_bits {S c k : Nat} {t : Int32} {m : Int32} (hS : S < 2 ^ 64) (h : c + k ≤ 64) (h1 : 1 ≤ c + k) (ht : t = nI (64 - c - k)) (hk : k ≤ 32) (hm : m.toBitVec.toNat = 2 ^ k - 1) :
    (((lN S).toUInt64 >>> (t.toInt64.toUInt64 &&& Int64.toUInt64 63)).toInt64).toInt32 &&& m = nI (sp_rd S c k) := by
  subst ht
  rw [wb_shr hS (by omega), lN_i, sp_and32 _ k hk hm]
  unfold sp_rd
  rw [Nat.shiftRight_eq_div_pow]
theorem sp_word {S i : Nat} {t : Int32} (hS : S < 2 ^ 64) (hi : i < 4) (ht : t = nI (48 - 16 * i)) :
    (((lN S).toUInt64 >>> (t.toInt64.toUInt64 &&& Int64.toUInt64 63)).toInt64 &&& 65535).toInt32 = nI ((S >>> (48 - 16 * i)) % 65536) := by
  subst ht
  rw [wb_shr hS (by omega), show (65535 : Int64) = lN (2 ^ 16 - 1) from by decide, wb_mask (Nat.lt_of_le_of_lt (Nat.div_le_self _ _) hS) (by decide), lN_i, Nat.shiftRight_eq_div_pow]
end
section
/-! the component: clamps, correlation, the recursion -/
theorem sx_clamp {post : Int32 → Prop} {w : Int64} {lo hi : Int32} {L H : Int64} (eL : lo.toInt64 = L) (eH : hi.toInt64 = H) (h : post (if w < L then lo else if H < w then hi else w.toInt32)) : wpX_clamp post () w lo hi := by
  unfold wpX_clamp
  rw [eL, eH]
  refine br_c (fun a => ?_) (fun a => ?_)
  · rw [if_neg (Int64.not_lt.mpr a)] at h
    refine br_c (fun b => ?_) (fun b => ?_)
    · rw [if_neg (Int64.not_lt.mpr b)] at h
      exact h
    · rw [if_pos (Int64.not_le.mp b)] at h
      exact h
  · rw [if_pos (Int64.not_le.mp a)] at h
    exact h
theorem sx_sat {post : Int32 → Prop} {w : Int64} (h : post (sp_satL w)) : wpX_saturate post () w := by
  unfold wpX_saturate
  exact sx_clamp (L := -32768) (H := 32767) (by decide) (by decide) h
theorem sx_satI {post : Int32 → Prop} {w : Int32} (h : post (sp_sat w)) : wpX_saturate post () w.toInt64 := sx_sat (by rw [sp_satI]; exact h)
theorem sx_clk {post : Int32 → Prop} {w : Int64} (h : post (sp_cl w).toInt32) : wpX_clamp post () w (-32767) 32767 := by
  refine sx_clamp (L := -32767) (H := 32767) (by decide) (by decide) ?_
  have e : (sp_cl w).toInt32 = (if w < -32767 then (-32767 : Int32) else if 32767 < w then 32767 else w.toInt32) := by
    unfold sp_cl
    split
    · rfl
    · split
      · rfl
      · rfl
  rw [← e]
  exact h
theorem sx_mc15 {P N T : Nat} {x_pending : Int32} {x_encodedStream : Int64} {x_reflectionLevels x_pulseLevels x_memory x_history x_output x_fields x_frameCounts x_reflections x_samples x_rawReflections x_target x_impulseResponse x_pastExcitation x_filteredPast x_chosenPulses x_trialPulses x_pulseSigns x_excitation x_receivedFields : Nat → Int32} {x_correlation x_predictor x_oldPredictor : Nat → Int64} {post : St2 → Prop} {J : _} {i : Nat} (hN : N ≤ 32) (hi : i ≤ 6)
    (hJ : J (nI (i + 1)) x_reflectionLevels x_pulseLevels x_memory x_history x_output x_fields x_frameCounts x_reflections x_samples x_rawReflections (vp_updL x_correlation i (sp_R x_samples N i)) x_predictor x_oldPredictor x_target x_impulseResponse x_pastExcitation x_filteredPast x_chosenPulses x_trialPulses x_pulseSigns x_excitation x_receivedFields) :
    ∀ d t, i + t + d = N → wX_measureCorrelation_15 post J (nI i) (nI P) (nI N) (nI T) x_pending x_encodedStream x_reflectionLevels x_pulseLevels x_memory x_history x_output x_fields x_frameCounts x_reflections x_samples x_rawReflections x_correlation x_predictor x_oldPredictor x_target x_impulseResponse x_pastExcitation x_filteredPast x_chosenPulses x_trialPulses x_pulseSigns x_excitation x_receivedFields (d + 1) (sp_sm (fun t => (x_samples (i + t)).toInt64 * (x_samples t).toInt64) t) (nI (i + t)) := by
  intro d
  induction d with
  | zero =>
    intro t ht
    obtain rfl : t = N - i := by omega
    refine br_t (nI_le (by omega) (by omega)) ⟨vp_in_nI (by omega) (by omega), ?_⟩
    exact nm_r (by rw [nI_clamp (by omega)]; rfl) (nm_r (nI_1 i) hJ)
  | succ d ih =>
    intro t ht
    refine br_f (nI_ge (by omega) (by omega)) ⟨vp_in_nI (by omega) (by omega), pk_in t 32 (by omega) ?_, nm_r ?_ (nm_r (nI_1 (i + t)) (ih (t + 1) (by omega)))⟩
    · rw [pk_sub (by omega), Nat.add_sub_cancel_left]
    · rw [pk_sub (by omega), Nat.add_sub_cancel_left, nI_clamp (by omega), nI_clamp (by omega)]
      rfl
theorem sx_mc2 {P N T : Nat} {x_pending : Int32} {x_encodedStream : Int64} {x_reflectionLevels x_pulseLevels x_memory x_history x_output x_fields x_frameCounts x_reflections x_samples x_rawReflections x_target x_impulseResponse x_pastExcitation x_filteredPast x_chosenPulses x_trialPulses x_pulseSigns x_excitation x_receivedFields : Nat → Int32} {x_correlation x_predictor x_oldPredictor : Nat → Int64} {post : St2 → Prop} (hN8 : 8 ≤ N) (hN : N ≤ 32) (hP : P ≤ 6)
    (h : ∀ co, (∀ i, i ≤ P → co i = sp_R x_samples N i) → post ((nI P), (nI N), (nI T), x_pending, x_encodedStream, x_reflectionLevels, x_pulseLevels, x_memory, x_history, x_output, x_fields, x_frameCounts, x_reflections, x_samples, x_rawReflections, co, x_predictor, x_oldPredictor, x_target, x_impulseResponse, x_pastExcitation, x_filteredPast, x_chosenPulses, x_trialPulses, x_pulseSigns, x_excitation, x_receivedFields)) :
    ∀ d i, i + d = P + 1 → wX_measureCorrelation_2 post (nI P) (nI N) (nI T) x_pending x_encodedStream (d + 1) (nI i) x_reflectionLevels x_pulseLevels x_memory x_history x_output x_fields x_frameCounts x_reflections x_samples x_rawReflections (sp_fl (sp_R x_samples N) i x_correlation) x_predictor x_oldPredictor x_target x_impulseResponse x_pastExcitation x_filteredPast x_chosenPulses x_trialPulses x_pulseSigns x_excitation x_receivedFields := by
  intro d
  induction d with
  | zero =>
    intro i hi
    exact br_t (nI_lt (by omega) (by omega)) (h _ (fun j hj => sp_fl_lo (by omega)))
  | succ d ih =>
    intro i hi
    refine br_f (nI_nlt (by omega) (by omega)) ⟨N - i + 1, sx_mc15 hN (by omega) ?_ (N - i) 0 (by omega)⟩
    rw [sp_flSL]
    exact ih (i + 1) (by omega)
theorem sx_mc {P N T : Nat} {x_pending : Int32} {x_encodedStream : Int64} {x_reflectionLevels x_pulseLevels x_memory x_history x_output x_fields x_frameCounts x_reflections x_samples x_rawReflections x_target x_impulseResponse x_pastExcitation x_filteredPast x_chosenPulses x_trialPulses x_pulseSigns x_excitation x_receivedFields : Nat → Int32} {x_correlation x_predictor x_oldPredictor : Nat → Int64} {post : St2 → Prop} (hN8 : 8 ≤ N) (hN : N ≤ 32) (hP : P ≤ 6)
    (h : ∀ co, (∀ i, i ≤ P → co i = sp_R x_samples N i) → post ((nI P), (nI N), (nI T), x_pending, x_encodedStream, x_reflectionLevels, x_pulseLevels, x_memory, x_history, x_output, x_fields, x_frameCounts, x_reflections, x_samples, x_rawReflections, co, x_predictor, x_oldPredictor, x_target, x_impulseResponse, x_pastExcitation, x_filteredPast, x_chosenPulses, x_trialPulses, x_pulseSigns, x_excitation, x_receivedFields)) : wpX_measureCorrelation post ((nI P), (nI N), (nI T), x_pending, x_encodedStream, x_reflectionLevels, x_pulseLevels, x_memory, x_history, x_output, x_fields, x_frameCounts, x_reflections, x_samples, x_rawReflections, x_correlation, x_predictor, x_oldPredictor, x_target, x_impulseResponse, x_pastExcitation, x_filteredPast, x_chosenPulses, x_trialPulses, x_pulseSigns, x_excitation, x_receivedFields) := by
  have t := sx_mc2 (x_correlation := x_correlation) hN8 hN hP h (P + 1) 0 (by omega)
  rw [sp_fl0] at t
  exact Exists.intro _ t
theorem sx_sc27 {P N T : Nat} {x_pending : Int32} {x_encodedStream : Int64} {x_reflectionLevels x_pulseLevels x_memory x_history x_output x_fields x_frameCounts x_reflections x_samples x_rawReflections x_target x_impulseResponse x_pastExcitation x_filteredPast x_chosenPulses x_trialPulses x_pulseSigns x_excitation x_receivedFields : Nat → Int32} {x_correlation x_predictor x_oldPredictor : Nat → Int64} {post : St2 → Prop} {den : Int64} (hd : ¬ den = 0) (hP : P ≤ 6)
    (h : post ((nI P), (nI N), (nI T), x_pending, x_encodedStream, x_reflectionLevels, x_pulseLevels, x_memory, x_history, x_output, x_fields, x_frameCounts, x_reflections, x_samples, x_rawReflections, (sp_fl (fun j => x_correlation j * 32767 / den) (P + 1) x_correlation), x_predictor, x_oldPredictor, x_target, x_impulseResponse, x_pastExcitation, x_filteredPast, x_chosenPulses, x_trialPulses, x_pulseSigns, x_excitation, x_receivedFields)) :
    ∀ d i, i + d = P + 1 → wX_scaleCorrelation_27 post den (nI P) (nI N) (nI T) x_pending x_encodedStream (d + 1) (nI i) x_reflectionLevels x_pulseLevels x_memory x_history x_output x_fields x_frameCounts x_reflections x_samples x_rawReflections (sp_fl (fun j => x_correlation j * 32767 / den) i x_correlation) x_predictor x_oldPredictor x_target x_impulseResponse x_pastExcitation x_filteredPast x_chosenPulses x_trialPulses x_pulseSigns x_excitation x_receivedFields := by
  intro d
  induction d with
  | zero =>
    intro i hi
    obtain rfl : i = P + 1 := by omega
    exact br_t (nI_lt (by omega) (by omega)) h
  | succ d ih =>
    intro i hi
    refine br_f (nI_nlt (by omega) (by omega)) ⟨vp_in_nI (by omega) (by omega), hd, vp_in_nI (by omega) (by omega), nm_r ?_ (nm_r (nI_1 i) (ih (i + 1) (by omega)))⟩
    rw [nI_clamp (by omega), sp_fl_hi (Nat.le_refl i)]
    exact sp_flSL (g := fun j => x_correlation j * 32767 / den)
theorem sx_sc {P N T : Nat} {x_pending : Int32} {x_encodedStream : Int64} {x_reflectionLevels x_pulseLevels x_memory x_history x_output x_fields x_frameCounts x_reflections x_samples x_rawReflections x_target x_impulseResponse x_pastExcitation x_filteredPast x_chosenPulses x_trialPulses x_pulseSigns x_excitation x_receivedFields : Nat → Int32} {x_correlation x_predictor x_oldPredictor : Nat → Int64} {post : St2 → Prop} {s : Nat → Int32} (hs : sp_bd s) (hN : N ≤ 32) (hP : P ≤ 6) (hc : ∀ i, i ≤ P → x_correlation i = sp_R s N i)
    (h : ∀ co, (∀ i, i ≤ P → co i = sp_r s N i) → post ((nI P), (nI N), (nI T), x_pending, x_encodedStream, x_reflectionLevels, x_pulseLevels, x_memory, x_history, x_output, x_fields, x_frameCounts, x_reflections, x_samples, x_rawReflections, co, x_predictor, x_oldPredictor, x_target, x_impulseResponse, x_pastExcitation, x_filteredPast, x_chosenPulses, x_trialPulses, x_pulseSigns, x_excitation, x_receivedFields)) : wpX_scaleCorrelation post ((nI P), (nI N), (nI T), x_pending, x_encodedStream, x_reflectionLevels, x_pulseLevels, x_memory, x_history, x_output, x_fields, x_frameCounts, x_reflections, x_samples, x_rawReflections, x_correlation, x_predictor, x_oldPredictor, x_target, x_impulseResponse, x_pastExcitation, x_filteredPast, x_chosenPulses, x_trialPulses, x_pulseSigns, x_excitation, x_receivedFields) := by
  have b := sp_R0_r hs hN
  have b2 := sp_den_0 b.1 b.2
  refine nm_r (e' := sp_den (sp_R s N 0)) ?_ (br_f ?_ (Exists.intro (P + 1 + 1) ?_))
  · show sp_den (x_correlation 0) = _
    rw [hc 0 (by omega)]
  · exact Int64.not_le.mpr b2.2
  · have t := sx_sc27 (x_correlation := x_correlation) b2.1 hP (h _ (fun i hi => by
      rw [sp_fl_lo (by omega)]
      show x_correlation i * 32767 / _ = _
      rw [hc i hi]
      rfl)) (P + 1) 0 (by omega)
    rw [sp_fl0] at t
    exact t
theorem sx_pm14 {P N T : Nat} {x_pending : Int32} {x_encodedStream : Int64} {x_reflectionLevels x_pulseLevels x_memory x_history x_output x_fields x_frameCounts x_reflections x_samples x_rawReflections x_target x_impulseResponse x_pastExcitation x_filteredPast x_chosenPulses x_trialPulses x_pulseSigns x_excitation x_receivedFields : Nat → Int32} {x_correlation x_predictor x_oldPredictor : Nat → Int64} {post : Int64 → Prop} {m : Nat} (hm : m ≤ 6) (h : post (sp_ac x_correlation x_predictor m (m - 1))) :
    ∀ d j, j + 1 + d = m → wX_predictionMismatch_14 post (nI m) (nI P) (nI N) (nI T) x_pending x_encodedStream x_reflectionLevels x_pulseLevels x_memory x_history x_output x_fields x_frameCounts x_reflections x_samples x_rawReflections x_correlation x_predictor x_oldPredictor x_target x_impulseResponse x_pastExcitation x_filteredPast x_chosenPulses x_trialPulses x_pulseSigns x_excitation x_receivedFields (d + 1) (sp_ac x_correlation x_predictor m j) (nI (j + 1)) := by
  intro d
  induction d with
  | zero =>
    intro j hj
    obtain rfl : j = m - 1 := by omega
    exact br_t (nI_le (by omega) (by omega)) h
  | succ d ih =>
    intro j hj
    refine br_f (nI_ge (by omega) (by omega)) ⟨vp_in_nI (by omega) (by omega), pk_in (m - (j + 1)) 7 (by omega) (pk_sub (by omega)), nm_r ?_ (nm_r (nI_1 (j + 1)) (ih (j + 1) (by omega)))⟩
    rw [pk_sub (by omega), nI_clamp (by omega), nI_clamp (by omega)]
    rfl
theorem sx_pm {P N T : Nat} {x_pending : Int32} {x_encodedStream : Int64} {x_reflectionLevels x_pulseLevels x_memory x_history x_output x_fields x_frameCounts x_reflections x_samples x_rawReflections x_target x_impulseResponse x_pastExcitation x_filteredPast x_chosenPulses x_trialPulses x_pulseSigns x_excitation x_receivedFields : Nat → Int32} {x_correlation x_predictor x_oldPredictor : Nat → Int64} {post : Int64 → Prop} {m : Nat} (h1 : 1 ≤ m) (hm : m ≤ 6) (h : post (sp_ac x_correlation x_predictor m (m - 1))) : wpX_predictionMismatch post ((nI P), (nI N), (nI T), x_pending, x_encodedStream, x_reflectionLevels, x_pulseLevels, x_memory, x_history, x_output, x_fields, x_frameCounts, x_reflections, x_samples, x_rawReflections, x_correlation, x_predictor, x_oldPredictor, x_target, x_impulseResponse, x_pastExcitation, x_filteredPast, x_chosenPulses, x_trialPulses, x_pulseSigns, x_excitation, x_receivedFields) (nI m) :=
  And.intro (vp_in_nI (by omega) (by omega)) (nm_r (e' := sp_ac x_correlation x_predictor m 0) (by rw [nI_clamp (by omega)]; rfl) (Exists.intro (m - 1 + 1) (sx_pm14 hm h (m - 1) 0 (by omega))))
theorem sx_ep27 {P N T : Nat} {x_pending : Int32} {x_encodedStream : Int64} {x_reflectionLevels x_pulseLevels x_memory x_history x_output x_fields x_frameCounts x_reflections x_samples x_rawReflections x_target x_impulseResponse x_pastExcitation x_filteredPast x_chosenPulses x_trialPulses x_pulseSigns x_excitation x_receivedFields : Nat → Int32} {x_correlation x_oldPredictor : Nat → Int64} {post : St2 → Prop} {A : Nat → Int64} {k : Int32} {kk : Int64} {m : Nat} (ek : k.toInt64 = kk) (h1 : 1 ≤ m) (hm : m ≤ P) (hP : P ≤ 6)
    (ho : ∀ j, 1 ≤ j → j < m → x_oldPredictor j = A j)
    (h : ∀ pr, (∀ j, 1 ≤ j → j ≤ P → pr j = sp_an A m kk j) → post ((nI P), (nI N), (nI T), x_pending, x_encodedStream, x_reflectionLevels, x_pulseLevels, x_memory, x_history, x_output, x_fields, x_frameCounts, x_reflections, x_samples, x_rawReflections, x_correlation, pr, x_oldPredictor, x_target, x_impulseResponse, x_pastExcitation, x_filteredPast, x_chosenPulses, x_trialPulses, x_pulseSigns, x_excitation, x_receivedFields)) :
    ∀ d i pr, i + d = m → 1 ≤ i → (∀ j, 1 ≤ j → j ≤ P → pr j = if j < i then sp_st kk (A j) (A (m - j)) else A j) → wX_extendPredictor_27 post (nI m) k (nI P) (nI N) (nI T) x_pending x_encodedStream (d + 1) (nI i) x_reflectionLevels x_pulseLevels x_memory x_history x_output x_fields x_frameCounts x_reflections x_samples x_rawReflections x_correlation pr x_oldPredictor x_target x_impulseResponse x_pastExcitation x_filteredPast x_chosenPulses x_trialPulses x_pulseSigns x_excitation x_receivedFields := by
  intro d
  induction d with
  | zero =>
    intro i pr hi h1i hp
    obtain rfl : i = m := by omega
    refine br_t (nI_le (by omega) (by omega)) ⟨vp_in_nI (by omega) (by omega), nm_e (h _ ?_)⟩
    intro j hj1 hj2
    rw [nI_clamp (by omega), ek]
    by_cases e : j = i
    · subst e
      rw [pk_uLs]
      exact (if_pos rfl).symm
    · rw [pk_uLn e, hp j hj1 hj2]
      unfold sp_an
      rw [if_neg e]
      by_cases e2 : j < i
      · rw [if_pos e2, if_pos ⟨hj1, e2⟩]
      · rw [if_neg e2, if_neg (fun z => e2 z.2)]
  | succ d ih =>
    intro i pr hi h1i hp
    refine br_f (nI_ge (by omega) (by omega)) ⟨vp_in_nI (by omega) (by omega), pk_in (m - i) 7 (by omega) (pk_sub (by omega)), vp_in_nI (by omega) (by omega), nm_e (nm_r (nI_1 i) (ih (i + 1) _ (by omega) (by omega) ?_))⟩
    intro j hj1 hj2
    rw [pk_sub (by omega), nI_clamp (by omega), nI_clamp (by omega), ek, ho i h1i (by omega), ho (m - i) (by omega) (by omega)]
    by_cases e : j = i
    · subst e
      rw [pk_uLs, if_pos (by omega)]
      rfl
    · rw [pk_uLn e, hp j hj1 hj2]
      by_cases e2 : j < i
      · rw [if_pos e2, if_pos (by omega)]
      · rw [if_neg e2, if_neg (by omega)]
theorem sx_ep2 {P N T : Nat} {x_pending : Int32} {x_encodedStream : Int64} {x_reflectionLevels x_pulseLevels x_memory x_history x_output x_fields x_frameCounts x_reflections x_samples x_rawReflections x_target x_impulseResponse x_pastExcitation x_filteredPast x_chosenPulses x_trialPulses x_pulseSigns x_excitation x_receivedFields : Nat → Int32} {x_correlation x_predictor : Nat → Int64} {post : St2 → Prop} {A : Nat → Int64} {k : Int32} {kk : Int64} {m : Nat} (ek : k.toInt64 = kk) (h1 : 1 ≤ m) (hm : m ≤ P) (hP : P ≤ 6)
    (ha : ∀ j, 1 ≤ j → j ≤ P → x_predictor j = A j)
    (h : ∀ pr op, (∀ j, 1 ≤ j → j ≤ P → pr j = sp_an A m kk j) → post ((nI P), (nI N), (nI T), x_pending, x_encodedStream, x_reflectionLevels, x_pulseLevels, x_memory, x_history, x_output, x_fields, x_frameCounts, x_reflections, x_samples, x_rawReflections, x_correlation, pr, op, x_target, x_impulseResponse, x_pastExcitation, x_filteredPast, x_chosenPulses, x_trialPulses, x_pulseSigns, x_excitation, x_receivedFields)) :
    ∀ d i op, i + d = m → 1 ≤ i → (∀ j, 1 ≤ j → j < i → op j = A j) → wX_extendPredictor_2 post (nI m) k (nI P) (nI N) (nI T) x_pending x_encodedStream (d + 1) (nI i) x_reflectionLevels x_pulseLevels x_memory x_history x_output x_fields x_frameCounts x_reflections x_samples x_rawReflections x_correlation x_predictor op x_target x_impulseResponse x_pastExcitation x_filteredPast x_chosenPulses x_trialPulses x_pulseSigns x_excitation x_receivedFields := by
  intro d
  induction d with
  | zero =>
    intro i op hi h1i hp
    obtain rfl : i = m := by omega
    exact br_t (nI_le (by omega) (by omega)) ⟨i - 1 + 1, sx_ep27 (x_oldPredictor := op) ek h1 hm hP hp (fun pr hpr => h pr op hpr) (i - 1) 1 x_predictor (by omega) (by omega) (fun j hj1 hj2 => by rw [if_neg (by omega)]; exact ha j hj1 hj2)⟩
  | succ d ih =>
    intro i op hi h1i hp
    refine br_f (nI_ge (by omega) (by omega)) ⟨vp_in_nI (by omega) (by omega), vp_in_nI (by omega) (by omega), nm_e (nm_r (nI_1 i) (ih (i + 1) _ (by omega) (by omega) ?_))⟩
    intro j hj1 hj2
    rw [nI_clamp (by omega)]
    by_cases e : j = i
    · subst e
      rw [pk_uLs]
      exact ha j hj1 (by omega)
    · rw [pk_uLn e]
      exact hp j hj1 (by omega)
theorem sx_ep {P N T : Nat} {x_pending : Int32} {x_encodedStream : Int64} {x_reflectionLevels x_pulseLevels x_memory x_history x_output x_fields x_frameCounts x_reflections x_samples x_rawReflections x_target x_impulseResponse x_pastExcitation x_filteredPast x_chosenPulses x_trialPulses x_pulseSigns x_excitation x_receivedFields : Nat → Int32} {x_correlation x_predictor x_oldPredictor : Nat → Int64} {post : St2 → Prop} {A : Nat → Int64} {k : Int32} {kk : Int64} {m : Nat} (ek : k.toInt64 = kk) (h1 : 1 ≤ m) (hm : m ≤ P) (hP : P ≤ 6)
    (ha : ∀ j, 1 ≤ j → j ≤ P → x_predictor j = A j)
    (h : ∀ pr op, (∀ j, 1 ≤ j → j ≤ P → pr j = sp_an A m kk j) → post ((nI P), (nI N), (nI T), x_pending, x_encodedStream, x_reflectionLevels, x_pulseLevels, x_memory, x_history, x_output, x_fields, x_frameCounts, x_reflections, x_samples, x_rawReflections, x_correlation, pr, op, x_target, x_impulseResponse, x_pastExcitation, x_filteredPast, x_chosenPulses, x_trialPulses, x_pulseSigns, x_excitation, x_receivedFields)) : wpX_extendPredictor post ((nI P), (nI N), (nI T), x_pending, x_encodedStream, x_reflectionLevels, x_pulseLevels, x_memory, x_history, x_output, x_fields, x_frameCounts, x_reflections, x_samples, x_rawReflections, x_correlation, x_predictor, x_oldPredictor, x_target, x_impulseResponse, x_pastExcitation, x_filteredPast, x_chosenPulses, x_trialPulses, x_pulseSigns, x_excitation, x_receivedFields) (nI m) k :=
  Exists.intro (m - 1 + 1) (sx_ep2 ek h1 hm hP ha h (m - 1) 1 x_oldPredictor (by omega) (by omega) (fun j hj1 hj2 => absurd hj2 (by omega)))
theorem sx_rr32 {P N T : Nat} {x_pending : Int32} {x_encodedStream : Int64} {x_reflectionLevels x_pulseLevels x_memory x_history x_output x_fields x_frameCounts x_reflections x_samples x_target x_impulseResponse x_pastExcitation x_filteredPast x_chosenPulses x_trialPulses x_pulseSigns x_excitation x_receivedFields : Nat → Int32} {x_correlation : Nat → Int64} {post : St2 → Prop} {r : Nat → Int64} (hP : P ≤ 6) (hc : ∀ i, i ≤ P → x_correlation i = r i)
    (h : ∀ raw pr op, (∀ j, j < P → raw j = (sp_lv r P).2.2 (j + 1)) → post ((nI P), (nI N), (nI T), x_pending, x_encodedStream, x_reflectionLevels, x_pulseLevels, x_memory, x_history, x_output, x_fields, x_frameCounts, x_reflections, x_samples, raw, x_correlation, pr, op, x_target, x_impulseResponse, x_pastExcitation, x_filteredPast, x_chosenPulses, x_trialPulses, x_pulseSigns, x_excitation, x_receivedFields)) :
    ∀ d m raw pr op, m + d = P → (∀ j, j < P → raw j = (sp_lv r m).2.2 (j + 1)) → (∀ j, 1 ≤ j → j ≤ P → pr j = (sp_lv r m).1 j) →
      wX_runRecursion_32 post (d + 1) (sp_lv r m).2.1 (nI (m + 1)) (nI P) (nI N) (nI T) x_pending x_encodedStream x_reflectionLevels x_pulseLevels x_memory x_history x_output x_fields x_frameCounts x_reflections x_samples raw x_correlation pr op x_target x_impulseResponse x_pastExcitation x_filteredPast x_chosenPulses x_trialPulses x_pulseSigns x_excitation x_receivedFields := by
  intro d
  induction d with
  | zero =>
    intro m raw pr op hm hr hp
    obtain rfl : m = P := by omega
    exact br_t (nI_lt (by omega) (by omega)) (h raw pr op hr)
  | succ d ih =>
    intro m raw pr op hm hr hp
    refine br_f (nI_nlt (by omega) (by omega)) ?_
    by_cases hE : 0 < (sp_lv r m).2.1
    · have e : sp_lv r (m + 1) = (sp_an (sp_lv r m).1 (m + 1) (sp_km r (sp_lv r m).1 (sp_lv r m).2.1 (m + 1)), sp_en (sp_lv r m).2.1 (sp_km r (sp_lv r m).1 (sp_lv r m).2.1 (m + 1)), upd (sp_lv r m).2.2 (m + 1) (sp_km r (sp_lv r m).1 (sp_lv r m).2.1 (m + 1)).toInt32) := if_pos hE
      have ea : sp_ac x_correlation pr (m + 1) m = sp_ac r (sp_lv r m).1 (m + 1) m := sp_ac_c (P := P) (by omega) (by omega) hc hp m (by omega)
      have ne : ¬ (sp_lv r m).2.1 = 0 := fun z => by rw [z] at hE; exact absurd hE (by decide)
      have ek : (sp_cl (-(sp_ac x_correlation pr (m + 1) m / (sp_lv r m).2.1))) = sp_km r (sp_lv r m).1 (sp_lv r m).2.1 (m + 1) := by rw [ea]; rfl
      refine br_f (Int64.not_le.mpr hE) (sx_pm (m := m + 1) (by omega) (by omega) ⟨ne, sx_clk ⟨pk_in m 6 (by omega) (nI_pred m), nm_e (sx_ep (A := (sp_lv r m).1) (sp_cl_64 _) (by omega) (by omega) hP hp (fun pr' op' hp' => ?_))⟩⟩)
      have i := ih (m + 1) (upd raw m (sp_km r (sp_lv r m).1 (sp_lv r m).2.1 (m + 1)).toInt32) pr' op' (by omega) (fun j hj => by
        rw [e]
        show upd raw m _ j = upd (sp_lv r m).2.2 (m + 1) _ (j + 1)
        by_cases q : j = m
        · subst q
          rw [pk_us, pk_us]
        · rw [pk_un q, pk_un (by omega)]
          exact hr j hj) (fun j h1 h2 => by
        rw [e]
        show pr' j = sp_an _ _ _ j
        rw [hp' j h1 h2]
        show sp_an _ _ (sp_cl (-(sp_ac x_correlation pr (m + 1) m / (sp_lv r m).2.1))) j = _
        rw [ek])
      rw [e] at i
      refine nm_r (e' := sp_en (sp_lv r m).2.1 (sp_km r (sp_lv r m).1 (sp_lv r m).2.1 (m + 1))) ?_ (nm_r (nI_1 (m + 1)) ?_)
      · show _ = sp_en (sp_lv r m).2.1 (sp_km r (sp_lv r m).1 (sp_lv r m).2.1 (m + 1))
        rw [← ek, sp_cl_64]
        rfl
      · rw [nI_pred, nI_clamp (by omega), show m + 1 - 1 = m from rfl, ek]
        exact i
    · have e : sp_lv r (m + 1) = sp_lv r m := if_neg hE
      have i := ih (m + 1) raw pr op (by omega) (by rw [e]; exact hr) (by rw [e]; exact hp)
      rw [e] at i
      exact br_t (Int64.not_lt.mp hE) (nm_r (nI_1 (m + 1)) i)
theorem sx_rr2 {P N T : Nat} {x_pending : Int32} {x_encodedStream : Int64} {x_reflectionLevels x_pulseLevels x_memory x_history x_output x_fields x_frameCounts x_reflections x_samples x_rawReflections x_target x_impulseResponse x_pastExcitation x_filteredPast x_chosenPulses x_trialPulses x_pulseSigns x_excitation x_receivedFields : Nat → Int32} {x_correlation x_oldPredictor : Nat → Int64} {post : St2 → Prop} {r : Nat → Int64} (hP : P ≤ 6) (hc : ∀ i, i ≤ P → x_correlation i = r i) (hr0 : ∀ j, j < P → x_rawReflections j = 0)
    (h : ∀ raw pr op, (∀ j, j < P → raw j = (sp_lv r P).2.2 (j + 1)) → post ((nI P), (nI N), (nI T), x_pending, x_encodedStream, x_reflectionLevels, x_pulseLevels, x_memory, x_history, x_output, x_fields, x_frameCounts, x_reflections, x_samples, raw, x_correlation, pr, op, x_target, x_impulseResponse, x_pastExcitation, x_filteredPast, x_chosenPulses, x_trialPulses, x_pulseSigns, x_excitation, x_receivedFields)) :
    ∀ d i pr, i + d = P + 1 → 1 ≤ i → (∀ j, 1 ≤ j → j < i → pr j = 0) → wX_runRecursion_2 post (nI P) (nI N) (nI T) x_pending x_encodedStream (d + 1) (nI i) x_reflectionLevels x_pulseLevels x_memory x_history x_output x_fields x_frameCounts x_reflections x_samples x_rawReflections x_correlation pr x_oldPredictor x_target x_impulseResponse x_pastExcitation x_filteredPast x_chosenPulses x_trialPulses x_pulseSigns x_excitation x_receivedFields := by
  intro d
  induction d with
  | zero =>
    intro i pr hi h1 hp
    refine br_t (nI_lt (by omega) (by omega)) (nm_r (e' := (sp_lv r 0).2.1) (hc 0 (by omega)) ⟨P + 1, ?_⟩)
    exact sx_rr32 hP hc h P 0 x_rawReflections pr x_oldPredictor (by omega) (fun j hj => hr0 j hj) (fun j h1 h2 => hp j h1 (by omega))
  | succ d ih =>
    intro i pr hi h1 hp
    refine br_f (nI_nlt (by omega) (by omega)) ⟨vp_in_nI (by omega) (by omega), nm_e (nm_r (nI_1 i) (ih (i + 1) _ (by omega) (by omega) ?_))⟩
    intro j hj1 hj2
    rw [nI_clamp (by omega)]
    by_cases e : j = i
    · subst e
      rw [pk_uLs]
    · rw [pk_uLn e]
      exact hp j hj1 (by omega)
theorem sx_rr {P N T : Nat} {x_pending : Int32} {x_encodedStream : Int64} {x_reflectionLevels x_pulseLevels x_memory x_history x_output x_fields x_frameCounts x_reflections x_samples x_rawReflections x_target x_impulseResponse x_pastExcitation x_filteredPast x_chosenPulses x_trialPulses x_pulseSigns x_excitation x_receivedFields : Nat → Int32} {x_correlation x_predictor x_oldPredictor : Nat → Int64} {post : St2 → Prop} {r : Nat → Int64} (hP : P ≤ 6) (hc : ∀ i, i ≤ P → x_correlation i = r i) (hr0 : ∀ j, j < P → x_rawReflections j = 0)
    (h : ∀ raw pr op, (∀ j, j < P → raw j = (sp_lv r P).2.2 (j + 1)) → post ((nI P), (nI N), (nI T), x_pending, x_encodedStream, x_reflectionLevels, x_pulseLevels, x_memory, x_history, x_output, x_fields, x_frameCounts, x_reflections, x_samples, raw, x_correlation, pr, op, x_target, x_impulseResponse, x_pastExcitation, x_filteredPast, x_chosenPulses, x_trialPulses, x_pulseSigns, x_excitation, x_receivedFields)) : wpX_runRecursion post ((nI P), (nI N), (nI T), x_pending, x_encodedStream, x_reflectionLevels, x_pulseLevels, x_memory, x_history, x_output, x_fields, x_frameCounts, x_reflections, x_samples, x_rawReflections, x_correlation, x_predictor, x_oldPredictor, x_target, x_impulseResponse, x_pastExcitation, x_filteredPast, x_chosenPulses, x_trialPulses, x_pulseSigns, x_excitation, x_receivedFields) :=
  Exists.intro (P + 1) (sx_rr2 hP hc hr0 h P 1 x_predictor (by omega) (by omega) (fun j hj1 hj2 => absurd hj2 (by omega)))
theorem sx_dr2 {P N T : Nat} {x_pending : Int32} {x_encodedStream : Int64} {x_reflectionLevels x_pulseLevels x_memory x_history x_output x_fields x_frameCounts x_reflections x_samples x_target x_impulseResponse x_pastExcitation x_filteredPast x_chosenPulses x_trialPulses x_pulseSigns x_excitation x_receivedFields : Nat → Int32} {x_correlation x_predictor x_oldPredictor : Nat → Int64} {post : St2 → Prop} {s : Nat → Int32} (es : x_samples = s) (hs : sp_bd s) (hN8 : 8 ≤ N) (hN : N ≤ 32) (hP : P ≤ 6)
    (h : ∀ raw co pr op, (∀ j, j < P → raw j = sp_K s N P (j + 1)) → post ((nI P), (nI N), (nI T), x_pending, x_encodedStream, x_reflectionLevels, x_pulseLevels, x_memory, x_history, x_output, x_fields, x_frameCounts, x_reflections, x_samples, raw, co, pr, op, x_target, x_impulseResponse, x_pastExcitation, x_filteredPast, x_chosenPulses, x_trialPulses, x_pulseSigns, x_excitation, x_receivedFields)) :
    ∀ d i raw, i + d = P → (∀ j, j < i → raw j = 0) → wX_deriveRawReflections_2 post (nI P) (nI N) (nI T) x_pending x_encodedStream (d + 1) (nI i) x_reflectionLevels x_pulseLevels x_memory x_history x_output x_fields x_frameCounts x_reflections x_samples raw x_correlation x_predictor x_oldPredictor x_target x_impulseResponse x_pastExcitation x_filteredPast x_chosenPulses x_trialPulses x_pulseSigns x_excitation x_receivedFields := by
  subst es
  have b := sp_R0_r hs hN
  intro d
  induction d with
  | zero =>
    intro i raw hi hr
    obtain rfl : i = P := by omega
    refine br_t (nI_le (by omega) (by omega)) (sx_mc hN8 hN hP (fun co hco => ?_))
    have c0 := hco 0 (by omega)
    by_cases z : sp_R x_samples N 0 = 0
    · refine br_t ?_ (h raw co x_predictor x_oldPredictor (fun j hj => ?_))
      · rw [c0, z]
        exact Int64.le_refl 0
      · rw [hr j hj]
        exact (if_pos z).symm
    · refine br_f ?_ (sx_sc hs hN hP hco (fun co' hco' => sx_rr hP hco' hr (fun raw' pr' op' hr' => h raw' co' pr' op' (fun j hj => ?_))))
      · rw [c0]
        exact Int64.not_le.mpr ((sp_R0_0 b.1).mpr z)
      · rw [hr' j hj]
        exact (if_neg z).symm
  | succ d ih =>
    intro i raw hi hr
    refine br_f (nI_ge (by omega) (by omega)) ⟨vp_in_nI (by omega) (by omega), nm_e (nm_r (nI_1 i) (ih (i + 1) _ (by omega) ?_))⟩
    intro j hj
    rw [nI_clamp (by omega)]
    by_cases e : j = i
    · subst e
      rw [pk_us]
    · rw [pk_un e]
      exact hr j (by omega)
theorem sx_dr {P N T : Nat} {x_pending : Int32} {x_encodedStream : Int64} {x_reflectionLevels x_pulseLevels x_memory x_history x_output x_fields x_frameCounts x_reflections x_samples x_rawReflections x_target x_impulseResponse x_pastExcitation x_filteredPast x_chosenPulses x_trialPulses x_pulseSigns x_excitation x_receivedFields : Nat → Int32} {x_correlation x_predictor x_oldPredictor : Nat → Int64} {post : St2 → Prop} {s : Nat → Int32} (es : x_samples = s) (hs : sp_bd s) (hN8 : 8 ≤ N) (hN : N ≤ 32) (hP : P ≤ 6)
    (h : ∀ raw co pr op, (∀ j, j < P → raw j = sp_K s N P (j + 1)) → post ((nI P), (nI N), (nI T), x_pending, x_encodedStream, x_reflectionLevels, x_pulseLevels, x_memory, x_history, x_output, x_fields, x_frameCounts, x_reflections, x_samples, raw, co, pr, op, x_target, x_impulseResponse, x_pastExcitation, x_filteredPast, x_chosenPulses, x_trialPulses, x_pulseSigns, x_excitation, x_receivedFields)) : wpX_deriveRawReflections post ((nI P), (nI N), (nI T), x_pending, x_encodedStream, x_reflectionLevels, x_pulseLevels, x_memory, x_history, x_output, x_fields, x_frameCounts, x_reflections, x_samples, x_rawReflections, x_correlation, x_predictor, x_oldPredictor, x_target, x_impulseResponse, x_pastExcitation, x_filteredPast, x_chosenPulses, x_trialPulses, x_pulseSigns, x_excitation, x_receivedFields) :=
  Exists.intro (P + 1) (sx_dr2 es hs hN8 hN hP h P 0 x_rawReflections (by omega) (fun j hj => absurd hj (by omega)))
end
section
/-! the component: quantisation, the lattice, target, impulse response -/
theorem sx_ds {post : Int32 → Prop} {a b : Int32} (h : post (sp_ds a b)) : wpX_distance post () a b := by
  unfold wpX_distance
  unfold sp_ds at h
  refine br_c (fun z => ?_) (fun z => ?_)
  · rw [if_neg (Int32.not_lt.mpr z)] at h
    exact h
  · rw [if_pos (Int32.not_le.mp z)] at h
    exact h
theorem sx_nl16 {P N T : Nat} {x_pending : Int32} {x_encodedStream : Int64} {x_reflectionLevels x_pulseLevels x_memory x_history x_output x_fields x_frameCounts x_reflections x_samples x_rawReflections x_target x_impulseResponse x_pastExcitation x_filteredPast x_chosenPulses x_trialPulses x_pulseSigns x_excitation x_receivedFields : Nat → Int32} {x_correlation x_predictor x_oldPredictor : Nat → Int64} {post : Int32 → Prop} {k : Int32} (hk : ∀ j, j < 16 → x_reflectionLevels j = sp_kq j) (h : post (nI (sp_nq k))) :
    ∀ d i, i + d = 15 → wX_nearestReflectionLevel_16 post k (nI P) (nI N) (nI T) x_pending x_encodedStream x_reflectionLevels x_pulseLevels x_memory x_history x_output x_fields x_frameCounts x_reflections x_samples x_rawReflections x_correlation x_predictor x_oldPredictor x_target x_impulseResponse x_pastExcitation x_filteredPast x_chosenPulses x_trialPulses x_pulseSigns x_excitation x_receivedFields (d + 1) (nI (sp_qs k i).1) (sp_qs k i).2 (nI (i + 1)) := by
  intro d
  induction d with
  | zero =>
    intro i hi
    obtain rfl : i = 15 := by omega
    exact br_t (nI_le (a := 16) (by omega) (by omega)) h
  | succ d ih =>
    intro i hi
    refine br_f (nI_ge (b := 16) (by omega) (by omega)) ⟨vp_in_nI (by omega) (by omega), sx_ds ?_⟩
    rw [nI_clamp (by omega), hk _ (by omega)]
    have t := ih (i + 1) (by omega)
    by_cases c : sp_ds k (sp_kq (i + 1)) < (sp_qs k i).2
    · rw [show sp_qs k (i + 1) = (i + 1, sp_ds k (sp_kq (i + 1))) from if_pos c] at t
      exact br_f (Int32.not_le.mpr c) (nm_r (nI_1 (i + 1)) t)
    · rw [show sp_qs k (i + 1) = sp_qs k i from if_neg c] at t
      exact br_t (Int32.not_lt.mp c) (nm_r (nI_1 (i + 1)) t)
theorem sx_nl {P N T : Nat} {x_pending : Int32} {x_encodedStream : Int64} {x_reflectionLevels x_pulseLevels x_memory x_history x_output x_fields x_frameCounts x_reflections x_samples x_rawReflections x_target x_impulseResponse x_pastExcitation x_filteredPast x_chosenPulses x_trialPulses x_pulseSigns x_excitation x_receivedFields : Nat → Int32} {x_correlation x_predictor x_oldPredictor : Nat → Int64} {post : Int32 → Prop} {k : Int32} (hk : ∀ j, j < 16 → x_reflectionLevels j = sp_kq j) (h : post (nI (sp_nq k))) : wpX_nearestReflectionLevel post ((nI P), (nI N), (nI T), x_pending, x_encodedStream, x_reflectionLevels, x_pulseLevels, x_memory, x_history, x_output, x_fields, x_frameCounts, x_reflections, x_samples, x_rawReflections, x_correlation, x_predictor, x_oldPredictor, x_target, x_impulseResponse, x_pastExcitation, x_filteredPast, x_chosenPulses, x_trialPulses, x_pulseSigns, x_excitation, x_receivedFields) k := by
  unfold wpX_nearestReflectionLevel
  dsimp only
  refine sx_ds (Exists.intro 16 ?_)
  rw [hk 0 (by omega)]
  exact sx_nl16 hk h 15 0 (by omega)
theorem sx_qr2 {P N T : Nat} {x_pending : Int32} {x_encodedStream : Int64} {x_reflectionLevels x_pulseLevels x_memory x_history x_output x_fields x_frameCounts x_reflections x_samples x_rawReflections x_target x_impulseResponse x_pastExcitation x_filteredPast x_chosenPulses x_trialPulses x_pulseSigns x_excitation x_receivedFields : Nat → Int32} {x_correlation x_predictor x_oldPredictor : Nat → Int64} {post : St2 → Prop} {k : Nat → Int32} (hP : P ≤ 6) (hk : ∀ j, j < 16 → x_reflectionLevels j = sp_kq j) (hr : ∀ j, j < P → x_rawReflections j = k j)
    (h : post ((nI P), (nI N), (nI T), x_pending, x_encodedStream, x_reflectionLevels, x_pulseLevels, x_memory, x_history, x_output, (sp_fo (fun m => nI (sp_nq (k m))) 11 P x_fields), x_frameCounts, (sp_fl (fun m => sp_kq (sp_nq (k m))) P x_reflections), x_samples, x_rawReflections, x_correlation, x_predictor, x_oldPredictor, x_target, x_impulseResponse, x_pastExcitation, x_filteredPast, x_chosenPulses, x_trialPulses, x_pulseSigns, x_excitation, x_receivedFields)) :
    ∀ d i, i + d = P → wX_quantiseReflections_2 post (nI P) (nI N) (nI T) x_pending x_encodedStream (d + 1) (nI i) x_reflectionLevels x_pulseLevels x_memory x_history x_output (sp_fo (fun m => nI (sp_nq (k m))) 11 i x_fields) x_frameCounts (sp_fl (fun m => sp_kq (sp_nq (k m))) i x_reflections) x_samples x_rawReflections x_correlation x_predictor x_oldPredictor x_target x_impulseResponse x_pastExcitation x_filteredPast x_chosenPulses x_trialPulses x_pulseSigns x_excitation x_receivedFields := by
  intro d
  induction d with
  | zero =>
    intro i hi
    obtain rfl : i = P := by omega
    exact br_t (nI_le (by omega) (by omega)) h
  | succ d ih =>
    intro i hi
    refine br_f (nI_ge (by omega) (by omega)) ⟨vp_in_nI (by omega) (by omega), sx_nl hk ?_⟩
    rw [nI_clamp (by omega), hr i (by omega)]
    have q := sp_nq_b (k i)
    refine ⟨pk_in (11 + i) 34 (by omega) (nI_add 11 i), nm_r ?_ ⟨vp_in_nI q (by omega), pk_in i 12 (by omega) (Int32.zero_add _), nm_r ?_ (nm_r (nI_1 i) (ih (i + 1) (by omega)))⟩⟩
    · rw [show (11 : Int32) + nI i = nI (11 + i) from nI_add 11 i, nI_clamp (by omega)]
      exact sp_foS (g := fun m => nI (sp_nq (k m)))
    · rw [Int32.zero_add, nI_clamp (by omega), nI_clamp (by omega), hk _ q]
      exact sp_flS (g := fun m => sp_kq (sp_nq (k m)))
theorem sx_qr {P N T : Nat} {x_pending : Int32} {x_encodedStream : Int64} {x_reflectionLevels x_pulseLevels x_memory x_history x_output x_fields x_frameCounts x_reflections x_samples x_rawReflections x_target x_impulseResponse x_pastExcitation x_filteredPast x_chosenPulses x_trialPulses x_pulseSigns x_excitation x_receivedFields : Nat → Int32} {x_correlation x_predictor x_oldPredictor : Nat → Int64} {post : St2 → Prop} {k : Nat → Int32} (hP : P ≤ 6) (hk : ∀ j, j < 16 → x_reflectionLevels j = sp_kq j) (hr : ∀ j, j < P → x_rawReflections j = k j)
    (h : post ((nI P), (nI N), (nI T), x_pending, x_encodedStream, x_reflectionLevels, x_pulseLevels, x_memory, x_history, x_output, (sp_fo (fun m => nI (sp_nq (k m))) 11 P x_fields), x_frameCounts, (sp_fl (fun m => sp_kq (sp_nq (k m))) P x_reflections), x_samples, x_rawReflections, x_correlation, x_predictor, x_oldPredictor, x_target, x_impulseResponse, x_pastExcitation, x_filteredPast, x_chosenPulses, x_trialPulses, x_pulseSigns, x_excitation, x_receivedFields)) : wpX_quantiseReflections post ((nI P), (nI N), (nI T), x_pending, x_encodedStream, x_reflectionLevels, x_pulseLevels, x_memory, x_history, x_output, x_fields, x_frameCounts, x_reflections, x_samples, x_rawReflections, x_correlation, x_predictor, x_oldPredictor, x_target, x_impulseResponse, x_pastExcitation, x_filteredPast, x_chosenPulses, x_trialPulses, x_pulseSigns, x_excitation, x_receivedFields) := by
  have t := sx_qr2 hP hk hr h P 0 (by omega)
  rw [sp_fl0, sp_fo0] at t
  exact Exists.intro _ t
theorem sx_satE {post : Int32 → Prop} {w v : Int32} (e : sp_sat w = v) (h : post v) : wpX_saturate post () w.toInt64 := sx_satI (by rw [e]; exact h)
theorem sp_x4 (a j : Nat) : nI a - 1 + nI (j + 1) = nI (a + j) := by
  rw [← nI_1, ← nI_add]
  grind
theorem sx_lat23 {P N T : Nat} {x_pending : Int32} {x_encodedStream : Int64} {x_reflectionLevels x_pulseLevels x_history x_output x_fields x_frameCounts x_reflections x_samples x_rawReflections x_target x_impulseResponse x_pastExcitation x_filteredPast x_chosenPulses x_trialPulses x_pulseSigns x_excitation x_receivedFields : Nat → Int32} {x_correlation x_predictor x_oldPredictor : Nat → Int64} {post : Int32 → St2 → Prop} {c : Nat → Int32} {sd B : Nat} {x4 : Int32} (hP1 : 1 ≤ P) (hP : P ≤ 6) (hsd : sd ≤ 1) (hB : B + P ≤ 18)
    (hc : ∀ j, j < P → x_reflections (sd * 6 + j) = c (j + 1)) (hx : ∀ j, x4 + nI (j + 1) = nI (sd * 6 + j)) :
    ∀ j f b M, j ≤ P → sp_row B P M b → (∀ M', sp_row B P M' (sp_go c P j f b).2 → (∀ q, q < B ∨ B + P ≤ q → M' q = M q) → post (sp_go c P j f b).1 ((nI P), (nI N), (nI T), x_pending, x_encodedStream, x_reflectionLevels, x_pulseLevels, M', x_history, x_output, x_fields, x_frameCounts, x_reflections, x_samples, x_rawReflections, x_correlation, x_predictor, x_oldPredictor, x_target, x_impulseResponse, x_pastExcitation, x_filteredPast, x_chosenPulses, x_trialPulses, x_pulseSigns, x_excitation, x_receivedFields)) →
      wX_latticeStep_23 post x4 (nI B) (nI P) (nI N) (nI T) x_pending x_encodedStream (j + 1) f (nI j) x_reflectionLevels x_pulseLevels M x_history x_output x_fields x_frameCounts x_reflections x_samples x_rawReflections x_correlation x_predictor x_oldPredictor x_target x_impulseResponse x_pastExcitation x_filteredPast x_chosenPulses x_trialPulses x_pulseSigns x_excitation x_receivedFields := by
  intro j
  induction j with
  | zero =>
    intro f b M _ hr h
    refine br_t (nI_lt (b := 1) (by omega) (by omega)) ⟨vp_in_nI (by omega) (by omega), nm_e (h _ ?_ ?_)⟩
    · rw [nI_clamp (by omega)]
      exact sp_row_u (k := 0) hr
    · intro q hq
      rw [nI_clamp (by omega), pk_un (by omega)]
  | succ j ih =>
    intro f b M hj hr h
    have eB : nI B + nI (j + 1) - 1 = nI (B + j) := by
      rw [nI_add]
      exact nI_pred (B + j)
    refine br_f (nI_nlt (b := 1) (by omega) (by omega)) ⟨pk_in (sd * 6 + j) 12 (by omega) (hx j), pk_in (B + j) 18 (by omega) eB, sx_satE (v := sp_lf c b j f) ?_ ?_⟩
    · rw [hx j, eB, nI_clamp (by omega), nI_clamp (by omega), hc j (by omega), hr j (by omega)]
      rfl
    · by_cases hjP : j + 1 < P
      · have eg : sp_go c P (j + 1) f b = sp_go c P j (sp_lf c b j f) (upd b (j + 1) (sp_lb c b j (sp_lf c b j f))) := by
          show sp_go c P j (sp_lf c b j f) (if j + 1 < P then upd b (j + 1) (sp_lb c b j (sp_lf c b j f)) else b) = _
          rw [if_pos hjP]
        rw [eg] at h
        refine br_f (nI_ge hjP (by omega)) ⟨pk_in (B + j) 18 (by omega) eB, pk_in (sd * 6 + j) 12 (by omega) (hx j), sx_satE (v := sp_lb c b j (sp_lf c b j f)) ?_ ⟨pk_in (B + (j + 1)) 18 (by omega) (nI_add B (j + 1)), nm_r (e' := upd M (B + (j + 1)) (sp_lb c b j (sp_lf c b j f))) ?_ (nm_r (pk_m1 j) (ih _ _ _ (by omega) (sp_row_u hr) (fun M' h1 h2 => h M' h1 (fun q hq => ?_))))⟩⟩
        · rw [hx j, eB, nI_clamp (by omega), nI_clamp (by omega), hc j (by omega), hr j (by omega)]
          rfl
        · rw [nI_add, nI_clamp (by omega)]
        · rw [h2 q hq, pk_un (by omega)]
      · have eg : sp_go c P (j + 1) f b = sp_go c P j (sp_lf c b j f) b := by
          show sp_go c P j (sp_lf c b j f) (if j + 1 < P then upd b (j + 1) (sp_lb c b j (sp_lf c b j f)) else b) = _
          rw [if_neg hjP]
        rw [eg] at h
        exact br_t (nI_le (by omega) (by omega)) (nm_r (pk_m1 j) (ih _ _ _ (by omega) hr h))
theorem sx_lat {P N T : Nat} {x_pending : Int32} {x_encodedStream : Int64} {x_reflectionLevels x_pulseLevels x_memory x_history x_output x_fields x_frameCounts x_reflections x_samples x_rawReflections x_target x_impulseResponse x_pastExcitation x_filteredPast x_chosenPulses x_trialPulses x_pulseSigns x_excitation x_receivedFields : Nat → Int32} {x_correlation x_predictor x_oldPredictor : Nat → Int64} {post : Int32 → St2 → Prop} {c b : Nat → Int32} {e : Int32} {sd rw : Nat} (hP1 : 1 ≤ P) (hP : P ≤ 6) (hsd : sd ≤ 1) (hB : rw ≤ 2)
    (hc : ∀ j, j < P → x_reflections (sd * 6 + j) = c (j + 1)) (hr : sp_row (rw * 6) P x_memory b)
    (h : ∀ M', sp_row (rw * 6) P M' (sp_go c P P e b).2 → (∀ q, q < rw * 6 ∨ rw * 6 + P ≤ q → M' q = x_memory q) → post (sp_go c P P e b).1 ((nI P), (nI N), (nI T), x_pending, x_encodedStream, x_reflectionLevels, x_pulseLevels, M', x_history, x_output, x_fields, x_frameCounts, x_reflections, x_samples, x_rawReflections, x_correlation, x_predictor, x_oldPredictor, x_target, x_impulseResponse, x_pastExcitation, x_filteredPast, x_chosenPulses, x_trialPulses, x_pulseSigns, x_excitation, x_receivedFields)) :
    wpX_latticeStep post ((nI P), (nI N), (nI T), x_pending, x_encodedStream, x_reflectionLevels, x_pulseLevels, x_memory, x_history, x_output, x_fields, x_frameCounts, x_reflections, x_samples, x_rawReflections, x_correlation, x_predictor, x_oldPredictor, x_target, x_impulseResponse, x_pastExcitation, x_filteredPast, x_chosenPulses, x_trialPulses, x_pulseSigns, x_excitation, x_receivedFields) (nI sd) (nI rw) e :=
  nm_e (nm_r (pk_mul rw 6) (Exists.intro (P + 1) (sx_lat23 hP1 hP hsd (by omega) hc (fun j => by rw [show nI sd * 6 = nI (sd * 6) from pk_mul sd 6]; exact sp_x4 _ _) P e b x_memory (Nat.le_refl P) hr h)))
theorem sx_lat23_3 {P N T : Nat} {x_pending : Int32} {x_encodedStream : Int64} {x_reflectionLevels x_pulseLevels x_history x_output x_fields x_frameCounts x_reflections x_samples x_rawReflections x_target x_impulseResponse x_pastExcitation x_filteredPast x_chosenPulses x_trialPulses x_pulseSigns x_excitation x_receivedFields : Nat → Int32} {x_correlation x_predictor x_oldPredictor : Nat → Int64} {post : Int32 → St2 → Prop} {c : Nat → Int32} {sd B : Nat} {x4 : Int32} (hP1 : 1 ≤ P) (hP : P ≤ 6) (hsd : sd ≤ 1) (hB : B + P ≤ 18)
    (hc : ∀ j, j < P → x_reflections (sd * 6 + j) = c (j + 1)) (hx : ∀ j, x4 + nI (j + 1) = nI (sd * 6 + j)) :
    ∀ j f b M, j ≤ P → sp_row B P M b → (∀ M', sp_row B P M' (sp_go c P j f b).2 → (∀ q, q < B ∨ B + P ≤ q → M' q = M q) → post (sp_go c P j f b).1 ((nI P), (nI N), (nI T), x_pending, x_encodedStream, x_reflectionLevels, x_pulseLevels, M', x_history, x_output, x_fields, x_frameCounts, x_reflections, x_samples, x_rawReflections, x_correlation, x_predictor, x_oldPredictor, x_target, x_impulseResponse, x_pastExcitation, x_filteredPast, x_chosenPulses, x_trialPulses, x_pulseSigns, x_excitation, x_receivedFields)) →
      wX_latticeStep_3_23 post x4 (nI B) (nI P) (nI N) (nI T) x_pending x_encodedStream (j + 1) f (nI j) x_reflectionLevels x_pulseLevels M x_history x_output x_fields x_frameCounts x_reflections x_samples x_rawReflections x_correlation x_predictor x_oldPredictor x_target x_impulseResponse x_pastExcitation x_filteredPast x_chosenPulses x_trialPulses x_pulseSigns x_excitation x_receivedFields := by
  intro j
  induction j with
  | zero =>
    intro f b M _ hr h
    refine br_t (nI_lt (b := 1) (by omega) (by omega)) ⟨vp_in_nI (by omega) (by omega), nm_e (h _ ?_ ?_)⟩
    · rw [nI_clamp (by omega)]
      exact sp_row_u (k := 0) hr
    · intro q hq
      rw [nI_clamp (by omega), pk_un (by omega)]
  | succ j ih =>
    intro f b M hj hr h
    have eB : nI B + nI (j + 1) - 1 = nI (B + j) := by
      rw [nI_add]
      exact nI_pred (B + j)
    refine br_f (nI_nlt (b := 1) (by omega) (by omega)) ⟨pk_in (sd * 6 + j) 12 (by omega) (hx j), pk_in (B + j) 18 (by omega) eB, sx_satE (v := sp_lf c b j f) ?_ ?_⟩
    · rw [hx j, eB, nI_clamp (by omega), nI_clamp (by omega), hc j (by omega), hr j (by omega)]
      rfl
    · by_cases hjP : j + 1 < P
      · have eg : sp_go c P (j + 1) f b = sp_go c P j (sp_lf c b j f) (upd b (j + 1) (sp_lb c b j (sp_lf c b j f))) := by
          show sp_go c P j (sp_lf c b j f) (if j + 1 < P then upd b (j + 1) (sp_lb c b j (sp_lf c b j f)) else b) = _
          rw [if_pos hjP]
        rw [eg] at h
        refine br_f (nI_ge hjP (by omega)) ⟨pk_in (B + j) 18 (by omega) eB, pk_in (sd * 6 + j) 12 (by omega) (hx j), sx_satE (v := sp_lb c b j (sp_lf c b j f)) ?_ ⟨pk_in (B + (j + 1)) 18 (by omega) (nI_add B (j + 1)), nm_r (e' := upd M (B + (j + 1)) (sp_lb c b j (sp_lf c b j f))) ?_ (nm_r (pk_m1 j) (ih _ _ _ (by omega) (sp_row_u hr) (fun M' h1 h2 => h M' h1 (fun q hq => ?_))))⟩⟩
        · rw [hx j, eB, nI_clamp (by omega), nI_clamp (by omega), hc j (by omega), hr j (by omega)]
          rfl
        · rw [nI_add, nI_clamp (by omega)]
        · rw [h2 q hq, pk_un (by omega)]
      · have eg : sp_go c P (j + 1) f b = sp_go c P j (sp_lf c b j f) b := by
          show sp_go c P j (sp_lf c b j f) (if j + 1 < P then upd b (j + 1) (sp_lb c b j (sp_lf c b j f)) else b) = _
          rw [if_neg hjP]
        rw [eg] at h
        exact br_t (nI_le (by omega) (by omega)) (nm_r (pk_m1 j) (ih _ _ _ (by omega) hr h))
theorem sx_lat_3 {P N T : Nat} {x_pending : Int32} {x_encodedStream : Int64} {x_reflectionLevels x_pulseLevels x_memory x_history x_output x_fields x_frameCounts x_reflections x_samples x_rawReflections x_target x_impulseResponse x_pastExcitation x_filteredPast x_chosenPulses x_trialPulses x_pulseSigns x_excitation x_receivedFields : Nat → Int32} {x_correlation x_predictor x_oldPredictor : Nat → Int64} {post : Int32 → St2 → Prop} {c b : Nat → Int32} {e : Int32} {sd rw : Nat} (hP1 : 1 ≤ P) (hP : P ≤ 6) (hsd : sd ≤ 1) (hB : rw ≤ 2)
    (hc : ∀ j, j < P → x_reflections (sd * 6 + j) = c (j + 1)) (hr : sp_row (rw * 6) P x_memory b)
    (h : ∀ M', sp_row (rw * 6) P M' (sp_go c P P e b).2 → (∀ q, q < rw * 6 ∨ rw * 6 + P ≤ q → M' q = x_memory q) → post (sp_go c P P e b).1 ((nI P), (nI N), (nI T), x_pending, x_encodedStream, x_reflectionLevels, x_pulseLevels, M', x_history, x_output, x_fields, x_frameCounts, x_reflections, x_samples, x_rawReflections, x_correlation, x_predictor, x_oldPredictor, x_target, x_impulseResponse, x_pastExcitation, x_filteredPast, x_chosenPulses, x_trialPulses, x_pulseSigns, x_excitation, x_receivedFields)) :
    wpX_latticeStep_3 post ((nI P), (nI N), (nI T), x_pending, x_encodedStream, x_reflectionLevels, x_pulseLevels, x_memory, x_history, x_output, x_fields, x_frameCounts, x_reflections, x_samples, x_rawReflections, x_correlation, x_predictor, x_oldPredictor, x_target, x_impulseResponse, x_pastExcitation, x_filteredPast, x_chosenPulses, x_trialPulses, x_pulseSigns, x_excitation, x_receivedFields) (nI sd) (nI rw) e :=
  nm_e (nm_r (pk_mul rw 6) (Exists.intro (P + 1) (sx_lat23_3 hP1 hP hsd (by omega) hc (fun j => by rw [show nI sd * 6 = nI (sd * 6) from pk_mul sd 6]; exact sp_x4 _ _) P e b x_memory (Nat.le_refl P) hr h)))
theorem sx_lat23_2 {P N T : Nat} {x_pending : Int32} {x_encodedStream : Int64} {x_reflectionLevels x_pulseLevels x_history x_output x_fields x_frameCounts x_reflections x_samples x_rawReflections x_target x_impulseResponse x_pastExcitation x_filteredPast x_chosenPulses x_trialPulses x_pulseSigns x_excitation x_receivedFields : Nat → Int32} {x_correlation x_predictor x_oldPredictor : Nat → Int64} {post : Int32 → St2 → Prop} {c : Nat → Int32} {sd B : Nat} {x4 : Int32} (hP1 : 1 ≤ P) (hP : P ≤ 6) (hsd : sd ≤ 1) (hB : B + P ≤ 18)
    (hc : ∀ j, j < P → x_reflections (sd * 6 + j) = c (j + 1)) (hx : ∀ j, x4 + nI (j + 1) = nI (sd * 6 + j)) :
    ∀ j f b M, j ≤ P → sp_row B P M b → (∀ M', sp_row B P M' (sp_go c P j f b).2 → (∀ q, q < B ∨ B + P ≤ q → M' q = M q) → post (sp_go c P j f b).1 ((nI P), (nI N), (nI T), x_pending, x_encodedStream, x_reflectionLevels, x_pulseLevels, M', x_history, x_output, x_fields, x_frameCounts, x_reflections, x_samples, x_rawReflections, x_correlation, x_predictor, x_oldPredictor, x_target, x_impulseResponse, x_pastExcitation, x_filteredPast, x_chosenPulses, x_trialPulses, x_pulseSigns, x_excitation, x_receivedFields)) →
      wX_latticeStep_2_23 post x4 (nI B) (nI P) (nI N) (nI T) x_pending x_encodedStream (j + 1) f (nI j) x_reflectionLevels x_pulseLevels M x_history x_output x_fields x_frameCounts x_reflections x_samples x_rawReflections x_correlation x_predictor x_oldPredictor x_target x_impulseResponse x_pastExcitation x_filteredPast x_chosenPulses x_trialPulses x_pulseSigns x_excitation x_receivedFields := by
  intro j
  induction j with
  | zero =>
    intro f b M _ hr h
    refine br_t (nI_lt (b := 1) (by omega) (by omega)) ⟨vp_in_nI (by omega) (by omega), nm_e (h _ ?_ ?_)⟩
    · rw [nI_clamp (by omega)]
      exact sp_row_u (k := 0) hr
    · intro q hq
      rw [nI_clamp (by omega), pk_un (by omega)]
  | succ j ih =>
    intro f b M hj hr h
    have eB : nI B + nI (j + 1) - 1 = nI (B + j) := by
      rw [nI_add]
      exact nI_pred (B + j)
    refine br_f (nI_nlt (b := 1) (by omega) (by omega)) ⟨pk_in (sd * 6 + j) 12 (by omega) (hx j), pk_in (B + j) 18 (by omega) eB, sx_satE (v := sp_lf c b j f) ?_ ?_⟩
    · rw [hx j, eB, nI_clamp (by omega), nI_clamp (by omega), hc j (by omega), hr j (by omega)]
      rfl
    · by_cases hjP : j + 1 < P
      · have eg : sp_go c P (j + 1) f b = sp_go c P j (sp_lf c b j f) (upd b (j + 1) (sp_lb c b j (sp_lf c b j f))) := by
          show sp_go c P j (sp_lf c b j f) (if j + 1 < P then upd b (j + 1) (sp_lb c b j (sp_lf c b j f)) else b) = _
          rw [if_pos hjP]
        rw [eg] at h
        refine br_f (nI_ge hjP (by omega)) ⟨pk_in (B + j) 18 (by omega) eB, pk_in (sd * 6 + j) 12 (by omega) (hx j), sx_satE (v := sp_lb c b j (sp_lf c b j f)) ?_ ⟨pk_in (B + (j + 1)) 18 (by omega) (nI_add B (j + 1)), nm_r (e' := upd M (B + (j + 1)) (sp_lb c b j (sp_lf c b j f))) ?_ (nm_r (pk_m1 j) (ih _ _ _ (by omega) (sp_row_u hr) (fun M' h1 h2 => h M' h1 (fun q hq => ?_))))⟩⟩
        · rw [hx j, eB, nI_clamp (by omega), nI_clamp (by omega), hc j (by omega), hr j (by omega)]
          rfl
        · rw [nI_add, nI_clamp (by omega)]
        · rw [h2 q hq, pk_un (by omega)]
      · have eg : sp_go c P (j + 1) f b = sp_go c P j (sp_lf c b j f) b := by
          show sp_go c P j (sp_lf c b j f) (if j + 1 < P then upd b (j + 1) (sp_lb c b j (sp_lf c b j f)) else b) = _
          rw [if_neg hjP]
        rw [eg] at h
        exact br_t (nI_le (by omega) (by omega)) (nm_r (pk_m1 j) (ih _ _ _ (by omega) hr h))
theorem sx_lat_2 {P N T : Nat} {x_pending : Int32} {x_encodedStream : Int64} {x_reflectionLevels x_pulseLevels x_memory x_history x_output x_fields x_frameCounts x_reflections x_samples x_rawReflections x_target x_impulseResponse x_pastExcitation x_filteredPast x_chosenPulses x_trialPulses x_pulseSigns x_excitation x_receivedFields : Nat → Int32} {x_correlation x_predictor x_oldPredictor : Nat → Int64} {post : Int32 → St2 → Prop} {c b : Nat → Int32} {e : Int32} {sd rw : Nat} (hP1 : 1 ≤ P) (hP : P ≤ 6) (hsd : sd ≤ 1) (hB : rw ≤ 2)
    (hc : ∀ j, j < P → x_reflections (sd * 6 + j) = c (j + 1)) (hr : sp_row (rw * 6) P x_memory b)
    (h : ∀ M', sp_row (rw * 6) P M' (sp_go c P P e b).2 → (∀ q, q < rw * 6 ∨ rw * 6 + P ≤ q → M' q = x_memory q) → post (sp_go c P P e b).1 ((nI P), (nI N), (nI T), x_pending, x_encodedStream, x_reflectionLevels, x_pulseLevels, M', x_history, x_output, x_fields, x_frameCounts, x_reflections, x_samples, x_rawReflections, x_correlation, x_predictor, x_oldPredictor, x_target, x_impulseResponse, x_pastExcitation, x_filteredPast, x_chosenPulses, x_trialPulses, x_pulseSigns, x_excitation, x_receivedFields)) :
    wpX_latticeStep_2 post ((nI P), (nI N), (nI T), x_pending, x_encodedStream, x_reflectionLevels, x_pulseLevels, x_memory, x_history, x_output, x_fields, x_frameCounts, x_reflections, x_samples, x_rawReflections, x_correlation, x_predictor, x_oldPredictor, x_target, x_impulseResponse, x_pastExcitation, x_filteredPast, x_chosenPulses, x_trialPulses, x_pulseSigns, x_excitation, x_receivedFields) (nI sd) (nI rw) e :=
  nm_e (nm_r (pk_mul rw 6) (Exists.intro (P + 1) (sx_lat23_2 hP1 hP hsd (by omega) hc (fun j => by rw [show nI sd * 6 = nI (sd * 6) from pk_mul sd 6]; exact sp_x4 _ _) P e b x_memory (Nat.le_refl P) hr h)))
theorem sx_ft35 {P N T : Nat} {x_pending : Int32} {x_encodedStream : Int64} {x_reflectionLevels x_pulseLevels x_memory x_history x_output x_fields x_frameCounts x_reflections x_samples x_rawReflections x_target x_impulseResponse x_pastExcitation x_filteredPast x_chosenPulses x_trialPulses x_pulseSigns x_excitation x_receivedFields : Nat → Int32} {x_correlation x_predictor x_oldPredictor : Nat → Int64} {post : St2 → Prop} {c b s : Nat → Int32} (hP1 : 1 ≤ P) (hP : P ≤ 6) (hN : N ≤ 32) (hs : ∀ j, j < N → x_samples j = s j)
    (hc : ∀ j, j < P → x_reflections (0 * 6 + j) = c (j + 1))
    (h : ∀ M', (∀ q, q < 12 → M' q = x_memory q) → post ((nI P), (nI N), (nI T), x_pending, x_encodedStream, x_reflectionLevels, x_pulseLevels, M', x_history, x_output, x_fields, x_frameCounts, x_reflections, x_samples, x_rawReflections, x_correlation, x_predictor, x_oldPredictor, (sp_fl (fun n => sp_sat (s n - sp_lo c P b (fun _ => 0) n)) N x_target), x_impulseResponse, x_pastExcitation, x_filteredPast, x_chosenPulses, x_trialPulses, x_pulseSigns, x_excitation, x_receivedFields)) :
    ∀ d i M, i + d = N → sp_row 12 P M (sp_lm c P b (fun _ => 0) i) → (∀ q, q < 12 → M q = x_memory q) →
      wX_formTarget_35 post (d + 1) (nI i) (nI P) (nI N) (nI T) x_pending x_encodedStream x_reflectionLevels x_pulseLevels M x_history x_output x_fields x_frameCounts x_reflections x_samples x_rawReflections x_correlation x_predictor x_oldPredictor (sp_fl (fun n => sp_sat (s n - sp_lo c P b (fun _ => 0) n)) i x_target) x_impulseResponse x_pastExcitation x_filteredPast x_chosenPulses x_trialPulses x_pulseSigns x_excitation x_receivedFields := by
  intro d
  induction d with
  | zero =>
    intro i M hi hr hf
    obtain rfl : i = N := by omega
    exact br_t (nI_le (by omega) (by omega)) (h M hf)
  | succ d ih =>
    intro i M hi hr hf
    refine br_f (nI_ge (by omega) (by omega)) (sx_lat (sd := 0) (rw := 2) hP1 hP (by omega) (by omega) hc hr (fun M' hr' hf' => ?_))
    refine ⟨vp_in_nI (by omega) (by omega), sx_satI ⟨vp_in_nI (by omega) (by omega), nm_r ?_ (nm_r (nI_1 i) (ih (i + 1) M' (by omega) hr' (fun q hq => (hf' q (by omega)).trans (hf q hq))))⟩⟩
    rw [nI_clamp (by omega), hs i (by omega)]
    exact sp_flS (g := fun n => sp_sat (s n - sp_lo c P b (fun _ => 0) n))
theorem sx_ft2 {P N T : Nat} {x_pending : Int32} {x_encodedStream : Int64} {x_reflectionLevels x_pulseLevels x_memory x_history x_output x_fields x_frameCounts x_reflections x_samples x_rawReflections x_target x_impulseResponse x_pastExcitation x_filteredPast x_chosenPulses x_trialPulses x_pulseSigns x_excitation x_receivedFields : Nat → Int32} {x_correlation x_predictor x_oldPredictor : Nat → Int64} {post : St2 → Prop} {c b s : Nat → Int32} (hP1 : 1 ≤ P) (hP : P ≤ 6) (hN : N ≤ 32) (hs : ∀ j, j < N → x_samples j = s j)
    (hc : ∀ j, j < P → x_reflections (0 * 6 + j) = c (j + 1)) (hb : ∀ j, j < P → x_memory j = b j)
    (h : ∀ M', (∀ q, q < 12 → M' q = x_memory q) → post ((nI P), (nI N), (nI T), x_pending, x_encodedStream, x_reflectionLevels, x_pulseLevels, M', x_history, x_output, x_fields, x_frameCounts, x_reflections, x_samples, x_rawReflections, x_correlation, x_predictor, x_oldPredictor, (sp_fl (fun n => sp_sat (s n - sp_lo c P b (fun _ => 0) n)) N x_target), x_impulseResponse, x_pastExcitation, x_filteredPast, x_chosenPulses, x_trialPulses, x_pulseSigns, x_excitation, x_receivedFields)) :
    ∀ d i M, i + d = P → (∀ j, j < i → M (12 + j) = b j) → (∀ q, q < 12 → M q = x_memory q) → wX_formTarget_2 post (nI P) (nI N) (nI T) x_pending x_encodedStream (d + 1) (nI i) x_reflectionLevels x_pulseLevels M x_history x_output x_fields x_frameCounts x_reflections x_samples x_rawReflections x_correlation x_predictor x_oldPredictor x_target x_impulseResponse x_pastExcitation x_filteredPast x_chosenPulses x_trialPulses x_pulseSigns x_excitation x_receivedFields := by
  intro d
  induction d with
  | zero =>
    intro i M hi hr hf
    obtain rfl : i = P := by omega
    refine br_t (nI_le (by omega) (by omega)) ⟨N + 1, ?_⟩
    have t := sx_ft35 (x_memory := M) (x_target := x_target) hP1 hP hN hs hc (b := b) (fun M' hM' => h M' (fun q hq => (hM' q hq).trans (hf q hq))) N 0 M (by omega) hr (fun _ _ => rfl)
    rw [sp_fl0] at t
    exact t
  | succ d ih =>
    intro i M hi hr hf
    refine br_f (nI_ge (by omega) (by omega)) ⟨pk_in i 18 (by omega) (Int32.zero_add _), pk_in (12 + i) 18 (by omega) (nI_add 12 i), nm_e (nm_r (nI_1 i) (ih (i + 1) _ (by omega) ?_ ?_))⟩
    · intro j hj
      rw [Int32.zero_add, show (12 : Int32) + nI i = nI (12 + i) from nI_add 12 i, nI_clamp (by omega), nI_clamp (by omega)]
      by_cases e : j = i
      · subst e
        rw [pk_us, hf j (by omega)]
        exact hb j (by omega)
      · rw [pk_un (by omega)]
        exact hr j (by omega)
    · intro q hq
      rw [show (12 : Int32) + nI i = nI (12 + i) from nI_add 12 i, nI_clamp (by omega), pk_un (by omega)]
      exact hf q hq
theorem sx_ft {P N T : Nat} {x_pending : Int32} {x_encodedStream : Int64} {x_reflectionLevels x_pulseLevels x_memory x_history x_output x_fields x_frameCounts x_reflections x_samples x_rawReflections x_target x_impulseResponse x_pastExcitation x_filteredPast x_chosenPulses x_trialPulses x_pulseSigns x_excitation x_receivedFields : Nat → Int32} {x_correlation x_predictor x_oldPredictor : Nat → Int64} {post : St2 → Prop} {c b s : Nat → Int32} (hP1 : 1 ≤ P) (hP : P ≤ 6) (hN : N ≤ 32) (hs : ∀ j, j < N → x_samples j = s j)
    (hc : ∀ j, j < P → x_reflections (0 * 6 + j) = c (j + 1)) (hb : ∀ j, j < P → x_memory j = b j)
    (h : ∀ M', (∀ q, q < 12 → M' q = x_memory q) → post ((nI P), (nI N), (nI T), x_pending, x_encodedStream, x_reflectionLevels, x_pulseLevels, M', x_history, x_output, x_fields, x_frameCounts, x_reflections, x_samples, x_rawReflections, x_correlation, x_predictor, x_oldPredictor, (sp_fl (fun n => sp_sat (s n - sp_lo c P b (fun _ => 0) n)) N x_target), x_impulseResponse, x_pastExcitation, x_filteredPast, x_chosenPulses, x_trialPulses, x_pulseSigns, x_excitation, x_receivedFields)) : wpX_formTarget post ((nI P), (nI N), (nI T), x_pending, x_encodedStream, x_reflectionLevels, x_pulseLevels, x_memory, x_history, x_output, x_fields, x_frameCounts, x_reflections, x_samples, x_rawReflections, x_correlation, x_predictor, x_oldPredictor, x_target, x_impulseResponse, x_pastExcitation, x_filteredPast, x_chosenPulses, x_trialPulses, x_pulseSigns, x_excitation, x_receivedFields) :=
  Exists.intro (P + 1) (sx_ft2 hP1 hP hN hs hc hb h P 0 x_memory (by omega) (fun j hj => absurd hj (by omega)) (fun _ _ => rfl))
def sp_imp (n : Nat) : Int32 := if n = 0 then 4096 else 0
theorem sx_fi47 {P N T : Nat} {x_pending : Int32} {x_encodedStream : Int64} {x_reflectionLevels x_pulseLevels x_memory x_history x_output x_fields x_frameCounts x_reflections x_samples x_rawReflections x_target x_impulseResponse x_pastExcitation x_filteredPast x_chosenPulses x_trialPulses x_pulseSigns x_excitation x_receivedFields : Nat → Int32} {x_correlation x_predictor x_oldPredictor : Nat → Int64} {post : St2 → Prop} {J : _} {c b : Nat → Int32} {i : Nat} {z0 zz : Int32} (ez : zz = z0) (hP1 : 1 ≤ P) (hP : P ≤ 6) (hi : i < 32)
    (hc : ∀ j, j < P → x_reflections (0 * 6 + j) = c (j + 1)) (hr : sp_row 12 P x_memory b)
    (h : ∀ M', sp_row 12 P M' (sp_go c P P zz b).2 → (∀ q, q < 12 → M' q = x_memory q) → J (nI (i + 1)) (nI P) (nI N) (nI T) x_pending x_encodedStream x_reflectionLevels x_pulseLevels M' x_history x_output x_fields x_frameCounts x_reflections x_samples x_rawReflections x_correlation x_predictor x_oldPredictor x_target (upd x_impulseResponse i (sp_go c P P zz b).1) x_pastExcitation x_filteredPast x_chosenPulses x_trialPulses x_pulseSigns x_excitation x_receivedFields) :
    wX_formImpulseResponse_47 post J (nI i) z0 (nI P) (nI N) (nI T) x_pending x_encodedStream x_reflectionLevels x_pulseLevels x_memory x_history x_output x_fields x_frameCounts x_reflections x_samples x_rawReflections x_correlation x_predictor x_oldPredictor x_target x_impulseResponse x_pastExcitation x_filteredPast x_chosenPulses x_trialPulses x_pulseSigns x_excitation x_receivedFields := by
  subst ez
  unfold wX_formImpulseResponse_47
  refine sx_lat_2 (sd := 0) (rw := 2) hP1 hP (by omega) (by omega) hc hr (fun M' hr' hf' => ?_)
  exact ⟨vp_in_nI hi (by omega), nm_r (by rw [nI_clamp (by omega)]) (nm_r (nI_1 i) (h M' hr' (fun q hq => hf' q (by omega))))⟩
theorem sx_fi28 {P N T : Nat} {x_pending : Int32} {x_encodedStream : Int64} {x_reflectionLevels x_pulseLevels x_memory x_history x_output x_fields x_frameCounts x_reflections x_samples x_rawReflections x_target x_impulseResponse x_pastExcitation x_filteredPast x_chosenPulses x_trialPulses x_pulseSigns x_excitation x_receivedFields : Nat → Int32} {x_correlation x_predictor x_oldPredictor : Nat → Int64} {post : St2 → Prop} {c : Nat → Int32} (hP1 : 1 ≤ P) (hP : P ≤ 6) (hN : N ≤ 32)
    (hc : ∀ j, j < P → x_reflections (0 * 6 + j) = c (j + 1))
    (h : ∀ M', (∀ q, q < 12 → M' q = x_memory q) → post ((nI P), (nI N), (nI T), x_pending, x_encodedStream, x_reflectionLevels, x_pulseLevels, M', x_history, x_output, x_fields, x_frameCounts, x_reflections, x_samples, x_rawReflections, x_correlation, x_predictor, x_oldPredictor, x_target, (sp_fl (sp_lo c P (fun _ => 0) sp_imp) N x_impulseResponse), x_pastExcitation, x_filteredPast, x_chosenPulses, x_trialPulses, x_pulseSigns, x_excitation, x_receivedFields)) :
    ∀ d i M, i + d = N → sp_row 12 P M (sp_lm c P (fun _ => 0) sp_imp i) → (∀ q, q < 12 → M q = x_memory q) →
      wX_formImpulseResponse_28 post (d + 1) (nI i) (nI P) (nI N) (nI T) x_pending x_encodedStream x_reflectionLevels x_pulseLevels M x_history x_output x_fields x_frameCounts x_reflections x_samples x_rawReflections x_correlation x_predictor x_oldPredictor x_target (sp_fl (sp_lo c P (fun _ => 0) sp_imp) i x_impulseResponse) x_pastExcitation x_filteredPast x_chosenPulses x_trialPulses x_pulseSigns x_excitation x_receivedFields := by
  intro d
  induction d with
  | zero =>
    intro i M hi hr hf
    obtain rfl : i = N := by omega
    exact br_t (nI_le (by omega) (by omega)) (h M hf)
  | succ d ih =>
    intro i M hi hr hf
    refine br_f (nI_ge (by omega) (by omega)) ?_
    by_cases z : i = 0
    · have e : sp_imp i = 4096 := if_pos z
      refine br_t (by rw [z]; rfl) (sx_fi47 e hP1 hP (by omega) hc hr (fun M' hr' hf' => ?_))
      have t := ih (i + 1) M' (by omega) hr' (fun q hq => (hf' q hq).trans (hf q hq))
      rw [← sp_flS] at t
      exact t
    · have e : sp_imp i = 0 := if_neg z
      refine br_f (nI_ne0 (by omega) (by omega)) (sx_fi47 e hP1 hP (by omega) hc hr (fun M' hr' hf' => ?_))
      have t := ih (i + 1) M' (by omega) hr' (fun q hq => (hf' q hq).trans (hf q hq))
      rw [← sp_flS] at t
      exact t
theorem sx_fi2 {P N T : Nat} {x_pending : Int32} {x_encodedStream : Int64} {x_reflectionLevels x_pulseLevels x_memory x_history x_output x_fields x_frameCounts x_reflections x_samples x_rawReflections x_target x_impulseResponse x_pastExcitation x_filteredPast x_chosenPulses x_trialPulses x_pulseSigns x_excitation x_receivedFields : Nat → Int32} {x_correlation x_predictor x_oldPredictor : Nat → Int64} {post : St2 → Prop} {c : Nat → Int32} (hP1 : 1 ≤ P) (hP : P ≤ 6) (hN : N ≤ 32)
    (hc : ∀ j, j < P → x_reflections (0 * 6 + j) = c (j + 1))
    (h : ∀ M', (∀ q, q < 12 → M' q = x_memory q) → post ((nI P), (nI N), (nI T), x_pending, x_encodedStream, x_reflectionLevels, x_pulseLevels, M', x_history, x_output, x_fields, x_frameCounts, x_reflections, x_samples, x_rawReflections, x_correlation, x_predictor, x_oldPredictor, x_target, (sp_fl (sp_lo c P (fun _ => 0) sp_imp) N x_impulseResponse), x_pastExcitation, x_filteredPast, x_chosenPulses, x_trialPulses, x_pulseSigns, x_excitation, x_receivedFields)) :
    ∀ d i M, i + d = P → (∀ j, j < i → M (12 + j) = 0) → (∀ q, q < 12 → M q = x_memory q) → wX_formImpulseResponse_2 post (nI P) (nI N) (nI T) x_pending x_encodedStream (d + 1) (nI i) x_reflectionLevels x_pulseLevels M x_history x_output x_fields x_frameCounts x_reflections x_samples x_rawReflections x_correlation x_predictor x_oldPredictor x_target x_impulseResponse x_pastExcitation x_filteredPast x_chosenPulses x_trialPulses x_pulseSigns x_excitation x_receivedFields := by
  intro d
  induction d with
  | zero =>
    intro i M hi hr hf
    obtain rfl : i = P := by omega
    refine br_t (nI_le (by omega) (by omega)) ⟨N + 1, ?_⟩
    have t := sx_fi28 (x_memory := M) (x_impulseResponse := x_impulseResponse) hP1 hP hN hc (fun M' hM' => h M' (fun q hq => (hM' q hq).trans (hf q hq))) N 0 M (by omega) hr (fun _ _ => rfl)
    rw [sp_fl0] at t
    exact t
  | succ d ih =>
    intro i M hi hr hf
    refine br_f (nI_ge (by omega) (by omega)) ⟨pk_in (12 + i) 18 (by omega) (nI_add 12 i), nm_e (nm_r (nI_1 i) (ih (i + 1) _ (by omega) ?_ ?_))⟩
    · intro j hj
      rw [show (12 : Int32) + nI i = nI (12 + i) from nI_add 12 i, nI_clamp (by omega)]
      by_cases e : j = i
      · subst e
        rw [pk_us]
      · rw [pk_un (by omega)]
        exact hr j (by omega)
    · intro q hq
      rw [show (12 : Int32) + nI i = nI (12 + i) from nI_add 12 i, nI_clamp (by omega), pk_un (by omega)]
      exact hf q hq
theorem sx_fi {P N T : Nat} {x_pending : Int32} {x_encodedStream : Int64} {x_reflectionLevels x_pulseLevels x_memory x_history x_output x_fields x_frameCounts x_reflections x_samples x_rawReflections x_target x_impulseResponse x_pastExcitation x_filteredPast x_chosenPulses x_trialPulses x_pulseSigns x_excitation x_receivedFields : Nat → Int32} {x_correlation x_predictor x_oldPredictor : Nat → Int64} {post : St2 → Prop} {c : Nat → Int32} (hP1 : 1 ≤ P) (hP : P ≤ 6) (hN : N ≤ 32)
    (hc : ∀ j, j < P → x_reflections (0 * 6 + j) = c (j + 1))
    (h : ∀ M', (∀ q, q < 12 → M' q = x_memory q) → post ((nI P), (nI N), (nI T), x_pending, x_encodedStream, x_reflectionLevels, x_pulseLevels, M', x_history, x_output, x_fields, x_frameCounts, x_reflections, x_samples, x_rawReflections, x_correlation, x_predictor, x_oldPredictor, x_target, (sp_fl (sp_lo c P (fun _ => 0) sp_imp) N x_impulseResponse), x_pastExcitation, x_filteredPast, x_chosenPulses, x_trialPulses, x_pulseSigns, x_excitation, x_receivedFields)) : wpX_formImpulseResponse post ((nI P), (nI N), (nI T), x_pending, x_encodedStream, x_reflectionLevels, x_pulseLevels, x_memory, x_history, x_output, x_fields, x_frameCounts, x_reflections, x_samples, x_rawReflections, x_correlation, x_predictor, x_oldPredictor, x_target, x_impulseResponse, x_pastExcitation, x_filteredPast, x_chosenPulses, x_trialPulses, x_pulseSigns, x_excitation, x_receivedFields) :=
  Exists.intro (P + 1) (sx_fi2 hP1 hP hN hc h P 0 x_memory (by omega) (fun j hj => absurd hj (by omega)) (fun _ _ => rfl))
end
section
/-! the component: past excitation, its filtering, the adaptive search -/
theorem sp_hx {sd L i : Nat} (h : i < L) : nI sd * 64 + nI L - nI i - 1 = nI (sd * 64 + (L - i) - 1) := by
  rw [show nI sd * 64 = nI (sd * 64) from pk_mul sd 64, nI_add, pk_sub (by omega), show sd * 64 + (L - i) - 1 = sd * 64 + L - i - 1 from by omega]
  exact pk_sub (b := 1) (by omega)
theorem sx_fp7 {P N T : Nat} {x_pending : Int32} {x_encodedStream : Int64} {x_reflectionLevels x_pulseLevels x_memory x_history x_output x_fields x_frameCounts x_reflections x_samples x_rawReflections x_target x_impulseResponse x_pastExcitation x_filteredPast x_chosenPulses x_trialPulses x_pulseSigns x_excitation x_receivedFields : Nat → Int32} {x_correlation x_predictor x_oldPredictor : Nat → Int64} {post : St2 → Prop} {H : Nat → Int32} {sd L : Nat} (hN : N ≤ 32) (hsd : sd ≤ 1) (hL1 : 1 ≤ L) (hL : L ≤ 64)
    (hH : ∀ j, 1 ≤ j → j ≤ 64 → x_history (sd * 64 + j - 1) = H j)
    (h : post ((nI P), (nI N), (nI T), x_pending, x_encodedStream, x_reflectionLevels, x_pulseLevels, x_memory, x_history, x_output, x_fields, x_frameCounts, x_reflections, x_samples, x_rawReflections, x_correlation, x_predictor, x_oldPredictor, x_target, x_impulseResponse, (sp_fl (sp_pv H L) N x_pastExcitation), x_filteredPast, x_chosenPulses, x_trialPulses, x_pulseSigns, x_excitation, x_receivedFields)) :
    ∀ d i, i + d = N → wX_formPastExcitation_7 post (nI sd) (nI L) (nI P) (nI N) (nI T) x_pending x_encodedStream (d + 1) (nI i) x_reflectionLevels x_pulseLevels x_memory x_history x_output x_fields x_frameCounts x_reflections x_samples x_rawReflections x_correlation x_predictor x_oldPredictor x_target x_impulseResponse (sp_fl (sp_pv H L) i x_pastExcitation) x_filteredPast x_chosenPulses x_trialPulses x_pulseSigns x_excitation x_receivedFields := by
  intro d
  induction d with
  | zero =>
    intro i hi
    obtain rfl : i = N := by omega
    exact br_t (nI_le (by omega) (by omega)) h
  | succ d ih =>
    intro i hi
    refine br_f (nI_ge (by omega) (by omega)) ?_
    by_cases c : L ≤ i
    · refine br_t (nI_le c (by omega)) ⟨pk_in (i - L) 32 (by omega) (pk_sub c), vp_in_nI (by omega) (by omega), nm_r ?_ (nm_r (nI_1 i) (ih (i + 1) (by omega)))⟩
      rw [pk_sub c, nI_clamp (by omega), nI_clamp (by omega), sp_fl_lo (by omega), ← sp_pv_hi c]
      exact sp_flS
    · have e := sp_hx (sd := sd) (L := L) (i := i) (by omega)
      refine br_f (nI_ge (by omega) (by omega)) ⟨pk_in (sd * 64 + (L - i) - 1) 128 (by omega) e, vp_in_nI (by omega) (by omega), nm_r ?_ (nm_r (nI_1 i) (ih (i + 1) (by omega)))⟩
      rw [e, nI_clamp (by omega), nI_clamp (by omega), hH (L - i) (by omega) (by omega), ← sp_pv_lo (H := H) (L := L) (n := i) (by omega)]
      exact sp_flS
theorem sx_fp {P N T : Nat} {x_pending : Int32} {x_encodedStream : Int64} {x_reflectionLevels x_pulseLevels x_memory x_history x_output x_fields x_frameCounts x_reflections x_samples x_rawReflections x_target x_impulseResponse x_pastExcitation x_filteredPast x_chosenPulses x_trialPulses x_pulseSigns x_excitation x_receivedFields : Nat → Int32} {x_correlation x_predictor x_oldPredictor : Nat → Int64} {post : St2 → Prop} {H : Nat → Int32} {sd l : Nat} (hN : N ≤ 32) (hsd : sd ≤ 1) (hl : l < 32)
    (hH : ∀ j, 1 ≤ j → j ≤ 64 → x_history (sd * 64 + j - 1) = H j)
    (h : post ((nI P), (nI N), (nI T), x_pending, x_encodedStream, x_reflectionLevels, x_pulseLevels, x_memory, x_history, x_output, x_fields, x_frameCounts, x_reflections, x_samples, x_rawReflections, x_correlation, x_predictor, x_oldPredictor, x_target, x_impulseResponse, (sp_fl (sp_pv H (l + 4)) N x_pastExcitation), x_filteredPast, x_chosenPulses, x_trialPulses, x_pulseSigns, x_excitation, x_receivedFields)) : wpX_formPastExcitation post ((nI P), (nI N), (nI T), x_pending, x_encodedStream, x_reflectionLevels, x_pulseLevels, x_memory, x_history, x_output, x_fields, x_frameCounts, x_reflections, x_samples, x_rawReflections, x_correlation, x_predictor, x_oldPredictor, x_target, x_impulseResponse, x_pastExcitation, x_filteredPast, x_chosenPulses, x_trialPulses, x_pulseSigns, x_excitation, x_receivedFields) (nI sd) (nI l) := by
  have t := sx_fp7 hN hsd (L := l + 4) (by omega) (by omega) hH h N 0 (by omega)
  rw [sp_fl0] at t
  exact nm_r (nI_add l 4) (Exists.intro _ t)
theorem sx_fe15 {P N T : Nat} {x_pending : Int32} {x_encodedStream : Int64} {x_reflectionLevels x_pulseLevels x_memory x_history x_output x_fields x_frameCounts x_reflections x_samples x_rawReflections x_target x_impulseResponse x_pastExcitation x_filteredPast x_chosenPulses x_trialPulses x_pulseSigns x_excitation x_receivedFields : Nat → Int32} {x_correlation x_predictor x_oldPredictor : Nat → Int64} {post : St2 → Prop} {J : _} {i : Nat} (hi : i < 32)
    (hJ : J (nI (i + 1)) x_reflectionLevels x_pulseLevels x_memory x_history x_output x_fields x_frameCounts x_reflections x_samples x_rawReflections x_correlation x_predictor x_oldPredictor x_target x_impulseResponse x_pastExcitation (upd x_filteredPast i (sp_cy x_pastExcitation x_impulseResponse i)) x_chosenPulses x_trialPulses x_pulseSigns x_excitation x_receivedFields) :
    ∀ d t, t + d = i + 1 → wX_filterPastExcitation_15 post J (nI i) (nI P) (nI N) (nI T) x_pending x_encodedStream x_reflectionLevels x_pulseLevels x_memory x_history x_output x_fields x_frameCounts x_reflections x_samples x_rawReflections x_correlation x_predictor x_oldPredictor x_target x_impulseResponse x_pastExcitation x_filteredPast x_chosenPulses x_trialPulses x_pulseSigns x_excitation x_receivedFields (d + 1) (sp_sm (fun j => (x_pastExcitation j).toInt64 * (x_impulseResponse (i - j)).toInt64) t) (nI t) := by
  intro d
  induction d with
  | zero =>
    intro t ht
    obtain rfl : t = i + 1 := by omega
    refine br_t (nI_lt (by omega) (by omega)) (sx_sat ⟨vp_in_nI (by omega) (by omega), ?_⟩)
    exact nm_r (by rw [nI_clamp (by omega)]; rfl) (nm_r (nI_1 i) hJ)
  | succ d ih =>
    intro t ht
    refine br_f (nI_nlt (by omega) (by omega)) ⟨vp_in_nI (by omega) (by omega), pk_in (i - t) 32 (by omega) (pk_sub (by omega)), nm_r ?_ (nm_r (nI_1 t) (ih (t + 1) (by omega)))⟩
    rw [pk_sub (by omega), nI_clamp (by omega), nI_clamp (by omega)]
    rfl
theorem sx_fe2 {P N T : Nat} {x_pending : Int32} {x_encodedStream : Int64} {x_reflectionLevels x_pulseLevels x_memory x_history x_output x_fields x_frameCounts x_reflections x_samples x_rawReflections x_target x_impulseResponse x_pastExcitation x_filteredPast x_chosenPulses x_trialPulses x_pulseSigns x_excitation x_receivedFields : Nat → Int32} {x_correlation x_predictor x_oldPredictor : Nat → Int64} {post : St2 → Prop} {v hh : Nat → Int32} (hN : N ≤ 32) (hv : ∀ j, j < N → x_pastExcitation j = v j) (hh' : ∀ j, j < N → x_impulseResponse j = hh j)
    (h : post ((nI P), (nI N), (nI T), x_pending, x_encodedStream, x_reflectionLevels, x_pulseLevels, x_memory, x_history, x_output, x_fields, x_frameCounts, x_reflections, x_samples, x_rawReflections, x_correlation, x_predictor, x_oldPredictor, x_target, x_impulseResponse, x_pastExcitation, (sp_fl (sp_cy v hh) N x_filteredPast), x_chosenPulses, x_trialPulses, x_pulseSigns, x_excitation, x_receivedFields)) :
    ∀ d i, i + d = N → wX_filterPastExcitation_2 post (nI P) (nI N) (nI T) x_pending x_encodedStream (d + 1) (nI i) x_reflectionLevels x_pulseLevels x_memory x_history x_output x_fields x_frameCounts x_reflections x_samples x_rawReflections x_correlation x_predictor x_oldPredictor x_target x_impulseResponse x_pastExcitation (sp_fl (sp_cy v hh) i x_filteredPast) x_chosenPulses x_trialPulses x_pulseSigns x_excitation x_receivedFields := by
  intro d
  induction d with
  | zero =>
    intro i hi
    obtain rfl : i = N := by omega
    exact br_t (nI_le (by omega) (by omega)) h
  | succ d ih =>
    intro i hi
    refine br_f (nI_ge (by omega) (by omega)) ⟨i + 1 + 1, sx_fe15 (by omega) ?_ (i + 1) 0 (by omega)⟩
    rw [sp_cy_c (v' := v) (h' := hh) (fun j hj => hv j (by omega)) (fun j hj => hh' j (by omega)), sp_flS]
    exact ih (i + 1) (by omega)
theorem sx_fe {P N T : Nat} {x_pending : Int32} {x_encodedStream : Int64} {x_reflectionLevels x_pulseLevels x_memory x_history x_output x_fields x_frameCounts x_reflections x_samples x_rawReflections x_target x_impulseResponse x_pastExcitation x_filteredPast x_chosenPulses x_trialPulses x_pulseSigns x_excitation x_receivedFields : Nat → Int32} {x_correlation x_predictor x_oldPredictor : Nat → Int64} {post : St2 → Prop} {v hh : Nat → Int32} (hN : N ≤ 32) (hv : ∀ j, j < N → x_pastExcitation j = v j) (hh' : ∀ j, j < N → x_impulseResponse j = hh j)
    (h : post ((nI P), (nI N), (nI T), x_pending, x_encodedStream, x_reflectionLevels, x_pulseLevels, x_memory, x_history, x_output, x_fields, x_frameCounts, x_reflections, x_samples, x_rawReflections, x_correlation, x_predictor, x_oldPredictor, x_target, x_impulseResponse, x_pastExcitation, (sp_fl (sp_cy v hh) N x_filteredPast), x_chosenPulses, x_trialPulses, x_pulseSigns, x_excitation, x_receivedFields)) : wpX_filterPastExcitation post ((nI P), (nI N), (nI T), x_pending, x_encodedStream, x_reflectionLevels, x_pulseLevels, x_memory, x_history, x_output, x_fields, x_frameCounts, x_reflections, x_samples, x_rawReflections, x_correlation, x_predictor, x_oldPredictor, x_target, x_impulseResponse, x_pastExcitation, x_filteredPast, x_chosenPulses, x_trialPulses, x_pulseSigns, x_excitation, x_receivedFields) := by
  have t := sx_fe2 hN hv hh' h N 0 (by omega)
  rw [sp_fl0] at t
  exact Exists.intro _ t
theorem sx_ae5 {P N T : Nat} {x_pending : Int32} {x_encodedStream : Int64} {x_reflectionLevels x_pulseLevels x_memory x_history x_output x_fields x_frameCounts x_reflections x_samples x_rawReflections x_target x_impulseResponse x_pastExcitation x_filteredPast x_chosenPulses x_trialPulses x_pulseSigns x_excitation x_receivedFields : Nat → Int32} {x_correlation x_predictor x_oldPredictor : Nat → Int64} {post : Int64 → Prop} {g : Int32} (hN : N ≤ 32) (h : post (sp_ea x_target x_filteredPast N g)) :
    ∀ d t, t + d = N → wX_adaptiveError_5 post g (nI P) (nI N) (nI T) x_pending x_encodedStream x_reflectionLevels x_pulseLevels x_memory x_history x_output x_fields x_frameCounts x_reflections x_samples x_rawReflections x_correlation x_predictor x_oldPredictor x_target x_impulseResponse x_pastExcitation x_filteredPast x_chosenPulses x_trialPulses x_pulseSigns x_excitation x_receivedFields (d + 1) (sp_sm (fun n => sp_sq (256 * x_target n - 37 * g * x_filteredPast n)) t) (nI t) := by
  intro d
  induction d with
  | zero =>
    intro t ht
    obtain rfl : t = N := by omega
    exact br_t (nI_le (by omega) (by omega)) h
  | succ d ih =>
    intro t ht
    refine br_f (nI_ge (by omega) (by omega)) ⟨vp_in_nI (by omega) (by omega), vp_in_nI (by omega) (by omega), nm_e (nm_r ?_ (nm_r (nI_1 t) (ih (t + 1) (by omega))))⟩
    rw [nI_clamp (by omega)]
    rfl
theorem sx_ae {P N T : Nat} {x_pending : Int32} {x_encodedStream : Int64} {x_reflectionLevels x_pulseLevels x_memory x_history x_output x_fields x_frameCounts x_reflections x_samples x_rawReflections x_target x_impulseResponse x_pastExcitation x_filteredPast x_chosenPulses x_trialPulses x_pulseSigns x_excitation x_receivedFields : Nat → Int32} {x_correlation x_predictor x_oldPredictor : Nat → Int64} {post : Int64 → Prop} {x y : Nat → Int32} {g : Int32} (hN : N ≤ 32) (hx : ∀ j, j < N → x_target j = x j) (hy : ∀ j, j < N → x_filteredPast j = y j)
    (h : post (sp_ea x y N g)) : wpX_adaptiveError post ((nI P), (nI N), (nI T), x_pending, x_encodedStream, x_reflectionLevels, x_pulseLevels, x_memory, x_history, x_output, x_fields, x_frameCounts, x_reflections, x_samples, x_rawReflections, x_correlation, x_predictor, x_oldPredictor, x_target, x_impulseResponse, x_pastExcitation, x_filteredPast, x_chosenPulses, x_trialPulses, x_pulseSigns, x_excitation, x_receivedFields) g :=
  Exists.intro (N + 1) (sx_ae5 hN (by rw [sp_ea_c g hx hy]; exact h) N 0 (by omega))
theorem sx_sa33 {P N T : Nat} {x_pending : Int32} {x_encodedStream : Int64} {x_reflectionLevels x_pulseLevels x_memory x_history x_output x_fields x_frameCounts x_reflections x_samples x_rawReflections x_target x_impulseResponse x_pastExcitation x_filteredPast x_chosenPulses x_trialPulses x_pulseSigns x_excitation x_receivedFields : Nat → Int32} {x_correlation x_predictor x_oldPredictor : Nat → Int64} {post : St2 → Prop} {J : _} {x y : Nat → Int32} {E : Nat → Nat → Int64} {l : Nat} {s0 : Int64 × Nat × Nat} (hN : N ≤ 32)
    (hx : ∀ j, j < N → x_target j = x j) (hy : ∀ j, j < N → x_filteredPast j = y j) (hE : ∀ g, g < 8 → E l g = sp_ea x y N (nI g))
    (hJ : J (sp_in E l 8 s0).1 (nI (sp_in E l 8 s0).2.1) (nI (sp_in E l 8 s0).2.2) (nI (l + 1)) (nI P) (nI N) (nI T) x_pending x_encodedStream x_reflectionLevels x_pulseLevels x_memory x_history x_output x_fields x_frameCounts x_reflections x_samples x_rawReflections x_correlation x_predictor x_oldPredictor x_target x_impulseResponse x_pastExcitation x_filteredPast x_chosenPulses x_trialPulses x_pulseSigns x_excitation x_receivedFields) :
    ∀ d g, g + d = 8 → wX_searchAdaptive_33 post J (nI l) (nI P) (nI N) (nI T) x_pending x_encodedStream x_reflectionLevels x_pulseLevels x_memory x_history x_output x_fields x_frameCounts x_reflections x_samples x_rawReflections x_correlation x_predictor x_oldPredictor x_target x_impulseResponse x_pastExcitation x_filteredPast x_chosenPulses x_trialPulses x_pulseSigns x_excitation x_receivedFields (d + 1) (sp_in E l g s0).1 (nI (sp_in E l g s0).2.1) (nI (sp_in E l g s0).2.2) (nI g) := by
  intro d
  induction d with
  | zero =>
    intro g hg
    obtain rfl : g = 8 := by omega
    exact br_t (nI_le (a := 8) (by omega) (by omega)) (nm_r (nI_1 l) hJ)
  | succ d ih =>
    intro g hg
    refine br_f (nI_ge (b := 8) (by omega) (by omega)) (sx_ae hN hx hy ?_)
    rw [← hE g (by omega)]
    have t := ih (g + 1) (by omega)
    by_cases c : E l g < (sp_in E l g s0).1
    · rw [show sp_in E l (g + 1) s0 = (E l g, l, g) from if_pos c] at t
      exact br_f (Int64.not_le.mpr c) (nm_r (nI_1 g) t)
    · rw [show sp_in E l (g + 1) s0 = sp_in E l g s0 from if_neg c] at t
      exact br_t (Int64.not_lt.mp c) (nm_r (nI_1 g) t)
theorem sp_out_s {E : Nat → Nat → Int64} {G c : Nat} : sp_out E G (c + 1) = sp_in E c G (sp_out E G c) := rfl
theorem sx_sa12 {P N T : Nat} {x_pending : Int32} {x_encodedStream : Int64} {x_reflectionLevels x_pulseLevels x_memory x_history x_output x_fields x_frameCounts x_reflections x_samples x_rawReflections x_target x_impulseResponse x_chosenPulses x_trialPulses x_pulseSigns x_excitation x_receivedFields : Nat → Int32} {x_correlation x_predictor x_oldPredictor : Nat → Int64} {post : St2 → Prop} {x hh H : Nat → Int32} {E : Nat → Nat → Int64} (hN : N ≤ 32)
    (hx : ∀ j, j < N → x_target j = x j) (hh' : ∀ j, j < N → x_impulseResponse j = hh j) (hH : ∀ j, 1 ≤ j → j ≤ 64 → x_history (0 * 64 + j - 1) = H j)
    (hE : ∀ l g, l < 32 → g < 8 → E l g = sp_ea x (sp_cy (sp_pv H (l + 4)) hh) N (nI g))
    (h : ∀ pe fp, post ((nI P), (nI N), (nI T), x_pending, x_encodedStream, x_reflectionLevels, x_pulseLevels, x_memory, x_history, x_output, (upd (upd x_fields 0 (nI (sp_out E 8 32).2.1)) 1 (nI (sp_out E 8 32).2.2)), x_frameCounts, x_reflections, x_samples, x_rawReflections, x_correlation, x_predictor, x_oldPredictor, x_target, x_impulseResponse, pe, fp, x_chosenPulses, x_trialPulses, x_pulseSigns, x_excitation, x_receivedFields)) :
    ∀ d l pe fp, l + d = 32 → wX_searchAdaptive_12 post (d + 1) (sp_out E 8 l).1 (nI (sp_out E 8 l).2.1) (nI (sp_out E 8 l).2.2) (nI l) (nI P) (nI N) (nI T) x_pending x_encodedStream x_reflectionLevels x_pulseLevels x_memory x_history x_output x_fields x_frameCounts x_reflections x_samples x_rawReflections x_correlation x_predictor x_oldPredictor x_target x_impulseResponse pe fp x_chosenPulses x_trialPulses x_pulseSigns x_excitation x_receivedFields := by
  intro d
  induction d with
  | zero =>
    intro l pe fp hl
    obtain rfl : l = 32 := by omega
    exact br_t (nI_le (a := 32) (by omega) (by omega)) (nm_e (nm_e (h pe fp)))
  | succ d ih =>
    intro l pe fp hl
    refine br_f (nI_ge (b := 32) (by omega) (by omega)) (sx_fp (sd := 0) hN (by omega) (by omega) hH ?_)
    refine sx_fe (v := sp_pv H (l + 4)) (hh := hh) hN (fun j hj => sp_fl_lo hj) hh' ?_
    refine ⟨8 + 1, sx_sa33 (E := E) (s0 := sp_out E 8 l) hN hx (fun j hj => sp_fl_lo hj) (fun g hg => hE l g (by omega) hg) ?_ 8 0 (by omega)⟩
    rw [← sp_out_s]
    exact ih (l + 1) _ _ (by omega)
theorem sx_sa {P N T : Nat} {x_pending : Int32} {x_encodedStream : Int64} {x_reflectionLevels x_pulseLevels x_memory x_history x_output x_fields x_frameCounts x_reflections x_samples x_rawReflections x_target x_impulseResponse x_pastExcitation x_filteredPast x_chosenPulses x_trialPulses x_pulseSigns x_excitation x_receivedFields : Nat → Int32} {x_correlation x_predictor x_oldPredictor : Nat → Int64} {post : St2 → Prop} {x hh H : Nat → Int32} {E : Nat → Nat → Int64} (hN : N ≤ 32)
    (hx : ∀ j, j < N → x_target j = x j) (hh' : ∀ j, j < N → x_impulseResponse j = hh j) (hH : ∀ j, 1 ≤ j → j ≤ 64 → x_history (0 * 64 + j - 1) = H j)
    (hE : ∀ l g, l < 32 → g < 8 → E l g = sp_ea x (sp_cy (sp_pv H (l + 4)) hh) N (nI g))
    (h : ∀ pe fp, post ((nI P), (nI N), (nI T), x_pending, x_encodedStream, x_reflectionLevels, x_pulseLevels, x_memory, x_history, x_output, (upd (upd x_fields 0 (nI (sp_out E 8 32).2.1)) 1 (nI (sp_out E 8 32).2.2)), x_frameCounts, x_reflections, x_samples, x_rawReflections, x_correlation, x_predictor, x_oldPredictor, x_target, x_impulseResponse, pe, fp, x_chosenPulses, x_trialPulses, x_pulseSigns, x_excitation, x_receivedFields)) : wpX_searchAdaptive post ((nI P), (nI N), (nI T), x_pending, x_encodedStream, x_reflectionLevels, x_pulseLevels, x_memory, x_history, x_output, x_fields, x_frameCounts, x_reflections, x_samples, x_rawReflections, x_correlation, x_predictor, x_oldPredictor, x_target, x_impulseResponse, x_pastExcitation, x_filteredPast, x_chosenPulses, x_trialPulses, x_pulseSigns, x_excitation, x_receivedFields) :=
  Exists.intro 33 (sx_sa12 hN hx hh' hH hE h 32 0 x_pastExcitation x_filteredPast (by omega))
def sp_x2 (x y : Nat → Int32) (g n : Nat) : Int32 := sp_sat (x n - ((37 * nI g * y n + 128) >>> ((8 : Int32) &&& 31)))
theorem sx_ra27 {P N T : Nat} {x_pending : Int32} {x_encodedStream : Int64} {x_reflectionLevels x_pulseLevels x_memory x_history x_output x_fields x_frameCounts x_reflections x_samples x_rawReflections x_target x_impulseResponse x_pastExcitation x_filteredPast x_chosenPulses x_trialPulses x_pulseSigns x_excitation x_receivedFields : Nat → Int32} {x_correlation x_predictor x_oldPredictor : Nat → Int64} {post : St2 → Prop} {x y : Nat → Int32} {g : Nat} {x1 : Int32} (e1 : x1 = 37 * nI g) (hN : N ≤ 32)
    (hx : ∀ j, j < N → x_target j = x j) (hy : ∀ j, j < N → x_filteredPast j = y j)
    (h : post ((nI P), (nI N), (nI T), x_pending, x_encodedStream, x_reflectionLevels, x_pulseLevels, x_memory, x_history, x_output, x_fields, x_frameCounts, x_reflections, x_samples, x_rawReflections, x_correlation, x_predictor, x_oldPredictor, (sp_fl (sp_x2 x y g) N x_target), x_impulseResponse, x_pastExcitation, x_filteredPast, x_chosenPulses, x_trialPulses, x_pulseSigns, x_excitation, x_receivedFields)) :
    ∀ d i, i + d = N → wX_removeAdaptivePart_27 post x1 (nI P) (nI N) (nI T) x_pending x_encodedStream (d + 1) (nI i) x_reflectionLevels x_pulseLevels x_memory x_history x_output x_fields x_frameCounts x_reflections x_samples x_rawReflections x_correlation x_predictor x_oldPredictor (sp_fl (sp_x2 x y g) i x_target) x_impulseResponse x_pastExcitation x_filteredPast x_chosenPulses x_trialPulses x_pulseSigns x_excitation x_receivedFields := by
  subst e1
  intro d
  induction d with
  | zero =>
    intro i hi
    obtain rfl : i = N := by omega
    exact br_t (nI_le (by omega) (by omega)) h
  | succ d ih =>
    intro i hi
    refine br_f (nI_ge (by omega) (by omega)) ⟨vp_in_nI (by omega) (by omega), vp_in_nI (by omega) (by omega), sx_satE (v := sp_x2 x y g i) ?_ ⟨vp_in_nI (by omega) (by omega), nm_r ?_ (nm_r (nI_1 i) (ih (i + 1) (by omega)))⟩⟩
    · rw [nI_clamp (by omega), sp_fl_hi (Nat.le_refl i), hx i (by omega), hy i (by omega)]
      rfl
    · rw [nI_clamp (by omega)]
      exact sp_flS
theorem sx_ra {P N T : Nat} {x_pending : Int32} {x_encodedStream : Int64} {x_reflectionLevels x_pulseLevels x_memory x_history x_output x_fields x_frameCounts x_reflections x_samples x_rawReflections x_target x_impulseResponse x_pastExcitation x_filteredPast x_chosenPulses x_trialPulses x_pulseSigns x_excitation x_receivedFields : Nat → Int32} {x_correlation x_predictor x_oldPredictor : Nat → Int64} {post : St2 → Prop} {x hh H : Nat → Int32} {l g : Nat} (hN : N ≤ 32) (hl : l < 32)
    (hx : ∀ j, j < N → x_target j = x j) (hh' : ∀ j, j < N → x_impulseResponse j = hh j) (hH : ∀ j, 1 ≤ j → j ≤ 64 → x_history (0 * 64 + j - 1) = H j)
    (hfl : x_fields 0 = nI l) (hfg : x_fields 1 = nI g)
    (h : ∀ pe fp, post ((nI P), (nI N), (nI T), x_pending, x_encodedStream, x_reflectionLevels, x_pulseLevels, x_memory, x_history, x_output, x_fields, x_frameCounts, x_reflections, x_samples, x_rawReflections, x_correlation, x_predictor, x_oldPredictor, (sp_fl (sp_x2 x (sp_cy (sp_pv H (l + 4)) hh) g) N x_target), x_impulseResponse, pe, fp, x_chosenPulses, x_trialPulses, x_pulseSigns, x_excitation, x_receivedFields)) : wpX_removeAdaptivePart post ((nI P), (nI N), (nI T), x_pending, x_encodedStream, x_reflectionLevels, x_pulseLevels, x_memory, x_history, x_output, x_fields, x_frameCounts, x_reflections, x_samples, x_rawReflections, x_correlation, x_predictor, x_oldPredictor, x_target, x_impulseResponse, x_pastExcitation, x_filteredPast, x_chosenPulses, x_trialPulses, x_pulseSigns, x_excitation, x_receivedFields) := by
  refine nm_r (e' := 37 * nI g) (by rw [hfg]) ?_
  rw [hfl]
  refine sx_fp (sd := 0) hN (by omega) hl hH ?_
  refine sx_fe (v := sp_pv H (l + 4)) (hh := hh) hN (fun j hj => sp_fl_lo hj) hh' ?_
  have t := sx_ra27 (x_target := x_target) (x_pastExcitation := sp_fl (sp_pv H (l + 4)) N x_pastExcitation) (x_filteredPast := sp_fl (sp_cy (sp_pv H (l + 4)) hh) N x_filteredPast) (g := g) rfl hN hx (fun j hj => sp_fl_lo hj) (h _ _) N 0 (by omega)
  rw [sp_fl0] at t
  exact Exists.intro _ t
end
section
/-! the component: the pulse search -/
theorem sx_tp27 {P N T : Nat} {x_pending : Int32} {x_encodedStream : Int64} {x_reflectionLevels x_pulseLevels x_memory x_history x_output x_fields x_frameCounts x_reflections x_samples x_rawReflections x_target x_impulseResponse x_pastExcitation x_filteredPast x_chosenPulses x_trialPulses x_pulseSigns x_excitation x_receivedFields : Nat → Int32} {x_correlation x_predictor x_oldPredictor : Nat → Int64} {post : St2 → Prop} {J : _} {x1 z0 : Int32} {sg i : Nat} (hi : i < 32) (hsg : sg < 2)
    (hJ : J (nI (i + 1)) x_reflectionLevels x_pulseLevels x_memory x_history x_output x_fields x_frameCounts x_reflections x_samples x_rawReflections x_correlation x_predictor x_oldPredictor x_target x_impulseResponse x_pastExcitation x_filteredPast x_chosenPulses (upd x_trialPulses i (x_chosenPulses i + (if sg = 0 then z0 else -z0))) x_pulseSigns x_excitation x_receivedFields) :
    wX_formTrialPulses_27 post J x1 (nI sg) (nI i) z0 (nI P) (nI N) (nI T) x_pending x_encodedStream x_reflectionLevels x_pulseLevels x_memory x_history x_output x_fields x_frameCounts x_reflections x_samples x_rawReflections x_correlation x_predictor x_oldPredictor x_target x_impulseResponse x_pastExcitation x_filteredPast x_chosenPulses x_trialPulses x_pulseSigns x_excitation x_receivedFields := by
  refine ⟨vp_in_nI hi (by omega), ?_⟩
  by_cases c : sg = 0
  · rw [if_pos c] at hJ
    exact br_t (by rw [c]; rfl) ⟨vp_in_nI hi (by omega), nm_r (by rw [nI_clamp (by omega)]) (nm_r (nI_1 i) hJ)⟩
  · rw [if_neg c] at hJ
    exact br_f (nI_ne0 (by omega) (by omega)) ⟨vp_in_nI hi (by omega), nm_r (by rw [nI_clamp (by omega)]) (nm_r (nI_1 i) hJ)⟩
theorem sx_tp2 {P N T : Nat} {x_pending : Int32} {x_encodedStream : Int64} {x_reflectionLevels x_pulseLevels x_memory x_history x_output x_fields x_frameCounts x_reflections x_samples x_rawReflections x_target x_impulseResponse x_pastExcitation x_filteredPast x_chosenPulses x_trialPulses x_pulseSigns x_excitation x_receivedFields : Nat → Int32} {x_correlation x_predictor x_oldPredictor : Nat → Int64} {post : St2 → Prop} {hh z : Nat → Int32} {pos sg : Nat} (hN : N ≤ 32) (hpos : pos < 64) (hsg : sg < 2) (hh' : ∀ j, j < N → x_impulseResponse j = hh j) (hz : ∀ j, j < N → x_chosenPulses j = z j)
    (h : post ((nI P), (nI N), (nI T), x_pending, x_encodedStream, x_reflectionLevels, x_pulseLevels, x_memory, x_history, x_output, x_fields, x_frameCounts, x_reflections, x_samples, x_rawReflections, x_correlation, x_predictor, x_oldPredictor, x_target, x_impulseResponse, x_pastExcitation, x_filteredPast, x_chosenPulses, (sp_fl (fun n => z n + sp_pc hh pos sg n) N x_trialPulses), x_pulseSigns, x_excitation, x_receivedFields)) :
    ∀ d i, i + d = N → wX_formTrialPulses_2 post (nI pos) (nI sg) (nI P) (nI N) (nI T) x_pending x_encodedStream (d + 1) (nI i) x_reflectionLevels x_pulseLevels x_memory x_history x_output x_fields x_frameCounts x_reflections x_samples x_rawReflections x_correlation x_predictor x_oldPredictor x_target x_impulseResponse x_pastExcitation x_filteredPast x_chosenPulses (sp_fl (fun n => z n + sp_pc hh pos sg n) i x_trialPulses) x_pulseSigns x_excitation x_receivedFields := by
  intro d
  induction d with
  | zero =>
    intro i hi
    obtain rfl : i = N := by omega
    exact br_t (nI_le (by omega) (by omega)) h
  | succ d ih =>
    intro i hi
    have t := ih (i + 1) (by omega)
    rw [← sp_flS] at t
    refine br_f (nI_ge (by omega) (by omega)) ?_
    by_cases c : pos ≤ i
    · refine br_t (nI_le c (by omega)) ⟨pk_in (i - pos) 32 (by omega) (pk_sub c), sx_tp27 (by omega) hsg ?_⟩
      rw [pk_sub c, nI_clamp (by omega), hh' (i - pos) (by omega), hz i (by omega)]
      have e : sp_pc hh pos sg i = (if sg = 0 then hh (i - pos) else -hh (i - pos)) := if_neg (by omega)
      rw [← e]
      exact t
    · refine br_f (nI_ge (by omega) (by omega)) (sx_tp27 (by omega) hsg ?_)
      have e : (if sg = 0 then (0 : Int32) else -0) = sp_pc hh pos sg i := by
        rw [show sp_pc hh pos sg i = 0 from if_pos (by omega)]
        split
        · rfl
        · rfl
      rw [e, hz i (by omega)]
      exact t
theorem sx_tp {P N T : Nat} {x_pending : Int32} {x_encodedStream : Int64} {x_reflectionLevels x_pulseLevels x_memory x_history x_output x_fields x_frameCounts x_reflections x_samples x_rawReflections x_target x_impulseResponse x_pastExcitation x_filteredPast x_chosenPulses x_trialPulses x_pulseSigns x_excitation x_receivedFields : Nat → Int32} {x_correlation x_predictor x_oldPredictor : Nat → Int64} {post : St2 → Prop} {hh z : Nat → Int32} {pos sg : Nat} (hN : N ≤ 32) (hpos : pos < 64) (hsg : sg < 2) (hh' : ∀ j, j < N → x_impulseResponse j = hh j) (hz : ∀ j, j < N → x_chosenPulses j = z j)
    (h : post ((nI P), (nI N), (nI T), x_pending, x_encodedStream, x_reflectionLevels, x_pulseLevels, x_memory, x_history, x_output, x_fields, x_frameCounts, x_reflections, x_samples, x_rawReflections, x_correlation, x_predictor, x_oldPredictor, x_target, x_impulseResponse, x_pastExcitation, x_filteredPast, x_chosenPulses, (sp_fl (fun n => z n + sp_pc hh pos sg n) N x_trialPulses), x_pulseSigns, x_excitation, x_receivedFields)) : wpX_formTrialPulses post ((nI P), (nI N), (nI T), x_pending, x_encodedStream, x_reflectionLevels, x_pulseLevels, x_memory, x_history, x_output, x_fields, x_frameCounts, x_reflections, x_samples, x_rawReflections, x_correlation, x_predictor, x_oldPredictor, x_target, x_impulseResponse, x_pastExcitation, x_filteredPast, x_chosenPulses, x_trialPulses, x_pulseSigns, x_excitation, x_receivedFields) (nI pos) (nI sg) := by
  have t := sx_tp2 hN hpos hsg hh' hz h N 0 (by omega)
  rw [sp_fl0] at t
  exact Exists.intro _ t
theorem sx_pe5 {P N T : Nat} {x_pending : Int32} {x_encodedStream : Int64} {x_reflectionLevels x_pulseLevels x_memory x_history x_output x_fields x_frameCounts x_reflections x_samples x_rawReflections x_target x_impulseResponse x_pastExcitation x_filteredPast x_chosenPulses x_trialPulses x_pulseSigns x_excitation x_receivedFields : Nat → Int32} {x_correlation x_predictor x_oldPredictor : Nat → Int64} {post : Int64 → Prop} {g : Int32} (hN : N ≤ 32) (h : post (sp_ef x_target x_trialPulses N g)) :
    ∀ d t, t + d = N → wX_pulseError_5 post g (nI P) (nI N) (nI T) x_pending x_encodedStream x_reflectionLevels x_pulseLevels x_memory x_history x_output x_fields x_frameCounts x_reflections x_samples x_rawReflections x_correlation x_predictor x_oldPredictor x_target x_impulseResponse x_pastExcitation x_filteredPast x_chosenPulses x_trialPulses x_pulseSigns x_excitation x_receivedFields (d + 1) (sp_sm (fun n => sp_sq (4096 * x_target n - g * x_trialPulses n)) t) (nI t) := by
  intro d
  induction d with
  | zero =>
    intro t ht
    obtain rfl : t = N := by omega
    exact br_t (nI_le (by omega) (by omega)) h
  | succ d ih =>
    intro t ht
    refine br_f (nI_ge (by omega) (by omega)) ⟨vp_in_nI (by omega) (by omega), vp_in_nI (by omega) (by omega), nm_e (nm_r ?_ (nm_r (nI_1 t) (ih (t + 1) (by omega))))⟩
    rw [nI_clamp (by omega)]
    rfl
theorem sx_pe {P N T : Nat} {x_pending : Int32} {x_encodedStream : Int64} {x_reflectionLevels x_pulseLevels x_memory x_history x_output x_fields x_frameCounts x_reflections x_samples x_rawReflections x_target x_impulseResponse x_pastExcitation x_filteredPast x_chosenPulses x_trialPulses x_pulseSigns x_excitation x_receivedFields : Nat → Int32} {x_correlation x_predictor x_oldPredictor : Nat → Int64} {post : Int64 → Prop} {x z : Nat → Int32} {g : Int32} (hN : N ≤ 32) (hx : ∀ j, j < N → x_target j = x j) (hz : ∀ j, j < N → x_trialPulses j = z j)
    (h : post (sp_ef x z N g)) : wpX_pulseError post ((nI P), (nI N), (nI T), x_pending, x_encodedStream, x_reflectionLevels, x_pulseLevels, x_memory, x_history, x_output, x_fields, x_frameCounts, x_reflections, x_samples, x_rawReflections, x_correlation, x_predictor, x_oldPredictor, x_target, x_impulseResponse, x_pastExcitation, x_filteredPast, x_chosenPulses, x_trialPulses, x_pulseSigns, x_excitation, x_receivedFields) g :=
  Exists.intro (N + 1) (sx_pe5 hN (by rw [sp_ef_c g hx hz]; exact h) N 0 (by omega))
theorem sx_st49 {P N T : Nat} {x_pending : Int32} {x_encodedStream : Int64} {x_reflectionLevels x_pulseLevels x_memory x_history x_output x_fields x_frameCounts x_reflections x_samples x_rawReflections x_target x_impulseResponse x_pastExcitation x_filteredPast x_chosenPulses x_trialPulses x_pulseSigns x_excitation x_receivedFields : Nat → Int32} {x_correlation x_predictor x_oldPredictor : Nat → Int64} {post : St2 → Prop} {J16 J28 : _} {x z : Nat → Int32} {E : Nat → Nat → Int64} {x1 : Int32} {sl sg c : Nat} {s0 : Int64 × Nat × Nat} (hN : N ≤ 32)
    (hc : c = 2 * sl + sg) (hsg : sg < 2) (hx : ∀ j, j < N → x_target j = x j) (hz : ∀ j, j < N → x_trialPulses j = z j) (hg : ∀ j, j < 16 → x_pulseLevels j = sp_fg j)
    (hE : ∀ g, g < 16 → E c g = sp_ef x z N (sp_fg g))
    (hJ : J28 (sp_in E c 16 s0).1 (nI ((sp_in E c 16 s0).2.1 / 2)) (nI ((sp_in E c 16 s0).2.1 % 2)) (nI (sp_in E c 16 s0).2.2) (nI (sg + 1)) (nI P) (nI N) (nI T) x_pending x_encodedStream x_reflectionLevels x_pulseLevels x_memory x_history x_output x_fields x_frameCounts x_reflections x_samples x_rawReflections x_correlation x_predictor x_oldPredictor x_target x_impulseResponse x_pastExcitation x_filteredPast x_chosenPulses x_trialPulses x_pulseSigns x_excitation x_receivedFields) :
    ∀ d g, g + d = 16 → wX_searchTrack_49 post J16 J28 x1 (nI sl) (nI sg) (nI P) (nI N) (nI T) x_pending x_encodedStream x_reflectionLevels x_pulseLevels x_memory x_history x_output x_fields x_frameCounts x_reflections x_samples x_rawReflections x_correlation x_predictor x_oldPredictor x_target x_impulseResponse x_pastExcitation x_filteredPast x_chosenPulses x_trialPulses x_pulseSigns x_excitation x_receivedFields (d + 1) (sp_in E c g s0).1 (nI ((sp_in E c g s0).2.1 / 2)) (nI ((sp_in E c g s0).2.1 % 2)) (nI (sp_in E c g s0).2.2) (nI g) := by
  intro d
  induction d with
  | zero =>
    intro g hg'
    obtain rfl : g = 16 := by omega
    exact br_t (nI_le (a := 16) (by omega) (by omega)) (nm_r (nI_1 sg) hJ)
  | succ d ih =>
    intro g hg'
    refine br_f (nI_ge (b := 16) (by omega) (by omega)) ⟨vp_in_nI (by omega) (by omega), sx_pe hN hx hz ?_⟩
    rw [nI_clamp (by omega), hg g (by omega), ← hE g (by omega)]
    have t := ih (g + 1) (by omega)
    by_cases q : E c g < (sp_in E c g s0).1
    · rw [show sp_in E c (g + 1) s0 = (E c g, c, g) from if_pos q] at t
      dsimp only at t
      rw [show c / 2 = sl from by omega, show c % 2 = sg from by omega] at t
      exact br_f (Int64.not_le.mpr q) (nm_r (nI_1 g) t)
    · rw [show sp_in E c (g + 1) s0 = sp_in E c g s0 from if_neg q] at t
      exact br_t (Int64.not_lt.mp q) (nm_r (nI_1 g) t)
theorem sx_st28 {P N T : Nat} {x_pending : Int32} {x_encodedStream : Int64} {x_reflectionLevels x_pulseLevels x_memory x_history x_output x_fields x_frameCounts x_reflections x_samples x_rawReflections x_target x_impulseResponse x_pastExcitation x_filteredPast x_chosenPulses x_pulseSigns x_excitation x_receivedFields : Nat → Int32} {x_correlation x_predictor x_oldPredictor : Nat → Int64} {post : St2 → Prop} {J16 : _} {x hh z : Nat → Int32} {E : Nat → Nat → Int64} {t sl : Nat} (hN : N ≤ 32) (ht : t < 4) (hsl : sl < 8)
    (hx : ∀ j, j < N → x_target j = x j) (hh' : ∀ j, j < N → x_impulseResponse j = hh j) (hz : ∀ j, j < N → x_chosenPulses j = z j) (hg : ∀ j, j < 16 → x_pulseLevels j = sp_fg j)
    (hE : ∀ c g, E c g = sp_ef x (fun n => z n + sp_pc hh (t + 4 * (c / 2)) (c % 2) n) N (sp_fg g))
    (hJ : ∀ tp c, c = 2 * sl + 2 → J16 (sp_out E 16 c).1 (nI ((sp_out E 16 c).2.1 / 2)) (nI ((sp_out E 16 c).2.1 % 2)) (nI (sp_out E 16 c).2.2) (nI (sl + 1)) (nI P) (nI N) (nI T) x_pending x_encodedStream x_reflectionLevels x_pulseLevels x_memory x_history x_output x_fields x_frameCounts x_reflections x_samples x_rawReflections x_correlation x_predictor x_oldPredictor x_target x_impulseResponse x_pastExcitation x_filteredPast x_chosenPulses tp x_pulseSigns x_excitation x_receivedFields) :
    ∀ d sg c tp, sg + d = 2 → c = 2 * sl + sg → wX_searchTrack_28 post J16 (nI t) (nI sl) (d + 1) (sp_out E 16 c).1 (nI ((sp_out E 16 c).2.1 / 2)) (nI ((sp_out E 16 c).2.1 % 2)) (nI (sp_out E 16 c).2.2) (nI sg) (nI P) (nI N) (nI T) x_pending x_encodedStream x_reflectionLevels x_pulseLevels x_memory x_history x_output x_fields x_frameCounts x_reflections x_samples x_rawReflections x_correlation x_predictor x_oldPredictor x_target x_impulseResponse x_pastExcitation x_filteredPast x_chosenPulses tp x_pulseSigns x_excitation x_receivedFields := by
  intro d
  induction d with
  | zero =>
    intro sg c tp hs hc
    obtain rfl : sg = 2 := by omega
    exact br_t (nI_le (a := 2) (by omega) (by omega)) (nm_r (nI_1 sl) (hJ tp c hc))
  | succ d ih =>
    intro sg c tp hs hc
    have ep : nI t + 4 * nI sl = nI (t + 4 * sl) := by
      rw [show (4 : Int32) * nI sl = nI (4 * sl) from pk_mul 4 sl, nI_add]
    refine br_f (nI_ge (b := 2) (by omega) (by omega)) ?_
    rw [ep]
    refine sx_tp hN (by omega) (by omega) hh' hz ?_
    refine ⟨16 + 1, sx_st49 (E := E) (c := c) (s0 := sp_out E 16 c) (z := fun n => z n + sp_pc hh (t + 4 * sl) sg n) hN hc (by omega) hx (fun j hj => sp_fl_lo hj) hg (fun g _ => ?_) ?_ 16 0 (by omega)⟩
    · rw [hE, show c / 2 = sl from by omega, show c % 2 = sg from by omega]
    · rw [← sp_out_s]
      exact ih (sg + 1) (c + 1) _ (by omega) (by omega)
theorem sx_st16 {P N T : Nat} {x_pending : Int32} {x_encodedStream : Int64} {x_reflectionLevels x_pulseLevels x_memory x_history x_output x_fields x_frameCounts x_reflections x_samples x_rawReflections x_target x_impulseResponse x_pastExcitation x_filteredPast x_chosenPulses x_pulseSigns x_excitation x_receivedFields : Nat → Int32} {x_correlation x_predictor x_oldPredictor : Nat → Int64} {post : St2 → Prop} {x hh z : Nat → Int32} {E : Nat → Nat → Int64} {t : Nat} (hN : N ≤ 32) (ht : t < 4) (hT : T ≤ 8)
    (hx : ∀ j, j < N → x_target j = x j) (hh' : ∀ j, j < N → x_impulseResponse j = hh j) (hz : ∀ j, j < N → x_chosenPulses j = z j) (hg : ∀ j, j < 16 → x_pulseLevels j = sp_fg j)
    (hE : ∀ c g, E c g = sp_ef x (fun n => z n + sp_pc hh (t + 4 * (c / 2)) (c % 2) n) N (sp_fg g))
    (h : ∀ tp, post ((nI P), (nI N), (nI T), x_pending, x_encodedStream, x_reflectionLevels, x_pulseLevels, x_memory, x_history, x_output, (upd (upd (upd x_fields (3 + t) (nI ((sp_out E 16 (2 * T)).2.1 / 2))) (7 + t) (nI ((sp_out E 16 (2 * T)).2.1 % 2))) 2 (nI (sp_out E 16 (2 * T)).2.2)), x_frameCounts, x_reflections, x_samples, x_rawReflections, x_correlation, x_predictor, x_oldPredictor, x_target, x_impulseResponse, x_pastExcitation, x_filteredPast, x_chosenPulses, tp, x_pulseSigns, x_excitation, x_receivedFields)) :
    ∀ d sl c tp, sl + d = T → c = 2 * sl → wX_searchTrack_16 post (nI t) (d + 1) (sp_out E 16 c).1 (nI ((sp_out E 16 c).2.1 / 2)) (nI ((sp_out E 16 c).2.1 % 2)) (nI (sp_out E 16 c).2.2) (nI sl) (nI P) (nI N) (nI T) x_pending x_encodedStream x_reflectionLevels x_pulseLevels x_memory x_history x_output x_fields x_frameCounts x_reflections x_samples x_rawReflections x_correlation x_predictor x_oldPredictor x_target x_impulseResponse x_pastExcitation x_filteredPast x_chosenPulses tp x_pulseSigns x_excitation x_receivedFields := by
  intro d
  induction d with
  | zero =>
    intro sl c tp hs hc
    obtain rfl : sl = T := by omega
    subst hc
    refine br_t (nI_le (by omega) (by omega)) ⟨pk_in (3 + t) 34 (by omega) (nI_add 3 t), nm_r (e' := upd x_fields (3 + t) (nI ((sp_out E 16 (2 * sl)).2.1 / 2))) ?_ ⟨pk_in (7 + t) 34 (by omega) (nI_add 7 t), nm_r (e' := upd (upd x_fields (3 + t) (nI ((sp_out E 16 (2 * sl)).2.1 / 2))) (7 + t) (nI ((sp_out E 16 (2 * sl)).2.1 % 2))) ?_ (nm_e (h tp))⟩⟩
    · rw [show (3 : Int32) + nI t = nI (3 + t) from nI_add 3 t, nI_clamp (by omega)]
    · rw [show (7 : Int32) + nI t = nI (7 + t) from nI_add 7 t, nI_clamp (by omega)]
  | succ d ih =>
    intro sl c tp hs hc
    refine br_f (nI_ge (by omega) (by omega)) ⟨2 + 1, sx_st28 hN ht (by omega) hx hh' hz hg hE (fun tp' c' hc' => ?_) 2 0 c tp (by omega) (by omega)⟩
    exact ih (sl + 1) c' tp' (by omega) (by omega)
theorem sx_st {P N T : Nat} {x_pending : Int32} {x_encodedStream : Int64} {x_reflectionLevels x_pulseLevels x_memory x_history x_output x_fields x_frameCounts x_reflections x_samples x_rawReflections x_target x_impulseResponse x_pastExcitation x_filteredPast x_chosenPulses x_trialPulses x_pulseSigns x_excitation x_receivedFields : Nat → Int32} {x_correlation x_predictor x_oldPredictor : Nat → Int64} {post : St2 → Prop} {x hh z : Nat → Int32} {E : Nat → Nat → Int64} {t : Nat} (hN : N ≤ 32) (ht : t < 4) (hT : T ≤ 8)
    (hx : ∀ j, j < N → x_target j = x j) (hh' : ∀ j, j < N → x_impulseResponse j = hh j) (hz : ∀ j, j < N → x_chosenPulses j = z j) (hg : ∀ j, j < 16 → x_pulseLevels j = sp_fg j)
    (hE : ∀ c g, E c g = sp_ef x (fun n => z n + sp_pc hh (t + 4 * (c / 2)) (c % 2) n) N (sp_fg g))
    (h : ∀ tp, post ((nI P), (nI N), (nI T), x_pending, x_encodedStream, x_reflectionLevels, x_pulseLevels, x_memory, x_history, x_output, (upd (upd (upd x_fields (3 + t) (nI ((sp_out E 16 (2 * T)).2.1 / 2))) (7 + t) (nI ((sp_out E 16 (2 * T)).2.1 % 2))) 2 (nI (sp_out E 16 (2 * T)).2.2)), x_frameCounts, x_reflections, x_samples, x_rawReflections, x_correlation, x_predictor, x_oldPredictor, x_target, x_impulseResponse, x_pastExcitation, x_filteredPast, x_chosenPulses, tp, x_pulseSigns, x_excitation, x_receivedFields)) : wpX_searchTrack post ((nI P), (nI N), (nI T), x_pending, x_encodedStream, x_reflectionLevels, x_pulseLevels, x_memory, x_history, x_output, x_fields, x_frameCounts, x_reflections, x_samples, x_rawReflections, x_correlation, x_predictor, x_oldPredictor, x_target, x_impulseResponse, x_pastExcitation, x_filteredPast, x_chosenPulses, x_trialPulses, x_pulseSigns, x_excitation, x_receivedFields) (nI t) := by
  have q := sx_st16 hN ht hT hx hh' hz hg hE h T 0 0 x_trialPulses (by omega) (by omega)
  rw [show (sp_out E 16 0).1 = 9223372036854775807 from rfl, show (sp_out E 16 0).2.1 = 0 from rfl, show (sp_out E 16 0).2.2 = 0 from rfl, Nat.zero_div, Nat.zero_mod, nI_0] at q
  exact Exists.intro (T + 1) q
theorem sx_kp32 {P N T : Nat} {x_pending : Int32} {x_encodedStream : Int64} {x_reflectionLevels x_pulseLevels x_memory x_history x_output x_fields x_frameCounts x_reflections x_samples x_rawReflections x_target x_impulseResponse x_pastExcitation x_filteredPast x_chosenPulses x_trialPulses x_pulseSigns x_excitation x_receivedFields : Nat → Int32} {x_correlation x_predictor x_oldPredictor : Nat → Int64} {post : St2 → Prop} (hN : N ≤ 32) (h : post ((nI P), (nI N), (nI T), x_pending, x_encodedStream, x_reflectionLevels, x_pulseLevels, x_memory, x_history, x_output, x_fields, x_frameCounts, x_reflections, x_samples, x_rawReflections, x_correlation, x_predictor, x_oldPredictor, x_target, x_impulseResponse, x_pastExcitation, x_filteredPast, (sp_fl x_trialPulses N x_chosenPulses), x_trialPulses, x_pulseSigns, x_excitation, x_receivedFields)) :
    ∀ d i, i + d = N → wX_keepPulse_32 post (nI P) (nI N) (nI T) x_pending x_encodedStream (d + 1) (nI i) x_reflectionLevels x_pulseLevels x_memory x_history x_output x_fields x_frameCounts x_reflections x_samples x_rawReflections x_correlation x_predictor x_oldPredictor x_target x_impulseResponse x_pastExcitation x_filteredPast (sp_fl x_trialPulses i x_chosenPulses) x_trialPulses x_pulseSigns x_excitation x_receivedFields := by
  intro d
  induction d with
  | zero =>
    intro i hi
    obtain rfl : i = N := by omega
    exact br_t (nI_le (by omega) (by omega)) h
  | succ d ih =>
    intro i hi
    refine br_f (nI_ge (by omega) (by omega)) ⟨vp_in_nI (by omega) (by omega), vp_in_nI (by omega) (by omega), nm_r ?_ (nm_r (nI_1 i) (ih (i + 1) (by omega)))⟩
    rw [nI_clamp (by omega)]
    exact sp_flS
theorem sx_kp {P N T : Nat} {x_pending : Int32} {x_encodedStream : Int64} {x_reflectionLevels x_pulseLevels x_memory x_history x_output x_fields x_frameCounts x_reflections x_samples x_rawReflections x_target x_impulseResponse x_pastExcitation x_filteredPast x_chosenPulses x_trialPulses x_pulseSigns x_excitation x_receivedFields : Nat → Int32} {x_correlation x_predictor x_oldPredictor : Nat → Int64} {post : St2 → Prop} {hh z : Nat → Int32} {t sl sg : Nat} (hN : N ≤ 32) (ht : t < 4) (hsl : sl < 8) (hsg : sg < 2)
    (hh' : ∀ j, j < N → x_impulseResponse j = hh j) (hz : ∀ j, j < N → x_chosenPulses j = z j) (hf1 : x_fields (3 + t) = nI sl) (hf2 : x_fields (7 + t) = nI sg)
    (h : ∀ tp cp, (∀ j, j < N → cp j = z j + sp_pc hh (t + 4 * sl) sg j) → post ((nI P), (nI N), (nI T), x_pending, x_encodedStream, x_reflectionLevels, x_pulseLevels, x_memory, x_history, x_output, x_fields, x_frameCounts, x_reflections, x_samples, x_rawReflections, x_correlation, x_predictor, x_oldPredictor, x_target, x_impulseResponse, x_pastExcitation, x_filteredPast, cp, tp, x_pulseSigns, x_excitation, x_receivedFields)) : wpX_keepPulse post ((nI P), (nI N), (nI T), x_pending, x_encodedStream, x_reflectionLevels, x_pulseLevels, x_memory, x_history, x_output, x_fields, x_frameCounts, x_reflections, x_samples, x_rawReflections, x_correlation, x_predictor, x_oldPredictor, x_target, x_impulseResponse, x_pastExcitation, x_filteredPast, x_chosenPulses, x_trialPulses, x_pulseSigns, x_excitation, x_receivedFields) (nI t) := by
  have ep : nI t + 4 * nI sl = nI (t + 4 * sl) := by
    rw [show (4 : Int32) * nI sl = nI (4 * sl) from pk_mul 4 sl, nI_add]
  refine And.intro (pk_in (3 + t) 34 (by omega) (nI_add 3 t)) (nm_r (e' := nI sl) ?_ ⟨pk_in (7 + t) 34 (by omega) (nI_add 7 t), nm_r (e' := nI sg) ?_ ?_⟩)
  · rw [show (3 : Int32) + nI t = nI (3 + t) from nI_add 3 t, nI_clamp (by omega)]
    exact hf1
  · rw [show (7 : Int32) + nI t = nI (7 + t) from nI_add 7 t, nI_clamp (by omega)]
    exact hf2
  · rw [ep]
    refine sx_tp hN (by omega) hsg hh' hz ?_
    have q := sx_kp32 (x_chosenPulses := x_chosenPulses) (x_trialPulses := sp_fl (fun n => z n + sp_pc hh (t + 4 * sl) sg n) N x_trialPulses) hN (h _ _ (fun j hj => by
      rw [sp_fl_lo hj, sp_fl_lo hj])) N 0 (by omega)
    rw [sp_fl0] at q
    exact Exists.intro _ q
theorem sx_sp25 {P N T : Nat} {x_pending : Int32} {x_encodedStream : Int64} {x_reflectionLevels x_pulseLevels x_memory x_history x_output x_fields x_frameCounts x_reflections x_samples x_rawReflections x_target x_impulseResponse x_pastExcitation x_filteredPast x_pulseSigns x_excitation x_receivedFields : Nat → Int32} {x_correlation x_predictor x_oldPredictor : Nat → Int64} {post : St2 → Prop} {x hh : Nat → Int32} (hN : N ≤ 32) (hT1 : 1 ≤ T) (hT : T ≤ 8)
    (hx : ∀ j, j < N → x_target j = x j) (hh' : ∀ j, j < N → x_impulseResponse j = hh j) (hg : ∀ j, j < 16 → x_pulseLevels j = sp_fg j)
    (h : ∀ F tp cp, (∀ k, k < 4 → F (3 + k) = nI (sp_ch hh x N T 4 k / 2) ∧ F (7 + k) = nI (sp_ch hh x N T 4 k % 2)) → F 2 = nI (sp_gf hh x N T 3) →
      (∀ j, j < 2 ∨ 11 ≤ j → F j = x_fields j) → post ((nI P), (nI N), (nI T), x_pending, x_encodedStream, x_reflectionLevels, x_pulseLevels, x_memory, x_history, x_output, F, x_frameCounts, x_reflections, x_samples, x_rawReflections, x_correlation, x_predictor, x_oldPredictor, x_target, x_impulseResponse, x_pastExcitation, x_filteredPast, cp, tp, x_pulseSigns, x_excitation, x_receivedFields)) :
    ∀ d t F tp cp, t + d = 4 → (∀ j, j < N → cp j = sp_z hh (sp_ch hh x N T t) t j) →
      (∀ k, k < t → F (3 + k) = nI (sp_ch hh x N T t k / 2) ∧ F (7 + k) = nI (sp_ch hh x N T t k % 2)) → (1 ≤ t → F 2 = nI (sp_gf hh x N T (t - 1))) →
      (∀ j, j < 2 ∨ 11 ≤ j → F j = x_fields j) → wX_searchPulses_25 post (d + 1) (nI t) (nI P) (nI N) (nI T) x_pending x_encodedStream x_reflectionLevels x_pulseLevels x_memory x_history x_output F x_frameCounts x_reflections x_samples x_rawReflections x_correlation x_predictor x_oldPredictor x_target x_impulseResponse x_pastExcitation x_filteredPast cp tp x_pulseSigns x_excitation x_receivedFields := by
  intro d
  induction d with
  | zero =>
    intro t F tp cp ht hc hF h2 hf
    obtain rfl : t = 4 := by omega
    exact br_t (nI_le (a := 4) (by omega) (by omega)) (h F tp cp hF (h2 (by omega)) hf)
  | succ d ih =>
    intro t F tp cp ht hc hF h2 hf
    refine br_f (nI_ge (b := 4) (by omega) (by omega)) (sx_st (E := sp_et hh x N (sp_ch hh x N T t) t) hN (by omega) hT hx hh' hc hg (fun c g => rfl) (fun tp' => ?_))
    have bc := sp_ch_b (h := hh) (x := x) (N := N) (T := T) (by omega) (t + 1) t
    have ec : sp_ch hh x N T (t + 1) t = (sp_out (sp_et hh x N (sp_ch hh x N T t) t) 16 (2 * T)).2.1 := sp_ch_t
    rw [← ec]
    refine sx_kp (z := sp_z hh (sp_ch hh x N T t) t) (sl := sp_ch hh x N T (t + 1) t / 2) (sg := sp_ch hh x N T (t + 1) t % 2) hN (by omega) (by omega) (by omega) hh' hc ?_ ?_ (fun tp'' cp' hc' => nm_r (nI_1 t) (ih (t + 1) _ tp'' cp' (by omega) ?_ ?_ ?_ ?_))
    · rw [pk_un (by omega), pk_un (by omega), pk_us]
    · rw [pk_un (by omega), pk_us]
    · intro j hj
      rw [hc' j hj]
      show _ = sp_z hh (sp_ch hh x N T (t + 1)) t j + _
      rw [sp_z_c (ch := sp_ch hh x N T (t + 1)) (ch' := sp_ch hh x N T t) t (fun k hk => sp_ch_s (by omega))]
    · intro k hk
      by_cases e : k = t
      · subst e
        constructor
        · rw [pk_un (by omega), pk_un (by omega), pk_us]
        · rw [pk_un (by omega), pk_us]
      · have o := hF k (by omega)
        rw [sp_ch_s e]
        constructor
        · rw [pk_un (by omega), pk_un (by omega), pk_un (by omega)]
          exact o.1
        · rw [pk_un (by omega), pk_un (by omega), pk_un (by omega)]
          exact o.2
    · intro _
      rw [pk_us]
      rfl
    · intro j hj
      rw [pk_un (by omega), pk_un (by omega), pk_un (by omega)]
      exact hf j hj
theorem sx_sp2 {P N T : Nat} {x_pending : Int32} {x_encodedStream : Int64} {x_reflectionLevels x_pulseLevels x_memory x_history x_output x_fields x_frameCounts x_reflections x_samples x_rawReflections x_target x_impulseResponse x_pastExcitation x_filteredPast x_trialPulses x_pulseSigns x_excitation x_receivedFields : Nat → Int32} {x_correlation x_predictor x_oldPredictor : Nat → Int64} {post : St2 → Prop} {x hh : Nat → Int32} (hN : N ≤ 32) (hT1 : 1 ≤ T) (hT : T ≤ 8)
    (hx : ∀ j, j < N → x_target j = x j) (hh' : ∀ j, j < N → x_impulseResponse j = hh j) (hg : ∀ j, j < 16 → x_pulseLevels j = sp_fg j)
    (h : ∀ F tp cp, (∀ k, k < 4 → F (3 + k) = nI (sp_ch hh x N T 4 k / 2) ∧ F (7 + k) = nI (sp_ch hh x N T 4 k % 2)) → F 2 = nI (sp_gf hh x N T 3) →
      (∀ j, j < 2 ∨ 11 ≤ j → F j = x_fields j) → post ((nI P), (nI N), (nI T), x_pending, x_encodedStream, x_reflectionLevels, x_pulseLevels, x_memory, x_history, x_output, F, x_frameCounts, x_reflections, x_samples, x_rawReflections, x_correlation, x_predictor, x_oldPredictor, x_target, x_impulseResponse, x_pastExcitation, x_filteredPast, cp, tp, x_pulseSigns, x_excitation, x_receivedFields)) :
    ∀ d i cp, i + d = N → (∀ j, j < i → cp j = 0) → wX_searchPulses_2 post (nI P) (nI N) (nI T) x_pending x_encodedStream (d + 1) (nI i) x_reflectionLevels x_pulseLevels x_memory x_history x_output x_fields x_frameCounts x_reflections x_samples x_rawReflections x_correlation x_predictor x_oldPredictor x_target x_impulseResponse x_pastExcitation x_filteredPast cp x_trialPulses x_pulseSigns x_excitation x_receivedFields := by
  intro d
  induction d with
  | zero =>
    intro i cp hi hc
    obtain rfl : i = N := by omega
    exact br_t (nI_le (by omega) (by omega)) ⟨4 + 1, sx_sp25 hN hT1 hT hx hh' hg h 4 0 x_fields x_trialPulses cp (by omega) (fun j hj => hc j hj) (fun k hk => absurd hk (by omega)) (fun z => absurd z (by omega)) (fun _ _ => rfl)⟩
  | succ d ih =>
    intro i cp hi hc
    refine br_f (nI_ge (by omega) (by omega)) ⟨vp_in_nI (by omega) (by omega), nm_e (nm_r (nI_1 i) (ih (i + 1) _ (by omega) ?_))⟩
    intro j hj
    rw [nI_clamp (by omega)]
    by_cases e : j = i
    · subst e
      rw [pk_us]
    · rw [pk_un e]
      exact hc j (by omega)
theorem sx_sp {P N T : Nat} {x_pending : Int32} {x_encodedStream : Int64} {x_reflectionLevels x_pulseLevels x_memory x_history x_output x_fields x_frameCounts x_reflections x_samples x_rawReflections x_target x_impulseResponse x_pastExcitation x_filteredPast x_chosenPulses x_trialPulses x_pulseSigns x_excitation x_receivedFields : Nat → Int32} {x_correlation x_predictor x_oldPredictor : Nat → Int64} {post : St2 → Prop} {x hh : Nat → Int32} (hN : N ≤ 32) (hT1 : 1 ≤ T) (hT : T ≤ 8)
    (hx : ∀ j, j < N → x_target j = x j) (hh' : ∀ j, j < N → x_impulseResponse j = hh j) (hg : ∀ j, j < 16 → x_pulseLevels j = sp_fg j)
    (h : ∀ F tp cp, (∀ k, k < 4 → F (3 + k) = nI (sp_ch hh x N T 4 k / 2) ∧ F (7 + k) = nI (sp_ch hh x N T 4 k % 2)) → F 2 = nI (sp_gf hh x N T 3) →
      (∀ j, j < 2 ∨ 11 ≤ j → F j = x_fields j) → post ((nI P), (nI N), (nI T), x_pending, x_encodedStream, x_reflectionLevels, x_pulseLevels, x_memory, x_history, x_output, F, x_frameCounts, x_reflections, x_samples, x_rawReflections, x_correlation, x_predictor, x_oldPredictor, x_target, x_impulseResponse, x_pastExcitation, x_filteredPast, cp, tp, x_pulseSigns, x_excitation, x_receivedFields)) : wpX_searchPulses post ((nI P), (nI N), (nI T), x_pending, x_encodedStream, x_reflectionLevels, x_pulseLevels, x_memory, x_history, x_output, x_fields, x_frameCounts, x_reflections, x_samples, x_rawReflections, x_correlation, x_predictor, x_oldPredictor, x_target, x_impulseResponse, x_pastExcitation, x_filteredPast, x_chosenPulses, x_trialPulses, x_pulseSigns, x_excitation, x_receivedFields) :=
  Exists.intro (N + 1) (sx_sp2 hN hT1 hT hx hh' hg h N 0 x_chosenPulses (by omega) (fun j hj => absurd hj (by omega)))
end
section
/-! the component: packing, and rule D -/
def sp_ks (q : Nat → Nat) : Nat → Nat
  | 0 => 0
  | m + 1 => sp_pj (sp_ks q m) (q m) 4
def sp_ts (b : Nat) (sl sg : Nat → Nat) : Nat → Nat
  | 0 => b
  | t + 1 => sp_pj (sp_pj (sp_ts b sl sg t) (sl t) 3) (sg t) 1
def sp_hs (q : Nat → Nat) (P l ga : Nat) : Nat := sp_pj (sp_pj (sp_ks q P) l 5) ga 3
def sp_fs (q : Nat → Nat) (P l ga : Nat) (sl sg : Nat → Nat) (gf : Nat) : Nat := sp_pj (sp_ts (sp_hs q P l ga) sl sg 4) gf 4
theorem sp_ks_b {q : Nat → Nat} {P : Nat} (hq : ∀ m, m < P → q m < 16) : ∀ m, m ≤ P → sp_ks q m < 2 ^ (4 * m) := by
  intro m
  induction m with
  | zero => intro _; exact Nat.lt_succ_self 0
  | succ m ih => intro h; exact sp_pj_b (c := 4 * m) (ih (by omega)) (hq m (by omega))
theorem sp_hs_b {q : Nat → Nat} {P l ga : Nat} (hq : ∀ m, m < P → q m < 16) (hl : l < 32) (hg : ga < 8) : sp_hs q P l ga < 2 ^ (4 * P + 8) :=
  sp_pj_b (c := 4 * P + 5) (sp_pj_b (sp_ks_b hq P (Nat.le_refl P)) hl) hg
theorem sp_ts_b {b c : Nat} {sl sg : Nat → Nat} (hb : b < 2 ^ c) (h1 : ∀ t, t < 4 → sl t < 8) (h2 : ∀ t, t < 4 → sg t < 2) : ∀ t, t ≤ 4 → sp_ts b sl sg t < 2 ^ (c + 4 * t) := by
  intro t
  induction t with
  | zero => intro _; exact hb
  | succ t ih => intro h; exact sp_pj_b (c := c + 4 * t + 3) (sp_pj_b (ih (by omega)) (h1 t (by omega))) (h2 t (by omega))
theorem sp_fs_b {q : Nat → Nat} {P l ga gf : Nat} {sl sg : Nat → Nat} (hq : ∀ m, m < P → q m < 16) (hl : l < 32) (hg : ga < 8) (h1 : ∀ t, t < 4 → sl t < 8) (h2 : ∀ t, t < 4 → sg t < 2) (hf : gf < 16) :
    sp_fs q P l ga sl sg gf < 2 ^ (4 * P + 28) :=
  sp_pj_b (c := 4 * P + 8 + 4 * 4) (sp_ts_b (sp_hs_b hq hl hg) h1 h2 4 (Nat.le_refl 4)) hf
theorem sx_pf71 {P N T : Nat} {x_pending : Int32} {x_encodedStream : Int64} {x_reflectionLevels x_pulseLevels x_memory x_history x_output x_fields x_frameCounts x_reflections x_samples x_rawReflections x_target x_impulseResponse x_pastExcitation x_filteredPast x_chosenPulses x_trialPulses x_pulseSigns x_excitation x_receivedFields : Nat → Int32} {x_correlation x_predictor x_oldPredictor : Nat → Int64} {post : St2 → Prop} {b gf : Nat} {sl sg : Nat → Nat} (hP : P ≤ 6) (hb : b < 2 ^ (4 * P + 8)) (h1 : ∀ t, t < 4 → x_fields (3 + t) = nI (sl t) ∧ sl t < 8) (h2 : ∀ t, t < 4 → x_fields (7 + t) = nI (sg t) ∧ sg t < 2)
    (hf : x_fields 2 = nI gf) (hf' : gf < 16)
    (h : post ((nI P), (nI N), (nI T), x_pending, (lN (sp_pj (sp_ts b sl sg 4) gf 4 <<< (36 - 4 * P))), x_reflectionLevels, x_pulseLevels, x_memory, x_history, x_output, x_fields, x_frameCounts, x_reflections, x_samples, x_rawReflections, x_correlation, x_predictor, x_oldPredictor, x_target, x_impulseResponse, x_pastExcitation, x_filteredPast, x_chosenPulses, x_trialPulses, x_pulseSigns, x_excitation, x_receivedFields)) :
    ∀ d t, t + d = 4 → wX_packFields_71 post 0 (nI P) (nI N) (nI T) x_pending x_encodedStream x_reflectionLevels x_pulseLevels x_memory x_history x_output x_fields x_frameCounts x_reflections x_samples x_rawReflections x_correlation x_predictor x_oldPredictor x_target x_impulseResponse x_pastExcitation x_filteredPast x_chosenPulses x_trialPulses x_pulseSigns x_excitation x_receivedFields (d + 1) (lN (sp_ts b sl sg t)) (nI t) := by
  intro d
  induction d with
  | zero =>
    intro t ht
    obtain rfl : t = 4 := by omega
    have tb := sp_ts_b hb (fun t ht => (h1 t ht).2) (fun t ht => (h2 t ht).2) 4 (Nat.le_refl 4)
    refine br_t (nI_le (a := 4) (by omega) (by omega)) ⟨vp_in_nI (n := 2) (by omega) (by omega), nm_r (e' := lN (sp_pj (sp_ts b sl sg 4) gf 4)) ?_ (nm_r (e' := lN (sp_pj (sp_ts b sl sg 4) gf 4 <<< (36 - 4 * P))) ?_ h)⟩
    · rw [show x_fields ((0 : Int32) + 2).toNatClampNeg = nI gf from hf]
      exact sp_pj_l (w := 4) (c := 4 * P + 8 + 4 * 4) rfl (by omega) tb hf' (by omega) (by omega)
    · rw [show (4 : Int32) * nI P = nI (4 * P) from pk_mul 4 P, show (36 : Int32) - nI (4 * P) = nI (36 - 4 * P) from pk_sub (a := 36) (by omega), wb_shl _ (by omega), Nat.shiftLeft_eq]
  | succ d ih =>
    intro t ht
    have tb := sp_ts_b hb (fun t ht => (h1 t ht).2) (fun t ht => (h2 t ht).2) t (by omega)
    have e3 : (0 : Int32) + 3 + nI t = nI (3 + t) := nI_add 3 t
    have e7 : (0 : Int32) + 7 + nI t = nI (7 + t) := nI_add 7 t
    refine br_f (nI_ge (b := 4) (by omega) (by omega)) ⟨pk_in (3 + t) 34 (by omega) e3, nm_r (e' := lN (sp_pj (sp_ts b sl sg t) (sl t) 3)) ?_ ⟨pk_in (7 + t) 34 (by omega) e7, nm_r (e' := lN (sp_ts b sl sg (t + 1))) ?_ (nm_r (nI_1 t) (ih (t + 1) (by omega)))⟩⟩
    · have q := h1 t (by omega)
      rw [e3, nI_clamp (by omega), q.1]
      exact sp_pj_l (w := 3) (c := 4 * P + 8 + 4 * t) rfl (by omega) tb q.2 (by omega) (by omega)
    · have q := h2 t (by omega)
      have q1 := h1 t (by omega)
      rw [e7, nI_clamp (by omega), q.1]
      exact sp_pj_l (w := 1) (c := 4 * P + 8 + 4 * t + 3) rfl (by omega) (sp_pj_b tb q1.2) q.2 (by omega) (by omega)
theorem sx_pf7 {P N T : Nat} {x_pending : Int32} {x_encodedStream : Int64} {x_reflectionLevels x_pulseLevels x_memory x_history x_output x_fields x_frameCounts x_reflections x_samples x_rawReflections x_target x_impulseResponse x_pastExcitation x_filteredPast x_chosenPulses x_trialPulses x_pulseSigns x_excitation x_receivedFields : Nat → Int32} {x_correlation x_predictor x_oldPredictor : Nat → Int64} {post : St2 → Prop} {l ga gf : Nat} {q sl sg : Nat → Nat} (hP : P ≤ 6) (hq : ∀ m, m < P → x_fields (11 + m) = nI (q m) ∧ q m < 16)
    (h0 : x_fields 0 = nI l) (hl : l < 32) (hg0 : x_fields 1 = nI ga) (hg : ga < 8) (h1 : ∀ t, t < 4 → x_fields (3 + t) = nI (sl t) ∧ sl t < 8) (h2 : ∀ t, t < 4 → x_fields (7 + t) = nI (sg t) ∧ sg t < 2)
    (hf : x_fields 2 = nI gf) (hf' : gf < 16)
    (h : post ((nI P), (nI N), (nI T), x_pending, (lN (sp_fs q P l ga sl sg gf <<< (36 - 4 * P))), x_reflectionLevels, x_pulseLevels, x_memory, x_history, x_output, x_fields, x_frameCounts, x_reflections, x_samples, x_rawReflections, x_correlation, x_predictor, x_oldPredictor, x_target, x_impulseResponse, x_pastExcitation, x_filteredPast, x_chosenPulses, x_trialPulses, x_pulseSigns, x_excitation, x_receivedFields)) :
    ∀ d m, m + d = P → wX_packFields_7 post 0 (nI P) (nI N) (nI T) x_pending x_encodedStream x_reflectionLevels x_pulseLevels x_memory x_history x_output x_fields x_frameCounts x_reflections x_samples x_rawReflections x_correlation x_predictor x_oldPredictor x_target x_impulseResponse x_pastExcitation x_filteredPast x_chosenPulses x_trialPulses x_pulseSigns x_excitation x_receivedFields (d + 1) (lN (sp_ks q m)) (nI m) := by
  have kb := fun m hm => sp_ks_b (q := q) (P := P) (fun m hm => (hq m hm).2) m hm
  intro d
  induction d with
  | zero =>
    intro m hm
    obtain rfl : m = P := by omega
    have b0 := kb m (Nat.le_refl m)
    refine br_t (nI_le (by omega) (by omega)) ⟨vp_in_nI (n := 0) (by omega) (by omega), nm_r (e' := lN (sp_pj (sp_ks q m) l 5)) ?_ ⟨vp_in_nI (n := 1) (by omega) (by omega), nm_r (e' := lN (sp_hs q m l ga)) ?_ ⟨4 + 1, sx_pf71 (b := sp_hs q m l ga) hP (sp_hs_b (fun m hm => (hq m hm).2) hl hg) h1 h2 hf hf' h 4 0 (by omega)⟩⟩⟩
    · rw [show x_fields ((0 : Int32) + 0).toNatClampNeg = nI l from h0]
      exact sp_pj_l (w := 5) (c := 4 * m) rfl (by omega) b0 hl (by omega) (by omega)
    · rw [show x_fields ((0 : Int32) + 1).toNatClampNeg = nI ga from hg0]
      exact sp_pj_l (w := 3) (c := 4 * m + 5) rfl (by omega) (sp_pj_b b0 hl) hg (by omega) (by omega)
  | succ d ih =>
    intro m hm
    have e : (0 : Int32) + 11 + nI m = nI (11 + m) := nI_add 11 m
    refine br_f (nI_ge (by omega) (by omega)) ⟨pk_in (11 + m) 34 (by omega) e, nm_r (e' := lN (sp_ks q (m + 1))) ?_ (nm_r (nI_1 m) (ih (m + 1) (by omega)))⟩
    have o := hq m (by omega)
    rw [e, nI_clamp (by omega), o.1]
    exact sp_pj_l (w := 4) (c := 4 * m) rfl (by omega) (kb m (by omega)) o.2 (by omega) (by omega)
theorem sx_pf {P N T : Nat} {x_pending : Int32} {x_encodedStream : Int64} {x_reflectionLevels x_pulseLevels x_memory x_history x_output x_fields x_frameCounts x_reflections x_samples x_rawReflections x_target x_impulseResponse x_pastExcitation x_filteredPast x_chosenPulses x_trialPulses x_pulseSigns x_excitation x_receivedFields : Nat → Int32} {x_correlation x_predictor x_oldPredictor : Nat → Int64} {post : St2 → Prop} {l ga gf : Nat} {q sl sg : Nat → Nat} (hP : P ≤ 6) (hq : ∀ m, m < P → x_fields (11 + m) = nI (q m) ∧ q m < 16)
    (h0 : x_fields 0 = nI l) (hl : l < 32) (hg0 : x_fields 1 = nI ga) (hg : ga < 8) (h1 : ∀ t, t < 4 → x_fields (3 + t) = nI (sl t) ∧ sl t < 8) (h2 : ∀ t, t < 4 → x_fields (7 + t) = nI (sg t) ∧ sg t < 2)
    (hf : x_fields 2 = nI gf) (hf' : gf < 16)
    (h : post ((nI P), (nI N), (nI T), x_pending, (lN (sp_fs q P l ga sl sg gf <<< (36 - 4 * P))), x_reflectionLevels, x_pulseLevels, x_memory, x_history, x_output, x_fields, x_frameCounts, x_reflections, x_samples, x_rawReflections, x_correlation, x_predictor, x_oldPredictor, x_target, x_impulseResponse, x_pastExcitation, x_filteredPast, x_chosenPulses, x_trialPulses, x_pulseSigns, x_excitation, x_receivedFields)) : wpX_packFields post ((nI P), (nI N), (nI T), x_pending, x_encodedStream, x_reflectionLevels, x_pulseLevels, x_memory, x_history, x_output, x_fields, x_frameCounts, x_reflections, x_samples, x_rawReflections, x_correlation, x_predictor, x_oldPredictor, x_target, x_impulseResponse, x_pastExcitation, x_filteredPast, x_chosenPulses, x_trialPulses, x_pulseSigns, x_excitation, x_receivedFields) :=
  Exists.intro (P + 1) (sx_pf7 hP hq h0 hl hg0 hg h1 h2 hf hf' h P 0 (by omega))
/-- placing the pulses: a step -/
theorem sp_cp_s {sl sg : Nat → Nat} {N t : Nat} {A : Nat → Int32} {x : Int32} (ht : t < 4) (hx : x = if sg t = 0 then 1 else -1)
    (h : ∀ n, n < N → A n = if n % 4 < t then sp_cp sl sg n else 0) : ∀ n, n < N → upd A (t + 4 * sl t) x n = if n % 4 < t + 1 then sp_cp sl sg n else 0 := by
  intro n hn
  by_cases e : n = t + 4 * sl t
  · subst e
    have m4 : (t + 4 * sl t) % 4 = t := by omega
    have d4 : (t + 4 * sl t) / 4 = sl t := by omega
    rw [pk_us, if_pos (by omega), hx]
    unfold sp_cp
    rw [m4, d4, if_pos rfl]
  · rw [pk_un e, h n hn]
    by_cases c : n % 4 < t
    · rw [if_pos c, if_pos (by omega)]
    · rw [if_neg c]
      by_cases c2 : n % 4 = t
      · rw [if_pos (by omega)]
        unfold sp_cp
        rw [c2, if_neg (by omega)]
      · rw [if_neg (by omega)]
theorem sx_pp25 {P N T : Nat} {x_pending : Int32} {x_encodedStream : Int64} {x_reflectionLevels x_pulseLevels x_memory x_history x_output x_fields x_frameCounts x_reflections x_samples x_rawReflections x_target x_impulseResponse x_pastExcitation x_filteredPast x_chosenPulses x_trialPulses x_excitation x_receivedFields : Nat → Int32} {x_correlation x_predictor x_oldPredictor : Nat → Int64} {post : St2 → Prop} {sl sg : Nat → Nat} {sd : Nat} (hsd : sd ≤ 1) (hT : T ≤ 8) (hNT : N = 4 * T)
    (h1 : ∀ t, t < 4 → x_fields (sd * 17 + 3 + t) = nI (sl t) ∧ sl t < T) (h2 : ∀ t, t < 4 → x_fields (sd * 17 + 7 + t) = nI (sg t) ∧ sg t < 2)
    (h : ∀ ps, (∀ n, n < N → ps n = sp_cp sl sg n) → post ((nI P), (nI N), (nI T), x_pending, x_encodedStream, x_reflectionLevels, x_pulseLevels, x_memory, x_history, x_output, x_fields, x_frameCounts, x_reflections, x_samples, x_rawReflections, x_correlation, x_predictor, x_oldPredictor, x_target, x_impulseResponse, x_pastExcitation, x_filteredPast, x_chosenPulses, x_trialPulses, ps, x_excitation, x_receivedFields)) :
    ∀ d t ps, t + d = 4 → (∀ n, n < N → ps n = if n % 4 < t then sp_cp sl sg n else 0) → wX_placePulses_25 post (nI sd) (nI P) (nI N) (nI T) x_pending x_encodedStream (d + 1) (nI t) x_reflectionLevels x_pulseLevels x_memory x_history x_output x_fields x_frameCounts x_reflections x_samples x_rawReflections x_correlation x_predictor x_oldPredictor x_target x_impulseResponse x_pastExcitation x_filteredPast x_chosenPulses x_trialPulses ps x_excitation x_receivedFields := by
  intro d
  induction d with
  | zero =>
    intro t ps ht hp
    obtain rfl : t = 4 := by omega
    exact br_t (nI_le (a := 4) (by omega) (by omega)) (h ps (fun n hn => by rw [hp n hn, if_pos (by omega)]))
  | succ d ih =>
    intro t ps ht hp
    have q1 := h1 t (by omega)
    have q2 := h2 t (by omega)
    have e3 : nI sd * 17 + 3 + nI t = nI (sd * 17 + 3 + t) := by
      rw [show nI sd * 17 = nI (sd * 17) from pk_mul sd 17, show nI (sd * 17) + 3 = nI (sd * 17 + 3) from nI_add _ 3, nI_add]
    have e7 : nI sd * 17 + 7 + nI t = nI (sd * 17 + 7 + t) := by
      rw [show nI sd * 17 = nI (sd * 17) from pk_mul sd 17, show nI (sd * 17) + 7 = nI (sd * 17 + 7) from nI_add _ 7, nI_add]
    have ep : nI t + 4 * nI (sl t) = nI (t + 4 * sl t) := by
      rw [show (4 : Int32) * nI (sl t) = nI (4 * sl t) from pk_mul 4 (sl t), nI_add]
    refine br_f (nI_ge (b := 4) (by omega) (by omega)) ⟨pk_in (sd * 17 + 3 + t) 34 (by omega) e3, nm_r (e' := nI (sl t)) ?_ ⟨pk_in (sd * 17 + 7 + t) 34 (by omega) e7, nm_r (e' := nI (sg t)) ?_ ?_⟩⟩
    · rw [e3, nI_clamp (by omega)]
      exact q1.1
    · rw [e7, nI_clamp (by omega)]
      exact q2.1
    · by_cases z : sg t = 0
      · refine br_t (by rw [z]; rfl) ⟨pk_in (t + 4 * sl t) 32 (by omega) ep, nm_e (nm_r (nI_1 t) (ih (t + 1) _ (by omega) ?_))⟩
        rw [ep, nI_clamp (by omega)]
        exact sp_cp_s (by omega) (by rw [if_pos z]) hp
      · refine br_f (nI_ne0 (by omega) (by omega)) ⟨pk_in (t + 4 * sl t) 32 (by omega) ep, nm_e (nm_r (nI_1 t) (ih (t + 1) _ (by omega) ?_))⟩
        rw [ep, nI_clamp (by omega)]
        exact sp_cp_s (by omega) (by rw [if_neg z]) hp
theorem sx_pp2 {P N T : Nat} {x_pending : Int32} {x_encodedStream : Int64} {x_reflectionLevels x_pulseLevels x_memory x_history x_output x_fields x_frameCounts x_reflections x_samples x_rawReflections x_target x_impulseResponse x_pastExcitation x_filteredPast x_chosenPulses x_trialPulses x_excitation x_receivedFields : Nat → Int32} {x_correlation x_predictor x_oldPredictor : Nat → Int64} {post : St2 → Prop} {sl sg : Nat → Nat} {sd : Nat} (hsd : sd ≤ 1) (hT : T ≤ 8) (hNT : N = 4 * T)
    (h1 : ∀ t, t < 4 → x_fields (sd * 17 + 3 + t) = nI (sl t) ∧ sl t < T) (h2 : ∀ t, t < 4 → x_fields (sd * 17 + 7 + t) = nI (sg t) ∧ sg t < 2)
    (h : ∀ ps, (∀ n, n < N → ps n = sp_cp sl sg n) → post ((nI P), (nI N), (nI T), x_pending, x_encodedStream, x_reflectionLevels, x_pulseLevels, x_memory, x_history, x_output, x_fields, x_frameCounts, x_reflections, x_samples, x_rawReflections, x_correlation, x_predictor, x_oldPredictor, x_target, x_impulseResponse, x_pastExcitation, x_filteredPast, x_chosenPulses, x_trialPulses, ps, x_excitation, x_receivedFields)) :
    ∀ d i ps, i + d = N → (∀ n, n < i → ps n = 0) → wX_placePulses_2 post (nI sd) (nI P) (nI N) (nI T) x_pending x_encodedStream (d + 1) (nI i) x_reflectionLevels x_pulseLevels x_memory x_history x_output x_fields x_frameCounts x_reflections x_samples x_rawReflections x_correlation x_predictor x_oldPredictor x_target x_impulseResponse x_pastExcitation x_filteredPast x_chosenPulses x_trialPulses ps x_excitation x_receivedFields := by
  intro d
  induction d with
  | zero =>
    intro i ps hi hp
    obtain rfl : i = N := by omega
    exact br_t (nI_le (by omega) (by omega)) ⟨4 + 1, sx_pp25 hsd hT hNT h1 h2 h 4 0 ps (by omega) (fun n hn => by rw [if_neg (by omega)]; exact hp n hn)⟩
  | succ d ih =>
    intro i ps hi hp
    refine br_f (nI_ge (by omega) (by omega)) ⟨vp_in_nI (by omega) (by omega), nm_e (nm_r (nI_1 i) (ih (i + 1) _ (by omega) ?_))⟩
    intro j hj
    rw [nI_clamp (by omega)]
    by_cases e : j = i
    · subst e
      rw [pk_us]
    · rw [pk_un e]
      exact hp j (by omega)
theorem sx_pp {P N T : Nat} {x_pending : Int32} {x_encodedStream : Int64} {x_reflectionLevels x_pulseLevels x_memory x_history x_output x_fields x_frameCounts x_reflections x_samples x_rawReflections x_target x_impulseResponse x_pastExcitation x_filteredPast x_chosenPulses x_trialPulses x_pulseSigns x_excitation x_receivedFields : Nat → Int32} {x_correlation x_predictor x_oldPredictor : Nat → Int64} {post : St2 → Prop} {sl sg : Nat → Nat} {sd : Nat} (hsd : sd ≤ 1) (hT : T ≤ 8) (hNT : N = 4 * T)
    (h1 : ∀ t, t < 4 → x_fields (sd * 17 + 3 + t) = nI (sl t) ∧ sl t < T) (h2 : ∀ t, t < 4 → x_fields (sd * 17 + 7 + t) = nI (sg t) ∧ sg t < 2)
    (h : ∀ ps, (∀ n, n < N → ps n = sp_cp sl sg n) → post ((nI P), (nI N), (nI T), x_pending, x_encodedStream, x_reflectionLevels, x_pulseLevels, x_memory, x_history, x_output, x_fields, x_frameCounts, x_reflections, x_samples, x_rawReflections, x_correlation, x_predictor, x_oldPredictor, x_target, x_impulseResponse, x_pastExcitation, x_filteredPast, x_chosenPulses, x_trialPulses, ps, x_excitation, x_receivedFields)) : wpX_placePulses post ((nI P), (nI N), (nI T), x_pending, x_encodedStream, x_reflectionLevels, x_pulseLevels, x_memory, x_history, x_output, x_fields, x_frameCounts, x_reflections, x_samples, x_rawReflections, x_correlation, x_predictor, x_oldPredictor, x_target, x_impulseResponse, x_pastExcitation, x_filteredPast, x_chosenPulses, x_trialPulses, x_pulseSigns, x_excitation, x_receivedFields) (nI sd) :=
  Exists.intro (N + 1) (sx_pp2 hsd hT hNT h1 h2 h N 0 x_pulseSigns (by omega) (fun n hn => absurd hn (by omega)))
theorem sx_me35 {P N T : Nat} {x_pending : Int32} {x_encodedStream : Int64} {x_reflectionLevels x_pulseLevels x_memory x_history x_output x_fields x_frameCounts x_reflections x_samples x_rawReflections x_target x_impulseResponse x_pastExcitation x_filteredPast x_chosenPulses x_trialPulses x_pulseSigns x_excitation x_receivedFields : Nat → Int32} {x_correlation x_predictor x_oldPredictor : Nat → Int64} {post : St2 → Prop} {H : Nat → Int32} {l ga gf : Nat} {sl sg : Nat → Nat} (hN : N ≤ 32)
    (hv : ∀ n, n < N → x_pastExcitation n = sp_pv H (l + 4) n) (hp : ∀ n, n < N → x_pulseSigns n = sp_cp sl sg n)
    (h : post ((nI P), (nI N), (nI T), x_pending, x_encodedStream, x_reflectionLevels, x_pulseLevels, x_memory, x_history, x_output, x_fields, x_frameCounts, x_reflections, x_samples, x_rawReflections, x_correlation, x_predictor, x_oldPredictor, x_target, x_impulseResponse, x_pastExcitation, x_filteredPast, x_chosenPulses, x_trialPulses, x_pulseSigns, (sp_fl (sp_u H l ga gf sl sg) N x_excitation), x_receivedFields)) :
    ∀ d i, i + d = N → wX_mixExcitation_35 post (37 * nI ga) (sp_fg gf) (nI P) (nI N) (nI T) x_pending x_encodedStream (d + 1) (nI i) x_reflectionLevels x_pulseLevels x_memory x_history x_output x_fields x_frameCounts x_reflections x_samples x_rawReflections x_correlation x_predictor x_oldPredictor x_target x_impulseResponse x_pastExcitation x_filteredPast x_chosenPulses x_trialPulses x_pulseSigns (sp_fl (sp_u H l ga gf sl sg) i x_excitation) x_receivedFields := by
  intro d
  induction d with
  | zero =>
    intro i hi
    obtain rfl : i = N := by omega
    exact br_t (nI_le (by omega) (by omega)) h
  | succ d ih =>
    intro i hi
    refine br_f (nI_ge (by omega) (by omega)) ⟨vp_in_nI (by omega) (by omega), vp_in_nI (by omega) (by omega), sx_satE (v := sp_u H l ga gf sl sg i) ?_ ⟨vp_in_nI (by omega) (by omega), nm_r ?_ (nm_r (nI_1 i) (ih (i + 1) (by omega)))⟩⟩
    · rw [nI_clamp (by omega), hv i (by omega), hp i (by omega)]
      rfl
    · rw [nI_clamp (by omega)]
      exact sp_flS
theorem sx_me {P N T : Nat} {x_pending : Int32} {x_encodedStream : Int64} {x_reflectionLevels x_pulseLevels x_memory x_history x_output x_fields x_frameCounts x_reflections x_samples x_rawReflections x_target x_impulseResponse x_pastExcitation x_filteredPast x_chosenPulses x_trialPulses x_pulseSigns x_excitation x_receivedFields : Nat → Int32} {x_correlation x_predictor x_oldPredictor : Nat → Int64} {post : St2 → Prop} {H : Nat → Int32} {l ga gf sd : Nat} {sl sg : Nat → Nat} (hN : N ≤ 32) (hsd : sd ≤ 1)
    (hv : ∀ n, n < N → x_pastExcitation n = sp_pv H (l + 4) n) (hp : ∀ n, n < N → x_pulseSigns n = sp_cp sl sg n) (hg : ∀ j, j < 16 → x_pulseLevels j = sp_fg j)
    (hga : x_fields (sd * 17 + 1) = nI ga) (hgf : x_fields (sd * 17 + 2) = nI gf) (hgf' : gf < 16)
    (h : post ((nI P), (nI N), (nI T), x_pending, x_encodedStream, x_reflectionLevels, x_pulseLevels, x_memory, x_history, x_output, x_fields, x_frameCounts, x_reflections, x_samples, x_rawReflections, x_correlation, x_predictor, x_oldPredictor, x_target, x_impulseResponse, x_pastExcitation, x_filteredPast, x_chosenPulses, x_trialPulses, x_pulseSigns, (sp_fl (sp_u H l ga gf sl sg) N x_excitation), x_receivedFields)) : wpX_mixExcitation post ((nI P), (nI N), (nI T), x_pending, x_encodedStream, x_reflectionLevels, x_pulseLevels, x_memory, x_history, x_output, x_fields, x_frameCounts, x_reflections, x_samples, x_rawReflections, x_correlation, x_predictor, x_oldPredictor, x_target, x_impulseResponse, x_pastExcitation, x_filteredPast, x_chosenPulses, x_trialPulses, x_pulseSigns, x_excitation, x_receivedFields) (nI sd) := by
  have e1 : nI sd * 17 + 1 = nI (sd * 17 + 1) := by
    rw [show nI sd * 17 = nI (sd * 17) from pk_mul sd 17, nI_1]
  have e2 : nI sd * 17 + 2 = nI (sd * 17 + 2) := by
    rw [show nI sd * 17 = nI (sd * 17) from pk_mul sd 17]
    exact nI_add _ 2
  have t := sx_me35 (x_excitation := x_excitation) (ga := ga) (gf := gf) hN hv hp h N 0 (by omega)
  rw [sp_fl0] at t
  have c2 : x_fields (nI sd * 17 + 2).toNatClampNeg = nI gf := by
    rw [e2, nI_clamp (by omega)]
    exact hgf
  refine And.intro (pk_in (sd * 17 + 1) 34 (by omega) e1) (nm_r (e' := 37 * nI ga) ?_ ⟨pk_in (sd * 17 + 2) 34 (by omega) e2, pk_in gf 16 hgf' c2, nm_r (e' := sp_fg gf) ?_ (Exists.intro _ t)⟩)
  · rw [e1, nI_clamp (by omega), hga]
  · rw [c2, nI_clamp (by omega)]
    exact hg gf hgf'
theorem sx_sh45 {P N T : Nat} {x_pending : Int32} {x_encodedStream : Int64} {x_reflectionLevels x_pulseLevels x_memory x_history x_output x_fields x_frameCounts x_reflections x_samples x_rawReflections x_target x_impulseResponse x_pastExcitation x_filteredPast x_chosenPulses x_trialPulses x_pulseSigns x_excitation x_receivedFields : Nat → Int32} {x_correlation x_predictor x_oldPredictor : Nat → Int64} {post : St2 → Prop} {H u : Nat → Int32} {sd : Nat} (hN8 : 8 ≤ N) (hN : N ≤ 32) (hsd : sd ≤ 1) (hu : ∀ n, n < N → x_excitation n = u n)
    (h : ∀ A, (∀ j, 1 ≤ j → j ≤ 64 → A (sd * 64 + j - 1) = sp_nh N u H j) → (∀ q, q < sd * 64 ∨ sd * 64 + 64 ≤ q → A q = x_history q) → post ((nI P), (nI N), (nI T), x_pending, x_encodedStream, x_reflectionLevels, x_pulseLevels, x_memory, A, x_output, x_fields, x_frameCounts, x_reflections, x_samples, x_rawReflections, x_correlation, x_predictor, x_oldPredictor, x_target, x_impulseResponse, x_pastExcitation, x_filteredPast, x_chosenPulses, x_trialPulses, x_pulseSigns, x_excitation, x_receivedFields)) :
    ∀ d i A, i + d = N → (∀ j, 1 ≤ j → j ≤ 64 → A (sd * 64 + j - 1) = if j ≤ i then u (N - j) else if N < j then H (j - N) else H j) → (∀ q, q < sd * 64 ∨ sd * 64 + 64 ≤ q → A q = x_history q) →
      wX_shiftHistory_45 post (nI (sd * 64)) (nI P) (nI N) (nI T) x_pending x_encodedStream (d + 1) (nI i) x_reflectionLevels x_pulseLevels x_memory A x_output x_fields x_frameCounts x_reflections x_samples x_rawReflections x_correlation x_predictor x_oldPredictor x_target x_impulseResponse x_pastExcitation x_filteredPast x_chosenPulses x_trialPulses x_pulseSigns x_excitation x_receivedFields := by
  intro d
  induction d with
  | zero =>
    intro i A hi ha hf
    obtain rfl : i = N := by omega
    refine br_t (nI_le (by omega) (by omega)) (h A (fun j h1 h2 => ?_) hf)
    rw [ha j h1 h2]
    unfold sp_nh
    by_cases c : j ≤ i
    · rw [if_pos c, if_pos c]
    · rw [if_neg c, if_neg c, if_pos (by omega)]
  | succ d ih =>
    intro i A hi ha hf
    have e : nI N - 1 - nI i = nI (N - (i + 1)) := by
      rw [show nI N - 1 = nI (N - 1) from pk_sub (b := 1) (by omega), pk_sub (by omega), show N - 1 - i = N - (i + 1) from by omega]
    refine br_f (nI_ge (by omega) (by omega)) ⟨pk_in (N - (i + 1)) 32 (by omega) e, pk_in (sd * 64 + i) 128 (by omega) (nI_add _ _), nm_e (nm_r (nI_1 i) (ih (i + 1) _ (by omega) ?_ ?_))⟩
    · intro j h1 h2
      rw [e, nI_add, nI_clamp (by omega), nI_clamp (by omega), hu _ (by omega)]
      by_cases c : j = i + 1
      · subst c
        rw [show sd * 64 + (i + 1) - 1 = sd * 64 + i from by omega, pk_us, if_pos (by omega)]
      · rw [pk_un (by omega), ha j h1 h2]
        by_cases c2 : j ≤ i
        · rw [if_pos c2, if_pos (by omega)]
        · rw [if_neg c2, if_neg (show ¬ j ≤ i + 1 from by omega)]
    · intro q hq
      rw [nI_add, nI_clamp (by omega), pk_un (by omega)]
      exact hf q hq
theorem sx_sh8 {P N T : Nat} {x_pending : Int32} {x_encodedStream : Int64} {x_reflectionLevels x_pulseLevels x_memory x_history x_output x_fields x_frameCounts x_reflections x_samples x_rawReflections x_target x_impulseResponse x_pastExcitation x_filteredPast x_chosenPulses x_trialPulses x_pulseSigns x_excitation x_receivedFields : Nat → Int32} {x_correlation x_predictor x_oldPredictor : Nat → Int64} {post : St2 → Prop} {H u : Nat → Int32} {sd : Nat} (hN8 : 8 ≤ N) (hN : N ≤ 32) (hsd : sd ≤ 1) (hu : ∀ n, n < N → x_excitation n = u n)
    (h : ∀ A, (∀ j, 1 ≤ j → j ≤ 64 → A (sd * 64 + j - 1) = sp_nh N u H j) → (∀ q, q < sd * 64 ∨ sd * 64 + 64 ≤ q → A q = x_history q) → post ((nI P), (nI N), (nI T), x_pending, x_encodedStream, x_reflectionLevels, x_pulseLevels, x_memory, A, x_output, x_fields, x_frameCounts, x_reflections, x_samples, x_rawReflections, x_correlation, x_predictor, x_oldPredictor, x_target, x_impulseResponse, x_pastExcitation, x_filteredPast, x_chosenPulses, x_trialPulses, x_pulseSigns, x_excitation, x_receivedFields)) :
    ∀ d k A, k + 1 = N + d → k < 64 → (∀ j, 1 ≤ j → j ≤ 64 → A (sd * 64 + j - 1) = if k + 1 < j then H (j - N) else H j) → (∀ q, q < sd * 64 ∨ sd * 64 + 64 ≤ q → A q = x_history q) →
      wX_shiftHistory_8 post (nI (sd * 64)) (nI P) (nI N) (nI T) x_pending x_encodedStream (d + 1) (nI k) x_reflectionLevels x_pulseLevels x_memory A x_output x_fields x_frameCounts x_reflections x_samples x_rawReflections x_correlation x_predictor x_oldPredictor x_target x_impulseResponse x_pastExcitation x_filteredPast x_chosenPulses x_trialPulses x_pulseSigns x_excitation x_receivedFields := by
  intro d
  induction d with
  | zero =>
    intro k A hk hk2 ha hf
    refine br_t (nI_lt (by omega) (by omega)) ⟨N + 1, sx_sh45 (x_history := x_history) (H := H) hN8 hN hsd hu h N 0 A (by omega) (fun j h1 h2 => ?_) hf⟩
    rw [ha j h1 h2, if_neg (show ¬ j ≤ 0 from by omega), show k + 1 = N from by omega]
  | succ d ih =>
    intro k A hk hk2 ha hf
    obtain ⟨m, rfl⟩ : ∃ m, k = m + 1 := ⟨k - 1, by omega⟩
    have e : nI (sd * 64) + nI (m + 1) - nI N = nI (sd * 64 + (m + 1 + 1 - N) - 1) := by
      rw [nI_add, pk_sub (by omega), show sd * 64 + (m + 1) - N = sd * 64 + (m + 1 + 1 - N) - 1 from by omega]
    refine br_f (nI_nlt (by omega) (by omega)) ⟨pk_in (sd * 64 + (m + 1 + 1 - N) - 1) 128 (by omega) e, pk_in (sd * 64 + (m + 1)) 128 (by omega) (nI_add _ _), nm_e (nm_r (pk_m1 m) (ih m _ (by omega) (by omega) ?_ ?_))⟩
    · intro j h1 h2
      rw [e, nI_add, nI_clamp (by omega), nI_clamp (by omega), ha (m + 1 + 1 - N) (by omega) (by omega), if_neg (by omega)]
      by_cases c : j = m + 1 + 1
      · subst c
        rw [show sd * 64 + (m + 1 + 1) - 1 = sd * 64 + (m + 1) from by omega, pk_us, if_pos (by omega)]
      · rw [pk_un (by omega), ha j h1 h2]
        by_cases c2 : m + 1 + 1 < j
        · rw [if_pos c2, if_pos (by omega)]
        · rw [if_neg c2, if_neg (by omega)]
    · intro q hq
      rw [nI_add, nI_clamp (by omega), pk_un (by omega)]
      exact hf q hq
theorem sx_sh {P N T : Nat} {x_pending : Int32} {x_encodedStream : Int64} {x_reflectionLevels x_pulseLevels x_memory x_history x_output x_fields x_frameCounts x_reflections x_samples x_rawReflections x_target x_impulseResponse x_pastExcitation x_filteredPast x_chosenPulses x_trialPulses x_pulseSigns x_excitation x_receivedFields : Nat → Int32} {x_correlation x_predictor x_oldPredictor : Nat → Int64} {post : St2 → Prop} {H u : Nat → Int32} {sd : Nat} (hN8 : 8 ≤ N) (hN : N ≤ 32) (hsd : sd ≤ 1) (hu : ∀ n, n < N → x_excitation n = u n)
    (hH : ∀ j, 1 ≤ j → j ≤ 64 → x_history (sd * 64 + j - 1) = H j)
    (h : ∀ A, (∀ j, 1 ≤ j → j ≤ 64 → A (sd * 64 + j - 1) = sp_nh N u H j) → (∀ q, q < sd * 64 ∨ sd * 64 + 64 ≤ q → A q = x_history q) → post ((nI P), (nI N), (nI T), x_pending, x_encodedStream, x_reflectionLevels, x_pulseLevels, x_memory, A, x_output, x_fields, x_frameCounts, x_reflections, x_samples, x_rawReflections, x_correlation, x_predictor, x_oldPredictor, x_target, x_impulseResponse, x_pastExcitation, x_filteredPast, x_chosenPulses, x_trialPulses, x_pulseSigns, x_excitation, x_receivedFields)) : wpX_shiftHistory post ((nI P), (nI N), (nI T), x_pending, x_encodedStream, x_reflectionLevels, x_pulseLevels, x_memory, x_history, x_output, x_fields, x_frameCounts, x_reflections, x_samples, x_rawReflections, x_correlation, x_predictor, x_oldPredictor, x_target, x_impulseResponse, x_pastExcitation, x_filteredPast, x_chosenPulses, x_trialPulses, x_pulseSigns, x_excitation, x_receivedFields) (nI sd) :=
  nm_r (pk_mul sd 64) (Exists.intro (64 - N + 1) (sx_sh8 hN8 hN hsd hu h (64 - N) 63 x_history (by omega) (by omega) (fun j h1 h2 => by rw [if_neg (by omega)]; exact hH j h1 h2) (fun _ _ => rfl)))
theorem sx_sy28 {P N T : Nat} {x_pending : Int32} {x_encodedStream : Int64} {x_reflectionLevels x_pulseLevels x_memory x_history x_output x_fields x_frameCounts x_reflections x_samples x_rawReflections x_target x_impulseResponse x_pastExcitation x_filteredPast x_chosenPulses x_trialPulses x_pulseSigns x_excitation x_receivedFields : Nat → Int32} {x_correlation x_predictor x_oldPredictor : Nat → Int64} {post : St2 → Prop} {c b H u : Nat → Int32} {sd : Nat} (hP1 : 1 ≤ P) (hP : P ≤ 6) (hN8 : 8 ≤ N) (hN : N ≤ 32) (hsd : sd ≤ 1) (hu : ∀ n, n < N → x_excitation n = u n)
    (hc : ∀ j, j < P → x_reflections (sd * 6 + j) = c (j + 1)) (hH : ∀ j, 1 ≤ j → j ≤ 64 → x_history (sd * 64 + j - 1) = H j)
    (h : ∀ M' A, sp_row (sd * 6) P M' (sp_lm c P b u N) → (∀ q, q < sd * 6 ∨ sd * 6 + P ≤ q → M' q = x_memory q) →
      (∀ j, 1 ≤ j → j ≤ 64 → A (sd * 64 + j - 1) = sp_nh N u H j) → (∀ q, q < sd * 64 ∨ sd * 64 + 64 ≤ q → A q = x_history q) →
      post ((nI P), (nI N), (nI T), x_pending, x_encodedStream, x_reflectionLevels, x_pulseLevels, M', A, (sp_fo (sp_lo c P b u) (sd * 32) N x_output), x_fields, (upd x_frameCounts sd (x_frameCounts sd + 1)), x_reflections, x_samples, x_rawReflections, x_correlation, x_predictor, x_oldPredictor, x_target, x_impulseResponse, x_pastExcitation, x_filteredPast, x_chosenPulses, x_trialPulses, x_pulseSigns, x_excitation, x_receivedFields)) :
    ∀ d i M, i + d = N → sp_row (sd * 6) P M (sp_lm c P b u i) → (∀ q, q < sd * 6 ∨ sd * 6 + P ≤ q → M q = x_memory q) →
      wX_synthesise_28 post (nI sd) (d + 1) (nI i) (nI P) (nI N) (nI T) x_pending x_encodedStream x_reflectionLevels x_pulseLevels M x_history (sp_fo (sp_lo c P b u) (sd * 32) i x_output) x_fields x_frameCounts x_reflections x_samples x_rawReflections x_correlation x_predictor x_oldPredictor x_target x_impulseResponse x_pastExcitation x_filteredPast x_chosenPulses x_trialPulses x_pulseSigns x_excitation x_receivedFields := by
  intro d
  induction d with
  | zero =>
    intro i M hi hr hf
    obtain rfl : i = N := by omega
    refine br_t (nI_le (by omega) (by omega)) (sx_sh hN8 hN hsd hu hH (fun A h1 h2 => ?_))
    refine ⟨vp_in_nI (by omega) (by omega), vp_in_nI (by omega) (by omega), nm_r ?_ (h M A hr hf h1 h2)⟩
    rw [nI_clamp (by omega)]
  | succ d ih =>
    intro i M hi hr hf
    have e : nI sd * 32 + nI i = nI (sd * 32 + i) := by
      rw [show nI sd * 32 = nI (sd * 32) from pk_mul sd 32, nI_add]
    refine br_f (nI_ge (by omega) (by omega)) ⟨vp_in_nI (by omega) (by omega), ?_⟩
    rw [nI_clamp (by omega), hu i (by omega)]
    refine sx_lat_3 (sd := sd) (rw := sd) hP1 hP hsd (by omega) hc hr (fun M' hr' hf' => ?_)
    refine ⟨pk_in (sd * 32 + i) 64 (by omega) e, nm_r ?_ (nm_r (nI_1 i) (ih (i + 1) M' (by omega) hr' (fun q hq => (hf' q hq).trans (hf q hq))))⟩
    rw [e, nI_clamp (by omega)]
    exact sp_foS (g := sp_lo c P b u)
theorem sx_syn {P N T : Nat} {x_pending : Int32} {x_encodedStream : Int64} {x_reflectionLevels x_pulseLevels x_memory x_history x_output x_fields x_frameCounts x_reflections x_samples x_rawReflections x_target x_impulseResponse x_pastExcitation x_filteredPast x_chosenPulses x_trialPulses x_pulseSigns x_excitation x_receivedFields : Nat → Int32} {x_correlation x_predictor x_oldPredictor : Nat → Int64} {post : St2 → Prop} {c b H : Nat → Int32} {sd l ga gf : Nat} {sl sg : Nat → Nat} (hP1 : 1 ≤ P) (hP : P ≤ 6) (hN8 : 8 ≤ N) (hNT : N = 4 * T) (hT : T ≤ 8) (hsd : sd ≤ 1)
    (hg : ∀ j, j < 16 → x_pulseLevels j = sp_fg j) (hb : sp_row (sd * 6) P x_memory b)
    (hc : ∀ j, j < P → x_reflections (sd * 6 + j) = c (j + 1)) (hH : ∀ j, 1 ≤ j → j ≤ 64 → x_history (sd * 64 + j - 1) = H j)
    (hl : x_fields (sd * 17 + 0) = nI l) (hl' : l < 32) (hga : x_fields (sd * 17 + 1) = nI ga) (hgf : x_fields (sd * 17 + 2) = nI gf) (hgf' : gf < 16)
    (h1 : ∀ t, t < 4 → x_fields (sd * 17 + 3 + t) = nI (sl t) ∧ sl t < T) (h2 : ∀ t, t < 4 → x_fields (sd * 17 + 7 + t) = nI (sg t) ∧ sg t < 2)
    (h : ∀ M' A pe ps ex, sp_row (sd * 6) P M' (sp_lm c P b (sp_u H l ga gf sl sg) N) → (∀ q, q < sd * 6 ∨ sd * 6 + P ≤ q → M' q = x_memory q) →
      (∀ j, 1 ≤ j → j ≤ 64 → A (sd * 64 + j - 1) = sp_nh N (sp_u H l ga gf sl sg) H j) → (∀ q, q < sd * 64 ∨ sd * 64 + 64 ≤ q → A q = x_history q) →
      post ((nI P), (nI N), (nI T), x_pending, x_encodedStream, x_reflectionLevels, x_pulseLevels, M', A, (sp_fo (sp_lo c P b (sp_u H l ga gf sl sg)) (sd * 32) N x_output), x_fields, (upd x_frameCounts sd (x_frameCounts sd + 1)), x_reflections, x_samples, x_rawReflections, x_correlation, x_predictor, x_oldPredictor, x_target, x_impulseResponse, pe, x_filteredPast, x_chosenPulses, x_trialPulses, ps, ex, x_receivedFields)) :
    wpX_synthesise post ((nI P), (nI N), (nI T), x_pending, x_encodedStream, x_reflectionLevels, x_pulseLevels, x_memory, x_history, x_output, x_fields, x_frameCounts, x_reflections, x_samples, x_rawReflections, x_correlation, x_predictor, x_oldPredictor, x_target, x_impulseResponse, x_pastExcitation, x_filteredPast, x_chosenPulses, x_trialPulses, x_pulseSigns, x_excitation, x_receivedFields) (nI sd) := by
  have e : nI sd * 17 + 0 = nI (sd * 17 + 0) := by
    rw [show nI sd * 17 = nI (sd * 17) from pk_mul sd 17, Int32.add_zero]
    rfl
  refine And.intro (pk_in (sd * 17 + 0) 34 (by omega) e) ?_
  rw [e, nI_clamp (by omega), hl]
  refine sx_fp (by omega) hsd hl' hH ?_
  refine sx_pp hsd hT hNT h1 h2 (fun ps hps => ?_)
  refine sx_me (by omega) hsd (fun n hn => sp_fl_lo hn) hps hg hga hgf hgf' ?_
  have t := sx_sy28 (x_memory := x_memory) (x_output := x_output) (x_excitation := sp_fl (sp_u H l ga gf sl sg) N x_excitation) (x_pulseSigns := ps) (x_pastExcitation := sp_fl (sp_pv H (l + 4)) N x_pastExcitation) (u := sp_u H l ga gf sl sg) hP1 hP hN8 (by omega) hsd (fun n hn => sp_fl_lo hn) hc hH (fun M' A q1 q2 q3 q4 => h M' A _ _ _ q1 q2 q3 q4) N 0 x_memory (by omega) hb (fun _ _ => rfl)
  rw [sp_fo0] at t
  exact Exists.intro _ t
end
section
/-! one frame, purely; the component's encodeFrame -/
def fr_Q (s : Nat → Int32) (N P m : Nat) : Nat := sp_nq (sp_K s N P (m + 1))
def fr_C (s : Nat → Int32) (N P j : Nat) : Int32 := sp_kq (fr_Q s N P (j - 1))
def fr_X (s b : Nat → Int32) (N P n : Nat) : Int32 := sp_sat (s n - sp_lo (fr_C s N P) P b (fun _ => 0) n)
def fr_H (s : Nat → Int32) (N P : Nat) : Nat → Int32 := sp_lo (fr_C s N P) P (fun _ => 0) sp_imp
def fr_Y (s H : Nat → Int32) (N P l : Nat) : Nat → Int32 := sp_cy (sp_pv H (l + 4)) (fr_H s N P)
def fr_E (s b H : Nat → Int32) (N P l g : Nat) : Int64 := sp_ea (fr_X s b N P) (fr_Y s H N P l) N (nI g)
def fr_L (s b H : Nat → Int32) (N P : Nat) : Nat := (sp_out (fr_E s b H N P) 8 32).2.1
def fr_G (s b H : Nat → Int32) (N P : Nat) : Nat := (sp_out (fr_E s b H N P) 8 32).2.2
def fr_X2 (s b H : Nat → Int32) (N P : Nat) : Nat → Int32 := sp_x2 (fr_X s b N P) (fr_Y s H N P (fr_L s b H N P)) (fr_G s b H N P)
def fr_CH (s b H : Nat → Int32) (N P T : Nat) : Nat → Nat := sp_ch (fr_H s N P) (fr_X2 s b H N P) N T 4
def fr_SL (s b H : Nat → Int32) (N P T t : Nat) : Nat := fr_CH s b H N P T t / 2
def fr_SG (s b H : Nat → Int32) (N P T t : Nat) : Nat := fr_CH s b H N P T t % 2
def fr_GF (s b H : Nat → Int32) (N P T : Nat) : Nat := sp_gf (fr_H s N P) (fr_X2 s b H N P) N T 3
def fr_S (s b H : Nat → Int32) (N P T : Nat) : Nat := sp_fs (fr_Q s N P) P (fr_L s b H N P) (fr_G s b H N P) (fr_SL s b H N P T) (fr_SG s b H N P T) (fr_GF s b H N P T) <<< (36 - 4 * P)
def fr_U (s b H : Nat → Int32) (N P T : Nat) : Nat → Int32 := sp_u H (fr_L s b H N P) (fr_G s b H N P) (fr_GF s b H N P T) (fr_SL s b H N P T) (fr_SG s b H N P T)
theorem fr_Qb {s : Nat → Int32} {N P m : Nat} : fr_Q s N P m < 16 := sp_nq_b _
theorem fr_Lb {s b H : Nat → Int32} {N P : Nat} : fr_L s b H N P < 32 := (sp_out_b (by omega) (by omega) 32 (Nat.le_refl _)).1
theorem fr_Gb {s b H : Nat → Int32} {N P : Nat} : fr_G s b H N P < 8 := (sp_out_b (C := 32) (by omega) (by omega) 32 (Nat.le_refl _)).2
theorem fr_SLb {s b H : Nat → Int32} {N P T t : Nat} (hT : 0 < T) : fr_SL s b H N P T t < T := by
  have h := sp_ch_b (h := fr_H s N P) (x := fr_X2 s b H N P) (N := N) hT 4 t
  unfold fr_SL fr_CH
  omega
theorem fr_SGb {s b H : Nat → Int32} {N P T t : Nat} : fr_SG s b H N P T t < 2 := Nat.mod_lt _ (by decide)
theorem fr_GFb {s b H : Nat → Int32} {N P T : Nat} (hT : 0 < T) : fr_GF s b H N P T < 16 := sp_gf_b hT
/-- the fields of a frame, from cell B on -/
def sp_FF (F : Nat → Int32) (B P l ga gf : Nat) (sl sg q : Nat → Nat) : Prop :=
  F (B + 0) = nI l ∧ F (B + 1) = nI ga ∧ F (B + 2) = nI gf ∧ (∀ t, t < 4 → F (B + 3 + t) = nI (sl t)) ∧ (∀ t, t < 4 → F (B + 7 + t) = nI (sg t)) ∧ (∀ m, m < P → F (B + 11 + m) = nI (q m))
theorem sp_FFe {F G : Nat → Int32} {B P l ga gf : Nat} {sl sg q : Nat → Nat} (h : sp_FF F B P l ga gf sl sg q) (g : sp_FF G B P l ga gf sl sg q) : ∀ k, k < 11 + P → F (B + k) = G (B + k) := by
  intro k hk
  obtain ⟨h0, h1, h2, h3, h7, h11⟩ := h
  obtain ⟨g0, g1, g2, g3, g7, g11⟩ := g
  by_cases c11 : 11 ≤ k
  · obtain ⟨m, rfl⟩ : ∃ m, k = 11 + m := ⟨k - 11, by omega⟩
    rw [← Nat.add_assoc, h11 m (by omega), g11 m (by omega)]
  · by_cases c7 : 7 ≤ k
    · obtain ⟨m, rfl⟩ : ∃ m, k = 7 + m := ⟨k - 7, by omega⟩
      rw [← Nat.add_assoc, h7 m (by omega), g7 m (by omega)]
    · by_cases c3 : 3 ≤ k
      · obtain ⟨m, rfl⟩ : ∃ m, k = 3 + m := ⟨k - 3, by omega⟩
        rw [← Nat.add_assoc, h3 m (by omega), g3 m (by omega)]
      · have hk' : k = 0 ∨ k = 1 ∨ k = 2 := by omega
        rcases hk' with rfl | rfl | rfl
        · rw [h0, g0]
        · rw [h1, g1]
        · rw [h2, g2]
theorem sx_enc {P N T : Nat} {x_encodedStream : Int64} {x_reflectionLevels x_pulseLevels x_memory x_history x_output x_fields x_frameCounts x_reflections x_samples x_rawReflections x_target x_impulseResponse x_pastExcitation x_filteredPast x_chosenPulses x_trialPulses x_pulseSigns x_excitation x_receivedFields : Nat → Int32} {x_correlation x_predictor x_oldPredictor : Nat → Int64} {post : Int32 → St2 → Prop} {s b H : Nat → Int32} (es : x_samples = s) (hs : sp_bd s) (hP2 : 2 ≤ P) (hP : P ≤ 6) (hNT : N = 4 * T) (hT2 : 2 ≤ T) (hT : T ≤ 8)
    (hk : ∀ j, j < 16 → x_reflectionLevels j = sp_kq j) (hg : ∀ j, j < 16 → x_pulseLevels j = sp_fg j)
    (hb : sp_row (0 * 6) P x_memory b) (hH : ∀ j, 1 ≤ j → j ≤ 64 → x_history (0 * 64 + j - 1) = H j)
    (h : ∀ raw co pr op F Rf M A tg ir pe fp tp cp ps ex,
      (∀ j, j < P → raw j = sp_K s N P (j + 1)) →
      sp_FF F (0 * 17) P (fr_L s b H N P) (fr_G s b H N P) (fr_GF s b H N P T) (fr_SL s b H N P T) (fr_SG s b H N P T) (fr_Q s N P) → (∀ j, 17 ≤ j → F j = x_fields j) →
      (∀ j, j < P → Rf (0 * 6 + j) = sp_kq (fr_Q s N P j)) → (∀ j, 6 ≤ j → Rf j = x_reflections j) →
      sp_row (0 * 6) P M (sp_lm (fr_C s N P) P b (fr_U s b H N P T) N) → (∀ q, 6 ≤ q → q < 12 → M q = x_memory q) →
      (∀ j, 1 ≤ j → j ≤ 64 → A (0 * 64 + j - 1) = sp_nh N (fr_U s b H N P T) H j) → (∀ q, 64 ≤ q → A q = x_history q) →
      post 1 ((nI P), (nI N), (nI T), 0, (lN (fr_S s b H N P T)), x_reflectionLevels, x_pulseLevels, M, A, (sp_fo (sp_lo (fr_C s N P) P b (fr_U s b H N P T)) (0 * 32) N x_output), F, (upd x_frameCounts 0 (x_frameCounts 0 + 1)), Rf, x_samples, raw, co, pr, op, tg, ir, pe, fp, cp, tp, ps, ex, x_receivedFields)) :
    wpX_encodeFrame post ((nI P), (nI N), (nI T), (nI N), x_encodedStream, x_reflectionLevels, x_pulseLevels, x_memory, x_history, x_output, x_fields, x_frameCounts, x_reflections, x_samples, x_rawReflections, x_correlation, x_predictor, x_oldPredictor, x_target, x_impulseResponse, x_pastExcitation, x_filteredPast, x_chosenPulses, x_trialPulses, x_pulseSigns, x_excitation, x_receivedFields) := by
  have hN8 : 8 ≤ N := by omega
  have hN : N ≤ 32 := by omega
  have hP1 : 1 ≤ P := by omega
  have hb0 : ∀ j, j < P → x_memory j = b j := fun j hj => by
    have t := hb j hj
    rw [Nat.zero_mul, Nat.zero_add] at t
    exact t
  have hc : ∀ j, j < P → sp_fl (fun m => sp_kq (sp_nq (sp_K s N P (m + 1)))) P x_reflections (0 * 6 + j) = fr_C s N P (j + 1) := fun j hj => by
    rw [Nat.zero_mul, Nat.zero_add, sp_fl_lo hj]
    rfl
  refine br_t (nI_le (Nat.le_refl N) (by omega)) (sx_dr es hs hN8 hN hP (fun raw co pr op hraw => ?_))
  refine sx_qr hP hk hraw ?_
  refine sx_ft (s := s) hP1 hP hN (fun j _ => by rw [es]) hc hb0 (fun M1 hM1 => ?_)
  refine sx_fi hP1 hP hN hc (fun M2 hM2 => ?_)
  refine sx_sa (x := fr_X s b N P) (hh := fr_H s N P) (H := H) (E := fr_E s b H N P) hN (fun j hj => sp_fl_lo hj) (fun j hj => sp_fl_lo hj) hH (fun l g _ _ => rfl) (fun pe fp => ?_)
  refine sx_ra (x := fr_X s b N P) (hh := fr_H s N P) (H := H) (l := fr_L s b H N P) (g := fr_G s b H N P) hN fr_Lb (fun j hj => sp_fl_lo hj) (fun j hj => sp_fl_lo hj) hH ?_ ?_ (fun pe' fp' => ?_)
  · rw [pk_un (by omega), pk_us]
    rfl
  · rw [pk_us]
    rfl
  refine sx_sp (x := fr_X2 s b H N P) (hh := fr_H s N P) hN (by omega) hT (fun j hj => sp_fl_lo hj) (fun j hj => sp_fl_lo hj) hg (fun F tp cp hF1 hF2 hF3 => ?_)
  have f0 : F 0 = nI (fr_L s b H N P) := by
    rw [hF3 0 (by omega), pk_un (by omega), pk_us]
    rfl
  have f1 : F 1 = nI (fr_G s b H N P) := by
    rw [hF3 1 (by omega), pk_us]
    rfl
  have f11 : ∀ m, m < P → F (11 + m) = nI (fr_Q s N P m) := fun m hm => by
    rw [hF3 (11 + m) (by omega), pk_un (by omega), pk_un (by omega), sp_fo_in hm]
    rfl
  have f17 : ∀ j, 17 ≤ j → F j = x_fields j := fun j hj => by
    rw [hF3 j (by omega), pk_un (by omega), pk_un (by omega), sp_fo_out (by omega)]
  have f3 : ∀ t, t < 4 → F (3 + t) = nI (fr_SL s b H N P T t) := fun t ht => (hF1 t ht).1
  have f7 : ∀ t, t < 4 → F (7 + t) = nI (fr_SG s b H N P T t) := fun t ht => (hF1 t ht).2
  have hFF : sp_FF F (0 * 17) P (fr_L s b H N P) (fr_G s b H N P) (fr_GF s b H N P T) (fr_SL s b H N P T) (fr_SG s b H N P T) (fr_Q s N P) := ⟨f0, f1, hF2, f3, f7, f11⟩
  refine sx_pf (l := fr_L s b H N P) (ga := fr_G s b H N P) (gf := fr_GF s b H N P T) (q := fr_Q s N P) (sl := fr_SL s b H N P T) (sg := fr_SG s b H N P T) hP (fun m hm => ⟨f11 m hm, fr_Qb⟩) f0 fr_Lb f1 fr_Gb (fun t ht => ⟨f3 t ht, Nat.lt_of_lt_of_le (fr_SLb (by omega)) hT⟩) (fun t ht => ⟨f7 t ht, fr_SGb⟩) hF2 (fr_GFb (by omega)) ?_
  have hb2 : sp_row (0 * 6) P M2 b := fun j hj => by
    rw [hM2 _ (by omega), hM1 _ (by omega)]
    exact hb j hj
  refine sx_syn (sd := 0) (c := fr_C s N P) (b := b) (H := H) (l := fr_L s b H N P) (ga := fr_G s b H N P) (gf := fr_GF s b H N P T) (sl := fr_SL s b H N P T) (sg := fr_SG s b H N P T) hP1 hP hN8 hNT hT (by omega) hg hb2 hc hH f0 fr_Lb f1 hF2 (fr_GFb (by omega)) (fun t ht => ⟨f3 t ht, fr_SLb (by omega)⟩) (fun t ht => ⟨f7 t ht, fr_SGb⟩) (fun M3 A pe2 ps ex r1 r2 r3 r4 => ?_)
  refine h raw co pr op F _ M3 A _ _ pe2 _ tp cp ps ex hraw hFF f17 (fun j hj => ?_) (fun j hj => ?_) r1 (fun q h6 h12 => ?_) r3 (fun q hq => r4 q (by omega))
  · rw [Nat.zero_mul, Nat.zero_add, sp_fl_lo hj]
    rfl
  · rw [sp_fl_hi (by omega)]
  · rw [r2 q (by omega), hM2 q h12, hM1 q h12]
end
section
/-! the component's decodeFrame -/
def dr_Q (S m : Nat) : Nat := sp_rd S (4 * m) 4
def dr_L (S P : Nat) : Nat := sp_rd S (4 * P) 5
def dr_G (S P : Nat) : Nat := sp_rd S (4 * P + 5) 3
def dr_SL (S P t : Nat) : Nat := sp_rd S (4 * P + 8 + 4 * t) 3
def dr_SG (S P t : Nat) : Nat := sp_rd S (4 * P + 8 + 4 * t + 3) 1
def dr_GF (S P : Nat) : Nat := sp_rd S (4 * P + 24) 4
def dr_C (S j : Nat) : Int32 := sp_kq (dr_Q S (j - 1))
def dr_U (H : Nat → Int32) (S P : Nat) : Nat → Int32 := sp_u H (dr_L S P) (dr_G S P) (dr_GF S P) (dr_SL S P) (dr_SG S P)
theorem sp_msk : ∀ k, k < 16 → (((1 : Int32) <<< (nI k &&& 31)) - 1).toBitVec.toNat = 2 ^ k - 1 := by decide +kernel
theorem sx_ba {post : Int32 → Prop} {S c k : Nat} {p1 p2 : Int32} (hS : S < 2 ^ 64) (hk : 1 ≤ k) (hk2 : k < 16) (hc : c + k ≤ 64) (h : post (nI (sp_rd S c k))) (e1 : p1 = nI c := by rfl) (e2 : p2 = nI k := by rfl) : wpX_bitsAt post () (lN S) p1 p2 := by
  subst e1 e2
  unfold wpX_bitsAt
  rw [show (64 : Int32) - nI c = nI (64 - c) from pk_sub (a := 64) (by omega), pk_sub (by omega), sp_bits hS hc (by omega) rfl (by omega) (sp_msk k hk2)]
  exact h
theorem sx_uf71 {P N T : Nat} {x_pending : Int32} {x_encodedStream : Int64} {x_reflectionLevels x_pulseLevels x_memory x_history x_output x_fields x_frameCounts x_reflections x_samples x_rawReflections x_target x_impulseResponse x_pastExcitation x_filteredPast x_chosenPulses x_trialPulses x_pulseSigns x_excitation x_receivedFields : Nat → Int32} {x_correlation x_predictor x_oldPredictor : Nat → Int64} {post : St2 → Prop} {S : Nat} (hS : S < 2 ^ 64) (hP : P ≤ 6)
    (h : ∀ rf, (∀ t, t < 4 → rf (3 + t) = nI (dr_SL S P t)) → (∀ t, t < 4 → rf (7 + t) = nI (dr_SG S P t)) → rf 2 = nI (dr_GF S P) → (∀ j, j < 2 ∨ 11 ≤ j → rf j = x_receivedFields j) → post ((nI P), (nI N), (nI T), x_pending, x_encodedStream, x_reflectionLevels, x_pulseLevels, x_memory, x_history, x_output, x_fields, x_frameCounts, x_reflections, x_samples, x_rawReflections, x_correlation, x_predictor, x_oldPredictor, x_target, x_impulseResponse, x_pastExcitation, x_filteredPast, x_chosenPulses, x_trialPulses, x_pulseSigns, x_excitation, rf)) :
    ∀ d t rf, t + d = 4 → (∀ k, k < t → rf (3 + k) = nI (dr_SL S P k)) → (∀ k, k < t → rf (7 + k) = nI (dr_SG S P k)) → (∀ j, j < 2 ∨ 11 ≤ j → rf j = x_receivedFields j) →
      wX_unpackFields_71 post (lN S) (nI P) (nI N) (nI T) x_pending x_encodedStream (d + 1) (nI (4 * P + 8 + 4 * t)) (nI t) x_reflectionLevels x_pulseLevels x_memory x_history x_output x_fields x_frameCounts x_reflections x_samples x_rawReflections x_correlation x_predictor x_oldPredictor x_target x_impulseResponse x_pastExcitation x_filteredPast x_chosenPulses x_trialPulses x_pulseSigns x_excitation rf := by
  intro d
  induction d with
  | zero =>
    intro t rf ht h3 h7 hf
    obtain rfl : t = 4 := by omega
    refine br_t (nI_le (a := 4) (by omega) (by omega)) (sx_ba (c := 4 * P + 24) (k := 4) hS (by omega) (by omega) (by omega) (nm_e (h _ ?_ ?_ ?_ ?_)))
    · intro k hk
      rw [pk_un (by omega)]
      exact h3 k hk
    · intro k hk
      rw [pk_un (by omega)]
      exact h7 k hk
    · rw [pk_us]
      rfl
    · intro j hj
      rw [pk_un (by omega)]
      exact hf j hj
  | succ d ih =>
    intro t rf ht h3 h7 hf
    have e3 : (3 : Int32) + nI t = nI (3 + t) := nI_add 3 t
    have e7 : (7 : Int32) + nI t = nI (7 + t) := nI_add 7 t
    refine br_f (nI_ge (b := 4) (by omega) (by omega)) (sx_ba (c := 4 * P + 8 + 4 * t) (k := 3) hS (by omega) (by omega) (by omega) ⟨pk_in (3 + t) 17 (by omega) e3, nm_e (sx_ba (c := 4 * P + 8 + 4 * t + 3) (k := 1) hS (by omega) (by omega) (by omega) ⟨pk_in (7 + t) 17 (by omega) e7, nm_e (nm_r (e' := nI (4 * P + 8 + 4 * (t + 1))) (nI_add _ 4) (nm_r (nI_1 t) (ih (t + 1) _ (by omega) ?_ ?_ ?_)))⟩ (nI_add _ 3))⟩)
    · intro k hk
      rw [e3, e7, nI_clamp (by omega), nI_clamp (by omega)]
      by_cases c : k = t
      · subst c
        rw [pk_un (by omega), pk_us]
        rfl
      · rw [pk_un (by omega), pk_un (by omega)]
        exact h3 k (by omega)
    · intro k hk
      rw [e3, e7, nI_clamp (by omega), nI_clamp (by omega)]
      by_cases c : k = t
      · subst c
        rw [pk_us]
        rfl
      · rw [pk_un (by omega), pk_un (by omega)]
        exact h7 k (by omega)
    · intro j hj
      rw [e3, e7, nI_clamp (by omega), nI_clamp (by omega), pk_un (by omega), pk_un (by omega)]
      exact hf j hj
theorem sx_uf5 {P N T : Nat} {x_pending : Int32} {x_encodedStream : Int64} {x_reflectionLevels x_pulseLevels x_memory x_history x_output x_fields x_frameCounts x_reflections x_samples x_rawReflections x_target x_impulseResponse x_pastExcitation x_filteredPast x_chosenPulses x_trialPulses x_pulseSigns x_excitation : Nat → Int32} {x_correlation x_predictor x_oldPredictor : Nat → Int64} {post : St2 → Prop} {S : Nat} (hS : S < 2 ^ 64) (hP : P ≤ 6)
    (h : ∀ rf, sp_FF rf 0 P (dr_L S P) (dr_G S P) (dr_GF S P) (dr_SL S P) (dr_SG S P) (dr_Q S) → post ((nI P), (nI N), (nI T), x_pending, x_encodedStream, x_reflectionLevels, x_pulseLevels, x_memory, x_history, x_output, x_fields, x_frameCounts, x_reflections, x_samples, x_rawReflections, x_correlation, x_predictor, x_oldPredictor, x_target, x_impulseResponse, x_pastExcitation, x_filteredPast, x_chosenPulses, x_trialPulses, x_pulseSigns, x_excitation, rf)) :
    ∀ d m rf, m + d = P → (∀ k, k < m → rf (11 + k) = nI (dr_Q S k)) →
      wX_unpackFields_5 post (lN S) (nI P) (nI N) (nI T) x_pending x_encodedStream (d + 1) (nI (4 * m)) (nI m) x_reflectionLevels x_pulseLevels x_memory x_history x_output x_fields x_frameCounts x_reflections x_samples x_rawReflections x_correlation x_predictor x_oldPredictor x_target x_impulseResponse x_pastExcitation x_filteredPast x_chosenPulses x_trialPulses x_pulseSigns x_excitation rf := by
  intro d
  induction d with
  | zero =>
    intro m rf hm hq
    obtain rfl : m = P := by omega
    refine br_t (nI_le (by omega) (by omega)) (sx_ba (c := 4 * m) (k := 5) hS (by omega) (by omega) (by omega) (nm_e (sx_ba (c := 4 * m + 5) (k := 3) hS (by omega) (by omega) (by omega) (nm_e (nm_r (e' := nI (4 * m + 8 + 4 * 0)) (nI_add _ 8) (Exists.intro (4 + 1) ?_))) (nI_add _ 5))))
    refine sx_uf71 hS hP (fun rf' g3 g7 g2 gf => h rf' ⟨?_, ?_, g2, ?_, ?_, ?_⟩) 4 0 _ (by omega) (fun k hk => absurd hk (by omega)) (fun k hk => absurd hk (by omega)) (fun _ _ => rfl)
    · rw [gf (0 + 0) (by omega), pk_un (by omega), pk_us]
      rfl
    · rw [gf (0 + 1) (by omega), pk_us]
      rfl
    · intro t ht
      rw [show 0 + 3 + t = 3 + t from by omega]
      exact g3 t ht
    · intro t ht
      rw [show 0 + 7 + t = 7 + t from by omega]
      exact g7 t ht
    · intro k hk
      rw [show 0 + 11 + k = 11 + k from by omega, gf (11 + k) (by omega), pk_un (by omega), pk_un (by omega)]
      exact hq k hk
  | succ d ih =>
    intro m rf hm hq
    have e : (11 : Int32) + nI m = nI (11 + m) := nI_add 11 m
    refine br_f (nI_ge (by omega) (by omega)) (sx_ba (c := 4 * m) (k := 4) hS (by omega) (by omega) (by omega) ⟨pk_in (11 + m) 17 (by omega) e, nm_e (nm_r (e' := nI (4 * (m + 1))) (nI_add _ 4) (nm_r (nI_1 m) (ih (m + 1) _ (by omega) ?_)))⟩)
    intro k hk
    rw [e, nI_clamp (by omega)]
    by_cases c : k = m
    · subst c
      rw [pk_us]
      rfl
    · rw [pk_un (by omega)]
      exact hq k (by omega)
theorem sx_uf {P N T : Nat} {x_pending : Int32} {x_encodedStream : Int64} {x_reflectionLevels x_pulseLevels x_memory x_history x_output x_fields x_frameCounts x_reflections x_samples x_rawReflections x_target x_impulseResponse x_pastExcitation x_filteredPast x_chosenPulses x_trialPulses x_pulseSigns x_excitation x_receivedFields : Nat → Int32} {x_correlation x_predictor x_oldPredictor : Nat → Int64} {post : St2 → Prop} {S : Nat} (hS : S < 2 ^ 64) (hP : P ≤ 6)
    (h : ∀ rf, sp_FF rf 0 P (dr_L S P) (dr_G S P) (dr_GF S P) (dr_SL S P) (dr_SG S P) (dr_Q S) → post ((nI P), (nI N), (nI T), x_pending, x_encodedStream, x_reflectionLevels, x_pulseLevels, x_memory, x_history, x_output, x_fields, x_frameCounts, x_reflections, x_samples, x_rawReflections, x_correlation, x_predictor, x_oldPredictor, x_target, x_impulseResponse, x_pastExcitation, x_filteredPast, x_chosenPulses, x_trialPulses, x_pulseSigns, x_excitation, rf)) : wpX_unpackFields post ((nI P), (nI N), (nI T), x_pending, x_encodedStream, x_reflectionLevels, x_pulseLevels, x_memory, x_history, x_output, x_fields, x_frameCounts, x_reflections, x_samples, x_rawReflections, x_correlation, x_predictor, x_oldPredictor, x_target, x_impulseResponse, x_pastExcitation, x_filteredPast, x_chosenPulses, x_trialPulses, x_pulseSigns, x_excitation, x_receivedFields) (lN S) :=
  Exists.intro (P + 1) (sx_uf5 hS hP h P 0 x_receivedFields (by omega) (fun k hk => absurd hk (by omega)))
theorem sx_rs2 {P N T : Nat} {x_pending : Int32} {x_encodedStream : Int64} {x_reflectionLevels x_pulseLevels x_memory x_history x_output x_fields x_frameCounts x_reflections x_samples x_rawReflections x_target x_impulseResponse x_pastExcitation x_filteredPast x_chosenPulses x_trialPulses x_pulseSigns x_excitation x_receivedFields : Nat → Int32} {x_correlation x_predictor x_oldPredictor : Nat → Int64} {post : Int32 → Prop} {sl : Nat → Nat} (hT : T ≤ 8) (hb : ∀ t, t < 4 → sl t < 8) (h3 : ∀ t, t < 4 → x_receivedFields (3 + t) = nI (sl t))
    (h1 : (∀ t, t < 4 → sl t < T) → post 1) (h0 : ¬ (∀ t, t < 4 → sl t < T) → post 0) :
    ∀ d t, t + d = 4 → (∀ k, k < t → sl k < T) → wX_receivedSlotsFit_2 post (nI P) (nI N) (nI T) x_pending x_encodedStream x_reflectionLevels x_pulseLevels x_memory x_history x_output x_fields x_frameCounts x_reflections x_samples x_rawReflections x_correlation x_predictor x_oldPredictor x_target x_impulseResponse x_pastExcitation x_filteredPast x_chosenPulses x_trialPulses x_pulseSigns x_excitation x_receivedFields (d + 1) (nI t) := by
  intro d
  induction d with
  | zero =>
    intro t ht hk
    obtain rfl : t = 4 := by omega
    exact br_t (nI_le (a := 4) (by omega) (by omega)) (h1 hk)
  | succ d ih =>
    intro t ht hk
    have e3 : (3 : Int32) + nI t = nI (3 + t) := nI_add 3 t
    refine br_f (nI_ge (b := 4) (by omega) (by omega)) ⟨pk_in (3 + t) 17 (by omega) e3, ?_⟩
    have b := hb t (by omega)
    rw [e3, nI_clamp (by omega), h3 t (by omega)]
    by_cases c : sl t < T
    · refine br_t (nI_lt c (by omega)) (nm_r (nI_1 t) (ih (t + 1) (by omega) (fun k hk' => ?_)))
      by_cases e : k = t
      · rw [e]
        exact c
      · exact hk k (by omega)
    · exact br_f (nI_nlt (by omega) (by omega)) (h0 (fun z => c (z t (by omega))))
theorem sx_rs {P N T : Nat} {x_pending : Int32} {x_encodedStream : Int64} {x_reflectionLevels x_pulseLevels x_memory x_history x_output x_fields x_frameCounts x_reflections x_samples x_rawReflections x_target x_impulseResponse x_pastExcitation x_filteredPast x_chosenPulses x_trialPulses x_pulseSigns x_excitation x_receivedFields : Nat → Int32} {x_correlation x_predictor x_oldPredictor : Nat → Int64} {post : Int32 → Prop} {sl : Nat → Nat} (hT : T ≤ 8) (hb : ∀ t, t < 4 → sl t < 8) (h3 : ∀ t, t < 4 → x_receivedFields (3 + t) = nI (sl t))
    (h1 : (∀ t, t < 4 → sl t < T) → post 1) (h0 : ¬ (∀ t, t < 4 → sl t < T) → post 0) : wpX_receivedSlotsFit post ((nI P), (nI N), (nI T), x_pending, x_encodedStream, x_reflectionLevels, x_pulseLevels, x_memory, x_history, x_output, x_fields, x_frameCounts, x_reflections, x_samples, x_rawReflections, x_correlation, x_predictor, x_oldPredictor, x_target, x_impulseResponse, x_pastExcitation, x_filteredPast, x_chosenPulses, x_trialPulses, x_pulseSigns, x_excitation, x_receivedFields) :=
  Exists.intro (4 + 1) (sx_rs2 hT hb h3 h1 h0 4 0 (by omega) (fun k hk => absurd hk (by omega)))
theorem sx_sr36 {P N T : Nat} {x_pending : Int32} {x_encodedStream : Int64} {x_reflectionLevels x_pulseLevels x_memory x_history x_output x_fields x_frameCounts x_reflections x_samples x_rawReflections x_target x_impulseResponse x_pastExcitation x_filteredPast x_chosenPulses x_trialPulses x_pulseSigns x_excitation x_receivedFields : Nat → Int32} {x_correlation x_predictor x_oldPredictor : Nat → Int64} {post : St2 → Prop} {q : Nat → Nat} (hP : P ≤ 6) (hk : ∀ j, j < 16 → x_reflectionLevels j = sp_kq j) (hq : ∀ m, m < P → x_receivedFields (11 + m) = nI (q m) ∧ q m < 16)
    (h : post ((nI P), (nI N), (nI T), x_pending, x_encodedStream, x_reflectionLevels, x_pulseLevels, x_memory, x_history, x_output, x_fields, x_frameCounts, (sp_fo (fun m => sp_kq (q m)) 6 P x_reflections), x_samples, x_rawReflections, x_correlation, x_predictor, x_oldPredictor, x_target, x_impulseResponse, x_pastExcitation, x_filteredPast, x_chosenPulses, x_trialPulses, x_pulseSigns, x_excitation, x_receivedFields)) :
    ∀ d i, i + d = P → wX_storeReceivedFields_36 post (nI P) (nI N) (nI T) x_pending x_encodedStream (d + 1) (nI i) x_reflectionLevels x_pulseLevels x_memory x_history x_output x_fields x_frameCounts (sp_fo (fun m => sp_kq (q m)) 6 i x_reflections) x_samples x_rawReflections x_correlation x_predictor x_oldPredictor x_target x_impulseResponse x_pastExcitation x_filteredPast x_chosenPulses x_trialPulses x_pulseSigns x_excitation x_receivedFields := by
  intro d
  induction d with
  | zero =>
    intro i hi
    obtain rfl : i = P := by omega
    exact br_t (nI_le (by omega) (by omega)) h
  | succ d ih =>
    intro i hi
    have e : (11 : Int32) + nI i = nI (11 + i) := nI_add 11 i
    have e6 : (6 : Int32) + nI i = nI (6 + i) := nI_add 6 i
    have o := hq i (by omega)
    have c : x_receivedFields ((11 : Int32) + nI i).toNatClampNeg = nI (q i) := by
      rw [e, nI_clamp (by omega)]
      exact o.1
    refine br_f (nI_ge (by omega) (by omega)) ⟨pk_in (11 + i) 17 (by omega) e, pk_in (q i) 16 o.2 c, pk_in (6 + i) 12 (by omega) e6, nm_r ?_ (nm_r (nI_1 i) (ih (i + 1) (by omega)))⟩
    rw [c, e6, nI_clamp (by omega), nI_clamp (by omega), hk _ o.2]
    exact sp_foS (g := fun m => sp_kq (q m))
theorem sx_sr2 {P N T : Nat} {x_pending : Int32} {x_encodedStream : Int64} {x_reflectionLevels x_pulseLevels x_memory x_history x_output x_fields x_frameCounts x_reflections x_samples x_rawReflections x_target x_impulseResponse x_pastExcitation x_filteredPast x_chosenPulses x_trialPulses x_pulseSigns x_excitation x_receivedFields : Nat → Int32} {x_correlation x_predictor x_oldPredictor : Nat → Int64} {post : St2 → Prop} {q : Nat → Nat} (hP : P ≤ 6) (hk : ∀ j, j < 16 → x_reflectionLevels j = sp_kq j) (hq : ∀ m, m < P → x_receivedFields (11 + m) = nI (q m) ∧ q m < 16)
    (h : post ((nI P), (nI N), (nI T), x_pending, x_encodedStream, x_reflectionLevels, x_pulseLevels, x_memory, x_history, x_output, (sp_fo x_receivedFields 17 (11 + P) x_fields), x_frameCounts, (sp_fo (fun m => sp_kq (q m)) 6 P x_reflections), x_samples, x_rawReflections, x_correlation, x_predictor, x_oldPredictor, x_target, x_impulseResponse, x_pastExcitation, x_filteredPast, x_chosenPulses, x_trialPulses, x_pulseSigns, x_excitation, x_receivedFields)) :
    ∀ d i, i + d = 11 + P → wX_storeReceivedFields_2 post (nI P) (nI N) (nI T) x_pending x_encodedStream (d + 1) (nI i) x_reflectionLevels x_pulseLevels x_memory x_history x_output (sp_fo x_receivedFields 17 i x_fields) x_frameCounts x_reflections x_samples x_rawReflections x_correlation x_predictor x_oldPredictor x_target x_impulseResponse x_pastExcitation x_filteredPast x_chosenPulses x_trialPulses x_pulseSigns x_excitation x_receivedFields := by
  have eP : (11 : Int32) + nI P = nI (11 + P) := nI_add 11 P
  intro d
  induction d with
  | zero =>
    intro i hi
    obtain rfl : i = 11 + P := by omega
    have t := sx_sr36 (x_reflections := x_reflections) (x_fields := sp_fo x_receivedFields 17 (11 + P) x_fields) hP hk hq h P 0 (by omega)
    rw [sp_fo0] at t
    exact br_t (by rw [eP]; exact nI_le (by omega) (by omega)) ⟨P + 1, t⟩
  | succ d ih =>
    intro i hi
    have e : (17 : Int32) + nI i = nI (17 + i) := nI_add 17 i
    refine br_f (by rw [eP]; exact nI_ge (by omega) (by omega)) ⟨vp_in_nI (by omega) (by omega), pk_in (17 + i) 34 (by omega) e, nm_r ?_ (nm_r (nI_1 i) (ih (i + 1) (by omega)))⟩
    rw [e, nI_clamp (by omega), nI_clamp (by omega)]
    exact sp_foS
theorem sx_sr {P N T : Nat} {x_pending : Int32} {x_encodedStream : Int64} {x_reflectionLevels x_pulseLevels x_memory x_history x_output x_fields x_frameCounts x_reflections x_samples x_rawReflections x_target x_impulseResponse x_pastExcitation x_filteredPast x_chosenPulses x_trialPulses x_pulseSigns x_excitation x_receivedFields : Nat → Int32} {x_correlation x_predictor x_oldPredictor : Nat → Int64} {post : St2 → Prop} {q : Nat → Nat} (hP : P ≤ 6) (hk : ∀ j, j < 16 → x_reflectionLevels j = sp_kq j) (hq : ∀ m, m < P → x_receivedFields (11 + m) = nI (q m) ∧ q m < 16)
    (h : post ((nI P), (nI N), (nI T), x_pending, x_encodedStream, x_reflectionLevels, x_pulseLevels, x_memory, x_history, x_output, (sp_fo x_receivedFields 17 (11 + P) x_fields), x_frameCounts, (sp_fo (fun m => sp_kq (q m)) 6 P x_reflections), x_samples, x_rawReflections, x_correlation, x_predictor, x_oldPredictor, x_target, x_impulseResponse, x_pastExcitation, x_filteredPast, x_chosenPulses, x_trialPulses, x_pulseSigns, x_excitation, x_receivedFields)) : wpX_storeReceivedFields post ((nI P), (nI N), (nI T), x_pending, x_encodedStream, x_reflectionLevels, x_pulseLevels, x_memory, x_history, x_output, x_fields, x_frameCounts, x_reflections, x_samples, x_rawReflections, x_correlation, x_predictor, x_oldPredictor, x_target, x_impulseResponse, x_pastExcitation, x_filteredPast, x_chosenPulses, x_trialPulses, x_pulseSigns, x_excitation, x_receivedFields) := by
  have t := sx_sr2 hP hk hq h (11 + P) 0 (by omega)
  rw [sp_fo0] at t
  exact Exists.intro _ t
theorem dr_SLb {S P t : Nat} : dr_SL S P t < 8 := sp_rd_b _ _ 3
theorem dr_Qb {S m : Nat} : dr_Q S m < 16 := sp_rd_b _ _ 4
theorem sp_FF_fo {rf F : Nat → Int32} {P l ga gf : Nat} {sl sg q : Nat → Nat} (h : sp_FF rf 0 P l ga gf sl sg q) : sp_FF (sp_fo rf 17 (11 + P) F) (1 * 17) P l ga gf sl sg q := by
  obtain ⟨h0, h1, h2, h3, h7, h11⟩ := h
  refine ⟨?_, ?_, ?_, fun t ht => ?_, fun t ht => ?_, fun m hm => ?_⟩
  · exact (sp_fo_in (B := 17) (j := 0) (by omega)).trans h0
  · exact (sp_fo_in (B := 17) (j := 1) (by omega)).trans h1
  · exact (sp_fo_in (B := 17) (j := 2) (by omega)).trans h2
  · rw [show 1 * 17 + 3 + t = 17 + (0 + 3 + t) from by omega]
    exact (sp_fo_in (by omega)).trans (h3 t ht)
  · rw [show 1 * 17 + 7 + t = 17 + (0 + 7 + t) from by omega]
    exact (sp_fo_in (by omega)).trans (h7 t ht)
  · rw [show 1 * 17 + 11 + m = 17 + (0 + 11 + m) from by omega]
    exact (sp_fo_in (by omega)).trans (h11 m hm)
theorem sx_dec {P N T : Nat} {x_pending : Int32} {x_encodedStream : Int64} {x_reflectionLevels x_pulseLevels x_memory x_history x_output x_fields x_frameCounts x_reflections x_samples x_rawReflections x_target x_impulseResponse x_pastExcitation x_filteredPast x_chosenPulses x_trialPulses x_pulseSigns x_excitation x_receivedFields : Nat → Int32} {x_correlation x_predictor x_oldPredictor : Nat → Int64} {post : Int32 → St2 → Prop} {b H : Nat → Int32} {p0 p1 p2 p3 : Int32} {S : Nat} (hP2 : 2 ≤ P) (hP : P ≤ 6) (hNT : N = 4 * T) (hT2 : 2 ≤ T) (hT : T ≤ 8)
    (eS : S = sp_S (p0.toBitVec.toNat % 65536) (p1.toBitVec.toNat % 65536) (p2.toBitVec.toNat % 65536) (p3.toBitVec.toNat % 65536))
    (hk : ∀ j, j < 16 → x_reflectionLevels j = sp_kq j) (hg : ∀ j, j < 16 → x_pulseLevels j = sp_fg j)
    (hb : sp_row (1 * 6) P x_memory b) (hH : ∀ j, 1 ≤ j → j ≤ 64 → x_history (1 * 64 + j - 1) = H j)
    (h0 : ¬ (∀ t, t < 4 → dr_SL S P t < T) → ∀ rf, post 0 ((nI P), (nI N), (nI T), x_pending, x_encodedStream, x_reflectionLevels, x_pulseLevels, x_memory, x_history, x_output, x_fields, x_frameCounts, x_reflections, x_samples, x_rawReflections, x_correlation, x_predictor, x_oldPredictor, x_target, x_impulseResponse, x_pastExcitation, x_filteredPast, x_chosenPulses, x_trialPulses, x_pulseSigns, x_excitation, rf))
    (h1 : (∀ t, t < 4 → dr_SL S P t < T) → ∀ F Rf M A pe ps ex rf,
      sp_FF F (1 * 17) P (dr_L S P) (dr_G S P) (dr_GF S P) (dr_SL S P) (dr_SG S P) (dr_Q S) → (∀ j, j < 17 → F j = x_fields j) →
      (∀ j, j < P → Rf (1 * 6 + j) = sp_kq (dr_Q S j)) → (∀ j, j < 6 → Rf j = x_reflections j) →
      sp_row (1 * 6) P M (sp_lm (dr_C S) P b (dr_U H S P) N) → (∀ q, q < 6 → M q = x_memory q) →
      (∀ j, 1 ≤ j → j ≤ 64 → A (1 * 64 + j - 1) = sp_nh N (dr_U H S P) H j) → (∀ q, q < 64 → A q = x_history q) →
      post 1 ((nI P), (nI N), (nI T), x_pending, x_encodedStream, x_reflectionLevels, x_pulseLevels, M, A, (sp_fo (sp_lo (dr_C S) P b (dr_U H S P)) (1 * 32) N x_output), F, (upd x_frameCounts 1 (x_frameCounts 1 + 1)), Rf, x_samples, x_rawReflections, x_correlation, x_predictor, x_oldPredictor, x_target, x_impulseResponse, pe, x_filteredPast, x_chosenPulses, x_trialPulses, ps, ex, rf)) :
    wpX_decodeFrame post ((nI P), (nI N), (nI T), x_pending, x_encodedStream, x_reflectionLevels, x_pulseLevels, x_memory, x_history, x_output, x_fields, x_frameCounts, x_reflections, x_samples, x_rawReflections, x_correlation, x_predictor, x_oldPredictor, x_target, x_impulseResponse, x_pastExcitation, x_filteredPast, x_chosenPulses, x_trialPulses, x_pulseSigns, x_excitation, x_receivedFields) p0 p1 p2 p3 := by
  have hS : S < 2 ^ 64 := by
    rw [eS]
    exact sp_S_b (Nat.mod_lt _ (by decide)) (Nat.mod_lt _ (by decide)) (Nat.mod_lt _ (by decide)) (Nat.mod_lt _ (by decide))
  refine nm_r (e' := lN S) ?_ (sx_uf hS hP (fun rf hrf => ?_))
  · rw [sp_lo16, sp_lo16, sp_lo16, sp_lo16, eS]
    exact sp_S_l (Nat.mod_lt _ (by decide)) (Nat.mod_lt _ (by decide)) (Nat.mod_lt _ (by decide)) (Nat.mod_lt _ (by decide))
  have r3 : ∀ t, t < 4 → rf (3 + t) = nI (dr_SL S P t) := fun t ht => by
    have q := hrf.2.2.2.1 t ht
    rw [show 0 + 3 + t = 3 + t from by omega] at q
    exact q
  have r11 : ∀ m, m < P → rf (11 + m) = nI (dr_Q S m) := fun m hm => by
    have q := hrf.2.2.2.2.2 m hm
    rw [show 0 + 11 + m = 11 + m from by omega] at q
    exact q
  refine sx_rs hT (fun t _ => dr_SLb) r3 (fun hfit => ?_) (fun hn => ?_)
  · refine br_f (by decide) (sx_sr hP hk (fun m hm => ⟨r11 m hm, dr_Qb⟩) ?_)
    have hF := sp_FF_fo (F := x_fields) hrf
    refine sx_syn (sd := 1) (c := dr_C S) (b := b) (H := H) (l := dr_L S P) (ga := dr_G S P) (gf := dr_GF S P) (sl := dr_SL S P) (sg := dr_SG S P) (by omega) hP (by omega) hNT hT (by omega) hg hb (fun j hj => sp_fo_in hj) hH hF.1 (sp_rd_b _ _ 5) hF.2.1 hF.2.2.1 (sp_rd_b _ _ 4) (fun t ht => ⟨hF.2.2.2.1 t ht, hfit t ht⟩) (fun t ht => ⟨hF.2.2.2.2.1 t ht, sp_rd_b _ _ 1⟩) (fun M A pe ps ex q1 q2 q3 q4 => ?_)
    exact h1 hfit _ _ M A pe ps ex rf hF (fun j hj => sp_fo_out (by omega)) (fun j hj => sp_fo_in hj) (fun j hj => sp_fo_out (by omega)) q1 (fun q hq => q2 q (by omega)) q3 (fun q hq => q4 q (by omega))
  · exact br_t rfl (h0 hn rf)
end
section
/-! what was packed is read again -/
theorem sp_pj_sh {n v w : Nat} (hv : v < 2 ^ w) : sp_pj n v w >>> w = n := by
  unfold sp_pj
  rw [Nat.shiftRight_or_distrib, Nat.shiftLeft_shiftRight, Nat.shiftRight_eq_div_pow, Nat.div_eq_of_lt hv, Nat.or_zero]
theorem sp_pj_md {n v w : Nat} (hv : v < 2 ^ w) : sp_pj n v w % 2 ^ w = v := by
  unfold sp_pj
  rw [Nat.or_mod_two_pow, Nat.shiftLeft_eq, Nat.mul_mod_left, Nat.zero_or, Nat.mod_eq_of_lt hv]
theorem sp_ks_sh {q : Nat → Nat} {P : Nat} (hq : ∀ m, m < P → q m < 16) : ∀ d m, m + d = P → sp_ks q P >>> (4 * d) = sp_ks q m := by
  intro d
  induction d with
  | zero =>
    intro m hm
    obtain rfl : m = P := by omega
    rfl
  | succ d ih =>
    intro m hm
    rw [show 4 * (d + 1) = 4 * d + 4 from by omega, Nat.shiftRight_add, ih (m + 1) (by omega)]
    exact sp_pj_sh (hq m (by omega))
theorem sp_ts_sh {b : Nat} {sl sg : Nat → Nat} (h1 : ∀ t, t < 4 → sl t < 8) (h2 : ∀ t, t < 4 → sg t < 2) : ∀ d t, t + d = 4 → sp_ts b sl sg 4 >>> (4 * d) = sp_ts b sl sg t := by
  intro d
  induction d with
  | zero =>
    intro t ht
    obtain rfl : t = 4 := by omega
    rfl
  | succ d ih =>
    intro t ht
    rw [show 4 * (d + 1) = 4 * d + 1 + 3 from by omega, Nat.shiftRight_add, Nat.shiftRight_add, ih (t + 1) (by omega)]
    show sp_pj (sp_pj (sp_ts b sl sg t) (sl t) 3) (sg t) 1 >>> 1 >>> 3 = _
    rw [sp_pj_sh (h2 t (by omega)), sp_pj_sh (h1 t (by omega))]
theorem sp_rd_fs {F c k P r : Nat} (hP : P ≤ 6) (hr : c + k + r = 4 * P + 28) : sp_rd (F <<< (36 - 4 * P)) c k = F >>> r % 2 ^ k := by
  unfold sp_rd
  rw [show 64 - c - k = 36 - 4 * P + r from by omega, Nat.shiftRight_add, Nat.shiftLeft_shiftRight]
theorem sp_unp {q : Nat → Nat} {P l ga gf : Nat} {sl sg : Nat → Nat} (hP : P ≤ 6) (hq : ∀ m, m < P → q m < 16) (hl : l < 32) (hg : ga < 8) (h1 : ∀ t, t < 4 → sl t < 8) (h2 : ∀ t, t < 4 → sg t < 2) (hf : gf < 16) {S : Nat} (eS : S = sp_fs q P l ga sl sg gf <<< (36 - 4 * P)) :
    dr_L S P = l ∧ dr_G S P = ga ∧ dr_GF S P = gf ∧ (∀ t, t < 4 → dr_SL S P t = sl t) ∧ (∀ t, t < 4 → dr_SG S P t = sg t) ∧ (∀ m, m < P → dr_Q S m = q m) := by
  subst eS
  have f4 : sp_fs q P l ga sl sg gf >>> 4 = sp_ts (sp_hs q P l ga) sl sg 4 := sp_pj_sh hf
  have f20 : sp_fs q P l ga sl sg gf >>> 20 = sp_hs q P l ga := by
    rw [show 20 = 4 + 4 * 4 from rfl, Nat.shiftRight_add, f4, sp_ts_sh h1 h2 4 0 (by omega)]
    rfl
  have f23 : sp_fs q P l ga sl sg gf >>> 23 = sp_pj (sp_ks q P) l 5 := by
    rw [show 23 = 20 + 3 from rfl, Nat.shiftRight_add, f20]
    exact sp_pj_sh hg
  have f28 : sp_fs q P l ga sl sg gf >>> 28 = sp_ks q P := by
    rw [show 28 = 23 + 5 from rfl, Nat.shiftRight_add, f23]
    exact sp_pj_sh hl
  have ft : ∀ t, t < 4 → sp_fs q P l ga sl sg gf >>> (4 + 4 * (3 - t)) = sp_pj (sp_pj (sp_ts (sp_hs q P l ga) sl sg t) (sl t) 3) (sg t) 1 := fun t ht => by
    rw [Nat.shiftRight_add, f4, sp_ts_sh h1 h2 (3 - t) (t + 1) (by omega)]
    rfl
  refine ⟨?_, ?_, ?_, fun t ht => ?_, fun t ht => ?_, fun m hm => ?_⟩
  · unfold dr_L
    rw [sp_rd_fs (r := 23) hP (by omega), f23]
    exact sp_pj_md hl
  · unfold dr_G
    rw [sp_rd_fs (r := 20) hP (by omega), f20]
    exact sp_pj_md hg
  · unfold dr_GF
    rw [sp_rd_fs (r := 0) hP (by omega)]
    exact sp_pj_md hf
  · unfold dr_SL
    rw [sp_rd_fs (r := 4 + 4 * (3 - t) + 1) hP (by omega), Nat.shiftRight_add, ft t ht, sp_pj_sh (h2 t ht)]
    exact sp_pj_md (h1 t ht)
  · unfold dr_SG
    rw [sp_rd_fs (r := 4 + 4 * (3 - t)) hP (by omega), ft t ht]
    exact sp_pj_md (h2 t ht)
  · unfold dr_Q
    rw [sp_rd_fs (r := 28 + 4 * (P - (m + 1))) hP (by omega), Nat.shiftRight_add, f28, sp_ks_sh hq (P - (m + 1)) (m + 1) (by omega)]
    exact sp_pj_md (hq m hm)
theorem sp_S_of {S : Nat} (hS : S < 2 ^ 64) {a b c d : Int32} (ha : a = nI ((S >>> (48 - 16 * 0)) % 65536)) (hb : b = nI ((S >>> (48 - 16 * 1)) % 65536)) (hc : c = nI ((S >>> (48 - 16 * 2)) % 65536)) (hd : d = nI ((S >>> (48 - 16 * 3)) % 65536)) :
    S = sp_S (a.toBitVec.toNat % 65536) (b.toBitVec.toNat % 65536) (c.toBitVec.toNat % 65536) (d.toBitVec.toNat % 65536) := by
  have m : ∀ x : Nat, (nI (x % 65536)).toBitVec.toNat % 65536 = x % 65536 := fun x => by
    rw [pk_tn (by omega)]
    omega
  rw [ha, hb, hc, hd, m, m, m, m]
  unfold sp_S
  rw [Nat.shiftRight_eq_div_pow, Nat.shiftRight_eq_div_pow, Nat.shiftRight_eq_div_pow, Nat.shiftRight_eq_div_pow]
  show S = S / 281474976710656 % 65536 * 281474976710656 + S / 4294967296 % 65536 * 4294967296 + S / 65536 % 65536 * 65536 + S / 1 % 65536
  omega
end
section
/-! the readers -/
theorem sx_sideN {post : Int32 → Prop} {p : Int32} (h : p < 0) (hp : post 0) : wpX_isSide post () p := by
  refine br_f (fun e => ?_) (br_f (fun e => ?_) hp)
  · rw [e] at h
    exact absurd h (by decide)
  · rw [e] at h
    exact absurd h (by decide)
theorem sx_sideB {post : Int32 → Prop} {a : Nat} (ha : 2 ≤ a) (h31 : a < 2 ^ 31) (hp : post 0) : wpX_isSide post () (nI a) :=
  br_f (fun e => by
    have := (nI_eq (b := 0) h31 (by omega)).mp e
    omega) (br_f (fun e => by
    have := (nI_eq (b := 1) h31 (by omega)).mp e
    omega) hp)
theorem sx_sideO {post : Int32 → Prop} {a : Nat} (ha : a < 2) (hp : post 1) : wpX_isSide post () (nI a) := by
  have : a = 0 ∨ a = 1 := by omega
  rcases this with rfl | rfl
  · exact br_t rfl hp
  · exact br_f (by decide) (br_t rfl hp)
theorem sp_ge1 {x : Int32} (h : ¬ x < 1) : ∃ m : Nat, 1 ≤ m ∧ m < 2 ^ 31 ∧ x = nI m := by
  have p : ¬ x < 0 := fun z => h (Int32.lt_trans z (by decide))
  obtain ⟨m, hm, rfl⟩ := nI_of p
  refine ⟨m, ?_, hm, rfl⟩
  by_cases z : m = 0
  · subst z
    exact absurd (show nI 0 < 1 from by decide) h
  · omega
theorem sx_gr1 {P N T : Nat} {x_pending : Int32} {x_encodedStream : Int64} {x_reflectionLevels x_pulseLevels x_memory x_history x_output x_fields x_frameCounts x_reflections x_samples x_rawReflections x_target x_impulseResponse x_pastExcitation x_filteredPast x_chosenPulses x_trialPulses x_pulseSigns x_excitation x_receivedFields : Nat → Int32} {x_correlation x_predictor x_oldPredictor : Nat → Int64} {post : Int32 → Prop} {sd m : Nat} (hsd : sd < 2) (hP : P ≤ 6) (h1 : 1 ≤ m) (hm : m ≤ P) (h : post (x_reflections (sd * 6 + (m - 1)))) : wpX_getReflection post ((nI P), (nI N), (nI T), x_pending, x_encodedStream, x_reflectionLevels, x_pulseLevels, x_memory, x_history, x_output, x_fields, x_frameCounts, x_reflections, x_samples, x_rawReflections, x_correlation, x_predictor, x_oldPredictor, x_target, x_impulseResponse, x_pastExcitation, x_filteredPast, x_chosenPulses, x_trialPulses, x_pulseSigns, x_excitation, x_receivedFields) (nI sd) (nI m) := by
  have e : nI sd * 6 + nI m - 1 = nI (sd * 6 + (m - 1)) := by
    rw [show nI sd * 6 = nI (sd * 6) from pk_mul sd 6, nI_add, show sd * 6 + (m - 1) = sd * 6 + m - 1 from by omega]
    exact pk_sub (b := 1) (by omega)
  unfold wpX_getReflection
  dsimp only
  refine sx_sideO hsd (br_f (by decide) (br_f (nI_nlt (b := 1) h1 (by omega)) (br_t (nI_le hm (by omega)) ⟨pk_in (sd * 6 + (m - 1)) 12 (by omega) e, ?_⟩)))
  rw [e, nI_clamp (by omega)]
  exact h
theorem sx_gr0 {P N T : Nat} {x_pending : Int32} {x_encodedStream : Int64} {x_reflectionLevels x_pulseLevels x_memory x_history x_output x_fields x_frameCounts x_reflections x_samples x_rawReflections x_target x_impulseResponse x_pastExcitation x_filteredPast x_chosenPulses x_trialPulses x_pulseSigns x_excitation x_receivedFields : Nat → Int32} {x_correlation x_predictor x_oldPredictor : Nat → Int64} {post : Int32 → Prop} {sd : Nat} {x : Int32} (hsd : sd < 2) (hx : x < 1 ∨ ¬ x ≤ nI P) (h : post 0) : wpX_getReflection post ((nI P), (nI N), (nI T), x_pending, x_encodedStream, x_reflectionLevels, x_pulseLevels, x_memory, x_history, x_output, x_fields, x_frameCounts, x_reflections, x_samples, x_rawReflections, x_correlation, x_predictor, x_oldPredictor, x_target, x_impulseResponse, x_pastExcitation, x_filteredPast, x_chosenPulses, x_trialPulses, x_pulseSigns, x_excitation, x_receivedFields) (nI sd) x := by
  unfold wpX_getReflection
  dsimp only
  refine sx_sideO hsd (br_f (by decide) ?_)
  by_cases c : x < 1
  · exact br_t c h
  · rcases hx with hx | hx
    · exact absurd hx c
    · exact br_f c (br_f hx h)
theorem sx_gf1 {P N T : Nat} {x_pending : Int32} {x_encodedStream : Int64} {x_reflectionLevels x_pulseLevels x_memory x_history x_output x_fields x_frameCounts x_reflections x_samples x_rawReflections x_target x_impulseResponse x_pastExcitation x_filteredPast x_chosenPulses x_trialPulses x_pulseSigns x_excitation x_receivedFields : Nat → Int32} {x_correlation x_predictor x_oldPredictor : Nat → Int64} {post : Int32 → Prop} {sd m : Nat} (hsd : sd < 2) (hP : P ≤ 6) (hm : m < 11 + P) (h : post (x_fields (sd * 17 + m))) : wpX_getField post ((nI P), (nI N), (nI T), x_pending, x_encodedStream, x_reflectionLevels, x_pulseLevels, x_memory, x_history, x_output, x_fields, x_frameCounts, x_reflections, x_samples, x_rawReflections, x_correlation, x_predictor, x_oldPredictor, x_target, x_impulseResponse, x_pastExcitation, x_filteredPast, x_chosenPulses, x_trialPulses, x_pulseSigns, x_excitation, x_receivedFields) (nI sd) (nI m) := by
  have e : nI sd * 17 + nI m = nI (sd * 17 + m) := by
    rw [show nI sd * 17 = nI (sd * 17) from pk_mul sd 17, nI_add]
  unfold wpX_getField
  dsimp only
  refine sx_sideO hsd (br_f (by decide) (br_f (nI_pos (by omega)) (br_t ?_ ⟨pk_in (sd * 17 + m) 34 (by omega) e, ?_⟩)))
  · rw [show (11 : Int32) + nI P = nI (11 + P) from nI_add 11 P]
    exact nI_lt hm (by omega)
  · rw [e, nI_clamp (by omega)]
    exact h
theorem sx_gf0 {P N T : Nat} {x_pending : Int32} {x_encodedStream : Int64} {x_reflectionLevels x_pulseLevels x_memory x_history x_output x_fields x_frameCounts x_reflections x_samples x_rawReflections x_target x_impulseResponse x_pastExcitation x_filteredPast x_chosenPulses x_trialPulses x_pulseSigns x_excitation x_receivedFields : Nat → Int32} {x_correlation x_predictor x_oldPredictor : Nat → Int64} {post : Int32 → Prop} {sd : Nat} {x : Int32} (hsd : sd < 2) (hx : x < 0 ∨ ¬ x < 11 + nI P) (h : post (-1)) : wpX_getField post ((nI P), (nI N), (nI T), x_pending, x_encodedStream, x_reflectionLevels, x_pulseLevels, x_memory, x_history, x_output, x_fields, x_frameCounts, x_reflections, x_samples, x_rawReflections, x_correlation, x_predictor, x_oldPredictor, x_target, x_impulseResponse, x_pastExcitation, x_filteredPast, x_chosenPulses, x_trialPulses, x_pulseSigns, x_excitation, x_receivedFields) (nI sd) x := by
  unfold wpX_getField
  dsimp only
  refine sx_sideO hsd (br_f (by decide) ?_)
  by_cases c : x < 0
  · exact br_t c h
  · rcases hx with hx | hx
    · exact absurd hx c
    · exact br_f c (br_f hx h)
theorem sx_gm1 {P N T : Nat} {x_pending : Int32} {x_encodedStream : Int64} {x_reflectionLevels x_pulseLevels x_memory x_history x_output x_fields x_frameCounts x_reflections x_samples x_rawReflections x_target x_impulseResponse x_pastExcitation x_filteredPast x_chosenPulses x_trialPulses x_pulseSigns x_excitation x_receivedFields : Nat → Int32} {x_correlation x_predictor x_oldPredictor : Nat → Int64} {post : Int32 → Prop} {sd m : Nat} (hsd : sd < 2) (hP : P ≤ 6) (hm : m < P) (h : post (x_memory (sd * 6 + m))) : wpX_getMemory post ((nI P), (nI N), (nI T), x_pending, x_encodedStream, x_reflectionLevels, x_pulseLevels, x_memory, x_history, x_output, x_fields, x_frameCounts, x_reflections, x_samples, x_rawReflections, x_correlation, x_predictor, x_oldPredictor, x_target, x_impulseResponse, x_pastExcitation, x_filteredPast, x_chosenPulses, x_trialPulses, x_pulseSigns, x_excitation, x_receivedFields) (nI sd) (nI m) := by
  have e : nI sd * 6 + nI m = nI (sd * 6 + m) := by
    rw [show nI sd * 6 = nI (sd * 6) from pk_mul sd 6, nI_add]
  unfold wpX_getMemory
  dsimp only
  refine sx_sideO hsd (br_f (by decide) (br_f (nI_pos (by omega)) (br_t (nI_lt hm (by omega)) ⟨pk_in (sd * 6 + m) 18 (by omega) e, ?_⟩)))
  rw [e, nI_clamp (by omega)]
  exact h
theorem sx_gm0 {P N T : Nat} {x_pending : Int32} {x_encodedStream : Int64} {x_reflectionLevels x_pulseLevels x_memory x_history x_output x_fields x_frameCounts x_reflections x_samples x_rawReflections x_target x_impulseResponse x_pastExcitation x_filteredPast x_chosenPulses x_trialPulses x_pulseSigns x_excitation x_receivedFields : Nat → Int32} {x_correlation x_predictor x_oldPredictor : Nat → Int64} {post : Int32 → Prop} {sd : Nat} {x : Int32} (hsd : sd < 2) (hx : x < 0 ∨ ¬ x < nI P) (h : post 0) : wpX_getMemory post ((nI P), (nI N), (nI T), x_pending, x_encodedStream, x_reflectionLevels, x_pulseLevels, x_memory, x_history, x_output, x_fields, x_frameCounts, x_reflections, x_samples, x_rawReflections, x_correlation, x_predictor, x_oldPredictor, x_target, x_impulseResponse, x_pastExcitation, x_filteredPast, x_chosenPulses, x_trialPulses, x_pulseSigns, x_excitation, x_receivedFields) (nI sd) x := by
  unfold wpX_getMemory
  dsimp only
  refine sx_sideO hsd (br_f (by decide) ?_)
  by_cases c : x < 0
  · exact br_t c h
  · rcases hx with hx | hx
    · exact absurd hx c
    · exact br_f c (br_f hx h)
theorem sx_go1 {P N T : Nat} {x_pending : Int32} {x_encodedStream : Int64} {x_reflectionLevels x_pulseLevels x_memory x_history x_output x_fields x_frameCounts x_reflections x_samples x_rawReflections x_target x_impulseResponse x_pastExcitation x_filteredPast x_chosenPulses x_trialPulses x_pulseSigns x_excitation x_receivedFields : Nat → Int32} {x_correlation x_predictor x_oldPredictor : Nat → Int64} {post : Int32 → Prop} {sd m : Nat} (hsd : sd < 2) (hN : N ≤ 32) (hm : m < N) (h : post (x_output (sd * 32 + m))) : wpX_getOutput post ((nI P), (nI N), (nI T), x_pending, x_encodedStream, x_reflectionLevels, x_pulseLevels, x_memory, x_history, x_output, x_fields, x_frameCounts, x_reflections, x_samples, x_rawReflections, x_correlation, x_predictor, x_oldPredictor, x_target, x_impulseResponse, x_pastExcitation, x_filteredPast, x_chosenPulses, x_trialPulses, x_pulseSigns, x_excitation, x_receivedFields) (nI sd) (nI m) := by
  have e : nI sd * 32 + nI m = nI (sd * 32 + m) := by
    rw [show nI sd * 32 = nI (sd * 32) from pk_mul sd 32, nI_add]
  unfold wpX_getOutput
  dsimp only
  refine sx_sideO hsd (br_f (by decide) (br_f (nI_pos (by omega)) (br_t (nI_lt hm (by omega)) ⟨pk_in (sd * 32 + m) 64 (by omega) e, ?_⟩)))
  rw [e, nI_clamp (by omega)]
  exact h
theorem sx_go0 {P N T : Nat} {x_pending : Int32} {x_encodedStream : Int64} {x_reflectionLevels x_pulseLevels x_memory x_history x_output x_fields x_frameCounts x_reflections x_samples x_rawReflections x_target x_impulseResponse x_pastExcitation x_filteredPast x_chosenPulses x_trialPulses x_pulseSigns x_excitation x_receivedFields : Nat → Int32} {x_correlation x_predictor x_oldPredictor : Nat → Int64} {post : Int32 → Prop} {sd : Nat} {x : Int32} (hsd : sd < 2) (hx : x < 0 ∨ ¬ x < nI N) (h : post 0) : wpX_getOutput post ((nI P), (nI N), (nI T), x_pending, x_encodedStream, x_reflectionLevels, x_pulseLevels, x_memory, x_history, x_output, x_fields, x_frameCounts, x_reflections, x_samples, x_rawReflections, x_correlation, x_predictor, x_oldPredictor, x_target, x_impulseResponse, x_pastExcitation, x_filteredPast, x_chosenPulses, x_trialPulses, x_pulseSigns, x_excitation, x_receivedFields) (nI sd) x := by
  unfold wpX_getOutput
  dsimp only
  refine sx_sideO hsd (br_f (by decide) ?_)
  by_cases c : x < 0
  · exact br_t c h
  · rcases hx with hx | hx
    · exact absurd hx c
    · exact br_f c (br_f hx h)
theorem sx_gx1 {P N T : Nat} {x_pending : Int32} {x_encodedStream : Int64} {x_reflectionLevels x_pulseLevels x_memory x_history x_output x_fields x_frameCounts x_reflections x_samples x_rawReflections x_target x_impulseResponse x_pastExcitation x_filteredPast x_chosenPulses x_trialPulses x_pulseSigns x_excitation x_receivedFields : Nat → Int32} {x_correlation x_predictor x_oldPredictor : Nat → Int64} {post : Int32 → Prop} {sd m : Nat} (hsd : sd < 2) (h1 : 1 ≤ m) (hm : m ≤ 64) (h : post (x_history (sd * 64 + m - 1))) : wpX_getExcitation post ((nI P), (nI N), (nI T), x_pending, x_encodedStream, x_reflectionLevels, x_pulseLevels, x_memory, x_history, x_output, x_fields, x_frameCounts, x_reflections, x_samples, x_rawReflections, x_correlation, x_predictor, x_oldPredictor, x_target, x_impulseResponse, x_pastExcitation, x_filteredPast, x_chosenPulses, x_trialPulses, x_pulseSigns, x_excitation, x_receivedFields) (nI sd) (nI m) := by
  have e : nI sd * 64 + nI m - 1 = nI (sd * 64 + m - 1) := by
    rw [show nI sd * 64 = nI (sd * 64) from pk_mul sd 64, nI_add]
    exact pk_sub (b := 1) (by omega)
  unfold wpX_getExcitation
  dsimp only
  refine sx_sideO hsd (br_f (by decide) (br_f (nI_nlt (b := 1) h1 (by omega)) (br_t (nI_le (b := 64) hm (by omega)) ⟨pk_in (sd * 64 + m - 1) 128 (by omega) e, ?_⟩)))
  rw [e, nI_clamp (by omega)]
  exact h
theorem sx_gx0 {P N T : Nat} {x_pending : Int32} {x_encodedStream : Int64} {x_reflectionLevels x_pulseLevels x_memory x_history x_output x_fields x_frameCounts x_reflections x_samples x_rawReflections x_target x_impulseResponse x_pastExcitation x_filteredPast x_chosenPulses x_trialPulses x_pulseSigns x_excitation x_receivedFields : Nat → Int32} {x_correlation x_predictor x_oldPredictor : Nat → Int64} {post : Int32 → Prop} {sd : Nat} {x : Int32} (hsd : sd < 2) (hx : x < 1 ∨ ¬ x ≤ 64) (h : post 0) : wpX_getExcitation post ((nI P), (nI N), (nI T), x_pending, x_encodedStream, x_reflectionLevels, x_pulseLevels, x_memory, x_history, x_output, x_fields, x_frameCounts, x_reflections, x_samples, x_rawReflections, x_correlation, x_predictor, x_oldPredictor, x_target, x_impulseResponse, x_pastExcitation, x_filteredPast, x_chosenPulses, x_trialPulses, x_pulseSigns, x_excitation, x_receivedFields) (nI sd) x := by
  unfold wpX_getExcitation
  dsimp only
  refine sx_sideO hsd (br_f (by decide) ?_)
  by_cases c : x < 1
  · exact br_t c h
  · rcases hx with hx | hx
    · exact absurd hx c
    · exact br_f c (br_f hx h)
theorem sx_gc {P N T : Nat} {x_pending : Int32} {x_encodedStream : Int64} {x_reflectionLevels x_pulseLevels x_memory x_history x_output x_fields x_frameCounts x_reflections x_samples x_rawReflections x_target x_impulseResponse x_pastExcitation x_filteredPast x_chosenPulses x_trialPulses x_pulseSigns x_excitation x_receivedFields : Nat → Int32} {x_correlation x_predictor x_oldPredictor : Nat → Int64} {post : Int32 → Prop} {sd : Nat} (hsd : sd < 2) (h : post (x_frameCounts sd)) : wpX_getFrameCount post ((nI P), (nI N), (nI T), x_pending, x_encodedStream, x_reflectionLevels, x_pulseLevels, x_memory, x_history, x_output, x_fields, x_frameCounts, x_reflections, x_samples, x_rawReflections, x_correlation, x_predictor, x_oldPredictor, x_target, x_impulseResponse, x_pastExcitation, x_filteredPast, x_chosenPulses, x_trialPulses, x_pulseSigns, x_excitation, x_receivedFields) (nI sd) := by
  unfold wpX_getFrameCount
  dsimp only
  refine sx_sideO hsd (br_f (by decide) ⟨vp_in_nI hsd (by omega), ?_⟩)
  rw [nI_clamp (by omega)]
  exact h
theorem sx_gw {P N T : Nat} {x_pending : Int32} {x_reflectionLevels x_pulseLevels x_memory x_history x_output x_fields x_frameCounts x_reflections x_samples x_rawReflections x_target x_impulseResponse x_pastExcitation x_filteredPast x_chosenPulses x_trialPulses x_pulseSigns x_excitation x_receivedFields : Nat → Int32} {x_correlation x_predictor x_oldPredictor : Nat → Int64} {post : Int32 → Prop} {S i : Nat} (hS : S < 2 ^ 64) (hi : i < 4) (h : post (nI ((S >>> (48 - 16 * i)) % 65536))) : wpX_getWord post ((nI P), (nI N), (nI T), x_pending, (lN S), x_reflectionLevels, x_pulseLevels, x_memory, x_history, x_output, x_fields, x_frameCounts, x_reflections, x_samples, x_rawReflections, x_correlation, x_predictor, x_oldPredictor, x_target, x_impulseResponse, x_pastExcitation, x_filteredPast, x_chosenPulses, x_trialPulses, x_pulseSigns, x_excitation, x_receivedFields) (nI i) := by
  refine br_f (nI_pos (by omega)) (br_t (nI_lt (b := 4) hi (by omega)) ?_)
  rw [show (16 : Int32) * nI i = nI (16 * i) from pk_mul 16 i, show (48 : Int32) - nI (16 * i) = nI (48 - 16 * i) from pk_sub (a := 48) (by omega), sp_word hS hi rfl]
  exact h
/-- both sides asked alike -/
theorem sl_refl {P N T : Nat} {x_pending : Int32} {x_encodedStream : Int64} {x_reflectionLevels x_pulseLevels x_memory x_history x_output x_fields x_frameCounts x_reflections x_samples x_rawReflections x_target x_impulseResponse x_pastExcitation x_filteredPast x_chosenPulses x_trialPulses x_pulseSigns x_excitation x_receivedFields : Nat → Int32} {x_correlation x_predictor x_oldPredictor : Nat → Int64} {A B : Prop} {x : Int32} (hP : P ≤ 6) (hr : ∀ m, m < P → x_reflections (0 * 6 + m) = x_reflections (1 * 6 + m)) (hA : A) :
    wpX_getReflection (fun r => (wpX_getReflection (fun r' => ((r = r' → A) ∧ (¬ r = r' → B))) ((nI P), (nI N), (nI T), x_pending, x_encodedStream, x_reflectionLevels, x_pulseLevels, x_memory, x_history, x_output, x_fields, x_frameCounts, x_reflections, x_samples, x_rawReflections, x_correlation, x_predictor, x_oldPredictor, x_target, x_impulseResponse, x_pastExcitation, x_filteredPast, x_chosenPulses, x_trialPulses, x_pulseSigns, x_excitation, x_receivedFields) 1 x)) ((nI P), (nI N), (nI T), x_pending, x_encodedStream, x_reflectionLevels, x_pulseLevels, x_memory, x_history, x_output, x_fields, x_frameCounts, x_reflections, x_samples, x_rawReflections, x_correlation, x_predictor, x_oldPredictor, x_target, x_impulseResponse, x_pastExcitation, x_filteredPast, x_chosenPulses, x_trialPulses, x_pulseSigns, x_excitation, x_receivedFields) 0 x := by
  by_cases c : x < 1
  · exact sx_gr0 (sd := 0) (by omega) (Or.inl c) (sx_gr0 (sd := 1) (by omega) (Or.inl c) (br_t rfl hA))
  · obtain ⟨m, m1, hm, rfl⟩ := sp_ge1 c
    by_cases cm : m ≤ P
    · exact sx_gr1 (sd := 0) (by omega) hP m1 cm (sx_gr1 (sd := 1) (by omega) hP m1 cm (br_t (hr (m - 1) (by omega)) hA))
    · exact sx_gr0 (sd := 0) (by omega) (Or.inr (nI_ge (by omega) hm)) (sx_gr0 (sd := 1) (by omega) (Or.inr (nI_ge (by omega) hm)) (br_t rfl hA))
theorem sl_fld {P N T : Nat} {x_pending : Int32} {x_encodedStream : Int64} {x_reflectionLevels x_pulseLevels x_memory x_history x_output x_fields x_frameCounts x_reflections x_samples x_rawReflections x_target x_impulseResponse x_pastExcitation x_filteredPast x_chosenPulses x_trialPulses x_pulseSigns x_excitation x_receivedFields : Nat → Int32} {x_correlation x_predictor x_oldPredictor : Nat → Int64} {A B : Prop} {x : Int32} (hP : P ≤ 6) (hr : ∀ k, k < 11 + P → x_fields (0 * 17 + k) = x_fields (1 * 17 + k)) (hA : A) :
    wpX_getField (fun r => (wpX_getField (fun r' => ((r = r' → A) ∧ (¬ r = r' → B))) ((nI P), (nI N), (nI T), x_pending, x_encodedStream, x_reflectionLevels, x_pulseLevels, x_memory, x_history, x_output, x_fields, x_frameCounts, x_reflections, x_samples, x_rawReflections, x_correlation, x_predictor, x_oldPredictor, x_target, x_impulseResponse, x_pastExcitation, x_filteredPast, x_chosenPulses, x_trialPulses, x_pulseSigns, x_excitation, x_receivedFields) 1 x)) ((nI P), (nI N), (nI T), x_pending, x_encodedStream, x_reflectionLevels, x_pulseLevels, x_memory, x_history, x_output, x_fields, x_frameCounts, x_reflections, x_samples, x_rawReflections, x_correlation, x_predictor, x_oldPredictor, x_target, x_impulseResponse, x_pastExcitation, x_filteredPast, x_chosenPulses, x_trialPulses, x_pulseSigns, x_excitation, x_receivedFields) 0 x := by
  by_cases c : x < 0
  · exact sx_gf0 (sd := 0) (by omega) (Or.inl c) (sx_gf0 (sd := 1) (by omega) (Or.inl c) (br_t rfl hA))
  · obtain ⟨m, hm, rfl⟩ := nI_of c
    by_cases cm : m < 11 + P
    · exact sx_gf1 (sd := 0) (by omega) hP cm (sx_gf1 (sd := 1) (by omega) hP cm (br_t (hr m cm) hA))
    · have nl : ¬ nI m < 11 + nI P := by
        rw [show (11 : Int32) + nI P = nI (11 + P) from nI_add 11 P]
        exact nI_nlt (by omega) hm
      exact sx_gf0 (sd := 0) (by omega) (Or.inr nl) (sx_gf0 (sd := 1) (by omega) (Or.inr nl) (br_t rfl hA))
theorem sl_mem {P N T : Nat} {x_pending : Int32} {x_encodedStream : Int64} {x_reflectionLevels x_pulseLevels x_memory x_history x_output x_fields x_frameCounts x_reflections x_samples x_rawReflections x_target x_impulseResponse x_pastExcitation x_filteredPast x_chosenPulses x_trialPulses x_pulseSigns x_excitation x_receivedFields : Nat → Int32} {x_correlation x_predictor x_oldPredictor : Nat → Int64} {A B : Prop} {x : Int32} (hP : P ≤ 6) (hr : ∀ k, k < P → x_memory (0 * 6 + k) = x_memory (1 * 6 + k)) (hA : A) :
    wpX_getMemory (fun r => (wpX_getMemory (fun r' => ((r = r' → A) ∧ (¬ r = r' → B))) ((nI P), (nI N), (nI T), x_pending, x_encodedStream, x_reflectionLevels, x_pulseLevels, x_memory, x_history, x_output, x_fields, x_frameCounts, x_reflections, x_samples, x_rawReflections, x_correlation, x_predictor, x_oldPredictor, x_target, x_impulseResponse, x_pastExcitation, x_filteredPast, x_chosenPulses, x_trialPulses, x_pulseSigns, x_excitation, x_receivedFields) 1 x)) ((nI P), (nI N), (nI T), x_pending, x_encodedStream, x_reflectionLevels, x_pulseLevels, x_memory, x_history, x_output, x_fields, x_frameCounts, x_reflections, x_samples, x_rawReflections, x_correlation, x_predictor, x_oldPredictor, x_target, x_impulseResponse, x_pastExcitation, x_filteredPast, x_chosenPulses, x_trialPulses, x_pulseSigns, x_excitation, x_receivedFields) 0 x := by
  by_cases c : x < 0
  · exact sx_gm0 (sd := 0) (by omega) (Or.inl c) (sx_gm0 (sd := 1) (by omega) (Or.inl c) (br_t rfl hA))
  · obtain ⟨m, hm, rfl⟩ := nI_of c
    by_cases cm : m < P
    · exact sx_gm1 (sd := 0) (by omega) hP cm (sx_gm1 (sd := 1) (by omega) hP cm (br_t (hr m cm) hA))
    · have nl : ¬ nI m < nI P := nI_nlt (by omega) hm
      exact sx_gm0 (sd := 0) (by omega) (Or.inr nl) (sx_gm0 (sd := 1) (by omega) (Or.inr nl) (br_t rfl hA))
theorem sl_out {P N T : Nat} {x_pending : Int32} {x_encodedStream : Int64} {x_reflectionLevels x_pulseLevels x_memory x_history x_output x_fields x_frameCounts x_reflections x_samples x_rawReflections x_target x_impulseResponse x_pastExcitation x_filteredPast x_chosenPulses x_trialPulses x_pulseSigns x_excitation x_receivedFields : Nat → Int32} {x_correlation x_predictor x_oldPredictor : Nat → Int64} {A B : Prop} {x : Int32} (hN : N ≤ 32) (hr : ∀ k, k < N → x_output (0 * 32 + k) = x_output (1 * 32 + k)) (hA : A) :
    wpX_getOutput (fun r => (wpX_getOutput (fun r' => ((r = r' → A) ∧ (¬ r = r' → B))) ((nI P), (nI N), (nI T), x_pending, x_encodedStream, x_reflectionLevels, x_pulseLevels, x_memory, x_history, x_output, x_fields, x_frameCounts, x_reflections, x_samples, x_rawReflections, x_correlation, x_predictor, x_oldPredictor, x_target, x_impulseResponse, x_pastExcitation, x_filteredPast, x_chosenPulses, x_trialPulses, x_pulseSigns, x_excitation, x_receivedFields) 1 x)) ((nI P), (nI N), (nI T), x_pending, x_encodedStream, x_reflectionLevels, x_pulseLevels, x_memory, x_history, x_output, x_fields, x_frameCounts, x_reflections, x_samples, x_rawReflections, x_correlation, x_predictor, x_oldPredictor, x_target, x_impulseResponse, x_pastExcitation, x_filteredPast, x_chosenPulses, x_trialPulses, x_pulseSigns, x_excitation, x_receivedFields) 0 x := by
  by_cases c : x < 0
  · exact sx_go0 (sd := 0) (by omega) (Or.inl c) (sx_go0 (sd := 1) (by omega) (Or.inl c) (br_t rfl hA))
  · obtain ⟨m, hm, rfl⟩ := nI_of c
    by_cases cm : m < N
    · exact sx_go1 (sd := 0) (by omega) hN cm (sx_go1 (sd := 1) (by omega) hN cm (br_t (hr m cm) hA))
    · have nl : ¬ nI m < nI N := nI_nlt (by omega) hm
      exact sx_go0 (sd := 0) (by omega) (Or.inr nl) (sx_go0 (sd := 1) (by omega) (Or.inr nl) (br_t rfl hA))
theorem sl_exc {P N T : Nat} {x_pending : Int32} {x_encodedStream : Int64} {x_reflectionLevels x_pulseLevels x_memory x_history x_output x_fields x_frameCounts x_reflections x_samples x_rawReflections x_target x_impulseResponse x_pastExcitation x_filteredPast x_chosenPulses x_trialPulses x_pulseSigns x_excitation x_receivedFields : Nat → Int32} {x_correlation x_predictor x_oldPredictor : Nat → Int64} {A B : Prop} {x : Int32} (hr : ∀ j, 1 ≤ j → j ≤ 64 → x_history (0 * 64 + j - 1) = x_history (1 * 64 + j - 1)) (hA : A) :
    wpX_getExcitation (fun r => (wpX_getExcitation (fun r' => ((r = r' → A) ∧ (¬ r = r' → B))) ((nI P), (nI N), (nI T), x_pending, x_encodedStream, x_reflectionLevels, x_pulseLevels, x_memory, x_history, x_output, x_fields, x_frameCounts, x_reflections, x_samples, x_rawReflections, x_correlation, x_predictor, x_oldPredictor, x_target, x_impulseResponse, x_pastExcitation, x_filteredPast, x_chosenPulses, x_trialPulses, x_pulseSigns, x_excitation, x_receivedFields) 1 x)) ((nI P), (nI N), (nI T), x_pending, x_encodedStream, x_reflectionLevels, x_pulseLevels, x_memory, x_history, x_output, x_fields, x_frameCounts, x_reflections, x_samples, x_rawReflections, x_correlation, x_predictor, x_oldPredictor, x_target, x_impulseResponse, x_pastExcitation, x_filteredPast, x_chosenPulses, x_trialPulses, x_pulseSigns, x_excitation, x_receivedFields) 0 x := by
  by_cases c : x < 1
  · exact sx_gx0 (sd := 0) (by omega) (Or.inl c) (sx_gx0 (sd := 1) (by omega) (Or.inl c) (br_t rfl hA))
  · obtain ⟨m, m1, hm, rfl⟩ := sp_ge1 c
    by_cases cm : m ≤ 64
    · exact sx_gx1 (sd := 0) (by omega) m1 cm (sx_gx1 (sd := 1) (by omega) m1 cm (br_t (hr m m1 cm) hA))
    · have nl : ¬ nI m ≤ 64 := nI_ge (a := 64) (by omega) hm
      exact sx_gx0 (sd := 0) (by omega) (Or.inr nl) (sx_gx0 (sd := 1) (by omega) (Or.inr nl) (br_t rfl hA))
/-- a reflection is within 16 bits -/
theorem sl_rng {P N T : Nat} {x_pending : Int32} {x_encodedStream : Int64} {x_reflectionLevels x_pulseLevels x_memory x_history x_output x_fields x_frameCounts x_reflections x_samples x_rawReflections x_target x_impulseResponse x_pastExcitation x_filteredPast x_chosenPulses x_trialPulses x_pulseSigns x_excitation x_receivedFields : Nat → Int32} {x_correlation x_predictor x_oldPredictor : Nat → Int64} {A B C : Prop} {s x : Int32} (hP : P ≤ 6) (hr : ∀ sd, sd < 2 → ∀ m, m < P → -32768 < (x_reflections (sd * 6 + m)).toInt ∧ (x_reflections (sd * 6 + m)).toInt < 32768) (hA : A) :
    wpX_getReflection (fun r => ((r ≤ (-32768) → B) ∧ (¬ r ≤ (-32768) → ((r < 32768 → A) ∧ (¬ r < 32768 → C))))) ((nI P), (nI N), (nI T), x_pending, x_encodedStream, x_reflectionLevels, x_pulseLevels, x_memory, x_history, x_output, x_fields, x_frameCounts, x_reflections, x_samples, x_rawReflections, x_correlation, x_predictor, x_oldPredictor, x_target, x_impulseResponse, x_pastExcitation, x_filteredPast, x_chosenPulses, x_trialPulses, x_pulseSigns, x_excitation, x_receivedFields) s x := by
  have z0 : ¬ (0 : Int32) ≤ (-32768) := by decide
  have z1 : (0 : Int32) < 32768 := by decide
  by_cases n1 : s < 0
  · unfold wpX_getReflection
    dsimp only
    exact sx_sideN n1 (br_t rfl (br_f z0 (br_t z1 hA)))
  · obtain ⟨a, ha, rfl⟩ := nI_of n1
    by_cases c : a < 2
    · by_cases d : x < 1
      · exact sx_gr0 c (Or.inl d) (br_f z0 (br_t z1 hA))
      · obtain ⟨m, m1, hm, rfl⟩ := sp_ge1 d
        by_cases cm : m ≤ P
        · have q := hr a c (m - 1) (by omega)
          have e1 : (-32768 : Int32).toInt = -32768 := by decide
          have e2 : (32768 : Int32).toInt = 32768 := by decide
          refine sx_gr1 c hP m1 cm (br_f ?_ (br_t ?_ hA))
          · rw [Int32.le_iff_toInt_le, e1]
            omega
          · rw [Int32.lt_iff_toInt_lt, e2]
            exact q.2
        · exact sx_gr0 c (Or.inr (nI_ge (by omega) hm)) (br_f z0 (br_t z1 hA))
    · unfold wpX_getReflection
      dsimp only
      exact sx_sideB (by omega) ha (br_t rfl (br_f z0 (br_t z1 hA)))
theorem sl_put {P N T : Nat} {x_encodedStream : Int64} {x_reflectionLevels x_pulseLevels x_memory x_history x_output x_fields x_frameCounts x_reflections x_samples x_rawReflections x_target x_impulseResponse x_pastExcitation x_filteredPast x_chosenPulses x_trialPulses x_pulseSigns x_excitation x_receivedFields : Nat → Int32} {x_correlation x_predictor x_oldPredictor : Nat → Int64} {post : Int32 → St2 → Prop} {v : Int32} {c : Nat} (hN : N ≤ 32) (hc : c ≤ N) (hs : sp_bd x_samples)
    (h : ∀ r c' s', c' ≤ N → sp_bd s' → post r ((nI P), (nI N), (nI T), (nI c'), x_encodedStream, x_reflectionLevels, x_pulseLevels, x_memory, x_history, x_output, x_fields, x_frameCounts, x_reflections, s', x_rawReflections, x_correlation, x_predictor, x_oldPredictor, x_target, x_impulseResponse, x_pastExcitation, x_filteredPast, x_chosenPulses, x_trialPulses, x_pulseSigns, x_excitation, x_receivedFields)) : wpX_putSample post ((nI P), (nI N), (nI T), (nI c), x_encodedStream, x_reflectionLevels, x_pulseLevels, x_memory, x_history, x_output, x_fields, x_frameCounts, x_reflections, x_samples, x_rawReflections, x_correlation, x_predictor, x_oldPredictor, x_target, x_impulseResponse, x_pastExcitation, x_filteredPast, x_chosenPulses, x_trialPulses, x_pulseSigns, x_excitation, x_receivedFields) v := by
  by_cases cc : c < N
  · refine br_t (nI_lt cc (by omega)) (sx_satI ⟨vp_in_nI (by omega) (by omega), nm_e (nm_r (nI_1 c) (h 1 (c + 1) _ cc ?_))⟩)
    intro j
    by_cases e : j = (nI c).toNatClampNeg
    · subst e
      rw [pk_us]
      exact sp_sat_r _
    · rw [pk_un e]
      exact hs j
  · exact br_f (nI_nlt (by omega) (by omega)) (h 0 c x_samples hc hs)
end
section
/-! congruences -/
theorem sp_go_c {c c' : Nat → Int32} {P : Nat} (h : ∀ j, j < P → c (j + 1) = c' (j + 1)) : ∀ j f b, j ≤ P → sp_go c P j f b = sp_go c' P j f b := by
  intro j
  induction j with
  | zero => intro f b _; rfl
  | succ j ih =>
    intro f b hj
    have e1 : sp_lf c b j f = sp_lf c' b j f := by
      unfold sp_lf
      rw [h j (by omega)]
    have e2 : ∀ x, sp_lb c b j x = sp_lb c' b j x := fun x => by
      unfold sp_lb
      rw [h j (by omega)]
    show sp_go c P j (sp_lf c b j f) (if j + 1 < P then upd b (j + 1) (sp_lb c b j (sp_lf c b j f)) else b) = sp_go c' P j (sp_lf c' b j f) (if j + 1 < P then upd b (j + 1) (sp_lb c' b j (sp_lf c' b j f)) else b)
    rw [e1, e2]
    exact ih _ _ (by omega)
theorem sp_lm_c {c c' b e : Nat → Int32} {P : Nat} (h : ∀ j, j < P → c (j + 1) = c' (j + 1)) : ∀ n, sp_lm c P b e n = sp_lm c' P b e n := by
  intro n
  induction n with
  | zero => rfl
  | succ n ih =>
    show (sp_go c P P (e n) (sp_lm c P b e n)).2 = (sp_go c' P P (e n) (sp_lm c' P b e n)).2
    rw [ih, sp_go_c h P _ _ (Nat.le_refl P)]
theorem sp_lo_c {c c' b e : Nat → Int32} {P : Nat} (h : ∀ j, j < P → c (j + 1) = c' (j + 1)) (n : Nat) : sp_lo c P b e n = sp_lo c' P b e n := by
  unfold sp_lo
  rw [sp_lm_c h, sp_go_c h P _ _ (Nat.le_refl P)]
theorem sp_u_c {H : Nat → Int32} {l ga gf : Nat} {sl sl' sg sg' : Nat → Nat} (h1 : ∀ t, t < 4 → sl t = sl' t) (h2 : ∀ t, t < 4 → sg t = sg' t) : sp_u H l ga gf sl sg = sp_u H l ga gf sl' sg' := by
  funext n
  unfold sp_u sp_cp
  rw [h1 (n % 4) (Nat.mod_lt _ (by decide)), h2 (n % 4) (Nat.mod_lt _ (by decide))]
theorem sp_FF2 {F G : Nat → Int32} {B D P l ga gf : Nat} {sl sg q : Nat → Nat} (h : sp_FF F B P l ga gf sl sg q) (g : sp_FF G D P l ga gf sl sg q) : ∀ k, k < 11 + P → F (B + k) = G (D + k) := by
  intro k hk
  obtain ⟨h0, h1, h2, h3, h7, h11⟩ := h
  obtain ⟨g0, g1, g2, g3, g7, g11⟩ := g
  by_cases c11 : 11 ≤ k
  · obtain ⟨m, rfl⟩ : ∃ m, k = 11 + m := ⟨k - 11, by omega⟩
    rw [← Nat.add_assoc, ← Nat.add_assoc, h11 m (by omega), g11 m (by omega)]
  · by_cases c7 : 7 ≤ k
    · obtain ⟨m, rfl⟩ : ∃ m, k = 7 + m := ⟨k - 7, by omega⟩
      rw [← Nat.add_assoc, ← Nat.add_assoc, h7 m (by omega), g7 m (by omega)]
    · by_cases c3 : 3 ≤ k
      · obtain ⟨m, rfl⟩ : ∃ m, k = 3 + m := ⟨k - 3, by omega⟩
        rw [← Nat.add_assoc, ← Nat.add_assoc, h3 m (by omega), g3 m (by omega)]
      · have hk' : k = 0 ∨ k = 1 ∨ k = 2 := by omega
        rcases hk' with rfl | rfl | rfl
        · rw [h0, g0]
        · rw [h1, g1]
        · rw [h2, g2]
theorem sp_kq_s : ∀ j, j < 16 → -32768 < (sp_kq j).toInt ∧ (sp_kq j).toInt < 32768 := by decide
/-! the law's invariant -/
def sl_B (P N T c S : Nat) (kx gx s rx : Nat → Int32) : Prop :=
  2 ≤ P ∧ P ≤ 6 ∧ N = 4 * T ∧ 2 ≤ T ∧ T ≤ 8 ∧ c ≤ N ∧ S < 2 ^ 64 ∧ sp_bd s ∧ (∀ j, j < 16 → kx j = sp_kq j) ∧ (∀ j, j < 16 → gx j = sp_fg j) ∧
  (∀ sd, sd < 2 → ∀ m, m < P → -32768 < (rx (sd * 6 + m)).toInt ∧ (rx (sd * 6 + m)).toInt < 32768)
/-- both sides hold the same frame -/
def sl_A (P N : Nat) (m h o f fc r : Nat → Int32) : Prop :=
  (∀ j, j < P → m (0 * 6 + j) = m (1 * 6 + j)) ∧ (∀ j, 1 ≤ j → j ≤ 64 → h (0 * 64 + j - 1) = h (1 * 64 + j - 1)) ∧ (∀ n, n < N → o (0 * 32 + n) = o (1 * 32 + n)) ∧
  (∀ k, k < 11 + P → f (0 * 17 + k) = f (1 * 17 + k)) ∧ (∀ j, j < P → r (0 * 6 + j) = r (1 * 6 + j)) ∧ fc 0 = fc 1
/-- the encoder is one frame ahead, and the words hold that frame -/
def sl_W (P N T : Nat) (w0 w1 w2 w3 : Int32) (m h o f fc r : Nat → Int32) : Prop :=
  ∃ (S : Nat) (b H : Nat → Int32), S < 2 ^ 64 ∧ w0 = nI ((S >>> (48 - 16 * 0)) % 65536) ∧ w1 = nI ((S >>> (48 - 16 * 1)) % 65536) ∧ w2 = nI ((S >>> (48 - 16 * 2)) % 65536) ∧ w3 = nI ((S >>> (48 - 16 * 3)) % 65536) ∧
  (∀ t, t < 4 → dr_SL S P t < T) ∧ fc 0 = fc 1 + 1 ∧ sp_FF f (0 * 17) P (dr_L S P) (dr_G S P) (dr_GF S P) (dr_SL S P) (dr_SG S P) (dr_Q S) ∧ (∀ j, j < P → r (0 * 6 + j) = sp_kq (dr_Q S j)) ∧
  sp_row (0 * 6) P m (sp_lm (dr_C S) P b (dr_U H S P) N) ∧ (∀ j, 1 ≤ j → j ≤ 64 → h (0 * 64 + j - 1) = sp_nh N (dr_U H S P) H j) ∧ (∀ n, n < N → o (0 * 32 + n) = sp_lo (dr_C S) P b (dr_U H S P) n) ∧
  sp_row (1 * 6) P m b ∧ (∀ j, 1 ≤ j → j ≤ 64 → h (1 * 64 + j - 1) = H j)
def sl_G (P N T : Nat) (x5 w0 w1 w2 w3 : Int32) (m h o f fc r : Nat → Int32) : Prop := (x5 = 0 ∧ sl_A P N m h o f fc r) ∨ (x5 = 1 ∧ sl_W P N T w0 w1 w2 w3 m h o f fc r)
def sl_I (x5 w0 w1 w2 w3 : Int32) (u : St2) : Prop := ∃ (P N T c S : Nat) (x_reflectionLevels x_pulseLevels x_memory x_history x_output x_fields x_frameCounts x_reflections x_samples x_rawReflections x_target x_impulseResponse x_pastExcitation x_filteredPast x_chosenPulses x_trialPulses x_pulseSigns x_excitation x_receivedFields : Nat → Int32) (x_correlation x_predictor x_oldPredictor : Nat → Int64), u = ((nI P), (nI N), (nI T), (nI c), (lN S), x_reflectionLevels, x_pulseLevels, x_memory, x_history, x_output, x_fields, x_frameCounts, x_reflections, x_samples, x_rawReflections, x_correlation, x_predictor, x_oldPredictor, x_target, x_impulseResponse, x_pastExcitation, x_filteredPast, x_chosenPulses, x_trialPulses, x_pulseSigns, x_excitation, x_receivedFields) ∧ sl_B P N T c S x_reflectionLevels x_pulseLevels x_samples x_reflections ∧ sl_G P N T x5 w0 w1 w2 w3 x_memory x_history x_output x_fields x_frameCounts x_reflections
def sl_J (k : Nat) (J : Int64 → Int32 → Int32 → Int32 → Int32 → Int32 → Int32 → Int32 → Int32 → Int32 → Int32 → Int64 → (Nat → Int32) → (Nat → Int32) → (Nat → Int32) → (Nat → Int32) → (Nat → Int32) → (Nat → Int32) → (Nat → Int32) → (Nat → Int32) → (Nat → Int32) → (Nat → Int32) → (Nat → Int64) → (Nat → Int64) → (Nat → Int64) → (Nat → Int32) → (Nat → Int32) → (Nat → Int32) → (Nat → Int32) → (Nat → Int32) → (Nat → Int32) → (Nat → Int32) → (Nat → Int32) → (Nat → Int32) → Prop) : Prop :=
  ∀ (x3 : Int64) (x5 w0 w1 w2 w3 f1 f2 f3 x_pending : Int32) (x_encodedStream : Int64) (x_reflectionLevels x_pulseLevels x_memory x_history x_output x_fields x_frameCounts x_reflections x_samples x_rawReflections x_target x_impulseResponse x_pastExcitation x_filteredPast x_chosenPulses x_trialPulses x_pulseSigns x_excitation x_receivedFields : Nat → Int32) (x_correlation x_predictor x_oldPredictor : Nat → Int64), sl_I x5 w0 w1 w2 w3 (f1, f2, f3, x_pending, x_encodedStream, x_reflectionLevels, x_pulseLevels, x_memory, x_history, x_output, x_fields, x_frameCounts, x_reflections, x_samples, x_rawReflections, x_correlation, x_predictor, x_oldPredictor, x_target, x_impulseResponse, x_pastExcitation, x_filteredPast, x_chosenPulses, x_trialPulses, x_pulseSigns, x_excitation, x_receivedFields) → J x3 x5 w0 w1 w2 w3 (nI (k + 1)) f1 f2 f3 x_pending x_encodedStream x_reflectionLevels x_pulseLevels x_memory x_history x_output x_fields x_frameCounts x_reflections x_samples x_rawReflections x_correlation x_predictor x_oldPredictor x_target x_impulseResponse x_pastExcitation x_filteredPast x_chosenPulses x_trialPulses x_pulseSigns x_excitation x_receivedFields
theorem sl_Ju {P N T : Nat} {x_reflectionLevels x_pulseLevels x_memory x_history x_output x_fields x_frameCounts x_reflections x_samples x_rawReflections x_target x_impulseResponse x_pastExcitation x_filteredPast x_chosenPulses x_trialPulses x_pulseSigns x_excitation x_receivedFields : Nat → Int32} {x_correlation x_predictor x_oldPredictor : Nat → Int64} {k c S : Nat} {J : Int64 → Int32 → Int32 → Int32 → Int32 → Int32 → Int32 → Int32 → Int32 → Int32 → Int32 → Int64 → (Nat → Int32) → (Nat → Int32) → (Nat → Int32) → (Nat → Int32) → (Nat → Int32) → (Nat → Int32) → (Nat → Int32) → (Nat → Int32) → (Nat → Int32) → (Nat → Int32) → (Nat → Int64) → (Nat → Int64) → (Nat → Int64) → (Nat → Int32) → (Nat → Int32) → (Nat → Int32) → (Nat → Int32) → (Nat → Int32) → (Nat → Int32) → (Nat → Int32) → (Nat → Int32) → (Nat → Int32) → Prop} {x3 : Int64} {x5 w0 w1 w2 w3 : Int32} (hJ : sl_J k J) (hB : sl_B P N T c S x_reflectionLevels x_pulseLevels x_samples x_reflections) (hG : sl_G P N T x5 w0 w1 w2 w3 x_memory x_history x_output x_fields x_frameCounts x_reflections) : J x3 x5 w0 w1 w2 w3 (nI (k + 1)) (nI P) (nI N) (nI T) (nI c) (lN S) x_reflectionLevels x_pulseLevels x_memory x_history x_output x_fields x_frameCounts x_reflections x_samples x_rawReflections x_correlation x_predictor x_oldPredictor x_target x_impulseResponse x_pastExcitation x_filteredPast x_chosenPulses x_trialPulses x_pulseSigns x_excitation x_receivedFields :=
  hJ x3 x5 w0 w1 w2 w3 _ _ _ _ _ _ _ _ _ _ _ _ _ _ _ _ _ _ _ _ _ _ _ _ _ _ _ ⟨P, N, T, c, S, _, _, _, _, _, _, _, _, _, _, _, _, _, _, _, _, _, _, _, _, _, _, rfl, hB, hG⟩
/-! the checks -/
theorem sl_gt {x : Int32} {k : Nat} (hk : k < 2 ^ 31) : nI k < x ↔ (k : Int) < x.toInt := by rw [Int32.lt_iff_toInt_lt, nI_toInt hk]
theorem sl_up {x : Int32} (h1 : -5 ≤ x.toInt) (h2 : x.toInt < 1000) : (x + 1).toInt = x.toInt + 1 := by
  rw [Int32.toInt_add, show (1 : Int32).toInt = 1 from by decide]
  exact Int.bmod_eq_of_le (by omega) (by omega)
theorem sl_534 {P N T : Nat} {x_pending : Int32} {x_encodedStream : Int64} {x_reflectionLevels x_pulseLevels x_memory x_history x_output x_fields x_frameCounts x_reflections x_samples x_rawReflections x_target x_impulseResponse x_pastExcitation x_filteredPast x_chosenPulses x_trialPulses x_pulseSigns x_excitation x_receivedFields : Nat → Int32} {x_correlation x_predictor x_oldPredictor : Nat → Int64} {post : Int32 → Prop} {L : Nat} {xs : Nat → Int32} {J : Int64 → Int32 → Int32 → Int32 → Int32 → Int32 → Int32 → Int32 → Int32 → Int32 → Int32 → Int64 → (Nat → Int32) → (Nat → Int32) → (Nat → Int32) → (Nat → Int32) → (Nat → Int32) → (Nat → Int32) → (Nat → Int32) → (Nat → Int32) → (Nat → Int32) → (Nat → Int32) → (Nat → Int64) → (Nat → Int64) → (Nat → Int64) → (Nat → Int32) → (Nat → Int32) → (Nat → Int32) → (Nat → Int32) → (Nat → Int32) → (Nat → Int32) → (Nat → Int32) → (Nat → Int32) → (Nat → Int32) → Prop} {x2 x5 x6 x7 x8 x9 x10 x11 : Int32} {x3 : Int64} {kc ks : Nat} (hP : P ≤ 6) (hr : ∀ m, m < P → x_reflections (0 * 6 + m) = x_reflections (1 * 6 + m)) (hJ : J x3 x5 x6 x7 x8 x9 (x11 + 1) (nI P) (nI N) (nI T) x_pending x_encodedStream x_reflectionLevels x_pulseLevels x_memory x_history x_output x_fields x_frameCounts x_reflections x_samples x_rawReflections x_correlation x_predictor x_oldPredictor x_target x_impulseResponse x_pastExcitation x_filteredPast x_chosenPulses x_trialPulses x_pulseSigns x_excitation x_receivedFields) :
    ∀ (d : Nat) (x : Int32), x.toInt + d = 8 → -5 ≤ x.toInt → wL_law_534 post L xs J x2 x3 x5 x6 x7 x8 x9 x10 x11 kc ks (nI P) (nI N) (nI T) x_pending x_encodedStream x_reflectionLevels x_pulseLevels x_memory x_history x_output x_fields x_frameCounts x_reflections x_samples x_rawReflections x_correlation x_predictor x_oldPredictor x_target x_impulseResponse x_pastExcitation x_filteredPast x_chosenPulses x_trialPulses x_pulseSigns x_excitation x_receivedFields (d + 1) x := by
  intro d
  induction d with
  | zero =>
    intro x hx _
    exact br_t ((sl_gt (k := 7) (by omega)).mpr (by omega)) (nm_e hJ)
  | succ d ih =>
    intro x hx h5
    have u := sl_up (x := x) h5 (by omega)
    exact br_f (fun z => by
      have := (sl_gt (k := 7) (by omega)).mp z
      omega) (sl_refl hP hr (nm_e (ih (x + 1) (by omega) (by omega))))
theorem sl_499 {P N T : Nat} {x_pending : Int32} {x_encodedStream : Int64} {x_reflectionLevels x_pulseLevels x_memory x_history x_output x_fields x_frameCounts x_reflections x_samples x_rawReflections x_target x_impulseResponse x_pastExcitation x_filteredPast x_chosenPulses x_trialPulses x_pulseSigns x_excitation x_receivedFields : Nat → Int32} {x_correlation x_predictor x_oldPredictor : Nat → Int64} {post : Int32 → Prop} {L : Nat} {xs : Nat → Int32} {J : Int64 → Int32 → Int32 → Int32 → Int32 → Int32 → Int32 → Int32 → Int32 → Int32 → Int32 → Int64 → (Nat → Int32) → (Nat → Int32) → (Nat → Int32) → (Nat → Int32) → (Nat → Int32) → (Nat → Int32) → (Nat → Int32) → (Nat → Int32) → (Nat → Int32) → (Nat → Int32) → (Nat → Int64) → (Nat → Int64) → (Nat → Int64) → (Nat → Int32) → (Nat → Int32) → (Nat → Int32) → (Nat → Int32) → (Nat → Int32) → (Nat → Int32) → (Nat → Int32) → (Nat → Int32) → (Nat → Int32) → Prop} {x2 x5 x6 x7 x8 x9 x10 x11 : Int32} {x3 : Int64} {kc ks : Nat} (hP : P ≤ 6) (hf : ∀ k, k < 11 + P → x_fields (0 * 17 + k) = x_fields (1 * 17 + k)) (hJ : ∃ n, wL_law_534 post L xs J x2 x3 x5 x6 x7 x8 x9 x10 x11 kc ks (nI P) (nI N) (nI T) x_pending x_encodedStream x_reflectionLevels x_pulseLevels x_memory x_history x_output x_fields x_frameCounts x_reflections x_samples x_rawReflections x_correlation x_predictor x_oldPredictor x_target x_impulseResponse x_pastExcitation x_filteredPast x_chosenPulses x_trialPulses x_pulseSigns x_excitation x_receivedFields n (-1)) :
    ∀ (d : Nat) (x : Int32), x.toInt + d = 18 → -5 ≤ x.toInt → wL_law_499 post L xs J x2 x3 x5 x6 x7 x8 x9 x10 x11 kc ks (nI P) (nI N) (nI T) x_pending x_encodedStream x_reflectionLevels x_pulseLevels x_memory x_history x_output x_fields x_frameCounts x_reflections x_samples x_rawReflections x_correlation x_predictor x_oldPredictor x_target x_impulseResponse x_pastExcitation x_filteredPast x_chosenPulses x_trialPulses x_pulseSigns x_excitation x_receivedFields (d + 1) x := by
  intro d
  induction d with
  | zero =>
    intro x hx _
    exact br_t ((sl_gt (k := 17) (by omega)).mpr (by omega)) (hJ)
  | succ d ih =>
    intro x hx h5
    have u := sl_up (x := x) h5 (by omega)
    exact br_f (fun z => by
      have := (sl_gt (k := 17) (by omega)).mp z
      omega) (sl_fld hP hf (nm_e (ih (x + 1) (by omega) (by omega))))
theorem sl_463 {P N T : Nat} {x_pending : Int32} {x_encodedStream : Int64} {x_reflectionLevels x_pulseLevels x_memory x_history x_output x_fields x_frameCounts x_reflections x_samples x_rawReflections x_target x_impulseResponse x_pastExcitation x_filteredPast x_chosenPulses x_trialPulses x_pulseSigns x_excitation x_receivedFields : Nat → Int32} {x_correlation x_predictor x_oldPredictor : Nat → Int64} {post : Int32 → Prop} {L : Nat} {xs : Nat → Int32} {J : Int64 → Int32 → Int32 → Int32 → Int32 → Int32 → Int32 → Int32 → Int32 → Int32 → Int32 → Int64 → (Nat → Int32) → (Nat → Int32) → (Nat → Int32) → (Nat → Int32) → (Nat → Int32) → (Nat → Int32) → (Nat → Int32) → (Nat → Int32) → (Nat → Int32) → (Nat → Int32) → (Nat → Int64) → (Nat → Int64) → (Nat → Int64) → (Nat → Int32) → (Nat → Int32) → (Nat → Int32) → (Nat → Int32) → (Nat → Int32) → (Nat → Int32) → (Nat → Int32) → (Nat → Int32) → (Nat → Int32) → Prop} {x2 x5 x6 x7 x8 x9 x10 x11 : Int32} {x3 : Int64} {kc ks : Nat} (hP : P ≤ 6) (hm : ∀ k, k < P → x_memory (0 * 6 + k) = x_memory (1 * 6 + k)) (hJ : ∃ n, wL_law_499 post L xs J x2 x3 x5 x6 x7 x8 x9 x10 x11 kc ks (nI P) (nI N) (nI T) x_pending x_encodedStream x_reflectionLevels x_pulseLevels x_memory x_history x_output x_fields x_frameCounts x_reflections x_samples x_rawReflections x_correlation x_predictor x_oldPredictor x_target x_impulseResponse x_pastExcitation x_filteredPast x_chosenPulses x_trialPulses x_pulseSigns x_excitation x_receivedFields n (-2)) :
    ∀ (d : Nat) (x : Int32), x.toInt + d = 7 → -5 ≤ x.toInt → wL_law_463 post L xs J x2 x3 x5 x6 x7 x8 x9 x10 x11 kc ks (nI P) (nI N) (nI T) x_pending x_encodedStream x_reflectionLevels x_pulseLevels x_memory x_history x_output x_fields x_frameCounts x_reflections x_samples x_rawReflections x_correlation x_predictor x_oldPredictor x_target x_impulseResponse x_pastExcitation x_filteredPast x_chosenPulses x_trialPulses x_pulseSigns x_excitation x_receivedFields (d + 1) x := by
  intro d
  induction d with
  | zero =>
    intro x hx _
    exact br_t ((sl_gt (k := 6) (by omega)).mpr (by omega)) (hJ)
  | succ d ih =>
    intro x hx h5
    have u := sl_up (x := x) h5 (by omega)
    exact br_f (fun z => by
      have := (sl_gt (k := 6) (by omega)).mp z
      omega) (sl_mem hP hm (nm_e (ih (x + 1) (by omega) (by omega))))
theorem sl_428 {P N T : Nat} {x_pending : Int32} {x_encodedStream : Int64} {x_reflectionLevels x_pulseLevels x_memory x_history x_output x_fields x_frameCounts x_reflections x_samples x_rawReflections x_target x_impulseResponse x_pastExcitation x_filteredPast x_chosenPulses x_trialPulses x_pulseSigns x_excitation x_receivedFields : Nat → Int32} {x_correlation x_predictor x_oldPredictor : Nat → Int64} {post : Int32 → Prop} {L : Nat} {xs : Nat → Int32} {J : Int64 → Int32 → Int32 → Int32 → Int32 → Int32 → Int32 → Int32 → Int32 → Int32 → Int32 → Int64 → (Nat → Int32) → (Nat → Int32) → (Nat → Int32) → (Nat → Int32) → (Nat → Int32) → (Nat → Int32) → (Nat → Int32) → (Nat → Int32) → (Nat → Int32) → (Nat → Int32) → (Nat → Int64) → (Nat → Int64) → (Nat → Int64) → (Nat → Int32) → (Nat → Int32) → (Nat → Int32) → (Nat → Int32) → (Nat → Int32) → (Nat → Int32) → (Nat → Int32) → (Nat → Int32) → (Nat → Int32) → Prop} {x2 x5 x6 x7 x8 x9 x10 x11 : Int32} {x3 : Int64} {kc ks : Nat} (hh : ∀ j, 1 ≤ j → j ≤ 64 → x_history (0 * 64 + j - 1) = x_history (1 * 64 + j - 1)) (hJ : ∃ n, wL_law_463 post L xs J x2 x3 x5 x6 x7 x8 x9 x10 x11 kc ks (nI P) (nI N) (nI T) x_pending x_encodedStream x_reflectionLevels x_pulseLevels x_memory x_history x_output x_fields x_frameCounts x_reflections x_samples x_rawReflections x_correlation x_predictor x_oldPredictor x_target x_impulseResponse x_pastExcitation x_filteredPast x_chosenPulses x_trialPulses x_pulseSigns x_excitation x_receivedFields n (-1)) :
    ∀ (d : Nat) (x : Int32), x.toInt + d = 66 → -5 ≤ x.toInt → wL_law_428 post L xs J x2 x3 x5 x6 x7 x8 x9 x10 x11 kc ks (nI P) (nI N) (nI T) x_pending x_encodedStream x_reflectionLevels x_pulseLevels x_memory x_history x_output x_fields x_frameCounts x_reflections x_samples x_rawReflections x_correlation x_predictor x_oldPredictor x_target x_impulseResponse x_pastExcitation x_filteredPast x_chosenPulses x_trialPulses x_pulseSigns x_excitation x_receivedFields (d + 1) x := by
  intro d
  induction d with
  | zero =>
    intro x hx _
    exact br_t ((sl_gt (k := 65) (by omega)).mpr (by omega)) (hJ)
  | succ d ih =>
    intro x hx h5
    have u := sl_up (x := x) h5 (by omega)
    exact br_f (fun z => by
      have := (sl_gt (k := 65) (by omega)).mp z
      omega) (sl_exc hh (nm_e (ih (x + 1) (by omega) (by omega))))
theorem sl_393 {P N T : Nat} {x_pending : Int32} {x_encodedStream : Int64} {x_reflectionLevels x_pulseLevels x_memory x_history x_output x_fields x_frameCounts x_reflections x_samples x_rawReflections x_target x_impulseResponse x_pastExcitation x_filteredPast x_chosenPulses x_trialPulses x_pulseSigns x_excitation x_receivedFields : Nat → Int32} {x_correlation x_predictor x_oldPredictor : Nat → Int64} {post : Int32 → Prop} {L : Nat} {xs : Nat → Int32} {J : Int64 → Int32 → Int32 → Int32 → Int32 → Int32 → Int32 → Int32 → Int32 → Int32 → Int32 → Int64 → (Nat → Int32) → (Nat → Int32) → (Nat → Int32) → (Nat → Int32) → (Nat → Int32) → (Nat → Int32) → (Nat → Int32) → (Nat → Int32) → (Nat → Int32) → (Nat → Int32) → (Nat → Int64) → (Nat → Int64) → (Nat → Int64) → (Nat → Int32) → (Nat → Int32) → (Nat → Int32) → (Nat → Int32) → (Nat → Int32) → (Nat → Int32) → (Nat → Int32) → (Nat → Int32) → (Nat → Int32) → Prop} {x2 x5 x6 x7 x8 x9 x10 x11 : Int32} {x3 : Int64} {kc ks : Nat} (hN : N ≤ 32) (ho : ∀ k, k < N → x_output (0 * 32 + k) = x_output (1 * 32 + k)) (hJ : ∃ n, wL_law_428 post L xs J x2 x3 x5 x6 x7 x8 x9 x10 x11 kc ks (nI P) (nI N) (nI T) x_pending x_encodedStream x_reflectionLevels x_pulseLevels x_memory x_history x_output x_fields x_frameCounts x_reflections x_samples x_rawReflections x_correlation x_predictor x_oldPredictor x_target x_impulseResponse x_pastExcitation x_filteredPast x_chosenPulses x_trialPulses x_pulseSigns x_excitation x_receivedFields n (-1)) :
    ∀ (d : Nat) (x : Int32), x.toInt + d = 33 → -5 ≤ x.toInt → wL_law_393 post L xs J x2 x3 x5 x6 x7 x8 x9 x10 x11 kc ks (nI P) (nI N) (nI T) x_pending x_encodedStream x_reflectionLevels x_pulseLevels x_memory x_history x_output x_fields x_frameCounts x_reflections x_samples x_rawReflections x_correlation x_predictor x_oldPredictor x_target x_impulseResponse x_pastExcitation x_filteredPast x_chosenPulses x_trialPulses x_pulseSigns x_excitation x_receivedFields (d + 1) x := by
  intro d
  induction d with
  | zero =>
    intro x hx _
    exact br_t ((sl_gt (k := 32) (by omega)).mpr (by omega)) (hJ)
  | succ d ih =>
    intro x hx h5
    have u := sl_up (x := x) h5 (by omega)
    exact br_f (fun z => by
      have := (sl_gt (k := 32) (by omega)).mp z
      omega) (sl_out hN ho (nm_e (ih (x + 1) (by omega) (by omega))))
theorem sl_331 {P N T : Nat} {x_pending : Int32} {x_encodedStream : Int64} {x_reflectionLevels x_pulseLevels x_memory x_history x_output x_fields x_frameCounts x_reflections x_samples x_rawReflections x_target x_impulseResponse x_pastExcitation x_filteredPast x_chosenPulses x_trialPulses x_pulseSigns x_excitation x_receivedFields : Nat → Int32} {x_correlation x_predictor x_oldPredictor : Nat → Int64} {post : Int32 → Prop} {L : Nat} {xs : Nat → Int32} {J : Int64 → Int32 → Int32 → Int32 → Int32 → Int32 → Int32 → Int32 → Int32 → Int32 → Int32 → Int64 → (Nat → Int32) → (Nat → Int32) → (Nat → Int32) → (Nat → Int32) → (Nat → Int32) → (Nat → Int32) → (Nat → Int32) → (Nat → Int32) → (Nat → Int32) → (Nat → Int32) → (Nat → Int64) → (Nat → Int64) → (Nat → Int64) → (Nat → Int32) → (Nat → Int32) → (Nat → Int32) → (Nat → Int32) → (Nat → Int32) → (Nat → Int32) → (Nat → Int32) → (Nat → Int32) → (Nat → Int32) → Prop} {x2 x5 x6 x7 x8 x9 x10 x11 : Int32} {x3 : Int64} {kc ks : Nat} {J' : Int32 → Prop} {x14 : Int32} (hP : P ≤ 6) (hr : ∀ sd, sd < 2 → ∀ m, m < P → -32768 < (x_reflections (sd * 6 + m)).toInt ∧ (x_reflections (sd * 6 + m)).toInt < 32768) (hJ : J' (x14 + 1)) :
    ∀ (d : Nat) (x : Int32), x.toInt + d = 8 → -5 ≤ x.toInt → wL_law_331 post L xs J J' x2 x3 x5 x6 x7 x8 x9 x10 x11 x14 kc ks (nI P) (nI N) (nI T) x_pending x_encodedStream x_reflectionLevels x_pulseLevels x_memory x_history x_output x_fields x_frameCounts x_reflections x_samples x_rawReflections x_correlation x_predictor x_oldPredictor x_target x_impulseResponse x_pastExcitation x_filteredPast x_chosenPulses x_trialPulses x_pulseSigns x_excitation x_receivedFields (d + 1) x := by
  intro d
  induction d with
  | zero =>
    intro x hx _
    exact br_t ((sl_gt (k := 7) (by omega)).mpr (by omega)) (nm_e hJ)
  | succ d ih =>
    intro x hx h5
    have u := sl_up (x := x) h5 (by omega)
    exact br_f (fun z => by
      have := (sl_gt (k := 7) (by omega)).mp z
      omega) (sl_rng hP hr (nm_e (ih (x + 1) (by omega) (by omega))))
theorem sl_322 {P N T : Nat} {x_pending : Int32} {x_encodedStream : Int64} {x_reflectionLevels x_pulseLevels x_memory x_history x_output x_fields x_frameCounts x_reflections x_samples x_rawReflections x_target x_impulseResponse x_pastExcitation x_filteredPast x_chosenPulses x_trialPulses x_pulseSigns x_excitation x_receivedFields : Nat → Int32} {x_correlation x_predictor x_oldPredictor : Nat → Int64} {post : Int32 → Prop} {L : Nat} {xs : Nat → Int32} {J : Int64 → Int32 → Int32 → Int32 → Int32 → Int32 → Int32 → Int32 → Int32 → Int32 → Int32 → Int64 → (Nat → Int32) → (Nat → Int32) → (Nat → Int32) → (Nat → Int32) → (Nat → Int32) → (Nat → Int32) → (Nat → Int32) → (Nat → Int32) → (Nat → Int32) → (Nat → Int32) → (Nat → Int64) → (Nat → Int64) → (Nat → Int64) → (Nat → Int32) → (Nat → Int32) → (Nat → Int32) → (Nat → Int32) → (Nat → Int32) → (Nat → Int32) → (Nat → Int32) → (Nat → Int32) → (Nat → Int32) → Prop} {x2 x5 x6 x7 x8 x9 x10 x11 : Int32} {x3 : Int64} {kc ks : Nat} (hP : P ≤ 6) (hN : N ≤ 32) (hr : ∀ sd, sd < 2 → ∀ m, m < P → -32768 < (x_reflections (sd * 6 + m)).toInt ∧ (x_reflections (sd * 6 + m)).toInt < 32768)
    (hc : sl_A P N x_memory x_history x_output x_fields x_frameCounts x_reflections ∨ ¬ x_frameCounts 0 = x_frameCounts 1)
    (hJ : J x3 x5 x6 x7 x8 x9 (x11 + 1) (nI P) (nI N) (nI T) x_pending x_encodedStream x_reflectionLevels x_pulseLevels x_memory x_history x_output x_fields x_frameCounts x_reflections x_samples x_rawReflections x_correlation x_predictor x_oldPredictor x_target x_impulseResponse x_pastExcitation x_filteredPast x_chosenPulses x_trialPulses x_pulseSigns x_excitation x_receivedFields) :
    ∀ (d : Nat) (x : Int32), x.toInt + d = 3 → -5 ≤ x.toInt → wL_law_322 post L xs J x2 x3 x5 x6 x7 x8 x9 x10 x11 kc ks (nI P) (nI N) (nI T) x_pending x_encodedStream x_reflectionLevels x_pulseLevels x_memory x_history x_output x_fields x_frameCounts x_reflections x_samples x_rawReflections x_correlation x_predictor x_oldPredictor x_target x_impulseResponse x_pastExcitation x_filteredPast x_chosenPulses x_trialPulses x_pulseSigns x_excitation x_receivedFields (d + 1) x := by
  intro d
  induction d with
  | zero =>
    intro x hx _
    refine br_t ((sl_gt (k := 2) (by omega)).mpr (by omega)) (sx_gc (sd := 0) (by omega) (sx_gc (sd := 1) (by omega) ?_))
    rcases hc with ⟨a1, a2, a3, a4, a5, a6⟩ | hc
    · have e1 : (-1 : Int32).toInt = -1 := by decide
      have e2 : (-2 : Int32).toInt = -2 := by decide
      refine br_t a6 ?_
      have h534 := sl_534 (post := post) (L := L) (xs := xs) (x2 := x2) (x10 := x10) (kc := kc) (ks := ks) hP a5 hJ 9 (-1) (by rw [e1]; rfl) (by rw [e1]; decide)
      have h499 := sl_499 hP a4 ⟨_, h534⟩ 20 (-2) (by rw [e2]; rfl) (by rw [e2]; decide)
      have h463 := sl_463 hP a1 ⟨_, h499⟩ 8 (-1) (by rw [e1]; rfl) (by rw [e1]; decide)
      have h428 := sl_428 a2 ⟨_, h463⟩ 67 (-1) (by rw [e1]; rfl) (by rw [e1]; decide)
      have h393 := sl_393 hN a3 ⟨_, h428⟩ 34 (-1) (by rw [e1]; rfl) (by rw [e1]; decide)
      exact ⟨_, h393⟩
    · exact br_f hc (nm_e hJ)
  | succ d ih =>
    intro x hx h5
    have u := sl_up (x := x) h5 (by omega)
    have e1 : (-1 : Int32).toInt = -1 := by decide
    exact br_f (fun z => by
      have := (sl_gt (k := 2) (by omega)).mp z
      omega) ⟨_, sl_331 hP hr (ih (x + 1) (by omega) (by omega)) 9 (-1) (by rw [e1]; rfl) (by rw [e1]; decide)⟩
theorem sl_ne (x : Int32) : ¬ x + 1 = x := by
  intro h
  have e : x + 1 - x = x - x := by rw [h]
  rw [Int32.sub_self] at e
  have e2 : x + 1 - x = 1 := by grind
  rw [e2] at e
  exact absurd e (by decide)
theorem sl_c322 {P N T : Nat} {x_reflectionLevels x_pulseLevels x_memory x_history x_output x_fields x_frameCounts x_reflections x_samples x_rawReflections x_target x_impulseResponse x_pastExcitation x_filteredPast x_chosenPulses x_trialPulses x_pulseSigns x_excitation x_receivedFields : Nat → Int32} {x_correlation x_predictor x_oldPredictor : Nat → Int64} {post : Int32 → Prop} {L : Nat} {xs : Nat → Int32} {J : Int64 → Int32 → Int32 → Int32 → Int32 → Int32 → Int32 → Int32 → Int32 → Int32 → Int32 → Int64 → (Nat → Int32) → (Nat → Int32) → (Nat → Int32) → (Nat → Int32) → (Nat → Int32) → (Nat → Int32) → (Nat → Int32) → (Nat → Int32) → (Nat → Int32) → (Nat → Int32) → (Nat → Int64) → (Nat → Int64) → (Nat → Int64) → (Nat → Int32) → (Nat → Int32) → (Nat → Int32) → (Nat → Int32) → (Nat → Int32) → (Nat → Int32) → (Nat → Int32) → (Nat → Int32) → (Nat → Int32) → Prop} {x2 x5 w0 w1 w2 w3 x10 : Int32} {x3 : Int64} {k kc ks c S : Nat} (hJ : sl_J k J) (hB : sl_B P N T c S x_reflectionLevels x_pulseLevels x_samples x_reflections) (hG : sl_G P N T x5 w0 w1 w2 w3 x_memory x_history x_output x_fields x_frameCounts x_reflections) :
    ∃ n, wL_law_322 post L xs J x2 x3 x5 w0 w1 w2 w3 x10 (nI k) kc ks (nI P) (nI N) (nI T) (nI c) (lN S) x_reflectionLevels x_pulseLevels x_memory x_history x_output x_fields x_frameCounts x_reflections x_samples x_rawReflections x_correlation x_predictor x_oldPredictor x_target x_impulseResponse x_pastExcitation x_filteredPast x_chosenPulses x_trialPulses x_pulseSigns x_excitation x_receivedFields n (-1) := by
  have hj : J x3 x5 w0 w1 w2 w3 (nI (k + 1)) (nI P) (nI N) (nI T) (nI c) (lN S) x_reflectionLevels x_pulseLevels x_memory x_history x_output x_fields x_frameCounts x_reflections x_samples x_rawReflections x_correlation x_predictor x_oldPredictor x_target x_impulseResponse x_pastExcitation x_filteredPast x_chosenPulses x_trialPulses x_pulseSigns x_excitation x_receivedFields := sl_Ju hJ hB hG
  rw [← nI_1] at hj
  obtain ⟨hP2, hP, hNT, hT2, hT, hc, hS, hs, hk, hg, hr⟩ := hB
  have e1 : (-1 : Int32).toInt = -1 := by decide
  refine ⟨_, sl_322 hP (by omega) hr ?_ hj 4 (-1) (by rw [e1]; rfl) (by rw [e1]; decide)⟩
  rcases hG with ⟨_, hA⟩ | ⟨_, hW⟩
  · exact Or.inl hA
  · obtain ⟨S', b, H, _, _, _, _, _, _, hf, _⟩ := hW
    refine Or.inr ?_
    rw [hf]
    exact sl_ne _
end
section
theorem fr_Sb {s b H : Nat → Int32} {N P T : Nat} (hP : P ≤ 6) (hT : 0 < T) (hT8 : T ≤ 8) : fr_S s b H N P T < 2 ^ 64 := by
  have h := sp_fs_b (q := fr_Q s N P) (P := P) (l := fr_L s b H N P) (ga := fr_G s b H N P) (gf := fr_GF s b H N P T) (sl := fr_SL s b H N P T) (sg := fr_SG s b H N P T) (fun m _ => fr_Qb) fr_Lb fr_Gb (fun t _ => Nat.lt_of_lt_of_le (fr_SLb hT) hT8) (fun t _ => fr_SGb) (fr_GFb hT)
  unfold fr_S
  rw [Nat.shiftLeft_eq]
  have q := Nat.mul_lt_mul_of_pos_right h (Nat.two_pow_pos (36 - 4 * P))
  rw [← Nat.pow_add, show 4 * P + 28 + (36 - 4 * P) = 64 from by omega] at q
  exact q
/-- an encoded frame, as its words will give it back -/
theorem sl_mkW {s b H : Nat → Int32} {N P T : Nat} {m h o f fc r : Nat → Int32} (hP : P ≤ 6) (hT : 0 < T) (hT8 : T ≤ 8) (hSb : fr_S s b H N P T < 2 ^ 64)
    (g2 : sp_FF f (0 * 17) P (fr_L s b H N P) (fr_G s b H N P) (fr_GF s b H N P T) (fr_SL s b H N P T) (fr_SG s b H N P T) (fr_Q s N P)) (g4 : ∀ j, j < P → r (0 * 6 + j) = sp_kq (fr_Q s N P j))
    (g6 : sp_row (0 * 6) P m (sp_lm (fr_C s N P) P b (fr_U s b H N P T) N)) (g8 : ∀ j, 1 ≤ j → j ≤ 64 → h (0 * 64 + j - 1) = sp_nh N (fr_U s b H N P T) H j) (go : ∀ n, n < N → o (0 * 32 + n) = sp_lo (fr_C s N P) P b (fr_U s b H N P T) n)
    (hf : fc 0 = fc 1 + 1) (hm1 : sp_row (1 * 6) P m b) (hh1 : ∀ j, 1 ≤ j → j ≤ 64 → h (1 * 64 + j - 1) = H j) :
    sl_W P N T (nI ((fr_S s b H N P T >>> (48 - 16 * 0)) % 65536)) (nI ((fr_S s b H N P T >>> (48 - 16 * 1)) % 65536)) (nI ((fr_S s b H N P T >>> (48 - 16 * 2)) % 65536)) (nI ((fr_S s b H N P T >>> (48 - 16 * 3)) % 65536)) m h o f fc r := by
  obtain ⟨u1, u2, u3, u4, u5, u6⟩ := sp_unp (q := fr_Q s N P) (P := P) (l := fr_L s b H N P) (ga := fr_G s b H N P) (gf := fr_GF s b H N P T) (sl := fr_SL s b H N P T) (sg := fr_SG s b H N P T) hP (fun m _ => fr_Qb) fr_Lb fr_Gb (fun t _ => Nat.lt_of_lt_of_le (fr_SLb hT) hT8) (fun t _ => fr_SGb) (fr_GFb hT) (S := fr_S s b H N P T) rfl
  have eC : ∀ j, j < P → fr_C s N P (j + 1) = dr_C (fr_S s b H N P T) (j + 1) := fun j hj => by
    show sp_kq (fr_Q s N P (j + 1 - 1)) = sp_kq (dr_Q (fr_S s b H N P T) (j + 1 - 1))
    rw [show j + 1 - 1 = j from rfl, u6 j hj]
  have eU : fr_U s b H N P T = dr_U H (fr_S s b H N P T) P := by
    unfold fr_U dr_U
    rw [u1, u2, u3]
    exact sp_u_c (fun t ht => (u4 t ht).symm) (fun t ht => (u5 t ht).symm)
  rw [eU] at g6 g8 go
  rw [sp_lm_c eC] at g6
  obtain ⟨f0, f1, f2, f3, f7, f11⟩ := g2
  refine ⟨fr_S s b H N P T, b, H, hSb, rfl, rfl, rfl, rfl, fun t ht => ?_, hf, ⟨by rw [u1]; exact f0, by rw [u2]; exact f1, by rw [u3]; exact f2, fun t ht => by rw [u4 t ht]; exact f3 t ht, fun t ht => by rw [u5 t ht]; exact f7 t ht, fun m hm => by rw [u6 m hm]; exact f11 m hm⟩, fun j hj => by rw [u6 j hj]; exact g4 j hj, g6, g8, fun n hn => by rw [go n hn, sp_lo_c eC], hm1, hh1⟩
  rw [u4 t ht]
  exact fr_SLb hT
/-! a step of the law -/
theorem sl_276 {P N T : Nat} {x_reflectionLevels x_pulseLevels x_memory x_history x_output x_fields x_frameCounts x_reflections x_samples x_rawReflections x_target x_impulseResponse x_pastExcitation x_filteredPast x_chosenPulses x_trialPulses x_pulseSigns x_excitation x_receivedFields : Nat → Int32} {x_correlation x_predictor x_oldPredictor : Nat → Int64} {post : Int32 → Prop} {L : Nat} {xs : Nat → Int32} {J : Int64 → Int32 → Int32 → Int32 → Int32 → Int32 → Int32 → Int32 → Int32 → Int32 → Int32 → Int64 → (Nat → Int32) → (Nat → Int32) → (Nat → Int32) → (Nat → Int32) → (Nat → Int32) → (Nat → Int32) → (Nat → Int32) → (Nat → Int32) → (Nat → Int32) → (Nat → Int32) → (Nat → Int64) → (Nat → Int64) → (Nat → Int64) → (Nat → Int32) → (Nat → Int32) → (Nat → Int32) → (Nat → Int32) → (Nat → Int32) → (Nat → Int32) → (Nat → Int32) → (Nat → Int32) → (Nat → Int32) → Prop} {x2 x5 w0 w1 w2 w3 x10 : Int32} {x3 : Int64} {k kc ks c S : Nat} {x13 : Int32} (hJ : sl_J k J) (hB : sl_B P N T c S x_reflectionLevels x_pulseLevels x_samples x_reflections) (hG : sl_G P N T x5 w0 w1 w2 w3 x_memory x_history x_output x_fields x_frameCounts x_reflections) (h13 : x13 = 0 ∨ (¬ x13 = 0 ∧ x5 = 0)) :
    wL_law_276 post L xs J x2 x3 x5 w0 w1 w2 w3 x10 (nI k) x13 kc ks (nI P) (nI N) (nI T) (nI c) (lN S) x_reflectionLevels x_pulseLevels x_memory x_history x_output x_fields x_frameCounts x_reflections x_samples x_rawReflections x_correlation x_predictor x_oldPredictor x_target x_impulseResponse x_pastExcitation x_filteredPast x_chosenPulses x_trialPulses x_pulseSigns x_excitation x_receivedFields := by
  rcases h13 with h13 | ⟨h13, h5⟩
  · exact br_t h13 (sl_c322 hJ hB hG)
  · rcases hG with ⟨_, hA⟩ | ⟨h5', _⟩
    · refine br_f h13 ?_
      have hB0 := hB
      obtain ⟨hP2, hP, hNT, hT2, hT, hc, hS, hs, hk, hg, hr⟩ := hB
      by_cases cc : c = N
      · subst cc
        obtain ⟨a1, a2, a3, a4, a5, a6⟩ := hA
        refine sx_enc (s := x_samples) (b := fun j => x_memory (0 * 6 + j)) (H := fun j => x_history (0 * 64 + j - 1)) rfl hs hP2 hP hNT hT2 hT hk hg (fun j _ => rfl) (fun j _ _ => rfl) (fun raw co pr op F Rf M A tg ir pe fp tp cp ps ex g1 g2 g3 g4 g5 g6 g7 g8 g9 => ?_)
        have hSb := fr_Sb (s := x_samples) (b := fun j => x_memory (0 * 6 + j)) (H := fun j => x_history (0 * 64 + j - 1)) (N := c) (P := P) (T := T) hP (by omega) hT
        refine br_f (by decide) (sx_gw (i := 0) hSb (by omega) (sx_gw (i := 1) hSb (by omega) (sx_gw (i := 2) hSb (by omega) (sx_gw (i := 3) hSb (by omega) ?_))))
        refine sl_c322 (c := 0) hJ ⟨hP2, hP, hNT, hT2, hT, by omega, hSb, hs, hk, hg, ?_⟩ (Or.inr ⟨rfl, ?_⟩)
        · intro sd hsd m hm
          have q : sd = 0 ∨ sd = 1 := by omega
          rcases q with rfl | rfl
          · rw [g4 m hm]
            exact sp_kq_s _ fr_Qb
          · rw [g5 _ (by omega)]
            exact hr 1 (by omega) m hm
        · exact sl_mkW hP (by omega) hT hSb g2 g4 g6 g8 (fun n hn => sp_fo_in hn) (by rw [pk_us, pk_un (by omega), a6]) (fun j hj => by rw [g7 _ (by omega) (by omega)]; exact (a1 j hj).symm) (fun j h1 h2 => by rw [g9 _ (by omega)]; exact (a2 j h1 h2).symm)
      · exact br_f (nI_ge (by omega) (by omega)) (br_t rfl (sl_c322 hJ hB0 (Or.inl ⟨h5, hA⟩)))
    · rw [h5] at h5'
      exact absurd h5' (by decide)
theorem sl_251 {P N T : Nat} {x_reflectionLevels x_pulseLevels x_memory x_history x_output x_fields x_frameCounts x_reflections x_samples x_rawReflections x_target x_impulseResponse x_pastExcitation x_filteredPast x_chosenPulses x_trialPulses x_pulseSigns x_excitation x_receivedFields : Nat → Int32} {x_correlation x_predictor x_oldPredictor : Nat → Int64} {post : Int32 → Prop} {L : Nat} {xs : Nat → Int32} {J : Int64 → Int32 → Int32 → Int32 → Int32 → Int32 → Int32 → Int32 → Int32 → Int32 → Int32 → Int64 → (Nat → Int32) → (Nat → Int32) → (Nat → Int32) → (Nat → Int32) → (Nat → Int32) → (Nat → Int32) → (Nat → Int32) → (Nat → Int32) → (Nat → Int32) → (Nat → Int32) → (Nat → Int64) → (Nat → Int64) → (Nat → Int64) → (Nat → Int32) → (Nat → Int32) → (Nat → Int32) → (Nat → Int32) → (Nat → Int32) → (Nat → Int32) → (Nat → Int32) → (Nat → Int32) → (Nat → Int32) → Prop} {x2 x5 w0 w1 w2 w3 x10 : Int32} {x3 : Int64} {k kc ks c S : Nat} {x12 x13 : Int32} (hJ : sl_J k J) (hB : sl_B P N T c S x_reflectionLevels x_pulseLevels x_samples x_reflections) (hG : sl_G P N T x5 w0 w1 w2 w3 x_memory x_history x_output x_fields x_frameCounts x_reflections) (h12 : x12 = 0 ∨ (¬ x12 = 0 ∧ x5 = 1)) (h13 : x13 = 0 ∨ (¬ x13 = 0 ∧ x5 = 0)) :
    wL_law_251 post L xs J x2 x3 x5 w0 w1 w2 w3 x10 (nI k) x12 x13 kc ks (nI P) (nI N) (nI T) (nI c) (lN S) x_reflectionLevels x_pulseLevels x_memory x_history x_output x_fields x_frameCounts x_reflections x_samples x_rawReflections x_correlation x_predictor x_oldPredictor x_target x_impulseResponse x_pastExcitation x_filteredPast x_chosenPulses x_trialPulses x_pulseSigns x_excitation x_receivedFields := by
  rcases h12 with h12 | ⟨h12, h5⟩
  · exact br_t h12 (sl_276 hJ hB hG h13)
  · refine br_f h12 ?_
    have h13' : x13 = 0 := by
      rcases h13 with h | ⟨_, h⟩
      · exact h
      · rw [h5] at h
        exact absurd h (by decide)
    rcases hG with ⟨h5', _⟩ | ⟨_, hW⟩
    · rw [h5] at h5'
      exact absurd h5' (by decide)
    · obtain ⟨hP2, hP, hNT, hT2, hT, hc, hS, hs, hk, hg, hr⟩ := hB
      obtain ⟨S', b, H, hS', e0, e1, e2, e3, hfit, hf, hF, hrq, hm0, hh0, ho0, hm1, hh1⟩ := hW
      refine sx_dec (b := b) (H := H) (S := S') hP2 hP hNT hT2 hT (sp_S_of hS' e0 e1 e2 e3) hk hg hm1 hh1 (fun hn => absurd hfit hn) (fun _ F Rf M A pe ps ex rf g2 g3 g4 g5 g6 g7 g8 g9 => ?_)
      refine br_f (by decide) (sl_276 (x5 := 0) hJ ⟨hP2, hP, hNT, hT2, hT, hc, hS, hs, hk, hg, ?_⟩ (Or.inl ⟨rfl, ?_, ?_, ?_, ?_, ?_, ?_⟩) (Or.inl h13'))
      · intro sd hsd m hm
        have q : sd = 0 ∨ sd = 1 := by omega
        rcases q with rfl | rfl
        · rw [g5 _ (by omega)]
          exact hr 0 (by omega) m hm
        · rw [g4 m hm]
          exact sp_kq_s _ dr_Qb
      · intro j hj
        rw [g6 j hj, g7 _ (by omega), hm0 j hj]
      · intro j h1 h2
        rw [g8 j h1 h2, g9 _ (by omega), hh0 j h1 h2]
      · intro n hn
        rw [sp_fo_in hn, sp_fo_out (by omega), ho0 n hn]
      · intro i hi
        rw [g3 _ (by omega)]
        exact sp_FF2 hF g2 i hi
      · intro j hj
        rw [g4 j hj, g5 _ (by omega), hrq j hj]
      · rw [pk_us, pk_un (by omega), hf]
theorem sl_159 {P N T : Nat} {x_reflectionLevels x_pulseLevels x_memory x_history x_output x_fields x_frameCounts x_reflections x_rawReflections x_target x_impulseResponse x_pastExcitation x_filteredPast x_chosenPulses x_trialPulses x_pulseSigns x_excitation x_receivedFields : Nat → Int32} {x_correlation x_predictor x_oldPredictor : Nat → Int64} {post : Int32 → Prop} {L : Nat} {xs : Nat → Int32} {J : Int64 → Int32 → Int32 → Int32 → Int32 → Int32 → Int32 → Int32 → Int32 → Int32 → Int32 → Int64 → (Nat → Int32) → (Nat → Int32) → (Nat → Int32) → (Nat → Int32) → (Nat → Int32) → (Nat → Int32) → (Nat → Int32) → (Nat → Int32) → (Nat → Int32) → (Nat → Int32) → (Nat → Int64) → (Nat → Int64) → (Nat → Int64) → (Nat → Int32) → (Nat → Int32) → (Nat → Int32) → (Nat → Int32) → (Nat → Int32) → (Nat → Int32) → (Nat → Int32) → (Nat → Int32) → (Nat → Int32) → Prop} {x2 x5 w0 w1 w2 w3 x10 : Int32} {x3 : Int64} {k kc ks c S : Nat} {x16 : Int32} (hJ : sl_J k J) (hN : N ≤ 32) (h5 : x5 = 0) (hA : sl_A P N x_memory x_history x_output x_fields x_frameCounts x_reflections) :
    ∀ (d i : Nat) (x3 : Int64) (c : Nat) (s : Nat → Int32), i + d = 32 → sl_B P N T c S x_reflectionLevels x_pulseLevels s x_reflections →
      wL_law_159 post L xs J x2 x5 w0 w1 w2 w3 x10 (nI k) 0 x16 kc ks (d + 1) x3 (nI i) (nI P) (nI N) (nI T) (nI c) (lN S) x_reflectionLevels x_pulseLevels x_memory x_history x_output x_fields x_frameCounts x_reflections s x_rawReflections x_correlation x_predictor x_oldPredictor x_target x_impulseResponse x_pastExcitation x_filteredPast x_chosenPulses x_trialPulses x_pulseSigns x_excitation x_receivedFields := by
  have go : ∀ (x3 : Int64) (c : Nat) (s : Nat → Int32), sl_B P N T c S x_reflectionLevels x_pulseLevels s x_reflections → wL_law_210 post L xs J x2 x3 x5 w0 w1 w2 w3 x10 (nI k) 0 kc ks (nI P) (nI N) (nI T) (nI c) (lN S) x_reflectionLevels x_pulseLevels x_memory x_history x_output x_fields x_frameCounts x_reflections s x_rawReflections x_correlation x_predictor x_oldPredictor x_target x_impulseResponse x_pastExcitation x_filteredPast x_chosenPulses x_trialPulses x_pulseSigns x_excitation x_receivedFields := by
    intro x3 c s hB
    unfold wL_law_210 wL_law_244
    exact sl_251 hJ hB (Or.inl ⟨h5, hA⟩) (Or.inl rfl) (Or.inr ⟨by decide, h5⟩)
  intro d
  induction d with
  | zero =>
    intro i x3 c s hi hB
    obtain rfl : i = 32 := by omega
    exact br_t (nI_le (a := 32) (by omega) (by omega)) (go x3 c s hB)
  | succ d ih =>
    intro i x3 c s hi hB
    refine br_f (nI_ge (b := 32) (by omega) (by omega)) ?_
    unfold wpX_getPending
    dsimp only
    refine br_c (fun _ => go x3 c s hB) (fun _ => nm_e ?_)
    obtain ⟨hP2, hP, hNT, hT2, hT, hc, hS, hs, hk, hg, hr⟩ := hB
    exact sl_put hN hc hs (fun r c' s' hc' hs' => nm_r (nI_1 i) (ih (i + 1) _ c' s' (by omega) ⟨hP2, hP, hNT, hT2, hT, hc', hS, hs', hk, hg, hr⟩))
end
section
/-! the start, the loop, the law -/
theorem sp_cl3 (w : Int32) {lo hi : Nat} (h : lo ≤ hi) (hh : hi < 2 ^ 31) : ∃ L, lo ≤ L ∧ L ≤ hi ∧ ((¬ nI lo ≤ w ∧ L = lo) ∨ (nI lo ≤ w ∧ w ≤ nI hi ∧ w = nI L) ∨ (nI lo ≤ w ∧ ¬ w ≤ nI hi ∧ L = hi)) := by
  by_cases a : nI lo ≤ w
  · by_cases b : w ≤ nI hi
    · have p : ¬ w < 0 := fun z => by
        have q := Int32.lt_of_le_of_lt a z
        exact nI_pos (by omega) q
      obtain ⟨j, hj, rfl⟩ := nI_of p
      exact ⟨j, (nI_leI (by omega) hj).mp a, (nI_leI hj hh).mp b, Or.inr (Or.inl ⟨a, b, rfl⟩)⟩
    · exact ⟨hi, h, Nat.le_refl _, Or.inr (Or.inr ⟨a, b, rfl⟩)⟩
  · exact ⟨lo, Nat.le_refl _, h, Or.inl ⟨a, rfl⟩⟩
theorem sx_cl3 {post : Int32 → Prop} {w : Int32} {lo hi L : Nat} (h : (¬ nI lo ≤ w ∧ L = lo) ∨ (nI lo ≤ w ∧ w ≤ nI hi ∧ w = nI L) ∨ (nI lo ≤ w ∧ ¬ w ≤ nI hi ∧ L = hi)) (hp : post (nI L)) : wpX_clamp post () w.toInt64 (nI lo) (nI hi) := by
  unfold wpX_clamp
  rw [Int32.toInt64_le, Int32.toInt64_le, Int32.toInt32_toInt64]
  rcases h with ⟨a, e⟩ | ⟨a, b, e⟩ | ⟨a, b, e⟩
  · subst e
    exact br_f a hp
  · rw [e] at a b ⊢
    exact br_t a (br_t b hp)
  · subst e
    exact br_t a (br_f b hp)
theorem sp_neg : ∀ i, i < 8 → -sp_kq (15 - i) = sp_kq i := by decide +kernel
theorem sx_fl82 {x_pending : Int32} {x_encodedStream : Int64} {x_pulseLevels x_memory x_history x_output x_fields x_frameCounts x_reflections x_samples x_rawReflections x_target x_impulseResponse x_pastExcitation x_filteredPast x_chosenPulses x_trialPulses x_pulseSigns x_excitation x_receivedFields : Nat → Int32} {x_correlation x_predictor x_oldPredictor : Nat → Int64} {post : St2 → Prop} {f1 f2 f3 : Int32} (h : ∀ kl, (∀ j, j < 16 → kl j = sp_kq j) → post (f1, f2, f3, x_pending, x_encodedStream, kl, x_pulseLevels, x_memory, x_history, x_output, x_fields, x_frameCounts, x_reflections, x_samples, x_rawReflections, x_correlation, x_predictor, x_oldPredictor, x_target, x_impulseResponse, x_pastExcitation, x_filteredPast, x_chosenPulses, x_trialPulses, x_pulseSigns, x_excitation, x_receivedFields)) :
    ∀ d i kl, i + d = 8 → (∀ j, 8 ≤ j → j < 16 → kl j = sp_kq j) → (∀ j, j < i → kl j = sp_kq j) → wX_fillReflectionLevels_82 post f1 f2 f3 x_pending x_encodedStream (d + 1) (nI i) kl x_pulseLevels x_memory x_history x_output x_fields x_frameCounts x_reflections x_samples x_rawReflections x_correlation x_predictor x_oldPredictor x_target x_impulseResponse x_pastExcitation x_filteredPast x_chosenPulses x_trialPulses x_pulseSigns x_excitation x_receivedFields := by
  intro d
  induction d with
  | zero =>
    intro i kl hi h8 hk
    obtain rfl : i = 8 := by omega
    exact br_t (nI_le (a := 8) (by omega) (by omega)) (h kl (fun j hj => by
      by_cases c : 8 ≤ j
      · exact h8 j c hj
      · exact hk j (by omega)))
  | succ d ih =>
    intro i kl hi h8 hk
    have e : (15 : Int32) - nI i = nI (15 - i) := pk_sub (a := 15) (by omega)
    refine br_f (nI_ge (b := 8) (by omega) (by omega)) ⟨pk_in (15 - i) 16 (by omega) e, vp_in_nI (by omega) (by omega), nm_r (e' := upd kl i (sp_kq i)) ?_ (nm_r (nI_1 i) (ih (i + 1) _ (by omega) (fun j h1 h2 => ?_) (fun j hj => ?_)))⟩
    · rw [e, nI_clamp (n := 15 - i) (by omega), nI_clamp (by omega), h8 (15 - i) (by omega) (by omega), sp_neg i (by omega)]
    · rw [pk_un (by omega)]
      exact h8 j h1 h2
    · by_cases c : j = i
      · subst c
        rw [pk_us]
      · rw [pk_un c]
        exact hk j (by omega)
theorem sp_k8 : ∀ j, j < 16 → 8 ≤ j → upd (upd (upd (upd (upd (upd (upd (upd (fun _ => 0) 8 3277) 9 9011) 10 14746) 11 19661) 12 23757) 13 27034) 14 29491) 15 31130 j = sp_kq j := by decide +kernel
theorem sp_f16 : ∀ j, j < 16 → upd (upd (upd (upd (upd (upd (upd (upd (upd (upd (upd (upd (upd (upd (upd (upd (fun _ => 0) 0 0) 1 16) 2 23) 3 32) 4 45) 5 64) 6 91) 7 128) 8 181) 9 256) 10 362) 11 512) 12 724) 13 1024) 14 1448) 15 2048 j = sp_fg j := by decide +kernel
theorem sx_init {post : St2 → Prop} {k0 k1 : Int32}
    (h : ∀ (P N T : Nat) (kl gl : Nat → Int32), 2 ≤ P → P ≤ 6 → N = 4 * T → 2 ≤ T → T ≤ 8 → (∀ j, j < 16 → kl j = sp_kq j) → (∀ j, j < 16 → gl j = sp_fg j) → post (nI P, nI N, nI T, 0, 0, kl, gl, fun _ => 0, fun _ => 0, fun _ => 0, fun _ => 0, fun _ => 0, fun _ => 0, fun _ => 0, fun _ => 0, fun _ => 0, fun _ => 0, fun _ => 0, fun _ => 0, fun _ => 0, fun _ => 0, fun _ => 0, fun _ => 0, fun _ => 0, fun _ => 0, fun _ => 0, fun _ => 0)) :
    wpX_init post 22 622 (0, 0, 0, 0, 0) k0 k1 := by
  obtain ⟨P, hP2, hP, cP⟩ := sp_cl3 k0 (lo := 2) (hi := 6) (by omega) (by omega)
  obtain ⟨L, hL8, hL, cL⟩ := sp_cl3 k1 (lo := 8) (hi := 32) (by omega) (by omega)
  have er : nI L - nI L / 4 * 4 = nI (L % 4) := pk_rem (d := 4) (by omega) (by omega) (by omega)
  have eN : nI L - (nI L - nI L / 4 * 4) = nI (4 * (L / 4)) := by
    rw [er, pk_sub (by omega), show L - L % 4 = 4 * (L / 4) from by omega]
  have eT : nI L / 4 = nI (L / 4) := pk_div (d := 4) (by omega) (by omega) (by omega)
  unfold wpX_init
  dsimp only
  refine ⟨by decide, by decide, by decide, by decide, by decide, by decide, by decide, by decide, by decide, by decide, by decide, by decide, by decide, by decide, by decide, by decide, by decide, by decide, by decide, by decide, by decide, by decide, by decide, by decide, by decide, by decide, by decide, by decide, by decide, by decide, by decide, by decide, by decide, by decide, by decide, by decide, by decide, by decide, by decide, by decide, by decide, by decide, by decide, by decide, ?_⟩
  refine sx_cl3 (lo := 8) (hi := 32) cL (sx_cl3 (lo := 2) (hi := 6) cP ⟨by decide, nm_r eN ⟨by decide, nm_r eT ?_⟩⟩)
  unfold wpX_fillReflectionLevels
  dsimp only
  refine nm_e (nm_e (nm_e (nm_e (nm_e (nm_e (nm_e (nm_e (Exists.intro (8 + 1) (sx_fl82 (fun kl hkl => ?_) 8 0 _ (by omega) (fun j h8 h16 => sp_k8 j h16 h8) (fun j hj => absurd hj (by omega)))))))))))
  unfold wpX_fillPulseLevels
  dsimp only
  refine nm_e (nm_e (nm_e (nm_e (nm_e (nm_e (nm_e (nm_e (nm_e (nm_e (nm_e (nm_e (nm_e (nm_e (nm_e (nm_e ?_)))))))))))))))
  exact h P (4 * (L / 4)) (L / 4) kl _ hP2 hP rfl (by omega) (by omega) hkl sp_f16
theorem sl_cell {post : Int32 → Prop} {L i : Nat} {xs : Nat → Int32} (hL : L ≤ 260) (hi : i < 260) (h : ∀ v, post v) : wpL_cell post L xs () (nI i) := by
  by_cases c : i < L
  · exact br_f (nI_ge (b := L) c (by omega)) ⟨vp_in_nI c (by omega), h _⟩
  · exact br_t (nI_le (a := L) (by omega) (by omega)) (h _)
theorem sl_x5 {P N T : Nat} {x5 w0 w1 w2 w3 : Int32} {m h o f fc r : Nat → Int32} (hG : sl_G P N T x5 w0 w1 w2 w3 m h o f fc r) : x5 = 0 ∨ (¬ x5 = 0 ∧ x5 = 1) := by
  rcases hG with ⟨e, _⟩ | ⟨e, _⟩
  · exact Or.inl e
  · exact Or.inr ⟨by rw [e]; decide, e⟩
theorem sl_244 {P N T : Nat} {x_reflectionLevels x_pulseLevels x_memory x_history x_output x_fields x_frameCounts x_reflections x_samples x_rawReflections x_target x_impulseResponse x_pastExcitation x_filteredPast x_chosenPulses x_trialPulses x_pulseSigns x_excitation x_receivedFields : Nat → Int32} {x_correlation x_predictor x_oldPredictor : Nat → Int64} {post : Int32 → Prop} {L : Nat} {xs : Nat → Int32} {J : Int64 → Int32 → Int32 → Int32 → Int32 → Int32 → Int32 → Int32 → Int32 → Int32 → Int32 → Int64 → (Nat → Int32) → (Nat → Int32) → (Nat → Int32) → (Nat → Int32) → (Nat → Int32) → (Nat → Int32) → (Nat → Int32) → (Nat → Int32) → (Nat → Int32) → (Nat → Int32) → (Nat → Int64) → (Nat → Int64) → (Nat → Int64) → (Nat → Int32) → (Nat → Int32) → (Nat → Int32) → (Nat → Int32) → (Nat → Int32) → (Nat → Int32) → (Nat → Int32) → (Nat → Int32) → (Nat → Int32) → Prop} {x2 x5 w0 w1 w2 w3 x10 : Int32} {x3 : Int64} {k kc ks c S : Nat} {x12 x13 : Int32} (hJ : sl_J k J) (hB : sl_B P N T c S x_reflectionLevels x_pulseLevels x_samples x_reflections) (hG : sl_G P N T x5 w0 w1 w2 w3 x_memory x_history x_output x_fields x_frameCounts x_reflections) (h12 : x12 = 0 ∨ (¬ x12 = 0 ∧ x5 = 1)) (h13 : x13 = 0 ∨ (¬ x13 = 0 ∧ x5 = 0)) :
    wL_law_244 post L xs J x2 x3 x5 w0 w1 w2 w3 x10 (nI k) x12 x13 kc ks (nI P) (nI N) (nI T) (nI c) (lN S) x_reflectionLevels x_pulseLevels x_memory x_history x_output x_fields x_frameCounts x_reflections x_samples x_rawReflections x_correlation x_predictor x_oldPredictor x_target x_impulseResponse x_pastExcitation x_filteredPast x_chosenPulses x_trialPulses x_pulseSigns x_excitation x_receivedFields := by
  unfold wL_law_244
  exact sl_251 hJ hB hG h12 h13
theorem sl_70 {post : Int32 → Prop} {L : Nat} {xs : Nat → Int32} {x2 : Int32} {K kc ks : Nat} (hp : post 1) (hL : L ≤ 260) (hK : K ≤ 260) : ∀ d k, k + 1 + d = K + 1 → 1 ≤ k → sl_J k (wL_law_70 post L xs x2 (nI K) kc ks (d + 1)) := by
  intro d
  induction d with
  | zero =>
    intro k hk h1
    intro x3 x5 w0 w1 w2 w3 f1 f2 f3 x_pending x_encodedStream x_reflectionLevels x_pulseLevels x_memory x_history x_output x_fields x_frameCounts x_reflections x_samples x_rawReflections x_target x_impulseResponse x_pastExcitation x_filteredPast x_chosenPulses x_trialPulses x_pulseSigns x_excitation x_receivedFields x_correlation x_predictor x_oldPredictor hI
    exact br_t (nI_lt (by omega) (by omega)) hp
  | succ d ih =>
    intro k hk h1
    intro x3 x5 w0 w1 w2 w3 f1 f2 f3 x_pending x_encodedStream x_reflectionLevels' x_pulseLevels' x_memory' x_history' x_output' x_fields' x_frameCounts' x_reflections' x_samples' x_rawReflections' x_target' x_impulseResponse' x_pastExcitation' x_filteredPast' x_chosenPulses' x_trialPulses' x_pulseSigns' x_excitation' x_receivedFields' x_correlation' x_predictor' x_oldPredictor' hI
    obtain ⟨P, N, T, c, S, x_reflectionLevels, x_pulseLevels, x_memory, x_history, x_output, x_fields, x_frameCounts, x_reflections, x_samples, x_rawReflections, x_target, x_impulseResponse, x_pastExcitation, x_filteredPast, x_chosenPulses, x_trialPulses, x_pulseSigns, x_excitation, x_receivedFields, x_correlation, x_predictor, x_oldPredictor, hu, hB, hG⟩ := hI
    cases hu
    have hJ := ih (k + 1) (by omega) (by omega)
    have h5 := sl_x5 hG
    refine br_f (nI_nlt (by omega) (by omega)) ?_
    by_cases k2 : k + 1 = 2
    · exact br_t (by rw [k2]; rfl) (sl_251 hJ hB hG (Or.inl rfl) (Or.inl rfl))
    · refine br_f (fun z => k2 ((nI_eq (b := 2) (by omega) (by omega)).mp z)) ?_
      by_cases kL : k + 1 < L
      · refine br_f (nI_ge (b := L) kL (by omega)) ⟨vp_in_nI kL (by omega), nm_e (nm_e (br_c (fun _ => br_c (fun _ => br_c (fun e0 => nm_e ?_) (fun e0 => ?_)) (fun _ => br_c (fun _ => br_c (fun e0 => ?_) (fun e0 => ?_)) (fun _ => ?_))) (fun _ => ?_)))⟩
        · rcases hG with ⟨_, hA⟩ | ⟨e1, _⟩
          · have hN : N ≤ 32 := by
              obtain ⟨hP2, hP, hNT, hT2, hT, _⟩ := hB
              omega
            exact ⟨_, sl_159 (x3 := x3) (c := c) hJ hN e0 hA 32 0 x3 c _ (by omega) hB⟩
          · rw [e0] at e1
            exact absurd e1 (by decide)
        · rcases h5 with e | ⟨_, e⟩
          · exact absurd e e0
          · exact sl_244 hJ hB hG (Or.inr ⟨by decide, e⟩) (Or.inl rfl)
        · exact sl_244 hJ hB hG (Or.inl rfl) (Or.inr ⟨by decide, e0⟩)
        · rcases h5 with e | ⟨_, e⟩
          · exact absurd e e0
          · exact sl_244 hJ hB hG (Or.inr ⟨by decide, e⟩) (Or.inl rfl)
        · exact sl_244 hJ hB hG h5 (Or.inl rfl)
        · obtain ⟨hP2, hP, hNT, hT2, hT, hc, hS, hs, hk', hg, hr⟩ := hB
          exact sl_put (by omega) hc hs (fun r c' s' hc' hs' => sl_244 hJ ⟨hP2, hP, hNT, hT2, hT, hc', hS, hs', hk', hg, hr⟩ hG (Or.inl rfl) (Or.inl rfl))
      · exact br_t (nI_le (a := L) (by omega) (by omega)) (sl_251 hJ hB hG h5 (Or.inl rfl))
theorem i_vc (xs : Nat → Int32) (L : Nat) (hL : L ≤ 260) : wpL_law (fun r => r = 1) L xs := by
  unfold wpL_law
  refine sl_cell (i := 0) hL (by omega) (fun v0 => ⟨by decide, sl_cell (i := 1) hL (by omega) (fun v1 => ⟨by decide, 22, 622, by decide, by decide, sx_init (fun P N T kl gl hP2 hP hNT hT2 hT hk hg => ?_)⟩)⟩)
  have hI : sl_I 0 0 0 0 0 (nI P, nI N, nI T, 0, 0, kl, gl, fun _ => 0, fun _ => 0, fun _ => 0, fun _ => 0, fun _ => 0, fun _ => 0, fun _ => 0, fun _ => 0, fun _ => 0, fun _ => 0, fun _ => 0, fun _ => 0, fun _ => 0, fun _ => 0, fun _ => 0, fun _ => 0, fun _ => 0, fun _ => 0, fun _ => 0, fun _ => 0) :=
    ⟨P, N, T, 0, 0, _, _, _, _, _, _, _, _, _, _, _, _, _, _, _, _, _, _, _, _, _, _, rfl, ⟨hP2, hP, hNT, hT2, hT, by omega, by omega, fun _ => (by decide : -32768 ≤ (0 : Int32).toInt ∧ (0 : Int32).toInt ≤ 32767), hk, hg, fun _ _ _ _ => (by decide : -32768 < (0 : Int32).toInt ∧ (0 : Int32).toInt < 32768)⟩, Or.inl ⟨rfl, fun _ _ => rfl, fun _ _ _ => rfl, fun _ _ => rfl, fun _ _ => rfl, fun _ _ => rfl, rfl⟩⟩
  unfold wpX_getFrameLength
  dsimp only
  refine sl_cell (i := 2) hL (by omega) (fun v2 => ?_)
  by_cases c3 : 3 ≤ L
  · exact br_t (nI_le (a := 3) (b := L) c3 (by omega)) (nm_e ⟨L - 1 + 1, sl_70 (post := fun r => r = 1) (K := L) rfl hL hL (L - 1) 1 (by omega) (by omega) _ _ _ _ _ _ _ _ _ _ _ _ _ _ _ _ _ _ _ _ _ _ _ _ _ _ _ _ _ _ _ _ _ hI⟩)
  · exact br_f (nI_ge (a := L) (b := 3) (by omega) (by omega)) ⟨2 + 1, sl_70 (post := fun r => r = 1) (K := 3) rfl hL (by omega) 2 1 (by omega) (by omega) _ _ _ _ _ _ _ _ _ _ _ _ _ _ _ _ _ _ _ _ _ _ _ _ _ _ _ _ _ _ _ _ _ hI⟩
end
