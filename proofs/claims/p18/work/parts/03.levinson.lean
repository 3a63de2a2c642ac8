/-! correlation and the recursion for the raw reflection coefficients -/
def sp_R (s : Nat → Int32) (N i : Nat) : Int64 := sp_sm (fun t => (s (i + t)).toInt64 * (s t).toInt64) (N - i)
def sp_den (R0 : Int64) : Int64 := R0 + (R0 >>> ((7 : Int32).toInt64 &&& 63)) + 1
def sp_r (s : Nat → Int32) (N i : Nat) : Int64 := sp_R s N i * 32767 / sp_den (sp_R s N 0)
def sp_ac (r a : Nat → Int64) (m : Nat) : Nat → Int64
  | 0 => r m * 32768
  | j + 1 => sp_ac r a m j + a (j + 1) * r (m - (j + 1))
theorem sp_ac_c {r r' a a' : Nat → Int64} {m P : Nat} (hm : m ≤ P) (h1 : 1 ≤ m) (hr : ∀ j, j ≤ P → r j = r' j) (ha : ∀ j, 1 ≤ j → j ≤ P → a j = a' j) : ∀ j, j < m → sp_ac r a m j = sp_ac r' a' m j := by
  intro j
  induction j with
  | zero => intro _; show r m * 32768 = r' m * 32768; rw [hr m hm]
  | succ j ih =>
    intro hj
    show sp_ac r a m j + a (j + 1) * r (m - (j + 1)) = sp_ac r' a' m j + a' (j + 1) * r' (m - (j + 1))
    rw [ih (by omega), ha (j + 1) (by omega) (by omega), hr (m - (j + 1)) (by omega)]
def sp_cl (w : Int64) : Int64 := if w < -32767 then -32767 else if 32767 < w then 32767 else w
def sp_km (r a : Nat → Int64) (E : Int64) (m : Nat) : Int64 := sp_cl (-(sp_ac r a m (m - 1) / E))
def sp_st (k x y : Int64) : Int64 := x + ((k * y + 16384) >>> ((15 : Int32).toInt64 &&& 63))
def sp_an (a : Nat → Int64) (m : Nat) (k : Int64) : Nat → Int64 := fun j => if j = m then k else if 1 ≤ j ∧ j < m then sp_st k (a j) (a (m - j)) else a j
def sp_en (E k : Int64) : Int64 := (E * (1073741824 - k * k)) >>> ((30 : Int32).toInt64 &&& 63)
def sp_ls (r : Nat → Int64) (q : (Nat → Int64) × Int64 × (Nat → Int32)) (m : Nat) : (Nat → Int64) × Int64 × (Nat → Int32) :=
  if 0 < q.2.1 then (sp_an q.1 m (sp_km r q.1 q.2.1 m), sp_en q.2.1 (sp_km r q.1 q.2.1 m), upd q.2.2 m (sp_km r q.1 q.2.1 m).toInt32) else q
def sp_lv (r : Nat → Int64) : Nat → (Nat → Int64) × Int64 × (Nat → Int32)
  | 0 => (fun _ => 0, r 0, fun _ => 0)
  | m + 1 => sp_ls r (sp_lv r m) (m + 1)
def sp_K (s : Nat → Int32) (N P m : Nat) : Int32 := if sp_R s N 0 = 0 then 0 else (sp_lv (sp_r s N) P).2.2 m
theorem sp_cl_r (w : Int64) : -32767 ≤ (sp_cl w).toInt ∧ (sp_cl w).toInt ≤ 32767 := by
  unfold sp_cl
  split
  · decide
  · split
    · decide
    · rename_i a b
      rw [Int64.lt_iff_toInt_lt] at a b
      have e1 : (-32767 : Int64).toInt = -32767 := by decide
      have e2 : (32767 : Int64).toInt = 32767 := by decide
      rw [e1] at a
      rw [e2] at b
      omega
theorem sp_cl_32 (w : Int64) : (sp_cl w).toInt32.toInt = (sp_cl w).toInt := by
  have h := sp_cl_r w
  rw [Int64.toInt_toInt32]
  exact Int.bmod_eq_of_le (by omega) (by omega)
theorem sp_cl_64 (w : Int64) : (sp_cl w).toInt32.toInt64 = sp_cl w := by
  apply Int64.toInt_inj.mp
  rw [Int32.toInt_toInt64, sp_cl_32]
theorem sp_lv_r (r : Nat → Int64) : ∀ m j, -32767 ≤ ((sp_lv r m).2.2 j).toInt ∧ ((sp_lv r m).2.2 j).toInt ≤ 32767 := by
  intro m
  induction m with
  | zero => intro j; show -32767 ≤ (0 : Int32).toInt ∧ (0 : Int32).toInt ≤ 32767; decide
  | succ m ih =>
    intro j
    show -32767 ≤ ((sp_ls r (sp_lv r m) (m + 1)).2.2 j).toInt ∧ ((sp_ls r (sp_lv r m) (m + 1)).2.2 j).toInt ≤ 32767
    unfold sp_ls
    split
    · show -32767 ≤ (upd (sp_lv r m).2.2 (m + 1) (sp_km r (sp_lv r m).1 (sp_lv r m).2.1 (m + 1)).toInt32 j).toInt ∧ (upd (sp_lv r m).2.2 (m + 1) (sp_km r (sp_lv r m).1 (sp_lv r m).2.1 (m + 1)).toInt32 j).toInt ≤ 32767
      by_cases e : j = m + 1
      · subst e
        rw [pk_us]
        unfold sp_km
        rw [sp_cl_32]
        exact sp_cl_r _
      · rw [pk_un e]
        exact ih j
    · exact ih j
theorem sp_K_r (s : Nat → Int32) (N P m : Nat) : -32767 ≤ (sp_K s N P m).toInt ∧ (sp_K s N P m).toInt ≤ 32767 := by
  unfold sp_K
  split
  · decide
  · exact sp_lv_r _ P m
/-- the first correlation is no negative number, and the divisor a positive one -/
theorem sp_sq_r {x : Int32} (h1 : -32768 ≤ x.toInt) (h2 : x.toInt ≤ 32767) : 0 ≤ (x.toInt64 * x.toInt64).toInt ∧ (x.toInt64 * x.toInt64).toInt ≤ 1073741824 := by
  have p : 0 ≤ x.toInt * x.toInt := by
    by_cases h : 0 ≤ x.toInt
    · exact Int.mul_nonneg h h
    · have := Int.mul_nonneg (a := -x.toInt) (b := -x.toInt) (by omega) (by omega)
      rw [Int.neg_mul_neg] at this
      exact this
  have q : x.toInt * x.toInt ≤ 1073741824 := by
    by_cases h : 0 ≤ x.toInt
    · have := Int.mul_le_mul (a := x.toInt) (b := x.toInt) (c := 32768) (d := 32768) (by omega) (by omega) h (by omega)
      omega
    · have := Int.mul_le_mul (a := -x.toInt) (b := -x.toInt) (c := 32768) (d := 32768) (by omega) (by omega) (by omega) (by omega)
      rw [Int.neg_mul_neg] at this
      omega
  rw [Int64.toInt_mul, Int32.toInt_toInt64, Int.bmod_eq_of_le (by omega) (by omega)]
  exact ⟨p, q⟩
theorem sp_sm_r {f : Nat → Int64} : ∀ n, n ≤ 32 → (∀ j, j < n → 0 ≤ (f j).toInt ∧ (f j).toInt ≤ 1073741824) → 0 ≤ (sp_sm f n).toInt ∧ (sp_sm f n).toInt ≤ n * 1073741824 := by
  intro n
  induction n with
  | zero => intro _ _; show 0 ≤ (0 : Int64).toInt ∧ (0 : Int64).toInt ≤ ((0 : Nat) : Int) * 1073741824; decide
  | succ n ih =>
    intro hn h
    have i := ih (by omega) (fun j hj => h j (by omega))
    have j := h n (by omega)
    show 0 ≤ (sp_sm f n + f n).toInt ∧ (sp_sm f n + f n).toInt ≤ ((n + 1 : Nat) : Int) * 1073741824
    rw [Int64.toInt_add, Int.bmod_eq_of_le (by omega) (by omega)]
    omega
def sp_bd (s : Nat → Int32) : Prop := ∀ j, -32768 ≤ (s j).toInt ∧ (s j).toInt ≤ 32767
theorem sp_R0_r {s : Nat → Int32} {N : Nat} (hs : sp_bd s) (hN : N ≤ 32) : 0 ≤ (sp_R s N 0).toInt ∧ (sp_R s N 0).toInt ≤ 34359738368 := by
  have h := sp_sm_r (f := fun t => (s (0 + t)).toInt64 * (s t).toInt64) (N - 0) (by omega) (fun j _ => by
    show 0 ≤ ((s (0 + j)).toInt64 * (s j).toInt64).toInt ∧ ((s (0 + j)).toInt64 * (s j).toInt64).toInt ≤ 1073741824
    rw [Nat.zero_add]
    exact sp_sq_r (hs j).1 (hs j).2)
  unfold sp_R
  omega
theorem sp_den_p {R0 : Int64} (h : 0 ≤ R0.toInt) (h2 : R0.toInt ≤ 34359738368) : 0 < (sp_den R0).toInt := by
  have e : (R0 >>> ((7 : Int32).toInt64 &&& 63)).toInt = R0.toInt >>> 7 := by
    show (R0.toBitVec.sshiftRight (((7 : Int32).toInt64 &&& 63).toBitVec.smod 64).toNat).toInt = _
    rw [show (((7 : Int32).toInt64 &&& 63).toBitVec.smod 64).toNat = 7 from by decide, BitVec.toInt_sshiftRight]
    rfl
  have e1 : (1 : Int64).toInt = 1 := by decide
  rw [Int.shiftRight_eq_div_pow] at e
  have e2 : ((2 ^ 7 : Nat) : Int) = 128 := by decide
  rw [e2] at e
  unfold sp_den
  rw [Int64.toInt_add, Int64.toInt_add, e, e1, Int.bmod_eq_of_le (n := R0.toInt + R0.toInt / 128) (by omega) (by omega), Int.bmod_eq_of_le (by omega) (by omega)]
  omega
theorem sp_den_0 {R0 : Int64} (h : 0 ≤ R0.toInt) (h2 : R0.toInt ≤ 34359738368) : ¬ sp_den R0 = 0 ∧ (0 : Int64) < sp_den R0 := by
  have p := sp_den_p h h2
  have e0 : (0 : Int64).toInt = 0 := by decide
  constructor
  · intro e
    rw [e, e0] at p
    omega
  · rw [Int64.lt_iff_toInt_lt, e0]
    exact p
theorem sp_R0_0 {R0 : Int64} (h : 0 ≤ R0.toInt) : (0 : Int64) < R0 ↔ ¬ R0 = 0 := by
  have e0 : (0 : Int64).toInt = 0 := by decide
  rw [Int64.lt_iff_toInt_lt, e0]
  constructor
  · intro p e
    rw [e, e0] at p
    omega
  · intro p
    have : R0.toInt ≠ 0 := fun z => p (Int64.toInt_inj.mp (z.trans e0.symm))
    omega
/-- the two forms of the distance -/
theorem sp_ds_y {k l : Int32} (h1 : -32768 ≤ k.toInt) (h2 : k.toInt ≤ 32767) (h3 : -32768 ≤ l.toInt) (h4 : l.toInt ≤ 32767) :
    (k - l < 0 → sp_ds k l = -(k - l)) ∧ (¬ k - l < 0 → sp_ds k l = k - l) ∧ ¬ sp_ds k l < 0 := by
  have e0 : (0 : Int32).toInt = 0 := by decide
  have d : (k - l).toInt = k.toInt - l.toInt := by
    rw [Int32.toInt_sub]
    exact Int.bmod_eq_of_le (by omega) (by omega)
  have d' : (l - k).toInt = l.toInt - k.toInt := by
    rw [Int32.toInt_sub]
    exact Int.bmod_eq_of_le (by omega) (by omega)
  have n : (-(k - l)).toInt = l.toInt - k.toInt := by
    rw [Int32.toInt_neg, d]
    rw [Int.bmod_eq_of_le (by omega) (by omega)]
    omega
  have c : k - l < 0 ↔ k < l := by
    rw [Int32.lt_iff_toInt_lt, Int32.lt_iff_toInt_lt, d, e0]
    omega
  unfold sp_ds
  refine ⟨fun h => ?_, fun h => ?_, fun h => ?_⟩
  · rw [if_pos (c.mp h)]
    apply Int32.toInt_inj.mp
    rw [d', n]
  · rw [if_neg (fun z => h (c.mpr z))]
  · rw [Int32.lt_iff_toInt_lt, e0] at h
    split at h
    · rename_i z
      rw [Int32.lt_iff_toInt_lt] at z
      omega
    · rename_i z
      rw [Int32.lt_iff_toInt_lt] at z
      omega
