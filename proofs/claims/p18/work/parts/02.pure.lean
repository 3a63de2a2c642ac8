/-! the pure picture: saturation, fills, sums, the lattice, the searches -/
def sp_sat (w : Int32) : Int32 := if w < -32768 then -32768 else if 32767 < w then 32767 else w
def sp_satL (w : Int64) : Int32 := if w < -32768 then -32768 else if 32767 < w then 32767 else w.toInt32
theorem sp_satI (w : Int32) : sp_satL w.toInt64 = sp_sat w := by
  have h1 : w.toInt64 < (-32768 : Int64) ↔ w < -32768 := by
    rw [show (-32768 : Int64) = (-32768 : Int32).toInt64 from by decide]; exact Int32.toInt64_lt
  have h2 : (32767 : Int64) < w.toInt64 ↔ (32767 : Int32) < w := by
    rw [show (32767 : Int64) = (32767 : Int32).toInt64 from by decide]; exact Int32.toInt64_lt
  unfold sp_satL sp_sat
  rw [Int32.toInt32_toInt64]
  simp only [h1, h2]
theorem sp_sat_r (w : Int32) : -32768 ≤ (sp_sat w).toInt ∧ (sp_sat w).toInt ≤ 32767 := by
  unfold sp_sat
  split
  · decide
  · split
    · decide
    · rename_i a b
      rw [Int32.lt_iff_toInt_lt] at a b
      have e1 : (-32768 : Int32).toInt = -32768 := by decide
      have e2 : (32767 : Int32).toInt = 32767 := by decide
      rw [e1] at a
      rw [e2] at b
      omega
def sp_fl {α : Type} (g : Nat → α) (i : Nat) (A : Nat → α) : Nat → α := fun j => if j < i then g j else A j
theorem sp_fl0 {α : Type} (g A : Nat → α) : sp_fl g 0 A = A := funext fun j => if_neg (Nat.not_lt_zero j)
theorem sp_fl_lo {α : Type} {g A : Nat → α} {i j : Nat} (h : j < i) : sp_fl g i A j = g j := if_pos h
theorem sp_fl_hi {α : Type} {g A : Nat → α} {i j : Nat} (h : i ≤ j) : sp_fl g i A j = A j := if_neg (Nat.not_lt.mpr h)
theorem sp_flS {g A : Nat → Int32} {i : Nat} : upd (sp_fl g i A) i (g i) = sp_fl g (i + 1) A := by
  funext j
  show (if j = i then g i else if j < i then g j else A j) = (if j < i + 1 then g j else A j)
  by_cases h : j = i
  · rw [if_pos h, if_pos (by omega), h]
  · rw [if_neg h]
    by_cases h2 : j < i
    · rw [if_pos h2, if_pos (by omega)]
    · rw [if_neg h2, if_neg (by omega)]
theorem sp_flSL {g A : Nat → Int64} {i : Nat} : vp_updL (sp_fl g i A) i (g i) = sp_fl g (i + 1) A := by
  funext j
  show (if j = i then g i else if j < i then g j else A j) = (if j < i + 1 then g j else A j)
  by_cases h : j = i
  · rw [if_pos h, if_pos (by omega), h]
  · rw [if_neg h]
    by_cases h2 : j < i
    · rw [if_pos h2, if_pos (by omega)]
    · rw [if_neg h2, if_neg (by omega)]
/-- a fill behind an offset -/
def sp_fo {α : Type} (g : Nat → α) (B i : Nat) (A : Nat → α) : Nat → α := fun j => if B ≤ j ∧ j < B + i then g (j - B) else A j
theorem sp_fo0 {α : Type} (g A : Nat → α) (B : Nat) : sp_fo g B 0 A = A := funext fun j => if_neg (by omega)
theorem sp_fo_in {α : Type} {g A : Nat → α} {B i j : Nat} (h : j < i) : sp_fo g B i A (B + j) = g j := by
  show (if B ≤ B + j ∧ B + j < B + i then g (B + j - B) else A (B + j)) = g j
  rw [if_pos (by omega), Nat.add_sub_cancel_left]
theorem sp_fo_out {α : Type} {g A : Nat → α} {B i j : Nat} (h : j < B ∨ B + i ≤ j) : sp_fo g B i A j = A j := if_neg (by omega)
theorem sp_foS {g A : Nat → Int32} {B i : Nat} : upd (sp_fo g B i A) (B + i) (g i) = sp_fo g B (i + 1) A := by
  funext j
  show (if j = B + i then g i else if B ≤ j ∧ j < B + i then g (j - B) else A j) = (if B ≤ j ∧ j < B + (i + 1) then g (j - B) else A j)
  by_cases h : j = B + i
  · rw [if_pos h, if_pos (by omega), h, Nat.add_sub_cancel_left]
  · rw [if_neg h]
    by_cases h2 : B ≤ j ∧ j < B + i
    · rw [if_pos h2, if_pos (by omega)]
    · rw [if_neg h2, if_neg (by omega)]
/-- sums in 64 bits -/
def sp_sm (f : Nat → Int64) : Nat → Int64
  | 0 => 0
  | n + 1 => sp_sm f n + f n
theorem sp_sm_c {f g : Nat → Int64} {n : Nat} (h : ∀ j, j < n → f j = g j) : sp_sm f n = sp_sm g n := by
  induction n with
  | zero => rfl
  | succ n ih =>
    show sp_sm f n + f n = sp_sm g n + g n
    rw [ih (fun j hj => h j (by omega)), h n (by omega)]
/-- the lattice on a row of its own -/
def sp_row (B P : Nat) (M b : Nat → Int32) : Prop := ∀ j, j < P → M (B + j) = b j
theorem sp_row_u {B P k : Nat} {M b : Nat → Int32} {x : Int32} (h : sp_row B P M b) : sp_row B P (upd M (B + k) x) (upd b k x) := by
  intro j hj
  by_cases e : j = k
  · subst e
    rw [pk_us, pk_us]
  · rw [pk_un (by omega), pk_un e]
    exact h j hj
theorem sp_row_o {B P k : Nat} {M b : Nat → Int32} {x : Int32} (h : sp_row B P M b) (hk : k < B ∨ B + P ≤ k) : sp_row B P (upd M k x) b := by
  intro j hj
  rw [pk_un (by omega)]
  exact h j hj
def sp_r15 (x : Int32) : Int32 := (x + 16384) >>> ((15 : Int32) &&& 31)
def sp_lf (c b : Nat → Int32) (j : Nat) (f : Int32) : Int32 := sp_sat (f - sp_r15 (c (j + 1) * b j))
def sp_lb (c b : Nat → Int32) (j : Nat) (f : Int32) : Int32 := sp_sat (b j + sp_r15 (c (j + 1) * f))
def sp_go (c : Nat → Int32) (P : Nat) : Nat → Int32 → (Nat → Int32) → Int32 × (Nat → Int32)
  | 0, f, b => (f, upd b 0 f)
  | j + 1, f, b => sp_go c P j (sp_lf c b j f) (if j + 1 < P then upd b (j + 1) (sp_lb c b j (sp_lf c b j f)) else b)
def sp_lm (c : Nat → Int32) (P : Nat) (b e : Nat → Int32) : Nat → (Nat → Int32)
  | 0 => b
  | n + 1 => (sp_go c P P (e n) (sp_lm c P b e n)).2
def sp_lo (c : Nat → Int32) (P : Nat) (b e : Nat → Int32) (n : Nat) : Int32 := (sp_go c P P (e n) (sp_lm c P b e n)).1
/-- the past excitation, its filtering, the errors -/
def sp_pv (H : Nat → Int32) (L n : Nat) : Int32 := H (L - n % L)
theorem sp_pv_lo {H : Nat → Int32} {L n : Nat} (h : n < L) : sp_pv H L n = H (L - n) := by
  show H (L - n % L) = _
  rw [Nat.mod_eq_of_lt h]
theorem sp_pv_hi {H : Nat → Int32} {L n : Nat} (h : L ≤ n) : sp_pv H L n = sp_pv H L (n - L) := by
  show H (L - n % L) = H (L - (n - L) % L)
  rw [Nat.mod_eq_sub_mod h]
def sp_cy (v h : Nat → Int32) (n : Nat) : Int32 := sp_satL ((sp_sm (fun j => (v j).toInt64 * (h (n - j)).toInt64) (n + 1) + 2048) >>> ((12 : Int32).toInt64 &&& 63))
theorem sp_cy_c {v v' h h' : Nat → Int32} {n : Nat} (hv : ∀ j, j ≤ n → v j = v' j) (hh : ∀ j, j ≤ n → h j = h' j) : sp_cy v h n = sp_cy v' h' n := by
  unfold sp_cy
  rw [sp_sm_c (f := fun j => (v j).toInt64 * (h (n - j)).toInt64) (g := fun j => (v' j).toInt64 * (h' (n - j)).toInt64) (fun j hj => by
    show (v j).toInt64 * (h (n - j)).toInt64 = (v' j).toInt64 * (h' (n - j)).toInt64
    rw [hv j (by omega), hh (n - j) (by omega)])]
def sp_sq (d : Int32) : Int64 := d.toInt64 * d.toInt64
def sp_ea (x y : Nat → Int32) (N : Nat) (g : Int32) : Int64 := sp_sm (fun n => sp_sq (256 * x n - 37 * g * y n)) N
theorem sp_ea_c {x x' y y' : Nat → Int32} {N : Nat} (g : Int32) (hx : ∀ j, j < N → x j = x' j) (hy : ∀ j, j < N → y j = y' j) : sp_ea x y N g = sp_ea x' y' N g :=
  sp_sm_c fun j hj => by
    show sp_sq (256 * x j - 37 * g * y j) = sp_sq (256 * x' j - 37 * g * y' j)
    rw [hx j hj, hy j hj]
def sp_ef (x z : Nat → Int32) (N : Nat) (l : Int32) : Int64 := sp_sm (fun n => sp_sq (4096 * x n - l * z n)) N
theorem sp_ef_c {x x' z z' : Nat → Int32} {N : Nat} (l : Int32) (hx : ∀ j, j < N → x j = x' j) (hz : ∀ j, j < N → z j = z' j) : sp_ef x z N l = sp_ef x' z' N l :=
  sp_sm_c fun j hj => by
    show sp_sq (4096 * x j - l * z j) = sp_sq (4096 * x' j - l * z' j)
    rw [hx j hj, hz j hj]
/-- the first candidate of the least error: c outer, g inner -/
def sp_mx : Int64 := 9223372036854775807
def sp_in (E : Nat → Nat → Int64) (c : Nat) : Nat → Int64 × Nat × Nat → Int64 × Nat × Nat
  | 0, s => s
  | g + 1, s => if E c g < (sp_in E c g s).1 then (E c g, c, g) else sp_in E c g s
def sp_out (E : Nat → Nat → Int64) (G : Nat) : Nat → Int64 × Nat × Nat
  | 0 => (sp_mx, 0, 0)
  | c + 1 => sp_in E c G (sp_out E G c)
theorem sp_in_b {E : Nat → Nat → Int64} {c C G : Nat} (hc : c < C) : ∀ (g : Nat) (s : Int64 × Nat × Nat), g ≤ G → s.2.1 < C → s.2.2 < G → (sp_in E c g s).2.1 < C ∧ (sp_in E c g s).2.2 < G := by
  intro g
  induction g with
  | zero => exact fun s _ h1 h2 => ⟨h1, h2⟩
  | succ g ih =>
    intro s hg h1 h2
    have h := ih s (by omega) h1 h2
    show (if E c g < (sp_in E c g s).1 then (E c g, c, g) else sp_in E c g s).2.1 < C ∧ (if E c g < (sp_in E c g s).1 then (E c g, c, g) else sp_in E c g s).2.2 < G
    split
    · exact ⟨hc, hg⟩
    · exact h
theorem sp_out_b {E : Nat → Nat → Int64} {G C : Nat} (hG : 0 < G) (hC : 0 < C) : ∀ c, c ≤ C → (sp_out E G c).2.1 < C ∧ (sp_out E G c).2.2 < G := by
  intro c
  induction c with
  | zero => exact fun _ => ⟨hC, hG⟩
  | succ c ih =>
    intro h
    have i := ih (by omega)
    exact sp_in_b (by omega) G _ (Nat.le_refl _) i.1 i.2
theorem sp_in_c {E E' : Nat → Nat → Int64} {c G : Nat} : ∀ (g : Nat) (s : Int64 × Nat × Nat), g ≤ G → (∀ j, j < G → E c j = E' c j) → sp_in E c g s = sp_in E' c g s := by
  intro g
  induction g with
  | zero => exact fun _ _ _ => rfl
  | succ g ih =>
    intro s hg h
    show (if E c g < (sp_in E c g s).1 then (E c g, c, g) else sp_in E c g s) = (if E' c g < (sp_in E' c g s).1 then (E' c g, c, g) else sp_in E' c g s)
    rw [ih s (by omega) h, h g (by omega)]
/-- the state of the reference's search: fresh, or the same best candidate -/
def sp_ys (c g : Nat) (s : Int64 × Nat × Nat) (first : Int32) (best : Int64) (bc bg : Nat) : Prop :=
  (c = 0 ∧ g = 0 ∧ first = 1 ∧ best = 0 ∧ bc = 0 ∧ bg = 0 ∧ s = (sp_mx, 0, 0)) ∨ (first = 0 ∧ best = s.1 ∧ bc = s.2.1 ∧ bg = s.2.2)
theorem sp_mx_le (e : Int64) (h : ¬ e < sp_mx) : e = sp_mx := by
  apply Int64.toInt_inj.mp
  rw [Int64.lt_iff_toInt_lt] at h
  have h1 := e.toInt_lt
  have h2 : sp_mx.toInt = 9223372036854775807 := by decide
  rw [h2] at h ⊢
  omega
/-- the tables -/
def sp_kq (j : Nat) : Int32 := ([-31130, -29491, -27034, -23757, -19661, -14746, -9011, -3277, 3277, 9011, 14746, 19661, 23757, 27034, 29491, 31130] : List Int32).getD j 0
def sp_fg (j : Nat) : Int32 := ([0, 16, 23, 32, 45, 64, 91, 128, 181, 256, 362, 512, 724, 1024, 1448, 2048] : List Int32).getD j 0
/-- the nearest level -/
def sp_ds (a b : Int32) : Int32 := if a < b then b - a else a - b
def sp_qs (k : Int32) : Nat → Nat × Int32
  | 0 => (0, sp_ds k (sp_kq 0))
  | i + 1 => if sp_ds k (sp_kq (i + 1)) < (sp_qs k i).2 then (i + 1, sp_ds k (sp_kq (i + 1))) else sp_qs k i
def sp_nq (k : Int32) : Nat := (sp_qs k 15).1
theorem sp_qs_b (k : Int32) : ∀ i, (sp_qs k i).1 ≤ i := by
  intro i
  induction i with
  | zero => exact Nat.le_refl _
  | succ i ih =>
    show (if sp_ds k (sp_kq (i + 1)) < (sp_qs k i).2 then (i + 1, sp_ds k (sp_kq (i + 1))) else sp_qs k i).1 ≤ i + 1
    split
    · exact Nat.le_refl _
    · omega
theorem sp_nq_b (k : Int32) : sp_nq k < 16 := Nat.lt_succ_of_le (sp_qs_b k 15)
theorem sp_kq_r : ∀ j, j < 16 → -32768 ≤ (sp_kq j).toInt ∧ (sp_kq j).toInt ≤ 32767 := by decide
/-- pulses -/
def sp_pc (h : Nat → Int32) (pos sg n : Nat) : Int32 := if n < pos then 0 else if sg = 0 then h (n - pos) else -h (n - pos)
def sp_z (h : Nat → Int32) (ch : Nat → Nat) : Nat → Nat → Int32
  | 0, _ => 0
  | t + 1, n => sp_z h ch t n + sp_pc h (t + 4 * (ch t / 2)) (ch t % 2) n
theorem sp_z_c {h : Nat → Int32} {ch ch' : Nat → Nat} {n : Nat} : ∀ t, (∀ k, k < t → ch k = ch' k) → sp_z h ch t n = sp_z h ch' t n := by
  intro t
  induction t with
  | zero => exact fun _ => rfl
  | succ t ih =>
    intro e
    show sp_z h ch t n + sp_pc h (t + 4 * (ch t / 2)) (ch t % 2) n = sp_z h ch' t n + sp_pc h (t + 4 * (ch' t / 2)) (ch' t % 2) n
    rw [ih (fun k hk => e k (by omega)), e t (by omega)]
def sp_et (h x : Nat → Int32) (N : Nat) (ch : Nat → Nat) (t c g : Nat) : Int64 :=
  sp_ef x (fun n => sp_z h ch t n + sp_pc h (t + 4 * (c / 2)) (c % 2) n) N (sp_fg g)
/-- what track t picks, the earlier tracks' picks being ch -/
def sp_pk (h x : Nat → Int32) (N T : Nat) (ch : Nat → Nat) (t : Nat) : Int64 × Nat × Nat := sp_out (sp_et h x N ch t) 16 (2 * T)
def sp_ch (h x : Nat → Int32) (N T : Nat) : Nat → Nat → Nat
  | 0 => fun _ => 0
  | t + 1 => fun k => if k = t then (sp_pk h x N T (sp_ch h x N T t) t).2.1 else sp_ch h x N T t k
theorem sp_ch_b {h x : Nat → Int32} {N T : Nat} (hT : 0 < T) : ∀ t k, sp_ch h x N T t k < 2 * T := by
  intro t
  induction t with
  | zero => intro k; show 0 < 2 * T; omega
  | succ t ih =>
    intro k
    show (if k = t then (sp_pk h x N T (sp_ch h x N T t) t).2.1 else sp_ch h x N T t k) < 2 * T
    split
    · exact (sp_out_b (by omega) (by omega) (2 * T) (Nat.le_refl _)).1
    · exact ih k
theorem sp_ch_s {h x : Nat → Int32} {N T t k : Nat} (hk : k ≠ t) : sp_ch h x N T (t + 1) k = sp_ch h x N T t k := if_neg hk
theorem sp_ch_t {h x : Nat → Int32} {N T t : Nat} : sp_ch h x N T (t + 1) t = (sp_pk h x N T (sp_ch h x N T t) t).2.1 := if_pos rfl
/-- the gain picked by the track before t -/
def sp_gf (h x : Nat → Int32) (N T : Nat) (t : Nat) : Nat := (sp_pk h x N T (sp_ch h x N T t) t).2.2
theorem sp_gf_b {h x : Nat → Int32} {N T t : Nat} (hT : 0 < T) : sp_gf h x N T t < 16 := (sp_out_b (by omega) (by omega) (2 * T) (Nat.le_refl _)).2
/-- rule D -/
def sp_cp (sl sg : Nat → Nat) (n : Nat) : Int32 := if n / 4 = sl (n % 4) then (if sg (n % 4) = 0 then 1 else -1) else 0
def sp_u (H : Nat → Int32) (l ga gf : Nat) (sl sg : Nat → Nat) (n : Nat) : Int32 :=
  sp_sat (((37 * nI ga * sp_pv H (l + 4) n + 128) >>> ((8 : Int32) &&& 31)) + sp_fg gf * sp_cp sl sg n)
def sp_nh (N : Nat) (u H : Nat → Int32) (j : Nat) : Int32 := if j ≤ N then u (N - j) else H (j - N)
