-- NUMBERS IN ROWS OF LIMBS: Vw f i n is the number that the n limbs from place i on stand for
def BB : Nat := 2147483648
theorem BB_pos : 0 < BB := by decide
theorem BBp (n : Nat) : 0 < BB ^ n := Nat.pow_pos BB_pos
def dg (x : Int32) : Nat := x.toInt.toNat
theorem dg_lt (x : Int32) : dg x < BB := by
  have := i_hi x
  unfold dg BB
  omega
theorem dg_int {x : Int32} (h : 0 ≤ x.toInt) : (dg x : Int) = x.toInt := by
  unfold dg
  omega
def Vw (f : Nat → Int32) (i : Nat) : Nat → Nat
  | 0 => 0
  | n + 1 => Vw f i n + dg (f (i + n)) * BB ^ n
def V (f : Nat → Int32) (n : Nat) : Nat := Vw f 0 n
theorem Vw_0 (f : Nat → Int32) (i : Nat) : Vw f i 0 = 0 := rfl
theorem Vw_s (f : Nat → Int32) (i n : Nat) : Vw f i (n + 1) = Vw f i n + dg (f (i + n)) * BB ^ n := rfl
theorem V_0 (f : Nat → Int32) : V f 0 = 0 := rfl
theorem V_s (f : Nat → Int32) (n : Nat) : V f (n + 1) = V f n + dg (f n) * BB ^ n := by
  unfold V
  rw [Vw_s, Nat.zero_add]
theorem Vw_congr {f g : Nat → Int32} {i : Nat} : ∀ {n : Nat}, (∀ j, j < n → f (i + j) = g (i + j)) → Vw f i n = Vw g i n := by
  intro n
  induction n with
  | zero => intro _; rfl
  | succ n ih =>
    intro h
    rw [Vw_s, Vw_s, ih (fun j hj => h j (by omega)), h n (by omega)]
theorem V_congr {f g : Nat → Int32} {n : Nat} (h : ∀ j, j < n → f j = g j) : V f n = V g n := Vw_congr (fun j hj => by rw [Nat.zero_add]; exact h j hj)
theorem Vw_lt (f : Nat → Int32) (i : Nat) : ∀ n, Vw f i n < BB ^ n := by
  intro n
  induction n with
  | zero => exact Nat.zero_lt_one
  | succ n ih =>
    rw [Vw_s, Nat.pow_succ]
    have h1 : dg (f (i + n)) + 1 ≤ BB := dg_lt _
    have h2 : (dg (f (i + n)) + 1) * BB ^ n ≤ BB * BB ^ n := Nat.mul_le_mul_right _ h1
    rw [Nat.add_mul, Nat.one_mul] at h2
    rw [Nat.mul_comm (BB ^ n) BB]
    omega
theorem V_lt (f : Nat → Int32) (n : Nat) : V f n < BB ^ n := Vw_lt f 0 n
theorem Vw_split (f : Nat → Int32) (i a : Nat) : ∀ b, Vw f i (a + b) = Vw f i a + BB ^ a * Vw f (i + a) b := by
  intro b
  induction b with
  | zero => rw [Vw_0, Nat.mul_zero]; rfl
  | succ b ih =>
    rw [← Nat.add_assoc, Vw_s, ih, Vw_s, Nat.mul_add, Nat.pow_add, ← Nat.add_assoc i a b, Nat.mul_left_comm (BB ^ a)]
    omega
theorem V_split (f : Nat → Int32) (a b : Nat) : V f (a + b) = V f a + BB ^ a * Vw f a b := by
  unfold V
  rw [Vw_split, Nat.zero_add]
theorem Vw_head (f : Nat → Int32) (i n : Nat) : Vw f i (n + 1) = dg (f i) + BB * Vw f (i + 1) n := by
  rw [Nat.add_comm n 1, Vw_split, Vw_s, Vw_0, Nat.pow_zero, Nat.pow_one]
  simp
theorem Vw_zero {f : Nat → Int32} {i : Nat} : ∀ {n : Nat}, (∀ j, j < n → f (i + j) = 0) → Vw f i n = 0 := by
  intro n
  induction n with
  | zero => intro _; rfl
  | succ n ih =>
    intro h
    rw [Vw_s, ih (fun j hj => h j (by omega)), h n (by omega)]
    simp [dg]
theorem dg_0 : dg 0 = 0 := rfl
theorem V_zero {f : Nat → Int32} {n : Nat} (h : ∀ j, j < n → f j = 0) : V f n = 0 := Vw_zero (fun j hj => by rw [Nat.zero_add]; exact h j hj)
/-- a row above whose place k only 0 stands -/
theorem V_top {f : Nat → Int32} {k n : Nat} (hk : k ≤ n) (h : ∀ j, k ≤ j → j < n → f j = 0) : V f n = V f k := by
  obtain ⟨b, rfl⟩ : ∃ b, n = k + b := ⟨n - k, by omega⟩
  rw [V_split, Vw_zero (fun j hj => h (k + j) (by omega) (by omega))]
  simp
theorem V_pos {f : Nat → Int32} {k n : Nat} (hk : k < n) (h : 0 < dg (f k)) : BB ^ k ≤ V f n := by
  obtain ⟨b, rfl⟩ : ∃ b, n = (k + 1) + b := ⟨n - (k + 1), by omega⟩
  rw [V_split f (k + 1) b, V_s f k]
  have : 1 * BB ^ k ≤ dg (f k) * BB ^ k := Nat.mul_le_mul_right _ h
  omega
theorem V_eq0 {f : Nat → Int32} {n : Nat} (h : V f n = 0) : ∀ j, j < n → dg (f j) = 0 := by
  intro j hj
  rcases Nat.eq_zero_or_pos (dg (f j)) with h1 | h1
  · exact h1
  · have h2 := V_pos hj h1
    have h3 := BBp j
    omega
theorem V_upd_ge {f : Nat → Int32} {k n : Nat} {x : Int32} (h : n ≤ k) : V (upd f k x) n = V f n := V_congr (fun j hj => pk_un (by omega))
/-- above place k the rows are the same, at k the first is smaller: its number is smaller -/
theorem V_less {f g : Nat → Int32} {k n : Nat} (hk : k < n) (he : ∀ j, k < j → j < n → f j = g j) (h : dg (f k) < dg (g k)) : V f n < V g n := by
  obtain ⟨b, rfl⟩ : ∃ b, n = (k + 1) + b := ⟨n - (k + 1), by omega⟩
  rw [V_split f (k + 1) b, V_split g (k + 1) b, V_s f k, V_s g k, Vw_congr (f := f) (g := g) (fun j hj => he (k + 1 + j) (by omega) (by omega))]
  have h1 := V_lt f k
  have h2 : (dg (f k) + 1) * BB ^ k ≤ dg (g k) * BB ^ k := Nat.mul_le_mul_right _ h
  rw [Nat.add_mul, Nat.one_mul] at h2
  omega
theorem V_inj {f g : Nat → Int32} : ∀ {n : Nat}, V f n = V g n → ∀ j, j < n → dg (f j) = dg (g j) := by
  intro n
  induction n with
  | zero => intro _ j hj; omega
  | succ n ih =>
    intro h j hj
    rw [V_s, V_s] at h
    have h1 := V_lt f n
    have h2 := V_lt g n
    have h3 : dg (f n) = dg (g n) := by
      have e1 : (V f n + dg (f n) * BB ^ n) / BB ^ n = dg (f n) := by
        rw [Nat.add_mul_div_right _ _ (BBp n), Nat.div_eq_of_lt h1, Nat.zero_add]
      have e2 : (V g n + dg (g n) * BB ^ n) / BB ^ n = dg (g n) := by
        rw [Nat.add_mul_div_right _ _ (BBp n), Nat.div_eq_of_lt h2, Nat.zero_add]
      rw [← e1, ← e2, h]
    rcases Nat.lt_or_ge j n with h4 | h4
    · rw [h3] at h
      exact ih (by omega) j h4
    · rw [show j = n by omega]
      exact h3
