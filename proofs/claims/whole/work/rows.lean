section
-- INTS AND LONGS BY THEIR NUMBERS: what an operation's answer is, as an Int
theorem bm64 {a : Int} (h1 : -9223372036854775808 ≤ a) (h2 : a < 9223372036854775808) : a.bmod (2 ^ 64) = a := by
  rw [Int.bmod_def]
  split <;> omega
theorem bm32 {a : Int} (h1 : -2147483648 ≤ a) (h2 : a < 2147483648) : a.bmod (2 ^ 32) = a := by
  rw [Int.bmod_def]
  split <;> omega
theorem l_add {x y : Int64} {a b : Int} (hx : x.toInt = a) (hy : y.toInt = b) (h1 : -9223372036854775808 ≤ a + b) (h2 : a + b < 9223372036854775808) : (x + y).toInt = a + b := by
  rw [Int64.toInt_add, hx, hy, bm64 h1 h2]
theorem l_sub {x y : Int64} {a b : Int} (hx : x.toInt = a) (hy : y.toInt = b) (h1 : -9223372036854775808 ≤ a - b) (h2 : a - b < 9223372036854775808) : (x - y).toInt = a - b := by
  rw [Int64.toInt_sub, hx, hy, bm64 h1 h2]
theorem l_mul {x y : Int64} {a b : Int} (hx : x.toInt = a) (hy : y.toInt = b) (h1 : -9223372036854775808 ≤ a * b) (h2 : a * b < 9223372036854775808) : (x * y).toInt = a * b := by
  rw [Int64.toInt_mul, hx, hy, bm64 h1 h2]
theorem l_i2l {x : Int32} {a : Int} (hx : x.toInt = a) : x.toInt64.toInt = a := by
  rw [Int32.toInt_toInt64, hx]
theorem l_l2i {x : Int64} {a : Int} (hx : x.toInt = a) (h1 : -2147483648 ≤ a) (h2 : a < 2147483648) : x.toInt32.toInt = a := by
  rw [Int64.toInt_toInt32, hx, bm32 h1 h2]
theorem i_add {x y : Int32} {a b : Int} (hx : x.toInt = a) (hy : y.toInt = b) (h1 : -2147483648 ≤ a + b) (h2 : a + b < 2147483648) : (x + y).toInt = a + b := by
  rw [Int32.toInt_add, hx, hy, bm32 h1 h2]
theorem i_sub {x y : Int32} {a b : Int} (hx : x.toInt = a) (hy : y.toInt = b) (h1 : -2147483648 ≤ a - b) (h2 : a - b < 2147483648) : (x - y).toInt = a - b := by
  rw [Int32.toInt_sub, hx, hy, bm32 h1 h2]
theorem i_mul {x y : Int32} {a b : Int} (hx : x.toInt = a) (hy : y.toInt = b) (h1 : -2147483648 ≤ a * b) (h2 : a * b < 2147483648) : (x * y).toInt = a * b := by
  rw [Int32.toInt_mul, hx, hy, bm32 h1 h2]
/-- a long's number, modulo a power of two -/
theorem l_tn (x : Int64) : x.toInt % 18446744073709551616 = (x.toBitVec.toNat : Int) := by
  have h : x.toInt = x.toBitVec.toInt := rfl
  have h2 := x.toBitVec.isLt
  rw [h, BitVec.toInt_eq_toNat_bmod, Int.bmod_def]
  split <;> omega
theorem l_and31 (x : Int64) : (x &&& 2147483647).toInt = x.toInt % 2147483648 := by
  have h0 := l_tn x
  have h1 : (x &&& 2147483647).toBitVec.toNat = x.toBitVec.toNat % 2147483648 := by
    rw [Int64.toBitVec_and, BitVec.toNat_and]
    exact Nat.and_two_pow_sub_one_eq_mod _ 31
  have h2 := l_tn (x &&& 2147483647)
  have h3 : (x &&& 2147483647).toInt = (x &&& 2147483647).toBitVec.toInt := rfl
  rw [BitVec.toInt_eq_toNat_bmod, h1, Int.bmod_def] at h3
  rw [h3]
  split <;> omega
theorem l_shr (x s : Int64) (k : Nat) (hs : (s.toBitVec.smod 64).toNat = k) : (x >>> s).toInt = x.toInt / ((2 ^ k : Nat) : Int) := by
  rw [← Int.shiftRight_eq_div_pow]
  show (x.toBitVec.sshiftRight (s.toBitVec.smod 64).toNat).toInt = _
  rw [hs, BitVec.toInt_sshiftRight]
  rfl
theorem l_shr31 (x : Int64) : (x >>> ((31 : Int32).toInt64 &&& 63)).toInt = x.toInt / 2147483648 := l_shr x _ 31 (by decide)
theorem l_eqI {x y : Int64} (h : x.toInt = y.toInt) : x = y := Int64.toInt_inj.mp h
theorem i_eqI {x y : Int32} (h : x.toInt = y.toInt) : x = y := Int32.toInt_inj.mp h
theorem i_lo (x : Int32) : -2147483648 ≤ x.toInt := Int32.le_toInt x
theorem i_hi (x : Int32) : x.toInt < 2147483648 := Int32.toInt_lt x
theorem l_lo (x : Int64) : -9223372036854775808 ≤ x.toInt := Int64.le_toInt x
theorem l_hi (x : Int64) : x.toInt < 9223372036854775808 := Int64.toInt_lt x
theorem i_le {x y : Int32} : x ≤ y ↔ x.toInt ≤ y.toInt := Int32.le_iff_toInt_le
theorem i_lt {x y : Int32} : x < y ↔ x.toInt < y.toInt := Int32.lt_iff_toInt_lt
theorem l_le {x y : Int64} : x ≤ y ↔ x.toInt ≤ y.toInt := Int64.le_iff_toInt_le
theorem l_lt {x y : Int64} : x < y ↔ x.toInt < y.toInt := Int64.lt_iff_toInt_lt
theorem i_cl {x : Int32} (h : 0 ≤ x.toInt) : (x.toNatClampNeg : Int) = x.toInt := by
  show ((x.toInt.toNat : Nat) : Int) = _
  omega
theorem i_clN {x : Int32} {n : Nat} (h : x.toInt = n) : x.toNatClampNeg = n := by
  show x.toInt.toNat = n
  omega
theorem i_nI {x : Int32} {n : Nat} (h : x.toInt = n) : x = nI n := by
  have h2 := i_hi x
  apply i_eqI
  rw [h, nI_toInt (by omega)]
end
section
-- NUMBERS IN ROWS OF LIMBS: Vw f i n is the number that the n limbs from place i on stand for
def BB : Nat := 2147483648
theorem BB_pos : 0 < BB := by decide
theorem BBp (n : Nat) : 0 < BB ^ n := Nat.pow_pos BB_pos
def dg (x : Int32) : Nat := x.toInt.toNat
theorem dg_lt (x : Int32) : dg x < BB := by
  have := i_hi x
  unfold dg BB
  omega
theorem dg_int {x : Int32} (h : 0 ≤ x.toInt) : (dg x : Int) = x.toInt := by
  unfold dg
  omega
def Vw (f : Nat → Int32) (i : Nat) : Nat → Nat
  | 0 => 0
  | n + 1 => Vw f i n + dg (f (i + n)) * BB ^ n
def V (f : Nat → Int32) (n : Nat) : Nat := Vw f 0 n
theorem Vw_0 (f : Nat → Int32) (i : Nat) : Vw f i 0 = 0 := rfl
theorem Vw_s (f : Nat → Int32) (i n : Nat) : Vw f i (n + 1) = Vw f i n + dg (f (i + n)) * BB ^ n := rfl
theorem V_0 (f : Nat → Int32) : V f 0 = 0 := rfl
theorem V_s (f : Nat → Int32) (n : Nat) : V f (n + 1) = V f n + dg (f n) * BB ^ n := by
  unfold V
  rw [Vw_s, Nat.zero_add]
theorem Vw_congr {f g : Nat → Int32} {i : Nat} : ∀ {n : Nat}, (∀ j, j < n → f (i + j) = g (i + j)) → Vw f i n = Vw g i n := by
  intro n
  induction n with
  | zero => intro _; rfl
  | succ n ih =>
    intro h
    rw [Vw_s, Vw_s, ih (fun j hj => h j (by omega)), h n (by omega)]
theorem V_congr {f g : Nat → Int32} {n : Nat} (h : ∀ j, j < n → f j = g j) : V f n = V g n := Vw_congr (fun j hj => by rw [Nat.zero_add]; exact h j hj)
theorem Vw_lt (f : Nat → Int32) (i : Nat) : ∀ n, Vw f i n < BB ^ n := by
  intro n
  induction n with
  | zero => exact Nat.zero_lt_one
  | succ n ih =>
    rw [Vw_s, Nat.pow_succ]
    have h1 : dg (f (i + n)) + 1 ≤ BB := dg_lt _
    have h2 : (dg (f (i + n)) + 1) * BB ^ n ≤ BB * BB ^ n := Nat.mul_le_mul_right _ h1
    rw [Nat.add_mul, Nat.one_mul] at h2
    rw [Nat.mul_comm (BB ^ n) BB]
    omega
theorem V_lt (f : Nat → Int32) (n : Nat) : V f n < BB ^ n := Vw_lt f 0 n
theorem Vw_split (f : Nat → Int32) (i a : Nat) : ∀ b, Vw f i (a + b) = Vw f i a + BB ^ a * Vw f (i + a) b := by
  intro b
  induction b with
  | zero => rw [Vw_0, Nat.mul_zero]; rfl
  | succ b ih =>
    rw [← Nat.add_assoc, Vw_s, ih, Vw_s, Nat.mul_add, Nat.pow_add, ← Nat.add_assoc i a b, Nat.mul_left_comm (BB ^ a)]
    omega
theorem V_split (f : Nat → Int32) (a b : Nat) : V f (a + b) = V f a + BB ^ a * Vw f a b := by
  unfold V
  rw [Vw_split, Nat.zero_add]
theorem Vw_head (f : Nat → Int32) (i n : Nat) : Vw f i (n + 1) = dg (f i) + BB * Vw f (i + 1) n := by
  rw [Nat.add_comm n 1, Vw_split, Vw_s, Vw_0, Nat.pow_zero, Nat.pow_one]
  simp
theorem Vw_zero {f : Nat → Int32} {i : Nat} : ∀ {n : Nat}, (∀ j, j < n → f (i + j) = 0) → Vw f i n = 0 := by
  intro n
  induction n with
  | zero => intro _; rfl
  | succ n ih =>
    intro h
    rw [Vw_s, ih (fun j hj => h j (by omega)), h n (by omega)]
    simp [dg]
theorem dg_0 : dg 0 = 0 := rfl
theorem V_zero {f : Nat → Int32} {n : Nat} (h : ∀ j, j < n → f j = 0) : V f n = 0 := Vw_zero (fun j hj => by rw [Nat.zero_add]; exact h j hj)
/-- a row above whose place k only 0 stands -/
theorem V_top {f : Nat → Int32} {k n : Nat} (hk : k ≤ n) (h : ∀ j, k ≤ j → j < n → f j = 0) : V f n = V f k := by
  obtain ⟨b, rfl⟩ : ∃ b, n = k + b := ⟨n - k, by omega⟩
  rw [V_split, Vw_zero (fun j hj => h (k + j) (by omega) (by omega))]
  simp
theorem V_pos {f : Nat → Int32} {k n : Nat} (hk : k < n) (h : 0 < dg (f k)) : BB ^ k ≤ V f n := by
  obtain ⟨b, rfl⟩ : ∃ b, n = (k + 1) + b := ⟨n - (k + 1), by omega⟩
  rw [V_split f (k + 1) b, V_s f k]
  have : 1 * BB ^ k ≤ dg (f k) * BB ^ k := Nat.mul_le_mul_right _ h
  omega
theorem V_eq0 {f : Nat → Int32} {n : Nat} (h : V f n = 0) : ∀ j, j < n → dg (f j) = 0 := by
  intro j hj
  rcases Nat.eq_zero_or_pos (dg (f j)) with h1 | h1
  · exact h1
  · have h2 := V_pos hj h1
    have h3 := BBp j
    omega
theorem V_upd_ge {f : Nat → Int32} {k n : Nat} {x : Int32} (h : n ≤ k) : V (upd f k x) n = V f n := V_congr (fun j hj => pk_un (by omega))
/-- above place k the rows are the same, at k the first is smaller: its number is smaller -/
theorem V_less {f g : Nat → Int32} {k n : Nat} (hk : k < n) (he : ∀ j, k < j → j < n → f j = g j) (h : dg (f k) < dg (g k)) : V f n < V g n := by
  obtain ⟨b, rfl⟩ : ∃ b, n = (k + 1) + b := ⟨n - (k + 1), by omega⟩
  rw [V_split f (k + 1) b, V_split g (k + 1) b, V_s f k, V_s g k, Vw_congr (f := f) (g := g) (fun j hj => he (k + 1 + j) (by omega) (by omega))]
  have h1 := V_lt f k
  have h2 : (dg (f k) + 1) * BB ^ k ≤ dg (g k) * BB ^ k := Nat.mul_le_mul_right _ h
  rw [Nat.add_mul, Nat.one_mul] at h2
  omega
theorem V_inj {f g : Nat → Int32} : ∀ {n : Nat}, V f n = V g n → ∀ j, j < n → dg (f j) = dg (g j) := by
  intro n
  induction n with
  | zero => intro _ j hj; omega
  | succ n ih =>
    intro h j hj
    rw [V_s, V_s] at h
    have h1 := V_lt f n
    have h2 := V_lt g n
    have h3 : dg (f n) = dg (g n) := by
      have e1 : (V f n + dg (f n) * BB ^ n) / BB ^ n = dg (f n) := by
        rw [Nat.add_mul_div_right _ _ (BBp n), Nat.div_eq_of_lt h1, Nat.zero_add]
      have e2 : (V g n + dg (g n) * BB ^ n) / BB ^ n = dg (g n) := by
        rw [Nat.add_mul_div_right _ _ (BBp n), Nat.div_eq_of_lt h2, Nat.zero_add]
      rw [← e1, ← e2, h]
    rcases Nat.lt_or_ge j n with h4 | h4
    · rw [h3] at h
      exact ih (by omega) j h4
    · rw [show j = n by omega]
      exact h3
end
section
-- LONG DIVISION: the guess from the two highest limbs is too great by 2 at most, never too small
theorem kn_guess {U Dv d1 head P r d' : Nat} (hU : U = head * P + r) (hr : r < P) (hD : Dv = d1 * P + d') (hd : d' < P) (h1 : BB ≤ 2 * d1) (hlt : U < Dv * BB) : U / Dv ≤ min (head / d1) (BB - 1) ∧ min (head / d1) (BB - 1) ≤ U / Dv + 2 := by
  have hB : 0 < BB := BB_pos
  have hd0 : 0 < d1 := by omega
  have hP : 0 < P := by omega
  have hDv : 0 < Dv := by
    rw [hD]
    have := Nat.mul_pos hd0 hP
    omega
  constructor
  · apply Nat.le_min.mpr
    constructor
    · rw [Nat.le_div_iff_mul_le hd0]
      have h2 : U / Dv * Dv ≤ U := Nat.div_mul_le_self _ _
      have h3 : U / Dv * (d1 * P) ≤ U / Dv * Dv := Nat.mul_le_mul_left _ (by omega)
      rw [← Nat.mul_assoc] at h3
      have h4 : (U / Dv * d1) * P < (head + 1) * P := by
        rw [Nat.add_mul head, Nat.one_mul]
        omega
      have h5 := Nat.lt_of_mul_lt_mul_right h4
      omega
    · have h2 : U / Dv < BB := (Nat.div_lt_iff_lt_mul hDv).mpr (by rw [Nat.mul_comm]; exact hlt)
      omega
  · generalize hg : min (head / d1) (BB - 1) = g
    have g1 : g ≤ head / d1 := by rw [← hg]; exact Nat.min_le_left _ _
    have g2 : g ≤ BB - 1 := by rw [← hg]; exact Nat.min_le_right _ _
    have g3 : g * d1 ≤ head := (Nat.le_div_iff_mul_le hd0).mp g1
    rcases Nat.lt_or_ge g 3 with h | h
    · exact Nat.le_trans (Nat.le_of_lt_succ h) (Nat.le_add_left _ _)
    · obtain ⟨k, rfl⟩ : ∃ k, g = k + 2 := ⟨g - 2, by omega⟩
      have e1 : (k + 2) * Dv = (k + 2) * d1 * P + (k + 2) * d' := by rw [hD, Nat.mul_add, Nat.mul_assoc]
      have e2 : (k + 2) * Dv = k * Dv + 2 * Dv := Nat.add_mul _ _ _
      have e3 : (k + 2) * d1 * P ≤ head * P := Nat.mul_le_mul_right _ g3
      have e4 : (k + 2) * d' ≤ (k + 2) * P := Nat.mul_le_mul_left _ (by omega)
      have e5 : (k + 2) * P ≤ BB * P := Nat.mul_le_mul_right _ (by omega)
      have e6 : BB * P ≤ 2 * d1 * P := Nat.mul_le_mul_right _ h1
      have e7 : 2 * d1 * P = 2 * (d1 * P) := Nat.mul_assoc _ _ _
      have hk : k ≤ U / Dv := (Nat.le_div_iff_mul_le hDv).mpr (by omega)
      omega
/-- what is left of U when a guess that is too great by j times is taken away, and put back j times -/
theorem kn_rest {U Dv g : Nat} (h0 : 0 < Dv) (h1 : U / Dv ≤ g) : ((U : Int) - g * Dv) + ((g - U / Dv : Nat) : Int) * Dv = ((U % Dv : Nat) : Int) := by
  have e := Nat.div_add_mod U Dv
  obtain ⟨j, rfl⟩ : ∃ j, g = U / Dv + j := ⟨g - U / Dv, by omega⟩
  rw [Nat.add_sub_cancel_left]
  have e2 : ((Dv * (U / Dv) + U % Dv : Nat) : Int) = (U : Int) := by rw [e]
  have e3 : ((U / Dv + j : Nat) : Int) * Dv = (Dv : Int) * ((U / Dv : Nat) : Int) + (j : Int) * Dv := by
    rw [Int.natCast_add, Int.add_mul, Int.mul_comm ((U / Dv : Nat) : Int)]
  rw [e3, ← e2, Int.natCast_add, Int.natCast_mul]
  omega
-- BITS
def bl (n : Nat) : Nat := if n = 0 then 0 else n.log2 + 1
theorem bl_0 : bl 0 = 0 := rfl
theorem bl_hi (n : Nat) : n < 2 ^ bl n := by
  unfold bl
  split
  · omega
  · exact Nat.lt_log2_self
theorem bl_lo {n : Nat} (h : 0 < n) : 2 ^ (bl n - 1) ≤ n := by
  unfold bl
  rw [if_neg (by omega)]
  exact Nat.log2_self_le (by omega)
theorem bl_pos {n : Nat} (h : 0 < n) : 0 < bl n := by
  unfold bl
  rw [if_neg (by omega)]
  omega
theorem bl_of {n k : Nat} (h1 : 2 ^ k ≤ n) (h2 : n < 2 ^ (k + 1)) : bl n = k + 1 := by
  have hn : 0 < n := Nat.lt_of_lt_of_le (Nat.two_pow_pos k) h1
  have a := bl_hi n
  have b := bl_lo hn
  have c := bl_pos hn
  have d : k < bl n := (Nat.pow_lt_pow_iff_right (by decide : 1 < 2)).mp (Nat.lt_of_le_of_lt h1 a)
  have e : bl n - 1 < k + 1 := (Nat.pow_lt_pow_iff_right (by decide : 1 < 2)).mp (Nat.lt_of_le_of_lt b h2)
  omega
theorem bl_le {n k : Nat} (h : n < 2 ^ k) : bl n ≤ k := by
  rcases Nat.eq_zero_or_pos n with h0 | h0
  · rw [h0, bl_0]; omega
  · have b := bl_lo h0
    have c := bl_pos h0
    have e : bl n - 1 < k := (Nat.pow_lt_pow_iff_right (by decide : 1 < 2)).mp (Nat.lt_of_le_of_lt b h)
    omega
theorem bl_mono {m n : Nat} (h : m ≤ n) : bl m ≤ bl n := bl_le (Nat.lt_of_le_of_lt h (bl_hi n))
theorem BB_two (n : Nat) : BB ^ n = 2 ^ (31 * n) := by rw [Nat.pow_mul]; rfl
-- A ROW SHIFTED: limb by limb. hd: the limb's part that stays, cy: what goes over to the next
theorem sh_limb {hi lo r : Nat} (hr : r < 31) (hl : lo < BB) : ((hi * BB + lo) / 2 ^ (31 - r)) % BB = hi * 2 ^ r % BB + lo / 2 ^ (31 - r) := by
  have e1 : BB = 2 ^ r * 2 ^ (31 - r) := by
    rw [← Nat.pow_add, show r + (31 - r) = 31 by omega]
    rfl
  have hp : 0 < 2 ^ (31 - r) := Nat.two_pow_pos _
  have hq : 0 < 2 ^ r := Nat.two_pow_pos _
  have e2 : (hi * BB + lo) / 2 ^ (31 - r) = hi * 2 ^ r + lo / 2 ^ (31 - r) := by
    rw [e1, ← Nat.mul_assoc, Nat.add_comm, Nat.add_mul_div_right _ _ hp, Nat.add_comm]
  rw [e2]
  have h3 : lo / 2 ^ (31 - r) < 2 ^ r := (Nat.div_lt_iff_lt_mul hp).mpr (by rw [← e1]; exact hl)
  have e4 : hi * 2 ^ r % BB = hi % 2 ^ (31 - r) * 2 ^ r := by
    rw [e1, Nat.mul_comm (2 ^ r) (2 ^ (31 - r)), Nat.mul_mod_mul_right]
  have h5 : hi % 2 ^ (31 - r) < 2 ^ (31 - r) := Nat.mod_lt _ hp
  have h6 : (hi % 2 ^ (31 - r) + 1) * 2 ^ r ≤ 2 ^ (31 - r) * 2 ^ r := Nat.mul_le_mul_right _ h5
  rw [Nat.add_mul, Nat.one_mul, Nat.mul_comm (2 ^ (31 - r)), ← e1, ← e4] at h6
  rw [Nat.add_mod, Nat.mod_eq_of_lt (a := lo / 2 ^ (31 - r)) (by
    have : 2 ^ r ≤ BB := by rw [e1]; exact Nat.le_mul_of_pos_right _ hp
    omega)]
  exact Nat.mod_eq_of_lt (by omega)
theorem sh_whole {a r : Nat} (hr : r < 31) : a * 2 ^ r = a * 2 ^ r % BB + a / 2 ^ (31 - r) * BB := by
  have e1 : BB = 2 ^ (31 - r) * 2 ^ r := by
    rw [← Nat.pow_add, show (31 - r) + r = 31 by omega]
    rfl
  have hq : 0 < 2 ^ r := Nat.two_pow_pos _
  have h := Nat.mod_add_div (a * 2 ^ r) BB
  have e2 : a * 2 ^ r / BB = a / 2 ^ (31 - r) := by
    rw [e1, Nat.mul_div_mul_right _ _ hq]
  rw [e2, Nat.mul_comm BB] at h
  exact h.symm
/-- limb i of the row times 2 to the q limbs and r bits -/
def shl (f : Nat → Int32) (q r i : Nat) : Nat := ((if q ≤ i then dg (f (i - q)) else 0) * BB + (if q + 1 ≤ i then dg (f (i - q - 1)) else 0)) / 2 ^ (31 - r) % BB
def shV (f : Nat → Int32) (q r : Nat) : Nat → Nat
  | 0 => 0
  | n + 1 => shV f q r n + shl f q r n * BB ^ n
theorem shl_lt (f : Nat → Int32) (q r i : Nat) : shl f q r i < BB := Nat.mod_lt _ BB_pos
theorem shV_low {f : Nat → Int32} {q r : Nat} : ∀ {n : Nat}, n ≤ q → shV f q r n = 0 := by
  intro n
  induction n with
  | zero => intro _; rfl
  | succ n ih =>
    intro h
    show shV f q r n + _ = 0
    rw [ih (by omega)]
    unfold shl
    rw [if_neg (by omega), if_neg (by omega)]
    simp
theorem shV_up {f : Nat → Int32} {q r : Nat} (hr : r < 31) : ∀ k : Nat, shV f q r (q + k) + (if k = 0 then 0 else dg (f (k - 1)) / 2 ^ (31 - r)) * BB ^ (q + k) = V f k * (BB ^ q * 2 ^ r) := by
  intro k
  induction k with
  | zero =>
    rw [Nat.add_zero, shV_low (Nat.le_refl _), V_0]
    simp
  | succ k ih =>
    rw [if_neg (by omega), Nat.add_sub_cancel]
    have e0 : shV f q r (q + (k + 1)) = shV f q r (q + k) + shl f q r (q + k) * BB ^ (q + k) := rfl
    have e1 : shl f q r (q + k) = dg (f k) * 2 ^ r % BB + (if k = 0 then 0 else dg (f (k - 1)) / 2 ^ (31 - r)) := by
      unfold shl
      rw [if_pos (by omega), Nat.add_sub_cancel_left]
      by_cases hk : k = 0
      · subst hk
        rw [if_neg (by omega), if_pos rfl, sh_limb hr BB_pos, Nat.zero_div]
      · rw [if_pos (by omega), if_neg hk, sh_limb hr (dg_lt _)]
    have e2 := sh_whole (a := dg (f k)) hr
    rw [e0, e1, V_s, Nat.add_mul (V f k), ← ih, Nat.add_mul (dg (f k) * 2 ^ r % BB)]
    have e3 : dg (f k) * BB ^ k * (BB ^ q * 2 ^ r) = dg (f k) * 2 ^ r * BB ^ (q + k) := by
      rw [Nat.pow_add]
      simp only [Nat.mul_assoc, Nat.mul_comm, Nat.mul_left_comm]
    have e4 : BB ^ (q + (k + 1)) = BB * BB ^ (q + k) := by rw [← Nat.add_assoc, Nat.pow_succ, Nat.mul_comm]
    rw [e3, e4, ← Nat.mul_assoc]
    have e5 : dg (f k) * 2 ^ r * BB ^ (q + k) = (dg (f k) * 2 ^ r % BB + dg (f k) / 2 ^ (31 - r) * BB) * BB ^ (q + k) := by rw [← e2]
    rw [e5, Nat.add_mul (dg (f k) * 2 ^ r % BB)]
    omega
theorem shV_lt (f : Nat → Int32) (q r : Nat) : ∀ n, shV f q r n < BB ^ n := by
  intro n
  induction n with
  | zero => exact Nat.zero_lt_one
  | succ n ih =>
    show shV f q r n + shl f q r n * BB ^ n < BB ^ (n + 1)
    have h1 : shl f q r n + 1 ≤ BB := shl_lt f q r n
    have h2 : (shl f q r n + 1) * BB ^ n ≤ BB * BB ^ n := Nat.mul_le_mul_right _ h1
    rw [Nat.add_mul, Nat.one_mul] at h2
    rw [Nat.pow_succ, Nat.mul_comm (BB ^ n) BB]
    omega
theorem shV_eq {f : Nat → Int32} {q r n : Nat} (hr : r < 31) : shV f q r n = V f n * (BB ^ q * 2 ^ r) % BB ^ n := by
  rcases Nat.lt_or_ge n q with h | h
  · rw [shV_low (by omega)]
    obtain ⟨b, rfl⟩ : ∃ b, q = n + b := ⟨q - n, by omega⟩
    rw [Nat.pow_add, Nat.mul_assoc, Nat.mul_left_comm (V f n), Nat.mul_mod_right]
  · obtain ⟨k, rfl⟩ : ∃ k, n = q + k := ⟨n - q, by omega⟩
    have h1 := shV_up (f := f) (q := q) hr k
    have h2 := shV_lt f q r (q + k)
    rw [Nat.add_comm q k] at h1 h2 ⊢
    rw [V_split, Nat.add_mul, ← h1]
    have e : BB ^ k * Vw f k q * (BB ^ q * 2 ^ r) = BB ^ (k + q) * (Vw f k q * 2 ^ r) := by
      rw [Nat.pow_add]
      simp only [Nat.mul_assoc, Nat.mul_comm, Nat.mul_left_comm]
    rw [e, Nat.add_mul_mod_self_left, Nat.add_mul_mod_self_right, Nat.mod_eq_of_lt h2]
/-- a row shifted right by sh bits, with 0 above it -/
theorem ush_limb {hi lo sh : Nat} (hs : sh < 31) (hl : lo < BB) : ((hi * BB + lo) / 2 ^ sh) % BB = lo / 2 ^ sh + hi % 2 ^ sh * 2 ^ (31 - sh) := by
  have e1 : BB = 2 ^ (31 - sh) * 2 ^ sh := by
    rw [← Nat.pow_add, show (31 - sh) + sh = 31 by omega]
    rfl
  have hp : 0 < 2 ^ sh := Nat.two_pow_pos _
  have e2 : (hi * BB + lo) / 2 ^ sh = hi * 2 ^ (31 - sh) + lo / 2 ^ sh := by
    rw [e1, ← Nat.mul_assoc, Nat.add_comm, Nat.add_mul_div_right _ _ hp, Nat.add_comm]
  have h3 : lo / 2 ^ sh < 2 ^ (31 - sh) := (Nat.div_lt_iff_lt_mul hp).mpr (by rw [← e1]; exact hl)
  have e4 : hi * 2 ^ (31 - sh) % BB = hi % 2 ^ sh * 2 ^ (31 - sh) := by
    rw [e1, Nat.mul_comm (2 ^ (31 - sh)) (2 ^ sh), Nat.mul_mod_mul_right]
  have h5 : hi % 2 ^ sh < 2 ^ sh := Nat.mod_lt _ hp
  have h6 : (hi % 2 ^ sh + 1) * 2 ^ (31 - sh) ≤ 2 ^ sh * 2 ^ (31 - sh) := Nat.mul_le_mul_right _ h5
  rw [Nat.add_mul, Nat.one_mul, Nat.mul_comm (2 ^ sh), ← e1, ← e4] at h6
  rw [e2, Nat.add_mod, Nat.mod_eq_of_lt (a := lo / 2 ^ sh) (by
    have : 2 ^ (31 - sh) ≤ BB := by rw [e1]; exact Nat.le_mul_of_pos_right _ hp
    omega), ← e4]
  rw [Nat.mod_eq_of_lt (by omega), Nat.add_comm]
end
section
-- THE NUMBER THAT MAKES 1 OF a MODULO m
def inv? (m a : Nat) : Option Nat := (List.range m).find? (fun y => a * y % m == 1 % m)
theorem inv_uniq {m a x y : Nat} (hx : x < m) (hy : y < m) (h1 : a * x % m = 1 % m) (h2 : a * y % m = 1 % m) : x = y := by
  have e1 : (a * x) * y % m = y := by
    rw [Nat.mul_mod, h1, ← Nat.mul_mod, Nat.one_mul, Nat.mod_eq_of_lt hy]
  have e2 : (a * y) * x % m = x := by
    rw [Nat.mul_mod, h2, ← Nat.mul_mod, Nat.one_mul, Nat.mod_eq_of_lt hx]
  rw [Nat.mul_right_comm] at e2
  exact e2.symm.trans e1
theorem inv_some {m a y : Nat} (hy : y < m) (h : a * y % m = 1 % m) : inv? m a = some y := by
  unfold inv?
  rcases hf : (List.range m).find? (fun y => a * y % m == 1 % m) with _ | x
  · have := List.find?_eq_none.mp hf y (List.mem_range.mpr hy)
    simp [h] at this
  · have h1 := List.find?_some hf
    have h2 := List.mem_range.mp (List.mem_of_find?_eq_some hf)
    rw [inv_uniq h2 hy (by simpa using h1) h]
theorem inv_none {m a : Nat} (h : ∀ y, a * y % m ≠ 1 % m) : inv? m a = none := by
  unfold inv?
  apply List.find?_eq_none.mpr
  intro y _
  simpa using h y
theorem inv_spec {m a y : Nat} (h : inv? m a = some y) : y < m ∧ a * y % m = 1 % m := by
  unfold inv? at h
  exact ⟨List.mem_range.mp (List.mem_of_find?_eq_some h), by simpa using List.find?_some h⟩
theorem inv_no {m a : Nat} (h0 : 0 < m) (h : inv? m a = none) : ∀ y, a * y % m ≠ 1 % m := by
  intro y hy
  have h1 : a * (y % m) % m = 1 % m := by
    rw [Nat.mul_mod, Nat.mod_mod, ← Nat.mul_mod]
    exact hy
  rw [inv_some (Nat.mod_lt _ h0) h1] at h
  cases h
-- EUCLID'S WAY WITH SHIFTS: rests r, n; factors f, g; ng: which of the two is below 0
def euS (ng : Bool) : Int := if ng then -1 else 1
def euI (m a r n f g : Nat) (ng : Bool) : Prop := r * g + n * f = m ∧ f ≤ m ∧ g ≤ m ∧ Nat.gcd r n = Nat.gcd m a ∧ (m : Int) ∣ (r : Int) - euS ng * f * a ∧ (m : Int) ∣ (n : Int) + euS ng * g * a
theorem euI_0 {m a : Nat} (hm : 0 < m) : euI m a m a 0 1 true := by
  refine ⟨by simp, by omega, by omega, rfl, ⟨1, by simp⟩, ⟨0, by simp [euS]; omega⟩⟩
theorem euI_swap {m a r n f g : Nat} {ng : Bool} (h : euI m a r n f g ng) : euI m a n r g f (!ng) := by
  obtain ⟨h1, h2, h3, h4, h5, h6⟩ := h
  have e : euS (!ng) = - euS ng := by cases ng <;> rfl
  refine ⟨by omega, h3, h2, by rw [Nat.gcd_comm]; exact h4, ?_, ?_⟩
  · rw [e, Int.neg_mul, Int.neg_mul, Int.sub_neg]; exact h6
  · rw [e, Int.neg_mul, Int.neg_mul, ← Int.sub_eq_add_neg]; exact h5
theorem euI_sub {m a r n f g k : Nat} {ng : Bool} (hn : 0 < n) (hk : k * n ≤ r) (h : euI m a r n f g ng) : euI m a (r - k * n) n (f + k * g) g ng := by
  obtain ⟨h1, h2, h3, h4, h5, h6⟩ := h
  obtain ⟨q, rfl⟩ : ∃ q, r = k * n + q := ⟨r - k * n, by omega⟩
  rw [Nat.add_sub_cancel_left]
  have e1 : q * g + n * (f + k * g) = m := by
    rw [← h1, Nat.mul_add, Nat.add_mul]
    have : n * (k * g) = k * n * g := by simp only [Nat.mul_assoc, Nat.mul_comm, Nat.mul_left_comm]
    omega
  refine ⟨e1, ?_, h3, ?_, ?_, h6⟩
  · have : 1 * (f + k * g) ≤ n * (f + k * g) := Nat.mul_le_mul_right _ hn
    omega
  · rw [← h4, Nat.add_comm (k * n) q, Nat.gcd_add_mul_right_left]
  · have e2 : (q : Int) - euS ng * ((f + k * g : Nat) : Int) * a = (((k * n + q : Nat) : Int) - euS ng * f * a) - k * ((n : Int) + euS ng * g * a) := by
      rw [Int.natCast_add, Int.natCast_add, Int.natCast_mul, Int.natCast_mul]
      grind
    rw [e2]
    exact Int.dvd_sub h5 (Int.dvd_mul_of_dvd_right h6)
/-- a step halves the first rest, or the two change places -/
def euM (r n : Nat) : Nat := 2 * (bl r + bl n) + (if r < n then 1 else 0)
theorem euM_sub {r n k : Nat} (hn : 0 < n) (h1 : 2 ^ k * n ≤ r) (h2 : r < 2 ^ (k + 1) * n) : euM (r - 2 ^ k * n) n < euM r n := by
  have e : 2 ^ (k + 1) * n = 2 * (2 ^ k * n) := by rw [Nat.pow_succ, Nat.mul_comm (2 ^ k) 2, Nat.mul_assoc]
  have hp : 1 * n ≤ 2 ^ k * n := Nat.mul_le_mul_right _ (Nat.two_pow_pos k)
  have hr : 0 < r := by omega
  have h3 : 2 * (r - 2 ^ k * n) < r := by omega
  have h4 : bl (r - 2 ^ k * n) + 1 ≤ bl r := by
    have a := bl_hi r
    have c := bl_pos hr
    have d : 2 ^ bl r = 2 * 2 ^ (bl r - 1) := by
      obtain ⟨j, hj⟩ : ∃ j, bl r = j + 1 := ⟨bl r - 1, by omega⟩
      rw [hj, Nat.add_sub_cancel, Nat.pow_succ, Nat.mul_comm]
    have : bl (r - 2 ^ k * n) ≤ bl r - 1 := bl_le (by omega)
    omega
  unfold euM
  split <;> split <;> omega
theorem euM_swap {r n : Nat} (h : r < n) : euM n r < euM r n := by
  unfold euM
  rw [if_pos h, if_neg (by omega)]
  omega
/-- the end: the first rest is 1: its factor, with its sign, makes 1 of a -/
theorem euI_end {m a f g : Nat} {ng : Bool} (hm : 0 < m) (ha : a < m) (h : euI m a 1 0 f g ng) : inv? m a = some (if ng then (if f = 0 then 0 else m - f) else f % m) := by
  obtain ⟨h1, h2, h3, h4, ⟨q, h5⟩, h6⟩ := h
  have hr : (if ng then (if f = 0 then 0 else m - f) else f % m) < m := by
    split
    · split <;> omega
    · exact Nat.mod_lt _ hm
  refine inv_some hr ?_
  have key : ((a * (if ng then (if f = 0 then 0 else m - f) else f % m) : Nat) : Int) % m = ((1 : Nat) : Int) % m := by
    cases ng with
    | true =>
      simp only [if_true]
      have e : euS true = -1 := rfl
      rw [e] at h5
      by_cases hf : f = 0
      · subst hf
        rw [if_pos rfl]
        simp at h5
        rw [Nat.mul_zero]
        have e3 : ((1 : Nat) : Int) = m * q := h5
        rw [e3]
        simp
      · rw [if_neg hf]
        obtain ⟨d, rfl⟩ : ∃ d, m = f + d := ⟨m - f, by omega⟩
        rw [Nat.add_sub_cancel_left]
        have e2 : ((a * d : Nat) : Int) = ((1 : Nat) : Int) + ((f + d : Nat) : Int) * (a - q) := by
          rw [Int.natCast_mul, Int.natCast_add]
          rw [Int.natCast_add] at h5
          grind
        rw [e2, Int.add_mul_emod_self_left]
    | false =>
      have e : euS false = 1 := rfl
      rw [e] at h5
      simp only [Bool.false_eq_true, if_false]
      have e0 : ((a * (f % m) : Nat) : Int) % m = ((a * f : Nat) : Int) % m := by
        rw [← Int.natCast_emod, ← Int.natCast_emod, Nat.mul_mod, Nat.mod_mod, ← Nat.mul_mod]
      rw [e0]
      have e2 : ((a * f : Nat) : Int) = ((1 : Nat) : Int) + (m : Int) * (-q) := by
        rw [Int.natCast_mul]
        grind
      rw [e2, Int.add_mul_emod_self_left]
  rw [← Int.natCast_emod, ← Int.natCast_emod] at key
  exact Int.ofNat.inj key
theorem euI_no {m a r f g : Nat} {ng : Bool} (hr : r ≠ 1) (h : euI m a r 0 f g ng) (hm : 0 < m) : inv? m a = none := by
  obtain ⟨h1, h2, h3, h4, h5, h6⟩ := h
  rw [Nat.gcd_zero_right] at h4
  apply inv_none
  intro y hy
  apply hr
  have d1 : r ∣ m := by rw [h4]; exact Nat.gcd_dvd_left _ _
  have d2 : r ∣ a := by rw [h4]; exact Nat.gcd_dvd_right _ _
  have e : r ∣ 1 % m := by
    rw [← hy]
    exact (Nat.dvd_mod_iff d1).mpr (Nat.dvd_trans d2 (Nat.dvd_mul_right _ _))
  have e2 : r ∣ 1 := (Nat.dvd_mod_iff d1).mp e
  exact Nat.dvd_one.mp e2
end
section
-- POINTS, MODULO p = k + 1: none is the identity
abbrev Zp (k : Nat) : Type := Fin (k + 1)
abbrev Pt (k : Nat) : Type := Option (Zp k × Zp k)
def unit? (k : Nat) (x : Zp k) : Prop := ∃ w : Zp k, x * w = 1
theorem zu_uniq {k : Nat} {x w w' : Zp k} (h : x * w = 1) (h' : x * w' = 1) : w = w' := by
  have e1 : w * (x * w') = w := by rw [h']; grind
  have e2 : w * (x * w') = w' := by
    have : w * (x * w') = (x * w) * w' := by grind
    rw [this, h]; grind
  rw [← e1, e2]
theorem zu_mul {k : Nat} {x y : Zp k} (h : unit? k (x * y)) : unit? k x ∧ unit? k y := by
  obtain ⟨w, h⟩ := h
  exact ⟨⟨y * w, by rw [← h]; grind⟩, ⟨x * w, by rw [← h]; grind⟩⟩
def onC {k : Nat} (A B : Zp k) (P : Pt k) : Prop := match P with
  | none => True
  | some (x, y) => y * y = x * x * x + A * x + B
theorem rid1 {k : Nat} (x u X m c : Zp k) : X * X + (x - m * m) * X + c = (u * u + (x - m * m) * u + c) + (X - u) * (X + u + x - m * m) := by grind
theorem rid2 {k : Nat} (A B x y X m : Zp k) : X * X * X + A * X + B = (m * (x - X) - y) * (m * (x - X) - y) + (X - x) * (X * X + (x - m * m) * X + (x * x + A + m * m * x - 2 * m * y)) + (x * x * x + A * x + B - y * y) := by grind
/-- the chord's third point lies on the curve -/
theorem chord_on {k : Nat} {A B x y u v m X w : Zp k} (h1 : y * y = x * x * x + A * x + B) (h2 : v * v = u * u * u + A * u + B) (hw : (u - x) * w = 1) (hm : m = (v - y) * w) (hX : X = m * m - x - u) : (m * (x - X) - y) * (m * (x - X) - y) = X * X * X + A * X + B := by
  have e1 : m * (u - x) = v - y := by rw [hm]; grind
  have g0 : (u - x) * (u * u + (x - m * m) * u + (x * x + A + m * m * x - 2 * m * y)) = 0 := by clear hX hm; grind
  have g1 : u * u + (x - m * m) * u + (x * x + A + m * m * x - 2 * m * y) = 0 := by
    generalize u * u + (x - m * m) * u + (x * x + A + m * m * x - 2 * m * y) = z at g0
    clear hX hm h1 h2 e1
    have : w * ((u - x) * z) = 0 := by rw [g0]; grind
    grind
  have e2 : X + u + x - m * m = 0 := by rw [hX]; grind
  have e3 : X * X + (x - m * m) * X + (x * x + A + m * m * x - 2 * m * y) = 0 := by
    rw [rid1 x u X m, g1, e2]; grind
  have e4 : x * x * x + A * x + B - y * y = 0 := by rw [h1]; grind
  rw [rid2 A B x y X m, e3, e4]
  generalize (m * (x - X) - y) * (m * (x - X) - y) = z
  clear e1 g0 g1 e2 e3 e4 h1 h2 hw hm hX
  grind
theorem tang_on {k : Nat} {A B x y m X w : Zp k} (h1 : y * y = x * x * x + A * x + B) (hw : (y + y) * w = 1) (hm : m = (3 * x * x + A) * w) (hX : X = m * m - x - x) : (m * (x - X) - y) * (m * (x - X) - y) = X * X * X + A * X + B := by
  have e1 : m * (y + y) = 3 * x * x + A := by rw [hm]; grind
  grind
end
section
-- THE WORLD AS A MAP: which cell lies at an address. N0: the heap's size when the law began: all cells of ours lie behind it
abbrev xM : Type := Nat → Option va_E
def xset (M : xM) (a : Nat) (e : va_E) : xM := fun b => if b = a then some e else M b
theorem xset_s {M : xM} {a : Nat} {e : va_E} : xset M a e a = some e := by simp [xset]
theorem xset_n {M : xM} {a b : Nat} {e : va_E} (h : b ≠ a) : xset M a e b = M b := by simp [xset, h]
abbrev xA (N0 : Nat) : Nat → Prop := fun q => N0 ≤ q
def xW (D : va_G) (cl : List vw_C) (N0 : Nat) (M : xM) (H : Heap) : Prop := ∃ ws : va_W, va_P D cl ws H ∧ va_D (xA N0) ws ∧ ∀ (a : Nat) (e : va_E), M a = some e ↔ ∃ k : Nat, ws[k]? = some (a, e)
theorem xW.put {D : va_G} {cl : List vw_C} {N0 : Nat} {M : xM} {ws : va_W} {a k : Nat} {e0 e : va_E} {H1 : Heap} (hD : va_D (xA N0) ws) (hm : ∀ (a : Nat) (e : va_E), M a = some e ↔ ∃ k : Nat, ws[k]? = some (a, e)) (hk : ws[k]? = some (a, e0)) (hP1 : va_P D cl (ws.set k (a, e)) H1) (hD1 : va_D (xA N0) (ws.set k (a, e))) : xW D cl N0 (xset M a e) H1 := by
  refine ⟨ws.set k (a, e), hP1, hD1, fun b e' => ?_⟩
  have hl := (List.getElem?_eq_some_iff.mp hk).1
  constructor
  · intro h
    by_cases hb : b = a
    · subst hb
      rw [xset_s] at h
      cases h
      exact ⟨k, List.getElem?_set_self hl⟩
    · rw [xset_n hb] at h
      obtain ⟨j, hj⟩ := (hm b e').mp h
      have hjk : k ≠ j := by
        intro q
        subst q
        rw [hk] at hj
        cases hj
        exact hb rfl
      exact ⟨j, by rw [List.getElem?_set_ne hjk]; exact hj⟩
  · rintro ⟨j, hj⟩
    by_cases hjk : k = j
    · subst hjk
      rw [List.getElem?_set_self hl] at hj
      cases hj
      exact xset_s
    · rw [List.getElem?_set_ne hjk] at hj
      have hb : b ≠ a := by
        intro q
        subst q
        exact hjk (hD.1 k j _ _ hk hj rfl)
      rw [xset_n hb]
      exact (hm b e').mpr ⟨j, hj⟩
theorem xW.lt {D : va_G} {cl : List vw_C} {N0 : Nat} {M : xM} {H : Heap} (h : xW D cl N0 M H) {a : Nat} {e : va_E} (ha : M a = some e) : a < H.size := by
  obtain ⟨ws, hP, hD, hm⟩ := h
  obtain ⟨k, hk⟩ := (hm a e).mp ha
  exact (hP k _ hk).lt
theorem xW.ge {D : va_G} {cl : List vw_C} {N0 : Nat} {M : xM} {H : Heap} (h : xW D cl N0 M H) {a : Nat} {e : va_E} (ha : M a = some e) : N0 ≤ a := by
  obtain ⟨ws, hP, hD, hm⟩ := h
  obtain ⟨k, hk⟩ := (hm a e).mp ha
  exact hD.2 k _ hk
theorem xW.no {D : va_G} {cl : List vw_C} {N0 : Nat} {M : xM} {H : Heap} (h : xW D cl N0 M H) {a : Nat} (ha : H.size ≤ a) : M a = none := by
  cases hM : M a with
  | none => rfl
  | some e => have := h.lt hM; omega
/-- a new cell at the heap's end -/
theorem xW.new {D : va_G} {cl : List vw_C} {N0 : Nat} {M : xM} {H H1 : Heap} {e : va_E} (h : xW D cl N0 M H) (hN : N0 ≤ H.size) (he : va_at D cl (H.size, e) H1) (ho : ∀ q, q < H.size → H1[q]? = H[q]?) : xW D cl N0 (xset M H.size e) H1 := by
  have hno : M H.size = none := h.no (Nat.le_refl _)
  obtain ⟨ws, hP, hD, hm⟩ := h
  refine ⟨ws ++ [(H.size, e)], ?_, hD.push hP rfl hN, fun b e' => ?_⟩
  · refine va_P.app (hP.kept fun k q hk => ho q.1 (hP k q hk).lt) ?_
    intro k q hk
    have hz : k < 1 := (List.getElem?_eq_some_iff.mp hk).1
    rw [show k = 0 by omega] at hk
    cases hk
    exact he
  · constructor
    · intro hb
      by_cases hq : b = H.size
      · subst hq
        rw [xset_s] at hb
        cases hb
        exact ⟨ws.length, by simp⟩
      · rw [xset_n hq] at hb
        obtain ⟨j, hj⟩ := (hm b e').mp hb
        exact ⟨j, by rw [List.getElem?_append_left (List.getElem?_eq_some_iff.mp hj).1]; exact hj⟩
    · rintro ⟨j, hj⟩
      by_cases hjl : j < ws.length
      · rw [List.getElem?_append_left hjl] at hj
        have hb := (hm b e').mpr ⟨j, hj⟩
        have hq : b ≠ H.size := by
          intro q
          rw [q, hno] at hb
          cases hb
        rw [xset_n hq]
        exact hb
      · rw [List.getElem?_append_right (by omega)] at hj
        have hz : j - ws.length < 1 := (List.getElem?_eq_some_iff.mp hj).1
        rw [show j - ws.length = 0 by omega] at hj
        cases hj
        exact xset_s
theorem xW.none {D : va_G} {cl : List vw_C} {N0 : Nat} {H : Heap} : xW D cl N0 (fun _ => none) H := by
  refine ⟨[], fun k q h => by simp at h, ⟨fun i j p q h => by simp at h, fun k q h => by simp at h⟩, fun a e => ?_⟩
  constructor
  · intro h; cases h
  · rintro ⟨k, h⟩; simp at h
abbrev xI (cA : ClassId) (n : Nat) (f : Nat → Int32) : va_E := .inl (cA, n, .inl f)
abbrev xQ (cA : ClassId) (n : Nat) (f : Nat → Option Nat) : va_E := .inl (cA, n, .inr (.inr (.inr (.inr f))))
abbrev xO (ci : Nat) (fs : List Value) : va_E := .inr (ci, fs)
section XROWS
variable {p : Program} {l : Launch} {e : Env} {R : Room} {s : State} {m : MethodId} {args : Array Value} {below : List Frame} {meth : Method} {c : Code} {H : Heap} {locs : List Loc} {cells slots : Nat} {Q : State → Prop}
variable {cc : ByteArray} {pc : Nat} {ls : Array Slot} {rest : List Value} {D : va_G} {cl : List vw_C} {a : Nat} {tys : List (ClassId × FieldType)} {H0 : Heap} {N0 : Nat} {M : xM}
theorem x_iald (hexec : p.tables.exec = Jvm.exec) (hb : c.code = cc) (hK : va_K D cl tys s) (hM : xW D cl N0 M H) (t0 : Nat) {cA : ClassId} {n : Nat} {f : Nat → Int32} (ha : M a = some (xI cA n f)) (ht : tys[t0]? = some (cA, .int)) {i : Nat} (hi : i < n) (hn : n < 2 ^ 31) (hdg : decode cc pc = .ok (.iaload, 1))
    (kk : W p l e R s m args below meth c H locs cells slots Q (F0 m (pc + 1) ls (.int (f i) :: rest))) : W p l e R s m args below meth c H locs cells slots Q (F0 m pc ls (.int (nI i) :: .ref a :: rest)) := by
  obtain ⟨ws, hP, hD, hm⟩ := hM
  obtain ⟨k, hk⟩ := (hm a _).mp ha
  refine va_iald hexec hb hK hP k t0 hk ht (vp_in_nI hi hn) hdg ?_
  rw [nI_clamp (by omega)]
  exact kk
theorem x_iast (hexec : p.tables.exec = Jvm.exec) (hb : c.code = cc) (hK : va_K D cl tys s) (hM : xW D cl N0 M H) (hS : va_S (xA N0) H0 H locs) (t0 : Nat) {cA : ClassId} {n : Nat} {f : Nat → Int32} (ha : M a = some (xI cA n f)) (ht : tys[t0]? = some (cA, .int)) {i : Nat} {x : Int32} (hi : i < n) (hn : n < 2 ^ 31) (hdg : decode cc pc = .ok (.iastore, 1))
    (kk : ∀ (H1 : Heap) (locs1 : List Loc), xW D cl N0 (xset M a (xI cA n (upd f i x))) H1 → va_S (xA N0) H0 H1 locs1 → W p l e R s m args below meth c H1 locs1 cells slots Q (F0 m (pc + 1) ls rest)) : W p l e R s m args below meth c H locs cells slots Q (F0 m pc ls (.int x :: .int (nI i) :: .ref a :: rest)) := by
  obtain ⟨ws, hP, hD, hm⟩ := hM
  obtain ⟨k, hk⟩ := (hm a _).mp ha
  refine va_iast hexec hb hK hP hD hS k t0 hk ht (vp_in_nI hi hn) hdg (fun H1 locs1 hP1 hD1 hS1 => ?_)
  rw [nI_clamp (by omega)] at hP1 hD1
  exact kk H1 locs1 (xW.put hD hm hk hP1 hD1) hS1
theorem x_alen (hexec : p.tables.exec = Jvm.exec) (hb : c.code = cc) (hK : va_K D cl tys s) (hM : xW D cl N0 M H) (t0 : Nat) {cA : ClassId} {x : vp_A} (ha : M a = some (.inl (cA, x))) {ty : FieldType} (ht : tys[t0]? = some (cA, ty)) (hdg : decode cc pc = .ok (.arraylength, 1))
    (kk : W p l e R s m args below meth c H locs cells slots Q (F0 m (pc + 1) ls (.int (nI x.1) :: rest))) : W p l e R s m args below meth c H locs cells slots Q (F0 m pc ls (.ref a :: rest)) := by
  obtain ⟨ws, hP, hD, hm⟩ := hM
  obtain ⟨k, hk⟩ := (hm a _).mp ha
  exact va_alen hexec hb hK hP k t0 hk ht (v := nI x.1) rfl hdg kk
theorem x_get (hexec : p.tables.exec = Jvm.exec) (hb : c.code = cc) {own ref C : String} {T : u_T} {N ci index : Nat} {Ts : List Cond} (hts : ∀ w ∈ Ts, w.before args s = true) (hin : ∀ w ∈ u_ws C T N, w ∈ Ts) (hown : s.vm.findClass own = some m.cls) (hK : va_K D cl tys s) (hM : xW D cl N0 M H) {fs : List Value} (he : M a = some (xO ci fs)) (hc : cl[ci]? = some (C, T, N)) (k : Nat) (hk : k < N) (hlink : (Cond.fieldLink own index ref (T k).2.1 (T k).2.2.1).before args s = true) (hsame : ∀ x, s.fieldFound? (T k).1 (T k).2.1 (T k).2.2.1 = some x → s.fieldFound? ref (T k).2.1 (T k).2.2.1 = some x) {v : Value} (hv : fs[k]? = some v) (hdg : decode cc pc = .ok (.getfield index, 3))
    (kk : W p l e R s m args below meth c H locs cells slots Q (F0 m (pc + 3) ls (v :: rest))) : W p l e R s m args below meth c H locs cells slots Q (F0 m pc ls (.ref a :: rest)) := by
  obtain ⟨ws, hP, hD, hm⟩ := hM
  obtain ⟨j, hj⟩ := (hm a _).mp he
  exact va_get hexec hb hts hin hown hK hP j hj hc k hk hlink hsame hv hdg kk
theorem x_getN (hexec : p.tables.exec = Jvm.exec) (hb : c.code = cc) {own ref C host : String} {T : u_T} {N ci index : Nat} {Ts : List Cond} (hts : ∀ w ∈ Ts, w.before args s = true) (hin : ∀ w ∈ u_ws C T N, w ∈ Ts) (hown : s.vm.findClass own = some m.cls) (hK : va_K D cl tys s) (hM : xW D cl N0 M H) {fs : List Value} (he : M a = some (xO ci fs)) (hc : cl[ci]? = some (C, T, N)) (k : Nat) (hk : k < N) (hlink : (Cond.fieldLinkNest own index ref (T k).2.1 (T k).2.2.1 host).before args s = true) (hsame : ∀ x, s.fieldFound? (T k).1 (T k).2.1 (T k).2.2.1 = some x → s.fieldFound? ref (T k).2.1 (T k).2.2.1 = some x) {v : Value} (hv : fs[k]? = some v) (hdg : decode cc pc = .ok (.getfield index, 3))
    (kk : W p l e R s m args below meth c H locs cells slots Q (F0 m (pc + 3) ls (v :: rest))) : W p l e R s m args below meth c H locs cells slots Q (F0 m pc ls (.ref a :: rest)) := by
  obtain ⟨ws, hP, hD, hm⟩ := hM
  obtain ⟨j, hj⟩ := (hm a _).mp he
  exact va_getN hexec hb hts hin hown hK hP j hj hc k hk hlink hsame hv hdg kk
theorem x_put (hexec : p.tables.exec = Jvm.exec) (hb : c.code = cc) {own ref C : String} {T : u_T} {N ci index : Nat} {Ts : List Cond} (hts : ∀ w ∈ Ts, w.before args s = true) (hin : ∀ w ∈ u_ws C T N, w ∈ Ts) (ty0 : Nat → FieldType) (hty : ∀ k, k < N → parseFieldDescriptor (T k).2.2.1 = some (ty0 k)) (hnm : ∀ a, a < N → ∀ b, b < N → a ≠ b → (T a).2.1 ≠ (T b).2.1) (hown : s.vm.findClass own = some m.cls) (hK : va_K D cl tys s) (hM : xW D cl N0 M H) (hS : va_S (xA N0) H0 H locs) {fs : List Value} (he : M a = some (xO ci fs)) (hc : cl[ci]? = some (C, T, N)) (k : Nat) (hk : k < N) (hlink : (Cond.fieldLink own index ref (T k).2.1 (T k).2.2.1).before args s = true) (hsame : ∀ x, s.fieldFound? (T k).1 (T k).2.1 (T k).2.2.1 = some x → s.fieldFound? ref (T k).2.1 (T k).2.2.1 = some x) (hfin : (T k).2.2.2 = false) {ty : FieldType} {v : Value} (hd : parseFieldDescriptor (T k).2.2.1 = some ty) (hn : narrow ty v = v) (hfit : fits ty v = true) (hl : k < fs.length)
    (hdg : decode cc pc = .ok (.putfield index, 3)) (kk : ∀ (H1 : Heap) (locs1 : List Loc), xW D cl N0 (xset M a (xO ci (fs.set k v))) H1 → va_S (xA N0) H0 H1 locs1 → W p l e R s m args below meth c H1 locs1 cells slots Q (F0 m (pc + 3) ls rest)) : W p l e R s m args below meth c H locs cells slots Q (F0 m pc ls (v :: .ref a :: rest)) := by
  obtain ⟨ws, hP, hD, hm⟩ := hM
  obtain ⟨j, hj⟩ := (hm a _).mp he
  exact va_put hexec hb hts hin ty0 hty hnm hown hK hP hD hS j hj hc k hk hlink hsame hfin hd hn hfit hl hdg (fun H1 locs1 hP1 hD1 hS1 => kk H1 locs1 (xW.put hD hm hj hP1 hD1) hS1)
theorem x_putN (hexec : p.tables.exec = Jvm.exec) (hb : c.code = cc) {own ref C host : String} {T : u_T} {N ci index : Nat} {Ts : List Cond} (hts : ∀ w ∈ Ts, w.before args s = true) (hin : ∀ w ∈ u_ws C T N, w ∈ Ts) (ty0 : Nat → FieldType) (hty : ∀ k, k < N → parseFieldDescriptor (T k).2.2.1 = some (ty0 k)) (hnm : ∀ a, a < N → ∀ b, b < N → a ≠ b → (T a).2.1 ≠ (T b).2.1) (hown : s.vm.findClass own = some m.cls) (hK : va_K D cl tys s) (hM : xW D cl N0 M H) (hS : va_S (xA N0) H0 H locs) {fs : List Value} (he : M a = some (xO ci fs)) (hc : cl[ci]? = some (C, T, N)) (k : Nat) (hk : k < N) (hlink : (Cond.fieldLinkNest own index ref (T k).2.1 (T k).2.2.1 host).before args s = true) (hsame : ∀ x, s.fieldFound? (T k).1 (T k).2.1 (T k).2.2.1 = some x → s.fieldFound? ref (T k).2.1 (T k).2.2.1 = some x) (hfin : (T k).2.2.2 = false) {ty : FieldType} {v : Value} (hd : parseFieldDescriptor (T k).2.2.1 = some ty) (hn : narrow ty v = v) (hfit : fits ty v = true) (hl : k < fs.length)
    (hdg : decode cc pc = .ok (.putfield index, 3)) (kk : ∀ (H1 : Heap) (locs1 : List Loc), xW D cl N0 (xset M a (xO ci (fs.set k v))) H1 → va_S (xA N0) H0 H1 locs1 → W p l e R s m args below meth c H1 locs1 cells slots Q (F0 m (pc + 3) ls rest)) : W p l e R s m args below meth c H locs cells slots Q (F0 m pc ls (v :: .ref a :: rest)) := by
  obtain ⟨ws, hP, hD, hm⟩ := hM
  obtain ⟨j, hj⟩ := (hm a _).mp he
  exact va_putN hexec hb hts hin ty0 hty hnm hown hK hP hD hS j hj hc k hk hlink hsame hfin hd hn hfit hl hdg (fun H1 locs1 hP1 hD1 hS1 => kk H1 locs1 (xW.put hD hm hj hP1 hD1) hS1)
theorem x_putF (hexec : p.tables.exec = Jvm.exec) (hb : c.code = cc) {own ref C : String} {T : u_T} {N ci index : Nat} {Ts : List Cond} (hts : ∀ w ∈ Ts, w.before args s = true) (hin : ∀ w ∈ u_ws C T N, w ∈ Ts) (ty0 : Nat → FieldType) (hty : ∀ k, k < N → parseFieldDescriptor (T k).2.2.1 = some (ty0 k)) (hnm : ∀ a, a < N → ∀ b, b < N → a ≠ b → (T a).2.1 ≠ (T b).2.1) (hown : s.vm.findClass own = some m.cls) (hK : va_K D cl tys s) (hM : xW D cl N0 M H) (hS : va_S (xA N0) H0 H locs) {fs : List Value} (he : M a = some (xO ci fs)) (hc : cl[ci]? = some (C, T, N)) (k : Nat) (hk : k < N) (hlink : (Cond.fieldLink own index ref (T k).2.1 (T k).2.2.1).before args s = true) (hsame : ∀ x, s.fieldFound? (T k).1 (T k).2.1 (T k).2.2.1 = some x → s.fieldFound? ref (T k).2.1 (T k).2.2.1 = some x) (hfin : (T k).2.2.2 = true) (hin2 : meth.name = "<init>") (hdecl : (T k).1 = own) {ty : FieldType} {v : Value} (hd : parseFieldDescriptor (T k).2.2.1 = some ty) (hn : narrow ty v = v) (hfit : fits ty v = true) (hl : k < fs.length)
    (hdg : decode cc pc = .ok (.putfield index, 3)) (kk : ∀ (H1 : Heap) (locs1 : List Loc), xW D cl N0 (xset M a (xO ci (fs.set k v))) H1 → va_S (xA N0) H0 H1 locs1 → W p l e R s m args below meth c H1 locs1 cells slots Q (F0 m (pc + 3) ls rest)) : W p l e R s m args below meth c H locs cells slots Q (F0 m pc ls (v :: .ref a :: rest)) := by
  obtain ⟨ws, hP, hD, hm⟩ := hM
  obtain ⟨j, hj⟩ := (hm a _).mp he
  exact va_putF hexec hb hts hin ty0 hty hnm hown hK hP hD hS j hj hc k hk hlink hsame hfin hin2 hdecl hd hn hfit hl hdg (fun H1 locs1 hP1 hD1 hS1 => kk H1 locs1 (xW.put hD hm hj hP1 hD1) hS1)
end XROWS
-- CONTRACTS OVER THE MAP: any map M that the heap holds; the method's answer and the new map
def xB (D : va_G) (cl : List vw_C) (tys : List (ClassId × FieldType)) (N0 : Nat) (M : xM) (U : State) : Prop := N0 ≤ U.heap.size ∧ xW D cl N0 M U.heap ∧ va_K D cl tys U
theorem x_blind {av : List Value} {D : va_G} {cl : List vw_C} {tys : List (ClassId × FieldType)} {N0 : Nat} {M : xM} : FrameBlind (va_Pc av (xB D cl tys N0 M)) := fun a U g mk q => by
  obtain ⟨q0, q1, q2, qK⟩ := q
  exact ⟨q0, q1, q2, va_K.moved (u := U) (U := U.calling g mk a) (Vm.Alike.refl U.vm) qK⟩
theorem x_pre {av : List Value} {D : va_G} {cl : List vw_C} {tys : List (ClassId × FieldType)} {N0 : Nat} {M : xM} {s : State} {H : Heap} {locs : List Loc} (hK : va_K D cl tys s) (hM : xW D cl N0 M H) (hN : N0 ≤ s.heap.size) (hS : va_S (xA N0) s.heap H locs) : PreS s H (va_Pc av (xB D cl tys N0 M)) av :=
  ⟨x_blind, fun U hU hW => ⟨rfl, by rw [hU]; exact Nat.le_trans hN hS.1, by rw [hU]; exact hM, va_K.moved hW.alike hK⟩⟩
theorem x_preV {b : Nat} {av : List Value} {D : va_G} {cl : List vw_C} {tys : List (ClassId × FieldType)} {N0 : Nat} {M : xM} {s : State} {H : Heap} {locs : List Loc} {ci : Nat} {fs : List Value} {q : vw_C} (hK : va_K D cl tys s) (hM : xW D cl N0 M H) (hN : N0 ≤ s.heap.size) (hS : va_S (xA N0) s.heap H locs) (he : M b = some (xO ci fs)) (hc : cl[ci]? = some q) : PreV s H q.1 b (va_Pc (.ref b :: av) (xB D cl tys N0 M)) av := by
  refine ⟨x_blind, ?_, fun U hU hW => ⟨rfl, by rw [hU]; exact Nat.le_trans hN hS.1, by rw [hU]; exact hM, va_K.moved hW.alike hK⟩⟩
  obtain ⟨ws, hP, hD, hm⟩ := hM
  obtain ⟨k, hk⟩ := (hm b _).mp he
  exact va_recv hK hP hc hk
section XCALLS
variable {p : Program} {l : Launch} {e : Env} {R : Room} {s : State} {m : MethodId} {args : Array Value} {below : List Frame} {meth : Method} {c : Code} {H : Heap} {locs : List Loc} {cells slots : Nat} {Q : State → Prop}
variable {pc : Nat} {ls : Array Slot} {rest st0 : List Value} {a : Array Value} {mc ms N0 : Nat} {D : va_G} {cl : List vw_C} {tys : List (ClassId × FieldType)}
theorem x_calli {post : Int32 → xM → Prop} (hr : va_Run p l e R s m args below meth c H locs cells slots mc ms (F0 m pc ls st0) rest (va_Qi post (xB D cl tys N0) (xA N0) a) (xA N0)) (hS : va_S (xA N0) s.heap H locs)
    (kk : ∀ (r : Int32) (M1 : xM) (H1 : Heap) (locs1 : List Loc), post r M1 → xW D cl N0 M1 H1 → va_S (xA N0) s.heap H1 locs1 → W p l e R s m args below meth c H1 locs1 (cells + mc) (slots + ms) Q (F0 m (pc + 3) ls (.int r :: rest))) : W p l e R s m args below meth c H locs cells slots Q (F0 m pc ls st0) :=
  va_calli hr hS (fun _ _ h => h) (fun _ h => h) (fun r u t H1 locs1 ht hvm hp hB hz hk hS1 => kk r u H1 locs1 hp (by rw [← ht]; exact hB.2.1) hS1)
theorem x_calll {post : Int64 → xM → Prop} (hr : va_Run p l e R s m args below meth c H locs cells slots mc ms (F0 m pc ls st0) rest (va_Ql post (xB D cl tys N0) (xA N0) a) (xA N0)) (hS : va_S (xA N0) s.heap H locs)
    (kk : ∀ (r : Int64) (M1 : xM) (H1 : Heap) (locs1 : List Loc), post r M1 → xW D cl N0 M1 H1 → va_S (xA N0) s.heap H1 locs1 → W p l e R s m args below meth c H1 locs1 (cells + mc) (slots + ms) Q (F0 m (pc + 3) ls (.long r :: rest))) : W p l e R s m args below meth c H locs cells slots Q (F0 m pc ls st0) :=
  va_calll hr hS (fun _ _ h => h) (fun _ h => h) (fun r u t H1 locs1 ht hvm hp hB hz hk hS1 => kk r u H1 locs1 hp (by rw [← ht]; exact hB.2.1) hS1)
theorem x_callv {post : xM → Prop} (hr : va_Run p l e R s m args below meth c H locs cells slots mc ms (F0 m pc ls st0) rest (va_Qv post (xB D cl tys N0) (xA N0) a) (xA N0)) (hS : va_S (xA N0) s.heap H locs)
    (kk : ∀ (M1 : xM) (H1 : Heap) (locs1 : List Loc), post M1 → xW D cl N0 M1 H1 → va_S (xA N0) s.heap H1 locs1 → W p l e R s m args below meth c H1 locs1 (cells + mc) (slots + ms) Q (F0 m (pc + 3) ls rest)) : W p l e R s m args below meth c H locs cells slots Q (F0 m pc ls st0) :=
  va_callv hr hS (fun _ _ h => h) (fun _ h => h) (fun u t H1 locs1 ht hvm hp hB hz hk hS1 => kk u H1 locs1 hp (by rw [← ht]; exact hB.2.1) hS1)
theorem x_callr {post : xM × Nat → Prop} (hr : va_Run p l e R s m args below meth c H locs cells slots mc ms (F0 m pc ls st0) rest (va_Qr (S := xM) (fun _ => True) (fun M1 ra t => post (M1, ra) ∧ xB D cl tys N0 M1 t) (xA N0) a) (xA N0)) (hS : va_S (xA N0) s.heap H locs)
    (kk : ∀ (ra : Nat) (M1 : xM) (H1 : Heap) (locs1 : List Loc), post (M1, ra) → xW D cl N0 M1 H1 → va_S (xA N0) s.heap H1 locs1 → W p l e R s m args below meth c H1 locs1 (cells + mc) (slots + ms) Q (F0 m (pc + 3) ls (.ref ra :: rest))) : W p l e R s m args below meth c H locs cells slots Q (F0 m pc ls st0) :=
  va_callr hr hS (fun _ _ h => h) (fun _ h => h) (fun u ra t H1 locs1 ht hvm hp hB hz hk hS1 => kk ra u H1 locs1 hB.1 (by rw [← ht]; exact hB.2.2.1) hS1)
end XCALLS

/-- what stays the same while a method runs: the machine, its code, its words, the classes; N0: the heap's size when the law began -/
def xC (p : Program) (s : State) (m : MethodId) (args : Array Value) (meth : Method) (c : Code) (cc : ByteArray) (nL : Nat) (ret : Option FieldType) (own : String) (Ts : List Cond) (D : va_G) (cl : List vw_C) (tys : List (ClassId × FieldType)) (N0 : Nat) : Prop :=
  p.tables.exec = Jvm.exec ∧ c.code = cc ∧ c.maxLocals = nL ∧ s.vm.findClass own = some m.cls ∧ (∀ w ∈ Ts, w.before args s = true) ∧ meth.sig.returnType = ret ∧ meth.locks = false ∧ va_K D cl tys s ∧ N0 ≤ s.heap.size
section RROWS
variable {p : Program} {l : Launch} {e : Env} {R : Room} {s : State} {m : MethodId} {args : Array Value} {below : List Frame} {meth : Method} {c : Code} {H : Heap} {locs : List Loc} {cells slots : Nat} {Q : State → Prop}
variable {cc : ByteArray} {pc nL : Nat} {ret : Option FieldType} {own : String} {Ts : List Cond} {ls : Array Slot} {rest : List Value} {D : va_G} {cl : List vw_C} {a : Nat} {tys : List (ClassId × FieldType)} {N0 : Nat} {M : xM}
theorem r_iald (C : xC p s m args meth c cc nL ret own Ts D cl tys N0) (hM : xW D cl N0 M H) {cA : ClassId} {n : Nat} {f : Nat → Int32} (ha : M a = some (xI cA n f)) (ht : tys[0]? = some (cA, .int)) {i : Nat} (hi : i < n) (hn : n < 2 ^ 31) (hdg : decode cc pc = .ok (.iaload, 1))
    (kk : W p l e R s m args below meth c H locs cells slots Q (F0 m (pc + 1) ls (.int (f i) :: rest))) : W p l e R s m args below meth c H locs cells slots Q (F0 m pc ls (.int (nI i) :: .ref a :: rest)) := by
  obtain ⟨hx, hb, hml, hown, hts, hr, hlocks, hK, hN⟩ := C
  exact x_iald hx hb hK hM 0 ha ht hi hn hdg kk
theorem r_iast (C : xC p s m args meth c cc nL ret own Ts D cl tys N0) (hM : xW D cl N0 M H) (hS : va_S (xA N0) s.heap H locs) {cA : ClassId} {n : Nat} {f : Nat → Int32} (ha : M a = some (xI cA n f)) (ht : tys[0]? = some (cA, .int)) {i : Nat} {x : Int32} (hi : i < n) (hn : n < 2 ^ 31) (hdg : decode cc pc = .ok (.iastore, 1))
    (kk : ∀ (H1 : Heap) (locs1 : List Loc), xW D cl N0 (xset M a (xI cA n (upd f i x))) H1 → va_S (xA N0) s.heap H1 locs1 → W p l e R s m args below meth c H1 locs1 cells slots Q (F0 m (pc + 1) ls rest)) : W p l e R s m args below meth c H locs cells slots Q (F0 m pc ls (.int x :: .int (nI i) :: .ref a :: rest)) := by
  obtain ⟨hx, hb, hml, hown, hts, hr, hlocks, hK, hN⟩ := C
  exact x_iast hx hb hK hM hS 0 ha ht hi hn hdg kk
theorem r_zald (C : xC p s m args meth c cc nL ret own Ts D cl tys N0) (hM : xW D cl N0 M H) {cA : ClassId} {n : Nat} {f : Nat → Int32} (ha : M a = some (xI cA n f)) (ht : tys[1]? = some (cA, .boolean)) {i : Nat} (hi : i < n) (hn : n < 2 ^ 31) (hdg : decode cc pc = .ok (.baload, 1))
    (kk : W p l e R s m args below meth c H locs cells slots Q (F0 m (pc + 1) ls (.int (f i) :: rest))) : W p l e R s m args below meth c H locs cells slots Q (F0 m pc ls (.int (nI i) :: .ref a :: rest)) := by
  obtain ⟨hx, hb, hml, hown, hts, hr, hlocks, hK, hN⟩ := C
  obtain ⟨ws, hP, hD, hm⟩ := hM
  obtain ⟨k, hk⟩ := (hm a _).mp ha
  refine va_zald hx hb hK hP k 1 hk ht (vp_in_nI hi hn) hdg ?_
  rw [nI_clamp (by omega)]
  exact kk
theorem r_zast (C : xC p s m args meth c cc nL ret own Ts D cl tys N0) (hM : xW D cl N0 M H) (hS : va_S (xA N0) s.heap H locs) {cA : ClassId} {n : Nat} {f : Nat → Int32} (ha : M a = some (xI cA n f)) (ht : tys[1]? = some (cA, .boolean)) {i : Nat} {x : Int32} (hi : i < n) (hn : n < 2 ^ 31) (hz : vp_nar .boolean x = x) (hdg : decode cc pc = .ok (.bastore, 1))
    (kk : ∀ (H1 : Heap) (locs1 : List Loc), xW D cl N0 (xset M a (xI cA n (upd f i x))) H1 → va_S (xA N0) s.heap H1 locs1 → W p l e R s m args below meth c H1 locs1 cells slots Q (F0 m (pc + 1) ls rest)) : W p l e R s m args below meth c H locs cells slots Q (F0 m pc ls (.int x :: .int (nI i) :: .ref a :: rest)) := by
  obtain ⟨hx, hb, hml, hown, hts, hr, hlocks, hK, hN⟩ := C
  obtain ⟨ws, hP, hD, hm⟩ := hM
  obtain ⟨k, hk⟩ := (hm a _).mp ha
  refine va_zast hx hb hK hP hD hS k 1 hk ht (vp_in_nI hi hn) hdg (fun H1 locs1 hP1 hD1 hS1 => ?_)
  rw [nI_clamp (by omega), hz] at hP1 hD1
  exact kk H1 locs1 (xW.put hD hm hk hP1 hD1) hS1
theorem r_alen (C : xC p s m args meth c cc nL ret own Ts D cl tys N0) (hM : xW D cl N0 M H) {cA : ClassId} {n : Nat} {f : Nat → Int32} (ha : M a = some (xI cA n f)) (ht : tys[0]? = some (cA, .int)) (hdg : decode cc pc = .ok (.arraylength, 1))
    (kk : W p l e R s m args below meth c H locs cells slots Q (F0 m (pc + 1) ls (.int (nI n) :: rest))) : W p l e R s m args below meth c H locs cells slots Q (F0 m pc ls (.ref a :: rest)) := by
  obtain ⟨hx, hb, hml, hown, hts, hr, hlocks, hK, hN⟩ := C
  exact x_alen hx hb hK hM 0 ha ht hdg kk
/-- a place of an array of references -/
theorem r_aald (C : xC p s m args meth c cc nL ret own Ts D cl tys N0) (hM : xW D cl N0 M H) {cA : ClassId} {n t0 : Nat} {f : Nat → Option Nat} {ty : FieldType} (ha : M a = some (xQ cA n f)) (ht : tys[t0]? = some (cA, ty)) (hty : ty.isReference = true) {i q : Nat} (hi : i < n) (hn : n < 2 ^ 31) (hq : f i = some q) (hdg : decode cc pc = .ok (.aaload, 1))
    (kk : W p l e R s m args below meth c H locs cells slots Q (F0 m (pc + 1) ls (.ref q :: rest))) : W p l e R s m args below meth c H locs cells slots Q (F0 m pc ls (.int (nI i) :: .ref a :: rest)) := by
  obtain ⟨hx, hb, hml, hown, hts, hr, hlocks, hK, hN⟩ := C
  obtain ⟨ws, hP, hD, hm⟩ := hM
  obtain ⟨k, hk⟩ := (hm a _).mp ha
  refine W.aald (v := .ref q) (ty := ty) hx hb (hP k _ hk) ((hK.2 t0 _ ht).1 n (fun j => va_rf (f j))) hty (fun q => by cases q) ?_ ?_ rfl rfl hdg kk
  · show ¬ (nI i < 0 ∨ (arrV _ _ _).slots.size ≤ _)
    rw [arrV_size]
    exact vp_in_nI hi hn
  · show (arrV _ _ _).slots[_]? = _
    rw [nI_clamp (by omega), arrV_read _ _ hi, hq]
    rfl
-- ints by their numbers
theorem r_iaddN (C : xC p s m args meth c cc nL ret own Ts D cl tys N0) {x y : Nat} (hdg : decode cc pc = .ok (.iadd, 1)) (kk : W p l e R s m args below meth c H locs cells slots Q (F0 m (pc + 1) ls (.int (nI (x + y)) :: rest))) : W p l e R s m args below meth c H locs cells slots Q (F0 m pc ls (.int (nI y) :: .int (nI x) :: rest)) := by
  obtain ⟨hx, hb, -⟩ := C
  refine lv_iadd hx hb hdg ?_
  rw [nI_add]
  exact kk
theorem r_isubN (C : xC p s m args meth c cc nL ret own Ts D cl tys N0) {x y : Nat} (h : y ≤ x) (hdg : decode cc pc = .ok (.isub, 1)) (kk : W p l e R s m args below meth c H locs cells slots Q (F0 m (pc + 1) ls (.int (nI (x - y)) :: rest))) : W p l e R s m args below meth c H locs cells slots Q (F0 m pc ls (.int (nI y) :: .int (nI x) :: rest)) := by
  obtain ⟨hx, hb, -⟩ := C
  refine lv_isub hx hb hdg ?_
  rw [pk_sub h]
  exact kk
theorem r_imulN (C : xC p s m args meth c cc nL ret own Ts D cl tys N0) {x y : Nat} (hdg : decode cc pc = .ok (.imul, 1)) (kk : W p l e R s m args below meth c H locs cells slots Q (F0 m (pc + 1) ls (.int (nI (x * y)) :: rest))) : W p l e R s m args below meth c H locs cells slots Q (F0 m pc ls (.int (nI y) :: .int (nI x) :: rest)) := by
  obtain ⟨hx, hb, -⟩ := C
  refine lv_imul hx hb hdg ?_
  rw [pk_mul]
  exact kk
theorem r_topi (C : xC p s m args meth c cc nL ret own Ts D cl tys N0) {x : Int32} (y : Int32) (h : x = y) (kk : W p l e R s m args below meth c H locs cells slots Q (F0 m pc ls (.int y :: rest))) : W p l e R s m args below meth c H locs cells slots Q (F0 m pc ls (.int x :: rest)) := by
  subst h
  exact kk
theorem r_topl (C : xC p s m args meth c cc nL ret own Ts D cl tys N0) {x : Int64} (y : Int64) (h : x = y) (kk : W p l e R s m args below meth c H locs cells slots Q (F0 m pc ls (.long y :: rest))) : W p l e R s m args below meth c H locs cells slots Q (F0 m pc ls (.long x :: rest)) := by
  subst h
  exact kk
theorem r_icmp_geN (C : xC p s m args meth c cc nL ret own Ts D cl tys N0) {x y : Nat} {off : Int} {tgt : Nat} (h1 : x < 2 ^ 31) (h2 : y < 2 ^ 31) (hdg : decode cc pc = .ok (.if_icmp .ge off, 3)) (ht : (pc : Int) + off = (tgt : Int)) (k1 : y ≤ x → W p l e R s m args below meth c H locs cells slots Q (F0 m tgt ls rest)) (k2 : x < y → W p l e R s m args below meth c H locs cells slots Q (F0 m (pc + 3) ls rest)) : W p l e R s m args below meth c H locs cells slots Q (F0 m pc ls (.int (nI y) :: .int (nI x) :: rest)) := by
  obtain ⟨hx, hb, -⟩ := C
  refine lv_icmp_ge hx hb hdg ht (fun h => k1 ((nI_leI h2 h1).mp h)) (fun h => k2 ?_)
  have hh : ¬ (y ≤ x) := fun q => h ((nI_leI h2 h1).mpr q)
  exact by omega
theorem r_icmp_ltN (C : xC p s m args meth c cc nL ret own Ts D cl tys N0) {x y : Nat} {off : Int} {tgt : Nat} (h1 : x < 2 ^ 31) (h2 : y < 2 ^ 31) (hdg : decode cc pc = .ok (.if_icmp .lt off, 3)) (ht : (pc : Int) + off = (tgt : Int)) (k1 : x < y → W p l e R s m args below meth c H locs cells slots Q (F0 m tgt ls rest)) (k2 : y ≤ x → W p l e R s m args below meth c H locs cells slots Q (F0 m (pc + 3) ls rest)) : W p l e R s m args below meth c H locs cells slots Q (F0 m pc ls (.int (nI y) :: .int (nI x) :: rest)) := by
  obtain ⟨hx, hb, -⟩ := C
  refine lv_icmp_lt hx hb hdg ht (fun h => k1 ((nI_ltI h1 h2).mp h)) (fun h => k2 ?_)
  have hh : ¬ (x < y) := fun q => h ((nI_ltI h1 h2).mpr q)
  exact by omega
theorem r_icmp_gtN (C : xC p s m args meth c cc nL ret own Ts D cl tys N0) {x y : Nat} {off : Int} {tgt : Nat} (h1 : x < 2 ^ 31) (h2 : y < 2 ^ 31) (hdg : decode cc pc = .ok (.if_icmp .gt off, 3)) (ht : (pc : Int) + off = (tgt : Int)) (k1 : y < x → W p l e R s m args below meth c H locs cells slots Q (F0 m tgt ls rest)) (k2 : x ≤ y → W p l e R s m args below meth c H locs cells slots Q (F0 m (pc + 3) ls rest)) : W p l e R s m args below meth c H locs cells slots Q (F0 m pc ls (.int (nI y) :: .int (nI x) :: rest)) := by
  obtain ⟨hx, hb, -⟩ := C
  refine lv_icmp_gt hx hb hdg ht (fun h => k1 ((nI_ltI h2 h1).mp h)) (fun h => k2 ?_)
  have hh : ¬ (y < x) := fun q => h ((nI_ltI h2 h1).mpr q)
  exact by omega
theorem r_icmp_leN (C : xC p s m args meth c cc nL ret own Ts D cl tys N0) {x y : Nat} {off : Int} {tgt : Nat} (h1 : x < 2 ^ 31) (h2 : y < 2 ^ 31) (hdg : decode cc pc = .ok (.if_icmp .le off, 3)) (ht : (pc : Int) + off = (tgt : Int)) (k1 : x ≤ y → W p l e R s m args below meth c H locs cells slots Q (F0 m tgt ls rest)) (k2 : y < x → W p l e R s m args below meth c H locs cells slots Q (F0 m (pc + 3) ls rest)) : W p l e R s m args below meth c H locs cells slots Q (F0 m pc ls (.int (nI y) :: .int (nI x) :: rest)) := by
  obtain ⟨hx, hb, -⟩ := C
  refine lv_icmp_le hx hb hdg ht (fun h => k1 ((nI_leI h1 h2).mp h)) (fun h => k2 ?_)
  have hh : ¬ (x ≤ y) := fun q => h ((nI_leI h1 h2).mpr q)
  exact by omega
theorem r_icmp_eqN (C : xC p s m args meth c cc nL ret own Ts D cl tys N0) {x y : Nat} {off : Int} {tgt : Nat} (h1 : x < 2 ^ 31) (h2 : y < 2 ^ 31) (hdg : decode cc pc = .ok (.if_icmp .eq off, 3)) (ht : (pc : Int) + off = (tgt : Int)) (k1 : x = y → W p l e R s m args below meth c H locs cells slots Q (F0 m tgt ls rest)) (k2 : x ≠ y → W p l e R s m args below meth c H locs cells slots Q (F0 m (pc + 3) ls rest)) : W p l e R s m args below meth c H locs cells slots Q (F0 m pc ls (.int (nI y) :: .int (nI x) :: rest)) := by
  obtain ⟨hx, hb, -⟩ := C
  refine lv_icmp_eq hx hb hdg ht (fun h => k1 ((nI_eq h1 h2).mp h)) (fun h => k2 ?_)
  have hh : ¬ (x = y) := fun q => h ((nI_eq h1 h2).mpr q)
  exact hh
theorem r_icmp_neN (C : xC p s m args meth c cc nL ret own Ts D cl tys N0) {x y : Nat} {off : Int} {tgt : Nat} (h1 : x < 2 ^ 31) (h2 : y < 2 ^ 31) (hdg : decode cc pc = .ok (.if_icmp .ne off, 3)) (ht : (pc : Int) + off = (tgt : Int)) (k1 : x ≠ y → W p l e R s m args below meth c H locs cells slots Q (F0 m tgt ls rest)) (k2 : x = y → W p l e R s m args below meth c H locs cells slots Q (F0 m (pc + 3) ls rest)) : W p l e R s m args below meth c H locs cells slots Q (F0 m pc ls (.int (nI y) :: .int (nI x) :: rest)) := by
  obtain ⟨hx, hb, -⟩ := C
  refine lv_icmp_ne hx hb hdg ht (fun h => k1 ((not_congr (nI_eq h1 h2)).mp h)) (fun h => k2 ?_)
  exact (nI_eq h1 h2).mp h

theorem nI_z : (0 : Int32) = nI 0 := nI_0.symm
theorem r_if_geN (C : xC p s m args meth c cc nL ret own Ts D cl tys N0) {x : Nat} {off : Int} {tgt : Nat} (h1 : x < 2 ^ 31) (hdg : decode cc pc = .ok (.ifCond .ge off, 3)) (ht : (pc : Int) + off = (tgt : Int)) (k1 : True → W p l e R s m args below meth c H locs cells slots Q (F0 m tgt ls rest)) (k2 : False → W p l e R s m args below meth c H locs cells slots Q (F0 m (pc + 3) ls rest)) : W p l e R s m args below meth c H locs cells slots Q (F0 m pc ls (.int (nI x) :: rest)) := by
  obtain ⟨hx, hb, -⟩ := C
  have hi := nI_toInt h1
  refine lv_if_ge hx hb hdg ht (fun h => k1 ?_) (fun h => k2 ?_)
  all_goals (first | rw [i_le] at h | rw [i_lt] at h | skip)
  all_goals (try rw [hi] at h)
  all_goals (try rw [Int32.toInt_zero] at h)
  all_goals (first | trivial | omega | (rw [nI_z, nI_eq h1 (by decide)] at h; first | exact h | exact Decidable.not_not.mp h) | (rw [nI_z] at h; have h3 := fun q => h ((nI_eq h1 (by decide)).mpr q); first | exact h3 | exact Decidable.not_not.mp h3))
theorem r_if_ltN (C : xC p s m args meth c cc nL ret own Ts D cl tys N0) {x : Nat} {off : Int} {tgt : Nat} (h1 : x < 2 ^ 31) (hdg : decode cc pc = .ok (.ifCond .lt off, 3)) (ht : (pc : Int) + off = (tgt : Int)) (k1 : False → W p l e R s m args below meth c H locs cells slots Q (F0 m tgt ls rest)) (k2 : True → W p l e R s m args below meth c H locs cells slots Q (F0 m (pc + 3) ls rest)) : W p l e R s m args below meth c H locs cells slots Q (F0 m pc ls (.int (nI x) :: rest)) := by
  obtain ⟨hx, hb, -⟩ := C
  have hi := nI_toInt h1
  refine lv_if_lt hx hb hdg ht (fun h => k1 ?_) (fun h => k2 ?_)
  all_goals (first | rw [i_le] at h | rw [i_lt] at h | skip)
  all_goals (try rw [hi] at h)
  all_goals (try rw [Int32.toInt_zero] at h)
  all_goals (first | trivial | omega | (rw [nI_z, nI_eq h1 (by decide)] at h; first | exact h | exact Decidable.not_not.mp h) | (rw [nI_z] at h; have h3 := fun q => h ((nI_eq h1 (by decide)).mpr q); first | exact h3 | exact Decidable.not_not.mp h3))
theorem r_if_gtN (C : xC p s m args meth c cc nL ret own Ts D cl tys N0) {x : Nat} {off : Int} {tgt : Nat} (h1 : x < 2 ^ 31) (hdg : decode cc pc = .ok (.ifCond .gt off, 3)) (ht : (pc : Int) + off = (tgt : Int)) (k1 : 0 < x → W p l e R s m args below meth c H locs cells slots Q (F0 m tgt ls rest)) (k2 : x = 0 → W p l e R s m args below meth c H locs cells slots Q (F0 m (pc + 3) ls rest)) : W p l e R s m args below meth c H locs cells slots Q (F0 m pc ls (.int (nI x) :: rest)) := by
  obtain ⟨hx, hb, -⟩ := C
  have hi := nI_toInt h1
  refine lv_if_gt hx hb hdg ht (fun h => k1 ?_) (fun h => k2 ?_)
  all_goals (first | rw [i_le] at h | rw [i_lt] at h | skip)
  all_goals (try rw [hi] at h)
  all_goals (try rw [Int32.toInt_zero] at h)
  all_goals (first | trivial | omega | (rw [nI_z, nI_eq h1 (by decide)] at h; first | exact h | exact Decidable.not_not.mp h) | (rw [nI_z] at h; have h3 := fun q => h ((nI_eq h1 (by decide)).mpr q); first | exact h3 | exact Decidable.not_not.mp h3))
theorem r_if_leN (C : xC p s m args meth c cc nL ret own Ts D cl tys N0) {x : Nat} {off : Int} {tgt : Nat} (h1 : x < 2 ^ 31) (hdg : decode cc pc = .ok (.ifCond .le off, 3)) (ht : (pc : Int) + off = (tgt : Int)) (k1 : x = 0 → W p l e R s m args below meth c H locs cells slots Q (F0 m tgt ls rest)) (k2 : 0 < x → W p l e R s m args below meth c H locs cells slots Q (F0 m (pc + 3) ls rest)) : W p l e R s m args below meth c H locs cells slots Q (F0 m pc ls (.int (nI x) :: rest)) := by
  obtain ⟨hx, hb, -⟩ := C
  have hi := nI_toInt h1
  refine lv_if_le hx hb hdg ht (fun h => k1 ?_) (fun h => k2 ?_)
  all_goals (first | rw [i_le] at h | rw [i_lt] at h | skip)
  all_goals (try rw [hi] at h)
  all_goals (try rw [Int32.toInt_zero] at h)
  all_goals (first | trivial | omega | (rw [nI_z, nI_eq h1 (by decide)] at h; first | exact h | exact Decidable.not_not.mp h) | (rw [nI_z] at h; have h3 := fun q => h ((nI_eq h1 (by decide)).mpr q); first | exact h3 | exact Decidable.not_not.mp h3))
theorem r_if_eqN (C : xC p s m args meth c cc nL ret own Ts D cl tys N0) {x : Nat} {off : Int} {tgt : Nat} (h1 : x < 2 ^ 31) (hdg : decode cc pc = .ok (.ifCond .eq off, 3)) (ht : (pc : Int) + off = (tgt : Int)) (k1 : x = 0 → W p l e R s m args below meth c H locs cells slots Q (F0 m tgt ls rest)) (k2 : x ≠ 0 → W p l e R s m args below meth c H locs cells slots Q (F0 m (pc + 3) ls rest)) : W p l e R s m args below meth c H locs cells slots Q (F0 m pc ls (.int (nI x) :: rest)) := by
  obtain ⟨hx, hb, -⟩ := C
  have hi := nI_toInt h1
  refine lv_if_eq hx hb hdg ht (fun h => k1 ?_) (fun h => k2 ?_)
  all_goals (first | rw [i_le] at h | rw [i_lt] at h | skip)
  all_goals (try rw [hi] at h)
  all_goals (try rw [Int32.toInt_zero] at h)
  all_goals (first | trivial | omega | (rw [nI_z, nI_eq h1 (by decide)] at h; first | exact h | exact Decidable.not_not.mp h) | (rw [nI_z] at h; have h3 := fun q => h ((nI_eq h1 (by decide)).mpr q); first | exact h3 | exact Decidable.not_not.mp h3))
theorem r_if_neN (C : xC p s m args meth c cc nL ret own Ts D cl tys N0) {x : Nat} {off : Int} {tgt : Nat} (h1 : x < 2 ^ 31) (hdg : decode cc pc = .ok (.ifCond .ne off, 3)) (ht : (pc : Int) + off = (tgt : Int)) (k1 : x ≠ 0 → W p l e R s m args below meth c H locs cells slots Q (F0 m tgt ls rest)) (k2 : x = 0 → W p l e R s m args below meth c H locs cells slots Q (F0 m (pc + 3) ls rest)) : W p l e R s m args below meth c H locs cells slots Q (F0 m pc ls (.int (nI x) :: rest)) := by
  obtain ⟨hx, hb, -⟩ := C
  have hi := nI_toInt h1
  refine lv_if_ne hx hb hdg ht (fun h => k1 ?_) (fun h => k2 ?_)
  all_goals (first | rw [i_le] at h | rw [i_lt] at h | skip)
  all_goals (try rw [hi] at h)
  all_goals (try rw [Int32.toInt_zero] at h)
  all_goals (first | trivial | omega | (rw [nI_z, nI_eq h1 (by decide)] at h; first | exact h | exact Decidable.not_not.mp h) | (rw [nI_z] at h; have h3 := fun q => h ((nI_eq h1 (by decide)).mpr q); first | exact h3 | exact Decidable.not_not.mp h3))
end RROWS

section RCALLS
variable {p : Program} {l : Launch} {e : Env} {R : Room} {s : State} {m : MethodId} {args : Array Value} {below : List Frame} {meth : Method} {c : Code} {H : Heap} {locs : List Loc} {cells slots : Nat} {Q : State → Prop}
variable {cc : ByteArray} {pc nL : Nat} {ret : Option FieldType} {own : String} {Ts : List Cond} {ls : Array Slot} {rest : List Value} {D : va_G} {cl : List vw_C} {tys : List (ClassId × FieldType)} {N0 : Nat} {M : xM}
variable {y : MethodName} {bytes : ByteArray} {maxL mc ms index : Nat} {rt : Option FieldType} {ws ws' : List Cond} {rm : Room} {As st0 : List Value} {b : Nat}
theorem r_Si {post : Int32 → xM → Prop} (C : xC p s m args meth c cc nL ret own Ts D cl tys N0) (hM : xW D cl N0 M H) (hS : va_S (xA N0) s.heap H locs) (hC : Met l y ws rm (va_Pc As (xB D cl tys N0 M)) (va_Qi post (xB D cl tys N0) (xA N0)) mc ms (xA N0)) (hT : GoodIn Ts (va_wsS own index y ws)) (hw : ws = Cond.code y bytes maxL rt :: ws') (hrc : rm.cells = mc) (hrs : rm.slots = ms) (hd : y.cls ≠ "java/lang/invoke/MethodHandle" ∧ y.cls ≠ "java/lang/invoke/VarHandle" ∧ (parseMethodDescriptor y.desc).map (fun d => d.parameters.length) = some As.length) (hR : rm.frames + 1 ≤ R.frames ∧ 8 + (maxL + 11) + rm.locals ≤ R.locals) (hl : ls.size = nL) (hst : st0 = As.reverse ++ rest) (hrest : (rest.map fun v => v.category).sum ≤ 8) (hdg : decode cc pc = .ok (.invokestatic index, 3)) (hf : cells + mc ≤ R.cells ∧ slots + ms ≤ R.slots)
    (kk : ∀ (r : Int32) (M1 : xM) (H1 : Heap) (locs1 : List Loc), post r M1 → xW D cl N0 M1 H1 → va_S (xA N0) s.heap H1 locs1 → W p l e R s m args below meth c H1 locs1 (cells + mc) (slots + ms) Q (F0 m (pc + 3) ls (.int r :: rest))) : W p l e R s m args below meth c H locs cells slots Q (F0 m pc ls st0) := by
  obtain ⟨hx, hb, hml, hown, hts, hr, hlocks, hK, hN⟩ := C
  exact x_calli (va_runS ⟨hx, hb, hml, hown, hts⟩ hC (va_cwS As.length hts hT hw hrc hrs hd hR) (x_pre hK hM hN hS) rfl rfl hl hst (lv_room hrest) hdg hf) hS kk
theorem r_Sl {post : Int64 → xM → Prop} (C : xC p s m args meth c cc nL ret own Ts D cl tys N0) (hM : xW D cl N0 M H) (hS : va_S (xA N0) s.heap H locs) (hC : Met l y ws rm (va_Pc As (xB D cl tys N0 M)) (va_Ql post (xB D cl tys N0) (xA N0)) mc ms (xA N0)) (hT : GoodIn Ts (va_wsS own index y ws)) (hw : ws = Cond.code y bytes maxL rt :: ws') (hrc : rm.cells = mc) (hrs : rm.slots = ms) (hd : y.cls ≠ "java/lang/invoke/MethodHandle" ∧ y.cls ≠ "java/lang/invoke/VarHandle" ∧ (parseMethodDescriptor y.desc).map (fun d => d.parameters.length) = some As.length) (hR : rm.frames + 1 ≤ R.frames ∧ 8 + (maxL + 11) + rm.locals ≤ R.locals) (hl : ls.size = nL) (hst : st0 = As.reverse ++ rest) (hrest : (rest.map fun v => v.category).sum ≤ 8) (hdg : decode cc pc = .ok (.invokestatic index, 3)) (hf : cells + mc ≤ R.cells ∧ slots + ms ≤ R.slots)
    (kk : ∀ (r : Int64) (M1 : xM) (H1 : Heap) (locs1 : List Loc), post r M1 → xW D cl N0 M1 H1 → va_S (xA N0) s.heap H1 locs1 → W p l e R s m args below meth c H1 locs1 (cells + mc) (slots + ms) Q (F0 m (pc + 3) ls (.long r :: rest))) : W p l e R s m args below meth c H locs cells slots Q (F0 m pc ls st0) := by
  obtain ⟨hx, hb, hml, hown, hts, hr, hlocks, hK, hN⟩ := C
  exact x_calll (va_runS ⟨hx, hb, hml, hown, hts⟩ hC (va_cwS As.length hts hT hw hrc hrs hd hR) (x_pre hK hM hN hS) rfl rfl hl hst (lv_room hrest) hdg hf) hS kk
theorem r_Sv {post : xM → Prop} (C : xC p s m args meth c cc nL ret own Ts D cl tys N0) (hM : xW D cl N0 M H) (hS : va_S (xA N0) s.heap H locs) (hC : Met l y ws rm (va_Pc As (xB D cl tys N0 M)) (va_Qv post (xB D cl tys N0) (xA N0)) mc ms (xA N0)) (hT : GoodIn Ts (va_wsS own index y ws)) (hw : ws = Cond.code y bytes maxL rt :: ws') (hrc : rm.cells = mc) (hrs : rm.slots = ms) (hd : y.cls ≠ "java/lang/invoke/MethodHandle" ∧ y.cls ≠ "java/lang/invoke/VarHandle" ∧ (parseMethodDescriptor y.desc).map (fun d => d.parameters.length) = some As.length) (hR : rm.frames + 1 ≤ R.frames ∧ 8 + (maxL + 11) + rm.locals ≤ R.locals) (hl : ls.size = nL) (hst : st0 = As.reverse ++ rest) (hrest : (rest.map fun v => v.category).sum ≤ 8) (hdg : decode cc pc = .ok (.invokestatic index, 3)) (hf : cells + mc ≤ R.cells ∧ slots + ms ≤ R.slots)
    (kk : ∀ (M1 : xM) (H1 : Heap) (locs1 : List Loc), post M1 → xW D cl N0 M1 H1 → va_S (xA N0) s.heap H1 locs1 → W p l e R s m args below meth c H1 locs1 (cells + mc) (slots + ms) Q (F0 m (pc + 3) ls (rest))) : W p l e R s m args below meth c H locs cells slots Q (F0 m pc ls st0) := by
  obtain ⟨hx, hb, hml, hown, hts, hr, hlocks, hK, hN⟩ := C
  exact x_callv (va_runS ⟨hx, hb, hml, hown, hts⟩ hC (va_cwS As.length hts hT hw hrc hrs hd hR) (x_pre hK hM hN hS) rfl rfl hl hst (lv_room hrest) hdg hf) hS kk
theorem r_Sr {post : xM × Nat → Prop} (C : xC p s m args meth c cc nL ret own Ts D cl tys N0) (hM : xW D cl N0 M H) (hS : va_S (xA N0) s.heap H locs) (hC : Met l y ws rm (va_Pc As (xB D cl tys N0 M)) (va_Qr (S := xM) (fun _ => True) (fun M1 ra t => post (M1, ra) ∧ xB D cl tys N0 M1 t) (xA N0)) mc ms (xA N0)) (hT : GoodIn Ts (va_wsS own index y ws)) (hw : ws = Cond.code y bytes maxL rt :: ws') (hrc : rm.cells = mc) (hrs : rm.slots = ms) (hd : y.cls ≠ "java/lang/invoke/MethodHandle" ∧ y.cls ≠ "java/lang/invoke/VarHandle" ∧ (parseMethodDescriptor y.desc).map (fun d => d.parameters.length) = some As.length) (hR : rm.frames + 1 ≤ R.frames ∧ 8 + (maxL + 11) + rm.locals ≤ R.locals) (hl : ls.size = nL) (hst : st0 = As.reverse ++ rest) (hrest : (rest.map fun v => v.category).sum ≤ 8) (hdg : decode cc pc = .ok (.invokestatic index, 3)) (hf : cells + mc ≤ R.cells ∧ slots + ms ≤ R.slots)
    (kk : ∀ (ra : Nat) (M1 : xM) (H1 : Heap) (locs1 : List Loc), post (M1, ra) → xW D cl N0 M1 H1 → va_S (xA N0) s.heap H1 locs1 → W p l e R s m args below meth c H1 locs1 (cells + mc) (slots + ms) Q (F0 m (pc + 3) ls (.ref ra :: rest))) : W p l e R s m args below meth c H locs cells slots Q (F0 m pc ls st0) := by
  obtain ⟨hx, hb, hml, hown, hts, hr, hlocks, hK, hN⟩ := C
  exact x_callr (va_runS ⟨hx, hb, hml, hown, hts⟩ hC (va_cwS As.length hts hT hw hrc hrs hd hR) (x_pre hK hM hN hS) rfl rfl hl hst (lv_room hrest) hdg hf) hS kk
theorem r_Vi {post : Int32 → xM → Prop} (C : xC p s m args meth c cc nL ret own Ts D cl tys N0) (hM : xW D cl N0 M H) (hS : va_S (xA N0) s.heap H locs) (hC : Met l y ws rm (va_Pc (.ref b :: As) (xB D cl tys N0 M)) (va_Qi post (xB D cl tys N0) (xA N0)) mc ms (xA N0)) {ci : Nat} {fs : List Value} {q : vw_C} (he : M b = some (xO ci fs)) (hc : cl[ci]? = some q) (hT : GoodIn Ts (wsV own index q.1 y ws)) (hw : ws = Cond.code y bytes maxL rt :: ws') (hrc : rm.cells = mc) (hrs : rm.slots = ms) (hd : y.cls = q.1 ∧ y.cls ≠ "java/lang/invoke/MethodHandle" ∧ y.cls ≠ "java/lang/invoke/VarHandle" ∧ (parseMethodDescriptor y.desc).map (fun d => d.parameters.length) = some As.length) (hR : rm.frames + 1 ≤ R.frames ∧ 8 + (maxL + 11) + rm.locals ≤ R.locals) (hl : ls.size = nL) (hst : st0 = As.reverse ++ .ref b :: rest) (hrest : (rest.map fun v => v.category).sum ≤ 8) (hdg : decode cc pc = .ok (.invokevirtual index, 3)) (hf : cells + mc ≤ R.cells ∧ slots + ms ≤ R.slots)
    (kk : ∀ (r : Int32) (M1 : xM) (H1 : Heap) (locs1 : List Loc), post r M1 → xW D cl N0 M1 H1 → va_S (xA N0) s.heap H1 locs1 → W p l e R s m args below meth c H1 locs1 (cells + mc) (slots + ms) Q (F0 m (pc + 3) ls (.int r :: rest))) : W p l e R s m args below meth c H locs cells slots Q (F0 m pc ls st0) := by
  obtain ⟨hx, hb, hml, hown, hts, hr, hlocks, hK, hN⟩ := C
  exact x_calli (va_runV ⟨hx, hb, hml, hown, hts⟩ hC (cwV As.length hts hT hw hrc hrs hd hR) (x_preV hK hM hN hS he hc) rfl rfl hl hst (lv_room hrest) hdg hf) hS kk
theorem r_Vl {post : Int64 → xM → Prop} (C : xC p s m args meth c cc nL ret own Ts D cl tys N0) (hM : xW D cl N0 M H) (hS : va_S (xA N0) s.heap H locs) (hC : Met l y ws rm (va_Pc (.ref b :: As) (xB D cl tys N0 M)) (va_Ql post (xB D cl tys N0) (xA N0)) mc ms (xA N0)) {ci : Nat} {fs : List Value} {q : vw_C} (he : M b = some (xO ci fs)) (hc : cl[ci]? = some q) (hT : GoodIn Ts (wsV own index q.1 y ws)) (hw : ws = Cond.code y bytes maxL rt :: ws') (hrc : rm.cells = mc) (hrs : rm.slots = ms) (hd : y.cls = q.1 ∧ y.cls ≠ "java/lang/invoke/MethodHandle" ∧ y.cls ≠ "java/lang/invoke/VarHandle" ∧ (parseMethodDescriptor y.desc).map (fun d => d.parameters.length) = some As.length) (hR : rm.frames + 1 ≤ R.frames ∧ 8 + (maxL + 11) + rm.locals ≤ R.locals) (hl : ls.size = nL) (hst : st0 = As.reverse ++ .ref b :: rest) (hrest : (rest.map fun v => v.category).sum ≤ 8) (hdg : decode cc pc = .ok (.invokevirtual index, 3)) (hf : cells + mc ≤ R.cells ∧ slots + ms ≤ R.slots)
    (kk : ∀ (r : Int64) (M1 : xM) (H1 : Heap) (locs1 : List Loc), post r M1 → xW D cl N0 M1 H1 → va_S (xA N0) s.heap H1 locs1 → W p l e R s m args below meth c H1 locs1 (cells + mc) (slots + ms) Q (F0 m (pc + 3) ls (.long r :: rest))) : W p l e R s m args below meth c H locs cells slots Q (F0 m pc ls st0) := by
  obtain ⟨hx, hb, hml, hown, hts, hr, hlocks, hK, hN⟩ := C
  exact x_calll (va_runV ⟨hx, hb, hml, hown, hts⟩ hC (cwV As.length hts hT hw hrc hrs hd hR) (x_preV hK hM hN hS he hc) rfl rfl hl hst (lv_room hrest) hdg hf) hS kk
theorem r_Vv {post : xM → Prop} (C : xC p s m args meth c cc nL ret own Ts D cl tys N0) (hM : xW D cl N0 M H) (hS : va_S (xA N0) s.heap H locs) (hC : Met l y ws rm (va_Pc (.ref b :: As) (xB D cl tys N0 M)) (va_Qv post (xB D cl tys N0) (xA N0)) mc ms (xA N0)) {ci : Nat} {fs : List Value} {q : vw_C} (he : M b = some (xO ci fs)) (hc : cl[ci]? = some q) (hT : GoodIn Ts (wsV own index q.1 y ws)) (hw : ws = Cond.code y bytes maxL rt :: ws') (hrc : rm.cells = mc) (hrs : rm.slots = ms) (hd : y.cls = q.1 ∧ y.cls ≠ "java/lang/invoke/MethodHandle" ∧ y.cls ≠ "java/lang/invoke/VarHandle" ∧ (parseMethodDescriptor y.desc).map (fun d => d.parameters.length) = some As.length) (hR : rm.frames + 1 ≤ R.frames ∧ 8 + (maxL + 11) + rm.locals ≤ R.locals) (hl : ls.size = nL) (hst : st0 = As.reverse ++ .ref b :: rest) (hrest : (rest.map fun v => v.category).sum ≤ 8) (hdg : decode cc pc = .ok (.invokevirtual index, 3)) (hf : cells + mc ≤ R.cells ∧ slots + ms ≤ R.slots)
    (kk : ∀ (M1 : xM) (H1 : Heap) (locs1 : List Loc), post M1 → xW D cl N0 M1 H1 → va_S (xA N0) s.heap H1 locs1 → W p l e R s m args below meth c H1 locs1 (cells + mc) (slots + ms) Q (F0 m (pc + 3) ls (rest))) : W p l e R s m args below meth c H locs cells slots Q (F0 m pc ls st0) := by
  obtain ⟨hx, hb, hml, hown, hts, hr, hlocks, hK, hN⟩ := C
  exact x_callv (va_runV ⟨hx, hb, hml, hown, hts⟩ hC (cwV As.length hts hT hw hrc hrs hd hR) (x_preV hK hM hN hS he hc) rfl rfl hl hst (lv_room hrest) hdg hf) hS kk
theorem r_Vr {post : xM × Nat → Prop} (C : xC p s m args meth c cc nL ret own Ts D cl tys N0) (hM : xW D cl N0 M H) (hS : va_S (xA N0) s.heap H locs) (hC : Met l y ws rm (va_Pc (.ref b :: As) (xB D cl tys N0 M)) (va_Qr (S := xM) (fun _ => True) (fun M1 ra t => post (M1, ra) ∧ xB D cl tys N0 M1 t) (xA N0)) mc ms (xA N0)) {ci : Nat} {fs : List Value} {q : vw_C} (he : M b = some (xO ci fs)) (hc : cl[ci]? = some q) (hT : GoodIn Ts (wsV own index q.1 y ws)) (hw : ws = Cond.code y bytes maxL rt :: ws') (hrc : rm.cells = mc) (hrs : rm.slots = ms) (hd : y.cls = q.1 ∧ y.cls ≠ "java/lang/invoke/MethodHandle" ∧ y.cls ≠ "java/lang/invoke/VarHandle" ∧ (parseMethodDescriptor y.desc).map (fun d => d.parameters.length) = some As.length) (hR : rm.frames + 1 ≤ R.frames ∧ 8 + (maxL + 11) + rm.locals ≤ R.locals) (hl : ls.size = nL) (hst : st0 = As.reverse ++ .ref b :: rest) (hrest : (rest.map fun v => v.category).sum ≤ 8) (hdg : decode cc pc = .ok (.invokevirtual index, 3)) (hf : cells + mc ≤ R.cells ∧ slots + ms ≤ R.slots)
    (kk : ∀ (ra : Nat) (M1 : xM) (H1 : Heap) (locs1 : List Loc), post (M1, ra) → xW D cl N0 M1 H1 → va_S (xA N0) s.heap H1 locs1 → W p l e R s m args below meth c H1 locs1 (cells + mc) (slots + ms) Q (F0 m (pc + 3) ls (.ref ra :: rest))) : W p l e R s m args below meth c H locs cells slots Q (F0 m pc ls st0) := by
  obtain ⟨hx, hb, hml, hown, hts, hr, hlocks, hK, hN⟩ := C
  exact x_callr (va_runV ⟨hx, hb, hml, hown, hts⟩ hC (cwV As.length hts hT hw hrc hrs hd hR) (x_preV hK hM hN hS he hc) rfl rfl hl hst (lv_room hrest) hdg hf) hS kk
theorem r_Iv {post : xM → Prop} (C : xC p s m args meth c cc nL ret own Ts D cl tys N0) (hM : xW D cl N0 M H) (hS : va_S (xA N0) s.heap H locs) (hC : Met l y ws rm (va_Pc (.ref b :: As) (xB D cl tys N0 M)) (va_Qv post (xB D cl tys N0) (xA N0)) mc ms (xA N0)) (hT : GoodIn Ts ws) (hini : (Cond.initialized y.cls).before args s = true) (hlk : (Cond.methodLink own index y).before args s = true) (hin : (Cond.instanceMethod y).before args s = true) (hy1 : y.name = "<init>") (hw : ws = Cond.code y bytes maxL none :: ws') (hrc : rm.cells = mc) (hrs : rm.slots = ms) (hd : y.cls ≠ "java/lang/invoke/MethodHandle" ∧ y.cls ≠ "java/lang/invoke/VarHandle" ∧ (parseMethodDescriptor y.desc).map (fun d => d.parameters.length) = some As.length) (hR : rm.frames + 1 ≤ R.frames ∧ 8 + (maxL + 11) + rm.locals ≤ R.locals) (hl : ls.size = nL) (hst : st0 = As.reverse ++ .ref b :: rest) (hrest : (rest.map fun v => v.category).sum ≤ 8) (hdg : decode cc pc = .ok (.invokespecial index, 3)) (hf : cells + mc ≤ R.cells ∧ slots + ms ≤ R.slots)
    (kk : ∀ (M1 : xM) (H1 : Heap) (locs1 : List Loc), post M1 → xW D cl N0 M1 H1 → va_S (xA N0) s.heap H1 locs1 → W p l e R s m args below meth c H1 locs1 (cells + mc) (slots + ms) Q (F0 m (pc + 3) ls (rest))) : W p l e R s m args below meth c H locs cells slots Q (F0 m pc ls st0) := by
  obtain ⟨hx, hb, hml, hown, hts, hr, hlocks, hK, hN⟩ := C
  exact x_callv (va_runI ⟨hx, hb, hml, hown, hts⟩ hC (cwI As.length hts hT hw hrc hrs hini hlk hin hy1 hd hR) (x_pre hK hM hN hS) rfl rfl hl hst (lv_room hrest) hdg hf) hS kk
end RCALLS
end
section
-- ===== PART A: goes FIRST, ahead of the names: the tables' words, and 'selects' of the private methods out of them =====
/-- a private method of a class that the tables say can be made, by its rows of tables_1 -/
def lw_okq (q : MethodName × Nat) : Prop := (q.1.cls ≠ "java/lang/invoke/MethodHandle" ∧ q.1.cls ≠ "java/lang/invoke/VarHandle") ∧ Cond.instantiable q.1.cls q.2 ∈ tables_1 ∧ Cond.privateMethod q.1 ∈ tables_1 ∧ Cond.instanceMethod q.1 ∈ tables_1
theorem lw_p0 : lw_okq (⟨"LimbCurves", "clearSlot", "(I)V"⟩, 13) := ⟨⟨by decide +kernel, by decide +kernel⟩, List.mem_of_getElem? (i := 13) (by decide +kernel), List.mem_of_getElem? (i := 211) (by decide +kernel), List.mem_of_getElem? (i := 212) (by decide +kernel)⟩
theorem lw_p1 : lw_okq (⟨"LimbCurves", "pointIn", "(I)LLimbCurves$Point;"⟩, 13) := ⟨⟨by decide +kernel, by decide +kernel⟩, List.mem_of_getElem? (i := 13) (by decide +kernel), List.mem_of_getElem? (i := 218) (by decide +kernel), List.mem_of_getElem? (i := 219) (by decide +kernel)⟩
theorem lw_p2 : lw_okq (⟨"LimbCurves", "rowOf", "(II)[I"⟩, 13) := ⟨⟨by decide +kernel, by decide +kernel⟩, List.mem_of_getElem? (i := 13) (by decide +kernel), List.mem_of_getElem? (i := 232) (by decide +kernel), List.mem_of_getElem? (i := 233) (by decide +kernel)⟩
theorem lw_p3 : lw_okq (⟨"LimbCurves", "scalarIn", "(I)[I"⟩, 13) := ⟨⟨by decide +kernel, by decide +kernel⟩, List.mem_of_getElem? (i := 13) (by decide +kernel), List.mem_of_getElem? (i := 239) (by decide +kernel), List.mem_of_getElem? (i := 240) (by decide +kernel)⟩
theorem lw_p4 : lw_okq (⟨"LimbCurves", "placeInRow", "(I)I"⟩, 13) := ⟨⟨by decide +kernel, by decide +kernel⟩, List.mem_of_getElem? (i := 13) (by decide +kernel), List.mem_of_getElem? (i := 248) (by decide +kernel), List.mem_of_getElem? (i := 249) (by decide +kernel)⟩
theorem lw_p5 : lw_okq (⟨"LimbCurves", "limbsOf", "(I)I"⟩, 13) := ⟨⟨by decide +kernel, by decide +kernel⟩, List.mem_of_getElem? (i := 13) (by decide +kernel), List.mem_of_getElem? (i := 252) (by decide +kernel), List.mem_of_getElem? (i := 253) (by decide +kernel)⟩
theorem lw_p6 : lw_okq (⟨"LimbCurves", "endFeeding", "(I)V"⟩, 13) := ⟨⟨by decide +kernel, by decide +kernel⟩, List.mem_of_getElem? (i := 13) (by decide +kernel), List.mem_of_getElem? (i := 256) (by decide +kernel), List.mem_of_getElem? (i := 257) (by decide +kernel)⟩
theorem lw_p7 : lw_okq (⟨"LimbCurves$Curve", "isSingular", "()Z"⟩, 6) := ⟨⟨by decide +kernel, by decide +kernel⟩, List.mem_of_getElem? (i := 93) (by decide +kernel), List.mem_of_getElem? (i := 297) (by decide +kernel), List.mem_of_getElem? (i := 298) (by decide +kernel)⟩
theorem lw_p8 : lw_okq (⟨"LimbCurves$Residues", "takeRemainder", "([II)V"⟩, 10) := ⟨⟨by decide +kernel, by decide +kernel⟩, List.mem_of_getElem? (i := 56) (by decide +kernel), List.mem_of_getElem? (i := 307) (by decide +kernel), List.mem_of_getElem? (i := 308) (by decide +kernel)⟩
theorem lw_p9 : lw_okq (⟨"LimbCurves$Residues", "shiftWork", "(I)V"⟩, 10) := ⟨⟨by decide +kernel, by decide +kernel⟩, List.mem_of_getElem? (i := 56) (by decide +kernel), List.mem_of_getElem? (i := 311) (by decide +kernel), List.mem_of_getElem? (i := 312) (by decide +kernel)⟩
theorem lw_p10 : lw_okq (⟨"LimbCurves$Residues", "takeDivisorAway", "(JI)V"⟩, 10) := ⟨⟨by decide +kernel, by decide +kernel⟩, List.mem_of_getElem? (i := 56) (by decide +kernel), List.mem_of_getElem? (i := 318) (by decide +kernel), List.mem_of_getElem? (i := 319) (by decide +kernel)⟩
theorem lw_p11 : lw_okq (⟨"LimbCurves$Residues", "unshiftedLimb", "(I)I"⟩, 10) := ⟨⟨by decide +kernel, by decide +kernel⟩, List.mem_of_getElem? (i := 56) (by decide +kernel), List.mem_of_getElem? (i := 322) (by decide +kernel), List.mem_of_getElem? (i := 323) (by decide +kernel)⟩
theorem lw_p12 : lw_okq (⟨"LimbCurves$RunningSum", "bringToSameZ", "(LLimbCurves$Point;)V"⟩, 12) := ⟨⟨by decide +kernel, by decide +kernel⟩, List.mem_of_getElem? (i := 118) (by decide +kernel), List.mem_of_getElem? (i := 380) (by decide +kernel), List.mem_of_getElem? (i := 381) (by decide +kernel)⟩
theorem lw_p13 : lw_okq (⟨"LimbCurves$RunningSum", "addAlongChord", "()V"⟩, 12) := ⟨⟨by decide +kernel, by decide +kernel⟩, List.mem_of_getElem? (i := 118) (by decide +kernel), List.mem_of_getElem? (i := 391) (by decide +kernel), List.mem_of_getElem? (i := 392) (by decide +kernel)⟩
theorem lw_p14 : lw_okq (⟨"LimbCurves$RunningSum", "addItself", "()V"⟩, 12) := ⟨⟨by decide +kernel, by decide +kernel⟩, List.mem_of_getElem? (i := 118) (by decide +kernel), List.mem_of_getElem? (i := 395) (by decide +kernel), List.mem_of_getElem? (i := 396) (by decide +kernel)⟩
theorem lw_p15 : lw_okq (⟨"LimbCurves$RunningSum", "addAtSameX", "()V"⟩, 12) := ⟨⟨by decide +kernel, by decide +kernel⟩, List.mem_of_getElem? (i := 118) (by decide +kernel), List.mem_of_getElem? (i := 402) (by decide +kernel), List.mem_of_getElem? (i := 403) (by decide +kernel)⟩
def lw_privs_1 : List (MethodName × Nat) := [(⟨"LimbCurves", "clearSlot", "(I)V"⟩, 13), (⟨"LimbCurves", "pointIn", "(I)LLimbCurves$Point;"⟩, 13), (⟨"LimbCurves", "rowOf", "(II)[I"⟩, 13), (⟨"LimbCurves", "scalarIn", "(I)[I"⟩, 13), (⟨"LimbCurves", "placeInRow", "(I)I"⟩, 13), (⟨"LimbCurves", "limbsOf", "(I)I"⟩, 13), (⟨"LimbCurves", "endFeeding", "(I)V"⟩, 13), (⟨"LimbCurves$Curve", "isSingular", "()Z"⟩, 6), (⟨"LimbCurves$Residues", "takeRemainder", "([II)V"⟩, 10), (⟨"LimbCurves$Residues", "shiftWork", "(I)V"⟩, 10), (⟨"LimbCurves$Residues", "takeDivisorAway", "(JI)V"⟩, 10), (⟨"LimbCurves$Residues", "unshiftedLimb", "(I)I"⟩, 10), (⟨"LimbCurves$RunningSum", "bringToSameZ", "(LLimbCurves$Point;)V"⟩, 12), (⟨"LimbCurves$RunningSum", "addAlongChord", "()V"⟩, 12), (⟨"LimbCurves$RunningSum", "addItself", "()V"⟩, 12), (⟨"LimbCurves$RunningSum", "addAtSameX", "()V"⟩, 12)]
theorem lw_r1 : ∀ q ∈ lw_privs_1, lw_okq q := List.forall_mem_cons.mpr ⟨lw_p0, List.forall_mem_cons.mpr ⟨lw_p1, List.forall_mem_cons.mpr ⟨lw_p2, List.forall_mem_cons.mpr ⟨lw_p3, List.forall_mem_cons.mpr ⟨lw_p4, List.forall_mem_cons.mpr ⟨lw_p5, List.forall_mem_cons.mpr ⟨lw_p6, List.forall_mem_cons.mpr ⟨lw_p7, List.forall_mem_cons.mpr ⟨lw_p8, List.forall_mem_cons.mpr ⟨lw_p9, List.forall_mem_cons.mpr ⟨lw_p10, List.forall_mem_cons.mpr ⟨lw_p11, List.forall_mem_cons.mpr ⟨lw_p12, List.forall_mem_cons.mpr ⟨lw_p13, List.forall_mem_cons.mpr ⟨lw_p14, List.forall_mem_cons.mpr ⟨lw_p15, fun _ h => absurd h List.not_mem_nil⟩⟩⟩⟩⟩⟩⟩⟩⟩⟩⟩⟩⟩⟩⟩⟩
theorem lw_p16 : lw_okq (⟨"LimbCurves", "writeRunningSum", "(I)Z"⟩, 13) := ⟨⟨by decide +kernel, by decide +kernel⟩, List.mem_of_getElem? (i := 13) (by decide +kernel), List.mem_of_getElem? (i := 406) (by decide +kernel), List.mem_of_getElem? (i := 407) (by decide +kernel)⟩
theorem lw_p17 : lw_okq (⟨"LimbCurves", "isSignaturePart", "([I)Z"⟩, 13) := ⟨⟨by decide +kernel, by decide +kernel⟩, List.mem_of_getElem? (i := 13) (by decide +kernel), List.mem_of_getElem? (i := 478) (by decide +kernel), List.mem_of_getElem? (i := 479) (by decide +kernel)⟩
theorem lw_p18 : lw_okq (⟨"LimbCurves", "combineModuloOrder", "(I)V"⟩, 13) := ⟨⟨by decide +kernel, by decide +kernel⟩, List.mem_of_getElem? (i := 13) (by decide +kernel), List.mem_of_getElem? (i := 495) (by decide +kernel), List.mem_of_getElem? (i := 496) (by decide +kernel)⟩
theorem lw_p19 : lw_okq (⟨"LimbCurvesModel", "limbsOf", "(I)I"⟩, 12) := ⟨⟨by decide +kernel, by decide +kernel⟩, List.mem_of_getElem? (i := 509) (by decide +kernel), List.mem_of_getElem? (i := 564) (by decide +kernel), List.mem_of_getElem? (i := 565) (by decide +kernel)⟩
theorem lw_p20 : lw_okq (⟨"LimbCurvesModel", "stopFeeding", "()V"⟩, 12) := ⟨⟨by decide +kernel, by decide +kernel⟩, List.mem_of_getElem? (i := 509) (by decide +kernel), List.mem_of_getElem? (i := 568) (by decide +kernel), List.mem_of_getElem? (i := 569) (by decide +kernel)⟩
theorem lw_p21 : lw_okq (⟨"LimbCurvesModel", "loadParameters", "()V"⟩, 12) := ⟨⟨by decide +kernel, by decide +kernel⟩, List.mem_of_getElem? (i := 509) (by decide +kernel), List.mem_of_getElem? (i := 576) (by decide +kernel), List.mem_of_getElem? (i := 577) (by decide +kernel)⟩
theorem lw_p22 : lw_okq (⟨"LimbCurvesModel", "load", "(III)V"⟩, 12) := ⟨⟨by decide +kernel, by decide +kernel⟩, List.mem_of_getElem? (i := 509) (by decide +kernel), List.mem_of_getElem? (i := 580) (by decide +kernel), List.mem_of_getElem? (i := 581) (by decide +kernel)⟩
theorem lw_p23 : lw_okq (⟨"LimbCurvesModel", "set", "(III)V"⟩, 12) := ⟨⟨by decide +kernel, by decide +kernel⟩, List.mem_of_getElem? (i := 509) (by decide +kernel), List.mem_of_getElem? (i := 584) (by decide +kernel), List.mem_of_getElem? (i := 585) (by decide +kernel)⟩
theorem lw_p24 : lw_okq (⟨"LimbCurvesModel", "small", "(II)V"⟩, 12) := ⟨⟨by decide +kernel, by decide +kernel⟩, List.mem_of_getElem? (i := 509) (by decide +kernel), List.mem_of_getElem? (i := 588) (by decide +kernel), List.mem_of_getElem? (i := 589) (by decide +kernel)⟩
theorem lw_p25 : lw_okq (⟨"LimbCurvesModel", "isOdd", "(I)Z"⟩, 12) := ⟨⟨by decide +kernel, by decide +kernel⟩, List.mem_of_getElem? (i := 509) (by decide +kernel), List.mem_of_getElem? (i := 592) (by decide +kernel), List.mem_of_getElem? (i := 593) (by decide +kernel)⟩
theorem lw_p26 : lw_okq (⟨"LimbCurvesModel", "get", "(II)I"⟩, 12) := ⟨⟨by decide +kernel, by decide +kernel⟩, List.mem_of_getElem? (i := 509) (by decide +kernel), List.mem_of_getElem? (i := 596) (by decide +kernel), List.mem_of_getElem? (i := 597) (by decide +kernel)⟩
theorem lw_p27 : lw_okq (⟨"LimbCurvesModel", "compare", "(II)I"⟩, 12) := ⟨⟨by decide +kernel, by decide +kernel⟩, List.mem_of_getElem? (i := 509) (by decide +kernel), List.mem_of_getElem? (i := 600) (by decide +kernel), List.mem_of_getElem? (i := 601) (by decide +kernel)⟩
theorem lw_p28 : lw_okq (⟨"LimbCurvesModel", "times", "(IIII)V"⟩, 12) := ⟨⟨by decide +kernel, by decide +kernel⟩, List.mem_of_getElem? (i := 509) (by decide +kernel), List.mem_of_getElem? (i := 604) (by decide +kernel), List.mem_of_getElem? (i := 605) (by decide +kernel)⟩
theorem lw_p29 : lw_okq (⟨"LimbCurvesModel", "productToU", "(II)V"⟩, 12) := ⟨⟨by decide +kernel, by decide +kernel⟩, List.mem_of_getElem? (i := 509) (by decide +kernel), List.mem_of_getElem? (i := 608) (by decide +kernel), List.mem_of_getElem? (i := 609) (by decide +kernel)⟩
theorem lw_p30 : lw_okq (⟨"LimbCurvesModel", "divide", "(II)V"⟩, 12) := ⟨⟨by decide +kernel, by decide +kernel⟩, List.mem_of_getElem? (i := 509) (by decide +kernel), List.mem_of_getElem? (i := 613) (by decide +kernel), List.mem_of_getElem? (i := 614) (by decide +kernel)⟩
theorem lw_p31 : lw_okq (⟨"LimbCurvesModel", "length", "(I)I"⟩, 12) := ⟨⟨by decide +kernel, by decide +kernel⟩, List.mem_of_getElem? (i := 509) (by decide +kernel), List.mem_of_getElem? (i := 617) (by decide +kernel), List.mem_of_getElem? (i := 618) (by decide +kernel)⟩
def lw_privs_2 : List (MethodName × Nat) := [(⟨"LimbCurves", "writeRunningSum", "(I)Z"⟩, 13), (⟨"LimbCurves", "isSignaturePart", "([I)Z"⟩, 13), (⟨"LimbCurves", "combineModuloOrder", "(I)V"⟩, 13), (⟨"LimbCurvesModel", "limbsOf", "(I)I"⟩, 12), (⟨"LimbCurvesModel", "stopFeeding", "()V"⟩, 12), (⟨"LimbCurvesModel", "loadParameters", "()V"⟩, 12), (⟨"LimbCurvesModel", "load", "(III)V"⟩, 12), (⟨"LimbCurvesModel", "set", "(III)V"⟩, 12), (⟨"LimbCurvesModel", "small", "(II)V"⟩, 12), (⟨"LimbCurvesModel", "isOdd", "(I)Z"⟩, 12), (⟨"LimbCurvesModel", "get", "(II)I"⟩, 12), (⟨"LimbCurvesModel", "compare", "(II)I"⟩, 12), (⟨"LimbCurvesModel", "times", "(IIII)V"⟩, 12), (⟨"LimbCurvesModel", "productToU", "(II)V"⟩, 12), (⟨"LimbCurvesModel", "divide", "(II)V"⟩, 12), (⟨"LimbCurvesModel", "length", "(I)I"⟩, 12)]
theorem lw_r2 : ∀ q ∈ lw_privs_2, lw_okq q := List.forall_mem_cons.mpr ⟨lw_p16, List.forall_mem_cons.mpr ⟨lw_p17, List.forall_mem_cons.mpr ⟨lw_p18, List.forall_mem_cons.mpr ⟨lw_p19, List.forall_mem_cons.mpr ⟨lw_p20, List.forall_mem_cons.mpr ⟨lw_p21, List.forall_mem_cons.mpr ⟨lw_p22, List.forall_mem_cons.mpr ⟨lw_p23, List.forall_mem_cons.mpr ⟨lw_p24, List.forall_mem_cons.mpr ⟨lw_p25, List.forall_mem_cons.mpr ⟨lw_p26, List.forall_mem_cons.mpr ⟨lw_p27, List.forall_mem_cons.mpr ⟨lw_p28, List.forall_mem_cons.mpr ⟨lw_p29, List.forall_mem_cons.mpr ⟨lw_p30, List.forall_mem_cons.mpr ⟨lw_p31, fun _ h => absurd h List.not_mem_nil⟩⟩⟩⟩⟩⟩⟩⟩⟩⟩⟩⟩⟩⟩⟩⟩
theorem lw_p32 : lw_okq (⟨"LimbCurvesModel", "digit", "(II)J"⟩, 12) := ⟨⟨by decide +kernel, by decide +kernel⟩, List.mem_of_getElem? (i := 509) (by decide +kernel), List.mem_of_getElem? (i := 622) (by decide +kernel), List.mem_of_getElem? (i := 623) (by decide +kernel)⟩
theorem lw_p33 : lw_okq (⟨"LimbCurvesModel", "sum", "(IIII)V"⟩, 12) := ⟨⟨by decide +kernel, by decide +kernel⟩, List.mem_of_getElem? (i := 509) (by decide +kernel), List.mem_of_getElem? (i := 627) (by decide +kernel), List.mem_of_getElem? (i := 628) (by decide +kernel)⟩
theorem lw_p34 : lw_okq (⟨"LimbCurvesModel", "plus", "(III)V"⟩, 12) := ⟨⟨by decide +kernel, by decide +kernel⟩, List.mem_of_getElem? (i := 509) (by decide +kernel), List.mem_of_getElem? (i := 631) (by decide +kernel), List.mem_of_getElem? (i := 632) (by decide +kernel)⟩
theorem lw_p35 : lw_okq (⟨"LimbCurvesModel", "minus", "(III)V"⟩, 12) := ⟨⟨by decide +kernel, by decide +kernel⟩, List.mem_of_getElem? (i := 509) (by decide +kernel), List.mem_of_getElem? (i := 635) (by decide +kernel), List.mem_of_getElem? (i := 636) (by decide +kernel)⟩
theorem lw_p36 : lw_okq (⟨"LimbCurvesModel", "isZero", "(I)Z"⟩, 12) := ⟨⟨by decide +kernel, by decide +kernel⟩, List.mem_of_getElem? (i := 509) (by decide +kernel), List.mem_of_getElem? (i := 639) (by decide +kernel), List.mem_of_getElem? (i := 640) (by decide +kernel)⟩
theorem lw_p37 : lw_okq (⟨"LimbCurvesModel", "isGood", "(II)Z"⟩, 12) := ⟨⟨by decide +kernel, by decide +kernel⟩, List.mem_of_getElem? (i := 509) (by decide +kernel), List.mem_of_getElem? (i := 655) (by decide +kernel), List.mem_of_getElem? (i := 656) (by decide +kernel)⟩
theorem lw_p38 : lw_okq (⟨"LimbCurvesModel", "loadPoint", "(II)V"⟩, 12) := ⟨⟨by decide +kernel, by decide +kernel⟩, List.mem_of_getElem? (i := 509) (by decide +kernel), List.mem_of_getElem? (i := 659) (by decide +kernel), List.mem_of_getElem? (i := 660) (by decide +kernel)⟩
theorem lw_p39 : lw_okq (⟨"LimbCurvesModel", "isOn", "(I)Z"⟩, 12) := ⟨⟨by decide +kernel, by decide +kernel⟩, List.mem_of_getElem? (i := 509) (by decide +kernel), List.mem_of_getElem? (i := 669) (by decide +kernel), List.mem_of_getElem? (i := 670) (by decide +kernel)⟩
theorem lw_p40 : lw_okq (⟨"LimbCurvesModel", "sumPoints", "(III)Z"⟩, 12) := ⟨⟨by decide +kernel, by decide +kernel⟩, List.mem_of_getElem? (i := 509) (by decide +kernel), List.mem_of_getElem? (i := 681) (by decide +kernel), List.mem_of_getElem? (i := 682) (by decide +kernel)⟩
theorem lw_p41 : lw_okq (⟨"LimbCurvesModel", "copyPoint", "(II)V"⟩, 12) := ⟨⟨by decide +kernel, by decide +kernel⟩, List.mem_of_getElem? (i := 509) (by decide +kernel), List.mem_of_getElem? (i := 685) (by decide +kernel), List.mem_of_getElem? (i := 686) (by decide +kernel)⟩
theorem lw_p42 : lw_okq (⟨"LimbCurvesModel", "copy", "(II)V"⟩, 12) := ⟨⟨by decide +kernel, by decide +kernel⟩, List.mem_of_getElem? (i := 509) (by decide +kernel), List.mem_of_getElem? (i := 689) (by decide +kernel), List.mem_of_getElem? (i := 690) (by decide +kernel)⟩
theorem lw_p43 : lw_okq (⟨"LimbCurvesModel", "difference", "(IIII)V"⟩, 12) := ⟨⟨by decide +kernel, by decide +kernel⟩, List.mem_of_getElem? (i := 509) (by decide +kernel), List.mem_of_getElem? (i := 693) (by decide +kernel), List.mem_of_getElem? (i := 694) (by decide +kernel)⟩
theorem lw_p44 : lw_okq (⟨"LimbCurvesModel", "inverseOdd", "(III)Z"⟩, 12) := ⟨⟨by decide +kernel, by decide +kernel⟩, List.mem_of_getElem? (i := 509) (by decide +kernel), List.mem_of_getElem? (i := 697) (by decide +kernel), List.mem_of_getElem? (i := 698) (by decide +kernel)⟩
theorem lw_p45 : lw_okq (⟨"LimbCurvesModel", "isOne", "(I)Z"⟩, 12) := ⟨⟨by decide +kernel, by decide +kernel⟩, List.mem_of_getElem? (i := 509) (by decide +kernel), List.mem_of_getElem? (i := 701) (by decide +kernel), List.mem_of_getElem? (i := 702) (by decide +kernel)⟩
theorem lw_p46 : lw_okq (⟨"LimbCurvesModel", "halve", "(I)V"⟩, 12) := ⟨⟨by decide +kernel, by decide +kernel⟩, List.mem_of_getElem? (i := 509) (by decide +kernel), List.mem_of_getElem? (i := 705) (by decide +kernel), List.mem_of_getElem? (i := 706) (by decide +kernel)⟩
theorem lw_p47 : lw_okq (⟨"LimbCurvesModel", "halveModulo", "(II)V"⟩, 12) := ⟨⟨by decide +kernel, by decide +kernel⟩, List.mem_of_getElem? (i := 509) (by decide +kernel), List.mem_of_getElem? (i := 709) (by decide +kernel), List.mem_of_getElem? (i := 710) (by decide +kernel)⟩
def lw_privs_3 : List (MethodName × Nat) := [(⟨"LimbCurvesModel", "digit", "(II)J"⟩, 12), (⟨"LimbCurvesModel", "sum", "(IIII)V"⟩, 12), (⟨"LimbCurvesModel", "plus", "(III)V"⟩, 12), (⟨"LimbCurvesModel", "minus", "(III)V"⟩, 12), (⟨"LimbCurvesModel", "isZero", "(I)Z"⟩, 12), (⟨"LimbCurvesModel", "isGood", "(II)Z"⟩, 12), (⟨"LimbCurvesModel", "loadPoint", "(II)V"⟩, 12), (⟨"LimbCurvesModel", "isOn", "(I)Z"⟩, 12), (⟨"LimbCurvesModel", "sumPoints", "(III)Z"⟩, 12), (⟨"LimbCurvesModel", "copyPoint", "(II)V"⟩, 12), (⟨"LimbCurvesModel", "copy", "(II)V"⟩, 12), (⟨"LimbCurvesModel", "difference", "(IIII)V"⟩, 12), (⟨"LimbCurvesModel", "inverseOdd", "(III)Z"⟩, 12), (⟨"LimbCurvesModel", "isOne", "(I)Z"⟩, 12), (⟨"LimbCurvesModel", "halve", "(I)V"⟩, 12), (⟨"LimbCurvesModel", "halveModulo", "(II)V"⟩, 12)]
theorem lw_r3 : ∀ q ∈ lw_privs_3, lw_okq q := List.forall_mem_cons.mpr ⟨lw_p32, List.forall_mem_cons.mpr ⟨lw_p33, List.forall_mem_cons.mpr ⟨lw_p34, List.forall_mem_cons.mpr ⟨lw_p35, List.forall_mem_cons.mpr ⟨lw_p36, List.forall_mem_cons.mpr ⟨lw_p37, List.forall_mem_cons.mpr ⟨lw_p38, List.forall_mem_cons.mpr ⟨lw_p39, List.forall_mem_cons.mpr ⟨lw_p40, List.forall_mem_cons.mpr ⟨lw_p41, List.forall_mem_cons.mpr ⟨lw_p42, List.forall_mem_cons.mpr ⟨lw_p43, List.forall_mem_cons.mpr ⟨lw_p44, List.forall_mem_cons.mpr ⟨lw_p45, List.forall_mem_cons.mpr ⟨lw_p46, List.forall_mem_cons.mpr ⟨lw_p47, fun _ h => absurd h List.not_mem_nil⟩⟩⟩⟩⟩⟩⟩⟩⟩⟩⟩⟩⟩⟩⟩⟩
theorem lw_p48 : lw_okq (⟨"LimbCurvesModel", "storePoint", "(II)V"⟩, 12) := ⟨⟨by decide +kernel, by decide +kernel⟩, List.mem_of_getElem? (i := 509) (by decide +kernel), List.mem_of_getElem? (i := 713) (by decide +kernel), List.mem_of_getElem? (i := 714) (by decide +kernel)⟩
theorem lw_p49 : lw_okq (⟨"LimbCurvesModel", "written", "(I)V"⟩, 12) := ⟨⟨by decide +kernel, by decide +kernel⟩, List.mem_of_getElem? (i := 509) (by decide +kernel), List.mem_of_getElem? (i := 717) (by decide +kernel), List.mem_of_getElem? (i := 718) (by decide +kernel)⟩
theorem lw_p50 : lw_okq (⟨"LimbCurvesModel", "multiply", "(III)Z"⟩, 12) := ⟨⟨by decide +kernel, by decide +kernel⟩, List.mem_of_getElem? (i := 509) (by decide +kernel), List.mem_of_getElem? (i := 733) (by decide +kernel), List.mem_of_getElem? (i := 734) (by decide +kernel)⟩
theorem lw_p51 : lw_okq (⟨"LimbCurvesModel", "inverse", "(III)Z"⟩, 12) := ⟨⟨by decide +kernel, by decide +kernel⟩, List.mem_of_getElem? (i := 509) (by decide +kernel), List.mem_of_getElem? (i := 749) (by decide +kernel), List.mem_of_getElem? (i := 750) (by decide +kernel)⟩
theorem lw_p52 : lw_okq (⟨"LimbCurvesModel", "rest", "(III)V"⟩, 12) := ⟨⟨by decide +kernel, by decide +kernel⟩, List.mem_of_getElem? (i := 509) (by decide +kernel), List.mem_of_getElem? (i := 753) (by decide +kernel), List.mem_of_getElem? (i := 754) (by decide +kernel)⟩
theorem lw_p53 : lw_okq (⟨"LimbCurvesModel", "toU", "(I)V"⟩, 12) := ⟨⟨by decide +kernel, by decide +kernel⟩, List.mem_of_getElem? (i := 509) (by decide +kernel), List.mem_of_getElem? (i := 757) (by decide +kernel), List.mem_of_getElem? (i := 758) (by decide +kernel)⟩
def lw_privs_4 : List (MethodName × Nat) := [(⟨"LimbCurvesModel", "storePoint", "(II)V"⟩, 12), (⟨"LimbCurvesModel", "written", "(I)V"⟩, 12), (⟨"LimbCurvesModel", "multiply", "(III)Z"⟩, 12), (⟨"LimbCurvesModel", "inverse", "(III)Z"⟩, 12), (⟨"LimbCurvesModel", "rest", "(III)V"⟩, 12), (⟨"LimbCurvesModel", "toU", "(I)V"⟩, 12)]
theorem lw_r4 : ∀ q ∈ lw_privs_4, lw_okq q := List.forall_mem_cons.mpr ⟨lw_p48, List.forall_mem_cons.mpr ⟨lw_p49, List.forall_mem_cons.mpr ⟨lw_p50, List.forall_mem_cons.mpr ⟨lw_p51, List.forall_mem_cons.mpr ⟨lw_p52, List.forall_mem_cons.mpr ⟨lw_p53, fun _ h => absurd h List.not_mem_nil⟩⟩⟩⟩⟩⟩
def lw_privs : List (MethodName × Nat) := lw_privs_1 ++ (lw_privs_2 ++ (lw_privs_3 ++ (lw_privs_4)))
def lw_tbl : List Cond := k2_sels lw_privs ++ tables_1
theorem lw_privs_ok : ∀ q ∈ lw_privs, lw_okq q := by
  show ∀ q ∈ lw_privs_1 ++ (lw_privs_2 ++ (lw_privs_3 ++ (lw_privs_4))), lw_okq q
  exact List.forall_mem_append.mpr ⟨lw_r1, List.forall_mem_append.mpr ⟨lw_r2, List.forall_mem_append.mpr ⟨lw_r3, lw_r4⟩⟩⟩
end
section
/-! ===== BEGIN words of one list among another's, by their places ===== -/
theorem goodIn_r {big : List Cond} (ws : List Cond) (ps : List Nat) (hp : ws = ps.filterMap (fun i => big[i]?)) (h : ws.all goodWord = true) : GoodIn big ws := by
  intro w hw
  have h1 := List.all_eq_true.mp h w hw
  rw [hp] at hw
  obtain ⟨i, -, hi⟩ := List.mem_filterMap.mp hw
  have hm : w ∈ big := by first | exact List.mem_of_getElem? hi | exact List.getElem?_mem hi
  exact ⟨hm, good_of_word h1⟩
theorem goodIn_app {big a b : List Cond} (ha : GoodIn big a) (hb : GoodIn big b) : GoodIn big (a ++ b) := fun w h => (List.mem_append.mp h).elim (ha w) (hb w)
theorem goodIn_ca {big a b : List Cond} {c : Cond} (ha : GoodIn big (c :: a)) (hb : GoodIn big b) : GoodIn big (c :: (a ++ b)) := fun w h => (List.mem_cons.mp h).elim (fun e => ha w (List.mem_cons.mpr (Or.inl e))) (fun h => (List.mem_append.mp h).elim (fun h => ha w (List.mem_cons.mpr (Or.inr h))) (hb w))
theorem goodIn_sub {big ws : List Cond} (hm : ∀ w ∈ ws, w ∈ big) (h : ws.all goodWord = true) : GoodIn big ws := fun w hw => ⟨hm w hw, good_of_word (List.all_eq_true.mp h w hw)⟩
/-! ===== END ===== -/

/-! ===== BEGIN printed: names, fields, word lists, decode rows ===== -/
def RX0 : String := "LimbCurves$Curve"
def TX0 : u_T := fun k => match k with
  | 0 => ("LimbCurves$Curve", "p", "[I", true)
  | 1 => ("LimbCurves$Curve", "a", "[I", true)
  | 2 => ("LimbCurves$Curve", "b", "[I", true)
  | 3 => ("LimbCurves$Curve", "field", "LLimbCurves$Residues;", true)
  | 4 => ("LimbCurves$Curve", "left", "[I", true)
  | _ => ("LimbCurves$Curve", "right", "[I", true)
def tyX0 : Nat → FieldType := fun k => match k with
  | 0 => .array .int
  | 1 => .array .int
  | 2 => .array .int
  | 3 => .object "LimbCurves$Residues"
  | 4 => .array .int
  | _ => .array .int
abbrev wsX00 : List Cond := u_ws RX0 TX0 6
theorem nmX0 : ∀ a, a < 6 → ∀ b, b < 6 → a ≠ b → (TX0 a).2.1 ≠ (TX0 b).2.1 := by decide +kernel
theorem tyX0_ok : ∀ k, k < 6 → parseFieldDescriptor (TX0 k).2.2.1 = some (tyX0 k) := by decide +kernel
abbrev cX0_init : ByteArray := prog_2_method_1_code
def yX0_init : MethodName := ⟨RX0, "<init>", "([[ILLimbCurves$Residues;)V"⟩
abbrev cX0_takeParameters : ByteArray := prog_2_method_2_code
def yX0_takeParameters : MethodName := ⟨RX0, "takeParameters", "()I"⟩
abbrev cX0_isSingular : ByteArray := prog_2_method_3_code
def yX0_isSingular : MethodName := ⟨RX0, "isSingular", "()Z"⟩
abbrev cX0_holds : ByteArray := prog_2_method_4_code
def yX0_holds : MethodName := ⟨RX0, "holds", "(LLimbCurves$Point;)Z"⟩
abbrev cX0_mirror : ByteArray := prog_2_method_5_code
def yX0_mirror : MethodName := ⟨RX0, "mirror", "(LLimbCurves$Point;)V"⟩
def RX1 : String := "LimbCurves$Numbers"
def TX1 : u_T := fun k => match k with
  | _ => ("", "", "", false)
def tyX1 : Nat → FieldType := fun k => match k with
  | _ => .int
abbrev wsX10 : List Cond := u_ws RX1 TX1 0
theorem nmX1 : ∀ a, a < 0 → ∀ b, b < 0 → a ≠ b → (TX1 a).2.1 ≠ (TX1 b).2.1 := by decide +kernel
theorem tyX1_ok : ∀ k, k < 0 → parseFieldDescriptor (TX1 k).2.2.1 = some (tyX1 k) := by decide +kernel
abbrev cX1_set : ByteArray := prog_3_method_2_code
def yX1_set : MethodName := ⟨RX1, "set", "([II)V"⟩
abbrev cX1_copy : ByteArray := prog_3_method_3_code
def yX1_copy : MethodName := ⟨RX1, "copy", "([I[I)V"⟩
abbrev cX1_isZero : ByteArray := prog_3_method_4_code
def yX1_isZero : MethodName := ⟨RX1, "isZero", "([I)Z"⟩
abbrev cX1_sizeOf : ByteArray := prog_3_method_5_code
def yX1_sizeOf : MethodName := ⟨RX1, "sizeOf", "([I)I"⟩
abbrev cX1_bitsOf : ByteArray := prog_3_method_6_code
def yX1_bitsOf : MethodName := ⟨RX1, "bitsOf", "([I)I"⟩
abbrev cX1_compare : ByteArray := prog_3_method_7_code
def yX1_compare : MethodName := ⟨RX1, "compare", "([I[I)I"⟩
abbrev cX1_combine : ByteArray := prog_3_method_8_code
def yX1_combine : MethodName := ⟨RX1, "combine", "([I[I[II)J"⟩
abbrev cX1_shiftedLimb : ByteArray := prog_3_method_9_code
def yX1_shiftedLimb : MethodName := ⟨RX1, "shiftedLimb", "([III)I"⟩
abbrev cX1_isBelowShifted : ByteArray := prog_3_method_10_code
def yX1_isBelowShifted : MethodName := ⟨RX1, "isBelowShifted", "([I[II)Z"⟩
abbrev cX1_gapBetween : ByteArray := prog_3_method_11_code
def yX1_gapBetween : MethodName := ⟨RX1, "gapBetween", "([I[I)I"⟩
abbrev cX1_addShifted : ByteArray := prog_3_method_12_code
def yX1_addShifted : MethodName := ⟨RX1, "addShifted", "([I[III)V"⟩
def RX2 : String := "LimbCurves$Point"
def TX2 : u_T := fun k => match k with
  | 0 => ("LimbCurves$Point", "x", "[I", true)
  | 1 => ("LimbCurves$Point", "y", "[I", true)
  | _ => ("LimbCurves$Point", "identity", "Z", false)
def tyX2 : Nat → FieldType := fun k => match k with
  | 0 => .array .int
  | 1 => .array .int
  | _ => .boolean
abbrev wsX20 : List Cond := u_ws RX2 TX2 3
theorem nmX2 : ∀ a, a < 3 → ∀ b, b < 3 → a ≠ b → (TX2 a).2.1 ≠ (TX2 b).2.1 := by decide +kernel
theorem tyX2_ok : ∀ k, k < 3 → parseFieldDescriptor (TX2 k).2.2.1 = some (tyX2 k) := by decide +kernel
abbrev cX2_init : ByteArray := prog_4_method_1_code
def yX2_init : MethodName := ⟨RX2, "<init>", "(I)V"⟩
abbrev cX2_becomeIdentity : ByteArray := prog_4_method_2_code
def yX2_becomeIdentity : MethodName := ⟨RX2, "becomeIdentity", "()V"⟩
abbrev cX2_copyFrom : ByteArray := prog_4_method_3_code
def yX2_copyFrom : MethodName := ⟨RX2, "copyFrom", "(LLimbCurves$Point;)V"⟩
abbrev cX2_sameAs : ByteArray := prog_4_method_4_code
def yX2_sameAs : MethodName := ⟨RX2, "sameAs", "(LLimbCurves$Point;)Z"⟩
def RX3 : String := "LimbCurves$Residues"
def TX3 : u_T := fun k => match k with
  | 0 => ("LimbCurves$Residues", "modulus", "[I", true)
  | 1 => ("LimbCurves$Residues", "divisor", "[I", true)
  | 2 => ("LimbCurves$Residues", "work", "[I", true)
  | 3 => ("LimbCurves$Residues", "spare", "[I", true)
  | 4 => ("LimbCurves$Residues", "firstRest", "[I", true)
  | 5 => ("LimbCurves$Residues", "secondRest", "[I", true)
  | 6 => ("LimbCurves$Residues", "firstFactor", "[I", true)
  | 7 => ("LimbCurves$Residues", "secondFactor", "[I", true)
  | 8 => ("LimbCurves$Residues", "size", "I", false)
  | _ => ("LimbCurves$Residues", "shift", "I", false)
def tyX3 : Nat → FieldType := fun k => match k with
  | 0 => .array .int
  | 1 => .array .int
  | 2 => .array .int
  | 3 => .array .int
  | 4 => .array .int
  | 5 => .array .int
  | 6 => .array .int
  | 7 => .array .int
  | 8 => .int
  | _ => .int
abbrev wsX30 : List Cond := u_ws RX3 TX3 10
theorem nmX3 : ∀ a, a < 10 → ∀ b, b < 10 → a ≠ b → (TX3 a).2.1 ≠ (TX3 b).2.1 := by decide +kernel
theorem tyX3_ok : ∀ k, k < 10 → parseFieldDescriptor (TX3 k).2.2.1 = some (tyX3 k) := by decide +kernel
abbrev cX3_init : ByteArray := prog_5_method_1_code
def yX3_init : MethodName := ⟨RX3, "<init>", "(I)V"⟩
abbrev cX3_takeModulus : ByteArray := prog_5_method_2_code
def yX3_takeModulus : MethodName := ⟨RX3, "takeModulus", "([I)Z"⟩
abbrev cX3_reduce : ByteArray := prog_5_method_3_code
def yX3_reduce : MethodName := ⟨RX3, "reduce", "([I[I)V"⟩
abbrev cX3_add : ByteArray := prog_5_method_4_code
def yX3_add : MethodName := ⟨RX3, "add", "([I[I[I)V"⟩
abbrev cX3_twice : ByteArray := prog_5_method_5_code
def yX3_twice : MethodName := ⟨RX3, "twice", "([I[I)V"⟩
abbrev cX3_thrice : ByteArray := prog_5_method_6_code
def yX3_thrice : MethodName := ⟨RX3, "thrice", "([I[I)V"⟩
abbrev cX3_subtract : ByteArray := prog_5_method_7_code
def yX3_subtract : MethodName := ⟨RX3, "subtract", "([I[I[I)V"⟩
abbrev cX3_multiply : ByteArray := prog_5_method_8_code
def yX3_multiply : MethodName := ⟨RX3, "multiply", "([I[I[I)V"⟩
abbrev cX3_invert : ByteArray := prog_5_method_9_code
def yX3_invert : MethodName := ⟨RX3, "invert", "([I[I)Z"⟩
abbrev cX3_takeRemainder : ByteArray := prog_5_method_10_code
def yX3_takeRemainder : MethodName := ⟨RX3, "takeRemainder", "([II)V"⟩
abbrev cX3_shiftWork : ByteArray := prog_5_method_11_code
def yX3_shiftWork : MethodName := ⟨RX3, "shiftWork", "(I)V"⟩
abbrev cX3_unshiftedLimb : ByteArray := prog_5_method_12_code
def yX3_unshiftedLimb : MethodName := ⟨RX3, "unshiftedLimb", "(I)I"⟩
abbrev cX3_takeDivisorAway : ByteArray := prog_5_method_13_code
def yX3_takeDivisorAway : MethodName := ⟨RX3, "takeDivisorAway", "(JI)V"⟩
def RX4 : String := "LimbCurves$RunningSum"
def TX4 : u_T := fun k => match k with
  | 0 => ("LimbCurves$RunningSum", "field", "LLimbCurves$Residues;", true)
  | 1 => ("LimbCurves$RunningSum", "a", "[I", true)
  | 2 => ("LimbCurves$RunningSum", "x", "[I", true)
  | 3 => ("LimbCurves$RunningSum", "y", "[I", true)
  | 4 => ("LimbCurves$RunningSum", "z", "[I", true)
  | 5 => ("LimbCurves$RunningSum", "identity", "Z", false)
  | 6 => ("LimbCurves$RunningSum", "otherX", "[I", true)
  | 7 => ("LimbCurves$RunningSum", "otherY", "[I", true)
  | 8 => ("LimbCurves$RunningSum", "run", "[I", true)
  | 9 => ("LimbCurves$RunningSum", "rise", "[I", true)
  | 10 => ("LimbCurves$RunningSum", "s", "[I", true)
  | _ => ("LimbCurves$RunningSum", "t", "[I", true)
def tyX4 : Nat → FieldType := fun k => match k with
  | 0 => .object "LimbCurves$Residues"
  | 1 => .array .int
  | 2 => .array .int
  | 3 => .array .int
  | 4 => .array .int
  | 5 => .boolean
  | 6 => .array .int
  | 7 => .array .int
  | 8 => .array .int
  | 9 => .array .int
  | 10 => .array .int
  | _ => .array .int
abbrev wsX40 : List Cond := u_ws RX4 TX4 12
theorem nmX4 : ∀ a, a < 12 → ∀ b, b < 12 → a ≠ b → (TX4 a).2.1 ≠ (TX4 b).2.1 := by decide +kernel
theorem tyX4_ok : ∀ k, k < 12 → parseFieldDescriptor (TX4 k).2.2.1 = some (tyX4 k) := by decide +kernel
abbrev cX4_init : ByteArray := prog_6_method_1_code
def yX4_init : MethodName := ⟨RX4, "<init>", "(ILLimbCurves$Residues;[I)V"⟩
abbrev cX4_startAtIdentity : ByteArray := prog_6_method_2_code
def yX4_startAtIdentity : MethodName := ⟨RX4, "startAtIdentity", "()V"⟩
abbrev cX4_takeTimes : ByteArray := prog_6_method_3_code
def yX4_takeTimes : MethodName := ⟨RX4, "takeTimes", "([ILLimbCurves$Point;)V"⟩
abbrev cX4_addPoint : ByteArray := prog_6_method_4_code
def yX4_addPoint : MethodName := ⟨RX4, "addPoint", "(LLimbCurves$Point;)V"⟩
abbrev cX4_writeTo : ByteArray := prog_6_method_5_code
def yX4_writeTo : MethodName := ⟨RX4, "writeTo", "(LLimbCurves$Point;)Z"⟩
abbrev cX4_bringToSameZ : ByteArray := prog_6_method_6_code
def yX4_bringToSameZ : MethodName := ⟨RX4, "bringToSameZ", "(LLimbCurves$Point;)V"⟩
abbrev cX4_addItself : ByteArray := prog_6_method_7_code
def yX4_addItself : MethodName := ⟨RX4, "addItself", "()V"⟩
abbrev cX4_addAlongChord : ByteArray := prog_6_method_8_code
def yX4_addAlongChord : MethodName := ⟨RX4, "addAlongChord", "()V"⟩
abbrev cX4_addAtSameX : ByteArray := prog_6_method_9_code
def yX4_addAtSameX : MethodName := ⟨RX4, "addAtSameX", "()V"⟩
def RX5 : String := "LimbCurves"
def TX5 : u_T := fun k => match k with
  | 0 => ("LimbCurves", "limbs", "I", true)
  | 1 => ("LimbCurves", "parameters", "[[I", true)
  | 2 => ("LimbCurves", "points", "[LLimbCurves$Point;", true)
  | 3 => ("LimbCurves", "scalars", "[[I", true)
  | 4 => ("LimbCurves", "order", "LLimbCurves$Residues;", true)
  | 5 => ("LimbCurves", "curve", "LLimbCurves$Curve;", true)
  | 6 => ("LimbCurves", "running", "LLimbCurves$RunningSum;", true)
  | 7 => ("LimbCurves", "left", "[I", true)
  | 8 => ("LimbCurves", "right", "[I", true)
  | 9 => ("LimbCurves", "result", "LLimbCurves$Point;", true)
  | 10 => ("LimbCurves", "sealed", "Z", false)
  | 11 => ("LimbCurves", "fedSlot", "I", false)
  | _ => ("LimbCurves", "fedLimbs", "I", false)
def tyX5 : Nat → FieldType := fun k => match k with
  | 0 => .int
  | 1 => .array (.array .int)
  | 2 => .array (.object "LimbCurves$Point")
  | 3 => .array (.array .int)
  | 4 => .object "LimbCurves$Residues"
  | 5 => .object "LimbCurves$Curve"
  | 6 => .object "LimbCurves$RunningSum"
  | 7 => .array .int
  | 8 => .array .int
  | 9 => .object "LimbCurves$Point"
  | 10 => .boolean
  | 11 => .int
  | _ => .int
abbrev wsX50 : List Cond := u_ws RX5 TX5 13
theorem nmX5 : ∀ a, a < 13 → ∀ b, b < 13 → a ≠ b → (TX5 a).2.1 ≠ (TX5 b).2.1 := by decide +kernel
theorem tyX5_ok : ∀ k, k < 13 → parseFieldDescriptor (TX5 k).2.2.1 = some (tyX5 k) := by decide +kernel
abbrev cX5_init : ByteArray := prog_1_method_1_code
def yX5_init : MethodName := ⟨RX5, "<init>", "(I)V"⟩
abbrev cX5_select : ByteArray := prog_1_method_2_code
def yX5_select : MethodName := ⟨RX5, "select", "(I)Z"⟩
abbrev cX5_feedLimb : ByteArray := prog_1_method_3_code
def yX5_feedLimb : MethodName := ⟨RX5, "feedLimb", "(I)Z"⟩
abbrev cX5_seal : ByteArray := prog_1_method_4_code
def yX5_seal : MethodName := ⟨RX5, "seal", "()I"⟩
abbrev cX5_open : ByteArray := prog_1_method_5_code
def yX5_open : MethodName := ⟨RX5, "open", "()Z"⟩
abbrev cX5_limb : ByteArray := prog_1_method_6_code
def yX5_limb : MethodName := ⟨RX5, "limb", "(II)I"⟩
abbrev cX5_onCurve : ByteArray := prog_1_method_7_code
def yX5_onCurve : MethodName := ⟨RX5, "onCurve", "(I)Z"⟩
abbrev cX5_isInfinity : ByteArray := prog_1_method_8_code
def yX5_isInfinity : MethodName := ⟨RX5, "isInfinity", "(I)Z"⟩
abbrev cX5_addPts : ByteArray := prog_1_method_9_code
def yX5_addPts : MethodName := ⟨RX5, "addPts", "(III)Z"⟩
abbrev cX5_dbl : ByteArray := prog_1_method_10_code
def yX5_dbl : MethodName := ⟨RX5, "dbl", "(II)Z"⟩
abbrev cX5_scalarMul : ByteArray := prog_1_method_11_code
def yX5_scalarMul : MethodName := ⟨RX5, "scalarMul", "(III)Z"⟩
abbrev cX5_negate : ByteArray := prog_1_method_12_code
def yX5_negate : MethodName := ⟨RX5, "negate", "(II)Z"⟩
abbrev cX5_isSame : ByteArray := prog_1_method_13_code
def yX5_isSame : MethodName := ⟨RX5, "isSame", "(II)Z"⟩
abbrev cX5_verify : ByteArray := prog_1_method_14_code
def yX5_verify : MethodName := ⟨RX5, "verify", "(IIIII)I"⟩
abbrev cX5_reckon : ByteArray := prog_1_method_15_code
def yX5_reckon : MethodName := ⟨RX5, "reckon", "(IIII)Z"⟩
abbrev cX5_state : ByteArray := prog_1_method_16_code
def yX5_state : MethodName := ⟨RX5, "state", "(I)I"⟩
abbrev cX5_isSlot : ByteArray := prog_1_method_17_code
def yX5_isSlot : MethodName := ⟨RX5, "isSlot", "(I)Z"⟩
abbrev cX5_isParameter : ByteArray := prog_1_method_18_code
def yX5_isParameter : MethodName := ⟨RX5, "isParameter", "(I)Z"⟩
abbrev cX5_isPoint : ByteArray := prog_1_method_19_code
def yX5_isPoint : MethodName := ⟨RX5, "isPoint", "(I)Z"⟩
abbrev cX5_isScalar : ByteArray := prog_1_method_20_code
def yX5_isScalar : MethodName := ⟨RX5, "isScalar", "(I)Z"⟩
abbrev cX5_pointIn : ByteArray := prog_1_method_21_code
def yX5_pointIn : MethodName := ⟨RX5, "pointIn", "(I)LLimbCurves$Point;"⟩
abbrev cX5_scalarIn : ByteArray := prog_1_method_22_code
def yX5_scalarIn : MethodName := ⟨RX5, "scalarIn", "(I)[I"⟩
abbrev cX5_limbsOf : ByteArray := prog_1_method_23_code
def yX5_limbsOf : MethodName := ⟨RX5, "limbsOf", "(I)I"⟩
abbrev cX5_rowOf : ByteArray := prog_1_method_24_code
def yX5_rowOf : MethodName := ⟨RX5, "rowOf", "(II)[I"⟩
abbrev cX5_placeInRow : ByteArray := prog_1_method_25_code
def yX5_placeInRow : MethodName := ⟨RX5, "placeInRow", "(I)I"⟩
abbrev cX5_clearSlot : ByteArray := prog_1_method_26_code
def yX5_clearSlot : MethodName := ⟨RX5, "clearSlot", "(I)V"⟩
abbrev cX5_endFeeding : ByteArray := prog_1_method_27_code
def yX5_endFeeding : MethodName := ⟨RX5, "endFeeding", "(I)V"⟩
abbrev cX5_writeRunningSum : ByteArray := prog_1_method_28_code
def yX5_writeRunningSum : MethodName := ⟨RX5, "writeRunningSum", "(I)Z"⟩
abbrev cX5_isSignaturePart : ByteArray := prog_1_method_29_code
def yX5_isSignaturePart : MethodName := ⟨RX5, "isSignaturePart", "([I)Z"⟩
abbrev cX5_combineModuloOrder : ByteArray := prog_1_method_30_code
def yX5_combineModuloOrder : MethodName := ⟨RX5, "combineModuloOrder", "(I)V"⟩
def RX6 : String := "LimbCurvesModel"
def TX6 : u_T := fun k => match k with
  | 0 => ("LimbCurvesModel", "limbs", "I", true)
  | 1 => ("LimbCurvesModel", "slots", "[I", true)
  | 2 => ("LimbCurvesModel", "isPair", "[Z", true)
  | 3 => ("LimbCurvesModel", "sealed", "Z", false)
  | 4 => ("LimbCurvesModel", "fed", "I", false)
  | 5 => ("LimbCurvesModel", "fedLimbs", "I", false)
  | 6 => ("LimbCurvesModel", "numbers", "[I", true)
  | 7 => ("LimbCurvesModel", "isNothing", "[Z", true)
  | 8 => ("LimbCurvesModel", "u", "[I", true)
  | 9 => ("LimbCurvesModel", "v", "[I", true)
  | 10 => ("LimbCurvesModel", "q", "[I", true)
  | _ => ("LimbCurvesModel", "uSize", "I", false)
def tyX6 : Nat → FieldType := fun k => match k with
  | 0 => .int
  | 1 => .array .int
  | 2 => .array .boolean
  | 3 => .boolean
  | 4 => .int
  | 5 => .int
  | 6 => .array .int
  | 7 => .array .boolean
  | 8 => .array .int
  | 9 => .array .int
  | 10 => .array .int
  | _ => .int
abbrev wsX60 : List Cond := u_ws RX6 TX6 12
theorem nmX6 : ∀ a, a < 12 → ∀ b, b < 12 → a ≠ b → (TX6 a).2.1 ≠ (TX6 b).2.1 := by decide +kernel
theorem tyX6_ok : ∀ k, k < 12 → parseFieldDescriptor (TX6 k).2.2.1 = some (tyX6 k) := by decide +kernel
abbrev cX6_init : ByteArray := prog_8_method_1_code
def yX6_init : MethodName := ⟨RX6, "<init>", "(I)V"⟩
abbrev cX6_isPoint : ByteArray := prog_8_method_2_code
def yX6_isPoint : MethodName := ⟨RX6, "isPoint", "(I)Z"⟩
abbrev cX6_isScalar : ByteArray := prog_8_method_3_code
def yX6_isScalar : MethodName := ⟨RX6, "isScalar", "(I)Z"⟩
abbrev cX6_limbsOf : ByteArray := prog_8_method_4_code
def yX6_limbsOf : MethodName := ⟨RX6, "limbsOf", "(I)I"⟩
abbrev cX6_select : ByteArray := prog_8_method_5_code
def yX6_select : MethodName := ⟨RX6, "select", "(I)Z"⟩
abbrev cX6_feedLimb : ByteArray := prog_8_method_6_code
def yX6_feedLimb : MethodName := ⟨RX6, "feedLimb", "(I)Z"⟩
abbrev cX6_stopFeeding : ByteArray := prog_8_method_7_code
def yX6_stopFeeding : MethodName := ⟨RX6, "stopFeeding", "()V"⟩
abbrev cX6_written : ByteArray := prog_8_method_8_code
def yX6_written : MethodName := ⟨RX6, "written", "(I)V"⟩
abbrev cX6_get : ByteArray := prog_8_method_9_code
def yX6_get : MethodName := ⟨RX6, "get", "(II)I"⟩
abbrev cX6_set : ByteArray := prog_8_method_10_code
def yX6_set : MethodName := ⟨RX6, "set", "(III)V"⟩
abbrev cX6_load : ByteArray := prog_8_method_11_code
def yX6_load : MethodName := ⟨RX6, "load", "(III)V"⟩
abbrev cX6_loadParameters : ByteArray := prog_8_method_12_code
def yX6_loadParameters : MethodName := ⟨RX6, "loadParameters", "()V"⟩
abbrev cX6_small : ByteArray := prog_8_method_13_code
def yX6_small : MethodName := ⟨RX6, "small", "(II)V"⟩
abbrev cX6_copy : ByteArray := prog_8_method_14_code
def yX6_copy : MethodName := ⟨RX6, "copy", "(II)V"⟩
abbrev cX6_compare : ByteArray := prog_8_method_15_code
def yX6_compare : MethodName := ⟨RX6, "compare", "(II)I"⟩
abbrev cX6_isZero : ByteArray := prog_8_method_16_code
def yX6_isZero : MethodName := ⟨RX6, "isZero", "(I)Z"⟩
abbrev cX6_isOne : ByteArray := prog_8_method_17_code
def yX6_isOne : MethodName := ⟨RX6, "isOne", "(I)Z"⟩
abbrev cX6_plus : ByteArray := prog_8_method_18_code
def yX6_plus : MethodName := ⟨RX6, "plus", "(III)V"⟩
abbrev cX6_minus : ByteArray := prog_8_method_19_code
def yX6_minus : MethodName := ⟨RX6, "minus", "(III)V"⟩
abbrev cX6_halve : ByteArray := prog_8_method_20_code
def yX6_halve : MethodName := ⟨RX6, "halve", "(I)V"⟩
abbrev cX6_isOdd : ByteArray := prog_8_method_21_code
def yX6_isOdd : MethodName := ⟨RX6, "isOdd", "(I)Z"⟩
abbrev cX6_length : ByteArray := prog_8_method_22_code
def yX6_length : MethodName := ⟨RX6, "length", "(I)I"⟩
abbrev cX6_toU : ByteArray := prog_8_method_23_code
def yX6_toU : MethodName := ⟨RX6, "toU", "(I)V"⟩
abbrev cX6_productToU : ByteArray := prog_8_method_24_code
def yX6_productToU : MethodName := ⟨RX6, "productToU", "(II)V"⟩
abbrev cX6_divide : ByteArray := prog_8_method_25_code
def yX6_divide : MethodName := ⟨RX6, "divide", "(II)V"⟩
abbrev cX6_digit : ByteArray := prog_8_method_26_code
def yX6_digit : MethodName := ⟨RX6, "digit", "(II)J"⟩
abbrev cX6_rest : ByteArray := prog_8_method_27_code
def yX6_rest : MethodName := ⟨RX6, "rest", "(III)V"⟩
abbrev cX6_times : ByteArray := prog_8_method_28_code
def yX6_times : MethodName := ⟨RX6, "times", "(IIII)V"⟩
abbrev cX6_sum : ByteArray := prog_8_method_29_code
def yX6_sum : MethodName := ⟨RX6, "sum", "(IIII)V"⟩
abbrev cX6_difference : ByteArray := prog_8_method_30_code
def yX6_difference : MethodName := ⟨RX6, "difference", "(IIII)V"⟩
abbrev cX6_halveModulo : ByteArray := prog_8_method_31_code
def yX6_halveModulo : MethodName := ⟨RX6, "halveModulo", "(II)V"⟩
abbrev cX6_inverseOdd : ByteArray := prog_8_method_32_code
def yX6_inverseOdd : MethodName := ⟨RX6, "inverseOdd", "(III)Z"⟩
abbrev cX6_inverse : ByteArray := prog_8_method_33_code
def yX6_inverse : MethodName := ⟨RX6, "inverse", "(III)Z"⟩
abbrev cX6_x : ByteArray := prog_8_method_34_code
def yX6_x : MethodName := ⟨RX6, "x", "(I)I"⟩
abbrev cX6_y : ByteArray := prog_8_method_35_code
def yX6_y : MethodName := ⟨RX6, "y", "(I)I"⟩
abbrev cX6_loadPoint : ByteArray := prog_8_method_36_code
def yX6_loadPoint : MethodName := ⟨RX6, "loadPoint", "(II)V"⟩
abbrev cX6_storePoint : ByteArray := prog_8_method_37_code
def yX6_storePoint : MethodName := ⟨RX6, "storePoint", "(II)V"⟩
abbrev cX6_copyPoint : ByteArray := prog_8_method_38_code
def yX6_copyPoint : MethodName := ⟨RX6, "copyPoint", "(II)V"⟩
abbrev cX6_isOn : ByteArray := prog_8_method_39_code
def yX6_isOn : MethodName := ⟨RX6, "isOn", "(I)Z"⟩
abbrev cX6_sumPoints : ByteArray := prog_8_method_40_code
def yX6_sumPoints : MethodName := ⟨RX6, "sumPoints", "(III)Z"⟩
abbrev cX6_multiply : ByteArray := prog_8_method_41_code
def yX6_multiply : MethodName := ⟨RX6, "multiply", "(III)Z"⟩
abbrev cX6_seal : ByteArray := prog_8_method_42_code
def yX6_seal : MethodName := ⟨RX6, "seal", "()I"⟩
abbrev cX6_open : ByteArray := prog_8_method_43_code
def yX6_open : MethodName := ⟨RX6, "open", "()Z"⟩
abbrev cX6_limb : ByteArray := prog_8_method_44_code
def yX6_limb : MethodName := ⟨RX6, "limb", "(II)I"⟩
abbrev cX6_isGood : ByteArray := prog_8_method_45_code
def yX6_isGood : MethodName := ⟨RX6, "isGood", "(II)Z"⟩
abbrev cX6_onCurve : ByteArray := prog_8_method_46_code
def yX6_onCurve : MethodName := ⟨RX6, "onCurve", "(I)Z"⟩
abbrev cX6_isInfinity : ByteArray := prog_8_method_47_code
def yX6_isInfinity : MethodName := ⟨RX6, "isInfinity", "(I)Z"⟩
abbrev cX6_addPts : ByteArray := prog_8_method_48_code
def yX6_addPts : MethodName := ⟨RX6, "addPts", "(III)Z"⟩
abbrev cX6_dbl : ByteArray := prog_8_method_49_code
def yX6_dbl : MethodName := ⟨RX6, "dbl", "(II)Z"⟩
abbrev cX6_scalarMul : ByteArray := prog_8_method_50_code
def yX6_scalarMul : MethodName := ⟨RX6, "scalarMul", "(III)Z"⟩
abbrev cX6_negate : ByteArray := prog_8_method_51_code
def yX6_negate : MethodName := ⟨RX6, "negate", "(II)Z"⟩
abbrev cX6_isSame : ByteArray := prog_8_method_52_code
def yX6_isSame : MethodName := ⟨RX6, "isSame", "(II)Z"⟩
abbrev cX6_verify : ByteArray := prog_8_method_53_code
def yX6_verify : MethodName := ⟨RX6, "verify", "(IIIII)I"⟩
abbrev cX6_reckon : ByteArray := prog_8_method_54_code
def yX6_reckon : MethodName := ⟨RX6, "reckon", "(IIII)Z"⟩
abbrev cX6_state : ByteArray := prog_8_method_55_code
def yX6_state : MethodName := ⟨RX6, "state", "(I)I"⟩
def RJ6 : String := "java/lang/Integer"
def TJ6 : u_T := fun k => match k with
  | _ => ("", "", "", false)
def tyJ6 : Nat → FieldType := fun k => match k with
  | _ => .int
abbrev wsJ60 : List Cond := u_ws RJ6 TJ6 0
theorem nmJ6 : ∀ a, a < 0 → ∀ b, b < 0 → a ≠ b → (TJ6 a).2.1 ≠ (TJ6 b).2.1 := by decide +kernel
theorem tyJ6_ok : ∀ k, k < 0 → parseFieldDescriptor (TJ6 k).2.2.1 = some (tyJ6 k) := by decide +kernel
abbrev cJ6_numberOfLeadingZeros_0f7a4 : ByteArray := prog_9_method_47_code
def yJ6_numberOfLeadingZeros_0f7a4 : MethodName := ⟨RJ6, "numberOfLeadingZeros", "(I)I"⟩
def RJ9 : String := "java/lang/Math"
def TJ9 : u_T := fun k => match k with
  | _ => ("", "", "", false)
def tyJ9 : Nat → FieldType := fun k => match k with
  | _ => .int
abbrev wsJ90 : List Cond := u_ws RJ9 TJ9 0
theorem nmJ9 : ∀ a, a < 0 → ∀ b, b < 0 → a ≠ b → (TJ9 a).2.1 ≠ (TJ9 b).2.1 := by decide +kernel
theorem tyJ9_ok : ∀ k, k < 0 → parseFieldDescriptor (TJ9 k).2.2.1 = some (tyJ9 k) := by decide +kernel
abbrev cJ9_max_7cf53 : ByteArray := prog_10_method_65_code
def yJ9_max_7cf53 : MethodName := ⟨RJ9, "max", "(II)I"⟩
abbrev cJ9_min_7cf53 : ByteArray := prog_10_method_69_code
def yJ9_min_7cf53 : MethodName := ⟨RJ9, "min", "(II)I"⟩
abbrev cJ9_min_f86c9 : ByteArray := prog_10_method_70_code
def yJ9_min_f86c9 : MethodName := ⟨RJ9, "min", "(JJ)J"⟩
def RJ10 : String := "java/lang/System"
def TJ10 : u_T := fun k => match k with
  | _ => ("", "", "", false)
def tyJ10 : Nat → FieldType := fun k => match k with
  | _ => .int
abbrev wsJ100 : List Cond := u_ws RJ10 TJ10 0
theorem nmJ10 : ∀ a, a < 0 → ∀ b, b < 0 → a ≠ b → (TJ10 a).2.1 ≠ (TJ10 b).2.1 := by decide +kernel
theorem tyJ10_ok : ∀ k, k < 0 → parseFieldDescriptor (TJ10 k).2.2.1 = some (tyJ10 k) := by decide +kernel
def RJ7 : String := "java/util/Arrays"
def TJ7 : u_T := fun k => match k with
  | _ => ("", "", "", false)
def tyJ7 : Nat → FieldType := fun k => match k with
  | _ => .int
abbrev wsJ70 : List Cond := u_ws RJ7 TJ7 0
theorem nmJ7 : ∀ a, a < 0 → ∀ b, b < 0 → a ≠ b → (TJ7 a).2.1 ≠ (TJ7 b).2.1 := by decide +kernel
theorem tyJ7_ok : ∀ k, k < 0 → parseFieldDescriptor (TJ7 k).2.2.1 = some (tyJ7 k) := by decide +kernel
abbrev cJ7_fill_53178 : ByteArray := prog_12_method_103_code
def yJ7_fill_53178 : MethodName := ⟨RJ7, "fill", "([II)V"⟩
def RL : String := "LimbCurvesLaw"
abbrev cL_cell : ByteArray := method_2_code
def yL_cell : MethodName := ⟨RL, "cell", "([II)I"⟩
abbrev cL_law : ByteArray := code
def yL_law : MethodName := ⟨RL, "law", "([I)Z"⟩
def wsX0_init : List Cond := .code yX0_init cX0_init 3 none :: ([.methodLink RX0 3 objectInit, .instanceMethod objectInit, .code objectInit ⟨#[0xb1]⟩ 1 none, .fieldLink RX0 9 "LimbCurves$Curve" "p" "[I", .fieldLink RX0 15 "LimbCurves$Curve" "a" "[I", .fieldLink RX0 18 "LimbCurves$Curve" "b" "[I", .fieldLink RX0 21 "LimbCurves$Curve" "field" "LLimbCurves$Residues;", .arrayClass .int, .fieldLink RX0 25 "LimbCurves$Curve" "left" "[I", .fieldLink RX0 28 "LimbCurves$Curve" "right" "[I"] ++ wsX00)
def wsX1_sizeOf : List Cond := .code yX1_sizeOf cX1_sizeOf 2 (some .int) :: ([])
def wsJ6_numberOfLeadingZeros_0f7a4 : List Cond := .code yJ6_numberOfLeadingZeros_0f7a4 cJ6_numberOfLeadingZeros_0f7a4 2 (some .int) :: ([.constant RJ6 264 (65536)])
def wsX1_bitsOf : List Cond := .code yX1_bitsOf cX1_bitsOf 2 (some .int) :: ([.methodLink RX1 21 yX1_sizeOf, .static yX1_sizeOf, .initialized RX1, .code yX1_sizeOf cX1_sizeOf 2 (some .int), .methodLink RX1 27 yJ6_numberOfLeadingZeros_0f7a4, .static yJ6_numberOfLeadingZeros_0f7a4, .initialized RJ6, .code yJ6_numberOfLeadingZeros_0f7a4 cJ6_numberOfLeadingZeros_0f7a4 2 (some .int), .constant RJ6 264 (65536)])
def wsX1_compare : List Cond := .code yX1_compare cX1_compare 3 (some .int) :: ([])
def wsX1_copy : List Cond := .code yX1_copy cX1_copy 2 none :: ([.methodLink RX1 15 arraycopyName, .native arraycopyName, .static arraycopyName, .initialized "java/lang/System"])
def wsX1_shiftedLimb : List Cond := .code yX1_shiftedLimb cX1_shiftedLimb 8 (some .int) :: ([.constantLong RX1 33 (2147483647)])
def wsX3_takeModulus : List Cond := .code yX3_takeModulus cX3_takeModulus 3 (some .boolean) :: ([.fieldLink RX3 9 "LimbCurves$Residues" "modulus" "[I", .fieldLink RX3 36 "LimbCurves$Residues" "size" "I", .fieldLink RX3 40 "LimbCurves$Residues" "shift" "I", .fieldLink RX3 15 "LimbCurves$Residues" "divisor" "[I", .methodLink RX3 43 yX1_copy, .static yX1_copy, .initialized RX1, .code yX1_copy cX1_copy 2 none, .methodLink RX1 15 arraycopyName, .native arraycopyName, .static arraycopyName, .initialized "java/lang/System", .methodLink RX3 49 yX1_sizeOf, .static yX1_sizeOf, .code yX1_sizeOf cX1_sizeOf 2 (some .int), .methodLink RX3 53 yJ6_numberOfLeadingZeros_0f7a4, .static yJ6_numberOfLeadingZeros_0f7a4, .initialized RJ6, .code yJ6_numberOfLeadingZeros_0f7a4 cJ6_numberOfLeadingZeros_0f7a4 2 (some .int), .constant RJ6 264 (65536), .methodLink RX3 59 yX1_shiftedLimb, .static yX1_shiftedLimb, .code yX1_shiftedLimb cX1_shiftedLimb 8 (some .int), .constantLong RX1 33 (2147483647)] ++ wsX30)
def wsJ7_fill_53178 : List Cond := .code yJ7_fill_53178 cJ7_fill_53178 4 none :: ([])
def wsX3_shiftWork : List Cond := .code yX3_shiftWork cX3_shiftWork 5 none :: ([.fieldLink RX3 18 "LimbCurves$Residues" "work" "[I", .fieldLink RX3 40 "LimbCurves$Residues" "shift" "I", .constantLong RX3 90 (2147483647)] ++ wsX30)
def wsX3_takeDivisorAway : List Cond := .code yX3_takeDivisorAway cX3_takeDivisorAway 10 none :: ([.fieldLink RX3 36 "LimbCurves$Residues" "size" "I", .fieldLink RX3 18 "LimbCurves$Residues" "work" "[I", .fieldLink RX3 15 "LimbCurves$Residues" "divisor" "[I", .constantLong RX3 90 (2147483647)] ++ wsX30)
def wsX3_unshiftedLimb : List Cond := .code yX3_unshiftedLimb cX3_unshiftedLimb 2 (some .int) :: ([.fieldLink RX3 18 "LimbCurves$Residues" "work" "[I", .fieldLink RX3 40 "LimbCurves$Residues" "shift" "I", .constantLong RX3 90 (2147483647)] ++ wsX30)
def wsX3_takeRemainder : List Cond := .code yX3_takeRemainder cX3_takeRemainder 8 none :: ([.fieldLink RX3 36 "LimbCurves$Residues" "size" "I", .fieldLink RX3 15 "LimbCurves$Residues" "divisor" "[I", .fieldLink RX3 18 "LimbCurves$Residues" "work" "[I", .constantLong RX3 90 (2147483647), .methodLink RX3 116 Lib.MathLoose.min_long.x, .static Lib.MathLoose.min_long.x, .initialized "java/lang/Math", .code Lib.MathLoose.min_long.x Lib.MathLoose.min_long.code 4 (some .long), .methodLink RX3 112 yX3_shiftWork, .instanceMethod yX3_shiftWork, .selects RX3 yX3_shiftWork yX3_shiftWork, .initialized RX3, .code yX3_shiftWork cX3_shiftWork 5 none, .fieldLink RX3 40 "LimbCurves$Residues" "shift" "I", .methodLink RX3 122 yX3_takeDivisorAway, .instanceMethod yX3_takeDivisorAway, .selects RX3 yX3_takeDivisorAway yX3_takeDivisorAway, .code yX3_takeDivisorAway cX3_takeDivisorAway 10 none, .methodLink RX3 126 yX3_unshiftedLimb, .instanceMethod yX3_unshiftedLimb, .selects RX3 yX3_unshiftedLimb yX3_unshiftedLimb, .code yX3_unshiftedLimb cX3_unshiftedLimb 2 (some .int)] ++ wsX30)
def wsX3_multiply_r1 : List Cond := [Cond.fieldLink RX3 18 "LimbCurves$Residues" "work" "[I", Cond.fieldLink RX3 36 "LimbCurves$Residues" "size" "I", Cond.constantLong RX3 90 (2147483647), Cond.methodLink RX3 85 yJ7_fill_53178, Cond.static yJ7_fill_53178, Cond.initialized RJ7, Cond.code yJ7_fill_53178 cJ7_fill_53178 4 none, Cond.methodLink RX3 69 yX3_takeRemainder, Cond.instanceMethod yX3_takeRemainder, Cond.selects RX3 yX3_takeRemainder yX3_takeRemainder, Cond.initialized RX3, Cond.code yX3_takeRemainder cX3_takeRemainder 8 none, Cond.fieldLink RX3 15 "LimbCurves$Residues" "divisor" "[I", Cond.methodLink RX3 116 Lib.MathLoose.min_long.x, Cond.static Lib.MathLoose.min_long.x, Cond.initialized "java/lang/Math", Cond.code Lib.MathLoose.min_long.x Lib.MathLoose.min_long.code 4 (some .long), Cond.methodLink RX3 112 yX3_shiftWork, Cond.instanceMethod yX3_shiftWork, Cond.selects RX3 yX3_shiftWork yX3_shiftWork, Cond.code yX3_shiftWork cX3_shiftWork 5 none, Cond.fieldLink RX3 40 "LimbCurves$Residues" "shift" "I", Cond.methodLink RX3 122 yX3_takeDivisorAway, Cond.instanceMethod yX3_takeDivisorAway]
def wsX3_multiply_r2 : List Cond := [Cond.selects RX3 yX3_takeDivisorAway yX3_takeDivisorAway, Cond.code yX3_takeDivisorAway cX3_takeDivisorAway 10 none, Cond.methodLink RX3 126 yX3_unshiftedLimb, Cond.instanceMethod yX3_unshiftedLimb, Cond.selects RX3 yX3_unshiftedLimb yX3_unshiftedLimb, Cond.code yX3_unshiftedLimb cX3_unshiftedLimb 2 (some .int)]
def wsX3_multiply : List Cond := .code yX3_multiply cX3_multiply 10 none :: ((wsX3_multiply_r1 ++ wsX3_multiply_r2) ++ wsX30)
def wsX1_combine : List Cond := .code yX1_combine cX1_combine 7 (some .long) :: ([.constantLong RX1 33 (2147483647)])
def wsX3_add : List Cond := .code yX3_add cX3_add 6 none :: ([.fieldLink RX3 9 "LimbCurves$Residues" "modulus" "[I", .methodLink RX3 73 yX1_combine, .static yX1_combine, .initialized RX1, .code yX1_combine cX1_combine 7 (some .long), .constantLong RX1 33 (2147483647), .methodLink RX3 77 yX1_compare, .static yX1_compare, .code yX1_compare cX1_compare 3 (some .int)] ++ wsX30)
def wsX3_twice : List Cond := .code yX3_twice cX3_twice 3 none :: ([.methodLink RX3 81 yX3_add, .instanceMethod yX3_add, .selects RX3 yX3_add yX3_add, .initialized RX3, .code yX3_add cX3_add 6 none, .fieldLink RX3 9 "LimbCurves$Residues" "modulus" "[I", .methodLink RX3 73 yX1_combine, .static yX1_combine, .initialized RX1, .code yX1_combine cX1_combine 7 (some .long), .constantLong RX1 33 (2147483647), .methodLink RX3 77 yX1_compare, .static yX1_compare, .code yX1_compare cX1_compare 3 (some .int)] ++ wsX30)
def wsX3_thrice : List Cond := .code yX3_thrice cX3_thrice 3 none :: ([.fieldLink RX3 21 "LimbCurves$Residues" "spare" "[I", .methodLink RX3 81 yX3_add, .instanceMethod yX3_add, .selects RX3 yX3_add yX3_add, .initialized RX3, .code yX3_add cX3_add 6 none, .fieldLink RX3 9 "LimbCurves$Residues" "modulus" "[I", .methodLink RX3 73 yX1_combine, .static yX1_combine, .initialized RX1, .code yX1_combine cX1_combine 7 (some .long), .constantLong RX1 33 (2147483647), .methodLink RX3 77 yX1_compare, .static yX1_compare, .code yX1_compare cX1_compare 3 (some .int)] ++ wsX30)
def wsX1_isZero : List Cond := .code yX1_isZero cX1_isZero 1 (some .boolean) :: ([.methodLink RX1 21 yX1_sizeOf, .static yX1_sizeOf, .initialized RX1, .code yX1_sizeOf cX1_sizeOf 2 (some .int)])
def wsX0_isSingular_r1 : List Cond := [Cond.fieldLink RX0 21 "LimbCurves$Curve" "field" "LLimbCurves$Residues;", Cond.fieldLink RX0 25 "LimbCurves$Curve" "left" "[I", Cond.fieldLink RX0 15 "LimbCurves$Curve" "a" "[I", Cond.fieldLink RX0 28 "LimbCurves$Curve" "right" "[I", Cond.fieldLink RX0 18 "LimbCurves$Curve" "b" "[I", Cond.methodLink RX0 51 yX3_multiply, Cond.instanceMethod yX3_multiply, Cond.selects RX3 yX3_multiply yX3_multiply, Cond.initialized RX3, Cond.code yX3_multiply cX3_multiply 10 none, Cond.fieldLink RX3 18 "LimbCurves$Residues" "work" "[I", Cond.fieldLink RX3 36 "LimbCurves$Residues" "size" "I", Cond.constantLong RX3 90 (2147483647), Cond.methodLink RX3 85 yJ7_fill_53178, Cond.static yJ7_fill_53178, Cond.initialized RJ7, Cond.code yJ7_fill_53178 cJ7_fill_53178 4 none, Cond.methodLink RX3 69 yX3_takeRemainder, Cond.instanceMethod yX3_takeRemainder, Cond.selects RX3 yX3_takeRemainder yX3_takeRemainder, Cond.code yX3_takeRemainder cX3_takeRemainder 8 none, Cond.fieldLink RX3 15 "LimbCurves$Residues" "divisor" "[I", Cond.methodLink RX3 116 Lib.MathLoose.min_long.x, Cond.static Lib.MathLoose.min_long.x]
def wsX0_isSingular_r2 : List Cond := [Cond.initialized "java/lang/Math", Cond.code Lib.MathLoose.min_long.x Lib.MathLoose.min_long.code 4 (some .long), Cond.methodLink RX3 112 yX3_shiftWork, Cond.instanceMethod yX3_shiftWork, Cond.selects RX3 yX3_shiftWork yX3_shiftWork, Cond.code yX3_shiftWork cX3_shiftWork 5 none, Cond.fieldLink RX3 40 "LimbCurves$Residues" "shift" "I", Cond.methodLink RX3 122 yX3_takeDivisorAway, Cond.instanceMethod yX3_takeDivisorAway, Cond.selects RX3 yX3_takeDivisorAway yX3_takeDivisorAway, Cond.code yX3_takeDivisorAway cX3_takeDivisorAway 10 none, Cond.methodLink RX3 126 yX3_unshiftedLimb, Cond.instanceMethod yX3_unshiftedLimb, Cond.selects RX3 yX3_unshiftedLimb yX3_unshiftedLimb, Cond.code yX3_unshiftedLimb cX3_unshiftedLimb 2 (some .int), Cond.methodLink RX0 55 yX3_twice, Cond.instanceMethod yX3_twice, Cond.selects RX3 yX3_twice yX3_twice, Cond.code yX3_twice cX3_twice 3 none, Cond.methodLink RX3 81 yX3_add, Cond.instanceMethod yX3_add, Cond.selects RX3 yX3_add yX3_add, Cond.code yX3_add cX3_add 6 none, Cond.fieldLink RX3 9 "LimbCurves$Residues" "modulus" "[I"]
def wsX0_isSingular_r3 : List Cond := [Cond.methodLink RX3 73 yX1_combine, Cond.static yX1_combine, Cond.initialized RX1, Cond.code yX1_combine cX1_combine 7 (some .long), Cond.constantLong RX1 33 (2147483647), Cond.methodLink RX3 77 yX1_compare, Cond.static yX1_compare, Cond.code yX1_compare cX1_compare 3 (some .int), Cond.methodLink RX0 59 yX3_thrice, Cond.instanceMethod yX3_thrice, Cond.selects RX3 yX3_thrice yX3_thrice, Cond.code yX3_thrice cX3_thrice 3 none, Cond.fieldLink RX3 21 "LimbCurves$Residues" "spare" "[I", Cond.methodLink RX0 62 yX3_add, Cond.methodLink RX0 65 yX1_isZero, Cond.static yX1_isZero, Cond.code yX1_isZero cX1_isZero 1 (some .boolean), Cond.methodLink RX1 21 yX1_sizeOf, Cond.static yX1_sizeOf, Cond.code yX1_sizeOf cX1_sizeOf 2 (some .int)]
def wsX0_isSingular : List Cond := .code yX0_isSingular cX0_isSingular 1 (some .boolean) :: ((wsX0_isSingular_r1 ++ (wsX0_isSingular_r2 ++ wsX0_isSingular_r3)) ++ wsX00 ++ wsX30)
def wsX0_takeParameters_r1 : List Cond := [Cond.fieldLink RX0 9 "LimbCurves$Curve" "p" "[I", Cond.fieldLink RX0 15 "LimbCurves$Curve" "a" "[I", Cond.fieldLink RX0 18 "LimbCurves$Curve" "b" "[I", Cond.fieldLink RX0 21 "LimbCurves$Curve" "field" "LLimbCurves$Residues;", Cond.methodLink RX0 31 yX1_bitsOf, Cond.static yX1_bitsOf, Cond.initialized RX1, Cond.code yX1_bitsOf cX1_bitsOf 2 (some .int), Cond.methodLink RX1 21 yX1_sizeOf, Cond.static yX1_sizeOf, Cond.code yX1_sizeOf cX1_sizeOf 2 (some .int), Cond.methodLink RX1 27 yJ6_numberOfLeadingZeros_0f7a4, Cond.static yJ6_numberOfLeadingZeros_0f7a4, Cond.initialized RJ6, Cond.code yJ6_numberOfLeadingZeros_0f7a4 cJ6_numberOfLeadingZeros_0f7a4 2 (some .int), Cond.constant RJ6 264 (65536), Cond.methodLink RX0 37 yX1_compare, Cond.static yX1_compare, Cond.code yX1_compare cX1_compare 3 (some .int), Cond.methodLink RX0 41 yX3_takeModulus, Cond.instanceMethod yX3_takeModulus, Cond.selects RX3 yX3_takeModulus yX3_takeModulus, Cond.initialized RX3, Cond.code yX3_takeModulus cX3_takeModulus 3 (some .boolean)]
def wsX0_takeParameters_r2 : List Cond := [Cond.fieldLink RX3 9 "LimbCurves$Residues" "modulus" "[I", Cond.fieldLink RX3 36 "LimbCurves$Residues" "size" "I", Cond.fieldLink RX3 40 "LimbCurves$Residues" "shift" "I", Cond.fieldLink RX3 15 "LimbCurves$Residues" "divisor" "[I", Cond.methodLink RX3 43 yX1_copy, Cond.static yX1_copy, Cond.code yX1_copy cX1_copy 2 none, Cond.methodLink RX1 15 arraycopyName, Cond.native arraycopyName, Cond.static arraycopyName, Cond.initialized "java/lang/System", Cond.methodLink RX3 49 yX1_sizeOf, Cond.methodLink RX3 53 yJ6_numberOfLeadingZeros_0f7a4, Cond.methodLink RX3 59 yX1_shiftedLimb, Cond.static yX1_shiftedLimb, Cond.code yX1_shiftedLimb cX1_shiftedLimb 8 (some .int), Cond.constantLong RX1 33 (2147483647), Cond.methodLink RX0 47 yX0_isSingular, Cond.instanceMethod yX0_isSingular, Cond.selects RX0 yX0_isSingular yX0_isSingular, Cond.initialized RX0, Cond.code yX0_isSingular cX0_isSingular 1 (some .boolean), Cond.fieldLink RX0 25 "LimbCurves$Curve" "left" "[I", Cond.fieldLink RX0 28 "LimbCurves$Curve" "right" "[I"]
def wsX0_takeParameters_r3 : List Cond := [Cond.methodLink RX0 51 yX3_multiply, Cond.instanceMethod yX3_multiply, Cond.selects RX3 yX3_multiply yX3_multiply, Cond.code yX3_multiply cX3_multiply 10 none, Cond.fieldLink RX3 18 "LimbCurves$Residues" "work" "[I", Cond.constantLong RX3 90 (2147483647), Cond.methodLink RX3 85 yJ7_fill_53178, Cond.static yJ7_fill_53178, Cond.initialized RJ7, Cond.code yJ7_fill_53178 cJ7_fill_53178 4 none, Cond.methodLink RX3 69 yX3_takeRemainder, Cond.instanceMethod yX3_takeRemainder, Cond.selects RX3 yX3_takeRemainder yX3_takeRemainder, Cond.code yX3_takeRemainder cX3_takeRemainder 8 none, Cond.methodLink RX3 116 Lib.MathLoose.min_long.x, Cond.static Lib.MathLoose.min_long.x, Cond.initialized "java/lang/Math", Cond.code Lib.MathLoose.min_long.x Lib.MathLoose.min_long.code 4 (some .long), Cond.methodLink RX3 112 yX3_shiftWork, Cond.instanceMethod yX3_shiftWork, Cond.selects RX3 yX3_shiftWork yX3_shiftWork, Cond.code yX3_shiftWork cX3_shiftWork 5 none, Cond.methodLink RX3 122 yX3_takeDivisorAway, Cond.instanceMethod yX3_takeDivisorAway]
def wsX0_takeParameters_r4 : List Cond := [Cond.selects RX3 yX3_takeDivisorAway yX3_takeDivisorAway, Cond.code yX3_takeDivisorAway cX3_takeDivisorAway 10 none, Cond.methodLink RX3 126 yX3_unshiftedLimb, Cond.instanceMethod yX3_unshiftedLimb, Cond.selects RX3 yX3_unshiftedLimb yX3_unshiftedLimb, Cond.code yX3_unshiftedLimb cX3_unshiftedLimb 2 (some .int), Cond.methodLink RX0 55 yX3_twice, Cond.instanceMethod yX3_twice, Cond.selects RX3 yX3_twice yX3_twice, Cond.code yX3_twice cX3_twice 3 none, Cond.methodLink RX3 81 yX3_add, Cond.instanceMethod yX3_add, Cond.selects RX3 yX3_add yX3_add, Cond.code yX3_add cX3_add 6 none, Cond.methodLink RX3 73 yX1_combine, Cond.static yX1_combine, Cond.code yX1_combine cX1_combine 7 (some .long), Cond.methodLink RX3 77 yX1_compare, Cond.methodLink RX0 59 yX3_thrice, Cond.instanceMethod yX3_thrice, Cond.selects RX3 yX3_thrice yX3_thrice, Cond.code yX3_thrice cX3_thrice 3 none, Cond.fieldLink RX3 21 "LimbCurves$Residues" "spare" "[I", Cond.methodLink RX0 62 yX3_add]
def wsX0_takeParameters_r5 : List Cond := [Cond.methodLink RX0 65 yX1_isZero, Cond.static yX1_isZero, Cond.code yX1_isZero cX1_isZero 1 (some .boolean)]
def wsX0_takeParameters : List Cond := .code yX0_takeParameters cX0_takeParameters 1 (some .int) :: ((wsX0_takeParameters_r1 ++ (wsX0_takeParameters_r2 ++ (wsX0_takeParameters_r3 ++ (wsX0_takeParameters_r4 ++ wsX0_takeParameters_r5)))) ++ wsX00 ++ wsX30)
def wsX0_holds_r1 : List Cond := [Cond.fieldLink RX0 68 "LimbCurves$Point" "identity" "Z", Cond.fieldLink RX0 74 "LimbCurves$Point" "x" "[I", Cond.fieldLink RX0 9 "LimbCurves$Curve" "p" "[I", Cond.fieldLink RX0 77 "LimbCurves$Point" "y" "[I", Cond.fieldLink RX0 21 "LimbCurves$Curve" "field" "LLimbCurves$Residues;", Cond.fieldLink RX0 25 "LimbCurves$Curve" "left" "[I", Cond.fieldLink RX0 28 "LimbCurves$Curve" "right" "[I", Cond.fieldLink RX0 15 "LimbCurves$Curve" "a" "[I", Cond.fieldLink RX0 18 "LimbCurves$Curve" "b" "[I", Cond.methodLink RX0 37 yX1_compare, Cond.static yX1_compare, Cond.initialized RX1, Cond.code yX1_compare cX1_compare 3 (some .int), Cond.methodLink RX0 51 yX3_multiply, Cond.instanceMethod yX3_multiply, Cond.selects RX3 yX3_multiply yX3_multiply, Cond.initialized RX3, Cond.code yX3_multiply cX3_multiply 10 none, Cond.fieldLink RX3 18 "LimbCurves$Residues" "work" "[I", Cond.fieldLink RX3 36 "LimbCurves$Residues" "size" "I", Cond.constantLong RX3 90 (2147483647), Cond.methodLink RX3 85 yJ7_fill_53178, Cond.static yJ7_fill_53178, Cond.initialized RJ7]
def wsX0_holds_r2 : List Cond := [Cond.code yJ7_fill_53178 cJ7_fill_53178 4 none, Cond.methodLink RX3 69 yX3_takeRemainder, Cond.instanceMethod yX3_takeRemainder, Cond.selects RX3 yX3_takeRemainder yX3_takeRemainder, Cond.code yX3_takeRemainder cX3_takeRemainder 8 none, Cond.fieldLink RX3 15 "LimbCurves$Residues" "divisor" "[I", Cond.methodLink RX3 116 Lib.MathLoose.min_long.x, Cond.static Lib.MathLoose.min_long.x, Cond.initialized "java/lang/Math", Cond.code Lib.MathLoose.min_long.x Lib.MathLoose.min_long.code 4 (some .long), Cond.methodLink RX3 112 yX3_shiftWork, Cond.instanceMethod yX3_shiftWork, Cond.selects RX3 yX3_shiftWork yX3_shiftWork, Cond.code yX3_shiftWork cX3_shiftWork 5 none, Cond.fieldLink RX3 40 "LimbCurves$Residues" "shift" "I", Cond.methodLink RX3 122 yX3_takeDivisorAway, Cond.instanceMethod yX3_takeDivisorAway, Cond.selects RX3 yX3_takeDivisorAway yX3_takeDivisorAway, Cond.code yX3_takeDivisorAway cX3_takeDivisorAway 10 none, Cond.methodLink RX3 126 yX3_unshiftedLimb, Cond.instanceMethod yX3_unshiftedLimb, Cond.selects RX3 yX3_unshiftedLimb yX3_unshiftedLimb, Cond.code yX3_unshiftedLimb cX3_unshiftedLimb 2 (some .int), Cond.methodLink RX0 62 yX3_add]
def wsX0_holds_r3 : List Cond := [Cond.instanceMethod yX3_add, Cond.selects RX3 yX3_add yX3_add, Cond.code yX3_add cX3_add 6 none, Cond.fieldLink RX3 9 "LimbCurves$Residues" "modulus" "[I", Cond.methodLink RX3 73 yX1_combine, Cond.static yX1_combine, Cond.code yX1_combine cX1_combine 7 (some .long), Cond.constantLong RX1 33 (2147483647), Cond.methodLink RX3 77 yX1_compare]
def wsX0_holds : List Cond := .code yX0_holds cX0_holds 2 (some .boolean) :: ((wsX0_holds_r1 ++ (wsX0_holds_r2 ++ wsX0_holds_r3)) ++ wsX20 ++ wsX00 ++ wsX30)
def wsX1_set : List Cond := .code yX1_set cX1_set 2 none :: ([.methodLink RX1 9 yJ7_fill_53178, .static yJ7_fill_53178, .initialized RJ7, .code yJ7_fill_53178 cJ7_fill_53178 4 none])
def wsX3_subtract : List Cond := .code yX3_subtract cX3_subtract 6 none :: ([.fieldLink RX3 9 "LimbCurves$Residues" "modulus" "[I", .methodLink RX3 73 yX1_combine, .static yX1_combine, .initialized RX1, .code yX1_combine cX1_combine 7 (some .long), .constantLong RX1 33 (2147483647)] ++ wsX30)
def wsX0_mirror_r1 : List Cond := [Cond.fieldLink RX0 77 "LimbCurves$Point" "y" "[I", Cond.fieldLink RX0 25 "LimbCurves$Curve" "left" "[I", Cond.fieldLink RX0 21 "LimbCurves$Curve" "field" "LLimbCurves$Residues;", Cond.methodLink RX0 65 yX1_isZero, Cond.static yX1_isZero, Cond.initialized RX1, Cond.code yX1_isZero cX1_isZero 1 (some .boolean), Cond.methodLink RX1 21 yX1_sizeOf, Cond.static yX1_sizeOf, Cond.code yX1_sizeOf cX1_sizeOf 2 (some .int), Cond.methodLink RX0 80 yX1_set, Cond.static yX1_set, Cond.code yX1_set cX1_set 2 none, Cond.methodLink RX1 9 yJ7_fill_53178, Cond.static yJ7_fill_53178, Cond.initialized RJ7, Cond.code yJ7_fill_53178 cJ7_fill_53178 4 none, Cond.methodLink RX0 84 yX3_subtract, Cond.instanceMethod yX3_subtract, Cond.selects RX3 yX3_subtract yX3_subtract, Cond.initialized RX3, Cond.code yX3_subtract cX3_subtract 6 none, Cond.fieldLink RX3 9 "LimbCurves$Residues" "modulus" "[I", Cond.methodLink RX3 73 yX1_combine]
def wsX0_mirror_r2 : List Cond := [Cond.static yX1_combine, Cond.code yX1_combine cX1_combine 7 (some .long), Cond.constantLong RX1 33 (2147483647)]
def wsX0_mirror : List Cond := .code yX0_mirror cX0_mirror 2 none :: ((wsX0_mirror_r1 ++ wsX0_mirror_r2) ++ wsX20 ++ wsX00 ++ wsX30)
def wsX1_isBelowShifted : List Cond := .code yX1_isBelowShifted cX1_isBelowShifted 5 (some .boolean) :: ([.methodLink RX1 35 yX1_shiftedLimb, .static yX1_shiftedLimb, .initialized RX1, .code yX1_shiftedLimb cX1_shiftedLimb 8 (some .int), .constantLong RX1 33 (2147483647)])
def wsX1_gapBetween : List Cond := .code yX1_gapBetween cX1_gapBetween 3 (some .int) :: ([.methodLink RX1 39 yX1_bitsOf, .static yX1_bitsOf, .initialized RX1, .code yX1_bitsOf cX1_bitsOf 2 (some .int), .methodLink RX1 21 yX1_sizeOf, .static yX1_sizeOf, .code yX1_sizeOf cX1_sizeOf 2 (some .int), .methodLink RX1 27 yJ6_numberOfLeadingZeros_0f7a4, .static yJ6_numberOfLeadingZeros_0f7a4, .initialized RJ6, .code yJ6_numberOfLeadingZeros_0f7a4 cJ6_numberOfLeadingZeros_0f7a4 2 (some .int), .constant RJ6 264 (65536), .methodLink RX1 42 yX1_isBelowShifted, .static yX1_isBelowShifted, .code yX1_isBelowShifted cX1_isBelowShifted 5 (some .boolean), .methodLink RX1 35 yX1_shiftedLimb, .static yX1_shiftedLimb, .code yX1_shiftedLimb cX1_shiftedLimb 8 (some .int), .constantLong RX1 33 (2147483647)])
def wsX1_addShifted : List Cond := .code yX1_addShifted cX1_addShifted 7 none :: ([.constantLong RX1 33 (2147483647), .methodLink RX1 35 yX1_shiftedLimb, .static yX1_shiftedLimb, .initialized RX1, .code yX1_shiftedLimb cX1_shiftedLimb 8 (some .int)])
def wsX2_init : List Cond := .code yX2_init cX2_init 2 none :: ([.methodLink RX2 1 objectInit, .instanceMethod objectInit, .code objectInit ⟨#[0xb1]⟩ 1 none, .arrayClass .int, .fieldLink RX2 7 "LimbCurves$Point" "x" "[I", .fieldLink RX2 13 "LimbCurves$Point" "y" "[I", .fieldLink RX2 16 "LimbCurves$Point" "identity" "Z"] ++ wsX20)
def wsX2_becomeIdentity : List Cond := .code yX2_becomeIdentity cX2_becomeIdentity 1 none :: ([.fieldLink RX2 7 "LimbCurves$Point" "x" "[I", .fieldLink RX2 13 "LimbCurves$Point" "y" "[I", .fieldLink RX2 16 "LimbCurves$Point" "identity" "Z", .methodLink RX2 20 yX1_set, .static yX1_set, .initialized RX1, .code yX1_set cX1_set 2 none, .methodLink RX1 9 yJ7_fill_53178, .static yJ7_fill_53178, .initialized RJ7, .code yJ7_fill_53178 cJ7_fill_53178 4 none] ++ wsX20)
def wsX2_copyFrom : List Cond := .code yX2_copyFrom cX2_copyFrom 2 none :: ([.fieldLink RX2 7 "LimbCurves$Point" "x" "[I", .fieldLink RX2 13 "LimbCurves$Point" "y" "[I", .fieldLink RX2 16 "LimbCurves$Point" "identity" "Z", .methodLink RX2 26 yX1_copy, .static yX1_copy, .initialized RX1, .code yX1_copy cX1_copy 2 none, .methodLink RX1 15 arraycopyName, .native arraycopyName, .static arraycopyName, .initialized "java/lang/System"] ++ wsX20)
def wsX2_sameAs : List Cond := .code yX2_sameAs cX2_sameAs 2 (some .boolean) :: ([.fieldLink RX2 16 "LimbCurves$Point" "identity" "Z", .fieldLink RX2 7 "LimbCurves$Point" "x" "[I", .fieldLink RX2 13 "LimbCurves$Point" "y" "[I", .methodLink RX2 30 yX1_compare, .static yX1_compare, .initialized RX1, .code yX1_compare cX1_compare 3 (some .int)] ++ wsX20)
def wsX3_init : List Cond := .code yX3_init cX3_init 2 none :: ([.methodLink RX3 3 objectInit, .instanceMethod objectInit, .code objectInit ⟨#[0xb1]⟩ 1 none, .arrayClass .int, .fieldLink RX3 9 "LimbCurves$Residues" "modulus" "[I", .fieldLink RX3 15 "LimbCurves$Residues" "divisor" "[I", .fieldLink RX3 18 "LimbCurves$Residues" "work" "[I", .fieldLink RX3 21 "LimbCurves$Residues" "spare" "[I", .fieldLink RX3 24 "LimbCurves$Residues" "firstRest" "[I", .fieldLink RX3 27 "LimbCurves$Residues" "secondRest" "[I", .fieldLink RX3 30 "LimbCurves$Residues" "firstFactor" "[I", .fieldLink RX3 33 "LimbCurves$Residues" "secondFactor" "[I", .fieldLink RX3 36 "LimbCurves$Residues" "size" "I", .fieldLink RX3 40 "LimbCurves$Residues" "shift" "I"] ++ wsX30)
def wsX3_reduce_r1 : List Cond := [Cond.fieldLink RX3 18 "LimbCurves$Residues" "work" "[I", Cond.methodLink RX3 63 arraycopyName, Cond.native arraycopyName, Cond.static arraycopyName, Cond.initialized "java/lang/System", Cond.methodLink RX3 69 yX3_takeRemainder, Cond.instanceMethod yX3_takeRemainder, Cond.selects RX3 yX3_takeRemainder yX3_takeRemainder, Cond.initialized RX3, Cond.code yX3_takeRemainder cX3_takeRemainder 8 none, Cond.fieldLink RX3 36 "LimbCurves$Residues" "size" "I", Cond.fieldLink RX3 15 "LimbCurves$Residues" "divisor" "[I", Cond.constantLong RX3 90 (2147483647), Cond.methodLink RX3 116 Lib.MathLoose.min_long.x, Cond.static Lib.MathLoose.min_long.x, Cond.initialized "java/lang/Math", Cond.code Lib.MathLoose.min_long.x Lib.MathLoose.min_long.code 4 (some .long), Cond.methodLink RX3 112 yX3_shiftWork, Cond.instanceMethod yX3_shiftWork, Cond.selects RX3 yX3_shiftWork yX3_shiftWork, Cond.code yX3_shiftWork cX3_shiftWork 5 none, Cond.fieldLink RX3 40 "LimbCurves$Residues" "shift" "I", Cond.methodLink RX3 122 yX3_takeDivisorAway, Cond.instanceMethod yX3_takeDivisorAway]
def wsX3_reduce_r2 : List Cond := [Cond.selects RX3 yX3_takeDivisorAway yX3_takeDivisorAway, Cond.code yX3_takeDivisorAway cX3_takeDivisorAway 10 none, Cond.methodLink RX3 126 yX3_unshiftedLimb, Cond.instanceMethod yX3_unshiftedLimb, Cond.selects RX3 yX3_unshiftedLimb yX3_unshiftedLimb, Cond.code yX3_unshiftedLimb cX3_unshiftedLimb 2 (some .int)]
def wsX3_reduce : List Cond := .code yX3_reduce cX3_reduce 3 none :: ((wsX3_reduce_r1 ++ wsX3_reduce_r2) ++ wsX30)
def wsX3_invert_r1 : List Cond := [Cond.fieldLink RX3 24 "LimbCurves$Residues" "firstRest" "[I", Cond.fieldLink RX3 27 "LimbCurves$Residues" "secondRest" "[I", Cond.fieldLink RX3 30 "LimbCurves$Residues" "firstFactor" "[I", Cond.fieldLink RX3 33 "LimbCurves$Residues" "secondFactor" "[I", Cond.fieldLink RX3 9 "LimbCurves$Residues" "modulus" "[I", Cond.methodLink RX3 43 yX1_copy, Cond.static yX1_copy, Cond.initialized RX1, Cond.code yX1_copy cX1_copy 2 none, Cond.methodLink RX1 15 arraycopyName, Cond.native arraycopyName, Cond.static arraycopyName, Cond.initialized "java/lang/System", Cond.methodLink RX3 92 yX1_set, Cond.static yX1_set, Cond.code yX1_set cX1_set 2 none, Cond.methodLink RX1 9 yJ7_fill_53178, Cond.static yJ7_fill_53178, Cond.initialized RJ7, Cond.code yJ7_fill_53178 cJ7_fill_53178 4 none, Cond.methodLink RX3 95 yX1_isZero, Cond.static yX1_isZero, Cond.code yX1_isZero cX1_isZero 1 (some .boolean), Cond.methodLink RX1 21 yX1_sizeOf]
def wsX3_invert_r2 : List Cond := [Cond.static yX1_sizeOf, Cond.code yX1_sizeOf cX1_sizeOf 2 (some .int), Cond.methodLink RX3 99 yX1_gapBetween, Cond.static yX1_gapBetween, Cond.code yX1_gapBetween cX1_gapBetween 3 (some .int), Cond.methodLink RX1 39 yX1_bitsOf, Cond.static yX1_bitsOf, Cond.code yX1_bitsOf cX1_bitsOf 2 (some .int), Cond.methodLink RX1 27 yJ6_numberOfLeadingZeros_0f7a4, Cond.static yJ6_numberOfLeadingZeros_0f7a4, Cond.initialized RJ6, Cond.code yJ6_numberOfLeadingZeros_0f7a4 cJ6_numberOfLeadingZeros_0f7a4 2 (some .int), Cond.constant RJ6 264 (65536), Cond.methodLink RX1 42 yX1_isBelowShifted, Cond.static yX1_isBelowShifted, Cond.code yX1_isBelowShifted cX1_isBelowShifted 5 (some .boolean), Cond.methodLink RX1 35 yX1_shiftedLimb, Cond.static yX1_shiftedLimb, Cond.code yX1_shiftedLimb cX1_shiftedLimb 8 (some .int), Cond.constantLong RX1 33 (2147483647), Cond.methodLink RX3 102 yX1_addShifted, Cond.static yX1_addShifted, Cond.code yX1_addShifted cX1_addShifted 7 none, Cond.methodLink RX3 106 yX1_bitsOf]
def wsX3_invert_r3 : List Cond := [Cond.methodLink RX3 109 yX3_subtract, Cond.instanceMethod yX3_subtract, Cond.selects RX3 yX3_subtract yX3_subtract, Cond.initialized RX3, Cond.code yX3_subtract cX3_subtract 6 none, Cond.methodLink RX3 73 yX1_combine, Cond.static yX1_combine, Cond.code yX1_combine cX1_combine 7 (some .long)]
def wsX3_invert : List Cond := .code yX3_invert cX3_invert 11 (some .boolean) :: ((wsX3_invert_r1 ++ (wsX3_invert_r2 ++ wsX3_invert_r3)) ++ wsX30)
def wsX4_init : List Cond := .code yX4_init cX4_init 4 none :: ([.methodLink RX4 3 objectInit, .instanceMethod objectInit, .code objectInit ⟨#[0xb1]⟩ 1 none, .fieldLink RX4 9 "LimbCurves$RunningSum" "field" "LLimbCurves$Residues;", .fieldLink RX4 15 "LimbCurves$RunningSum" "a" "[I", .arrayClass .int, .fieldLink RX4 19 "LimbCurves$RunningSum" "x" "[I", .fieldLink RX4 22 "LimbCurves$RunningSum" "y" "[I", .fieldLink RX4 25 "LimbCurves$RunningSum" "z" "[I", .fieldLink RX4 28 "LimbCurves$RunningSum" "identity" "Z", .fieldLink RX4 32 "LimbCurves$RunningSum" "otherX" "[I", .fieldLink RX4 35 "LimbCurves$RunningSum" "otherY" "[I", .fieldLink RX4 38 "LimbCurves$RunningSum" "run" "[I", .fieldLink RX4 41 "LimbCurves$RunningSum" "rise" "[I", .fieldLink RX4 44 "LimbCurves$RunningSum" "s" "[I", .fieldLink RX4 47 "LimbCurves$RunningSum" "t" "[I"] ++ wsX40)
def wsX4_startAtIdentity : List Cond := .code yX4_startAtIdentity cX4_startAtIdentity 1 none :: ([.fieldLink RX4 28 "LimbCurves$RunningSum" "identity" "Z", .fieldLink RX4 25 "LimbCurves$RunningSum" "z" "[I", .methodLink RX4 50 yX1_set, .static yX1_set, .initialized RX1, .code yX1_set cX1_set 2 none, .methodLink RX1 9 yJ7_fill_53178, .static yJ7_fill_53178, .initialized RJ7, .code yJ7_fill_53178 cJ7_fill_53178 4 none] ++ wsX40)
def wsX4_addItself_r1 : List Cond := [Cond.fieldLink RX4 28 "LimbCurves$RunningSum" "identity" "Z", Cond.fieldLink RX4 22 "LimbCurves$RunningSum" "y" "[I", Cond.fieldLink RX4 9 "LimbCurves$RunningSum" "field" "LLimbCurves$Residues;", Cond.fieldLink RX4 44 "LimbCurves$RunningSum" "s" "[I", Cond.fieldLink RX4 25 "LimbCurves$RunningSum" "z" "[I", Cond.fieldLink RX4 15 "LimbCurves$RunningSum" "a" "[I", Cond.fieldLink RX4 41 "LimbCurves$RunningSum" "rise" "[I", Cond.fieldLink RX4 19 "LimbCurves$RunningSum" "x" "[I", Cond.fieldLink RX4 47 "LimbCurves$RunningSum" "t" "[I", Cond.methodLink RX4 82 yX1_isZero, Cond.static yX1_isZero, Cond.initialized RX1, Cond.code yX1_isZero cX1_isZero 1 (some .boolean), Cond.methodLink RX1 21 yX1_sizeOf, Cond.static yX1_sizeOf, Cond.code yX1_sizeOf cX1_sizeOf 2 (some .int), Cond.methodLink RX4 99 yX3_multiply, Cond.instanceMethod yX3_multiply, Cond.selects RX3 yX3_multiply yX3_multiply, Cond.initialized RX3, Cond.code yX3_multiply cX3_multiply 10 none, Cond.fieldLink RX3 18 "LimbCurves$Residues" "work" "[I", Cond.fieldLink RX3 36 "LimbCurves$Residues" "size" "I", Cond.constantLong RX3 90 (2147483647)]
def wsX4_addItself_r2 : List Cond := [Cond.methodLink RX3 85 yJ7_fill_53178, Cond.static yJ7_fill_53178, Cond.initialized RJ7, Cond.code yJ7_fill_53178 cJ7_fill_53178 4 none, Cond.methodLink RX3 69 yX3_takeRemainder, Cond.instanceMethod yX3_takeRemainder, Cond.selects RX3 yX3_takeRemainder yX3_takeRemainder, Cond.code yX3_takeRemainder cX3_takeRemainder 8 none, Cond.fieldLink RX3 15 "LimbCurves$Residues" "divisor" "[I", Cond.methodLink RX3 116 Lib.MathLoose.min_long.x, Cond.static Lib.MathLoose.min_long.x, Cond.initialized "java/lang/Math", Cond.code Lib.MathLoose.min_long.x Lib.MathLoose.min_long.code 4 (some .long), Cond.methodLink RX3 112 yX3_shiftWork, Cond.instanceMethod yX3_shiftWork, Cond.selects RX3 yX3_shiftWork yX3_shiftWork, Cond.code yX3_shiftWork cX3_shiftWork 5 none, Cond.fieldLink RX3 40 "LimbCurves$Residues" "shift" "I", Cond.methodLink RX3 122 yX3_takeDivisorAway, Cond.instanceMethod yX3_takeDivisorAway, Cond.selects RX3 yX3_takeDivisorAway yX3_takeDivisorAway, Cond.code yX3_takeDivisorAway cX3_takeDivisorAway 10 none, Cond.methodLink RX3 126 yX3_unshiftedLimb, Cond.instanceMethod yX3_unshiftedLimb]
def wsX4_addItself_r3 : List Cond := [Cond.selects RX3 yX3_unshiftedLimb yX3_unshiftedLimb, Cond.code yX3_unshiftedLimb cX3_unshiftedLimb 2 (some .int), Cond.methodLink RX4 104 yX3_thrice, Cond.instanceMethod yX3_thrice, Cond.selects RX3 yX3_thrice yX3_thrice, Cond.code yX3_thrice cX3_thrice 3 none, Cond.fieldLink RX3 21 "LimbCurves$Residues" "spare" "[I", Cond.methodLink RX3 81 yX3_add, Cond.instanceMethod yX3_add, Cond.selects RX3 yX3_add yX3_add, Cond.code yX3_add cX3_add 6 none, Cond.fieldLink RX3 9 "LimbCurves$Residues" "modulus" "[I", Cond.methodLink RX3 73 yX1_combine, Cond.static yX1_combine, Cond.code yX1_combine cX1_combine 7 (some .long), Cond.constantLong RX1 33 (2147483647), Cond.methodLink RX3 77 yX1_compare, Cond.static yX1_compare, Cond.code yX1_compare cX1_compare 3 (some .int), Cond.methodLink RX4 107 yX3_add, Cond.methodLink RX4 110 yX3_twice, Cond.instanceMethod yX3_twice, Cond.selects RX3 yX3_twice yX3_twice, Cond.code yX3_twice cX3_twice 3 none]
def wsX4_addItself_r4 : List Cond := [Cond.methodLink RX4 76 yX3_subtract, Cond.instanceMethod yX3_subtract, Cond.selects RX3 yX3_subtract yX3_subtract, Cond.code yX3_subtract cX3_subtract 6 none]
def wsX4_addItself : List Cond := .code yX4_addItself cX4_addItself 1 none :: ((wsX4_addItself_r1 ++ (wsX4_addItself_r2 ++ (wsX4_addItself_r3 ++ wsX4_addItself_r4))) ++ wsX40 ++ wsX30)
def wsX4_bringToSameZ_r1 : List Cond := [Cond.fieldLink RX4 9 "LimbCurves$RunningSum" "field" "LLimbCurves$Residues;", Cond.fieldLink RX4 44 "LimbCurves$RunningSum" "s" "[I", Cond.fieldLink RX4 25 "LimbCurves$RunningSum" "z" "[I", Cond.fieldLink RX4 32 "LimbCurves$RunningSum" "otherX" "[I", Cond.fieldLink RX4 102 "LimbCurves$Point" "x" "[I", Cond.fieldLink RX4 35 "LimbCurves$RunningSum" "otherY" "[I", Cond.fieldLink RX4 103 "LimbCurves$Point" "y" "[I", Cond.methodLink RX4 99 yX3_multiply, Cond.instanceMethod yX3_multiply, Cond.selects RX3 yX3_multiply yX3_multiply, Cond.initialized RX3, Cond.code yX3_multiply cX3_multiply 10 none, Cond.fieldLink RX3 18 "LimbCurves$Residues" "work" "[I", Cond.fieldLink RX3 36 "LimbCurves$Residues" "size" "I", Cond.constantLong RX3 90 (2147483647), Cond.methodLink RX3 85 yJ7_fill_53178, Cond.static yJ7_fill_53178, Cond.initialized RJ7, Cond.code yJ7_fill_53178 cJ7_fill_53178 4 none, Cond.methodLink RX3 69 yX3_takeRemainder, Cond.instanceMethod yX3_takeRemainder, Cond.selects RX3 yX3_takeRemainder yX3_takeRemainder, Cond.code yX3_takeRemainder cX3_takeRemainder 8 none, Cond.fieldLink RX3 15 "LimbCurves$Residues" "divisor" "[I"]
def wsX4_bringToSameZ_r2 : List Cond := [Cond.methodLink RX3 116 Lib.MathLoose.min_long.x, Cond.static Lib.MathLoose.min_long.x, Cond.initialized "java/lang/Math", Cond.code Lib.MathLoose.min_long.x Lib.MathLoose.min_long.code 4 (some .long), Cond.methodLink RX3 112 yX3_shiftWork, Cond.instanceMethod yX3_shiftWork, Cond.selects RX3 yX3_shiftWork yX3_shiftWork, Cond.code yX3_shiftWork cX3_shiftWork 5 none, Cond.fieldLink RX3 40 "LimbCurves$Residues" "shift" "I", Cond.methodLink RX3 122 yX3_takeDivisorAway, Cond.instanceMethod yX3_takeDivisorAway, Cond.selects RX3 yX3_takeDivisorAway yX3_takeDivisorAway, Cond.code yX3_takeDivisorAway cX3_takeDivisorAway 10 none, Cond.methodLink RX3 126 yX3_unshiftedLimb, Cond.instanceMethod yX3_unshiftedLimb, Cond.selects RX3 yX3_unshiftedLimb yX3_unshiftedLimb, Cond.code yX3_unshiftedLimb cX3_unshiftedLimb 2 (some .int)]
def wsX4_bringToSameZ : List Cond := .code yX4_bringToSameZ cX4_bringToSameZ 2 none :: ((wsX4_bringToSameZ_r1 ++ wsX4_bringToSameZ_r2) ++ wsX40 ++ wsX20 ++ wsX30)
def wsX4_addAlongChord_r1 : List Cond := [Cond.fieldLink RX4 9 "LimbCurves$RunningSum" "field" "LLimbCurves$Residues;", Cond.fieldLink RX4 25 "LimbCurves$RunningSum" "z" "[I", Cond.fieldLink RX4 38 "LimbCurves$RunningSum" "run" "[I", Cond.fieldLink RX4 44 "LimbCurves$RunningSum" "s" "[I", Cond.fieldLink RX4 47 "LimbCurves$RunningSum" "t" "[I", Cond.fieldLink RX4 19 "LimbCurves$RunningSum" "x" "[I", Cond.fieldLink RX4 41 "LimbCurves$RunningSum" "rise" "[I", Cond.fieldLink RX4 22 "LimbCurves$RunningSum" "y" "[I", Cond.methodLink RX4 99 yX3_multiply, Cond.instanceMethod yX3_multiply, Cond.selects RX3 yX3_multiply yX3_multiply, Cond.initialized RX3, Cond.code yX3_multiply cX3_multiply 10 none, Cond.fieldLink RX3 18 "LimbCurves$Residues" "work" "[I", Cond.fieldLink RX3 36 "LimbCurves$Residues" "size" "I", Cond.constantLong RX3 90 (2147483647), Cond.methodLink RX3 85 yJ7_fill_53178, Cond.static yJ7_fill_53178, Cond.initialized RJ7, Cond.code yJ7_fill_53178 cJ7_fill_53178 4 none, Cond.methodLink RX3 69 yX3_takeRemainder, Cond.instanceMethod yX3_takeRemainder, Cond.selects RX3 yX3_takeRemainder yX3_takeRemainder, Cond.code yX3_takeRemainder cX3_takeRemainder 8 none]
def wsX4_addAlongChord_r2 : List Cond := [Cond.fieldLink RX3 15 "LimbCurves$Residues" "divisor" "[I", Cond.methodLink RX3 116 Lib.MathLoose.min_long.x, Cond.static Lib.MathLoose.min_long.x, Cond.initialized "java/lang/Math", Cond.code Lib.MathLoose.min_long.x Lib.MathLoose.min_long.code 4 (some .long), Cond.methodLink RX3 112 yX3_shiftWork, Cond.instanceMethod yX3_shiftWork, Cond.selects RX3 yX3_shiftWork yX3_shiftWork, Cond.code yX3_shiftWork cX3_shiftWork 5 none, Cond.fieldLink RX3 40 "LimbCurves$Residues" "shift" "I", Cond.methodLink RX3 122 yX3_takeDivisorAway, Cond.instanceMethod yX3_takeDivisorAway, Cond.selects RX3 yX3_takeDivisorAway yX3_takeDivisorAway, Cond.code yX3_takeDivisorAway cX3_takeDivisorAway 10 none, Cond.methodLink RX3 126 yX3_unshiftedLimb, Cond.instanceMethod yX3_unshiftedLimb, Cond.selects RX3 yX3_unshiftedLimb yX3_unshiftedLimb, Cond.code yX3_unshiftedLimb cX3_unshiftedLimb 2 (some .int), Cond.methodLink RX4 76 yX3_subtract, Cond.instanceMethod yX3_subtract, Cond.selects RX3 yX3_subtract yX3_subtract, Cond.code yX3_subtract cX3_subtract 6 none, Cond.fieldLink RX3 9 "LimbCurves$Residues" "modulus" "[I", Cond.methodLink RX3 73 yX1_combine]
def wsX4_addAlongChord_r3 : List Cond := [Cond.static yX1_combine, Cond.initialized RX1, Cond.code yX1_combine cX1_combine 7 (some .long), Cond.constantLong RX1 33 (2147483647)]
def wsX4_addAlongChord : List Cond := .code yX4_addAlongChord cX4_addAlongChord 1 none :: ((wsX4_addAlongChord_r1 ++ (wsX4_addAlongChord_r2 ++ wsX4_addAlongChord_r3)) ++ wsX40 ++ wsX30)
def wsX4_addAtSameX_r1 : List Cond := [Cond.fieldLink RX4 9 "LimbCurves$RunningSum" "field" "LLimbCurves$Residues;", Cond.fieldLink RX4 44 "LimbCurves$RunningSum" "s" "[I", Cond.fieldLink RX4 35 "LimbCurves$RunningSum" "otherY" "[I", Cond.fieldLink RX4 22 "LimbCurves$RunningSum" "y" "[I", Cond.fieldLink RX4 28 "LimbCurves$RunningSum" "identity" "Z", Cond.fieldLink RX4 25 "LimbCurves$RunningSum" "z" "[I", Cond.methodLink RX4 107 yX3_add, Cond.instanceMethod yX3_add, Cond.selects RX3 yX3_add yX3_add, Cond.initialized RX3, Cond.code yX3_add cX3_add 6 none, Cond.fieldLink RX3 9 "LimbCurves$Residues" "modulus" "[I", Cond.methodLink RX3 73 yX1_combine, Cond.static yX1_combine, Cond.initialized RX1, Cond.code yX1_combine cX1_combine 7 (some .long), Cond.constantLong RX1 33 (2147483647), Cond.methodLink RX3 77 yX1_compare, Cond.static yX1_compare, Cond.code yX1_compare cX1_compare 3 (some .int), Cond.methodLink RX4 82 yX1_isZero, Cond.static yX1_isZero, Cond.code yX1_isZero cX1_isZero 1 (some .boolean), Cond.methodLink RX1 21 yX1_sizeOf]
def wsX4_addAtSameX_r2 : List Cond := [Cond.static yX1_sizeOf, Cond.code yX1_sizeOf cX1_sizeOf 2 (some .int), Cond.methodLink RX4 50 yX1_set, Cond.static yX1_set, Cond.code yX1_set cX1_set 2 none, Cond.methodLink RX1 9 yJ7_fill_53178, Cond.static yJ7_fill_53178, Cond.initialized RJ7, Cond.code yJ7_fill_53178 cJ7_fill_53178 4 none]
def wsX4_addAtSameX : List Cond := .code yX4_addAtSameX cX4_addAtSameX 1 none :: ((wsX4_addAtSameX_r1 ++ wsX4_addAtSameX_r2) ++ wsX40 ++ wsX30)
def wsX4_addPoint_r1 : List Cond := [Cond.fieldLink RX4 66 "LimbCurves$Point" "identity" "Z", Cond.fieldLink RX4 28 "LimbCurves$RunningSum" "identity" "Z", Cond.fieldLink RX4 19 "LimbCurves$RunningSum" "x" "[I", Cond.fieldLink RX4 32 "LimbCurves$RunningSum" "otherX" "[I", Cond.fieldLink RX4 22 "LimbCurves$RunningSum" "y" "[I", Cond.fieldLink RX4 35 "LimbCurves$RunningSum" "otherY" "[I", Cond.fieldLink RX4 9 "LimbCurves$RunningSum" "field" "LLimbCurves$Residues;", Cond.fieldLink RX4 38 "LimbCurves$RunningSum" "run" "[I", Cond.fieldLink RX4 41 "LimbCurves$RunningSum" "rise" "[I", Cond.methodLink RX4 69 yX4_bringToSameZ, Cond.instanceMethod yX4_bringToSameZ, Cond.selects RX4 yX4_bringToSameZ yX4_bringToSameZ, Cond.initialized RX4, Cond.code yX4_bringToSameZ cX4_bringToSameZ 2 none, Cond.fieldLink RX4 44 "LimbCurves$RunningSum" "s" "[I", Cond.fieldLink RX4 25 "LimbCurves$RunningSum" "z" "[I", Cond.fieldLink RX4 102 "LimbCurves$Point" "x" "[I", Cond.fieldLink RX4 103 "LimbCurves$Point" "y" "[I", Cond.methodLink RX4 99 yX3_multiply, Cond.instanceMethod yX3_multiply, Cond.selects RX3 yX3_multiply yX3_multiply, Cond.initialized RX3, Cond.code yX3_multiply cX3_multiply 10 none, Cond.fieldLink RX3 18 "LimbCurves$Residues" "work" "[I"]
def wsX4_addPoint_r2 : List Cond := [Cond.fieldLink RX3 36 "LimbCurves$Residues" "size" "I", Cond.constantLong RX3 90 (2147483647), Cond.methodLink RX3 85 yJ7_fill_53178, Cond.static yJ7_fill_53178, Cond.initialized RJ7, Cond.code yJ7_fill_53178 cJ7_fill_53178 4 none, Cond.methodLink RX3 69 yX3_takeRemainder, Cond.instanceMethod yX3_takeRemainder, Cond.selects RX3 yX3_takeRemainder yX3_takeRemainder, Cond.code yX3_takeRemainder cX3_takeRemainder 8 none, Cond.fieldLink RX3 15 "LimbCurves$Residues" "divisor" "[I", Cond.methodLink RX3 116 Lib.MathLoose.min_long.x, Cond.static Lib.MathLoose.min_long.x, Cond.initialized "java/lang/Math", Cond.code Lib.MathLoose.min_long.x Lib.MathLoose.min_long.code 4 (some .long), Cond.methodLink RX3 112 yX3_shiftWork, Cond.instanceMethod yX3_shiftWork, Cond.selects RX3 yX3_shiftWork yX3_shiftWork, Cond.code yX3_shiftWork cX3_shiftWork 5 none, Cond.fieldLink RX3 40 "LimbCurves$Residues" "shift" "I", Cond.methodLink RX3 122 yX3_takeDivisorAway, Cond.instanceMethod yX3_takeDivisorAway, Cond.selects RX3 yX3_takeDivisorAway yX3_takeDivisorAway, Cond.code yX3_takeDivisorAway cX3_takeDivisorAway 10 none]
def wsX4_addPoint_r3 : List Cond := [Cond.methodLink RX3 126 yX3_unshiftedLimb, Cond.instanceMethod yX3_unshiftedLimb, Cond.selects RX3 yX3_unshiftedLimb yX3_unshiftedLimb, Cond.code yX3_unshiftedLimb cX3_unshiftedLimb 2 (some .int), Cond.methodLink RX4 72 yX1_copy, Cond.static yX1_copy, Cond.initialized RX1, Cond.code yX1_copy cX1_copy 2 none, Cond.methodLink RX1 15 arraycopyName, Cond.native arraycopyName, Cond.static arraycopyName, Cond.initialized "java/lang/System", Cond.methodLink RX4 76 yX3_subtract, Cond.instanceMethod yX3_subtract, Cond.selects RX3 yX3_subtract yX3_subtract, Cond.code yX3_subtract cX3_subtract 6 none, Cond.fieldLink RX3 9 "LimbCurves$Residues" "modulus" "[I", Cond.methodLink RX3 73 yX1_combine, Cond.static yX1_combine, Cond.code yX1_combine cX1_combine 7 (some .long), Cond.constantLong RX1 33 (2147483647), Cond.methodLink RX4 82 yX1_isZero, Cond.static yX1_isZero, Cond.code yX1_isZero cX1_isZero 1 (some .boolean)]
def wsX4_addPoint_r4 : List Cond := [Cond.methodLink RX1 21 yX1_sizeOf, Cond.static yX1_sizeOf, Cond.code yX1_sizeOf cX1_sizeOf 2 (some .int), Cond.methodLink RX4 86 yX4_addAlongChord, Cond.instanceMethod yX4_addAlongChord, Cond.selects RX4 yX4_addAlongChord yX4_addAlongChord, Cond.code yX4_addAlongChord cX4_addAlongChord 1 none, Cond.fieldLink RX4 47 "LimbCurves$RunningSum" "t" "[I", Cond.methodLink RX4 59 yX4_addItself, Cond.instanceMethod yX4_addItself, Cond.selects RX4 yX4_addItself yX4_addItself, Cond.code yX4_addItself cX4_addItself 1 none, Cond.fieldLink RX4 15 "LimbCurves$RunningSum" "a" "[I", Cond.methodLink RX4 104 yX3_thrice, Cond.instanceMethod yX3_thrice, Cond.selects RX3 yX3_thrice yX3_thrice, Cond.code yX3_thrice cX3_thrice 3 none, Cond.fieldLink RX3 21 "LimbCurves$Residues" "spare" "[I", Cond.methodLink RX3 81 yX3_add, Cond.instanceMethod yX3_add, Cond.selects RX3 yX3_add yX3_add, Cond.code yX3_add cX3_add 6 none, Cond.methodLink RX3 77 yX1_compare, Cond.static yX1_compare]
def wsX4_addPoint_r5 : List Cond := [Cond.code yX1_compare cX1_compare 3 (some .int), Cond.methodLink RX4 107 yX3_add, Cond.methodLink RX4 110 yX3_twice, Cond.instanceMethod yX3_twice, Cond.selects RX3 yX3_twice yX3_twice, Cond.code yX3_twice cX3_twice 3 none, Cond.methodLink RX4 89 yX4_addAtSameX, Cond.instanceMethod yX4_addAtSameX, Cond.selects RX4 yX4_addAtSameX yX4_addAtSameX, Cond.code yX4_addAtSameX cX4_addAtSameX 1 none, Cond.methodLink RX4 50 yX1_set, Cond.static yX1_set, Cond.code yX1_set cX1_set 2 none, Cond.methodLink RX1 9 yJ7_fill_53178]
def wsX4_addPoint : List Cond := .code yX4_addPoint cX4_addPoint 2 none :: ((wsX4_addPoint_r1 ++ (wsX4_addPoint_r2 ++ (wsX4_addPoint_r3 ++ (wsX4_addPoint_r4 ++ wsX4_addPoint_r5)))) ++ wsX20 ++ wsX40 ++ wsX30)
def wsX4_takeTimes_r1 : List Cond := [Cond.methodLink RX4 56 yX4_startAtIdentity, Cond.instanceMethod yX4_startAtIdentity, Cond.selects RX4 yX4_startAtIdentity yX4_startAtIdentity, Cond.initialized RX4, Cond.code yX4_startAtIdentity cX4_startAtIdentity 1 none, Cond.fieldLink RX4 28 "LimbCurves$RunningSum" "identity" "Z", Cond.fieldLink RX4 25 "LimbCurves$RunningSum" "z" "[I", Cond.methodLink RX4 50 yX1_set, Cond.static yX1_set, Cond.initialized RX1, Cond.code yX1_set cX1_set 2 none, Cond.methodLink RX1 9 yJ7_fill_53178, Cond.static yJ7_fill_53178, Cond.initialized RJ7, Cond.code yJ7_fill_53178 cJ7_fill_53178 4 none, Cond.methodLink RX4 59 yX4_addItself, Cond.instanceMethod yX4_addItself, Cond.selects RX4 yX4_addItself yX4_addItself, Cond.code yX4_addItself cX4_addItself 1 none, Cond.fieldLink RX4 22 "LimbCurves$RunningSum" "y" "[I", Cond.fieldLink RX4 9 "LimbCurves$RunningSum" "field" "LLimbCurves$Residues;", Cond.fieldLink RX4 44 "LimbCurves$RunningSum" "s" "[I", Cond.fieldLink RX4 15 "LimbCurves$RunningSum" "a" "[I", Cond.fieldLink RX4 41 "LimbCurves$RunningSum" "rise" "[I"]
def wsX4_takeTimes_r2 : List Cond := [Cond.fieldLink RX4 19 "LimbCurves$RunningSum" "x" "[I", Cond.fieldLink RX4 47 "LimbCurves$RunningSum" "t" "[I", Cond.methodLink RX4 82 yX1_isZero, Cond.static yX1_isZero, Cond.code yX1_isZero cX1_isZero 1 (some .boolean), Cond.methodLink RX1 21 yX1_sizeOf, Cond.static yX1_sizeOf, Cond.code yX1_sizeOf cX1_sizeOf 2 (some .int), Cond.methodLink RX4 99 yX3_multiply, Cond.instanceMethod yX3_multiply, Cond.selects RX3 yX3_multiply yX3_multiply, Cond.initialized RX3, Cond.code yX3_multiply cX3_multiply 10 none, Cond.fieldLink RX3 18 "LimbCurves$Residues" "work" "[I", Cond.fieldLink RX3 36 "LimbCurves$Residues" "size" "I", Cond.constantLong RX3 90 (2147483647), Cond.methodLink RX3 85 yJ7_fill_53178, Cond.methodLink RX3 69 yX3_takeRemainder, Cond.instanceMethod yX3_takeRemainder, Cond.selects RX3 yX3_takeRemainder yX3_takeRemainder, Cond.code yX3_takeRemainder cX3_takeRemainder 8 none, Cond.fieldLink RX3 15 "LimbCurves$Residues" "divisor" "[I", Cond.methodLink RX3 116 Lib.MathLoose.min_long.x, Cond.static Lib.MathLoose.min_long.x]
def wsX4_takeTimes_r3 : List Cond := [Cond.initialized "java/lang/Math", Cond.code Lib.MathLoose.min_long.x Lib.MathLoose.min_long.code 4 (some .long), Cond.methodLink RX3 112 yX3_shiftWork, Cond.instanceMethod yX3_shiftWork, Cond.selects RX3 yX3_shiftWork yX3_shiftWork, Cond.code yX3_shiftWork cX3_shiftWork 5 none, Cond.fieldLink RX3 40 "LimbCurves$Residues" "shift" "I", Cond.methodLink RX3 122 yX3_takeDivisorAway, Cond.instanceMethod yX3_takeDivisorAway, Cond.selects RX3 yX3_takeDivisorAway yX3_takeDivisorAway, Cond.code yX3_takeDivisorAway cX3_takeDivisorAway 10 none, Cond.methodLink RX3 126 yX3_unshiftedLimb, Cond.instanceMethod yX3_unshiftedLimb, Cond.selects RX3 yX3_unshiftedLimb yX3_unshiftedLimb, Cond.code yX3_unshiftedLimb cX3_unshiftedLimb 2 (some .int), Cond.methodLink RX4 104 yX3_thrice, Cond.instanceMethod yX3_thrice, Cond.selects RX3 yX3_thrice yX3_thrice, Cond.code yX3_thrice cX3_thrice 3 none, Cond.fieldLink RX3 21 "LimbCurves$Residues" "spare" "[I", Cond.methodLink RX3 81 yX3_add, Cond.instanceMethod yX3_add, Cond.selects RX3 yX3_add yX3_add, Cond.code yX3_add cX3_add 6 none]
def wsX4_takeTimes_r4 : List Cond := [Cond.fieldLink RX3 9 "LimbCurves$Residues" "modulus" "[I", Cond.methodLink RX3 73 yX1_combine, Cond.static yX1_combine, Cond.code yX1_combine cX1_combine 7 (some .long), Cond.constantLong RX1 33 (2147483647), Cond.methodLink RX3 77 yX1_compare, Cond.static yX1_compare, Cond.code yX1_compare cX1_compare 3 (some .int), Cond.methodLink RX4 107 yX3_add, Cond.methodLink RX4 110 yX3_twice, Cond.instanceMethod yX3_twice, Cond.selects RX3 yX3_twice yX3_twice, Cond.code yX3_twice cX3_twice 3 none, Cond.methodLink RX4 76 yX3_subtract, Cond.instanceMethod yX3_subtract, Cond.selects RX3 yX3_subtract yX3_subtract, Cond.code yX3_subtract cX3_subtract 6 none, Cond.methodLink RX4 62 yX4_addPoint, Cond.instanceMethod yX4_addPoint, Cond.selects RX4 yX4_addPoint yX4_addPoint, Cond.code yX4_addPoint cX4_addPoint 2 none, Cond.fieldLink RX4 66 "LimbCurves$Point" "identity" "Z", Cond.fieldLink RX4 32 "LimbCurves$RunningSum" "otherX" "[I", Cond.fieldLink RX4 35 "LimbCurves$RunningSum" "otherY" "[I"]
def wsX4_takeTimes_r5 : List Cond := [Cond.fieldLink RX4 38 "LimbCurves$RunningSum" "run" "[I", Cond.methodLink RX4 69 yX4_bringToSameZ, Cond.instanceMethod yX4_bringToSameZ, Cond.selects RX4 yX4_bringToSameZ yX4_bringToSameZ, Cond.code yX4_bringToSameZ cX4_bringToSameZ 2 none, Cond.fieldLink RX4 102 "LimbCurves$Point" "x" "[I", Cond.fieldLink RX4 103 "LimbCurves$Point" "y" "[I", Cond.methodLink RX4 72 yX1_copy, Cond.static yX1_copy, Cond.code yX1_copy cX1_copy 2 none, Cond.methodLink RX1 15 arraycopyName, Cond.native arraycopyName, Cond.static arraycopyName, Cond.initialized "java/lang/System", Cond.methodLink RX4 86 yX4_addAlongChord, Cond.instanceMethod yX4_addAlongChord, Cond.selects RX4 yX4_addAlongChord yX4_addAlongChord, Cond.code yX4_addAlongChord cX4_addAlongChord 1 none, Cond.methodLink RX4 89 yX4_addAtSameX, Cond.instanceMethod yX4_addAtSameX, Cond.selects RX4 yX4_addAtSameX yX4_addAtSameX, Cond.code yX4_addAtSameX cX4_addAtSameX 1 none]
def wsX4_takeTimes : List Cond := .code yX4_takeTimes cX4_takeTimes 5 none :: ((wsX4_takeTimes_r1 ++ (wsX4_takeTimes_r2 ++ (wsX4_takeTimes_r3 ++ (wsX4_takeTimes_r4 ++ wsX4_takeTimes_r5)))) ++ wsX40 ++ wsX30 ++ wsX20)
def wsX4_writeTo_r1 : List Cond := [Cond.fieldLink RX4 9 "LimbCurves$RunningSum" "field" "LLimbCurves$Residues;", Cond.fieldLink RX4 47 "LimbCurves$RunningSum" "t" "[I", Cond.fieldLink RX4 25 "LimbCurves$RunningSum" "z" "[I", Cond.fieldLink RX4 28 "LimbCurves$RunningSum" "identity" "Z", Cond.fieldLink RX4 44 "LimbCurves$RunningSum" "s" "[I", Cond.fieldLink RX4 102 "LimbCurves$Point" "x" "[I", Cond.fieldLink RX4 19 "LimbCurves$RunningSum" "x" "[I", Cond.fieldLink RX4 103 "LimbCurves$Point" "y" "[I", Cond.fieldLink RX4 22 "LimbCurves$RunningSum" "y" "[I", Cond.fieldLink RX4 66 "LimbCurves$Point" "identity" "Z", Cond.methodLink RX4 92 yX3_invert, Cond.instanceMethod yX3_invert, Cond.selects RX3 yX3_invert yX3_invert, Cond.initialized RX3, Cond.code yX3_invert cX3_invert 11 (some .boolean), Cond.fieldLink RX3 24 "LimbCurves$Residues" "firstRest" "[I", Cond.fieldLink RX3 27 "LimbCurves$Residues" "secondRest" "[I", Cond.fieldLink RX3 30 "LimbCurves$Residues" "firstFactor" "[I", Cond.fieldLink RX3 33 "LimbCurves$Residues" "secondFactor" "[I", Cond.fieldLink RX3 9 "LimbCurves$Residues" "modulus" "[I", Cond.methodLink RX3 43 yX1_copy, Cond.static yX1_copy, Cond.initialized RX1, Cond.code yX1_copy cX1_copy 2 none]
def wsX4_writeTo_r2 : List Cond := [Cond.methodLink RX1 15 arraycopyName, Cond.native arraycopyName, Cond.static arraycopyName, Cond.initialized "java/lang/System", Cond.methodLink RX3 92 yX1_set, Cond.static yX1_set, Cond.code yX1_set cX1_set 2 none, Cond.methodLink RX1 9 yJ7_fill_53178, Cond.static yJ7_fill_53178, Cond.initialized RJ7, Cond.code yJ7_fill_53178 cJ7_fill_53178 4 none, Cond.methodLink RX3 95 yX1_isZero, Cond.static yX1_isZero, Cond.code yX1_isZero cX1_isZero 1 (some .boolean), Cond.methodLink RX1 21 yX1_sizeOf, Cond.static yX1_sizeOf, Cond.code yX1_sizeOf cX1_sizeOf 2 (some .int), Cond.methodLink RX3 99 yX1_gapBetween, Cond.static yX1_gapBetween, Cond.code yX1_gapBetween cX1_gapBetween 3 (some .int), Cond.methodLink RX1 39 yX1_bitsOf, Cond.static yX1_bitsOf, Cond.code yX1_bitsOf cX1_bitsOf 2 (some .int), Cond.methodLink RX1 27 yJ6_numberOfLeadingZeros_0f7a4]
def wsX4_writeTo_r3 : List Cond := [Cond.static yJ6_numberOfLeadingZeros_0f7a4, Cond.initialized RJ6, Cond.code yJ6_numberOfLeadingZeros_0f7a4 cJ6_numberOfLeadingZeros_0f7a4 2 (some .int), Cond.constant RJ6 264 (65536), Cond.methodLink RX1 42 yX1_isBelowShifted, Cond.static yX1_isBelowShifted, Cond.code yX1_isBelowShifted cX1_isBelowShifted 5 (some .boolean), Cond.methodLink RX1 35 yX1_shiftedLimb, Cond.static yX1_shiftedLimb, Cond.code yX1_shiftedLimb cX1_shiftedLimb 8 (some .int), Cond.constantLong RX1 33 (2147483647), Cond.methodLink RX3 102 yX1_addShifted, Cond.static yX1_addShifted, Cond.code yX1_addShifted cX1_addShifted 7 none, Cond.methodLink RX3 106 yX1_bitsOf, Cond.methodLink RX3 109 yX3_subtract, Cond.instanceMethod yX3_subtract, Cond.selects RX3 yX3_subtract yX3_subtract, Cond.code yX3_subtract cX3_subtract 6 none, Cond.methodLink RX3 73 yX1_combine, Cond.static yX1_combine, Cond.code yX1_combine cX1_combine 7 (some .long), Cond.methodLink RX4 96 yX2_becomeIdentity, Cond.instanceMethod yX2_becomeIdentity]
def wsX4_writeTo_r4 : List Cond := [Cond.selects RX2 yX2_becomeIdentity yX2_becomeIdentity, Cond.initialized RX2, Cond.code yX2_becomeIdentity cX2_becomeIdentity 1 none, Cond.fieldLink RX2 7 "LimbCurves$Point" "x" "[I", Cond.fieldLink RX2 13 "LimbCurves$Point" "y" "[I", Cond.fieldLink RX2 16 "LimbCurves$Point" "identity" "Z", Cond.methodLink RX2 20 yX1_set, Cond.methodLink RX4 99 yX3_multiply, Cond.instanceMethod yX3_multiply, Cond.selects RX3 yX3_multiply yX3_multiply, Cond.code yX3_multiply cX3_multiply 10 none, Cond.fieldLink RX3 18 "LimbCurves$Residues" "work" "[I", Cond.fieldLink RX3 36 "LimbCurves$Residues" "size" "I", Cond.constantLong RX3 90 (2147483647), Cond.methodLink RX3 85 yJ7_fill_53178, Cond.methodLink RX3 69 yX3_takeRemainder, Cond.instanceMethod yX3_takeRemainder, Cond.selects RX3 yX3_takeRemainder yX3_takeRemainder, Cond.code yX3_takeRemainder cX3_takeRemainder 8 none, Cond.fieldLink RX3 15 "LimbCurves$Residues" "divisor" "[I", Cond.methodLink RX3 116 Lib.MathLoose.min_long.x, Cond.static Lib.MathLoose.min_long.x, Cond.initialized "java/lang/Math", Cond.code Lib.MathLoose.min_long.x Lib.MathLoose.min_long.code 4 (some .long)]
def wsX4_writeTo_r5 : List Cond := [Cond.methodLink RX3 112 yX3_shiftWork, Cond.instanceMethod yX3_shiftWork, Cond.selects RX3 yX3_shiftWork yX3_shiftWork, Cond.code yX3_shiftWork cX3_shiftWork 5 none, Cond.fieldLink RX3 40 "LimbCurves$Residues" "shift" "I", Cond.methodLink RX3 122 yX3_takeDivisorAway, Cond.instanceMethod yX3_takeDivisorAway, Cond.selects RX3 yX3_takeDivisorAway yX3_takeDivisorAway, Cond.code yX3_takeDivisorAway cX3_takeDivisorAway 10 none, Cond.methodLink RX3 126 yX3_unshiftedLimb, Cond.instanceMethod yX3_unshiftedLimb, Cond.selects RX3 yX3_unshiftedLimb yX3_unshiftedLimb, Cond.code yX3_unshiftedLimb cX3_unshiftedLimb 2 (some .int)]
def wsX4_writeTo : List Cond := .code yX4_writeTo cX4_writeTo 2 (some .boolean) :: ((wsX4_writeTo_r1 ++ (wsX4_writeTo_r2 ++ (wsX4_writeTo_r3 ++ (wsX4_writeTo_r4 ++ wsX4_writeTo_r5)))) ++ wsX40 ++ wsX20 ++ wsX30)
def wsX5_init_r1 : List Cond := [Cond.methodLink RX5 1 objectInit, Cond.instanceMethod objectInit, Cond.code objectInit ⟨#[0xb1]⟩ 1 none, Cond.methodLink RX5 9 Lib.Math.min.name, Cond.static Lib.Math.min.name, Cond.initialized "java/lang/Math", Cond.code Lib.Math.min.name Lib.Math.min.code 2 (some .int), Cond.methodLink RX5 15 Lib.Math.max.name, Cond.static Lib.Math.max.name, Cond.code Lib.Math.max.name Lib.Math.max.code 2 (some .int), Cond.fieldLink RX5 18 "LimbCurves" "limbs" "I", Cond.classLink RX5 22 "[[I", Cond.arrayClass .int, Cond.fieldLink RX5 24 "LimbCurves" "parameters" "[[I", Cond.classLink RX5 27 RX2, Cond.fieldLink RX5 29 "LimbCurves" "points" "[LLimbCurves$Point;", Cond.instantiable RX2 3, Cond.initialized RX2, Cond.fieldLink RX5 36 "LimbCurves" "scalars" "[[I", Cond.classLink RX5 39 RX3, Cond.instantiable RX3 10, Cond.initialized RX3, Cond.fieldLink RX5 42 "LimbCurves" "order" "LLimbCurves$Residues;", Cond.classLink RX5 46 RX0]
def wsX5_init_r2 : List Cond := [Cond.instantiable RX0 6, Cond.initialized RX0, Cond.fieldLink RX5 51 "LimbCurves" "curve" "LLimbCurves$Curve;", Cond.classLink RX5 55 RX4, Cond.instantiable RX4 12, Cond.initialized RX4, Cond.fieldLink RX5 60 "LimbCurves" "running" "LLimbCurves$RunningSum;", Cond.fieldLink RX5 64 "LimbCurves" "left" "[I", Cond.fieldLink RX5 68 "LimbCurves" "right" "[I", Cond.fieldLink RX5 71 "LimbCurves" "result" "LLimbCurves$Point;", Cond.fieldLink RX5 75 "LimbCurves" "sealed" "Z", Cond.fieldLink RX5 79 "LimbCurves" "fedSlot" "I", Cond.fieldLink RX5 82 "LimbCurves" "fedLimbs" "I", Cond.methodLink RX5 33 yX2_init, Cond.instanceMethod yX2_init, Cond.code yX2_init cX2_init 2 none, Cond.methodLink RX2 1 objectInit, Cond.fieldLink RX2 7 "LimbCurves$Point" "x" "[I", Cond.fieldLink RX2 13 "LimbCurves$Point" "y" "[I", Cond.fieldLink RX2 16 "LimbCurves$Point" "identity" "Z", Cond.methodLink RX5 41 yX3_init, Cond.instanceMethod yX3_init, Cond.code yX3_init cX3_init 2 none, Cond.methodLink RX3 3 objectInit]
def wsX5_init_r3 : List Cond := [Cond.fieldLink RX3 9 "LimbCurves$Residues" "modulus" "[I", Cond.fieldLink RX3 15 "LimbCurves$Residues" "divisor" "[I", Cond.fieldLink RX3 18 "LimbCurves$Residues" "work" "[I", Cond.fieldLink RX3 21 "LimbCurves$Residues" "spare" "[I", Cond.fieldLink RX3 24 "LimbCurves$Residues" "firstRest" "[I", Cond.fieldLink RX3 27 "LimbCurves$Residues" "secondRest" "[I", Cond.fieldLink RX3 30 "LimbCurves$Residues" "firstFactor" "[I", Cond.fieldLink RX3 33 "LimbCurves$Residues" "secondFactor" "[I", Cond.fieldLink RX3 36 "LimbCurves$Residues" "size" "I", Cond.fieldLink RX3 40 "LimbCurves$Residues" "shift" "I", Cond.methodLink RX5 48 yX0_init, Cond.instanceMethod yX0_init, Cond.code yX0_init cX0_init 3 none, Cond.methodLink RX0 3 objectInit, Cond.fieldLink RX0 9 "LimbCurves$Curve" "p" "[I", Cond.fieldLink RX0 15 "LimbCurves$Curve" "a" "[I", Cond.fieldLink RX0 18 "LimbCurves$Curve" "b" "[I", Cond.fieldLink RX0 21 "LimbCurves$Curve" "field" "LLimbCurves$Residues;", Cond.fieldLink RX0 25 "LimbCurves$Curve" "left" "[I", Cond.fieldLink RX0 28 "LimbCurves$Curve" "right" "[I", Cond.methodLink RX5 57 yX4_init, Cond.instanceMethod yX4_init, Cond.code yX4_init cX4_init 4 none, Cond.methodLink RX4 3 objectInit]
def wsX5_init_r4 : List Cond := [Cond.fieldLink RX4 9 "LimbCurves$RunningSum" "field" "LLimbCurves$Residues;", Cond.fieldLink RX4 15 "LimbCurves$RunningSum" "a" "[I", Cond.fieldLink RX4 19 "LimbCurves$RunningSum" "x" "[I", Cond.fieldLink RX4 22 "LimbCurves$RunningSum" "y" "[I", Cond.fieldLink RX4 25 "LimbCurves$RunningSum" "z" "[I", Cond.fieldLink RX4 28 "LimbCurves$RunningSum" "identity" "Z", Cond.fieldLink RX4 32 "LimbCurves$RunningSum" "otherX" "[I", Cond.fieldLink RX4 35 "LimbCurves$RunningSum" "otherY" "[I", Cond.fieldLink RX4 38 "LimbCurves$RunningSum" "run" "[I", Cond.fieldLink RX4 41 "LimbCurves$RunningSum" "rise" "[I", Cond.fieldLink RX4 44 "LimbCurves$RunningSum" "s" "[I", Cond.fieldLink RX4 47 "LimbCurves$RunningSum" "t" "[I"]
def wsX5_init : List Cond := .code yX5_init cX5_init 3 none :: ((wsX5_init_r1 ++ (wsX5_init_r2 ++ (wsX5_init_r3 ++ wsX5_init_r4))) ++ wsX50 ++ wsX20 ++ wsX30 ++ wsX00 ++ wsX40)
def wsX5_isSlot : List Cond := .code yX5_isSlot cX5_isSlot 1 (some .boolean) :: ([])
def wsX5_isParameter : List Cond := .code yX5_isParameter cX5_isParameter 1 (some .boolean) :: ([])
def wsX5_isPoint : List Cond := .code yX5_isPoint cX5_isPoint 1 (some .boolean) :: ([])
def wsX5_pointIn : List Cond := .code yX5_pointIn cX5_pointIn 2 (some (.object "LimbCurves$Point")) :: ([.fieldLink RX5 29 "LimbCurves" "points" "[LLimbCurves$Point;"] ++ wsX50)
def wsX5_isScalar : List Cond := .code yX5_isScalar cX5_isScalar 1 (some .boolean) :: ([])
def wsX5_scalarIn : List Cond := .code yX5_scalarIn cX5_scalarIn 2 (some (.array .int)) :: ([.fieldLink RX5 36 "LimbCurves" "scalars" "[[I"] ++ wsX50)
def wsX5_rowOf : List Cond := .code yX5_rowOf cX5_rowOf 3 (some (.array .int)) :: ([.fieldLink RX5 24 "LimbCurves" "parameters" "[[I", .fieldLink RX5 18 "LimbCurves" "limbs" "I", .fieldLink RX5 186 "LimbCurves$Point" "x" "[I", .fieldLink RX5 201 "LimbCurves$Point" "y" "[I", .methodLink RX5 89 yX5_isParameter, .static yX5_isParameter, .initialized RX5, .code yX5_isParameter cX5_isParameter 1 (some .boolean), .methodLink RX5 144 yX5_isScalar, .static yX5_isScalar, .code yX5_isScalar cX5_isScalar 1 (some .boolean), .methodLink RX5 147 yX5_scalarIn, .instanceMethod yX5_scalarIn, .selects RX5 yX5_scalarIn yX5_scalarIn, .code yX5_scalarIn cX5_scalarIn 2 (some (.array .int)), .fieldLink RX5 36 "LimbCurves" "scalars" "[[I", .methodLink RX5 106 yX5_pointIn, .instanceMethod yX5_pointIn, .selects RX5 yX5_pointIn yX5_pointIn, .code yX5_pointIn cX5_pointIn 2 (some (.object "LimbCurves$Point")), .fieldLink RX5 29 "LimbCurves" "points" "[LLimbCurves$Point;"] ++ wsX50 ++ wsX20)
def wsX5_clearSlot_r1 : List Cond := [Cond.methodLink RX5 103 yX5_isPoint, Cond.static yX5_isPoint, Cond.initialized RX5, Cond.code yX5_isPoint cX5_isPoint 1 (some .boolean), Cond.methodLink RX5 106 yX5_pointIn, Cond.instanceMethod yX5_pointIn, Cond.selects RX5 yX5_pointIn yX5_pointIn, Cond.code yX5_pointIn cX5_pointIn 2 (some (.object "LimbCurves$Point")), Cond.fieldLink RX5 29 "LimbCurves" "points" "[LLimbCurves$Point;", Cond.methodLink RX5 204 yX2_becomeIdentity, Cond.instanceMethod yX2_becomeIdentity, Cond.selects RX2 yX2_becomeIdentity yX2_becomeIdentity, Cond.initialized RX2, Cond.code yX2_becomeIdentity cX2_becomeIdentity 1 none, Cond.fieldLink RX2 7 "LimbCurves$Point" "x" "[I", Cond.fieldLink RX2 13 "LimbCurves$Point" "y" "[I", Cond.fieldLink RX2 16 "LimbCurves$Point" "identity" "Z", Cond.methodLink RX2 20 yX1_set, Cond.static yX1_set, Cond.initialized RX1, Cond.code yX1_set cX1_set 2 none, Cond.methodLink RX1 9 yJ7_fill_53178, Cond.static yJ7_fill_53178, Cond.initialized RJ7]
def wsX5_clearSlot_r2 : List Cond := [Cond.code yJ7_fill_53178 cJ7_fill_53178 4 none, Cond.methodLink RX5 95 yX5_rowOf, Cond.instanceMethod yX5_rowOf, Cond.selects RX5 yX5_rowOf yX5_rowOf, Cond.code yX5_rowOf cX5_rowOf 3 (some (.array .int)), Cond.fieldLink RX5 24 "LimbCurves" "parameters" "[[I", Cond.fieldLink RX5 18 "LimbCurves" "limbs" "I", Cond.fieldLink RX5 186 "LimbCurves$Point" "x" "[I", Cond.fieldLink RX5 201 "LimbCurves$Point" "y" "[I", Cond.methodLink RX5 89 yX5_isParameter, Cond.static yX5_isParameter, Cond.code yX5_isParameter cX5_isParameter 1 (some .boolean), Cond.methodLink RX5 144 yX5_isScalar, Cond.static yX5_isScalar, Cond.code yX5_isScalar cX5_isScalar 1 (some .boolean), Cond.methodLink RX5 147 yX5_scalarIn, Cond.instanceMethod yX5_scalarIn, Cond.selects RX5 yX5_scalarIn yX5_scalarIn, Cond.code yX5_scalarIn cX5_scalarIn 2 (some (.array .int)), Cond.fieldLink RX5 36 "LimbCurves" "scalars" "[[I", Cond.methodLink RX5 207 yX1_set]
def wsX5_clearSlot : List Cond := .code yX5_clearSlot cX5_clearSlot 2 none :: ((wsX5_clearSlot_r1 ++ wsX5_clearSlot_r2) ++ wsX50 ++ wsX20)
def wsX5_select_r1 : List Cond := [Cond.fieldLink RX5 75 "LimbCurves" "sealed" "Z", Cond.fieldLink RX5 79 "LimbCurves" "fedSlot" "I", Cond.fieldLink RX5 82 "LimbCurves" "fedLimbs" "I", Cond.methodLink RX5 85 yX5_isSlot, Cond.static yX5_isSlot, Cond.initialized RX5, Cond.code yX5_isSlot cX5_isSlot 1 (some .boolean), Cond.methodLink RX5 89 yX5_isParameter, Cond.static yX5_isParameter, Cond.code yX5_isParameter cX5_isParameter 1 (some .boolean), Cond.methodLink RX5 92 yX5_clearSlot, Cond.instanceMethod yX5_clearSlot, Cond.selects RX5 yX5_clearSlot yX5_clearSlot, Cond.code yX5_clearSlot cX5_clearSlot 2 none, Cond.methodLink RX5 103 yX5_isPoint, Cond.static yX5_isPoint, Cond.code yX5_isPoint cX5_isPoint 1 (some .boolean), Cond.methodLink RX5 106 yX5_pointIn, Cond.instanceMethod yX5_pointIn, Cond.selects RX5 yX5_pointIn yX5_pointIn, Cond.code yX5_pointIn cX5_pointIn 2 (some (.object "LimbCurves$Point")), Cond.fieldLink RX5 29 "LimbCurves" "points" "[LLimbCurves$Point;", Cond.methodLink RX5 204 yX2_becomeIdentity, Cond.instanceMethod yX2_becomeIdentity]
def wsX5_select_r2 : List Cond := [Cond.selects RX2 yX2_becomeIdentity yX2_becomeIdentity, Cond.initialized RX2, Cond.code yX2_becomeIdentity cX2_becomeIdentity 1 none, Cond.fieldLink RX2 7 "LimbCurves$Point" "x" "[I", Cond.fieldLink RX2 13 "LimbCurves$Point" "y" "[I", Cond.fieldLink RX2 16 "LimbCurves$Point" "identity" "Z", Cond.methodLink RX2 20 yX1_set, Cond.static yX1_set, Cond.initialized RX1, Cond.code yX1_set cX1_set 2 none, Cond.methodLink RX1 9 yJ7_fill_53178, Cond.static yJ7_fill_53178, Cond.initialized RJ7, Cond.code yJ7_fill_53178 cJ7_fill_53178 4 none, Cond.methodLink RX5 95 yX5_rowOf, Cond.instanceMethod yX5_rowOf, Cond.selects RX5 yX5_rowOf yX5_rowOf, Cond.code yX5_rowOf cX5_rowOf 3 (some (.array .int)), Cond.fieldLink RX5 24 "LimbCurves" "parameters" "[[I", Cond.fieldLink RX5 18 "LimbCurves" "limbs" "I", Cond.fieldLink RX5 186 "LimbCurves$Point" "x" "[I", Cond.fieldLink RX5 201 "LimbCurves$Point" "y" "[I", Cond.methodLink RX5 144 yX5_isScalar, Cond.static yX5_isScalar]
def wsX5_select_r3 : List Cond := [Cond.code yX5_isScalar cX5_isScalar 1 (some .boolean), Cond.methodLink RX5 147 yX5_scalarIn, Cond.instanceMethod yX5_scalarIn, Cond.selects RX5 yX5_scalarIn yX5_scalarIn, Cond.code yX5_scalarIn cX5_scalarIn 2 (some (.array .int)), Cond.fieldLink RX5 36 "LimbCurves" "scalars" "[[I", Cond.methodLink RX5 207 yX1_set]
def wsX5_select : List Cond := .code yX5_select cX5_select 2 (some .boolean) :: ((wsX5_select_r1 ++ (wsX5_select_r2 ++ wsX5_select_r3)) ++ wsX50 ++ wsX20)
def wsX5_placeInRow : List Cond := .code yX5_placeInRow cX5_placeInRow 2 (some .int) :: ([.fieldLink RX5 18 "LimbCurves" "limbs" "I"] ++ wsX50)
def wsX5_limbsOf : List Cond := .code yX5_limbsOf cX5_limbsOf 2 (some .int) :: ([.fieldLink RX5 18 "LimbCurves" "limbs" "I", .methodLink RX5 103 yX5_isPoint, .static yX5_isPoint, .initialized RX5, .code yX5_isPoint cX5_isPoint 1 (some .boolean)] ++ wsX50)
def wsX5_endFeeding : List Cond := .code yX5_endFeeding cX5_endFeeding 2 none :: ([.fieldLink RX5 79 "LimbCurves" "fedSlot" "I", .fieldLink RX5 82 "LimbCurves" "fedLimbs" "I"] ++ wsX50)
def wsX5_feedLimb_r1 : List Cond := [Cond.fieldLink RX5 79 "LimbCurves" "fedSlot" "I", Cond.fieldLink RX5 82 "LimbCurves" "fedLimbs" "I", Cond.fieldLink RX5 110 "LimbCurves$Point" "identity" "Z", Cond.methodLink RX5 95 yX5_rowOf, Cond.instanceMethod yX5_rowOf, Cond.selects RX5 yX5_rowOf yX5_rowOf, Cond.initialized RX5, Cond.code yX5_rowOf cX5_rowOf 3 (some (.array .int)), Cond.fieldLink RX5 24 "LimbCurves" "parameters" "[[I", Cond.fieldLink RX5 18 "LimbCurves" "limbs" "I", Cond.fieldLink RX5 186 "LimbCurves$Point" "x" "[I", Cond.fieldLink RX5 201 "LimbCurves$Point" "y" "[I", Cond.methodLink RX5 89 yX5_isParameter, Cond.static yX5_isParameter, Cond.code yX5_isParameter cX5_isParameter 1 (some .boolean), Cond.methodLink RX5 144 yX5_isScalar, Cond.static yX5_isScalar, Cond.code yX5_isScalar cX5_isScalar 1 (some .boolean), Cond.methodLink RX5 147 yX5_scalarIn, Cond.instanceMethod yX5_scalarIn, Cond.selects RX5 yX5_scalarIn yX5_scalarIn, Cond.code yX5_scalarIn cX5_scalarIn 2 (some (.array .int)), Cond.fieldLink RX5 36 "LimbCurves" "scalars" "[[I", Cond.methodLink RX5 106 yX5_pointIn]
def wsX5_feedLimb_r2 : List Cond := [Cond.instanceMethod yX5_pointIn, Cond.selects RX5 yX5_pointIn yX5_pointIn, Cond.code yX5_pointIn cX5_pointIn 2 (some (.object "LimbCurves$Point")), Cond.fieldLink RX5 29 "LimbCurves" "points" "[LLimbCurves$Point;", Cond.methodLink RX5 99 yX5_placeInRow, Cond.instanceMethod yX5_placeInRow, Cond.selects RX5 yX5_placeInRow yX5_placeInRow, Cond.code yX5_placeInRow cX5_placeInRow 2 (some .int), Cond.methodLink RX5 103 yX5_isPoint, Cond.static yX5_isPoint, Cond.code yX5_isPoint cX5_isPoint 1 (some .boolean), Cond.methodLink RX5 113 yX5_limbsOf, Cond.instanceMethod yX5_limbsOf, Cond.selects RX5 yX5_limbsOf yX5_limbsOf, Cond.code yX5_limbsOf cX5_limbsOf 2 (some .int), Cond.methodLink RX5 116 yX5_endFeeding, Cond.instanceMethod yX5_endFeeding, Cond.selects RX5 yX5_endFeeding yX5_endFeeding, Cond.code yX5_endFeeding cX5_endFeeding 2 none]
def wsX5_feedLimb : List Cond := .code yX5_feedLimb cX5_feedLimb 2 (some .boolean) :: ((wsX5_feedLimb_r1 ++ wsX5_feedLimb_r2) ++ wsX50 ++ wsX20)
def wsX5_seal_r1 : List Cond := [Cond.fieldLink RX5 75 "LimbCurves" "sealed" "Z", Cond.fieldLink RX5 51 "LimbCurves" "curve" "LLimbCurves$Curve;", Cond.fieldLink RX5 79 "LimbCurves" "fedSlot" "I", Cond.methodLink RX5 119 yX0_takeParameters, Cond.instanceMethod yX0_takeParameters, Cond.selects RX0 yX0_takeParameters yX0_takeParameters, Cond.initialized RX0, Cond.code yX0_takeParameters cX0_takeParameters 1 (some .int), Cond.fieldLink RX0 9 "LimbCurves$Curve" "p" "[I", Cond.fieldLink RX0 15 "LimbCurves$Curve" "a" "[I", Cond.fieldLink RX0 18 "LimbCurves$Curve" "b" "[I", Cond.fieldLink RX0 21 "LimbCurves$Curve" "field" "LLimbCurves$Residues;", Cond.methodLink RX0 31 yX1_bitsOf, Cond.static yX1_bitsOf, Cond.initialized RX1, Cond.code yX1_bitsOf cX1_bitsOf 2 (some .int), Cond.methodLink RX1 21 yX1_sizeOf, Cond.static yX1_sizeOf, Cond.code yX1_sizeOf cX1_sizeOf 2 (some .int), Cond.methodLink RX1 27 yJ6_numberOfLeadingZeros_0f7a4, Cond.static yJ6_numberOfLeadingZeros_0f7a4, Cond.initialized RJ6, Cond.code yJ6_numberOfLeadingZeros_0f7a4 cJ6_numberOfLeadingZeros_0f7a4 2 (some .int), Cond.constant RJ6 264 (65536)]
def wsX5_seal_r2 : List Cond := [Cond.methodLink RX0 37 yX1_compare, Cond.static yX1_compare, Cond.code yX1_compare cX1_compare 3 (some .int), Cond.methodLink RX0 41 yX3_takeModulus, Cond.instanceMethod yX3_takeModulus, Cond.selects RX3 yX3_takeModulus yX3_takeModulus, Cond.initialized RX3, Cond.code yX3_takeModulus cX3_takeModulus 3 (some .boolean), Cond.fieldLink RX3 9 "LimbCurves$Residues" "modulus" "[I", Cond.fieldLink RX3 36 "LimbCurves$Residues" "size" "I", Cond.fieldLink RX3 40 "LimbCurves$Residues" "shift" "I", Cond.fieldLink RX3 15 "LimbCurves$Residues" "divisor" "[I", Cond.methodLink RX3 43 yX1_copy, Cond.static yX1_copy, Cond.code yX1_copy cX1_copy 2 none, Cond.methodLink RX1 15 arraycopyName, Cond.native arraycopyName, Cond.static arraycopyName, Cond.initialized "java/lang/System", Cond.methodLink RX3 49 yX1_sizeOf, Cond.methodLink RX3 53 yJ6_numberOfLeadingZeros_0f7a4, Cond.methodLink RX3 59 yX1_shiftedLimb, Cond.static yX1_shiftedLimb, Cond.code yX1_shiftedLimb cX1_shiftedLimb 8 (some .int)]
def wsX5_seal_r3 : List Cond := [Cond.constantLong RX1 33 (2147483647), Cond.methodLink RX0 47 yX0_isSingular, Cond.instanceMethod yX0_isSingular, Cond.selects RX0 yX0_isSingular yX0_isSingular, Cond.code yX0_isSingular cX0_isSingular 1 (some .boolean), Cond.fieldLink RX0 25 "LimbCurves$Curve" "left" "[I", Cond.fieldLink RX0 28 "LimbCurves$Curve" "right" "[I", Cond.methodLink RX0 51 yX3_multiply, Cond.instanceMethod yX3_multiply, Cond.selects RX3 yX3_multiply yX3_multiply, Cond.code yX3_multiply cX3_multiply 10 none, Cond.fieldLink RX3 18 "LimbCurves$Residues" "work" "[I", Cond.constantLong RX3 90 (2147483647), Cond.methodLink RX3 85 yJ7_fill_53178, Cond.static yJ7_fill_53178, Cond.initialized RJ7, Cond.code yJ7_fill_53178 cJ7_fill_53178 4 none, Cond.methodLink RX3 69 yX3_takeRemainder, Cond.instanceMethod yX3_takeRemainder, Cond.selects RX3 yX3_takeRemainder yX3_takeRemainder, Cond.code yX3_takeRemainder cX3_takeRemainder 8 none, Cond.methodLink RX3 116 Lib.MathLoose.min_long.x, Cond.static Lib.MathLoose.min_long.x, Cond.initialized "java/lang/Math"]
def wsX5_seal_r4 : List Cond := [Cond.code Lib.MathLoose.min_long.x Lib.MathLoose.min_long.code 4 (some .long), Cond.methodLink RX3 112 yX3_shiftWork, Cond.instanceMethod yX3_shiftWork, Cond.selects RX3 yX3_shiftWork yX3_shiftWork, Cond.code yX3_shiftWork cX3_shiftWork 5 none, Cond.methodLink RX3 122 yX3_takeDivisorAway, Cond.instanceMethod yX3_takeDivisorAway, Cond.selects RX3 yX3_takeDivisorAway yX3_takeDivisorAway, Cond.code yX3_takeDivisorAway cX3_takeDivisorAway 10 none, Cond.methodLink RX3 126 yX3_unshiftedLimb, Cond.instanceMethod yX3_unshiftedLimb, Cond.selects RX3 yX3_unshiftedLimb yX3_unshiftedLimb, Cond.code yX3_unshiftedLimb cX3_unshiftedLimb 2 (some .int), Cond.methodLink RX0 55 yX3_twice, Cond.instanceMethod yX3_twice, Cond.selects RX3 yX3_twice yX3_twice, Cond.code yX3_twice cX3_twice 3 none, Cond.methodLink RX3 81 yX3_add, Cond.instanceMethod yX3_add, Cond.selects RX3 yX3_add yX3_add, Cond.code yX3_add cX3_add 6 none, Cond.methodLink RX3 73 yX1_combine, Cond.static yX1_combine, Cond.code yX1_combine cX1_combine 7 (some .long)]
def wsX5_seal_r5 : List Cond := [Cond.methodLink RX3 77 yX1_compare, Cond.methodLink RX0 59 yX3_thrice, Cond.instanceMethod yX3_thrice, Cond.selects RX3 yX3_thrice yX3_thrice, Cond.code yX3_thrice cX3_thrice 3 none, Cond.fieldLink RX3 21 "LimbCurves$Residues" "spare" "[I", Cond.methodLink RX0 62 yX3_add, Cond.methodLink RX0 65 yX1_isZero, Cond.static yX1_isZero, Cond.code yX1_isZero cX1_isZero 1 (some .boolean), Cond.methodLink RX5 89 yX5_isParameter, Cond.static yX5_isParameter, Cond.initialized RX5, Cond.code yX5_isParameter cX5_isParameter 1 (some .boolean), Cond.methodLink RX5 116 yX5_endFeeding, Cond.instanceMethod yX5_endFeeding, Cond.selects RX5 yX5_endFeeding yX5_endFeeding, Cond.code yX5_endFeeding cX5_endFeeding 2 none, Cond.fieldLink RX5 82 "LimbCurves" "fedLimbs" "I"]
def wsX5_seal : List Cond := .code yX5_seal cX5_seal 2 (some .int) :: ((wsX5_seal_r1 ++ (wsX5_seal_r2 ++ (wsX5_seal_r3 ++ (wsX5_seal_r4 ++ wsX5_seal_r5)))) ++ wsX50 ++ wsX00 ++ wsX30)
def wsX5_open : List Cond := .code yX5_open cX5_open 2 (some .boolean) :: ([.fieldLink RX5 75 "LimbCurves" "sealed" "Z"] ++ wsX50)
def wsX5_limb_r1 : List Cond := [Cond.methodLink RX5 85 yX5_isSlot, Cond.static yX5_isSlot, Cond.initialized RX5, Cond.code yX5_isSlot cX5_isSlot 1 (some .boolean), Cond.methodLink RX5 113 yX5_limbsOf, Cond.instanceMethod yX5_limbsOf, Cond.selects RX5 yX5_limbsOf yX5_limbsOf, Cond.code yX5_limbsOf cX5_limbsOf 2 (some .int), Cond.fieldLink RX5 18 "LimbCurves" "limbs" "I", Cond.methodLink RX5 103 yX5_isPoint, Cond.static yX5_isPoint, Cond.code yX5_isPoint cX5_isPoint 1 (some .boolean), Cond.methodLink RX5 95 yX5_rowOf, Cond.instanceMethod yX5_rowOf, Cond.selects RX5 yX5_rowOf yX5_rowOf, Cond.code yX5_rowOf cX5_rowOf 3 (some (.array .int)), Cond.fieldLink RX5 24 "LimbCurves" "parameters" "[[I", Cond.fieldLink RX5 186 "LimbCurves$Point" "x" "[I", Cond.fieldLink RX5 201 "LimbCurves$Point" "y" "[I", Cond.methodLink RX5 89 yX5_isParameter, Cond.static yX5_isParameter, Cond.code yX5_isParameter cX5_isParameter 1 (some .boolean), Cond.methodLink RX5 144 yX5_isScalar, Cond.static yX5_isScalar]
def wsX5_limb_r2 : List Cond := [Cond.code yX5_isScalar cX5_isScalar 1 (some .boolean), Cond.methodLink RX5 147 yX5_scalarIn, Cond.instanceMethod yX5_scalarIn, Cond.selects RX5 yX5_scalarIn yX5_scalarIn, Cond.code yX5_scalarIn cX5_scalarIn 2 (some (.array .int)), Cond.fieldLink RX5 36 "LimbCurves" "scalars" "[[I", Cond.methodLink RX5 106 yX5_pointIn, Cond.instanceMethod yX5_pointIn, Cond.selects RX5 yX5_pointIn yX5_pointIn, Cond.code yX5_pointIn cX5_pointIn 2 (some (.object "LimbCurves$Point")), Cond.fieldLink RX5 29 "LimbCurves" "points" "[LLimbCurves$Point;", Cond.methodLink RX5 99 yX5_placeInRow, Cond.instanceMethod yX5_placeInRow, Cond.selects RX5 yX5_placeInRow yX5_placeInRow, Cond.code yX5_placeInRow cX5_placeInRow 2 (some .int)]
def wsX5_limb : List Cond := .code yX5_limb cX5_limb 3 (some .int) :: ((wsX5_limb_r1 ++ wsX5_limb_r2) ++ wsX50 ++ wsX20)
def wsX5_onCurve_r1 : List Cond := [Cond.fieldLink RX5 75 "LimbCurves" "sealed" "Z", Cond.fieldLink RX5 51 "LimbCurves" "curve" "LLimbCurves$Curve;", Cond.methodLink RX5 103 yX5_isPoint, Cond.static yX5_isPoint, Cond.initialized RX5, Cond.code yX5_isPoint cX5_isPoint 1 (some .boolean), Cond.methodLink RX5 106 yX5_pointIn, Cond.instanceMethod yX5_pointIn, Cond.selects RX5 yX5_pointIn yX5_pointIn, Cond.code yX5_pointIn cX5_pointIn 2 (some (.object "LimbCurves$Point")), Cond.fieldLink RX5 29 "LimbCurves" "points" "[LLimbCurves$Point;", Cond.methodLink RX5 123 yX0_holds, Cond.instanceMethod yX0_holds, Cond.selects RX0 yX0_holds yX0_holds, Cond.initialized RX0, Cond.code yX0_holds cX0_holds 2 (some .boolean), Cond.fieldLink RX0 68 "LimbCurves$Point" "identity" "Z", Cond.fieldLink RX0 74 "LimbCurves$Point" "x" "[I", Cond.fieldLink RX0 9 "LimbCurves$Curve" "p" "[I", Cond.fieldLink RX0 77 "LimbCurves$Point" "y" "[I", Cond.fieldLink RX0 21 "LimbCurves$Curve" "field" "LLimbCurves$Residues;", Cond.fieldLink RX0 25 "LimbCurves$Curve" "left" "[I", Cond.fieldLink RX0 28 "LimbCurves$Curve" "right" "[I", Cond.fieldLink RX0 15 "LimbCurves$Curve" "a" "[I"]
def wsX5_onCurve_r2 : List Cond := [Cond.fieldLink RX0 18 "LimbCurves$Curve" "b" "[I", Cond.methodLink RX0 37 yX1_compare, Cond.static yX1_compare, Cond.initialized RX1, Cond.code yX1_compare cX1_compare 3 (some .int), Cond.methodLink RX0 51 yX3_multiply, Cond.instanceMethod yX3_multiply, Cond.selects RX3 yX3_multiply yX3_multiply, Cond.initialized RX3, Cond.code yX3_multiply cX3_multiply 10 none, Cond.fieldLink RX3 18 "LimbCurves$Residues" "work" "[I", Cond.fieldLink RX3 36 "LimbCurves$Residues" "size" "I", Cond.constantLong RX3 90 (2147483647), Cond.methodLink RX3 85 yJ7_fill_53178, Cond.static yJ7_fill_53178, Cond.initialized RJ7, Cond.code yJ7_fill_53178 cJ7_fill_53178 4 none, Cond.methodLink RX3 69 yX3_takeRemainder, Cond.instanceMethod yX3_takeRemainder, Cond.selects RX3 yX3_takeRemainder yX3_takeRemainder, Cond.code yX3_takeRemainder cX3_takeRemainder 8 none, Cond.fieldLink RX3 15 "LimbCurves$Residues" "divisor" "[I", Cond.methodLink RX3 116 Lib.MathLoose.min_long.x, Cond.static Lib.MathLoose.min_long.x]
def wsX5_onCurve_r3 : List Cond := [Cond.initialized "java/lang/Math", Cond.code Lib.MathLoose.min_long.x Lib.MathLoose.min_long.code 4 (some .long), Cond.methodLink RX3 112 yX3_shiftWork, Cond.instanceMethod yX3_shiftWork, Cond.selects RX3 yX3_shiftWork yX3_shiftWork, Cond.code yX3_shiftWork cX3_shiftWork 5 none, Cond.fieldLink RX3 40 "LimbCurves$Residues" "shift" "I", Cond.methodLink RX3 122 yX3_takeDivisorAway, Cond.instanceMethod yX3_takeDivisorAway, Cond.selects RX3 yX3_takeDivisorAway yX3_takeDivisorAway, Cond.code yX3_takeDivisorAway cX3_takeDivisorAway 10 none, Cond.methodLink RX3 126 yX3_unshiftedLimb, Cond.instanceMethod yX3_unshiftedLimb, Cond.selects RX3 yX3_unshiftedLimb yX3_unshiftedLimb, Cond.code yX3_unshiftedLimb cX3_unshiftedLimb 2 (some .int), Cond.methodLink RX0 62 yX3_add, Cond.instanceMethod yX3_add, Cond.selects RX3 yX3_add yX3_add, Cond.code yX3_add cX3_add 6 none, Cond.fieldLink RX3 9 "LimbCurves$Residues" "modulus" "[I", Cond.methodLink RX3 73 yX1_combine, Cond.static yX1_combine, Cond.code yX1_combine cX1_combine 7 (some .long), Cond.constantLong RX1 33 (2147483647)]
def wsX5_onCurve_r4 : List Cond := [Cond.methodLink RX3 77 yX1_compare]
def wsX5_onCurve : List Cond := .code yX5_onCurve cX5_onCurve 2 (some .boolean) :: ((wsX5_onCurve_r1 ++ (wsX5_onCurve_r2 ++ (wsX5_onCurve_r3 ++ wsX5_onCurve_r4))) ++ wsX50 ++ wsX20 ++ wsX00 ++ wsX30)
def wsX5_isInfinity : List Cond := .code yX5_isInfinity cX5_isInfinity 2 (some .boolean) :: ([.fieldLink RX5 110 "LimbCurves$Point" "identity" "Z", .methodLink RX5 103 yX5_isPoint, .static yX5_isPoint, .initialized RX5, .code yX5_isPoint cX5_isPoint 1 (some .boolean), .methodLink RX5 106 yX5_pointIn, .instanceMethod yX5_pointIn, .selects RX5 yX5_pointIn yX5_pointIn, .code yX5_pointIn cX5_pointIn 2 (some (.object "LimbCurves$Point")), .fieldLink RX5 29 "LimbCurves" "points" "[LLimbCurves$Point;"] ++ wsX20 ++ wsX50)
def wsX5_writeRunningSum_r1 : List Cond := [Cond.fieldLink RX5 60 "LimbCurves" "running" "LLimbCurves$RunningSum;", Cond.methodLink RX5 106 yX5_pointIn, Cond.instanceMethod yX5_pointIn, Cond.selects RX5 yX5_pointIn yX5_pointIn, Cond.initialized RX5, Cond.code yX5_pointIn cX5_pointIn 2 (some (.object "LimbCurves$Point")), Cond.fieldLink RX5 29 "LimbCurves" "points" "[LLimbCurves$Point;", Cond.methodLink RX5 183 yX4_writeTo, Cond.instanceMethod yX4_writeTo, Cond.selects RX4 yX4_writeTo yX4_writeTo, Cond.initialized RX4, Cond.code yX4_writeTo cX4_writeTo 2 (some .boolean), Cond.fieldLink RX4 9 "LimbCurves$RunningSum" "field" "LLimbCurves$Residues;", Cond.fieldLink RX4 47 "LimbCurves$RunningSum" "t" "[I", Cond.fieldLink RX4 25 "LimbCurves$RunningSum" "z" "[I", Cond.fieldLink RX4 28 "LimbCurves$RunningSum" "identity" "Z", Cond.fieldLink RX4 44 "LimbCurves$RunningSum" "s" "[I", Cond.fieldLink RX4 102 "LimbCurves$Point" "x" "[I", Cond.fieldLink RX4 19 "LimbCurves$RunningSum" "x" "[I", Cond.fieldLink RX4 103 "LimbCurves$Point" "y" "[I", Cond.fieldLink RX4 22 "LimbCurves$RunningSum" "y" "[I", Cond.fieldLink RX4 66 "LimbCurves$Point" "identity" "Z", Cond.methodLink RX4 92 yX3_invert, Cond.instanceMethod yX3_invert]
def wsX5_writeRunningSum_r2 : List Cond := [Cond.selects RX3 yX3_invert yX3_invert, Cond.initialized RX3, Cond.code yX3_invert cX3_invert 11 (some .boolean), Cond.fieldLink RX3 24 "LimbCurves$Residues" "firstRest" "[I", Cond.fieldLink RX3 27 "LimbCurves$Residues" "secondRest" "[I", Cond.fieldLink RX3 30 "LimbCurves$Residues" "firstFactor" "[I", Cond.fieldLink RX3 33 "LimbCurves$Residues" "secondFactor" "[I", Cond.fieldLink RX3 9 "LimbCurves$Residues" "modulus" "[I", Cond.methodLink RX3 43 yX1_copy, Cond.static yX1_copy, Cond.initialized RX1, Cond.code yX1_copy cX1_copy 2 none, Cond.methodLink RX1 15 arraycopyName, Cond.native arraycopyName, Cond.static arraycopyName, Cond.initialized "java/lang/System", Cond.methodLink RX3 92 yX1_set, Cond.static yX1_set, Cond.code yX1_set cX1_set 2 none, Cond.methodLink RX1 9 yJ7_fill_53178, Cond.static yJ7_fill_53178, Cond.initialized RJ7, Cond.code yJ7_fill_53178 cJ7_fill_53178 4 none, Cond.methodLink RX3 95 yX1_isZero]
def wsX5_writeRunningSum_r3 : List Cond := [Cond.static yX1_isZero, Cond.code yX1_isZero cX1_isZero 1 (some .boolean), Cond.methodLink RX1 21 yX1_sizeOf, Cond.static yX1_sizeOf, Cond.code yX1_sizeOf cX1_sizeOf 2 (some .int), Cond.methodLink RX3 99 yX1_gapBetween, Cond.static yX1_gapBetween, Cond.code yX1_gapBetween cX1_gapBetween 3 (some .int), Cond.methodLink RX1 39 yX1_bitsOf, Cond.static yX1_bitsOf, Cond.code yX1_bitsOf cX1_bitsOf 2 (some .int), Cond.methodLink RX1 27 yJ6_numberOfLeadingZeros_0f7a4, Cond.static yJ6_numberOfLeadingZeros_0f7a4, Cond.initialized RJ6, Cond.code yJ6_numberOfLeadingZeros_0f7a4 cJ6_numberOfLeadingZeros_0f7a4 2 (some .int), Cond.constant RJ6 264 (65536), Cond.methodLink RX1 42 yX1_isBelowShifted, Cond.static yX1_isBelowShifted, Cond.code yX1_isBelowShifted cX1_isBelowShifted 5 (some .boolean), Cond.methodLink RX1 35 yX1_shiftedLimb, Cond.static yX1_shiftedLimb, Cond.code yX1_shiftedLimb cX1_shiftedLimb 8 (some .int), Cond.constantLong RX1 33 (2147483647), Cond.methodLink RX3 102 yX1_addShifted]
def wsX5_writeRunningSum_r4 : List Cond := [Cond.static yX1_addShifted, Cond.code yX1_addShifted cX1_addShifted 7 none, Cond.methodLink RX3 106 yX1_bitsOf, Cond.methodLink RX3 109 yX3_subtract, Cond.instanceMethod yX3_subtract, Cond.selects RX3 yX3_subtract yX3_subtract, Cond.code yX3_subtract cX3_subtract 6 none, Cond.methodLink RX3 73 yX1_combine, Cond.static yX1_combine, Cond.code yX1_combine cX1_combine 7 (some .long), Cond.methodLink RX4 96 yX2_becomeIdentity, Cond.instanceMethod yX2_becomeIdentity, Cond.selects RX2 yX2_becomeIdentity yX2_becomeIdentity, Cond.initialized RX2, Cond.code yX2_becomeIdentity cX2_becomeIdentity 1 none, Cond.fieldLink RX2 7 "LimbCurves$Point" "x" "[I", Cond.fieldLink RX2 13 "LimbCurves$Point" "y" "[I", Cond.fieldLink RX2 16 "LimbCurves$Point" "identity" "Z", Cond.methodLink RX2 20 yX1_set, Cond.methodLink RX4 99 yX3_multiply, Cond.instanceMethod yX3_multiply, Cond.selects RX3 yX3_multiply yX3_multiply, Cond.code yX3_multiply cX3_multiply 10 none, Cond.fieldLink RX3 18 "LimbCurves$Residues" "work" "[I"]
def wsX5_writeRunningSum_r5 : List Cond := [Cond.fieldLink RX3 36 "LimbCurves$Residues" "size" "I", Cond.constantLong RX3 90 (2147483647), Cond.methodLink RX3 85 yJ7_fill_53178, Cond.methodLink RX3 69 yX3_takeRemainder, Cond.instanceMethod yX3_takeRemainder, Cond.selects RX3 yX3_takeRemainder yX3_takeRemainder, Cond.code yX3_takeRemainder cX3_takeRemainder 8 none, Cond.fieldLink RX3 15 "LimbCurves$Residues" "divisor" "[I", Cond.methodLink RX3 116 Lib.MathLoose.min_long.x, Cond.static Lib.MathLoose.min_long.x, Cond.initialized "java/lang/Math", Cond.code Lib.MathLoose.min_long.x Lib.MathLoose.min_long.code 4 (some .long), Cond.methodLink RX3 112 yX3_shiftWork, Cond.instanceMethod yX3_shiftWork, Cond.selects RX3 yX3_shiftWork yX3_shiftWork, Cond.code yX3_shiftWork cX3_shiftWork 5 none, Cond.fieldLink RX3 40 "LimbCurves$Residues" "shift" "I", Cond.methodLink RX3 122 yX3_takeDivisorAway, Cond.instanceMethod yX3_takeDivisorAway, Cond.selects RX3 yX3_takeDivisorAway yX3_takeDivisorAway, Cond.code yX3_takeDivisorAway cX3_takeDivisorAway 10 none, Cond.methodLink RX3 126 yX3_unshiftedLimb, Cond.instanceMethod yX3_unshiftedLimb, Cond.selects RX3 yX3_unshiftedLimb yX3_unshiftedLimb]
def wsX5_writeRunningSum_r6 : List Cond := [Cond.code yX3_unshiftedLimb cX3_unshiftedLimb 2 (some .int), Cond.methodLink RX5 116 yX5_endFeeding, Cond.instanceMethod yX5_endFeeding, Cond.selects RX5 yX5_endFeeding yX5_endFeeding, Cond.code yX5_endFeeding cX5_endFeeding 2 none, Cond.fieldLink RX5 79 "LimbCurves" "fedSlot" "I", Cond.fieldLink RX5 82 "LimbCurves" "fedLimbs" "I"]
def wsX5_writeRunningSum : List Cond := .code yX5_writeRunningSum cX5_writeRunningSum 2 (some .boolean) :: ((wsX5_writeRunningSum_r1 ++ (wsX5_writeRunningSum_r2 ++ (wsX5_writeRunningSum_r3 ++ (wsX5_writeRunningSum_r4 ++ (wsX5_writeRunningSum_r5 ++ wsX5_writeRunningSum_r6))))) ++ wsX50 ++ wsX40 ++ wsX20 ++ wsX30)
def wsX5_addPts_r1 : List Cond := [Cond.fieldLink RX5 60 "LimbCurves" "running" "LLimbCurves$RunningSum;", Cond.methodLink RX5 103 yX5_isPoint, Cond.static yX5_isPoint, Cond.initialized RX5, Cond.code yX5_isPoint cX5_isPoint 1 (some .boolean), Cond.methodLink RX5 127 yX5_onCurve, Cond.instanceMethod yX5_onCurve, Cond.selects RX5 yX5_onCurve yX5_onCurve, Cond.code yX5_onCurve cX5_onCurve 2 (some .boolean), Cond.fieldLink RX5 75 "LimbCurves" "sealed" "Z", Cond.fieldLink RX5 51 "LimbCurves" "curve" "LLimbCurves$Curve;", Cond.methodLink RX5 106 yX5_pointIn, Cond.instanceMethod yX5_pointIn, Cond.selects RX5 yX5_pointIn yX5_pointIn, Cond.code yX5_pointIn cX5_pointIn 2 (some (.object "LimbCurves$Point")), Cond.fieldLink RX5 29 "LimbCurves" "points" "[LLimbCurves$Point;", Cond.methodLink RX5 123 yX0_holds, Cond.instanceMethod yX0_holds, Cond.selects RX0 yX0_holds yX0_holds, Cond.initialized RX0, Cond.code yX0_holds cX0_holds 2 (some .boolean), Cond.fieldLink RX0 68 "LimbCurves$Point" "identity" "Z", Cond.fieldLink RX0 74 "LimbCurves$Point" "x" "[I", Cond.fieldLink RX0 9 "LimbCurves$Curve" "p" "[I"]
def wsX5_addPts_r2 : List Cond := [Cond.fieldLink RX0 77 "LimbCurves$Point" "y" "[I", Cond.fieldLink RX0 21 "LimbCurves$Curve" "field" "LLimbCurves$Residues;", Cond.fieldLink RX0 25 "LimbCurves$Curve" "left" "[I", Cond.fieldLink RX0 28 "LimbCurves$Curve" "right" "[I", Cond.fieldLink RX0 15 "LimbCurves$Curve" "a" "[I", Cond.fieldLink RX0 18 "LimbCurves$Curve" "b" "[I", Cond.methodLink RX0 37 yX1_compare, Cond.static yX1_compare, Cond.initialized RX1, Cond.code yX1_compare cX1_compare 3 (some .int), Cond.methodLink RX0 51 yX3_multiply, Cond.instanceMethod yX3_multiply, Cond.selects RX3 yX3_multiply yX3_multiply, Cond.initialized RX3, Cond.code yX3_multiply cX3_multiply 10 none, Cond.fieldLink RX3 18 "LimbCurves$Residues" "work" "[I", Cond.fieldLink RX3 36 "LimbCurves$Residues" "size" "I", Cond.constantLong RX3 90 (2147483647), Cond.methodLink RX3 85 yJ7_fill_53178, Cond.static yJ7_fill_53178, Cond.initialized RJ7, Cond.code yJ7_fill_53178 cJ7_fill_53178 4 none, Cond.methodLink RX3 69 yX3_takeRemainder, Cond.instanceMethod yX3_takeRemainder]
def wsX5_addPts_r3 : List Cond := [Cond.selects RX3 yX3_takeRemainder yX3_takeRemainder, Cond.code yX3_takeRemainder cX3_takeRemainder 8 none, Cond.fieldLink RX3 15 "LimbCurves$Residues" "divisor" "[I", Cond.methodLink RX3 116 Lib.MathLoose.min_long.x, Cond.static Lib.MathLoose.min_long.x, Cond.initialized "java/lang/Math", Cond.code Lib.MathLoose.min_long.x Lib.MathLoose.min_long.code 4 (some .long), Cond.methodLink RX3 112 yX3_shiftWork, Cond.instanceMethod yX3_shiftWork, Cond.selects RX3 yX3_shiftWork yX3_shiftWork, Cond.code yX3_shiftWork cX3_shiftWork 5 none, Cond.fieldLink RX3 40 "LimbCurves$Residues" "shift" "I", Cond.methodLink RX3 122 yX3_takeDivisorAway, Cond.instanceMethod yX3_takeDivisorAway, Cond.selects RX3 yX3_takeDivisorAway yX3_takeDivisorAway, Cond.code yX3_takeDivisorAway cX3_takeDivisorAway 10 none, Cond.methodLink RX3 126 yX3_unshiftedLimb, Cond.instanceMethod yX3_unshiftedLimb, Cond.selects RX3 yX3_unshiftedLimb yX3_unshiftedLimb, Cond.code yX3_unshiftedLimb cX3_unshiftedLimb 2 (some .int), Cond.methodLink RX0 62 yX3_add, Cond.instanceMethod yX3_add, Cond.selects RX3 yX3_add yX3_add, Cond.code yX3_add cX3_add 6 none]
def wsX5_addPts_r4 : List Cond := [Cond.fieldLink RX3 9 "LimbCurves$Residues" "modulus" "[I", Cond.methodLink RX3 73 yX1_combine, Cond.static yX1_combine, Cond.code yX1_combine cX1_combine 7 (some .long), Cond.constantLong RX1 33 (2147483647), Cond.methodLink RX3 77 yX1_compare, Cond.methodLink RX5 130 yX4_startAtIdentity, Cond.instanceMethod yX4_startAtIdentity, Cond.selects RX4 yX4_startAtIdentity yX4_startAtIdentity, Cond.initialized RX4, Cond.code yX4_startAtIdentity cX4_startAtIdentity 1 none, Cond.fieldLink RX4 28 "LimbCurves$RunningSum" "identity" "Z", Cond.fieldLink RX4 25 "LimbCurves$RunningSum" "z" "[I", Cond.methodLink RX4 50 yX1_set, Cond.static yX1_set, Cond.code yX1_set cX1_set 2 none, Cond.methodLink RX1 9 yJ7_fill_53178, Cond.methodLink RX5 133 yX4_addPoint, Cond.instanceMethod yX4_addPoint, Cond.selects RX4 yX4_addPoint yX4_addPoint, Cond.code yX4_addPoint cX4_addPoint 2 none, Cond.fieldLink RX4 66 "LimbCurves$Point" "identity" "Z", Cond.fieldLink RX4 19 "LimbCurves$RunningSum" "x" "[I", Cond.fieldLink RX4 32 "LimbCurves$RunningSum" "otherX" "[I"]
def wsX5_addPts_r5 : List Cond := [Cond.fieldLink RX4 22 "LimbCurves$RunningSum" "y" "[I", Cond.fieldLink RX4 35 "LimbCurves$RunningSum" "otherY" "[I", Cond.fieldLink RX4 9 "LimbCurves$RunningSum" "field" "LLimbCurves$Residues;", Cond.fieldLink RX4 38 "LimbCurves$RunningSum" "run" "[I", Cond.fieldLink RX4 41 "LimbCurves$RunningSum" "rise" "[I", Cond.methodLink RX4 69 yX4_bringToSameZ, Cond.instanceMethod yX4_bringToSameZ, Cond.selects RX4 yX4_bringToSameZ yX4_bringToSameZ, Cond.code yX4_bringToSameZ cX4_bringToSameZ 2 none, Cond.fieldLink RX4 44 "LimbCurves$RunningSum" "s" "[I", Cond.fieldLink RX4 102 "LimbCurves$Point" "x" "[I", Cond.fieldLink RX4 103 "LimbCurves$Point" "y" "[I", Cond.methodLink RX4 99 yX3_multiply, Cond.methodLink RX4 72 yX1_copy, Cond.static yX1_copy, Cond.code yX1_copy cX1_copy 2 none, Cond.methodLink RX1 15 arraycopyName, Cond.native arraycopyName, Cond.static arraycopyName, Cond.initialized "java/lang/System", Cond.methodLink RX4 76 yX3_subtract, Cond.instanceMethod yX3_subtract, Cond.selects RX3 yX3_subtract yX3_subtract, Cond.code yX3_subtract cX3_subtract 6 none]
def wsX5_addPts_r6 : List Cond := [Cond.methodLink RX4 82 yX1_isZero, Cond.static yX1_isZero, Cond.code yX1_isZero cX1_isZero 1 (some .boolean), Cond.methodLink RX1 21 yX1_sizeOf, Cond.static yX1_sizeOf, Cond.code yX1_sizeOf cX1_sizeOf 2 (some .int), Cond.methodLink RX4 86 yX4_addAlongChord, Cond.instanceMethod yX4_addAlongChord, Cond.selects RX4 yX4_addAlongChord yX4_addAlongChord, Cond.code yX4_addAlongChord cX4_addAlongChord 1 none, Cond.fieldLink RX4 47 "LimbCurves$RunningSum" "t" "[I", Cond.methodLink RX4 59 yX4_addItself, Cond.instanceMethod yX4_addItself, Cond.selects RX4 yX4_addItself yX4_addItself, Cond.code yX4_addItself cX4_addItself 1 none, Cond.fieldLink RX4 15 "LimbCurves$RunningSum" "a" "[I", Cond.methodLink RX4 104 yX3_thrice, Cond.instanceMethod yX3_thrice, Cond.selects RX3 yX3_thrice yX3_thrice, Cond.code yX3_thrice cX3_thrice 3 none, Cond.fieldLink RX3 21 "LimbCurves$Residues" "spare" "[I", Cond.methodLink RX3 81 yX3_add, Cond.methodLink RX4 107 yX3_add, Cond.methodLink RX4 110 yX3_twice]
def wsX5_addPts_r7 : List Cond := [Cond.instanceMethod yX3_twice, Cond.selects RX3 yX3_twice yX3_twice, Cond.code yX3_twice cX3_twice 3 none, Cond.methodLink RX4 89 yX4_addAtSameX, Cond.instanceMethod yX4_addAtSameX, Cond.selects RX4 yX4_addAtSameX yX4_addAtSameX, Cond.code yX4_addAtSameX cX4_addAtSameX 1 none, Cond.methodLink RX5 137 yX5_writeRunningSum, Cond.instanceMethod yX5_writeRunningSum, Cond.selects RX5 yX5_writeRunningSum yX5_writeRunningSum, Cond.code yX5_writeRunningSum cX5_writeRunningSum 2 (some .boolean), Cond.methodLink RX5 183 yX4_writeTo, Cond.instanceMethod yX4_writeTo, Cond.selects RX4 yX4_writeTo yX4_writeTo, Cond.code yX4_writeTo cX4_writeTo 2 (some .boolean), Cond.methodLink RX4 92 yX3_invert, Cond.instanceMethod yX3_invert, Cond.selects RX3 yX3_invert yX3_invert, Cond.code yX3_invert cX3_invert 11 (some .boolean), Cond.fieldLink RX3 24 "LimbCurves$Residues" "firstRest" "[I", Cond.fieldLink RX3 27 "LimbCurves$Residues" "secondRest" "[I", Cond.fieldLink RX3 30 "LimbCurves$Residues" "firstFactor" "[I", Cond.fieldLink RX3 33 "LimbCurves$Residues" "secondFactor" "[I", Cond.methodLink RX3 43 yX1_copy]
def wsX5_addPts_r8 : List Cond := [Cond.methodLink RX3 92 yX1_set, Cond.methodLink RX3 95 yX1_isZero, Cond.methodLink RX3 99 yX1_gapBetween, Cond.static yX1_gapBetween, Cond.code yX1_gapBetween cX1_gapBetween 3 (some .int), Cond.methodLink RX1 39 yX1_bitsOf, Cond.static yX1_bitsOf, Cond.code yX1_bitsOf cX1_bitsOf 2 (some .int), Cond.methodLink RX1 27 yJ6_numberOfLeadingZeros_0f7a4, Cond.static yJ6_numberOfLeadingZeros_0f7a4, Cond.initialized RJ6, Cond.code yJ6_numberOfLeadingZeros_0f7a4 cJ6_numberOfLeadingZeros_0f7a4 2 (some .int), Cond.constant RJ6 264 (65536), Cond.methodLink RX1 42 yX1_isBelowShifted, Cond.static yX1_isBelowShifted, Cond.code yX1_isBelowShifted cX1_isBelowShifted 5 (some .boolean), Cond.methodLink RX1 35 yX1_shiftedLimb, Cond.static yX1_shiftedLimb, Cond.code yX1_shiftedLimb cX1_shiftedLimb 8 (some .int), Cond.methodLink RX3 102 yX1_addShifted, Cond.static yX1_addShifted, Cond.code yX1_addShifted cX1_addShifted 7 none, Cond.methodLink RX3 106 yX1_bitsOf, Cond.methodLink RX3 109 yX3_subtract]
def wsX5_addPts_r9 : List Cond := [Cond.methodLink RX4 96 yX2_becomeIdentity, Cond.instanceMethod yX2_becomeIdentity, Cond.selects RX2 yX2_becomeIdentity yX2_becomeIdentity, Cond.initialized RX2, Cond.code yX2_becomeIdentity cX2_becomeIdentity 1 none, Cond.fieldLink RX2 7 "LimbCurves$Point" "x" "[I", Cond.fieldLink RX2 13 "LimbCurves$Point" "y" "[I", Cond.fieldLink RX2 16 "LimbCurves$Point" "identity" "Z", Cond.methodLink RX2 20 yX1_set, Cond.methodLink RX5 116 yX5_endFeeding, Cond.instanceMethod yX5_endFeeding, Cond.selects RX5 yX5_endFeeding yX5_endFeeding, Cond.code yX5_endFeeding cX5_endFeeding 2 none, Cond.fieldLink RX5 79 "LimbCurves" "fedSlot" "I", Cond.fieldLink RX5 82 "LimbCurves" "fedLimbs" "I"]
def wsX5_addPts : List Cond := .code yX5_addPts cX5_addPts 4 (some .boolean) :: ((wsX5_addPts_r1 ++ (wsX5_addPts_r2 ++ (wsX5_addPts_r3 ++ (wsX5_addPts_r4 ++ (wsX5_addPts_r5 ++ (wsX5_addPts_r6 ++ (wsX5_addPts_r7 ++ (wsX5_addPts_r8 ++ wsX5_addPts_r9)))))))) ++ wsX50 ++ wsX20 ++ wsX00 ++ wsX30 ++ wsX40)
def wsX5_dbl_r1 : List Cond := [Cond.methodLink RX5 140 yX5_addPts, Cond.instanceMethod yX5_addPts, Cond.selects RX5 yX5_addPts yX5_addPts, Cond.initialized RX5, Cond.code yX5_addPts cX5_addPts 4 (some .boolean), Cond.fieldLink RX5 60 "LimbCurves" "running" "LLimbCurves$RunningSum;", Cond.methodLink RX5 103 yX5_isPoint, Cond.static yX5_isPoint, Cond.code yX5_isPoint cX5_isPoint 1 (some .boolean), Cond.methodLink RX5 127 yX5_onCurve, Cond.instanceMethod yX5_onCurve, Cond.selects RX5 yX5_onCurve yX5_onCurve, Cond.code yX5_onCurve cX5_onCurve 2 (some .boolean), Cond.fieldLink RX5 75 "LimbCurves" "sealed" "Z", Cond.fieldLink RX5 51 "LimbCurves" "curve" "LLimbCurves$Curve;", Cond.methodLink RX5 106 yX5_pointIn, Cond.instanceMethod yX5_pointIn, Cond.selects RX5 yX5_pointIn yX5_pointIn, Cond.code yX5_pointIn cX5_pointIn 2 (some (.object "LimbCurves$Point")), Cond.fieldLink RX5 29 "LimbCurves" "points" "[LLimbCurves$Point;", Cond.methodLink RX5 123 yX0_holds, Cond.instanceMethod yX0_holds, Cond.selects RX0 yX0_holds yX0_holds, Cond.initialized RX0]
def wsX5_dbl_r2 : List Cond := [Cond.code yX0_holds cX0_holds 2 (some .boolean), Cond.fieldLink RX0 68 "LimbCurves$Point" "identity" "Z", Cond.fieldLink RX0 74 "LimbCurves$Point" "x" "[I", Cond.fieldLink RX0 9 "LimbCurves$Curve" "p" "[I", Cond.fieldLink RX0 77 "LimbCurves$Point" "y" "[I", Cond.fieldLink RX0 21 "LimbCurves$Curve" "field" "LLimbCurves$Residues;", Cond.fieldLink RX0 25 "LimbCurves$Curve" "left" "[I", Cond.fieldLink RX0 28 "LimbCurves$Curve" "right" "[I", Cond.fieldLink RX0 15 "LimbCurves$Curve" "a" "[I", Cond.fieldLink RX0 18 "LimbCurves$Curve" "b" "[I", Cond.methodLink RX0 37 yX1_compare, Cond.static yX1_compare, Cond.initialized RX1, Cond.code yX1_compare cX1_compare 3 (some .int), Cond.methodLink RX0 51 yX3_multiply, Cond.instanceMethod yX3_multiply, Cond.selects RX3 yX3_multiply yX3_multiply, Cond.initialized RX3, Cond.code yX3_multiply cX3_multiply 10 none, Cond.fieldLink RX3 18 "LimbCurves$Residues" "work" "[I", Cond.fieldLink RX3 36 "LimbCurves$Residues" "size" "I", Cond.constantLong RX3 90 (2147483647), Cond.methodLink RX3 85 yJ7_fill_53178, Cond.static yJ7_fill_53178]
def wsX5_dbl_r3 : List Cond := [Cond.initialized RJ7, Cond.code yJ7_fill_53178 cJ7_fill_53178 4 none, Cond.methodLink RX3 69 yX3_takeRemainder, Cond.instanceMethod yX3_takeRemainder, Cond.selects RX3 yX3_takeRemainder yX3_takeRemainder, Cond.code yX3_takeRemainder cX3_takeRemainder 8 none, Cond.fieldLink RX3 15 "LimbCurves$Residues" "divisor" "[I", Cond.methodLink RX3 116 Lib.MathLoose.min_long.x, Cond.static Lib.MathLoose.min_long.x, Cond.initialized "java/lang/Math", Cond.code Lib.MathLoose.min_long.x Lib.MathLoose.min_long.code 4 (some .long), Cond.methodLink RX3 112 yX3_shiftWork, Cond.instanceMethod yX3_shiftWork, Cond.selects RX3 yX3_shiftWork yX3_shiftWork, Cond.code yX3_shiftWork cX3_shiftWork 5 none, Cond.fieldLink RX3 40 "LimbCurves$Residues" "shift" "I", Cond.methodLink RX3 122 yX3_takeDivisorAway, Cond.instanceMethod yX3_takeDivisorAway, Cond.selects RX3 yX3_takeDivisorAway yX3_takeDivisorAway, Cond.code yX3_takeDivisorAway cX3_takeDivisorAway 10 none, Cond.methodLink RX3 126 yX3_unshiftedLimb, Cond.instanceMethod yX3_unshiftedLimb, Cond.selects RX3 yX3_unshiftedLimb yX3_unshiftedLimb, Cond.code yX3_unshiftedLimb cX3_unshiftedLimb 2 (some .int)]
def wsX5_dbl_r4 : List Cond := [Cond.methodLink RX0 62 yX3_add, Cond.instanceMethod yX3_add, Cond.selects RX3 yX3_add yX3_add, Cond.code yX3_add cX3_add 6 none, Cond.fieldLink RX3 9 "LimbCurves$Residues" "modulus" "[I", Cond.methodLink RX3 73 yX1_combine, Cond.static yX1_combine, Cond.code yX1_combine cX1_combine 7 (some .long), Cond.constantLong RX1 33 (2147483647), Cond.methodLink RX3 77 yX1_compare, Cond.methodLink RX5 130 yX4_startAtIdentity, Cond.instanceMethod yX4_startAtIdentity, Cond.selects RX4 yX4_startAtIdentity yX4_startAtIdentity, Cond.initialized RX4, Cond.code yX4_startAtIdentity cX4_startAtIdentity 1 none, Cond.fieldLink RX4 28 "LimbCurves$RunningSum" "identity" "Z", Cond.fieldLink RX4 25 "LimbCurves$RunningSum" "z" "[I", Cond.methodLink RX4 50 yX1_set, Cond.static yX1_set, Cond.code yX1_set cX1_set 2 none, Cond.methodLink RX1 9 yJ7_fill_53178, Cond.methodLink RX5 133 yX4_addPoint, Cond.instanceMethod yX4_addPoint, Cond.selects RX4 yX4_addPoint yX4_addPoint]
def wsX5_dbl_r5 : List Cond := [Cond.code yX4_addPoint cX4_addPoint 2 none, Cond.fieldLink RX4 66 "LimbCurves$Point" "identity" "Z", Cond.fieldLink RX4 19 "LimbCurves$RunningSum" "x" "[I", Cond.fieldLink RX4 32 "LimbCurves$RunningSum" "otherX" "[I", Cond.fieldLink RX4 22 "LimbCurves$RunningSum" "y" "[I", Cond.fieldLink RX4 35 "LimbCurves$RunningSum" "otherY" "[I", Cond.fieldLink RX4 9 "LimbCurves$RunningSum" "field" "LLimbCurves$Residues;", Cond.fieldLink RX4 38 "LimbCurves$RunningSum" "run" "[I", Cond.fieldLink RX4 41 "LimbCurves$RunningSum" "rise" "[I", Cond.methodLink RX4 69 yX4_bringToSameZ, Cond.instanceMethod yX4_bringToSameZ, Cond.selects RX4 yX4_bringToSameZ yX4_bringToSameZ, Cond.code yX4_bringToSameZ cX4_bringToSameZ 2 none, Cond.fieldLink RX4 44 "LimbCurves$RunningSum" "s" "[I", Cond.fieldLink RX4 102 "LimbCurves$Point" "x" "[I", Cond.fieldLink RX4 103 "LimbCurves$Point" "y" "[I", Cond.methodLink RX4 99 yX3_multiply, Cond.methodLink RX4 72 yX1_copy, Cond.static yX1_copy, Cond.code yX1_copy cX1_copy 2 none, Cond.methodLink RX1 15 arraycopyName, Cond.native arraycopyName, Cond.static arraycopyName, Cond.initialized "java/lang/System"]
def wsX5_dbl_r6 : List Cond := [Cond.methodLink RX4 76 yX3_subtract, Cond.instanceMethod yX3_subtract, Cond.selects RX3 yX3_subtract yX3_subtract, Cond.code yX3_subtract cX3_subtract 6 none, Cond.methodLink RX4 82 yX1_isZero, Cond.static yX1_isZero, Cond.code yX1_isZero cX1_isZero 1 (some .boolean), Cond.methodLink RX1 21 yX1_sizeOf, Cond.static yX1_sizeOf, Cond.code yX1_sizeOf cX1_sizeOf 2 (some .int), Cond.methodLink RX4 86 yX4_addAlongChord, Cond.instanceMethod yX4_addAlongChord, Cond.selects RX4 yX4_addAlongChord yX4_addAlongChord, Cond.code yX4_addAlongChord cX4_addAlongChord 1 none, Cond.fieldLink RX4 47 "LimbCurves$RunningSum" "t" "[I", Cond.methodLink RX4 59 yX4_addItself, Cond.instanceMethod yX4_addItself, Cond.selects RX4 yX4_addItself yX4_addItself, Cond.code yX4_addItself cX4_addItself 1 none, Cond.fieldLink RX4 15 "LimbCurves$RunningSum" "a" "[I", Cond.methodLink RX4 104 yX3_thrice, Cond.instanceMethod yX3_thrice, Cond.selects RX3 yX3_thrice yX3_thrice, Cond.code yX3_thrice cX3_thrice 3 none]
def wsX5_dbl_r7 : List Cond := [Cond.fieldLink RX3 21 "LimbCurves$Residues" "spare" "[I", Cond.methodLink RX3 81 yX3_add, Cond.methodLink RX4 107 yX3_add, Cond.methodLink RX4 110 yX3_twice, Cond.instanceMethod yX3_twice, Cond.selects RX3 yX3_twice yX3_twice, Cond.code yX3_twice cX3_twice 3 none, Cond.methodLink RX4 89 yX4_addAtSameX, Cond.instanceMethod yX4_addAtSameX, Cond.selects RX4 yX4_addAtSameX yX4_addAtSameX, Cond.code yX4_addAtSameX cX4_addAtSameX 1 none, Cond.methodLink RX5 137 yX5_writeRunningSum, Cond.instanceMethod yX5_writeRunningSum, Cond.selects RX5 yX5_writeRunningSum yX5_writeRunningSum, Cond.code yX5_writeRunningSum cX5_writeRunningSum 2 (some .boolean), Cond.methodLink RX5 183 yX4_writeTo, Cond.instanceMethod yX4_writeTo, Cond.selects RX4 yX4_writeTo yX4_writeTo, Cond.code yX4_writeTo cX4_writeTo 2 (some .boolean), Cond.methodLink RX4 92 yX3_invert, Cond.instanceMethod yX3_invert, Cond.selects RX3 yX3_invert yX3_invert, Cond.code yX3_invert cX3_invert 11 (some .boolean), Cond.fieldLink RX3 24 "LimbCurves$Residues" "firstRest" "[I"]
def wsX5_dbl_r8 : List Cond := [Cond.fieldLink RX3 27 "LimbCurves$Residues" "secondRest" "[I", Cond.fieldLink RX3 30 "LimbCurves$Residues" "firstFactor" "[I", Cond.fieldLink RX3 33 "LimbCurves$Residues" "secondFactor" "[I", Cond.methodLink RX3 43 yX1_copy, Cond.methodLink RX3 92 yX1_set, Cond.methodLink RX3 95 yX1_isZero, Cond.methodLink RX3 99 yX1_gapBetween, Cond.static yX1_gapBetween, Cond.code yX1_gapBetween cX1_gapBetween 3 (some .int), Cond.methodLink RX1 39 yX1_bitsOf, Cond.static yX1_bitsOf, Cond.code yX1_bitsOf cX1_bitsOf 2 (some .int), Cond.methodLink RX1 27 yJ6_numberOfLeadingZeros_0f7a4, Cond.static yJ6_numberOfLeadingZeros_0f7a4, Cond.initialized RJ6, Cond.code yJ6_numberOfLeadingZeros_0f7a4 cJ6_numberOfLeadingZeros_0f7a4 2 (some .int), Cond.constant RJ6 264 (65536), Cond.methodLink RX1 42 yX1_isBelowShifted, Cond.static yX1_isBelowShifted, Cond.code yX1_isBelowShifted cX1_isBelowShifted 5 (some .boolean), Cond.methodLink RX1 35 yX1_shiftedLimb, Cond.static yX1_shiftedLimb, Cond.code yX1_shiftedLimb cX1_shiftedLimb 8 (some .int), Cond.methodLink RX3 102 yX1_addShifted]
def wsX5_dbl_r9 : List Cond := [Cond.static yX1_addShifted, Cond.code yX1_addShifted cX1_addShifted 7 none, Cond.methodLink RX3 106 yX1_bitsOf, Cond.methodLink RX3 109 yX3_subtract, Cond.methodLink RX4 96 yX2_becomeIdentity, Cond.instanceMethod yX2_becomeIdentity, Cond.selects RX2 yX2_becomeIdentity yX2_becomeIdentity, Cond.initialized RX2, Cond.code yX2_becomeIdentity cX2_becomeIdentity 1 none, Cond.fieldLink RX2 7 "LimbCurves$Point" "x" "[I", Cond.fieldLink RX2 13 "LimbCurves$Point" "y" "[I", Cond.fieldLink RX2 16 "LimbCurves$Point" "identity" "Z", Cond.methodLink RX2 20 yX1_set, Cond.methodLink RX5 116 yX5_endFeeding, Cond.instanceMethod yX5_endFeeding, Cond.selects RX5 yX5_endFeeding yX5_endFeeding, Cond.code yX5_endFeeding cX5_endFeeding 2 none, Cond.fieldLink RX5 79 "LimbCurves" "fedSlot" "I", Cond.fieldLink RX5 82 "LimbCurves" "fedLimbs" "I"]
def wsX5_dbl : List Cond := .code yX5_dbl cX5_dbl 3 (some .boolean) :: ((wsX5_dbl_r1 ++ (wsX5_dbl_r2 ++ (wsX5_dbl_r3 ++ (wsX5_dbl_r4 ++ (wsX5_dbl_r5 ++ (wsX5_dbl_r6 ++ (wsX5_dbl_r7 ++ (wsX5_dbl_r8 ++ wsX5_dbl_r9)))))))) ++ wsX50 ++ wsX20 ++ wsX00 ++ wsX30 ++ wsX40)
def wsX5_scalarMul_r1 : List Cond := [Cond.fieldLink RX5 60 "LimbCurves" "running" "LLimbCurves$RunningSum;", Cond.methodLink RX5 103 yX5_isPoint, Cond.static yX5_isPoint, Cond.initialized RX5, Cond.code yX5_isPoint cX5_isPoint 1 (some .boolean), Cond.methodLink RX5 144 yX5_isScalar, Cond.static yX5_isScalar, Cond.code yX5_isScalar cX5_isScalar 1 (some .boolean), Cond.methodLink RX5 127 yX5_onCurve, Cond.instanceMethod yX5_onCurve, Cond.selects RX5 yX5_onCurve yX5_onCurve, Cond.code yX5_onCurve cX5_onCurve 2 (some .boolean), Cond.fieldLink RX5 75 "LimbCurves" "sealed" "Z", Cond.fieldLink RX5 51 "LimbCurves" "curve" "LLimbCurves$Curve;", Cond.methodLink RX5 106 yX5_pointIn, Cond.instanceMethod yX5_pointIn, Cond.selects RX5 yX5_pointIn yX5_pointIn, Cond.code yX5_pointIn cX5_pointIn 2 (some (.object "LimbCurves$Point")), Cond.fieldLink RX5 29 "LimbCurves" "points" "[LLimbCurves$Point;", Cond.methodLink RX5 123 yX0_holds, Cond.instanceMethod yX0_holds, Cond.selects RX0 yX0_holds yX0_holds, Cond.initialized RX0, Cond.code yX0_holds cX0_holds 2 (some .boolean)]
def wsX5_scalarMul_r2 : List Cond := [Cond.fieldLink RX0 68 "LimbCurves$Point" "identity" "Z", Cond.fieldLink RX0 74 "LimbCurves$Point" "x" "[I", Cond.fieldLink RX0 9 "LimbCurves$Curve" "p" "[I", Cond.fieldLink RX0 77 "LimbCurves$Point" "y" "[I", Cond.fieldLink RX0 21 "LimbCurves$Curve" "field" "LLimbCurves$Residues;", Cond.fieldLink RX0 25 "LimbCurves$Curve" "left" "[I", Cond.fieldLink RX0 28 "LimbCurves$Curve" "right" "[I", Cond.fieldLink RX0 15 "LimbCurves$Curve" "a" "[I", Cond.fieldLink RX0 18 "LimbCurves$Curve" "b" "[I", Cond.methodLink RX0 37 yX1_compare, Cond.static yX1_compare, Cond.initialized RX1, Cond.code yX1_compare cX1_compare 3 (some .int), Cond.methodLink RX0 51 yX3_multiply, Cond.instanceMethod yX3_multiply, Cond.selects RX3 yX3_multiply yX3_multiply, Cond.initialized RX3, Cond.code yX3_multiply cX3_multiply 10 none, Cond.fieldLink RX3 18 "LimbCurves$Residues" "work" "[I", Cond.fieldLink RX3 36 "LimbCurves$Residues" "size" "I", Cond.constantLong RX3 90 (2147483647), Cond.methodLink RX3 85 yJ7_fill_53178, Cond.static yJ7_fill_53178, Cond.initialized RJ7]
def wsX5_scalarMul_r3 : List Cond := [Cond.code yJ7_fill_53178 cJ7_fill_53178 4 none, Cond.methodLink RX3 69 yX3_takeRemainder, Cond.instanceMethod yX3_takeRemainder, Cond.selects RX3 yX3_takeRemainder yX3_takeRemainder, Cond.code yX3_takeRemainder cX3_takeRemainder 8 none, Cond.fieldLink RX3 15 "LimbCurves$Residues" "divisor" "[I", Cond.methodLink RX3 116 Lib.MathLoose.min_long.x, Cond.static Lib.MathLoose.min_long.x, Cond.initialized "java/lang/Math", Cond.code Lib.MathLoose.min_long.x Lib.MathLoose.min_long.code 4 (some .long), Cond.methodLink RX3 112 yX3_shiftWork, Cond.instanceMethod yX3_shiftWork, Cond.selects RX3 yX3_shiftWork yX3_shiftWork, Cond.code yX3_shiftWork cX3_shiftWork 5 none, Cond.fieldLink RX3 40 "LimbCurves$Residues" "shift" "I", Cond.methodLink RX3 122 yX3_takeDivisorAway, Cond.instanceMethod yX3_takeDivisorAway, Cond.selects RX3 yX3_takeDivisorAway yX3_takeDivisorAway, Cond.code yX3_takeDivisorAway cX3_takeDivisorAway 10 none, Cond.methodLink RX3 126 yX3_unshiftedLimb, Cond.instanceMethod yX3_unshiftedLimb, Cond.selects RX3 yX3_unshiftedLimb yX3_unshiftedLimb, Cond.code yX3_unshiftedLimb cX3_unshiftedLimb 2 (some .int), Cond.methodLink RX0 62 yX3_add]
def wsX5_scalarMul_r4 : List Cond := [Cond.instanceMethod yX3_add, Cond.selects RX3 yX3_add yX3_add, Cond.code yX3_add cX3_add 6 none, Cond.fieldLink RX3 9 "LimbCurves$Residues" "modulus" "[I", Cond.methodLink RX3 73 yX1_combine, Cond.static yX1_combine, Cond.code yX1_combine cX1_combine 7 (some .long), Cond.constantLong RX1 33 (2147483647), Cond.methodLink RX3 77 yX1_compare, Cond.methodLink RX5 147 yX5_scalarIn, Cond.instanceMethod yX5_scalarIn, Cond.selects RX5 yX5_scalarIn yX5_scalarIn, Cond.code yX5_scalarIn cX5_scalarIn 2 (some (.array .int)), Cond.fieldLink RX5 36 "LimbCurves" "scalars" "[[I", Cond.methodLink RX5 151 yX4_takeTimes, Cond.instanceMethod yX4_takeTimes, Cond.selects RX4 yX4_takeTimes yX4_takeTimes, Cond.initialized RX4, Cond.code yX4_takeTimes cX4_takeTimes 5 none, Cond.methodLink RX4 56 yX4_startAtIdentity, Cond.instanceMethod yX4_startAtIdentity, Cond.selects RX4 yX4_startAtIdentity yX4_startAtIdentity, Cond.code yX4_startAtIdentity cX4_startAtIdentity 1 none, Cond.fieldLink RX4 28 "LimbCurves$RunningSum" "identity" "Z"]
def wsX5_scalarMul_r5 : List Cond := [Cond.fieldLink RX4 25 "LimbCurves$RunningSum" "z" "[I", Cond.methodLink RX4 50 yX1_set, Cond.static yX1_set, Cond.code yX1_set cX1_set 2 none, Cond.methodLink RX1 9 yJ7_fill_53178, Cond.methodLink RX4 59 yX4_addItself, Cond.instanceMethod yX4_addItself, Cond.selects RX4 yX4_addItself yX4_addItself, Cond.code yX4_addItself cX4_addItself 1 none, Cond.fieldLink RX4 22 "LimbCurves$RunningSum" "y" "[I", Cond.fieldLink RX4 9 "LimbCurves$RunningSum" "field" "LLimbCurves$Residues;", Cond.fieldLink RX4 44 "LimbCurves$RunningSum" "s" "[I", Cond.fieldLink RX4 15 "LimbCurves$RunningSum" "a" "[I", Cond.fieldLink RX4 41 "LimbCurves$RunningSum" "rise" "[I", Cond.fieldLink RX4 19 "LimbCurves$RunningSum" "x" "[I", Cond.fieldLink RX4 47 "LimbCurves$RunningSum" "t" "[I", Cond.methodLink RX4 82 yX1_isZero, Cond.static yX1_isZero, Cond.code yX1_isZero cX1_isZero 1 (some .boolean), Cond.methodLink RX1 21 yX1_sizeOf, Cond.static yX1_sizeOf, Cond.code yX1_sizeOf cX1_sizeOf 2 (some .int), Cond.methodLink RX4 99 yX3_multiply, Cond.methodLink RX4 104 yX3_thrice]
def wsX5_scalarMul_r6 : List Cond := [Cond.instanceMethod yX3_thrice, Cond.selects RX3 yX3_thrice yX3_thrice, Cond.code yX3_thrice cX3_thrice 3 none, Cond.fieldLink RX3 21 "LimbCurves$Residues" "spare" "[I", Cond.methodLink RX3 81 yX3_add, Cond.methodLink RX4 107 yX3_add, Cond.methodLink RX4 110 yX3_twice, Cond.instanceMethod yX3_twice, Cond.selects RX3 yX3_twice yX3_twice, Cond.code yX3_twice cX3_twice 3 none, Cond.methodLink RX4 76 yX3_subtract, Cond.instanceMethod yX3_subtract, Cond.selects RX3 yX3_subtract yX3_subtract, Cond.code yX3_subtract cX3_subtract 6 none, Cond.methodLink RX4 62 yX4_addPoint, Cond.instanceMethod yX4_addPoint, Cond.selects RX4 yX4_addPoint yX4_addPoint, Cond.code yX4_addPoint cX4_addPoint 2 none, Cond.fieldLink RX4 66 "LimbCurves$Point" "identity" "Z", Cond.fieldLink RX4 32 "LimbCurves$RunningSum" "otherX" "[I", Cond.fieldLink RX4 35 "LimbCurves$RunningSum" "otherY" "[I", Cond.fieldLink RX4 38 "LimbCurves$RunningSum" "run" "[I", Cond.methodLink RX4 69 yX4_bringToSameZ, Cond.instanceMethod yX4_bringToSameZ]
def wsX5_scalarMul_r7 : List Cond := [Cond.selects RX4 yX4_bringToSameZ yX4_bringToSameZ, Cond.code yX4_bringToSameZ cX4_bringToSameZ 2 none, Cond.fieldLink RX4 102 "LimbCurves$Point" "x" "[I", Cond.fieldLink RX4 103 "LimbCurves$Point" "y" "[I", Cond.methodLink RX4 72 yX1_copy, Cond.static yX1_copy, Cond.code yX1_copy cX1_copy 2 none, Cond.methodLink RX1 15 arraycopyName, Cond.native arraycopyName, Cond.static arraycopyName, Cond.initialized "java/lang/System", Cond.methodLink RX4 86 yX4_addAlongChord, Cond.instanceMethod yX4_addAlongChord, Cond.selects RX4 yX4_addAlongChord yX4_addAlongChord, Cond.code yX4_addAlongChord cX4_addAlongChord 1 none, Cond.methodLink RX4 89 yX4_addAtSameX, Cond.instanceMethod yX4_addAtSameX, Cond.selects RX4 yX4_addAtSameX yX4_addAtSameX, Cond.code yX4_addAtSameX cX4_addAtSameX 1 none, Cond.methodLink RX5 137 yX5_writeRunningSum, Cond.instanceMethod yX5_writeRunningSum, Cond.selects RX5 yX5_writeRunningSum yX5_writeRunningSum, Cond.code yX5_writeRunningSum cX5_writeRunningSum 2 (some .boolean), Cond.methodLink RX5 183 yX4_writeTo]
def wsX5_scalarMul_r8 : List Cond := [Cond.instanceMethod yX4_writeTo, Cond.selects RX4 yX4_writeTo yX4_writeTo, Cond.code yX4_writeTo cX4_writeTo 2 (some .boolean), Cond.methodLink RX4 92 yX3_invert, Cond.instanceMethod yX3_invert, Cond.selects RX3 yX3_invert yX3_invert, Cond.code yX3_invert cX3_invert 11 (some .boolean), Cond.fieldLink RX3 24 "LimbCurves$Residues" "firstRest" "[I", Cond.fieldLink RX3 27 "LimbCurves$Residues" "secondRest" "[I", Cond.fieldLink RX3 30 "LimbCurves$Residues" "firstFactor" "[I", Cond.fieldLink RX3 33 "LimbCurves$Residues" "secondFactor" "[I", Cond.methodLink RX3 43 yX1_copy, Cond.methodLink RX3 92 yX1_set, Cond.methodLink RX3 95 yX1_isZero, Cond.methodLink RX3 99 yX1_gapBetween, Cond.static yX1_gapBetween, Cond.code yX1_gapBetween cX1_gapBetween 3 (some .int), Cond.methodLink RX1 39 yX1_bitsOf, Cond.static yX1_bitsOf, Cond.code yX1_bitsOf cX1_bitsOf 2 (some .int), Cond.methodLink RX1 27 yJ6_numberOfLeadingZeros_0f7a4, Cond.static yJ6_numberOfLeadingZeros_0f7a4, Cond.initialized RJ6, Cond.code yJ6_numberOfLeadingZeros_0f7a4 cJ6_numberOfLeadingZeros_0f7a4 2 (some .int)]
def wsX5_scalarMul_r9 : List Cond := [Cond.constant RJ6 264 (65536), Cond.methodLink RX1 42 yX1_isBelowShifted, Cond.static yX1_isBelowShifted, Cond.code yX1_isBelowShifted cX1_isBelowShifted 5 (some .boolean), Cond.methodLink RX1 35 yX1_shiftedLimb, Cond.static yX1_shiftedLimb, Cond.code yX1_shiftedLimb cX1_shiftedLimb 8 (some .int), Cond.methodLink RX3 102 yX1_addShifted, Cond.static yX1_addShifted, Cond.code yX1_addShifted cX1_addShifted 7 none, Cond.methodLink RX3 106 yX1_bitsOf, Cond.methodLink RX3 109 yX3_subtract, Cond.methodLink RX4 96 yX2_becomeIdentity, Cond.instanceMethod yX2_becomeIdentity, Cond.selects RX2 yX2_becomeIdentity yX2_becomeIdentity, Cond.initialized RX2, Cond.code yX2_becomeIdentity cX2_becomeIdentity 1 none, Cond.fieldLink RX2 7 "LimbCurves$Point" "x" "[I", Cond.fieldLink RX2 13 "LimbCurves$Point" "y" "[I", Cond.fieldLink RX2 16 "LimbCurves$Point" "identity" "Z", Cond.methodLink RX2 20 yX1_set, Cond.methodLink RX5 116 yX5_endFeeding, Cond.instanceMethod yX5_endFeeding, Cond.selects RX5 yX5_endFeeding yX5_endFeeding]
def wsX5_scalarMul_r10 : List Cond := [Cond.code yX5_endFeeding cX5_endFeeding 2 none, Cond.fieldLink RX5 79 "LimbCurves" "fedSlot" "I", Cond.fieldLink RX5 82 "LimbCurves" "fedLimbs" "I"]
def wsX5_scalarMul : List Cond := .code yX5_scalarMul cX5_scalarMul 4 (some .boolean) :: ((wsX5_scalarMul_r1 ++ (wsX5_scalarMul_r2 ++ (wsX5_scalarMul_r3 ++ (wsX5_scalarMul_r4 ++ (wsX5_scalarMul_r5 ++ (wsX5_scalarMul_r6 ++ (wsX5_scalarMul_r7 ++ (wsX5_scalarMul_r8 ++ (wsX5_scalarMul_r9 ++ wsX5_scalarMul_r10))))))))) ++ wsX50 ++ wsX20 ++ wsX00 ++ wsX30 ++ wsX40)
def wsX5_negate_r1 : List Cond := [Cond.fieldLink RX5 51 "LimbCurves" "curve" "LLimbCurves$Curve;", Cond.methodLink RX5 103 yX5_isPoint, Cond.static yX5_isPoint, Cond.initialized RX5, Cond.code yX5_isPoint cX5_isPoint 1 (some .boolean), Cond.methodLink RX5 127 yX5_onCurve, Cond.instanceMethod yX5_onCurve, Cond.selects RX5 yX5_onCurve yX5_onCurve, Cond.code yX5_onCurve cX5_onCurve 2 (some .boolean), Cond.fieldLink RX5 75 "LimbCurves" "sealed" "Z", Cond.methodLink RX5 106 yX5_pointIn, Cond.instanceMethod yX5_pointIn, Cond.selects RX5 yX5_pointIn yX5_pointIn, Cond.code yX5_pointIn cX5_pointIn 2 (some (.object "LimbCurves$Point")), Cond.fieldLink RX5 29 "LimbCurves" "points" "[LLimbCurves$Point;", Cond.methodLink RX5 123 yX0_holds, Cond.instanceMethod yX0_holds, Cond.selects RX0 yX0_holds yX0_holds, Cond.initialized RX0, Cond.code yX0_holds cX0_holds 2 (some .boolean), Cond.fieldLink RX0 68 "LimbCurves$Point" "identity" "Z", Cond.fieldLink RX0 74 "LimbCurves$Point" "x" "[I", Cond.fieldLink RX0 9 "LimbCurves$Curve" "p" "[I", Cond.fieldLink RX0 77 "LimbCurves$Point" "y" "[I"]
def wsX5_negate_r2 : List Cond := [Cond.fieldLink RX0 21 "LimbCurves$Curve" "field" "LLimbCurves$Residues;", Cond.fieldLink RX0 25 "LimbCurves$Curve" "left" "[I", Cond.fieldLink RX0 28 "LimbCurves$Curve" "right" "[I", Cond.fieldLink RX0 15 "LimbCurves$Curve" "a" "[I", Cond.fieldLink RX0 18 "LimbCurves$Curve" "b" "[I", Cond.methodLink RX0 37 yX1_compare, Cond.static yX1_compare, Cond.initialized RX1, Cond.code yX1_compare cX1_compare 3 (some .int), Cond.methodLink RX0 51 yX3_multiply, Cond.instanceMethod yX3_multiply, Cond.selects RX3 yX3_multiply yX3_multiply, Cond.initialized RX3, Cond.code yX3_multiply cX3_multiply 10 none, Cond.fieldLink RX3 18 "LimbCurves$Residues" "work" "[I", Cond.fieldLink RX3 36 "LimbCurves$Residues" "size" "I", Cond.constantLong RX3 90 (2147483647), Cond.methodLink RX3 85 yJ7_fill_53178, Cond.static yJ7_fill_53178, Cond.initialized RJ7, Cond.code yJ7_fill_53178 cJ7_fill_53178 4 none, Cond.methodLink RX3 69 yX3_takeRemainder, Cond.instanceMethod yX3_takeRemainder, Cond.selects RX3 yX3_takeRemainder yX3_takeRemainder]
def wsX5_negate_r3 : List Cond := [Cond.code yX3_takeRemainder cX3_takeRemainder 8 none, Cond.fieldLink RX3 15 "LimbCurves$Residues" "divisor" "[I", Cond.methodLink RX3 116 Lib.MathLoose.min_long.x, Cond.static Lib.MathLoose.min_long.x, Cond.initialized "java/lang/Math", Cond.code Lib.MathLoose.min_long.x Lib.MathLoose.min_long.code 4 (some .long), Cond.methodLink RX3 112 yX3_shiftWork, Cond.instanceMethod yX3_shiftWork, Cond.selects RX3 yX3_shiftWork yX3_shiftWork, Cond.code yX3_shiftWork cX3_shiftWork 5 none, Cond.fieldLink RX3 40 "LimbCurves$Residues" "shift" "I", Cond.methodLink RX3 122 yX3_takeDivisorAway, Cond.instanceMethod yX3_takeDivisorAway, Cond.selects RX3 yX3_takeDivisorAway yX3_takeDivisorAway, Cond.code yX3_takeDivisorAway cX3_takeDivisorAway 10 none, Cond.methodLink RX3 126 yX3_unshiftedLimb, Cond.instanceMethod yX3_unshiftedLimb, Cond.selects RX3 yX3_unshiftedLimb yX3_unshiftedLimb, Cond.code yX3_unshiftedLimb cX3_unshiftedLimb 2 (some .int), Cond.methodLink RX0 62 yX3_add, Cond.instanceMethod yX3_add, Cond.selects RX3 yX3_add yX3_add, Cond.code yX3_add cX3_add 6 none, Cond.fieldLink RX3 9 "LimbCurves$Residues" "modulus" "[I"]
def wsX5_negate_r4 : List Cond := [Cond.methodLink RX3 73 yX1_combine, Cond.static yX1_combine, Cond.code yX1_combine cX1_combine 7 (some .long), Cond.constantLong RX1 33 (2147483647), Cond.methodLink RX3 77 yX1_compare, Cond.methodLink RX5 155 yX2_copyFrom, Cond.instanceMethod yX2_copyFrom, Cond.selects RX2 yX2_copyFrom yX2_copyFrom, Cond.initialized RX2, Cond.code yX2_copyFrom cX2_copyFrom 2 none, Cond.fieldLink RX2 7 "LimbCurves$Point" "x" "[I", Cond.fieldLink RX2 13 "LimbCurves$Point" "y" "[I", Cond.fieldLink RX2 16 "LimbCurves$Point" "identity" "Z", Cond.methodLink RX2 26 yX1_copy, Cond.static yX1_copy, Cond.code yX1_copy cX1_copy 2 none, Cond.methodLink RX1 15 arraycopyName, Cond.native arraycopyName, Cond.static arraycopyName, Cond.initialized "java/lang/System", Cond.methodLink RX5 158 yX0_mirror, Cond.instanceMethod yX0_mirror, Cond.selects RX0 yX0_mirror yX0_mirror, Cond.code yX0_mirror cX0_mirror 2 none]
def wsX5_negate_r5 : List Cond := [Cond.methodLink RX0 65 yX1_isZero, Cond.static yX1_isZero, Cond.code yX1_isZero cX1_isZero 1 (some .boolean), Cond.methodLink RX1 21 yX1_sizeOf, Cond.static yX1_sizeOf, Cond.code yX1_sizeOf cX1_sizeOf 2 (some .int), Cond.methodLink RX0 80 yX1_set, Cond.static yX1_set, Cond.code yX1_set cX1_set 2 none, Cond.methodLink RX1 9 yJ7_fill_53178, Cond.methodLink RX0 84 yX3_subtract, Cond.instanceMethod yX3_subtract, Cond.selects RX3 yX3_subtract yX3_subtract, Cond.code yX3_subtract cX3_subtract 6 none, Cond.methodLink RX5 116 yX5_endFeeding, Cond.instanceMethod yX5_endFeeding, Cond.selects RX5 yX5_endFeeding yX5_endFeeding, Cond.code yX5_endFeeding cX5_endFeeding 2 none, Cond.fieldLink RX5 79 "LimbCurves" "fedSlot" "I", Cond.fieldLink RX5 82 "LimbCurves" "fedLimbs" "I"]
def wsX5_negate : List Cond := .code yX5_negate cX5_negate 3 (some .boolean) :: ((wsX5_negate_r1 ++ (wsX5_negate_r2 ++ (wsX5_negate_r3 ++ (wsX5_negate_r4 ++ wsX5_negate_r5)))) ++ wsX50 ++ wsX20 ++ wsX00 ++ wsX30)
def wsX5_isSame : List Cond := .code yX5_isSame cX5_isSame 3 (some .boolean) :: ([.methodLink RX5 103 yX5_isPoint, .static yX5_isPoint, .initialized RX5, .code yX5_isPoint cX5_isPoint 1 (some .boolean), .methodLink RX5 106 yX5_pointIn, .instanceMethod yX5_pointIn, .selects RX5 yX5_pointIn yX5_pointIn, .code yX5_pointIn cX5_pointIn 2 (some (.object "LimbCurves$Point")), .fieldLink RX5 29 "LimbCurves" "points" "[LLimbCurves$Point;", .methodLink RX5 161 yX2_sameAs, .instanceMethod yX2_sameAs, .selects RX2 yX2_sameAs yX2_sameAs, .initialized RX2, .code yX2_sameAs cX2_sameAs 2 (some .boolean), .fieldLink RX2 16 "LimbCurves$Point" "identity" "Z", .fieldLink RX2 7 "LimbCurves$Point" "x" "[I", .fieldLink RX2 13 "LimbCurves$Point" "y" "[I", .methodLink RX2 30 yX1_compare, .static yX1_compare, .initialized RX1, .code yX1_compare cX1_compare 3 (some .int)] ++ wsX50 ++ wsX20)
def wsX5_isSignaturePart : List Cond := .code yX5_isSignaturePart cX5_isSignaturePart 2 (some .boolean) :: ([.fieldLink RX5 24 "LimbCurves" "parameters" "[[I", .methodLink RX5 211 yX1_isZero, .static yX1_isZero, .initialized RX1, .code yX1_isZero cX1_isZero 1 (some .boolean), .methodLink RX1 21 yX1_sizeOf, .static yX1_sizeOf, .code yX1_sizeOf cX1_sizeOf 2 (some .int), .methodLink RX5 189 yX1_compare, .static yX1_compare, .code yX1_compare cX1_compare 3 (some .int)] ++ wsX50)
def wsX5_verify_r1 : List Cond := [Cond.fieldLink RX5 42 "LimbCurves" "order" "LLimbCurves$Residues;", Cond.fieldLink RX5 24 "LimbCurves" "parameters" "[[I", Cond.fieldLink RX5 68 "LimbCurves" "right" "[I", Cond.fieldLink RX5 64 "LimbCurves" "left" "[I", Cond.fieldLink RX5 60 "LimbCurves" "running" "LLimbCurves$RunningSum;", Cond.fieldLink RX5 71 "LimbCurves" "result" "LLimbCurves$Point;", Cond.fieldLink RX5 186 "LimbCurves$Point" "x" "[I", Cond.fieldLink RX5 110 "LimbCurves$Point" "identity" "Z", Cond.methodLink RX5 127 yX5_onCurve, Cond.instanceMethod yX5_onCurve, Cond.selects RX5 yX5_onCurve yX5_onCurve, Cond.initialized RX5, Cond.code yX5_onCurve cX5_onCurve 2 (some .boolean), Cond.fieldLink RX5 75 "LimbCurves" "sealed" "Z", Cond.fieldLink RX5 51 "LimbCurves" "curve" "LLimbCurves$Curve;", Cond.methodLink RX5 103 yX5_isPoint, Cond.static yX5_isPoint, Cond.code yX5_isPoint cX5_isPoint 1 (some .boolean), Cond.methodLink RX5 106 yX5_pointIn, Cond.instanceMethod yX5_pointIn, Cond.selects RX5 yX5_pointIn yX5_pointIn, Cond.code yX5_pointIn cX5_pointIn 2 (some (.object "LimbCurves$Point")), Cond.fieldLink RX5 29 "LimbCurves" "points" "[LLimbCurves$Point;", Cond.methodLink RX5 123 yX0_holds]
def wsX5_verify_r2 : List Cond := [Cond.instanceMethod yX0_holds, Cond.selects RX0 yX0_holds yX0_holds, Cond.initialized RX0, Cond.code yX0_holds cX0_holds 2 (some .boolean), Cond.fieldLink RX0 68 "LimbCurves$Point" "identity" "Z", Cond.fieldLink RX0 74 "LimbCurves$Point" "x" "[I", Cond.fieldLink RX0 9 "LimbCurves$Curve" "p" "[I", Cond.fieldLink RX0 77 "LimbCurves$Point" "y" "[I", Cond.fieldLink RX0 21 "LimbCurves$Curve" "field" "LLimbCurves$Residues;", Cond.fieldLink RX0 25 "LimbCurves$Curve" "left" "[I", Cond.fieldLink RX0 28 "LimbCurves$Curve" "right" "[I", Cond.fieldLink RX0 15 "LimbCurves$Curve" "a" "[I", Cond.fieldLink RX0 18 "LimbCurves$Curve" "b" "[I", Cond.methodLink RX0 37 yX1_compare, Cond.static yX1_compare, Cond.initialized RX1, Cond.code yX1_compare cX1_compare 3 (some .int), Cond.methodLink RX0 51 yX3_multiply, Cond.instanceMethod yX3_multiply, Cond.selects RX3 yX3_multiply yX3_multiply, Cond.initialized RX3, Cond.code yX3_multiply cX3_multiply 10 none, Cond.fieldLink RX3 18 "LimbCurves$Residues" "work" "[I", Cond.fieldLink RX3 36 "LimbCurves$Residues" "size" "I"]
def wsX5_verify_r3 : List Cond := [Cond.constantLong RX3 90 (2147483647), Cond.methodLink RX3 85 yJ7_fill_53178, Cond.static yJ7_fill_53178, Cond.initialized RJ7, Cond.code yJ7_fill_53178 cJ7_fill_53178 4 none, Cond.methodLink RX3 69 yX3_takeRemainder, Cond.instanceMethod yX3_takeRemainder, Cond.selects RX3 yX3_takeRemainder yX3_takeRemainder, Cond.code yX3_takeRemainder cX3_takeRemainder 8 none, Cond.fieldLink RX3 15 "LimbCurves$Residues" "divisor" "[I", Cond.methodLink RX3 116 Lib.MathLoose.min_long.x, Cond.static Lib.MathLoose.min_long.x, Cond.initialized "java/lang/Math", Cond.code Lib.MathLoose.min_long.x Lib.MathLoose.min_long.code 4 (some .long), Cond.methodLink RX3 112 yX3_shiftWork, Cond.instanceMethod yX3_shiftWork, Cond.selects RX3 yX3_shiftWork yX3_shiftWork, Cond.code yX3_shiftWork cX3_shiftWork 5 none, Cond.fieldLink RX3 40 "LimbCurves$Residues" "shift" "I", Cond.methodLink RX3 122 yX3_takeDivisorAway, Cond.instanceMethod yX3_takeDivisorAway, Cond.selects RX3 yX3_takeDivisorAway yX3_takeDivisorAway, Cond.code yX3_takeDivisorAway cX3_takeDivisorAway 10 none, Cond.methodLink RX3 126 yX3_unshiftedLimb]
def wsX5_verify_r4 : List Cond := [Cond.instanceMethod yX3_unshiftedLimb, Cond.selects RX3 yX3_unshiftedLimb yX3_unshiftedLimb, Cond.code yX3_unshiftedLimb cX3_unshiftedLimb 2 (some .int), Cond.methodLink RX0 62 yX3_add, Cond.instanceMethod yX3_add, Cond.selects RX3 yX3_add yX3_add, Cond.code yX3_add cX3_add 6 none, Cond.fieldLink RX3 9 "LimbCurves$Residues" "modulus" "[I", Cond.methodLink RX3 73 yX1_combine, Cond.static yX1_combine, Cond.code yX1_combine cX1_combine 7 (some .long), Cond.constantLong RX1 33 (2147483647), Cond.methodLink RX3 77 yX1_compare, Cond.methodLink RX5 144 yX5_isScalar, Cond.static yX5_isScalar, Cond.code yX5_isScalar cX5_isScalar 1 (some .boolean), Cond.methodLink RX5 164 yX3_takeModulus, Cond.instanceMethod yX3_takeModulus, Cond.selects RX3 yX3_takeModulus yX3_takeModulus, Cond.code yX3_takeModulus cX3_takeModulus 3 (some .boolean), Cond.methodLink RX3 43 yX1_copy, Cond.static yX1_copy, Cond.code yX1_copy cX1_copy 2 none, Cond.methodLink RX1 15 arraycopyName]
def wsX5_verify_r5 : List Cond := [Cond.native arraycopyName, Cond.static arraycopyName, Cond.initialized "java/lang/System", Cond.methodLink RX3 49 yX1_sizeOf, Cond.static yX1_sizeOf, Cond.code yX1_sizeOf cX1_sizeOf 2 (some .int), Cond.methodLink RX3 53 yJ6_numberOfLeadingZeros_0f7a4, Cond.static yJ6_numberOfLeadingZeros_0f7a4, Cond.initialized RJ6, Cond.code yJ6_numberOfLeadingZeros_0f7a4 cJ6_numberOfLeadingZeros_0f7a4 2 (some .int), Cond.constant RJ6 264 (65536), Cond.methodLink RX3 59 yX1_shiftedLimb, Cond.static yX1_shiftedLimb, Cond.code yX1_shiftedLimb cX1_shiftedLimb 8 (some .int), Cond.methodLink RX5 147 yX5_scalarIn, Cond.instanceMethod yX5_scalarIn, Cond.selects RX5 yX5_scalarIn yX5_scalarIn, Cond.code yX5_scalarIn cX5_scalarIn 2 (some (.array .int)), Cond.fieldLink RX5 36 "LimbCurves" "scalars" "[[I", Cond.methodLink RX5 168 yX5_isSignaturePart, Cond.instanceMethod yX5_isSignaturePart, Cond.selects RX5 yX5_isSignaturePart yX5_isSignaturePart, Cond.code yX5_isSignaturePart cX5_isSignaturePart 2 (some .boolean), Cond.methodLink RX5 211 yX1_isZero]
def wsX5_verify_r6 : List Cond := [Cond.static yX1_isZero, Cond.code yX1_isZero cX1_isZero 1 (some .boolean), Cond.methodLink RX1 21 yX1_sizeOf, Cond.methodLink RX5 189 yX1_compare, Cond.methodLink RX5 171 yX3_invert, Cond.instanceMethod yX3_invert, Cond.selects RX3 yX3_invert yX3_invert, Cond.code yX3_invert cX3_invert 11 (some .boolean), Cond.fieldLink RX3 24 "LimbCurves$Residues" "firstRest" "[I", Cond.fieldLink RX3 27 "LimbCurves$Residues" "secondRest" "[I", Cond.fieldLink RX3 30 "LimbCurves$Residues" "firstFactor" "[I", Cond.fieldLink RX3 33 "LimbCurves$Residues" "secondFactor" "[I", Cond.methodLink RX3 92 yX1_set, Cond.static yX1_set, Cond.code yX1_set cX1_set 2 none, Cond.methodLink RX1 9 yJ7_fill_53178, Cond.methodLink RX3 95 yX1_isZero, Cond.methodLink RX3 99 yX1_gapBetween, Cond.static yX1_gapBetween, Cond.code yX1_gapBetween cX1_gapBetween 3 (some .int), Cond.methodLink RX1 39 yX1_bitsOf, Cond.static yX1_bitsOf, Cond.code yX1_bitsOf cX1_bitsOf 2 (some .int), Cond.methodLink RX1 27 yJ6_numberOfLeadingZeros_0f7a4]
def wsX5_verify_r7 : List Cond := [Cond.methodLink RX1 42 yX1_isBelowShifted, Cond.static yX1_isBelowShifted, Cond.code yX1_isBelowShifted cX1_isBelowShifted 5 (some .boolean), Cond.methodLink RX1 35 yX1_shiftedLimb, Cond.methodLink RX3 102 yX1_addShifted, Cond.static yX1_addShifted, Cond.code yX1_addShifted cX1_addShifted 7 none, Cond.methodLink RX3 106 yX1_bitsOf, Cond.methodLink RX3 109 yX3_subtract, Cond.instanceMethod yX3_subtract, Cond.selects RX3 yX3_subtract yX3_subtract, Cond.code yX3_subtract cX3_subtract 6 none, Cond.methodLink RX5 175 yX3_reduce, Cond.instanceMethod yX3_reduce, Cond.selects RX3 yX3_reduce yX3_reduce, Cond.code yX3_reduce cX3_reduce 3 none, Cond.methodLink RX3 63 arraycopyName, Cond.methodLink RX5 179 yX3_multiply, Cond.methodLink RX5 151 yX4_takeTimes, Cond.instanceMethod yX4_takeTimes, Cond.selects RX4 yX4_takeTimes yX4_takeTimes, Cond.initialized RX4, Cond.code yX4_takeTimes cX4_takeTimes 5 none, Cond.methodLink RX4 56 yX4_startAtIdentity]
def wsX5_verify_r8 : List Cond := [Cond.instanceMethod yX4_startAtIdentity, Cond.selects RX4 yX4_startAtIdentity yX4_startAtIdentity, Cond.code yX4_startAtIdentity cX4_startAtIdentity 1 none, Cond.fieldLink RX4 28 "LimbCurves$RunningSum" "identity" "Z", Cond.fieldLink RX4 25 "LimbCurves$RunningSum" "z" "[I", Cond.methodLink RX4 50 yX1_set, Cond.methodLink RX4 59 yX4_addItself, Cond.instanceMethod yX4_addItself, Cond.selects RX4 yX4_addItself yX4_addItself, Cond.code yX4_addItself cX4_addItself 1 none, Cond.fieldLink RX4 22 "LimbCurves$RunningSum" "y" "[I", Cond.fieldLink RX4 9 "LimbCurves$RunningSum" "field" "LLimbCurves$Residues;", Cond.fieldLink RX4 44 "LimbCurves$RunningSum" "s" "[I", Cond.fieldLink RX4 15 "LimbCurves$RunningSum" "a" "[I", Cond.fieldLink RX4 41 "LimbCurves$RunningSum" "rise" "[I", Cond.fieldLink RX4 19 "LimbCurves$RunningSum" "x" "[I", Cond.fieldLink RX4 47 "LimbCurves$RunningSum" "t" "[I", Cond.methodLink RX4 82 yX1_isZero, Cond.methodLink RX4 99 yX3_multiply, Cond.methodLink RX4 104 yX3_thrice, Cond.instanceMethod yX3_thrice, Cond.selects RX3 yX3_thrice yX3_thrice, Cond.code yX3_thrice cX3_thrice 3 none, Cond.fieldLink RX3 21 "LimbCurves$Residues" "spare" "[I"]
def wsX5_verify_r9 : List Cond := [Cond.methodLink RX3 81 yX3_add, Cond.methodLink RX4 107 yX3_add, Cond.methodLink RX4 110 yX3_twice, Cond.instanceMethod yX3_twice, Cond.selects RX3 yX3_twice yX3_twice, Cond.code yX3_twice cX3_twice 3 none, Cond.methodLink RX4 76 yX3_subtract, Cond.methodLink RX4 62 yX4_addPoint, Cond.instanceMethod yX4_addPoint, Cond.selects RX4 yX4_addPoint yX4_addPoint, Cond.code yX4_addPoint cX4_addPoint 2 none, Cond.fieldLink RX4 66 "LimbCurves$Point" "identity" "Z", Cond.fieldLink RX4 32 "LimbCurves$RunningSum" "otherX" "[I", Cond.fieldLink RX4 35 "LimbCurves$RunningSum" "otherY" "[I", Cond.fieldLink RX4 38 "LimbCurves$RunningSum" "run" "[I", Cond.methodLink RX4 69 yX4_bringToSameZ, Cond.instanceMethod yX4_bringToSameZ, Cond.selects RX4 yX4_bringToSameZ yX4_bringToSameZ, Cond.code yX4_bringToSameZ cX4_bringToSameZ 2 none, Cond.fieldLink RX4 102 "LimbCurves$Point" "x" "[I", Cond.fieldLink RX4 103 "LimbCurves$Point" "y" "[I", Cond.methodLink RX4 72 yX1_copy, Cond.methodLink RX4 86 yX4_addAlongChord, Cond.instanceMethod yX4_addAlongChord]
def wsX5_verify_r10 : List Cond := [Cond.selects RX4 yX4_addAlongChord yX4_addAlongChord, Cond.code yX4_addAlongChord cX4_addAlongChord 1 none, Cond.methodLink RX4 89 yX4_addAtSameX, Cond.instanceMethod yX4_addAtSameX, Cond.selects RX4 yX4_addAtSameX yX4_addAtSameX, Cond.code yX4_addAtSameX cX4_addAtSameX 1 none, Cond.methodLink RX5 183 yX4_writeTo, Cond.instanceMethod yX4_writeTo, Cond.selects RX4 yX4_writeTo yX4_writeTo, Cond.code yX4_writeTo cX4_writeTo 2 (some .boolean), Cond.methodLink RX4 92 yX3_invert, Cond.methodLink RX4 96 yX2_becomeIdentity, Cond.instanceMethod yX2_becomeIdentity, Cond.selects RX2 yX2_becomeIdentity yX2_becomeIdentity, Cond.initialized RX2, Cond.code yX2_becomeIdentity cX2_becomeIdentity 1 none, Cond.fieldLink RX2 7 "LimbCurves$Point" "x" "[I", Cond.fieldLink RX2 13 "LimbCurves$Point" "y" "[I", Cond.fieldLink RX2 16 "LimbCurves$Point" "identity" "Z", Cond.methodLink RX2 20 yX1_set, Cond.methodLink RX5 133 yX4_addPoint]
def wsX5_verify : List Cond := .code yX5_verify cX5_verify 7 (some .int) :: ((wsX5_verify_r1 ++ (wsX5_verify_r2 ++ (wsX5_verify_r3 ++ (wsX5_verify_r4 ++ (wsX5_verify_r5 ++ (wsX5_verify_r6 ++ (wsX5_verify_r7 ++ (wsX5_verify_r8 ++ (wsX5_verify_r9 ++ wsX5_verify_r10))))))))) ++ wsX50 ++ wsX20 ++ wsX00 ++ wsX30 ++ wsX40)
def wsX5_combineModuloOrder_r1 : List Cond := [Cond.fieldLink RX5 42 "LimbCurves" "order" "LLimbCurves$Residues;", Cond.fieldLink RX5 64 "LimbCurves" "left" "[I", Cond.fieldLink RX5 68 "LimbCurves" "right" "[I", Cond.methodLink RX5 214 yX3_add, Cond.instanceMethod yX3_add, Cond.selects RX3 yX3_add yX3_add, Cond.initialized RX3, Cond.code yX3_add cX3_add 6 none, Cond.fieldLink RX3 9 "LimbCurves$Residues" "modulus" "[I", Cond.methodLink RX3 73 yX1_combine, Cond.static yX1_combine, Cond.initialized RX1, Cond.code yX1_combine cX1_combine 7 (some .long), Cond.constantLong RX1 33 (2147483647), Cond.methodLink RX3 77 yX1_compare, Cond.static yX1_compare, Cond.code yX1_compare cX1_compare 3 (some .int), Cond.methodLink RX5 217 yX3_subtract, Cond.instanceMethod yX3_subtract, Cond.selects RX3 yX3_subtract yX3_subtract, Cond.code yX3_subtract cX3_subtract 6 none, Cond.methodLink RX5 179 yX3_multiply, Cond.instanceMethod yX3_multiply, Cond.selects RX3 yX3_multiply yX3_multiply]
def wsX5_combineModuloOrder_r2 : List Cond := [Cond.code yX3_multiply cX3_multiply 10 none, Cond.fieldLink RX3 18 "LimbCurves$Residues" "work" "[I", Cond.fieldLink RX3 36 "LimbCurves$Residues" "size" "I", Cond.constantLong RX3 90 (2147483647), Cond.methodLink RX3 85 yJ7_fill_53178, Cond.static yJ7_fill_53178, Cond.initialized RJ7, Cond.code yJ7_fill_53178 cJ7_fill_53178 4 none, Cond.methodLink RX3 69 yX3_takeRemainder, Cond.instanceMethod yX3_takeRemainder, Cond.selects RX3 yX3_takeRemainder yX3_takeRemainder, Cond.code yX3_takeRemainder cX3_takeRemainder 8 none, Cond.fieldLink RX3 15 "LimbCurves$Residues" "divisor" "[I", Cond.methodLink RX3 116 Lib.MathLoose.min_long.x, Cond.static Lib.MathLoose.min_long.x, Cond.initialized "java/lang/Math", Cond.code Lib.MathLoose.min_long.x Lib.MathLoose.min_long.code 4 (some .long), Cond.methodLink RX3 112 yX3_shiftWork, Cond.instanceMethod yX3_shiftWork, Cond.selects RX3 yX3_shiftWork yX3_shiftWork, Cond.code yX3_shiftWork cX3_shiftWork 5 none, Cond.fieldLink RX3 40 "LimbCurves$Residues" "shift" "I", Cond.methodLink RX3 122 yX3_takeDivisorAway, Cond.instanceMethod yX3_takeDivisorAway]
def wsX5_combineModuloOrder_r3 : List Cond := [Cond.selects RX3 yX3_takeDivisorAway yX3_takeDivisorAway, Cond.code yX3_takeDivisorAway cX3_takeDivisorAway 10 none, Cond.methodLink RX3 126 yX3_unshiftedLimb, Cond.instanceMethod yX3_unshiftedLimb, Cond.selects RX3 yX3_unshiftedLimb yX3_unshiftedLimb, Cond.code yX3_unshiftedLimb cX3_unshiftedLimb 2 (some .int)]
def wsX5_combineModuloOrder : List Cond := .code yX5_combineModuloOrder cX5_combineModuloOrder 2 none :: ((wsX5_combineModuloOrder_r1 ++ (wsX5_combineModuloOrder_r2 ++ wsX5_combineModuloOrder_r3)) ++ wsX50 ++ wsX30)
def wsX5_reckon_r1 : List Cond := [Cond.fieldLink RX5 42 "LimbCurves" "order" "LLimbCurves$Residues;", Cond.fieldLink RX5 24 "LimbCurves" "parameters" "[[I", Cond.fieldLink RX5 64 "LimbCurves" "left" "[I", Cond.fieldLink RX5 68 "LimbCurves" "right" "[I", Cond.methodLink RX5 144 yX5_isScalar, Cond.static yX5_isScalar, Cond.initialized RX5, Cond.code yX5_isScalar cX5_isScalar 1 (some .boolean), Cond.methodLink RX5 164 yX3_takeModulus, Cond.instanceMethod yX3_takeModulus, Cond.selects RX3 yX3_takeModulus yX3_takeModulus, Cond.initialized RX3, Cond.code yX3_takeModulus cX3_takeModulus 3 (some .boolean), Cond.fieldLink RX3 9 "LimbCurves$Residues" "modulus" "[I", Cond.fieldLink RX3 36 "LimbCurves$Residues" "size" "I", Cond.fieldLink RX3 40 "LimbCurves$Residues" "shift" "I", Cond.fieldLink RX3 15 "LimbCurves$Residues" "divisor" "[I", Cond.methodLink RX3 43 yX1_copy, Cond.static yX1_copy, Cond.initialized RX1, Cond.code yX1_copy cX1_copy 2 none, Cond.methodLink RX1 15 arraycopyName, Cond.native arraycopyName, Cond.static arraycopyName]
def wsX5_reckon_r2 : List Cond := [Cond.initialized "java/lang/System", Cond.methodLink RX3 49 yX1_sizeOf, Cond.static yX1_sizeOf, Cond.code yX1_sizeOf cX1_sizeOf 2 (some .int), Cond.methodLink RX3 53 yJ6_numberOfLeadingZeros_0f7a4, Cond.static yJ6_numberOfLeadingZeros_0f7a4, Cond.initialized RJ6, Cond.code yJ6_numberOfLeadingZeros_0f7a4 cJ6_numberOfLeadingZeros_0f7a4 2 (some .int), Cond.constant RJ6 264 (65536), Cond.methodLink RX3 59 yX1_shiftedLimb, Cond.static yX1_shiftedLimb, Cond.code yX1_shiftedLimb cX1_shiftedLimb 8 (some .int), Cond.constantLong RX1 33 (2147483647), Cond.methodLink RX5 147 yX5_scalarIn, Cond.instanceMethod yX5_scalarIn, Cond.selects RX5 yX5_scalarIn yX5_scalarIn, Cond.code yX5_scalarIn cX5_scalarIn 2 (some (.array .int)), Cond.fieldLink RX5 36 "LimbCurves" "scalars" "[[I", Cond.methodLink RX5 175 yX3_reduce, Cond.instanceMethod yX3_reduce, Cond.selects RX3 yX3_reduce yX3_reduce, Cond.code yX3_reduce cX3_reduce 3 none, Cond.fieldLink RX3 18 "LimbCurves$Residues" "work" "[I", Cond.methodLink RX3 63 arraycopyName]
def wsX5_reckon_r3 : List Cond := [Cond.methodLink RX3 69 yX3_takeRemainder, Cond.instanceMethod yX3_takeRemainder, Cond.selects RX3 yX3_takeRemainder yX3_takeRemainder, Cond.code yX3_takeRemainder cX3_takeRemainder 8 none, Cond.constantLong RX3 90 (2147483647), Cond.methodLink RX3 116 Lib.MathLoose.min_long.x, Cond.static Lib.MathLoose.min_long.x, Cond.initialized "java/lang/Math", Cond.code Lib.MathLoose.min_long.x Lib.MathLoose.min_long.code 4 (some .long), Cond.methodLink RX3 112 yX3_shiftWork, Cond.instanceMethod yX3_shiftWork, Cond.selects RX3 yX3_shiftWork yX3_shiftWork, Cond.code yX3_shiftWork cX3_shiftWork 5 none, Cond.methodLink RX3 122 yX3_takeDivisorAway, Cond.instanceMethod yX3_takeDivisorAway, Cond.selects RX3 yX3_takeDivisorAway yX3_takeDivisorAway, Cond.code yX3_takeDivisorAway cX3_takeDivisorAway 10 none, Cond.methodLink RX3 126 yX3_unshiftedLimb, Cond.instanceMethod yX3_unshiftedLimb, Cond.selects RX3 yX3_unshiftedLimb yX3_unshiftedLimb, Cond.code yX3_unshiftedLimb cX3_unshiftedLimb 2 (some .int), Cond.methodLink RX5 171 yX3_invert, Cond.instanceMethod yX3_invert, Cond.selects RX3 yX3_invert yX3_invert]
def wsX5_reckon_r4 : List Cond := [Cond.code yX3_invert cX3_invert 11 (some .boolean), Cond.fieldLink RX3 24 "LimbCurves$Residues" "firstRest" "[I", Cond.fieldLink RX3 27 "LimbCurves$Residues" "secondRest" "[I", Cond.fieldLink RX3 30 "LimbCurves$Residues" "firstFactor" "[I", Cond.fieldLink RX3 33 "LimbCurves$Residues" "secondFactor" "[I", Cond.methodLink RX3 92 yX1_set, Cond.static yX1_set, Cond.code yX1_set cX1_set 2 none, Cond.methodLink RX1 9 yJ7_fill_53178, Cond.static yJ7_fill_53178, Cond.initialized RJ7, Cond.code yJ7_fill_53178 cJ7_fill_53178 4 none, Cond.methodLink RX3 95 yX1_isZero, Cond.static yX1_isZero, Cond.code yX1_isZero cX1_isZero 1 (some .boolean), Cond.methodLink RX1 21 yX1_sizeOf, Cond.methodLink RX3 99 yX1_gapBetween, Cond.static yX1_gapBetween, Cond.code yX1_gapBetween cX1_gapBetween 3 (some .int), Cond.methodLink RX1 39 yX1_bitsOf, Cond.static yX1_bitsOf, Cond.code yX1_bitsOf cX1_bitsOf 2 (some .int), Cond.methodLink RX1 27 yJ6_numberOfLeadingZeros_0f7a4, Cond.methodLink RX1 42 yX1_isBelowShifted]
def wsX5_reckon_r5 : List Cond := [Cond.static yX1_isBelowShifted, Cond.code yX1_isBelowShifted cX1_isBelowShifted 5 (some .boolean), Cond.methodLink RX1 35 yX1_shiftedLimb, Cond.methodLink RX3 102 yX1_addShifted, Cond.static yX1_addShifted, Cond.code yX1_addShifted cX1_addShifted 7 none, Cond.methodLink RX3 106 yX1_bitsOf, Cond.methodLink RX3 109 yX3_subtract, Cond.instanceMethod yX3_subtract, Cond.selects RX3 yX3_subtract yX3_subtract, Cond.code yX3_subtract cX3_subtract 6 none, Cond.methodLink RX3 73 yX1_combine, Cond.static yX1_combine, Cond.code yX1_combine cX1_combine 7 (some .long), Cond.methodLink RX5 195 yX5_combineModuloOrder, Cond.instanceMethod yX5_combineModuloOrder, Cond.selects RX5 yX5_combineModuloOrder yX5_combineModuloOrder, Cond.code yX5_combineModuloOrder cX5_combineModuloOrder 2 none, Cond.methodLink RX5 214 yX3_add, Cond.instanceMethod yX3_add, Cond.selects RX3 yX3_add yX3_add, Cond.code yX3_add cX3_add 6 none, Cond.methodLink RX3 77 yX1_compare, Cond.static yX1_compare]
def wsX5_reckon_r6 : List Cond := [Cond.code yX1_compare cX1_compare 3 (some .int), Cond.methodLink RX5 217 yX3_subtract, Cond.methodLink RX5 179 yX3_multiply, Cond.instanceMethod yX3_multiply, Cond.selects RX3 yX3_multiply yX3_multiply, Cond.code yX3_multiply cX3_multiply 10 none, Cond.methodLink RX3 85 yJ7_fill_53178, Cond.methodLink RX5 198 yX1_copy, Cond.methodLink RX5 116 yX5_endFeeding, Cond.instanceMethod yX5_endFeeding, Cond.selects RX5 yX5_endFeeding yX5_endFeeding, Cond.code yX5_endFeeding cX5_endFeeding 2 none, Cond.fieldLink RX5 79 "LimbCurves" "fedSlot" "I", Cond.fieldLink RX5 82 "LimbCurves" "fedLimbs" "I"]
def wsX5_reckon : List Cond := .code yX5_reckon cX5_reckon 5 (some .boolean) :: ((wsX5_reckon_r1 ++ (wsX5_reckon_r2 ++ (wsX5_reckon_r3 ++ (wsX5_reckon_r4 ++ (wsX5_reckon_r5 ++ wsX5_reckon_r6))))) ++ wsX50 ++ wsX30)
def wsX5_state : List Cond := .code yX5_state cX5_state 2 (some .int) :: ([.fieldLink RX5 18 "LimbCurves" "limbs" "I", .fieldLink RX5 75 "LimbCurves" "sealed" "Z", .fieldLink RX5 79 "LimbCurves" "fedSlot" "I", .fieldLink RX5 82 "LimbCurves" "fedLimbs" "I"] ++ wsX50)
def wsX6_init : List Cond := .code yX6_init cX6_init 2 none :: ([.methodLink RX6 1 objectInit, .instanceMethod objectInit, .code objectInit ⟨#[0xb1]⟩ 1 none, .arrayClass .int, .fieldLink RX6 7 "LimbCurvesModel" "slots" "[I", .arrayClass .boolean, .fieldLink RX6 13 "LimbCurvesModel" "isPair" "[Z", .fieldLink RX6 17 "LimbCurvesModel" "fed" "I", .fieldLink RX6 21 "LimbCurvesModel" "numbers" "[I", .fieldLink RX6 24 "LimbCurvesModel" "isNothing" "[Z", .fieldLink RX6 27 "LimbCurvesModel" "u" "[I", .fieldLink RX6 30 "LimbCurvesModel" "v" "[I", .fieldLink RX6 33 "LimbCurvesModel" "q" "[I", .fieldLink RX6 36 "LimbCurvesModel" "limbs" "I"] ++ wsX60)
def wsX6_isPoint : List Cond := .code yX6_isPoint cX6_isPoint 1 (some .boolean) :: ([])
def wsX6_isScalar : List Cond := .code yX6_isScalar cX6_isScalar 1 (some .boolean) :: ([])
def wsX6_limbsOf : List Cond := .code yX6_limbsOf cX6_limbsOf 2 (some .int) :: ([.fieldLink RX6 36 "LimbCurvesModel" "limbs" "I", .methodLink RX6 39 yX6_isPoint, .static yX6_isPoint, .initialized RX6, .code yX6_isPoint cX6_isPoint 1 (some .boolean)] ++ wsX60)
def wsX6_select : List Cond := .code yX6_select cX6_select 3 (some .boolean) :: ([.fieldLink RX6 43 "LimbCurvesModel" "sealed" "Z", .fieldLink RX6 7 "LimbCurvesModel" "slots" "[I", .fieldLink RX6 13 "LimbCurvesModel" "isPair" "[Z", .fieldLink RX6 17 "LimbCurvesModel" "fed" "I", .fieldLink RX6 47 "LimbCurvesModel" "fedLimbs" "I"] ++ wsX60)
def wsX6_stopFeeding : List Cond := .code yX6_stopFeeding cX6_stopFeeding 1 none :: ([.fieldLink RX6 17 "LimbCurvesModel" "fed" "I", .fieldLink RX6 47 "LimbCurvesModel" "fedLimbs" "I"] ++ wsX60)
def wsX6_feedLimb : List Cond := .code yX6_feedLimb cX6_feedLimb 2 (some .boolean) :: ([.fieldLink RX6 17 "LimbCurvesModel" "fed" "I", .fieldLink RX6 7 "LimbCurvesModel" "slots" "[I", .fieldLink RX6 47 "LimbCurvesModel" "fedLimbs" "I", .fieldLink RX6 13 "LimbCurvesModel" "isPair" "[Z", .methodLink RX6 39 yX6_isPoint, .static yX6_isPoint, .initialized RX6, .code yX6_isPoint cX6_isPoint 1 (some .boolean), .methodLink RX6 50 yX6_limbsOf, .instanceMethod yX6_limbsOf, .selects RX6 yX6_limbsOf yX6_limbsOf, .code yX6_limbsOf cX6_limbsOf 2 (some .int), .fieldLink RX6 36 "LimbCurvesModel" "limbs" "I", .methodLink RX6 54 yX6_stopFeeding, .instanceMethod yX6_stopFeeding, .selects RX6 yX6_stopFeeding yX6_stopFeeding, .code yX6_stopFeeding cX6_stopFeeding 1 none] ++ wsX60)
def wsX6_written : List Cond := .code yX6_written cX6_written 2 none :: ([.fieldLink RX6 17 "LimbCurvesModel" "fed" "I", .methodLink RX6 54 yX6_stopFeeding, .instanceMethod yX6_stopFeeding, .selects RX6 yX6_stopFeeding yX6_stopFeeding, .initialized RX6, .code yX6_stopFeeding cX6_stopFeeding 1 none, .fieldLink RX6 47 "LimbCurvesModel" "fedLimbs" "I"] ++ wsX60)
def wsX6_get : List Cond := .code yX6_get cX6_get 3 (some .int) :: ([.fieldLink RX6 21 "LimbCurvesModel" "numbers" "[I"] ++ wsX60)
def wsX6_set : List Cond := .code yX6_set cX6_set 4 none :: ([.fieldLink RX6 21 "LimbCurvesModel" "numbers" "[I"] ++ wsX60)
def wsX6_load : List Cond := .code yX6_load cX6_load 5 none :: ([.fieldLink RX6 36 "LimbCurvesModel" "limbs" "I", .fieldLink RX6 7 "LimbCurvesModel" "slots" "[I", .methodLink RX6 57 yX6_set, .instanceMethod yX6_set, .selects RX6 yX6_set yX6_set, .initialized RX6, .code yX6_set cX6_set 4 none, .fieldLink RX6 21 "LimbCurvesModel" "numbers" "[I"] ++ wsX60)
def wsX6_small : List Cond := .code yX6_small cX6_small 4 none :: ([.methodLink RX6 57 yX6_set, .instanceMethod yX6_set, .selects RX6 yX6_set yX6_set, .initialized RX6, .code yX6_set cX6_set 4 none, .fieldLink RX6 21 "LimbCurvesModel" "numbers" "[I"] ++ wsX60)
def wsX6_loadParameters : List Cond := .code yX6_loadParameters cX6_loadParameters 2 none :: ([.methodLink RX6 61 yX6_load, .instanceMethod yX6_load, .selects RX6 yX6_load yX6_load, .initialized RX6, .code yX6_load cX6_load 5 none, .fieldLink RX6 36 "LimbCurvesModel" "limbs" "I", .fieldLink RX6 7 "LimbCurvesModel" "slots" "[I", .methodLink RX6 57 yX6_set, .instanceMethod yX6_set, .selects RX6 yX6_set yX6_set, .code yX6_set cX6_set 4 none, .fieldLink RX6 21 "LimbCurvesModel" "numbers" "[I", .methodLink RX6 64 yX6_small, .instanceMethod yX6_small, .selects RX6 yX6_small yX6_small, .code yX6_small cX6_small 4 none] ++ wsX60)
def wsX6_copy : List Cond := .code yX6_copy cX6_copy 4 none :: ([.methodLink RX6 68 yX6_get, .instanceMethod yX6_get, .selects RX6 yX6_get yX6_get, .initialized RX6, .code yX6_get cX6_get 3 (some .int), .fieldLink RX6 21 "LimbCurvesModel" "numbers" "[I", .methodLink RX6 57 yX6_set, .instanceMethod yX6_set, .selects RX6 yX6_set yX6_set, .code yX6_set cX6_set 4 none] ++ wsX60)
def wsX6_compare : List Cond := .code yX6_compare cX6_compare 4 (some .int) :: ([.methodLink RX6 68 yX6_get, .instanceMethod yX6_get, .selects RX6 yX6_get yX6_get, .initialized RX6, .code yX6_get cX6_get 3 (some .int), .fieldLink RX6 21 "LimbCurvesModel" "numbers" "[I"] ++ wsX60)
def wsX6_isZero : List Cond := .code yX6_isZero cX6_isZero 4 (some .boolean) :: ([.methodLink RX6 68 yX6_get, .instanceMethod yX6_get, .selects RX6 yX6_get yX6_get, .initialized RX6, .code yX6_get cX6_get 3 (some .int), .fieldLink RX6 21 "LimbCurvesModel" "numbers" "[I"] ++ wsX60)
def wsX6_isOne : List Cond := .code yX6_isOne cX6_isOne 2 (some .boolean) :: ([.methodLink RX6 72 yX6_compare, .instanceMethod yX6_compare, .selects RX6 yX6_compare yX6_compare, .initialized RX6, .code yX6_compare cX6_compare 4 (some .int), .methodLink RX6 68 yX6_get, .instanceMethod yX6_get, .selects RX6 yX6_get yX6_get, .code yX6_get cX6_get 3 (some .int), .fieldLink RX6 21 "LimbCurvesModel" "numbers" "[I"] ++ wsX60)
def wsX6_plus : List Cond := .code yX6_plus cX6_plus 9 none :: ([.constantLong RX6 75 (2147483647), .methodLink RX6 68 yX6_get, .instanceMethod yX6_get, .selects RX6 yX6_get yX6_get, .initialized RX6, .code yX6_get cX6_get 3 (some .int), .fieldLink RX6 21 "LimbCurvesModel" "numbers" "[I", .methodLink RX6 57 yX6_set, .instanceMethod yX6_set, .selects RX6 yX6_set yX6_set, .code yX6_set cX6_set 4 none] ++ wsX60)
def wsX6_minus : List Cond := .code yX6_minus cX6_minus 9 none :: ([.constantLong RX6 77 (2147483648), .methodLink RX6 68 yX6_get, .instanceMethod yX6_get, .selects RX6 yX6_get yX6_get, .initialized RX6, .code yX6_get cX6_get 3 (some .int), .fieldLink RX6 21 "LimbCurvesModel" "numbers" "[I", .methodLink RX6 57 yX6_set, .instanceMethod yX6_set, .selects RX6 yX6_set yX6_set, .code yX6_set cX6_set 4 none] ++ wsX60)
def wsX6_halve : List Cond := .code yX6_halve cX6_halve 4 none :: ([.methodLink RX6 68 yX6_get, .instanceMethod yX6_get, .selects RX6 yX6_get yX6_get, .initialized RX6, .code yX6_get cX6_get 3 (some .int), .fieldLink RX6 21 "LimbCurvesModel" "numbers" "[I", .methodLink RX6 57 yX6_set, .instanceMethod yX6_set, .selects RX6 yX6_set yX6_set, .code yX6_set cX6_set 4 none] ++ wsX60)
def wsX6_isOdd : List Cond := .code yX6_isOdd cX6_isOdd 2 (some .boolean) :: ([.methodLink RX6 68 yX6_get, .instanceMethod yX6_get, .selects RX6 yX6_get yX6_get, .initialized RX6, .code yX6_get cX6_get 3 (some .int), .fieldLink RX6 21 "LimbCurvesModel" "numbers" "[I"] ++ wsX60)
def wsX6_length : List Cond := .code yX6_length cX6_length 3 (some .int) :: ([.methodLink RX6 68 yX6_get, .instanceMethod yX6_get, .selects RX6 yX6_get yX6_get, .initialized RX6, .code yX6_get cX6_get 3 (some .int), .fieldLink RX6 21 "LimbCurvesModel" "numbers" "[I"] ++ wsX60)
def wsX6_toU : List Cond := .code yX6_toU cX6_toU 3 none :: ([.fieldLink RX6 27 "LimbCurvesModel" "u" "[I", .fieldLink RX6 79 "LimbCurvesModel" "uSize" "I", .methodLink RX6 68 yX6_get, .instanceMethod yX6_get, .selects RX6 yX6_get yX6_get, .initialized RX6, .code yX6_get cX6_get 3 (some .int), .fieldLink RX6 21 "LimbCurvesModel" "numbers" "[I"] ++ wsX60)
def wsX6_productToU : List Cond := .code yX6_productToU cX6_productToU 9 none :: ([.fieldLink RX6 27 "LimbCurvesModel" "u" "[I", .constantLong RX6 75 (2147483647), .fieldLink RX6 79 "LimbCurvesModel" "uSize" "I", .methodLink RX6 68 yX6_get, .instanceMethod yX6_get, .selects RX6 yX6_get yX6_get, .initialized RX6, .code yX6_get cX6_get 3 (some .int), .fieldLink RX6 21 "LimbCurvesModel" "numbers" "[I"] ++ wsX60)
def wsX6_digit : List Cond := .code yX6_digit cX6_digit 21 (some .long) :: ([.fieldLink RX6 27 "LimbCurvesModel" "u" "[I", .fieldLink RX6 30 "LimbCurvesModel" "v" "[I", .constantLong RX6 77 (2147483648), .constantLong RX6 75 (2147483647)] ++ wsX60)
def wsX6_divide_r1 : List Cond := [Cond.constant RX6 85 (1073741824), Cond.fieldLink RX6 30 "LimbCurvesModel" "v" "[I", Cond.constantLong RX6 75 (2147483647), Cond.fieldLink RX6 33 "LimbCurvesModel" "q" "[I", Cond.fieldLink RX6 79 "LimbCurvesModel" "uSize" "I", Cond.fieldLink RX6 27 "LimbCurvesModel" "u" "[I", Cond.methodLink RX6 82 yX6_length, Cond.instanceMethod yX6_length, Cond.selects RX6 yX6_length yX6_length, Cond.initialized RX6, Cond.code yX6_length cX6_length 3 (some .int), Cond.methodLink RX6 68 yX6_get, Cond.instanceMethod yX6_get, Cond.selects RX6 yX6_get yX6_get, Cond.code yX6_get cX6_get 3 (some .int), Cond.fieldLink RX6 21 "LimbCurvesModel" "numbers" "[I", Cond.methodLink RX6 86 yX6_digit, Cond.instanceMethod yX6_digit, Cond.selects RX6 yX6_digit yX6_digit, Cond.code yX6_digit cX6_digit 21 (some .long), Cond.constantLong RX6 77 (2147483648), Cond.methodLink RX6 57 yX6_set, Cond.instanceMethod yX6_set, Cond.selects RX6 yX6_set yX6_set]
def wsX6_divide_r2 : List Cond := [Cond.code yX6_set cX6_set 4 none]
def wsX6_divide : List Cond := .code yX6_divide cX6_divide 8 none :: ((wsX6_divide_r1 ++ wsX6_divide_r2) ++ wsX60)
def wsX6_rest_r1 : List Cond := [Cond.methodLink RX6 90 yX6_toU, Cond.instanceMethod yX6_toU, Cond.selects RX6 yX6_toU yX6_toU, Cond.initialized RX6, Cond.code yX6_toU cX6_toU 3 none, Cond.fieldLink RX6 27 "LimbCurvesModel" "u" "[I", Cond.fieldLink RX6 79 "LimbCurvesModel" "uSize" "I", Cond.methodLink RX6 68 yX6_get, Cond.instanceMethod yX6_get, Cond.selects RX6 yX6_get yX6_get, Cond.code yX6_get cX6_get 3 (some .int), Cond.fieldLink RX6 21 "LimbCurvesModel" "numbers" "[I", Cond.methodLink RX6 94 yX6_divide, Cond.instanceMethod yX6_divide, Cond.selects RX6 yX6_divide yX6_divide, Cond.code yX6_divide cX6_divide 8 none, Cond.constant RX6 85 (1073741824), Cond.fieldLink RX6 30 "LimbCurvesModel" "v" "[I", Cond.constantLong RX6 75 (2147483647), Cond.fieldLink RX6 33 "LimbCurvesModel" "q" "[I", Cond.methodLink RX6 82 yX6_length, Cond.instanceMethod yX6_length, Cond.selects RX6 yX6_length yX6_length, Cond.code yX6_length cX6_length 3 (some .int)]
def wsX6_rest_r2 : List Cond := [Cond.methodLink RX6 86 yX6_digit, Cond.instanceMethod yX6_digit, Cond.selects RX6 yX6_digit yX6_digit, Cond.code yX6_digit cX6_digit 21 (some .long), Cond.constantLong RX6 77 (2147483648), Cond.methodLink RX6 57 yX6_set, Cond.instanceMethod yX6_set, Cond.selects RX6 yX6_set yX6_set, Cond.code yX6_set cX6_set 4 none]
def wsX6_rest : List Cond := .code yX6_rest cX6_rest 4 none :: ((wsX6_rest_r1 ++ wsX6_rest_r2) ++ wsX60)
def wsX6_times_r1 : List Cond := [Cond.methodLink RX6 97 yX6_productToU, Cond.instanceMethod yX6_productToU, Cond.selects RX6 yX6_productToU yX6_productToU, Cond.initialized RX6, Cond.code yX6_productToU cX6_productToU 9 none, Cond.fieldLink RX6 27 "LimbCurvesModel" "u" "[I", Cond.constantLong RX6 75 (2147483647), Cond.fieldLink RX6 79 "LimbCurvesModel" "uSize" "I", Cond.methodLink RX6 68 yX6_get, Cond.instanceMethod yX6_get, Cond.selects RX6 yX6_get yX6_get, Cond.code yX6_get cX6_get 3 (some .int), Cond.fieldLink RX6 21 "LimbCurvesModel" "numbers" "[I", Cond.methodLink RX6 94 yX6_divide, Cond.instanceMethod yX6_divide, Cond.selects RX6 yX6_divide yX6_divide, Cond.code yX6_divide cX6_divide 8 none, Cond.constant RX6 85 (1073741824), Cond.fieldLink RX6 30 "LimbCurvesModel" "v" "[I", Cond.fieldLink RX6 33 "LimbCurvesModel" "q" "[I", Cond.methodLink RX6 82 yX6_length, Cond.instanceMethod yX6_length, Cond.selects RX6 yX6_length yX6_length, Cond.code yX6_length cX6_length 3 (some .int)]
def wsX6_times_r2 : List Cond := [Cond.methodLink RX6 86 yX6_digit, Cond.instanceMethod yX6_digit, Cond.selects RX6 yX6_digit yX6_digit, Cond.code yX6_digit cX6_digit 21 (some .long), Cond.constantLong RX6 77 (2147483648), Cond.methodLink RX6 57 yX6_set, Cond.instanceMethod yX6_set, Cond.selects RX6 yX6_set yX6_set, Cond.code yX6_set cX6_set 4 none]
def wsX6_times : List Cond := .code yX6_times cX6_times 5 none :: ((wsX6_times_r1 ++ wsX6_times_r2) ++ wsX60)
def wsX6_sum : List Cond := .code yX6_sum cX6_sum 5 none :: ([.methodLink RX6 100 yX6_plus, .instanceMethod yX6_plus, .selects RX6 yX6_plus yX6_plus, .initialized RX6, .code yX6_plus cX6_plus 9 none, .constantLong RX6 75 (2147483647), .methodLink RX6 68 yX6_get, .instanceMethod yX6_get, .selects RX6 yX6_get yX6_get, .code yX6_get cX6_get 3 (some .int), .fieldLink RX6 21 "LimbCurvesModel" "numbers" "[I", .methodLink RX6 57 yX6_set, .instanceMethod yX6_set, .selects RX6 yX6_set yX6_set, .code yX6_set cX6_set 4 none, .methodLink RX6 72 yX6_compare, .instanceMethod yX6_compare, .selects RX6 yX6_compare yX6_compare, .code yX6_compare cX6_compare 4 (some .int), .methodLink RX6 103 yX6_minus, .instanceMethod yX6_minus, .selects RX6 yX6_minus yX6_minus, .code yX6_minus cX6_minus 9 none, .constantLong RX6 77 (2147483648)] ++ wsX60)
def wsX6_difference : List Cond := .code yX6_difference cX6_difference 5 none :: ([.methodLink RX6 72 yX6_compare, .instanceMethod yX6_compare, .selects RX6 yX6_compare yX6_compare, .initialized RX6, .code yX6_compare cX6_compare 4 (some .int), .methodLink RX6 68 yX6_get, .instanceMethod yX6_get, .selects RX6 yX6_get yX6_get, .code yX6_get cX6_get 3 (some .int), .fieldLink RX6 21 "LimbCurvesModel" "numbers" "[I", .methodLink RX6 103 yX6_minus, .instanceMethod yX6_minus, .selects RX6 yX6_minus yX6_minus, .code yX6_minus cX6_minus 9 none, .constantLong RX6 77 (2147483648), .methodLink RX6 57 yX6_set, .instanceMethod yX6_set, .selects RX6 yX6_set yX6_set, .code yX6_set cX6_set 4 none, .methodLink RX6 100 yX6_plus, .instanceMethod yX6_plus, .selects RX6 yX6_plus yX6_plus, .code yX6_plus cX6_plus 9 none, .constantLong RX6 75 (2147483647)] ++ wsX60)
def wsX6_halveModulo : List Cond := .code yX6_halveModulo cX6_halveModulo 3 none :: ([.methodLink RX6 106 yX6_isOdd, .instanceMethod yX6_isOdd, .selects RX6 yX6_isOdd yX6_isOdd, .initialized RX6, .code yX6_isOdd cX6_isOdd 2 (some .boolean), .methodLink RX6 68 yX6_get, .instanceMethod yX6_get, .selects RX6 yX6_get yX6_get, .code yX6_get cX6_get 3 (some .int), .fieldLink RX6 21 "LimbCurvesModel" "numbers" "[I", .methodLink RX6 100 yX6_plus, .instanceMethod yX6_plus, .selects RX6 yX6_plus yX6_plus, .code yX6_plus cX6_plus 9 none, .constantLong RX6 75 (2147483647), .methodLink RX6 57 yX6_set, .instanceMethod yX6_set, .selects RX6 yX6_set yX6_set, .code yX6_set cX6_set 4 none, .methodLink RX6 109 yX6_halve, .instanceMethod yX6_halve, .selects RX6 yX6_halve yX6_halve, .code yX6_halve cX6_halve 4 none] ++ wsX60)
def wsX6_inverseOdd_r1 : List Cond := [Cond.methodLink RX6 112 yX6_copy, Cond.instanceMethod yX6_copy, Cond.selects RX6 yX6_copy yX6_copy, Cond.initialized RX6, Cond.code yX6_copy cX6_copy 4 none, Cond.methodLink RX6 68 yX6_get, Cond.instanceMethod yX6_get, Cond.selects RX6 yX6_get yX6_get, Cond.code yX6_get cX6_get 3 (some .int), Cond.fieldLink RX6 21 "LimbCurvesModel" "numbers" "[I", Cond.methodLink RX6 57 yX6_set, Cond.instanceMethod yX6_set, Cond.selects RX6 yX6_set yX6_set, Cond.code yX6_set cX6_set 4 none, Cond.methodLink RX6 64 yX6_small, Cond.instanceMethod yX6_small, Cond.selects RX6 yX6_small yX6_small, Cond.code yX6_small cX6_small 4 none, Cond.methodLink RX6 115 yX6_isZero, Cond.instanceMethod yX6_isZero, Cond.selects RX6 yX6_isZero yX6_isZero, Cond.code yX6_isZero cX6_isZero 4 (some .boolean), Cond.methodLink RX6 118 yX6_isOne, Cond.instanceMethod yX6_isOne]
def wsX6_inverseOdd_r2 : List Cond := [Cond.selects RX6 yX6_isOne yX6_isOne, Cond.code yX6_isOne cX6_isOne 2 (some .boolean), Cond.methodLink RX6 72 yX6_compare, Cond.instanceMethod yX6_compare, Cond.selects RX6 yX6_compare yX6_compare, Cond.code yX6_compare cX6_compare 4 (some .int), Cond.methodLink RX6 106 yX6_isOdd, Cond.instanceMethod yX6_isOdd, Cond.selects RX6 yX6_isOdd yX6_isOdd, Cond.code yX6_isOdd cX6_isOdd 2 (some .boolean), Cond.methodLink RX6 109 yX6_halve, Cond.instanceMethod yX6_halve, Cond.selects RX6 yX6_halve yX6_halve, Cond.code yX6_halve cX6_halve 4 none, Cond.methodLink RX6 121 yX6_halveModulo, Cond.instanceMethod yX6_halveModulo, Cond.selects RX6 yX6_halveModulo yX6_halveModulo, Cond.code yX6_halveModulo cX6_halveModulo 3 none, Cond.methodLink RX6 100 yX6_plus, Cond.instanceMethod yX6_plus, Cond.selects RX6 yX6_plus yX6_plus, Cond.code yX6_plus cX6_plus 9 none, Cond.constantLong RX6 75 (2147483647), Cond.methodLink RX6 103 yX6_minus]
def wsX6_inverseOdd_r3 : List Cond := [Cond.instanceMethod yX6_minus, Cond.selects RX6 yX6_minus yX6_minus, Cond.code yX6_minus cX6_minus 9 none, Cond.constantLong RX6 77 (2147483648), Cond.methodLink RX6 124 yX6_difference, Cond.instanceMethod yX6_difference, Cond.selects RX6 yX6_difference yX6_difference, Cond.code yX6_difference cX6_difference 5 none]
def wsX6_inverseOdd : List Cond := .code yX6_inverseOdd cX6_inverseOdd 4 (some .boolean) :: ((wsX6_inverseOdd_r1 ++ (wsX6_inverseOdd_r2 ++ wsX6_inverseOdd_r3)) ++ wsX60)
def wsX6_inverse_r1 : List Cond := [Cond.fieldLink RX6 27 "LimbCurvesModel" "u" "[I", Cond.constantLong RX6 75 (2147483647), Cond.fieldLink RX6 33 "LimbCurvesModel" "q" "[I", Cond.methodLink RX6 118 yX6_isOne, Cond.instanceMethod yX6_isOne, Cond.selects RX6 yX6_isOne yX6_isOne, Cond.initialized RX6, Cond.code yX6_isOne cX6_isOne 2 (some .boolean), Cond.methodLink RX6 72 yX6_compare, Cond.instanceMethod yX6_compare, Cond.selects RX6 yX6_compare yX6_compare, Cond.code yX6_compare cX6_compare 4 (some .int), Cond.methodLink RX6 68 yX6_get, Cond.instanceMethod yX6_get, Cond.selects RX6 yX6_get yX6_get, Cond.code yX6_get cX6_get 3 (some .int), Cond.fieldLink RX6 21 "LimbCurvesModel" "numbers" "[I", Cond.methodLink RX6 64 yX6_small, Cond.instanceMethod yX6_small, Cond.selects RX6 yX6_small yX6_small, Cond.code yX6_small cX6_small 4 none, Cond.methodLink RX6 57 yX6_set, Cond.instanceMethod yX6_set, Cond.selects RX6 yX6_set yX6_set]
def wsX6_inverse_r2 : List Cond := [Cond.code yX6_set cX6_set 4 none, Cond.methodLink RX6 106 yX6_isOdd, Cond.instanceMethod yX6_isOdd, Cond.selects RX6 yX6_isOdd yX6_isOdd, Cond.code yX6_isOdd cX6_isOdd 2 (some .boolean), Cond.methodLink RX6 128 yX6_inverseOdd, Cond.instanceMethod yX6_inverseOdd, Cond.selects RX6 yX6_inverseOdd yX6_inverseOdd, Cond.code yX6_inverseOdd cX6_inverseOdd 4 (some .boolean), Cond.methodLink RX6 112 yX6_copy, Cond.instanceMethod yX6_copy, Cond.selects RX6 yX6_copy yX6_copy, Cond.code yX6_copy cX6_copy 4 none, Cond.methodLink RX6 115 yX6_isZero, Cond.instanceMethod yX6_isZero, Cond.selects RX6 yX6_isZero yX6_isZero, Cond.code yX6_isZero cX6_isZero 4 (some .boolean), Cond.methodLink RX6 109 yX6_halve, Cond.instanceMethod yX6_halve, Cond.selects RX6 yX6_halve yX6_halve, Cond.code yX6_halve cX6_halve 4 none, Cond.methodLink RX6 121 yX6_halveModulo, Cond.instanceMethod yX6_halveModulo, Cond.selects RX6 yX6_halveModulo yX6_halveModulo]
def wsX6_inverse_r3 : List Cond := [Cond.code yX6_halveModulo cX6_halveModulo 3 none, Cond.methodLink RX6 100 yX6_plus, Cond.instanceMethod yX6_plus, Cond.selects RX6 yX6_plus yX6_plus, Cond.code yX6_plus cX6_plus 9 none, Cond.methodLink RX6 103 yX6_minus, Cond.instanceMethod yX6_minus, Cond.selects RX6 yX6_minus yX6_minus, Cond.code yX6_minus cX6_minus 9 none, Cond.constantLong RX6 77 (2147483648), Cond.methodLink RX6 124 yX6_difference, Cond.instanceMethod yX6_difference, Cond.selects RX6 yX6_difference yX6_difference, Cond.code yX6_difference cX6_difference 5 none, Cond.methodLink RX6 132 yX6_rest, Cond.instanceMethod yX6_rest, Cond.selects RX6 yX6_rest yX6_rest, Cond.code yX6_rest cX6_rest 4 none, Cond.methodLink RX6 90 yX6_toU, Cond.instanceMethod yX6_toU, Cond.selects RX6 yX6_toU yX6_toU, Cond.code yX6_toU cX6_toU 3 none, Cond.fieldLink RX6 79 "LimbCurvesModel" "uSize" "I", Cond.methodLink RX6 94 yX6_divide]
def wsX6_inverse_r4 : List Cond := [Cond.instanceMethod yX6_divide, Cond.selects RX6 yX6_divide yX6_divide, Cond.code yX6_divide cX6_divide 8 none, Cond.constant RX6 85 (1073741824), Cond.fieldLink RX6 30 "LimbCurvesModel" "v" "[I", Cond.methodLink RX6 82 yX6_length, Cond.instanceMethod yX6_length, Cond.selects RX6 yX6_length yX6_length, Cond.code yX6_length cX6_length 3 (some .int), Cond.methodLink RX6 86 yX6_digit, Cond.instanceMethod yX6_digit, Cond.selects RX6 yX6_digit yX6_digit, Cond.code yX6_digit cX6_digit 21 (some .long), Cond.methodLink RX6 97 yX6_productToU, Cond.instanceMethod yX6_productToU, Cond.selects RX6 yX6_productToU yX6_productToU, Cond.code yX6_productToU cX6_productToU 9 none]
def wsX6_inverse : List Cond := .code yX6_inverse cX6_inverse 9 (some .boolean) :: ((wsX6_inverse_r1 ++ (wsX6_inverse_r2 ++ (wsX6_inverse_r3 ++ wsX6_inverse_r4))) ++ wsX60)
def wsX6_x : List Cond := .code yX6_x cX6_x 1 (some .int) :: ([])
def wsX6_y : List Cond := .code yX6_y cX6_y 1 (some .int) :: ([])
def wsX6_loadPoint : List Cond := .code yX6_loadPoint cX6_loadPoint 3 none :: ([.fieldLink RX6 24 "LimbCurvesModel" "isNothing" "[Z", .fieldLink RX6 13 "LimbCurvesModel" "isPair" "[Z", .fieldLink RX6 36 "LimbCurvesModel" "limbs" "I", .methodLink RX6 135 yX6_x, .static yX6_x, .initialized RX6, .code yX6_x cX6_x 1 (some .int), .methodLink RX6 61 yX6_load, .instanceMethod yX6_load, .selects RX6 yX6_load yX6_load, .code yX6_load cX6_load 5 none, .fieldLink RX6 7 "LimbCurvesModel" "slots" "[I", .methodLink RX6 57 yX6_set, .instanceMethod yX6_set, .selects RX6 yX6_set yX6_set, .code yX6_set cX6_set 4 none, .fieldLink RX6 21 "LimbCurvesModel" "numbers" "[I", .methodLink RX6 138 yX6_y, .static yX6_y, .code yX6_y cX6_y 1 (some .int)] ++ wsX60)
def wsX6_storePoint_r1 : List Cond := [Cond.fieldLink RX6 7 "LimbCurvesModel" "slots" "[I", Cond.fieldLink RX6 36 "LimbCurvesModel" "limbs" "I", Cond.fieldLink RX6 24 "LimbCurvesModel" "isNothing" "[Z", Cond.fieldLink RX6 13 "LimbCurvesModel" "isPair" "[Z", Cond.methodLink RX6 135 yX6_x, Cond.static yX6_x, Cond.initialized RX6, Cond.code yX6_x cX6_x 1 (some .int), Cond.methodLink RX6 68 yX6_get, Cond.instanceMethod yX6_get, Cond.selects RX6 yX6_get yX6_get, Cond.code yX6_get cX6_get 3 (some .int), Cond.fieldLink RX6 21 "LimbCurvesModel" "numbers" "[I", Cond.methodLink RX6 138 yX6_y, Cond.static yX6_y, Cond.code yX6_y cX6_y 1 (some .int), Cond.methodLink RX6 141 yX6_written, Cond.instanceMethod yX6_written, Cond.selects RX6 yX6_written yX6_written, Cond.code yX6_written cX6_written 2 none, Cond.fieldLink RX6 17 "LimbCurvesModel" "fed" "I", Cond.methodLink RX6 54 yX6_stopFeeding, Cond.instanceMethod yX6_stopFeeding, Cond.selects RX6 yX6_stopFeeding yX6_stopFeeding]
def wsX6_storePoint_r2 : List Cond := [Cond.code yX6_stopFeeding cX6_stopFeeding 1 none, Cond.fieldLink RX6 47 "LimbCurvesModel" "fedLimbs" "I"]
def wsX6_storePoint : List Cond := .code yX6_storePoint cX6_storePoint 4 none :: ((wsX6_storePoint_r1 ++ wsX6_storePoint_r2) ++ wsX60)
def wsX6_copyPoint : List Cond := .code yX6_copyPoint cX6_copyPoint 3 none :: ([.fieldLink RX6 24 "LimbCurvesModel" "isNothing" "[Z", .methodLink RX6 135 yX6_x, .static yX6_x, .initialized RX6, .code yX6_x cX6_x 1 (some .int), .methodLink RX6 112 yX6_copy, .instanceMethod yX6_copy, .selects RX6 yX6_copy yX6_copy, .code yX6_copy cX6_copy 4 none, .methodLink RX6 68 yX6_get, .instanceMethod yX6_get, .selects RX6 yX6_get yX6_get, .code yX6_get cX6_get 3 (some .int), .fieldLink RX6 21 "LimbCurvesModel" "numbers" "[I", .methodLink RX6 57 yX6_set, .instanceMethod yX6_set, .selects RX6 yX6_set yX6_set, .code yX6_set cX6_set 4 none, .methodLink RX6 138 yX6_y, .static yX6_y, .code yX6_y cX6_y 1 (some .int)] ++ wsX60)
def wsX6_isOn_r1 : List Cond := [Cond.fieldLink RX6 24 "LimbCurvesModel" "isNothing" "[Z", Cond.methodLink RX6 135 yX6_x, Cond.static yX6_x, Cond.initialized RX6, Cond.code yX6_x cX6_x 1 (some .int), Cond.methodLink RX6 72 yX6_compare, Cond.instanceMethod yX6_compare, Cond.selects RX6 yX6_compare yX6_compare, Cond.code yX6_compare cX6_compare 4 (some .int), Cond.methodLink RX6 68 yX6_get, Cond.instanceMethod yX6_get, Cond.selects RX6 yX6_get yX6_get, Cond.code yX6_get cX6_get 3 (some .int), Cond.fieldLink RX6 21 "LimbCurvesModel" "numbers" "[I", Cond.methodLink RX6 138 yX6_y, Cond.static yX6_y, Cond.code yX6_y cX6_y 1 (some .int), Cond.methodLink RX6 144 yX6_times, Cond.instanceMethod yX6_times, Cond.selects RX6 yX6_times yX6_times, Cond.code yX6_times cX6_times 5 none, Cond.methodLink RX6 97 yX6_productToU, Cond.instanceMethod yX6_productToU, Cond.selects RX6 yX6_productToU yX6_productToU]
def wsX6_isOn_r2 : List Cond := [Cond.code yX6_productToU cX6_productToU 9 none, Cond.fieldLink RX6 27 "LimbCurvesModel" "u" "[I", Cond.constantLong RX6 75 (2147483647), Cond.fieldLink RX6 79 "LimbCurvesModel" "uSize" "I", Cond.methodLink RX6 94 yX6_divide, Cond.instanceMethod yX6_divide, Cond.selects RX6 yX6_divide yX6_divide, Cond.code yX6_divide cX6_divide 8 none, Cond.constant RX6 85 (1073741824), Cond.fieldLink RX6 30 "LimbCurvesModel" "v" "[I", Cond.fieldLink RX6 33 "LimbCurvesModel" "q" "[I", Cond.methodLink RX6 82 yX6_length, Cond.instanceMethod yX6_length, Cond.selects RX6 yX6_length yX6_length, Cond.code yX6_length cX6_length 3 (some .int), Cond.methodLink RX6 86 yX6_digit, Cond.instanceMethod yX6_digit, Cond.selects RX6 yX6_digit yX6_digit, Cond.code yX6_digit cX6_digit 21 (some .long), Cond.constantLong RX6 77 (2147483648), Cond.methodLink RX6 57 yX6_set, Cond.instanceMethod yX6_set, Cond.selects RX6 yX6_set yX6_set, Cond.code yX6_set cX6_set 4 none]
def wsX6_isOn_r3 : List Cond := [Cond.methodLink RX6 147 yX6_sum, Cond.instanceMethod yX6_sum, Cond.selects RX6 yX6_sum yX6_sum, Cond.code yX6_sum cX6_sum 5 none, Cond.methodLink RX6 100 yX6_plus, Cond.instanceMethod yX6_plus, Cond.selects RX6 yX6_plus yX6_plus, Cond.code yX6_plus cX6_plus 9 none, Cond.methodLink RX6 103 yX6_minus, Cond.instanceMethod yX6_minus, Cond.selects RX6 yX6_minus yX6_minus, Cond.code yX6_minus cX6_minus 9 none]
def wsX6_isOn : List Cond := .code yX6_isOn cX6_isOn 2 (some .boolean) :: ((wsX6_isOn_r1 ++ (wsX6_isOn_r2 ++ wsX6_isOn_r3)) ++ wsX60)
def wsX6_sumPoints_r1 : List Cond := [Cond.fieldLink RX6 24 "LimbCurvesModel" "isNothing" "[Z", Cond.methodLink RX6 150 yX6_copyPoint, Cond.instanceMethod yX6_copyPoint, Cond.selects RX6 yX6_copyPoint yX6_copyPoint, Cond.initialized RX6, Cond.code yX6_copyPoint cX6_copyPoint 3 none, Cond.methodLink RX6 135 yX6_x, Cond.static yX6_x, Cond.code yX6_x cX6_x 1 (some .int), Cond.methodLink RX6 112 yX6_copy, Cond.instanceMethod yX6_copy, Cond.selects RX6 yX6_copy yX6_copy, Cond.code yX6_copy cX6_copy 4 none, Cond.methodLink RX6 68 yX6_get, Cond.instanceMethod yX6_get, Cond.selects RX6 yX6_get yX6_get, Cond.code yX6_get cX6_get 3 (some .int), Cond.fieldLink RX6 21 "LimbCurvesModel" "numbers" "[I", Cond.methodLink RX6 57 yX6_set, Cond.instanceMethod yX6_set, Cond.selects RX6 yX6_set yX6_set, Cond.code yX6_set cX6_set 4 none, Cond.methodLink RX6 138 yX6_y, Cond.static yX6_y]
def wsX6_sumPoints_r2 : List Cond := [Cond.code yX6_y cX6_y 1 (some .int), Cond.methodLink RX6 72 yX6_compare, Cond.instanceMethod yX6_compare, Cond.selects RX6 yX6_compare yX6_compare, Cond.code yX6_compare cX6_compare 4 (some .int), Cond.methodLink RX6 147 yX6_sum, Cond.instanceMethod yX6_sum, Cond.selects RX6 yX6_sum yX6_sum, Cond.code yX6_sum cX6_sum 5 none, Cond.methodLink RX6 100 yX6_plus, Cond.instanceMethod yX6_plus, Cond.selects RX6 yX6_plus yX6_plus, Cond.code yX6_plus cX6_plus 9 none, Cond.constantLong RX6 75 (2147483647), Cond.methodLink RX6 103 yX6_minus, Cond.instanceMethod yX6_minus, Cond.selects RX6 yX6_minus yX6_minus, Cond.code yX6_minus cX6_minus 9 none, Cond.constantLong RX6 77 (2147483648), Cond.methodLink RX6 115 yX6_isZero, Cond.instanceMethod yX6_isZero, Cond.selects RX6 yX6_isZero yX6_isZero, Cond.code yX6_isZero cX6_isZero 4 (some .boolean), Cond.methodLink RX6 144 yX6_times]
def wsX6_sumPoints_r3 : List Cond := [Cond.instanceMethod yX6_times, Cond.selects RX6 yX6_times yX6_times, Cond.code yX6_times cX6_times 5 none, Cond.methodLink RX6 97 yX6_productToU, Cond.instanceMethod yX6_productToU, Cond.selects RX6 yX6_productToU yX6_productToU, Cond.code yX6_productToU cX6_productToU 9 none, Cond.fieldLink RX6 27 "LimbCurvesModel" "u" "[I", Cond.fieldLink RX6 79 "LimbCurvesModel" "uSize" "I", Cond.methodLink RX6 94 yX6_divide, Cond.instanceMethod yX6_divide, Cond.selects RX6 yX6_divide yX6_divide, Cond.code yX6_divide cX6_divide 8 none, Cond.constant RX6 85 (1073741824), Cond.fieldLink RX6 30 "LimbCurvesModel" "v" "[I", Cond.fieldLink RX6 33 "LimbCurvesModel" "q" "[I", Cond.methodLink RX6 82 yX6_length, Cond.instanceMethod yX6_length, Cond.selects RX6 yX6_length yX6_length, Cond.code yX6_length cX6_length 3 (some .int), Cond.methodLink RX6 86 yX6_digit, Cond.instanceMethod yX6_digit, Cond.selects RX6 yX6_digit yX6_digit, Cond.code yX6_digit cX6_digit 21 (some .long)]
def wsX6_sumPoints_r4 : List Cond := [Cond.methodLink RX6 124 yX6_difference, Cond.instanceMethod yX6_difference, Cond.selects RX6 yX6_difference yX6_difference, Cond.code yX6_difference cX6_difference 5 none, Cond.methodLink RX6 128 yX6_inverseOdd, Cond.instanceMethod yX6_inverseOdd, Cond.selects RX6 yX6_inverseOdd yX6_inverseOdd, Cond.code yX6_inverseOdd cX6_inverseOdd 4 (some .boolean), Cond.methodLink RX6 64 yX6_small, Cond.instanceMethod yX6_small, Cond.selects RX6 yX6_small yX6_small, Cond.code yX6_small cX6_small 4 none, Cond.methodLink RX6 118 yX6_isOne, Cond.instanceMethod yX6_isOne, Cond.selects RX6 yX6_isOne yX6_isOne, Cond.code yX6_isOne cX6_isOne 2 (some .boolean), Cond.methodLink RX6 106 yX6_isOdd, Cond.instanceMethod yX6_isOdd, Cond.selects RX6 yX6_isOdd yX6_isOdd, Cond.code yX6_isOdd cX6_isOdd 2 (some .boolean), Cond.methodLink RX6 109 yX6_halve, Cond.instanceMethod yX6_halve, Cond.selects RX6 yX6_halve yX6_halve, Cond.code yX6_halve cX6_halve 4 none]
def wsX6_sumPoints_r5 : List Cond := [Cond.methodLink RX6 121 yX6_halveModulo, Cond.instanceMethod yX6_halveModulo, Cond.selects RX6 yX6_halveModulo yX6_halveModulo, Cond.code yX6_halveModulo cX6_halveModulo 3 none]
def wsX6_sumPoints : List Cond := .code yX6_sumPoints cX6_sumPoints 4 (some .boolean) :: ((wsX6_sumPoints_r1 ++ (wsX6_sumPoints_r2 ++ (wsX6_sumPoints_r3 ++ (wsX6_sumPoints_r4 ++ wsX6_sumPoints_r5)))) ++ wsX60)
def wsX6_multiply_r1 : List Cond := [Cond.fieldLink RX6 24 "LimbCurvesModel" "isNothing" "[Z", Cond.methodLink RX6 68 yX6_get, Cond.instanceMethod yX6_get, Cond.selects RX6 yX6_get yX6_get, Cond.initialized RX6, Cond.code yX6_get cX6_get 3 (some .int), Cond.fieldLink RX6 21 "LimbCurvesModel" "numbers" "[I", Cond.methodLink RX6 153 yX6_sumPoints, Cond.instanceMethod yX6_sumPoints, Cond.selects RX6 yX6_sumPoints yX6_sumPoints, Cond.code yX6_sumPoints cX6_sumPoints 4 (some .boolean), Cond.methodLink RX6 150 yX6_copyPoint, Cond.instanceMethod yX6_copyPoint, Cond.selects RX6 yX6_copyPoint yX6_copyPoint, Cond.code yX6_copyPoint cX6_copyPoint 3 none, Cond.methodLink RX6 135 yX6_x, Cond.static yX6_x, Cond.code yX6_x cX6_x 1 (some .int), Cond.methodLink RX6 112 yX6_copy, Cond.instanceMethod yX6_copy, Cond.selects RX6 yX6_copy yX6_copy, Cond.code yX6_copy cX6_copy 4 none, Cond.methodLink RX6 57 yX6_set, Cond.instanceMethod yX6_set]
def wsX6_multiply_r2 : List Cond := [Cond.selects RX6 yX6_set yX6_set, Cond.code yX6_set cX6_set 4 none, Cond.methodLink RX6 138 yX6_y, Cond.static yX6_y, Cond.code yX6_y cX6_y 1 (some .int), Cond.methodLink RX6 72 yX6_compare, Cond.instanceMethod yX6_compare, Cond.selects RX6 yX6_compare yX6_compare, Cond.code yX6_compare cX6_compare 4 (some .int), Cond.methodLink RX6 147 yX6_sum, Cond.instanceMethod yX6_sum, Cond.selects RX6 yX6_sum yX6_sum, Cond.code yX6_sum cX6_sum 5 none, Cond.methodLink RX6 100 yX6_plus, Cond.instanceMethod yX6_plus, Cond.selects RX6 yX6_plus yX6_plus, Cond.code yX6_plus cX6_plus 9 none, Cond.constantLong RX6 75 (2147483647), Cond.methodLink RX6 103 yX6_minus, Cond.instanceMethod yX6_minus, Cond.selects RX6 yX6_minus yX6_minus, Cond.code yX6_minus cX6_minus 9 none, Cond.constantLong RX6 77 (2147483648), Cond.methodLink RX6 115 yX6_isZero]
def wsX6_multiply_r3 : List Cond := [Cond.instanceMethod yX6_isZero, Cond.selects RX6 yX6_isZero yX6_isZero, Cond.code yX6_isZero cX6_isZero 4 (some .boolean), Cond.methodLink RX6 144 yX6_times, Cond.instanceMethod yX6_times, Cond.selects RX6 yX6_times yX6_times, Cond.code yX6_times cX6_times 5 none, Cond.methodLink RX6 97 yX6_productToU, Cond.instanceMethod yX6_productToU, Cond.selects RX6 yX6_productToU yX6_productToU, Cond.code yX6_productToU cX6_productToU 9 none, Cond.fieldLink RX6 27 "LimbCurvesModel" "u" "[I", Cond.fieldLink RX6 79 "LimbCurvesModel" "uSize" "I", Cond.methodLink RX6 94 yX6_divide, Cond.instanceMethod yX6_divide, Cond.selects RX6 yX6_divide yX6_divide, Cond.code yX6_divide cX6_divide 8 none, Cond.constant RX6 85 (1073741824), Cond.fieldLink RX6 30 "LimbCurvesModel" "v" "[I", Cond.fieldLink RX6 33 "LimbCurvesModel" "q" "[I", Cond.methodLink RX6 82 yX6_length, Cond.instanceMethod yX6_length, Cond.selects RX6 yX6_length yX6_length, Cond.code yX6_length cX6_length 3 (some .int)]
def wsX6_multiply_r4 : List Cond := [Cond.methodLink RX6 86 yX6_digit, Cond.instanceMethod yX6_digit, Cond.selects RX6 yX6_digit yX6_digit, Cond.code yX6_digit cX6_digit 21 (some .long), Cond.methodLink RX6 124 yX6_difference, Cond.instanceMethod yX6_difference, Cond.selects RX6 yX6_difference yX6_difference, Cond.code yX6_difference cX6_difference 5 none, Cond.methodLink RX6 128 yX6_inverseOdd, Cond.instanceMethod yX6_inverseOdd, Cond.selects RX6 yX6_inverseOdd yX6_inverseOdd, Cond.code yX6_inverseOdd cX6_inverseOdd 4 (some .boolean), Cond.methodLink RX6 64 yX6_small, Cond.instanceMethod yX6_small, Cond.selects RX6 yX6_small yX6_small, Cond.code yX6_small cX6_small 4 none, Cond.methodLink RX6 118 yX6_isOne, Cond.instanceMethod yX6_isOne, Cond.selects RX6 yX6_isOne yX6_isOne, Cond.code yX6_isOne cX6_isOne 2 (some .boolean), Cond.methodLink RX6 106 yX6_isOdd, Cond.instanceMethod yX6_isOdd, Cond.selects RX6 yX6_isOdd yX6_isOdd, Cond.code yX6_isOdd cX6_isOdd 2 (some .boolean)]
def wsX6_multiply_r5 : List Cond := [Cond.methodLink RX6 109 yX6_halve, Cond.instanceMethod yX6_halve, Cond.selects RX6 yX6_halve yX6_halve, Cond.code yX6_halve cX6_halve 4 none, Cond.methodLink RX6 121 yX6_halveModulo, Cond.instanceMethod yX6_halveModulo, Cond.selects RX6 yX6_halveModulo yX6_halveModulo, Cond.code yX6_halveModulo cX6_halveModulo 3 none]
def wsX6_multiply : List Cond := .code yX6_multiply cX6_multiply 7 (some .boolean) :: ((wsX6_multiply_r1 ++ (wsX6_multiply_r2 ++ (wsX6_multiply_r3 ++ (wsX6_multiply_r4 ++ wsX6_multiply_r5)))) ++ wsX60)
def wsX6_seal_r1 : List Cond := [Cond.fieldLink RX6 43 "LimbCurvesModel" "sealed" "Z", Cond.fieldLink RX6 17 "LimbCurvesModel" "fed" "I", Cond.methodLink RX6 156 yX6_loadParameters, Cond.instanceMethod yX6_loadParameters, Cond.selects RX6 yX6_loadParameters yX6_loadParameters, Cond.initialized RX6, Cond.code yX6_loadParameters cX6_loadParameters 2 none, Cond.methodLink RX6 61 yX6_load, Cond.instanceMethod yX6_load, Cond.selects RX6 yX6_load yX6_load, Cond.code yX6_load cX6_load 5 none, Cond.fieldLink RX6 36 "LimbCurvesModel" "limbs" "I", Cond.fieldLink RX6 7 "LimbCurvesModel" "slots" "[I", Cond.methodLink RX6 57 yX6_set, Cond.instanceMethod yX6_set, Cond.selects RX6 yX6_set yX6_set, Cond.code yX6_set cX6_set 4 none, Cond.fieldLink RX6 21 "LimbCurvesModel" "numbers" "[I", Cond.methodLink RX6 64 yX6_small, Cond.instanceMethod yX6_small, Cond.selects RX6 yX6_small yX6_small, Cond.code yX6_small cX6_small 4 none, Cond.methodLink RX6 106 yX6_isOdd, Cond.instanceMethod yX6_isOdd]
def wsX6_seal_r2 : List Cond := [Cond.selects RX6 yX6_isOdd yX6_isOdd, Cond.code yX6_isOdd cX6_isOdd 2 (some .boolean), Cond.methodLink RX6 68 yX6_get, Cond.instanceMethod yX6_get, Cond.selects RX6 yX6_get yX6_get, Cond.code yX6_get cX6_get 3 (some .int), Cond.methodLink RX6 72 yX6_compare, Cond.instanceMethod yX6_compare, Cond.selects RX6 yX6_compare yX6_compare, Cond.code yX6_compare cX6_compare 4 (some .int), Cond.methodLink RX6 144 yX6_times, Cond.instanceMethod yX6_times, Cond.selects RX6 yX6_times yX6_times, Cond.code yX6_times cX6_times 5 none, Cond.methodLink RX6 97 yX6_productToU, Cond.instanceMethod yX6_productToU, Cond.selects RX6 yX6_productToU yX6_productToU, Cond.code yX6_productToU cX6_productToU 9 none, Cond.fieldLink RX6 27 "LimbCurvesModel" "u" "[I", Cond.constantLong RX6 75 (2147483647), Cond.fieldLink RX6 79 "LimbCurvesModel" "uSize" "I", Cond.methodLink RX6 94 yX6_divide, Cond.instanceMethod yX6_divide, Cond.selects RX6 yX6_divide yX6_divide]
def wsX6_seal_r3 : List Cond := [Cond.code yX6_divide cX6_divide 8 none, Cond.constant RX6 85 (1073741824), Cond.fieldLink RX6 30 "LimbCurvesModel" "v" "[I", Cond.fieldLink RX6 33 "LimbCurvesModel" "q" "[I", Cond.methodLink RX6 82 yX6_length, Cond.instanceMethod yX6_length, Cond.selects RX6 yX6_length yX6_length, Cond.code yX6_length cX6_length 3 (some .int), Cond.methodLink RX6 86 yX6_digit, Cond.instanceMethod yX6_digit, Cond.selects RX6 yX6_digit yX6_digit, Cond.code yX6_digit cX6_digit 21 (some .long), Cond.constantLong RX6 77 (2147483648), Cond.methodLink RX6 147 yX6_sum, Cond.instanceMethod yX6_sum, Cond.selects RX6 yX6_sum yX6_sum, Cond.code yX6_sum cX6_sum 5 none, Cond.methodLink RX6 100 yX6_plus, Cond.instanceMethod yX6_plus, Cond.selects RX6 yX6_plus yX6_plus, Cond.code yX6_plus cX6_plus 9 none, Cond.methodLink RX6 103 yX6_minus, Cond.instanceMethod yX6_minus, Cond.selects RX6 yX6_minus yX6_minus]
def wsX6_seal_r4 : List Cond := [Cond.code yX6_minus cX6_minus 9 none, Cond.methodLink RX6 115 yX6_isZero, Cond.instanceMethod yX6_isZero, Cond.selects RX6 yX6_isZero yX6_isZero, Cond.code yX6_isZero cX6_isZero 4 (some .boolean), Cond.methodLink RX6 54 yX6_stopFeeding, Cond.instanceMethod yX6_stopFeeding, Cond.selects RX6 yX6_stopFeeding yX6_stopFeeding, Cond.code yX6_stopFeeding cX6_stopFeeding 1 none, Cond.fieldLink RX6 47 "LimbCurvesModel" "fedLimbs" "I"]
def wsX6_seal : List Cond := .code yX6_seal cX6_seal 1 (some .int) :: ((wsX6_seal_r1 ++ (wsX6_seal_r2 ++ (wsX6_seal_r3 ++ wsX6_seal_r4))) ++ wsX60)
def wsX6_open : List Cond := .code yX6_open cX6_open 2 (some .boolean) :: ([.fieldLink RX6 43 "LimbCurvesModel" "sealed" "Z"] ++ wsX60)
def wsX6_limb : List Cond := .code yX6_limb cX6_limb 3 (some .int) :: ([.fieldLink RX6 7 "LimbCurvesModel" "slots" "[I", .methodLink RX6 50 yX6_limbsOf, .instanceMethod yX6_limbsOf, .selects RX6 yX6_limbsOf yX6_limbsOf, .initialized RX6, .code yX6_limbsOf cX6_limbsOf 2 (some .int), .fieldLink RX6 36 "LimbCurvesModel" "limbs" "I", .methodLink RX6 39 yX6_isPoint, .static yX6_isPoint, .code yX6_isPoint cX6_isPoint 1 (some .boolean)] ++ wsX60)
def wsX6_isGood_r1 : List Cond := [Cond.fieldLink RX6 43 "LimbCurvesModel" "sealed" "Z", Cond.methodLink RX6 39 yX6_isPoint, Cond.static yX6_isPoint, Cond.initialized RX6, Cond.code yX6_isPoint cX6_isPoint 1 (some .boolean), Cond.methodLink RX6 156 yX6_loadParameters, Cond.instanceMethod yX6_loadParameters, Cond.selects RX6 yX6_loadParameters yX6_loadParameters, Cond.code yX6_loadParameters cX6_loadParameters 2 none, Cond.methodLink RX6 61 yX6_load, Cond.instanceMethod yX6_load, Cond.selects RX6 yX6_load yX6_load, Cond.code yX6_load cX6_load 5 none, Cond.fieldLink RX6 36 "LimbCurvesModel" "limbs" "I", Cond.fieldLink RX6 7 "LimbCurvesModel" "slots" "[I", Cond.methodLink RX6 57 yX6_set, Cond.instanceMethod yX6_set, Cond.selects RX6 yX6_set yX6_set, Cond.code yX6_set cX6_set 4 none, Cond.fieldLink RX6 21 "LimbCurvesModel" "numbers" "[I", Cond.methodLink RX6 64 yX6_small, Cond.instanceMethod yX6_small, Cond.selects RX6 yX6_small yX6_small, Cond.code yX6_small cX6_small 4 none]
def wsX6_isGood_r2 : List Cond := [Cond.methodLink RX6 159 yX6_loadPoint, Cond.instanceMethod yX6_loadPoint, Cond.selects RX6 yX6_loadPoint yX6_loadPoint, Cond.code yX6_loadPoint cX6_loadPoint 3 none, Cond.fieldLink RX6 24 "LimbCurvesModel" "isNothing" "[Z", Cond.fieldLink RX6 13 "LimbCurvesModel" "isPair" "[Z", Cond.methodLink RX6 135 yX6_x, Cond.static yX6_x, Cond.code yX6_x cX6_x 1 (some .int), Cond.methodLink RX6 138 yX6_y, Cond.static yX6_y, Cond.code yX6_y cX6_y 1 (some .int), Cond.methodLink RX6 162 yX6_isOn, Cond.instanceMethod yX6_isOn, Cond.selects RX6 yX6_isOn yX6_isOn, Cond.code yX6_isOn cX6_isOn 2 (some .boolean), Cond.methodLink RX6 72 yX6_compare, Cond.instanceMethod yX6_compare, Cond.selects RX6 yX6_compare yX6_compare, Cond.code yX6_compare cX6_compare 4 (some .int), Cond.methodLink RX6 68 yX6_get, Cond.instanceMethod yX6_get, Cond.selects RX6 yX6_get yX6_get, Cond.code yX6_get cX6_get 3 (some .int)]
def wsX6_isGood_r3 : List Cond := [Cond.methodLink RX6 144 yX6_times, Cond.instanceMethod yX6_times, Cond.selects RX6 yX6_times yX6_times, Cond.code yX6_times cX6_times 5 none, Cond.methodLink RX6 97 yX6_productToU, Cond.instanceMethod yX6_productToU, Cond.selects RX6 yX6_productToU yX6_productToU, Cond.code yX6_productToU cX6_productToU 9 none, Cond.fieldLink RX6 27 "LimbCurvesModel" "u" "[I", Cond.constantLong RX6 75 (2147483647), Cond.fieldLink RX6 79 "LimbCurvesModel" "uSize" "I", Cond.methodLink RX6 94 yX6_divide, Cond.instanceMethod yX6_divide, Cond.selects RX6 yX6_divide yX6_divide, Cond.code yX6_divide cX6_divide 8 none, Cond.constant RX6 85 (1073741824), Cond.fieldLink RX6 30 "LimbCurvesModel" "v" "[I", Cond.fieldLink RX6 33 "LimbCurvesModel" "q" "[I", Cond.methodLink RX6 82 yX6_length, Cond.instanceMethod yX6_length, Cond.selects RX6 yX6_length yX6_length, Cond.code yX6_length cX6_length 3 (some .int), Cond.methodLink RX6 86 yX6_digit, Cond.instanceMethod yX6_digit]
def wsX6_isGood_r4 : List Cond := [Cond.selects RX6 yX6_digit yX6_digit, Cond.code yX6_digit cX6_digit 21 (some .long), Cond.constantLong RX6 77 (2147483648), Cond.methodLink RX6 147 yX6_sum, Cond.instanceMethod yX6_sum, Cond.selects RX6 yX6_sum yX6_sum, Cond.code yX6_sum cX6_sum 5 none, Cond.methodLink RX6 100 yX6_plus, Cond.instanceMethod yX6_plus, Cond.selects RX6 yX6_plus yX6_plus, Cond.code yX6_plus cX6_plus 9 none, Cond.methodLink RX6 103 yX6_minus, Cond.instanceMethod yX6_minus, Cond.selects RX6 yX6_minus yX6_minus, Cond.code yX6_minus cX6_minus 9 none]
def wsX6_isGood : List Cond := .code yX6_isGood cX6_isGood 3 (some .boolean) :: ((wsX6_isGood_r1 ++ (wsX6_isGood_r2 ++ (wsX6_isGood_r3 ++ wsX6_isGood_r4))) ++ wsX60)
def wsX6_onCurve_r1 : List Cond := [Cond.methodLink RX6 165 yX6_isGood, Cond.instanceMethod yX6_isGood, Cond.selects RX6 yX6_isGood yX6_isGood, Cond.initialized RX6, Cond.code yX6_isGood cX6_isGood 3 (some .boolean), Cond.fieldLink RX6 43 "LimbCurvesModel" "sealed" "Z", Cond.methodLink RX6 39 yX6_isPoint, Cond.static yX6_isPoint, Cond.code yX6_isPoint cX6_isPoint 1 (some .boolean), Cond.methodLink RX6 156 yX6_loadParameters, Cond.instanceMethod yX6_loadParameters, Cond.selects RX6 yX6_loadParameters yX6_loadParameters, Cond.code yX6_loadParameters cX6_loadParameters 2 none, Cond.methodLink RX6 61 yX6_load, Cond.instanceMethod yX6_load, Cond.selects RX6 yX6_load yX6_load, Cond.code yX6_load cX6_load 5 none, Cond.fieldLink RX6 36 "LimbCurvesModel" "limbs" "I", Cond.fieldLink RX6 7 "LimbCurvesModel" "slots" "[I", Cond.methodLink RX6 57 yX6_set, Cond.instanceMethod yX6_set, Cond.selects RX6 yX6_set yX6_set, Cond.code yX6_set cX6_set 4 none, Cond.fieldLink RX6 21 "LimbCurvesModel" "numbers" "[I"]
def wsX6_onCurve_r2 : List Cond := [Cond.methodLink RX6 64 yX6_small, Cond.instanceMethod yX6_small, Cond.selects RX6 yX6_small yX6_small, Cond.code yX6_small cX6_small 4 none, Cond.methodLink RX6 159 yX6_loadPoint, Cond.instanceMethod yX6_loadPoint, Cond.selects RX6 yX6_loadPoint yX6_loadPoint, Cond.code yX6_loadPoint cX6_loadPoint 3 none, Cond.fieldLink RX6 24 "LimbCurvesModel" "isNothing" "[Z", Cond.fieldLink RX6 13 "LimbCurvesModel" "isPair" "[Z", Cond.methodLink RX6 135 yX6_x, Cond.static yX6_x, Cond.code yX6_x cX6_x 1 (some .int), Cond.methodLink RX6 138 yX6_y, Cond.static yX6_y, Cond.code yX6_y cX6_y 1 (some .int), Cond.methodLink RX6 162 yX6_isOn, Cond.instanceMethod yX6_isOn, Cond.selects RX6 yX6_isOn yX6_isOn, Cond.code yX6_isOn cX6_isOn 2 (some .boolean), Cond.methodLink RX6 72 yX6_compare, Cond.instanceMethod yX6_compare, Cond.selects RX6 yX6_compare yX6_compare, Cond.code yX6_compare cX6_compare 4 (some .int)]
def wsX6_onCurve_r3 : List Cond := [Cond.methodLink RX6 68 yX6_get, Cond.instanceMethod yX6_get, Cond.selects RX6 yX6_get yX6_get, Cond.code yX6_get cX6_get 3 (some .int), Cond.methodLink RX6 144 yX6_times, Cond.instanceMethod yX6_times, Cond.selects RX6 yX6_times yX6_times, Cond.code yX6_times cX6_times 5 none, Cond.methodLink RX6 97 yX6_productToU, Cond.instanceMethod yX6_productToU, Cond.selects RX6 yX6_productToU yX6_productToU, Cond.code yX6_productToU cX6_productToU 9 none, Cond.fieldLink RX6 27 "LimbCurvesModel" "u" "[I", Cond.constantLong RX6 75 (2147483647), Cond.fieldLink RX6 79 "LimbCurvesModel" "uSize" "I", Cond.methodLink RX6 94 yX6_divide, Cond.instanceMethod yX6_divide, Cond.selects RX6 yX6_divide yX6_divide, Cond.code yX6_divide cX6_divide 8 none, Cond.constant RX6 85 (1073741824), Cond.fieldLink RX6 30 "LimbCurvesModel" "v" "[I", Cond.fieldLink RX6 33 "LimbCurvesModel" "q" "[I", Cond.methodLink RX6 82 yX6_length, Cond.instanceMethod yX6_length]
def wsX6_onCurve_r4 : List Cond := [Cond.selects RX6 yX6_length yX6_length, Cond.code yX6_length cX6_length 3 (some .int), Cond.methodLink RX6 86 yX6_digit, Cond.instanceMethod yX6_digit, Cond.selects RX6 yX6_digit yX6_digit, Cond.code yX6_digit cX6_digit 21 (some .long), Cond.constantLong RX6 77 (2147483648), Cond.methodLink RX6 147 yX6_sum, Cond.instanceMethod yX6_sum, Cond.selects RX6 yX6_sum yX6_sum, Cond.code yX6_sum cX6_sum 5 none, Cond.methodLink RX6 100 yX6_plus, Cond.instanceMethod yX6_plus, Cond.selects RX6 yX6_plus yX6_plus, Cond.code yX6_plus cX6_plus 9 none, Cond.methodLink RX6 103 yX6_minus, Cond.instanceMethod yX6_minus, Cond.selects RX6 yX6_minus yX6_minus, Cond.code yX6_minus cX6_minus 9 none]
def wsX6_onCurve : List Cond := .code yX6_onCurve cX6_onCurve 2 (some .boolean) :: ((wsX6_onCurve_r1 ++ (wsX6_onCurve_r2 ++ (wsX6_onCurve_r3 ++ wsX6_onCurve_r4))) ++ wsX60)
def wsX6_isInfinity : List Cond := .code yX6_isInfinity cX6_isInfinity 2 (some .boolean) :: ([.fieldLink RX6 13 "LimbCurvesModel" "isPair" "[Z", .methodLink RX6 39 yX6_isPoint, .static yX6_isPoint, .initialized RX6, .code yX6_isPoint cX6_isPoint 1 (some .boolean)] ++ wsX60)
def wsX6_addPts_r1 : List Cond := [Cond.methodLink RX6 39 yX6_isPoint, Cond.static yX6_isPoint, Cond.initialized RX6, Cond.code yX6_isPoint cX6_isPoint 1 (some .boolean), Cond.methodLink RX6 165 yX6_isGood, Cond.instanceMethod yX6_isGood, Cond.selects RX6 yX6_isGood yX6_isGood, Cond.code yX6_isGood cX6_isGood 3 (some .boolean), Cond.fieldLink RX6 43 "LimbCurvesModel" "sealed" "Z", Cond.methodLink RX6 156 yX6_loadParameters, Cond.instanceMethod yX6_loadParameters, Cond.selects RX6 yX6_loadParameters yX6_loadParameters, Cond.code yX6_loadParameters cX6_loadParameters 2 none, Cond.methodLink RX6 61 yX6_load, Cond.instanceMethod yX6_load, Cond.selects RX6 yX6_load yX6_load, Cond.code yX6_load cX6_load 5 none, Cond.fieldLink RX6 36 "LimbCurvesModel" "limbs" "I", Cond.fieldLink RX6 7 "LimbCurvesModel" "slots" "[I", Cond.methodLink RX6 57 yX6_set, Cond.instanceMethod yX6_set, Cond.selects RX6 yX6_set yX6_set, Cond.code yX6_set cX6_set 4 none, Cond.fieldLink RX6 21 "LimbCurvesModel" "numbers" "[I"]
def wsX6_addPts_r2 : List Cond := [Cond.methodLink RX6 64 yX6_small, Cond.instanceMethod yX6_small, Cond.selects RX6 yX6_small yX6_small, Cond.code yX6_small cX6_small 4 none, Cond.methodLink RX6 159 yX6_loadPoint, Cond.instanceMethod yX6_loadPoint, Cond.selects RX6 yX6_loadPoint yX6_loadPoint, Cond.code yX6_loadPoint cX6_loadPoint 3 none, Cond.fieldLink RX6 24 "LimbCurvesModel" "isNothing" "[Z", Cond.fieldLink RX6 13 "LimbCurvesModel" "isPair" "[Z", Cond.methodLink RX6 135 yX6_x, Cond.static yX6_x, Cond.code yX6_x cX6_x 1 (some .int), Cond.methodLink RX6 138 yX6_y, Cond.static yX6_y, Cond.code yX6_y cX6_y 1 (some .int), Cond.methodLink RX6 162 yX6_isOn, Cond.instanceMethod yX6_isOn, Cond.selects RX6 yX6_isOn yX6_isOn, Cond.code yX6_isOn cX6_isOn 2 (some .boolean), Cond.methodLink RX6 72 yX6_compare, Cond.instanceMethod yX6_compare, Cond.selects RX6 yX6_compare yX6_compare, Cond.code yX6_compare cX6_compare 4 (some .int)]
def wsX6_addPts_r3 : List Cond := [Cond.methodLink RX6 68 yX6_get, Cond.instanceMethod yX6_get, Cond.selects RX6 yX6_get yX6_get, Cond.code yX6_get cX6_get 3 (some .int), Cond.methodLink RX6 144 yX6_times, Cond.instanceMethod yX6_times, Cond.selects RX6 yX6_times yX6_times, Cond.code yX6_times cX6_times 5 none, Cond.methodLink RX6 97 yX6_productToU, Cond.instanceMethod yX6_productToU, Cond.selects RX6 yX6_productToU yX6_productToU, Cond.code yX6_productToU cX6_productToU 9 none, Cond.fieldLink RX6 27 "LimbCurvesModel" "u" "[I", Cond.constantLong RX6 75 (2147483647), Cond.fieldLink RX6 79 "LimbCurvesModel" "uSize" "I", Cond.methodLink RX6 94 yX6_divide, Cond.instanceMethod yX6_divide, Cond.selects RX6 yX6_divide yX6_divide, Cond.code yX6_divide cX6_divide 8 none, Cond.constant RX6 85 (1073741824), Cond.fieldLink RX6 30 "LimbCurvesModel" "v" "[I", Cond.fieldLink RX6 33 "LimbCurvesModel" "q" "[I", Cond.methodLink RX6 82 yX6_length, Cond.instanceMethod yX6_length]
def wsX6_addPts_r4 : List Cond := [Cond.selects RX6 yX6_length yX6_length, Cond.code yX6_length cX6_length 3 (some .int), Cond.methodLink RX6 86 yX6_digit, Cond.instanceMethod yX6_digit, Cond.selects RX6 yX6_digit yX6_digit, Cond.code yX6_digit cX6_digit 21 (some .long), Cond.constantLong RX6 77 (2147483648), Cond.methodLink RX6 147 yX6_sum, Cond.instanceMethod yX6_sum, Cond.selects RX6 yX6_sum yX6_sum, Cond.code yX6_sum cX6_sum 5 none, Cond.methodLink RX6 100 yX6_plus, Cond.instanceMethod yX6_plus, Cond.selects RX6 yX6_plus yX6_plus, Cond.code yX6_plus cX6_plus 9 none, Cond.methodLink RX6 103 yX6_minus, Cond.instanceMethod yX6_minus, Cond.selects RX6 yX6_minus yX6_minus, Cond.code yX6_minus cX6_minus 9 none, Cond.methodLink RX6 153 yX6_sumPoints, Cond.instanceMethod yX6_sumPoints, Cond.selects RX6 yX6_sumPoints yX6_sumPoints, Cond.code yX6_sumPoints cX6_sumPoints 4 (some .boolean), Cond.methodLink RX6 150 yX6_copyPoint]
def wsX6_addPts_r5 : List Cond := [Cond.instanceMethod yX6_copyPoint, Cond.selects RX6 yX6_copyPoint yX6_copyPoint, Cond.code yX6_copyPoint cX6_copyPoint 3 none, Cond.methodLink RX6 112 yX6_copy, Cond.instanceMethod yX6_copy, Cond.selects RX6 yX6_copy yX6_copy, Cond.code yX6_copy cX6_copy 4 none, Cond.methodLink RX6 115 yX6_isZero, Cond.instanceMethod yX6_isZero, Cond.selects RX6 yX6_isZero yX6_isZero, Cond.code yX6_isZero cX6_isZero 4 (some .boolean), Cond.methodLink RX6 124 yX6_difference, Cond.instanceMethod yX6_difference, Cond.selects RX6 yX6_difference yX6_difference, Cond.code yX6_difference cX6_difference 5 none, Cond.methodLink RX6 128 yX6_inverseOdd, Cond.instanceMethod yX6_inverseOdd, Cond.selects RX6 yX6_inverseOdd yX6_inverseOdd, Cond.code yX6_inverseOdd cX6_inverseOdd 4 (some .boolean), Cond.methodLink RX6 118 yX6_isOne, Cond.instanceMethod yX6_isOne, Cond.selects RX6 yX6_isOne yX6_isOne, Cond.code yX6_isOne cX6_isOne 2 (some .boolean), Cond.methodLink RX6 106 yX6_isOdd]
def wsX6_addPts_r6 : List Cond := [Cond.instanceMethod yX6_isOdd, Cond.selects RX6 yX6_isOdd yX6_isOdd, Cond.code yX6_isOdd cX6_isOdd 2 (some .boolean), Cond.methodLink RX6 109 yX6_halve, Cond.instanceMethod yX6_halve, Cond.selects RX6 yX6_halve yX6_halve, Cond.code yX6_halve cX6_halve 4 none, Cond.methodLink RX6 121 yX6_halveModulo, Cond.instanceMethod yX6_halveModulo, Cond.selects RX6 yX6_halveModulo yX6_halveModulo, Cond.code yX6_halveModulo cX6_halveModulo 3 none, Cond.methodLink RX6 169 yX6_storePoint, Cond.instanceMethod yX6_storePoint, Cond.selects RX6 yX6_storePoint yX6_storePoint, Cond.code yX6_storePoint cX6_storePoint 4 none, Cond.methodLink RX6 141 yX6_written, Cond.instanceMethod yX6_written, Cond.selects RX6 yX6_written yX6_written, Cond.code yX6_written cX6_written 2 none, Cond.fieldLink RX6 17 "LimbCurvesModel" "fed" "I", Cond.methodLink RX6 54 yX6_stopFeeding, Cond.instanceMethod yX6_stopFeeding, Cond.selects RX6 yX6_stopFeeding yX6_stopFeeding, Cond.code yX6_stopFeeding cX6_stopFeeding 1 none]
def wsX6_addPts_r7 : List Cond := [Cond.fieldLink RX6 47 "LimbCurvesModel" "fedLimbs" "I"]
def wsX6_addPts : List Cond := .code yX6_addPts cX6_addPts 5 (some .boolean) :: ((wsX6_addPts_r1 ++ (wsX6_addPts_r2 ++ (wsX6_addPts_r3 ++ (wsX6_addPts_r4 ++ (wsX6_addPts_r5 ++ (wsX6_addPts_r6 ++ wsX6_addPts_r7)))))) ++ wsX60)
def wsX6_dbl_r1 : List Cond := [Cond.methodLink RX6 172 yX6_addPts, Cond.instanceMethod yX6_addPts, Cond.selects RX6 yX6_addPts yX6_addPts, Cond.initialized RX6, Cond.code yX6_addPts cX6_addPts 5 (some .boolean), Cond.methodLink RX6 39 yX6_isPoint, Cond.static yX6_isPoint, Cond.code yX6_isPoint cX6_isPoint 1 (some .boolean), Cond.methodLink RX6 165 yX6_isGood, Cond.instanceMethod yX6_isGood, Cond.selects RX6 yX6_isGood yX6_isGood, Cond.code yX6_isGood cX6_isGood 3 (some .boolean), Cond.fieldLink RX6 43 "LimbCurvesModel" "sealed" "Z", Cond.methodLink RX6 156 yX6_loadParameters, Cond.instanceMethod yX6_loadParameters, Cond.selects RX6 yX6_loadParameters yX6_loadParameters, Cond.code yX6_loadParameters cX6_loadParameters 2 none, Cond.methodLink RX6 61 yX6_load, Cond.instanceMethod yX6_load, Cond.selects RX6 yX6_load yX6_load, Cond.code yX6_load cX6_load 5 none, Cond.fieldLink RX6 36 "LimbCurvesModel" "limbs" "I", Cond.fieldLink RX6 7 "LimbCurvesModel" "slots" "[I", Cond.methodLink RX6 57 yX6_set]
def wsX6_dbl_r2 : List Cond := [Cond.instanceMethod yX6_set, Cond.selects RX6 yX6_set yX6_set, Cond.code yX6_set cX6_set 4 none, Cond.fieldLink RX6 21 "LimbCurvesModel" "numbers" "[I", Cond.methodLink RX6 64 yX6_small, Cond.instanceMethod yX6_small, Cond.selects RX6 yX6_small yX6_small, Cond.code yX6_small cX6_small 4 none, Cond.methodLink RX6 159 yX6_loadPoint, Cond.instanceMethod yX6_loadPoint, Cond.selects RX6 yX6_loadPoint yX6_loadPoint, Cond.code yX6_loadPoint cX6_loadPoint 3 none, Cond.fieldLink RX6 24 "LimbCurvesModel" "isNothing" "[Z", Cond.fieldLink RX6 13 "LimbCurvesModel" "isPair" "[Z", Cond.methodLink RX6 135 yX6_x, Cond.static yX6_x, Cond.code yX6_x cX6_x 1 (some .int), Cond.methodLink RX6 138 yX6_y, Cond.static yX6_y, Cond.code yX6_y cX6_y 1 (some .int), Cond.methodLink RX6 162 yX6_isOn, Cond.instanceMethod yX6_isOn, Cond.selects RX6 yX6_isOn yX6_isOn, Cond.code yX6_isOn cX6_isOn 2 (some .boolean)]
def wsX6_dbl_r3 : List Cond := [Cond.methodLink RX6 72 yX6_compare, Cond.instanceMethod yX6_compare, Cond.selects RX6 yX6_compare yX6_compare, Cond.code yX6_compare cX6_compare 4 (some .int), Cond.methodLink RX6 68 yX6_get, Cond.instanceMethod yX6_get, Cond.selects RX6 yX6_get yX6_get, Cond.code yX6_get cX6_get 3 (some .int), Cond.methodLink RX6 144 yX6_times, Cond.instanceMethod yX6_times, Cond.selects RX6 yX6_times yX6_times, Cond.code yX6_times cX6_times 5 none, Cond.methodLink RX6 97 yX6_productToU, Cond.instanceMethod yX6_productToU, Cond.selects RX6 yX6_productToU yX6_productToU, Cond.code yX6_productToU cX6_productToU 9 none, Cond.fieldLink RX6 27 "LimbCurvesModel" "u" "[I", Cond.constantLong RX6 75 (2147483647), Cond.fieldLink RX6 79 "LimbCurvesModel" "uSize" "I", Cond.methodLink RX6 94 yX6_divide, Cond.instanceMethod yX6_divide, Cond.selects RX6 yX6_divide yX6_divide, Cond.code yX6_divide cX6_divide 8 none, Cond.constant RX6 85 (1073741824)]
def wsX6_dbl_r4 : List Cond := [Cond.fieldLink RX6 30 "LimbCurvesModel" "v" "[I", Cond.fieldLink RX6 33 "LimbCurvesModel" "q" "[I", Cond.methodLink RX6 82 yX6_length, Cond.instanceMethod yX6_length, Cond.selects RX6 yX6_length yX6_length, Cond.code yX6_length cX6_length 3 (some .int), Cond.methodLink RX6 86 yX6_digit, Cond.instanceMethod yX6_digit, Cond.selects RX6 yX6_digit yX6_digit, Cond.code yX6_digit cX6_digit 21 (some .long), Cond.constantLong RX6 77 (2147483648), Cond.methodLink RX6 147 yX6_sum, Cond.instanceMethod yX6_sum, Cond.selects RX6 yX6_sum yX6_sum, Cond.code yX6_sum cX6_sum 5 none, Cond.methodLink RX6 100 yX6_plus, Cond.instanceMethod yX6_plus, Cond.selects RX6 yX6_plus yX6_plus, Cond.code yX6_plus cX6_plus 9 none, Cond.methodLink RX6 103 yX6_minus, Cond.instanceMethod yX6_minus, Cond.selects RX6 yX6_minus yX6_minus, Cond.code yX6_minus cX6_minus 9 none, Cond.methodLink RX6 153 yX6_sumPoints]
def wsX6_dbl_r5 : List Cond := [Cond.instanceMethod yX6_sumPoints, Cond.selects RX6 yX6_sumPoints yX6_sumPoints, Cond.code yX6_sumPoints cX6_sumPoints 4 (some .boolean), Cond.methodLink RX6 150 yX6_copyPoint, Cond.instanceMethod yX6_copyPoint, Cond.selects RX6 yX6_copyPoint yX6_copyPoint, Cond.code yX6_copyPoint cX6_copyPoint 3 none, Cond.methodLink RX6 112 yX6_copy, Cond.instanceMethod yX6_copy, Cond.selects RX6 yX6_copy yX6_copy, Cond.code yX6_copy cX6_copy 4 none, Cond.methodLink RX6 115 yX6_isZero, Cond.instanceMethod yX6_isZero, Cond.selects RX6 yX6_isZero yX6_isZero, Cond.code yX6_isZero cX6_isZero 4 (some .boolean), Cond.methodLink RX6 124 yX6_difference, Cond.instanceMethod yX6_difference, Cond.selects RX6 yX6_difference yX6_difference, Cond.code yX6_difference cX6_difference 5 none, Cond.methodLink RX6 128 yX6_inverseOdd, Cond.instanceMethod yX6_inverseOdd, Cond.selects RX6 yX6_inverseOdd yX6_inverseOdd, Cond.code yX6_inverseOdd cX6_inverseOdd 4 (some .boolean), Cond.methodLink RX6 118 yX6_isOne]
def wsX6_dbl_r6 : List Cond := [Cond.instanceMethod yX6_isOne, Cond.selects RX6 yX6_isOne yX6_isOne, Cond.code yX6_isOne cX6_isOne 2 (some .boolean), Cond.methodLink RX6 106 yX6_isOdd, Cond.instanceMethod yX6_isOdd, Cond.selects RX6 yX6_isOdd yX6_isOdd, Cond.code yX6_isOdd cX6_isOdd 2 (some .boolean), Cond.methodLink RX6 109 yX6_halve, Cond.instanceMethod yX6_halve, Cond.selects RX6 yX6_halve yX6_halve, Cond.code yX6_halve cX6_halve 4 none, Cond.methodLink RX6 121 yX6_halveModulo, Cond.instanceMethod yX6_halveModulo, Cond.selects RX6 yX6_halveModulo yX6_halveModulo, Cond.code yX6_halveModulo cX6_halveModulo 3 none, Cond.methodLink RX6 169 yX6_storePoint, Cond.instanceMethod yX6_storePoint, Cond.selects RX6 yX6_storePoint yX6_storePoint, Cond.code yX6_storePoint cX6_storePoint 4 none, Cond.methodLink RX6 141 yX6_written, Cond.instanceMethod yX6_written, Cond.selects RX6 yX6_written yX6_written, Cond.code yX6_written cX6_written 2 none, Cond.fieldLink RX6 17 "LimbCurvesModel" "fed" "I"]
def wsX6_dbl_r7 : List Cond := [Cond.methodLink RX6 54 yX6_stopFeeding, Cond.instanceMethod yX6_stopFeeding, Cond.selects RX6 yX6_stopFeeding yX6_stopFeeding, Cond.code yX6_stopFeeding cX6_stopFeeding 1 none, Cond.fieldLink RX6 47 "LimbCurvesModel" "fedLimbs" "I"]
def wsX6_dbl : List Cond := .code yX6_dbl cX6_dbl 3 (some .boolean) :: ((wsX6_dbl_r1 ++ (wsX6_dbl_r2 ++ (wsX6_dbl_r3 ++ (wsX6_dbl_r4 ++ (wsX6_dbl_r5 ++ (wsX6_dbl_r6 ++ wsX6_dbl_r7)))))) ++ wsX60)
def wsX6_scalarMul_r1 : List Cond := [Cond.methodLink RX6 39 yX6_isPoint, Cond.static yX6_isPoint, Cond.initialized RX6, Cond.code yX6_isPoint cX6_isPoint 1 (some .boolean), Cond.methodLink RX6 175 yX6_isScalar, Cond.static yX6_isScalar, Cond.code yX6_isScalar cX6_isScalar 1 (some .boolean), Cond.methodLink RX6 165 yX6_isGood, Cond.instanceMethod yX6_isGood, Cond.selects RX6 yX6_isGood yX6_isGood, Cond.code yX6_isGood cX6_isGood 3 (some .boolean), Cond.fieldLink RX6 43 "LimbCurvesModel" "sealed" "Z", Cond.methodLink RX6 156 yX6_loadParameters, Cond.instanceMethod yX6_loadParameters, Cond.selects RX6 yX6_loadParameters yX6_loadParameters, Cond.code yX6_loadParameters cX6_loadParameters 2 none, Cond.methodLink RX6 61 yX6_load, Cond.instanceMethod yX6_load, Cond.selects RX6 yX6_load yX6_load, Cond.code yX6_load cX6_load 5 none, Cond.fieldLink RX6 36 "LimbCurvesModel" "limbs" "I", Cond.fieldLink RX6 7 "LimbCurvesModel" "slots" "[I", Cond.methodLink RX6 57 yX6_set, Cond.instanceMethod yX6_set]
def wsX6_scalarMul_r2 : List Cond := [Cond.selects RX6 yX6_set yX6_set, Cond.code yX6_set cX6_set 4 none, Cond.fieldLink RX6 21 "LimbCurvesModel" "numbers" "[I", Cond.methodLink RX6 64 yX6_small, Cond.instanceMethod yX6_small, Cond.selects RX6 yX6_small yX6_small, Cond.code yX6_small cX6_small 4 none, Cond.methodLink RX6 159 yX6_loadPoint, Cond.instanceMethod yX6_loadPoint, Cond.selects RX6 yX6_loadPoint yX6_loadPoint, Cond.code yX6_loadPoint cX6_loadPoint 3 none, Cond.fieldLink RX6 24 "LimbCurvesModel" "isNothing" "[Z", Cond.fieldLink RX6 13 "LimbCurvesModel" "isPair" "[Z", Cond.methodLink RX6 135 yX6_x, Cond.static yX6_x, Cond.code yX6_x cX6_x 1 (some .int), Cond.methodLink RX6 138 yX6_y, Cond.static yX6_y, Cond.code yX6_y cX6_y 1 (some .int), Cond.methodLink RX6 162 yX6_isOn, Cond.instanceMethod yX6_isOn, Cond.selects RX6 yX6_isOn yX6_isOn, Cond.code yX6_isOn cX6_isOn 2 (some .boolean), Cond.methodLink RX6 72 yX6_compare]
def wsX6_scalarMul_r3 : List Cond := [Cond.instanceMethod yX6_compare, Cond.selects RX6 yX6_compare yX6_compare, Cond.code yX6_compare cX6_compare 4 (some .int), Cond.methodLink RX6 68 yX6_get, Cond.instanceMethod yX6_get, Cond.selects RX6 yX6_get yX6_get, Cond.code yX6_get cX6_get 3 (some .int), Cond.methodLink RX6 144 yX6_times, Cond.instanceMethod yX6_times, Cond.selects RX6 yX6_times yX6_times, Cond.code yX6_times cX6_times 5 none, Cond.methodLink RX6 97 yX6_productToU, Cond.instanceMethod yX6_productToU, Cond.selects RX6 yX6_productToU yX6_productToU, Cond.code yX6_productToU cX6_productToU 9 none, Cond.fieldLink RX6 27 "LimbCurvesModel" "u" "[I", Cond.constantLong RX6 75 (2147483647), Cond.fieldLink RX6 79 "LimbCurvesModel" "uSize" "I", Cond.methodLink RX6 94 yX6_divide, Cond.instanceMethod yX6_divide, Cond.selects RX6 yX6_divide yX6_divide, Cond.code yX6_divide cX6_divide 8 none, Cond.constant RX6 85 (1073741824), Cond.fieldLink RX6 30 "LimbCurvesModel" "v" "[I"]
def wsX6_scalarMul_r4 : List Cond := [Cond.fieldLink RX6 33 "LimbCurvesModel" "q" "[I", Cond.methodLink RX6 82 yX6_length, Cond.instanceMethod yX6_length, Cond.selects RX6 yX6_length yX6_length, Cond.code yX6_length cX6_length 3 (some .int), Cond.methodLink RX6 86 yX6_digit, Cond.instanceMethod yX6_digit, Cond.selects RX6 yX6_digit yX6_digit, Cond.code yX6_digit cX6_digit 21 (some .long), Cond.constantLong RX6 77 (2147483648), Cond.methodLink RX6 147 yX6_sum, Cond.instanceMethod yX6_sum, Cond.selects RX6 yX6_sum yX6_sum, Cond.code yX6_sum cX6_sum 5 none, Cond.methodLink RX6 100 yX6_plus, Cond.instanceMethod yX6_plus, Cond.selects RX6 yX6_plus yX6_plus, Cond.code yX6_plus cX6_plus 9 none, Cond.methodLink RX6 103 yX6_minus, Cond.instanceMethod yX6_minus, Cond.selects RX6 yX6_minus yX6_minus, Cond.code yX6_minus cX6_minus 9 none, Cond.methodLink RX6 178 yX6_multiply, Cond.instanceMethod yX6_multiply]
def wsX6_scalarMul_r5 : List Cond := [Cond.selects RX6 yX6_multiply yX6_multiply, Cond.code yX6_multiply cX6_multiply 7 (some .boolean), Cond.methodLink RX6 153 yX6_sumPoints, Cond.instanceMethod yX6_sumPoints, Cond.selects RX6 yX6_sumPoints yX6_sumPoints, Cond.code yX6_sumPoints cX6_sumPoints 4 (some .boolean), Cond.methodLink RX6 150 yX6_copyPoint, Cond.instanceMethod yX6_copyPoint, Cond.selects RX6 yX6_copyPoint yX6_copyPoint, Cond.code yX6_copyPoint cX6_copyPoint 3 none, Cond.methodLink RX6 112 yX6_copy, Cond.instanceMethod yX6_copy, Cond.selects RX6 yX6_copy yX6_copy, Cond.code yX6_copy cX6_copy 4 none, Cond.methodLink RX6 115 yX6_isZero, Cond.instanceMethod yX6_isZero, Cond.selects RX6 yX6_isZero yX6_isZero, Cond.code yX6_isZero cX6_isZero 4 (some .boolean), Cond.methodLink RX6 124 yX6_difference, Cond.instanceMethod yX6_difference, Cond.selects RX6 yX6_difference yX6_difference, Cond.code yX6_difference cX6_difference 5 none, Cond.methodLink RX6 128 yX6_inverseOdd, Cond.instanceMethod yX6_inverseOdd]
def wsX6_scalarMul_r6 : List Cond := [Cond.selects RX6 yX6_inverseOdd yX6_inverseOdd, Cond.code yX6_inverseOdd cX6_inverseOdd 4 (some .boolean), Cond.methodLink RX6 118 yX6_isOne, Cond.instanceMethod yX6_isOne, Cond.selects RX6 yX6_isOne yX6_isOne, Cond.code yX6_isOne cX6_isOne 2 (some .boolean), Cond.methodLink RX6 106 yX6_isOdd, Cond.instanceMethod yX6_isOdd, Cond.selects RX6 yX6_isOdd yX6_isOdd, Cond.code yX6_isOdd cX6_isOdd 2 (some .boolean), Cond.methodLink RX6 109 yX6_halve, Cond.instanceMethod yX6_halve, Cond.selects RX6 yX6_halve yX6_halve, Cond.code yX6_halve cX6_halve 4 none, Cond.methodLink RX6 121 yX6_halveModulo, Cond.instanceMethod yX6_halveModulo, Cond.selects RX6 yX6_halveModulo yX6_halveModulo, Cond.code yX6_halveModulo cX6_halveModulo 3 none, Cond.methodLink RX6 169 yX6_storePoint, Cond.instanceMethod yX6_storePoint, Cond.selects RX6 yX6_storePoint yX6_storePoint, Cond.code yX6_storePoint cX6_storePoint 4 none, Cond.methodLink RX6 141 yX6_written, Cond.instanceMethod yX6_written]
def wsX6_scalarMul_r7 : List Cond := [Cond.selects RX6 yX6_written yX6_written, Cond.code yX6_written cX6_written 2 none, Cond.fieldLink RX6 17 "LimbCurvesModel" "fed" "I", Cond.methodLink RX6 54 yX6_stopFeeding, Cond.instanceMethod yX6_stopFeeding, Cond.selects RX6 yX6_stopFeeding yX6_stopFeeding, Cond.code yX6_stopFeeding cX6_stopFeeding 1 none, Cond.fieldLink RX6 47 "LimbCurvesModel" "fedLimbs" "I"]
def wsX6_scalarMul : List Cond := .code yX6_scalarMul cX6_scalarMul 5 (some .boolean) :: ((wsX6_scalarMul_r1 ++ (wsX6_scalarMul_r2 ++ (wsX6_scalarMul_r3 ++ (wsX6_scalarMul_r4 ++ (wsX6_scalarMul_r5 ++ (wsX6_scalarMul_r6 ++ wsX6_scalarMul_r7)))))) ++ wsX60)
def wsX6_negate_r1 : List Cond := [Cond.fieldLink RX6 24 "LimbCurvesModel" "isNothing" "[Z", Cond.methodLink RX6 39 yX6_isPoint, Cond.static yX6_isPoint, Cond.initialized RX6, Cond.code yX6_isPoint cX6_isPoint 1 (some .boolean), Cond.methodLink RX6 165 yX6_isGood, Cond.instanceMethod yX6_isGood, Cond.selects RX6 yX6_isGood yX6_isGood, Cond.code yX6_isGood cX6_isGood 3 (some .boolean), Cond.fieldLink RX6 43 "LimbCurvesModel" "sealed" "Z", Cond.methodLink RX6 156 yX6_loadParameters, Cond.instanceMethod yX6_loadParameters, Cond.selects RX6 yX6_loadParameters yX6_loadParameters, Cond.code yX6_loadParameters cX6_loadParameters 2 none, Cond.methodLink RX6 61 yX6_load, Cond.instanceMethod yX6_load, Cond.selects RX6 yX6_load yX6_load, Cond.code yX6_load cX6_load 5 none, Cond.fieldLink RX6 36 "LimbCurvesModel" "limbs" "I", Cond.fieldLink RX6 7 "LimbCurvesModel" "slots" "[I", Cond.methodLink RX6 57 yX6_set, Cond.instanceMethod yX6_set, Cond.selects RX6 yX6_set yX6_set, Cond.code yX6_set cX6_set 4 none]
def wsX6_negate_r2 : List Cond := [Cond.fieldLink RX6 21 "LimbCurvesModel" "numbers" "[I", Cond.methodLink RX6 64 yX6_small, Cond.instanceMethod yX6_small, Cond.selects RX6 yX6_small yX6_small, Cond.code yX6_small cX6_small 4 none, Cond.methodLink RX6 159 yX6_loadPoint, Cond.instanceMethod yX6_loadPoint, Cond.selects RX6 yX6_loadPoint yX6_loadPoint, Cond.code yX6_loadPoint cX6_loadPoint 3 none, Cond.fieldLink RX6 13 "LimbCurvesModel" "isPair" "[Z", Cond.methodLink RX6 135 yX6_x, Cond.static yX6_x, Cond.code yX6_x cX6_x 1 (some .int), Cond.methodLink RX6 138 yX6_y, Cond.static yX6_y, Cond.code yX6_y cX6_y 1 (some .int), Cond.methodLink RX6 162 yX6_isOn, Cond.instanceMethod yX6_isOn, Cond.selects RX6 yX6_isOn yX6_isOn, Cond.code yX6_isOn cX6_isOn 2 (some .boolean), Cond.methodLink RX6 72 yX6_compare, Cond.instanceMethod yX6_compare, Cond.selects RX6 yX6_compare yX6_compare, Cond.code yX6_compare cX6_compare 4 (some .int)]
def wsX6_negate_r3 : List Cond := [Cond.methodLink RX6 68 yX6_get, Cond.instanceMethod yX6_get, Cond.selects RX6 yX6_get yX6_get, Cond.code yX6_get cX6_get 3 (some .int), Cond.methodLink RX6 144 yX6_times, Cond.instanceMethod yX6_times, Cond.selects RX6 yX6_times yX6_times, Cond.code yX6_times cX6_times 5 none, Cond.methodLink RX6 97 yX6_productToU, Cond.instanceMethod yX6_productToU, Cond.selects RX6 yX6_productToU yX6_productToU, Cond.code yX6_productToU cX6_productToU 9 none, Cond.fieldLink RX6 27 "LimbCurvesModel" "u" "[I", Cond.constantLong RX6 75 (2147483647), Cond.fieldLink RX6 79 "LimbCurvesModel" "uSize" "I", Cond.methodLink RX6 94 yX6_divide, Cond.instanceMethod yX6_divide, Cond.selects RX6 yX6_divide yX6_divide, Cond.code yX6_divide cX6_divide 8 none, Cond.constant RX6 85 (1073741824), Cond.fieldLink RX6 30 "LimbCurvesModel" "v" "[I", Cond.fieldLink RX6 33 "LimbCurvesModel" "q" "[I", Cond.methodLink RX6 82 yX6_length, Cond.instanceMethod yX6_length]
def wsX6_negate_r4 : List Cond := [Cond.selects RX6 yX6_length yX6_length, Cond.code yX6_length cX6_length 3 (some .int), Cond.methodLink RX6 86 yX6_digit, Cond.instanceMethod yX6_digit, Cond.selects RX6 yX6_digit yX6_digit, Cond.code yX6_digit cX6_digit 21 (some .long), Cond.constantLong RX6 77 (2147483648), Cond.methodLink RX6 147 yX6_sum, Cond.instanceMethod yX6_sum, Cond.selects RX6 yX6_sum yX6_sum, Cond.code yX6_sum cX6_sum 5 none, Cond.methodLink RX6 100 yX6_plus, Cond.instanceMethod yX6_plus, Cond.selects RX6 yX6_plus yX6_plus, Cond.code yX6_plus cX6_plus 9 none, Cond.methodLink RX6 103 yX6_minus, Cond.instanceMethod yX6_minus, Cond.selects RX6 yX6_minus yX6_minus, Cond.code yX6_minus cX6_minus 9 none, Cond.methodLink RX6 115 yX6_isZero, Cond.instanceMethod yX6_isZero, Cond.selects RX6 yX6_isZero yX6_isZero, Cond.code yX6_isZero cX6_isZero 4 (some .boolean), Cond.methodLink RX6 169 yX6_storePoint]
def wsX6_negate_r5 : List Cond := [Cond.instanceMethod yX6_storePoint, Cond.selects RX6 yX6_storePoint yX6_storePoint, Cond.code yX6_storePoint cX6_storePoint 4 none, Cond.methodLink RX6 141 yX6_written, Cond.instanceMethod yX6_written, Cond.selects RX6 yX6_written yX6_written, Cond.code yX6_written cX6_written 2 none, Cond.fieldLink RX6 17 "LimbCurvesModel" "fed" "I", Cond.methodLink RX6 54 yX6_stopFeeding, Cond.instanceMethod yX6_stopFeeding, Cond.selects RX6 yX6_stopFeeding yX6_stopFeeding, Cond.code yX6_stopFeeding cX6_stopFeeding 1 none, Cond.fieldLink RX6 47 "LimbCurvesModel" "fedLimbs" "I"]
def wsX6_negate : List Cond := .code yX6_negate cX6_negate 4 (some .boolean) :: ((wsX6_negate_r1 ++ (wsX6_negate_r2 ++ (wsX6_negate_r3 ++ (wsX6_negate_r4 ++ wsX6_negate_r5)))) ++ wsX60)
def wsX6_isSame : List Cond := .code yX6_isSame cX6_isSame 5 (some .boolean) :: ([.fieldLink RX6 13 "LimbCurvesModel" "isPair" "[Z", .fieldLink RX6 36 "LimbCurvesModel" "limbs" "I", .fieldLink RX6 7 "LimbCurvesModel" "slots" "[I", .methodLink RX6 39 yX6_isPoint, .static yX6_isPoint, .initialized RX6, .code yX6_isPoint cX6_isPoint 1 (some .boolean)] ++ wsX60)
def wsX6_verify_r1 : List Cond := [Cond.fieldLink RX6 24 "LimbCurvesModel" "isNothing" "[Z", Cond.methodLink RX6 175 yX6_isScalar, Cond.static yX6_isScalar, Cond.initialized RX6, Cond.code yX6_isScalar cX6_isScalar 1 (some .boolean), Cond.methodLink RX6 165 yX6_isGood, Cond.instanceMethod yX6_isGood, Cond.selects RX6 yX6_isGood yX6_isGood, Cond.code yX6_isGood cX6_isGood 3 (some .boolean), Cond.fieldLink RX6 43 "LimbCurvesModel" "sealed" "Z", Cond.methodLink RX6 39 yX6_isPoint, Cond.static yX6_isPoint, Cond.code yX6_isPoint cX6_isPoint 1 (some .boolean), Cond.methodLink RX6 156 yX6_loadParameters, Cond.instanceMethod yX6_loadParameters, Cond.selects RX6 yX6_loadParameters yX6_loadParameters, Cond.code yX6_loadParameters cX6_loadParameters 2 none, Cond.methodLink RX6 61 yX6_load, Cond.instanceMethod yX6_load, Cond.selects RX6 yX6_load yX6_load, Cond.code yX6_load cX6_load 5 none, Cond.fieldLink RX6 36 "LimbCurvesModel" "limbs" "I", Cond.fieldLink RX6 7 "LimbCurvesModel" "slots" "[I", Cond.methodLink RX6 57 yX6_set]
def wsX6_verify_r2 : List Cond := [Cond.instanceMethod yX6_set, Cond.selects RX6 yX6_set yX6_set, Cond.code yX6_set cX6_set 4 none, Cond.fieldLink RX6 21 "LimbCurvesModel" "numbers" "[I", Cond.methodLink RX6 64 yX6_small, Cond.instanceMethod yX6_small, Cond.selects RX6 yX6_small yX6_small, Cond.code yX6_small cX6_small 4 none, Cond.methodLink RX6 159 yX6_loadPoint, Cond.instanceMethod yX6_loadPoint, Cond.selects RX6 yX6_loadPoint yX6_loadPoint, Cond.code yX6_loadPoint cX6_loadPoint 3 none, Cond.fieldLink RX6 13 "LimbCurvesModel" "isPair" "[Z", Cond.methodLink RX6 135 yX6_x, Cond.static yX6_x, Cond.code yX6_x cX6_x 1 (some .int), Cond.methodLink RX6 138 yX6_y, Cond.static yX6_y, Cond.code yX6_y cX6_y 1 (some .int), Cond.methodLink RX6 162 yX6_isOn, Cond.instanceMethod yX6_isOn, Cond.selects RX6 yX6_isOn yX6_isOn, Cond.code yX6_isOn cX6_isOn 2 (some .boolean), Cond.methodLink RX6 72 yX6_compare]
def wsX6_verify_r3 : List Cond := [Cond.instanceMethod yX6_compare, Cond.selects RX6 yX6_compare yX6_compare, Cond.code yX6_compare cX6_compare 4 (some .int), Cond.methodLink RX6 68 yX6_get, Cond.instanceMethod yX6_get, Cond.selects RX6 yX6_get yX6_get, Cond.code yX6_get cX6_get 3 (some .int), Cond.methodLink RX6 144 yX6_times, Cond.instanceMethod yX6_times, Cond.selects RX6 yX6_times yX6_times, Cond.code yX6_times cX6_times 5 none, Cond.methodLink RX6 97 yX6_productToU, Cond.instanceMethod yX6_productToU, Cond.selects RX6 yX6_productToU yX6_productToU, Cond.code yX6_productToU cX6_productToU 9 none, Cond.fieldLink RX6 27 "LimbCurvesModel" "u" "[I", Cond.constantLong RX6 75 (2147483647), Cond.fieldLink RX6 79 "LimbCurvesModel" "uSize" "I", Cond.methodLink RX6 94 yX6_divide, Cond.instanceMethod yX6_divide, Cond.selects RX6 yX6_divide yX6_divide, Cond.code yX6_divide cX6_divide 8 none, Cond.constant RX6 85 (1073741824), Cond.fieldLink RX6 30 "LimbCurvesModel" "v" "[I"]
def wsX6_verify_r4 : List Cond := [Cond.fieldLink RX6 33 "LimbCurvesModel" "q" "[I", Cond.methodLink RX6 82 yX6_length, Cond.instanceMethod yX6_length, Cond.selects RX6 yX6_length yX6_length, Cond.code yX6_length cX6_length 3 (some .int), Cond.methodLink RX6 86 yX6_digit, Cond.instanceMethod yX6_digit, Cond.selects RX6 yX6_digit yX6_digit, Cond.code yX6_digit cX6_digit 21 (some .long), Cond.constantLong RX6 77 (2147483648), Cond.methodLink RX6 147 yX6_sum, Cond.instanceMethod yX6_sum, Cond.selects RX6 yX6_sum yX6_sum, Cond.code yX6_sum cX6_sum 5 none, Cond.methodLink RX6 100 yX6_plus, Cond.instanceMethod yX6_plus, Cond.selects RX6 yX6_plus yX6_plus, Cond.code yX6_plus cX6_plus 9 none, Cond.methodLink RX6 103 yX6_minus, Cond.instanceMethod yX6_minus, Cond.selects RX6 yX6_minus yX6_minus, Cond.code yX6_minus cX6_minus 9 none, Cond.methodLink RX6 115 yX6_isZero, Cond.instanceMethod yX6_isZero]
def wsX6_verify_r5 : List Cond := [Cond.selects RX6 yX6_isZero yX6_isZero, Cond.code yX6_isZero cX6_isZero 4 (some .boolean), Cond.methodLink RX6 181 yX6_inverse, Cond.instanceMethod yX6_inverse, Cond.selects RX6 yX6_inverse yX6_inverse, Cond.code yX6_inverse cX6_inverse 9 (some .boolean), Cond.methodLink RX6 118 yX6_isOne, Cond.instanceMethod yX6_isOne, Cond.selects RX6 yX6_isOne yX6_isOne, Cond.code yX6_isOne cX6_isOne 2 (some .boolean), Cond.methodLink RX6 106 yX6_isOdd, Cond.instanceMethod yX6_isOdd, Cond.selects RX6 yX6_isOdd yX6_isOdd, Cond.code yX6_isOdd cX6_isOdd 2 (some .boolean), Cond.methodLink RX6 128 yX6_inverseOdd, Cond.instanceMethod yX6_inverseOdd, Cond.selects RX6 yX6_inverseOdd yX6_inverseOdd, Cond.code yX6_inverseOdd cX6_inverseOdd 4 (some .boolean), Cond.methodLink RX6 112 yX6_copy, Cond.instanceMethod yX6_copy, Cond.selects RX6 yX6_copy yX6_copy, Cond.code yX6_copy cX6_copy 4 none, Cond.methodLink RX6 109 yX6_halve, Cond.instanceMethod yX6_halve]
def wsX6_verify_r6 : List Cond := [Cond.selects RX6 yX6_halve yX6_halve, Cond.code yX6_halve cX6_halve 4 none, Cond.methodLink RX6 121 yX6_halveModulo, Cond.instanceMethod yX6_halveModulo, Cond.selects RX6 yX6_halveModulo yX6_halveModulo, Cond.code yX6_halveModulo cX6_halveModulo 3 none, Cond.methodLink RX6 124 yX6_difference, Cond.instanceMethod yX6_difference, Cond.selects RX6 yX6_difference yX6_difference, Cond.code yX6_difference cX6_difference 5 none, Cond.methodLink RX6 132 yX6_rest, Cond.instanceMethod yX6_rest, Cond.selects RX6 yX6_rest yX6_rest, Cond.code yX6_rest cX6_rest 4 none, Cond.methodLink RX6 90 yX6_toU, Cond.instanceMethod yX6_toU, Cond.selects RX6 yX6_toU yX6_toU, Cond.code yX6_toU cX6_toU 3 none, Cond.methodLink RX6 178 yX6_multiply, Cond.instanceMethod yX6_multiply, Cond.selects RX6 yX6_multiply yX6_multiply, Cond.code yX6_multiply cX6_multiply 7 (some .boolean), Cond.methodLink RX6 153 yX6_sumPoints, Cond.instanceMethod yX6_sumPoints]
def wsX6_verify_r7 : List Cond := [Cond.selects RX6 yX6_sumPoints yX6_sumPoints, Cond.code yX6_sumPoints cX6_sumPoints 4 (some .boolean), Cond.methodLink RX6 150 yX6_copyPoint, Cond.instanceMethod yX6_copyPoint, Cond.selects RX6 yX6_copyPoint yX6_copyPoint, Cond.code yX6_copyPoint cX6_copyPoint 3 none]
def wsX6_verify : List Cond := .code yX6_verify cX6_verify 6 (some .int) :: ((wsX6_verify_r1 ++ (wsX6_verify_r2 ++ (wsX6_verify_r3 ++ (wsX6_verify_r4 ++ (wsX6_verify_r5 ++ (wsX6_verify_r6 ++ wsX6_verify_r7)))))) ++ wsX60)
def wsX6_reckon_r1 : List Cond := [Cond.fieldLink RX6 36 "LimbCurvesModel" "limbs" "I", Cond.fieldLink RX6 7 "LimbCurvesModel" "slots" "[I", Cond.methodLink RX6 156 yX6_loadParameters, Cond.instanceMethod yX6_loadParameters, Cond.selects RX6 yX6_loadParameters yX6_loadParameters, Cond.initialized RX6, Cond.code yX6_loadParameters cX6_loadParameters 2 none, Cond.methodLink RX6 61 yX6_load, Cond.instanceMethod yX6_load, Cond.selects RX6 yX6_load yX6_load, Cond.code yX6_load cX6_load 5 none, Cond.methodLink RX6 57 yX6_set, Cond.instanceMethod yX6_set, Cond.selects RX6 yX6_set yX6_set, Cond.code yX6_set cX6_set 4 none, Cond.fieldLink RX6 21 "LimbCurvesModel" "numbers" "[I", Cond.methodLink RX6 64 yX6_small, Cond.instanceMethod yX6_small, Cond.selects RX6 yX6_small yX6_small, Cond.code yX6_small cX6_small 4 none, Cond.methodLink RX6 175 yX6_isScalar, Cond.static yX6_isScalar, Cond.code yX6_isScalar cX6_isScalar 1 (some .boolean), Cond.methodLink RX6 115 yX6_isZero]
def wsX6_reckon_r2 : List Cond := [Cond.instanceMethod yX6_isZero, Cond.selects RX6 yX6_isZero yX6_isZero, Cond.code yX6_isZero cX6_isZero 4 (some .boolean), Cond.methodLink RX6 68 yX6_get, Cond.instanceMethod yX6_get, Cond.selects RX6 yX6_get yX6_get, Cond.code yX6_get cX6_get 3 (some .int), Cond.methodLink RX6 132 yX6_rest, Cond.instanceMethod yX6_rest, Cond.selects RX6 yX6_rest yX6_rest, Cond.code yX6_rest cX6_rest 4 none, Cond.methodLink RX6 90 yX6_toU, Cond.instanceMethod yX6_toU, Cond.selects RX6 yX6_toU yX6_toU, Cond.code yX6_toU cX6_toU 3 none, Cond.fieldLink RX6 27 "LimbCurvesModel" "u" "[I", Cond.fieldLink RX6 79 "LimbCurvesModel" "uSize" "I", Cond.methodLink RX6 94 yX6_divide, Cond.instanceMethod yX6_divide, Cond.selects RX6 yX6_divide yX6_divide, Cond.code yX6_divide cX6_divide 8 none, Cond.constant RX6 85 (1073741824), Cond.fieldLink RX6 30 "LimbCurvesModel" "v" "[I", Cond.constantLong RX6 75 (2147483647)]
def wsX6_reckon_r3 : List Cond := [Cond.fieldLink RX6 33 "LimbCurvesModel" "q" "[I", Cond.methodLink RX6 82 yX6_length, Cond.instanceMethod yX6_length, Cond.selects RX6 yX6_length yX6_length, Cond.code yX6_length cX6_length 3 (some .int), Cond.methodLink RX6 86 yX6_digit, Cond.instanceMethod yX6_digit, Cond.selects RX6 yX6_digit yX6_digit, Cond.code yX6_digit cX6_digit 21 (some .long), Cond.constantLong RX6 77 (2147483648), Cond.methodLink RX6 147 yX6_sum, Cond.instanceMethod yX6_sum, Cond.selects RX6 yX6_sum yX6_sum, Cond.code yX6_sum cX6_sum 5 none, Cond.methodLink RX6 100 yX6_plus, Cond.instanceMethod yX6_plus, Cond.selects RX6 yX6_plus yX6_plus, Cond.code yX6_plus cX6_plus 9 none, Cond.methodLink RX6 72 yX6_compare, Cond.instanceMethod yX6_compare, Cond.selects RX6 yX6_compare yX6_compare, Cond.code yX6_compare cX6_compare 4 (some .int), Cond.methodLink RX6 103 yX6_minus, Cond.instanceMethod yX6_minus]
def wsX6_reckon_r4 : List Cond := [Cond.selects RX6 yX6_minus yX6_minus, Cond.code yX6_minus cX6_minus 9 none, Cond.methodLink RX6 124 yX6_difference, Cond.instanceMethod yX6_difference, Cond.selects RX6 yX6_difference yX6_difference, Cond.code yX6_difference cX6_difference 5 none, Cond.methodLink RX6 144 yX6_times, Cond.instanceMethod yX6_times, Cond.selects RX6 yX6_times yX6_times, Cond.code yX6_times cX6_times 5 none, Cond.methodLink RX6 97 yX6_productToU, Cond.instanceMethod yX6_productToU, Cond.selects RX6 yX6_productToU yX6_productToU, Cond.code yX6_productToU cX6_productToU 9 none, Cond.methodLink RX6 181 yX6_inverse, Cond.instanceMethod yX6_inverse, Cond.selects RX6 yX6_inverse yX6_inverse, Cond.code yX6_inverse cX6_inverse 9 (some .boolean), Cond.methodLink RX6 118 yX6_isOne, Cond.instanceMethod yX6_isOne, Cond.selects RX6 yX6_isOne yX6_isOne, Cond.code yX6_isOne cX6_isOne 2 (some .boolean), Cond.methodLink RX6 106 yX6_isOdd, Cond.instanceMethod yX6_isOdd]
def wsX6_reckon_r5 : List Cond := [Cond.selects RX6 yX6_isOdd yX6_isOdd, Cond.code yX6_isOdd cX6_isOdd 2 (some .boolean), Cond.methodLink RX6 128 yX6_inverseOdd, Cond.instanceMethod yX6_inverseOdd, Cond.selects RX6 yX6_inverseOdd yX6_inverseOdd, Cond.code yX6_inverseOdd cX6_inverseOdd 4 (some .boolean), Cond.methodLink RX6 112 yX6_copy, Cond.instanceMethod yX6_copy, Cond.selects RX6 yX6_copy yX6_copy, Cond.code yX6_copy cX6_copy 4 none, Cond.methodLink RX6 109 yX6_halve, Cond.instanceMethod yX6_halve, Cond.selects RX6 yX6_halve yX6_halve, Cond.code yX6_halve cX6_halve 4 none, Cond.methodLink RX6 121 yX6_halveModulo, Cond.instanceMethod yX6_halveModulo, Cond.selects RX6 yX6_halveModulo yX6_halveModulo, Cond.code yX6_halveModulo cX6_halveModulo 3 none, Cond.methodLink RX6 141 yX6_written, Cond.instanceMethod yX6_written, Cond.selects RX6 yX6_written yX6_written, Cond.code yX6_written cX6_written 2 none, Cond.fieldLink RX6 17 "LimbCurvesModel" "fed" "I", Cond.methodLink RX6 54 yX6_stopFeeding]
def wsX6_reckon_r6 : List Cond := [Cond.instanceMethod yX6_stopFeeding, Cond.selects RX6 yX6_stopFeeding yX6_stopFeeding, Cond.code yX6_stopFeeding cX6_stopFeeding 1 none, Cond.fieldLink RX6 47 "LimbCurvesModel" "fedLimbs" "I"]
def wsX6_reckon : List Cond := .code yX6_reckon cX6_reckon 7 (some .boolean) :: ((wsX6_reckon_r1 ++ (wsX6_reckon_r2 ++ (wsX6_reckon_r3 ++ (wsX6_reckon_r4 ++ (wsX6_reckon_r5 ++ wsX6_reckon_r6))))) ++ wsX60)
def wsX6_state : List Cond := .code yX6_state cX6_state 2 (some .int) :: ([.fieldLink RX6 36 "LimbCurvesModel" "limbs" "I", .fieldLink RX6 43 "LimbCurvesModel" "sealed" "Z", .fieldLink RX6 17 "LimbCurvesModel" "fed" "I", .fieldLink RX6 47 "LimbCurvesModel" "fedLimbs" "I"] ++ wsX60)
def wsJ9_max_7cf53 : List Cond := .code yJ9_max_7cf53 cJ9_max_7cf53 2 (some .int) :: ([])
def wsJ9_min_7cf53 : List Cond := .code yJ9_min_7cf53 cJ9_min_7cf53 2 (some .int) :: ([])
def wsJ9_min_f86c9 : List Cond := .code yJ9_min_f86c9 cJ9_min_f86c9 4 (some .long) :: ([])
def wsL_cell : List Cond := .code yL_cell cL_cell 2 (some .int) :: ([])
def wsL_law_r1 : List Cond := [Cond.classLink RL 7 RX5, Cond.instantiable RX5 13, Cond.initialized RX5, Cond.classLink RL 18 RX6, Cond.instantiable RX6 12, Cond.initialized RX6, Cond.methodLink RL 9 yL_cell, Cond.static yL_cell, Cond.initialized RL, Cond.code yL_cell cL_cell 2 (some .int), Cond.methodLink RL 15 yX5_init, Cond.instanceMethod yX5_init, Cond.code yX5_init cX5_init 3 none, Cond.methodLink RX5 1 objectInit, Cond.instanceMethod objectInit, Cond.code objectInit ⟨#[0xb1]⟩ 1 none, Cond.methodLink RX5 9 Lib.Math.min.name, Cond.static Lib.Math.min.name, Cond.initialized "java/lang/Math", Cond.code Lib.Math.min.name Lib.Math.min.code 2 (some .int), Cond.methodLink RX5 15 Lib.Math.max.name, Cond.static Lib.Math.max.name, Cond.code Lib.Math.max.name Lib.Math.max.code 2 (some .int), Cond.fieldLink RX5 18 "LimbCurves" "limbs" "I"]
def wsL_law_r2 : List Cond := [Cond.classLink RX5 22 "[[I", Cond.arrayClass .int, Cond.fieldLink RX5 24 "LimbCurves" "parameters" "[[I", Cond.classLink RX5 27 RX2, Cond.fieldLink RX5 29 "LimbCurves" "points" "[LLimbCurves$Point;", Cond.instantiable RX2 3, Cond.initialized RX2, Cond.fieldLink RX5 36 "LimbCurves" "scalars" "[[I", Cond.classLink RX5 39 RX3, Cond.instantiable RX3 10, Cond.initialized RX3, Cond.fieldLink RX5 42 "LimbCurves" "order" "LLimbCurves$Residues;", Cond.classLink RX5 46 RX0, Cond.instantiable RX0 6, Cond.initialized RX0, Cond.fieldLink RX5 51 "LimbCurves" "curve" "LLimbCurves$Curve;", Cond.classLink RX5 55 RX4, Cond.instantiable RX4 12, Cond.initialized RX4, Cond.fieldLink RX5 60 "LimbCurves" "running" "LLimbCurves$RunningSum;", Cond.fieldLink RX5 64 "LimbCurves" "left" "[I", Cond.fieldLink RX5 68 "LimbCurves" "right" "[I", Cond.fieldLink RX5 71 "LimbCurves" "result" "LLimbCurves$Point;", Cond.fieldLink RX5 75 "LimbCurves" "sealed" "Z"]
def wsL_law_r3 : List Cond := [Cond.fieldLink RX5 79 "LimbCurves" "fedSlot" "I", Cond.fieldLink RX5 82 "LimbCurves" "fedLimbs" "I", Cond.methodLink RX5 33 yX2_init, Cond.instanceMethod yX2_init, Cond.code yX2_init cX2_init 2 none, Cond.methodLink RX2 1 objectInit, Cond.fieldLink RX2 7 "LimbCurves$Point" "x" "[I", Cond.fieldLink RX2 13 "LimbCurves$Point" "y" "[I", Cond.fieldLink RX2 16 "LimbCurves$Point" "identity" "Z", Cond.methodLink RX5 41 yX3_init, Cond.instanceMethod yX3_init, Cond.code yX3_init cX3_init 2 none, Cond.methodLink RX3 3 objectInit, Cond.fieldLink RX3 9 "LimbCurves$Residues" "modulus" "[I", Cond.fieldLink RX3 15 "LimbCurves$Residues" "divisor" "[I", Cond.fieldLink RX3 18 "LimbCurves$Residues" "work" "[I", Cond.fieldLink RX3 21 "LimbCurves$Residues" "spare" "[I", Cond.fieldLink RX3 24 "LimbCurves$Residues" "firstRest" "[I", Cond.fieldLink RX3 27 "LimbCurves$Residues" "secondRest" "[I", Cond.fieldLink RX3 30 "LimbCurves$Residues" "firstFactor" "[I", Cond.fieldLink RX3 33 "LimbCurves$Residues" "secondFactor" "[I", Cond.fieldLink RX3 36 "LimbCurves$Residues" "size" "I", Cond.fieldLink RX3 40 "LimbCurves$Residues" "shift" "I", Cond.methodLink RX5 48 yX0_init]
def wsL_law_r4 : List Cond := [Cond.instanceMethod yX0_init, Cond.code yX0_init cX0_init 3 none, Cond.methodLink RX0 3 objectInit, Cond.fieldLink RX0 9 "LimbCurves$Curve" "p" "[I", Cond.fieldLink RX0 15 "LimbCurves$Curve" "a" "[I", Cond.fieldLink RX0 18 "LimbCurves$Curve" "b" "[I", Cond.fieldLink RX0 21 "LimbCurves$Curve" "field" "LLimbCurves$Residues;", Cond.fieldLink RX0 25 "LimbCurves$Curve" "left" "[I", Cond.fieldLink RX0 28 "LimbCurves$Curve" "right" "[I", Cond.methodLink RX5 57 yX4_init, Cond.instanceMethod yX4_init, Cond.code yX4_init cX4_init 4 none, Cond.methodLink RX4 3 objectInit, Cond.fieldLink RX4 9 "LimbCurves$RunningSum" "field" "LLimbCurves$Residues;", Cond.fieldLink RX4 15 "LimbCurves$RunningSum" "a" "[I", Cond.fieldLink RX4 19 "LimbCurves$RunningSum" "x" "[I", Cond.fieldLink RX4 22 "LimbCurves$RunningSum" "y" "[I", Cond.fieldLink RX4 25 "LimbCurves$RunningSum" "z" "[I", Cond.fieldLink RX4 28 "LimbCurves$RunningSum" "identity" "Z", Cond.fieldLink RX4 32 "LimbCurves$RunningSum" "otherX" "[I", Cond.fieldLink RX4 35 "LimbCurves$RunningSum" "otherY" "[I", Cond.fieldLink RX4 38 "LimbCurves$RunningSum" "run" "[I", Cond.fieldLink RX4 41 "LimbCurves$RunningSum" "rise" "[I", Cond.fieldLink RX4 44 "LimbCurves$RunningSum" "s" "[I"]
def wsL_law_r5 : List Cond := [Cond.fieldLink RX4 47 "LimbCurves$RunningSum" "t" "[I", Cond.methodLink RL 20 yX6_init, Cond.instanceMethod yX6_init, Cond.code yX6_init cX6_init 2 none, Cond.methodLink RX6 1 objectInit, Cond.fieldLink RX6 7 "LimbCurvesModel" "slots" "[I", Cond.arrayClass .boolean, Cond.fieldLink RX6 13 "LimbCurvesModel" "isPair" "[Z", Cond.fieldLink RX6 17 "LimbCurvesModel" "fed" "I", Cond.fieldLink RX6 21 "LimbCurvesModel" "numbers" "[I", Cond.fieldLink RX6 24 "LimbCurvesModel" "isNothing" "[Z", Cond.fieldLink RX6 27 "LimbCurvesModel" "u" "[I", Cond.fieldLink RX6 30 "LimbCurvesModel" "v" "[I", Cond.fieldLink RX6 33 "LimbCurvesModel" "q" "[I", Cond.fieldLink RX6 36 "LimbCurvesModel" "limbs" "I", Cond.methodLink RL 21 yX5_select, Cond.instanceMethod yX5_select, Cond.selects RX5 yX5_select yX5_select, Cond.code yX5_select cX5_select 2 (some .boolean), Cond.methodLink RX5 85 yX5_isSlot, Cond.static yX5_isSlot, Cond.code yX5_isSlot cX5_isSlot 1 (some .boolean), Cond.methodLink RX5 89 yX5_isParameter, Cond.static yX5_isParameter]
def wsL_law_r6 : List Cond := [Cond.code yX5_isParameter cX5_isParameter 1 (some .boolean), Cond.methodLink RX5 92 yX5_clearSlot, Cond.instanceMethod yX5_clearSlot, Cond.selects RX5 yX5_clearSlot yX5_clearSlot, Cond.code yX5_clearSlot cX5_clearSlot 2 none, Cond.methodLink RX5 103 yX5_isPoint, Cond.static yX5_isPoint, Cond.code yX5_isPoint cX5_isPoint 1 (some .boolean), Cond.methodLink RX5 106 yX5_pointIn, Cond.instanceMethod yX5_pointIn, Cond.selects RX5 yX5_pointIn yX5_pointIn, Cond.code yX5_pointIn cX5_pointIn 2 (some (.object "LimbCurves$Point")), Cond.methodLink RX5 204 yX2_becomeIdentity, Cond.instanceMethod yX2_becomeIdentity, Cond.selects RX2 yX2_becomeIdentity yX2_becomeIdentity, Cond.code yX2_becomeIdentity cX2_becomeIdentity 1 none, Cond.methodLink RX2 20 yX1_set, Cond.static yX1_set, Cond.initialized RX1, Cond.code yX1_set cX1_set 2 none, Cond.methodLink RX1 9 yJ7_fill_53178, Cond.static yJ7_fill_53178, Cond.initialized RJ7, Cond.code yJ7_fill_53178 cJ7_fill_53178 4 none]
def wsL_law_r7 : List Cond := [Cond.methodLink RX5 95 yX5_rowOf, Cond.instanceMethod yX5_rowOf, Cond.selects RX5 yX5_rowOf yX5_rowOf, Cond.code yX5_rowOf cX5_rowOf 3 (some (.array .int)), Cond.fieldLink RX5 186 "LimbCurves$Point" "x" "[I", Cond.fieldLink RX5 201 "LimbCurves$Point" "y" "[I", Cond.methodLink RX5 144 yX5_isScalar, Cond.static yX5_isScalar, Cond.code yX5_isScalar cX5_isScalar 1 (some .boolean), Cond.methodLink RX5 147 yX5_scalarIn, Cond.instanceMethod yX5_scalarIn, Cond.selects RX5 yX5_scalarIn yX5_scalarIn, Cond.code yX5_scalarIn cX5_scalarIn 2 (some (.array .int)), Cond.methodLink RX5 207 yX1_set, Cond.methodLink RL 25 yX6_select, Cond.instanceMethod yX6_select, Cond.selects RX6 yX6_select yX6_select, Cond.code yX6_select cX6_select 3 (some .boolean), Cond.fieldLink RX6 43 "LimbCurvesModel" "sealed" "Z", Cond.fieldLink RX6 47 "LimbCurvesModel" "fedLimbs" "I", Cond.methodLink RL 26 yX5_feedLimb, Cond.instanceMethod yX5_feedLimb, Cond.selects RX5 yX5_feedLimb yX5_feedLimb, Cond.code yX5_feedLimb cX5_feedLimb 2 (some .boolean)]
def wsL_law_r8 : List Cond := [Cond.fieldLink RX5 110 "LimbCurves$Point" "identity" "Z", Cond.methodLink RX5 99 yX5_placeInRow, Cond.instanceMethod yX5_placeInRow, Cond.selects RX5 yX5_placeInRow yX5_placeInRow, Cond.code yX5_placeInRow cX5_placeInRow 2 (some .int), Cond.methodLink RX5 113 yX5_limbsOf, Cond.instanceMethod yX5_limbsOf, Cond.selects RX5 yX5_limbsOf yX5_limbsOf, Cond.code yX5_limbsOf cX5_limbsOf 2 (some .int), Cond.methodLink RX5 116 yX5_endFeeding, Cond.instanceMethod yX5_endFeeding, Cond.selects RX5 yX5_endFeeding yX5_endFeeding, Cond.code yX5_endFeeding cX5_endFeeding 2 none, Cond.methodLink RL 29 yX6_feedLimb, Cond.instanceMethod yX6_feedLimb, Cond.selects RX6 yX6_feedLimb yX6_feedLimb, Cond.code yX6_feedLimb cX6_feedLimb 2 (some .boolean), Cond.methodLink RX6 39 yX6_isPoint, Cond.static yX6_isPoint, Cond.code yX6_isPoint cX6_isPoint 1 (some .boolean), Cond.methodLink RX6 50 yX6_limbsOf, Cond.instanceMethod yX6_limbsOf, Cond.selects RX6 yX6_limbsOf yX6_limbsOf, Cond.code yX6_limbsOf cX6_limbsOf 2 (some .int)]
def wsL_law_r9 : List Cond := [Cond.methodLink RX6 54 yX6_stopFeeding, Cond.instanceMethod yX6_stopFeeding, Cond.selects RX6 yX6_stopFeeding yX6_stopFeeding, Cond.code yX6_stopFeeding cX6_stopFeeding 1 none, Cond.methodLink RL 30 yX5_seal, Cond.instanceMethod yX5_seal, Cond.selects RX5 yX5_seal yX5_seal, Cond.code yX5_seal cX5_seal 2 (some .int), Cond.methodLink RX5 119 yX0_takeParameters, Cond.instanceMethod yX0_takeParameters, Cond.selects RX0 yX0_takeParameters yX0_takeParameters, Cond.code yX0_takeParameters cX0_takeParameters 1 (some .int), Cond.methodLink RX0 31 yX1_bitsOf, Cond.static yX1_bitsOf, Cond.code yX1_bitsOf cX1_bitsOf 2 (some .int), Cond.methodLink RX1 21 yX1_sizeOf, Cond.static yX1_sizeOf, Cond.code yX1_sizeOf cX1_sizeOf 2 (some .int), Cond.methodLink RX1 27 yJ6_numberOfLeadingZeros_0f7a4, Cond.static yJ6_numberOfLeadingZeros_0f7a4, Cond.initialized RJ6, Cond.code yJ6_numberOfLeadingZeros_0f7a4 cJ6_numberOfLeadingZeros_0f7a4 2 (some .int), Cond.constant RJ6 264 (65536), Cond.methodLink RX0 37 yX1_compare]
def wsL_law_r10 : List Cond := [Cond.static yX1_compare, Cond.code yX1_compare cX1_compare 3 (some .int), Cond.methodLink RX0 41 yX3_takeModulus, Cond.instanceMethod yX3_takeModulus, Cond.selects RX3 yX3_takeModulus yX3_takeModulus, Cond.code yX3_takeModulus cX3_takeModulus 3 (some .boolean), Cond.methodLink RX3 43 yX1_copy, Cond.static yX1_copy, Cond.code yX1_copy cX1_copy 2 none, Cond.methodLink RX1 15 arraycopyName, Cond.native arraycopyName, Cond.static arraycopyName, Cond.initialized "java/lang/System", Cond.methodLink RX3 49 yX1_sizeOf, Cond.methodLink RX3 53 yJ6_numberOfLeadingZeros_0f7a4, Cond.methodLink RX3 59 yX1_shiftedLimb, Cond.static yX1_shiftedLimb, Cond.code yX1_shiftedLimb cX1_shiftedLimb 8 (some .int), Cond.constantLong RX1 33 (2147483647), Cond.methodLink RX0 47 yX0_isSingular, Cond.instanceMethod yX0_isSingular, Cond.selects RX0 yX0_isSingular yX0_isSingular, Cond.code yX0_isSingular cX0_isSingular 1 (some .boolean), Cond.methodLink RX0 51 yX3_multiply]
def wsL_law_r11 : List Cond := [Cond.instanceMethod yX3_multiply, Cond.selects RX3 yX3_multiply yX3_multiply, Cond.code yX3_multiply cX3_multiply 10 none, Cond.constantLong RX3 90 (2147483647), Cond.methodLink RX3 85 yJ7_fill_53178, Cond.methodLink RX3 69 yX3_takeRemainder, Cond.instanceMethod yX3_takeRemainder, Cond.selects RX3 yX3_takeRemainder yX3_takeRemainder, Cond.code yX3_takeRemainder cX3_takeRemainder 8 none, Cond.methodLink RX3 116 Lib.MathLoose.min_long.x, Cond.static Lib.MathLoose.min_long.x, Cond.code Lib.MathLoose.min_long.x Lib.MathLoose.min_long.code 4 (some .long), Cond.methodLink RX3 112 yX3_shiftWork, Cond.instanceMethod yX3_shiftWork, Cond.selects RX3 yX3_shiftWork yX3_shiftWork, Cond.code yX3_shiftWork cX3_shiftWork 5 none, Cond.methodLink RX3 122 yX3_takeDivisorAway, Cond.instanceMethod yX3_takeDivisorAway, Cond.selects RX3 yX3_takeDivisorAway yX3_takeDivisorAway, Cond.code yX3_takeDivisorAway cX3_takeDivisorAway 10 none, Cond.methodLink RX3 126 yX3_unshiftedLimb, Cond.instanceMethod yX3_unshiftedLimb, Cond.selects RX3 yX3_unshiftedLimb yX3_unshiftedLimb, Cond.code yX3_unshiftedLimb cX3_unshiftedLimb 2 (some .int)]
def wsL_law_r12 : List Cond := [Cond.methodLink RX0 55 yX3_twice, Cond.instanceMethod yX3_twice, Cond.selects RX3 yX3_twice yX3_twice, Cond.code yX3_twice cX3_twice 3 none, Cond.methodLink RX3 81 yX3_add, Cond.instanceMethod yX3_add, Cond.selects RX3 yX3_add yX3_add, Cond.code yX3_add cX3_add 6 none, Cond.methodLink RX3 73 yX1_combine, Cond.static yX1_combine, Cond.code yX1_combine cX1_combine 7 (some .long), Cond.methodLink RX3 77 yX1_compare, Cond.methodLink RX0 59 yX3_thrice, Cond.instanceMethod yX3_thrice, Cond.selects RX3 yX3_thrice yX3_thrice, Cond.code yX3_thrice cX3_thrice 3 none, Cond.methodLink RX0 62 yX3_add, Cond.methodLink RX0 65 yX1_isZero, Cond.static yX1_isZero, Cond.code yX1_isZero cX1_isZero 1 (some .boolean), Cond.methodLink RL 34 yX6_seal, Cond.instanceMethod yX6_seal, Cond.selects RX6 yX6_seal yX6_seal, Cond.code yX6_seal cX6_seal 1 (some .int)]
def wsL_law_r13 : List Cond := [Cond.methodLink RX6 156 yX6_loadParameters, Cond.instanceMethod yX6_loadParameters, Cond.selects RX6 yX6_loadParameters yX6_loadParameters, Cond.code yX6_loadParameters cX6_loadParameters 2 none, Cond.methodLink RX6 61 yX6_load, Cond.instanceMethod yX6_load, Cond.selects RX6 yX6_load yX6_load, Cond.code yX6_load cX6_load 5 none, Cond.methodLink RX6 57 yX6_set, Cond.instanceMethod yX6_set, Cond.selects RX6 yX6_set yX6_set, Cond.code yX6_set cX6_set 4 none, Cond.methodLink RX6 64 yX6_small, Cond.instanceMethod yX6_small, Cond.selects RX6 yX6_small yX6_small, Cond.code yX6_small cX6_small 4 none, Cond.methodLink RX6 106 yX6_isOdd, Cond.instanceMethod yX6_isOdd, Cond.selects RX6 yX6_isOdd yX6_isOdd, Cond.code yX6_isOdd cX6_isOdd 2 (some .boolean), Cond.methodLink RX6 68 yX6_get, Cond.instanceMethod yX6_get, Cond.selects RX6 yX6_get yX6_get, Cond.code yX6_get cX6_get 3 (some .int)]
def wsL_law_r14 : List Cond := [Cond.methodLink RX6 72 yX6_compare, Cond.instanceMethod yX6_compare, Cond.selects RX6 yX6_compare yX6_compare, Cond.code yX6_compare cX6_compare 4 (some .int), Cond.methodLink RX6 144 yX6_times, Cond.instanceMethod yX6_times, Cond.selects RX6 yX6_times yX6_times, Cond.code yX6_times cX6_times 5 none, Cond.methodLink RX6 97 yX6_productToU, Cond.instanceMethod yX6_productToU, Cond.selects RX6 yX6_productToU yX6_productToU, Cond.code yX6_productToU cX6_productToU 9 none, Cond.constantLong RX6 75 (2147483647), Cond.fieldLink RX6 79 "LimbCurvesModel" "uSize" "I", Cond.methodLink RX6 94 yX6_divide, Cond.instanceMethod yX6_divide, Cond.selects RX6 yX6_divide yX6_divide, Cond.code yX6_divide cX6_divide 8 none, Cond.constant RX6 85 (1073741824), Cond.methodLink RX6 82 yX6_length, Cond.instanceMethod yX6_length, Cond.selects RX6 yX6_length yX6_length, Cond.code yX6_length cX6_length 3 (some .int), Cond.methodLink RX6 86 yX6_digit]
def wsL_law_r15 : List Cond := [Cond.instanceMethod yX6_digit, Cond.selects RX6 yX6_digit yX6_digit, Cond.code yX6_digit cX6_digit 21 (some .long), Cond.constantLong RX6 77 (2147483648), Cond.methodLink RX6 147 yX6_sum, Cond.instanceMethod yX6_sum, Cond.selects RX6 yX6_sum yX6_sum, Cond.code yX6_sum cX6_sum 5 none, Cond.methodLink RX6 100 yX6_plus, Cond.instanceMethod yX6_plus, Cond.selects RX6 yX6_plus yX6_plus, Cond.code yX6_plus cX6_plus 9 none, Cond.methodLink RX6 103 yX6_minus, Cond.instanceMethod yX6_minus, Cond.selects RX6 yX6_minus yX6_minus, Cond.code yX6_minus cX6_minus 9 none, Cond.methodLink RX6 115 yX6_isZero, Cond.instanceMethod yX6_isZero, Cond.selects RX6 yX6_isZero yX6_isZero, Cond.code yX6_isZero cX6_isZero 4 (some .boolean), Cond.methodLink RL 35 yX5_open, Cond.instanceMethod yX5_open, Cond.selects RX5 yX5_open yX5_open, Cond.code yX5_open cX5_open 2 (some .boolean)]
def wsL_law_r16 : List Cond := [Cond.methodLink RL 39 yX6_open, Cond.instanceMethod yX6_open, Cond.selects RX6 yX6_open yX6_open, Cond.code yX6_open cX6_open 2 (some .boolean), Cond.methodLink RL 40 yX5_limb, Cond.instanceMethod yX5_limb, Cond.selects RX5 yX5_limb yX5_limb, Cond.code yX5_limb cX5_limb 3 (some .int), Cond.methodLink RL 44 yX6_limb, Cond.instanceMethod yX6_limb, Cond.selects RX6 yX6_limb yX6_limb, Cond.code yX6_limb cX6_limb 3 (some .int), Cond.methodLink RL 45 yX5_onCurve, Cond.instanceMethod yX5_onCurve, Cond.selects RX5 yX5_onCurve yX5_onCurve, Cond.code yX5_onCurve cX5_onCurve 2 (some .boolean), Cond.methodLink RX5 123 yX0_holds, Cond.instanceMethod yX0_holds, Cond.selects RX0 yX0_holds yX0_holds, Cond.code yX0_holds cX0_holds 2 (some .boolean), Cond.fieldLink RX0 68 "LimbCurves$Point" "identity" "Z", Cond.fieldLink RX0 74 "LimbCurves$Point" "x" "[I", Cond.fieldLink RX0 77 "LimbCurves$Point" "y" "[I", Cond.methodLink RL 48 yX6_onCurve]
def wsL_law_r17 : List Cond := [Cond.instanceMethod yX6_onCurve, Cond.selects RX6 yX6_onCurve yX6_onCurve, Cond.code yX6_onCurve cX6_onCurve 2 (some .boolean), Cond.methodLink RX6 165 yX6_isGood, Cond.instanceMethod yX6_isGood, Cond.selects RX6 yX6_isGood yX6_isGood, Cond.code yX6_isGood cX6_isGood 3 (some .boolean), Cond.methodLink RX6 159 yX6_loadPoint, Cond.instanceMethod yX6_loadPoint, Cond.selects RX6 yX6_loadPoint yX6_loadPoint, Cond.code yX6_loadPoint cX6_loadPoint 3 none, Cond.methodLink RX6 135 yX6_x, Cond.static yX6_x, Cond.code yX6_x cX6_x 1 (some .int), Cond.methodLink RX6 138 yX6_y, Cond.static yX6_y, Cond.code yX6_y cX6_y 1 (some .int), Cond.methodLink RX6 162 yX6_isOn, Cond.instanceMethod yX6_isOn, Cond.selects RX6 yX6_isOn yX6_isOn, Cond.code yX6_isOn cX6_isOn 2 (some .boolean), Cond.methodLink RL 49 yX5_isInfinity, Cond.instanceMethod yX5_isInfinity, Cond.selects RX5 yX5_isInfinity yX5_isInfinity]
def wsL_law_r18 : List Cond := [Cond.code yX5_isInfinity cX5_isInfinity 2 (some .boolean), Cond.methodLink RL 52 yX6_isInfinity, Cond.instanceMethod yX6_isInfinity, Cond.selects RX6 yX6_isInfinity yX6_isInfinity, Cond.code yX6_isInfinity cX6_isInfinity 2 (some .boolean), Cond.methodLink RL 53 yX5_addPts, Cond.instanceMethod yX5_addPts, Cond.selects RX5 yX5_addPts yX5_addPts, Cond.code yX5_addPts cX5_addPts 4 (some .boolean), Cond.methodLink RX5 127 yX5_onCurve, Cond.methodLink RX5 130 yX4_startAtIdentity, Cond.instanceMethod yX4_startAtIdentity, Cond.selects RX4 yX4_startAtIdentity yX4_startAtIdentity, Cond.code yX4_startAtIdentity cX4_startAtIdentity 1 none, Cond.methodLink RX4 50 yX1_set, Cond.methodLink RX5 133 yX4_addPoint, Cond.instanceMethod yX4_addPoint, Cond.selects RX4 yX4_addPoint yX4_addPoint, Cond.code yX4_addPoint cX4_addPoint 2 none, Cond.fieldLink RX4 66 "LimbCurves$Point" "identity" "Z", Cond.methodLink RX4 69 yX4_bringToSameZ, Cond.instanceMethod yX4_bringToSameZ, Cond.selects RX4 yX4_bringToSameZ yX4_bringToSameZ, Cond.code yX4_bringToSameZ cX4_bringToSameZ 2 none]
def wsL_law_r19 : List Cond := [Cond.fieldLink RX4 102 "LimbCurves$Point" "x" "[I", Cond.fieldLink RX4 103 "LimbCurves$Point" "y" "[I", Cond.methodLink RX4 99 yX3_multiply, Cond.methodLink RX4 72 yX1_copy, Cond.methodLink RX4 76 yX3_subtract, Cond.instanceMethod yX3_subtract, Cond.selects RX3 yX3_subtract yX3_subtract, Cond.code yX3_subtract cX3_subtract 6 none, Cond.methodLink RX4 82 yX1_isZero, Cond.methodLink RX4 86 yX4_addAlongChord, Cond.instanceMethod yX4_addAlongChord, Cond.selects RX4 yX4_addAlongChord yX4_addAlongChord, Cond.code yX4_addAlongChord cX4_addAlongChord 1 none, Cond.methodLink RX4 59 yX4_addItself, Cond.instanceMethod yX4_addItself, Cond.selects RX4 yX4_addItself yX4_addItself, Cond.code yX4_addItself cX4_addItself 1 none, Cond.methodLink RX4 104 yX3_thrice, Cond.methodLink RX4 107 yX3_add, Cond.methodLink RX4 110 yX3_twice, Cond.methodLink RX4 89 yX4_addAtSameX, Cond.instanceMethod yX4_addAtSameX, Cond.selects RX4 yX4_addAtSameX yX4_addAtSameX, Cond.code yX4_addAtSameX cX4_addAtSameX 1 none]
def wsL_law_r20 : List Cond := [Cond.methodLink RX5 137 yX5_writeRunningSum, Cond.instanceMethod yX5_writeRunningSum, Cond.selects RX5 yX5_writeRunningSum yX5_writeRunningSum, Cond.code yX5_writeRunningSum cX5_writeRunningSum 2 (some .boolean), Cond.methodLink RX5 183 yX4_writeTo, Cond.instanceMethod yX4_writeTo, Cond.selects RX4 yX4_writeTo yX4_writeTo, Cond.code yX4_writeTo cX4_writeTo 2 (some .boolean), Cond.methodLink RX4 92 yX3_invert, Cond.instanceMethod yX3_invert, Cond.selects RX3 yX3_invert yX3_invert, Cond.code yX3_invert cX3_invert 11 (some .boolean), Cond.methodLink RX3 92 yX1_set, Cond.methodLink RX3 95 yX1_isZero, Cond.methodLink RX3 99 yX1_gapBetween, Cond.static yX1_gapBetween, Cond.code yX1_gapBetween cX1_gapBetween 3 (some .int), Cond.methodLink RX1 39 yX1_bitsOf, Cond.methodLink RX1 42 yX1_isBelowShifted, Cond.static yX1_isBelowShifted, Cond.code yX1_isBelowShifted cX1_isBelowShifted 5 (some .boolean), Cond.methodLink RX1 35 yX1_shiftedLimb, Cond.methodLink RX3 102 yX1_addShifted, Cond.static yX1_addShifted]
def wsL_law_r21 : List Cond := [Cond.code yX1_addShifted cX1_addShifted 7 none, Cond.methodLink RX3 106 yX1_bitsOf, Cond.methodLink RX3 109 yX3_subtract, Cond.methodLink RX4 96 yX2_becomeIdentity, Cond.methodLink RL 57 yX6_addPts, Cond.instanceMethod yX6_addPts, Cond.selects RX6 yX6_addPts yX6_addPts, Cond.code yX6_addPts cX6_addPts 5 (some .boolean), Cond.methodLink RX6 153 yX6_sumPoints, Cond.instanceMethod yX6_sumPoints, Cond.selects RX6 yX6_sumPoints yX6_sumPoints, Cond.code yX6_sumPoints cX6_sumPoints 4 (some .boolean), Cond.methodLink RX6 150 yX6_copyPoint, Cond.instanceMethod yX6_copyPoint, Cond.selects RX6 yX6_copyPoint yX6_copyPoint, Cond.code yX6_copyPoint cX6_copyPoint 3 none, Cond.methodLink RX6 112 yX6_copy, Cond.instanceMethod yX6_copy, Cond.selects RX6 yX6_copy yX6_copy, Cond.code yX6_copy cX6_copy 4 none, Cond.methodLink RX6 124 yX6_difference, Cond.instanceMethod yX6_difference, Cond.selects RX6 yX6_difference yX6_difference, Cond.code yX6_difference cX6_difference 5 none]
def wsL_law_r22 : List Cond := [Cond.methodLink RX6 128 yX6_inverseOdd, Cond.instanceMethod yX6_inverseOdd, Cond.selects RX6 yX6_inverseOdd yX6_inverseOdd, Cond.code yX6_inverseOdd cX6_inverseOdd 4 (some .boolean), Cond.methodLink RX6 118 yX6_isOne, Cond.instanceMethod yX6_isOne, Cond.selects RX6 yX6_isOne yX6_isOne, Cond.code yX6_isOne cX6_isOne 2 (some .boolean), Cond.methodLink RX6 109 yX6_halve, Cond.instanceMethod yX6_halve, Cond.selects RX6 yX6_halve yX6_halve, Cond.code yX6_halve cX6_halve 4 none, Cond.methodLink RX6 121 yX6_halveModulo, Cond.instanceMethod yX6_halveModulo, Cond.selects RX6 yX6_halveModulo yX6_halveModulo, Cond.code yX6_halveModulo cX6_halveModulo 3 none, Cond.methodLink RX6 169 yX6_storePoint, Cond.instanceMethod yX6_storePoint, Cond.selects RX6 yX6_storePoint yX6_storePoint, Cond.code yX6_storePoint cX6_storePoint 4 none, Cond.methodLink RX6 141 yX6_written, Cond.instanceMethod yX6_written, Cond.selects RX6 yX6_written yX6_written, Cond.code yX6_written cX6_written 2 none]
def wsL_law_r23 : List Cond := [Cond.methodLink RL 58 yX5_dbl, Cond.instanceMethod yX5_dbl, Cond.selects RX5 yX5_dbl yX5_dbl, Cond.code yX5_dbl cX5_dbl 3 (some .boolean), Cond.methodLink RX5 140 yX5_addPts, Cond.methodLink RL 62 yX6_dbl, Cond.instanceMethod yX6_dbl, Cond.selects RX6 yX6_dbl yX6_dbl, Cond.code yX6_dbl cX6_dbl 3 (some .boolean), Cond.methodLink RX6 172 yX6_addPts, Cond.methodLink RL 63 yX5_scalarMul, Cond.instanceMethod yX5_scalarMul, Cond.selects RX5 yX5_scalarMul yX5_scalarMul, Cond.code yX5_scalarMul cX5_scalarMul 4 (some .boolean), Cond.methodLink RX5 151 yX4_takeTimes, Cond.instanceMethod yX4_takeTimes, Cond.selects RX4 yX4_takeTimes yX4_takeTimes, Cond.code yX4_takeTimes cX4_takeTimes 5 none, Cond.methodLink RX4 56 yX4_startAtIdentity, Cond.methodLink RX4 62 yX4_addPoint, Cond.methodLink RL 66 yX6_scalarMul, Cond.instanceMethod yX6_scalarMul, Cond.selects RX6 yX6_scalarMul yX6_scalarMul, Cond.code yX6_scalarMul cX6_scalarMul 5 (some .boolean)]
def wsL_law_r24 : List Cond := [Cond.methodLink RX6 175 yX6_isScalar, Cond.static yX6_isScalar, Cond.code yX6_isScalar cX6_isScalar 1 (some .boolean), Cond.methodLink RX6 178 yX6_multiply, Cond.instanceMethod yX6_multiply, Cond.selects RX6 yX6_multiply yX6_multiply, Cond.code yX6_multiply cX6_multiply 7 (some .boolean), Cond.methodLink RL 67 yX5_negate, Cond.instanceMethod yX5_negate, Cond.selects RX5 yX5_negate yX5_negate, Cond.code yX5_negate cX5_negate 3 (some .boolean), Cond.methodLink RX5 155 yX2_copyFrom, Cond.instanceMethod yX2_copyFrom, Cond.selects RX2 yX2_copyFrom yX2_copyFrom, Cond.code yX2_copyFrom cX2_copyFrom 2 none, Cond.methodLink RX2 26 yX1_copy, Cond.methodLink RX5 158 yX0_mirror, Cond.instanceMethod yX0_mirror, Cond.selects RX0 yX0_mirror yX0_mirror, Cond.code yX0_mirror cX0_mirror 2 none, Cond.methodLink RX0 80 yX1_set, Cond.methodLink RX0 84 yX3_subtract, Cond.methodLink RL 70 yX6_negate, Cond.instanceMethod yX6_negate]
def wsL_law_r25 : List Cond := [Cond.selects RX6 yX6_negate yX6_negate, Cond.code yX6_negate cX6_negate 4 (some .boolean), Cond.methodLink RL 71 yX5_isSame, Cond.instanceMethod yX5_isSame, Cond.selects RX5 yX5_isSame yX5_isSame, Cond.code yX5_isSame cX5_isSame 3 (some .boolean), Cond.methodLink RX5 161 yX2_sameAs, Cond.instanceMethod yX2_sameAs, Cond.selects RX2 yX2_sameAs yX2_sameAs, Cond.code yX2_sameAs cX2_sameAs 2 (some .boolean), Cond.methodLink RX2 30 yX1_compare, Cond.methodLink RL 74 yX6_isSame, Cond.instanceMethod yX6_isSame, Cond.selects RX6 yX6_isSame yX6_isSame, Cond.code yX6_isSame cX6_isSame 5 (some .boolean), Cond.methodLink RL 75 yX5_verify, Cond.instanceMethod yX5_verify, Cond.selects RX5 yX5_verify yX5_verify, Cond.code yX5_verify cX5_verify 7 (some .int), Cond.methodLink RX5 164 yX3_takeModulus, Cond.methodLink RX5 168 yX5_isSignaturePart, Cond.instanceMethod yX5_isSignaturePart, Cond.selects RX5 yX5_isSignaturePart yX5_isSignaturePart, Cond.code yX5_isSignaturePart cX5_isSignaturePart 2 (some .boolean)]
def wsL_law_r26 : List Cond := [Cond.methodLink RX5 211 yX1_isZero, Cond.methodLink RX5 189 yX1_compare, Cond.methodLink RX5 171 yX3_invert, Cond.methodLink RX5 175 yX3_reduce, Cond.instanceMethod yX3_reduce, Cond.selects RX3 yX3_reduce yX3_reduce, Cond.code yX3_reduce cX3_reduce 3 none, Cond.methodLink RX3 63 arraycopyName, Cond.methodLink RX5 179 yX3_multiply, Cond.methodLink RL 79 yX6_verify, Cond.instanceMethod yX6_verify, Cond.selects RX6 yX6_verify yX6_verify, Cond.code yX6_verify cX6_verify 6 (some .int), Cond.methodLink RX6 181 yX6_inverse, Cond.instanceMethod yX6_inverse, Cond.selects RX6 yX6_inverse yX6_inverse, Cond.code yX6_inverse cX6_inverse 9 (some .boolean), Cond.methodLink RX6 132 yX6_rest, Cond.instanceMethod yX6_rest, Cond.selects RX6 yX6_rest yX6_rest, Cond.code yX6_rest cX6_rest 4 none, Cond.methodLink RX6 90 yX6_toU, Cond.instanceMethod yX6_toU, Cond.selects RX6 yX6_toU yX6_toU]
def wsL_law_r27 : List Cond := [Cond.code yX6_toU cX6_toU 3 none, Cond.methodLink RL 80 yX5_reckon, Cond.instanceMethod yX5_reckon, Cond.selects RX5 yX5_reckon yX5_reckon, Cond.code yX5_reckon cX5_reckon 5 (some .boolean), Cond.methodLink RX5 195 yX5_combineModuloOrder, Cond.instanceMethod yX5_combineModuloOrder, Cond.selects RX5 yX5_combineModuloOrder yX5_combineModuloOrder, Cond.code yX5_combineModuloOrder cX5_combineModuloOrder 2 none, Cond.methodLink RX5 214 yX3_add, Cond.methodLink RX5 217 yX3_subtract, Cond.methodLink RX5 198 yX1_copy, Cond.methodLink RL 84 yX6_reckon, Cond.instanceMethod yX6_reckon, Cond.selects RX6 yX6_reckon yX6_reckon, Cond.code yX6_reckon cX6_reckon 7 (some .boolean), Cond.methodLink RL 85 yX5_state, Cond.instanceMethod yX5_state, Cond.selects RX5 yX5_state yX5_state, Cond.code yX5_state cX5_state 2 (some .int), Cond.methodLink RL 89 yX6_state, Cond.instanceMethod yX6_state, Cond.selects RX6 yX6_state yX6_state, Cond.code yX6_state cX6_state 2 (some .int)]
def wsL_law : List Cond := (wsL_law_r1 ++ (wsL_law_r2 ++ (wsL_law_r3 ++ (wsL_law_r4 ++ (wsL_law_r5 ++ (wsL_law_r6 ++ (wsL_law_r7 ++ (wsL_law_r8 ++ (wsL_law_r9 ++ (wsL_law_r10 ++ (wsL_law_r11 ++ (wsL_law_r12 ++ (wsL_law_r13 ++ (wsL_law_r14 ++ (wsL_law_r15 ++ (wsL_law_r16 ++ (wsL_law_r17 ++ (wsL_law_r18 ++ (wsL_law_r19 ++ (wsL_law_r20 ++ (wsL_law_r21 ++ (wsL_law_r22 ++ (wsL_law_r23 ++ (wsL_law_r24 ++ (wsL_law_r25 ++ (wsL_law_r26 ++ wsL_law_r27)))))))))))))))))))))))))) ++ wsX50 ++ wsX60 ++ wsX20 ++ wsX30 ++ wsX00 ++ wsX40 ++ ([] : List Cond)
end
section
theorem dX0_init_0 : decode cX0_init 0 = .ok (.aload_n 0, 1) := by decide +kernel
theorem dX0_init_1 : decode cX0_init 1 = .ok (.invokespecial 3, 3) := by decide +kernel
theorem dX0_init_4 : decode cX0_init 4 = .ok (.aload_n 0, 1) := by decide +kernel
theorem dX0_init_5 : decode cX0_init 5 = .ok (.aload_n 1, 1) := by decide +kernel
theorem dX0_init_6 : decode cX0_init 6 = .ok (.iconst 0, 1) := by decide +kernel
theorem dX0_init_7 : decode cX0_init 7 = .ok (.aaload, 1) := by decide +kernel
theorem dX0_init_8 : decode cX0_init 8 = .ok (.putfield 9, 3) := by decide +kernel
theorem dX0_init_11 : decode cX0_init 11 = .ok (.aload_n 0, 1) := by decide +kernel
theorem dX0_init_12 : decode cX0_init 12 = .ok (.aload_n 1, 1) := by decide +kernel
theorem dX0_init_13 : decode cX0_init 13 = .ok (.iconst 1, 1) := by decide +kernel
theorem dX0_init_14 : decode cX0_init 14 = .ok (.aaload, 1) := by decide +kernel
theorem dX0_init_15 : decode cX0_init 15 = .ok (.putfield 15, 3) := by decide +kernel
theorem dX0_init_18 : decode cX0_init 18 = .ok (.aload_n 0, 1) := by decide +kernel
theorem dX0_init_19 : decode cX0_init 19 = .ok (.aload_n 1, 1) := by decide +kernel
theorem dX0_init_20 : decode cX0_init 20 = .ok (.iconst 2, 1) := by decide +kernel
theorem dX0_init_21 : decode cX0_init 21 = .ok (.aaload, 1) := by decide +kernel
theorem dX0_init_22 : decode cX0_init 22 = .ok (.putfield 18, 3) := by decide +kernel
theorem dX0_init_25 : decode cX0_init 25 = .ok (.aload_n 0, 1) := by decide +kernel
theorem dX0_init_26 : decode cX0_init 26 = .ok (.aload_n 2, 1) := by decide +kernel
theorem dX0_init_27 : decode cX0_init 27 = .ok (.putfield 21, 3) := by decide +kernel
theorem dX0_init_30 : decode cX0_init 30 = .ok (.aload_n 0, 1) := by decide +kernel
theorem dX0_init_31 : decode cX0_init 31 = .ok (.aload_n 0, 1) := by decide +kernel
theorem dX0_init_32 : decode cX0_init 32 = .ok (.getfield 9, 3) := by decide +kernel
theorem dX0_init_35 : decode cX0_init 35 = .ok (.arraylength, 1) := by decide +kernel
theorem dX0_init_36 : decode cX0_init 36 = .ok (.newarray .int, 2) := by decide +kernel
theorem dX0_init_38 : decode cX0_init 38 = .ok (.putfield 25, 3) := by decide +kernel
theorem dX0_init_41 : decode cX0_init 41 = .ok (.aload_n 0, 1) := by decide +kernel
theorem dX0_init_42 : decode cX0_init 42 = .ok (.aload_n 0, 1) := by decide +kernel
theorem dX0_init_43 : decode cX0_init 43 = .ok (.getfield 9, 3) := by decide +kernel
theorem dX0_init_46 : decode cX0_init 46 = .ok (.arraylength, 1) := by decide +kernel
theorem dX0_init_47 : decode cX0_init 47 = .ok (.newarray .int, 2) := by decide +kernel
theorem dX0_init_49 : decode cX0_init 49 = .ok (.putfield 28, 3) := by decide +kernel
theorem dX0_init_52 : decode cX0_init 52 = .ok (.return_, 1) := by decide +kernel
set_option maxRecDepth 20000 in
theorem ggX0_takeParameters_X1_bitsOf : GoodIn wsX0_takeParameters wsX1_bitsOf := goodIn_r _ [8, 9, 10, 7, 11, 12, 13, 14, 15, 16] (by decide +kernel) (by decide +kernel)
set_option maxRecDepth 20000 in
theorem gX0_takeParameters_X1_bitsOf : GoodIn wsX0_takeParameters (va_wsS RX0 31 yX1_bitsOf wsX1_bitsOf) := goodIn_app (goodIn_of _ (by decide +kernel)) ggX0_takeParameters_X1_bitsOf
set_option maxRecDepth 20000 in
theorem ggX0_takeParameters_X1_compare : GoodIn wsX0_takeParameters wsX1_compare := goodIn_r _ [19] (by decide +kernel) (by decide +kernel)
set_option maxRecDepth 20000 in
theorem gX0_takeParameters_X1_compare : GoodIn wsX0_takeParameters (va_wsS RX0 37 yX1_compare wsX1_compare) := goodIn_app (goodIn_of _ (by decide +kernel)) ggX0_takeParameters_X1_compare
set_option maxRecDepth 20000 in
theorem ggX0_takeParameters_X3_takeModulus : GoodIn wsX0_takeParameters wsX3_takeModulus := goodIn_r _ [24, 25, 26, 27, 28, 29, 30, 7, 31, 32, 33, 34, 35, 36, 10, 11, 37, 13, 14, 15, 16, 38, 39, 40, 41, 106, 107, 108, 109, 110, 111, 112, 113, 114, 115] (by decide +kernel) (by decide +kernel)
set_option maxRecDepth 20000 in
theorem gX0_takeParameters_X3_takeModulus : GoodIn wsX0_takeParameters (wsV RX0 41 RX3 yX3_takeModulus wsX3_takeModulus) := goodIn_app (goodIn_of _ (by decide +kernel)) ggX0_takeParameters_X3_takeModulus
set_option maxRecDepth 20000 in
theorem ggX0_takeParameters_X0_isSingular : GoodIn wsX0_takeParameters wsX0_isSingular := goodIn_r _ [46, 4, 47, 2, 48, 3, 49, 50, 51, 23, 52, 53, 26, 54, 55, 56, 57, 58, 59, 60, 61, 62, 28, 63, 64, 65, 66, 67, 68, 69, 70, 27, 71, 72, 73, 74, 75, 76, 77, 78, 79, 80, 81, 82, 83, 84, 85, 86, 25, 87, 88, 7, 89, 41, 90, 18, 19, 91, 92, 93, 94, 95, 96, 97, 98, 99, 9, 10, 11, 100, 101, 102, 103, 104, 105, 106, 107, 108, 109, 110, 111, 112, 113, 114, 115] (by decide +kernel) (by decide +kernel)
set_option maxRecDepth 20000 in
theorem gX0_takeParameters_X0_isSingular : GoodIn wsX0_takeParameters (wsV RX0 47 RX0 yX0_isSingular wsX0_isSingular) := goodIn_app (goodIn_of _ (by decide +kernel)) ggX0_takeParameters_X0_isSingular
theorem dX0_takeParameters_0 : decode cX0_takeParameters 0 = .ok (.aload_n 0, 1) := by decide +kernel
theorem dX0_takeParameters_1 : decode cX0_takeParameters 1 = .ok (.getfield 9, 3) := by decide +kernel
theorem dX0_takeParameters_4 : decode cX0_takeParameters 4 = .ok (.iconst 0, 1) := by decide +kernel
theorem dX0_takeParameters_5 : decode cX0_takeParameters 5 = .ok (.iaload, 1) := by decide +kernel
theorem dX0_takeParameters_6 : decode cX0_takeParameters 6 = .ok (.iconst 1, 1) := by decide +kernel
theorem dX0_takeParameters_7 : decode cX0_takeParameters 7 = .ok (.iand, 1) := by decide +kernel
theorem dX0_takeParameters_8 : decode cX0_takeParameters 8 = .ok (.ifCond .eq 14, 3) := by decide +kernel
theorem dX0_takeParameters_11 : decode cX0_takeParameters 11 = .ok (.aload_n 0, 1) := by decide +kernel
theorem dX0_takeParameters_12 : decode cX0_takeParameters 12 = .ok (.getfield 9, 3) := by decide +kernel
theorem dX0_takeParameters_15 : decode cX0_takeParameters 15 = .ok (.invokestatic 31, 3) := by decide +kernel
theorem dX0_takeParameters_18 : decode cX0_takeParameters 18 = .ok (.iconst 3, 1) := by decide +kernel
theorem dX0_takeParameters_19 : decode cX0_takeParameters 19 = .ok (.if_icmp .ge 5, 3) := by decide +kernel
theorem dX0_takeParameters_22 : decode cX0_takeParameters 22 = .ok (.iconst 1, 1) := by decide +kernel
theorem dX0_takeParameters_23 : decode cX0_takeParameters 23 = .ok (.ireturn, 1) := by decide +kernel
theorem dX0_takeParameters_24 : decode cX0_takeParameters 24 = .ok (.aload_n 0, 1) := by decide +kernel
theorem dX0_takeParameters_25 : decode cX0_takeParameters 25 = .ok (.getfield 15, 3) := by decide +kernel
theorem dX0_takeParameters_28 : decode cX0_takeParameters 28 = .ok (.aload_n 0, 1) := by decide +kernel
theorem dX0_takeParameters_29 : decode cX0_takeParameters 29 = .ok (.getfield 9, 3) := by decide +kernel
theorem dX0_takeParameters_32 : decode cX0_takeParameters 32 = .ok (.invokestatic 37, 3) := by decide +kernel
theorem dX0_takeParameters_35 : decode cX0_takeParameters 35 = .ok (.ifCond .ge 17, 3) := by decide +kernel
theorem dX0_takeParameters_38 : decode cX0_takeParameters 38 = .ok (.aload_n 0, 1) := by decide +kernel
theorem dX0_takeParameters_39 : decode cX0_takeParameters 39 = .ok (.getfield 18, 3) := by decide +kernel
theorem dX0_takeParameters_42 : decode cX0_takeParameters 42 = .ok (.aload_n 0, 1) := by decide +kernel
theorem dX0_takeParameters_43 : decode cX0_takeParameters 43 = .ok (.getfield 9, 3) := by decide +kernel
theorem dX0_takeParameters_46 : decode cX0_takeParameters 46 = .ok (.invokestatic 37, 3) := by decide +kernel
theorem dX0_takeParameters_49 : decode cX0_takeParameters 49 = .ok (.ifCond .lt 5, 3) := by decide +kernel
theorem dX0_takeParameters_52 : decode cX0_takeParameters 52 = .ok (.iconst 2, 1) := by decide +kernel
theorem dX0_takeParameters_53 : decode cX0_takeParameters 53 = .ok (.ireturn, 1) := by decide +kernel
theorem dX0_takeParameters_54 : decode cX0_takeParameters 54 = .ok (.aload_n 0, 1) := by decide +kernel
theorem dX0_takeParameters_55 : decode cX0_takeParameters 55 = .ok (.getfield 21, 3) := by decide +kernel
theorem dX0_takeParameters_58 : decode cX0_takeParameters 58 = .ok (.aload_n 0, 1) := by decide +kernel
theorem dX0_takeParameters_59 : decode cX0_takeParameters 59 = .ok (.getfield 9, 3) := by decide +kernel
theorem dX0_takeParameters_62 : decode cX0_takeParameters 62 = .ok (.invokevirtual 41, 3) := by decide +kernel
theorem dX0_takeParameters_65 : decode cX0_takeParameters 65 = .ok (.pop, 1) := by decide +kernel
theorem dX0_takeParameters_66 : decode cX0_takeParameters 66 = .ok (.aload_n 0, 1) := by decide +kernel
theorem dX0_takeParameters_67 : decode cX0_takeParameters 67 = .ok (.invokevirtual 47, 3) := by decide +kernel
theorem dX0_takeParameters_70 : decode cX0_takeParameters 70 = .ok (.ifCond .eq 7, 3) := by decide +kernel
theorem dX0_takeParameters_73 : decode cX0_takeParameters 73 = .ok (.iconst 3, 1) := by decide +kernel
theorem dX0_takeParameters_74 : decode cX0_takeParameters 74 = .ok (.goto 4, 3) := by decide +kernel
theorem dX0_takeParameters_77 : decode cX0_takeParameters 77 = .ok (.iconst 0, 1) := by decide +kernel
theorem dX0_takeParameters_78 : decode cX0_takeParameters 78 = .ok (.ireturn, 1) := by decide +kernel
set_option maxRecDepth 20000 in
theorem ggX0_isSingular_X3_multiply : GoodIn wsX0_isSingular wsX3_multiply := goodIn_r _ [10, 11, 12, 13, 14, 15, 16, 17, 18, 19, 20, 9, 21, 22, 23, 24, 25, 26, 27, 28, 29, 30, 31, 32, 33, 34, 35, 36, 37, 38, 39, 75, 76, 77, 78, 79, 80, 81, 82, 83, 84] (by decide +kernel) (by decide +kernel)
set_option maxRecDepth 20000 in
theorem gX0_isSingular_X3_multiply : GoodIn wsX0_isSingular (wsV RX0 51 RX3 yX3_multiply wsX3_multiply) := goodIn_app (goodIn_of _ (by decide +kernel)) ggX0_isSingular_X3_multiply
set_option maxRecDepth 20000 in
theorem ggX0_isSingular_X3_twice : GoodIn wsX0_isSingular wsX3_twice := goodIn_r _ [43, 44, 45, 46, 9, 47, 48, 49, 50, 51, 52, 53, 54, 55, 56, 75, 76, 77, 78, 79, 80, 81, 82, 83, 84] (by decide +kernel) (by decide +kernel)
set_option maxRecDepth 20000 in
theorem gX0_isSingular_X3_twice : GoodIn wsX0_isSingular (wsV RX0 55 RX3 yX3_twice wsX3_twice) := goodIn_app (goodIn_of _ (by decide +kernel)) ggX0_isSingular_X3_twice
set_option maxRecDepth 20000 in
theorem ggX0_isSingular_X3_thrice : GoodIn wsX0_isSingular wsX3_thrice := goodIn_r _ [60, 61, 44, 45, 46, 9, 47, 48, 49, 50, 51, 52, 53, 54, 55, 56, 75, 76, 77, 78, 79, 80, 81, 82, 83, 84] (by decide +kernel) (by decide +kernel)
set_option maxRecDepth 20000 in
theorem gX0_isSingular_X3_thrice : GoodIn wsX0_isSingular (wsV RX0 59 RX3 yX3_thrice wsX3_thrice) := goodIn_app (goodIn_of _ (by decide +kernel)) ggX0_isSingular_X3_thrice
set_option maxRecDepth 20000 in
theorem ggX0_isSingular_X3_add : GoodIn wsX0_isSingular wsX3_add := goodIn_r _ [47, 48, 49, 50, 51, 52, 53, 54, 55, 56, 75, 76, 77, 78, 79, 80, 81, 82, 83, 84] (by decide +kernel) (by decide +kernel)
set_option maxRecDepth 20000 in
theorem gX0_isSingular_X3_add : GoodIn wsX0_isSingular (wsV RX0 62 RX3 yX3_add wsX3_add) := goodIn_app (goodIn_of _ (by decide +kernel)) ggX0_isSingular_X3_add
set_option maxRecDepth 20000 in
theorem ggX0_isSingular_X1_isZero : GoodIn wsX0_isSingular wsX1_isZero := goodIn_r _ [65, 66, 67, 51, 68] (by decide +kernel) (by decide +kernel)
set_option maxRecDepth 20000 in
theorem gX0_isSingular_X1_isZero : GoodIn wsX0_isSingular (va_wsS RX0 65 yX1_isZero wsX1_isZero) := goodIn_app (goodIn_of _ (by decide +kernel)) ggX0_isSingular_X1_isZero
theorem dX0_isSingular_0 : decode cX0_isSingular 0 = .ok (.aload_n 0, 1) := by decide +kernel
theorem dX0_isSingular_1 : decode cX0_isSingular 1 = .ok (.getfield 21, 3) := by decide +kernel
theorem dX0_isSingular_4 : decode cX0_isSingular 4 = .ok (.aload_n 0, 1) := by decide +kernel
theorem dX0_isSingular_5 : decode cX0_isSingular 5 = .ok (.getfield 25, 3) := by decide +kernel
theorem dX0_isSingular_8 : decode cX0_isSingular 8 = .ok (.aload_n 0, 1) := by decide +kernel
theorem dX0_isSingular_9 : decode cX0_isSingular 9 = .ok (.getfield 15, 3) := by decide +kernel
theorem dX0_isSingular_12 : decode cX0_isSingular 12 = .ok (.aload_n 0, 1) := by decide +kernel
theorem dX0_isSingular_13 : decode cX0_isSingular 13 = .ok (.getfield 15, 3) := by decide +kernel
theorem dX0_isSingular_16 : decode cX0_isSingular 16 = .ok (.invokevirtual 51, 3) := by decide +kernel
theorem dX0_isSingular_19 : decode cX0_isSingular 19 = .ok (.aload_n 0, 1) := by decide +kernel
theorem dX0_isSingular_20 : decode cX0_isSingular 20 = .ok (.getfield 21, 3) := by decide +kernel
theorem dX0_isSingular_23 : decode cX0_isSingular 23 = .ok (.aload_n 0, 1) := by decide +kernel
theorem dX0_isSingular_24 : decode cX0_isSingular 24 = .ok (.getfield 25, 3) := by decide +kernel
theorem dX0_isSingular_27 : decode cX0_isSingular 27 = .ok (.aload_n 0, 1) := by decide +kernel
theorem dX0_isSingular_28 : decode cX0_isSingular 28 = .ok (.getfield 25, 3) := by decide +kernel
theorem dX0_isSingular_31 : decode cX0_isSingular 31 = .ok (.aload_n 0, 1) := by decide +kernel
theorem dX0_isSingular_32 : decode cX0_isSingular 32 = .ok (.getfield 15, 3) := by decide +kernel
theorem dX0_isSingular_35 : decode cX0_isSingular 35 = .ok (.invokevirtual 51, 3) := by decide +kernel
theorem dX0_isSingular_38 : decode cX0_isSingular 38 = .ok (.aload_n 0, 1) := by decide +kernel
theorem dX0_isSingular_39 : decode cX0_isSingular 39 = .ok (.getfield 21, 3) := by decide +kernel
theorem dX0_isSingular_42 : decode cX0_isSingular 42 = .ok (.aload_n 0, 1) := by decide +kernel
theorem dX0_isSingular_43 : decode cX0_isSingular 43 = .ok (.getfield 25, 3) := by decide +kernel
theorem dX0_isSingular_46 : decode cX0_isSingular 46 = .ok (.aload_n 0, 1) := by decide +kernel
theorem dX0_isSingular_47 : decode cX0_isSingular 47 = .ok (.getfield 25, 3) := by decide +kernel
theorem dX0_isSingular_50 : decode cX0_isSingular 50 = .ok (.invokevirtual 55, 3) := by decide +kernel
theorem dX0_isSingular_53 : decode cX0_isSingular 53 = .ok (.aload_n 0, 1) := by decide +kernel
theorem dX0_isSingular_54 : decode cX0_isSingular 54 = .ok (.getfield 21, 3) := by decide +kernel
theorem dX0_isSingular_57 : decode cX0_isSingular 57 = .ok (.aload_n 0, 1) := by decide +kernel
theorem dX0_isSingular_58 : decode cX0_isSingular 58 = .ok (.getfield 25, 3) := by decide +kernel
theorem dX0_isSingular_61 : decode cX0_isSingular 61 = .ok (.aload_n 0, 1) := by decide +kernel
theorem dX0_isSingular_62 : decode cX0_isSingular 62 = .ok (.getfield 25, 3) := by decide +kernel
theorem dX0_isSingular_65 : decode cX0_isSingular 65 = .ok (.invokevirtual 55, 3) := by decide +kernel
theorem dX0_isSingular_68 : decode cX0_isSingular 68 = .ok (.aload_n 0, 1) := by decide +kernel
theorem dX0_isSingular_69 : decode cX0_isSingular 69 = .ok (.getfield 21, 3) := by decide +kernel
theorem dX0_isSingular_72 : decode cX0_isSingular 72 = .ok (.aload_n 0, 1) := by decide +kernel
theorem dX0_isSingular_73 : decode cX0_isSingular 73 = .ok (.getfield 28, 3) := by decide +kernel
theorem dX0_isSingular_76 : decode cX0_isSingular 76 = .ok (.aload_n 0, 1) := by decide +kernel
theorem dX0_isSingular_77 : decode cX0_isSingular 77 = .ok (.getfield 18, 3) := by decide +kernel
theorem dX0_isSingular_80 : decode cX0_isSingular 80 = .ok (.aload_n 0, 1) := by decide +kernel
theorem dX0_isSingular_81 : decode cX0_isSingular 81 = .ok (.getfield 18, 3) := by decide +kernel
theorem dX0_isSingular_84 : decode cX0_isSingular 84 = .ok (.invokevirtual 51, 3) := by decide +kernel
theorem dX0_isSingular_87 : decode cX0_isSingular 87 = .ok (.aload_n 0, 1) := by decide +kernel
theorem dX0_isSingular_88 : decode cX0_isSingular 88 = .ok (.getfield 21, 3) := by decide +kernel
theorem dX0_isSingular_91 : decode cX0_isSingular 91 = .ok (.aload_n 0, 1) := by decide +kernel
theorem dX0_isSingular_92 : decode cX0_isSingular 92 = .ok (.getfield 28, 3) := by decide +kernel
theorem dX0_isSingular_95 : decode cX0_isSingular 95 = .ok (.aload_n 0, 1) := by decide +kernel
theorem dX0_isSingular_96 : decode cX0_isSingular 96 = .ok (.getfield 28, 3) := by decide +kernel
theorem dX0_isSingular_99 : decode cX0_isSingular 99 = .ok (.invokevirtual 59, 3) := by decide +kernel
theorem dX0_isSingular_102 : decode cX0_isSingular 102 = .ok (.aload_n 0, 1) := by decide +kernel
theorem dX0_isSingular_103 : decode cX0_isSingular 103 = .ok (.getfield 21, 3) := by decide +kernel
theorem dX0_isSingular_106 : decode cX0_isSingular 106 = .ok (.aload_n 0, 1) := by decide +kernel
theorem dX0_isSingular_107 : decode cX0_isSingular 107 = .ok (.getfield 28, 3) := by decide +kernel
theorem dX0_isSingular_110 : decode cX0_isSingular 110 = .ok (.aload_n 0, 1) := by decide +kernel
theorem dX0_isSingular_111 : decode cX0_isSingular 111 = .ok (.getfield 28, 3) := by decide +kernel
theorem dX0_isSingular_114 : decode cX0_isSingular 114 = .ok (.invokevirtual 59, 3) := by decide +kernel
theorem dX0_isSingular_117 : decode cX0_isSingular 117 = .ok (.aload_n 0, 1) := by decide +kernel
theorem dX0_isSingular_118 : decode cX0_isSingular 118 = .ok (.getfield 21, 3) := by decide +kernel
theorem dX0_isSingular_121 : decode cX0_isSingular 121 = .ok (.aload_n 0, 1) := by decide +kernel
theorem dX0_isSingular_122 : decode cX0_isSingular 122 = .ok (.getfield 28, 3) := by decide +kernel
theorem dX0_isSingular_125 : decode cX0_isSingular 125 = .ok (.aload_n 0, 1) := by decide +kernel
theorem dX0_isSingular_126 : decode cX0_isSingular 126 = .ok (.getfield 28, 3) := by decide +kernel
theorem dX0_isSingular_129 : decode cX0_isSingular 129 = .ok (.invokevirtual 59, 3) := by decide +kernel
theorem dX0_isSingular_132 : decode cX0_isSingular 132 = .ok (.aload_n 0, 1) := by decide +kernel
theorem dX0_isSingular_133 : decode cX0_isSingular 133 = .ok (.getfield 21, 3) := by decide +kernel
theorem dX0_isSingular_136 : decode cX0_isSingular 136 = .ok (.aload_n 0, 1) := by decide +kernel
theorem dX0_isSingular_137 : decode cX0_isSingular 137 = .ok (.getfield 25, 3) := by decide +kernel
theorem dX0_isSingular_140 : decode cX0_isSingular 140 = .ok (.aload_n 0, 1) := by decide +kernel
theorem dX0_isSingular_141 : decode cX0_isSingular 141 = .ok (.getfield 25, 3) := by decide +kernel
theorem dX0_isSingular_144 : decode cX0_isSingular 144 = .ok (.aload_n 0, 1) := by decide +kernel
theorem dX0_isSingular_145 : decode cX0_isSingular 145 = .ok (.getfield 28, 3) := by decide +kernel
theorem dX0_isSingular_148 : decode cX0_isSingular 148 = .ok (.invokevirtual 62, 3) := by decide +kernel
theorem dX0_isSingular_151 : decode cX0_isSingular 151 = .ok (.aload_n 0, 1) := by decide +kernel
theorem dX0_isSingular_152 : decode cX0_isSingular 152 = .ok (.getfield 25, 3) := by decide +kernel
theorem dX0_isSingular_155 : decode cX0_isSingular 155 = .ok (.invokestatic 65, 3) := by decide +kernel
theorem dX0_isSingular_158 : decode cX0_isSingular 158 = .ok (.ireturn, 1) := by decide +kernel
set_option maxRecDepth 20000 in
theorem ggX0_holds_X1_compare : GoodIn wsX0_holds wsX1_compare := goodIn_r _ [13] (by decide +kernel) (by decide +kernel)
set_option maxRecDepth 20000 in
theorem gX0_holds_X1_compare : GoodIn wsX0_holds (va_wsS RX0 37 yX1_compare wsX1_compare) := goodIn_app (goodIn_of _ (by decide +kernel)) ggX0_holds_X1_compare
set_option maxRecDepth 20000 in
theorem ggX0_holds_X3_multiply : GoodIn wsX0_holds wsX3_multiply := goodIn_r _ [18, 19, 20, 21, 22, 23, 24, 25, 26, 27, 28, 17, 29, 30, 31, 32, 33, 34, 35, 36, 37, 38, 39, 40, 41, 42, 43, 44, 45, 46, 47, 67, 68, 69, 70, 71, 72, 73, 74, 75, 76] (by decide +kernel) (by decide +kernel)
set_option maxRecDepth 20000 in
theorem gX0_holds_X3_multiply : GoodIn wsX0_holds (wsV RX0 51 RX3 yX3_multiply wsX3_multiply) := goodIn_app (goodIn_of _ (by decide +kernel)) ggX0_holds_X3_multiply
set_option maxRecDepth 20000 in
theorem ggX0_holds_X3_add : GoodIn wsX0_holds wsX3_add := goodIn_r _ [51, 52, 53, 54, 12, 55, 56, 57, 11, 13, 67, 68, 69, 70, 71, 72, 73, 74, 75, 76] (by decide +kernel) (by decide +kernel)
set_option maxRecDepth 20000 in
theorem gX0_holds_X3_add : GoodIn wsX0_holds (wsV RX0 62 RX3 yX3_add wsX3_add) := goodIn_app (goodIn_of _ (by decide +kernel)) ggX0_holds_X3_add
theorem dX0_holds_0 : decode cX0_holds 0 = .ok (.aload_n 1, 1) := by decide +kernel
theorem dX0_holds_1 : decode cX0_holds 1 = .ok (.getfield 68, 3) := by decide +kernel
theorem dX0_holds_4 : decode cX0_holds 4 = .ok (.ifCond .eq 5, 3) := by decide +kernel
theorem dX0_holds_7 : decode cX0_holds 7 = .ok (.iconst 1, 1) := by decide +kernel
theorem dX0_holds_8 : decode cX0_holds 8 = .ok (.ireturn, 1) := by decide +kernel
theorem dX0_holds_9 : decode cX0_holds 9 = .ok (.aload_n 1, 1) := by decide +kernel
theorem dX0_holds_10 : decode cX0_holds 10 = .ok (.getfield 74, 3) := by decide +kernel
theorem dX0_holds_13 : decode cX0_holds 13 = .ok (.aload_n 0, 1) := by decide +kernel
theorem dX0_holds_14 : decode cX0_holds 14 = .ok (.getfield 9, 3) := by decide +kernel
theorem dX0_holds_17 : decode cX0_holds 17 = .ok (.invokestatic 37, 3) := by decide +kernel
theorem dX0_holds_20 : decode cX0_holds 20 = .ok (.ifCond .ge 17, 3) := by decide +kernel
theorem dX0_holds_23 : decode cX0_holds 23 = .ok (.aload_n 1, 1) := by decide +kernel
theorem dX0_holds_24 : decode cX0_holds 24 = .ok (.getfield 77, 3) := by decide +kernel
theorem dX0_holds_27 : decode cX0_holds 27 = .ok (.aload_n 0, 1) := by decide +kernel
theorem dX0_holds_28 : decode cX0_holds 28 = .ok (.getfield 9, 3) := by decide +kernel
theorem dX0_holds_31 : decode cX0_holds 31 = .ok (.invokestatic 37, 3) := by decide +kernel
theorem dX0_holds_34 : decode cX0_holds 34 = .ok (.ifCond .lt 5, 3) := by decide +kernel
theorem dX0_holds_37 : decode cX0_holds 37 = .ok (.iconst 0, 1) := by decide +kernel
theorem dX0_holds_38 : decode cX0_holds 38 = .ok (.ireturn, 1) := by decide +kernel
theorem dX0_holds_39 : decode cX0_holds 39 = .ok (.aload_n 0, 1) := by decide +kernel
theorem dX0_holds_40 : decode cX0_holds 40 = .ok (.getfield 21, 3) := by decide +kernel
theorem dX0_holds_43 : decode cX0_holds 43 = .ok (.aload_n 0, 1) := by decide +kernel
theorem dX0_holds_44 : decode cX0_holds 44 = .ok (.getfield 25, 3) := by decide +kernel
theorem dX0_holds_47 : decode cX0_holds 47 = .ok (.aload_n 1, 1) := by decide +kernel
theorem dX0_holds_48 : decode cX0_holds 48 = .ok (.getfield 77, 3) := by decide +kernel
theorem dX0_holds_51 : decode cX0_holds 51 = .ok (.aload_n 1, 1) := by decide +kernel
theorem dX0_holds_52 : decode cX0_holds 52 = .ok (.getfield 77, 3) := by decide +kernel
theorem dX0_holds_55 : decode cX0_holds 55 = .ok (.invokevirtual 51, 3) := by decide +kernel
theorem dX0_holds_58 : decode cX0_holds 58 = .ok (.aload_n 0, 1) := by decide +kernel
theorem dX0_holds_59 : decode cX0_holds 59 = .ok (.getfield 21, 3) := by decide +kernel
theorem dX0_holds_62 : decode cX0_holds 62 = .ok (.aload_n 0, 1) := by decide +kernel
theorem dX0_holds_63 : decode cX0_holds 63 = .ok (.getfield 28, 3) := by decide +kernel
theorem dX0_holds_66 : decode cX0_holds 66 = .ok (.aload_n 1, 1) := by decide +kernel
theorem dX0_holds_67 : decode cX0_holds 67 = .ok (.getfield 74, 3) := by decide +kernel
theorem dX0_holds_70 : decode cX0_holds 70 = .ok (.aload_n 1, 1) := by decide +kernel
theorem dX0_holds_71 : decode cX0_holds 71 = .ok (.getfield 74, 3) := by decide +kernel
theorem dX0_holds_74 : decode cX0_holds 74 = .ok (.invokevirtual 51, 3) := by decide +kernel
theorem dX0_holds_77 : decode cX0_holds 77 = .ok (.aload_n 0, 1) := by decide +kernel
theorem dX0_holds_78 : decode cX0_holds 78 = .ok (.getfield 21, 3) := by decide +kernel
theorem dX0_holds_81 : decode cX0_holds 81 = .ok (.aload_n 0, 1) := by decide +kernel
theorem dX0_holds_82 : decode cX0_holds 82 = .ok (.getfield 28, 3) := by decide +kernel
theorem dX0_holds_85 : decode cX0_holds 85 = .ok (.aload_n 0, 1) := by decide +kernel
theorem dX0_holds_86 : decode cX0_holds 86 = .ok (.getfield 28, 3) := by decide +kernel
theorem dX0_holds_89 : decode cX0_holds 89 = .ok (.aload_n 0, 1) := by decide +kernel
theorem dX0_holds_90 : decode cX0_holds 90 = .ok (.getfield 15, 3) := by decide +kernel
theorem dX0_holds_93 : decode cX0_holds 93 = .ok (.invokevirtual 62, 3) := by decide +kernel
theorem dX0_holds_96 : decode cX0_holds 96 = .ok (.aload_n 0, 1) := by decide +kernel
theorem dX0_holds_97 : decode cX0_holds 97 = .ok (.getfield 21, 3) := by decide +kernel
theorem dX0_holds_100 : decode cX0_holds 100 = .ok (.aload_n 0, 1) := by decide +kernel
theorem dX0_holds_101 : decode cX0_holds 101 = .ok (.getfield 28, 3) := by decide +kernel
theorem dX0_holds_104 : decode cX0_holds 104 = .ok (.aload_n 0, 1) := by decide +kernel
theorem dX0_holds_105 : decode cX0_holds 105 = .ok (.getfield 28, 3) := by decide +kernel
theorem dX0_holds_108 : decode cX0_holds 108 = .ok (.aload_n 1, 1) := by decide +kernel
theorem dX0_holds_109 : decode cX0_holds 109 = .ok (.getfield 74, 3) := by decide +kernel
theorem dX0_holds_112 : decode cX0_holds 112 = .ok (.invokevirtual 51, 3) := by decide +kernel
theorem dX0_holds_115 : decode cX0_holds 115 = .ok (.aload_n 0, 1) := by decide +kernel
theorem dX0_holds_116 : decode cX0_holds 116 = .ok (.getfield 21, 3) := by decide +kernel
theorem dX0_holds_119 : decode cX0_holds 119 = .ok (.aload_n 0, 1) := by decide +kernel
theorem dX0_holds_120 : decode cX0_holds 120 = .ok (.getfield 28, 3) := by decide +kernel
theorem dX0_holds_123 : decode cX0_holds 123 = .ok (.aload_n 0, 1) := by decide +kernel
theorem dX0_holds_124 : decode cX0_holds 124 = .ok (.getfield 28, 3) := by decide +kernel
theorem dX0_holds_127 : decode cX0_holds 127 = .ok (.aload_n 0, 1) := by decide +kernel
theorem dX0_holds_128 : decode cX0_holds 128 = .ok (.getfield 18, 3) := by decide +kernel
theorem dX0_holds_131 : decode cX0_holds 131 = .ok (.invokevirtual 62, 3) := by decide +kernel
theorem dX0_holds_134 : decode cX0_holds 134 = .ok (.aload_n 0, 1) := by decide +kernel
theorem dX0_holds_135 : decode cX0_holds 135 = .ok (.getfield 25, 3) := by decide +kernel
theorem dX0_holds_138 : decode cX0_holds 138 = .ok (.aload_n 0, 1) := by decide +kernel
theorem dX0_holds_139 : decode cX0_holds 139 = .ok (.getfield 28, 3) := by decide +kernel
theorem dX0_holds_142 : decode cX0_holds 142 = .ok (.invokestatic 37, 3) := by decide +kernel
theorem dX0_holds_145 : decode cX0_holds 145 = .ok (.ifCond .ne 7, 3) := by decide +kernel
theorem dX0_holds_148 : decode cX0_holds 148 = .ok (.iconst 1, 1) := by decide +kernel
theorem dX0_holds_149 : decode cX0_holds 149 = .ok (.goto 4, 3) := by decide +kernel
theorem dX0_holds_152 : decode cX0_holds 152 = .ok (.iconst 0, 1) := by decide +kernel
theorem dX0_holds_153 : decode cX0_holds 153 = .ok (.ireturn, 1) := by decide +kernel
set_option maxRecDepth 20000 in
theorem ggX0_mirror_X1_isZero : GoodIn wsX0_mirror wsX1_isZero := goodIn_r _ [7, 8, 9, 6, 10] (by decide +kernel) (by decide +kernel)
set_option maxRecDepth 20000 in
theorem gX0_mirror_X1_isZero : GoodIn wsX0_mirror (va_wsS RX0 65 yX1_isZero wsX1_isZero) := goodIn_app (goodIn_of _ (by decide +kernel)) ggX0_mirror_X1_isZero
set_option maxRecDepth 20000 in
theorem ggX0_mirror_X1_set : GoodIn wsX0_mirror wsX1_set := goodIn_r _ [13, 14, 15, 16, 17] (by decide +kernel) (by decide +kernel)
set_option maxRecDepth 20000 in
theorem gX0_mirror_X1_set : GoodIn wsX0_mirror (va_wsS RX0 80 yX1_set wsX1_set) := goodIn_app (goodIn_of _ (by decide +kernel)) ggX0_mirror_X1_set
set_option maxRecDepth 20000 in
theorem ggX0_mirror_X3_subtract : GoodIn wsX0_mirror wsX3_subtract := goodIn_r _ [22, 23, 24, 25, 6, 26, 27, 37, 38, 39, 40, 41, 42, 43, 44, 45, 46] (by decide +kernel) (by decide +kernel)
set_option maxRecDepth 20000 in
theorem gX0_mirror_X3_subtract : GoodIn wsX0_mirror (wsV RX0 84 RX3 yX3_subtract wsX3_subtract) := goodIn_app (goodIn_of _ (by decide +kernel)) ggX0_mirror_X3_subtract
theorem dX0_mirror_0 : decode cX0_mirror 0 = .ok (.aload_n 1, 1) := by decide +kernel
theorem dX0_mirror_1 : decode cX0_mirror 1 = .ok (.getfield 77, 3) := by decide +kernel
theorem dX0_mirror_4 : decode cX0_mirror 4 = .ok (.invokestatic 65, 3) := by decide +kernel
theorem dX0_mirror_7 : decode cX0_mirror 7 = .ok (.ifCond .ne 30, 3) := by decide +kernel
theorem dX0_mirror_10 : decode cX0_mirror 10 = .ok (.aload_n 0, 1) := by decide +kernel
theorem dX0_mirror_11 : decode cX0_mirror 11 = .ok (.getfield 25, 3) := by decide +kernel
theorem dX0_mirror_14 : decode cX0_mirror 14 = .ok (.iconst 0, 1) := by decide +kernel
theorem dX0_mirror_15 : decode cX0_mirror 15 = .ok (.invokestatic 80, 3) := by decide +kernel
theorem dX0_mirror_18 : decode cX0_mirror 18 = .ok (.aload_n 0, 1) := by decide +kernel
theorem dX0_mirror_19 : decode cX0_mirror 19 = .ok (.getfield 21, 3) := by decide +kernel
theorem dX0_mirror_22 : decode cX0_mirror 22 = .ok (.aload_n 1, 1) := by decide +kernel
theorem dX0_mirror_23 : decode cX0_mirror 23 = .ok (.getfield 77, 3) := by decide +kernel
theorem dX0_mirror_26 : decode cX0_mirror 26 = .ok (.aload_n 0, 1) := by decide +kernel
theorem dX0_mirror_27 : decode cX0_mirror 27 = .ok (.getfield 25, 3) := by decide +kernel
theorem dX0_mirror_30 : decode cX0_mirror 30 = .ok (.aload_n 1, 1) := by decide +kernel
theorem dX0_mirror_31 : decode cX0_mirror 31 = .ok (.getfield 77, 3) := by decide +kernel
theorem dX0_mirror_34 : decode cX0_mirror 34 = .ok (.invokevirtual 84, 3) := by decide +kernel
theorem dX0_mirror_37 : decode cX0_mirror 37 = .ok (.return_, 1) := by decide +kernel
set_option maxRecDepth 20000 in
theorem ggX1_set_J7_fill_53178 : GoodIn wsX1_set wsJ7_fill_53178 := goodIn_r _ [4] (by decide +kernel) (by decide +kernel)
set_option maxRecDepth 20000 in
theorem gX1_set_J7_fill_53178 : GoodIn wsX1_set (va_wsS RX1 9 yJ7_fill_53178 wsJ7_fill_53178) := goodIn_app (goodIn_of _ (by decide +kernel)) ggX1_set_J7_fill_53178
theorem dX1_set_0 : decode cX1_set 0 = .ok (.aload_n 0, 1) := by decide +kernel
theorem dX1_set_1 : decode cX1_set 1 = .ok (.iconst 0, 1) := by decide +kernel
theorem dX1_set_2 : decode cX1_set 2 = .ok (.invokestatic 9, 3) := by decide +kernel
theorem dX1_set_5 : decode cX1_set 5 = .ok (.aload_n 0, 1) := by decide +kernel
theorem dX1_set_6 : decode cX1_set 6 = .ok (.iconst 0, 1) := by decide +kernel
theorem dX1_set_7 : decode cX1_set 7 = .ok (.iload_n 1, 1) := by decide +kernel
theorem dX1_set_8 : decode cX1_set 8 = .ok (.iastore, 1) := by decide +kernel
theorem dX1_set_9 : decode cX1_set 9 = .ok (.return_, 1) := by decide +kernel
theorem dX1_copy_0 : decode cX1_copy 0 = .ok (.aload_n 1, 1) := by decide +kernel
theorem dX1_copy_1 : decode cX1_copy 1 = .ok (.iconst 0, 1) := by decide +kernel
theorem dX1_copy_2 : decode cX1_copy 2 = .ok (.aload_n 0, 1) := by decide +kernel
theorem dX1_copy_3 : decode cX1_copy 3 = .ok (.iconst 0, 1) := by decide +kernel
theorem dX1_copy_4 : decode cX1_copy 4 = .ok (.aload_n 0, 1) := by decide +kernel
theorem dX1_copy_5 : decode cX1_copy 5 = .ok (.arraylength, 1) := by decide +kernel
theorem dX1_copy_6 : decode cX1_copy 6 = .ok (.invokestatic 15, 3) := by decide +kernel
theorem dX1_copy_9 : decode cX1_copy 9 = .ok (.return_, 1) := by decide +kernel
set_option maxRecDepth 20000 in
theorem ggX1_isZero_X1_sizeOf : GoodIn wsX1_isZero wsX1_sizeOf := goodIn_r _ [4] (by decide +kernel) (by decide +kernel)
set_option maxRecDepth 20000 in
theorem gX1_isZero_X1_sizeOf : GoodIn wsX1_isZero (va_wsS RX1 21 yX1_sizeOf wsX1_sizeOf) := goodIn_app (goodIn_of _ (by decide +kernel)) ggX1_isZero_X1_sizeOf
theorem dX1_isZero_0 : decode cX1_isZero 0 = .ok (.aload_n 0, 1) := by decide +kernel
theorem dX1_isZero_1 : decode cX1_isZero 1 = .ok (.invokestatic 21, 3) := by decide +kernel
theorem dX1_isZero_4 : decode cX1_isZero 4 = .ok (.ifCond .ne 7, 3) := by decide +kernel
theorem dX1_isZero_7 : decode cX1_isZero 7 = .ok (.iconst 1, 1) := by decide +kernel
theorem dX1_isZero_8 : decode cX1_isZero 8 = .ok (.goto 4, 3) := by decide +kernel
theorem dX1_isZero_11 : decode cX1_isZero 11 = .ok (.iconst 0, 1) := by decide +kernel
theorem dX1_isZero_12 : decode cX1_isZero 12 = .ok (.ireturn, 1) := by decide +kernel
theorem dX1_sizeOf_0 : decode cX1_sizeOf 0 = .ok (.aload_n 0, 1) := by decide +kernel
theorem dX1_sizeOf_1 : decode cX1_sizeOf 1 = .ok (.arraylength, 1) := by decide +kernel
theorem dX1_sizeOf_2 : decode cX1_sizeOf 2 = .ok (.istore_n 1, 1) := by decide +kernel
theorem dX1_sizeOf_3 : decode cX1_sizeOf 3 = .ok (.iload_n 1, 1) := by decide +kernel
theorem dX1_sizeOf_4 : decode cX1_sizeOf 4 = .ok (.ifCond .le 17, 3) := by decide +kernel
theorem dX1_sizeOf_7 : decode cX1_sizeOf 7 = .ok (.aload_n 0, 1) := by decide +kernel
theorem dX1_sizeOf_8 : decode cX1_sizeOf 8 = .ok (.iload_n 1, 1) := by decide +kernel
theorem dX1_sizeOf_9 : decode cX1_sizeOf 9 = .ok (.iconst 1, 1) := by decide +kernel
theorem dX1_sizeOf_10 : decode cX1_sizeOf 10 = .ok (.isub, 1) := by decide +kernel
theorem dX1_sizeOf_11 : decode cX1_sizeOf 11 = .ok (.iaload, 1) := by decide +kernel
theorem dX1_sizeOf_12 : decode cX1_sizeOf 12 = .ok (.ifCond .ne 9, 3) := by decide +kernel
theorem dX1_sizeOf_15 : decode cX1_sizeOf 15 = .ok (.iinc 1 (-1), 3) := by decide +kernel
theorem dX1_sizeOf_18 : decode cX1_sizeOf 18 = .ok (.goto (-15), 3) := by decide +kernel
theorem dX1_sizeOf_21 : decode cX1_sizeOf 21 = .ok (.iload_n 1, 1) := by decide +kernel
theorem dX1_sizeOf_22 : decode cX1_sizeOf 22 = .ok (.ireturn, 1) := by decide +kernel
set_option maxRecDepth 20000 in
theorem ggX1_bitsOf_X1_sizeOf : GoodIn wsX1_bitsOf wsX1_sizeOf := goodIn_r _ [4] (by decide +kernel) (by decide +kernel)
set_option maxRecDepth 20000 in
theorem gX1_bitsOf_X1_sizeOf : GoodIn wsX1_bitsOf (va_wsS RX1 21 yX1_sizeOf wsX1_sizeOf) := goodIn_app (goodIn_of _ (by decide +kernel)) ggX1_bitsOf_X1_sizeOf
set_option maxRecDepth 20000 in
theorem ggX1_bitsOf_J6_numberOfLeadingZeros_0f7a4 : GoodIn wsX1_bitsOf wsJ6_numberOfLeadingZeros_0f7a4 := goodIn_r _ [8, 9] (by decide +kernel) (by decide +kernel)
set_option maxRecDepth 20000 in
theorem gX1_bitsOf_J6_numberOfLeadingZeros_0f7a4 : GoodIn wsX1_bitsOf (va_wsS RX1 27 yJ6_numberOfLeadingZeros_0f7a4 wsJ6_numberOfLeadingZeros_0f7a4) := goodIn_app (goodIn_of _ (by decide +kernel)) ggX1_bitsOf_J6_numberOfLeadingZeros_0f7a4
theorem dX1_bitsOf_0 : decode cX1_bitsOf 0 = .ok (.aload_n 0, 1) := by decide +kernel
theorem dX1_bitsOf_1 : decode cX1_bitsOf 1 = .ok (.invokestatic 21, 3) := by decide +kernel
theorem dX1_bitsOf_4 : decode cX1_bitsOf 4 = .ok (.istore_n 1, 1) := by decide +kernel
theorem dX1_bitsOf_5 : decode cX1_bitsOf 5 = .ok (.iload_n 1, 1) := by decide +kernel
theorem dX1_bitsOf_6 : decode cX1_bitsOf 6 = .ok (.ifCond .ne 7, 3) := by decide +kernel
theorem dX1_bitsOf_9 : decode cX1_bitsOf 9 = .ok (.iconst 0, 1) := by decide +kernel
theorem dX1_bitsOf_10 : decode cX1_bitsOf 10 = .ok (.goto 18, 3) := by decide +kernel
theorem dX1_bitsOf_13 : decode cX1_bitsOf 13 = .ok (.iload_n 1, 1) := by decide +kernel
theorem dX1_bitsOf_14 : decode cX1_bitsOf 14 = .ok (.bipush 31, 2) := by decide +kernel
theorem dX1_bitsOf_16 : decode cX1_bitsOf 16 = .ok (.imul, 1) := by decide +kernel
theorem dX1_bitsOf_17 : decode cX1_bitsOf 17 = .ok (.iconst 1, 1) := by decide +kernel
theorem dX1_bitsOf_18 : decode cX1_bitsOf 18 = .ok (.iadd, 1) := by decide +kernel
theorem dX1_bitsOf_19 : decode cX1_bitsOf 19 = .ok (.aload_n 0, 1) := by decide +kernel
theorem dX1_bitsOf_20 : decode cX1_bitsOf 20 = .ok (.iload_n 1, 1) := by decide +kernel
theorem dX1_bitsOf_21 : decode cX1_bitsOf 21 = .ok (.iconst 1, 1) := by decide +kernel
theorem dX1_bitsOf_22 : decode cX1_bitsOf 22 = .ok (.isub, 1) := by decide +kernel
theorem dX1_bitsOf_23 : decode cX1_bitsOf 23 = .ok (.iaload, 1) := by decide +kernel
theorem dX1_bitsOf_24 : decode cX1_bitsOf 24 = .ok (.invokestatic 27, 3) := by decide +kernel
theorem dX1_bitsOf_27 : decode cX1_bitsOf 27 = .ok (.isub, 1) := by decide +kernel
theorem dX1_bitsOf_28 : decode cX1_bitsOf 28 = .ok (.ireturn, 1) := by decide +kernel
theorem dX1_compare_0 : decode cX1_compare 0 = .ok (.aload_n 0, 1) := by decide +kernel
theorem dX1_compare_1 : decode cX1_compare 1 = .ok (.arraylength, 1) := by decide +kernel
theorem dX1_compare_2 : decode cX1_compare 2 = .ok (.iconst 1, 1) := by decide +kernel
theorem dX1_compare_3 : decode cX1_compare 3 = .ok (.isub, 1) := by decide +kernel
theorem dX1_compare_4 : decode cX1_compare 4 = .ok (.istore_n 2, 1) := by decide +kernel
theorem dX1_compare_5 : decode cX1_compare 5 = .ok (.iload_n 2, 1) := by decide +kernel
theorem dX1_compare_6 : decode cX1_compare 6 = .ok (.ifCond .lt 33, 3) := by decide +kernel
theorem dX1_compare_9 : decode cX1_compare 9 = .ok (.aload_n 0, 1) := by decide +kernel
theorem dX1_compare_10 : decode cX1_compare 10 = .ok (.iload_n 2, 1) := by decide +kernel
theorem dX1_compare_11 : decode cX1_compare 11 = .ok (.iaload, 1) := by decide +kernel
theorem dX1_compare_12 : decode cX1_compare 12 = .ok (.aload_n 1, 1) := by decide +kernel
theorem dX1_compare_13 : decode cX1_compare 13 = .ok (.iload_n 2, 1) := by decide +kernel
theorem dX1_compare_14 : decode cX1_compare 14 = .ok (.iaload, 1) := by decide +kernel
theorem dX1_compare_15 : decode cX1_compare 15 = .ok (.if_icmp .eq 18, 3) := by decide +kernel
theorem dX1_compare_18 : decode cX1_compare 18 = .ok (.aload_n 0, 1) := by decide +kernel
theorem dX1_compare_19 : decode cX1_compare 19 = .ok (.iload_n 2, 1) := by decide +kernel
theorem dX1_compare_20 : decode cX1_compare 20 = .ok (.iaload, 1) := by decide +kernel
theorem dX1_compare_21 : decode cX1_compare 21 = .ok (.aload_n 1, 1) := by decide +kernel
theorem dX1_compare_22 : decode cX1_compare 22 = .ok (.iload_n 2, 1) := by decide +kernel
theorem dX1_compare_23 : decode cX1_compare 23 = .ok (.iaload, 1) := by decide +kernel
theorem dX1_compare_24 : decode cX1_compare 24 = .ok (.if_icmp .ge 7, 3) := by decide +kernel
theorem dX1_compare_27 : decode cX1_compare 27 = .ok (.iconst (-1), 1) := by decide +kernel
theorem dX1_compare_28 : decode cX1_compare 28 = .ok (.goto 4, 3) := by decide +kernel
theorem dX1_compare_31 : decode cX1_compare 31 = .ok (.iconst 1, 1) := by decide +kernel
theorem dX1_compare_32 : decode cX1_compare 32 = .ok (.ireturn, 1) := by decide +kernel
theorem dX1_compare_33 : decode cX1_compare 33 = .ok (.iinc 2 (-1), 3) := by decide +kernel
theorem dX1_compare_36 : decode cX1_compare 36 = .ok (.goto (-31), 3) := by decide +kernel
theorem dX1_compare_39 : decode cX1_compare 39 = .ok (.iconst 0, 1) := by decide +kernel
theorem dX1_compare_40 : decode cX1_compare 40 = .ok (.ireturn, 1) := by decide +kernel
theorem dX1_combine_0 : decode cX1_combine 0 = .ok (.lconst 0, 1) := by decide +kernel
theorem dX1_combine_1 : decode cX1_combine 1 = .ok (.lstore 4, 2) := by decide +kernel
theorem dX1_combine_3 : decode cX1_combine 3 = .ok (.iconst 0, 1) := by decide +kernel
theorem dX1_combine_4 : decode cX1_combine 4 = .ok (.istore 6, 2) := by decide +kernel
theorem dX1_combine_6 : decode cX1_combine 6 = .ok (.iload 6, 2) := by decide +kernel
theorem dX1_combine_8 : decode cX1_combine 8 = .ok (.aload_n 0, 1) := by decide +kernel
theorem dX1_combine_9 : decode cX1_combine 9 = .ok (.arraylength, 1) := by decide +kernel
theorem dX1_combine_10 : decode cX1_combine 10 = .ok (.if_icmp .ge 46, 3) := by decide +kernel
theorem dX1_combine_13 : decode cX1_combine 13 = .ok (.lload 4, 2) := by decide +kernel
theorem dX1_combine_15 : decode cX1_combine 15 = .ok (.aload_n 1, 1) := by decide +kernel
theorem dX1_combine_16 : decode cX1_combine 16 = .ok (.iload 6, 2) := by decide +kernel
theorem dX1_combine_18 : decode cX1_combine 18 = .ok (.iaload, 1) := by decide +kernel
theorem dX1_combine_19 : decode cX1_combine 19 = .ok (.i2l, 1) := by decide +kernel
theorem dX1_combine_20 : decode cX1_combine 20 = .ok (.iload_n 3, 1) := by decide +kernel
theorem dX1_combine_21 : decode cX1_combine 21 = .ok (.i2l, 1) := by decide +kernel
theorem dX1_combine_22 : decode cX1_combine 22 = .ok (.aload_n 2, 1) := by decide +kernel
theorem dX1_combine_23 : decode cX1_combine 23 = .ok (.iload 6, 2) := by decide +kernel
theorem dX1_combine_25 : decode cX1_combine 25 = .ok (.iaload, 1) := by decide +kernel
theorem dX1_combine_26 : decode cX1_combine 26 = .ok (.i2l, 1) := by decide +kernel
theorem dX1_combine_27 : decode cX1_combine 27 = .ok (.lmul, 1) := by decide +kernel
theorem dX1_combine_28 : decode cX1_combine 28 = .ok (.ladd, 1) := by decide +kernel
theorem dX1_combine_29 : decode cX1_combine 29 = .ok (.ladd, 1) := by decide +kernel
theorem dX1_combine_30 : decode cX1_combine 30 = .ok (.lstore 4, 2) := by decide +kernel
theorem dX1_combine_32 : decode cX1_combine 32 = .ok (.aload_n 0, 1) := by decide +kernel
theorem dX1_combine_33 : decode cX1_combine 33 = .ok (.iload 6, 2) := by decide +kernel
theorem dX1_combine_35 : decode cX1_combine 35 = .ok (.lload 4, 2) := by decide +kernel
theorem dX1_combine_37 : decode cX1_combine 37 = .ok (.ldc2_w 33, 3) := by decide +kernel
theorem dX1_combine_40 : decode cX1_combine 40 = .ok (.land, 1) := by decide +kernel
theorem dX1_combine_41 : decode cX1_combine 41 = .ok (.l2i, 1) := by decide +kernel
theorem dX1_combine_42 : decode cX1_combine 42 = .ok (.iastore, 1) := by decide +kernel
theorem dX1_combine_43 : decode cX1_combine 43 = .ok (.lload 4, 2) := by decide +kernel
theorem dX1_combine_45 : decode cX1_combine 45 = .ok (.bipush 31, 2) := by decide +kernel
theorem dX1_combine_47 : decode cX1_combine 47 = .ok (.lshr, 1) := by decide +kernel
theorem dX1_combine_48 : decode cX1_combine 48 = .ok (.lstore 4, 2) := by decide +kernel
theorem dX1_combine_50 : decode cX1_combine 50 = .ok (.iinc 6 1, 3) := by decide +kernel
theorem dX1_combine_53 : decode cX1_combine 53 = .ok (.goto (-47), 3) := by decide +kernel
theorem dX1_combine_56 : decode cX1_combine 56 = .ok (.lload 4, 2) := by decide +kernel
theorem dX1_combine_58 : decode cX1_combine 58 = .ok (.lreturn, 1) := by decide +kernel
theorem dX1_shiftedLimb_0 : decode cX1_shiftedLimb 0 = .ok (.iload_n 1, 1) := by decide +kernel
theorem dX1_shiftedLimb_1 : decode cX1_shiftedLimb 1 = .ok (.iload_n 2, 1) := by decide +kernel
theorem dX1_shiftedLimb_2 : decode cX1_shiftedLimb 2 = .ok (.bipush 31, 2) := by decide +kernel
theorem dX1_shiftedLimb_4 : decode cX1_shiftedLimb 4 = .ok (.idiv, 1) := by decide +kernel
theorem dX1_shiftedLimb_5 : decode cX1_shiftedLimb 5 = .ok (.isub, 1) := by decide +kernel
theorem dX1_shiftedLimb_6 : decode cX1_shiftedLimb 6 = .ok (.istore_n 3, 1) := by decide +kernel
theorem dX1_shiftedLimb_7 : decode cX1_shiftedLimb 7 = .ok (.iload_n 3, 1) := by decide +kernel
theorem dX1_shiftedLimb_8 : decode cX1_shiftedLimb 8 = .ok (.ifCond .lt 10, 3) := by decide +kernel
theorem dX1_shiftedLimb_11 : decode cX1_shiftedLimb 11 = .ok (.aload_n 0, 1) := by decide +kernel
theorem dX1_shiftedLimb_12 : decode cX1_shiftedLimb 12 = .ok (.iload_n 3, 1) := by decide +kernel
theorem dX1_shiftedLimb_13 : decode cX1_shiftedLimb 13 = .ok (.iaload, 1) := by decide +kernel
theorem dX1_shiftedLimb_14 : decode cX1_shiftedLimb 14 = .ok (.i2l, 1) := by decide +kernel
theorem dX1_shiftedLimb_15 : decode cX1_shiftedLimb 15 = .ok (.goto 4, 3) := by decide +kernel
theorem dX1_shiftedLimb_18 : decode cX1_shiftedLimb 18 = .ok (.lconst 0, 1) := by decide +kernel
theorem dX1_shiftedLimb_19 : decode cX1_shiftedLimb 19 = .ok (.lstore 4, 2) := by decide +kernel
theorem dX1_shiftedLimb_21 : decode cX1_shiftedLimb 21 = .ok (.iload_n 3, 1) := by decide +kernel
theorem dX1_shiftedLimb_22 : decode cX1_shiftedLimb 22 = .ok (.iconst 1, 1) := by decide +kernel
theorem dX1_shiftedLimb_23 : decode cX1_shiftedLimb 23 = .ok (.if_icmp .lt 12, 3) := by decide +kernel
theorem dX1_shiftedLimb_26 : decode cX1_shiftedLimb 26 = .ok (.aload_n 0, 1) := by decide +kernel
theorem dX1_shiftedLimb_27 : decode cX1_shiftedLimb 27 = .ok (.iload_n 3, 1) := by decide +kernel
theorem dX1_shiftedLimb_28 : decode cX1_shiftedLimb 28 = .ok (.iconst 1, 1) := by decide +kernel
theorem dX1_shiftedLimb_29 : decode cX1_shiftedLimb 29 = .ok (.isub, 1) := by decide +kernel
theorem dX1_shiftedLimb_30 : decode cX1_shiftedLimb 30 = .ok (.iaload, 1) := by decide +kernel
theorem dX1_shiftedLimb_31 : decode cX1_shiftedLimb 31 = .ok (.i2l, 1) := by decide +kernel
theorem dX1_shiftedLimb_32 : decode cX1_shiftedLimb 32 = .ok (.goto 4, 3) := by decide +kernel
theorem dX1_shiftedLimb_35 : decode cX1_shiftedLimb 35 = .ok (.lconst 0, 1) := by decide +kernel
theorem dX1_shiftedLimb_36 : decode cX1_shiftedLimb 36 = .ok (.lstore 6, 2) := by decide +kernel
theorem dX1_shiftedLimb_38 : decode cX1_shiftedLimb 38 = .ok (.lload 4, 2) := by decide +kernel
theorem dX1_shiftedLimb_40 : decode cX1_shiftedLimb 40 = .ok (.bipush 31, 2) := by decide +kernel
theorem dX1_shiftedLimb_42 : decode cX1_shiftedLimb 42 = .ok (.lshl, 1) := by decide +kernel
theorem dX1_shiftedLimb_43 : decode cX1_shiftedLimb 43 = .ok (.lload 6, 2) := by decide +kernel
theorem dX1_shiftedLimb_45 : decode cX1_shiftedLimb 45 = .ok (.lor, 1) := by decide +kernel
theorem dX1_shiftedLimb_46 : decode cX1_shiftedLimb 46 = .ok (.bipush 31, 2) := by decide +kernel
theorem dX1_shiftedLimb_48 : decode cX1_shiftedLimb 48 = .ok (.iload_n 2, 1) := by decide +kernel
theorem dX1_shiftedLimb_49 : decode cX1_shiftedLimb 49 = .ok (.bipush 31, 2) := by decide +kernel
theorem dX1_shiftedLimb_51 : decode cX1_shiftedLimb 51 = .ok (.irem, 1) := by decide +kernel
theorem dX1_shiftedLimb_52 : decode cX1_shiftedLimb 52 = .ok (.isub, 1) := by decide +kernel
theorem dX1_shiftedLimb_53 : decode cX1_shiftedLimb 53 = .ok (.lushr, 1) := by decide +kernel
theorem dX1_shiftedLimb_54 : decode cX1_shiftedLimb 54 = .ok (.ldc2_w 33, 3) := by decide +kernel
theorem dX1_shiftedLimb_57 : decode cX1_shiftedLimb 57 = .ok (.land, 1) := by decide +kernel
theorem dX1_shiftedLimb_58 : decode cX1_shiftedLimb 58 = .ok (.l2i, 1) := by decide +kernel
theorem dX1_shiftedLimb_59 : decode cX1_shiftedLimb 59 = .ok (.ireturn, 1) := by decide +kernel
set_option maxRecDepth 20000 in
theorem ggX1_isBelowShifted_X1_shiftedLimb : GoodIn wsX1_isBelowShifted wsX1_shiftedLimb := goodIn_r _ [4, 5] (by decide +kernel) (by decide +kernel)
set_option maxRecDepth 20000 in
theorem gX1_isBelowShifted_X1_shiftedLimb : GoodIn wsX1_isBelowShifted (va_wsS RX1 35 yX1_shiftedLimb wsX1_shiftedLimb) := goodIn_app (goodIn_of _ (by decide +kernel)) ggX1_isBelowShifted_X1_shiftedLimb
theorem dX1_isBelowShifted_0 : decode cX1_isBelowShifted 0 = .ok (.aload_n 0, 1) := by decide +kernel
theorem dX1_isBelowShifted_1 : decode cX1_isBelowShifted 1 = .ok (.arraylength, 1) := by decide +kernel
theorem dX1_isBelowShifted_2 : decode cX1_isBelowShifted 2 = .ok (.iconst 1, 1) := by decide +kernel
theorem dX1_isBelowShifted_3 : decode cX1_isBelowShifted 3 = .ok (.isub, 1) := by decide +kernel
theorem dX1_isBelowShifted_4 : decode cX1_isBelowShifted 4 = .ok (.istore_n 3, 1) := by decide +kernel
theorem dX1_isBelowShifted_5 : decode cX1_isBelowShifted 5 = .ok (.iload_n 3, 1) := by decide +kernel
theorem dX1_isBelowShifted_6 : decode cX1_isBelowShifted 6 = .ok (.ifCond .lt 39, 3) := by decide +kernel
theorem dX1_isBelowShifted_9 : decode cX1_isBelowShifted 9 = .ok (.aload_n 1, 1) := by decide +kernel
theorem dX1_isBelowShifted_10 : decode cX1_isBelowShifted 10 = .ok (.iload_n 3, 1) := by decide +kernel
theorem dX1_isBelowShifted_11 : decode cX1_isBelowShifted 11 = .ok (.iload_n 2, 1) := by decide +kernel
theorem dX1_isBelowShifted_12 : decode cX1_isBelowShifted 12 = .ok (.invokestatic 35, 3) := by decide +kernel
theorem dX1_isBelowShifted_15 : decode cX1_isBelowShifted 15 = .ok (.istore 4, 2) := by decide +kernel
theorem dX1_isBelowShifted_17 : decode cX1_isBelowShifted 17 = .ok (.aload_n 0, 1) := by decide +kernel
theorem dX1_isBelowShifted_18 : decode cX1_isBelowShifted 18 = .ok (.iload_n 3, 1) := by decide +kernel
theorem dX1_isBelowShifted_19 : decode cX1_isBelowShifted 19 = .ok (.iaload, 1) := by decide +kernel
theorem dX1_isBelowShifted_20 : decode cX1_isBelowShifted 20 = .ok (.iload 4, 2) := by decide +kernel
theorem dX1_isBelowShifted_22 : decode cX1_isBelowShifted 22 = .ok (.if_icmp .eq 17, 3) := by decide +kernel
theorem dX1_isBelowShifted_25 : decode cX1_isBelowShifted 25 = .ok (.aload_n 0, 1) := by decide +kernel
theorem dX1_isBelowShifted_26 : decode cX1_isBelowShifted 26 = .ok (.iload_n 3, 1) := by decide +kernel
theorem dX1_isBelowShifted_27 : decode cX1_isBelowShifted 27 = .ok (.iaload, 1) := by decide +kernel
theorem dX1_isBelowShifted_28 : decode cX1_isBelowShifted 28 = .ok (.iload 4, 2) := by decide +kernel
theorem dX1_isBelowShifted_30 : decode cX1_isBelowShifted 30 = .ok (.if_icmp .ge 7, 3) := by decide +kernel
theorem dX1_isBelowShifted_33 : decode cX1_isBelowShifted 33 = .ok (.iconst 1, 1) := by decide +kernel
theorem dX1_isBelowShifted_34 : decode cX1_isBelowShifted 34 = .ok (.goto 4, 3) := by decide +kernel
theorem dX1_isBelowShifted_37 : decode cX1_isBelowShifted 37 = .ok (.iconst 0, 1) := by decide +kernel
theorem dX1_isBelowShifted_38 : decode cX1_isBelowShifted 38 = .ok (.ireturn, 1) := by decide +kernel
theorem dX1_isBelowShifted_39 : decode cX1_isBelowShifted 39 = .ok (.iinc 3 (-1), 3) := by decide +kernel
theorem dX1_isBelowShifted_42 : decode cX1_isBelowShifted 42 = .ok (.goto (-37), 3) := by decide +kernel
theorem dX1_isBelowShifted_45 : decode cX1_isBelowShifted 45 = .ok (.iconst 0, 1) := by decide +kernel
theorem dX1_isBelowShifted_46 : decode cX1_isBelowShifted 46 = .ok (.ireturn, 1) := by decide +kernel
set_option maxRecDepth 20000 in
theorem ggX1_gapBetween_X1_bitsOf : GoodIn wsX1_gapBetween wsX1_bitsOf := goodIn_r _ [4, 5, 6, 3, 7, 8, 9, 10, 11, 12] (by decide +kernel) (by decide +kernel)
set_option maxRecDepth 20000 in
theorem gX1_gapBetween_X1_bitsOf : GoodIn wsX1_gapBetween (va_wsS RX1 39 yX1_bitsOf wsX1_bitsOf) := goodIn_app (goodIn_of _ (by decide +kernel)) ggX1_gapBetween_X1_bitsOf
set_option maxRecDepth 20000 in
theorem ggX1_gapBetween_X1_isBelowShifted : GoodIn wsX1_gapBetween wsX1_isBelowShifted := goodIn_r _ [15, 16, 17, 3, 18, 19] (by decide +kernel) (by decide +kernel)
set_option maxRecDepth 20000 in
theorem gX1_gapBetween_X1_isBelowShifted : GoodIn wsX1_gapBetween (va_wsS RX1 42 yX1_isBelowShifted wsX1_isBelowShifted) := goodIn_app (goodIn_of _ (by decide +kernel)) ggX1_gapBetween_X1_isBelowShifted
theorem dX1_gapBetween_0 : decode cX1_gapBetween 0 = .ok (.aload_n 0, 1) := by decide +kernel
theorem dX1_gapBetween_1 : decode cX1_gapBetween 1 = .ok (.invokestatic 39, 3) := by decide +kernel
theorem dX1_gapBetween_4 : decode cX1_gapBetween 4 = .ok (.aload_n 1, 1) := by decide +kernel
theorem dX1_gapBetween_5 : decode cX1_gapBetween 5 = .ok (.invokestatic 39, 3) := by decide +kernel
theorem dX1_gapBetween_8 : decode cX1_gapBetween 8 = .ok (.isub, 1) := by decide +kernel
theorem dX1_gapBetween_9 : decode cX1_gapBetween 9 = .ok (.istore_n 2, 1) := by decide +kernel
theorem dX1_gapBetween_10 : decode cX1_gapBetween 10 = .ok (.iload_n 2, 1) := by decide +kernel
theorem dX1_gapBetween_11 : decode cX1_gapBetween 11 = .ok (.ifCond .lt 18, 3) := by decide +kernel
theorem dX1_gapBetween_14 : decode cX1_gapBetween 14 = .ok (.aload_n 0, 1) := by decide +kernel
theorem dX1_gapBetween_15 : decode cX1_gapBetween 15 = .ok (.aload_n 1, 1) := by decide +kernel
theorem dX1_gapBetween_16 : decode cX1_gapBetween 16 = .ok (.iload_n 2, 1) := by decide +kernel
theorem dX1_gapBetween_17 : decode cX1_gapBetween 17 = .ok (.invokestatic 42, 3) := by decide +kernel
theorem dX1_gapBetween_20 : decode cX1_gapBetween 20 = .ok (.ifCond .eq 9, 3) := by decide +kernel
theorem dX1_gapBetween_23 : decode cX1_gapBetween 23 = .ok (.iload_n 2, 1) := by decide +kernel
theorem dX1_gapBetween_24 : decode cX1_gapBetween 24 = .ok (.iconst 1, 1) := by decide +kernel
theorem dX1_gapBetween_25 : decode cX1_gapBetween 25 = .ok (.isub, 1) := by decide +kernel
theorem dX1_gapBetween_26 : decode cX1_gapBetween 26 = .ok (.goto 4, 3) := by decide +kernel
theorem dX1_gapBetween_29 : decode cX1_gapBetween 29 = .ok (.iload_n 2, 1) := by decide +kernel
theorem dX1_gapBetween_30 : decode cX1_gapBetween 30 = .ok (.ireturn, 1) := by decide +kernel
set_option maxRecDepth 20000 in
theorem ggX1_addShifted_X1_shiftedLimb : GoodIn wsX1_addShifted wsX1_shiftedLimb := goodIn_r _ [5, 1] (by decide +kernel) (by decide +kernel)
set_option maxRecDepth 20000 in
theorem gX1_addShifted_X1_shiftedLimb : GoodIn wsX1_addShifted (va_wsS RX1 35 yX1_shiftedLimb wsX1_shiftedLimb) := goodIn_app (goodIn_of _ (by decide +kernel)) ggX1_addShifted_X1_shiftedLimb
theorem dX1_addShifted_0 : decode cX1_addShifted 0 = .ok (.lconst 0, 1) := by decide +kernel
theorem dX1_addShifted_1 : decode cX1_addShifted 1 = .ok (.lstore 4, 2) := by decide +kernel
theorem dX1_addShifted_3 : decode cX1_addShifted 3 = .ok (.iconst 0, 1) := by decide +kernel
theorem dX1_addShifted_4 : decode cX1_addShifted 4 = .ok (.istore 6, 2) := by decide +kernel
theorem dX1_addShifted_6 : decode cX1_addShifted 6 = .ok (.iload 6, 2) := by decide +kernel
theorem dX1_addShifted_8 : decode cX1_addShifted 8 = .ok (.aload_n 0, 1) := by decide +kernel
theorem dX1_addShifted_9 : decode cX1_addShifted 9 = .ok (.arraylength, 1) := by decide +kernel
theorem dX1_addShifted_10 : decode cX1_addShifted 10 = .ok (.if_icmp .ge 49, 3) := by decide +kernel
theorem dX1_addShifted_13 : decode cX1_addShifted 13 = .ok (.lload 4, 2) := by decide +kernel
theorem dX1_addShifted_15 : decode cX1_addShifted 15 = .ok (.aload_n 0, 1) := by decide +kernel
theorem dX1_addShifted_16 : decode cX1_addShifted 16 = .ok (.iload 6, 2) := by decide +kernel
theorem dX1_addShifted_18 : decode cX1_addShifted 18 = .ok (.iaload, 1) := by decide +kernel
theorem dX1_addShifted_19 : decode cX1_addShifted 19 = .ok (.i2l, 1) := by decide +kernel
theorem dX1_addShifted_20 : decode cX1_addShifted 20 = .ok (.iload_n 3, 1) := by decide +kernel
theorem dX1_addShifted_21 : decode cX1_addShifted 21 = .ok (.i2l, 1) := by decide +kernel
theorem dX1_addShifted_22 : decode cX1_addShifted 22 = .ok (.aload_n 1, 1) := by decide +kernel
theorem dX1_addShifted_23 : decode cX1_addShifted 23 = .ok (.iload 6, 2) := by decide +kernel
theorem dX1_addShifted_25 : decode cX1_addShifted 25 = .ok (.iload_n 2, 1) := by decide +kernel
theorem dX1_addShifted_26 : decode cX1_addShifted 26 = .ok (.invokestatic 35, 3) := by decide +kernel
theorem dX1_addShifted_29 : decode cX1_addShifted 29 = .ok (.i2l, 1) := by decide +kernel
theorem dX1_addShifted_30 : decode cX1_addShifted 30 = .ok (.lmul, 1) := by decide +kernel
theorem dX1_addShifted_31 : decode cX1_addShifted 31 = .ok (.ladd, 1) := by decide +kernel
theorem dX1_addShifted_32 : decode cX1_addShifted 32 = .ok (.ladd, 1) := by decide +kernel
theorem dX1_addShifted_33 : decode cX1_addShifted 33 = .ok (.lstore 4, 2) := by decide +kernel
theorem dX1_addShifted_35 : decode cX1_addShifted 35 = .ok (.aload_n 0, 1) := by decide +kernel
theorem dX1_addShifted_36 : decode cX1_addShifted 36 = .ok (.iload 6, 2) := by decide +kernel
theorem dX1_addShifted_38 : decode cX1_addShifted 38 = .ok (.lload 4, 2) := by decide +kernel
theorem dX1_addShifted_40 : decode cX1_addShifted 40 = .ok (.ldc2_w 33, 3) := by decide +kernel
theorem dX1_addShifted_43 : decode cX1_addShifted 43 = .ok (.land, 1) := by decide +kernel
theorem dX1_addShifted_44 : decode cX1_addShifted 44 = .ok (.l2i, 1) := by decide +kernel
theorem dX1_addShifted_45 : decode cX1_addShifted 45 = .ok (.iastore, 1) := by decide +kernel
theorem dX1_addShifted_46 : decode cX1_addShifted 46 = .ok (.lload 4, 2) := by decide +kernel
theorem dX1_addShifted_48 : decode cX1_addShifted 48 = .ok (.bipush 31, 2) := by decide +kernel
theorem dX1_addShifted_50 : decode cX1_addShifted 50 = .ok (.lshr, 1) := by decide +kernel
theorem dX1_addShifted_51 : decode cX1_addShifted 51 = .ok (.lstore 4, 2) := by decide +kernel
theorem dX1_addShifted_53 : decode cX1_addShifted 53 = .ok (.iinc 6 1, 3) := by decide +kernel
theorem dX1_addShifted_56 : decode cX1_addShifted 56 = .ok (.goto (-50), 3) := by decide +kernel
theorem dX1_addShifted_59 : decode cX1_addShifted 59 = .ok (.return_, 1) := by decide +kernel
theorem dX2_init_0 : decode cX2_init 0 = .ok (.aload_n 0, 1) := by decide +kernel
theorem dX2_init_1 : decode cX2_init 1 = .ok (.invokespecial 1, 3) := by decide +kernel
theorem dX2_init_4 : decode cX2_init 4 = .ok (.aload_n 0, 1) := by decide +kernel
theorem dX2_init_5 : decode cX2_init 5 = .ok (.iload_n 1, 1) := by decide +kernel
theorem dX2_init_6 : decode cX2_init 6 = .ok (.newarray .int, 2) := by decide +kernel
theorem dX2_init_8 : decode cX2_init 8 = .ok (.putfield 7, 3) := by decide +kernel
theorem dX2_init_11 : decode cX2_init 11 = .ok (.aload_n 0, 1) := by decide +kernel
theorem dX2_init_12 : decode cX2_init 12 = .ok (.iload_n 1, 1) := by decide +kernel
theorem dX2_init_13 : decode cX2_init 13 = .ok (.newarray .int, 2) := by decide +kernel
theorem dX2_init_15 : decode cX2_init 15 = .ok (.putfield 13, 3) := by decide +kernel
theorem dX2_init_18 : decode cX2_init 18 = .ok (.aload_n 0, 1) := by decide +kernel
theorem dX2_init_19 : decode cX2_init 19 = .ok (.iconst 1, 1) := by decide +kernel
theorem dX2_init_20 : decode cX2_init 20 = .ok (.putfield 16, 3) := by decide +kernel
theorem dX2_init_23 : decode cX2_init 23 = .ok (.return_, 1) := by decide +kernel
set_option maxRecDepth 20000 in
theorem ggX2_becomeIdentity_X1_set : GoodIn wsX2_becomeIdentity wsX1_set := goodIn_r _ [7, 8, 9, 10, 11] (by decide +kernel) (by decide +kernel)
set_option maxRecDepth 20000 in
theorem gX2_becomeIdentity_X1_set : GoodIn wsX2_becomeIdentity (va_wsS RX2 20 yX1_set wsX1_set) := goodIn_app (goodIn_of _ (by decide +kernel)) ggX2_becomeIdentity_X1_set
theorem dX2_becomeIdentity_0 : decode cX2_becomeIdentity 0 = .ok (.aload_n 0, 1) := by decide +kernel
theorem dX2_becomeIdentity_1 : decode cX2_becomeIdentity 1 = .ok (.getfield 7, 3) := by decide +kernel
theorem dX2_becomeIdentity_4 : decode cX2_becomeIdentity 4 = .ok (.iconst 0, 1) := by decide +kernel
theorem dX2_becomeIdentity_5 : decode cX2_becomeIdentity 5 = .ok (.invokestatic 20, 3) := by decide +kernel
theorem dX2_becomeIdentity_8 : decode cX2_becomeIdentity 8 = .ok (.aload_n 0, 1) := by decide +kernel
theorem dX2_becomeIdentity_9 : decode cX2_becomeIdentity 9 = .ok (.getfield 13, 3) := by decide +kernel
theorem dX2_becomeIdentity_12 : decode cX2_becomeIdentity 12 = .ok (.iconst 0, 1) := by decide +kernel
theorem dX2_becomeIdentity_13 : decode cX2_becomeIdentity 13 = .ok (.invokestatic 20, 3) := by decide +kernel
theorem dX2_becomeIdentity_16 : decode cX2_becomeIdentity 16 = .ok (.aload_n 0, 1) := by decide +kernel
theorem dX2_becomeIdentity_17 : decode cX2_becomeIdentity 17 = .ok (.iconst 1, 1) := by decide +kernel
theorem dX2_becomeIdentity_18 : decode cX2_becomeIdentity 18 = .ok (.putfield 16, 3) := by decide +kernel
theorem dX2_becomeIdentity_21 : decode cX2_becomeIdentity 21 = .ok (.return_, 1) := by decide +kernel
set_option maxRecDepth 20000 in
theorem ggX2_copyFrom_X1_copy : GoodIn wsX2_copyFrom wsX1_copy := goodIn_r _ [7, 8, 9, 10, 11] (by decide +kernel) (by decide +kernel)
set_option maxRecDepth 20000 in
theorem gX2_copyFrom_X1_copy : GoodIn wsX2_copyFrom (va_wsS RX2 26 yX1_copy wsX1_copy) := goodIn_app (goodIn_of _ (by decide +kernel)) ggX2_copyFrom_X1_copy
theorem dX2_copyFrom_0 : decode cX2_copyFrom 0 = .ok (.aload_n 0, 1) := by decide +kernel
theorem dX2_copyFrom_1 : decode cX2_copyFrom 1 = .ok (.getfield 7, 3) := by decide +kernel
theorem dX2_copyFrom_4 : decode cX2_copyFrom 4 = .ok (.aload_n 1, 1) := by decide +kernel
theorem dX2_copyFrom_5 : decode cX2_copyFrom 5 = .ok (.getfield 7, 3) := by decide +kernel
theorem dX2_copyFrom_8 : decode cX2_copyFrom 8 = .ok (.invokestatic 26, 3) := by decide +kernel
theorem dX2_copyFrom_11 : decode cX2_copyFrom 11 = .ok (.aload_n 0, 1) := by decide +kernel
theorem dX2_copyFrom_12 : decode cX2_copyFrom 12 = .ok (.getfield 13, 3) := by decide +kernel
theorem dX2_copyFrom_15 : decode cX2_copyFrom 15 = .ok (.aload_n 1, 1) := by decide +kernel
theorem dX2_copyFrom_16 : decode cX2_copyFrom 16 = .ok (.getfield 13, 3) := by decide +kernel
theorem dX2_copyFrom_19 : decode cX2_copyFrom 19 = .ok (.invokestatic 26, 3) := by decide +kernel
theorem dX2_copyFrom_22 : decode cX2_copyFrom 22 = .ok (.aload_n 0, 1) := by decide +kernel
theorem dX2_copyFrom_23 : decode cX2_copyFrom 23 = .ok (.aload_n 1, 1) := by decide +kernel
theorem dX2_copyFrom_24 : decode cX2_copyFrom 24 = .ok (.getfield 16, 3) := by decide +kernel
theorem dX2_copyFrom_27 : decode cX2_copyFrom 27 = .ok (.putfield 16, 3) := by decide +kernel
theorem dX2_copyFrom_30 : decode cX2_copyFrom 30 = .ok (.return_, 1) := by decide +kernel
set_option maxRecDepth 20000 in
theorem ggX2_sameAs_X1_compare : GoodIn wsX2_sameAs wsX1_compare := goodIn_r _ [7] (by decide +kernel) (by decide +kernel)
set_option maxRecDepth 20000 in
theorem gX2_sameAs_X1_compare : GoodIn wsX2_sameAs (va_wsS RX2 30 yX1_compare wsX1_compare) := goodIn_app (goodIn_of _ (by decide +kernel)) ggX2_sameAs_X1_compare
theorem dX2_sameAs_0 : decode cX2_sameAs 0 = .ok (.aload_n 0, 1) := by decide +kernel
theorem dX2_sameAs_1 : decode cX2_sameAs 1 = .ok (.getfield 16, 3) := by decide +kernel
theorem dX2_sameAs_4 : decode cX2_sameAs 4 = .ok (.aload_n 1, 1) := by decide +kernel
theorem dX2_sameAs_5 : decode cX2_sameAs 5 = .ok (.getfield 16, 3) := by decide +kernel
theorem dX2_sameAs_8 : decode cX2_sameAs 8 = .ok (.if_icmp .ne 35, 3) := by decide +kernel
theorem dX2_sameAs_11 : decode cX2_sameAs 11 = .ok (.aload_n 0, 1) := by decide +kernel
theorem dX2_sameAs_12 : decode cX2_sameAs 12 = .ok (.getfield 7, 3) := by decide +kernel
theorem dX2_sameAs_15 : decode cX2_sameAs 15 = .ok (.aload_n 1, 1) := by decide +kernel
theorem dX2_sameAs_16 : decode cX2_sameAs 16 = .ok (.getfield 7, 3) := by decide +kernel
theorem dX2_sameAs_19 : decode cX2_sameAs 19 = .ok (.invokestatic 30, 3) := by decide +kernel
theorem dX2_sameAs_22 : decode cX2_sameAs 22 = .ok (.ifCond .ne 21, 3) := by decide +kernel
theorem dX2_sameAs_25 : decode cX2_sameAs 25 = .ok (.aload_n 0, 1) := by decide +kernel
theorem dX2_sameAs_26 : decode cX2_sameAs 26 = .ok (.getfield 13, 3) := by decide +kernel
theorem dX2_sameAs_29 : decode cX2_sameAs 29 = .ok (.aload_n 1, 1) := by decide +kernel
theorem dX2_sameAs_30 : decode cX2_sameAs 30 = .ok (.getfield 13, 3) := by decide +kernel
theorem dX2_sameAs_33 : decode cX2_sameAs 33 = .ok (.invokestatic 30, 3) := by decide +kernel
theorem dX2_sameAs_36 : decode cX2_sameAs 36 = .ok (.ifCond .ne 7, 3) := by decide +kernel
theorem dX2_sameAs_39 : decode cX2_sameAs 39 = .ok (.iconst 1, 1) := by decide +kernel
theorem dX2_sameAs_40 : decode cX2_sameAs 40 = .ok (.goto 4, 3) := by decide +kernel
theorem dX2_sameAs_43 : decode cX2_sameAs 43 = .ok (.iconst 0, 1) := by decide +kernel
theorem dX2_sameAs_44 : decode cX2_sameAs 44 = .ok (.ireturn, 1) := by decide +kernel
theorem dX3_init_0 : decode cX3_init 0 = .ok (.aload_n 0, 1) := by decide +kernel
theorem dX3_init_1 : decode cX3_init 1 = .ok (.invokespecial 3, 3) := by decide +kernel
theorem dX3_init_4 : decode cX3_init 4 = .ok (.aload_n 0, 1) := by decide +kernel
theorem dX3_init_5 : decode cX3_init 5 = .ok (.iload_n 1, 1) := by decide +kernel
theorem dX3_init_6 : decode cX3_init 6 = .ok (.newarray .int, 2) := by decide +kernel
theorem dX3_init_8 : decode cX3_init 8 = .ok (.putfield 9, 3) := by decide +kernel
theorem dX3_init_11 : decode cX3_init 11 = .ok (.aload_n 0, 1) := by decide +kernel
theorem dX3_init_12 : decode cX3_init 12 = .ok (.iload_n 1, 1) := by decide +kernel
theorem dX3_init_13 : decode cX3_init 13 = .ok (.newarray .int, 2) := by decide +kernel
theorem dX3_init_15 : decode cX3_init 15 = .ok (.putfield 15, 3) := by decide +kernel
theorem dX3_init_18 : decode cX3_init 18 = .ok (.aload_n 0, 1) := by decide +kernel
theorem dX3_init_19 : decode cX3_init 19 = .ok (.iconst 2, 1) := by decide +kernel
theorem dX3_init_20 : decode cX3_init 20 = .ok (.iload_n 1, 1) := by decide +kernel
theorem dX3_init_21 : decode cX3_init 21 = .ok (.imul, 1) := by decide +kernel
theorem dX3_init_22 : decode cX3_init 22 = .ok (.iconst 1, 1) := by decide +kernel
theorem dX3_init_23 : decode cX3_init 23 = .ok (.iadd, 1) := by decide +kernel
theorem dX3_init_24 : decode cX3_init 24 = .ok (.newarray .int, 2) := by decide +kernel
theorem dX3_init_26 : decode cX3_init 26 = .ok (.putfield 18, 3) := by decide +kernel
theorem dX3_init_29 : decode cX3_init 29 = .ok (.aload_n 0, 1) := by decide +kernel
theorem dX3_init_30 : decode cX3_init 30 = .ok (.iload_n 1, 1) := by decide +kernel
theorem dX3_init_31 : decode cX3_init 31 = .ok (.newarray .int, 2) := by decide +kernel
theorem dX3_init_33 : decode cX3_init 33 = .ok (.putfield 21, 3) := by decide +kernel
theorem dX3_init_36 : decode cX3_init 36 = .ok (.aload_n 0, 1) := by decide +kernel
theorem dX3_init_37 : decode cX3_init 37 = .ok (.iload_n 1, 1) := by decide +kernel
theorem dX3_init_38 : decode cX3_init 38 = .ok (.newarray .int, 2) := by decide +kernel
theorem dX3_init_40 : decode cX3_init 40 = .ok (.putfield 24, 3) := by decide +kernel
theorem dX3_init_43 : decode cX3_init 43 = .ok (.aload_n 0, 1) := by decide +kernel
theorem dX3_init_44 : decode cX3_init 44 = .ok (.iload_n 1, 1) := by decide +kernel
theorem dX3_init_45 : decode cX3_init 45 = .ok (.newarray .int, 2) := by decide +kernel
theorem dX3_init_47 : decode cX3_init 47 = .ok (.putfield 27, 3) := by decide +kernel
theorem dX3_init_50 : decode cX3_init 50 = .ok (.aload_n 0, 1) := by decide +kernel
theorem dX3_init_51 : decode cX3_init 51 = .ok (.iload_n 1, 1) := by decide +kernel
theorem dX3_init_52 : decode cX3_init 52 = .ok (.newarray .int, 2) := by decide +kernel
theorem dX3_init_54 : decode cX3_init 54 = .ok (.putfield 30, 3) := by decide +kernel
theorem dX3_init_57 : decode cX3_init 57 = .ok (.aload_n 0, 1) := by decide +kernel
theorem dX3_init_58 : decode cX3_init 58 = .ok (.iload_n 1, 1) := by decide +kernel
theorem dX3_init_59 : decode cX3_init 59 = .ok (.newarray .int, 2) := by decide +kernel
theorem dX3_init_61 : decode cX3_init 61 = .ok (.putfield 33, 3) := by decide +kernel
theorem dX3_init_64 : decode cX3_init 64 = .ok (.aload_n 0, 1) := by decide +kernel
theorem dX3_init_65 : decode cX3_init 65 = .ok (.iconst 0, 1) := by decide +kernel
theorem dX3_init_66 : decode cX3_init 66 = .ok (.putfield 36, 3) := by decide +kernel
theorem dX3_init_69 : decode cX3_init 69 = .ok (.aload_n 0, 1) := by decide +kernel
theorem dX3_init_70 : decode cX3_init 70 = .ok (.iconst 0, 1) := by decide +kernel
theorem dX3_init_71 : decode cX3_init 71 = .ok (.putfield 40, 3) := by decide +kernel
theorem dX3_init_74 : decode cX3_init 74 = .ok (.return_, 1) := by decide +kernel
set_option maxRecDepth 20000 in
theorem ggX3_takeModulus_X1_copy : GoodIn wsX3_takeModulus wsX1_copy := goodIn_r _ [8, 9, 10, 11, 12] (by decide +kernel) (by decide +kernel)
set_option maxRecDepth 20000 in
theorem gX3_takeModulus_X1_copy : GoodIn wsX3_takeModulus (va_wsS RX3 43 yX1_copy wsX1_copy) := goodIn_app (goodIn_of _ (by decide +kernel)) ggX3_takeModulus_X1_copy
set_option maxRecDepth 20000 in
theorem ggX3_takeModulus_X1_sizeOf : GoodIn wsX3_takeModulus wsX1_sizeOf := goodIn_r _ [15] (by decide +kernel) (by decide +kernel)
set_option maxRecDepth 20000 in
theorem gX3_takeModulus_X1_sizeOf : GoodIn wsX3_takeModulus (va_wsS RX3 49 yX1_sizeOf wsX1_sizeOf) := goodIn_app (goodIn_of _ (by decide +kernel)) ggX3_takeModulus_X1_sizeOf
set_option maxRecDepth 20000 in
theorem ggX3_takeModulus_J6_numberOfLeadingZeros_0f7a4 : GoodIn wsX3_takeModulus wsJ6_numberOfLeadingZeros_0f7a4 := goodIn_r _ [19, 20] (by decide +kernel) (by decide +kernel)
set_option maxRecDepth 20000 in
theorem gX3_takeModulus_J6_numberOfLeadingZeros_0f7a4 : GoodIn wsX3_takeModulus (va_wsS RX3 53 yJ6_numberOfLeadingZeros_0f7a4 wsJ6_numberOfLeadingZeros_0f7a4) := goodIn_app (goodIn_of _ (by decide +kernel)) ggX3_takeModulus_J6_numberOfLeadingZeros_0f7a4
set_option maxRecDepth 20000 in
theorem ggX3_takeModulus_X1_shiftedLimb : GoodIn wsX3_takeModulus wsX1_shiftedLimb := goodIn_r _ [23, 24] (by decide +kernel) (by decide +kernel)
set_option maxRecDepth 20000 in
theorem gX3_takeModulus_X1_shiftedLimb : GoodIn wsX3_takeModulus (va_wsS RX3 59 yX1_shiftedLimb wsX1_shiftedLimb) := goodIn_app (goodIn_of _ (by decide +kernel)) ggX3_takeModulus_X1_shiftedLimb
theorem dX3_takeModulus_0 : decode cX3_takeModulus 0 = .ok (.aload_n 0, 1) := by decide +kernel
theorem dX3_takeModulus_1 : decode cX3_takeModulus 1 = .ok (.getfield 9, 3) := by decide +kernel
theorem dX3_takeModulus_4 : decode cX3_takeModulus 4 = .ok (.aload_n 1, 1) := by decide +kernel
theorem dX3_takeModulus_5 : decode cX3_takeModulus 5 = .ok (.invokestatic 43, 3) := by decide +kernel
theorem dX3_takeModulus_8 : decode cX3_takeModulus 8 = .ok (.aload_n 0, 1) := by decide +kernel
theorem dX3_takeModulus_9 : decode cX3_takeModulus 9 = .ok (.aload_n 0, 1) := by decide +kernel
theorem dX3_takeModulus_10 : decode cX3_takeModulus 10 = .ok (.getfield 9, 3) := by decide +kernel
theorem dX3_takeModulus_13 : decode cX3_takeModulus 13 = .ok (.invokestatic 49, 3) := by decide +kernel
theorem dX3_takeModulus_16 : decode cX3_takeModulus 16 = .ok (.putfield 36, 3) := by decide +kernel
theorem dX3_takeModulus_19 : decode cX3_takeModulus 19 = .ok (.aload_n 0, 1) := by decide +kernel
theorem dX3_takeModulus_20 : decode cX3_takeModulus 20 = .ok (.getfield 36, 3) := by decide +kernel
theorem dX3_takeModulus_23 : decode cX3_takeModulus 23 = .ok (.ifCond .ne 5, 3) := by decide +kernel
theorem dX3_takeModulus_26 : decode cX3_takeModulus 26 = .ok (.iconst 0, 1) := by decide +kernel
theorem dX3_takeModulus_27 : decode cX3_takeModulus 27 = .ok (.ireturn, 1) := by decide +kernel
theorem dX3_takeModulus_28 : decode cX3_takeModulus 28 = .ok (.aload_n 0, 1) := by decide +kernel
theorem dX3_takeModulus_29 : decode cX3_takeModulus 29 = .ok (.aload_n 0, 1) := by decide +kernel
theorem dX3_takeModulus_30 : decode cX3_takeModulus 30 = .ok (.getfield 9, 3) := by decide +kernel
theorem dX3_takeModulus_33 : decode cX3_takeModulus 33 = .ok (.aload_n 0, 1) := by decide +kernel
theorem dX3_takeModulus_34 : decode cX3_takeModulus 34 = .ok (.getfield 36, 3) := by decide +kernel
theorem dX3_takeModulus_37 : decode cX3_takeModulus 37 = .ok (.iconst 1, 1) := by decide +kernel
theorem dX3_takeModulus_38 : decode cX3_takeModulus 38 = .ok (.isub, 1) := by decide +kernel
theorem dX3_takeModulus_39 : decode cX3_takeModulus 39 = .ok (.iaload, 1) := by decide +kernel
theorem dX3_takeModulus_40 : decode cX3_takeModulus 40 = .ok (.invokestatic 53, 3) := by decide +kernel
theorem dX3_takeModulus_43 : decode cX3_takeModulus 43 = .ok (.iconst 1, 1) := by decide +kernel
theorem dX3_takeModulus_44 : decode cX3_takeModulus 44 = .ok (.isub, 1) := by decide +kernel
theorem dX3_takeModulus_45 : decode cX3_takeModulus 45 = .ok (.putfield 40, 3) := by decide +kernel
theorem dX3_takeModulus_48 : decode cX3_takeModulus 48 = .ok (.iconst 0, 1) := by decide +kernel
theorem dX3_takeModulus_49 : decode cX3_takeModulus 49 = .ok (.istore_n 2, 1) := by decide +kernel
theorem dX3_takeModulus_50 : decode cX3_takeModulus 50 = .ok (.iload_n 2, 1) := by decide +kernel
theorem dX3_takeModulus_51 : decode cX3_takeModulus 51 = .ok (.aload_n 0, 1) := by decide +kernel
theorem dX3_takeModulus_52 : decode cX3_takeModulus 52 = .ok (.getfield 15, 3) := by decide +kernel
theorem dX3_takeModulus_55 : decode cX3_takeModulus 55 = .ok (.arraylength, 1) := by decide +kernel
theorem dX3_takeModulus_56 : decode cX3_takeModulus 56 = .ok (.if_icmp .ge 27, 3) := by decide +kernel
theorem dX3_takeModulus_59 : decode cX3_takeModulus 59 = .ok (.aload_n 0, 1) := by decide +kernel
theorem dX3_takeModulus_60 : decode cX3_takeModulus 60 = .ok (.getfield 15, 3) := by decide +kernel
theorem dX3_takeModulus_63 : decode cX3_takeModulus 63 = .ok (.iload_n 2, 1) := by decide +kernel
theorem dX3_takeModulus_64 : decode cX3_takeModulus 64 = .ok (.aload_n 0, 1) := by decide +kernel
theorem dX3_takeModulus_65 : decode cX3_takeModulus 65 = .ok (.getfield 9, 3) := by decide +kernel
theorem dX3_takeModulus_68 : decode cX3_takeModulus 68 = .ok (.iload_n 2, 1) := by decide +kernel
theorem dX3_takeModulus_69 : decode cX3_takeModulus 69 = .ok (.aload_n 0, 1) := by decide +kernel
theorem dX3_takeModulus_70 : decode cX3_takeModulus 70 = .ok (.getfield 40, 3) := by decide +kernel
theorem dX3_takeModulus_73 : decode cX3_takeModulus 73 = .ok (.invokestatic 59, 3) := by decide +kernel
theorem dX3_takeModulus_76 : decode cX3_takeModulus 76 = .ok (.iastore, 1) := by decide +kernel
theorem dX3_takeModulus_77 : decode cX3_takeModulus 77 = .ok (.iinc 2 1, 3) := by decide +kernel
theorem dX3_takeModulus_80 : decode cX3_takeModulus 80 = .ok (.goto (-30), 3) := by decide +kernel
theorem dX3_takeModulus_83 : decode cX3_takeModulus 83 = .ok (.iconst 1, 1) := by decide +kernel
theorem dX3_takeModulus_84 : decode cX3_takeModulus 84 = .ok (.ireturn, 1) := by decide +kernel
set_option maxRecDepth 20000 in
theorem ggX3_reduce_X3_takeRemainder : GoodIn wsX3_reduce wsX3_takeRemainder := goodIn_r _ [10, 11, 12, 1, 13, 14, 15, 16, 17, 18, 19, 20, 9, 21, 22, 23, 24, 25, 26, 27, 28, 29, 30, 31, 32, 33, 34, 35, 36, 37, 38, 39, 40] (by decide +kernel) (by decide +kernel)
set_option maxRecDepth 20000 in
theorem gX3_reduce_X3_takeRemainder : GoodIn wsX3_reduce (wsV RX3 69 RX3 yX3_takeRemainder wsX3_takeRemainder) := goodIn_app (goodIn_of _ (by decide +kernel)) ggX3_reduce_X3_takeRemainder
theorem dX3_reduce_0 : decode cX3_reduce 0 = .ok (.aload_n 2, 1) := by decide +kernel
theorem dX3_reduce_1 : decode cX3_reduce 1 = .ok (.iconst 0, 1) := by decide +kernel
theorem dX3_reduce_2 : decode cX3_reduce 2 = .ok (.aload_n 0, 1) := by decide +kernel
theorem dX3_reduce_3 : decode cX3_reduce 3 = .ok (.getfield 18, 3) := by decide +kernel
theorem dX3_reduce_6 : decode cX3_reduce 6 = .ok (.iconst 0, 1) := by decide +kernel
theorem dX3_reduce_7 : decode cX3_reduce 7 = .ok (.aload_n 2, 1) := by decide +kernel
theorem dX3_reduce_8 : decode cX3_reduce 8 = .ok (.arraylength, 1) := by decide +kernel
theorem dX3_reduce_9 : decode cX3_reduce 9 = .ok (.invokestatic 63, 3) := by decide +kernel
theorem dX3_reduce_12 : decode cX3_reduce 12 = .ok (.aload_n 0, 1) := by decide +kernel
theorem dX3_reduce_13 : decode cX3_reduce 13 = .ok (.aload_n 1, 1) := by decide +kernel
theorem dX3_reduce_14 : decode cX3_reduce 14 = .ok (.aload_n 2, 1) := by decide +kernel
theorem dX3_reduce_15 : decode cX3_reduce 15 = .ok (.arraylength, 1) := by decide +kernel
theorem dX3_reduce_16 : decode cX3_reduce 16 = .ok (.invokevirtual 69, 3) := by decide +kernel
theorem dX3_reduce_19 : decode cX3_reduce 19 = .ok (.return_, 1) := by decide +kernel
set_option maxRecDepth 20000 in
theorem ggX3_add_X1_combine : GoodIn wsX3_add wsX1_combine := goodIn_r _ [5, 6] (by decide +kernel) (by decide +kernel)
set_option maxRecDepth 20000 in
theorem gX3_add_X1_combine : GoodIn wsX3_add (va_wsS RX3 73 yX1_combine wsX1_combine) := goodIn_app (goodIn_of _ (by decide +kernel)) ggX3_add_X1_combine
set_option maxRecDepth 20000 in
theorem ggX3_add_X1_compare : GoodIn wsX3_add wsX1_compare := goodIn_r _ [9] (by decide +kernel) (by decide +kernel)
set_option maxRecDepth 20000 in
theorem gX3_add_X1_compare : GoodIn wsX3_add (va_wsS RX3 77 yX1_compare wsX1_compare) := goodIn_app (goodIn_of _ (by decide +kernel)) ggX3_add_X1_compare
theorem dX3_add_0 : decode cX3_add 0 = .ok (.aload_n 1, 1) := by decide +kernel
theorem dX3_add_1 : decode cX3_add 1 = .ok (.aload_n 2, 1) := by decide +kernel
theorem dX3_add_2 : decode cX3_add 2 = .ok (.aload_n 3, 1) := by decide +kernel
theorem dX3_add_3 : decode cX3_add 3 = .ok (.iconst 1, 1) := by decide +kernel
theorem dX3_add_4 : decode cX3_add 4 = .ok (.invokestatic 73, 3) := by decide +kernel
theorem dX3_add_7 : decode cX3_add 7 = .ok (.lstore 4, 2) := by decide +kernel
theorem dX3_add_9 : decode cX3_add 9 = .ok (.lload 4, 2) := by decide +kernel
theorem dX3_add_11 : decode cX3_add 11 = .ok (.lconst 0, 1) := by decide +kernel
theorem dX3_add_12 : decode cX3_add 12 = .ok (.lcmp, 1) := by decide +kernel
theorem dX3_add_13 : decode cX3_add 13 = .ok (.ifCond .ne 14, 3) := by decide +kernel
theorem dX3_add_16 : decode cX3_add 16 = .ok (.aload_n 1, 1) := by decide +kernel
theorem dX3_add_17 : decode cX3_add 17 = .ok (.aload_n 0, 1) := by decide +kernel
theorem dX3_add_18 : decode cX3_add 18 = .ok (.getfield 9, 3) := by decide +kernel
theorem dX3_add_21 : decode cX3_add 21 = .ok (.invokestatic 77, 3) := by decide +kernel
theorem dX3_add_24 : decode cX3_add 24 = .ok (.ifCond .lt 14, 3) := by decide +kernel
theorem dX3_add_27 : decode cX3_add 27 = .ok (.aload_n 1, 1) := by decide +kernel
theorem dX3_add_28 : decode cX3_add 28 = .ok (.aload_n 1, 1) := by decide +kernel
theorem dX3_add_29 : decode cX3_add 29 = .ok (.aload_n 0, 1) := by decide +kernel
theorem dX3_add_30 : decode cX3_add 30 = .ok (.getfield 9, 3) := by decide +kernel
theorem dX3_add_33 : decode cX3_add 33 = .ok (.iconst (-1), 1) := by decide +kernel
theorem dX3_add_34 : decode cX3_add 34 = .ok (.invokestatic 73, 3) := by decide +kernel
theorem dX3_add_37 : decode cX3_add 37 = .ok (.pop2, 1) := by decide +kernel
theorem dX3_add_38 : decode cX3_add 38 = .ok (.return_, 1) := by decide +kernel
set_option maxRecDepth 20000 in
theorem ggX3_twice_X3_add : GoodIn wsX3_twice wsX3_add := goodIn_r _ [5, 6, 7, 8, 9, 10, 11, 12, 13, 14, 15, 16, 17, 18, 19, 20, 21, 22, 23, 24] (by decide +kernel) (by decide +kernel)
set_option maxRecDepth 20000 in
theorem gX3_twice_X3_add : GoodIn wsX3_twice (wsV RX3 81 RX3 yX3_add wsX3_add) := goodIn_app (goodIn_of _ (by decide +kernel)) ggX3_twice_X3_add
theorem dX3_twice_0 : decode cX3_twice 0 = .ok (.aload_n 0, 1) := by decide +kernel
theorem dX3_twice_1 : decode cX3_twice 1 = .ok (.aload_n 1, 1) := by decide +kernel
theorem dX3_twice_2 : decode cX3_twice 2 = .ok (.aload_n 2, 1) := by decide +kernel
theorem dX3_twice_3 : decode cX3_twice 3 = .ok (.aload_n 2, 1) := by decide +kernel
theorem dX3_twice_4 : decode cX3_twice 4 = .ok (.invokevirtual 81, 3) := by decide +kernel
theorem dX3_twice_7 : decode cX3_twice 7 = .ok (.return_, 1) := by decide +kernel
set_option maxRecDepth 20000 in
theorem ggX3_thrice_X3_add : GoodIn wsX3_thrice wsX3_add := goodIn_r _ [6, 7, 8, 9, 10, 11, 12, 13, 14, 15, 16, 17, 18, 19, 20, 21, 22, 23, 24, 25] (by decide +kernel) (by decide +kernel)
set_option maxRecDepth 20000 in
theorem gX3_thrice_X3_add : GoodIn wsX3_thrice (wsV RX3 81 RX3 yX3_add wsX3_add) := goodIn_app (goodIn_of _ (by decide +kernel)) ggX3_thrice_X3_add
theorem dX3_thrice_0 : decode cX3_thrice 0 = .ok (.aload_n 0, 1) := by decide +kernel
theorem dX3_thrice_1 : decode cX3_thrice 1 = .ok (.aload_n 0, 1) := by decide +kernel
theorem dX3_thrice_2 : decode cX3_thrice 2 = .ok (.getfield 21, 3) := by decide +kernel
theorem dX3_thrice_5 : decode cX3_thrice 5 = .ok (.aload_n 2, 1) := by decide +kernel
theorem dX3_thrice_6 : decode cX3_thrice 6 = .ok (.aload_n 2, 1) := by decide +kernel
theorem dX3_thrice_7 : decode cX3_thrice 7 = .ok (.invokevirtual 81, 3) := by decide +kernel
theorem dX3_thrice_10 : decode cX3_thrice 10 = .ok (.aload_n 0, 1) := by decide +kernel
theorem dX3_thrice_11 : decode cX3_thrice 11 = .ok (.aload_n 1, 1) := by decide +kernel
theorem dX3_thrice_12 : decode cX3_thrice 12 = .ok (.aload_n 0, 1) := by decide +kernel
theorem dX3_thrice_13 : decode cX3_thrice 13 = .ok (.getfield 21, 3) := by decide +kernel
theorem dX3_thrice_16 : decode cX3_thrice 16 = .ok (.aload_n 2, 1) := by decide +kernel
theorem dX3_thrice_17 : decode cX3_thrice 17 = .ok (.invokevirtual 81, 3) := by decide +kernel
theorem dX3_thrice_20 : decode cX3_thrice 20 = .ok (.return_, 1) := by decide +kernel
set_option maxRecDepth 20000 in
theorem ggX3_subtract_X1_combine : GoodIn wsX3_subtract wsX1_combine := goodIn_r _ [5, 6] (by decide +kernel) (by decide +kernel)
set_option maxRecDepth 20000 in
theorem gX3_subtract_X1_combine : GoodIn wsX3_subtract (va_wsS RX3 73 yX1_combine wsX1_combine) := goodIn_app (goodIn_of _ (by decide +kernel)) ggX3_subtract_X1_combine
theorem dX3_subtract_0 : decode cX3_subtract 0 = .ok (.aload_n 1, 1) := by decide +kernel
theorem dX3_subtract_1 : decode cX3_subtract 1 = .ok (.aload_n 2, 1) := by decide +kernel
theorem dX3_subtract_2 : decode cX3_subtract 2 = .ok (.aload_n 3, 1) := by decide +kernel
theorem dX3_subtract_3 : decode cX3_subtract 3 = .ok (.iconst (-1), 1) := by decide +kernel
theorem dX3_subtract_4 : decode cX3_subtract 4 = .ok (.invokestatic 73, 3) := by decide +kernel
theorem dX3_subtract_7 : decode cX3_subtract 7 = .ok (.lstore 4, 2) := by decide +kernel
theorem dX3_subtract_9 : decode cX3_subtract 9 = .ok (.lload 4, 2) := by decide +kernel
theorem dX3_subtract_11 : decode cX3_subtract 11 = .ok (.lconst 0, 1) := by decide +kernel
theorem dX3_subtract_12 : decode cX3_subtract 12 = .ok (.lcmp, 1) := by decide +kernel
theorem dX3_subtract_13 : decode cX3_subtract 13 = .ok (.ifCond .eq 14, 3) := by decide +kernel
theorem dX3_subtract_16 : decode cX3_subtract 16 = .ok (.aload_n 1, 1) := by decide +kernel
theorem dX3_subtract_17 : decode cX3_subtract 17 = .ok (.aload_n 1, 1) := by decide +kernel
theorem dX3_subtract_18 : decode cX3_subtract 18 = .ok (.aload_n 0, 1) := by decide +kernel
theorem dX3_subtract_19 : decode cX3_subtract 19 = .ok (.getfield 9, 3) := by decide +kernel
theorem dX3_subtract_22 : decode cX3_subtract 22 = .ok (.iconst 1, 1) := by decide +kernel
theorem dX3_subtract_23 : decode cX3_subtract 23 = .ok (.invokestatic 73, 3) := by decide +kernel
theorem dX3_subtract_26 : decode cX3_subtract 26 = .ok (.pop2, 1) := by decide +kernel
theorem dX3_subtract_27 : decode cX3_subtract 27 = .ok (.return_, 1) := by decide +kernel
set_option maxRecDepth 20000 in
theorem ggX3_multiply_J7_fill_53178 : GoodIn wsX3_multiply wsJ7_fill_53178 := goodIn_r _ [7] (by decide +kernel) (by decide +kernel)
set_option maxRecDepth 20000 in
theorem gX3_multiply_J7_fill_53178 : GoodIn wsX3_multiply (va_wsS RX3 85 yJ7_fill_53178 wsJ7_fill_53178) := goodIn_app (goodIn_of _ (by decide +kernel)) ggX3_multiply_J7_fill_53178
set_option maxRecDepth 20000 in
theorem ggX3_multiply_X3_takeRemainder : GoodIn wsX3_multiply wsX3_takeRemainder := goodIn_r _ [12, 2, 13, 1, 3, 14, 15, 16, 17, 18, 19, 20, 11, 21, 22, 23, 24, 25, 26, 27, 28, 29, 30, 31, 32, 33, 34, 35, 36, 37, 38, 39, 40] (by decide +kernel) (by decide +kernel)
set_option maxRecDepth 20000 in
theorem gX3_multiply_X3_takeRemainder : GoodIn wsX3_multiply (wsV RX3 69 RX3 yX3_takeRemainder wsX3_takeRemainder) := goodIn_app (goodIn_of _ (by decide +kernel)) ggX3_multiply_X3_takeRemainder
theorem dX3_multiply_0 : decode cX3_multiply 0 = .ok (.aload_n 0, 1) := by decide +kernel
theorem dX3_multiply_1 : decode cX3_multiply 1 = .ok (.getfield 18, 3) := by decide +kernel
theorem dX3_multiply_4 : decode cX3_multiply 4 = .ok (.iconst 0, 1) := by decide +kernel
theorem dX3_multiply_5 : decode cX3_multiply 5 = .ok (.invokestatic 85, 3) := by decide +kernel
theorem dX3_multiply_8 : decode cX3_multiply 8 = .ok (.iconst 0, 1) := by decide +kernel
theorem dX3_multiply_9 : decode cX3_multiply 9 = .ok (.istore 4, 2) := by decide +kernel
theorem dX3_multiply_11 : decode cX3_multiply 11 = .ok (.iload 4, 2) := by decide +kernel
theorem dX3_multiply_13 : decode cX3_multiply 13 = .ok (.aload_n 0, 1) := by decide +kernel
theorem dX3_multiply_14 : decode cX3_multiply 14 = .ok (.getfield 36, 3) := by decide +kernel
theorem dX3_multiply_17 : decode cX3_multiply 17 = .ok (.if_icmp .ge 101, 3) := by decide +kernel
theorem dX3_multiply_20 : decode cX3_multiply 20 = .ok (.aload_n 2, 1) := by decide +kernel
theorem dX3_multiply_21 : decode cX3_multiply 21 = .ok (.iload 4, 2) := by decide +kernel
theorem dX3_multiply_23 : decode cX3_multiply 23 = .ok (.iaload, 1) := by decide +kernel
theorem dX3_multiply_24 : decode cX3_multiply 24 = .ok (.i2l, 1) := by decide +kernel
theorem dX3_multiply_25 : decode cX3_multiply 25 = .ok (.lstore 5, 2) := by decide +kernel
theorem dX3_multiply_27 : decode cX3_multiply 27 = .ok (.lconst 0, 1) := by decide +kernel
theorem dX3_multiply_28 : decode cX3_multiply 28 = .ok (.lstore 7, 2) := by decide +kernel
theorem dX3_multiply_30 : decode cX3_multiply 30 = .ok (.iconst 0, 1) := by decide +kernel
theorem dX3_multiply_31 : decode cX3_multiply 31 = .ok (.istore 9, 2) := by decide +kernel
theorem dX3_multiply_33 : decode cX3_multiply 33 = .ok (.iload 9, 2) := by decide +kernel
theorem dX3_multiply_35 : decode cX3_multiply 35 = .ok (.aload_n 0, 1) := by decide +kernel
theorem dX3_multiply_36 : decode cX3_multiply 36 = .ok (.getfield 36, 3) := by decide +kernel
theorem dX3_multiply_39 : decode cX3_multiply 39 = .ok (.if_icmp .ge 58, 3) := by decide +kernel
theorem dX3_multiply_42 : decode cX3_multiply 42 = .ok (.lload 7, 2) := by decide +kernel
theorem dX3_multiply_44 : decode cX3_multiply 44 = .ok (.lload 5, 2) := by decide +kernel
theorem dX3_multiply_46 : decode cX3_multiply 46 = .ok (.aload_n 3, 1) := by decide +kernel
theorem dX3_multiply_47 : decode cX3_multiply 47 = .ok (.iload 9, 2) := by decide +kernel
theorem dX3_multiply_49 : decode cX3_multiply 49 = .ok (.iaload, 1) := by decide +kernel
theorem dX3_multiply_50 : decode cX3_multiply 50 = .ok (.i2l, 1) := by decide +kernel
theorem dX3_multiply_51 : decode cX3_multiply 51 = .ok (.lmul, 1) := by decide +kernel
theorem dX3_multiply_52 : decode cX3_multiply 52 = .ok (.aload_n 0, 1) := by decide +kernel
theorem dX3_multiply_53 : decode cX3_multiply 53 = .ok (.getfield 18, 3) := by decide +kernel
theorem dX3_multiply_56 : decode cX3_multiply 56 = .ok (.iload 4, 2) := by decide +kernel
theorem dX3_multiply_58 : decode cX3_multiply 58 = .ok (.iload 9, 2) := by decide +kernel
theorem dX3_multiply_60 : decode cX3_multiply 60 = .ok (.iadd, 1) := by decide +kernel
theorem dX3_multiply_61 : decode cX3_multiply 61 = .ok (.iaload, 1) := by decide +kernel
theorem dX3_multiply_62 : decode cX3_multiply 62 = .ok (.i2l, 1) := by decide +kernel
theorem dX3_multiply_63 : decode cX3_multiply 63 = .ok (.ladd, 1) := by decide +kernel
theorem dX3_multiply_64 : decode cX3_multiply 64 = .ok (.ladd, 1) := by decide +kernel
theorem dX3_multiply_65 : decode cX3_multiply 65 = .ok (.lstore 7, 2) := by decide +kernel
theorem dX3_multiply_67 : decode cX3_multiply 67 = .ok (.aload_n 0, 1) := by decide +kernel
theorem dX3_multiply_68 : decode cX3_multiply 68 = .ok (.getfield 18, 3) := by decide +kernel
theorem dX3_multiply_71 : decode cX3_multiply 71 = .ok (.iload 4, 2) := by decide +kernel
theorem dX3_multiply_73 : decode cX3_multiply 73 = .ok (.iload 9, 2) := by decide +kernel
theorem dX3_multiply_75 : decode cX3_multiply 75 = .ok (.iadd, 1) := by decide +kernel
theorem dX3_multiply_76 : decode cX3_multiply 76 = .ok (.lload 7, 2) := by decide +kernel
theorem dX3_multiply_78 : decode cX3_multiply 78 = .ok (.ldc2_w 90, 3) := by decide +kernel
theorem dX3_multiply_81 : decode cX3_multiply 81 = .ok (.land, 1) := by decide +kernel
theorem dX3_multiply_82 : decode cX3_multiply 82 = .ok (.l2i, 1) := by decide +kernel
theorem dX3_multiply_83 : decode cX3_multiply 83 = .ok (.iastore, 1) := by decide +kernel
theorem dX3_multiply_84 : decode cX3_multiply 84 = .ok (.lload 7, 2) := by decide +kernel
theorem dX3_multiply_86 : decode cX3_multiply 86 = .ok (.bipush 31, 2) := by decide +kernel
theorem dX3_multiply_88 : decode cX3_multiply 88 = .ok (.lshr, 1) := by decide +kernel
theorem dX3_multiply_89 : decode cX3_multiply 89 = .ok (.lstore 7, 2) := by decide +kernel
theorem dX3_multiply_91 : decode cX3_multiply 91 = .ok (.iinc 9 1, 3) := by decide +kernel
theorem dX3_multiply_94 : decode cX3_multiply 94 = .ok (.goto (-61), 3) := by decide +kernel
theorem dX3_multiply_97 : decode cX3_multiply 97 = .ok (.aload_n 0, 1) := by decide +kernel
theorem dX3_multiply_98 : decode cX3_multiply 98 = .ok (.getfield 18, 3) := by decide +kernel
theorem dX3_multiply_101 : decode cX3_multiply 101 = .ok (.iload 4, 2) := by decide +kernel
theorem dX3_multiply_103 : decode cX3_multiply 103 = .ok (.aload_n 0, 1) := by decide +kernel
theorem dX3_multiply_104 : decode cX3_multiply 104 = .ok (.getfield 36, 3) := by decide +kernel
theorem dX3_multiply_107 : decode cX3_multiply 107 = .ok (.iadd, 1) := by decide +kernel
theorem dX3_multiply_108 : decode cX3_multiply 108 = .ok (.lload 7, 2) := by decide +kernel
theorem dX3_multiply_110 : decode cX3_multiply 110 = .ok (.l2i, 1) := by decide +kernel
theorem dX3_multiply_111 : decode cX3_multiply 111 = .ok (.iastore, 1) := by decide +kernel
theorem dX3_multiply_112 : decode cX3_multiply 112 = .ok (.iinc 4 1, 3) := by decide +kernel
theorem dX3_multiply_115 : decode cX3_multiply 115 = .ok (.goto (-104), 3) := by decide +kernel
theorem dX3_multiply_118 : decode cX3_multiply 118 = .ok (.aload_n 0, 1) := by decide +kernel
theorem dX3_multiply_119 : decode cX3_multiply 119 = .ok (.aload_n 1, 1) := by decide +kernel
theorem dX3_multiply_120 : decode cX3_multiply 120 = .ok (.iconst 2, 1) := by decide +kernel
theorem dX3_multiply_121 : decode cX3_multiply 121 = .ok (.aload_n 0, 1) := by decide +kernel
theorem dX3_multiply_122 : decode cX3_multiply 122 = .ok (.getfield 36, 3) := by decide +kernel
theorem dX3_multiply_125 : decode cX3_multiply 125 = .ok (.imul, 1) := by decide +kernel
theorem dX3_multiply_126 : decode cX3_multiply 126 = .ok (.invokevirtual 69, 3) := by decide +kernel
theorem dX3_multiply_129 : decode cX3_multiply 129 = .ok (.return_, 1) := by decide +kernel
set_option maxRecDepth 20000 in
theorem ggX3_invert_X1_copy : GoodIn wsX3_invert wsX1_copy := goodIn_r _ [9, 10, 11, 12, 13] (by decide +kernel) (by decide +kernel)
set_option maxRecDepth 20000 in
theorem gX3_invert_X1_copy : GoodIn wsX3_invert (va_wsS RX3 43 yX1_copy wsX1_copy) := goodIn_app (goodIn_of _ (by decide +kernel)) ggX3_invert_X1_copy
set_option maxRecDepth 20000 in
theorem ggX3_invert_X1_set : GoodIn wsX3_invert wsX1_set := goodIn_r _ [16, 17, 18, 19, 20] (by decide +kernel) (by decide +kernel)
set_option maxRecDepth 20000 in
theorem gX3_invert_X1_set : GoodIn wsX3_invert (va_wsS RX3 92 yX1_set wsX1_set) := goodIn_app (goodIn_of _ (by decide +kernel)) ggX3_invert_X1_set
set_option maxRecDepth 20000 in
theorem ggX3_invert_X1_isZero : GoodIn wsX3_invert wsX1_isZero := goodIn_r _ [23, 24, 25, 8, 26] (by decide +kernel) (by decide +kernel)
set_option maxRecDepth 20000 in
theorem gX3_invert_X1_isZero : GoodIn wsX3_invert (va_wsS RX3 95 yX1_isZero wsX1_isZero) := goodIn_app (goodIn_of _ (by decide +kernel)) ggX3_invert_X1_isZero
set_option maxRecDepth 20000 in
theorem ggX3_invert_X1_gapBetween : GoodIn wsX3_invert wsX1_gapBetween := goodIn_r _ [29, 30, 31, 8, 32, 24, 25, 26, 33, 34, 35, 36, 37, 38, 39, 40, 41, 42, 43, 44] (by decide +kernel) (by decide +kernel)
set_option maxRecDepth 20000 in
theorem gX3_invert_X1_gapBetween : GoodIn wsX3_invert (va_wsS RX3 99 yX1_gapBetween wsX1_gapBetween) := goodIn_app (goodIn_of _ (by decide +kernel)) ggX3_invert_X1_gapBetween
set_option maxRecDepth 20000 in
theorem ggX3_invert_X1_addShifted : GoodIn wsX3_invert wsX1_addShifted := goodIn_r _ [47, 44, 41, 42, 8, 43] (by decide +kernel) (by decide +kernel)
set_option maxRecDepth 20000 in
theorem gX3_invert_X1_addShifted : GoodIn wsX3_invert (va_wsS RX3 102 yX1_addShifted wsX1_addShifted) := goodIn_app (goodIn_of _ (by decide +kernel)) ggX3_invert_X1_addShifted
set_option maxRecDepth 20000 in
theorem ggX3_invert_X1_bitsOf : GoodIn wsX3_invert wsX1_bitsOf := goodIn_r _ [32, 24, 25, 8, 26, 33, 34, 35, 36, 37] (by decide +kernel) (by decide +kernel)
set_option maxRecDepth 20000 in
theorem gX3_invert_X1_bitsOf : GoodIn wsX3_invert (va_wsS RX3 106 yX1_bitsOf wsX1_bitsOf) := goodIn_app (goodIn_of _ (by decide +kernel)) ggX3_invert_X1_bitsOf
set_option maxRecDepth 20000 in
theorem ggX3_invert_X3_subtract : GoodIn wsX3_invert wsX3_subtract := goodIn_r _ [53, 5, 54, 55, 8, 56, 44, 57, 58, 59, 60, 61, 62, 63, 64, 65, 66] (by decide +kernel) (by decide +kernel)
set_option maxRecDepth 20000 in
theorem gX3_invert_X3_subtract : GoodIn wsX3_invert (wsV RX3 109 RX3 yX3_subtract wsX3_subtract) := goodIn_app (goodIn_of _ (by decide +kernel)) ggX3_invert_X3_subtract
theorem dX3_invert_0 : decode cX3_invert 0 = .ok (.aload_n 0, 1) := by decide +kernel
theorem dX3_invert_1 : decode cX3_invert 1 = .ok (.getfield 24, 3) := by decide +kernel
theorem dX3_invert_4 : decode cX3_invert 4 = .ok (.astore_n 3, 1) := by decide +kernel
theorem dX3_invert_5 : decode cX3_invert 5 = .ok (.aload_n 0, 1) := by decide +kernel
theorem dX3_invert_6 : decode cX3_invert 6 = .ok (.getfield 27, 3) := by decide +kernel
theorem dX3_invert_9 : decode cX3_invert 9 = .ok (.astore 4, 2) := by decide +kernel
theorem dX3_invert_11 : decode cX3_invert 11 = .ok (.aload_n 0, 1) := by decide +kernel
theorem dX3_invert_12 : decode cX3_invert 12 = .ok (.getfield 30, 3) := by decide +kernel
theorem dX3_invert_15 : decode cX3_invert 15 = .ok (.astore 5, 2) := by decide +kernel
theorem dX3_invert_17 : decode cX3_invert 17 = .ok (.aload_n 0, 1) := by decide +kernel
theorem dX3_invert_18 : decode cX3_invert 18 = .ok (.getfield 33, 3) := by decide +kernel
theorem dX3_invert_21 : decode cX3_invert 21 = .ok (.astore 6, 2) := by decide +kernel
theorem dX3_invert_23 : decode cX3_invert 23 = .ok (.aload_n 3, 1) := by decide +kernel
theorem dX3_invert_24 : decode cX3_invert 24 = .ok (.aload_n 0, 1) := by decide +kernel
theorem dX3_invert_25 : decode cX3_invert 25 = .ok (.getfield 9, 3) := by decide +kernel
theorem dX3_invert_28 : decode cX3_invert 28 = .ok (.invokestatic 43, 3) := by decide +kernel
theorem dX3_invert_31 : decode cX3_invert 31 = .ok (.aload 4, 2) := by decide +kernel
theorem dX3_invert_33 : decode cX3_invert 33 = .ok (.aload_n 2, 1) := by decide +kernel
theorem dX3_invert_34 : decode cX3_invert 34 = .ok (.invokestatic 43, 3) := by decide +kernel
theorem dX3_invert_37 : decode cX3_invert 37 = .ok (.aload 5, 2) := by decide +kernel
theorem dX3_invert_39 : decode cX3_invert 39 = .ok (.iconst 0, 1) := by decide +kernel
theorem dX3_invert_40 : decode cX3_invert 40 = .ok (.invokestatic 92, 3) := by decide +kernel
theorem dX3_invert_43 : decode cX3_invert 43 = .ok (.aload 6, 2) := by decide +kernel
theorem dX3_invert_45 : decode cX3_invert 45 = .ok (.iconst 1, 1) := by decide +kernel
theorem dX3_invert_46 : decode cX3_invert 46 = .ok (.invokestatic 92, 3) := by decide +kernel
theorem dX3_invert_49 : decode cX3_invert 49 = .ok (.iconst 1, 1) := by decide +kernel
theorem dX3_invert_50 : decode cX3_invert 50 = .ok (.istore 7, 2) := by decide +kernel
theorem dX3_invert_52 : decode cX3_invert 52 = .ok (.iconst 0, 1) := by decide +kernel
theorem dX3_invert_53 : decode cX3_invert 53 = .ok (.istore 8, 2) := by decide +kernel
theorem dX3_invert_55 : decode cX3_invert 55 = .ok (.iload 8, 2) := by decide +kernel
theorem dX3_invert_57 : decode cX3_invert 57 = .ok (.sipush 5000, 3) := by decide +kernel
theorem dX3_invert_60 : decode cX3_invert 60 = .ok (.if_icmp .ge 86, 3) := by decide +kernel
theorem dX3_invert_63 : decode cX3_invert 63 = .ok (.aload 4, 2) := by decide +kernel
theorem dX3_invert_65 : decode cX3_invert 65 = .ok (.invokestatic 95, 3) := by decide +kernel
theorem dX3_invert_68 : decode cX3_invert 68 = .ok (.ifCond .ne 78, 3) := by decide +kernel
theorem dX3_invert_71 : decode cX3_invert 71 = .ok (.aload_n 3, 1) := by decide +kernel
theorem dX3_invert_72 : decode cX3_invert 72 = .ok (.aload 4, 2) := by decide +kernel
theorem dX3_invert_74 : decode cX3_invert 74 = .ok (.invokestatic 99, 3) := by decide +kernel
theorem dX3_invert_77 : decode cX3_invert 77 = .ok (.istore 9, 2) := by decide +kernel
theorem dX3_invert_79 : decode cX3_invert 79 = .ok (.iload 9, 2) := by decide +kernel
theorem dX3_invert_81 : decode cX3_invert 81 = .ok (.ifCond .lt 25, 3) := by decide +kernel
theorem dX3_invert_84 : decode cX3_invert 84 = .ok (.aload_n 3, 1) := by decide +kernel
theorem dX3_invert_85 : decode cX3_invert 85 = .ok (.aload 4, 2) := by decide +kernel
theorem dX3_invert_87 : decode cX3_invert 87 = .ok (.iload 9, 2) := by decide +kernel
theorem dX3_invert_89 : decode cX3_invert 89 = .ok (.iconst (-1), 1) := by decide +kernel
theorem dX3_invert_90 : decode cX3_invert 90 = .ok (.invokestatic 102, 3) := by decide +kernel
theorem dX3_invert_93 : decode cX3_invert 93 = .ok (.aload 5, 2) := by decide +kernel
theorem dX3_invert_95 : decode cX3_invert 95 = .ok (.aload 6, 2) := by decide +kernel
theorem dX3_invert_97 : decode cX3_invert 97 = .ok (.iload 9, 2) := by decide +kernel
theorem dX3_invert_99 : decode cX3_invert 99 = .ok (.iconst 1, 1) := by decide +kernel
theorem dX3_invert_100 : decode cX3_invert 100 = .ok (.invokestatic 102, 3) := by decide +kernel
theorem dX3_invert_103 : decode cX3_invert 103 = .ok (.goto 37, 3) := by decide +kernel
theorem dX3_invert_106 : decode cX3_invert 106 = .ok (.aload_n 3, 1) := by decide +kernel
theorem dX3_invert_107 : decode cX3_invert 107 = .ok (.astore 10, 2) := by decide +kernel
theorem dX3_invert_109 : decode cX3_invert 109 = .ok (.aload 4, 2) := by decide +kernel
theorem dX3_invert_111 : decode cX3_invert 111 = .ok (.astore_n 3, 1) := by decide +kernel
theorem dX3_invert_112 : decode cX3_invert 112 = .ok (.aload 10, 2) := by decide +kernel
theorem dX3_invert_114 : decode cX3_invert 114 = .ok (.astore 4, 2) := by decide +kernel
theorem dX3_invert_116 : decode cX3_invert 116 = .ok (.aload 5, 2) := by decide +kernel
theorem dX3_invert_118 : decode cX3_invert 118 = .ok (.astore 10, 2) := by decide +kernel
theorem dX3_invert_120 : decode cX3_invert 120 = .ok (.aload 6, 2) := by decide +kernel
theorem dX3_invert_122 : decode cX3_invert 122 = .ok (.astore 5, 2) := by decide +kernel
theorem dX3_invert_124 : decode cX3_invert 124 = .ok (.aload 10, 2) := by decide +kernel
theorem dX3_invert_126 : decode cX3_invert 126 = .ok (.astore 6, 2) := by decide +kernel
theorem dX3_invert_128 : decode cX3_invert 128 = .ok (.iload 7, 2) := by decide +kernel
theorem dX3_invert_130 : decode cX3_invert 130 = .ok (.ifCond .ne 7, 3) := by decide +kernel
theorem dX3_invert_133 : decode cX3_invert 133 = .ok (.iconst 1, 1) := by decide +kernel
theorem dX3_invert_134 : decode cX3_invert 134 = .ok (.goto 4, 3) := by decide +kernel
theorem dX3_invert_137 : decode cX3_invert 137 = .ok (.iconst 0, 1) := by decide +kernel
theorem dX3_invert_138 : decode cX3_invert 138 = .ok (.istore 7, 2) := by decide +kernel
theorem dX3_invert_140 : decode cX3_invert 140 = .ok (.iinc 8 1, 3) := by decide +kernel
theorem dX3_invert_143 : decode cX3_invert 143 = .ok (.goto (-88), 3) := by decide +kernel
theorem dX3_invert_146 : decode cX3_invert 146 = .ok (.aload_n 3, 1) := by decide +kernel
theorem dX3_invert_147 : decode cX3_invert 147 = .ok (.invokestatic 106, 3) := by decide +kernel
theorem dX3_invert_150 : decode cX3_invert 150 = .ok (.iconst 1, 1) := by decide +kernel
theorem dX3_invert_151 : decode cX3_invert 151 = .ok (.if_icmp .eq 5, 3) := by decide +kernel
theorem dX3_invert_154 : decode cX3_invert 154 = .ok (.iconst 0, 1) := by decide +kernel
theorem dX3_invert_155 : decode cX3_invert 155 = .ok (.ireturn, 1) := by decide +kernel
theorem dX3_invert_156 : decode cX3_invert 156 = .ok (.iload 7, 2) := by decide +kernel
theorem dX3_invert_158 : decode cX3_invert 158 = .ok (.ifCond .eq 15, 3) := by decide +kernel
theorem dX3_invert_161 : decode cX3_invert 161 = .ok (.aload_n 0, 1) := by decide +kernel
theorem dX3_invert_162 : decode cX3_invert 162 = .ok (.aload_n 1, 1) := by decide +kernel
theorem dX3_invert_163 : decode cX3_invert 163 = .ok (.aload 4, 2) := by decide +kernel
theorem dX3_invert_165 : decode cX3_invert 165 = .ok (.aload 5, 2) := by decide +kernel
theorem dX3_invert_167 : decode cX3_invert 167 = .ok (.invokevirtual 109, 3) := by decide +kernel
theorem dX3_invert_170 : decode cX3_invert 170 = .ok (.goto 9, 3) := by decide +kernel
theorem dX3_invert_173 : decode cX3_invert 173 = .ok (.aload_n 1, 1) := by decide +kernel
theorem dX3_invert_174 : decode cX3_invert 174 = .ok (.aload 5, 2) := by decide +kernel
theorem dX3_invert_176 : decode cX3_invert 176 = .ok (.invokestatic 43, 3) := by decide +kernel
theorem dX3_invert_179 : decode cX3_invert 179 = .ok (.iconst 1, 1) := by decide +kernel
theorem dX3_invert_180 : decode cX3_invert 180 = .ok (.ireturn, 1) := by decide +kernel
set_option maxRecDepth 20000 in
theorem ggX3_takeRemainder_X3_shiftWork : GoodIn wsX3_takeRemainder wsX3_shiftWork := goodIn_r _ [13, 3, 14, 4, 23, 24, 25, 26, 27, 28, 29, 30, 31, 32] (by decide +kernel) (by decide +kernel)
set_option maxRecDepth 20000 in
theorem gX3_takeRemainder_X3_shiftWork : GoodIn wsX3_takeRemainder (wsV RX3 112 RX3 yX3_shiftWork wsX3_shiftWork) := goodIn_app (goodIn_of _ (by decide +kernel)) ggX3_takeRemainder_X3_shiftWork
set_option maxRecDepth 20000 in
theorem ggX3_takeRemainder_X3_takeDivisorAway : GoodIn wsX3_takeRemainder wsX3_takeDivisorAway := goodIn_r _ [18, 1, 3, 2, 4, 23, 24, 25, 26, 27, 28, 29, 30, 31, 32] (by decide +kernel) (by decide +kernel)
set_option maxRecDepth 20000 in
theorem gX3_takeRemainder_X3_takeDivisorAway : GoodIn wsX3_takeRemainder (wsV RX3 122 RX3 yX3_takeDivisorAway wsX3_takeDivisorAway) := goodIn_app (goodIn_of _ (by decide +kernel)) ggX3_takeRemainder_X3_takeDivisorAway
set_option maxRecDepth 20000 in
theorem ggX3_takeRemainder_X3_unshiftedLimb : GoodIn wsX3_takeRemainder wsX3_unshiftedLimb := goodIn_r _ [22, 3, 14, 4, 23, 24, 25, 26, 27, 28, 29, 30, 31, 32] (by decide +kernel) (by decide +kernel)
set_option maxRecDepth 20000 in
theorem gX3_takeRemainder_X3_unshiftedLimb : GoodIn wsX3_takeRemainder (wsV RX3 126 RX3 yX3_unshiftedLimb wsX3_unshiftedLimb) := goodIn_app (goodIn_of _ (by decide +kernel)) ggX3_takeRemainder_X3_unshiftedLimb
theorem dX3_takeRemainder_0 : decode cX3_takeRemainder 0 = .ok (.aload_n 0, 1) := by decide +kernel
theorem dX3_takeRemainder_1 : decode cX3_takeRemainder 1 = .ok (.iload_n 2, 1) := by decide +kernel
theorem dX3_takeRemainder_2 : decode cX3_takeRemainder 2 = .ok (.invokevirtual 112, 3) := by decide +kernel
theorem dX3_takeRemainder_5 : decode cX3_takeRemainder 5 = .ok (.aload_n 0, 1) := by decide +kernel
theorem dX3_takeRemainder_6 : decode cX3_takeRemainder 6 = .ok (.getfield 36, 3) := by decide +kernel
theorem dX3_takeRemainder_9 : decode cX3_takeRemainder 9 = .ok (.ifCond .le 18, 3) := by decide +kernel
theorem dX3_takeRemainder_12 : decode cX3_takeRemainder 12 = .ok (.aload_n 0, 1) := by decide +kernel
theorem dX3_takeRemainder_13 : decode cX3_takeRemainder 13 = .ok (.getfield 15, 3) := by decide +kernel
theorem dX3_takeRemainder_16 : decode cX3_takeRemainder 16 = .ok (.aload_n 0, 1) := by decide +kernel
theorem dX3_takeRemainder_17 : decode cX3_takeRemainder 17 = .ok (.getfield 36, 3) := by decide +kernel
theorem dX3_takeRemainder_20 : decode cX3_takeRemainder 20 = .ok (.iconst 1, 1) := by decide +kernel
theorem dX3_takeRemainder_21 : decode cX3_takeRemainder 21 = .ok (.isub, 1) := by decide +kernel
theorem dX3_takeRemainder_22 : decode cX3_takeRemainder 22 = .ok (.iaload, 1) := by decide +kernel
theorem dX3_takeRemainder_23 : decode cX3_takeRemainder 23 = .ok (.i2l, 1) := by decide +kernel
theorem dX3_takeRemainder_24 : decode cX3_takeRemainder 24 = .ok (.goto 4, 3) := by decide +kernel
theorem dX3_takeRemainder_27 : decode cX3_takeRemainder 27 = .ok (.lconst 0, 1) := by decide +kernel
theorem dX3_takeRemainder_28 : decode cX3_takeRemainder 28 = .ok (.lstore_n 3, 1) := by decide +kernel
theorem dX3_takeRemainder_29 : decode cX3_takeRemainder 29 = .ok (.lload_n 3, 1) := by decide +kernel
theorem dX3_takeRemainder_30 : decode cX3_takeRemainder 30 = .ok (.lconst 0, 1) := by decide +kernel
theorem dX3_takeRemainder_31 : decode cX3_takeRemainder 31 = .ok (.lcmp, 1) := by decide +kernel
theorem dX3_takeRemainder_32 : decode cX3_takeRemainder 32 = .ok (.ifCond .ne 4, 3) := by decide +kernel
theorem dX3_takeRemainder_35 : decode cX3_takeRemainder 35 = .ok (.return_, 1) := by decide +kernel
theorem dX3_takeRemainder_36 : decode cX3_takeRemainder 36 = .ok (.iload_n 2, 1) := by decide +kernel
theorem dX3_takeRemainder_37 : decode cX3_takeRemainder 37 = .ok (.aload_n 0, 1) := by decide +kernel
theorem dX3_takeRemainder_38 : decode cX3_takeRemainder 38 = .ok (.getfield 36, 3) := by decide +kernel
theorem dX3_takeRemainder_41 : decode cX3_takeRemainder 41 = .ok (.isub, 1) := by decide +kernel
theorem dX3_takeRemainder_42 : decode cX3_takeRemainder 42 = .ok (.istore 5, 2) := by decide +kernel
theorem dX3_takeRemainder_44 : decode cX3_takeRemainder 44 = .ok (.iload 5, 2) := by decide +kernel
theorem dX3_takeRemainder_46 : decode cX3_takeRemainder 46 = .ok (.ifCond .lt 59, 3) := by decide +kernel
theorem dX3_takeRemainder_49 : decode cX3_takeRemainder 49 = .ok (.aload_n 0, 1) := by decide +kernel
theorem dX3_takeRemainder_50 : decode cX3_takeRemainder 50 = .ok (.getfield 18, 3) := by decide +kernel
theorem dX3_takeRemainder_53 : decode cX3_takeRemainder 53 = .ok (.iload 5, 2) := by decide +kernel
theorem dX3_takeRemainder_55 : decode cX3_takeRemainder 55 = .ok (.aload_n 0, 1) := by decide +kernel
theorem dX3_takeRemainder_56 : decode cX3_takeRemainder 56 = .ok (.getfield 36, 3) := by decide +kernel
theorem dX3_takeRemainder_59 : decode cX3_takeRemainder 59 = .ok (.iadd, 1) := by decide +kernel
theorem dX3_takeRemainder_60 : decode cX3_takeRemainder 60 = .ok (.iaload, 1) := by decide +kernel
theorem dX3_takeRemainder_61 : decode cX3_takeRemainder 61 = .ok (.i2l, 1) := by decide +kernel
theorem dX3_takeRemainder_62 : decode cX3_takeRemainder 62 = .ok (.bipush 31, 2) := by decide +kernel
theorem dX3_takeRemainder_64 : decode cX3_takeRemainder 64 = .ok (.lshl, 1) := by decide +kernel
theorem dX3_takeRemainder_65 : decode cX3_takeRemainder 65 = .ok (.aload_n 0, 1) := by decide +kernel
theorem dX3_takeRemainder_66 : decode cX3_takeRemainder 66 = .ok (.getfield 18, 3) := by decide +kernel
theorem dX3_takeRemainder_69 : decode cX3_takeRemainder 69 = .ok (.iload 5, 2) := by decide +kernel
theorem dX3_takeRemainder_71 : decode cX3_takeRemainder 71 = .ok (.aload_n 0, 1) := by decide +kernel
theorem dX3_takeRemainder_72 : decode cX3_takeRemainder 72 = .ok (.getfield 36, 3) := by decide +kernel
theorem dX3_takeRemainder_75 : decode cX3_takeRemainder 75 = .ok (.iadd, 1) := by decide +kernel
theorem dX3_takeRemainder_76 : decode cX3_takeRemainder 76 = .ok (.iconst 1, 1) := by decide +kernel
theorem dX3_takeRemainder_77 : decode cX3_takeRemainder 77 = .ok (.isub, 1) := by decide +kernel
theorem dX3_takeRemainder_78 : decode cX3_takeRemainder 78 = .ok (.iaload, 1) := by decide +kernel
theorem dX3_takeRemainder_79 : decode cX3_takeRemainder 79 = .ok (.i2l, 1) := by decide +kernel
theorem dX3_takeRemainder_80 : decode cX3_takeRemainder 80 = .ok (.lor, 1) := by decide +kernel
theorem dX3_takeRemainder_81 : decode cX3_takeRemainder 81 = .ok (.lstore 6, 2) := by decide +kernel
theorem dX3_takeRemainder_83 : decode cX3_takeRemainder 83 = .ok (.aload_n 0, 1) := by decide +kernel
theorem dX3_takeRemainder_84 : decode cX3_takeRemainder 84 = .ok (.lload 6, 2) := by decide +kernel
theorem dX3_takeRemainder_86 : decode cX3_takeRemainder 86 = .ok (.lload_n 3, 1) := by decide +kernel
theorem dX3_takeRemainder_87 : decode cX3_takeRemainder 87 = .ok (.ldiv, 1) := by decide +kernel
theorem dX3_takeRemainder_88 : decode cX3_takeRemainder 88 = .ok (.ldc2_w 90, 3) := by decide +kernel
theorem dX3_takeRemainder_91 : decode cX3_takeRemainder 91 = .ok (.invokestatic 116, 3) := by decide +kernel
theorem dX3_takeRemainder_94 : decode cX3_takeRemainder 94 = .ok (.iload 5, 2) := by decide +kernel
theorem dX3_takeRemainder_96 : decode cX3_takeRemainder 96 = .ok (.invokevirtual 122, 3) := by decide +kernel
theorem dX3_takeRemainder_99 : decode cX3_takeRemainder 99 = .ok (.iinc 5 (-1), 3) := by decide +kernel
theorem dX3_takeRemainder_102 : decode cX3_takeRemainder 102 = .ok (.goto (-58), 3) := by decide +kernel
theorem dX3_takeRemainder_105 : decode cX3_takeRemainder 105 = .ok (.iconst 0, 1) := by decide +kernel
theorem dX3_takeRemainder_106 : decode cX3_takeRemainder 106 = .ok (.istore 5, 2) := by decide +kernel
theorem dX3_takeRemainder_108 : decode cX3_takeRemainder 108 = .ok (.iload 5, 2) := by decide +kernel
theorem dX3_takeRemainder_110 : decode cX3_takeRemainder 110 = .ok (.aload_n 1, 1) := by decide +kernel
theorem dX3_takeRemainder_111 : decode cX3_takeRemainder 111 = .ok (.arraylength, 1) := by decide +kernel
theorem dX3_takeRemainder_112 : decode cX3_takeRemainder 112 = .ok (.if_icmp .ge 32, 3) := by decide +kernel
theorem dX3_takeRemainder_115 : decode cX3_takeRemainder 115 = .ok (.aload_n 1, 1) := by decide +kernel
theorem dX3_takeRemainder_116 : decode cX3_takeRemainder 116 = .ok (.iload 5, 2) := by decide +kernel
theorem dX3_takeRemainder_118 : decode cX3_takeRemainder 118 = .ok (.iload 5, 2) := by decide +kernel
theorem dX3_takeRemainder_120 : decode cX3_takeRemainder 120 = .ok (.aload_n 0, 1) := by decide +kernel
theorem dX3_takeRemainder_121 : decode cX3_takeRemainder 121 = .ok (.getfield 36, 3) := by decide +kernel
theorem dX3_takeRemainder_124 : decode cX3_takeRemainder 124 = .ok (.if_icmp .ge 12, 3) := by decide +kernel
theorem dX3_takeRemainder_127 : decode cX3_takeRemainder 127 = .ok (.aload_n 0, 1) := by decide +kernel
theorem dX3_takeRemainder_128 : decode cX3_takeRemainder 128 = .ok (.iload 5, 2) := by decide +kernel
theorem dX3_takeRemainder_130 : decode cX3_takeRemainder 130 = .ok (.invokevirtual 126, 3) := by decide +kernel
theorem dX3_takeRemainder_133 : decode cX3_takeRemainder 133 = .ok (.goto 4, 3) := by decide +kernel
theorem dX3_takeRemainder_136 : decode cX3_takeRemainder 136 = .ok (.iconst 0, 1) := by decide +kernel
theorem dX3_takeRemainder_137 : decode cX3_takeRemainder 137 = .ok (.iastore, 1) := by decide +kernel
theorem dX3_takeRemainder_138 : decode cX3_takeRemainder 138 = .ok (.iinc 5 1, 3) := by decide +kernel
theorem dX3_takeRemainder_141 : decode cX3_takeRemainder 141 = .ok (.goto (-33), 3) := by decide +kernel
theorem dX3_takeRemainder_144 : decode cX3_takeRemainder 144 = .ok (.return_, 1) := by decide +kernel
theorem dX3_shiftWork_0 : decode cX3_shiftWork 0 = .ok (.aload_n 0, 1) := by decide +kernel
theorem dX3_shiftWork_1 : decode cX3_shiftWork 1 = .ok (.getfield 18, 3) := by decide +kernel
theorem dX3_shiftWork_4 : decode cX3_shiftWork 4 = .ok (.iload_n 1, 1) := by decide +kernel
theorem dX3_shiftWork_5 : decode cX3_shiftWork 5 = .ok (.iconst 0, 1) := by decide +kernel
theorem dX3_shiftWork_6 : decode cX3_shiftWork 6 = .ok (.iastore, 1) := by decide +kernel
theorem dX3_shiftWork_7 : decode cX3_shiftWork 7 = .ok (.iload_n 1, 1) := by decide +kernel
theorem dX3_shiftWork_8 : decode cX3_shiftWork 8 = .ok (.istore_n 2, 1) := by decide +kernel
theorem dX3_shiftWork_9 : decode cX3_shiftWork 9 = .ok (.iload_n 2, 1) := by decide +kernel
theorem dX3_shiftWork_10 : decode cX3_shiftWork 10 = .ok (.ifCond .le 50, 3) := by decide +kernel
theorem dX3_shiftWork_13 : decode cX3_shiftWork 13 = .ok (.aload_n 0, 1) := by decide +kernel
theorem dX3_shiftWork_14 : decode cX3_shiftWork 14 = .ok (.getfield 18, 3) := by decide +kernel
theorem dX3_shiftWork_17 : decode cX3_shiftWork 17 = .ok (.iload_n 2, 1) := by decide +kernel
theorem dX3_shiftWork_18 : decode cX3_shiftWork 18 = .ok (.iaload, 1) := by decide +kernel
theorem dX3_shiftWork_19 : decode cX3_shiftWork 19 = .ok (.i2l, 1) := by decide +kernel
theorem dX3_shiftWork_20 : decode cX3_shiftWork 20 = .ok (.bipush 31, 2) := by decide +kernel
theorem dX3_shiftWork_22 : decode cX3_shiftWork 22 = .ok (.lshl, 1) := by decide +kernel
theorem dX3_shiftWork_23 : decode cX3_shiftWork 23 = .ok (.aload_n 0, 1) := by decide +kernel
theorem dX3_shiftWork_24 : decode cX3_shiftWork 24 = .ok (.getfield 18, 3) := by decide +kernel
theorem dX3_shiftWork_27 : decode cX3_shiftWork 27 = .ok (.iload_n 2, 1) := by decide +kernel
theorem dX3_shiftWork_28 : decode cX3_shiftWork 28 = .ok (.iconst 1, 1) := by decide +kernel
theorem dX3_shiftWork_29 : decode cX3_shiftWork 29 = .ok (.isub, 1) := by decide +kernel
theorem dX3_shiftWork_30 : decode cX3_shiftWork 30 = .ok (.iaload, 1) := by decide +kernel
theorem dX3_shiftWork_31 : decode cX3_shiftWork 31 = .ok (.i2l, 1) := by decide +kernel
theorem dX3_shiftWork_32 : decode cX3_shiftWork 32 = .ok (.lor, 1) := by decide +kernel
theorem dX3_shiftWork_33 : decode cX3_shiftWork 33 = .ok (.lstore_n 3, 1) := by decide +kernel
theorem dX3_shiftWork_34 : decode cX3_shiftWork 34 = .ok (.aload_n 0, 1) := by decide +kernel
theorem dX3_shiftWork_35 : decode cX3_shiftWork 35 = .ok (.getfield 18, 3) := by decide +kernel
theorem dX3_shiftWork_38 : decode cX3_shiftWork 38 = .ok (.iload_n 2, 1) := by decide +kernel
theorem dX3_shiftWork_39 : decode cX3_shiftWork 39 = .ok (.lload_n 3, 1) := by decide +kernel
theorem dX3_shiftWork_40 : decode cX3_shiftWork 40 = .ok (.bipush 31, 2) := by decide +kernel
theorem dX3_shiftWork_42 : decode cX3_shiftWork 42 = .ok (.aload_n 0, 1) := by decide +kernel
theorem dX3_shiftWork_43 : decode cX3_shiftWork 43 = .ok (.getfield 40, 3) := by decide +kernel
theorem dX3_shiftWork_46 : decode cX3_shiftWork 46 = .ok (.isub, 1) := by decide +kernel
theorem dX3_shiftWork_47 : decode cX3_shiftWork 47 = .ok (.lushr, 1) := by decide +kernel
theorem dX3_shiftWork_48 : decode cX3_shiftWork 48 = .ok (.ldc2_w 90, 3) := by decide +kernel
theorem dX3_shiftWork_51 : decode cX3_shiftWork 51 = .ok (.land, 1) := by decide +kernel
theorem dX3_shiftWork_52 : decode cX3_shiftWork 52 = .ok (.l2i, 1) := by decide +kernel
theorem dX3_shiftWork_53 : decode cX3_shiftWork 53 = .ok (.iastore, 1) := by decide +kernel
theorem dX3_shiftWork_54 : decode cX3_shiftWork 54 = .ok (.iinc 2 (-1), 3) := by decide +kernel
theorem dX3_shiftWork_57 : decode cX3_shiftWork 57 = .ok (.goto (-48), 3) := by decide +kernel
theorem dX3_shiftWork_60 : decode cX3_shiftWork 60 = .ok (.aload_n 0, 1) := by decide +kernel
theorem dX3_shiftWork_61 : decode cX3_shiftWork 61 = .ok (.getfield 18, 3) := by decide +kernel
theorem dX3_shiftWork_64 : decode cX3_shiftWork 64 = .ok (.iconst 0, 1) := by decide +kernel
theorem dX3_shiftWork_65 : decode cX3_shiftWork 65 = .ok (.aload_n 0, 1) := by decide +kernel
theorem dX3_shiftWork_66 : decode cX3_shiftWork 66 = .ok (.getfield 18, 3) := by decide +kernel
theorem dX3_shiftWork_69 : decode cX3_shiftWork 69 = .ok (.iconst 0, 1) := by decide +kernel
theorem dX3_shiftWork_70 : decode cX3_shiftWork 70 = .ok (.iaload, 1) := by decide +kernel
theorem dX3_shiftWork_71 : decode cX3_shiftWork 71 = .ok (.i2l, 1) := by decide +kernel
theorem dX3_shiftWork_72 : decode cX3_shiftWork 72 = .ok (.aload_n 0, 1) := by decide +kernel
theorem dX3_shiftWork_73 : decode cX3_shiftWork 73 = .ok (.getfield 40, 3) := by decide +kernel
theorem dX3_shiftWork_76 : decode cX3_shiftWork 76 = .ok (.lshl, 1) := by decide +kernel
theorem dX3_shiftWork_77 : decode cX3_shiftWork 77 = .ok (.ldc2_w 90, 3) := by decide +kernel
theorem dX3_shiftWork_80 : decode cX3_shiftWork 80 = .ok (.land, 1) := by decide +kernel
theorem dX3_shiftWork_81 : decode cX3_shiftWork 81 = .ok (.l2i, 1) := by decide +kernel
theorem dX3_shiftWork_82 : decode cX3_shiftWork 82 = .ok (.iastore, 1) := by decide +kernel
theorem dX3_shiftWork_83 : decode cX3_shiftWork 83 = .ok (.return_, 1) := by decide +kernel
theorem dX3_unshiftedLimb_0 : decode cX3_unshiftedLimb 0 = .ok (.aload_n 0, 1) := by decide +kernel
theorem dX3_unshiftedLimb_1 : decode cX3_unshiftedLimb 1 = .ok (.getfield 18, 3) := by decide +kernel
theorem dX3_unshiftedLimb_4 : decode cX3_unshiftedLimb 4 = .ok (.iload_n 1, 1) := by decide +kernel
theorem dX3_unshiftedLimb_5 : decode cX3_unshiftedLimb 5 = .ok (.iconst 1, 1) := by decide +kernel
theorem dX3_unshiftedLimb_6 : decode cX3_unshiftedLimb 6 = .ok (.iadd, 1) := by decide +kernel
theorem dX3_unshiftedLimb_7 : decode cX3_unshiftedLimb 7 = .ok (.iaload, 1) := by decide +kernel
theorem dX3_unshiftedLimb_8 : decode cX3_unshiftedLimb 8 = .ok (.i2l, 1) := by decide +kernel
theorem dX3_unshiftedLimb_9 : decode cX3_unshiftedLimb 9 = .ok (.bipush 31, 2) := by decide +kernel
theorem dX3_unshiftedLimb_11 : decode cX3_unshiftedLimb 11 = .ok (.lshl, 1) := by decide +kernel
theorem dX3_unshiftedLimb_12 : decode cX3_unshiftedLimb 12 = .ok (.aload_n 0, 1) := by decide +kernel
theorem dX3_unshiftedLimb_13 : decode cX3_unshiftedLimb 13 = .ok (.getfield 18, 3) := by decide +kernel
theorem dX3_unshiftedLimb_16 : decode cX3_unshiftedLimb 16 = .ok (.iload_n 1, 1) := by decide +kernel
theorem dX3_unshiftedLimb_17 : decode cX3_unshiftedLimb 17 = .ok (.iaload, 1) := by decide +kernel
theorem dX3_unshiftedLimb_18 : decode cX3_unshiftedLimb 18 = .ok (.i2l, 1) := by decide +kernel
theorem dX3_unshiftedLimb_19 : decode cX3_unshiftedLimb 19 = .ok (.lor, 1) := by decide +kernel
theorem dX3_unshiftedLimb_20 : decode cX3_unshiftedLimb 20 = .ok (.aload_n 0, 1) := by decide +kernel
theorem dX3_unshiftedLimb_21 : decode cX3_unshiftedLimb 21 = .ok (.getfield 40, 3) := by decide +kernel
theorem dX3_unshiftedLimb_24 : decode cX3_unshiftedLimb 24 = .ok (.lushr, 1) := by decide +kernel
theorem dX3_unshiftedLimb_25 : decode cX3_unshiftedLimb 25 = .ok (.ldc2_w 90, 3) := by decide +kernel
theorem dX3_unshiftedLimb_28 : decode cX3_unshiftedLimb 28 = .ok (.land, 1) := by decide +kernel
theorem dX3_unshiftedLimb_29 : decode cX3_unshiftedLimb 29 = .ok (.l2i, 1) := by decide +kernel
theorem dX3_unshiftedLimb_30 : decode cX3_unshiftedLimb 30 = .ok (.ireturn, 1) := by decide +kernel
theorem dX3_takeDivisorAway_0 : decode cX3_takeDivisorAway 0 = .ok (.lconst 0, 1) := by decide +kernel
theorem dX3_takeDivisorAway_1 : decode cX3_takeDivisorAway 1 = .ok (.lstore 4, 2) := by decide +kernel
theorem dX3_takeDivisorAway_3 : decode cX3_takeDivisorAway 3 = .ok (.iconst 0, 1) := by decide +kernel
theorem dX3_takeDivisorAway_4 : decode cX3_takeDivisorAway 4 = .ok (.istore 6, 2) := by decide +kernel
theorem dX3_takeDivisorAway_6 : decode cX3_takeDivisorAway 6 = .ok (.iload 6, 2) := by decide +kernel
theorem dX3_takeDivisorAway_8 : decode cX3_takeDivisorAway 8 = .ok (.aload_n 0, 1) := by decide +kernel
theorem dX3_takeDivisorAway_9 : decode cX3_takeDivisorAway 9 = .ok (.getfield 36, 3) := by decide +kernel
theorem dX3_takeDivisorAway_12 : decode cX3_takeDivisorAway 12 = .ok (.if_icmp .ge 58, 3) := by decide +kernel
theorem dX3_takeDivisorAway_15 : decode cX3_takeDivisorAway 15 = .ok (.lload 4, 2) := by decide +kernel
theorem dX3_takeDivisorAway_17 : decode cX3_takeDivisorAway 17 = .ok (.aload_n 0, 1) := by decide +kernel
theorem dX3_takeDivisorAway_18 : decode cX3_takeDivisorAway 18 = .ok (.getfield 18, 3) := by decide +kernel
theorem dX3_takeDivisorAway_21 : decode cX3_takeDivisorAway 21 = .ok (.iload_n 3, 1) := by decide +kernel
theorem dX3_takeDivisorAway_22 : decode cX3_takeDivisorAway 22 = .ok (.iload 6, 2) := by decide +kernel
theorem dX3_takeDivisorAway_24 : decode cX3_takeDivisorAway 24 = .ok (.iadd, 1) := by decide +kernel
theorem dX3_takeDivisorAway_25 : decode cX3_takeDivisorAway 25 = .ok (.iaload, 1) := by decide +kernel
theorem dX3_takeDivisorAway_26 : decode cX3_takeDivisorAway 26 = .ok (.i2l, 1) := by decide +kernel
theorem dX3_takeDivisorAway_27 : decode cX3_takeDivisorAway 27 = .ok (.lload_n 1, 1) := by decide +kernel
theorem dX3_takeDivisorAway_28 : decode cX3_takeDivisorAway 28 = .ok (.aload_n 0, 1) := by decide +kernel
theorem dX3_takeDivisorAway_29 : decode cX3_takeDivisorAway 29 = .ok (.getfield 15, 3) := by decide +kernel
theorem dX3_takeDivisorAway_32 : decode cX3_takeDivisorAway 32 = .ok (.iload 6, 2) := by decide +kernel
theorem dX3_takeDivisorAway_34 : decode cX3_takeDivisorAway 34 = .ok (.iaload, 1) := by decide +kernel
theorem dX3_takeDivisorAway_35 : decode cX3_takeDivisorAway 35 = .ok (.i2l, 1) := by decide +kernel
theorem dX3_takeDivisorAway_36 : decode cX3_takeDivisorAway 36 = .ok (.lmul, 1) := by decide +kernel
theorem dX3_takeDivisorAway_37 : decode cX3_takeDivisorAway 37 = .ok (.lsub, 1) := by decide +kernel
theorem dX3_takeDivisorAway_38 : decode cX3_takeDivisorAway 38 = .ok (.ladd, 1) := by decide +kernel
theorem dX3_takeDivisorAway_39 : decode cX3_takeDivisorAway 39 = .ok (.lstore 4, 2) := by decide +kernel
theorem dX3_takeDivisorAway_41 : decode cX3_takeDivisorAway 41 = .ok (.aload_n 0, 1) := by decide +kernel
theorem dX3_takeDivisorAway_42 : decode cX3_takeDivisorAway 42 = .ok (.getfield 18, 3) := by decide +kernel
theorem dX3_takeDivisorAway_45 : decode cX3_takeDivisorAway 45 = .ok (.iload_n 3, 1) := by decide +kernel
theorem dX3_takeDivisorAway_46 : decode cX3_takeDivisorAway 46 = .ok (.iload 6, 2) := by decide +kernel
theorem dX3_takeDivisorAway_48 : decode cX3_takeDivisorAway 48 = .ok (.iadd, 1) := by decide +kernel
theorem dX3_takeDivisorAway_49 : decode cX3_takeDivisorAway 49 = .ok (.lload 4, 2) := by decide +kernel
theorem dX3_takeDivisorAway_51 : decode cX3_takeDivisorAway 51 = .ok (.ldc2_w 90, 3) := by decide +kernel
theorem dX3_takeDivisorAway_54 : decode cX3_takeDivisorAway 54 = .ok (.land, 1) := by decide +kernel
theorem dX3_takeDivisorAway_55 : decode cX3_takeDivisorAway 55 = .ok (.l2i, 1) := by decide +kernel
theorem dX3_takeDivisorAway_56 : decode cX3_takeDivisorAway 56 = .ok (.iastore, 1) := by decide +kernel
theorem dX3_takeDivisorAway_57 : decode cX3_takeDivisorAway 57 = .ok (.lload 4, 2) := by decide +kernel
theorem dX3_takeDivisorAway_59 : decode cX3_takeDivisorAway 59 = .ok (.bipush 31, 2) := by decide +kernel
theorem dX3_takeDivisorAway_61 : decode cX3_takeDivisorAway 61 = .ok (.lshr, 1) := by decide +kernel
theorem dX3_takeDivisorAway_62 : decode cX3_takeDivisorAway 62 = .ok (.lstore 4, 2) := by decide +kernel
theorem dX3_takeDivisorAway_64 : decode cX3_takeDivisorAway 64 = .ok (.iinc 6 1, 3) := by decide +kernel
theorem dX3_takeDivisorAway_67 : decode cX3_takeDivisorAway 67 = .ok (.goto (-61), 3) := by decide +kernel
theorem dX3_takeDivisorAway_70 : decode cX3_takeDivisorAway 70 = .ok (.lload 4, 2) := by decide +kernel
theorem dX3_takeDivisorAway_72 : decode cX3_takeDivisorAway 72 = .ok (.aload_n 0, 1) := by decide +kernel
theorem dX3_takeDivisorAway_73 : decode cX3_takeDivisorAway 73 = .ok (.getfield 18, 3) := by decide +kernel
theorem dX3_takeDivisorAway_76 : decode cX3_takeDivisorAway 76 = .ok (.iload_n 3, 1) := by decide +kernel
theorem dX3_takeDivisorAway_77 : decode cX3_takeDivisorAway 77 = .ok (.aload_n 0, 1) := by decide +kernel
theorem dX3_takeDivisorAway_78 : decode cX3_takeDivisorAway 78 = .ok (.getfield 36, 3) := by decide +kernel
theorem dX3_takeDivisorAway_81 : decode cX3_takeDivisorAway 81 = .ok (.iadd, 1) := by decide +kernel
theorem dX3_takeDivisorAway_82 : decode cX3_takeDivisorAway 82 = .ok (.iaload, 1) := by decide +kernel
theorem dX3_takeDivisorAway_83 : decode cX3_takeDivisorAway 83 = .ok (.i2l, 1) := by decide +kernel
theorem dX3_takeDivisorAway_84 : decode cX3_takeDivisorAway 84 = .ok (.ladd, 1) := by decide +kernel
theorem dX3_takeDivisorAway_85 : decode cX3_takeDivisorAway 85 = .ok (.lstore 4, 2) := by decide +kernel
theorem dX3_takeDivisorAway_87 : decode cX3_takeDivisorAway 87 = .ok (.iconst 0, 1) := by decide +kernel
theorem dX3_takeDivisorAway_88 : decode cX3_takeDivisorAway 88 = .ok (.istore 6, 2) := by decide +kernel
theorem dX3_takeDivisorAway_90 : decode cX3_takeDivisorAway 90 = .ok (.iload 6, 2) := by decide +kernel
theorem dX3_takeDivisorAway_92 : decode cX3_takeDivisorAway 92 = .ok (.iconst 2, 1) := by decide +kernel
theorem dX3_takeDivisorAway_93 : decode cX3_takeDivisorAway 93 = .ok (.if_icmp .ge 91, 3) := by decide +kernel
theorem dX3_takeDivisorAway_96 : decode cX3_takeDivisorAway 96 = .ok (.lload 4, 2) := by decide +kernel
theorem dX3_takeDivisorAway_98 : decode cX3_takeDivisorAway 98 = .ok (.lconst 0, 1) := by decide +kernel
theorem dX3_takeDivisorAway_99 : decode cX3_takeDivisorAway 99 = .ok (.lcmp, 1) := by decide +kernel
theorem dX3_takeDivisorAway_100 : decode cX3_takeDivisorAway 100 = .ok (.ifCond .ge 84, 3) := by decide +kernel
theorem dX3_takeDivisorAway_103 : decode cX3_takeDivisorAway 103 = .ok (.lconst 0, 1) := by decide +kernel
theorem dX3_takeDivisorAway_104 : decode cX3_takeDivisorAway 104 = .ok (.lstore 7, 2) := by decide +kernel
theorem dX3_takeDivisorAway_106 : decode cX3_takeDivisorAway 106 = .ok (.iconst 0, 1) := by decide +kernel
theorem dX3_takeDivisorAway_107 : decode cX3_takeDivisorAway 107 = .ok (.istore 9, 2) := by decide +kernel
theorem dX3_takeDivisorAway_109 : decode cX3_takeDivisorAway 109 = .ok (.iload 9, 2) := by decide +kernel
theorem dX3_takeDivisorAway_111 : decode cX3_takeDivisorAway 111 = .ok (.aload_n 0, 1) := by decide +kernel
theorem dX3_takeDivisorAway_112 : decode cX3_takeDivisorAway 112 = .ok (.getfield 36, 3) := by decide +kernel
theorem dX3_takeDivisorAway_115 : decode cX3_takeDivisorAway 115 = .ok (.if_icmp .ge 56, 3) := by decide +kernel
theorem dX3_takeDivisorAway_118 : decode cX3_takeDivisorAway 118 = .ok (.lload 7, 2) := by decide +kernel
theorem dX3_takeDivisorAway_120 : decode cX3_takeDivisorAway 120 = .ok (.aload_n 0, 1) := by decide +kernel
theorem dX3_takeDivisorAway_121 : decode cX3_takeDivisorAway 121 = .ok (.getfield 18, 3) := by decide +kernel
theorem dX3_takeDivisorAway_124 : decode cX3_takeDivisorAway 124 = .ok (.iload_n 3, 1) := by decide +kernel
theorem dX3_takeDivisorAway_125 : decode cX3_takeDivisorAway 125 = .ok (.iload 9, 2) := by decide +kernel
theorem dX3_takeDivisorAway_127 : decode cX3_takeDivisorAway 127 = .ok (.iadd, 1) := by decide +kernel
theorem dX3_takeDivisorAway_128 : decode cX3_takeDivisorAway 128 = .ok (.iaload, 1) := by decide +kernel
theorem dX3_takeDivisorAway_129 : decode cX3_takeDivisorAway 129 = .ok (.i2l, 1) := by decide +kernel
theorem dX3_takeDivisorAway_130 : decode cX3_takeDivisorAway 130 = .ok (.aload_n 0, 1) := by decide +kernel
theorem dX3_takeDivisorAway_131 : decode cX3_takeDivisorAway 131 = .ok (.getfield 15, 3) := by decide +kernel
theorem dX3_takeDivisorAway_134 : decode cX3_takeDivisorAway 134 = .ok (.iload 9, 2) := by decide +kernel
theorem dX3_takeDivisorAway_136 : decode cX3_takeDivisorAway 136 = .ok (.iaload, 1) := by decide +kernel
theorem dX3_takeDivisorAway_137 : decode cX3_takeDivisorAway 137 = .ok (.i2l, 1) := by decide +kernel
theorem dX3_takeDivisorAway_138 : decode cX3_takeDivisorAway 138 = .ok (.ladd, 1) := by decide +kernel
theorem dX3_takeDivisorAway_139 : decode cX3_takeDivisorAway 139 = .ok (.ladd, 1) := by decide +kernel
theorem dX3_takeDivisorAway_140 : decode cX3_takeDivisorAway 140 = .ok (.lstore 7, 2) := by decide +kernel
theorem dX3_takeDivisorAway_142 : decode cX3_takeDivisorAway 142 = .ok (.aload_n 0, 1) := by decide +kernel
theorem dX3_takeDivisorAway_143 : decode cX3_takeDivisorAway 143 = .ok (.getfield 18, 3) := by decide +kernel
theorem dX3_takeDivisorAway_146 : decode cX3_takeDivisorAway 146 = .ok (.iload_n 3, 1) := by decide +kernel
theorem dX3_takeDivisorAway_147 : decode cX3_takeDivisorAway 147 = .ok (.iload 9, 2) := by decide +kernel
theorem dX3_takeDivisorAway_149 : decode cX3_takeDivisorAway 149 = .ok (.iadd, 1) := by decide +kernel
theorem dX3_takeDivisorAway_150 : decode cX3_takeDivisorAway 150 = .ok (.lload 7, 2) := by decide +kernel
theorem dX3_takeDivisorAway_152 : decode cX3_takeDivisorAway 152 = .ok (.ldc2_w 90, 3) := by decide +kernel
theorem dX3_takeDivisorAway_155 : decode cX3_takeDivisorAway 155 = .ok (.land, 1) := by decide +kernel
theorem dX3_takeDivisorAway_156 : decode cX3_takeDivisorAway 156 = .ok (.l2i, 1) := by decide +kernel
theorem dX3_takeDivisorAway_157 : decode cX3_takeDivisorAway 157 = .ok (.iastore, 1) := by decide +kernel
theorem dX3_takeDivisorAway_158 : decode cX3_takeDivisorAway 158 = .ok (.lload 7, 2) := by decide +kernel
theorem dX3_takeDivisorAway_160 : decode cX3_takeDivisorAway 160 = .ok (.bipush 31, 2) := by decide +kernel
theorem dX3_takeDivisorAway_162 : decode cX3_takeDivisorAway 162 = .ok (.lshr, 1) := by decide +kernel
theorem dX3_takeDivisorAway_163 : decode cX3_takeDivisorAway 163 = .ok (.lstore 7, 2) := by decide +kernel
theorem dX3_takeDivisorAway_165 : decode cX3_takeDivisorAway 165 = .ok (.iinc 9 1, 3) := by decide +kernel
theorem dX3_takeDivisorAway_168 : decode cX3_takeDivisorAway 168 = .ok (.goto (-59), 3) := by decide +kernel
theorem dX3_takeDivisorAway_171 : decode cX3_takeDivisorAway 171 = .ok (.lload 4, 2) := by decide +kernel
theorem dX3_takeDivisorAway_173 : decode cX3_takeDivisorAway 173 = .ok (.lload 7, 2) := by decide +kernel
theorem dX3_takeDivisorAway_175 : decode cX3_takeDivisorAway 175 = .ok (.ladd, 1) := by decide +kernel
theorem dX3_takeDivisorAway_176 : decode cX3_takeDivisorAway 176 = .ok (.lstore 4, 2) := by decide +kernel
theorem dX3_takeDivisorAway_178 : decode cX3_takeDivisorAway 178 = .ok (.iinc 6 1, 3) := by decide +kernel
theorem dX3_takeDivisorAway_181 : decode cX3_takeDivisorAway 181 = .ok (.goto (-91), 3) := by decide +kernel
theorem dX3_takeDivisorAway_184 : decode cX3_takeDivisorAway 184 = .ok (.aload_n 0, 1) := by decide +kernel
theorem dX3_takeDivisorAway_185 : decode cX3_takeDivisorAway 185 = .ok (.getfield 18, 3) := by decide +kernel
theorem dX3_takeDivisorAway_188 : decode cX3_takeDivisorAway 188 = .ok (.iload_n 3, 1) := by decide +kernel
theorem dX3_takeDivisorAway_189 : decode cX3_takeDivisorAway 189 = .ok (.aload_n 0, 1) := by decide +kernel
theorem dX3_takeDivisorAway_190 : decode cX3_takeDivisorAway 190 = .ok (.getfield 36, 3) := by decide +kernel
theorem dX3_takeDivisorAway_193 : decode cX3_takeDivisorAway 193 = .ok (.iadd, 1) := by decide +kernel
theorem dX3_takeDivisorAway_194 : decode cX3_takeDivisorAway 194 = .ok (.iconst 0, 1) := by decide +kernel
theorem dX3_takeDivisorAway_195 : decode cX3_takeDivisorAway 195 = .ok (.iastore, 1) := by decide +kernel
theorem dX3_takeDivisorAway_196 : decode cX3_takeDivisorAway 196 = .ok (.return_, 1) := by decide +kernel
end
section
theorem dJ6_numberOfLeadingZeros_0f7a4_0 : decode cJ6_numberOfLeadingZeros_0f7a4 0 = .ok (.iload_n 0, 1) := by decide +kernel
theorem dJ6_numberOfLeadingZeros_0f7a4_1 : decode cJ6_numberOfLeadingZeros_0f7a4 1 = .ok (.ifCond .gt 14, 3) := by decide +kernel
theorem dJ6_numberOfLeadingZeros_0f7a4_4 : decode cJ6_numberOfLeadingZeros_0f7a4 4 = .ok (.iload_n 0, 1) := by decide +kernel
theorem dJ6_numberOfLeadingZeros_0f7a4_5 : decode cJ6_numberOfLeadingZeros_0f7a4 5 = .ok (.ifCond .ne 8, 3) := by decide +kernel
theorem dJ6_numberOfLeadingZeros_0f7a4_8 : decode cJ6_numberOfLeadingZeros_0f7a4 8 = .ok (.bipush 32, 2) := by decide +kernel
theorem dJ6_numberOfLeadingZeros_0f7a4_10 : decode cJ6_numberOfLeadingZeros_0f7a4 10 = .ok (.goto 4, 3) := by decide +kernel
theorem dJ6_numberOfLeadingZeros_0f7a4_13 : decode cJ6_numberOfLeadingZeros_0f7a4 13 = .ok (.iconst 0, 1) := by decide +kernel
theorem dJ6_numberOfLeadingZeros_0f7a4_14 : decode cJ6_numberOfLeadingZeros_0f7a4 14 = .ok (.ireturn, 1) := by decide +kernel
theorem dJ6_numberOfLeadingZeros_0f7a4_15 : decode cJ6_numberOfLeadingZeros_0f7a4 15 = .ok (.bipush 31, 2) := by decide +kernel
theorem dJ6_numberOfLeadingZeros_0f7a4_17 : decode cJ6_numberOfLeadingZeros_0f7a4 17 = .ok (.istore_n 1, 1) := by decide +kernel
theorem dJ6_numberOfLeadingZeros_0f7a4_18 : decode cJ6_numberOfLeadingZeros_0f7a4 18 = .ok (.iload_n 0, 1) := by decide +kernel
theorem dJ6_numberOfLeadingZeros_0f7a4_19 : decode cJ6_numberOfLeadingZeros_0f7a4 19 = .ok (.ldc_w 264, 3) := by decide +kernel
theorem dJ6_numberOfLeadingZeros_0f7a4_22 : decode cJ6_numberOfLeadingZeros_0f7a4 22 = .ok (.if_icmp .lt 11, 3) := by decide +kernel
theorem dJ6_numberOfLeadingZeros_0f7a4_25 : decode cJ6_numberOfLeadingZeros_0f7a4 25 = .ok (.iinc 1 (-16), 3) := by decide +kernel
theorem dJ6_numberOfLeadingZeros_0f7a4_28 : decode cJ6_numberOfLeadingZeros_0f7a4 28 = .ok (.iload_n 0, 1) := by decide +kernel
theorem dJ6_numberOfLeadingZeros_0f7a4_29 : decode cJ6_numberOfLeadingZeros_0f7a4 29 = .ok (.bipush 16, 2) := by decide +kernel
theorem dJ6_numberOfLeadingZeros_0f7a4_31 : decode cJ6_numberOfLeadingZeros_0f7a4 31 = .ok (.iushr, 1) := by decide +kernel
theorem dJ6_numberOfLeadingZeros_0f7a4_32 : decode cJ6_numberOfLeadingZeros_0f7a4 32 = .ok (.istore_n 0, 1) := by decide +kernel
theorem dJ6_numberOfLeadingZeros_0f7a4_33 : decode cJ6_numberOfLeadingZeros_0f7a4 33 = .ok (.iload_n 0, 1) := by decide +kernel
theorem dJ6_numberOfLeadingZeros_0f7a4_34 : decode cJ6_numberOfLeadingZeros_0f7a4 34 = .ok (.sipush 256, 3) := by decide +kernel
theorem dJ6_numberOfLeadingZeros_0f7a4_37 : decode cJ6_numberOfLeadingZeros_0f7a4 37 = .ok (.if_icmp .lt 11, 3) := by decide +kernel
theorem dJ6_numberOfLeadingZeros_0f7a4_40 : decode cJ6_numberOfLeadingZeros_0f7a4 40 = .ok (.iinc 1 (-8), 3) := by decide +kernel
theorem dJ6_numberOfLeadingZeros_0f7a4_43 : decode cJ6_numberOfLeadingZeros_0f7a4 43 = .ok (.iload_n 0, 1) := by decide +kernel
theorem dJ6_numberOfLeadingZeros_0f7a4_44 : decode cJ6_numberOfLeadingZeros_0f7a4 44 = .ok (.bipush 8, 2) := by decide +kernel
theorem dJ6_numberOfLeadingZeros_0f7a4_46 : decode cJ6_numberOfLeadingZeros_0f7a4 46 = .ok (.iushr, 1) := by decide +kernel
theorem dJ6_numberOfLeadingZeros_0f7a4_47 : decode cJ6_numberOfLeadingZeros_0f7a4 47 = .ok (.istore_n 0, 1) := by decide +kernel
theorem dJ6_numberOfLeadingZeros_0f7a4_48 : decode cJ6_numberOfLeadingZeros_0f7a4 48 = .ok (.iload_n 0, 1) := by decide +kernel
theorem dJ6_numberOfLeadingZeros_0f7a4_49 : decode cJ6_numberOfLeadingZeros_0f7a4 49 = .ok (.bipush 16, 2) := by decide +kernel
theorem dJ6_numberOfLeadingZeros_0f7a4_51 : decode cJ6_numberOfLeadingZeros_0f7a4 51 = .ok (.if_icmp .lt 10, 3) := by decide +kernel
theorem dJ6_numberOfLeadingZeros_0f7a4_54 : decode cJ6_numberOfLeadingZeros_0f7a4 54 = .ok (.iinc 1 (-4), 3) := by decide +kernel
theorem dJ6_numberOfLeadingZeros_0f7a4_57 : decode cJ6_numberOfLeadingZeros_0f7a4 57 = .ok (.iload_n 0, 1) := by decide +kernel
theorem dJ6_numberOfLeadingZeros_0f7a4_58 : decode cJ6_numberOfLeadingZeros_0f7a4 58 = .ok (.iconst 4, 1) := by decide +kernel
theorem dJ6_numberOfLeadingZeros_0f7a4_59 : decode cJ6_numberOfLeadingZeros_0f7a4 59 = .ok (.iushr, 1) := by decide +kernel
theorem dJ6_numberOfLeadingZeros_0f7a4_60 : decode cJ6_numberOfLeadingZeros_0f7a4 60 = .ok (.istore_n 0, 1) := by decide +kernel
theorem dJ6_numberOfLeadingZeros_0f7a4_61 : decode cJ6_numberOfLeadingZeros_0f7a4 61 = .ok (.iload_n 0, 1) := by decide +kernel
theorem dJ6_numberOfLeadingZeros_0f7a4_62 : decode cJ6_numberOfLeadingZeros_0f7a4 62 = .ok (.iconst 4, 1) := by decide +kernel
theorem dJ6_numberOfLeadingZeros_0f7a4_63 : decode cJ6_numberOfLeadingZeros_0f7a4 63 = .ok (.if_icmp .lt 10, 3) := by decide +kernel
theorem dJ6_numberOfLeadingZeros_0f7a4_66 : decode cJ6_numberOfLeadingZeros_0f7a4 66 = .ok (.iinc 1 (-2), 3) := by decide +kernel
theorem dJ6_numberOfLeadingZeros_0f7a4_69 : decode cJ6_numberOfLeadingZeros_0f7a4 69 = .ok (.iload_n 0, 1) := by decide +kernel
theorem dJ6_numberOfLeadingZeros_0f7a4_70 : decode cJ6_numberOfLeadingZeros_0f7a4 70 = .ok (.iconst 2, 1) := by decide +kernel
theorem dJ6_numberOfLeadingZeros_0f7a4_71 : decode cJ6_numberOfLeadingZeros_0f7a4 71 = .ok (.iushr, 1) := by decide +kernel
theorem dJ6_numberOfLeadingZeros_0f7a4_72 : decode cJ6_numberOfLeadingZeros_0f7a4 72 = .ok (.istore_n 0, 1) := by decide +kernel
theorem dJ6_numberOfLeadingZeros_0f7a4_73 : decode cJ6_numberOfLeadingZeros_0f7a4 73 = .ok (.iload_n 1, 1) := by decide +kernel
theorem dJ6_numberOfLeadingZeros_0f7a4_74 : decode cJ6_numberOfLeadingZeros_0f7a4 74 = .ok (.iload_n 0, 1) := by decide +kernel
theorem dJ6_numberOfLeadingZeros_0f7a4_75 : decode cJ6_numberOfLeadingZeros_0f7a4 75 = .ok (.iconst 1, 1) := by decide +kernel
theorem dJ6_numberOfLeadingZeros_0f7a4_76 : decode cJ6_numberOfLeadingZeros_0f7a4 76 = .ok (.iushr, 1) := by decide +kernel
theorem dJ6_numberOfLeadingZeros_0f7a4_77 : decode cJ6_numberOfLeadingZeros_0f7a4 77 = .ok (.isub, 1) := by decide +kernel
theorem dJ6_numberOfLeadingZeros_0f7a4_78 : decode cJ6_numberOfLeadingZeros_0f7a4 78 = .ok (.ireturn, 1) := by decide +kernel
theorem dJ9_max_7cf53_0 : decode cJ9_max_7cf53 0 = .ok (.iload_n 0, 1) := by decide +kernel
theorem dJ9_max_7cf53_1 : decode cJ9_max_7cf53 1 = .ok (.iload_n 1, 1) := by decide +kernel
theorem dJ9_max_7cf53_2 : decode cJ9_max_7cf53 2 = .ok (.if_icmp .lt 7, 3) := by decide +kernel
theorem dJ9_max_7cf53_5 : decode cJ9_max_7cf53 5 = .ok (.iload_n 0, 1) := by decide +kernel
theorem dJ9_max_7cf53_6 : decode cJ9_max_7cf53 6 = .ok (.goto 4, 3) := by decide +kernel
theorem dJ9_max_7cf53_9 : decode cJ9_max_7cf53 9 = .ok (.iload_n 1, 1) := by decide +kernel
theorem dJ9_max_7cf53_10 : decode cJ9_max_7cf53 10 = .ok (.ireturn, 1) := by decide +kernel
theorem dJ9_min_7cf53_0 : decode cJ9_min_7cf53 0 = .ok (.iload_n 0, 1) := by decide +kernel
theorem dJ9_min_7cf53_1 : decode cJ9_min_7cf53 1 = .ok (.iload_n 1, 1) := by decide +kernel
theorem dJ9_min_7cf53_2 : decode cJ9_min_7cf53 2 = .ok (.if_icmp .gt 7, 3) := by decide +kernel
theorem dJ9_min_7cf53_5 : decode cJ9_min_7cf53 5 = .ok (.iload_n 0, 1) := by decide +kernel
theorem dJ9_min_7cf53_6 : decode cJ9_min_7cf53 6 = .ok (.goto 4, 3) := by decide +kernel
theorem dJ9_min_7cf53_9 : decode cJ9_min_7cf53 9 = .ok (.iload_n 1, 1) := by decide +kernel
theorem dJ9_min_7cf53_10 : decode cJ9_min_7cf53 10 = .ok (.ireturn, 1) := by decide +kernel
theorem dJ9_min_f86c9_0 : decode cJ9_min_f86c9 0 = .ok (.lload_n 0, 1) := by decide +kernel
theorem dJ9_min_f86c9_1 : decode cJ9_min_f86c9 1 = .ok (.lload_n 2, 1) := by decide +kernel
theorem dJ9_min_f86c9_2 : decode cJ9_min_f86c9 2 = .ok (.lcmp, 1) := by decide +kernel
theorem dJ9_min_f86c9_3 : decode cJ9_min_f86c9 3 = .ok (.ifCond .gt 7, 3) := by decide +kernel
theorem dJ9_min_f86c9_6 : decode cJ9_min_f86c9 6 = .ok (.lload_n 0, 1) := by decide +kernel
theorem dJ9_min_f86c9_7 : decode cJ9_min_f86c9 7 = .ok (.goto 4, 3) := by decide +kernel
theorem dJ9_min_f86c9_10 : decode cJ9_min_f86c9 10 = .ok (.lload_n 2, 1) := by decide +kernel
theorem dJ9_min_f86c9_11 : decode cJ9_min_f86c9 11 = .ok (.lreturn, 1) := by decide +kernel
theorem dJ7_fill_53178_0 : decode cJ7_fill_53178 0 = .ok (.iconst 0, 1) := by decide +kernel
theorem dJ7_fill_53178_1 : decode cJ7_fill_53178 1 = .ok (.istore_n 2, 1) := by decide +kernel
theorem dJ7_fill_53178_2 : decode cJ7_fill_53178 2 = .ok (.aload_n 0, 1) := by decide +kernel
theorem dJ7_fill_53178_3 : decode cJ7_fill_53178 3 = .ok (.arraylength, 1) := by decide +kernel
theorem dJ7_fill_53178_4 : decode cJ7_fill_53178 4 = .ok (.istore_n 3, 1) := by decide +kernel
theorem dJ7_fill_53178_5 : decode cJ7_fill_53178 5 = .ok (.iload_n 2, 1) := by decide +kernel
theorem dJ7_fill_53178_6 : decode cJ7_fill_53178 6 = .ok (.iload_n 3, 1) := by decide +kernel
theorem dJ7_fill_53178_7 : decode cJ7_fill_53178 7 = .ok (.if_icmp .ge 13, 3) := by decide +kernel
theorem dJ7_fill_53178_10 : decode cJ7_fill_53178 10 = .ok (.aload_n 0, 1) := by decide +kernel
theorem dJ7_fill_53178_11 : decode cJ7_fill_53178 11 = .ok (.iload_n 2, 1) := by decide +kernel
theorem dJ7_fill_53178_12 : decode cJ7_fill_53178 12 = .ok (.iload_n 1, 1) := by decide +kernel
theorem dJ7_fill_53178_13 : decode cJ7_fill_53178 13 = .ok (.iastore, 1) := by decide +kernel
theorem dJ7_fill_53178_14 : decode cJ7_fill_53178 14 = .ok (.iinc 2 1, 3) := by decide +kernel
theorem dJ7_fill_53178_17 : decode cJ7_fill_53178 17 = .ok (.goto (-12), 3) := by decide +kernel
theorem dJ7_fill_53178_20 : decode cJ7_fill_53178 20 = .ok (.return_, 1) := by decide +kernel
abbrev vwCl : List vw_C := [(RX0, TX0, 6), (RX2, TX2, 3), (RX3, TX3, 10), (RX4, TX4, 12), (RX5, TX5, 13), (RX6, TX6, 12)]
end
section
-- A METHOD'S BEGINNING AND ENDS OVER THE MAP
abbrev xR (d : Nat) : Room := { frames := d, cells := 0, slots := 0, locals := 40 * d }
theorem r_met {l : Launch} {y : MethodName} {ws ws' : List Cond} {rm : Room} {Qc : Array Value → State → Outcome → State → Prop} {mc ms : Nat} {cc : ByteArray} {maxL : Nat} {ret : Option FieldType} {av : List Value} {D : va_G} {cl : List vw_C} {tys : List (ClassId × FieldType)} {N0 : Nat} {M : xM}
    (hy : plainName y.cls = true) (hw : ws = Cond.code y cc maxL ret :: ws') (hav : (lg_sl av).length ≤ maxL)
    (body : ∀ (p : Program) (e : Env) (s : State) (m : MethodId) (below : List Frame) (meth : Method) (c : Code) (ls : Array Slot), xC p s m av.toArray meth c cc maxL ret y.cls ws D cl tys N0 → xW D cl N0 M s.heap → meth.name = y.name → lv_has ls maxL (lv_args 0 av) →
      W p l e rm s m av.toArray below meth c s.heap [] 0 0 (MQ below Qc av.toArray s mc ms (xA N0)) (F0 m 0 ls [])) : Met l y ws rm (va_Pc av (xB D cl tys N0 M)) Qc mc ms (xA N0) := by
  refine Met.ofW (cc := cc) (maxL := maxL) (ret := ret) hy hw ?_
  intro p e s m args below meth c s₁ B hml hv
  obtain ⟨rfl, hN, hM, hK⟩ := hv
  have hl := lv_entry av (n := maxL) hav
  rw [lg_entry_eq]
  exact body p e s m below meth c _ ⟨B.exec, B.bytes, hml, findClass_of_methodNamed B.named, atoms_spec (ws := ws) B.pre, B.returns, B.notSynchronized, hK, hN⟩ hM (name_of_methodNamed B.named B.method).1 hl
section RRET
variable {p : Program} {l : Launch} {e : Env} {R : Room} {s : State} {m : MethodId} {args : Array Value} {below : List Frame} {meth : Method} {c : Code} {H : Heap} {locs : List Loc} {cells slots : Nat}
variable {cc : ByteArray} {pc nL : Nat} {own : String} {Ts : List Cond} {ls : Array Slot} {D : va_G} {cl : List vw_C} {tys : List (ClassId × FieldType)} {N0 : Nat} {M : xM}
theorem xB_end {ret : Option FieldType} (C : xC p s m args meth c cc nL ret own Ts D cl tys N0) (hM : xW D cl N0 M H) (hS : va_S (xA N0) s.heap H locs) {t : State} (ht : t.heap = H) (hW : s.WarmedH t.vm) : xB D cl tys N0 M t := by
  obtain ⟨hx, hb, hml, hown, hts, hr, hlocks, hK, hN⟩ := C
  exact ⟨by rw [ht]; exact Nat.le_trans hN hS.1, by rw [ht]; exact hM, va_K.moved hW.alike hK⟩
theorem r_iret {post : Int32 → xM → Prop} {v : Int32} (C : xC p s m args meth c cc nL (some .int) own Ts D cl tys N0) (hM : xW D cl N0 M H) (hS : va_S (xA N0) s.heap H locs) (hp : post v M) (hdg : decode cc pc = .ok (.ireturn, 1)) : W p l e R s m args below meth c H locs cells slots (MQ below (va_Qi post (xB D cl tys N0) (xA N0)) args s cells slots (xA N0)) (F0 m pc ls [.int v]) :=
  W.iret (v := v) C.1 C.2.1 C.2.2.2.2.2.1 (fun t ht hW => ⟨⟨v, M, rfl, hp, xB_end C hM hS ht hW⟩, hS.F ht⟩) hS.2.2 hdg C.2.2.2.2.2.2.1
theorem r_zret {post : Int32 → xM → Prop} {v : Int32} (C : xC p s m args meth c cc nL (some .boolean) own Ts D cl tys N0) (hM : xW D cl N0 M H) (hS : va_S (xA N0) s.heap H locs) (hn : narrow .boolean (.int v) = .int v) (hp : post v M) (hdg : decode cc pc = .ok (.ireturn, 1)) : W p l e R s m args below meth c H locs cells slots (MQ below (va_Qi post (xB D cl tys N0) (xA N0)) args s cells slots (xA N0)) (F0 m pc ls [.int v]) :=
  W.zret (v := v) C.1 C.2.1 C.2.2.2.2.2.1 hn (fun t ht hW => ⟨⟨v, M, rfl, hp, xB_end C hM hS ht hW⟩, hS.F ht⟩) hS.2.2 hdg C.2.2.2.2.2.2.1
theorem r_lret {post : Int64 → xM → Prop} {v : Int64} (C : xC p s m args meth c cc nL (some .long) own Ts D cl tys N0) (hM : xW D cl N0 M H) (hS : va_S (xA N0) s.heap H locs) (hp : post v M) (hdg : decode cc pc = .ok (.lreturn, 1)) : W p l e R s m args below meth c H locs cells slots (MQ below (va_Ql post (xB D cl tys N0) (xA N0)) args s cells slots (xA N0)) (F0 m pc ls [.long v]) :=
  W.lret (v := v) C.1 C.2.1 C.2.2.2.2.2.1 (fun t ht hW => ⟨⟨v, M, rfl, hp, xB_end C hM hS ht hW⟩, hS.F ht⟩) hS.2.2 hdg C.2.2.2.2.2.2.1
theorem r_vret {post : xM → Prop} (C : xC p s m args meth c cc nL none own Ts D cl tys N0) (hM : xW D cl N0 M H) (hS : va_S (xA N0) s.heap H locs) (hp : post M) (hdg : decode cc pc = .ok (.return_, 1)) : W p l e R s m args below meth c H locs cells slots (MQ below (va_Qv post (xB D cl tys N0) (xA N0)) args s cells slots (xA N0)) (F0 m pc ls []) :=
  W.vret C.1 C.2.1 C.2.2.2.2.2.1 (fun t ht hW => ⟨⟨M, rfl, hp, xB_end C hM hS ht hW⟩, hS.F ht⟩) hS.2.2 hdg C.2.2.2.2.2.2.1
theorem r_aret {post : xM × Nat → Prop} {v : Nat} {rt : FieldType} (hrt : (∃ n, rt = .object n) ∨ ∃ t, rt = .array t) (C : xC p s m args meth c cc nL (some rt) own Ts D cl tys N0) (hM : xW D cl N0 M H) (hS : va_S (xA N0) s.heap H locs) (hp : post (M, v)) (hdg : decode cc pc = .ok (.areturn, 1)) : W p l e R s m args below meth c H locs cells slots (MQ below (va_Qr (S := xM) (fun _ => True) (fun M1 ra t => post (M1, ra) ∧ xB D cl tys N0 M1 t) (xA N0)) args s cells slots (xA N0)) (F0 m pc ls [.ref v]) :=
  W.aret (v := .ref v) C.1 C.2.1 C.2.2.2.2.2.1 hrt (Or.inr ⟨v, rfl⟩) (fun t ht hW => ⟨⟨M, v, rfl, trivial, hp, xB_end C hM hS ht hW⟩, hS.F ht⟩) hS.2.2 hdg C.2.2.2.2.2.2.1
end RRET
theorem r_inc (i : Nat) : nI i + Int32.ofInt 1 = nI (i + 1) := nI_1 i
theorem r_dec (i : Nat) : nI (i + 1) + Int32.ofInt (-1) = nI i := pk_m1 i
theorem xset_id {M : xM} {a : Nat} {e : va_E} (h : M a = some e) : xset M a e = M := by
  funext b
  by_cases hb : b = a
  · subst hb; rw [xset_s, h]
  · rw [xset_n hb]
theorem xset_xset {M : xM} {a : Nat} {e e' : va_E} : xset (xset M a e) a e' = xset M a e' := by
  funext b
  by_cases hb : b = a
  · subst hb; rw [xset_s, xset_s]
  · rw [xset_n hb, xset_n hb, xset_n hb]
-- THIS CLAIM'S ARRAYS: ints, booleans, points, rows of ints
abbrev xT (kA : Nat → ClassId) : List (ClassId × FieldType) := [(kA 0, .int), (kA 1, .boolean), (kA 2, .object "LimbCurves$Point"), (kA 3, .array .int)]
abbrev cI (l : Launch) (y : MethodName) (ws : List Cond) (rm : Room) (av : List Value) (D : va_G) (kA : Nat → ClassId) (N0 : Nat) (M : xM) (post : Int32 → xM → Prop) : Prop := Met l y ws rm (va_Pc av (xB D vwCl (xT kA) N0 M)) (va_Qi post (xB D vwCl (xT kA) N0) (xA N0)) 0 0 (xA N0)
abbrev cJ (l : Launch) (y : MethodName) (ws : List Cond) (rm : Room) (av : List Value) (D : va_G) (kA : Nat → ClassId) (N0 : Nat) (M : xM) (post : Int64 → xM → Prop) : Prop := Met l y ws rm (va_Pc av (xB D vwCl (xT kA) N0 M)) (va_Ql post (xB D vwCl (xT kA) N0) (xA N0)) 0 0 (xA N0)
abbrev cV (l : Launch) (y : MethodName) (ws : List Cond) (rm : Room) (av : List Value) (D : va_G) (kA : Nat → ClassId) (N0 : Nat) (M : xM) (post : xM → Prop) : Prop := Met l y ws rm (va_Pc av (xB D vwCl (xT kA) N0 M)) (va_Qv post (xB D vwCl (xT kA) N0) (xA N0)) 0 0 (xA N0)
abbrev cR (l : Launch) (y : MethodName) (ws : List Cond) (rm : Room) (av : List Value) (D : va_G) (kA : Nat → ClassId) (N0 : Nat) (M : xM) (post : xM × Nat → Prop) : Prop := Met l y ws rm (va_Pc av (xB D vwCl (xT kA) N0 M)) (va_Qr (S := xM) (fun _ => True) (fun M1 ra t => post (M1, ra) ∧ xB D vwCl (xT kA) N0 M1 t) (xA N0)) 0 0 (xA N0)
/-- limbs: none is below 0 -/
def nn (f : Nat → Int32) (n : Nat) : Prop := ∀ j, j < n → 0 ≤ (f j).toInt
theorem nn_dg {f : Nat → Int32} {n j : Nat} (h : nn f n) (hj : j < n) : (dg (f j) : Int) = (f j).toInt := dg_int (h j hj)
theorem r_decI (x : Int32) : x + Int32.ofInt (-1) = x - 1 := by
  rw [Int32.sub_eq_add_neg]
  rfl
theorem r_decN {i k : Nat} {z : Int32} (hz : z = -nI k) (h : k ≤ i) : nI i + z = nI (i - k) := by
  rw [hz, ← Int32.sub_eq_add_neg, pk_sub h]
-- one limb of a sum or a difference
theorem cmb_v {cy : Int64} {x y sg : Int32} {σ : Int} (hσ : sg.toInt = σ) (hs : σ = 1 ∨ σ = -1) (h1 : -1 ≤ cy.toInt) (h2 : cy.toInt ≤ 1) : (cy + (x.toInt64 + sg.toInt64 * y.toInt64)).toInt = cy.toInt + (x.toInt + σ * y.toInt) := by
  have a1 := i_lo x
  have a2 := i_hi x
  have b1 := i_lo y
  have b2 := i_hi y
  have hm : (sg.toInt64 * y.toInt64).toInt = σ * y.toInt := l_mul (l_i2l hσ) (l_i2l rfl) (by rcases hs with h | h <;> rw [h] <;> omega) (by rcases hs with h | h <;> rw [h] <;> omega)
  rcases hs with h | h
  · rw [h] at hm ⊢
    exact l_add rfl (l_add (l_i2l rfl) hm (by omega) (by omega)) (by omega) (by omega)
  · rw [h] at hm ⊢
    exact l_add rfl (l_add (l_i2l rfl) hm (by omega) (by omega)) (by omega) (by omega)
theorem cmb_o (v : Int64) : ((v &&& 2147483647).toInt32).toInt = v.toInt % 2147483648 := l_l2i (l_and31 v) (by omega) (by omega)
theorem cmb_c (v : Int64) : (v >>> ((nI 31).toInt64 &&& 63)).toInt = v.toInt / 2147483648 := l_shr v _ 31 (by decide)
theorem cmb_step {A V1 V2 P d1 d2 : Nat} {cy T σ : Int} (hI : (A : Int) + cy * P = V1 + σ * V2) (hT : T = cy + (d1 + σ * d2)) : ((A + (T % 2147483648).toNat * P : Nat) : Int) + (T / 2147483648) * ((P * BB : Nat) : Int) = ((V1 + d1 * P : Nat) : Int) + σ * ((V2 + d2 * P : Nat) : Int) := by
  have hr : ((T % 2147483648).toNat : Int) = T % 2147483648 := Int.toNat_of_nonneg (Int.emod_nonneg _ (by decide))
  have hd := Int.mul_ediv_add_emod T 2147483648
  rw [Int.natCast_add, Int.natCast_mul, hr, Int.natCast_mul, Int.natCast_add, Int.natCast_add, Int.natCast_mul, Int.natCast_mul]
  have hB : ((BB : Nat) : Int) = 2147483648 := rfl
  rw [hB]
  generalize T % 2147483648 = r at hd ⊢
  generalize T / 2147483648 = q at hd ⊢
  subst hT
  grind
theorem al_get {M : xM} {out one n i : Nat} {cA : ClassId} {f f0 f1 : Nat → Int32} (h0 : M out = some (xI cA n f0)) (h1 : M one = some (xI cA n f1)) (hf : ∀ j, i ≤ j → f j = f0 j) : ∃ g, xset M out (xI cA n f) one = some (xI cA n g) ∧ ∀ j, i ≤ j → g j = f1 j := by
  by_cases h : one = out
  · subst h
    rw [h0] at h1
    cases h1
    exact ⟨f, xset_s, hf⟩
  · exact ⟨f1, by rw [xset_n h]; exact h1, fun _ _ => rfl⟩
theorem V_upd {f : Nat → Int32} {i : Nat} {x : Int32} : V (upd f i x) (i + 1) = V f i + dg x * BB ^ i := by
  rw [V_s, V_upd_ge (Nat.le_refl i), pk_us]
end
section
section N1
variable {p : Program} {l : Launch} {e : Env} {R : Room} {s : State} {m : MethodId} {args : Array Value} {below : List Frame} {meth : Method} {c : Code} {Q : State → Prop} {cells slots : Nat} {ret : Option FieldType} {D : va_G} {kA : Nat → ClassId} {N0 : Nat}
-- Arrays.fill
set_option maxRecDepth 100000 in
theorem lp_fill {M : xM} {a n : Nat} {v : Int32} (C : xC p s m args meth c cJ7_fill_53178 4 ret RJ7 wsJ7_fill_53178 D vwCl (xT kA) N0) (hn : n < 2 ^ 31)
    (hexit : ∀ (f : Nat → Int32) (H : Heap) (locs : List Loc) (ls : Array Slot), (∀ j, j < n → f j = v) → xW D vwCl N0 (xset M a (xI (kA 0) n f)) H → va_S (xA N0) s.heap H locs → W p l e R s m args below meth c H locs cells slots Q (F0 m 20 ls [])) :
    ∀ (k i : Nat) (f : Nat → Int32) (H : Heap) (locs : List Loc) (ls : Array Slot), i + k = n → (∀ j, j < i → f j = v) → xW D vwCl N0 (xset M a (xI (kA 0) n f)) H → va_S (xA N0) s.heap H locs → lv_has ls 4 [(2, .int (nI i)), (3, .int (nI n)), (0, .ref a), (1, .int v)] → W p l e R s m args below meth c H locs cells slots Q (F0 m 5 ls []) := by
  obtain ⟨hx, hb, hml, hown, hts, hr, hlocks, hK, hN⟩ := id C
  intro k
  induction k with
  | zero =>
    intro i f H locs ls hi hf hM hS hl
    refine lv_iload_n hx hb dJ7_fill_53178_5 rfl (lv_at hl 0 rfl) ?_
    refine lv_iload_n hx hb dJ7_fill_53178_6 rfl (lv_at hl 1 rfl) ?_
    refine r_icmp_geN (tgt := 20) C (by omega) (by omega) dJ7_fill_53178_7 (by decide) (fun hc => ?_) (fun hc => ?_)
    · exact hexit f H locs ls (fun j hj => hf j (by omega)) hM hS
    · omega
  | succ k ih =>
    intro i f H locs ls hi hf hM hS hl
    refine lv_iload_n hx hb dJ7_fill_53178_5 rfl (lv_at hl 0 rfl) ?_
    refine lv_iload_n hx hb dJ7_fill_53178_6 rfl (lv_at hl 1 rfl) ?_
    refine r_icmp_geN (tgt := 20) C (by omega) (by omega) dJ7_fill_53178_7 (by decide) (fun hc => ?_) (fun hc => ?_)
    · omega
    · refine lv_aload_n hx hb dJ7_fill_53178_10 rfl (lv_at hl 2 rfl) ?_
      refine lv_iload_n hx hb dJ7_fill_53178_11 rfl (lv_at hl 0 rfl) ?_
      refine lv_iload_n hx hb dJ7_fill_53178_12 rfl (lv_at hl 3 rfl) ?_
      refine r_iast C hM hS (xset_s) rfl (by omega) (by omega) dJ7_fill_53178_13 (fun H locs hM hS => ?_)
      rw [xset_xset] at hM
      refine lv_iinc (v := nI (i + 1)) (lv' := [(2, .int (nI (i + 1))), (3, .int (nI n)), (0, .ref a), (1, .int v)]) hx hb dJ7_fill_53178_14 hl (k := 0) rfl (r_inc _) (by decide) rfl (fun ls hl => ?_)
      refine lv_goto (tgt := 5) hx hb dJ7_fill_53178_17 (by decide) ?_
      refine ih (i + 1) (upd f i v) H locs ls (by omega) (fun j hj => ?_) hM hS (lv_sub hl [0, 1, 2, 3] rfl)
      by_cases h : j = i
      · rw [h, pk_us]
      · rw [pk_un h]
        exact hf j (by omega)
set_option maxRecDepth 100000 in
theorem c_fill (l : Launch) (D : va_G) (kA : Nat → ClassId) (N0 : Nat) (M : xM) (a n : Nat) (f0 : Nat → Int32) (v : Int32) (ha : M a = some (xI (kA 0) n f0)) (hn : n < 2 ^ 31) : cV l yJ7_fill_53178 wsJ7_fill_53178 (xR 0) [.ref a, .int v] D kA N0 M (fun M1 => ∃ f, M1 = xset M a (xI (kA 0) n f) ∧ ∀ j, j < n → f j = v) := by
  refine r_met (cc := cJ7_fill_53178) (maxL := 4) (ret := none) (by decide) rfl (Nat.le_of_ble_eq_true rfl) ?_
  intro p e s m below meth c ls C hM hnm hl
  obtain ⟨hx, hb, hml, hown, hts, hr, hlocks, hK, hN⟩ := id C
  have hS : va_S (xA N0) s.heap s.heap [] := va_S.rf
  have hl : lv_has ls 4 [(0, .ref a), (1, .int v)] := hl
  refine lv_iconst (v := nI 0) hx hb dJ7_fill_53178_0 (by decide) ?_
  refine lv_istore_n (lv' := [(2, .int (nI 0)), (0, .ref a), (1, .int v)]) hx hb dJ7_fill_53178_1 rfl hl (by decide) rfl (fun ls hl => ?_)
  refine lv_aload_n hx hb dJ7_fill_53178_2 rfl (lv_at hl 1 rfl) ?_
  refine r_alen C hM (ha) rfl dJ7_fill_53178_3 ?_
  refine lv_istore_n (lv' := [(3, .int (nI n)), (2, .int (nI 0)), (0, .ref a), (1, .int v)]) hx hb dJ7_fill_53178_4 rfl hl (by decide) rfl (fun ls hl => ?_)
  have hM' : xW D vwCl N0 (xset M a (xI (kA 0) n f0)) s.heap := by rw [xset_id ha]; exact hM
  refine lp_fill C hn (fun f H locs ls hf hM hS => ?_) n 0 f0 s.heap [] ls (by omega) (fun j hj => by omega) hM' hS (lv_sub hl [1, 0, 2, 3] rfl)
  exact r_vret C hM hS (⟨f, rfl, hf⟩) dJ7_fill_53178_20
-- sizeOf
set_option maxRecDepth 100000 in
theorem lp_sizeOf {M : xM} {H : Heap} {locs : List Loc} {row n : Nat} {f : Nat → Int32} (C : xC p s m args meth c cX1_sizeOf 2 ret RX1 wsX1_sizeOf D vwCl (xT kA) N0) (hM : xW D vwCl N0 M H) (ha : M row = some (xI (kA 0) n f)) (hn : n < 2 ^ 31)
    (hexit : ∀ (k : Nat) (ls : Array Slot), k ≤ n → (∀ j, k ≤ j → j < n → f j = 0) → (0 < k → f (k - 1) ≠ 0) → lv_has ls 2 [(1, .int (nI k)), (0, .ref row)] → W p l e R s m args below meth c H locs cells slots Q (F0 m 21 ls [])) :
    ∀ (k : Nat) (ls : Array Slot), k ≤ n → (∀ j, k ≤ j → j < n → f j = 0) → lv_has ls 2 [(1, .int (nI k)), (0, .ref row)] → W p l e R s m args below meth c H locs cells slots Q (F0 m 3 ls []) := by
  obtain ⟨hx, hb, hml, hown, hts, hr, hlocks, hK, hN⟩ := id C
  intro k
  induction k with
  | zero =>
    intro ls hk hz hl
    refine lv_iload_n hx hb dX1_sizeOf_3 rfl (lv_at hl 0 rfl) ?_
    refine r_if_leN (tgt := 21) C (by omega) dX1_sizeOf_4 (by decide) (fun hc => ?_) (fun hc => ?_)
    · exact hexit 0 ls hk hz (fun h => by omega) hl
    · omega
  | succ k ih =>
    intro ls hk hz hl
    refine lv_iload_n hx hb dX1_sizeOf_3 rfl (lv_at hl 0 rfl) ?_
    refine r_if_leN (tgt := 21) C (by omega) dX1_sizeOf_4 (by decide) (fun hc => ?_) (fun hc => ?_)
    · omega
    · refine lv_aload_n hx hb dX1_sizeOf_7 rfl (lv_at hl 1 rfl) ?_
      refine lv_iload_n hx hb dX1_sizeOf_8 rfl (lv_at hl 0 rfl) ?_
      refine lv_iconst (v := nI 1) hx hb dX1_sizeOf_9 (by decide) ?_
      refine r_isubN C (Nat.le_add_left 1 _) dX1_sizeOf_10 ?_
      refine W.eq (g2 := F0 m 11 ls (.int (nI k) :: .ref row :: [])) rfl ?_
      refine r_iald C hM (ha) rfl (by omega) (by omega) dX1_sizeOf_11 ?_
      refine lv_if_ne (tgt := 21) hx hb dX1_sizeOf_12 (by decide) (fun hd => ?_) (fun hd => ?_)
      · exact hexit (k + 1) ls hk hz (fun _ => hd) hl
      · refine lv_iinc (v := nI k) (lv' := [(1, .int (nI k)), (0, .ref row)]) hx hb dX1_sizeOf_15 hl (k := 0) rfl (r_dec _) (by decide) rfl (fun ls hl => ?_)
        refine lv_goto (tgt := 3) hx hb dX1_sizeOf_18 (by decide) ?_
        refine ih ls (by omega) (fun j h1 h2 => ?_) hl
        by_cases h : j = k
        · rw [h]; exact hd
        · exact hz j (by omega) h2
set_option maxRecDepth 100000 in
theorem c_sizeOf (l : Launch) (D : va_G) (kA : Nat → ClassId) (N0 : Nat) (M : xM) (row n : Nat) (f : Nat → Int32) (ha : M row = some (xI (kA 0) n f)) (hn : n < 2 ^ 31) : cI l yX1_sizeOf wsX1_sizeOf (xR 0) [.ref row] D kA N0 M (fun r M1 => M1 = M ∧ ∃ k, r = nI k ∧ k ≤ n ∧ (∀ j, k ≤ j → j < n → f j = 0) ∧ (0 < k → f (k - 1) ≠ 0)) := by
  refine r_met (cc := cX1_sizeOf) (maxL := 2) (ret := (some .int)) (by decide) rfl (Nat.le_of_ble_eq_true rfl) ?_
  intro p e s m below meth c ls C hM hnm hl
  obtain ⟨hx, hb, hml, hown, hts, hr, hlocks, hK, hN⟩ := id C
  have hS : va_S (xA N0) s.heap s.heap [] := va_S.rf
  have hl : lv_has ls 2 [(0, .ref row)] := hl
  refine lv_aload_n hx hb dX1_sizeOf_0 rfl (lv_at hl 0 rfl) ?_
  refine r_alen C hM (ha) rfl dX1_sizeOf_1 ?_
  refine lv_istore_n (lv' := [(1, .int (nI n)), (0, .ref row)]) hx hb dX1_sizeOf_2 rfl hl (by decide) rfl (fun ls hl => ?_)
  refine lp_sizeOf C hM ha hn (fun k ls hk hz hp hl => ?_) n ls (Nat.le_refl n) (fun j h1 h2 => by omega) hl
  refine lv_iload_n hx hb dX1_sizeOf_21 rfl (lv_at hl 0 rfl) ?_
  exact r_iret C hM hS (⟨rfl, k, rfl, hk, hz, hp⟩) dX1_sizeOf_22
-- compare
set_option maxRecDepth 100000 in
theorem lp_compare {M : xM} {H : Heap} {locs : List Loc} {one other n : Nat} {f g : Nat → Int32} (C : xC p s m args meth c cX1_compare 3 ret RX1 wsX1_compare D vwCl (xT kA) N0) (hM : xW D vwCl N0 M H) (ha : M one = some (xI (kA 0) n f)) (hb2 : M other = some (xI (kA 0) n g)) (hn : n < 2 ^ 31)
    (hexit : ∀ (v : Int32) (pc : Nat) (ls : Array Slot), (pc = 32 ∨ pc = 40) → ((v = 0 ∧ ∀ j, j < n → f j = g j) ∨ (∃ k, k < n ∧ (∀ j, k < j → j < n → f j = g j) ∧ ((v = -1 ∧ f k < g k) ∨ (v = 1 ∧ g k < f k)))) → W p l e R s m args below meth c H locs cells slots Q (F0 m pc ls [.int v])) :
    ∀ (k : Nat) (ls : Array Slot), k ≤ n → (∀ j, k ≤ j → j < n → f j = g j) → lv_has ls 3 [(2, .int (nI k - 1)), (0, .ref one), (1, .ref other)] → W p l e R s m args below meth c H locs cells slots Q (F0 m 5 ls []) := by
  obtain ⟨hx, hb, hml, hown, hts, hr, hlocks, hK, hN⟩ := id C
  intro k
  induction k with
  | zero =>
    intro ls hk hz hl
    refine lv_iload_n hx hb dX1_compare_5 rfl (lv_at hl 0 rfl) ?_
    refine lv_if_lt (tgt := 39) hx hb dX1_compare_6 (by decide) (fun hc => ?_) (fun hc => ?_)
    · refine lv_iconst (v := nI 0) hx hb dX1_compare_39 (by decide) ?_
      exact hexit _ 40 ls (Or.inr rfl) (Or.inl ⟨nI_0, fun j hj => hz j (by omega) hj⟩)
    · exact absurd (by decide) hc
  | succ k ih =>
    intro ls hk hz hl
    have hl : lv_has ls 3 [(2, .int (nI k)), (0, .ref one), (1, .ref other)] := by rw [nI_pred] at hl; exact hl
    refine lv_iload_n hx hb dX1_compare_5 rfl (lv_at hl 0 rfl) ?_
    refine r_if_ltN (tgt := 39) C (by omega) dX1_compare_6 (by decide) (fun hc => ?_) (fun hc => ?_)
    · exact hc.elim
    · refine lv_aload_n hx hb dX1_compare_9 rfl (lv_at hl 1 rfl) ?_
      refine lv_iload_n hx hb dX1_compare_10 rfl (lv_at hl 0 rfl) ?_
      refine r_iald C hM (ha) rfl (by omega) (by omega) dX1_compare_11 ?_
      refine lv_aload_n hx hb dX1_compare_12 rfl (lv_at hl 2 rfl) ?_
      refine lv_iload_n hx hb dX1_compare_13 rfl (lv_at hl 0 rfl) ?_
      refine r_iald C hM (hb2) rfl (by omega) (by omega) dX1_compare_14 ?_
      refine lv_icmp_eq (tgt := 33) hx hb dX1_compare_15 (by decide) (fun hd => ?_) (fun hd => ?_)
      · refine lv_iinc (v := nI k - 1) (lv' := [(2, .int (nI k - 1)), (0, .ref one), (1, .ref other)]) hx hb dX1_compare_33 hl (k := 0) rfl (r_decI _) (by decide) rfl (fun ls hl => ?_)
        refine lv_goto (tgt := 5) hx hb dX1_compare_36 (by decide) ?_
        exact ih ls (by omega) (fun j h1 h2 => by
          by_cases h : j = k
          · rw [h]; exact hd
          · exact hz j (by omega) h2) hl
      · refine lv_aload_n hx hb dX1_compare_18 rfl (lv_at hl 1 rfl) ?_
        refine lv_iload_n hx hb dX1_compare_19 rfl (lv_at hl 0 rfl) ?_
        refine r_iald C hM (ha) rfl (by omega) (by omega) dX1_compare_20 ?_
        refine lv_aload_n hx hb dX1_compare_21 rfl (lv_at hl 2 rfl) ?_
        refine lv_iload_n hx hb dX1_compare_22 rfl (lv_at hl 0 rfl) ?_
        refine r_iald C hM (hb2) rfl (by omega) (by omega) dX1_compare_23 ?_
        refine lv_icmp_ge (tgt := 31) hx hb dX1_compare_24 (by decide) (fun hg => ?_) (fun hg => ?_)
        · refine lv_iconst (v := nI 1) hx hb dX1_compare_31 (by decide) ?_
          refine hexit _ 32 ls (Or.inl rfl) (Or.inr ⟨k, by omega, fun j h1 h2 => hz j (by omega) h2, Or.inr ⟨rfl, ?_⟩⟩)
          rw [i_le] at hg
          rw [i_lt]
          have : (f k).toInt ≠ (g k).toInt := fun h => hd (i_eqI h)
          omega
        · refine lv_iconst (v := (-1)) hx hb dX1_compare_27 (by decide) ?_
          refine lv_goto (tgt := 32) hx hb dX1_compare_28 (by decide) ?_
          refine hexit _ 32 ls (Or.inl rfl) (Or.inr ⟨k, by omega, fun j h1 h2 => hz j (by omega) h2, Or.inl ⟨rfl, ?_⟩⟩)
          rw [i_le] at hg
          rw [i_lt]
          omega
end N1
end
section
section N2
variable {p : Program} {l : Launch} {e : Env} {R : Room} {s : State} {m : MethodId} {args : Array Value} {below : List Frame} {meth : Method} {c : Code} {Q : State → Prop} {cells slots : Nat} {ret : Option FieldType} {D : va_G} {kA : Nat → ClassId} {N0 : Nat}
set_option maxRecDepth 100000 in
theorem c_compare (l : Launch) (D : va_G) (kA : Nat → ClassId) (N0 : Nat) (M : xM) (one other n : Nat) (f g : Nat → Int32) (ha : M one = some (xI (kA 0) n f)) (hb2 : M other = some (xI (kA 0) n g)) (nf : nn f n) (ng : nn g n) (hn : n < 2 ^ 31) : cI l yX1_compare wsX1_compare (xR 0) [.ref one, .ref other] D kA N0 M (fun r M1 => M1 = M ∧ ((r = 0 ∧ V f n = V g n) ∨ (r = -1 ∧ V f n < V g n) ∨ (r = 1 ∧ V g n < V f n))) := by
  refine r_met (cc := cX1_compare) (maxL := 3) (ret := (some .int)) (by decide) rfl (Nat.le_of_ble_eq_true rfl) ?_
  intro p e s m below meth c ls C hM hnm hl
  obtain ⟨hx, hb, hml, hown, hts, hr, hlocks, hK, hN⟩ := id C
  have hS : va_S (xA N0) s.heap s.heap [] := va_S.rf
  have hl : lv_has ls 3 [(0, .ref one), (1, .ref other)] := hl
  refine lv_aload_n hx hb dX1_compare_0 rfl (lv_at hl 0 rfl) ?_
  refine r_alen C hM (ha) rfl dX1_compare_1 ?_
  refine lv_iconst (v := 1) hx hb dX1_compare_2 (by decide) ?_
  refine lv_isub hx hb dX1_compare_3 ?_
  refine lv_istore_n (lv' := [(2, .int (nI n - 1)), (0, .ref one), (1, .ref other)]) hx hb dX1_compare_4 rfl hl (by decide) rfl (fun ls hl => ?_)
  refine lp_compare C hM ha hb2 hn (fun v pc ls hpc hv => ?_) n ls (Nat.le_refl n) (fun j h1 h2 => by omega) hl
  have hp : M = M ∧ ((v = 0 ∧ V f n = V g n) ∨ (v = -1 ∧ V f n < V g n) ∨ (v = 1 ∧ V g n < V f n)) := by
    refine ⟨rfl, ?_⟩
    rcases hv with ⟨h1, h2⟩ | ⟨k, hk, h2, h3⟩
    · exact Or.inl ⟨h1, V_congr h2⟩
    · have n1 := nn_dg nf hk
      have n2 := nn_dg ng hk
      rcases h3 with ⟨h3, h4⟩ | ⟨h3, h4⟩
      · exact Or.inr (Or.inl ⟨h3, V_less hk h2 (by rw [i_lt] at h4; omega)⟩)
      · exact Or.inr (Or.inr ⟨h3, V_less hk (fun j a b => (h2 j a b).symm) (by rw [i_lt] at h4; omega)⟩)
  rcases hpc with rfl | rfl
  · exact r_iret C hM hS hp dX1_compare_32
  · exact r_iret C hM hS hp dX1_compare_40
set_option maxRecDepth 100000 in
theorem lp_combine {M : xM} {out one other n : Nat} {f0 f1 f2 : Nat → Int32} {sg : Int32} {σ : Int} (C : xC p s m args meth c cX1_combine 7 ret RX1 wsX1_combine D vwCl (xT kA) N0) (h0 : M out = some (xI (kA 0) n f0)) (h1 : M one = some (xI (kA 0) n f1)) (h2 : M other = some (xI (kA 0) n f2)) (n1 : nn f1 n) (n2 : nn f2 n) (hσ : sg.toInt = σ) (hs : σ = 1 ∨ σ = -1) (hn : n < 2 ^ 31)
    (hexit : ∀ (f : Nat → Int32) (cy : Int64) (H : Heap) (locs : List Loc) (ls : Array Slot), nn f n → (V f n : Int) + cy.toInt * ((BB ^ n : Nat) : Int) = V f1 n + σ * V f2 n → -1 ≤ cy.toInt → cy.toInt ≤ 1 → xW D vwCl N0 (xset M out (xI (kA 0) n f)) H → va_S (xA N0) s.heap H locs → lv_has ls 7 [(4, .long cy)] → W p l e R s m args below meth c H locs cells slots Q (F0 m 56 ls [])) :
    ∀ (k i : Nat) (f : Nat → Int32) (cy : Int64) (H : Heap) (locs : List Loc) (ls : Array Slot), i + k = n → (∀ j, i ≤ j → f j = f0 j) → nn f i → (V f i : Int) + cy.toInt * ((BB ^ i : Nat) : Int) = V f1 i + σ * V f2 i → -1 ≤ cy.toInt → cy.toInt ≤ 1 → xW D vwCl N0 (xset M out (xI (kA 0) n f)) H → va_S (xA N0) s.heap H locs → lv_has ls 7 [(6, .int (nI i)), (4, .long cy), (0, .ref out), (1, .ref one), (2, .ref other), (3, .int sg)] → W p l e R s m args below meth c H locs cells slots Q (F0 m 6 ls []) := by
  obtain ⟨hx, hb, hml, hown, hts, hr, hlocks, hK, hN⟩ := id C
  intro k
  induction k with
  | zero =>
    intro i f cy H locs ls hi hf hnf hI c1 c2 hM hS hl
    refine lv_iload hx hb dX1_combine_6 (lv_at hl 0 rfl) ?_
    refine lv_aload_n hx hb dX1_combine_8 rfl (lv_at hl 2 rfl) ?_
    refine r_alen C hM (xset_s) rfl dX1_combine_9 ?_
    refine r_icmp_geN (tgt := 56) C (by omega) (by omega) dX1_combine_10 (by decide) (fun hc => ?_) (fun hc => ?_)
    · have hi : i = n := by omega
      subst hi
      exact hexit f cy H locs ls hnf hI c1 c2 hM hS (lv_sub hl [1] rfl)
    · omega
  | succ k ih =>
    intro i f cy H locs ls hi hf hnf hI c1 c2 hM hS hl
    refine lv_iload hx hb dX1_combine_6 (lv_at hl 0 rfl) ?_
    refine lv_aload_n hx hb dX1_combine_8 rfl (lv_at hl 2 rfl) ?_
    refine r_alen C hM (xset_s) rfl dX1_combine_9 ?_
    refine r_icmp_geN (tgt := 56) C (by omega) (by omega) dX1_combine_10 (by decide) (fun hc => ?_) (fun hc => ?_)
    · omega
    · obtain ⟨g1, hg1, e1⟩ := al_get h0 h1 hf
      obtain ⟨g2, hg2, e2⟩ := al_get h0 h2 hf
      refine lv_lload hx hb dX1_combine_13 (lv_at hl 1 rfl) ?_
      refine lv_aload_n hx hb dX1_combine_15 rfl (lv_at hl 3 rfl) ?_
      refine lv_iload hx hb dX1_combine_16 (lv_at hl 0 rfl) ?_
      refine r_iald C hM (hg1) rfl (by omega) (by omega) dX1_combine_18 ?_
      refine lv_i2l (v := (g1 i).toInt64) hx hb dX1_combine_19 rfl ?_
      refine lv_iload_n hx hb dX1_combine_20 rfl (lv_at hl 5 rfl) ?_
      refine lv_i2l (v := sg.toInt64) hx hb dX1_combine_21 rfl ?_
      refine lv_aload_n hx hb dX1_combine_22 rfl (lv_at hl 4 rfl) ?_
      refine lv_iload hx hb dX1_combine_23 (lv_at hl 0 rfl) ?_
      refine r_iald C hM (hg2) rfl (by omega) (by omega) dX1_combine_25 ?_
      refine lv_i2l (v := (g2 i).toInt64) hx hb dX1_combine_26 rfl ?_
      refine lv_lmul hx hb dX1_combine_27 ?_
      refine lv_ladd hx hb dX1_combine_28 ?_
      refine lv_ladd hx hb dX1_combine_29 ?_
      refine lv_topl (fun v_1 ev_1 => ?_)
      refine lv_lstore (lv' := [(4, .long v_1), (6, .int (nI i)), (0, .ref out), (1, .ref one), (2, .ref other), (3, .int sg)]) hx hb dX1_combine_30 hl (by decide) rfl (fun ls hl => ?_)
      refine lv_aload_n hx hb dX1_combine_32 rfl (lv_at hl 2 rfl) ?_
      refine lv_iload hx hb dX1_combine_33 (lv_at hl 1 rfl) ?_
      refine lv_lload hx hb dX1_combine_35 (lv_at hl 0 rfl) ?_
      refine lv_ldc2 (v := 2147483647) hx hb hown (hts (.constantLong RX1 33 (2147483647)) (by decide +kernel)) dX1_combine_37 ?_
      refine lv_land hx hb dX1_combine_40 ?_
      refine lv_l2i (v := (v_1 &&& 2147483647).toInt32) hx hb dX1_combine_41 rfl ?_
      refine r_iast C hM hS (xset_s) rfl (by omega) (by omega) dX1_combine_42 (fun H locs hM hS => ?_)
      rw [xset_xset] at hM
      refine lv_lload hx hb dX1_combine_43 (lv_at hl 0 rfl) ?_
      refine lv_bipush (v := nI 31) hx hb dX1_combine_45 (by decide) ?_
      refine lv_lshr (v := v_1 >>> ((nI 31).toInt64 &&& 63)) hx hb dX1_combine_47 rfl ?_
      refine lv_topl (fun v_2 ev_2 => ?_)
      refine lv_lstore (lv' := [(4, .long v_2), (6, .int (nI i)), (0, .ref out), (1, .ref one), (2, .ref other), (3, .int sg)]) hx hb dX1_combine_48 hl (by decide) rfl (fun ls hl => ?_)
      refine lv_iinc (v := nI (i + 1)) (lv' := [(6, .int (nI (i + 1))), (4, .long v_2), (0, .ref out), (1, .ref one), (2, .ref other), (3, .int sg)]) hx hb dX1_combine_50 hl (k := 1) rfl (r_inc _) (by decide) rfl (fun ls hl => ?_)
      refine lv_goto (tgt := 6) hx hb dX1_combine_53 (by decide) ?_
      have hv1 := cmb_v (x := g1 i) (y := g2 i) hσ hs c1 c2
      rw [← ev_1] at hv1
      have hv2 := cmb_c v_1
      rw [← ev_2] at hv2
      have ho := cmb_o v_1
      rw [e1 i (Nat.le_refl i), e2 i (Nat.le_refl i)] at hv1
      have d1 := nn_dg n1 (show i < n by omega)
      have d2 := nn_dg n2 (show i < n by omega)
      have l1 := dg_lt (f1 i)
      have l2 := dg_lt (f2 i)
      have hB : BB = 2147483648 := rfl
      have hT : v_1.toInt = cy.toInt + ((dg (f1 i) : Int) + σ * (dg (f2 i) : Int)) := by rw [hv1, d1, d2]
      have hst := cmb_step (d1 := dg (f1 i)) (d2 := dg (f2 i)) hI hT
      refine ih (i + 1) (upd f i ((v_1 &&& 2147483647).toInt32)) v_2 H locs ls (by omega) (fun j hj => ?_) (fun j hj => ?_) ?_ ?_ ?_ hM hS (lv_sub hl [0, 1, 2, 3, 4, 5] rfl)
      · rw [pk_un (by omega)]
        exact hf j (by omega)
      · by_cases hq : j = i
        · rw [hq, pk_us, ho]
          omega
        · rw [pk_un hq]
          exact hnf j (by omega)
      · rw [V_upd, V_s, V_s, Nat.pow_succ, hv2]
        have : dg ((v_1 &&& 2147483647).toInt32) = (v_1.toInt % 2147483648).toNat := by
          unfold dg
          rw [ho]
        rw [this]
        exact hst
      · rw [hv2]
        rcases hs with h | h <;> rw [h] at hT <;> omega
      · rw [hv2]
        rcases hs with h | h <;> rw [h] at hT <;> omega
set_option maxRecDepth 100000 in
theorem c_combine (l : Launch) (D : va_G) (kA : Nat → ClassId) (N0 : Nat) (M : xM) (out one other n : Nat) (f0 f1 f2 : Nat → Int32) (sg : Int32) (σ : Int) (h0 : M out = some (xI (kA 0) n f0)) (h1 : M one = some (xI (kA 0) n f1)) (h2 : M other = some (xI (kA 0) n f2)) (n1 : nn f1 n) (n2 : nn f2 n) (hσ : sg.toInt = σ) (hs : σ = 1 ∨ σ = -1) (hn : n < 2 ^ 31) : cJ l yX1_combine wsX1_combine (xR 0) [.ref out, .ref one, .ref other, .int sg] D kA N0 M (fun r M1 => ∃ f, M1 = xset M out (xI (kA 0) n f) ∧ nn f n ∧ (V f n : Int) + r.toInt * ((BB ^ n : Nat) : Int) = V f1 n + σ * V f2 n ∧ -1 ≤ r.toInt ∧ r.toInt ≤ 1) := by
  refine r_met (cc := cX1_combine) (maxL := 7) (ret := (some .long)) (by decide) rfl (Nat.le_of_ble_eq_true rfl) ?_
  intro p e s m below meth c ls C hM hnm hl
  obtain ⟨hx, hb, hml, hown, hts, hr, hlocks, hK, hN⟩ := id C
  have hS : va_S (xA N0) s.heap s.heap [] := va_S.rf
  have hl : lv_has ls 7 [(0, .ref out), (1, .ref one), (2, .ref other), (3, .int sg)] := hl
  refine lv_lconst (v := 0) hx hb dX1_combine_0 (by decide) ?_
  refine lv_lstore (lv' := [(4, .long 0), (0, .ref out), (1, .ref one), (2, .ref other), (3, .int sg)]) hx hb dX1_combine_1 hl (by decide) rfl (fun ls hl => ?_)
  refine lv_iconst (v := nI 0) hx hb dX1_combine_3 (by decide) ?_
  refine lv_istore (lv' := [(6, .int (nI 0)), (4, .long 0), (0, .ref out), (1, .ref one), (2, .ref other), (3, .int sg)]) hx hb dX1_combine_4 hl (by decide) rfl (fun ls hl => ?_)
  have hM' : xW D vwCl N0 (xset M out (xI (kA 0) n f0)) s.heap := by rw [xset_id h0]; exact hM
  refine lp_combine C h0 h1 h2 n1 n2 hσ hs hn (fun f cy H locs ls hnf hI c1 c2 hM hS hl => ?_) n 0 f0 0 s.heap [] ls (by omega) (fun j hj => rfl) (fun j hj => by omega) (by simp [V_0]) (by decide) (by decide) hM' hS (lv_sub hl [0, 1, 2, 3, 4, 5] rfl)
  refine lv_lload hx hb dX1_combine_56 (lv_at hl 0 rfl) ?_
  exact r_lret C hM hS (⟨f, rfl, hnf, hI, c1, c2⟩) dX1_combine_58
end N2
end
section
/-! ===== lN n to 2^64: shifts, and, or, masks, one bit ===== -/
theorem wb_tb (n : Nat) : (lN n).toBitVec = BitVec.ofNat 64 n := rfl
theorem wb_inj {a b : Int64} (h : a.toBitVec = b.toBitVec) : a = b := Int64.toBitVec_inj.mp h
theorem wb_tn {n : Nat} (h : n < 2 ^ 64) : (lN n).toBitVec.toNat = n := by rw [wb_tb, BitVec.toNat_ofNat, Nat.mod_eq_of_lt h]
theorem wb_of (x : Int64) : ∃ n, n < 2 ^ 64 ∧ x = lN n := ⟨x.toBitVec.toNat, x.toBitVec.isLt, wb_inj (by rw [wb_tb]; simp)⟩
theorem wb_of32 (x : Int32) : ∃ n, n < 2 ^ 32 ∧ x = nI n := ⟨x.toBitVec.toNat, x.toBitVec.isLt, Int32.toBitVec_inj.mp (by show _ = BitVec.ofNat 32 _; simp)⟩
theorem wb_c : ∀ k, k < 64 → ((nI k).toInt64 &&& 63) = lN k := by decide +kernel
theorem wb_cu : ∀ k, k < 64 → ((nI k).toInt64.toUInt64 &&& Int64.toUInt64 63) = UInt64.ofNat k := by decide +kernel
theorem wb_sm : ∀ k, k < 64 → (BitVec.ofNat 64 k).smod 64 = BitVec.ofNat 64 k := by decide +kernel
theorem wb_pw {a b : Nat} (h : a ≤ b) : 2 ^ b = 2 ^ a * 2 ^ (b - a) := by rw [← Nat.pow_add]; congr 1; omega
theorem wb_lt2 {a b : Nat} (h : a < b) : 2 ^ a < 2 ^ b := Nat.pow_lt_pow_right (by decide) h
theorem wb_mod (n : Nat) : lN n = lN (n % 2 ^ 64) := wb_inj (by rw [wb_tb, wb_tb]; apply BitVec.eq_of_toNat_eq; rw [BitVec.toNat_ofNat, BitVec.toNat_ofNat, Nat.mod_mod])
theorem wb_shr {n k : Nat} (hn : n < 2 ^ 64) (hk : k < 64) : ((lN n).toUInt64 >>> ((nI k).toInt64.toUInt64 &&& Int64.toUInt64 63)).toInt64 = lN (n / 2 ^ k) := by
  rw [wb_cu k hk]
  apply wb_inj
  apply BitVec.eq_of_toNat_eq
  show ((lN n).toUInt64 >>> UInt64.ofNat k).toNat = (BitVec.ofNat 64 _).toNat
  have h1 : (UInt64.ofNat k).toNat = k := by
    show (BitVec.ofNat 64 k).toNat = k
    rw [BitVec.toNat_ofNat, Nat.mod_eq_of_lt (by omega)]
  have h2 : (lN n).toUInt64.toNat = n := wb_tn hn
  rw [UInt64.toNat_shiftRight, h1, h2, Nat.mod_eq_of_lt hk, Nat.shiftRight_eq_div_pow, BitVec.toNat_ofNat, Nat.mod_eq_of_lt (Nat.lt_of_le_of_lt (Nat.div_le_self _ _) hn)]
theorem wb_shl (n : Nat) {k : Nat} (hk : k < 64) : lN n <<< ((nI k).toInt64 &&& 63) = lN (n * 2 ^ k) := by
  rw [wb_c k hk]
  apply wb_inj
  rw [Int64.toBitVec_shiftLeft, wb_tb, wb_tb, wb_tb, wb_sm k hk]
  apply BitVec.eq_of_toNat_eq
  rw [BitVec.shiftLeft_eq', BitVec.toNat_shiftLeft, BitVec.toNat_ofNat, BitVec.toNat_ofNat, BitVec.toNat_ofNat, Nat.mod_eq_of_lt (show k < 2 ^ 64 by omega), Nat.shiftLeft_eq, Nat.mul_mod, Nat.mod_mod, ← Nat.mul_mod]
theorem wb_and {a b : Nat} (ha : a < 2 ^ 64) (hb : b < 2 ^ 64) : lN a &&& lN b = lN (a &&& b) := by
  apply wb_inj
  rw [Int64.toBitVec_and, wb_tb, wb_tb, wb_tb]
  apply BitVec.eq_of_toNat_eq
  rw [BitVec.toNat_and, BitVec.toNat_ofNat, BitVec.toNat_ofNat, BitVec.toNat_ofNat, Nat.mod_eq_of_lt ha, Nat.mod_eq_of_lt hb, Nat.mod_eq_of_lt (Nat.and_lt_two_pow _ hb)]
theorem wb_or {a b : Nat} (ha : a < 2 ^ 64) (hb : b < 2 ^ 64) : lN a ||| lN b = lN (a ||| b) := by
  apply wb_inj
  rw [Int64.toBitVec_or, wb_tb, wb_tb, wb_tb]
  apply BitVec.eq_of_toNat_eq
  rw [BitVec.toNat_or, BitVec.toNat_ofNat, BitVec.toNat_ofNat, BitVec.toNat_ofNat, Nat.mod_eq_of_lt ha, Nat.mod_eq_of_lt hb, Nat.mod_eq_of_lt (Nat.or_lt_two_pow ha hb)]
theorem wb_mask {n k : Nat} (hn : n < 2 ^ 64) (hk : k < 64) : lN n &&& lN (2 ^ k - 1) = lN (n % 2 ^ k) := by
  rw [wb_and hn (by have := wb_lt2 hk; omega), Nat.and_two_pow_sub_one_eq_mod]
theorem wb_a1 {n : Nat} (hn : n < 2 ^ 64) : lN n &&& 1 = lN (n % 2) := wb_mask (k := 1) hn (by decide)
theorem lN_mod64 (n : Nat) (h : n < 2 ^ 63) : (lN n).toInt = (n : Int) := pk_lT h
/-- two limbs side by side, shifted right by k, one limb of it -/
theorem pair_val {hi lo k : Nat} (h1 : hi < BB) (h2 : lo < BB) (hk : k < 64) : ((((lN hi <<< ((nI 31).toInt64 &&& 63)) ||| lN lo).toUInt64 >>> ((nI k).toInt64.toUInt64 &&& Int64.toUInt64 63)).toInt64 &&& 2147483647).toInt32 = nI ((hi * BB + lo) / 2 ^ k % BB) := by
  have hB : BB = 2147483648 := rfl
  rw [wb_shl hi (by decide), wb_or (by omega) (by omega)]
  have e1 : hi * 2 ^ 31 ||| lo = hi * BB + lo := by
    have := Nat.shiftLeft_add_eq_or_of_lt (i := 31) (b := lo) (by omega) hi
    rw [Nat.shiftLeft_eq] at this
    exact this.symm
  have h9 : hi * BB + lo < 2 ^ 64 := by rw [hB] at h1 h2 ⊢; omega
  rw [e1, wb_shr h9 hk]
  have e2 : (2147483647 : Int64) = lN (2 ^ 31 - 1) := by decide
  have h3 : (hi * BB + lo) / 2 ^ k < 2 ^ 64 := Nat.lt_of_le_of_lt (Nat.div_le_self _ _) h9
  rw [e2, wb_mask h3 (by decide), lN_i]
  rfl
theorem i2l_dg {x : Int32} (h : 0 ≤ x.toInt) : x.toInt64 = lN (dg x) := by
  apply l_eqI
  have := dg_lt x
  have hB : BB = 2147483648 := rfl
  rw [l_i2l rfl, pk_lT (by omega), dg_int h]
theorem nI_dg {x : Int32} (h : 0 ≤ x.toInt) : x = nI (dg x) := i_nI (by rw [dg_int h])
theorem dg_nI {n : Nat} (h : n < 2147483648) : dg (nI n) = n := by
  unfold dg
  rw [nI_toInt (by omega)]
  rfl
-- how many bits
theorem bl_top {lo d k : Nat} (hd : 0 < d) (hl : lo < BB ^ k) : bl (lo + d * BB ^ k) = 31 * k + bl d := by
  have a := bl_hi d
  have b := bl_lo hd
  have c := bl_pos hd
  obtain ⟨j, hj⟩ : ∃ j, bl d = j + 1 := ⟨bl d - 1, by omega⟩
  rw [hj] at a b ⊢
  rw [Nat.add_sub_cancel] at b
  rw [BB_two] at hl ⊢
  rw [← Nat.add_assoc]
  apply bl_of
  · rw [Nat.pow_add, Nat.mul_comm]
    have : 2 ^ j * 2 ^ (31 * k) ≤ d * 2 ^ (31 * k) := Nat.mul_le_mul_right _ b
    omega
  · have h1 : (d + 1) * 2 ^ (31 * k) ≤ 2 ^ (j + 1) * 2 ^ (31 * k) := Nat.mul_le_mul_right _ a
    rw [Nat.add_mul, Nat.one_mul, ← Nat.pow_add] at h1
    have e : 31 * k + j + 1 = j + 1 + 31 * k := by omega
    rw [e]
    omega
theorem bl_div {a k : Nat} (h : 2 ^ k ≤ a) : bl (a / 2 ^ k) = bl a - k := by
  have hp := Nat.two_pow_pos k
  have ha : 0 < a := by omega
  have h1 := bl_hi a
  have h2 := bl_lo ha
  have h3 := bl_pos ha
  have hk : k < bl a := (Nat.pow_lt_pow_iff_right (by decide : 1 < 2)).mp (Nat.lt_of_le_of_lt h h1)
  obtain ⟨j, hj⟩ : ∃ j, bl a = k + (j + 1) := ⟨bl a - k - 1, by omega⟩
  rw [hj] at h1 h2 ⊢
  have e : k + (j + 1) - k = j + 1 := by omega
  rw [e]
  apply bl_of
  · rw [Nat.le_div_iff_mul_le hp, ← Nat.pow_add]
    have e2 : k + (j + 1) - 1 = j + k := by omega
    rw [e2] at h2
    exact h2
  · rw [Nat.div_lt_iff_lt_mul hp, ← Nat.pow_add, Nat.add_comm (j + 1) k]
    exact h1
theorem bl_small {a : Nat} (h : 0 < a) (h4 : a < 4) : bl a = 1 + a / 2 := by
  have : a = 1 ∨ a = 2 ∨ a = 3 := by omega
  rcases this with rfl | rfl | rfl <;> decide
/-- a row whose highest limb that isn't 0 stands at place k - 1 -/
theorem bl_row {f : Nat → Int32} {n k : Nat} (hk : 0 < k) (hkn : k ≤ n) (hz : ∀ j, k ≤ j → j < n → f j = 0) (ht : 0 < dg (f (k - 1))) : bl (V f n) = 31 * (k - 1) + bl (dg (f (k - 1))) := by
  obtain ⟨j, rfl⟩ : ∃ j, k = j + 1 := ⟨k - 1, by omega⟩
  rw [V_top hkn hz, V_s, Nat.add_sub_cancel]
  exact bl_top ht (V_lt f j)
section RCOPY
variable {p : Program} {l : Launch} {e : Env} {R : Room} {s : State} {m : MethodId} {args : Array Value} {below : List Frame} {meth : Method} {c : Code} {H : Heap} {locs : List Loc} {cells slots : Nat} {Q : State → Prop}
variable {cc : ByteArray} {pc nL : Nat} {ret : Option FieldType} {own : String} {Ts : List Cond} {ls : Array Slot} {rest : List Value} {D : va_G} {cl : List vw_C} {a : Nat} {tys : List (ClassId × FieldType)} {N0 : Nat} {M : xM}
theorem r_copy (C : xC p s m args meth c cc nL ret own Ts D cl tys N0) (hM : xW D cl N0 M H) (hS : va_S (xA N0) s.heap H locs) {a0 : Nat} {cA : ClassId} {n0 n1 : Nat} {f g : Nat → Int32} (ha0 : M a0 = some (xI cA n0 f)) (ha : M a = some (xI cA n1 g)) (ht : tys[0]? = some (cA, .int)) {sp dp n index : Nat} (h4 : sp + n ≤ n0) (h5 : dp + n ≤ n1) (h6 : n0 < 2 ^ 31) (h7 : n1 < 2 ^ 31)
    (hlink : (Cond.methodLink own index arraycopyName).before args s = true) (hnat : (Cond.native arraycopyName).before args s = true) (hstat : (Cond.static arraycopyName).before args s = true) (hini : (Cond.initialized "java/lang/System").before args s = true) (hl : ls.size = nL) (hframes : 1 ≤ R.frames) (hlocals : (rest.map fun v => v.category).sum + (nativeFrameWords "java/lang/System" "arraycopy" 5 + 11) ≤ R.locals) (hdg : decode cc pc = .ok (.invokestatic index, 3))
    (kk : ∀ (H1 : Heap) (locs1 : List Loc), xW D cl N0 (xset M a (xI cA n1 (va_cpy f g sp dp n))) H1 → va_S (xA N0) s.heap H1 locs1 → W p l e R s m args below meth c H1 locs1 cells slots Q (F0 m (pc + 3) ls rest)) : W p l e R s m args below meth c H locs cells slots Q (F0 m pc ls (.int (nI n) :: .int (nI dp) :: .ref a :: .int (nI sp) :: .ref a0 :: rest)) := by
  obtain ⟨hx, hb, hml, hown, hts, hr, hlocks, hK, hN⟩ := C
  obtain ⟨ws, hP, hD, hm⟩ := hM
  obtain ⟨k0, hk0⟩ := (hm a0 _).mp ha0
  obtain ⟨k, hk⟩ := (hm a _).mp ha
  have e1 : (nI n).toNatClampNeg = n := nI_clamp (by omega)
  have e2 : (nI sp).toNatClampNeg = sp := nI_clamp (by omega)
  have e3 : (nI dp).toNatClampNeg = dp := nI_clamp (by omega)
  refine va_copyi hx hb (hml.trans hl.symm) hown hlink hnat hstat hini hK hP hD hS k0 k 0 0 hk0 hk ht ht rfl (nI_pos (by omega)) (nI_pos (by omega)) (nI_pos (by omega)) (by rw [e1, e2]; exact h4) (by rw [e1, e3]; exact h5) (fun i _ => rfl) hframes hlocals hdg (fun H1 locs1 hP1 hD1 hS1 => ?_)
  rw [e1, e2, e3] at hP1 hD1
  exact kk H1 locs1 (xW.put hD hm hk hP1 hD1) hS1
end RCOPY
end
section
section N3
variable {p : Program} {l : Launch} {e : Env} {R : Room} {s : State} {m : MethodId} {args : Array Value} {below : List Frame} {meth : Method} {c : Code} {Q : State → Prop} {cells slots : Nat} {ret : Option FieldType} {D : va_G} {kA : Nat → ClassId} {N0 : Nat} {H : Heap} {locs : List Loc}
set_option maxRecDepth 100000 in
theorem c_set (l : Launch) (D : va_G) (kA : Nat → ClassId) (N0 : Nat) (M : xM) (row n : Nat) (f0 : Nat → Int32) (v : Int32) (ha : M row = some (xI (kA 0) n f0)) (h0 : 0 < n) (hn : n < 2 ^ 31) : cV l yX1_set wsX1_set (xR 1) [.ref row, .int v] D kA N0 M (fun M1 => ∃ f, M1 = xset M row (xI (kA 0) n f) ∧ f 0 = v ∧ ∀ j, 0 < j → j < n → f j = 0) := by
  refine r_met (cc := cX1_set) (maxL := 2) (ret := none) (by decide) rfl (Nat.le_of_ble_eq_true rfl) ?_
  intro p e s m below meth c ls C hM hnm hl
  obtain ⟨hx, hb, hml, hown, hts, hr, hlocks, hK, hN⟩ := id C
  have hS : va_S (xA N0) s.heap s.heap [] := va_S.rf
  have hl : lv_has ls 2 [(0, .ref row), (1, .int v)] := hl
  refine lv_aload_n hx hb dX1_set_0 rfl (lv_at hl 0 rfl) ?_
  refine lv_iconst (v := nI 0) hx hb dX1_set_1 (by decide) ?_
  refine r_Sv (As := [.ref row, .int (nI 0)]) (rest := []) C hM hS (c_fill l D kA N0 M row n f0 (nI 0) ha hn) gX1_set_J7_fill_53178 rfl rfl rfl ⟨by decide +kernel, by decide +kernel, (by decide +kernel : (parseMethodDescriptor yJ7_fill_53178.desc).map (fun d => d.parameters.length) = some 2)⟩ ⟨Nat.le_of_ble_eq_true rfl, Nat.le_of_ble_eq_true rfl⟩ hl.1 rfl (Nat.le_of_ble_eq_true rfl) dX1_set_2 ⟨Nat.le_of_ble_eq_true rfl, Nat.le_of_ble_eq_true rfl⟩ (fun M1 H locs hp hM hS => ?_)
  obtain ⟨f, rfl, hf⟩ := hp
  refine lv_aload_n hx hb dX1_set_5 rfl (lv_at hl 0 rfl) ?_
  refine lv_iconst (v := nI 0) hx hb dX1_set_6 (by decide) ?_
  refine lv_iload_n hx hb dX1_set_7 rfl (lv_at hl 1 rfl) ?_
  refine r_iast C hM hS (xset_s) rfl (by omega) (by omega) dX1_set_8 (fun H locs hM hS => ?_)
  rw [xset_xset] at hM
  exact r_vret C hM hS (⟨upd f 0 v, rfl, pk_us, fun j h1 h2 => by rw [pk_un (by omega)]; exact hf j h2⟩) dX1_set_9
set_option maxRecDepth 100000 in
theorem c_copy (l : Launch) (D : va_G) (kA : Nat → ClassId) (N0 : Nat) (M : xM) (to frm n : Nat) (f g : Nat → Int32) (ha : M to = some (xI (kA 0) n f)) (hg : M frm = some (xI (kA 0) n g)) (hn : n < 2 ^ 31) : cV l yX1_copy wsX1_copy (xR 1) [.ref to, .ref frm] D kA N0 M (fun M1 => ∃ f', M1 = xset M to (xI (kA 0) n f') ∧ ∀ j, j < n → f' j = g j) := by
  refine r_met (cc := cX1_copy) (maxL := 2) (ret := none) (by decide) rfl (Nat.le_of_ble_eq_true rfl) ?_
  intro p e s m below meth c ls C hM hnm hl
  obtain ⟨hx, hb, hml, hown, hts, hr, hlocks, hK, hN⟩ := id C
  have hS : va_S (xA N0) s.heap s.heap [] := va_S.rf
  have hl : lv_has ls 2 [(0, .ref to), (1, .ref frm)] := hl
  refine lv_aload_n hx hb dX1_copy_0 rfl (lv_at hl 1 rfl) ?_
  refine lv_iconst (v := nI 0) hx hb dX1_copy_1 (by decide) ?_
  refine lv_aload_n hx hb dX1_copy_2 rfl (lv_at hl 0 rfl) ?_
  refine lv_iconst (v := nI 0) hx hb dX1_copy_3 (by decide) ?_
  refine lv_aload_n hx hb dX1_copy_4 rfl (lv_at hl 0 rfl) ?_
  refine r_alen C hM (ha) rfl dX1_copy_5 ?_
  refine r_copy (rest := []) C hM hS (hg) (ha) rfl (by omega) (by omega) (by omega) (by omega) (hts (.methodLink RX1 15 arraycopyName) (by decide +kernel)) (hts (.native arraycopyName) (by decide +kernel)) (hts (.static arraycopyName) (by decide +kernel)) (hts (.initialized "java/lang/System") (by decide +kernel)) hl.1 (Nat.le_of_ble_eq_true rfl) (by decide) dX1_copy_6 (fun H locs hM hS => ?_)
  exact r_vret C hM hS (⟨_, rfl, fun j hj => by rw [pk_cpy_in (by omega) (by omega)]; simp⟩) dX1_copy_9
/-- what sizeOf tells of the number -/
theorem size_V {f : Nat → Int32} {n k : Nat} (nf : nn f n) (hk : k ≤ n) (hz : ∀ j, k ≤ j → j < n → f j = 0) (hp : 0 < k → f (k - 1) ≠ 0) : (k = 0 ↔ V f n = 0) ∧ (0 < k → 0 < dg (f (k - 1))) := by
  have ht : 0 < k → 0 < dg (f (k - 1)) := by
    intro h
    have h1 := nn_dg nf (show k - 1 < n by omega)
    rcases Nat.eq_zero_or_pos (dg (f (k - 1))) with h2 | h2
    · exact absurd (i_eqI (by rw [← h1, h2]; rfl)) (hp h)
    · exact h2
  refine ⟨⟨fun h => ?_, fun h => ?_⟩, ht⟩
  · subst h
    exact V_zero (fun j hj => hz j (by omega) hj)
  · rcases Nat.eq_zero_or_pos k with h1 | h1
    · exact h1
    · have h2 := V_pos (f := f) (show k - 1 < n by omega) (ht h1)
      have h3 := BBp (k - 1)
      omega
set_option maxRecDepth 100000 in
theorem c_isZero (l : Launch) (D : va_G) (kA : Nat → ClassId) (N0 : Nat) (M : xM) (row n : Nat) (f : Nat → Int32) (ha : M row = some (xI (kA 0) n f)) (nf : nn f n) (hn : n < 2 ^ 31) : cI l yX1_isZero wsX1_isZero (xR 1) [.ref row] D kA N0 M (fun r M1 => M1 = M ∧ ((r = 1 ∧ V f n = 0) ∨ (r = 0 ∧ 0 < V f n))) := by
  refine r_met (cc := cX1_isZero) (maxL := 1) (ret := (some .boolean)) (by decide) rfl (Nat.le_of_ble_eq_true rfl) ?_
  intro p e s m below meth c ls C hM hnm hl
  obtain ⟨hx, hb, hml, hown, hts, hr, hlocks, hK, hN⟩ := id C
  have hS : va_S (xA N0) s.heap s.heap [] := va_S.rf
  have hl : lv_has ls 1 [(0, .ref row)] := hl
  refine lv_aload_n hx hb dX1_isZero_0 rfl (lv_at hl 0 rfl) ?_
  refine r_Si (As := [.ref row]) (rest := []) C hM hS (c_sizeOf l D kA N0 M row n f ha hn) gX1_isZero_X1_sizeOf rfl rfl rfl ⟨by decide +kernel, by decide +kernel, (by decide +kernel : (parseMethodDescriptor yX1_sizeOf.desc).map (fun d => d.parameters.length) = some 1)⟩ ⟨Nat.le_of_ble_eq_true rfl, Nat.le_of_ble_eq_true rfl⟩ hl.1 rfl (Nat.le_of_ble_eq_true rfl) dX1_isZero_1 ⟨Nat.le_of_ble_eq_true rfl, Nat.le_of_ble_eq_true rfl⟩ (fun r M1 H locs hp hM hS => ?_)
  obtain ⟨eM, k, rfl, hk, hz, hp⟩ := hp
  rw [eM] at hM
  have hV := size_V nf hk hz hp
  refine r_if_neN (tgt := 11) C (by omega) dX1_isZero_4 (by decide) (fun hc => ?_) (fun hc => ?_)
  · refine lv_iconst (v := nI 0) hx hb dX1_isZero_11 (by decide) ?_
    exact r_zret C hM hS rfl (⟨rfl, Or.inr ⟨rfl, by have := hV.1; omega⟩⟩) dX1_isZero_12
  · refine lv_iconst (v := nI 1) hx hb dX1_isZero_7 (by decide) ?_
    refine lv_goto (tgt := 12) hx hb dX1_isZero_8 (by decide) ?_
    exact r_zret C hM hS rfl (⟨rfl, Or.inl ⟨rfl, hV.1.mp hc⟩⟩) dX1_isZero_12
-- Integer.numberOfLeadingZeros
set_option maxRecDepth 100000 in
theorem nlz_73 (C : xC p s m args meth c cJ6_numberOfLeadingZeros_0f7a4 2 ret RJ6 wsJ6_numberOfLeadingZeros_0f7a4 D vwCl (xT kA) N0) {a n : Nat} {ls : Array Slot} (ha : 0 < a) (ha4 : a < 4) (hn : 1 ≤ n) (hn2 : n < 100) (hl : lv_has ls 2 [(0, .int (nI a)), (1, .int (nI n))])
    (hexit : ∀ ls, W p l e R s m args below meth c H locs cells slots Q (F0 m 78 ls [.int (nI (n + 1 - bl a))])) : W p l e R s m args below meth c H locs cells slots Q (F0 m 73 ls []) := by
  obtain ⟨hx, hb, hml, hown, hts, hr, hlocks, hK, hN⟩ := id C
  refine lv_iload_n hx hb dJ6_numberOfLeadingZeros_0f7a4_73 rfl (lv_at hl 1 rfl) ?_
  refine lv_iload_n hx hb dJ6_numberOfLeadingZeros_0f7a4_74 rfl (lv_at hl 0 rfl) ?_
  refine lv_iconst (v := nI 1) hx hb dJ6_numberOfLeadingZeros_0f7a4_75 (by decide) ?_
  refine lv_iushr (v := ((nI a).toUInt32 >>> ((nI 1).toUInt32 &&& Int32.toUInt32 31)).toInt32) hx hb dJ6_numberOfLeadingZeros_0f7a4_76 rfl ?_
  refine r_topi C (nI (a / 2)) (pk_ushrN (by omega) _ 1 (by decide)) ?_
  refine r_isubN C (by omega) dJ6_numberOfLeadingZeros_0f7a4_77 ?_
  have e : n - a / 2 = n + 1 - bl a := by rw [bl_small ha ha4]; omega
  rw [e]
  exact hexit ls
set_option maxRecDepth 100000 in
theorem nlz_61 (C : xC p s m args meth c cJ6_numberOfLeadingZeros_0f7a4 2 ret RJ6 wsJ6_numberOfLeadingZeros_0f7a4 D vwCl (xT kA) N0) {a n : Nat} {ls : Array Slot} (ha : 0 < a) (ha4 : a < 16) (hn : 3 ≤ n) (hn2 : n < 100) (hl : lv_has ls 2 [(0, .int (nI a)), (1, .int (nI n))])
    (hexit : ∀ ls, W p l e R s m args below meth c H locs cells slots Q (F0 m 78 ls [.int (nI (n + 1 - bl a))])) : W p l e R s m args below meth c H locs cells slots Q (F0 m 61 ls []) := by
  obtain ⟨hx, hb, hml, hown, hts, hr, hlocks, hK, hN⟩ := id C
  refine lv_iload_n hx hb dJ6_numberOfLeadingZeros_0f7a4_61 rfl (lv_at hl 0 rfl) ?_
  refine lv_iconst (v := nI 4) hx hb dJ6_numberOfLeadingZeros_0f7a4_62 (by decide) ?_
  refine r_icmp_ltN (tgt := 73) C (by omega) (by omega) dJ6_numberOfLeadingZeros_0f7a4_63 (by decide) (fun hc => ?_) (fun hc => ?_)
  · exact nlz_73 C ha hc (by omega) hn2 hl hexit
  · refine lv_iinc (v := nI (n - 2)) (lv' := [(1, .int (nI (n - 2))), (0, .int (nI a))]) hx hb dJ6_numberOfLeadingZeros_0f7a4_66 hl (k := 1) rfl (r_decN (k := 2) (by decide) (by omega)) (by decide) rfl (fun ls hl => ?_)
    refine lv_iload_n hx hb dJ6_numberOfLeadingZeros_0f7a4_69 rfl (lv_at hl 1 rfl) ?_
    refine lv_iconst (v := nI 2) hx hb dJ6_numberOfLeadingZeros_0f7a4_70 (by decide) ?_
    refine lv_iushr (v := ((nI a).toUInt32 >>> ((nI 2).toUInt32 &&& Int32.toUInt32 31)).toInt32) hx hb dJ6_numberOfLeadingZeros_0f7a4_71 rfl ?_
    refine r_topi C (nI (a / 4)) (pk_ushrN (by omega) _ 2 (by decide)) ?_
    refine lv_istore_n (lv' := [(0, .int (nI (a / 4))), (1, .int (nI (n - 2)))]) hx hb dJ6_numberOfLeadingZeros_0f7a4_72 rfl hl (by decide) rfl (fun ls hl => ?_)
    have e1 : a / 4 = a / 2 ^ 2 := rfl
    have e2 := bl_div (a := a) (k := 2) hc
    have e3 : 0 < a / 4 := by omega
    have e4 := bl_lo ha
    have e5 : n - 2 + 1 - bl (a / 4) = n + 1 - bl a := by
      rw [e1, e2]
      have h1 : 2 ^ 2 < 2 ^ bl a := Nat.lt_of_le_of_lt hc (bl_hi a)
      have h2 : 2 < bl a := (Nat.pow_lt_pow_iff_right (by decide : 1 < 2)).mp h1
      omega
    exact nlz_73 C e3 (by omega) (by omega) (by omega) (lv_sub hl [0, 1] rfl) (fun ls => by rw [e5]; exact hexit ls)
set_option maxRecDepth 100000 in
theorem nlz_48 (C : xC p s m args meth c cJ6_numberOfLeadingZeros_0f7a4 2 ret RJ6 wsJ6_numberOfLeadingZeros_0f7a4 D vwCl (xT kA) N0) {a n : Nat} {ls : Array Slot} (ha : 0 < a) (ha4 : a < 256) (hn : 7 ≤ n) (hn2 : n < 100) (hl : lv_has ls 2 [(0, .int (nI a)), (1, .int (nI n))])
    (hexit : ∀ ls, W p l e R s m args below meth c H locs cells slots Q (F0 m 78 ls [.int (nI (n + 1 - bl a))])) : W p l e R s m args below meth c H locs cells slots Q (F0 m 48 ls []) := by
  obtain ⟨hx, hb, hml, hown, hts, hr, hlocks, hK, hN⟩ := id C
  refine lv_iload_n hx hb dJ6_numberOfLeadingZeros_0f7a4_48 rfl (lv_at hl 0 rfl) ?_
  refine lv_bipush (v := nI 16) hx hb dJ6_numberOfLeadingZeros_0f7a4_49 (by decide) ?_
  refine r_icmp_ltN (tgt := 61) C (by omega) (by omega) dJ6_numberOfLeadingZeros_0f7a4_51 (by decide) (fun hc => ?_) (fun hc => ?_)
  · exact nlz_61 C ha hc (by omega) hn2 hl hexit
  · refine lv_iinc (v := nI (n - 4)) (lv' := [(1, .int (nI (n - 4))), (0, .int (nI a))]) hx hb dJ6_numberOfLeadingZeros_0f7a4_54 hl (k := 1) rfl (r_decN (k := 4) (by decide) (by omega)) (by decide) rfl (fun ls hl => ?_)
    refine lv_iload_n hx hb dJ6_numberOfLeadingZeros_0f7a4_57 rfl (lv_at hl 1 rfl) ?_
    refine lv_iconst (v := nI 4) hx hb dJ6_numberOfLeadingZeros_0f7a4_58 (by decide) ?_
    refine lv_iushr (v := ((nI a).toUInt32 >>> ((nI 4).toUInt32 &&& Int32.toUInt32 31)).toInt32) hx hb dJ6_numberOfLeadingZeros_0f7a4_59 rfl ?_
    refine r_topi C (nI (a / 16)) (pk_ushrN (by omega) _ 4 (by decide)) ?_
    refine lv_istore_n (lv' := [(0, .int (nI (a / 16))), (1, .int (nI (n - 4)))]) hx hb dJ6_numberOfLeadingZeros_0f7a4_60 rfl hl (by decide) rfl (fun ls hl => ?_)
    have e1 : a / 16 = a / 2 ^ 4 := rfl
    have e2 := bl_div (a := a) (k := 4) hc
    have e3 : 0 < a / 16 := by omega
    have e4 := bl_lo ha
    have e5 : n - 4 + 1 - bl (a / 16) = n + 1 - bl a := by
      rw [e1, e2]
      have h1 : 2 ^ 4 < 2 ^ bl a := Nat.lt_of_le_of_lt hc (bl_hi a)
      have h2 : 4 < bl a := (Nat.pow_lt_pow_iff_right (by decide : 1 < 2)).mp h1
      omega
    exact nlz_61 C e3 (by omega) (by omega) (by omega) (lv_sub hl [0, 1] rfl) (fun ls => by rw [e5]; exact hexit ls)
set_option maxRecDepth 100000 in
theorem nlz_33 (C : xC p s m args meth c cJ6_numberOfLeadingZeros_0f7a4 2 ret RJ6 wsJ6_numberOfLeadingZeros_0f7a4 D vwCl (xT kA) N0) {a n : Nat} {ls : Array Slot} (ha : 0 < a) (ha4 : a < 65536) (hn : 15 ≤ n) (hn2 : n < 100) (hl : lv_has ls 2 [(0, .int (nI a)), (1, .int (nI n))])
    (hexit : ∀ ls, W p l e R s m args below meth c H locs cells slots Q (F0 m 78 ls [.int (nI (n + 1 - bl a))])) : W p l e R s m args below meth c H locs cells slots Q (F0 m 33 ls []) := by
  obtain ⟨hx, hb, hml, hown, hts, hr, hlocks, hK, hN⟩ := id C
  refine lv_iload_n hx hb dJ6_numberOfLeadingZeros_0f7a4_33 rfl (lv_at hl 0 rfl) ?_
  refine lv_sipush (v := nI 256) hx hb dJ6_numberOfLeadingZeros_0f7a4_34 (by decide) ?_
  refine r_icmp_ltN (tgt := 48) C (by omega) (by omega) dJ6_numberOfLeadingZeros_0f7a4_37 (by decide) (fun hc => ?_) (fun hc => ?_)
  · exact nlz_48 C ha hc (by omega) hn2 hl hexit
  · refine lv_iinc (v := nI (n - 8)) (lv' := [(1, .int (nI (n - 8))), (0, .int (nI a))]) hx hb dJ6_numberOfLeadingZeros_0f7a4_40 hl (k := 1) rfl (r_decN (k := 8) (by decide) (by omega)) (by decide) rfl (fun ls hl => ?_)
    refine lv_iload_n hx hb dJ6_numberOfLeadingZeros_0f7a4_43 rfl (lv_at hl 1 rfl) ?_
    refine lv_bipush (v := nI 8) hx hb dJ6_numberOfLeadingZeros_0f7a4_44 (by decide) ?_
    refine lv_iushr (v := ((nI a).toUInt32 >>> ((nI 8).toUInt32 &&& Int32.toUInt32 31)).toInt32) hx hb dJ6_numberOfLeadingZeros_0f7a4_46 rfl ?_
    refine r_topi C (nI (a / 256)) (pk_ushrN (by omega) _ 8 (by decide)) ?_
    refine lv_istore_n (lv' := [(0, .int (nI (a / 256))), (1, .int (nI (n - 8)))]) hx hb dJ6_numberOfLeadingZeros_0f7a4_47 rfl hl (by decide) rfl (fun ls hl => ?_)
    have e1 : a / 256 = a / 2 ^ 8 := rfl
    have e2 := bl_div (a := a) (k := 8) hc
    have e3 : 0 < a / 256 := by omega
    have e4 := bl_lo ha
    have e5 : n - 8 + 1 - bl (a / 256) = n + 1 - bl a := by
      rw [e1, e2]
      have h1 : 2 ^ 8 < 2 ^ bl a := Nat.lt_of_le_of_lt hc (bl_hi a)
      have h2 : 8 < bl a := (Nat.pow_lt_pow_iff_right (by decide : 1 < 2)).mp h1
      omega
    exact nlz_48 C e3 (by omega) (by omega) (by omega) (lv_sub hl [0, 1] rfl) (fun ls => by rw [e5]; exact hexit ls)
set_option maxRecDepth 100000 in
theorem nlz_18 (C : xC p s m args meth c cJ6_numberOfLeadingZeros_0f7a4 2 ret RJ6 wsJ6_numberOfLeadingZeros_0f7a4 D vwCl (xT kA) N0) {a n : Nat} {ls : Array Slot} (ha : 0 < a) (ha4 : a < 2147483648) (hn : 31 ≤ n) (hn2 : n < 100) (hl : lv_has ls 2 [(0, .int (nI a)), (1, .int (nI n))])
    (hexit : ∀ ls, W p l e R s m args below meth c H locs cells slots Q (F0 m 78 ls [.int (nI (n + 1 - bl a))])) : W p l e R s m args below meth c H locs cells slots Q (F0 m 18 ls []) := by
  obtain ⟨hx, hb, hml, hown, hts, hr, hlocks, hK, hN⟩ := id C
  refine lv_iload_n hx hb dJ6_numberOfLeadingZeros_0f7a4_18 rfl (lv_at hl 0 rfl) ?_
  refine lv_ldcw (v := nI 65536) hx hb hown (hts (.constant RJ6 264 (65536)) (by decide +kernel)) dJ6_numberOfLeadingZeros_0f7a4_19 ?_
  refine r_icmp_ltN (tgt := 33) C (by omega) (by omega) dJ6_numberOfLeadingZeros_0f7a4_22 (by decide) (fun hc => ?_) (fun hc => ?_)
  · exact nlz_33 C ha hc (by omega) hn2 hl hexit
  · refine lv_iinc (v := nI (n - 16)) (lv' := [(1, .int (nI (n - 16))), (0, .int (nI a))]) hx hb dJ6_numberOfLeadingZeros_0f7a4_25 hl (k := 1) rfl (r_decN (k := 16) (by decide) (by omega)) (by decide) rfl (fun ls hl => ?_)
    refine lv_iload_n hx hb dJ6_numberOfLeadingZeros_0f7a4_28 rfl (lv_at hl 1 rfl) ?_
    refine lv_bipush (v := nI 16) hx hb dJ6_numberOfLeadingZeros_0f7a4_29 (by decide) ?_
    refine lv_iushr (v := ((nI a).toUInt32 >>> ((nI 16).toUInt32 &&& Int32.toUInt32 31)).toInt32) hx hb dJ6_numberOfLeadingZeros_0f7a4_31 rfl ?_
    refine r_topi C (nI (a / 65536)) (pk_ushrN (by omega) _ 16 (by decide)) ?_
    refine lv_istore_n (lv' := [(0, .int (nI (a / 65536))), (1, .int (nI (n - 16)))]) hx hb dJ6_numberOfLeadingZeros_0f7a4_32 rfl hl (by decide) rfl (fun ls hl => ?_)
    have e1 : a / 65536 = a / 2 ^ 16 := rfl
    have e2 := bl_div (a := a) (k := 16) hc
    have e3 : 0 < a / 65536 := by omega
    have e4 := bl_lo ha
    have e5 : n - 16 + 1 - bl (a / 65536) = n + 1 - bl a := by
      rw [e1, e2]
      have h1 : 2 ^ 16 < 2 ^ bl a := Nat.lt_of_le_of_lt hc (bl_hi a)
      have h2 : 16 < bl a := (Nat.pow_lt_pow_iff_right (by decide : 1 < 2)).mp h1
      omega
    exact nlz_33 C e3 (by omega) (by omega) (by omega) (lv_sub hl [0, 1] rfl) (fun ls => by rw [e5]; exact hexit ls)
set_option maxRecDepth 100000 in
theorem c_nlz (l : Launch) (D : va_G) (kA : Nat → ClassId) (N0 : Nat) (M : xM) (a : Nat) (h0 : 0 < a) (ha : a < 2147483648) : cI l yJ6_numberOfLeadingZeros_0f7a4 wsJ6_numberOfLeadingZeros_0f7a4 (xR 0) [.int (nI a)] D kA N0 M (fun r M1 => M1 = M ∧ r = nI (32 - bl a)) := by
  refine r_met (cc := cJ6_numberOfLeadingZeros_0f7a4) (maxL := 2) (ret := (some .int)) (by decide) rfl (Nat.le_of_ble_eq_true rfl) ?_
  intro p e s m below meth c ls C hM hnm hl
  obtain ⟨hx, hb, hml, hown, hts, hr, hlocks, hK, hN⟩ := id C
  have hS : va_S (xA N0) s.heap s.heap [] := va_S.rf
  have hl : lv_has ls 2 [(0, .int (nI a))] := hl
  refine lv_iload_n hx hb dJ6_numberOfLeadingZeros_0f7a4_0 rfl (lv_at hl 0 rfl) ?_
  refine r_if_gtN (tgt := 15) C (by omega) dJ6_numberOfLeadingZeros_0f7a4_1 (by decide) (fun hc => ?_) (fun hc => ?_)
  · refine lv_bipush (v := nI 31) hx hb dJ6_numberOfLeadingZeros_0f7a4_15 (by decide) ?_
    refine lv_istore_n (lv' := [(1, .int (nI 31)), (0, .int (nI a))]) hx hb dJ6_numberOfLeadingZeros_0f7a4_17 rfl hl (by decide) rfl (fun ls hl => ?_)
    refine nlz_18 C h0 ha (n := 31) (by omega) (by omega) (lv_sub hl [1, 0] rfl) (fun ls => ?_)
    exact r_iret C hM hS (⟨rfl, rfl⟩) dJ6_numberOfLeadingZeros_0f7a4_78
  · omega
set_option maxRecDepth 100000 in
theorem c_bitsOf (l : Launch) (D : va_G) (kA : Nat → ClassId) (N0 : Nat) (M : xM) (row n : Nat) (f : Nat → Int32) (ha : M row = some (xI (kA 0) n f)) (nf : nn f n) (hn : n < 1000) : cI l yX1_bitsOf wsX1_bitsOf (xR 1) [.ref row] D kA N0 M (fun r M1 => M1 = M ∧ r = nI (bl (V f n))) := by
  refine r_met (cc := cX1_bitsOf) (maxL := 2) (ret := (some .int)) (by decide) rfl (Nat.le_of_ble_eq_true rfl) ?_
  intro p e s m below meth c ls C hM hnm hl
  obtain ⟨hx, hb, hml, hown, hts, hr, hlocks, hK, hN⟩ := id C
  have hS : va_S (xA N0) s.heap s.heap [] := va_S.rf
  have hl : lv_has ls 2 [(0, .ref row)] := hl
  refine lv_aload_n hx hb dX1_bitsOf_0 rfl (lv_at hl 0 rfl) ?_
  refine r_Si (As := [.ref row]) (rest := []) C hM hS (c_sizeOf l D kA N0 M row n f ha (by omega)) gX1_bitsOf_X1_sizeOf rfl rfl rfl ⟨by decide +kernel, by decide +kernel, (by decide +kernel : (parseMethodDescriptor yX1_sizeOf.desc).map (fun d => d.parameters.length) = some 1)⟩ ⟨Nat.le_of_ble_eq_true rfl, Nat.le_of_ble_eq_true rfl⟩ hl.1 rfl (Nat.le_of_ble_eq_true rfl) dX1_bitsOf_1 ⟨Nat.le_of_ble_eq_true rfl, Nat.le_of_ble_eq_true rfl⟩ (fun r M1 H locs hp hM hS => ?_)
  obtain ⟨eM, k, rfl, hk, hz, hp⟩ := hp
  rw [eM] at hM
  have hV := size_V nf hk hz hp
  refine lv_istore_n (lv' := [(1, .int (nI k)), (0, .ref row)]) hx hb dX1_bitsOf_4 rfl hl (by decide) rfl (fun ls hl => ?_)
  refine lv_iload_n hx hb dX1_bitsOf_5 rfl (lv_at hl 0 rfl) ?_
  refine r_if_neN (tgt := 13) C (by omega) dX1_bitsOf_6 (by decide) (fun hc => ?_) (fun hc => ?_)
  · have hk0 : 0 < k := by omega
    have ht := hV.2 hk0
    have hlt := dg_lt (f (k - 1))
    have hB : BB = 2147483648 := rfl
    have e0 := bl_row hk0 hk hz ht
    have e1 : bl (dg (f (k - 1))) ≤ 31 := bl_le (by rw [hB] at hlt; exact hlt)
    have e2 := bl_pos ht
    refine lv_iload_n hx hb dX1_bitsOf_13 rfl (lv_at hl 0 rfl) ?_
    refine lv_bipush (v := nI 31) hx hb dX1_bitsOf_14 (by decide) ?_
    refine r_imulN C dX1_bitsOf_16 ?_
    refine lv_iconst (v := nI 1) hx hb dX1_bitsOf_17 (by decide) ?_
    refine r_iaddN C dX1_bitsOf_18 ?_
    refine lv_aload_n hx hb dX1_bitsOf_19 rfl (lv_at hl 1 rfl) ?_
    refine lv_iload_n hx hb dX1_bitsOf_20 rfl (lv_at hl 0 rfl) ?_
    refine lv_iconst (v := nI 1) hx hb dX1_bitsOf_21 (by decide) ?_
    refine r_isubN C (by omega) dX1_bitsOf_22 ?_
    refine r_iald C hM (ha) rfl (by omega) (by omega) dX1_bitsOf_23 ?_
    refine r_topi C (nI (dg (f (k - 1)))) (nI_dg (nf (k - 1) (by omega))) ?_
    refine r_Si (As := [.int (nI (dg (f (k - 1))))]) (rest := [.int (nI ((k * 31) + 1))]) C hM hS (c_nlz l D kA N0 M (dg (f (k - 1))) ht (by omega)) gX1_bitsOf_J6_numberOfLeadingZeros_0f7a4 rfl rfl rfl ⟨by decide +kernel, by decide +kernel, (by decide +kernel : (parseMethodDescriptor yJ6_numberOfLeadingZeros_0f7a4.desc).map (fun d => d.parameters.length) = some 1)⟩ ⟨Nat.le_of_ble_eq_true rfl, Nat.le_of_ble_eq_true rfl⟩ hl.1 rfl (Nat.le_of_ble_eq_true rfl) dX1_bitsOf_24 ⟨Nat.le_of_ble_eq_true rfl, Nat.le_of_ble_eq_true rfl⟩ (fun r M2 H locs hq hM hS => ?_)
    obtain ⟨eM2, rfl⟩ := hq
    rw [eM2] at hM
    refine r_isubN C (by omega) dX1_bitsOf_27 ?_
    exact r_iret C hM hS (⟨rfl, by rw [e0]; congr 1; omega⟩) dX1_bitsOf_28
  · refine lv_iconst (v := nI 0) hx hb dX1_bitsOf_9 (by decide) ?_
    refine lv_goto (tgt := 28) hx hb dX1_bitsOf_10 (by decide) ?_
    exact r_iret C hM hS (⟨rfl, by rw [hV.1.mp hc]; rfl⟩) dX1_bitsOf_28
end N3
end
section
section N4
variable {p : Program} {l : Launch} {e : Env} {R : Room} {s : State} {m : MethodId} {args : Array Value} {below : List Frame} {meth : Method} {c : Code} {Q : State → Prop} {cells slots : Nat} {ret : Option FieldType} {D : va_G} {kA : Nat → ClassId} {N0 : Nat} {H : Heap} {locs : List Loc}
set_option maxRecDepth 100000 in
theorem sl_38 (C : xC p s m args meth c cX1_shiftedLimb 8 ret RX1 wsX1_shiftedLimb D vwCl (xT kA) N0) {h w gap : Nat} {ls : Array Slot} (h1 : h < BB) (h2 : w < BB) (hg : gap < 2 ^ 31) (hl : lv_has ls 8 [(4, .long (lN h)), (6, .long (lN w)), (2, .int (nI gap))])
    (hexit : ∀ ls, W p l e R s m args below meth c H locs cells slots Q (F0 m 59 ls [.int (nI ((h * BB + w) / 2 ^ (31 - gap % 31) % BB))])) : W p l e R s m args below meth c H locs cells slots Q (F0 m 38 ls []) := by
  obtain ⟨hx, hb, hml, hown, hts, hr, hlocks, hK, hN⟩ := id C
  refine lv_lload hx hb dX1_shiftedLimb_38 (lv_at hl 0 rfl) ?_
  refine lv_bipush (v := nI 31) hx hb dX1_shiftedLimb_40 (by decide) ?_
  refine lv_lshl (v := (lN h) <<< ((nI 31).toInt64 &&& 63)) hx hb dX1_shiftedLimb_42 rfl ?_
  refine lv_lload hx hb dX1_shiftedLimb_43 (lv_at hl 1 rfl) ?_
  refine lv_lor hx hb dX1_shiftedLimb_45 ?_
  refine lv_bipush (v := nI 31) hx hb dX1_shiftedLimb_46 (by decide) ?_
  refine lv_iload_n hx hb dX1_shiftedLimb_48 rfl (lv_at hl 2 rfl) ?_
  refine lv_bipush (v := nI 31) hx hb dX1_shiftedLimb_49 (by decide) ?_
  refine lv_irem hx hb dX1_shiftedLimb_51 (nI_ne0 (by omega) (by omega)) ?_
  refine r_topi C (nI (gap % 31)) (pk_rem (by omega) (by omega) (by omega)) ?_
  refine r_isubN C (by omega) dX1_shiftedLimb_52 ?_
  refine lv_lushr (v := ((((lN h) <<< ((nI 31).toInt64 &&& 63)) ||| (lN w)).toUInt64 >>> ((nI (31 - (gap % 31))).toInt64.toUInt64 &&& Int64.toUInt64 63)).toInt64) hx hb dX1_shiftedLimb_53 rfl ?_
  refine lv_ldc2 (v := 2147483647) hx hb hown (hts (.constantLong RX1 33 (2147483647)) (by decide +kernel)) dX1_shiftedLimb_54 ?_
  refine lv_land hx hb dX1_shiftedLimb_57 ?_
  refine lv_l2i (v := ((((((lN h) <<< ((nI 31).toInt64 &&& 63)) ||| (lN w)).toUInt64 >>> ((nI (31 - (gap % 31))).toInt64.toUInt64 &&& Int64.toUInt64 63)).toInt64) &&& 2147483647).toInt32) hx hb dX1_shiftedLimb_58 rfl ?_
  refine r_topi C (nI ((h * BB + w) / 2 ^ (31 - gap % 31) % BB)) (pair_val h1 h2 (by omega)) ?_
  exact hexit ls
set_option maxRecDepth 100000 in
theorem c_shiftedLimb (l : Launch) (D : va_G) (kA : Nat → ClassId) (N0 : Nat) (M : xM) (row n i gap : Nat) (f : Nat → Int32) (ha : M row = some (xI (kA 0) n f)) (nf : nn f n) (hi : i < n) (hg : gap < 2 ^ 31) (hn : n < 2 ^ 31) : cI l yX1_shiftedLimb wsX1_shiftedLimb (xR 0) [.ref row, .int (nI i), .int (nI gap)] D kA N0 M (fun r M1 => M1 = M ∧ r = nI (shl f (gap / 31) (gap % 31) i)) := by
  refine r_met (cc := cX1_shiftedLimb) (maxL := 8) (ret := (some .int)) (by decide) rfl (Nat.le_of_ble_eq_true rfl) ?_
  intro p e s m below meth c ls C hM hnm hl
  obtain ⟨hx, hb, hml, hown, hts, hr, hlocks, hK, hN⟩ := id C
  have hS : va_S (xA N0) s.heap s.heap [] := va_S.rf
  have hl : lv_has ls 8 [(0, .ref row), (1, .int (nI i)), (2, .int (nI gap))] := hl
  by_cases hq : gap / 31 ≤ i
  refine lv_iload_n hx hb dX1_shiftedLimb_0 rfl (lv_at hl 1 rfl) ?_
  refine lv_iload_n hx hb dX1_shiftedLimb_1 rfl (lv_at hl 2 rfl) ?_
  refine lv_bipush (v := nI 31) hx hb dX1_shiftedLimb_2 (by decide) ?_
  refine lv_idiv hx hb dX1_shiftedLimb_4 (nI_ne0 (by omega) (by omega)) ?_
  refine r_topi C (nI (gap / 31)) (pk_div (by omega) (by omega) (by omega)) ?_
  refine r_isubN C (by omega) dX1_shiftedLimb_5 ?_
  refine lv_istore_n (lv' := [(3, .int (nI (i - (gap / 31)))), (0, .ref row), (1, .int (nI i)), (2, .int (nI gap))]) hx hb dX1_shiftedLimb_6 rfl hl (by decide) rfl (fun ls hl => ?_)
  refine lv_iload_n hx hb dX1_shiftedLimb_7 rfl (lv_at hl 0 rfl) ?_
  · refine r_if_ltN (tgt := 18) C (by omega) dX1_shiftedLimb_8 (by decide) (fun h1 => ?_) (fun h1 => ?_)
    · exact h1.elim
    · refine lv_aload_n hx hb dX1_shiftedLimb_11 rfl (lv_at hl 1 rfl) ?_
      refine lv_iload_n hx hb dX1_shiftedLimb_12 rfl (lv_at hl 0 rfl) ?_
      refine r_iald C hM (ha) rfl (by omega) (by omega) dX1_shiftedLimb_13 ?_
      refine lv_i2l (v := (f (i - (gap / 31))).toInt64) hx hb dX1_shiftedLimb_14 rfl ?_
      refine lv_goto (tgt := 19) hx hb dX1_shiftedLimb_15 (by decide) ?_
      refine lv_topl (fun v_1 ev_1 => ?_)
      refine lv_lstore (lv' := [(4, .long v_1), (3, .int (nI (i - (gap / 31)))), (0, .ref row), (1, .int (nI i)), (2, .int (nI gap))]) hx hb dX1_shiftedLimb_19 hl (by decide) rfl (fun ls hl => ?_)
      refine lv_iload_n hx hb dX1_shiftedLimb_21 rfl (lv_at hl 1 rfl) ?_
      refine lv_iconst (v := nI 1) hx hb dX1_shiftedLimb_22 (by decide) ?_
      rw [i2l_dg (nf _ (by omega))] at ev_1
      subst ev_1
      refine r_icmp_ltN (tgt := 35) C (by omega) (by omega) dX1_shiftedLimb_23 (by decide) (fun h2 => ?_) (fun h2 => ?_)
      · refine lv_lconst (v := 0) hx hb dX1_shiftedLimb_35 (by decide) ?_
        refine lv_lstore (lv' := [(6, .long 0), (4, .long (lN (dg (f (i - gap / 31))))), (3, .int (nI (i - (gap / 31)))), (0, .ref row), (1, .int (nI i)), (2, .int (nI gap))]) hx hb dX1_shiftedLimb_36 hl (by decide) rfl (fun ls hl => ?_)
        refine sl_38 C (dg_lt (f (i - gap / 31))) BB_pos hg (lv_sub hl [1, 0, 5] rfl) (fun ls => ?_)
        refine r_iret C hM hS ⟨rfl, ?_⟩ dX1_shiftedLimb_59
        unfold shl
        rw [if_pos hq, if_neg (by omega)]
      · refine lv_aload_n hx hb dX1_shiftedLimb_26 rfl (lv_at hl 2 rfl) ?_
        refine lv_iload_n hx hb dX1_shiftedLimb_27 rfl (lv_at hl 1 rfl) ?_
        refine lv_iconst (v := nI 1) hx hb dX1_shiftedLimb_28 (by decide) ?_
        refine r_isubN C (by omega) dX1_shiftedLimb_29 ?_
        refine r_iald C hM (ha) rfl (by omega) (by omega) dX1_shiftedLimb_30 ?_
        refine lv_i2l (v := (f ((i - (gap / 31)) - 1)).toInt64) hx hb dX1_shiftedLimb_31 rfl ?_
        refine lv_goto (tgt := 36) hx hb dX1_shiftedLimb_32 (by decide) ?_
        refine lv_topl (fun v_2 ev_2 => ?_)
        refine lv_lstore (lv' := [(6, .long v_2), (4, .long (lN (dg (f (i - gap / 31))))), (3, .int (nI (i - (gap / 31)))), (0, .ref row), (1, .int (nI i)), (2, .int (nI gap))]) hx hb dX1_shiftedLimb_36 hl (by decide) rfl (fun ls hl => ?_)
        rw [i2l_dg (nf _ (by omega))] at ev_2
        subst ev_2
        refine sl_38 C (dg_lt (f (i - gap / 31))) (dg_lt (f (i - gap / 31 - 1))) hg (lv_sub hl [1, 0, 5] rfl) (fun ls => ?_)
        refine r_iret C hM hS ⟨rfl, ?_⟩ dX1_shiftedLimb_59
        unfold shl
        rw [if_pos hq, if_pos (by omega)]
  · have hneg : nI i - nI (gap / 31) < 0 := by
      rw [i_lt, pk_sub_toInt (by omega) (by omega), Int32.toInt_zero]
      omega
    refine lv_iload_n hx hb dX1_shiftedLimb_0 rfl (lv_at hl 1 rfl) ?_
    refine lv_iload_n hx hb dX1_shiftedLimb_1 rfl (lv_at hl 2 rfl) ?_
    refine lv_bipush (v := nI 31) hx hb dX1_shiftedLimb_2 (by decide) ?_
    refine lv_idiv hx hb dX1_shiftedLimb_4 (nI_ne0 (by omega) (by omega)) ?_
    refine r_topi C (nI (gap / 31)) (pk_div (by omega) (by omega) (by omega)) ?_
    refine lv_isub hx hb dX1_shiftedLimb_5 ?_
    refine lv_topi (fun v_3 ev_3 => ?_)
    refine lv_istore_n (lv' := [(3, .int v_3), (0, .ref row), (1, .int (nI i)), (2, .int (nI gap))]) hx hb dX1_shiftedLimb_6 rfl hl (by decide) rfl (fun ls hl => ?_)
    refine lv_iload_n hx hb dX1_shiftedLimb_7 rfl (lv_at hl 0 rfl) ?_
    rw [← ev_3] at hneg
    refine lv_if_lt (tgt := 18) hx hb dX1_shiftedLimb_8 (by decide) (fun h1 => ?_) (fun h1 => ?_)
    · refine lv_lconst (v := 0) hx hb dX1_shiftedLimb_18 (by decide) ?_
      refine lv_lstore (lv' := [(4, .long 0), (3, .int v_3), (0, .ref row), (1, .int (nI i)), (2, .int (nI gap))]) hx hb dX1_shiftedLimb_19 hl (by decide) rfl (fun ls hl => ?_)
      refine lv_iload_n hx hb dX1_shiftedLimb_21 rfl (lv_at hl 1 rfl) ?_
      refine lv_iconst (v := nI 1) hx hb dX1_shiftedLimb_22 (by decide) ?_
      refine lv_icmp_lt (tgt := 35) hx hb dX1_shiftedLimb_23 (by decide) (fun h2 => ?_) (fun h2 => ?_)
      · refine lv_lconst (v := 0) hx hb dX1_shiftedLimb_35 (by decide) ?_
        refine lv_lstore (lv' := [(6, .long 0), (4, .long 0), (3, .int v_3), (0, .ref row), (1, .int (nI i)), (2, .int (nI gap))]) hx hb dX1_shiftedLimb_36 hl (by decide) rfl (fun ls hl => ?_)
        refine sl_38 C BB_pos BB_pos hg (lv_sub hl [1, 0, 5] rfl) (fun ls => ?_)
        refine r_iret C hM hS ⟨rfl, ?_⟩ dX1_shiftedLimb_59
        unfold shl
        rw [if_neg hq, if_neg (by omega)]
      · exfalso
        rw [i_lt] at h2 hneg
        rw [nI_toInt (by omega)] at h2
        rw [Int32.toInt_zero] at hneg
        omega
    · exact absurd hneg h1
theorem shl_dg (f : Nat → Int32) (q r i : Nat) : dg (nI (shl f q r i)) = shl f q r i := dg_nI (shl_lt f q r i)
theorem V_shl (f : Nat → Int32) (q r : Nat) : ∀ n, V (fun i => nI (shl f q r i)) n = shV f q r n := by
  intro n
  induction n with
  | zero => rfl
  | succ n ih =>
    rw [V_s, ih, shl_dg]
    rfl
theorem nn_shl (f : Nat → Int32) (q r n : Nat) : nn (fun i => nI (shl f q r i)) n := by
  intro j _
  have := shl_lt f q r j
  have hB : BB = 2147483648 := rfl
  show 0 ≤ (nI (shl f q r j)).toInt
  rw [nI_toInt (by omega)]
  omega
set_option maxRecDepth 100000 in
theorem lp_below {M : xM} {one other n gap : Nat} {f g : Nat → Int32} (C : xC p s m args meth c cX1_isBelowShifted 5 ret RX1 wsX1_isBelowShifted D vwCl (xT kA) N0) (ha : M one = some (xI (kA 0) n f)) (hb2 : M other = some (xI (kA 0) n g)) (ng : nn g n) (hg : gap < 2 ^ 31) (hn : n < 2 ^ 31)
    (hexit : ∀ (v : Int32) (pc : Nat) (H : Heap) (locs : List Loc) (ls : Array Slot), (pc = 38 ∨ pc = 46) → ((v = 0 ∧ ∀ j, j < n → f j = nI (shl g (gap / 31) (gap % 31) j)) ∨ (∃ k, k < n ∧ (∀ j, k < j → j < n → f j = nI (shl g (gap / 31) (gap % 31) j)) ∧ ((v = 1 ∧ f k < nI (shl g (gap / 31) (gap % 31) k)) ∨ (v = 0 ∧ nI (shl g (gap / 31) (gap % 31) k) < f k)))) → xW D vwCl N0 M H → va_S (xA N0) s.heap H locs → W p l e (xR 1) s m args below meth c H locs 0 0 Q (F0 m pc ls [.int v])) :
    ∀ (k : Nat) (H : Heap) (locs : List Loc) (ls : Array Slot), k ≤ n → (∀ j, k ≤ j → j < n → f j = nI (shl g (gap / 31) (gap % 31) j)) → xW D vwCl N0 M H → va_S (xA N0) s.heap H locs → lv_has ls 5 [(3, .int (nI k - 1)), (0, .ref one), (1, .ref other), (2, .int (nI gap))] → W p l e (xR 1) s m args below meth c H locs 0 0 Q (F0 m 5 ls []) := by
  obtain ⟨hx, hb, hml, hown, hts, hr, hlocks, hK, hN⟩ := id C
  intro k
  induction k with
  | zero =>
    intro H locs ls hk hz hM hS hl
    refine lv_iload_n hx hb dX1_isBelowShifted_5 rfl (lv_at hl 0 rfl) ?_
    refine lv_if_lt (tgt := 45) hx hb dX1_isBelowShifted_6 (by decide) (fun hc => ?_) (fun hc => ?_)
    · refine lv_iconst (v := nI 0) hx hb dX1_isBelowShifted_45 (by decide) ?_
      exact hexit _ 46 H locs ls (Or.inr rfl) (Or.inl ⟨nI_0, fun j hj => hz j (by omega) hj⟩) hM hS
    · exact absurd (by decide) hc
  | succ k ih =>
    intro H locs ls hk hz hM hS hl
    have hl : lv_has ls 5 [(3, .int (nI k)), (0, .ref one), (1, .ref other), (2, .int (nI gap))] := by rw [nI_pred] at hl; exact hl
    refine lv_iload_n hx hb dX1_isBelowShifted_5 rfl (lv_at hl 0 rfl) ?_
    refine r_if_ltN (tgt := 45) C (by omega) dX1_isBelowShifted_6 (by decide) (fun hc => ?_) (fun hc => ?_)
    · exact hc.elim
    · refine lv_aload_n hx hb dX1_isBelowShifted_9 rfl (lv_at hl 2 rfl) ?_
      refine lv_iload_n hx hb dX1_isBelowShifted_10 rfl (lv_at hl 0 rfl) ?_
      refine lv_iload_n hx hb dX1_isBelowShifted_11 rfl (lv_at hl 3 rfl) ?_
      refine r_Si (As := [.ref other, .int (nI k), .int (nI gap)]) (rest := []) C hM hS (c_shiftedLimb l D kA N0 M other n k gap g hb2 ng (by omega) hg hn) gX1_isBelowShifted_X1_shiftedLimb rfl rfl rfl ⟨by decide +kernel, by decide +kernel, (by decide +kernel : (parseMethodDescriptor yX1_shiftedLimb.desc).map (fun d => d.parameters.length) = some 3)⟩ ⟨Nat.le_of_ble_eq_true rfl, Nat.le_of_ble_eq_true rfl⟩ hl.1 rfl (Nat.le_of_ble_eq_true rfl) dX1_isBelowShifted_12 ⟨Nat.le_of_ble_eq_true rfl, Nat.le_of_ble_eq_true rfl⟩ (fun r M1 H locs hp hM hS => ?_)
      obtain ⟨eM, er⟩ := hp
      rw [eM] at hM
      refine lv_istore (lv' := [(4, .int r), (3, .int (nI k)), (0, .ref one), (1, .ref other), (2, .int (nI gap))]) hx hb dX1_isBelowShifted_15 hl (by decide) rfl (fun ls hl => ?_)
      refine lv_aload_n hx hb dX1_isBelowShifted_17 rfl (lv_at hl 2 rfl) ?_
      refine lv_iload_n hx hb dX1_isBelowShifted_18 rfl (lv_at hl 1 rfl) ?_
      refine r_iald C hM (ha) rfl (by omega) (by omega) dX1_isBelowShifted_19 ?_
      refine lv_iload hx hb dX1_isBelowShifted_20 (lv_at hl 0 rfl) ?_
      refine lv_icmp_eq (tgt := 39) hx hb dX1_isBelowShifted_22 (by decide) (fun hd => ?_) (fun hd => ?_)
      · refine lv_iinc (v := nI k - 1) (lv' := [(3, .int (nI k - 1)), (4, .int r), (0, .ref one), (1, .ref other), (2, .int (nI gap))]) hx hb dX1_isBelowShifted_39 hl (k := 1) rfl (r_decI _) (by decide) rfl (fun ls hl => ?_)
        refine lv_goto (tgt := 5) hx hb dX1_isBelowShifted_42 (by decide) ?_
        exact ih H locs ls (by omega) (fun j h1 h2 => by
          by_cases h : j = k
          · rw [h, ← er]; exact hd
          · exact hz j (by omega) h2) hM hS (lv_sub hl [0, 2, 3, 4] rfl)
      · refine lv_aload_n hx hb dX1_isBelowShifted_25 rfl (lv_at hl 2 rfl) ?_
        refine lv_iload_n hx hb dX1_isBelowShifted_26 rfl (lv_at hl 1 rfl) ?_
        refine r_iald C hM (ha) rfl (by omega) (by omega) dX1_isBelowShifted_27 ?_
        refine lv_iload hx hb dX1_isBelowShifted_28 (lv_at hl 0 rfl) ?_
        refine lv_icmp_ge (tgt := 37) hx hb dX1_isBelowShifted_30 (by decide) (fun hg2 => ?_) (fun hg2 => ?_)
        · refine lv_iconst (v := nI 0) hx hb dX1_isBelowShifted_37 (by decide) ?_
          refine hexit _ 38 H locs ls (Or.inl rfl) (Or.inr ⟨k, by omega, fun j h1 h2 => hz j (by omega) h2, Or.inr ⟨rfl, ?_⟩⟩) hM hS
          rw [← er]
          rw [i_le] at hg2
          rw [i_lt]
          have : (f k).toInt ≠ r.toInt := fun h => hd (i_eqI h)
          omega
        · refine lv_iconst (v := nI 1) hx hb dX1_isBelowShifted_33 (by decide) ?_
          refine lv_goto (tgt := 38) hx hb dX1_isBelowShifted_34 (by decide) ?_
          refine hexit _ 38 H locs ls (Or.inl rfl) (Or.inr ⟨k, by omega, fun j h1 h2 => hz j (by omega) h2, Or.inl ⟨rfl, ?_⟩⟩) hM hS
          rw [← er]
          rw [i_le] at hg2
          rw [i_lt]
          omega
set_option maxRecDepth 100000 in
theorem c_isBelowShifted (l : Launch) (D : va_G) (kA : Nat → ClassId) (N0 : Nat) (M : xM) (one other n gap : Nat) (f g : Nat → Int32) (ha : M one = some (xI (kA 0) n f)) (hb2 : M other = some (xI (kA 0) n g)) (nf : nn f n) (ng : nn g n) (hg : gap < 2 ^ 31) (hn : n < 2 ^ 31) : cI l yX1_isBelowShifted wsX1_isBelowShifted (xR 1) [.ref one, .ref other, .int (nI gap)] D kA N0 M (fun r M1 => M1 = M ∧ ((r = 1 ∧ V f n < shV g (gap / 31) (gap % 31) n) ∨ (r = 0 ∧ shV g (gap / 31) (gap % 31) n ≤ V f n))) := by
  refine r_met (cc := cX1_isBelowShifted) (maxL := 5) (ret := (some .boolean)) (by decide) rfl (Nat.le_of_ble_eq_true rfl) ?_
  intro p e s m below meth c ls C hM hnm hl
  obtain ⟨hx, hb, hml, hown, hts, hr, hlocks, hK, hN⟩ := id C
  have hS : va_S (xA N0) s.heap s.heap [] := va_S.rf
  have hl : lv_has ls 5 [(0, .ref one), (1, .ref other), (2, .int (nI gap))] := hl
  refine lv_aload_n hx hb dX1_isBelowShifted_0 rfl (lv_at hl 0 rfl) ?_
  refine r_alen C hM (ha) rfl dX1_isBelowShifted_1 ?_
  refine lv_iconst (v := 1) hx hb dX1_isBelowShifted_2 (by decide) ?_
  refine lv_isub hx hb dX1_isBelowShifted_3 ?_
  refine lv_istore_n (lv' := [(3, .int (nI n - 1)), (0, .ref one), (1, .ref other), (2, .int (nI gap))]) hx hb dX1_isBelowShifted_4 rfl hl (by decide) rfl (fun ls hl => ?_)
  refine lp_below C ha hb2 ng hg hn (fun v pc H locs ls hpc hv hM hS => ?_) n s.heap [] ls (Nat.le_refl n) (fun j h1 h2 => by omega) hM hS hl
  have hp : M = M ∧ ((v = 1 ∧ V f n < shV g (gap / 31) (gap % 31) n) ∨ (v = 0 ∧ shV g (gap / 31) (gap % 31) n ≤ V f n)) := by
    refine ⟨rfl, ?_⟩
    rw [← V_shl]
    rcases hv with ⟨h1, h2⟩ | ⟨k, hk, h2, h3⟩
    · exact Or.inr ⟨h1, by rw [V_congr (f := f) h2]; exact Nat.le_refl _⟩
    · have n1 := nn_dg nf hk
      have n2 := nn_dg (nn_shl g (gap / 31) (gap % 31) n) hk
      rcases h3 with ⟨h3, h4⟩ | ⟨h3, h4⟩
      · exact Or.inl ⟨h3, V_less hk h2 (by rw [i_lt] at h4; omega)⟩
      · exact Or.inr ⟨h3, Nat.le_of_lt (V_less hk (fun j a b => (h2 j a b).symm) (by rw [i_lt] at h4; omega))⟩
  have hz : narrow .boolean (.int v) = .int v := by
    rcases hp.2 with ⟨h, -⟩ | ⟨h, -⟩ <;> rw [h] <;> rfl
  rcases hpc with rfl | rfl
  · exact r_zret C hM hS hz hp dX1_isBelowShifted_38
  · exact r_zret C hM hS hz hp dX1_isBelowShifted_46
/-- a row shifted, where nothing goes past it -/
theorem shV_fit {g : Nat → Int32} {n k : Nat} (h : V g n * 2 ^ k < BB ^ n) : shV g (k / 31) (k % 31) n = V g n * 2 ^ k := by
  have e : BB ^ (k / 31) * 2 ^ (k % 31) = 2 ^ k := by
    rw [BB_two, ← Nat.pow_add]
    congr 1
    omega
  rw [shV_eq (Nat.mod_lt _ (by decide)), e, Nat.mod_eq_of_lt h]
theorem gap_fit {a b n : Nat} (hb : 0 < b) (ha : a < BB ^ n) (h : bl b ≤ bl a) : b * 2 ^ (bl a - bl b) < BB ^ n ∧ a < 2 ^ (bl a - bl b + 1) * b ∧ (0 < bl a - bl b → 2 ^ (bl a - bl b - 1) * b ≤ a) ∧ bl a ≤ 31 * n := by
  have h1 := bl_hi a
  have h2 := bl_hi b
  have h3 := bl_lo hb
  have h4 := bl_pos hb
  have ha0 : 0 < a := by
    rcases Nat.eq_zero_or_pos a with q | q
    · rw [q, bl_0] at h; omega
    · exact q
  have h5 := bl_lo ha0
  have h6 : bl a ≤ 31 * n := bl_le (by rw [← BB_two]; exact ha)
  obtain ⟨k, hk⟩ : ∃ k, bl a = bl b + k := ⟨bl a - bl b, by omega⟩
  rw [hk] at h1 h5 h6 ⊢
  rw [Nat.add_sub_cancel_left]
  obtain ⟨j, hj⟩ : ∃ j, bl b = j + 1 := ⟨bl b - 1, by omega⟩
  rw [hj] at h1 h2 h3 h5 h6 ⊢
  rw [Nat.add_sub_cancel] at h3
  have hp := Nat.two_pow_pos k
  refine ⟨?_, ?_, ?_, by omega⟩
  · have q1 : b * 2 ^ k < 2 ^ (j + 1) * 2 ^ k := Nat.mul_lt_mul_of_pos_right h2 hp
    rw [← Nat.pow_add] at q1
    rw [BB_two]
    exact Nat.lt_of_lt_of_le q1 (Nat.pow_le_pow_right (by decide) h6)
  · have q1 : 2 ^ (k + 1) * 2 ^ j ≤ 2 ^ (k + 1) * b := Nat.mul_le_mul_left _ h3
    rw [← Nat.pow_add] at q1
    have e : k + 1 + j = j + 1 + k := by omega
    rw [e] at q1
    omega
  · intro hk0
    obtain ⟨i, rfl⟩ : ∃ i, k = i + 1 := ⟨k - 1, by omega⟩
    rw [Nat.add_sub_cancel]
    have q1 : 2 ^ i * b ≤ 2 ^ i * 2 ^ (j + 1) := Nat.mul_le_mul_left _ (Nat.le_of_lt h2)
    rw [← Nat.pow_add] at q1
    have e : j + 1 + (i + 1) - 1 = i + (j + 1) := by omega
    rw [e] at h5
    omega
set_option maxRecDepth 100000 in
theorem c_gapBetween (l : Launch) (D : va_G) (kA : Nat → ClassId) (N0 : Nat) (M : xM) (up lo n : Nat) (f g : Nat → Int32) (ha : M up = some (xI (kA 0) n f)) (hb2 : M lo = some (xI (kA 0) n g)) (nf : nn f n) (ng : nn g n) (hpos : 0 < V g n) (hn : n < 1000) : cI l yX1_gapBetween wsX1_gapBetween (xR 2) [.ref up, .ref lo] D kA N0 M (fun r M1 => M1 = M ∧ ((r < 0 ∧ V f n < V g n) ∨ (∃ k, r = nI k ∧ 2 ^ k * V g n ≤ V f n ∧ V f n < 2 ^ (k + 1) * V g n ∧ k ≤ 31 * n))) := by
  refine r_met (cc := cX1_gapBetween) (maxL := 3) (ret := (some .int)) (by decide) rfl (Nat.le_of_ble_eq_true rfl) ?_
  intro p e s m below meth c ls C hM hnm hl
  obtain ⟨hx, hb, hml, hown, hts, hr, hlocks, hK, hN⟩ := id C
  have hS : va_S (xA N0) s.heap s.heap [] := va_S.rf
  have hl : lv_has ls 3 [(0, .ref up), (1, .ref lo)] := hl
  refine lv_aload_n hx hb dX1_gapBetween_0 rfl (lv_at hl 0 rfl) ?_
  refine r_Si (As := [.ref up]) (rest := []) C hM hS (c_bitsOf l D kA N0 M up n f ha nf hn) gX1_gapBetween_X1_bitsOf rfl rfl rfl ⟨by decide +kernel, by decide +kernel, (by decide +kernel : (parseMethodDescriptor yX1_bitsOf.desc).map (fun d => d.parameters.length) = some 1)⟩ ⟨Nat.le_of_ble_eq_true rfl, Nat.le_of_ble_eq_true rfl⟩ hl.1 rfl (Nat.le_of_ble_eq_true rfl) dX1_gapBetween_1 ⟨Nat.le_of_ble_eq_true rfl, Nat.le_of_ble_eq_true rfl⟩ (fun r M1 H locs hp hM hS => ?_)
  obtain ⟨eM, rfl⟩ := hp
  rw [eM] at hM
  refine lv_aload_n hx hb dX1_gapBetween_4 rfl (lv_at hl 1 rfl) ?_
  refine r_Si (As := [.ref lo]) (rest := [.int (nI (bl (V f n)))]) C hM hS (c_bitsOf l D kA N0 M lo n g hb2 ng hn) gX1_gapBetween_X1_bitsOf rfl rfl rfl ⟨by decide +kernel, by decide +kernel, (by decide +kernel : (parseMethodDescriptor yX1_bitsOf.desc).map (fun d => d.parameters.length) = some 1)⟩ ⟨Nat.le_of_ble_eq_true rfl, Nat.le_of_ble_eq_true rfl⟩ hl.1 rfl (Nat.le_of_ble_eq_true rfl) dX1_gapBetween_5 ⟨Nat.le_of_ble_eq_true rfl, Nat.le_of_ble_eq_true rfl⟩ (fun r M2 H locs hp hM hS => ?_)
  obtain ⟨eM2, rfl⟩ := hp
  rw [eM2] at hM
  have b1 : bl (V f n) ≤ 31 * n := bl_le (by rw [← BB_two]; exact V_lt f n)
  have b2 : bl (V g n) ≤ 31 * n := bl_le (by rw [← BB_two]; exact V_lt g n)
  by_cases hlt : bl (V f n) < bl (V g n)
  · have hneg : nI (bl (V f n)) - nI (bl (V g n)) < 0 := by
      rw [i_lt, pk_sub_toInt (by omega) (by omega), Int32.toInt_zero]
      omega
    have hless : V f n < V g n := by
      have q1 := bl_hi (V f n)
      have q2 := bl_lo hpos
      have q3 : 2 ^ bl (V f n) ≤ 2 ^ (bl (V g n) - 1) := Nat.pow_le_pow_right (by decide) (by omega)
      omega
    refine lv_isub hx hb dX1_gapBetween_8 ?_
    refine lv_topi (fun v_4 ev_4 => ?_)
    refine lv_istore_n (lv' := [(2, .int v_4), (0, .ref up), (1, .ref lo)]) hx hb dX1_gapBetween_9 rfl hl (by decide) rfl (fun ls hl => ?_)
    refine lv_iload_n hx hb dX1_gapBetween_10 rfl (lv_at hl 0 rfl) ?_
    rw [← ev_4] at hneg
    refine lv_if_lt (tgt := 29) hx hb dX1_gapBetween_11 (by decide) (fun hc => ?_) (fun hc => ?_)
    · refine lv_iload_n hx hb dX1_gapBetween_29 rfl (lv_at hl 0 rfl) ?_
      exact r_iret C hM hS (⟨rfl, Or.inl ⟨hneg, hless⟩⟩) dX1_gapBetween_30
    · exact absurd hneg hc
  · obtain ⟨q1, q2, q3, q4⟩ := gap_fit hpos (V_lt f n) (Nat.le_of_not_lt hlt)
    obtain ⟨k, hk⟩ : ∃ k, bl (V f n) - bl (V g n) = k := ⟨_, rfl⟩
    have hfit : shV g (k / 31) (k % 31) n = V g n * 2 ^ k := shV_fit (by rw [← hk]; exact q1)
    refine r_isubN C (by omega) dX1_gapBetween_8 ?_
    rw [hk] at q1 q2 q3 ⊢
    refine lv_istore_n (lv' := [(2, .int (nI k)), (0, .ref up), (1, .ref lo)]) hx hb dX1_gapBetween_9 rfl hl (by decide) rfl (fun ls hl => ?_)
    refine lv_iload_n hx hb dX1_gapBetween_10 rfl (lv_at hl 0 rfl) ?_
    refine r_if_ltN (tgt := 29) C (by omega) dX1_gapBetween_11 (by decide) (fun hc => ?_) (fun hc => ?_)
    · exact hc.elim
    · refine lv_aload_n hx hb dX1_gapBetween_14 rfl (lv_at hl 1 rfl) ?_
      refine lv_aload_n hx hb dX1_gapBetween_15 rfl (lv_at hl 2 rfl) ?_
      refine lv_iload_n hx hb dX1_gapBetween_16 rfl (lv_at hl 0 rfl) ?_
      refine r_Si (As := [.ref up, .ref lo, .int (nI k)]) (rest := []) C hM hS (c_isBelowShifted l D kA N0 M up lo n k f g ha hb2 nf ng (by omega) (by omega)) gX1_gapBetween_X1_isBelowShifted rfl rfl rfl ⟨by decide +kernel, by decide +kernel, (by decide +kernel : (parseMethodDescriptor yX1_isBelowShifted.desc).map (fun d => d.parameters.length) = some 3)⟩ ⟨Nat.le_of_ble_eq_true rfl, Nat.le_of_ble_eq_true rfl⟩ hl.1 rfl (Nat.le_of_ble_eq_true rfl) dX1_gapBetween_17 ⟨Nat.le_of_ble_eq_true rfl, Nat.le_of_ble_eq_true rfl⟩ (fun r M3 H locs hp hM hS => ?_)
      obtain ⟨eM3, hr2⟩ := hp
      rw [eM3] at hM
      rw [hfit] at hr2
      refine lv_if_eq (tgt := 29) hx hb dX1_gapBetween_20 (by decide) (fun hd => ?_) (fun hd => ?_)
      · refine lv_iload_n hx hb dX1_gapBetween_29 rfl (lv_at hl 0 rfl) ?_
        rcases hr2 with ⟨h1, h2⟩ | ⟨h1, h2⟩
        · rw [h1] at hd
          exact absurd hd (by decide)
        exact r_iret C hM hS (⟨rfl, Or.inr ⟨k, rfl, by rw [Nat.mul_comm]; exact h2, q2, by omega⟩⟩) dX1_gapBetween_30
      · rcases hr2 with ⟨h1, h2⟩ | ⟨h1, h2⟩
        · by_cases hk0 : k = 0
          · subst hk0
            refine lv_iload_n hx hb dX1_gapBetween_23 rfl (lv_at hl 0 rfl) ?_
            refine lv_iconst (v := nI 1) hx hb dX1_gapBetween_24 (by decide) ?_
            refine lv_isub hx hb dX1_gapBetween_25 ?_
            refine lv_goto (tgt := 30) hx hb dX1_gapBetween_26 (by decide) ?_
            exact r_iret C hM hS (⟨rfl, Or.inl ⟨by decide, by omega⟩⟩) dX1_gapBetween_30
          · refine lv_iload_n hx hb dX1_gapBetween_23 rfl (lv_at hl 0 rfl) ?_
            refine lv_iconst (v := nI 1) hx hb dX1_gapBetween_24 (by decide) ?_
            refine r_isubN C (by omega) dX1_gapBetween_25 ?_
            refine lv_goto (tgt := 30) hx hb dX1_gapBetween_26 (by decide) ?_
            refine r_iret C hM hS ⟨rfl, Or.inr ⟨k - 1, rfl, q3 (by omega), ?_, by omega⟩⟩ dX1_gapBetween_30
            rw [Nat.sub_add_cancel (by omega), Nat.mul_comm]
            exact h2
        · exact absurd h1 hd
end N4
end
section
section N5
variable {p : Program} {l : Launch} {e : Env} {R : Room} {s : State} {m : MethodId} {args : Array Value} {below : List Frame} {meth : Method} {c : Code} {Q : State → Prop} {cells slots : Nat} {ret : Option FieldType} {D : va_G} {kA : Nat → ClassId} {N0 : Nat}
set_option maxRecDepth 100000 in
theorem lp_addsh {M : xM} {row other n gap : Nat} {f0 g : Nat → Int32} {sg : Int32} {σ : Int} (C : xC p s m args meth c cX1_addShifted 7 ret RX1 wsX1_addShifted D vwCl (xT kA) N0) (hne : other ≠ row) (h2 : M other = some (xI (kA 0) n g)) (n1 : nn f0 n) (n2 : nn g n) (hσ : sg.toInt = σ) (hs : σ = 1 ∨ σ = -1) (hg : gap < 2 ^ 31) (hn : n < 2 ^ 31)
    (hexit : ∀ (f : Nat → Int32) (cy : Int) (H : Heap) (locs : List Loc) (ls : Array Slot), nn f n → (V f n : Int) + cy * ((BB ^ n : Nat) : Int) = V f0 n + σ * shV g (gap / 31) (gap % 31) n → xW D vwCl N0 (xset M row (xI (kA 0) n f)) H → va_S (xA N0) s.heap H locs → W p l e (xR 1) s m args below meth c H locs 0 0 Q (F0 m 59 ls [])) :
    ∀ (k i : Nat) (f : Nat → Int32) (cy : Int64) (H : Heap) (locs : List Loc) (ls : Array Slot), i + k = n → (∀ j, i ≤ j → f j = f0 j) → nn f i → (V f i : Int) + cy.toInt * ((BB ^ i : Nat) : Int) = V f0 i + σ * shV g (gap / 31) (gap % 31) i → -1 ≤ cy.toInt → cy.toInt ≤ 1 → xW D vwCl N0 (xset M row (xI (kA 0) n f)) H → va_S (xA N0) s.heap H locs → lv_has ls 7 [(6, .int (nI i)), (4, .long cy), (0, .ref row), (1, .ref other), (2, .int (nI gap)), (3, .int sg)] → W p l e (xR 1) s m args below meth c H locs 0 0 Q (F0 m 6 ls []) := by
  obtain ⟨hx, hb, hml, hown, hts, hr, hlocks, hK, hN⟩ := id C
  intro k
  induction k with
  | zero =>
    intro i f cy H locs ls hi hf hnf hI c1 c2 hM hS hl
    refine lv_iload hx hb dX1_addShifted_6 (lv_at hl 0 rfl) ?_
    refine lv_aload_n hx hb dX1_addShifted_8 rfl (lv_at hl 2 rfl) ?_
    refine r_alen C hM (xset_s) rfl dX1_addShifted_9 ?_
    refine r_icmp_geN (tgt := 59) C (by omega) (by omega) dX1_addShifted_10 (by decide) (fun hc => ?_) (fun hc => ?_)
    · have hi : i = n := by omega
      subst hi
      exact hexit f cy.toInt H locs ls hnf hI hM hS
    · omega
  | succ k ih =>
    intro i f cy H locs ls hi hf hnf hI c1 c2 hM hS hl
    refine lv_iload hx hb dX1_addShifted_6 (lv_at hl 0 rfl) ?_
    refine lv_aload_n hx hb dX1_addShifted_8 rfl (lv_at hl 2 rfl) ?_
    refine r_alen C hM (xset_s) rfl dX1_addShifted_9 ?_
    refine r_icmp_geN (tgt := 59) C (by omega) (by omega) dX1_addShifted_10 (by decide) (fun hc => ?_) (fun hc => ?_)
    · omega
    · refine lv_lload hx hb dX1_addShifted_13 (lv_at hl 1 rfl) ?_
      refine lv_aload_n hx hb dX1_addShifted_15 rfl (lv_at hl 2 rfl) ?_
      refine lv_iload hx hb dX1_addShifted_16 (lv_at hl 0 rfl) ?_
      refine r_iald C hM (xset_s) rfl (by omega) (by omega) dX1_addShifted_18 ?_
      refine lv_i2l (v := (f i).toInt64) hx hb dX1_addShifted_19 rfl ?_
      refine lv_iload_n hx hb dX1_addShifted_20 rfl (lv_at hl 5 rfl) ?_
      refine lv_i2l (v := sg.toInt64) hx hb dX1_addShifted_21 rfl ?_
      refine lv_aload_n hx hb dX1_addShifted_22 rfl (lv_at hl 3 rfl) ?_
      refine lv_iload hx hb dX1_addShifted_23 (lv_at hl 0 rfl) ?_
      refine lv_iload_n hx hb dX1_addShifted_25 rfl (lv_at hl 4 rfl) ?_
      refine r_Si (As := [.ref other, .int (nI i), .int (nI gap)]) (rest := [.long sg.toInt64, .long ((f i).toInt64), .long cy]) C hM hS (c_shiftedLimb l D kA N0 (xset M row (xI (kA 0) n f)) other n i gap g (by rw [xset_n hne]; exact h2) n2 (by omega) hg hn) gX1_addShifted_X1_shiftedLimb rfl rfl rfl ⟨by decide +kernel, by decide +kernel, (by decide +kernel : (parseMethodDescriptor yX1_shiftedLimb.desc).map (fun d => d.parameters.length) = some 3)⟩ ⟨Nat.le_of_ble_eq_true rfl, Nat.le_of_ble_eq_true rfl⟩ hl.1 rfl (Nat.le_of_ble_eq_true rfl) dX1_addShifted_26 ⟨Nat.le_of_ble_eq_true rfl, Nat.le_of_ble_eq_true rfl⟩ (fun r M1 H locs hp hM hS => ?_)
      obtain ⟨eM, er⟩ := hp
      rw [eM] at hM
      refine lv_i2l (v := r.toInt64) hx hb dX1_addShifted_29 rfl ?_
      refine lv_lmul hx hb dX1_addShifted_30 ?_
      refine lv_ladd hx hb dX1_addShifted_31 ?_
      refine lv_ladd hx hb dX1_addShifted_32 ?_
      refine lv_topl (fun v_1 ev_1 => ?_)
      refine lv_lstore (lv' := [(4, .long v_1), (6, .int (nI i)), (0, .ref row), (1, .ref other), (2, .int (nI gap)), (3, .int sg)]) hx hb dX1_addShifted_33 hl (by decide) rfl (fun ls hl => ?_)
      refine lv_aload_n hx hb dX1_addShifted_35 rfl (lv_at hl 2 rfl) ?_
      refine lv_iload hx hb dX1_addShifted_36 (lv_at hl 1 rfl) ?_
      refine lv_lload hx hb dX1_addShifted_38 (lv_at hl 0 rfl) ?_
      refine lv_ldc2 (v := 2147483647) hx hb hown (hts (.constantLong RX1 33 (2147483647)) (by decide +kernel)) dX1_addShifted_40 ?_
      refine lv_land hx hb dX1_addShifted_43 ?_
      refine lv_l2i (v := (v_1 &&& 2147483647).toInt32) hx hb dX1_addShifted_44 rfl ?_
      refine r_iast C hM hS (xset_s) rfl (by omega) (by omega) dX1_addShifted_45 (fun H locs hM hS => ?_)
      rw [xset_xset] at hM
      refine lv_lload hx hb dX1_addShifted_46 (lv_at hl 0 rfl) ?_
      refine lv_bipush (v := nI 31) hx hb dX1_addShifted_48 (by decide) ?_
      refine lv_lshr (v := v_1 >>> ((nI 31).toInt64 &&& 63)) hx hb dX1_addShifted_50 rfl ?_
      refine lv_topl (fun v_2 ev_2 => ?_)
      refine lv_lstore (lv' := [(4, .long v_2), (6, .int (nI i)), (0, .ref row), (1, .ref other), (2, .int (nI gap)), (3, .int sg)]) hx hb dX1_addShifted_51 hl (by decide) rfl (fun ls hl => ?_)
      refine lv_iinc (v := nI (i + 1)) (lv' := [(6, .int (nI (i + 1))), (4, .long v_2), (0, .ref row), (1, .ref other), (2, .int (nI gap)), (3, .int sg)]) hx hb dX1_addShifted_53 hl (k := 1) rfl (r_inc _) (by decide) rfl (fun ls hl => ?_)
      refine lv_goto (tgt := 6) hx hb dX1_addShifted_56 (by decide) ?_
      have hv1 := cmb_v (x := f i) (y := r) hσ hs c1 c2
      rw [← ev_1] at hv1
      have hv2 := cmb_c v_1
      rw [← ev_2] at hv2
      have ho := cmb_o v_1
      have hB : BB = 2147483648 := rfl
      have l2 := shl_lt g (gap / 31) (gap % 31) i
      have d1 := nn_dg n1 (show i < n by omega)
      have d2 : r.toInt = (shl g (gap / 31) (gap % 31) i : Int) := by rw [er, nI_toInt (by omega)]
      rw [hf i (Nat.le_refl i), d2] at hv1
      have l1 := dg_lt (f0 i)
      have hT : v_1.toInt = cy.toInt + ((dg (f0 i) : Int) + σ * (shl g (gap / 31) (gap % 31) i : Int)) := by rw [hv1, d1]
      have hst := cmb_step (d1 := dg (f0 i)) (d2 := shl g (gap / 31) (gap % 31) i) hI hT
      refine ih (i + 1) (upd f i ((v_1 &&& 2147483647).toInt32)) v_2 H locs ls (by omega) (fun j hj => ?_) (fun j hj => ?_) ?_ ?_ ?_ hM hS (lv_sub hl [0, 1, 2, 3, 4, 5] rfl)
      · rw [pk_un (by omega)]
        exact hf j (by omega)
      · by_cases hq : j = i
        · rw [hq, pk_us, ho]
          omega
        · rw [pk_un hq]
          exact hnf j (by omega)
      · rw [V_upd, V_s, Nat.pow_succ, hv2]
        have : dg ((v_1 &&& 2147483647).toInt32) = (v_1.toInt % 2147483648).toNat := by
          unfold dg
          rw [ho]
        rw [this]
        exact hst
      · rw [hv2]
        rcases hs with h | h <;> rw [h] at hT <;> omega
      · rw [hv2]
        rcases hs with h | h <;> rw [h] at hT <;> omega
set_option maxRecDepth 100000 in
theorem c_addShifted (l : Launch) (D : va_G) (kA : Nat → ClassId) (N0 : Nat) (M : xM) (row other n gap : Nat) (f0 g : Nat → Int32) (sg : Int32) (σ : Int) (h0 : M row = some (xI (kA 0) n f0)) (h2 : M other = some (xI (kA 0) n g)) (hne : other ≠ row) (n1 : nn f0 n) (n2 : nn g n) (hσ : sg.toInt = σ) (hs : σ = 1 ∨ σ = -1) (hg : gap < 2 ^ 31) (hn : n < 2 ^ 31) : cV l yX1_addShifted wsX1_addShifted (xR 1) [.ref row, .ref other, .int (nI gap), .int sg] D kA N0 M (fun M1 => ∃ (f : Nat → Int32) (cy : Int), M1 = xset M row (xI (kA 0) n f) ∧ nn f n ∧ (V f n : Int) + cy * ((BB ^ n : Nat) : Int) = V f0 n + σ * shV g (gap / 31) (gap % 31) n) := by
  refine r_met (cc := cX1_addShifted) (maxL := 7) (ret := none) (by decide) rfl (Nat.le_of_ble_eq_true rfl) ?_
  intro p e s m below meth c ls C hM hnm hl
  obtain ⟨hx, hb, hml, hown, hts, hr, hlocks, hK, hN⟩ := id C
  have hS : va_S (xA N0) s.heap s.heap [] := va_S.rf
  have hl : lv_has ls 7 [(0, .ref row), (1, .ref other), (2, .int (nI gap)), (3, .int sg)] := hl
  refine lv_lconst (v := 0) hx hb dX1_addShifted_0 (by decide) ?_
  refine lv_lstore (lv' := [(4, .long 0), (0, .ref row), (1, .ref other), (2, .int (nI gap)), (3, .int sg)]) hx hb dX1_addShifted_1 hl (by decide) rfl (fun ls hl => ?_)
  refine lv_iconst (v := nI 0) hx hb dX1_addShifted_3 (by decide) ?_
  refine lv_istore (lv' := [(6, .int (nI 0)), (4, .long 0), (0, .ref row), (1, .ref other), (2, .int (nI gap)), (3, .int sg)]) hx hb dX1_addShifted_4 hl (by decide) rfl (fun ls hl => ?_)
  have hM' : xW D vwCl N0 (xset M row (xI (kA 0) n f0)) s.heap := by rw [xset_id h0]; exact hM
  refine lp_addsh C hne h2 n1 n2 hσ hs hg hn (fun f cy H locs ls hnf hI hM hS => ?_) n 0 f0 0 s.heap [] ls (by omega) (fun j hj => rfl) (fun j hj => by omega) (by simp [V_0, shV]) (by decide) (by decide) hM' hS (lv_sub hl [0, 1, 2, 3, 4, 5] rfl)
  exact r_vret C hM hS (⟨f, cy, rfl, hnf, hI⟩) dX1_addShifted_59
/-- a sum, a difference that fit their row -/
theorem fit_mod {A B n : Nat} {T cy : Int} (h : (A : Int) + cy * ((BB ^ n : Nat) : Int) = T) (hA : A < BB ^ n) (hB : T = (B : Int)) (hB2 : B < BB ^ n) : A = B := by
  have e : (A : Int) % ((BB ^ n : Nat) : Int) = (B : Int) % ((BB ^ n : Nat) : Int) := by
    rw [← hB, ← h, Int.add_mul_emod_self_right]
  rw [← Int.natCast_emod, ← Int.natCast_emod, Nat.mod_eq_of_lt hA, Nat.mod_eq_of_lt hB2] at e
  exact Int.ofNat.inj e
end N5
end
section
theorem in_X3_add_X3 : ∀ w ∈ wsX30, w ∈ wsX3_add := by decide +kernel
theorem in_X3_subtract_X3 : ∀ w ∈ wsX30, w ∈ wsX3_subtract := by decide +kernel
theorem in_X3_thrice_X3 : ∀ w ∈ wsX30, w ∈ wsX3_thrice := by decide +kernel
-- A NUMBER OF L LIMBS AT AN ADDRESS; A ROW OF n LIMBS
def isN (kA : Nat → ClassId) (M : xM) (a L v : Nat) : Prop := ∃ f : Nat → Int32, M a = some (xI (kA 0) L f) ∧ nn f L ∧ V f L = v
def isA (kA : Nat → ClassId) (M : xM) (a n : Nat) : Prop := ∃ f : Nat → Int32, M a = some (xI (kA 0) n f)
theorem isN.isA {kA : Nat → ClassId} {M : xM} {a L v : Nat} (h : isN kA M a L v) : isA kA M a L := by
  obtain ⟨f, h, -⟩ := h
  exact ⟨f, h⟩
theorem isN.lt {kA : Nat → ClassId} {M : xM} {a L v : Nat} (h : isN kA M a L v) : v < BB ^ L := by
  obtain ⟨f, -, -, h⟩ := h
  rw [← h]
  exact V_lt f L
theorem isN.kept {kA : Nat → ClassId} {M M1 : xM} {a L v : Nat} (h : isN kA M a L v) (e : M1 a = M a) : isN kA M1 a L v := by
  unfold isN
  rw [e]
  exact h
theorem isA.kept {kA : Nat → ClassId} {M M1 : xM} {a L : Nat} (h : isA kA M a L) (e : M1 a = M a) : isA kA M1 a L := by
  unfold isA
  rw [e]
  exact h
theorem isA.ne {kA : Nat → ClassId} {M : xM} {a n b ci : Nat} {fs : List Value} (h : isA kA M a n) (hb : M b = some (xO ci fs)) : b ≠ a := by
  intro q
  subst q
  obtain ⟨f, h⟩ := h
  rw [h] at hb
  cases hb
/-- a Residues at r: its rows lie behind it: modulus, divisor, work, spare, the two rests, the two factors -/
abbrev oRes (r : Nat) (sz sh : Int32) : va_E := xO 2 [.ref (r + 1), .ref (r + 2), .ref (r + 3), .ref (r + 4), .ref (r + 5), .ref (r + 6), .ref (r + 7), .ref (r + 8), .int sz, .int sh]
/-- .. ready to reckon modulo m -/
def Rs (kA : Nat → ClassId) (M : xM) (r L m : Nat) : Prop := ∃ (sz sh : Nat) (fm fd : Nat → Int32), M r = some (oRes r (nI sz) (nI sh)) ∧ M (r + 1) = some (xI (kA 0) L fm) ∧ M (r + 2) = some (xI (kA 0) L fd) ∧ nn fm L ∧ nn fd L ∧ V fm L = m ∧ 0 < sz ∧ sz ≤ L ∧ (∀ j, sz ≤ j → j < L → fm j = 0) ∧ 0 < dg (fm (sz - 1)) ∧ sh < 31 ∧ V fd L = m * 2 ^ sh ∧ (∀ j, sz ≤ j → j < L → fd j = 0) ∧ 1073741824 ≤ dg (fd (sz - 1))
theorem Rs.kept {kA : Nat → ClassId} {M M1 : xM} {r L m : Nat} (h : Rs kA M r L m) (e0 : M1 r = M r) (e1 : M1 (r + 1) = M (r + 1)) (e2 : M1 (r + 2) = M (r + 2)) : Rs kA M1 r L m := by
  unfold Rs
  rw [e0, e1, e2]
  exact h
theorem Rs.pos {kA : Nat → ClassId} {M : xM} {r L m : Nat} (h : Rs kA M r L m) : 0 < m := by
  obtain ⟨sz, sh, fm, fd, -, -, -, -, -, h6, h7, h8, -, h10, -⟩ := h
  have := V_pos (f := fm) (n := L) (k := sz - 1) (by omega) h10
  have := BBp (sz - 1)
  omega
theorem Rs.lt {kA : Nat → ClassId} {M : xM} {r L m : Nat} (h : Rs kA M r L m) : m < BB ^ L := by
  obtain ⟨sz, sh, fm, fd, -, -, -, -, -, h6, -⟩ := h
  rw [← h6]
  exact V_lt fm L
theorem lc0 (x y : Int64) : lg_cmp x y = 0 ↔ x = y := by
  unfold lg_cmp
  by_cases h1 : x > y
  · rw [if_pos h1]
    constructor
    · intro h; exact absurd h (by decide)
    · intro h
      rw [h] at h1
      exact absurd h1 Int64.lt_irrefl
  · rw [if_neg h1]
    by_cases h2 : x = y
    · rw [if_pos h2]
      exact ⟨fun _ => h2, fun _ => rfl⟩
    · rw [if_neg h2]
      exact ⟨fun h => absurd h (by decide), fun h => absurd h h2⟩
theorem l0 {x : Int64} : x = 0 ↔ x.toInt = 0 := ⟨fun h => by rw [h]; rfl, fun h => l_eqI h⟩
section R1
variable {p : Program} {l : Launch} {e : Env} {R : Room} {s : State} {m : MethodId} {args : Array Value} {below : List Frame} {meth : Method} {c : Code} {Q : State → Prop} {cells slots : Nat} {ret : Option FieldType} {D : va_G} {kA : Nat → ClassId} {N0 : Nat}
set_option maxRecDepth 100000 in
theorem ad_27 {M : xM} {r out L mm : Nat} {f fm : Nat → Int32} {sz sh : Int32} {H : Heap} {locs : List Loc} {ls : Array Slot} (C : xC p s m args meth c cX3_add 6 ret RX3 wsX3_add D vwCl (xT kA) N0) (hM : xW D vwCl N0 (xset M out (xI (kA 0) L f)) H) (hS : va_S (xA N0) s.heap H locs) (hob : xset M out (xI (kA 0) L f) r = some (oRes r sz sh)) (hm1 : xset M out (xI (kA 0) L f) (r + 1) = some (xI (kA 0) L fm)) (nf : nn f L) (nm : nn fm L) (hV : V fm L = mm) (hL : L < 1000) (hl : lv_has ls 6 [(0, .ref r), (1, .ref out)])
    (hexit : ∀ (f' : Nat → Int32) (cy : Int) (H : Heap) (locs : List Loc) (ls : Array Slot), nn f' L → (V f' L : Int) + cy * ((BB ^ L : Nat) : Int) = V f L - mm → xW D vwCl N0 (xset M out (xI (kA 0) L f')) H → va_S (xA N0) s.heap H locs → W p l e (xR 1) s m args below meth c H locs 0 0 Q (F0 m 38 ls [])) : W p l e (xR 1) s m args below meth c H locs 0 0 Q (F0 m 27 ls []) := by
  obtain ⟨hx, hb, hml, hown, hts, hr, hlocks, hK, hN⟩ := id C
  refine lv_aload_n hx hb dX3_add_27 rfl (lv_at hl 1 rfl) ?_
  refine lv_aload_n hx hb dX3_add_28 rfl (lv_at hl 1 rfl) ?_
  refine lv_aload_n hx hb dX3_add_29 rfl (lv_at hl 0 rfl) ?_
  refine x_get (v := .ref (r + 1)) hx hb hts in_X3_add_X3 hown hK hM (hob) rfl 0 (by decide) (hts (.fieldLink RX3 9 "LimbCurves$Residues" "modulus" "[I") (by decide +kernel)) (fun _ h9 => h9) rfl dX3_add_30 ?_
  refine lv_iconst (v := (-1)) hx hb dX3_add_33 (by decide) ?_
  refine r_Sl (As := [.ref out, .ref out, .ref (r + 1), .int (-1)]) (rest := []) C hM hS (c_combine l D kA N0 (xset M out (xI (kA 0) L f)) out out (r + 1) L f f fm (-1) (-1) xset_s xset_s hm1 nf nm (by decide) (Or.inr rfl) (by omega)) gX3_add_X1_combine rfl rfl rfl ⟨by decide +kernel, by decide +kernel, (by decide +kernel : (parseMethodDescriptor yX1_combine.desc).map (fun d => d.parameters.length) = some 4)⟩ ⟨Nat.le_of_ble_eq_true rfl, Nat.le_of_ble_eq_true rfl⟩ hl.1 rfl (Nat.le_of_ble_eq_true rfl) dX3_add_34 ⟨Nat.le_of_ble_eq_true rfl, Nat.le_of_ble_eq_true rfl⟩ (fun cy M1 H locs hp hM hS => ?_)
  obtain ⟨f', rfl, nf', hI, c1, c2⟩ := hp
  rw [xset_xset] at hM
  refine lv_pop2_2 hx hb dX3_add_37 rfl ?_
  exact hexit f' cy.toInt H locs ls nf' (by rw [hI, hV]; omega) hM hS
theorem frame1 {M : xM} {out : Nat} {e : va_E} : ∀ b, b ≠ out → xset M out e b = M b := fun b h => xset_n h
set_option maxRecDepth 100000 in
theorem c_add (l : Launch) (D : va_G) (kA : Nat → ClassId) (N0 : Nat) (M : xM) (r L mm out one other u v : Nat) (hr0 : Rs kA M r L mm) (h0 : isA kA M out L) (h1 : isN kA M one L u) (h2 : isN kA M other L v) (hu : u < mm) (hv : v < mm) (hne : out ≠ r + 1) (hL : L < 1000) : cV l yX3_add wsX3_add (xR 1) [.ref r, .ref out, .ref one, .ref other] D kA N0 M (fun M1 => isN kA M1 out L ((u + v) % mm) ∧ ∀ b, b ≠ out → M1 b = M b) := by
  have hmlt := hr0.lt
  obtain ⟨sz, sh, fm, fd, hob, hm, hd, nm, nd, Vm, -⟩ := hr0
  have hro := h0.ne hob
  obtain ⟨f0, h0⟩ := h0
  obtain ⟨f1, h1, n1, V1⟩ := h1
  obtain ⟨f2, h2, n2, V2⟩ := h2
  refine r_met (cc := cX3_add) (maxL := 6) (ret := none) (by decide) rfl (Nat.le_of_ble_eq_true rfl) ?_
  intro p e s m below meth c ls C hM hnm hl
  obtain ⟨hx, hb, hml, hown, hts, hr, hlocks, hK, hN⟩ := id C
  have hS : va_S (xA N0) s.heap s.heap [] := va_S.rf
  have hl : lv_has ls 6 [(0, .ref r), (1, .ref out), (2, .ref one), (3, .ref other)] := hl
  refine lv_aload_n hx hb dX3_add_0 rfl (lv_at hl 1 rfl) ?_
  refine lv_aload_n hx hb dX3_add_1 rfl (lv_at hl 2 rfl) ?_
  refine lv_aload_n hx hb dX3_add_2 rfl (lv_at hl 3 rfl) ?_
  refine lv_iconst (v := nI 1) hx hb dX3_add_3 (by decide) ?_
  refine r_Sl (As := [.ref out, .ref one, .ref other, .int (nI 1)]) (rest := []) C hM hS (c_combine l D kA N0 M out one other L f0 f1 f2 (nI 1) 1 h0 h1 h2 n1 n2 (by decide) (Or.inl rfl) (by omega)) gX3_add_X1_combine rfl rfl rfl ⟨by decide +kernel, by decide +kernel, (by decide +kernel : (parseMethodDescriptor yX1_combine.desc).map (fun d => d.parameters.length) = some 4)⟩ ⟨Nat.le_of_ble_eq_true rfl, Nat.le_of_ble_eq_true rfl⟩ hl.1 rfl (Nat.le_of_ble_eq_true rfl) dX3_add_4 ⟨Nat.le_of_ble_eq_true rfl, Nat.le_of_ble_eq_true rfl⟩ (fun cy M1 H locs hp hM hS => ?_)
  obtain ⟨f, rfl, nf, hI, c1, c2⟩ := hp
  have hob1 : xset M out (xI (kA 0) L f) r = some (oRes r (nI sz) (nI sh)) := by rw [xset_n hro]; exact hob
  have hm1 : xset M out (xI (kA 0) L f) (r + 1) = some (xI (kA 0) L fm) := by rw [xset_n (Ne.symm hne)]; exact hm
  rw [V1, V2, Int.one_mul] at hI
  have hfl := V_lt f L
  have key : mm ≤ u + v → ∀ (f' : Nat → Int32) (cy' : Int), nn f' L → (V f' L : Int) + cy' * ((BB ^ L : Nat) : Int) = V f L - mm → V f' L = (u + v) % mm := by
    intro hge f' cy' nf' hI'
    have e1 : (u + v) % mm = u + v - mm := by
      rw [Nat.mod_eq_sub_mod hge, Nat.mod_eq_of_lt (by omega)]
    rw [e1]
    refine fit_mod (cy := cy' + cy.toInt) (T := (u : Int) + v - mm) ?_ (V_lt f' L) (by omega) (by omega)
    rw [Int.add_mul, ← hI]
    omega
  refine lv_lstore (lv' := [(4, .long cy), (0, .ref r), (1, .ref out), (2, .ref one), (3, .ref other)]) hx hb dX3_add_7 hl (by decide) rfl (fun ls hl => ?_)
  refine lv_lload hx hb dX3_add_9 (lv_at hl 0 rfl) ?_
  refine lv_lconst (v := 0) hx hb dX3_add_11 (by decide) ?_
  refine W.lcmp hx hb dX3_add_12 ?_
  refine lv_if_ne (tgt := 27) hx hb dX3_add_13 (by decide) (fun hc => ?_) (fun hc => ?_)
  · rw [lc0, l0] at hc
    have hge : mm ≤ u + v := by
      have h3 : cy.toInt = -1 ∨ cy.toInt = 1 := by omega
      rcases h3 with h3 | h3
      · rw [h3] at hI; omega
      · rw [h3] at hI; omega
    refine ad_27 C hM hS hob1 hm1 nf nm Vm hL (lv_sub hl [1, 2] rfl) (fun f' cy' H locs ls nf' hI' hM hS => ?_)
    exact r_vret C hM hS (⟨⟨f', xset_s, nf', key hge f' cy' nf' hI'⟩, frame1⟩) dX3_add_38
  · rw [lc0, l0] at hc
    rw [hc, Int.zero_mul, Int.add_zero] at hI
    refine lv_aload_n hx hb dX3_add_16 rfl (lv_at hl 2 rfl) ?_
    refine lv_aload_n hx hb dX3_add_17 rfl (lv_at hl 1 rfl) ?_
    refine x_get (v := .ref (r + 1)) hx hb hts in_X3_add_X3 hown hK hM (hob1) rfl 0 (by decide) (hts (.fieldLink RX3 9 "LimbCurves$Residues" "modulus" "[I") (by decide +kernel)) (fun _ h9 => h9) rfl dX3_add_18 ?_
    refine r_Si (As := [.ref out, .ref (r + 1)]) (rest := []) C hM hS (c_compare l D kA N0 (xset M out (xI (kA 0) L f)) out (r + 1) L f fm xset_s hm1 nf nm (by omega)) gX3_add_X1_compare rfl rfl rfl ⟨by decide +kernel, by decide +kernel, (by decide +kernel : (parseMethodDescriptor yX1_compare.desc).map (fun d => d.parameters.length) = some 2)⟩ ⟨Nat.le_of_ble_eq_true rfl, Nat.le_of_ble_eq_true rfl⟩ hl.1 rfl (Nat.le_of_ble_eq_true rfl) dX3_add_21 ⟨Nat.le_of_ble_eq_true rfl, Nat.le_of_ble_eq_true rfl⟩ (fun q M2 H locs hp hM hS => ?_)
    obtain ⟨eM, hcmp⟩ := hp
    rw [eM] at hM
    rw [Vm] at hcmp
    refine lv_if_lt (tgt := 38) hx hb dX3_add_24 (by decide) (fun hd2 => ?_) (fun hd2 => ?_)
    · have hlt : V f L < mm := by
        rcases hcmp with ⟨h3, h4⟩ | ⟨h3, h4⟩ | ⟨h3, h4⟩
        · rw [h3] at hd2; exact absurd hd2 (by decide)
        · exact h4
        · rw [h3] at hd2; exact absurd hd2 (by decide)
      exact r_vret C hM hS (⟨⟨f, xset_s, nf, by rw [Nat.mod_eq_of_lt (by omega)]; omega⟩, frame1⟩) dX3_add_38
    · have hge : mm ≤ u + v := by
        rcases hcmp with ⟨h3, h4⟩ | ⟨h3, h4⟩ | ⟨h3, h4⟩
        · omega
        · rw [h3] at hd2; exact absurd (by decide) hd2
        · omega
      refine ad_27 C hM hS hob1 hm1 nf nm Vm hL (lv_sub hl [1, 2] rfl) (fun f' cy' H locs ls nf' hI' hM hS => ?_)
      exact r_vret C hM hS (⟨⟨f', xset_s, nf', key hge f' cy' nf' hI'⟩, frame1⟩) dX3_add_38
set_option maxRecDepth 100000 in
theorem c_subtract (l : Launch) (D : va_G) (kA : Nat → ClassId) (N0 : Nat) (M : xM) (r L mm out one other u v : Nat) (sz sh : Int32) (hob : M r = some (oRes r sz sh)) (hmm : isN kA M (r + 1) L mm) (h0 : isA kA M out L) (h1 : isN kA M one L u) (h2 : isN kA M other L v) (hu : u < mm) (hv : v ≤ mm) (hne : out ≠ r + 1) (hL : L < 1000) : cV l yX3_subtract wsX3_subtract (xR 1) [.ref r, .ref out, .ref one, .ref other] D kA N0 M (fun M1 => isN kA M1 out L ((u + (mm - v)) % mm) ∧ ∀ b, b ≠ out → M1 b = M b) := by
  have hmlt := hmm.lt
  obtain ⟨fm, hm, nm, Vm⟩ := hmm
  have hro := h0.ne hob
  obtain ⟨f0, h0⟩ := h0
  obtain ⟨f1, h1, n1, V1⟩ := h1
  obtain ⟨f2, h2, n2, V2⟩ := h2
  refine r_met (cc := cX3_subtract) (maxL := 6) (ret := none) (by decide) rfl (Nat.le_of_ble_eq_true rfl) ?_
  intro p e s m below meth c ls C hM hnm hl
  obtain ⟨hx, hb, hml, hown, hts, hr, hlocks, hK, hN⟩ := id C
  have hS : va_S (xA N0) s.heap s.heap [] := va_S.rf
  have hl : lv_has ls 6 [(0, .ref r), (1, .ref out), (2, .ref one), (3, .ref other)] := hl
  refine lv_aload_n hx hb dX3_subtract_0 rfl (lv_at hl 1 rfl) ?_
  refine lv_aload_n hx hb dX3_subtract_1 rfl (lv_at hl 2 rfl) ?_
  refine lv_aload_n hx hb dX3_subtract_2 rfl (lv_at hl 3 rfl) ?_
  refine lv_iconst (v := (-1)) hx hb dX3_subtract_3 (by decide) ?_
  refine r_Sl (As := [.ref out, .ref one, .ref other, .int (-1)]) (rest := []) C hM hS (c_combine l D kA N0 M out one other L f0 f1 f2 (-1) (-1) h0 h1 h2 n1 n2 (by decide) (Or.inr rfl) (by omega)) gX3_subtract_X1_combine rfl rfl rfl ⟨by decide +kernel, by decide +kernel, (by decide +kernel : (parseMethodDescriptor yX1_combine.desc).map (fun d => d.parameters.length) = some 4)⟩ ⟨Nat.le_of_ble_eq_true rfl, Nat.le_of_ble_eq_true rfl⟩ hl.1 rfl (Nat.le_of_ble_eq_true rfl) dX3_subtract_4 ⟨Nat.le_of_ble_eq_true rfl, Nat.le_of_ble_eq_true rfl⟩ (fun cy M1 H locs hp hM hS => ?_)
  obtain ⟨f, rfl, nf, hI, c1, c2⟩ := hp
  have hob1 : xset M out (xI (kA 0) L f) r = some (oRes r sz sh) := by rw [xset_n hro]; exact hob
  have hm1 : xset M out (xI (kA 0) L f) (r + 1) = some (xI (kA 0) L fm) := by rw [xset_n (Ne.symm hne)]; exact hm
  rw [V1, V2] at hI
  have hfl := V_lt f L
  refine lv_lstore (lv' := [(4, .long cy), (0, .ref r), (1, .ref out), (2, .ref one), (3, .ref other)]) hx hb dX3_subtract_7 hl (by decide) rfl (fun ls hl => ?_)
  refine lv_lload hx hb dX3_subtract_9 (lv_at hl 0 rfl) ?_
  refine lv_lconst (v := 0) hx hb dX3_subtract_11 (by decide) ?_
  refine W.lcmp hx hb dX3_subtract_12 ?_
  refine lv_if_eq (tgt := 27) hx hb dX3_subtract_13 (by decide) (fun hc => ?_) (fun hc => ?_)
  · rw [lc0, l0] at hc
    rw [hc, Int.zero_mul, Int.add_zero] at hI
    refine r_vret C hM hS ⟨⟨f, xset_s, nf, ?_⟩, frame1⟩ dX3_subtract_27
    have e1 : u + (mm - v) = (u - v) + mm := by omega
    rw [e1, Nat.add_mod_right, Nat.mod_eq_of_lt (by omega)]
    omega
  · rw [lc0, l0] at hc
    refine lv_aload_n hx hb dX3_subtract_16 rfl (lv_at hl 2 rfl) ?_
    refine lv_aload_n hx hb dX3_subtract_17 rfl (lv_at hl 2 rfl) ?_
    refine lv_aload_n hx hb dX3_subtract_18 rfl (lv_at hl 1 rfl) ?_
    refine x_get (v := .ref (r + 1)) hx hb hts in_X3_subtract_X3 hown hK hM (hob1) rfl 0 (by decide) (hts (.fieldLink RX3 9 "LimbCurves$Residues" "modulus" "[I") (by decide +kernel)) (fun _ h9 => h9) rfl dX3_subtract_19 ?_
    refine lv_iconst (v := nI 1) hx hb dX3_subtract_22 (by decide) ?_
    refine r_Sl (As := [.ref out, .ref out, .ref (r + 1), .int (nI 1)]) (rest := []) C hM hS (c_combine l D kA N0 (xset M out (xI (kA 0) L f)) out out (r + 1) L f f fm (nI 1) 1 xset_s xset_s hm1 nf nm (by decide) (Or.inl rfl) (by omega)) gX3_subtract_X1_combine rfl rfl rfl ⟨by decide +kernel, by decide +kernel, (by decide +kernel : (parseMethodDescriptor yX1_combine.desc).map (fun d => d.parameters.length) = some 4)⟩ ⟨Nat.le_of_ble_eq_true rfl, Nat.le_of_ble_eq_true rfl⟩ hl.1 rfl (Nat.le_of_ble_eq_true rfl) dX3_subtract_23 ⟨Nat.le_of_ble_eq_true rfl, Nat.le_of_ble_eq_true rfl⟩ (fun cy2 M1 H locs hp hM hS => ?_)
    obtain ⟨f', rfl, nf', hI', c1', c2'⟩ := hp
    rw [xset_xset] at hM
    refine lv_pop2_2 hx hb dX3_subtract_26 rfl ?_
    refine r_vret C hM hS ⟨⟨f', xset_s, nf', ?_⟩, frame1⟩ dX3_subtract_27
    rw [Vm, Int.one_mul] at hI'
    have hlt : u < v := by
      have h3 : cy.toInt = -1 ∨ cy.toInt = 1 := by omega
      rcases h3 with h3 | h3
      · rw [h3] at hI; omega
      · rw [h3] at hI; omega
    rw [Nat.mod_eq_of_lt (by omega)]
    refine fit_mod (cy := cy2.toInt + cy.toInt) (T := (u : Int) - v + mm) ?_ (V_lt f' L) (by omega) (by omega)
    rw [Int.add_mul]
    omega
set_option maxRecDepth 100000 in
theorem c_twice (l : Launch) (D : va_G) (kA : Nat → ClassId) (N0 : Nat) (M : xM) (r L mm out one u : Nat) (hr0 : Rs kA M r L mm) (h0 : isA kA M out L) (h1 : isN kA M one L u) (hu : u < mm) (hne : out ≠ r + 1) (hL : L < 1000) : cV l yX3_twice wsX3_twice (xR 2) [.ref r, .ref out, .ref one] D kA N0 M (fun M1 => isN kA M1 out L ((u + u) % mm) ∧ ∀ b, b ≠ out → M1 b = M b) := by
  have hr1 := hr0
  obtain ⟨sz, sh, fm, fd, hob, -⟩ := hr0
  refine r_met (cc := cX3_twice) (maxL := 3) (ret := none) (by decide) rfl (Nat.le_of_ble_eq_true rfl) ?_
  intro p e s m below meth c ls C hM hnm hl
  obtain ⟨hx, hb, hml, hown, hts, hr, hlocks, hK, hN⟩ := id C
  have hS : va_S (xA N0) s.heap s.heap [] := va_S.rf
  have hl : lv_has ls 3 [(0, .ref r), (1, .ref out), (2, .ref one)] := hl
  refine lv_aload_n hx hb dX3_twice_0 rfl (lv_at hl 0 rfl) ?_
  refine lv_aload_n hx hb dX3_twice_1 rfl (lv_at hl 1 rfl) ?_
  refine lv_aload_n hx hb dX3_twice_2 rfl (lv_at hl 2 rfl) ?_
  refine lv_aload_n hx hb dX3_twice_3 rfl (lv_at hl 2 rfl) ?_
  refine r_Vv (As := [.ref out, .ref one, .ref one]) (rest := []) C hM hS (c_add l D kA N0 M r L mm out one one u u hr1 h0 h1 h1 hu hu hne hL) (hob) rfl gX3_twice_X3_add rfl rfl rfl ⟨rfl, by decide +kernel, by decide +kernel, (by decide +kernel : (parseMethodDescriptor yX3_add.desc).map (fun d => d.parameters.length) = some 3)⟩ ⟨Nat.le_of_ble_eq_true rfl, Nat.le_of_ble_eq_true rfl⟩ hl.1 rfl (Nat.le_of_ble_eq_true rfl) dX3_twice_4 ⟨Nat.le_of_ble_eq_true rfl, Nat.le_of_ble_eq_true rfl⟩ (fun M1 H locs hp hM hS => ?_)
  exact r_vret C hM hS (hp) dX3_twice_7
set_option maxRecDepth 100000 in
theorem c_thrice (l : Launch) (D : va_G) (kA : Nat → ClassId) (N0 : Nat) (M : xM) (r L mm out one u : Nat) (hr0 : Rs kA M r L mm) (hsp : isA kA M (r + 4) L) (h0 : isA kA M out L) (h1 : isN kA M one L u) (hu : u < mm) (hne : out ≠ r + 1) (hn4 : one ≠ r + 4) (hL : L < 1000) : cV l yX3_thrice wsX3_thrice (xR 2) [.ref r, .ref out, .ref one] D kA N0 M (fun M1 => isN kA M1 out L (((u + u) % mm + u) % mm) ∧ isA kA M1 (r + 4) L ∧ ∀ b, b ≠ out → b ≠ r + 4 → M1 b = M b) := by
  have hr1 := hr0
  have hpos := hr0.pos
  obtain ⟨sz, sh, fm, fd, hob, -⟩ := hr0
  refine r_met (cc := cX3_thrice) (maxL := 3) (ret := none) (by decide) rfl (Nat.le_of_ble_eq_true rfl) ?_
  intro p e s m below meth c ls C hM hnm hl
  obtain ⟨hx, hb, hml, hown, hts, hr, hlocks, hK, hN⟩ := id C
  have hS : va_S (xA N0) s.heap s.heap [] := va_S.rf
  have hl : lv_has ls 3 [(0, .ref r), (1, .ref out), (2, .ref one)] := hl
  refine lv_aload_n hx hb dX3_thrice_0 rfl (lv_at hl 0 rfl) ?_
  refine lv_aload_n hx hb dX3_thrice_1 rfl (lv_at hl 0 rfl) ?_
  refine x_get (v := .ref (r + 4)) hx hb hts in_X3_thrice_X3 hown hK hM (hob) rfl 3 (by decide) (hts (.fieldLink RX3 21 "LimbCurves$Residues" "spare" "[I") (by decide +kernel)) (fun _ h9 => h9) rfl dX3_thrice_2 ?_
  refine lv_aload_n hx hb dX3_thrice_5 rfl (lv_at hl 2 rfl) ?_
  refine lv_aload_n hx hb dX3_thrice_6 rfl (lv_at hl 2 rfl) ?_
  refine r_Vv (As := [.ref (r + 4), .ref one, .ref one]) (rest := []) C hM hS (c_add l D kA N0 M r L mm (r + 4) one one u u hr1 hsp h1 h1 hu hu (by omega) hL) (hob) rfl gX3_thrice_X3_add rfl rfl rfl ⟨rfl, by decide +kernel, by decide +kernel, (by decide +kernel : (parseMethodDescriptor yX3_add.desc).map (fun d => d.parameters.length) = some 3)⟩ ⟨Nat.le_of_ble_eq_true rfl, Nat.le_of_ble_eq_true rfl⟩ hl.1 rfl (Nat.le_of_ble_eq_true rfl) dX3_thrice_7 ⟨Nat.le_of_ble_eq_true rfl, Nat.le_of_ble_eq_true rfl⟩ (fun M1 H locs hp hM hS => ?_)
  obtain ⟨ha, hf⟩ := hp
  have hob1 : M1 r = some (oRes r (nI sz) (nI sh)) := by rw [hf r (by omega)]; exact hob
  have hr2 : Rs kA M1 r L mm := hr1.kept (hf _ (by omega)) (hf _ (by omega)) (hf _ (by omega))
  have h0' : isA kA M1 out L := by
    by_cases h : out = r + 4
    · rw [h]; exact ha.isA
    · exact h0.kept (hf _ h)
  refine lv_aload_n hx hb dX3_thrice_10 rfl (lv_at hl 0 rfl) ?_
  refine lv_aload_n hx hb dX3_thrice_11 rfl (lv_at hl 1 rfl) ?_
  refine lv_aload_n hx hb dX3_thrice_12 rfl (lv_at hl 0 rfl) ?_
  refine x_get (v := .ref (r + 4)) hx hb hts in_X3_thrice_X3 hown hK hM (hob1) rfl 3 (by decide) (hts (.fieldLink RX3 21 "LimbCurves$Residues" "spare" "[I") (by decide +kernel)) (fun _ h9 => h9) rfl dX3_thrice_13 ?_
  refine lv_aload_n hx hb dX3_thrice_16 rfl (lv_at hl 2 rfl) ?_
  refine r_Vv (As := [.ref out, .ref (r + 4), .ref one]) (rest := []) C hM hS (c_add l D kA N0 M1 r L mm out (r + 4) one ((u + u) % mm) u hr2 h0' ha (h1.kept (hf _ hn4)) (Nat.mod_lt _ hpos) hu hne hL) (hob1) rfl gX3_thrice_X3_add rfl rfl rfl ⟨rfl, by decide +kernel, by decide +kernel, (by decide +kernel : (parseMethodDescriptor yX3_add.desc).map (fun d => d.parameters.length) = some 3)⟩ ⟨Nat.le_of_ble_eq_true rfl, Nat.le_of_ble_eq_true rfl⟩ hl.1 rfl (Nat.le_of_ble_eq_true rfl) dX3_thrice_17 ⟨Nat.le_of_ble_eq_true rfl, Nat.le_of_ble_eq_true rfl⟩ (fun M2 H locs hp hM hS => ?_)
  obtain ⟨hb, hg⟩ := hp
  refine r_vret C hM hS ⟨hb, ?_, fun b h1 h2 => by rw [hg b h1, hf b h2]⟩ dX3_thrice_20
  by_cases h : r + 4 = out
  · rw [h]; exact hb.isA
  · exact ha.isA.kept (hg _ h)
end R1
end
section
-- windows of a row
theorem Vw_upd_out {f : Nat → Int32} {i n k : Nat} {x : Int32} (h : k < i ∨ i + n ≤ k) : Vw (upd f k x) i n = Vw f i n := Vw_congr (fun j hj => pk_un (by omega))
theorem Vw_upd_s {f : Nat → Int32} {i n : Nat} {x : Int32} : Vw (upd f (i + n) x) i (n + 1) = Vw f i n + dg x * BB ^ n := by
  rw [Vw_s, Vw_upd_out (Or.inr (Nat.le_refl _)), pk_us]
theorem V_digit0 {f : Nat → Int32} {n k : Nat} (h : V f n < BB ^ k) : ∀ j, k ≤ j → j < n → dg (f j) = 0 := by
  intro j hj hn
  rcases Nat.eq_zero_or_pos (dg (f j)) with h1 | h1
  · exact h1
  · have h2 := V_pos hn h1
    have h3 : BB ^ k ≤ BB ^ j := Nat.pow_le_pow_right BB_pos hj
    omega
theorem nn_zero {f : Nat → Int32} {n j : Nat} (h : nn f n) (hj : j < n) (h0 : dg (f j) = 0) : f j = 0 := by
  apply i_eqI
  have := nn_dg h hj
  rw [h0] at this
  rw [← this]
  rfl
/-- the divisor: the modulus shifted so that its highest limb is great -/
theorem dv_facts {f fd : Nat → Int32} {n k sh : Nat} (hk : 0 < k) (hkn : k ≤ n) (hz : ∀ j, k ≤ j → j < n → f j = 0) (ht : 0 < dg (f (k - 1))) (hs : sh = 31 - bl (dg (f (k - 1)))) (nd : nn fd n) (hd : ∀ j, j < n → fd j = nI (shl f 0 sh j)) : sh < 31 ∧ V fd n = V f n * 2 ^ sh ∧ (∀ j, k ≤ j → j < n → fd j = 0) ∧ 1073741824 ≤ dg (fd (k - 1)) := by
  have h1 := bl_row hk hkn hz ht
  have h2 := dg_lt (f (k - 1))
  have h3 : bl (dg (f (k - 1))) ≤ 31 := bl_le h2
  have h4 := bl_pos ht
  have hVpos : 0 < V f n := by
    have := V_pos (f := f) (n := n) (k := k - 1) (by omega) ht
    have := BBp (k - 1)
    omega
  have e1 : V fd n = shV f 0 sh n := by
    have : V fd n = V (fun i => nI (shl f 0 sh i)) n := V_congr hd
    have e : ∀ n, V (fun i => nI (shl f 0 sh i)) n = shV f 0 sh n := by
      intro n
      induction n with
      | zero => rfl
      | succ n ih =>
        rw [V_s, ih, dg_nI (shl_lt f 0 sh n)]
        rfl
    rw [this, e]
  have h5 := bl_hi (V f n)
  have h6 := bl_lo hVpos
  rw [h1] at h5 h6
  have hp := Nat.two_pow_pos sh
  have e2 : V f n * 2 ^ sh < BB ^ k := by
    have q : V f n * 2 ^ sh < 2 ^ (31 * (k - 1) + bl (dg (f (k - 1)))) * 2 ^ sh := Nat.mul_lt_mul_of_pos_right h5 hp
    rw [← Nat.pow_add] at q
    have e : 31 * (k - 1) + bl (dg (f (k - 1))) + sh = 31 * k := by omega
    rw [e, ← BB_two] at q
    exact q
  have hkn2 : BB ^ k ≤ BB ^ n := Nat.pow_le_pow_right BB_pos hkn
  have e3 : V fd n = V f n * 2 ^ sh := by
    rw [e1, shV_eq (by omega), Nat.pow_zero, Nat.one_mul, Nat.mod_eq_of_lt (by omega)]
  have hz2 : ∀ j, k ≤ j → j < n → fd j = 0 := fun j a b => nn_zero nd b (V_digit0 (by rw [e3]; exact e2) j a b)
  refine ⟨by omega, e3, hz2, ?_⟩
  have e4 : V fd n = V fd (k - 1) + dg (fd (k - 1)) * BB ^ (k - 1) := by
    rw [V_top hkn hz2]
    obtain ⟨j, rfl⟩ : ∃ j, k = j + 1 := ⟨k - 1, by omega⟩
    rw [V_s, Nat.add_sub_cancel]
  have h7 := V_lt fd (k - 1)
  have h8 : 2 ^ (31 * (k - 1) + bl (dg (f (k - 1))) - 1) * 2 ^ sh ≤ V f n * 2 ^ sh := Nat.mul_le_mul_right _ h6
  rw [← Nat.pow_add] at h8
  have e5 : 31 * (k - 1) + bl (dg (f (k - 1))) - 1 + sh = 30 + 31 * (k - 1) := by omega
  rw [e5, ← e3, e4, Nat.pow_add, ← BB_two] at h8
  rcases Nat.lt_or_ge (dg (fd (k - 1))) (2 ^ 30) with h9 | h9
  · have h10 : (dg (fd (k - 1)) + 1) * BB ^ (k - 1) ≤ 2 ^ 30 * BB ^ (k - 1) := Nat.mul_le_mul_right _ h9
    rw [Nat.add_mul, Nat.one_mul] at h10
    omega
  · exact h9
theorem one_val {a k : Nat} (h1 : a < BB) (hk : k < 31) : ((lN a <<< ((nI k).toInt64 &&& 63)) &&& 2147483647).toInt32 = nI (a * 2 ^ k % BB) := by
  have hB : BB = 2147483648 := rfl
  have h2 : 2 ^ k < 2 ^ 31 := Nat.pow_lt_pow_right (by decide) hk
  have h3 : a * 2 ^ k < 2 ^ 64 := by
    have : a * 2 ^ k ≤ a * 2 ^ 31 := Nat.mul_le_mul_left _ (by omega)
    omega
  have e2 : (2147483647 : Int64) = lN (2 ^ 31 - 1) := by decide
  rw [wb_shl a (by omega), e2, wb_mask h3 (by decide), lN_i]
  rfl
/-- limb i of the row g shifted left inside one row -/
theorem shl_s (g : Nat → Int32) (sh i : Nat) : shl g 0 sh (i + 1) = (dg (g (i + 1)) * BB + dg (g i)) / 2 ^ (31 - sh) % BB := by
  unfold shl
  rw [if_pos (Nat.zero_le _), if_pos (by omega)]
  rfl
theorem shl_0 (g : Nat → Int32) {sh : Nat} (hs : sh < 31) : shl g 0 sh 0 = dg (g 0) * 2 ^ sh % BB := by
  unfold shl
  rw [if_pos (Nat.le_refl _), if_neg (by omega)]
  show (dg (g 0) * BB + 0) / 2 ^ (31 - sh) % BB = _
  rw [sh_limb hs BB_pos, Nat.zero_div, Nat.add_zero]
theorem V_sh {f g : Nat → Int32} {sh n : Nat} (hs : sh < 31) (h : ∀ j, j ≤ n → f j = nI (shl g 0 sh j)) (h0 : g n = 0) : V f (n + 1) = V g n * 2 ^ sh := by
  have e1 : V f (n + 1) = V (fun i => nI (shl g 0 sh i)) (n + 1) := V_congr (fun j hj => h j (by omega))
  have e : ∀ n, V (fun i => nI (shl g 0 sh i)) n = shV g 0 sh n := by
    intro n
    induction n with
    | zero => rfl
    | succ n ih =>
      rw [V_s, ih, dg_nI (shl_lt g 0 sh n)]
      rfl
  rw [e1, e, shV_eq hs, Nat.pow_zero, Nat.one_mul, V_s, h0, dg_0, Nat.zero_mul, Nat.add_zero]
  apply Nat.mod_eq_of_lt
  have h1 := V_lt g n
  have h2 : 2 ^ sh ≤ BB := by
    have : 2 ^ sh ≤ 2 ^ 31 := Nat.pow_le_pow_right (by decide) (by omega)
    exact this
  rw [Nat.pow_succ]
  exact Nat.lt_of_lt_of_le (Nat.mul_lt_mul_of_pos_right h1 (Nat.two_pow_pos sh)) (Nat.mul_le_mul_left _ h2)
/-- shifted right: the limbs' sum -/
theorem V_ush {f o : Nat → Int32} {sh : Nat} (hs : sh < 31) (h : ∀ j, o j = nI ((dg (f (j + 1)) * BB + dg (f j)) / 2 ^ sh % BB)) : ∀ n, 2 ^ sh * V o n + dg (f 0) % 2 ^ sh = V f n + dg (f n) % 2 ^ sh * BB ^ n := by
  intro n
  induction n with
  | zero => rw [V_0, V_0, Nat.mul_zero, Nat.pow_zero, Nat.mul_one]
  | succ n ih =>
    have h1 : dg (o n) = dg (f n) / 2 ^ sh + dg (f (n + 1)) % 2 ^ sh * 2 ^ (31 - sh) := by
      rw [h n, dg_nI (show _ < BB from Nat.mod_lt _ BB_pos), ush_limb hs (dg_lt _)]
    have h2 := Nat.div_add_mod (dg (f n)) (2 ^ sh)
    have h3 : 2 ^ sh * 2 ^ (31 - sh) = BB := by
      rw [← Nat.pow_add, show sh + (31 - sh) = 31 by omega]
      rfl
    rw [V_s, V_s, Nat.mul_add, h1]
    have e1 : 2 ^ sh * ((dg (f n) / 2 ^ sh + dg (f (n + 1)) % 2 ^ sh * 2 ^ (31 - sh)) * BB ^ n) = 2 ^ sh * (dg (f n) / 2 ^ sh) * BB ^ n + dg (f (n + 1)) % 2 ^ sh * BB ^ (n + 1) := by
      rw [Nat.add_mul, Nat.mul_add, Nat.pow_succ, ← h3]
      congr 1
      · rw [Nat.mul_assoc]
      · simp only [Nat.mul_assoc, Nat.mul_comm, Nat.mul_left_comm]
    have e2 : dg (f n) * BB ^ n = 2 ^ sh * (dg (f n) / 2 ^ sh) * BB ^ n + dg (f n) % 2 ^ sh * BB ^ n := by
      rw [← Nat.add_mul, h2]
    rw [e1, e2]
    omega
theorem V_ushr {f o : Nat → Int32} {sh n v : Nat} (hs : sh < 31) (h : ∀ j, o j = nI ((dg (f (j + 1)) * BB + dg (f j)) / 2 ^ sh % BB)) (h0 : f n = 0) (hv : V f n = v * 2 ^ sh) (hn : 0 < n) : V o n = v := by
  have h1 := V_ush hs h n
  rw [h0, dg_0, Nat.zero_mod, Nat.zero_mul, Nat.add_zero, hv] at h1
  have hp := Nat.two_pow_pos sh
  have h2 : dg (f 0) % 2 ^ sh < 2 ^ sh := Nat.mod_lt _ hp
  have h3 : (2 ^ sh * V o n + dg (f 0) % 2 ^ sh) / 2 ^ sh = V o n := by
    rw [Nat.add_comm, Nat.add_mul_div_left _ _ hp, Nat.div_eq_of_lt h2, Nat.zero_add]
  rw [← h3, h1, Nat.mul_div_cancel _ hp]
end
