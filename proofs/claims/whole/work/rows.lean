section
-- INTS AND LONGS BY THEIR NUMBERS: what an operation's answer is, as an Int
theorem bm64 {a : Int} (h1 : -9223372036854775808 ≤ a) (h2 : a < 9223372036854775808) : a.bmod (2 ^ 64) = a := by
  rw [Int.bmod_def]
  split <;> omega
theorem bm32 {a : Int} (h1 : -2147483648 ≤ a) (h2 : a < 2147483648) : a.bmod (2 ^ 32) = a := by
  rw [Int.bmod_def]
  split <;> omega
theorem l_add {x y : Int64} {a b : Int} (hx : x.toInt = a) (hy : y.toInt = b) (h1 : -9223372036854775808 ≤ a + b) (h2 : a + b < 9223372036854775808) : (x + y).toInt = a + b := by
  rw [Int64.toInt_add, hx, hy, bm64 h1 h2]
theorem l_sub {x y : Int64} {a b : Int} (hx : x.toInt = a) (hy : y.toInt = b) (h1 : -9223372036854775808 ≤ a - b) (h2 : a - b < 9223372036854775808) : (x - y).toInt = a - b := by
  rw [Int64.toInt_sub, hx, hy, bm64 h1 h2]
theorem l_mul {x y : Int64} {a b : Int} (hx : x.toInt = a) (hy : y.toInt = b) (h1 : -9223372036854775808 ≤ a * b) (h2 : a * b < 9223372036854775808) : (x * y).toInt = a * b := by
  rw [Int64.toInt_mul, hx, hy, bm64 h1 h2]
theorem l_i2l {x : Int32} {a : Int} (hx : x.toInt = a) : x.toInt64.toInt = a := by
  rw [Int32.toInt_toInt64, hx]
theorem l_l2i {x : Int64} {a : Int} (hx : x.toInt = a) (h1 : -2147483648 ≤ a) (h2 : a < 2147483648) : x.toInt32.toInt = a := by
  rw [Int64.toInt_toInt32, hx, bm32 h1 h2]
theorem i_add {x y : Int32} {a b : Int} (hx : x.toInt = a) (hy : y.toInt = b) (h1 : -2147483648 ≤ a + b) (h2 : a + b < 2147483648) : (x + y).toInt = a + b := by
  rw [Int32.toInt_add, hx, hy, bm32 h1 h2]
theorem i_sub {x y : Int32} {a b : Int} (hx : x.toInt = a) (hy : y.toInt = b) (h1 : -2147483648 ≤ a - b) (h2 : a - b < 2147483648) : (x - y).toInt = a - b := by
  rw [Int32.toInt_sub, hx, hy, bm32 h1 h2]
theorem i_mul {x y : Int32} {a b : Int} (hx : x.toInt = a) (hy : y.toInt = b) (h1 : -2147483648 ≤ a * b) (h2 : a * b < 2147483648) : (x * y).toInt = a * b := by
  rw [Int32.toInt_mul, hx, hy, bm32 h1 h2]
/-- a long's number, modulo a power of two -/
theorem l_tn (x : Int64) : x.toInt % 18446744073709551616 = (x.toBitVec.toNat : Int) := by
  have h : x.toInt = x.toBitVec.toInt := rfl
  have h2 := x.toBitVec.isLt
  rw [h, BitVec.toInt_eq_toNat_bmod, Int.bmod_def]
  split <;> omega
theorem l_and31 (x : Int64) : (x &&& 2147483647).toInt = x.toInt % 2147483648 := by
  have h0 := l_tn x
  have h1 : (x &&& 2147483647).toBitVec.toNat = x.toBitVec.toNat % 2147483648 := by
    rw [Int64.toBitVec_and, BitVec.toNat_and]
    exact Nat.and_two_pow_sub_one_eq_mod _ 31
  have h2 := l_tn (x &&& 2147483647)
  have h3 : (x &&& 2147483647).toInt = (x &&& 2147483647).toBitVec.toInt := rfl
  rw [BitVec.toInt_eq_toNat_bmod, h1, Int.bmod_def] at h3
  rw [h3]
  split <;> omega
theorem l_shr (x s : Int64) (k : Nat) (hs : (s.toBitVec.smod 64).toNat = k) : (x >>> s).toInt = x.toInt / ((2 ^ k : Nat) : Int) := by
  rw [← Int.shiftRight_eq_div_pow]
  show (x.toBitVec.sshiftRight (s.toBitVec.smod 64).toNat).toInt = _
  rw [hs, BitVec.toInt_sshiftRight]
  rfl
theorem l_shr31 (x : Int64) : (x >>> ((31 : Int32).toInt64 &&& 63)).toInt = x.toInt / 2147483648 := l_shr x _ 31 (by decide)
theorem l_eqI {x y : Int64} (h : x.toInt = y.toInt) : x = y := Int64.toInt_inj.mp h
theorem i_eqI {x y : Int32} (h : x.toInt = y.toInt) : x = y := Int32.toInt_inj.mp h
theorem i_lo (x : Int32) : -2147483648 ≤ x.toInt := Int32.le_toInt x
theorem i_hi (x : Int32) : x.toInt < 2147483648 := Int32.toInt_lt x
theorem l_lo (x : Int64) : -9223372036854775808 ≤ x.toInt := Int64.le_toInt x
theorem l_hi (x : Int64) : x.toInt < 9223372036854775808 := Int64.toInt_lt x
theorem i_le {x y : Int32} : x ≤ y ↔ x.toInt ≤ y.toInt := Int32.le_iff_toInt_le
theorem i_lt {x y : Int32} : x < y ↔ x.toInt < y.toInt := Int32.lt_iff_toInt_lt
theorem l_le {x y : Int64} : x ≤ y ↔ x.toInt ≤ y.toInt := Int64.le_iff_toInt_le
theorem l_lt {x y : Int64} : x < y ↔ x.toInt < y.toInt := Int64.lt_iff_toInt_lt
theorem i_cl {x : Int32} (h : 0 ≤ x.toInt) : (x.toNatClampNeg : Int) = x.toInt := by
  show ((x.toInt.toNat : Nat) : Int) = _
  omega
theorem i_clN {x : Int32} {n : Nat} (h : x.toInt = n) : x.toNatClampNeg = n := by
  show x.toInt.toNat = n
  omega
theorem i_nI {x : Int32} {n : Nat} (h : x.toInt = n) : x = nI n := by
  have h2 := i_hi x
  apply i_eqI
  rw [h, nI_toInt (by omega)]
end
section
-- NUMBERS IN ROWS OF LIMBS: Vw f i n is the number that the n limbs from place i on stand for
def BB : Nat := 2147483648
theorem BB_pos : 0 < BB := by decide
theorem BBp (n : Nat) : 0 < BB ^ n := Nat.pow_pos BB_pos
def dg (x : Int32) : Nat := x.toInt.toNat
theorem dg_lt (x : Int32) : dg x < BB := by
  have := i_hi x
  unfold dg BB
  omega
theorem dg_int {x : Int32} (h : 0 ≤ x.toInt) : (dg x : Int) = x.toInt := by
  unfold dg
  omega
def Vw (f : Nat → Int32) (i : Nat) : Nat → Nat
  | 0 => 0
  | n + 1 => Vw f i n + dg (f (i + n)) * BB ^ n
def V (f : Nat → Int32) (n : Nat) : Nat := Vw f 0 n
theorem Vw_0 (f : Nat → Int32) (i : Nat) : Vw f i 0 = 0 := rfl
theorem Vw_s (f : Nat → Int32) (i n : Nat) : Vw f i (n + 1) = Vw f i n + dg (f (i + n)) * BB ^ n := rfl
theorem V_0 (f : Nat → Int32) : V f 0 = 0 := rfl
theorem V_s (f : Nat → Int32) (n : Nat) : V f (n + 1) = V f n + dg (f n) * BB ^ n := by
  unfold V
  rw [Vw_s, Nat.zero_add]
theorem Vw_congr {f g : Nat → Int32} {i : Nat} : ∀ {n : Nat}, (∀ j, j < n → f (i + j) = g (i + j)) → Vw f i n = Vw g i n := by
  intro n
  induction n with
  | zero => intro _; rfl
  | succ n ih =>
    intro h
    rw [Vw_s, Vw_s, ih (fun j hj => h j (by omega)), h n (by omega)]
theorem V_congr {f g : Nat → Int32} {n : Nat} (h : ∀ j, j < n → f j = g j) : V f n = V g n := Vw_congr (fun j hj => by rw [Nat.zero_add]; exact h j hj)
theorem Vw_lt (f : Nat → Int32) (i : Nat) : ∀ n, Vw f i n < BB ^ n := by
  intro n
  induction n with
  | zero => exact Nat.zero_lt_one
  | succ n ih =>
    rw [Vw_s, Nat.pow_succ]
    have h1 : dg (f (i + n)) + 1 ≤ BB := dg_lt _
    have h2 : (dg (f (i + n)) + 1) * BB ^ n ≤ BB * BB ^ n := Nat.mul_le_mul_right _ h1
    rw [Nat.add_mul, Nat.one_mul] at h2
    rw [Nat.mul_comm (BB ^ n) BB]
    omega
theorem V_lt (f : Nat → Int32) (n : Nat) : V f n < BB ^ n := Vw_lt f 0 n
theorem Vw_split (f : Nat → Int32) (i a : Nat) : ∀ b, Vw f i (a + b) = Vw f i a + BB ^ a * Vw f (i + a) b := by
  intro b
  induction b with
  | zero => rw [Vw_0, Nat.mul_zero]; rfl
  | succ b ih =>
    rw [← Nat.add_assoc, Vw_s, ih, Vw_s, Nat.mul_add, Nat.pow_add, ← Nat.add_assoc i a b, Nat.mul_left_comm (BB ^ a)]
    omega
theorem V_split (f : Nat → Int32) (a b : Nat) : V f (a + b) = V f a + BB ^ a * Vw f a b := by
  unfold V
  rw [Vw_split, Nat.zero_add]
theorem Vw_head (f : Nat → Int32) (i n : Nat) : Vw f i (n + 1) = dg (f i) + BB * Vw f (i + 1) n := by
  rw [Nat.add_comm n 1, Vw_split, Vw_s, Vw_0, Nat.pow_zero, Nat.pow_one]
  simp
theorem Vw_zero {f : Nat → Int32} {i : Nat} : ∀ {n : Nat}, (∀ j, j < n → f (i + j) = 0) → Vw f i n = 0 := by
  intro n
  induction n with
  | zero => intro _; rfl
  | succ n ih =>
    intro h
    rw [Vw_s, ih (fun j hj => h j (by omega)), h n (by omega)]
    simp [dg]
theorem dg_0 : dg 0 = 0 := rfl
theorem V_zero {f : Nat → Int32} {n : Nat} (h : ∀ j, j < n → f j = 0) : V f n = 0 := Vw_zero (fun j hj => by rw [Nat.zero_add]; exact h j hj)
/-- a row above whose place k only 0 stands -/
theorem V_top {f : Nat → Int32} {k n : Nat} (hk : k ≤ n) (h : ∀ j, k ≤ j → j < n → f j = 0) : V f n = V f k := by
  obtain ⟨b, rfl⟩ : ∃ b, n = k + b := ⟨n - k, by omega⟩
  rw [V_split, Vw_zero (fun j hj => h (k + j) (by omega) (by omega))]
  simp
theorem V_pos {f : Nat → Int32} {k n : Nat} (hk : k < n) (h : 0 < dg (f k)) : BB ^ k ≤ V f n := by
  obtain ⟨b, rfl⟩ : ∃ b, n = (k + 1) + b := ⟨n - (k + 1), by omega⟩
  rw [V_split f (k + 1) b, V_s f k]
  have : 1 * BB ^ k ≤ dg (f k) * BB ^ k := Nat.mul_le_mul_right _ h
  omega
theorem V_eq0 {f : Nat → Int32} {n : Nat} (h : V f n = 0) : ∀ j, j < n → dg (f j) = 0 := by
  intro j hj
  rcases Nat.eq_zero_or_pos (dg (f j)) with h1 | h1
  · exact h1
  · have h2 := V_pos hj h1
    have h3 := BBp j
    omega
theorem V_upd_ge {f : Nat → Int32} {k n : Nat} {x : Int32} (h : n ≤ k) : V (upd f k x) n = V f n := V_congr (fun j hj => pk_un (by omega))
/-- above place k the rows are the same, at k the first is smaller: its number is smaller -/
theorem V_less {f g : Nat → Int32} {k n : Nat} (hk : k < n) (he : ∀ j, k < j → j < n → f j = g j) (h : dg (f k) < dg (g k)) : V f n < V g n := by
  obtain ⟨b, rfl⟩ : ∃ b, n = (k + 1) + b := ⟨n - (k + 1), by omega⟩
  rw [V_split f (k + 1) b, V_split g (k + 1) b, V_s f k, V_s g k, Vw_congr (f := f) (g := g) (fun j hj => he (k + 1 + j) (by omega) (by omega))]
  have h1 := V_lt f k
  have h2 : (dg (f k) + 1) * BB ^ k ≤ dg (g k) * BB ^ k := Nat.mul_le_mul_right _ h
  rw [Nat.add_mul, Nat.one_mul] at h2
  omega
theorem V_inj {f g : Nat → Int32} : ∀ {n : Nat}, V f n = V g n → ∀ j, j < n → dg (f j) = dg (g j) := by
  intro n
  induction n with
  | zero => intro _ j hj; omega
  | succ n ih =>
    intro h j hj
    rw [V_s, V_s] at h
    have h1 := V_lt f n
    have h2 := V_lt g n
    have h3 : dg (f n) = dg (g n) := by
      have e1 : (V f n + dg (f n) * BB ^ n) / BB ^ n = dg (f n) := by
        rw [Nat.add_mul_div_right _ _ (BBp n), Nat.div_eq_of_lt h1, Nat.zero_add]
      have e2 : (V g n + dg (g n) * BB ^ n) / BB ^ n = dg (g n) := by
        rw [Nat.add_mul_div_right _ _ (BBp n), Nat.div_eq_of_lt h2, Nat.zero_add]
      rw [← e1, ← e2, h]
    rcases Nat.lt_or_ge j n with h4 | h4
    · rw [h3] at h
      exact ih (by omega) j h4
    · rw [show j = n by omega]
      exact h3
end
section
-- LONG DIVISION: the guess from the two highest limbs is too great by 2 at most, never too small
theorem kn_guess {U Dv d1 head P r d' : Nat} (hU : U = head * P + r) (hr : r < P) (hD : Dv = d1 * P + d') (hd : d' < P) (h1 : BB ≤ 2 * d1) (hlt : U < Dv * BB) : U / Dv ≤ min (head / d1) (BB - 1) ∧ min (head / d1) (BB - 1) ≤ U / Dv + 2 := by
  have hB : 0 < BB := BB_pos
  have hd0 : 0 < d1 := by omega
  have hP : 0 < P := by omega
  have hDv : 0 < Dv := by
    rw [hD]
    have := Nat.mul_pos hd0 hP
    omega
  constructor
  · apply Nat.le_min.mpr
    constructor
    · rw [Nat.le_div_iff_mul_le hd0]
      have h2 : U / Dv * Dv ≤ U := Nat.div_mul_le_self _ _
      have h3 : U / Dv * (d1 * P) ≤ U / Dv * Dv := Nat.mul_le_mul_left _ (by omega)
      rw [← Nat.mul_assoc] at h3
      have h4 : (U / Dv * d1) * P < (head + 1) * P := by
        rw [Nat.add_mul head, Nat.one_mul]
        omega
      have h5 := Nat.lt_of_mul_lt_mul_right h4
      omega
    · have h2 : U / Dv < BB := (Nat.div_lt_iff_lt_mul hDv).mpr (by rw [Nat.mul_comm]; exact hlt)
      omega
  · generalize hg : min (head / d1) (BB - 1) = g
    have g1 : g ≤ head / d1 := by rw [← hg]; exact Nat.min_le_left _ _
    have g2 : g ≤ BB - 1 := by rw [← hg]; exact Nat.min_le_right _ _
    have g3 : g * d1 ≤ head := (Nat.le_div_iff_mul_le hd0).mp g1
    rcases Nat.lt_or_ge g 3 with h | h
    · exact Nat.le_trans (Nat.le_of_lt_succ h) (Nat.le_add_left _ _)
    · obtain ⟨k, rfl⟩ : ∃ k, g = k + 2 := ⟨g - 2, by omega⟩
      have e1 : (k + 2) * Dv = (k + 2) * d1 * P + (k + 2) * d' := by rw [hD, Nat.mul_add, Nat.mul_assoc]
      have e2 : (k + 2) * Dv = k * Dv + 2 * Dv := Nat.add_mul _ _ _
      have e3 : (k + 2) * d1 * P ≤ head * P := Nat.mul_le_mul_right _ g3
      have e4 : (k + 2) * d' ≤ (k + 2) * P := Nat.mul_le_mul_left _ (by omega)
      have e5 : (k + 2) * P ≤ BB * P := Nat.mul_le_mul_right _ (by omega)
      have e6 : BB * P ≤ 2 * d1 * P := Nat.mul_le_mul_right _ h1
      have e7 : 2 * d1 * P = 2 * (d1 * P) := Nat.mul_assoc _ _ _
      have hk : k ≤ U / Dv := (Nat.le_div_iff_mul_le hDv).mpr (by omega)
      omega
/-- what is left of U when a guess that is too great by j times is taken away, and put back j times -/
theorem kn_rest {U Dv g : Nat} (h0 : 0 < Dv) (h1 : U / Dv ≤ g) : ((U : Int) - g * Dv) + ((g - U / Dv : Nat) : Int) * Dv = ((U % Dv : Nat) : Int) := by
  have e := Nat.div_add_mod U Dv
  obtain ⟨j, rfl⟩ : ∃ j, g = U / Dv + j := ⟨g - U / Dv, by omega⟩
  rw [Nat.add_sub_cancel_left]
  have e2 : ((Dv * (U / Dv) + U % Dv : Nat) : Int) = (U : Int) := by rw [e]
  have e3 : ((U / Dv + j : Nat) : Int) * Dv = (Dv : Int) * ((U / Dv : Nat) : Int) + (j : Int) * Dv := by
    rw [Int.natCast_add, Int.add_mul, Int.mul_comm ((U / Dv : Nat) : Int)]
  rw [e3, ← e2, Int.natCast_add, Int.natCast_mul]
  omega
-- BITS
def bl (n : Nat) : Nat := if n = 0 then 0 else n.log2 + 1
theorem bl_0 : bl 0 = 0 := rfl
theorem bl_hi (n : Nat) : n < 2 ^ bl n := by
  unfold bl
  split
  · omega
  · exact Nat.lt_log2_self
theorem bl_lo {n : Nat} (h : 0 < n) : 2 ^ (bl n - 1) ≤ n := by
  unfold bl
  rw [if_neg (by omega)]
  exact Nat.log2_self_le (by omega)
theorem bl_pos {n : Nat} (h : 0 < n) : 0 < bl n := by
  unfold bl
  rw [if_neg (by omega)]
  omega
theorem bl_of {n k : Nat} (h1 : 2 ^ k ≤ n) (h2 : n < 2 ^ (k + 1)) : bl n = k + 1 := by
  have hn : 0 < n := Nat.lt_of_lt_of_le (Nat.two_pow_pos k) h1
  have a := bl_hi n
  have b := bl_lo hn
  have c := bl_pos hn
  have d : k < bl n := (Nat.pow_lt_pow_iff_right (by decide : 1 < 2)).mp (Nat.lt_of_le_of_lt h1 a)
  have e : bl n - 1 < k + 1 := (Nat.pow_lt_pow_iff_right (by decide : 1 < 2)).mp (Nat.lt_of_le_of_lt b h2)
  omega
theorem bl_le {n k : Nat} (h : n < 2 ^ k) : bl n ≤ k := by
  rcases Nat.eq_zero_or_pos n with h0 | h0
  · rw [h0, bl_0]; omega
  · have b := bl_lo h0
    have c := bl_pos h0
    have e : bl n - 1 < k := (Nat.pow_lt_pow_iff_right (by decide : 1 < 2)).mp (Nat.lt_of_le_of_lt b h)
    omega
theorem bl_mono {m n : Nat} (h : m ≤ n) : bl m ≤ bl n := bl_le (Nat.lt_of_le_of_lt h (bl_hi n))
theorem BB_two (n : Nat) : BB ^ n = 2 ^ (31 * n) := by rw [Nat.pow_mul]; rfl
-- A ROW SHIFTED: limb by limb. hd: the limb's part that stays, cy: what goes over to the next
theorem sh_limb {hi lo r : Nat} (hr : r < 31) (hl : lo < BB) : ((hi * BB + lo) / 2 ^ (31 - r)) % BB = hi * 2 ^ r % BB + lo / 2 ^ (31 - r) := by
  have e1 : BB = 2 ^ r * 2 ^ (31 - r) := by
    rw [← Nat.pow_add, show r + (31 - r) = 31 by omega]
    rfl
  have hp : 0 < 2 ^ (31 - r) := Nat.two_pow_pos _
  have hq : 0 < 2 ^ r := Nat.two_pow_pos _
  have e2 : (hi * BB + lo) / 2 ^ (31 - r) = hi * 2 ^ r + lo / 2 ^ (31 - r) := by
    rw [e1, ← Nat.mul_assoc, Nat.add_comm, Nat.add_mul_div_right _ _ hp, Nat.add_comm]
  rw [e2]
  have h3 : lo / 2 ^ (31 - r) < 2 ^ r := (Nat.div_lt_iff_lt_mul hp).mpr (by rw [← e1]; exact hl)
  have e4 : hi * 2 ^ r % BB = hi % 2 ^ (31 - r) * 2 ^ r := by
    rw [e1, Nat.mul_comm (2 ^ r) (2 ^ (31 - r)), Nat.mul_mod_mul_right]
  have h5 : hi % 2 ^ (31 - r) < 2 ^ (31 - r) := Nat.mod_lt _ hp
  have h6 : (hi % 2 ^ (31 - r) + 1) * 2 ^ r ≤ 2 ^ (31 - r) * 2 ^ r := Nat.mul_le_mul_right _ h5
  rw [Nat.add_mul, Nat.one_mul, Nat.mul_comm (2 ^ (31 - r)), ← e1, ← e4] at h6
  rw [Nat.add_mod, Nat.mod_eq_of_lt (a := lo / 2 ^ (31 - r)) (by
    have : 2 ^ r ≤ BB := by rw [e1]; exact Nat.le_mul_of_pos_right _ hp
    omega)]
  exact Nat.mod_eq_of_lt (by omega)
theorem sh_whole {a r : Nat} (hr : r < 31) : a * 2 ^ r = a * 2 ^ r % BB + a / 2 ^ (31 - r) * BB := by
  have e1 : BB = 2 ^ (31 - r) * 2 ^ r := by
    rw [← Nat.pow_add, show (31 - r) + r = 31 by omega]
    rfl
  have hq : 0 < 2 ^ r := Nat.two_pow_pos _
  have h := Nat.mod_add_div (a * 2 ^ r) BB
  have e2 : a * 2 ^ r / BB = a / 2 ^ (31 - r) := by
    rw [e1, Nat.mul_div_mul_right _ _ hq]
  rw [e2, Nat.mul_comm BB] at h
  exact h.symm
/-- limb i of the row times 2 to the q limbs and r bits -/
def shl (f : Nat → Int32) (q r i : Nat) : Nat := ((if q ≤ i then dg (f (i - q)) else 0) * BB + (if q + 1 ≤ i then dg (f (i - q - 1)) else 0)) / 2 ^ (31 - r) % BB
def shV (f : Nat → Int32) (q r : Nat) : Nat → Nat
  | 0 => 0
  | n + 1 => shV f q r n + shl f q r n * BB ^ n
theorem shl_lt (f : Nat → Int32) (q r i : Nat) : shl f q r i < BB := Nat.mod_lt _ BB_pos
theorem shV_low {f : Nat → Int32} {q r : Nat} : ∀ {n : Nat}, n ≤ q → shV f q r n = 0 := by
  intro n
  induction n with
  | zero => intro _; rfl
  | succ n ih =>
    intro h
    show shV f q r n + _ = 0
    rw [ih (by omega)]
    unfold shl
    rw [if_neg (by omega), if_neg (by omega)]
    simp
theorem shV_up {f : Nat → Int32} {q r : Nat} (hr : r < 31) : ∀ k : Nat, shV f q r (q + k) + (if k = 0 then 0 else dg (f (k - 1)) / 2 ^ (31 - r)) * BB ^ (q + k) = V f k * (BB ^ q * 2 ^ r) := by
  intro k
  induction k with
  | zero =>
    rw [Nat.add_zero, shV_low (Nat.le_refl _), V_0]
    simp
  | succ k ih =>
    rw [if_neg (by omega), Nat.add_sub_cancel]
    have e0 : shV f q r (q + (k + 1)) = shV f q r (q + k) + shl f q r (q + k) * BB ^ (q + k) := rfl
    have e1 : shl f q r (q + k) = dg (f k) * 2 ^ r % BB + (if k = 0 then 0 else dg (f (k - 1)) / 2 ^ (31 - r)) := by
      unfold shl
      rw [if_pos (by omega), Nat.add_sub_cancel_left]
      by_cases hk : k = 0
      · subst hk
        rw [if_neg (by omega), if_pos rfl, sh_limb hr BB_pos, Nat.zero_div]
      · rw [if_pos (by omega), if_neg hk, sh_limb hr (dg_lt _)]
    have e2 := sh_whole (a := dg (f k)) hr
    rw [e0, e1, V_s, Nat.add_mul (V f k), ← ih, Nat.add_mul (dg (f k) * 2 ^ r % BB)]
    have e3 : dg (f k) * BB ^ k * (BB ^ q * 2 ^ r) = dg (f k) * 2 ^ r * BB ^ (q + k) := by
      rw [Nat.pow_add]
      simp only [Nat.mul_assoc, Nat.mul_comm, Nat.mul_left_comm]
    have e4 : BB ^ (q + (k + 1)) = BB * BB ^ (q + k) := by rw [← Nat.add_assoc, Nat.pow_succ, Nat.mul_comm]
    rw [e3, e4, ← Nat.mul_assoc]
    have e5 : dg (f k) * 2 ^ r * BB ^ (q + k) = (dg (f k) * 2 ^ r % BB + dg (f k) / 2 ^ (31 - r) * BB) * BB ^ (q + k) := by rw [← e2]
    rw [e5, Nat.add_mul (dg (f k) * 2 ^ r % BB)]
    omega
theorem shV_lt (f : Nat → Int32) (q r : Nat) : ∀ n, shV f q r n < BB ^ n := by
  intro n
  induction n with
  | zero => exact Nat.zero_lt_one
  | succ n ih =>
    show shV f q r n + shl f q r n * BB ^ n < BB ^ (n + 1)
    have h1 : shl f q r n + 1 ≤ BB := shl_lt f q r n
    have h2 : (shl f q r n + 1) * BB ^ n ≤ BB * BB ^ n := Nat.mul_le_mul_right _ h1
    rw [Nat.add_mul, Nat.one_mul] at h2
    rw [Nat.pow_succ, Nat.mul_comm (BB ^ n) BB]
    omega
theorem shV_eq {f : Nat → Int32} {q r n : Nat} (hr : r < 31) : shV f q r n = V f n * (BB ^ q * 2 ^ r) % BB ^ n := by
  rcases Nat.lt_or_ge n q with h | h
  · rw [shV_low (by omega)]
    obtain ⟨b, rfl⟩ : ∃ b, q = n + b := ⟨q - n, by omega⟩
    rw [Nat.pow_add, Nat.mul_assoc, Nat.mul_left_comm (V f n), Nat.mul_mod_right]
  · obtain ⟨k, rfl⟩ : ∃ k, n = q + k := ⟨n - q, by omega⟩
    have h1 := shV_up (f := f) (q := q) hr k
    have h2 := shV_lt f q r (q + k)
    rw [Nat.add_comm q k] at h1 h2 ⊢
    rw [V_split, Nat.add_mul, ← h1]
    have e : BB ^ k * Vw f k q * (BB ^ q * 2 ^ r) = BB ^ (k + q) * (Vw f k q * 2 ^ r) := by
      rw [Nat.pow_add]
      simp only [Nat.mul_assoc, Nat.mul_comm, Nat.mul_left_comm]
    rw [e, Nat.add_mul_mod_self_left, Nat.add_mul_mod_self_right, Nat.mod_eq_of_lt h2]
/-- a row shifted right by sh bits, with 0 above it -/
theorem ush_limb {hi lo sh : Nat} (hs : sh < 31) (hl : lo < BB) : ((hi * BB + lo) / 2 ^ sh) % BB = lo / 2 ^ sh + hi % 2 ^ sh * 2 ^ (31 - sh) := by
  have e1 : BB = 2 ^ (31 - sh) * 2 ^ sh := by
    rw [← Nat.pow_add, show (31 - sh) + sh = 31 by omega]
    rfl
  have hp : 0 < 2 ^ sh := Nat.two_pow_pos _
  have e2 : (hi * BB + lo) / 2 ^ sh = hi * 2 ^ (31 - sh) + lo / 2 ^ sh := by
    rw [e1, ← Nat.mul_assoc, Nat.add_comm, Nat.add_mul_div_right _ _ hp, Nat.add_comm]
  have h3 : lo / 2 ^ sh < 2 ^ (31 - sh) := (Nat.div_lt_iff_lt_mul hp).mpr (by rw [← e1]; exact hl)
  have e4 : hi * 2 ^ (31 - sh) % BB = hi % 2 ^ sh * 2 ^ (31 - sh) := by
    rw [e1, Nat.mul_comm (2 ^ (31 - sh)) (2 ^ sh), Nat.mul_mod_mul_right]
  have h5 : hi % 2 ^ sh < 2 ^ sh := Nat.mod_lt _ hp
  have h6 : (hi % 2 ^ sh + 1) * 2 ^ (31 - sh) ≤ 2 ^ sh * 2 ^ (31 - sh) := Nat.mul_le_mul_right _ h5
  rw [Nat.add_mul, Nat.one_mul, Nat.mul_comm (2 ^ sh), ← e1, ← e4] at h6
  rw [e2, Nat.add_mod, Nat.mod_eq_of_lt (a := lo / 2 ^ sh) (by
    have : 2 ^ (31 - sh) ≤ BB := by rw [e1]; exact Nat.le_mul_of_pos_right _ hp
    omega), ← e4]
  rw [Nat.mod_eq_of_lt (by omega), Nat.add_comm]
end
section
-- THE NUMBER THAT MAKES 1 OF a MODULO m
def inv? (m a : Nat) : Option Nat := (List.range m).find? (fun y => a * y % m == 1 % m)
theorem inv_uniq {m a x y : Nat} (hx : x < m) (hy : y < m) (h1 : a * x % m = 1 % m) (h2 : a * y % m = 1 % m) : x = y := by
  have e1 : (a * x) * y % m = y := by
    rw [Nat.mul_mod, h1, ← Nat.mul_mod, Nat.one_mul, Nat.mod_eq_of_lt hy]
  have e2 : (a * y) * x % m = x := by
    rw [Nat.mul_mod, h2, ← Nat.mul_mod, Nat.one_mul, Nat.mod_eq_of_lt hx]
  rw [Nat.mul_right_comm] at e2
  exact e2.symm.trans e1
theorem inv_some {m a y : Nat} (hy : y < m) (h : a * y % m = 1 % m) : inv? m a = some y := by
  unfold inv?
  rcases hf : (List.range m).find? (fun y => a * y % m == 1 % m) with _ | x
  · have := List.find?_eq_none.mp hf y (List.mem_range.mpr hy)
    simp [h] at this
  · have h1 := List.find?_some hf
    have h2 := List.mem_range.mp (List.mem_of_find?_eq_some hf)
    rw [inv_uniq h2 hy (by simpa using h1) h]
theorem inv_none {m a : Nat} (h : ∀ y, a * y % m ≠ 1 % m) : inv? m a = none := by
  unfold inv?
  apply List.find?_eq_none.mpr
  intro y _
  simpa using h y
theorem inv_spec {m a y : Nat} (h : inv? m a = some y) : y < m ∧ a * y % m = 1 % m := by
  unfold inv? at h
  exact ⟨List.mem_range.mp (List.mem_of_find?_eq_some h), by simpa using List.find?_some h⟩
theorem inv_no {m a : Nat} (h0 : 0 < m) (h : inv? m a = none) : ∀ y, a * y % m ≠ 1 % m := by
  intro y hy
  have h1 : a * (y % m) % m = 1 % m := by
    rw [Nat.mul_mod, Nat.mod_mod, ← Nat.mul_mod]
    exact hy
  rw [inv_some (Nat.mod_lt _ h0) h1] at h
  cases h
-- EUCLID'S WAY WITH SHIFTS: rests r, n; factors f, g; ng: which of the two is below 0
def euS (ng : Bool) : Int := if ng then -1 else 1
def euI (m a r n f g : Nat) (ng : Bool) : Prop := r * g + n * f = m ∧ f ≤ m ∧ g ≤ m ∧ Nat.gcd r n = Nat.gcd m a ∧ (m : Int) ∣ (r : Int) - euS ng * f * a ∧ (m : Int) ∣ (n : Int) + euS ng * g * a
theorem euI_0 {m a : Nat} (hm : 0 < m) : euI m a m a 0 1 true := by
  refine ⟨by simp, by omega, by omega, rfl, ⟨1, by simp⟩, ⟨0, by simp [euS]; omega⟩⟩
theorem euI_swap {m a r n f g : Nat} {ng : Bool} (h : euI m a r n f g ng) : euI m a n r g f (!ng) := by
  obtain ⟨h1, h2, h3, h4, h5, h6⟩ := h
  have e : euS (!ng) = - euS ng := by cases ng <;> rfl
  refine ⟨by omega, h3, h2, by rw [Nat.gcd_comm]; exact h4, ?_, ?_⟩
  · rw [e, Int.neg_mul, Int.neg_mul, Int.sub_neg]; exact h6
  · rw [e, Int.neg_mul, Int.neg_mul, ← Int.sub_eq_add_neg]; exact h5
theorem euI_sub {m a r n f g k : Nat} {ng : Bool} (hn : 0 < n) (hk : k * n ≤ r) (h : euI m a r n f g ng) : euI m a (r - k * n) n (f + k * g) g ng := by
  obtain ⟨h1, h2, h3, h4, h5, h6⟩ := h
  obtain ⟨q, rfl⟩ : ∃ q, r = k * n + q := ⟨r - k * n, by omega⟩
  rw [Nat.add_sub_cancel_left]
  have e1 : q * g + n * (f + k * g) = m := by
    rw [← h1, Nat.mul_add, Nat.add_mul]
    have : n * (k * g) = k * n * g := by simp only [Nat.mul_assoc, Nat.mul_comm, Nat.mul_left_comm]
    omega
  refine ⟨e1, ?_, h3, ?_, ?_, h6⟩
  · have : 1 * (f + k * g) ≤ n * (f + k * g) := Nat.mul_le_mul_right _ hn
    omega
  · rw [← h4, Nat.add_comm (k * n) q, Nat.gcd_add_mul_right_left]
  · have e2 : (q : Int) - euS ng * ((f + k * g : Nat) : Int) * a = (((k * n + q : Nat) : Int) - euS ng * f * a) - k * ((n : Int) + euS ng * g * a) := by
      rw [Int.natCast_add, Int.natCast_add, Int.natCast_mul, Int.natCast_mul]
      grind
    rw [e2]
    exact Int.dvd_sub h5 (Int.dvd_mul_of_dvd_right h6)
/-- a step halves the first rest, or the two change places -/
def euM (r n : Nat) : Nat := 2 * (bl r + bl n) + (if r < n then 1 else 0)
theorem euM_sub {r n k : Nat} (hn : 0 < n) (h1 : 2 ^ k * n ≤ r) (h2 : r < 2 ^ (k + 1) * n) : euM (r - 2 ^ k * n) n < euM r n := by
  have e : 2 ^ (k + 1) * n = 2 * (2 ^ k * n) := by rw [Nat.pow_succ, Nat.mul_comm (2 ^ k) 2, Nat.mul_assoc]
  have hp : 1 * n ≤ 2 ^ k * n := Nat.mul_le_mul_right _ (Nat.two_pow_pos k)
  have hr : 0 < r := by omega
  have h3 : 2 * (r - 2 ^ k * n) < r := by omega
  have h4 : bl (r - 2 ^ k * n) + 1 ≤ bl r := by
    have a := bl_hi r
    have c := bl_pos hr
    have d : 2 ^ bl r = 2 * 2 ^ (bl r - 1) := by
      obtain ⟨j, hj⟩ : ∃ j, bl r = j + 1 := ⟨bl r - 1, by omega⟩
      rw [hj, Nat.add_sub_cancel, Nat.pow_succ, Nat.mul_comm]
    have : bl (r - 2 ^ k * n) ≤ bl r - 1 := bl_le (by omega)
    omega
  unfold euM
  split <;> split <;> omega
theorem euM_swap {r n : Nat} (h : r < n) : euM n r < euM r n := by
  unfold euM
  rw [if_pos h, if_neg (by omega)]
  omega
/-- the end: the first rest is 1: its factor, with its sign, makes 1 of a -/
theorem euI_end {m a f g : Nat} {ng : Bool} (hm : 0 < m) (ha : a < m) (h : euI m a 1 0 f g ng) : inv? m a = some (if ng then (if f = 0 then 0 else m - f) else f % m) := by
  obtain ⟨h1, h2, h3, h4, ⟨q, h5⟩, h6⟩ := h
  have hr : (if ng then (if f = 0 then 0 else m - f) else f % m) < m := by
    split
    · split <;> omega
    · exact Nat.mod_lt _ hm
  refine inv_some hr ?_
  have key : ((a * (if ng then (if f = 0 then 0 else m - f) else f % m) : Nat) : Int) % m = ((1 : Nat) : Int) % m := by
    cases ng with
    | true =>
      simp only [if_true]
      have e : euS true = -1 := rfl
      rw [e] at h5
      by_cases hf : f = 0
      · subst hf
        rw [if_pos rfl]
        simp at h5
        rw [Nat.mul_zero]
        have e3 : ((1 : Nat) : Int) = m * q := h5
        rw [e3]
        simp
      · rw [if_neg hf]
        obtain ⟨d, rfl⟩ : ∃ d, m = f + d := ⟨m - f, by omega⟩
        rw [Nat.add_sub_cancel_left]
        have e2 : ((a * d : Nat) : Int) = ((1 : Nat) : Int) + ((f + d : Nat) : Int) * (a - q) := by
          rw [Int.natCast_mul, Int.natCast_add]
          rw [Int.natCast_add] at h5
          grind
        rw [e2, Int.add_mul_emod_self_left]
    | false =>
      have e : euS false = 1 := rfl
      rw [e] at h5
      simp only [Bool.false_eq_true, if_false]
      have e0 : ((a * (f % m) : Nat) : Int) % m = ((a * f : Nat) : Int) % m := by
        rw [← Int.natCast_emod, ← Int.natCast_emod, Nat.mul_mod, Nat.mod_mod, ← Nat.mul_mod]
      rw [e0]
      have e2 : ((a * f : Nat) : Int) = ((1 : Nat) : Int) + (m : Int) * (-q) := by
        rw [Int.natCast_mul]
        grind
      rw [e2, Int.add_mul_emod_self_left]
  rw [← Int.natCast_emod, ← Int.natCast_emod] at key
  exact Int.ofNat.inj key
theorem euI_no {m a r f g : Nat} {ng : Bool} (hr : r ≠ 1) (h : euI m a r 0 f g ng) (hm : 0 < m) : inv? m a = none := by
  obtain ⟨h1, h2, h3, h4, h5, h6⟩ := h
  rw [Nat.gcd_zero_right] at h4
  apply inv_none
  intro y hy
  apply hr
  have d1 : r ∣ m := by rw [h4]; exact Nat.gcd_dvd_left _ _
  have d2 : r ∣ a := by rw [h4]; exact Nat.gcd_dvd_right _ _
  have e : r ∣ 1 % m := by
    rw [← hy]
    exact (Nat.dvd_mod_iff d1).mpr (Nat.dvd_trans d2 (Nat.dvd_mul_right _ _))
  have e2 : r ∣ 1 := (Nat.dvd_mod_iff d1).mp e
  exact Nat.dvd_one.mp e2
end
section
-- POINTS, MODULO p = k + 1: none is the identity
abbrev Zp (k : Nat) : Type := Fin (k + 1)
abbrev Pt (k : Nat) : Type := Option (Zp k × Zp k)
def unit? (k : Nat) (x : Zp k) : Prop := ∃ w : Zp k, x * w = 1
theorem zu_uniq {k : Nat} {x w w' : Zp k} (h : x * w = 1) (h' : x * w' = 1) : w = w' := by
  have e1 : w * (x * w') = w := by rw [h']; grind
  have e2 : w * (x * w') = w' := by
    have : w * (x * w') = (x * w) * w' := by grind
    rw [this, h]; grind
  rw [← e1, e2]
theorem zu_mul {k : Nat} {x y : Zp k} (h : unit? k (x * y)) : unit? k x ∧ unit? k y := by
  obtain ⟨w, h⟩ := h
  exact ⟨⟨y * w, by rw [← h]; grind⟩, ⟨x * w, by rw [← h]; grind⟩⟩
def onC {k : Nat} (A B : Zp k) (P : Pt k) : Prop := match P with
  | none => True
  | some (x, y) => y * y = x * x * x + A * x + B
theorem rid1 {k : Nat} (x u X m c : Zp k) : X * X + (x - m * m) * X + c = (u * u + (x - m * m) * u + c) + (X - u) * (X + u + x - m * m) := by grind
theorem rid2 {k : Nat} (A B x y X m : Zp k) : X * X * X + A * X + B = (m * (x - X) - y) * (m * (x - X) - y) + (X - x) * (X * X + (x - m * m) * X + (x * x + A + m * m * x - 2 * m * y)) + (x * x * x + A * x + B - y * y) := by grind
/-- the chord's third point lies on the curve -/
theorem chord_on {k : Nat} {A B x y u v m X w : Zp k} (h1 : y * y = x * x * x + A * x + B) (h2 : v * v = u * u * u + A * u + B) (hw : (u - x) * w = 1) (hm : m = (v - y) * w) (hX : X = m * m - x - u) : (m * (x - X) - y) * (m * (x - X) - y) = X * X * X + A * X + B := by
  have e1 : m * (u - x) = v - y := by rw [hm]; grind
  have g0 : (u - x) * (u * u + (x - m * m) * u + (x * x + A + m * m * x - 2 * m * y)) = 0 := by clear hX hm; grind
  have g1 : u * u + (x - m * m) * u + (x * x + A + m * m * x - 2 * m * y) = 0 := by
    generalize u * u + (x - m * m) * u + (x * x + A + m * m * x - 2 * m * y) = z at g0
    clear hX hm h1 h2 e1
    have : w * ((u - x) * z) = 0 := by rw [g0]; grind
    grind
  have e2 : X + u + x - m * m = 0 := by rw [hX]; grind
  have e3 : X * X + (x - m * m) * X + (x * x + A + m * m * x - 2 * m * y) = 0 := by
    rw [rid1 x u X m, g1, e2]; grind
  have e4 : x * x * x + A * x + B - y * y = 0 := by rw [h1]; grind
  rw [rid2 A B x y X m, e3, e4]
  generalize (m * (x - X) - y) * (m * (x - X) - y) = z
  clear e1 g0 g1 e2 e3 e4 h1 h2 hw hm hX
  grind
theorem tang_on {k : Nat} {A B x y m X w : Zp k} (h1 : y * y = x * x * x + A * x + B) (hw : (y + y) * w = 1) (hm : m = (3 * x * x + A) * w) (hX : X = m * m - x - x) : (m * (x - X) - y) * (m * (x - X) - y) = X * X * X + A * X + B := by
  have e1 : m * (y + y) = 3 * x * x + A := by rw [hm]; grind
  grind
end
section
-- THE WORLD AS A MAP: which cell lies at an address. N0: the heap's size when the law began: all cells of ours lie behind it
abbrev xM : Type := Nat → Option va_E
def xset (M : xM) (a : Nat) (e : va_E) : xM := fun b => if b = a then some e else M b
theorem xset_s {M : xM} {a : Nat} {e : va_E} : xset M a e a = some e := by simp [xset]
theorem xset_n {M : xM} {a b : Nat} {e : va_E} (h : b ≠ a) : xset M a e b = M b := by simp [xset, h]
abbrev xA (N0 : Nat) : Nat → Prop := fun q => N0 ≤ q
def xW (D : va_G) (cl : List vw_C) (N0 : Nat) (M : xM) (H : Heap) : Prop := ∃ ws : va_W, va_P D cl ws H ∧ va_D (xA N0) ws ∧ ∀ (a : Nat) (e : va_E), M a = some e ↔ ∃ k : Nat, ws[k]? = some (a, e)
theorem xW.put {D : va_G} {cl : List vw_C} {N0 : Nat} {M : xM} {ws : va_W} {a k : Nat} {e0 e : va_E} {H1 : Heap} (hD : va_D (xA N0) ws) (hm : ∀ (a : Nat) (e : va_E), M a = some e ↔ ∃ k : Nat, ws[k]? = some (a, e)) (hk : ws[k]? = some (a, e0)) (hP1 : va_P D cl (ws.set k (a, e)) H1) (hD1 : va_D (xA N0) (ws.set k (a, e))) : xW D cl N0 (xset M a e) H1 := by
  refine ⟨ws.set k (a, e), hP1, hD1, fun b e' => ?_⟩
  have hl := (List.getElem?_eq_some_iff.mp hk).1
  constructor
  · intro h
    by_cases hb : b = a
    · subst hb
      rw [xset_s] at h
      cases h
      exact ⟨k, List.getElem?_set_self hl⟩
    · rw [xset_n hb] at h
      obtain ⟨j, hj⟩ := (hm b e').mp h
      have hjk : k ≠ j := by
        intro q
        subst q
        rw [hk] at hj
        cases hj
        exact hb rfl
      exact ⟨j, by rw [List.getElem?_set_ne hjk]; exact hj⟩
  · rintro ⟨j, hj⟩
    by_cases hjk : k = j
    · subst hjk
      rw [List.getElem?_set_self hl] at hj
      cases hj
      exact xset_s
    · rw [List.getElem?_set_ne hjk] at hj
      have hb : b ≠ a := by
        intro q
        subst q
        exact hjk (hD.1 k j _ _ hk hj rfl)
      rw [xset_n hb]
      exact (hm b e').mpr ⟨j, hj⟩
theorem xW.lt {D : va_G} {cl : List vw_C} {N0 : Nat} {M : xM} {H : Heap} (h : xW D cl N0 M H) {a : Nat} {e : va_E} (ha : M a = some e) : a < H.size := by
  obtain ⟨ws, hP, hD, hm⟩ := h
  obtain ⟨k, hk⟩ := (hm a e).mp ha
  exact (hP k _ hk).lt
theorem xW.ge {D : va_G} {cl : List vw_C} {N0 : Nat} {M : xM} {H : Heap} (h : xW D cl N0 M H) {a : Nat} {e : va_E} (ha : M a = some e) : N0 ≤ a := by
  obtain ⟨ws, hP, hD, hm⟩ := h
  obtain ⟨k, hk⟩ := (hm a e).mp ha
  exact hD.2 k _ hk
theorem xW.no {D : va_G} {cl : List vw_C} {N0 : Nat} {M : xM} {H : Heap} (h : xW D cl N0 M H) {a : Nat} (ha : H.size ≤ a) : M a = none := by
  cases hM : M a with
  | none => rfl
  | some e => have := h.lt hM; omega
/-- a new cell at the heap's end -/
theorem xW.new {D : va_G} {cl : List vw_C} {N0 : Nat} {M : xM} {H H1 : Heap} {e : va_E} (h : xW D cl N0 M H) (hN : N0 ≤ H.size) (he : va_at D cl (H.size, e) H1) (ho : ∀ q, q < H.size → H1[q]? = H[q]?) : xW D cl N0 (xset M H.size e) H1 := by
  have hno : M H.size = none := h.no (Nat.le_refl _)
  obtain ⟨ws, hP, hD, hm⟩ := h
  refine ⟨ws ++ [(H.size, e)], ?_, hD.push hP rfl hN, fun b e' => ?_⟩
  · refine va_P.app (hP.kept fun k q hk => ho q.1 (hP k q hk).lt) ?_
    intro k q hk
    have hz : k < 1 := (List.getElem?_eq_some_iff.mp hk).1
    rw [show k = 0 by omega] at hk
    cases hk
    exact he
  · constructor
    · intro hb
      by_cases hq : b = H.size
      · subst hq
        rw [xset_s] at hb
        cases hb
        exact ⟨ws.length, by simp⟩
      · rw [xset_n hq] at hb
        obtain ⟨j, hj⟩ := (hm b e').mp hb
        exact ⟨j, by rw [List.getElem?_append_left (List.getElem?_eq_some_iff.mp hj).1]; exact hj⟩
    · rintro ⟨j, hj⟩
      by_cases hjl : j < ws.length
      · rw [List.getElem?_append_left hjl] at hj
        have hb := (hm b e').mpr ⟨j, hj⟩
        have hq : b ≠ H.size := by
          intro q
          rw [q, hno] at hb
          cases hb
        rw [xset_n hq]
        exact hb
      · rw [List.getElem?_append_right (by omega)] at hj
        have hz : j - ws.length < 1 := (List.getElem?_eq_some_iff.mp hj).1
        rw [show j - ws.length = 0 by omega] at hj
        cases hj
        exact xset_s
theorem xW.none {D : va_G} {cl : List vw_C} {N0 : Nat} {H : Heap} : xW D cl N0 (fun _ => none) H := by
  refine ⟨[], fun k q h => by simp at h, ⟨fun i j p q h => by simp at h, fun k q h => by simp at h⟩, fun a e => ?_⟩
  constructor
  · intro h; cases h
  · rintro ⟨k, h⟩; simp at h
abbrev xI (cA : ClassId) (n : Nat) (f : Nat → Int32) : va_E := .inl (cA, n, .inl f)
abbrev xQ (cA : ClassId) (n : Nat) (f : Nat → Option Nat) : va_E := .inl (cA, n, .inr (.inr (.inr (.inr f))))
abbrev xO (ci : Nat) (fs : List Value) : va_E := .inr (ci, fs)
section XROWS
variable {p : Program} {l : Launch} {e : Env} {R : Room} {s : State} {m : MethodId} {args : Array Value} {below : List Frame} {meth : Method} {c : Code} {H : Heap} {locs : List Loc} {cells slots : Nat} {Q : State → Prop}
variable {cc : ByteArray} {pc : Nat} {ls : Array Slot} {rest : List Value} {D : va_G} {cl : List vw_C} {a : Nat} {tys : List (ClassId × FieldType)} {H0 : Heap} {N0 : Nat} {M : xM}
theorem x_iald (hexec : p.tables.exec = Jvm.exec) (hb : c.code = cc) (hK : va_K D cl tys s) (hM : xW D cl N0 M H) (t0 : Nat) {cA : ClassId} {n : Nat} {f : Nat → Int32} (ha : M a = some (xI cA n f)) (ht : tys[t0]? = some (cA, .int)) {i : Nat} (hi : i < n) (hn : n < 2 ^ 31) (hdg : decode cc pc = .ok (.iaload, 1))
    (kk : W p l e R s m args below meth c H locs cells slots Q (F0 m (pc + 1) ls (.int (f i) :: rest))) : W p l e R s m args below meth c H locs cells slots Q (F0 m pc ls (.int (nI i) :: .ref a :: rest)) := by
  obtain ⟨ws, hP, hD, hm⟩ := hM
  obtain ⟨k, hk⟩ := (hm a _).mp ha
  refine va_iald hexec hb hK hP k t0 hk ht (vp_in_nI hi hn) hdg ?_
  rw [nI_clamp (by omega)]
  exact kk
theorem x_iast (hexec : p.tables.exec = Jvm.exec) (hb : c.code = cc) (hK : va_K D cl tys s) (hM : xW D cl N0 M H) (hS : va_S (xA N0) H0 H locs) (t0 : Nat) {cA : ClassId} {n : Nat} {f : Nat → Int32} (ha : M a = some (xI cA n f)) (ht : tys[t0]? = some (cA, .int)) {i : Nat} {x : Int32} (hi : i < n) (hn : n < 2 ^ 31) (hdg : decode cc pc = .ok (.iastore, 1))
    (kk : ∀ (H1 : Heap) (locs1 : List Loc), xW D cl N0 (xset M a (xI cA n (upd f i x))) H1 → va_S (xA N0) H0 H1 locs1 → W p l e R s m args below meth c H1 locs1 cells slots Q (F0 m (pc + 1) ls rest)) : W p l e R s m args below meth c H locs cells slots Q (F0 m pc ls (.int x :: .int (nI i) :: .ref a :: rest)) := by
  obtain ⟨ws, hP, hD, hm⟩ := hM
  obtain ⟨k, hk⟩ := (hm a _).mp ha
  refine va_iast hexec hb hK hP hD hS k t0 hk ht (vp_in_nI hi hn) hdg (fun H1 locs1 hP1 hD1 hS1 => ?_)
  rw [nI_clamp (by omega)] at hP1 hD1
  exact kk H1 locs1 (xW.put hD hm hk hP1 hD1) hS1
theorem x_alen (hexec : p.tables.exec = Jvm.exec) (hb : c.code = cc) (hK : va_K D cl tys s) (hM : xW D cl N0 M H) (t0 : Nat) {cA : ClassId} {x : vp_A} (ha : M a = some (.inl (cA, x))) {ty : FieldType} (ht : tys[t0]? = some (cA, ty)) (hdg : decode cc pc = .ok (.arraylength, 1))
    (kk : W p l e R s m args below meth c H locs cells slots Q (F0 m (pc + 1) ls (.int (nI x.1) :: rest))) : W p l e R s m args below meth c H locs cells slots Q (F0 m pc ls (.ref a :: rest)) := by
  obtain ⟨ws, hP, hD, hm⟩ := hM
  obtain ⟨k, hk⟩ := (hm a _).mp ha
  exact va_alen hexec hb hK hP k t0 hk ht (v := nI x.1) rfl hdg kk
theorem x_get (hexec : p.tables.exec = Jvm.exec) (hb : c.code = cc) {own ref C : String} {T : u_T} {N ci index : Nat} {Ts : List Cond} (hts : ∀ w ∈ Ts, w.before args s = true) (hin : ∀ w ∈ u_ws C T N, w ∈ Ts) (hown : s.vm.findClass own = some m.cls) (hK : va_K D cl tys s) (hM : xW D cl N0 M H) {fs : List Value} (he : M a = some (xO ci fs)) (hc : cl[ci]? = some (C, T, N)) (k : Nat) (hk : k < N) (hlink : (Cond.fieldLink own index ref (T k).2.1 (T k).2.2.1).before args s = true) (hsame : ∀ x, s.fieldFound? (T k).1 (T k).2.1 (T k).2.2.1 = some x → s.fieldFound? ref (T k).2.1 (T k).2.2.1 = some x) {v : Value} (hv : fs[k]? = some v) (hdg : decode cc pc = .ok (.getfield index, 3))
    (kk : W p l e R s m args below meth c H locs cells slots Q (F0 m (pc + 3) ls (v :: rest))) : W p l e R s m args below meth c H locs cells slots Q (F0 m pc ls (.ref a :: rest)) := by
  obtain ⟨ws, hP, hD, hm⟩ := hM
  obtain ⟨j, hj⟩ := (hm a _).mp he
  exact va_get hexec hb hts hin hown hK hP j hj hc k hk hlink hsame hv hdg kk
theorem x_getN (hexec : p.tables.exec = Jvm.exec) (hb : c.code = cc) {own ref C host : String} {T : u_T} {N ci index : Nat} {Ts : List Cond} (hts : ∀ w ∈ Ts, w.before args s = true) (hin : ∀ w ∈ u_ws C T N, w ∈ Ts) (hown : s.vm.findClass own = some m.cls) (hK : va_K D cl tys s) (hM : xW D cl N0 M H) {fs : List Value} (he : M a = some (xO ci fs)) (hc : cl[ci]? = some (C, T, N)) (k : Nat) (hk : k < N) (hlink : (Cond.fieldLinkNest own index ref (T k).2.1 (T k).2.2.1 host).before args s = true) (hsame : ∀ x, s.fieldFound? (T k).1 (T k).2.1 (T k).2.2.1 = some x → s.fieldFound? ref (T k).2.1 (T k).2.2.1 = some x) {v : Value} (hv : fs[k]? = some v) (hdg : decode cc pc = .ok (.getfield index, 3))
    (kk : W p l e R s m args below meth c H locs cells slots Q (F0 m (pc + 3) ls (v :: rest))) : W p l e R s m args below meth c H locs cells slots Q (F0 m pc ls (.ref a :: rest)) := by
  obtain ⟨ws, hP, hD, hm⟩ := hM
  obtain ⟨j, hj⟩ := (hm a _).mp he
  exact va_getN hexec hb hts hin hown hK hP j hj hc k hk hlink hsame hv hdg kk
theorem x_put (hexec : p.tables.exec = Jvm.exec) (hb : c.code = cc) {own ref C : String} {T : u_T} {N ci index : Nat} {Ts : List Cond} (hts : ∀ w ∈ Ts, w.before args s = true) (hin : ∀ w ∈ u_ws C T N, w ∈ Ts) (ty0 : Nat → FieldType) (hty : ∀ k, k < N → parseFieldDescriptor (T k).2.2.1 = some (ty0 k)) (hnm : ∀ a, a < N → ∀ b, b < N → a ≠ b → (T a).2.1 ≠ (T b).2.1) (hown : s.vm.findClass own = some m.cls) (hK : va_K D cl tys s) (hM : xW D cl N0 M H) (hS : va_S (xA N0) H0 H locs) {fs : List Value} (he : M a = some (xO ci fs)) (hc : cl[ci]? = some (C, T, N)) (k : Nat) (hk : k < N) (hlink : (Cond.fieldLink own index ref (T k).2.1 (T k).2.2.1).before args s = true) (hsame : ∀ x, s.fieldFound? (T k).1 (T k).2.1 (T k).2.2.1 = some x → s.fieldFound? ref (T k).2.1 (T k).2.2.1 = some x) (hfin : (T k).2.2.2 = false) {ty : FieldType} {v : Value} (hd : parseFieldDescriptor (T k).2.2.1 = some ty) (hn : narrow ty v = v) (hfit : fits ty v = true) (hl : k < fs.length)
    (hdg : decode cc pc = .ok (.putfield index, 3)) (kk : ∀ (H1 : Heap) (locs1 : List Loc), xW D cl N0 (xset M a (xO ci (fs.set k v))) H1 → va_S (xA N0) H0 H1 locs1 → W p l e R s m args below meth c H1 locs1 cells slots Q (F0 m (pc + 3) ls rest)) : W p l e R s m args below meth c H locs cells slots Q (F0 m pc ls (v :: .ref a :: rest)) := by
  obtain ⟨ws, hP, hD, hm⟩ := hM
  obtain ⟨j, hj⟩ := (hm a _).mp he
  exact va_put hexec hb hts hin ty0 hty hnm hown hK hP hD hS j hj hc k hk hlink hsame hfin hd hn hfit hl hdg (fun H1 locs1 hP1 hD1 hS1 => kk H1 locs1 (xW.put hD hm hj hP1 hD1) hS1)
theorem x_putN (hexec : p.tables.exec = Jvm.exec) (hb : c.code = cc) {own ref C host : String} {T : u_T} {N ci index : Nat} {Ts : List Cond} (hts : ∀ w ∈ Ts, w.before args s = true) (hin : ∀ w ∈ u_ws C T N, w ∈ Ts) (ty0 : Nat → FieldType) (hty : ∀ k, k < N → parseFieldDescriptor (T k).2.2.1 = some (ty0 k)) (hnm : ∀ a, a < N → ∀ b, b < N → a ≠ b → (T a).2.1 ≠ (T b).2.1) (hown : s.vm.findClass own = some m.cls) (hK : va_K D cl tys s) (hM : xW D cl N0 M H) (hS : va_S (xA N0) H0 H locs) {fs : List Value} (he : M a = some (xO ci fs)) (hc : cl[ci]? = some (C, T, N)) (k : Nat) (hk : k < N) (hlink : (Cond.fieldLinkNest own index ref (T k).2.1 (T k).2.2.1 host).before args s = true) (hsame : ∀ x, s.fieldFound? (T k).1 (T k).2.1 (T k).2.2.1 = some x → s.fieldFound? ref (T k).2.1 (T k).2.2.1 = some x) (hfin : (T k).2.2.2 = false) {ty : FieldType} {v : Value} (hd : parseFieldDescriptor (T k).2.2.1 = some ty) (hn : narrow ty v = v) (hfit : fits ty v = true) (hl : k < fs.length)
    (hdg : decode cc pc = .ok (.putfield index, 3)) (kk : ∀ (H1 : Heap) (locs1 : List Loc), xW D cl N0 (xset M a (xO ci (fs.set k v))) H1 → va_S (xA N0) H0 H1 locs1 → W p l e R s m args below meth c H1 locs1 cells slots Q (F0 m (pc + 3) ls rest)) : W p l e R s m args below meth c H locs cells slots Q (F0 m pc ls (v :: .ref a :: rest)) := by
  obtain ⟨ws, hP, hD, hm⟩ := hM
  obtain ⟨j, hj⟩ := (hm a _).mp he
  exact va_putN hexec hb hts hin ty0 hty hnm hown hK hP hD hS j hj hc k hk hlink hsame hfin hd hn hfit hl hdg (fun H1 locs1 hP1 hD1 hS1 => kk H1 locs1 (xW.put hD hm hj hP1 hD1) hS1)
theorem x_putF (hexec : p.tables.exec = Jvm.exec) (hb : c.code = cc) {own ref C : String} {T : u_T} {N ci index : Nat} {Ts : List Cond} (hts : ∀ w ∈ Ts, w.before args s = true) (hin : ∀ w ∈ u_ws C T N, w ∈ Ts) (ty0 : Nat → FieldType) (hty : ∀ k, k < N → parseFieldDescriptor (T k).2.2.1 = some (ty0 k)) (hnm : ∀ a, a < N → ∀ b, b < N → a ≠ b → (T a).2.1 ≠ (T b).2.1) (hown : s.vm.findClass own = some m.cls) (hK : va_K D cl tys s) (hM : xW D cl N0 M H) (hS : va_S (xA N0) H0 H locs) {fs : List Value} (he : M a = some (xO ci fs)) (hc : cl[ci]? = some (C, T, N)) (k : Nat) (hk : k < N) (hlink : (Cond.fieldLink own index ref (T k).2.1 (T k).2.2.1).before args s = true) (hsame : ∀ x, s.fieldFound? (T k).1 (T k).2.1 (T k).2.2.1 = some x → s.fieldFound? ref (T k).2.1 (T k).2.2.1 = some x) (hfin : (T k).2.2.2 = true) (hin2 : meth.name = "<init>") (hdecl : (T k).1 = own) {ty : FieldType} {v : Value} (hd : parseFieldDescriptor (T k).2.2.1 = some ty) (hn : narrow ty v = v) (hfit : fits ty v = true) (hl : k < fs.length)
    (hdg : decode cc pc = .ok (.putfield index, 3)) (kk : ∀ (H1 : Heap) (locs1 : List Loc), xW D cl N0 (xset M a (xO ci (fs.set k v))) H1 → va_S (xA N0) H0 H1 locs1 → W p l e R s m args below meth c H1 locs1 cells slots Q (F0 m (pc + 3) ls rest)) : W p l e R s m args below meth c H locs cells slots Q (F0 m pc ls (v :: .ref a :: rest)) := by
  obtain ⟨ws, hP, hD, hm⟩ := hM
  obtain ⟨j, hj⟩ := (hm a _).mp he
  exact va_putF hexec hb hts hin ty0 hty hnm hown hK hP hD hS j hj hc k hk hlink hsame hfin hin2 hdecl hd hn hfit hl hdg (fun H1 locs1 hP1 hD1 hS1 => kk H1 locs1 (xW.put hD hm hj hP1 hD1) hS1)
end XROWS
-- CONTRACTS OVER THE MAP: any map M that the heap holds; the method's answer and the new map
def xB (D : va_G) (cl : List vw_C) (tys : List (ClassId × FieldType)) (N0 : Nat) (M : xM) (U : State) : Prop := N0 ≤ U.heap.size ∧ xW D cl N0 M U.heap ∧ va_K D cl tys U
theorem x_blind {av : List Value} {D : va_G} {cl : List vw_C} {tys : List (ClassId × FieldType)} {N0 : Nat} {M : xM} : FrameBlind (va_Pc av (xB D cl tys N0 M)) := fun a U g mk q => by
  obtain ⟨q0, q1, q2, qK⟩ := q
  exact ⟨q0, q1, q2, va_K.moved (u := U) (U := U.calling g mk a) (Vm.Alike.refl U.vm) qK⟩
theorem x_pre {av : List Value} {D : va_G} {cl : List vw_C} {tys : List (ClassId × FieldType)} {N0 : Nat} {M : xM} {s : State} {H : Heap} {locs : List Loc} (hK : va_K D cl tys s) (hM : xW D cl N0 M H) (hN : N0 ≤ s.heap.size) (hS : va_S (xA N0) s.heap H locs) : PreS s H (va_Pc av (xB D cl tys N0 M)) av :=
  ⟨x_blind, fun U hU hW => ⟨rfl, by rw [hU]; exact Nat.le_trans hN hS.1, by rw [hU]; exact hM, va_K.moved hW.alike hK⟩⟩
theorem x_preV {b : Nat} {av : List Value} {D : va_G} {cl : List vw_C} {tys : List (ClassId × FieldType)} {N0 : Nat} {M : xM} {s : State} {H : Heap} {locs : List Loc} {ci : Nat} {fs : List Value} {q : vw_C} (hK : va_K D cl tys s) (hM : xW D cl N0 M H) (hN : N0 ≤ s.heap.size) (hS : va_S (xA N0) s.heap H locs) (he : M b = some (xO ci fs)) (hc : cl[ci]? = some q) : PreV s H q.1 b (va_Pc (.ref b :: av) (xB D cl tys N0 M)) av := by
  refine ⟨x_blind, ?_, fun U hU hW => ⟨rfl, by rw [hU]; exact Nat.le_trans hN hS.1, by rw [hU]; exact hM, va_K.moved hW.alike hK⟩⟩
  obtain ⟨ws, hP, hD, hm⟩ := hM
  obtain ⟨k, hk⟩ := (hm b _).mp he
  exact va_recv hK hP hc hk
section XCALLS
variable {p : Program} {l : Launch} {e : Env} {R : Room} {s : State} {m : MethodId} {args : Array Value} {below : List Frame} {meth : Method} {c : Code} {H : Heap} {locs : List Loc} {cells slots : Nat} {Q : State → Prop}
variable {pc : Nat} {ls : Array Slot} {rest st0 : List Value} {a : Array Value} {mc ms N0 : Nat} {D : va_G} {cl : List vw_C} {tys : List (ClassId × FieldType)}
theorem x_calli {post : Int32 → xM → Prop} (hr : va_Run p l e R s m args below meth c H locs cells slots mc ms (F0 m pc ls st0) rest (va_Qi post (xB D cl tys N0) (xA N0) a) (xA N0)) (hS : va_S (xA N0) s.heap H locs)
    (kk : ∀ (r : Int32) (M1 : xM) (H1 : Heap) (locs1 : List Loc), post r M1 → xW D cl N0 M1 H1 → va_S (xA N0) s.heap H1 locs1 → W p l e R s m args below meth c H1 locs1 (cells + mc) (slots + ms) Q (F0 m (pc + 3) ls (.int r :: rest))) : W p l e R s m args below meth c H locs cells slots Q (F0 m pc ls st0) :=
  va_calli hr hS (fun _ _ h => h) (fun _ h => h) (fun r u t H1 locs1 ht hvm hp hB hz hk hS1 => kk r u H1 locs1 hp (by rw [← ht]; exact hB.2.1) hS1)
theorem x_calll {post : Int64 → xM → Prop} (hr : va_Run p l e R s m args below meth c H locs cells slots mc ms (F0 m pc ls st0) rest (va_Ql post (xB D cl tys N0) (xA N0) a) (xA N0)) (hS : va_S (xA N0) s.heap H locs)
    (kk : ∀ (r : Int64) (M1 : xM) (H1 : Heap) (locs1 : List Loc), post r M1 → xW D cl N0 M1 H1 → va_S (xA N0) s.heap H1 locs1 → W p l e R s m args below meth c H1 locs1 (cells + mc) (slots + ms) Q (F0 m (pc + 3) ls (.long r :: rest))) : W p l e R s m args below meth c H locs cells slots Q (F0 m pc ls st0) :=
  va_calll hr hS (fun _ _ h => h) (fun _ h => h) (fun r u t H1 locs1 ht hvm hp hB hz hk hS1 => kk r u H1 locs1 hp (by rw [← ht]; exact hB.2.1) hS1)
theorem x_callv {post : xM → Prop} (hr : va_Run p l e R s m args below meth c H locs cells slots mc ms (F0 m pc ls st0) rest (va_Qv post (xB D cl tys N0) (xA N0) a) (xA N0)) (hS : va_S (xA N0) s.heap H locs)
    (kk : ∀ (M1 : xM) (H1 : Heap) (locs1 : List Loc), post M1 → xW D cl N0 M1 H1 → va_S (xA N0) s.heap H1 locs1 → W p l e R s m args below meth c H1 locs1 (cells + mc) (slots + ms) Q (F0 m (pc + 3) ls rest)) : W p l e R s m args below meth c H locs cells slots Q (F0 m pc ls st0) :=
  va_callv hr hS (fun _ _ h => h) (fun _ h => h) (fun u t H1 locs1 ht hvm hp hB hz hk hS1 => kk u H1 locs1 hp (by rw [← ht]; exact hB.2.1) hS1)
theorem x_callr {post : xM × Nat → Prop} (hr : va_Run p l e R s m args below meth c H locs cells slots mc ms (F0 m pc ls st0) rest (va_Qr (S := xM) (fun _ => True) (fun M1 ra t => post (M1, ra) ∧ xB D cl tys N0 M1 t) (xA N0) a) (xA N0)) (hS : va_S (xA N0) s.heap H locs)
    (kk : ∀ (ra : Nat) (M1 : xM) (H1 : Heap) (locs1 : List Loc), post (M1, ra) → xW D cl N0 M1 H1 → va_S (xA N0) s.heap H1 locs1 → W p l e R s m args below meth c H1 locs1 (cells + mc) (slots + ms) Q (F0 m (pc + 3) ls (.ref ra :: rest))) : W p l e R s m args below meth c H locs cells slots Q (F0 m pc ls st0) :=
  va_callr hr hS (fun _ _ h => h) (fun _ h => h) (fun u ra t H1 locs1 ht hvm hp hB hz hk hS1 => kk ra u H1 locs1 hB.1 (by rw [← ht]; exact hB.2.2.1) hS1)
end XCALLS

/-- what stays the same while a method runs: the machine, its code, its words, the classes; N0: the heap's size when the law began -/
def xC (p : Program) (s : State) (m : MethodId) (args : Array Value) (meth : Method) (c : Code) (cc : ByteArray) (nL : Nat) (ret : Option FieldType) (own : String) (Ts : List Cond) (D : va_G) (cl : List vw_C) (tys : List (ClassId × FieldType)) (N0 : Nat) : Prop :=
  p.tables.exec = Jvm.exec ∧ c.code = cc ∧ c.maxLocals = nL ∧ s.vm.findClass own = some m.cls ∧ (∀ w ∈ Ts, w.before args s = true) ∧ meth.sig.returnType = ret ∧ meth.locks = false ∧ va_K D cl tys s ∧ N0 ≤ s.heap.size
section RROWS
variable {p : Program} {l : Launch} {e : Env} {R : Room} {s : State} {m : MethodId} {args : Array Value} {below : List Frame} {meth : Method} {c : Code} {H : Heap} {locs : List Loc} {cells slots : Nat} {Q : State → Prop}
variable {cc : ByteArray} {pc nL : Nat} {ret : Option FieldType} {own : String} {Ts : List Cond} {ls : Array Slot} {rest : List Value} {D : va_G} {cl : List vw_C} {a : Nat} {tys : List (ClassId × FieldType)} {N0 : Nat} {M : xM}
theorem r_iald (C : xC p s m args meth c cc nL ret own Ts D cl tys N0) (hM : xW D cl N0 M H) {cA : ClassId} {n : Nat} {f : Nat → Int32} (ha : M a = some (xI cA n f)) (ht : tys[0]? = some (cA, .int)) {i : Nat} (hi : i < n) (hn : n < 2 ^ 31) (hdg : decode cc pc = .ok (.iaload, 1))
    (kk : W p l e R s m args below meth c H locs cells slots Q (F0 m (pc + 1) ls (.int (f i) :: rest))) : W p l e R s m args below meth c H locs cells slots Q (F0 m pc ls (.int (nI i) :: .ref a :: rest)) := by
  obtain ⟨hx, hb, hml, hown, hts, hr, hlocks, hK, hN⟩ := C
  exact x_iald hx hb hK hM 0 ha ht hi hn hdg kk
theorem r_iast (C : xC p s m args meth c cc nL ret own Ts D cl tys N0) (hM : xW D cl N0 M H) (hS : va_S (xA N0) s.heap H locs) {cA : ClassId} {n : Nat} {f : Nat → Int32} (ha : M a = some (xI cA n f)) (ht : tys[0]? = some (cA, .int)) {i : Nat} {x : Int32} (hi : i < n) (hn : n < 2 ^ 31) (hdg : decode cc pc = .ok (.iastore, 1))
    (kk : ∀ (H1 : Heap) (locs1 : List Loc), xW D cl N0 (xset M a (xI cA n (upd f i x))) H1 → va_S (xA N0) s.heap H1 locs1 → W p l e R s m args below meth c H1 locs1 cells slots Q (F0 m (pc + 1) ls rest)) : W p l e R s m args below meth c H locs cells slots Q (F0 m pc ls (.int x :: .int (nI i) :: .ref a :: rest)) := by
  obtain ⟨hx, hb, hml, hown, hts, hr, hlocks, hK, hN⟩ := C
  exact x_iast hx hb hK hM hS 0 ha ht hi hn hdg kk
theorem r_zald (C : xC p s m args meth c cc nL ret own Ts D cl tys N0) (hM : xW D cl N0 M H) {cA : ClassId} {n : Nat} {f : Nat → Int32} (ha : M a = some (xI cA n f)) (ht : tys[1]? = some (cA, .boolean)) {i : Nat} (hi : i < n) (hn : n < 2 ^ 31) (hdg : decode cc pc = .ok (.baload, 1))
    (kk : W p l e R s m args below meth c H locs cells slots Q (F0 m (pc + 1) ls (.int (f i) :: rest))) : W p l e R s m args below meth c H locs cells slots Q (F0 m pc ls (.int (nI i) :: .ref a :: rest)) := by
  obtain ⟨hx, hb, hml, hown, hts, hr, hlocks, hK, hN⟩ := C
  obtain ⟨ws, hP, hD, hm⟩ := hM
  obtain ⟨k, hk⟩ := (hm a _).mp ha
  refine va_zald hx hb hK hP k 1 hk ht (vp_in_nI hi hn) hdg ?_
  rw [nI_clamp (by omega)]
  exact kk
theorem r_zast (C : xC p s m args meth c cc nL ret own Ts D cl tys N0) (hM : xW D cl N0 M H) (hS : va_S (xA N0) s.heap H locs) {cA : ClassId} {n : Nat} {f : Nat → Int32} (ha : M a = some (xI cA n f)) (ht : tys[1]? = some (cA, .boolean)) {i : Nat} {x : Int32} (hi : i < n) (hn : n < 2 ^ 31) (hz : vp_nar .boolean x = x) (hdg : decode cc pc = .ok (.bastore, 1))
    (kk : ∀ (H1 : Heap) (locs1 : List Loc), xW D cl N0 (xset M a (xI cA n (upd f i x))) H1 → va_S (xA N0) s.heap H1 locs1 → W p l e R s m args below meth c H1 locs1 cells slots Q (F0 m (pc + 1) ls rest)) : W p l e R s m args below meth c H locs cells slots Q (F0 m pc ls (.int x :: .int (nI i) :: .ref a :: rest)) := by
  obtain ⟨hx, hb, hml, hown, hts, hr, hlocks, hK, hN⟩ := C
  obtain ⟨ws, hP, hD, hm⟩ := hM
  obtain ⟨k, hk⟩ := (hm a _).mp ha
  refine va_zast hx hb hK hP hD hS k 1 hk ht (vp_in_nI hi hn) hdg (fun H1 locs1 hP1 hD1 hS1 => ?_)
  rw [nI_clamp (by omega), hz] at hP1 hD1
  exact kk H1 locs1 (xW.put hD hm hk hP1 hD1) hS1
theorem r_alen (C : xC p s m args meth c cc nL ret own Ts D cl tys N0) (hM : xW D cl N0 M H) {cA : ClassId} {n : Nat} {f : Nat → Int32} (ha : M a = some (xI cA n f)) (ht : tys[0]? = some (cA, .int)) (hdg : decode cc pc = .ok (.arraylength, 1))
    (kk : W p l e R s m args below meth c H locs cells slots Q (F0 m (pc + 1) ls (.int (nI n) :: rest))) : W p l e R s m args below meth c H locs cells slots Q (F0 m pc ls (.ref a :: rest)) := by
  obtain ⟨hx, hb, hml, hown, hts, hr, hlocks, hK, hN⟩ := C
  exact x_alen hx hb hK hM 0 ha ht hdg kk
/-- a place of an array of references -/
theorem r_aald (C : xC p s m args meth c cc nL ret own Ts D cl tys N0) (hM : xW D cl N0 M H) {cA : ClassId} {n t0 : Nat} {f : Nat → Option Nat} {ty : FieldType} (ha : M a = some (xQ cA n f)) (ht : tys[t0]? = some (cA, ty)) (hty : ty.isReference = true) {i q : Nat} (hi : i < n) (hn : n < 2 ^ 31) (hq : f i = some q) (hdg : decode cc pc = .ok (.aaload, 1))
    (kk : W p l e R s m args below meth c H locs cells slots Q (F0 m (pc + 1) ls (.ref q :: rest))) : W p l e R s m args below meth c H locs cells slots Q (F0 m pc ls (.int (nI i) :: .ref a :: rest)) := by
  obtain ⟨hx, hb, hml, hown, hts, hr, hlocks, hK, hN⟩ := C
  obtain ⟨ws, hP, hD, hm⟩ := hM
  obtain ⟨k, hk⟩ := (hm a _).mp ha
  refine W.aald (v := .ref q) (ty := ty) hx hb (hP k _ hk) ((hK.2 t0 _ ht).1 n (fun j => va_rf (f j))) hty (fun q => by cases q) ?_ ?_ rfl rfl hdg kk
  · show ¬ (nI i < 0 ∨ (arrV _ _ _).slots.size ≤ _)
    rw [arrV_size]
    exact vp_in_nI hi hn
  · show (arrV _ _ _).slots[_]? = _
    rw [nI_clamp (by omega), arrV_read _ _ hi, hq]
    rfl
-- ints by their numbers
theorem r_iaddN (C : xC p s m args meth c cc nL ret own Ts D cl tys N0) {x y : Nat} (hdg : decode cc pc = .ok (.iadd, 1)) (kk : W p l e R s m args below meth c H locs cells slots Q (F0 m (pc + 1) ls (.int (nI (x + y)) :: rest))) : W p l e R s m args below meth c H locs cells slots Q (F0 m pc ls (.int (nI y) :: .int (nI x) :: rest)) := by
  obtain ⟨hx, hb, -⟩ := C
  refine lv_iadd hx hb hdg ?_
  rw [nI_add]
  exact kk
theorem r_isubN (C : xC p s m args meth c cc nL ret own Ts D cl tys N0) {x y : Nat} (h : y ≤ x) (hdg : decode cc pc = .ok (.isub, 1)) (kk : W p l e R s m args below meth c H locs cells slots Q (F0 m (pc + 1) ls (.int (nI (x - y)) :: rest))) : W p l e R s m args below meth c H locs cells slots Q (F0 m pc ls (.int (nI y) :: .int (nI x) :: rest)) := by
  obtain ⟨hx, hb, -⟩ := C
  refine lv_isub hx hb hdg ?_
  rw [pk_sub h]
  exact kk
theorem r_imulN (C : xC p s m args meth c cc nL ret own Ts D cl tys N0) {x y : Nat} (hdg : decode cc pc = .ok (.imul, 1)) (kk : W p l e R s m args below meth c H locs cells slots Q (F0 m (pc + 1) ls (.int (nI (x * y)) :: rest))) : W p l e R s m args below meth c H locs cells slots Q (F0 m pc ls (.int (nI y) :: .int (nI x) :: rest)) := by
  obtain ⟨hx, hb, -⟩ := C
  refine lv_imul hx hb hdg ?_
  rw [pk_mul]
  exact kk
theorem r_topi (C : xC p s m args meth c cc nL ret own Ts D cl tys N0) {x : Int32} (y : Int32) (h : x = y) (kk : W p l e R s m args below meth c H locs cells slots Q (F0 m pc ls (.int y :: rest))) : W p l e R s m args below meth c H locs cells slots Q (F0 m pc ls (.int x :: rest)) := by
  subst h
  exact kk
theorem r_topl (C : xC p s m args meth c cc nL ret own Ts D cl tys N0) {x : Int64} (y : Int64) (h : x = y) (kk : W p l e R s m args below meth c H locs cells slots Q (F0 m pc ls (.long y :: rest))) : W p l e R s m args below meth c H locs cells slots Q (F0 m pc ls (.long x :: rest)) := by
  subst h
  exact kk
theorem r_icmp_geN (C : xC p s m args meth c cc nL ret own Ts D cl tys N0) {x y : Nat} {off : Int} {tgt : Nat} (h1 : x < 2 ^ 31) (h2 : y < 2 ^ 31) (hdg : decode cc pc = .ok (.if_icmp .ge off, 3)) (ht : (pc : Int) + off = (tgt : Int)) (k1 : y ≤ x → W p l e R s m args below meth c H locs cells slots Q (F0 m tgt ls rest)) (k2 : x < y → W p l e R s m args below meth c H locs cells slots Q (F0 m (pc + 3) ls rest)) : W p l e R s m args below meth c H locs cells slots Q (F0 m pc ls (.int (nI y) :: .int (nI x) :: rest)) := by
  obtain ⟨hx, hb, -⟩ := C
  refine lv_icmp_ge hx hb hdg ht (fun h => k1 ((nI_leI h2 h1).mp h)) (fun h => k2 ?_)
  have hh : ¬ (y ≤ x) := fun q => h ((nI_leI h2 h1).mpr q)
  exact by omega
theorem r_icmp_ltN (C : xC p s m args meth c cc nL ret own Ts D cl tys N0) {x y : Nat} {off : Int} {tgt : Nat} (h1 : x < 2 ^ 31) (h2 : y < 2 ^ 31) (hdg : decode cc pc = .ok (.if_icmp .lt off, 3)) (ht : (pc : Int) + off = (tgt : Int)) (k1 : x < y → W p l e R s m args below meth c H locs cells slots Q (F0 m tgt ls rest)) (k2 : y ≤ x → W p l e R s m args below meth c H locs cells slots Q (F0 m (pc + 3) ls rest)) : W p l e R s m args below meth c H locs cells slots Q (F0 m pc ls (.int (nI y) :: .int (nI x) :: rest)) := by
  obtain ⟨hx, hb, -⟩ := C
  refine lv_icmp_lt hx hb hdg ht (fun h => k1 ((nI_ltI h1 h2).mp h)) (fun h => k2 ?_)
  have hh : ¬ (x < y) := fun q => h ((nI_ltI h1 h2).mpr q)
  exact by omega
theorem r_icmp_gtN (C : xC p s m args meth c cc nL ret own Ts D cl tys N0) {x y : Nat} {off : Int} {tgt : Nat} (h1 : x < 2 ^ 31) (h2 : y < 2 ^ 31) (hdg : decode cc pc = .ok (.if_icmp .gt off, 3)) (ht : (pc : Int) + off = (tgt : Int)) (k1 : y < x → W p l e R s m args below meth c H locs cells slots Q (F0 m tgt ls rest)) (k2 : x ≤ y → W p l e R s m args below meth c H locs cells slots Q (F0 m (pc + 3) ls rest)) : W p l e R s m args below meth c H locs cells slots Q (F0 m pc ls (.int (nI y) :: .int (nI x) :: rest)) := by
  obtain ⟨hx, hb, -⟩ := C
  refine lv_icmp_gt hx hb hdg ht (fun h => k1 ((nI_ltI h2 h1).mp h)) (fun h => k2 ?_)
  have hh : ¬ (y < x) := fun q => h ((nI_ltI h2 h1).mpr q)
  exact by omega
theorem r_icmp_leN (C : xC p s m args meth c cc nL ret own Ts D cl tys N0) {x y : Nat} {off : Int} {tgt : Nat} (h1 : x < 2 ^ 31) (h2 : y < 2 ^ 31) (hdg : decode cc pc = .ok (.if_icmp .le off, 3)) (ht : (pc : Int) + off = (tgt : Int)) (k1 : x ≤ y → W p l e R s m args below meth c H locs cells slots Q (F0 m tgt ls rest)) (k2 : y < x → W p l e R s m args below meth c H locs cells slots Q (F0 m (pc + 3) ls rest)) : W p l e R s m args below meth c H locs cells slots Q (F0 m pc ls (.int (nI y) :: .int (nI x) :: rest)) := by
  obtain ⟨hx, hb, -⟩ := C
  refine lv_icmp_le hx hb hdg ht (fun h => k1 ((nI_leI h1 h2).mp h)) (fun h => k2 ?_)
  have hh : ¬ (x ≤ y) := fun q => h ((nI_leI h1 h2).mpr q)
  exact by omega
theorem r_icmp_eqN (C : xC p s m args meth c cc nL ret own Ts D cl tys N0) {x y : Nat} {off : Int} {tgt : Nat} (h1 : x < 2 ^ 31) (h2 : y < 2 ^ 31) (hdg : decode cc pc = .ok (.if_icmp .eq off, 3)) (ht : (pc : Int) + off = (tgt : Int)) (k1 : x = y → W p l e R s m args below meth c H locs cells slots Q (F0 m tgt ls rest)) (k2 : x ≠ y → W p l e R s m args below meth c H locs cells slots Q (F0 m (pc + 3) ls rest)) : W p l e R s m args below meth c H locs cells slots Q (F0 m pc ls (.int (nI y) :: .int (nI x) :: rest)) := by
  obtain ⟨hx, hb, -⟩ := C
  refine lv_icmp_eq hx hb hdg ht (fun h => k1 ((nI_eq h1 h2).mp h)) (fun h => k2 ?_)
  have hh : ¬ (x = y) := fun q => h ((nI_eq h1 h2).mpr q)
  exact hh
theorem r_icmp_neN (C : xC p s m args meth c cc nL ret own Ts D cl tys N0) {x y : Nat} {off : Int} {tgt : Nat} (h1 : x < 2 ^ 31) (h2 : y < 2 ^ 31) (hdg : decode cc pc = .ok (.if_icmp .ne off, 3)) (ht : (pc : Int) + off = (tgt : Int)) (k1 : x ≠ y → W p l e R s m args below meth c H locs cells slots Q (F0 m tgt ls rest)) (k2 : x = y → W p l e R s m args below meth c H locs cells slots Q (F0 m (pc + 3) ls rest)) : W p l e R s m args below meth c H locs cells slots Q (F0 m pc ls (.int (nI y) :: .int (nI x) :: rest)) := by
  obtain ⟨hx, hb, -⟩ := C
  refine lv_icmp_ne hx hb hdg ht (fun h => k1 ((not_congr (nI_eq h1 h2)).mp h)) (fun h => k2 ?_)
  exact (nI_eq h1 h2).mp h

theorem nI_z : (0 : Int32) = nI 0 := nI_0.symm
theorem r_if_geN (C : xC p s m args meth c cc nL ret own Ts D cl tys N0) {x : Nat} {off : Int} {tgt : Nat} (h1 : x < 2 ^ 31) (hdg : decode cc pc = .ok (.ifCond .ge off, 3)) (ht : (pc : Int) + off = (tgt : Int)) (k1 : True → W p l e R s m args below meth c H locs cells slots Q (F0 m tgt ls rest)) (k2 : False → W p l e R s m args below meth c H locs cells slots Q (F0 m (pc + 3) ls rest)) : W p l e R s m args below meth c H locs cells slots Q (F0 m pc ls (.int (nI x) :: rest)) := by
  obtain ⟨hx, hb, -⟩ := C
  have hi := nI_toInt h1
  refine lv_if_ge hx hb hdg ht (fun h => k1 ?_) (fun h => k2 ?_)
  all_goals (first | rw [i_le] at h | rw [i_lt] at h | skip)
  all_goals (try rw [hi] at h)
  all_goals (try rw [Int32.toInt_zero] at h)
  all_goals (first | trivial | omega | (rw [nI_z, nI_eq h1 (by decide)] at h; first | exact h | exact Decidable.not_not.mp h) | (rw [nI_z] at h; have h3 := fun q => h ((nI_eq h1 (by decide)).mpr q); first | exact h3 | exact Decidable.not_not.mp h3))
theorem r_if_ltN (C : xC p s m args meth c cc nL ret own Ts D cl tys N0) {x : Nat} {off : Int} {tgt : Nat} (h1 : x < 2 ^ 31) (hdg : decode cc pc = .ok (.ifCond .lt off, 3)) (ht : (pc : Int) + off = (tgt : Int)) (k1 : False → W p l e R s m args below meth c H locs cells slots Q (F0 m tgt ls rest)) (k2 : True → W p l e R s m args below meth c H locs cells slots Q (F0 m (pc + 3) ls rest)) : W p l e R s m args below meth c H locs cells slots Q (F0 m pc ls (.int (nI x) :: rest)) := by
  obtain ⟨hx, hb, -⟩ := C
  have hi := nI_toInt h1
  refine lv_if_lt hx hb hdg ht (fun h => k1 ?_) (fun h => k2 ?_)
  all_goals (first | rw [i_le] at h | rw [i_lt] at h | skip)
  all_goals (try rw [hi] at h)
  all_goals (try rw [Int32.toInt_zero] at h)
  all_goals (first | trivial | omega | (rw [nI_z, nI_eq h1 (by decide)] at h; first | exact h | exact Decidable.not_not.mp h) | (rw [nI_z] at h; have h3 := fun q => h ((nI_eq h1 (by decide)).mpr q); first | exact h3 | exact Decidable.not_not.mp h3))
theorem r_if_gtN (C : xC p s m args meth c cc nL ret own Ts D cl tys N0) {x : Nat} {off : Int} {tgt : Nat} (h1 : x < 2 ^ 31) (hdg : decode cc pc = .ok (.ifCond .gt off, 3)) (ht : (pc : Int) + off = (tgt : Int)) (k1 : 0 < x → W p l e R s m args below meth c H locs cells slots Q (F0 m tgt ls rest)) (k2 : x = 0 → W p l e R s m args below meth c H locs cells slots Q (F0 m (pc + 3) ls rest)) : W p l e R s m args below meth c H locs cells slots Q (F0 m pc ls (.int (nI x) :: rest)) := by
  obtain ⟨hx, hb, -⟩ := C
  have hi := nI_toInt h1
  refine lv_if_gt hx hb hdg ht (fun h => k1 ?_) (fun h => k2 ?_)
  all_goals (first | rw [i_le] at h | rw [i_lt] at h | skip)
  all_goals (try rw [hi] at h)
  all_goals (try rw [Int32.toInt_zero] at h)
  all_goals (first | trivial | omega | (rw [nI_z, nI_eq h1 (by decide)] at h; first | exact h | exact Decidable.not_not.mp h) | (rw [nI_z] at h; have h3 := fun q => h ((nI_eq h1 (by decide)).mpr q); first | exact h3 | exact Decidable.not_not.mp h3))
theorem r_if_leN (C : xC p s m args meth c cc nL ret own Ts D cl tys N0) {x : Nat} {off : Int} {tgt : Nat} (h1 : x < 2 ^ 31) (hdg : decode cc pc = .ok (.ifCond .le off, 3)) (ht : (pc : Int) + off = (tgt : Int)) (k1 : x = 0 → W p l e R s m args below meth c H locs cells slots Q (F0 m tgt ls rest)) (k2 : 0 < x → W p l e R s m args below meth c H locs cells slots Q (F0 m (pc + 3) ls rest)) : W p l e R s m args below meth c H locs cells slots Q (F0 m pc ls (.int (nI x) :: rest)) := by
  obtain ⟨hx, hb, -⟩ := C
  have hi := nI_toInt h1
  refine lv_if_le hx hb hdg ht (fun h => k1 ?_) (fun h => k2 ?_)
  all_goals (first | rw [i_le] at h | rw [i_lt] at h | skip)
  all_goals (try rw [hi] at h)
  all_goals (try rw [Int32.toInt_zero] at h)
  all_goals (first | trivial | omega | (rw [nI_z, nI_eq h1 (by decide)] at h; first | exact h | exact Decidable.not_not.mp h) | (rw [nI_z] at h; have h3 := fun q => h ((nI_eq h1 (by decide)).mpr q); first | exact h3 | exact Decidable.not_not.mp h3))
theorem r_if_eqN (C : xC p s m args meth c cc nL ret own Ts D cl tys N0) {x : Nat} {off : Int} {tgt : Nat} (h1 : x < 2 ^ 31) (hdg : decode cc pc = .ok (.ifCond .eq off, 3)) (ht : (pc : Int) + off = (tgt : Int)) (k1 : x = 0 → W p l e R s m args below meth c H locs cells slots Q (F0 m tgt ls rest)) (k2 : x ≠ 0 → W p l e R s m args below meth c H locs cells slots Q (F0 m (pc + 3) ls rest)) : W p l e R s m args below meth c H locs cells slots Q (F0 m pc ls (.int (nI x) :: rest)) := by
  obtain ⟨hx, hb, -⟩ := C
  have hi := nI_toInt h1
  refine lv_if_eq hx hb hdg ht (fun h => k1 ?_) (fun h => k2 ?_)
  all_goals (first | rw [i_le] at h | rw [i_lt] at h | skip)
  all_goals (try rw [hi] at h)
  all_goals (try rw [Int32.toInt_zero] at h)
  all_goals (first | trivial | omega | (rw [nI_z, nI_eq h1 (by decide)] at h; first | exact h | exact Decidable.not_not.mp h) | (rw [nI_z] at h; have h3 := fun q => h ((nI_eq h1 (by decide)).mpr q); first | exact h3 | exact Decidable.not_not.mp h3))
theorem r_if_neN (C : xC p s m args meth c cc nL ret own Ts D cl tys N0) {x : Nat} {off : Int} {tgt : Nat} (h1 : x < 2 ^ 31) (hdg : decode cc pc = .ok (.ifCond .ne off, 3)) (ht : (pc : Int) + off = (tgt : Int)) (k1 : x ≠ 0 → W p l e R s m args below meth c H locs cells slots Q (F0 m tgt ls rest)) (k2 : x = 0 → W p l e R s m args below meth c H locs cells slots Q (F0 m (pc + 3) ls rest)) : W p l e R s m args below meth c H locs cells slots Q (F0 m pc ls (.int (nI x) :: rest)) := by
  obtain ⟨hx, hb, -⟩ := C
  have hi := nI_toInt h1
  refine lv_if_ne hx hb hdg ht (fun h => k1 ?_) (fun h => k2 ?_)
  all_goals (first | rw [i_le] at h | rw [i_lt] at h | skip)
  all_goals (try rw [hi] at h)
  all_goals (try rw [Int32.toInt_zero] at h)
  all_goals (first | trivial | omega | (rw [nI_z, nI_eq h1 (by decide)] at h; first | exact h | exact Decidable.not_not.mp h) | (rw [nI_z] at h; have h3 := fun q => h ((nI_eq h1 (by decide)).mpr q); first | exact h3 | exact Decidable.not_not.mp h3))
end RROWS

section RCALLS
variable {p : Program} {l : Launch} {e : Env} {R : Room} {s : State} {m : MethodId} {args : Array Value} {below : List Frame} {meth : Method} {c : Code} {H : Heap} {locs : List Loc} {cells slots : Nat} {Q : State → Prop}
variable {cc : ByteArray} {pc nL : Nat} {ret : Option FieldType} {own : String} {Ts : List Cond} {ls : Array Slot} {rest : List Value} {D : va_G} {cl : List vw_C} {tys : List (ClassId × FieldType)} {N0 : Nat} {M : xM}
variable {y : MethodName} {bytes : ByteArray} {maxL mc ms index : Nat} {rt : Option FieldType} {ws ws' : List Cond} {rm : Room} {As st0 : List Value} {b : Nat}
theorem r_Si {post : Int32 → xM → Prop} (C : xC p s m args meth c cc nL ret own Ts D cl tys N0) (hM : xW D cl N0 M H) (hS : va_S (xA N0) s.heap H locs) (hC : Met l y ws rm (va_Pc As (xB D cl tys N0 M)) (va_Qi post (xB D cl tys N0) (xA N0)) mc ms (xA N0)) (hT : GoodIn Ts (va_wsS own index y ws)) (hw : ws = Cond.code y bytes maxL rt :: ws') (hrc : rm.cells = mc) (hrs : rm.slots = ms) (hd : y.cls ≠ "java/lang/invoke/MethodHandle" ∧ y.cls ≠ "java/lang/invoke/VarHandle" ∧ (parseMethodDescriptor y.desc).map (fun d => d.parameters.length) = some As.length) (hR : rm.frames + 1 ≤ R.frames ∧ 8 + (maxL + 11) + rm.locals ≤ R.locals) (hl : ls.size = nL) (hst : st0 = As.reverse ++ rest) (hrest : (rest.map fun v => v.category).sum ≤ 8) (hdg : decode cc pc = .ok (.invokestatic index, 3)) (hf : cells + mc ≤ R.cells ∧ slots + ms ≤ R.slots)
    (kk : ∀ (r : Int32) (M1 : xM) (H1 : Heap) (locs1 : List Loc), post r M1 → xW D cl N0 M1 H1 → va_S (xA N0) s.heap H1 locs1 → W p l e R s m args below meth c H1 locs1 (cells + mc) (slots + ms) Q (F0 m (pc + 3) ls (.int r :: rest))) : W p l e R s m args below meth c H locs cells slots Q (F0 m pc ls st0) := by
  obtain ⟨hx, hb, hml, hown, hts, hr, hlocks, hK, hN⟩ := C
  exact x_calli (va_runS ⟨hx, hb, hml, hown, hts⟩ hC (va_cwS As.length hts hT hw hrc hrs hd hR) (x_pre hK hM hN hS) rfl rfl hl hst (lv_room hrest) hdg hf) hS kk
theorem r_Sl {post : Int64 → xM → Prop} (C : xC p s m args meth c cc nL ret own Ts D cl tys N0) (hM : xW D cl N0 M H) (hS : va_S (xA N0) s.heap H locs) (hC : Met l y ws rm (va_Pc As (xB D cl tys N0 M)) (va_Ql post (xB D cl tys N0) (xA N0)) mc ms (xA N0)) (hT : GoodIn Ts (va_wsS own index y ws)) (hw : ws = Cond.code y bytes maxL rt :: ws') (hrc : rm.cells = mc) (hrs : rm.slots = ms) (hd : y.cls ≠ "java/lang/invoke/MethodHandle" ∧ y.cls ≠ "java/lang/invoke/VarHandle" ∧ (parseMethodDescriptor y.desc).map (fun d => d.parameters.length) = some As.length) (hR : rm.frames + 1 ≤ R.frames ∧ 8 + (maxL + 11) + rm.locals ≤ R.locals) (hl : ls.size = nL) (hst : st0 = As.reverse ++ rest) (hrest : (rest.map fun v => v.category).sum ≤ 8) (hdg : decode cc pc = .ok (.invokestatic index, 3)) (hf : cells + mc ≤ R.cells ∧ slots + ms ≤ R.slots)
    (kk : ∀ (r : Int64) (M1 : xM) (H1 : Heap) (locs1 : List Loc), post r M1 → xW D cl N0 M1 H1 → va_S (xA N0) s.heap H1 locs1 → W p l e R s m args below meth c H1 locs1 (cells + mc) (slots + ms) Q (F0 m (pc + 3) ls (.long r :: rest))) : W p l e R s m args below meth c H locs cells slots Q (F0 m pc ls st0) := by
  obtain ⟨hx, hb, hml, hown, hts, hr, hlocks, hK, hN⟩ := C
  exact x_calll (va_runS ⟨hx, hb, hml, hown, hts⟩ hC (va_cwS As.length hts hT hw hrc hrs hd hR) (x_pre hK hM hN hS) rfl rfl hl hst (lv_room hrest) hdg hf) hS kk
theorem r_Sv {post : xM → Prop} (C : xC p s m args meth c cc nL ret own Ts D cl tys N0) (hM : xW D cl N0 M H) (hS : va_S (xA N0) s.heap H locs) (hC : Met l y ws rm (va_Pc As (xB D cl tys N0 M)) (va_Qv post (xB D cl tys N0) (xA N0)) mc ms (xA N0)) (hT : GoodIn Ts (va_wsS own index y ws)) (hw : ws = Cond.code y bytes maxL rt :: ws') (hrc : rm.cells = mc) (hrs : rm.slots = ms) (hd : y.cls ≠ "java/lang/invoke/MethodHandle" ∧ y.cls ≠ "java/lang/invoke/VarHandle" ∧ (parseMethodDescriptor y.desc).map (fun d => d.parameters.length) = some As.length) (hR : rm.frames + 1 ≤ R.frames ∧ 8 + (maxL + 11) + rm.locals ≤ R.locals) (hl : ls.size = nL) (hst : st0 = As.reverse ++ rest) (hrest : (rest.map fun v => v.category).sum ≤ 8) (hdg : decode cc pc = .ok (.invokestatic index, 3)) (hf : cells + mc ≤ R.cells ∧ slots + ms ≤ R.slots)
    (kk : ∀ (M1 : xM) (H1 : Heap) (locs1 : List Loc), post M1 → xW D cl N0 M1 H1 → va_S (xA N0) s.heap H1 locs1 → W p l e R s m args below meth c H1 locs1 (cells + mc) (slots + ms) Q (F0 m (pc + 3) ls (rest))) : W p l e R s m args below meth c H locs cells slots Q (F0 m pc ls st0) := by
  obtain ⟨hx, hb, hml, hown, hts, hr, hlocks, hK, hN⟩ := C
  exact x_callv (va_runS ⟨hx, hb, hml, hown, hts⟩ hC (va_cwS As.length hts hT hw hrc hrs hd hR) (x_pre hK hM hN hS) rfl rfl hl hst (lv_room hrest) hdg hf) hS kk
theorem r_Sr {post : xM × Nat → Prop} (C : xC p s m args meth c cc nL ret own Ts D cl tys N0) (hM : xW D cl N0 M H) (hS : va_S (xA N0) s.heap H locs) (hC : Met l y ws rm (va_Pc As (xB D cl tys N0 M)) (va_Qr (S := xM) (fun _ => True) (fun M1 ra t => post (M1, ra) ∧ xB D cl tys N0 M1 t) (xA N0)) mc ms (xA N0)) (hT : GoodIn Ts (va_wsS own index y ws)) (hw : ws = Cond.code y bytes maxL rt :: ws') (hrc : rm.cells = mc) (hrs : rm.slots = ms) (hd : y.cls ≠ "java/lang/invoke/MethodHandle" ∧ y.cls ≠ "java/lang/invoke/VarHandle" ∧ (parseMethodDescriptor y.desc).map (fun d => d.parameters.length) = some As.length) (hR : rm.frames + 1 ≤ R.frames ∧ 8 + (maxL + 11) + rm.locals ≤ R.locals) (hl : ls.size = nL) (hst : st0 = As.reverse ++ rest) (hrest : (rest.map fun v => v.category).sum ≤ 8) (hdg : decode cc pc = .ok (.invokestatic index, 3)) (hf : cells + mc ≤ R.cells ∧ slots + ms ≤ R.slots)
    (kk : ∀ (ra : Nat) (M1 : xM) (H1 : Heap) (locs1 : List Loc), post (M1, ra) → xW D cl N0 M1 H1 → va_S (xA N0) s.heap H1 locs1 → W p l e R s m args below meth c H1 locs1 (cells + mc) (slots + ms) Q (F0 m (pc + 3) ls (.ref ra :: rest))) : W p l e R s m args below meth c H locs cells slots Q (F0 m pc ls st0) := by
  obtain ⟨hx, hb, hml, hown, hts, hr, hlocks, hK, hN⟩ := C
  exact x_callr (va_runS ⟨hx, hb, hml, hown, hts⟩ hC (va_cwS As.length hts hT hw hrc hrs hd hR) (x_pre hK hM hN hS) rfl rfl hl hst (lv_room hrest) hdg hf) hS kk
theorem r_Vi {post : Int32 → xM → Prop} (C : xC p s m args meth c cc nL ret own Ts D cl tys N0) (hM : xW D cl N0 M H) (hS : va_S (xA N0) s.heap H locs) (hC : Met l y ws rm (va_Pc (.ref b :: As) (xB D cl tys N0 M)) (va_Qi post (xB D cl tys N0) (xA N0)) mc ms (xA N0)) {ci : Nat} {fs : List Value} {q : vw_C} (he : M b = some (xO ci fs)) (hc : cl[ci]? = some q) (hT : GoodIn Ts (wsV own index q.1 y ws)) (hw : ws = Cond.code y bytes maxL rt :: ws') (hrc : rm.cells = mc) (hrs : rm.slots = ms) (hd : y.cls = q.1 ∧ y.cls ≠ "java/lang/invoke/MethodHandle" ∧ y.cls ≠ "java/lang/invoke/VarHandle" ∧ (parseMethodDescriptor y.desc).map (fun d => d.parameters.length) = some As.length) (hR : rm.frames + 1 ≤ R.frames ∧ 8 + (maxL + 11) + rm.locals ≤ R.locals) (hl : ls.size = nL) (hst : st0 = As.reverse ++ .ref b :: rest) (hrest : (rest.map fun v => v.category).sum ≤ 8) (hdg : decode cc pc = .ok (.invokevirtual index, 3)) (hf : cells + mc ≤ R.cells ∧ slots + ms ≤ R.slots)
    (kk : ∀ (r : Int32) (M1 : xM) (H1 : Heap) (locs1 : List Loc), post r M1 → xW D cl N0 M1 H1 → va_S (xA N0) s.heap H1 locs1 → W p l e R s m args below meth c H1 locs1 (cells + mc) (slots + ms) Q (F0 m (pc + 3) ls (.int r :: rest))) : W p l e R s m args below meth c H locs cells slots Q (F0 m pc ls st0) := by
  obtain ⟨hx, hb, hml, hown, hts, hr, hlocks, hK, hN⟩ := C
  exact x_calli (va_runV ⟨hx, hb, hml, hown, hts⟩ hC (cwV As.length hts hT hw hrc hrs hd hR) (x_preV hK hM hN hS he hc) rfl rfl hl hst (lv_room hrest) hdg hf) hS kk
theorem r_Vl {post : Int64 → xM → Prop} (C : xC p s m args meth c cc nL ret own Ts D cl tys N0) (hM : xW D cl N0 M H) (hS : va_S (xA N0) s.heap H locs) (hC : Met l y ws rm (va_Pc (.ref b :: As) (xB D cl tys N0 M)) (va_Ql post (xB D cl tys N0) (xA N0)) mc ms (xA N0)) {ci : Nat} {fs : List Value} {q : vw_C} (he : M b = some (xO ci fs)) (hc : cl[ci]? = some q) (hT : GoodIn Ts (wsV own index q.1 y ws)) (hw : ws = Cond.code y bytes maxL rt :: ws') (hrc : rm.cells = mc) (hrs : rm.slots = ms) (hd : y.cls = q.1 ∧ y.cls ≠ "java/lang/invoke/MethodHandle" ∧ y.cls ≠ "java/lang/invoke/VarHandle" ∧ (parseMethodDescriptor y.desc).map (fun d => d.parameters.length) = some As.length) (hR : rm.frames + 1 ≤ R.frames ∧ 8 + (maxL + 11) + rm.locals ≤ R.locals) (hl : ls.size = nL) (hst : st0 = As.reverse ++ .ref b :: rest) (hrest : (rest.map fun v => v.category).sum ≤ 8) (hdg : decode cc pc = .ok (.invokevirtual index, 3)) (hf : cells + mc ≤ R.cells ∧ slots + ms ≤ R.slots)
    (kk : ∀ (r : Int64) (M1 : xM) (H1 : Heap) (locs1 : List Loc), post r M1 → xW D cl N0 M1 H1 → va_S (xA N0) s.heap H1 locs1 → W p l e R s m args below meth c H1 locs1 (cells + mc) (slots + ms) Q (F0 m (pc + 3) ls (.long r :: rest))) : W p l e R s m args below meth c H locs cells slots Q (F0 m pc ls st0) := by
  obtain ⟨hx, hb, hml, hown, hts, hr, hlocks, hK, hN⟩ := C
  exact x_calll (va_runV ⟨hx, hb, hml, hown, hts⟩ hC (cwV As.length hts hT hw hrc hrs hd hR) (x_preV hK hM hN hS he hc) rfl rfl hl hst (lv_room hrest) hdg hf) hS kk
theorem r_Vv {post : xM → Prop} (C : xC p s m args meth c cc nL ret own Ts D cl tys N0) (hM : xW D cl N0 M H) (hS : va_S (xA N0) s.heap H locs) (hC : Met l y ws rm (va_Pc (.ref b :: As) (xB D cl tys N0 M)) (va_Qv post (xB D cl tys N0) (xA N0)) mc ms (xA N0)) {ci : Nat} {fs : List Value} {q : vw_C} (he : M b = some (xO ci fs)) (hc : cl[ci]? = some q) (hT : GoodIn Ts (wsV own index q.1 y ws)) (hw : ws = Cond.code y bytes maxL rt :: ws') (hrc : rm.cells = mc) (hrs : rm.slots = ms) (hd : y.cls = q.1 ∧ y.cls ≠ "java/lang/invoke/MethodHandle" ∧ y.cls ≠ "java/lang/invoke/VarHandle" ∧ (parseMethodDescriptor y.desc).map (fun d => d.parameters.length) = some As.length) (hR : rm.frames + 1 ≤ R.frames ∧ 8 + (maxL + 11) + rm.locals ≤ R.locals) (hl : ls.size = nL) (hst : st0 = As.reverse ++ .ref b :: rest) (hrest : (rest.map fun v => v.category).sum ≤ 8) (hdg : decode cc pc = .ok (.invokevirtual index, 3)) (hf : cells + mc ≤ R.cells ∧ slots + ms ≤ R.slots)
    (kk : ∀ (M1 : xM) (H1 : Heap) (locs1 : List Loc), post M1 → xW D cl N0 M1 H1 → va_S (xA N0) s.heap H1 locs1 → W p l e R s m args below meth c H1 locs1 (cells + mc) (slots + ms) Q (F0 m (pc + 3) ls (rest))) : W p l e R s m args below meth c H locs cells slots Q (F0 m pc ls st0) := by
  obtain ⟨hx, hb, hml, hown, hts, hr, hlocks, hK, hN⟩ := C
  exact x_callv (va_runV ⟨hx, hb, hml, hown, hts⟩ hC (cwV As.length hts hT hw hrc hrs hd hR) (x_preV hK hM hN hS he hc) rfl rfl hl hst (lv_room hrest) hdg hf) hS kk
theorem r_Vr {post : xM × Nat → Prop} (C : xC p s m args meth c cc nL ret own Ts D cl tys N0) (hM : xW D cl N0 M H) (hS : va_S (xA N0) s.heap H locs) (hC : Met l y ws rm (va_Pc (.ref b :: As) (xB D cl tys N0 M)) (va_Qr (S := xM) (fun _ => True) (fun M1 ra t => post (M1, ra) ∧ xB D cl tys N0 M1 t) (xA N0)) mc ms (xA N0)) {ci : Nat} {fs : List Value} {q : vw_C} (he : M b = some (xO ci fs)) (hc : cl[ci]? = some q) (hT : GoodIn Ts (wsV own index q.1 y ws)) (hw : ws = Cond.code y bytes maxL rt :: ws') (hrc : rm.cells = mc) (hrs : rm.slots = ms) (hd : y.cls = q.1 ∧ y.cls ≠ "java/lang/invoke/MethodHandle" ∧ y.cls ≠ "java/lang/invoke/VarHandle" ∧ (parseMethodDescriptor y.desc).map (fun d => d.parameters.length) = some As.length) (hR : rm.frames + 1 ≤ R.frames ∧ 8 + (maxL + 11) + rm.locals ≤ R.locals) (hl : ls.size = nL) (hst : st0 = As.reverse ++ .ref b :: rest) (hrest : (rest.map fun v => v.category).sum ≤ 8) (hdg : decode cc pc = .ok (.invokevirtual index, 3)) (hf : cells + mc ≤ R.cells ∧ slots + ms ≤ R.slots)
    (kk : ∀ (ra : Nat) (M1 : xM) (H1 : Heap) (locs1 : List Loc), post (M1, ra) → xW D cl N0 M1 H1 → va_S (xA N0) s.heap H1 locs1 → W p l e R s m args below meth c H1 locs1 (cells + mc) (slots + ms) Q (F0 m (pc + 3) ls (.ref ra :: rest))) : W p l e R s m args below meth c H locs cells slots Q (F0 m pc ls st0) := by
  obtain ⟨hx, hb, hml, hown, hts, hr, hlocks, hK, hN⟩ := C
  exact x_callr (va_runV ⟨hx, hb, hml, hown, hts⟩ hC (cwV As.length hts hT hw hrc hrs hd hR) (x_preV hK hM hN hS he hc) rfl rfl hl hst (lv_room hrest) hdg hf) hS kk
theorem r_Iv {post : xM → Prop} (C : xC p s m args meth c cc nL ret own Ts D cl tys N0) (hM : xW D cl N0 M H) (hS : va_S (xA N0) s.heap H locs) (hC : Met l y ws rm (va_Pc (.ref b :: As) (xB D cl tys N0 M)) (va_Qv post (xB D cl tys N0) (xA N0)) mc ms (xA N0)) (hT : GoodIn Ts ws) (hini : (Cond.initialized y.cls).before args s = true) (hlk : (Cond.methodLink own index y).before args s = true) (hin : (Cond.instanceMethod y).before args s = true) (hy1 : y.name = "<init>") (hw : ws = Cond.code y bytes maxL none :: ws') (hrc : rm.cells = mc) (hrs : rm.slots = ms) (hd : y.cls ≠ "java/lang/invoke/MethodHandle" ∧ y.cls ≠ "java/lang/invoke/VarHandle" ∧ (parseMethodDescriptor y.desc).map (fun d => d.parameters.length) = some As.length) (hR : rm.frames + 1 ≤ R.frames ∧ 8 + (maxL + 11) + rm.locals ≤ R.locals) (hl : ls.size = nL) (hst : st0 = As.reverse ++ .ref b :: rest) (hrest : (rest.map fun v => v.category).sum ≤ 8) (hdg : decode cc pc = .ok (.invokespecial index, 3)) (hf : cells + mc ≤ R.cells ∧ slots + ms ≤ R.slots)
    (kk : ∀ (M1 : xM) (H1 : Heap) (locs1 : List Loc), post M1 → xW D cl N0 M1 H1 → va_S (xA N0) s.heap H1 locs1 → W p l e R s m args below meth c H1 locs1 (cells + mc) (slots + ms) Q (F0 m (pc + 3) ls (rest))) : W p l e R s m args below meth c H locs cells slots Q (F0 m pc ls st0) := by
  obtain ⟨hx, hb, hml, hown, hts, hr, hlocks, hK, hN⟩ := C
  exact x_callv (va_runI ⟨hx, hb, hml, hown, hts⟩ hC (cwI As.length hts hT hw hrc hrs hini hlk hin hy1 hd hR) (x_pre hK hM hN hS) rfl rfl hl hst (lv_room hrest) hdg hf) hS kk
end RCALLS
end
