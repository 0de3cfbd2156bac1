-- LONG DIVISION: the guess from the two highest limbs is too great by 2 at most, never too small
theorem kn_guess {U Dv d1 head P r d' : Nat} (hU : U = head * P + r) (hr : r < P) (hD : Dv = d1 * P + d') (hd : d' < P) (h1 : BB ≤ 2 * d1) (hlt : U < Dv * BB) : U / Dv ≤ min (head / d1) (BB - 1) ∧ min (head / d1) (BB - 1) ≤ U / Dv + 2 := by
  have hB : 0 < BB := BB_pos
  have hd0 : 0 < d1 := by omega
  have hP : 0 < P := by omega
  have hDv : 0 < Dv := by
    rw [hD]
    have := Nat.mul_pos hd0 hP
    omega
  constructor
  · apply Nat.le_min.mpr
    constructor
    · rw [Nat.le_div_iff_mul_le hd0]
      have h2 : U / Dv * Dv ≤ U := Nat.div_mul_le_self _ _
      have h3 : U / Dv * (d1 * P) ≤ U / Dv * Dv := Nat.mul_le_mul_left _ (by omega)
      rw [← Nat.mul_assoc] at h3
      have h4 : (U / Dv * d1) * P < (head + 1) * P := by
        rw [Nat.add_mul head, Nat.one_mul]
        omega
      have h5 := Nat.lt_of_mul_lt_mul_right h4
      omega
    · have h2 : U / Dv < BB := (Nat.div_lt_iff_lt_mul hDv).mpr (by rw [Nat.mul_comm]; exact hlt)
      omega
  · generalize hg : min (head / d1) (BB - 1) = g
    have g1 : g ≤ head / d1 := by rw [← hg]; exact Nat.min_le_left _ _
    have g2 : g ≤ BB - 1 := by rw [← hg]; exact Nat.min_le_right _ _
    have g3 : g * d1 ≤ head := (Nat.le_div_iff_mul_le hd0).mp g1
    rcases Nat.lt_or_ge g 3 with h | h
    · exact Nat.le_trans (Nat.le_of_lt_succ h) (Nat.le_add_left _ _)
    · obtain ⟨k, rfl⟩ : ∃ k, g = k + 2 := ⟨g - 2, by omega⟩
      have e1 : (k + 2) * Dv = (k + 2) * d1 * P + (k + 2) * d' := by rw [hD, Nat.mul_add, Nat.mul_assoc]
      have e2 : (k + 2) * Dv = k * Dv + 2 * Dv := Nat.add_mul _ _ _
      have e3 : (k + 2) * d1 * P ≤ head * P := Nat.mul_le_mul_right _ g3
      have e4 : (k + 2) * d' ≤ (k + 2) * P := Nat.mul_le_mul_left _ (by omega)
      have e5 : (k + 2) * P ≤ BB * P := Nat.mul_le_mul_right _ (by omega)
      have e6 : BB * P ≤ 2 * d1 * P := Nat.mul_le_mul_right _ h1
      have e7 : 2 * d1 * P = 2 * (d1 * P) := Nat.mul_assoc _ _ _
      have hk : k ≤ U / Dv := (Nat.le_div_iff_mul_le hDv).mpr (by omega)
      omega
/-- what is left of U when a guess that is too great by j times is taken away, and put back j times -/
theorem kn_rest {U Dv g : Nat} (h0 : 0 < Dv) (h1 : U / Dv ≤ g) : ((U : Int) - g * Dv) + ((g - U / Dv : Nat) : Int) * Dv = ((U % Dv : Nat) : Int) := by
  have e := Nat.div_add_mod U Dv
  obtain ⟨j, rfl⟩ : ∃ j, g = U / Dv + j := ⟨g - U / Dv, by omega⟩
  rw [Nat.add_sub_cancel_left]
  have e2 : ((Dv * (U / Dv) + U % Dv : Nat) : Int) = (U : Int) := by rw [e]
  have e3 : ((U / Dv + j : Nat) : Int) * Dv = (Dv : Int) * ((U / Dv : Nat) : Int) + (j : Int) * Dv := by
    rw [Int.natCast_add, Int.add_mul, Int.mul_comm ((U / Dv : Nat) : Int)]
  rw [e3, ← e2, Int.natCast_add, Int.natCast_mul]
  omega
-- BITS
def bl (n : Nat) : Nat := if n = 0 then 0 else n.log2 + 1
theorem bl_0 : bl 0 = 0 := rfl
theorem bl_hi (n : Nat) : n < 2 ^ bl n := by
  unfold bl
  split
  · omega
  · exact Nat.lt_log2_self
theorem bl_lo {n : Nat} (h : 0 < n) : 2 ^ (bl n - 1) ≤ n := by
  unfold bl
  rw [if_neg (by omega)]
  exact Nat.log2_self_le (by omega)
theorem bl_pos {n : Nat} (h : 0 < n) : 0 < bl n := by
  unfold bl
  rw [if_neg (by omega)]
  omega
theorem bl_of {n k : Nat} (h1 : 2 ^ k ≤ n) (h2 : n < 2 ^ (k + 1)) : bl n = k + 1 := by
  have hn : 0 < n := Nat.lt_of_lt_of_le (Nat.two_pow_pos k) h1
  have a := bl_hi n
  have b := bl_lo hn
  have c := bl_pos hn
  have d : k < bl n := (Nat.pow_lt_pow_iff_right (by decide : 1 < 2)).mp (Nat.lt_of_le_of_lt h1 a)
  have e : bl n - 1 < k + 1 := (Nat.pow_lt_pow_iff_right (by decide : 1 < 2)).mp (Nat.lt_of_le_of_lt b h2)
  omega
theorem bl_le {n k : Nat} (h : n < 2 ^ k) : bl n ≤ k := by
  rcases Nat.eq_zero_or_pos n with h0 | h0
  · rw [h0, bl_0]; omega
  · have b := bl_lo h0
    have c := bl_pos h0
    have e : bl n - 1 < k := (Nat.pow_lt_pow_iff_right (by decide : 1 < 2)).mp (Nat.lt_of_le_of_lt b h)
    omega
theorem bl_mono {m n : Nat} (h : m ≤ n) : bl m ≤ bl n := bl_le (Nat.lt_of_le_of_lt h (bl_hi n))
theorem BB_two (n : Nat) : BB ^ n = 2 ^ (31 * n) := by rw [Nat.pow_mul]; rfl
-- A ROW SHIFTED: limb by limb. hd: the limb's part that stays, cy: what goes over to the next
theorem sh_limb {hi lo r : Nat} (hr : r < 31) (hl : lo < BB) : ((hi * BB + lo) / 2 ^ (31 - r)) % BB = hi * 2 ^ r % BB + lo / 2 ^ (31 - r) := by
  have e1 : BB = 2 ^ r * 2 ^ (31 - r) := by
    rw [← Nat.pow_add, show r + (31 - r) = 31 by omega]
    rfl
  have hp : 0 < 2 ^ (31 - r) := Nat.two_pow_pos _
  have hq : 0 < 2 ^ r := Nat.two_pow_pos _
  have e2 : (hi * BB + lo) / 2 ^ (31 - r) = hi * 2 ^ r + lo / 2 ^ (31 - r) := by
    rw [e1, ← Nat.mul_assoc, Nat.add_comm, Nat.add_mul_div_right _ _ hp, Nat.add_comm]
  rw [e2]
  have h3 : lo / 2 ^ (31 - r) < 2 ^ r := (Nat.div_lt_iff_lt_mul hp).mpr (by rw [← e1]; exact hl)
  have e4 : hi * 2 ^ r % BB = hi % 2 ^ (31 - r) * 2 ^ r := by
    rw [e1, Nat.mul_comm (2 ^ r) (2 ^ (31 - r)), Nat.mul_mod_mul_right]
  have h5 : hi % 2 ^ (31 - r) < 2 ^ (31 - r) := Nat.mod_lt _ hp
  have h6 : (hi % 2 ^ (31 - r) + 1) * 2 ^ r ≤ 2 ^ (31 - r) * 2 ^ r := Nat.mul_le_mul_right _ h5
  rw [Nat.add_mul, Nat.one_mul, Nat.mul_comm (2 ^ (31 - r)), ← e1, ← e4] at h6
  rw [Nat.add_mod, Nat.mod_eq_of_lt (a := lo / 2 ^ (31 - r)) (by
    have : 2 ^ r ≤ BB := by rw [e1]; exact Nat.le_mul_of_pos_right _ hp
    omega)]
  exact Nat.mod_eq_of_lt (by omega)
theorem sh_whole {a r : Nat} (hr : r < 31) : a * 2 ^ r = a * 2 ^ r % BB + a / 2 ^ (31 - r) * BB := by
  have e1 : BB = 2 ^ (31 - r) * 2 ^ r := by
    rw [← Nat.pow_add, show (31 - r) + r = 31 by omega]
    rfl
  have hq : 0 < 2 ^ r := Nat.two_pow_pos _
  have h := Nat.mod_add_div (a * 2 ^ r) BB
  have e2 : a * 2 ^ r / BB = a / 2 ^ (31 - r) := by
    rw [e1, Nat.mul_div_mul_right _ _ hq]
  rw [e2, Nat.mul_comm BB] at h
  exact h.symm
/-- limb i of the row times 2 to the q limbs and r bits -/
def shl (f : Nat → Int32) (q r i : Nat) : Nat := ((if q ≤ i then dg (f (i - q)) else 0) * BB + (if q + 1 ≤ i then dg (f (i - q - 1)) else 0)) / 2 ^ (31 - r) % BB
def shV (f : Nat → Int32) (q r : Nat) : Nat → Nat
  | 0 => 0
  | n + 1 => shV f q r n + shl f q r n * BB ^ n
theorem shl_lt (f : Nat → Int32) (q r i : Nat) : shl f q r i < BB := Nat.mod_lt _ BB_pos
theorem shV_low {f : Nat → Int32} {q r : Nat} : ∀ {n : Nat}, n ≤ q → shV f q r n = 0 := by
  intro n
  induction n with
  | zero => intro _; rfl
  | succ n ih =>
    intro h
    show shV f q r n + _ = 0
    rw [ih (by omega)]
    unfold shl
    rw [if_neg (by omega), if_neg (by omega)]
    simp
theorem shV_up {f : Nat → Int32} {q r : Nat} (hr : r < 31) : ∀ k : Nat, shV f q r (q + k) + (if k = 0 then 0 else dg (f (k - 1)) / 2 ^ (31 - r)) * BB ^ (q + k) = V f k * (BB ^ q * 2 ^ r) := by
  intro k
  induction k with
  | zero =>
    rw [Nat.add_zero, shV_low (Nat.le_refl _), V_0]
    simp
  | succ k ih =>
    rw [if_neg (by omega), Nat.add_sub_cancel]
    have e0 : shV f q r (q + (k + 1)) = shV f q r (q + k) + shl f q r (q + k) * BB ^ (q + k) := rfl
    have e1 : shl f q r (q + k) = dg (f k) * 2 ^ r % BB + (if k = 0 then 0 else dg (f (k - 1)) / 2 ^ (31 - r)) := by
      unfold shl
      rw [if_pos (by omega), Nat.add_sub_cancel_left]
      by_cases hk : k = 0
      · subst hk
        rw [if_neg (by omega), if_pos rfl, sh_limb hr BB_pos, Nat.zero_div]
      · rw [if_pos (by omega), if_neg hk, sh_limb hr (dg_lt _)]
    have e2 := sh_whole (a := dg (f k)) hr
    rw [e0, e1, V_s, Nat.add_mul (V f k), ← ih, Nat.add_mul (dg (f k) * 2 ^ r % BB)]
    have e3 : dg (f k) * BB ^ k * (BB ^ q * 2 ^ r) = dg (f k) * 2 ^ r * BB ^ (q + k) := by
      rw [Nat.pow_add]
      simp only [Nat.mul_assoc, Nat.mul_comm, Nat.mul_left_comm]
    have e4 : BB ^ (q + (k + 1)) = BB * BB ^ (q + k) := by rw [← Nat.add_assoc, Nat.pow_succ, Nat.mul_comm]
    rw [e3, e4, ← Nat.mul_assoc]
    have e5 : dg (f k) * 2 ^ r * BB ^ (q + k) = (dg (f k) * 2 ^ r % BB + dg (f k) / 2 ^ (31 - r) * BB) * BB ^ (q + k) := by rw [← e2]
    rw [e5, Nat.add_mul (dg (f k) * 2 ^ r % BB)]
    omega
theorem shV_lt (f : Nat → Int32) (q r : Nat) : ∀ n, shV f q r n < BB ^ n := by
  intro n
  induction n with
  | zero => exact Nat.zero_lt_one
  | succ n ih =>
    show shV f q r n + shl f q r n * BB ^ n < BB ^ (n + 1)
    have h1 : shl f q r n + 1 ≤ BB := shl_lt f q r n
    have h2 : (shl f q r n + 1) * BB ^ n ≤ BB * BB ^ n := Nat.mul_le_mul_right _ h1
    rw [Nat.add_mul, Nat.one_mul] at h2
    rw [Nat.pow_succ, Nat.mul_comm (BB ^ n) BB]
    omega
theorem shV_eq {f : Nat → Int32} {q r n : Nat} (hr : r < 31) : shV f q r n = V f n * (BB ^ q * 2 ^ r) % BB ^ n := by
  rcases Nat.lt_or_ge n q with h | h
  · rw [shV_low (by omega)]
    obtain ⟨b, rfl⟩ : ∃ b, q = n + b := ⟨q - n, by omega⟩
    rw [Nat.pow_add, Nat.mul_assoc, Nat.mul_left_comm (V f n), Nat.mul_mod_right]
  · obtain ⟨k, rfl⟩ : ∃ k, n = q + k := ⟨n - q, by omega⟩
    have h1 := shV_up (f := f) (q := q) hr k
    have h2 := shV_lt f q r (q + k)
    rw [Nat.add_comm q k] at h1 h2 ⊢
    rw [V_split, Nat.add_mul, ← h1]
    have e : BB ^ k * Vw f k q * (BB ^ q * 2 ^ r) = BB ^ (k + q) * (Vw f k q * 2 ^ r) := by
      rw [Nat.pow_add]
      simp only [Nat.mul_assoc, Nat.mul_comm, Nat.mul_left_comm]
    rw [e, Nat.add_mul_mod_self_left, Nat.add_mul_mod_self_right, Nat.mod_eq_of_lt h2]
/-- a row shifted right by sh bits, with 0 above it -/
theorem ush_limb {hi lo sh : Nat} (hs : sh < 31) (hl : lo < BB) : ((hi * BB + lo) / 2 ^ sh) % BB = lo / 2 ^ sh + hi % 2 ^ sh * 2 ^ (31 - sh) := by
  have e1 : BB = 2 ^ (31 - sh) * 2 ^ sh := by
    rw [← Nat.pow_add, show (31 - sh) + sh = 31 by omega]
    rfl
  have hp : 0 < 2 ^ sh := Nat.two_pow_pos _
  have e2 : (hi * BB + lo) / 2 ^ sh = hi * 2 ^ (31 - sh) + lo / 2 ^ sh := by
    rw [e1, ← Nat.mul_assoc, Nat.add_comm, Nat.add_mul_div_right _ _ hp, Nat.add_comm]
  have h3 : lo / 2 ^ sh < 2 ^ (31 - sh) := (Nat.div_lt_iff_lt_mul hp).mpr (by rw [← e1]; exact hl)
  have e4 : hi * 2 ^ (31 - sh) % BB = hi % 2 ^ sh * 2 ^ (31 - sh) := by
    rw [e1, Nat.mul_comm (2 ^ (31 - sh)) (2 ^ sh), Nat.mul_mod_mul_right]
  have h5 : hi % 2 ^ sh < 2 ^ sh := Nat.mod_lt _ hp
  have h6 : (hi % 2 ^ sh + 1) * 2 ^ (31 - sh) ≤ 2 ^ sh * 2 ^ (31 - sh) := Nat.mul_le_mul_right _ h5
  rw [Nat.add_mul, Nat.one_mul, Nat.mul_comm (2 ^ sh), ← e1, ← e4] at h6
  rw [e2, Nat.add_mod, Nat.mod_eq_of_lt (a := lo / 2 ^ sh) (by
    have : 2 ^ (31 - sh) ≤ BB := by rw [e1]; exact Nat.le_mul_of_pos_right _ hp
    omega), ← e4]
  rw [Nat.mod_eq_of_lt (by omega), Nat.add_comm]
