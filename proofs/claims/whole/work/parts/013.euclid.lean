-- THE NUMBER THAT MAKES 1 OF a MODULO m
def inv? (m a : Nat) : Option Nat := (List.range m).find? (fun y => a * y % m == 1 % m)
theorem inv_uniq {m a x y : Nat} (hx : x < m) (hy : y < m) (h1 : a * x % m = 1 % m) (h2 : a * y % m = 1 % m) : x = y := by
  have e1 : (a * x) * y % m = y := by
    rw [Nat.mul_mod, h1, ← Nat.mul_mod, Nat.one_mul, Nat.mod_eq_of_lt hy]
  have e2 : (a * y) * x % m = x := by
    rw [Nat.mul_mod, h2, ← Nat.mul_mod, Nat.one_mul, Nat.mod_eq_of_lt hx]
  rw [Nat.mul_right_comm] at e2
  exact e2.symm.trans e1
theorem inv_some {m a y : Nat} (hy : y < m) (h : a * y % m = 1 % m) : inv? m a = some y := by
  unfold inv?
  rcases hf : (List.range m).find? (fun y => a * y % m == 1 % m) with _ | x
  · have := List.find?_eq_none.mp hf y (List.mem_range.mpr hy)
    simp [h] at this
  · have h1 := List.find?_some hf
    have h2 := List.mem_range.mp (List.mem_of_find?_eq_some hf)
    rw [inv_uniq h2 hy (by simpa using h1) h]
theorem inv_none {m a : Nat} (h : ∀ y, a * y % m ≠ 1 % m) : inv? m a = none := by
  unfold inv?
  apply List.find?_eq_none.mpr
  intro y _
  simpa using h y
theorem inv_spec {m a y : Nat} (h : inv? m a = some y) : y < m ∧ a * y % m = 1 % m := by
  unfold inv? at h
  exact ⟨List.mem_range.mp (List.mem_of_find?_eq_some h), by simpa using List.find?_some h⟩
theorem inv_no {m a : Nat} (h0 : 0 < m) (h : inv? m a = none) : ∀ y, a * y % m ≠ 1 % m := by
  intro y hy
  have h1 : a * (y % m) % m = 1 % m := by
    rw [Nat.mul_mod, Nat.mod_mod, ← Nat.mul_mod]
    exact hy
  rw [inv_some (Nat.mod_lt _ h0) h1] at h
  cases h
-- EUCLID'S WAY WITH SHIFTS: rests r, n; factors f, g; ng: which of the two is below 0
def euS (ng : Bool) : Int := if ng then -1 else 1
def euI (m a r n f g : Nat) (ng : Bool) : Prop := r * g + n * f = m ∧ f ≤ m ∧ g ≤ m ∧ Nat.gcd r n = Nat.gcd m a ∧ (m : Int) ∣ (r : Int) - euS ng * f * a ∧ (m : Int) ∣ (n : Int) + euS ng * g * a
theorem euI_0 {m a : Nat} (hm : 0 < m) : euI m a m a 0 1 true := by
  refine ⟨by simp, by omega, by omega, rfl, ⟨1, by simp⟩, ⟨0, by simp [euS]; omega⟩⟩
theorem euI_swap {m a r n f g : Nat} {ng : Bool} (h : euI m a r n f g ng) : euI m a n r g f (!ng) := by
  obtain ⟨h1, h2, h3, h4, h5, h6⟩ := h
  have e : euS (!ng) = - euS ng := by cases ng <;> rfl
  refine ⟨by omega, h3, h2, by rw [Nat.gcd_comm]; exact h4, ?_, ?_⟩
  · rw [e, Int.neg_mul, Int.neg_mul, Int.sub_neg]; exact h6
  · rw [e, Int.neg_mul, Int.neg_mul, ← Int.sub_eq_add_neg]; exact h5
theorem euI_sub {m a r n f g k : Nat} {ng : Bool} (hn : 0 < n) (hk : k * n ≤ r) (h : euI m a r n f g ng) : euI m a (r - k * n) n (f + k * g) g ng := by
  obtain ⟨h1, h2, h3, h4, h5, h6⟩ := h
  obtain ⟨q, rfl⟩ : ∃ q, r = k * n + q := ⟨r - k * n, by omega⟩
  rw [Nat.add_sub_cancel_left]
  have e1 : q * g + n * (f + k * g) = m := by
    rw [← h1, Nat.mul_add, Nat.add_mul]
    have : n * (k * g) = k * n * g := by simp only [Nat.mul_assoc, Nat.mul_comm, Nat.mul_left_comm]
    omega
  refine ⟨e1, ?_, h3, ?_, ?_, h6⟩
  · have : 1 * (f + k * g) ≤ n * (f + k * g) := Nat.mul_le_mul_right _ hn
    omega
  · rw [← h4, Nat.add_comm (k * n) q, Nat.gcd_add_mul_right_left]
  · have e2 : (q : Int) - euS ng * ((f + k * g : Nat) : Int) * a = (((k * n + q : Nat) : Int) - euS ng * f * a) - k * ((n : Int) + euS ng * g * a) := by
      rw [Int.natCast_add, Int.natCast_add, Int.natCast_mul, Int.natCast_mul]
      grind
    rw [e2]
    exact Int.dvd_sub h5 (Int.dvd_mul_of_dvd_right h6)
/-- a step halves the first rest, or the two change places -/
def euM (r n : Nat) : Nat := 2 * (bl r + bl n) + (if r < n then 1 else 0)
theorem euM_sub {r n k : Nat} (hn : 0 < n) (h1 : 2 ^ k * n ≤ r) (h2 : r < 2 ^ (k + 1) * n) : euM (r - 2 ^ k * n) n < euM r n := by
  have e : 2 ^ (k + 1) * n = 2 * (2 ^ k * n) := by rw [Nat.pow_succ, Nat.mul_comm (2 ^ k) 2, Nat.mul_assoc]
  have hp : 1 * n ≤ 2 ^ k * n := Nat.mul_le_mul_right _ (Nat.two_pow_pos k)
  have hr : 0 < r := by omega
  have h3 : 2 * (r - 2 ^ k * n) < r := by omega
  have h4 : bl (r - 2 ^ k * n) + 1 ≤ bl r := by
    have a := bl_hi r
    have c := bl_pos hr
    have d : 2 ^ bl r = 2 * 2 ^ (bl r - 1) := by
      obtain ⟨j, hj⟩ : ∃ j, bl r = j + 1 := ⟨bl r - 1, by omega⟩
      rw [hj, Nat.add_sub_cancel, Nat.pow_succ, Nat.mul_comm]
    have : bl (r - 2 ^ k * n) ≤ bl r - 1 := bl_le (by omega)
    omega
  unfold euM
  split <;> split <;> omega
theorem euM_swap {r n : Nat} (h : r < n) : euM n r < euM r n := by
  unfold euM
  rw [if_pos h, if_neg (by omega)]
  omega
/-- the end: the first rest is 1: its factor, with its sign, makes 1 of a -/
theorem euI_end {m a f g : Nat} {ng : Bool} (hm : 0 < m) (ha : a < m) (h : euI m a 1 0 f g ng) : inv? m a = some (if ng then (if f = 0 then 0 else m - f) else f % m) := by
  obtain ⟨h1, h2, h3, h4, ⟨q, h5⟩, h6⟩ := h
  have hr : (if ng then (if f = 0 then 0 else m - f) else f % m) < m := by
    split
    · split <;> omega
    · exact Nat.mod_lt _ hm
  refine inv_some hr ?_
  have key : ((a * (if ng then (if f = 0 then 0 else m - f) else f % m) : Nat) : Int) % m = ((1 : Nat) : Int) % m := by
    cases ng with
    | true =>
      simp only [if_true]
      have e : euS true = -1 := rfl
      rw [e] at h5
      by_cases hf : f = 0
      · subst hf
        rw [if_pos rfl]
        simp at h5
        rw [Nat.mul_zero]
        have e3 : ((1 : Nat) : Int) = m * q := h5
        rw [e3]
        simp
      · rw [if_neg hf]
        obtain ⟨d, rfl⟩ : ∃ d, m = f + d := ⟨m - f, by omega⟩
        rw [Nat.add_sub_cancel_left]
        have e2 : ((a * d : Nat) : Int) = ((1 : Nat) : Int) + ((f + d : Nat) : Int) * (a - q) := by
          rw [Int.natCast_mul, Int.natCast_add]
          rw [Int.natCast_add] at h5
          grind
        rw [e2, Int.add_mul_emod_self_left]
    | false =>
      have e : euS false = 1 := rfl
      rw [e] at h5
      simp only [Bool.false_eq_true, if_false]
      have e0 : ((a * (f % m) : Nat) : Int) % m = ((a * f : Nat) : Int) % m := by
        rw [← Int.natCast_emod, ← Int.natCast_emod, Nat.mul_mod, Nat.mod_mod, ← Nat.mul_mod]
      rw [e0]
      have e2 : ((a * f : Nat) : Int) = ((1 : Nat) : Int) + (m : Int) * (-q) := by
        rw [Int.natCast_mul]
        grind
      rw [e2, Int.add_mul_emod_self_left]
  rw [← Int.natCast_emod, ← Int.natCast_emod] at key
  exact Int.ofNat.inj key
theorem euI_no {m a r f g : Nat} {ng : Bool} (hr : r ≠ 1) (h : euI m a r 0 f g ng) (hm : 0 < m) : inv? m a = none := by
  obtain ⟨h1, h2, h3, h4, h5, h6⟩ := h
  rw [Nat.gcd_zero_right] at h4
  apply inv_none
  intro y hy
  apply hr
  have d1 : r ∣ m := by rw [h4]; exact Nat.gcd_dvd_left _ _
  have d2 : r ∣ a := by rw [h4]; exact Nat.gcd_dvd_right _ _
  have e : r ∣ 1 % m := by
    rw [← hy]
    exact (Nat.dvd_mod_iff d1).mpr (Nat.dvd_trans d2 (Nat.dvd_mul_right _ _))
  have e2 : r ∣ 1 := (Nat.dvd_mod_iff d1).mp e
  exact Nat.dvd_one.mp e2
