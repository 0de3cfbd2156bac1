-- windows of a row
theorem Vw_upd_out {f : Nat → Int32} {i n k : Nat} {x : Int32} (h : k < i ∨ i + n ≤ k) : Vw (upd f k x) i n = Vw f i n := Vw_congr (fun j hj => pk_un (by omega))
theorem Vw_upd_s {f : Nat → Int32} {i n : Nat} {x : Int32} : Vw (upd f (i + n) x) i (n + 1) = Vw f i n + dg x * BB ^ n := by
  rw [Vw_s, Vw_upd_out (Or.inr (Nat.le_refl _)), pk_us]
theorem V_digit0 {f : Nat → Int32} {n k : Nat} (h : V f n < BB ^ k) : ∀ j, k ≤ j → j < n → dg (f j) = 0 := by
  intro j hj hn
  rcases Nat.eq_zero_or_pos (dg (f j)) with h1 | h1
  · exact h1
  · have h2 := V_pos hn h1
    have h3 : BB ^ k ≤ BB ^ j := Nat.pow_le_pow_right BB_pos hj
    omega
theorem nn_zero {f : Nat → Int32} {n j : Nat} (h : nn f n) (hj : j < n) (h0 : dg (f j) = 0) : f j = 0 := by
  apply i_eqI
  have := nn_dg h hj
  rw [h0] at this
  rw [← this]
  rfl
/-- the divisor: the modulus shifted so that its highest limb is great -/
theorem dv_facts {f fd : Nat → Int32} {n k sh : Nat} (hk : 0 < k) (hkn : k ≤ n) (hz : ∀ j, k ≤ j → j < n → f j = 0) (ht : 0 < dg (f (k - 1))) (hs : sh = 31 - bl (dg (f (k - 1)))) (nd : nn fd n) (hd : ∀ j, j < n → fd j = nI (shl f 0 sh j)) : sh < 31 ∧ V fd n = V f n * 2 ^ sh ∧ (∀ j, k ≤ j → j < n → fd j = 0) ∧ 1073741824 ≤ dg (fd (k - 1)) := by
  have h1 := bl_row hk hkn hz ht
  have h2 := dg_lt (f (k - 1))
  have h3 : bl (dg (f (k - 1))) ≤ 31 := bl_le h2
  have h4 := bl_pos ht
  have hVpos : 0 < V f n := by
    have := V_pos (f := f) (n := n) (k := k - 1) (by omega) ht
    have := BBp (k - 1)
    omega
  have e1 : V fd n = shV f 0 sh n := by
    have : V fd n = V (fun i => nI (shl f 0 sh i)) n := V_congr hd
    have e : ∀ n, V (fun i => nI (shl f 0 sh i)) n = shV f 0 sh n := by
      intro n
      induction n with
      | zero => rfl
      | succ n ih =>
        rw [V_s, ih, dg_nI (shl_lt f 0 sh n)]
        rfl
    rw [this, e]
  have h5 := bl_hi (V f n)
  have h6 := bl_lo hVpos
  rw [h1] at h5 h6
  have hp := Nat.two_pow_pos sh
  have e2 : V f n * 2 ^ sh < BB ^ k := by
    have q : V f n * 2 ^ sh < 2 ^ (31 * (k - 1) + bl (dg (f (k - 1)))) * 2 ^ sh := Nat.mul_lt_mul_of_pos_right h5 hp
    rw [← Nat.pow_add] at q
    have e : 31 * (k - 1) + bl (dg (f (k - 1))) + sh = 31 * k := by omega
    rw [e, ← BB_two] at q
    exact q
  have hkn2 : BB ^ k ≤ BB ^ n := Nat.pow_le_pow_right BB_pos hkn
  have e3 : V fd n = V f n * 2 ^ sh := by
    rw [e1, shV_eq (by omega), Nat.pow_zero, Nat.one_mul, Nat.mod_eq_of_lt (by omega)]
  have hz2 : ∀ j, k ≤ j → j < n → fd j = 0 := fun j a b => nn_zero nd b (V_digit0 (by rw [e3]; exact e2) j a b)
  refine ⟨by omega, e3, hz2, ?_⟩
  have e4 : V fd n = V fd (k - 1) + dg (fd (k - 1)) * BB ^ (k - 1) := by
    rw [V_top hkn hz2]
    obtain ⟨j, rfl⟩ : ∃ j, k = j + 1 := ⟨k - 1, by omega⟩
    rw [V_s, Nat.add_sub_cancel]
  have h7 := V_lt fd (k - 1)
  have h8 : 2 ^ (31 * (k - 1) + bl (dg (f (k - 1))) - 1) * 2 ^ sh ≤ V f n * 2 ^ sh := Nat.mul_le_mul_right _ h6
  rw [← Nat.pow_add] at h8
  have e5 : 31 * (k - 1) + bl (dg (f (k - 1))) - 1 + sh = 30 + 31 * (k - 1) := by omega
  rw [e5, ← e3, e4, Nat.pow_add, ← BB_two] at h8
  rcases Nat.lt_or_ge (dg (fd (k - 1))) (2 ^ 30) with h9 | h9
  · have h10 : (dg (fd (k - 1)) + 1) * BB ^ (k - 1) ≤ 2 ^ 30 * BB ^ (k - 1) := Nat.mul_le_mul_right _ h9
    rw [Nat.add_mul, Nat.one_mul] at h10
    omega
  · exact h9
theorem one_val {a k : Nat} (h1 : a < BB) (hk : k < 31) : ((lN a <<< ((nI k).toInt64 &&& 63)) &&& 2147483647).toInt32 = nI (a * 2 ^ k % BB) := by
  have hB : BB = 2147483648 := rfl
  have h2 : 2 ^ k < 2 ^ 31 := Nat.pow_lt_pow_right (by decide) hk
  have h3 : a * 2 ^ k < 2 ^ 64 := by
    have : a * 2 ^ k ≤ a * 2 ^ 31 := Nat.mul_le_mul_left _ (by omega)
    omega
  have e2 : (2147483647 : Int64) = lN (2 ^ 31 - 1) := by decide
  rw [wb_shl a (by omega), e2, wb_mask h3 (by decide), lN_i]
  rfl
/-- limb i of the row g shifted left inside one row -/
theorem shl_s (g : Nat → Int32) (sh i : Nat) : shl g 0 sh (i + 1) = (dg (g (i + 1)) * BB + dg (g i)) / 2 ^ (31 - sh) % BB := by
  unfold shl
  rw [if_pos (Nat.zero_le _), if_pos (by omega)]
  rfl
theorem shl_0 (g : Nat → Int32) {sh : Nat} (hs : sh < 31) : shl g 0 sh 0 = dg (g 0) * 2 ^ sh % BB := by
  unfold shl
  rw [if_pos (Nat.le_refl _), if_neg (by omega)]
  show (dg (g 0) * BB + 0) / 2 ^ (31 - sh) % BB = _
  rw [sh_limb hs BB_pos, Nat.zero_div, Nat.add_zero]
theorem V_sh {f g : Nat → Int32} {sh n : Nat} (hs : sh < 31) (h : ∀ j, j ≤ n → f j = nI (shl g 0 sh j)) (h0 : g n = 0) : V f (n + 1) = V g n * 2 ^ sh := by
  have e1 : V f (n + 1) = V (fun i => nI (shl g 0 sh i)) (n + 1) := V_congr (fun j hj => h j (by omega))
  have e : ∀ n, V (fun i => nI (shl g 0 sh i)) n = shV g 0 sh n := by
    intro n
    induction n with
    | zero => rfl
    | succ n ih =>
      rw [V_s, ih, dg_nI (shl_lt g 0 sh n)]
      rfl
  rw [e1, e, shV_eq hs, Nat.pow_zero, Nat.one_mul, V_s, h0, dg_0, Nat.zero_mul, Nat.add_zero]
  apply Nat.mod_eq_of_lt
  have h1 := V_lt g n
  have h2 : 2 ^ sh ≤ BB := by
    have : 2 ^ sh ≤ 2 ^ 31 := Nat.pow_le_pow_right (by decide) (by omega)
    exact this
  rw [Nat.pow_succ]
  exact Nat.lt_of_lt_of_le (Nat.mul_lt_mul_of_pos_right h1 (Nat.two_pow_pos sh)) (Nat.mul_le_mul_left _ h2)
/-- shifted right: the limbs' sum -/
theorem V_ush {f o : Nat → Int32} {sh : Nat} (hs : sh < 31) (h : ∀ j, o j = nI ((dg (f (j + 1)) * BB + dg (f j)) / 2 ^ sh % BB)) : ∀ n, 2 ^ sh * V o n + dg (f 0) % 2 ^ sh = V f n + dg (f n) % 2 ^ sh * BB ^ n := by
  intro n
  induction n with
  | zero => rw [V_0, V_0, Nat.mul_zero, Nat.pow_zero, Nat.mul_one]
  | succ n ih =>
    have h1 : dg (o n) = dg (f n) / 2 ^ sh + dg (f (n + 1)) % 2 ^ sh * 2 ^ (31 - sh) := by
      rw [h n, dg_nI (show _ < BB from Nat.mod_lt _ BB_pos), ush_limb hs (dg_lt _)]
    have h2 := Nat.div_add_mod (dg (f n)) (2 ^ sh)
    have h3 : 2 ^ sh * 2 ^ (31 - sh) = BB := by
      rw [← Nat.pow_add, show sh + (31 - sh) = 31 by omega]
      rfl
    rw [V_s, V_s, Nat.mul_add, h1]
    have e1 : 2 ^ sh * ((dg (f n) / 2 ^ sh + dg (f (n + 1)) % 2 ^ sh * 2 ^ (31 - sh)) * BB ^ n) = 2 ^ sh * (dg (f n) / 2 ^ sh) * BB ^ n + dg (f (n + 1)) % 2 ^ sh * BB ^ (n + 1) := by
      rw [Nat.add_mul, Nat.mul_add, Nat.pow_succ, ← h3]
      congr 1
      · rw [Nat.mul_assoc]
      · simp only [Nat.mul_assoc, Nat.mul_comm, Nat.mul_left_comm]
    have e2 : dg (f n) * BB ^ n = 2 ^ sh * (dg (f n) / 2 ^ sh) * BB ^ n + dg (f n) % 2 ^ sh * BB ^ n := by
      rw [← Nat.add_mul, h2]
    rw [e1, e2]
    omega
theorem V_ushr {f o : Nat → Int32} {sh n v : Nat} (hs : sh < 31) (h : ∀ j, o j = nI ((dg (f (j + 1)) * BB + dg (f j)) / 2 ^ sh % BB)) (h0 : f n = 0) (hv : V f n = v * 2 ^ sh) (hn : 0 < n) : V o n = v := by
  have h1 := V_ush hs h n
  rw [h0, dg_0, Nat.zero_mod, Nat.zero_mul, Nat.add_zero, hv] at h1
  have hp := Nat.two_pow_pos sh
  have h2 : dg (f 0) % 2 ^ sh < 2 ^ sh := Nat.mod_lt _ hp
  have h3 : (2 ^ sh * V o n + dg (f 0) % 2 ^ sh) / 2 ^ sh = V o n := by
    rw [Nat.add_comm, Nat.add_mul_div_left _ _ hp, Nat.div_eq_of_lt h2, Nat.zero_add]
  rw [← h3, h1, Nat.mul_div_cancel _ hp]
