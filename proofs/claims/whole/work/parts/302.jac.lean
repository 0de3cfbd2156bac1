-- NUMBERS AS RESIDUES
def fz (k a : Nat) : Zp k := Fin.ofNat (k + 1) a
theorem fz_val (k a : Nat) : (fz k a).val = a % (k + 1) := rfl
theorem fz_mul (k a b : Nat) : fz k (a * b % (k + 1)) = fz k a * fz k b := by
  apply Fin.ext
  rw [fz_val, Fin.val_mul, fz_val, fz_val, Nat.mod_mod, ← Nat.mul_mod]
theorem fz_add (k a b : Nat) : fz k ((a + b) % (k + 1)) = fz k a + fz k b := by
  apply Fin.ext
  rw [fz_val, Fin.val_add, fz_val, fz_val, Nat.mod_mod, ← Nat.add_mod]
theorem fz_sub {k a b : Nat} (h : b ≤ k + 1) : fz k ((a + (k + 1 - b)) % (k + 1)) = fz k a - fz k b := by
  have h1 : fz k ((a + (k + 1 - b)) % (k + 1)) + fz k b = fz k a := by
    rw [← fz_add]
    apply Fin.ext
    rw [fz_val, fz_val, Nat.mod_mod, Nat.add_mod, Nat.mod_mod, ← Nat.add_mod, Nat.add_assoc, Nat.sub_add_cancel h, Nat.add_mod_right]
  rw [← h1]
  grind
theorem fz_inj {k a b : Nat} (ha : a < k + 1) (hb : b < k + 1) (h : fz k a = fz k b) : a = b := by
  have := congrArg Fin.val h
  rw [fz_val, fz_val, Nat.mod_eq_of_lt ha, Nat.mod_eq_of_lt hb] at this
  exact this
theorem fz_0 (k : Nat) : fz k 0 = 0 := rfl
theorem fz_z {k a : Nat} (ha : a < k + 1) : fz k a = 0 ↔ a = 0 := ⟨fun h => fz_inj ha (by omega) (by rw [h]; rfl), fun h => by rw [h]; rfl⟩
theorem fz_1 (k : Nat) : fz k 1 = 1 := rfl
theorem fz_of {k : Nat} (x : Zp k) : fz k x.val = x := by
  apply Fin.ext
  rw [fz_val, Nat.mod_eq_of_lt x.isLt]
/-- to divide -/
def zinv (k : Nat) (x : Zp k) : Option (Zp k) := (inv? (k + 1) x.val).map (fz k)
theorem zinv_some {k : Nat} {x w : Zp k} (h : zinv k x = some w) : x * w = 1 := by
  unfold zinv at h
  cases hi : inv? (k + 1) x.val with
  | none => rw [hi] at h; cases h
  | some y =>
    rw [hi] at h
    cases h
    obtain ⟨h1, h2⟩ := inv_spec hi
    rw [← fz_of x, ← fz_mul, h2]
    apply Fin.ext
    rw [fz_val, Nat.mod_mod]
    rfl
theorem zinv_none {k : Nat} {x : Zp k} (h : zinv k x = none) : ¬ unit? k x := by
  unfold zinv at h
  cases hi : inv? (k + 1) x.val with
  | some y => rw [hi] at h; cases h
  | none =>
    intro ⟨w, hw⟩
    apply inv_no (Nat.succ_pos k) hi w.val
    have := congrArg Fin.val hw
    rw [Fin.val_mul] at this
    rw [this]
    rfl
theorem zinv_unit {k : Nat} {x : Zp k} (h : unit? k x) : ∃ w, zinv k x = some w ∧ x * w = 1 := by
  cases hz : zinv k x with
  | none => exact absurd h (zinv_none hz)
  | some w => exact ⟨w, rfl, zinv_some hz⟩
/-- THE SUM of two points; none: NO SUM -/
def psum {k : Nat} (A : Zp k) (P Q : Pt k) : Option (Pt k) := match P, Q with
  | none, q => some q
  | some a, none => some (some a)
  | some (x, y), some (u, v) => if x = u ∧ y + v = 0 then some none else match zinv k (if x = u then y + v else u - x) with
    | none => none
    | some w => some (some ((if x = u then 3 * x * x + A else v - y) * w * ((if x = u then 3 * x * x + A else v - y) * w) - x - u, (if x = u then 3 * x * x + A else v - y) * w * (x - ((if x = u then 3 * x * x + A else v - y) * w * ((if x = u then 3 * x * x + A else v - y) * w) - x - u)) - y))
theorem psum_none {k : Nat} {A : Zp k} (Q : Pt k) : psum A none Q = some Q := rfl
theorem psum_right {k : Nat} {A : Zp k} (P : Pt k) : psum A P none = some P := by cases P <;> rfl
theorem psum_id {k : Nat} {A x y u v : Zp k} (h1 : x = u) (h2 : y + v = 0) : psum A (some (x, y)) (some (u, v)) = some none := by
  show (if x = u ∧ y + v = 0 then _ else _) = _
  rw [if_pos ⟨h1, h2⟩]
theorem psum_tan {k : Nat} {A x y v : Zp k} (h2 : y + v ≠ 0) : psum A (some (x, y)) (some (x, v)) = match zinv k (y + v) with
    | none => none
    | some w => some (some ((3 * x * x + A) * w * ((3 * x * x + A) * w) - x - x, (3 * x * x + A) * w * (x - ((3 * x * x + A) * w * ((3 * x * x + A) * w) - x - x)) - y)) := by
  show (if x = x ∧ y + v = 0 then _ else _) = _
  rw [if_neg (fun h => h2 h.2)]
  simp only [if_true]
theorem psum_chd {k : Nat} {A x y u v : Zp k} (h : x ≠ u) : psum A (some (x, y)) (some (u, v)) = match zinv k (u - x) with
    | none => none
    | some w => some (some ((v - y) * w * ((v - y) * w) - x - u, (v - y) * w * (x - ((v - y) * w * ((v - y) * w) - x - u)) - y)) := by
  show (if x = u ∧ y + v = 0 then _ else _) = _
  rw [if_neg (fun q => h q.1)]
  simp only [if_neg h]
theorem psum_on {k : Nat} {A B : Zp k} {P Q R : Pt k} (hP : onC A B P) (hQ : onC A B Q) (h : psum A P Q = some R) : onC A B R := by
  cases P with
  | none => cases h; exact hQ
  | some a =>
    obtain ⟨x, y⟩ := a
    cases Q with
    | none => cases h; exact hP
    | some b =>
      obtain ⟨u, v⟩ := b
      by_cases hx : x = u
      · subst hx
        by_cases hy : y + v = 0
        · rw [psum_id rfl hy] at h; cases h; trivial
        · rw [psum_tan hy] at h
          cases hz : zinv k (y + v) with
          | none => rw [hz] at h; cases h
          | some w =>
            rw [hz] at h
            cases h
            have hw := zinv_some hz
            have e1 : y * y = x * x * x + A * x + B := hP
            have e2 : v * v = x * x * x + A * x + B := hQ
            have e3 : (y + v) * (y - v) = 0 := by rw [show (y + v) * (y - v) = y * y - v * v by grind, e1, e2]; grind
            have e4 : y = v := by
              have : w * ((y + v) * (y - v)) = 0 := by rw [e3]; grind
              have e5 : y - v = 0 := by
                rw [show w * ((y + v) * (y - v)) = ((y + v) * w) * (y - v) by grind, hw] at this
                grind
              grind
            subst e4
            exact tang_on e1 hw rfl rfl
      · rw [psum_chd hx] at h
        cases hz : zinv k (u - x) with
        | none => rw [hz] at h; cases h
        | some w =>
          rw [hz] at h
          cases h
          exact chord_on hP hQ (zinv_some hz) rfl rfl
/-- k TIMES a point, bit by bit from the highest on -/
def kstep {k : Nat} (A : Zp k) (P : Pt k) (b : Bool) (r : Option (Pt k)) : Option (Pt k) := match r with
  | none => none
  | some R => match psum A R R with
    | none => none
    | some S => if b then psum A S P else some S
def kTf {k : Nat} (A : Zp k) (P : Pt k) : Nat → Nat → Option (Pt k)
  | 0, _ => some none
  | f + 1, n => kstep A P (decide (n % 2 = 1)) (kTf A P f (n / 2))
theorem kTf_0 {k : Nat} (A : Zp k) (P : Pt k) : ∀ f, kTf A P f 0 = some none := by
  intro f
  induction f with
  | zero => rfl
  | succ f ih =>
    show kstep A P (decide (0 % 2 = 1)) (kTf A P f (0 / 2)) = _
    rw [Nat.zero_div, ih]
    rfl
theorem kTf_more {k : Nat} (A : Zp k) (P : Pt k) : ∀ f n, n < 2 ^ f → kTf A P (f + 1) n = kTf A P f n := by
  intro f
  induction f with
  | zero =>
    intro n hn
    have : n = 0 := by omega
    rw [this, kTf_0, kTf_0]
  | succ f ih =>
    intro n hn
    show kstep A P _ (kTf A P (f + 1) (n / 2)) = kstep A P _ (kTf A P f (n / 2))
    rw [ih (n / 2) (by rw [Nat.pow_succ] at hn; omega)]
def kT {k : Nat} (A : Zp k) (P : Pt k) (n : Nat) : Option (Pt k) := kTf A P n n
theorem kTf_kT {k : Nat} (A : Zp k) (P : Pt k) {n : Nat} : ∀ f, n < 2 ^ f → kTf A P f n = kT A P n := by
  have h1 : ∀ j f, n < 2 ^ f → kTf A P (f + j) n = kTf A P f n := by
    intro j
    induction j with
    | zero => intro f _; rfl
    | succ j ih =>
      intro f hf
      rw [← Nat.add_assoc, kTf_more A P _ n (Nat.lt_of_lt_of_le hf (Nat.pow_le_pow_right (by decide) (Nat.le_add_right f j))), ih f hf]
  intro f hf
  unfold kT
  have hn : n < 2 ^ n := Nat.lt_two_pow_self
  rcases Nat.le_total f n with h | h
  · obtain ⟨j, hj⟩ : ∃ j, n = f + j := ⟨n - f, by omega⟩
    have := h1 j f hf
    rw [← hj] at this
    exact this.symm
  · obtain ⟨j, hj⟩ : ∃ j, f = n + j := ⟨f - n, by omega⟩
    rw [hj, h1 j n hn]
theorem kT_0 {k : Nat} (A : Zp k) (P : Pt k) : kT A P 0 = some none := rfl
theorem kT_s {k : Nat} (A : Zp k) (P : Pt k) (n : Nat) : kT A P n = kstep A P (decide (n % 2 = 1)) (kT A P (n / 2)) := by
  have hn : n < 2 ^ n := Nat.lt_two_pow_self
  have hn1 : n < 2 ^ (n + 1) := Nat.lt_of_lt_of_le hn (Nat.pow_le_pow_right (by decide) (by omega))
  rw [← kTf_kT A P (n + 1) hn1, ← kTf_kT A P n (show n / 2 < 2 ^ n by omega)]
  rfl
theorem kstep_on {k : Nat} {A B : Zp k} {P R : Pt k} {b : Bool} {r : Option (Pt k)} (hP : onC A B P) (hr : ∀ R, r = some R → onC A B R) (h : kstep A P b r = some R) : onC A B R := by
  unfold kstep at h
  cases r with
  | none => cases h
  | some R0 =>
    have h0 := hr R0 rfl
    simp only at h
    cases hs : psum A R0 R0 with
    | none => rw [hs] at h; cases h
    | some S =>
      rw [hs] at h
      have hS := psum_on h0 h0 hs
      cases b with
      | true => exact psum_on hS hP (by simpa using h)
      | false => cases h; exact hS
theorem kT_on {k : Nat} {A B : Zp k} {P : Pt k} (hP : onC A B P) : ∀ f n R, n < 2 ^ f → kT A P n = some R → onC A B R := by
  intro f
  induction f with
  | zero =>
    intro n R hn h
    have : n = 0 := by omega
    rw [this, kT_0] at h
    cases h
    trivial
  | succ f ih =>
    intro n R hn h
    rw [kT_s] at h
    exact kstep_on hP (fun R hR => ih (n / 2) R (by rw [Nat.pow_succ] at hn; omega) hR) h
-- THE RUNNING SUM: the identity, or (x / z z, y / z z z); z no unit: NO SUM has happened
def JS (k id : Nat) (x y z : Zp k) (r : Option (Pt k)) : Prop := match r with
  | none => ¬ unit? k z
  | some none => unit? k z ∧ id = 1
  | some (some (X, Y)) => id = 0 ∧ unit? k z ∧ x = X * (z * z) ∧ y = Y * (z * z * z)
theorem zu_prod {k : Nat} {x y : Zp k} (hx : unit? k x) (hy : unit? k y) : unit? k (x * y) := by
  obtain ⟨a, ha⟩ := hx
  obtain ⟨b, hb⟩ := hy
  exact ⟨a * b, by rw [show x * y * (a * b) = (x * a) * (y * b) by grind, ha, hb]; grind⟩
theorem zu_cancel {k : Nat} {z a : Zp k} (hz : unit? k z) (h : a * z = 0) : a = 0 := by
  obtain ⟨w, hw⟩ := hz
  have : (a * z) * w = 0 := by rw [h]; grind
  rw [show (a * z) * w = a * (z * w) by grind, hw] at this
  grind
theorem zu_not0 {k : Nat} (hk : 0 < k) : ¬ unit? k (0 : Zp k) := by
  intro ⟨w, hw⟩
  have h1 : (0 : Zp k) = 1 := by rw [← hw]; grind
  have h2 := congrArg Fin.val h1
  have h3 : ((1 : Zp k)).val = 1 % (k + 1) := rfl
  rw [h3, Nat.mod_eq_of_lt (by omega)] at h2
  cases h2
theorem three {k : Nat} (a : Zp k) : 3 * a = a + a + a := by grind
/-- doubling, in the ring -/
theorem dbl_ring {k A x y z x' y' z' : Nat} (h : dblEq (k + 1) A x y z x' y' z') : fz k z' = fz k z * fz k y + fz k z * fz k y ∧ fz k x' = (3 * (fz k x * fz k x) + fz k A * (fz k z * fz k z * (fz k z * fz k z))) * (3 * (fz k x * fz k x) + fz k A * (fz k z * fz k z * (fz k z * fz k z))) - 8 * (fz k x * (fz k y * fz k y)) ∧ fz k y' = (4 * (fz k x * (fz k y * fz k y)) - fz k x') * (3 * (fz k x * fz k x) + fz k A * (fz k z * fz k z * (fz k z * fz k z))) - 8 * (fz k y * fz k y * (fz k y * fz k y)) := by
  obtain ⟨s1, s2, s3, r1, r2, r3, z1, s4, t1, t2, t3, x1, x2, t4, t5, s5, s6, s7, s8, es1, es2, es3, er1, er2, er3, ez1, ez2, es4, et1, et2, et3, ex1, ex2, ex3, et4, et5, es5, es6, es7, es8, ey2⟩ := h
  have hp : 0 < k + 1 := Nat.succ_pos k
  have b3 : t3 ≤ k + 1 := by rw [et3]; exact Nat.le_of_lt (Nat.mod_lt _ hp)
  have bx : x' ≤ k + 1 := by rw [ex3]; exact Nat.le_of_lt (Nat.mod_lt _ hp)
  have b8 : s8 ≤ k + 1 := by rw [es8]; exact Nat.le_of_lt (Nat.mod_lt _ hp)
  have f1 : fz k s1 = fz k z * fz k z := by rw [es1, fz_mul]
  have f2 : fz k s2 = fz k z * fz k z * (fz k z * fz k z) := by rw [es2, fz_mul, f1]
  have f3 : fz k s3 = fz k z * fz k z * (fz k z * fz k z) * fz k A := by rw [es3, fz_mul, f2]
  have g1 : fz k r1 = fz k x * fz k x := by rw [er1, fz_mul]
  have g2 : fz k r2 = 3 * (fz k x * fz k x) := by rw [er2, fz_add, fz_add, g1, three]
  have g3 : fz k r3 = 3 * (fz k x * fz k x) + fz k A * (fz k z * fz k z * (fz k z * fz k z)) := by rw [er3, fz_add, g2, f3]; grind
  have h1 : fz k z' = fz k z * fz k y + fz k z * fz k y := by rw [ez2, fz_add, ez1, fz_mul]
  have f4 : fz k s4 = fz k y * fz k y := by rw [es4, fz_mul]
  have i3 : fz k t3 = 4 * (fz k x * (fz k y * fz k y)) := by rw [et3, fz_add, et2, fz_add, et1, fz_mul, f4]; grind
  have hx : fz k x' = fz k r3 * fz k r3 - fz k t3 - fz k t3 := by rw [ex3, fz_sub b3, ex2, fz_sub b3, ex1, fz_mul]
  have hs8 : fz k s8 = 8 * (fz k y * fz k y * (fz k y * fz k y)) := by rw [es8, fz_add, es7, fz_add, es6, fz_add, es5, fz_mul, f4]; grind
  have hy : fz k y' = (fz k t3 - fz k x') * fz k r3 - fz k s8 := by rw [ey2, fz_sub b8, et5, fz_mul, et4, fz_sub bx]
  refine ⟨h1, ?_, ?_⟩
  · rw [hx, g3, i3]
    generalize 3 * (fz k x * fz k x) + fz k A * (fz k z * fz k z * (fz k z * fz k z)) = r
    generalize fz k x * (fz k y * fz k y) = t
    grind
  · rw [hy, g3, i3, hs8]
/-- the chord, in the ring -/
theorem chd_ring {k x y z rn rs x' y' z' : Nat} (h : chdEq (k + 1) x y z rn rs x' y' z') : fz k z' = fz k z * fz k rn ∧ fz k x' = fz k rs * fz k rs - fz k rn * fz k rn * fz k rn - 2 * (fz k x * (fz k rn * fz k rn)) ∧ fz k y' = (fz k x * (fz k rn * fz k rn) - fz k x') * fz k rs - fz k rn * fz k rn * fz k rn * fz k y := by
  obtain ⟨s1, t1, s2, x1, x2, x3, t2, t3, s3, ez2, es1, et1, es2, ex1, ex2, ex3, ex4, et2, et3, es3, ey2⟩ := h
  have hp : 0 < k + 1 := Nat.succ_pos k
  have b1 : t1 ≤ k + 1 := by rw [et1]; exact Nat.le_of_lt (Nat.mod_lt _ hp)
  have b2 : s2 ≤ k + 1 := by rw [es2]; exact Nat.le_of_lt (Nat.mod_lt _ hp)
  have b3 : s3 ≤ k + 1 := by rw [es3]; exact Nat.le_of_lt (Nat.mod_lt _ hp)
  have bx : x' ≤ k + 1 := by rw [ex4]; exact Nat.le_of_lt (Nat.mod_lt _ hp)
  have f1 : fz k s1 = fz k rn * fz k rn := by rw [es1, fz_mul]
  have g1 : fz k t1 = fz k x * (fz k rn * fz k rn) := by rw [et1, fz_mul, f1]
  have f2 : fz k s2 = fz k rn * fz k rn * fz k rn := by rw [es2, fz_mul, f1]
  have hx : fz k x' = fz k rs * fz k rs - fz k s2 - fz k t1 - fz k t1 := by rw [ex4, fz_sub b1, ex3, fz_sub b1, ex2, fz_sub b2, ex1, fz_mul]
  have hy : fz k y' = (fz k t1 - fz k x') * fz k rs - fz k s3 := by rw [ey2, fz_sub b3, et3, fz_mul, et2, fz_sub bx]
  have f3 : fz k s3 = fz k rn * fz k rn * fz k rn * fz k y := by rw [es3, fz_mul, f2]
  refine ⟨by rw [ez2, fz_mul], ?_, ?_⟩
  · rw [hx, f2, g1]
    generalize fz k x * (fz k rn * fz k rn) = t
    grind
  · rw [hy, g1, f3]
theorem rj1 {k : Nat} (X Y A z w : Zp k) (hw : (Y + Y) * w = 1) : (3 * (X * (z * z) * (X * (z * z))) + A * (z * z * (z * z))) * (3 * (X * (z * z) * (X * (z * z))) + A * (z * z * (z * z))) - 8 * (X * (z * z) * (Y * (z * z * z) * (Y * (z * z * z)))) = ((3 * X * X + A) * w * ((3 * X * X + A) * w) - X - X) * ((z * (Y * (z * z * z)) + z * (Y * (z * z * z))) * (z * (Y * (z * z * z)) + z * (Y * (z * z * z)))) := by
  have e1 : z * (Y * (z * z * z)) + z * (Y * (z * z * z)) = (Y + Y) * (z * z * z * z) := by grind
  have e2 : (3 * X * X + A) * w * ((3 * X * X + A) * w) * ((Y + Y) * (z * z * z * z) * ((Y + Y) * (z * z * z * z))) = ((Y + Y) * w) * ((Y + Y) * w) * ((3 * X * X + A) * (3 * X * X + A) * (z * z * z * z * (z * z * z * z))) := by grind
  rw [e1]
  have e3 : ((3 * X * X + A) * w * ((3 * X * X + A) * w) - X - X) * ((Y + Y) * (z * z * z * z) * ((Y + Y) * (z * z * z * z))) = (3 * X * X + A) * w * ((3 * X * X + A) * w) * ((Y + Y) * (z * z * z * z) * ((Y + Y) * (z * z * z * z))) - 2 * X * ((Y + Y) * (z * z * z * z) * ((Y + Y) * (z * z * z * z))) := by
    generalize (3 * X * X + A) * w * ((3 * X * X + A) * w) = q
    grind
  rw [e3, e2, hw]
  clear e1 e2 e3 hw
  grind
