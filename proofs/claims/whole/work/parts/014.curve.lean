-- POINTS, MODULO p = k + 1: none is the identity
abbrev Zp (k : Nat) : Type := Fin (k + 1)
abbrev Pt (k : Nat) : Type := Option (Zp k × Zp k)
def unit? (k : Nat) (x : Zp k) : Prop := ∃ w : Zp k, x * w = 1
theorem zu_uniq {k : Nat} {x w w' : Zp k} (h : x * w = 1) (h' : x * w' = 1) : w = w' := by
  have e1 : w * (x * w') = w := by rw [h']; grind
  have e2 : w * (x * w') = w' := by
    have : w * (x * w') = (x * w) * w' := by grind
    rw [this, h]; grind
  rw [← e1, e2]
theorem zu_mul {k : Nat} {x y : Zp k} (h : unit? k (x * y)) : unit? k x ∧ unit? k y := by
  obtain ⟨w, h⟩ := h
  exact ⟨⟨y * w, by rw [← h]; grind⟩, ⟨x * w, by rw [← h]; grind⟩⟩
def onC {k : Nat} (A B : Zp k) (P : Pt k) : Prop := match P with
  | none => True
  | some (x, y) => y * y = x * x * x + A * x + B
theorem rid1 {k : Nat} (x u X m c : Zp k) : X * X + (x - m * m) * X + c = (u * u + (x - m * m) * u + c) + (X - u) * (X + u + x - m * m) := by grind
theorem rid2 {k : Nat} (A B x y X m : Zp k) : X * X * X + A * X + B = (m * (x - X) - y) * (m * (x - X) - y) + (X - x) * (X * X + (x - m * m) * X + (x * x + A + m * m * x - 2 * m * y)) + (x * x * x + A * x + B - y * y) := by grind
/-- the chord's third point lies on the curve -/
theorem chord_on {k : Nat} {A B x y u v m X w : Zp k} (h1 : y * y = x * x * x + A * x + B) (h2 : v * v = u * u * u + A * u + B) (hw : (u - x) * w = 1) (hm : m = (v - y) * w) (hX : X = m * m - x - u) : (m * (x - X) - y) * (m * (x - X) - y) = X * X * X + A * X + B := by
  have e1 : m * (u - x) = v - y := by rw [hm]; grind
  have g0 : (u - x) * (u * u + (x - m * m) * u + (x * x + A + m * m * x - 2 * m * y)) = 0 := by clear hX hm; grind
  have g1 : u * u + (x - m * m) * u + (x * x + A + m * m * x - 2 * m * y) = 0 := by
    generalize u * u + (x - m * m) * u + (x * x + A + m * m * x - 2 * m * y) = z at g0
    clear hX hm h1 h2 e1
    have : w * ((u - x) * z) = 0 := by rw [g0]; grind
    grind
  have e2 : X + u + x - m * m = 0 := by rw [hX]; grind
  have e3 : X * X + (x - m * m) * X + (x * x + A + m * m * x - 2 * m * y) = 0 := by
    rw [rid1 x u X m, g1, e2]; grind
  have e4 : x * x * x + A * x + B - y * y = 0 := by rw [h1]; grind
  rw [rid2 A B x y X m, e3, e4]
  generalize (m * (x - X) - y) * (m * (x - X) - y) = z
  clear e1 g0 g1 e2 e3 e4 h1 h2 hw hm hX
  grind
theorem tang_on {k : Nat} {A B x y m X w : Zp k} (h1 : y * y = x * x * x + A * x + B) (hw : (y + y) * w = 1) (hm : m = (3 * x * x + A) * w) (hX : X = m * m - x - x) : (m * (x - X) - y) * (m * (x - X) - y) = X * X * X + A * X + B := by
  have e1 : m * (y + y) = 3 * x * x + A := by rw [hm]; grind
  grind
