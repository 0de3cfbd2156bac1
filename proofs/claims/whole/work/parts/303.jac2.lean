theorem rj2 {k : Nat} (X Y S z w X' : Zp k) (hw : (Y + Y) * w = 1) : (4 * (X * (z * z) * (Y * (z * z * z) * (Y * (z * z * z)))) - X' * ((z * (Y * (z * z * z)) + z * (Y * (z * z * z))) * (z * (Y * (z * z * z)) + z * (Y * (z * z * z))))) * (S * (z * z * z * z)) - 8 * (Y * (z * z * z) * (Y * (z * z * z)) * (Y * (z * z * z) * (Y * (z * z * z)))) = (S * w * (X - X') - Y) * ((z * (Y * (z * z * z)) + z * (Y * (z * z * z))) * (z * (Y * (z * z * z)) + z * (Y * (z * z * z))) * (z * (Y * (z * z * z)) + z * (Y * (z * z * z)))) := by
  have e1 : z * (Y * (z * z * z)) + z * (Y * (z * z * z)) = (Y + Y) * (z * z * z * z) := by grind
  have e2 : (S * w * (X - X') - Y) * ((Y + Y) * (z * z * z * z) * ((Y + Y) * (z * z * z * z)) * ((Y + Y) * (z * z * z * z))) = ((Y + Y) * w) * (S * (X - X') * ((Y + Y) * (Y + Y)) * (z * z * z * z * (z * z * z * z) * (z * z * z * z))) - Y * ((Y + Y) * (Y + Y) * (Y + Y)) * (z * z * z * z * (z * z * z * z) * (z * z * z * z)) := by grind
  rw [e1, e2, hw]
  clear e1 e2 hw
  grind
theorem rj3 {k : Nat} (X d n z w : Zp k) (hw : d * w = 1) : n * (z * z * z) * (n * (z * z * z)) - d * (z * z) * (d * (z * z)) * (d * (z * z)) - 2 * (X * (z * z) * (d * (z * z) * (d * (z * z)))) = (n * w * (n * w) - X - (X + d)) * (z * (d * (z * z)) * (z * (d * (z * z)))) := by
  have e2 : (n * w * (n * w) - X - (X + d)) * (z * (d * (z * z)) * (z * (d * (z * z)))) = (d * w) * (d * w) * (n * n * (z * z * z * (z * z * z))) - (X + (X + d)) * (d * d * (z * z * z * (z * z * z))) := by grind
  rw [e2, hw]
  clear e2 hw
  grind
theorem rj4 {k : Nat} (X Y d n z w X' : Zp k) (hw : d * w = 1) : (X * (z * z) * (d * (z * z) * (d * (z * z))) - X' * (z * (d * (z * z)) * (z * (d * (z * z))))) * (n * (z * z * z)) - d * (z * z) * (d * (z * z)) * (d * (z * z)) * (Y * (z * z * z)) = (n * w * (X - X') - Y) * (z * (d * (z * z)) * (z * (d * (z * z))) * (z * (d * (z * z)))) := by
  have e2 : (n * w * (X - X') - Y) * (z * (d * (z * z)) * (z * (d * (z * z))) * (z * (d * (z * z)))) = (d * w) * (n * (X - X') * (d * d) * (z * z * z * (z * z * z) * (z * z * z))) - Y * (d * d * d) * (z * z * z * (z * z * z) * (z * z * z)) := by grind
  rw [e2, hw]
  clear e2 hw
  grind
theorem odd2 {k : Nat} (h : (k + 1) % 2 = 1) {a : Zp k} (ha : a + a = 0) : a = 0 := by
  have h1 := congrArg Fin.val ha
  rw [Fin.val_add] at h1
  have h2 : ((0 : Zp k)).val = 0 := rfl
  rw [h2] at h1
  have h3 := a.isLt
  apply Fin.ext
  rw [h2]
  rcases Nat.lt_or_ge (a.val + a.val) (k + 1) with h4 | h4
  · rw [Nat.mod_eq_of_lt h4] at h1; omega
  · rw [Nat.mod_eq_sub_mod h4, Nat.mod_eq_of_lt (by omega)] at h1; omega
def dblR {k : Nat} (A : Zp k) (r : Option (Pt k)) : Option (Pt k) := match r with
  | none => none
  | some R => psum A R R
def addR {k : Nat} (A : Zp k) (Q : Pt k) (r : Option (Pt k)) : Option (Pt k) := match r with
  | none => none
  | some R => psum A R Q
theorem kstep_eq {k : Nat} (A : Zp k) (P : Pt k) (b : Bool) (r : Option (Pt k)) : kstep A P b r = if b then addR A P (dblR A r) else dblR A r := by
  cases r with
  | none => cases b <;> rfl
  | some R =>
    show (match psum A R R with | none => none | some S => if b then psum A S P else some S) = if b then addR A P (psum A R R) else psum A R R
    cases psum A R R with
    | none => cases b <;> rfl
    | some S => cases b <;> rfl
theorem unit_sq {k : Nat} {z : Zp k} (h : unit? k z) : unit? k (z * z) := zu_prod h h
theorem unit_cb {k : Nat} {z : Zp k} (h : unit? k z) : unit? k (z * z * z) := zu_prod (zu_prod h h) h
theorem J_dbl0 {k : Nat} {A x y z : Zp k} {r : Option (Pt k)} (h : JS k 0 x y z r) (hy : y = 0) : JS k 1 x y z (dblR A r) := by
  cases r with
  | none => exact h
  | some R =>
    cases R with
    | none => exact absurd h.2 (by decide)
    | some P =>
      obtain ⟨X, Y⟩ := P
      obtain ⟨-, hz, hx, hyy⟩ := h
      have hY : Y = 0 := zu_cancel (unit_cb hz) (by rw [← hyy]; exact hy)
      show JS k 1 x y z (psum A (some (X, Y)) (some (X, Y)))
      rw [psum_id rfl (by rw [hY]; grind)]
      exact ⟨hz, rfl⟩
theorem J_dbl {k A x y z x' y' z' : Nat} {r : Option (Pt k)} (hodd : (k + 1) % 2 = 1) (h : JS k 0 (fz k x) (fz k y) (fz k z) r) (hy : fz k y ≠ 0) (hd : dblEq (k + 1) A x y z x' y' z') : JS k 0 (fz k x') (fz k y') (fz k z') (dblR (fz k A) r) := by
  obtain ⟨e1, e2, e3⟩ := dbl_ring hd
  cases r with
  | none =>
    show ¬ unit? k (fz k z')
    rw [e1, show fz k z * fz k y + fz k z * fz k y = fz k z * (fz k y + fz k y) by grind]
    exact fun q => h (zu_mul q).1
  | some R =>
    cases R with
    | none => exact absurd h.2 (by decide)
    | some P =>
      obtain ⟨X, Y⟩ := P
      obtain ⟨-, hz, hx, hyy⟩ := h
      have hY2 : Y + Y ≠ 0 := fun q => hy (by rw [hyy, odd2 hodd q]; grind)
      show JS k 0 _ _ _ (psum (fz k A) (some (X, Y)) (some (X, Y)))
      rw [psum_tan hY2]
      have ez : fz k z' = (Y + Y) * (fz k z * fz k z * fz k z * fz k z) := by rw [e1, hyy]; grind
      cases hi : zinv k (Y + Y) with
      | none =>
        show ¬ unit? k (fz k z')
        rw [ez]
        exact fun q => zinv_none hi (zu_mul q).1
      | some w =>
        have hw := zinv_some hi
        have huz : unit? k (fz k z') := by
          rw [ez]
          exact zu_prod ⟨w, hw⟩ (zu_prod (unit_cb hz) hz)
        have eX : fz k x' = ((3 * X * X + fz k A) * w * ((3 * X * X + fz k A) * w) - X - X) * (fz k z' * fz k z') := by
          rw [e2, hx, hyy, rj1 X Y (fz k A) (fz k z) w hw, e1, hyy]
        refine ⟨rfl, huz, eX, ?_⟩
        rw [e3, eX]
        generalize (3 * X * X + fz k A) * w * ((3 * X * X + fz k A) * w) - X - X = X'
        rw [e1, hx, hyy]
        have eR : 3 * (X * (fz k z * fz k z) * (X * (fz k z * fz k z))) + fz k A * (fz k z * fz k z * (fz k z * fz k z)) = (3 * X * X + fz k A) * (fz k z * fz k z * fz k z * fz k z) := by grind
        rw [eR]
        exact rj2 X Y (3 * X * X + fz k A) (fz k z) w X' hw
theorem J_id {k : Nat} {A x y z U V : Zp k} {r : Option (Pt k)} (h : JS k 1 x y z r) : JS k 0 (U * (z * z)) (V * (z * z * z)) z (addR A (some (U, V)) r) := by
  cases r with
  | none => exact h
  | some R =>
    cases R with
    | none => exact ⟨rfl, h.1, rfl, rfl⟩
    | some P =>
      obtain ⟨X, Y⟩ := P
      exact absurd h.1 (by decide)
theorem J_chd {k A x y z rn rs x' y' z' : Nat} {U V : Zp k} {r : Option (Pt k)} (h : JS k 0 (fz k x) (fz k y) (fz k z) r) (hrn : fz k rn = U * (fz k z * fz k z) - fz k x) (hrs : fz k rs = V * (fz k z * fz k z * fz k z) - fz k y) (hne : fz k rn ≠ 0) (hd : chdEq (k + 1) x y z rn rs x' y' z') : JS k 0 (fz k x') (fz k y') (fz k z') (addR (fz k A) (some (U, V)) r) := by
  obtain ⟨e1, e2, e3⟩ := chd_ring hd
  cases r with
  | none =>
    show ¬ unit? k (fz k z')
    rw [e1]
    exact fun q => h (zu_mul q).1
  | some R =>
    cases R with
    | none => exact absurd h.2 (by decide)
    | some P =>
      obtain ⟨X, Y⟩ := P
      obtain ⟨-, hz, hx, hyy⟩ := h
      rw [hx] at hrn
      rw [hyy] at hrs
      have hrn2 : fz k rn = (U - X) * (fz k z * fz k z) := by rw [hrn]; grind
      have hrs2 : fz k rs = (V - Y) * (fz k z * fz k z * fz k z) := by rw [hrs]; grind
      have hXU : X ≠ U := fun q => hne (by rw [hrn2, q]; grind)
      show JS k 0 _ _ _ (psum (fz k A) (some (X, Y)) (some (U, V)))
      rw [psum_chd hXU]
      have ez : fz k z' = fz k z * ((U - X) * (fz k z * fz k z)) := by rw [e1, hrn2]
      cases hi : zinv k (U - X) with
      | none =>
        show ¬ unit? k (fz k z')
        rw [ez]
        exact fun q => zinv_none hi (zu_mul (zu_mul q).2).1
      | some w =>
        have hw := zinv_some hi
        have huz : unit? k (fz k z') := by
          rw [ez]
          exact zu_prod hz (zu_prod ⟨w, hw⟩ (unit_sq hz))
        have eX : fz k x' = ((V - Y) * w * ((V - Y) * w) - X - U) * (fz k z' * fz k z') := by
          have := rj3 X (U - X) (V - Y) (fz k z) w hw
          rw [show X + (U - X) = U by grind] at this
          rw [e2, hx, hrn2, hrs2, this, ez]
        refine ⟨rfl, huz, eX, ?_⟩
        rw [e3, eX]
        generalize (V - Y) * w * ((V - Y) * w) - X - U = X'
        rw [ez, hx, hyy, hrn2, hrs2]
        exact rj4 X Y (U - X) (V - Y) (fz k z) w X' hw
theorem J_same {k : Nat} {A x y z U V : Zp k} {r : Option (Pt k)} (h : JS k 0 x y z r) (h1 : U * (z * z) - x = 0) (h2 : V * (z * z * z) - y = 0) : addR A (some (U, V)) r = dblR A r := by
  cases r with
  | none => rfl
  | some R =>
    cases R with
    | none => exact absurd h.2 (by decide)
    | some P =>
      obtain ⟨X, Y⟩ := P
      obtain ⟨-, hz, hx, hyy⟩ := h
      have e1 : U - X = 0 := zu_cancel (unit_sq hz) (by rw [hx] at h1; rw [← h1]; grind)
      have e2 : V - Y = 0 := zu_cancel (unit_cb hz) (by rw [hyy] at h2; rw [← h2]; grind)
      have e3 : U = X := by grind
      have e4 : V = Y := by grind
      rw [e3, e4]
      rfl
theorem J_opp0 {k : Nat} {A x y z U V : Zp k} {r : Option (Pt k)} (h : JS k 0 x y z r) (h1 : U * (z * z) - x = 0) (h2 : V * (z * z * z) + y = 0) : JS k 1 x y z (addR A (some (U, V)) r) := by
  cases r with
  | none => exact h
  | some R =>
    cases R with
    | none => exact absurd h.2 (by decide)
    | some P =>
      obtain ⟨X, Y⟩ := P
      obtain ⟨-, hz, hx, hyy⟩ := h
      have e1 : U - X = 0 := zu_cancel (unit_sq hz) (by rw [hx] at h1; rw [← h1]; grind)
      have e2 : V + Y = 0 := zu_cancel (unit_cb hz) (by rw [hyy] at h2; rw [← h2]; grind)
      show JS k 1 x y z (psum A (some (X, Y)) (some (U, V)))
      rw [psum_id (by grind) (by rw [← e2]; grind)]
      exact ⟨hz, rfl⟩
theorem J_opp1 {k : Nat} {A B x y z U V : Zp k} {r : Option (Pt k)} (hk : 0 < k) (h : JS k 0 x y z r) (hr : ∀ R, r = some R → onC A B R) (hQ : onC A B (some (U, V))) (h1 : U * (z * z) - x = 0) (h2 : V * (z * z * z) - y ≠ 0) (h3 : V * (z * z * z) + y ≠ 0) : JS k 0 x y 0 (addR A (some (U, V)) r) := by
  have hu : ¬ unit? k (0 : Zp k) := zu_not0 hk
  cases r with
  | none => exact hu
  | some R =>
    cases R with
    | none => exact absurd h.2 (by decide)
    | some P =>
      obtain ⟨X, Y⟩ := P
      have hP := hr _ rfl
      obtain ⟨-, hz, hx, hyy⟩ := h
      have e1 : U - X = 0 := zu_cancel (unit_sq hz) (by rw [hx] at h1; rw [← h1]; grind)
      have e2 : U = X := by grind
      subst e2
      have e3 : Y + V ≠ 0 := fun q => h3 (by rw [hyy, show V * (z * z * z) + Y * (z * z * z) = (Y + V) * (z * z * z) by grind, q]; grind)
      have e4 : Y - V ≠ 0 := fun q => h2 (by rw [hyy, show V * (z * z * z) - Y * (z * z * z) = (0 - (Y - V)) * (z * z * z) by grind, q]; grind)
      show JS k 0 x y 0 (psum A (some (U, Y)) (some (U, V)))
      rw [psum_tan e3]
      cases hi : zinv k (Y + V) with
      | none => exact hu
      | some w =>
        exfalso
        have hw := zinv_some hi
        have f1 : Y * Y = U * U * U + A * U + B := hP
        have f2 : V * V = U * U * U + A * U + B := hQ
        have f3 : (Y - V) * (Y + V) = 0 := by rw [show (Y - V) * (Y + V) = Y * Y - V * V by grind, f1, f2]; grind
        exact e4 (zu_cancel ⟨w, hw⟩ f3)
