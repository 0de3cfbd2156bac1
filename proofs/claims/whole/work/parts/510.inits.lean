theorem in_X0_init_X0 : ∀ w ∈ wsX00, w ∈ wsX0_init := by decide +kernel
theorem in_X2_init_X2 : ∀ w ∈ wsX20, w ∈ wsX2_init := by decide +kernel
theorem in_X3_init_X3 : ∀ w ∈ wsX30, w ∈ wsX3_init := by decide +kernel
theorem in_X4_init_X4 : ∀ w ∈ wsX40, w ∈ wsX4_init := by decide +kernel
section INITS
variable {p : Program} {l : Launch} {e : Env} {R : Room} {s : State} {m : MethodId} {args : Array Value} {below : List Frame} {meth : Method} {c : Code} {Q : State → Prop} {cells slots : Nat} {ret : Option FieldType} {D : va_G} {kA : Nat → ClassId} {N0 : Nat}
set_option maxRecDepth 100000 in
theorem c_initPt (l : Launch) (D : va_G) (kA : Nat → ClassId) (N0 z a L : Nat) (M : xM) (ho : M a = some (xO 1 [.null, .null, .int 0])) (haz : a < z) (hL : L ≤ 9) : cN l yX2_init wsX2_init 1 2 18 [.ref a, .int (nI L)] D kA N0 z (z + 2) M (fun M1 => M1 a = some (xO 1 [.ref z, .ref (z + 1), .int (nI 1)]) ∧ M1 z = some (xI (kA 0) L (fun _ => 0)) ∧ M1 (z + 1) = some (xI (kA 0) L (fun _ => 0)) ∧ ∀ b, (b ≠ a ∧ (b < z ∨ z + 2 ≤ b)) → M1 b = M b) := by
  refine r_metz (cc := cX2_init) (maxL := 2) (ret := none) (by decide) rfl (Nat.le_of_ble_eq_true rfl) ?_
  intro p e s m below meth c ls C hM hz hnm hl
  obtain ⟨hx, hb, hml, hown, hts, hr, hlocks, hK, hN⟩ := _root_.id C
  have hS : va_S (xA N0) s.heap s.heap [] := va_S.rf
  have hl : lv_has ls 2 [(0, .ref a), (1, .int (nI L))] := hl
  have hfr : ∀ b, (b ≠ a ∧ (b < z ∨ z + 2 ≤ b)) → M b = M b := fun _ _ => rfl
  refine lv_aload_n hx hb dX2_init_0 rfl (lv_at hl 0 rfl) ?_
  refine r_objI C (hts (.methodLink RX2 1 objectInit) (by decide +kernel)) (hts (.instanceMethod objectInit) (by decide +kernel)) (hts (.code objectInit ⟨#[0xb1]⟩ 1 none) (by decide +kernel)) hl.1 (Nat.le_of_ble_eq_true rfl) (Nat.le_of_ble_eq_true rfl) dX2_init_1 ?_
  refine lv_aload_n hx hb dX2_init_4 rfl (lv_at hl 0 rfl) ?_
  refine lv_iload_n hx hb dX2_init_5 rfl (lv_at hl 1 rfl) ?_
  refine r_newi C hM hS hz rfl (hts (.arrayClass .int) (by decide +kernel)) (by omega) (by show _ ≤ 2; omega) (by show _ ≤ 18; omega) dX2_init_6 (fun H hM hS hz => ?_)
  obtain ⟨M9, eM9⟩ : ∃ q, xset M z (xI (kA 0) L (fun _ => 0)) = q := ⟨_, rfl⟩
  rw [eM9] at hM
  replace ho := xkeep eM9 (by omega) ho
  replace hfr : ∀ b, (b ≠ a ∧ (b < z ∨ z + 2 ≤ b)) → M9 b = M b := fun b hb9 => xkeep eM9 (by omega) (hfr b hb9)
  have h1 := xself eM9
  clear eM9
  replace hz : zsz H (z + 1) := hz
  refine z_putF (v := .ref z) (ty := (.array .int)) hx hb hts in_X2_init_X2 tyX2 tyX2_ok nmX2 hown hK hM hS hz (ho) rfl 0 (by decide) (hts (.fieldLink RX2 7 "LimbCurves$Point" "x" "[I") (by decide +kernel)) (fun _ h9 => h9) rfl hnm rfl (by decide +kernel) rfl rfl (Nat.le_of_ble_eq_true rfl) dX2_init_8 (fun H locs hM hS hz => ?_)
  have hM : xW D vwCl N0 (xset M9 a (xO 1 [.ref z, .null, .int 0])) H := hM
  obtain ⟨M9, eM9⟩ : ∃ q, xset M9 a (xO 1 [.ref z, .null, .int 0]) = q := ⟨_, rfl⟩
  rw [eM9] at hM
  replace h1 := xkeep eM9 (by omega) h1
  replace hfr : ∀ b, (b ≠ a ∧ (b < z ∨ z + 2 ≤ b)) → M9 b = M b := fun b hb9 => xkeep eM9 (by omega) (hfr b hb9)
  replace ho := xself eM9
  clear eM9
  refine lv_aload_n hx hb dX2_init_11 rfl (lv_at hl 0 rfl) ?_
  refine lv_iload_n hx hb dX2_init_12 rfl (lv_at hl 1 rfl) ?_
  refine r_newi C hM hS hz rfl (hts (.arrayClass .int) (by decide +kernel)) (by omega) (by show _ ≤ 2; omega) (by show _ ≤ 18; omega) dX2_init_13 (fun H hM hS hz => ?_)
  obtain ⟨M9, eM9⟩ : ∃ q, xset M9 (z + 1) (xI (kA 0) L (fun _ => 0)) = q := ⟨_, rfl⟩
  rw [eM9] at hM
  replace ho := xkeep eM9 (by omega) ho
  replace h1 := xkeep eM9 (by omega) h1
  replace hfr : ∀ b, (b ≠ a ∧ (b < z ∨ z + 2 ≤ b)) → M9 b = M b := fun b hb9 => xkeep eM9 (by omega) (hfr b hb9)
  have h2 := xself eM9
  clear eM9
  replace hz : zsz H (z + 2) := hz
  refine z_putF (v := .ref (z + 1)) (ty := (.array .int)) hx hb hts in_X2_init_X2 tyX2 tyX2_ok nmX2 hown hK hM hS hz (ho) rfl 1 (by decide) (hts (.fieldLink RX2 13 "LimbCurves$Point" "y" "[I") (by decide +kernel)) (fun _ h9 => h9) rfl hnm rfl (by decide +kernel) rfl rfl (Nat.le_of_ble_eq_true rfl) dX2_init_15 (fun H locs hM hS hz => ?_)
  have hM : xW D vwCl N0 (xset M9 a (xO 1 [.ref z, .ref (z + 1), .int 0])) H := hM
  obtain ⟨M9, eM9⟩ : ∃ q, xset M9 a (xO 1 [.ref z, .ref (z + 1), .int 0]) = q := ⟨_, rfl⟩
  rw [eM9] at hM
  replace h1 := xkeep eM9 (by omega) h1
  replace h2 := xkeep eM9 (by omega) h2
  replace hfr : ∀ b, (b ≠ a ∧ (b < z ∨ z + 2 ≤ b)) → M9 b = M b := fun b hb9 => xkeep eM9 (by omega) (hfr b hb9)
  replace ho := xself eM9
  clear eM9
  refine lv_aload_n hx hb dX2_init_18 rfl (lv_at hl 0 rfl) ?_
  refine lv_iconst (v := nI 1) hx hb dX2_init_19 (by decide) ?_
  refine z_put (v := .int (nI 1)) (ty := .boolean) hx hb hts in_X2_init_X2 tyX2 tyX2_ok nmX2 hown hK hM hS hz (ho) rfl 2 (by decide) (hts (.fieldLink RX2 16 "LimbCurves$Point" "identity" "Z") (by decide +kernel)) (fun _ h9 => h9) rfl (by decide +kernel) rfl rfl (Nat.le_of_ble_eq_true rfl) dX2_init_20 (fun H locs hM hS hz => ?_)
  have hM : xW D vwCl N0 (xset M9 a (xO 1 [.ref z, .ref (z + 1), .int (nI 1)])) H := hM
  obtain ⟨M9, eM9⟩ : ∃ q, xset M9 a (xO 1 [.ref z, .ref (z + 1), .int (nI 1)]) = q := ⟨_, rfl⟩
  rw [eM9] at hM
  replace h1 := xkeep eM9 (by omega) h1
  replace h2 := xkeep eM9 (by omega) h2
  replace hfr : ∀ b, (b ≠ a ∧ (b < z ∨ z + 2 ≤ b)) → M9 b = M b := fun b hb9 => xkeep eM9 (by omega) (hfr b hb9)
  replace ho := xself eM9
  clear eM9
  refine W.widen (k := 2) (n := 18) (by omega) (by omega) ?_
  exact r_vretz C hM hS hz (⟨ho, h1, h2, hfr⟩) dX2_init_23
set_option maxRecDepth 100000 in
theorem c_initRes (l : Launch) (D : va_G) (kA : Nat → ClassId) (N0 z a L : Nat) (M : xM) (ho : M a = some (xO 2 [.null, .null, .null, .null, .null, .null, .null, .null, .int 0, .int 0])) (haz : a < z) (hL : L ≤ 9) : cN l yX3_init wsX3_init 1 8 90 [.ref a, .int (nI L)] D kA N0 z (z + 8) M (fun M1 => M1 a = some (xO 2 [.ref z, .ref (z + 1), .ref (z + 2), .ref (z + 3), .ref (z + 4), .ref (z + 5), .ref (z + 6), .ref (z + 7), .int (nI 0), .int (nI 0)]) ∧ M1 z = some (xI (kA 0) L (fun _ => 0)) ∧ M1 (z + 1) = some (xI (kA 0) L (fun _ => 0)) ∧ M1 (z + 2) = some (xI (kA 0) (2 * L + 1) (fun _ => 0)) ∧ M1 (z + 3) = some (xI (kA 0) L (fun _ => 0)) ∧ M1 (z + 4) = some (xI (kA 0) L (fun _ => 0)) ∧ M1 (z + 5) = some (xI (kA 0) L (fun _ => 0)) ∧ M1 (z + 6) = some (xI (kA 0) L (fun _ => 0)) ∧ M1 (z + 7) = some (xI (kA 0) L (fun _ => 0)) ∧ ∀ b, (b ≠ a ∧ (b < z ∨ z + 8 ≤ b)) → M1 b = M b) := by
  refine r_metz (cc := cX3_init) (maxL := 2) (ret := none) (by decide) rfl (Nat.le_of_ble_eq_true rfl) ?_
  intro p e s m below meth c ls C hM hz hnm hl
  obtain ⟨hx, hb, hml, hown, hts, hr, hlocks, hK, hN⟩ := _root_.id C
  have hS : va_S (xA N0) s.heap s.heap [] := va_S.rf
  have hl : lv_has ls 2 [(0, .ref a), (1, .int (nI L))] := hl
  have hfr : ∀ b, (b ≠ a ∧ (b < z ∨ z + 8 ≤ b)) → M b = M b := fun _ _ => rfl
  refine lv_aload_n hx hb dX3_init_0 rfl (lv_at hl 0 rfl) ?_
  refine r_objI C (hts (.methodLink RX3 3 objectInit) (by decide +kernel)) (hts (.instanceMethod objectInit) (by decide +kernel)) (hts (.code objectInit ⟨#[0xb1]⟩ 1 none) (by decide +kernel)) hl.1 (Nat.le_of_ble_eq_true rfl) (Nat.le_of_ble_eq_true rfl) dX3_init_1 ?_
  refine lv_aload_n hx hb dX3_init_4 rfl (lv_at hl 0 rfl) ?_
  refine lv_iload_n hx hb dX3_init_5 rfl (lv_at hl 1 rfl) ?_
  refine r_newi C hM hS hz rfl (hts (.arrayClass .int) (by decide +kernel)) (by omega) (by show _ ≤ 8; omega) (by show _ ≤ 90; omega) dX3_init_6 (fun H hM hS hz => ?_)
  obtain ⟨M9, eM9⟩ : ∃ q, xset M z (xI (kA 0) L (fun _ => 0)) = q := ⟨_, rfl⟩
  rw [eM9] at hM
  replace ho := xkeep eM9 (by omega) ho
  replace hfr : ∀ b, (b ≠ a ∧ (b < z ∨ z + 8 ≤ b)) → M9 b = M b := fun b hb9 => xkeep eM9 (by omega) (hfr b hb9)
  have h1 := xself eM9
  clear eM9
  replace hz : zsz H (z + 1) := hz
  refine z_putF (v := .ref z) (ty := (.array .int)) hx hb hts in_X3_init_X3 tyX3 tyX3_ok nmX3 hown hK hM hS hz (ho) rfl 0 (by decide) (hts (.fieldLink RX3 9 "LimbCurves$Residues" "modulus" "[I") (by decide +kernel)) (fun _ h9 => h9) rfl hnm rfl (by decide +kernel) rfl rfl (Nat.le_of_ble_eq_true rfl) dX3_init_8 (fun H locs hM hS hz => ?_)
  have hM : xW D vwCl N0 (xset M9 a (xO 2 [.ref z, .null, .null, .null, .null, .null, .null, .null, .int 0, .int 0])) H := hM
  obtain ⟨M9, eM9⟩ : ∃ q, xset M9 a (xO 2 [.ref z, .null, .null, .null, .null, .null, .null, .null, .int 0, .int 0]) = q := ⟨_, rfl⟩
  rw [eM9] at hM
  replace h1 := xkeep eM9 (by omega) h1
  replace hfr : ∀ b, (b ≠ a ∧ (b < z ∨ z + 8 ≤ b)) → M9 b = M b := fun b hb9 => xkeep eM9 (by omega) (hfr b hb9)
  replace ho := xself eM9
  clear eM9
  refine lv_aload_n hx hb dX3_init_11 rfl (lv_at hl 0 rfl) ?_
  refine lv_iload_n hx hb dX3_init_12 rfl (lv_at hl 1 rfl) ?_
  refine r_newi C hM hS hz rfl (hts (.arrayClass .int) (by decide +kernel)) (by omega) (by show _ ≤ 8; omega) (by show _ ≤ 90; omega) dX3_init_13 (fun H hM hS hz => ?_)
  obtain ⟨M9, eM9⟩ : ∃ q, xset M9 (z + 1) (xI (kA 0) L (fun _ => 0)) = q := ⟨_, rfl⟩
  rw [eM9] at hM
  replace ho := xkeep eM9 (by omega) ho
  replace h1 := xkeep eM9 (by omega) h1
  replace hfr : ∀ b, (b ≠ a ∧ (b < z ∨ z + 8 ≤ b)) → M9 b = M b := fun b hb9 => xkeep eM9 (by omega) (hfr b hb9)
  have h2 := xself eM9
  clear eM9
  replace hz : zsz H (z + 2) := hz
  refine z_putF (v := .ref (z + 1)) (ty := (.array .int)) hx hb hts in_X3_init_X3 tyX3 tyX3_ok nmX3 hown hK hM hS hz (ho) rfl 1 (by decide) (hts (.fieldLink RX3 15 "LimbCurves$Residues" "divisor" "[I") (by decide +kernel)) (fun _ h9 => h9) rfl hnm rfl (by decide +kernel) rfl rfl (Nat.le_of_ble_eq_true rfl) dX3_init_15 (fun H locs hM hS hz => ?_)
  have hM : xW D vwCl N0 (xset M9 a (xO 2 [.ref z, .ref (z + 1), .null, .null, .null, .null, .null, .null, .int 0, .int 0])) H := hM
  obtain ⟨M9, eM9⟩ : ∃ q, xset M9 a (xO 2 [.ref z, .ref (z + 1), .null, .null, .null, .null, .null, .null, .int 0, .int 0]) = q := ⟨_, rfl⟩
  rw [eM9] at hM
  replace h1 := xkeep eM9 (by omega) h1
  replace h2 := xkeep eM9 (by omega) h2
  replace hfr : ∀ b, (b ≠ a ∧ (b < z ∨ z + 8 ≤ b)) → M9 b = M b := fun b hb9 => xkeep eM9 (by omega) (hfr b hb9)
  replace ho := xself eM9
  clear eM9
  refine lv_aload_n hx hb dX3_init_18 rfl (lv_at hl 0 rfl) ?_
  refine lv_iconst (v := nI 2) hx hb dX3_init_19 (by decide) ?_
  refine lv_iload_n hx hb dX3_init_20 rfl (lv_at hl 1 rfl) ?_
  refine r_imulN C dX3_init_21 ?_
  refine lv_iconst (v := nI 1) hx hb dX3_init_22 (by decide) ?_
  refine r_iaddN C dX3_init_23 ?_
  refine r_newi C hM hS hz rfl (hts (.arrayClass .int) (by decide +kernel)) (by omega) (by show _ ≤ 8; omega) (by show _ ≤ 90; omega) dX3_init_24 (fun H hM hS hz => ?_)
  obtain ⟨M9, eM9⟩ : ∃ q, xset M9 (z + 2) (xI (kA 0) ((2 * L) + 1) (fun _ => 0)) = q := ⟨_, rfl⟩
  rw [eM9] at hM
  replace ho := xkeep eM9 (by omega) ho
  replace h1 := xkeep eM9 (by omega) h1
  replace h2 := xkeep eM9 (by omega) h2
  replace hfr : ∀ b, (b ≠ a ∧ (b < z ∨ z + 8 ≤ b)) → M9 b = M b := fun b hb9 => xkeep eM9 (by omega) (hfr b hb9)
  have h3 := xself eM9
  clear eM9
  replace hz : zsz H (z + 3) := hz
  refine z_putF (v := .ref (z + 2)) (ty := (.array .int)) hx hb hts in_X3_init_X3 tyX3 tyX3_ok nmX3 hown hK hM hS hz (ho) rfl 2 (by decide) (hts (.fieldLink RX3 18 "LimbCurves$Residues" "work" "[I") (by decide +kernel)) (fun _ h9 => h9) rfl hnm rfl (by decide +kernel) rfl rfl (Nat.le_of_ble_eq_true rfl) dX3_init_26 (fun H locs hM hS hz => ?_)
  have hM : xW D vwCl N0 (xset M9 a (xO 2 [.ref z, .ref (z + 1), .ref (z + 2), .null, .null, .null, .null, .null, .int 0, .int 0])) H := hM
  obtain ⟨M9, eM9⟩ : ∃ q, xset M9 a (xO 2 [.ref z, .ref (z + 1), .ref (z + 2), .null, .null, .null, .null, .null, .int 0, .int 0]) = q := ⟨_, rfl⟩
  rw [eM9] at hM
  replace h1 := xkeep eM9 (by omega) h1
  replace h2 := xkeep eM9 (by omega) h2
  replace h3 := xkeep eM9 (by omega) h3
  replace hfr : ∀ b, (b ≠ a ∧ (b < z ∨ z + 8 ≤ b)) → M9 b = M b := fun b hb9 => xkeep eM9 (by omega) (hfr b hb9)
  replace ho := xself eM9
  clear eM9
  refine lv_aload_n hx hb dX3_init_29 rfl (lv_at hl 0 rfl) ?_
  refine lv_iload_n hx hb dX3_init_30 rfl (lv_at hl 1 rfl) ?_
  refine r_newi C hM hS hz rfl (hts (.arrayClass .int) (by decide +kernel)) (by omega) (by show _ ≤ 8; omega) (by show _ ≤ 90; omega) dX3_init_31 (fun H hM hS hz => ?_)
  obtain ⟨M9, eM9⟩ : ∃ q, xset M9 (z + 3) (xI (kA 0) L (fun _ => 0)) = q := ⟨_, rfl⟩
  rw [eM9] at hM
  replace ho := xkeep eM9 (by omega) ho
  replace h1 := xkeep eM9 (by omega) h1
  replace h2 := xkeep eM9 (by omega) h2
  replace h3 := xkeep eM9 (by omega) h3
  replace hfr : ∀ b, (b ≠ a ∧ (b < z ∨ z + 8 ≤ b)) → M9 b = M b := fun b hb9 => xkeep eM9 (by omega) (hfr b hb9)
  have h4 := xself eM9
  clear eM9
  replace hz : zsz H (z + 4) := hz
  refine z_putF (v := .ref (z + 3)) (ty := (.array .int)) hx hb hts in_X3_init_X3 tyX3 tyX3_ok nmX3 hown hK hM hS hz (ho) rfl 3 (by decide) (hts (.fieldLink RX3 21 "LimbCurves$Residues" "spare" "[I") (by decide +kernel)) (fun _ h9 => h9) rfl hnm rfl (by decide +kernel) rfl rfl (Nat.le_of_ble_eq_true rfl) dX3_init_33 (fun H locs hM hS hz => ?_)
  have hM : xW D vwCl N0 (xset M9 a (xO 2 [.ref z, .ref (z + 1), .ref (z + 2), .ref (z + 3), .null, .null, .null, .null, .int 0, .int 0])) H := hM
  obtain ⟨M9, eM9⟩ : ∃ q, xset M9 a (xO 2 [.ref z, .ref (z + 1), .ref (z + 2), .ref (z + 3), .null, .null, .null, .null, .int 0, .int 0]) = q := ⟨_, rfl⟩
  rw [eM9] at hM
  replace h1 := xkeep eM9 (by omega) h1
  replace h2 := xkeep eM9 (by omega) h2
  replace h3 := xkeep eM9 (by omega) h3
  replace h4 := xkeep eM9 (by omega) h4
  replace hfr : ∀ b, (b ≠ a ∧ (b < z ∨ z + 8 ≤ b)) → M9 b = M b := fun b hb9 => xkeep eM9 (by omega) (hfr b hb9)
  replace ho := xself eM9
  clear eM9
  refine lv_aload_n hx hb dX3_init_36 rfl (lv_at hl 0 rfl) ?_
  refine lv_iload_n hx hb dX3_init_37 rfl (lv_at hl 1 rfl) ?_
  refine r_newi C hM hS hz rfl (hts (.arrayClass .int) (by decide +kernel)) (by omega) (by show _ ≤ 8; omega) (by show _ ≤ 90; omega) dX3_init_38 (fun H hM hS hz => ?_)
  obtain ⟨M9, eM9⟩ : ∃ q, xset M9 (z + 4) (xI (kA 0) L (fun _ => 0)) = q := ⟨_, rfl⟩
  rw [eM9] at hM
  replace ho := xkeep eM9 (by omega) ho
  replace h1 := xkeep eM9 (by omega) h1
  replace h2 := xkeep eM9 (by omega) h2
  replace h3 := xkeep eM9 (by omega) h3
  replace h4 := xkeep eM9 (by omega) h4
  replace hfr : ∀ b, (b ≠ a ∧ (b < z ∨ z + 8 ≤ b)) → M9 b = M b := fun b hb9 => xkeep eM9 (by omega) (hfr b hb9)
  have h5 := xself eM9
  clear eM9
  replace hz : zsz H (z + 5) := hz
  refine z_putF (v := .ref (z + 4)) (ty := (.array .int)) hx hb hts in_X3_init_X3 tyX3 tyX3_ok nmX3 hown hK hM hS hz (ho) rfl 4 (by decide) (hts (.fieldLink RX3 24 "LimbCurves$Residues" "firstRest" "[I") (by decide +kernel)) (fun _ h9 => h9) rfl hnm rfl (by decide +kernel) rfl rfl (Nat.le_of_ble_eq_true rfl) dX3_init_40 (fun H locs hM hS hz => ?_)
  have hM : xW D vwCl N0 (xset M9 a (xO 2 [.ref z, .ref (z + 1), .ref (z + 2), .ref (z + 3), .ref (z + 4), .null, .null, .null, .int 0, .int 0])) H := hM
  obtain ⟨M9, eM9⟩ : ∃ q, xset M9 a (xO 2 [.ref z, .ref (z + 1), .ref (z + 2), .ref (z + 3), .ref (z + 4), .null, .null, .null, .int 0, .int 0]) = q := ⟨_, rfl⟩
  rw [eM9] at hM
  replace h1 := xkeep eM9 (by omega) h1
  replace h2 := xkeep eM9 (by omega) h2
  replace h3 := xkeep eM9 (by omega) h3
  replace h4 := xkeep eM9 (by omega) h4
  replace h5 := xkeep eM9 (by omega) h5
  replace hfr : ∀ b, (b ≠ a ∧ (b < z ∨ z + 8 ≤ b)) → M9 b = M b := fun b hb9 => xkeep eM9 (by omega) (hfr b hb9)
  replace ho := xself eM9
  clear eM9
  refine lv_aload_n hx hb dX3_init_43 rfl (lv_at hl 0 rfl) ?_
  refine lv_iload_n hx hb dX3_init_44 rfl (lv_at hl 1 rfl) ?_
  refine r_newi C hM hS hz rfl (hts (.arrayClass .int) (by decide +kernel)) (by omega) (by show _ ≤ 8; omega) (by show _ ≤ 90; omega) dX3_init_45 (fun H hM hS hz => ?_)
  obtain ⟨M9, eM9⟩ : ∃ q, xset M9 (z + 5) (xI (kA 0) L (fun _ => 0)) = q := ⟨_, rfl⟩
  rw [eM9] at hM
  replace ho := xkeep eM9 (by omega) ho
  replace h1 := xkeep eM9 (by omega) h1
  replace h2 := xkeep eM9 (by omega) h2
  replace h3 := xkeep eM9 (by omega) h3
  replace h4 := xkeep eM9 (by omega) h4
  replace h5 := xkeep eM9 (by omega) h5
  replace hfr : ∀ b, (b ≠ a ∧ (b < z ∨ z + 8 ≤ b)) → M9 b = M b := fun b hb9 => xkeep eM9 (by omega) (hfr b hb9)
  have h6 := xself eM9
  clear eM9
  replace hz : zsz H (z + 6) := hz
  refine z_putF (v := .ref (z + 5)) (ty := (.array .int)) hx hb hts in_X3_init_X3 tyX3 tyX3_ok nmX3 hown hK hM hS hz (ho) rfl 5 (by decide) (hts (.fieldLink RX3 27 "LimbCurves$Residues" "secondRest" "[I") (by decide +kernel)) (fun _ h9 => h9) rfl hnm rfl (by decide +kernel) rfl rfl (Nat.le_of_ble_eq_true rfl) dX3_init_47 (fun H locs hM hS hz => ?_)
  have hM : xW D vwCl N0 (xset M9 a (xO 2 [.ref z, .ref (z + 1), .ref (z + 2), .ref (z + 3), .ref (z + 4), .ref (z + 5), .null, .null, .int 0, .int 0])) H := hM
  obtain ⟨M9, eM9⟩ : ∃ q, xset M9 a (xO 2 [.ref z, .ref (z + 1), .ref (z + 2), .ref (z + 3), .ref (z + 4), .ref (z + 5), .null, .null, .int 0, .int 0]) = q := ⟨_, rfl⟩
  rw [eM9] at hM
  replace h1 := xkeep eM9 (by omega) h1
  replace h2 := xkeep eM9 (by omega) h2
  replace h3 := xkeep eM9 (by omega) h3
  replace h4 := xkeep eM9 (by omega) h4
  replace h5 := xkeep eM9 (by omega) h5
  replace h6 := xkeep eM9 (by omega) h6
  replace hfr : ∀ b, (b ≠ a ∧ (b < z ∨ z + 8 ≤ b)) → M9 b = M b := fun b hb9 => xkeep eM9 (by omega) (hfr b hb9)
  replace ho := xself eM9
  clear eM9
  refine lv_aload_n hx hb dX3_init_50 rfl (lv_at hl 0 rfl) ?_
  refine lv_iload_n hx hb dX3_init_51 rfl (lv_at hl 1 rfl) ?_
  refine r_newi C hM hS hz rfl (hts (.arrayClass .int) (by decide +kernel)) (by omega) (by show _ ≤ 8; omega) (by show _ ≤ 90; omega) dX3_init_52 (fun H hM hS hz => ?_)
  obtain ⟨M9, eM9⟩ : ∃ q, xset M9 (z + 6) (xI (kA 0) L (fun _ => 0)) = q := ⟨_, rfl⟩
  rw [eM9] at hM
  replace ho := xkeep eM9 (by omega) ho
  replace h1 := xkeep eM9 (by omega) h1
  replace h2 := xkeep eM9 (by omega) h2
  replace h3 := xkeep eM9 (by omega) h3
  replace h4 := xkeep eM9 (by omega) h4
  replace h5 := xkeep eM9 (by omega) h5
  replace h6 := xkeep eM9 (by omega) h6
  replace hfr : ∀ b, (b ≠ a ∧ (b < z ∨ z + 8 ≤ b)) → M9 b = M b := fun b hb9 => xkeep eM9 (by omega) (hfr b hb9)
  have h7 := xself eM9
  clear eM9
  replace hz : zsz H (z + 7) := hz
  refine z_putF (v := .ref (z + 6)) (ty := (.array .int)) hx hb hts in_X3_init_X3 tyX3 tyX3_ok nmX3 hown hK hM hS hz (ho) rfl 6 (by decide) (hts (.fieldLink RX3 30 "LimbCurves$Residues" "firstFactor" "[I") (by decide +kernel)) (fun _ h9 => h9) rfl hnm rfl (by decide +kernel) rfl rfl (Nat.le_of_ble_eq_true rfl) dX3_init_54 (fun H locs hM hS hz => ?_)
  have hM : xW D vwCl N0 (xset M9 a (xO 2 [.ref z, .ref (z + 1), .ref (z + 2), .ref (z + 3), .ref (z + 4), .ref (z + 5), .ref (z + 6), .null, .int 0, .int 0])) H := hM
  obtain ⟨M9, eM9⟩ : ∃ q, xset M9 a (xO 2 [.ref z, .ref (z + 1), .ref (z + 2), .ref (z + 3), .ref (z + 4), .ref (z + 5), .ref (z + 6), .null, .int 0, .int 0]) = q := ⟨_, rfl⟩
  rw [eM9] at hM
  replace h1 := xkeep eM9 (by omega) h1
  replace h2 := xkeep eM9 (by omega) h2
  replace h3 := xkeep eM9 (by omega) h3
  replace h4 := xkeep eM9 (by omega) h4
  replace h5 := xkeep eM9 (by omega) h5
  replace h6 := xkeep eM9 (by omega) h6
  replace h7 := xkeep eM9 (by omega) h7
  replace hfr : ∀ b, (b ≠ a ∧ (b < z ∨ z + 8 ≤ b)) → M9 b = M b := fun b hb9 => xkeep eM9 (by omega) (hfr b hb9)
  replace ho := xself eM9
  clear eM9
  refine lv_aload_n hx hb dX3_init_57 rfl (lv_at hl 0 rfl) ?_
  refine lv_iload_n hx hb dX3_init_58 rfl (lv_at hl 1 rfl) ?_
  refine r_newi C hM hS hz rfl (hts (.arrayClass .int) (by decide +kernel)) (by omega) (by show _ ≤ 8; omega) (by show _ ≤ 90; omega) dX3_init_59 (fun H hM hS hz => ?_)
  obtain ⟨M9, eM9⟩ : ∃ q, xset M9 (z + 7) (xI (kA 0) L (fun _ => 0)) = q := ⟨_, rfl⟩
  rw [eM9] at hM
  replace ho := xkeep eM9 (by omega) ho
  replace h1 := xkeep eM9 (by omega) h1
  replace h2 := xkeep eM9 (by omega) h2
  replace h3 := xkeep eM9 (by omega) h3
  replace h4 := xkeep eM9 (by omega) h4
  replace h5 := xkeep eM9 (by omega) h5
  replace h6 := xkeep eM9 (by omega) h6
  replace h7 := xkeep eM9 (by omega) h7
  replace hfr : ∀ b, (b ≠ a ∧ (b < z ∨ z + 8 ≤ b)) → M9 b = M b := fun b hb9 => xkeep eM9 (by omega) (hfr b hb9)
  have h8 := xself eM9
  clear eM9
  replace hz : zsz H (z + 8) := hz
  refine z_putF (v := .ref (z + 7)) (ty := (.array .int)) hx hb hts in_X3_init_X3 tyX3 tyX3_ok nmX3 hown hK hM hS hz (ho) rfl 7 (by decide) (hts (.fieldLink RX3 33 "LimbCurves$Residues" "secondFactor" "[I") (by decide +kernel)) (fun _ h9 => h9) rfl hnm rfl (by decide +kernel) rfl rfl (Nat.le_of_ble_eq_true rfl) dX3_init_61 (fun H locs hM hS hz => ?_)
  have hM : xW D vwCl N0 (xset M9 a (xO 2 [.ref z, .ref (z + 1), .ref (z + 2), .ref (z + 3), .ref (z + 4), .ref (z + 5), .ref (z + 6), .ref (z + 7), .int 0, .int 0])) H := hM
  obtain ⟨M9, eM9⟩ : ∃ q, xset M9 a (xO 2 [.ref z, .ref (z + 1), .ref (z + 2), .ref (z + 3), .ref (z + 4), .ref (z + 5), .ref (z + 6), .ref (z + 7), .int 0, .int 0]) = q := ⟨_, rfl⟩
  rw [eM9] at hM
  replace h1 := xkeep eM9 (by omega) h1
  replace h2 := xkeep eM9 (by omega) h2
  replace h3 := xkeep eM9 (by omega) h3
  replace h4 := xkeep eM9 (by omega) h4
  replace h5 := xkeep eM9 (by omega) h5
  replace h6 := xkeep eM9 (by omega) h6
  replace h7 := xkeep eM9 (by omega) h7
  replace h8 := xkeep eM9 (by omega) h8
  replace hfr : ∀ b, (b ≠ a ∧ (b < z ∨ z + 8 ≤ b)) → M9 b = M b := fun b hb9 => xkeep eM9 (by omega) (hfr b hb9)
  replace ho := xself eM9
  clear eM9
  refine lv_aload_n hx hb dX3_init_64 rfl (lv_at hl 0 rfl) ?_
  refine lv_iconst (v := nI 0) hx hb dX3_init_65 (by decide) ?_
  refine z_put (v := .int (nI 0)) (ty := .int) hx hb hts in_X3_init_X3 tyX3 tyX3_ok nmX3 hown hK hM hS hz (ho) rfl 8 (by decide) (hts (.fieldLink RX3 36 "LimbCurves$Residues" "size" "I") (by decide +kernel)) (fun _ h9 => h9) rfl (by decide +kernel) rfl rfl (Nat.le_of_ble_eq_true rfl) dX3_init_66 (fun H locs hM hS hz => ?_)
  have hM : xW D vwCl N0 (xset M9 a (xO 2 [.ref z, .ref (z + 1), .ref (z + 2), .ref (z + 3), .ref (z + 4), .ref (z + 5), .ref (z + 6), .ref (z + 7), .int (nI 0), .int 0])) H := hM
  obtain ⟨M9, eM9⟩ : ∃ q, xset M9 a (xO 2 [.ref z, .ref (z + 1), .ref (z + 2), .ref (z + 3), .ref (z + 4), .ref (z + 5), .ref (z + 6), .ref (z + 7), .int (nI 0), .int 0]) = q := ⟨_, rfl⟩
  rw [eM9] at hM
  replace h1 := xkeep eM9 (by omega) h1
  replace h2 := xkeep eM9 (by omega) h2
  replace h3 := xkeep eM9 (by omega) h3
  replace h4 := xkeep eM9 (by omega) h4
  replace h5 := xkeep eM9 (by omega) h5
  replace h6 := xkeep eM9 (by omega) h6
  replace h7 := xkeep eM9 (by omega) h7
  replace h8 := xkeep eM9 (by omega) h8
  replace hfr : ∀ b, (b ≠ a ∧ (b < z ∨ z + 8 ≤ b)) → M9 b = M b := fun b hb9 => xkeep eM9 (by omega) (hfr b hb9)
  replace ho := xself eM9
  clear eM9
  refine lv_aload_n hx hb dX3_init_69 rfl (lv_at hl 0 rfl) ?_
  refine lv_iconst (v := nI 0) hx hb dX3_init_70 (by decide) ?_
  refine z_put (v := .int (nI 0)) (ty := .int) hx hb hts in_X3_init_X3 tyX3 tyX3_ok nmX3 hown hK hM hS hz (ho) rfl 9 (by decide) (hts (.fieldLink RX3 40 "LimbCurves$Residues" "shift" "I") (by decide +kernel)) (fun _ h9 => h9) rfl (by decide +kernel) rfl rfl (Nat.le_of_ble_eq_true rfl) dX3_init_71 (fun H locs hM hS hz => ?_)
  have hM : xW D vwCl N0 (xset M9 a (xO 2 [.ref z, .ref (z + 1), .ref (z + 2), .ref (z + 3), .ref (z + 4), .ref (z + 5), .ref (z + 6), .ref (z + 7), .int (nI 0), .int (nI 0)])) H := hM
  obtain ⟨M9, eM9⟩ : ∃ q, xset M9 a (xO 2 [.ref z, .ref (z + 1), .ref (z + 2), .ref (z + 3), .ref (z + 4), .ref (z + 5), .ref (z + 6), .ref (z + 7), .int (nI 0), .int (nI 0)]) = q := ⟨_, rfl⟩
  rw [eM9] at hM
  replace h1 := xkeep eM9 (by omega) h1
  replace h2 := xkeep eM9 (by omega) h2
  replace h3 := xkeep eM9 (by omega) h3
  replace h4 := xkeep eM9 (by omega) h4
  replace h5 := xkeep eM9 (by omega) h5
  replace h6 := xkeep eM9 (by omega) h6
  replace h7 := xkeep eM9 (by omega) h7
  replace h8 := xkeep eM9 (by omega) h8
  replace hfr : ∀ b, (b ≠ a ∧ (b < z ∨ z + 8 ≤ b)) → M9 b = M b := fun b hb9 => xkeep eM9 (by omega) (hfr b hb9)
  replace ho := xself eM9
  clear eM9
  refine W.widen (k := 8) (n := 90) (by omega) (by omega) ?_
  exact r_vretz C hM hS hz (⟨ho, h1, h2, h3, h4, h5, h6, h7, h8, hfr⟩) dX3_init_74
set_option maxRecDepth 100000 in
theorem c_initRun (l : Launch) (D : va_G) (kA : Nat → ClassId) (N0 z a L fd ar : Nat) (M : xM) (ho : M a = some (xO 3 [.null, .null, .null, .null, .null, .int 0, .null, .null, .null, .null, .null, .null])) (haz : a < z) (hL : L ≤ 9) : cN l yX4_init wsX4_init 1 9 81 [.ref a, .int (nI L), .ref fd, .ref ar] D kA N0 z (z + 9) M (fun M1 => M1 a = some (xO 3 [.ref fd, .ref ar, .ref z, .ref (z + 1), .ref (z + 2), .int (nI 1), .ref (z + 3), .ref (z + 4), .ref (z + 5), .ref (z + 6), .ref (z + 7), .ref (z + 8)]) ∧ (∀ j, j < 9 → M1 (z + j) = some (xI (kA 0) L (fun _ => 0))) ∧ ∀ b, (b ≠ a ∧ (b < z ∨ z + 9 ≤ b)) → M1 b = M b) := by
  refine r_metz (cc := cX4_init) (maxL := 4) (ret := none) (by decide) rfl (Nat.le_of_ble_eq_true rfl) ?_
  intro p e s m below meth c ls C hM hz hnm hl
  obtain ⟨hx, hb, hml, hown, hts, hr, hlocks, hK, hN⟩ := _root_.id C
  have hS : va_S (xA N0) s.heap s.heap [] := va_S.rf
  have hl : lv_has ls 4 [(0, .ref a), (1, .int (nI L)), (2, .ref fd), (3, .ref ar)] := hl
  have hfr : ∀ b, (b ≠ a ∧ (b < z ∨ z + 9 ≤ b)) → M b = M b := fun _ _ => rfl
  refine lv_aload_n hx hb dX4_init_0 rfl (lv_at hl 0 rfl) ?_
  refine r_objI C (hts (.methodLink RX4 3 objectInit) (by decide +kernel)) (hts (.instanceMethod objectInit) (by decide +kernel)) (hts (.code objectInit ⟨#[0xb1]⟩ 1 none) (by decide +kernel)) hl.1 (Nat.le_of_ble_eq_true rfl) (Nat.le_of_ble_eq_true rfl) dX4_init_1 ?_
  refine lv_aload_n hx hb dX4_init_4 rfl (lv_at hl 0 rfl) ?_
  refine lv_aload_n hx hb dX4_init_5 rfl (lv_at hl 2 rfl) ?_
  refine z_putF (v := .ref fd) (ty := (.object "LimbCurves$Residues")) hx hb hts in_X4_init_X4 tyX4 tyX4_ok nmX4 hown hK hM hS hz (ho) rfl 0 (by decide) (hts (.fieldLink RX4 9 "LimbCurves$RunningSum" "field" "LLimbCurves$Residues;") (by decide +kernel)) (fun _ h9 => h9) rfl hnm rfl (by decide +kernel) rfl rfl (Nat.le_of_ble_eq_true rfl) dX4_init_6 (fun H locs hM hS hz => ?_)
  have hM : xW D vwCl N0 (xset M a (xO 3 [.ref fd, .null, .null, .null, .null, .int 0, .null, .null, .null, .null, .null, .null])) H := hM
  obtain ⟨M9, eM9⟩ : ∃ q, xset M a (xO 3 [.ref fd, .null, .null, .null, .null, .int 0, .null, .null, .null, .null, .null, .null]) = q := ⟨_, rfl⟩
  rw [eM9] at hM
  replace hfr : ∀ b, (b ≠ a ∧ (b < z ∨ z + 9 ≤ b)) → M9 b = M b := fun b hb9 => xkeep eM9 (by omega) (hfr b hb9)
  replace ho := xself eM9
  clear eM9
  refine lv_aload_n hx hb dX4_init_9 rfl (lv_at hl 0 rfl) ?_
  refine lv_aload_n hx hb dX4_init_10 rfl (lv_at hl 3 rfl) ?_
  refine z_putF (v := .ref ar) (ty := (.array .int)) hx hb hts in_X4_init_X4 tyX4 tyX4_ok nmX4 hown hK hM hS hz (ho) rfl 1 (by decide) (hts (.fieldLink RX4 15 "LimbCurves$RunningSum" "a" "[I") (by decide +kernel)) (fun _ h9 => h9) rfl hnm rfl (by decide +kernel) rfl rfl (Nat.le_of_ble_eq_true rfl) dX4_init_11 (fun H locs hM hS hz => ?_)
  have hM : xW D vwCl N0 (xset M9 a (xO 3 [.ref fd, .ref ar, .null, .null, .null, .int 0, .null, .null, .null, .null, .null, .null])) H := hM
  obtain ⟨M9, eM9⟩ : ∃ q, xset M9 a (xO 3 [.ref fd, .ref ar, .null, .null, .null, .int 0, .null, .null, .null, .null, .null, .null]) = q := ⟨_, rfl⟩
  rw [eM9] at hM
  replace hfr : ∀ b, (b ≠ a ∧ (b < z ∨ z + 9 ≤ b)) → M9 b = M b := fun b hb9 => xkeep eM9 (by omega) (hfr b hb9)
  replace ho := xself eM9
  clear eM9
  refine lv_aload_n hx hb dX4_init_14 rfl (lv_at hl 0 rfl) ?_
  refine lv_iload_n hx hb dX4_init_15 rfl (lv_at hl 1 rfl) ?_
  refine r_newi C hM hS hz rfl (hts (.arrayClass .int) (by decide +kernel)) (by omega) (by show _ ≤ 9; omega) (by show _ ≤ 81; omega) dX4_init_16 (fun H hM hS hz => ?_)
  obtain ⟨M9, eM9⟩ : ∃ q, xset M9 z (xI (kA 0) L (fun _ => 0)) = q := ⟨_, rfl⟩
  rw [eM9] at hM
  replace ho := xkeep eM9 (by omega) ho
  replace hfr : ∀ b, (b ≠ a ∧ (b < z ∨ z + 9 ≤ b)) → M9 b = M b := fun b hb9 => xkeep eM9 (by omega) (hfr b hb9)
  have h1 := xself eM9
  clear eM9
  replace hz : zsz H (z + 1) := hz
  refine z_putF (v := .ref z) (ty := (.array .int)) hx hb hts in_X4_init_X4 tyX4 tyX4_ok nmX4 hown hK hM hS hz (ho) rfl 2 (by decide) (hts (.fieldLink RX4 19 "LimbCurves$RunningSum" "x" "[I") (by decide +kernel)) (fun _ h9 => h9) rfl hnm rfl (by decide +kernel) rfl rfl (Nat.le_of_ble_eq_true rfl) dX4_init_18 (fun H locs hM hS hz => ?_)
  have hM : xW D vwCl N0 (xset M9 a (xO 3 [.ref fd, .ref ar, .ref z, .null, .null, .int 0, .null, .null, .null, .null, .null, .null])) H := hM
  obtain ⟨M9, eM9⟩ : ∃ q, xset M9 a (xO 3 [.ref fd, .ref ar, .ref z, .null, .null, .int 0, .null, .null, .null, .null, .null, .null]) = q := ⟨_, rfl⟩
  rw [eM9] at hM
  replace h1 := xkeep eM9 (by omega) h1
  replace hfr : ∀ b, (b ≠ a ∧ (b < z ∨ z + 9 ≤ b)) → M9 b = M b := fun b hb9 => xkeep eM9 (by omega) (hfr b hb9)
  replace ho := xself eM9
  clear eM9
  refine lv_aload_n hx hb dX4_init_21 rfl (lv_at hl 0 rfl) ?_
  refine lv_iload_n hx hb dX4_init_22 rfl (lv_at hl 1 rfl) ?_
  refine r_newi C hM hS hz rfl (hts (.arrayClass .int) (by decide +kernel)) (by omega) (by show _ ≤ 9; omega) (by show _ ≤ 81; omega) dX4_init_23 (fun H hM hS hz => ?_)
  obtain ⟨M9, eM9⟩ : ∃ q, xset M9 (z + 1) (xI (kA 0) L (fun _ => 0)) = q := ⟨_, rfl⟩
  rw [eM9] at hM
  replace ho := xkeep eM9 (by omega) ho
  replace h1 := xkeep eM9 (by omega) h1
  replace hfr : ∀ b, (b ≠ a ∧ (b < z ∨ z + 9 ≤ b)) → M9 b = M b := fun b hb9 => xkeep eM9 (by omega) (hfr b hb9)
  have h2 := xself eM9
  clear eM9
  replace hz : zsz H (z + 2) := hz
  refine z_putF (v := .ref (z + 1)) (ty := (.array .int)) hx hb hts in_X4_init_X4 tyX4 tyX4_ok nmX4 hown hK hM hS hz (ho) rfl 3 (by decide) (hts (.fieldLink RX4 22 "LimbCurves$RunningSum" "y" "[I") (by decide +kernel)) (fun _ h9 => h9) rfl hnm rfl (by decide +kernel) rfl rfl (Nat.le_of_ble_eq_true rfl) dX4_init_25 (fun H locs hM hS hz => ?_)
  have hM : xW D vwCl N0 (xset M9 a (xO 3 [.ref fd, .ref ar, .ref z, .ref (z + 1), .null, .int 0, .null, .null, .null, .null, .null, .null])) H := hM
  obtain ⟨M9, eM9⟩ : ∃ q, xset M9 a (xO 3 [.ref fd, .ref ar, .ref z, .ref (z + 1), .null, .int 0, .null, .null, .null, .null, .null, .null]) = q := ⟨_, rfl⟩
  rw [eM9] at hM
  replace h1 := xkeep eM9 (by omega) h1
  replace h2 := xkeep eM9 (by omega) h2
  replace hfr : ∀ b, (b ≠ a ∧ (b < z ∨ z + 9 ≤ b)) → M9 b = M b := fun b hb9 => xkeep eM9 (by omega) (hfr b hb9)
  replace ho := xself eM9
  clear eM9
  refine lv_aload_n hx hb dX4_init_28 rfl (lv_at hl 0 rfl) ?_
  refine lv_iload_n hx hb dX4_init_29 rfl (lv_at hl 1 rfl) ?_
  refine r_newi C hM hS hz rfl (hts (.arrayClass .int) (by decide +kernel)) (by omega) (by show _ ≤ 9; omega) (by show _ ≤ 81; omega) dX4_init_30 (fun H hM hS hz => ?_)
  obtain ⟨M9, eM9⟩ : ∃ q, xset M9 (z + 2) (xI (kA 0) L (fun _ => 0)) = q := ⟨_, rfl⟩
  rw [eM9] at hM
  replace ho := xkeep eM9 (by omega) ho
  replace h1 := xkeep eM9 (by omega) h1
  replace h2 := xkeep eM9 (by omega) h2
  replace hfr : ∀ b, (b ≠ a ∧ (b < z ∨ z + 9 ≤ b)) → M9 b = M b := fun b hb9 => xkeep eM9 (by omega) (hfr b hb9)
  have h3 := xself eM9
  clear eM9
  replace hz : zsz H (z + 3) := hz
  refine z_putF (v := .ref (z + 2)) (ty := (.array .int)) hx hb hts in_X4_init_X4 tyX4 tyX4_ok nmX4 hown hK hM hS hz (ho) rfl 4 (by decide) (hts (.fieldLink RX4 25 "LimbCurves$RunningSum" "z" "[I") (by decide +kernel)) (fun _ h9 => h9) rfl hnm rfl (by decide +kernel) rfl rfl (Nat.le_of_ble_eq_true rfl) dX4_init_32 (fun H locs hM hS hz => ?_)
  have hM : xW D vwCl N0 (xset M9 a (xO 3 [.ref fd, .ref ar, .ref z, .ref (z + 1), .ref (z + 2), .int 0, .null, .null, .null, .null, .null, .null])) H := hM
  obtain ⟨M9, eM9⟩ : ∃ q, xset M9 a (xO 3 [.ref fd, .ref ar, .ref z, .ref (z + 1), .ref (z + 2), .int 0, .null, .null, .null, .null, .null, .null]) = q := ⟨_, rfl⟩
  rw [eM9] at hM
  replace h1 := xkeep eM9 (by omega) h1
  replace h2 := xkeep eM9 (by omega) h2
  replace h3 := xkeep eM9 (by omega) h3
  replace hfr : ∀ b, (b ≠ a ∧ (b < z ∨ z + 9 ≤ b)) → M9 b = M b := fun b hb9 => xkeep eM9 (by omega) (hfr b hb9)
  replace ho := xself eM9
  clear eM9
  refine lv_aload_n hx hb dX4_init_35 rfl (lv_at hl 0 rfl) ?_
  refine lv_iconst (v := nI 1) hx hb dX4_init_36 (by decide) ?_
  refine z_put (v := .int (nI 1)) (ty := .boolean) hx hb hts in_X4_init_X4 tyX4 tyX4_ok nmX4 hown hK hM hS hz (ho) rfl 5 (by decide) (hts (.fieldLink RX4 28 "LimbCurves$RunningSum" "identity" "Z") (by decide +kernel)) (fun _ h9 => h9) rfl (by decide +kernel) rfl rfl (Nat.le_of_ble_eq_true rfl) dX4_init_37 (fun H locs hM hS hz => ?_)
  have hM : xW D vwCl N0 (xset M9 a (xO 3 [.ref fd, .ref ar, .ref z, .ref (z + 1), .ref (z + 2), .int (nI 1), .null, .null, .null, .null, .null, .null])) H := hM
  obtain ⟨M9, eM9⟩ : ∃ q, xset M9 a (xO 3 [.ref fd, .ref ar, .ref z, .ref (z + 1), .ref (z + 2), .int (nI 1), .null, .null, .null, .null, .null, .null]) = q := ⟨_, rfl⟩
  rw [eM9] at hM
  replace h1 := xkeep eM9 (by omega) h1
  replace h2 := xkeep eM9 (by omega) h2
  replace h3 := xkeep eM9 (by omega) h3
  replace hfr : ∀ b, (b ≠ a ∧ (b < z ∨ z + 9 ≤ b)) → M9 b = M b := fun b hb9 => xkeep eM9 (by omega) (hfr b hb9)
  replace ho := xself eM9
  clear eM9
  refine lv_aload_n hx hb dX4_init_40 rfl (lv_at hl 0 rfl) ?_
  refine lv_iload_n hx hb dX4_init_41 rfl (lv_at hl 1 rfl) ?_
  refine r_newi C hM hS hz rfl (hts (.arrayClass .int) (by decide +kernel)) (by omega) (by show _ ≤ 9; omega) (by show _ ≤ 81; omega) dX4_init_42 (fun H hM hS hz => ?_)
  obtain ⟨M9, eM9⟩ : ∃ q, xset M9 (z + 3) (xI (kA 0) L (fun _ => 0)) = q := ⟨_, rfl⟩
  rw [eM9] at hM
  replace ho := xkeep eM9 (by omega) ho
  replace h1 := xkeep eM9 (by omega) h1
  replace h2 := xkeep eM9 (by omega) h2
  replace h3 := xkeep eM9 (by omega) h3
  replace hfr : ∀ b, (b ≠ a ∧ (b < z ∨ z + 9 ≤ b)) → M9 b = M b := fun b hb9 => xkeep eM9 (by omega) (hfr b hb9)
  have h4 := xself eM9
  clear eM9
  replace hz : zsz H (z + 4) := hz
  refine z_putF (v := .ref (z + 3)) (ty := (.array .int)) hx hb hts in_X4_init_X4 tyX4 tyX4_ok nmX4 hown hK hM hS hz (ho) rfl 6 (by decide) (hts (.fieldLink RX4 32 "LimbCurves$RunningSum" "otherX" "[I") (by decide +kernel)) (fun _ h9 => h9) rfl hnm rfl (by decide +kernel) rfl rfl (Nat.le_of_ble_eq_true rfl) dX4_init_44 (fun H locs hM hS hz => ?_)
  have hM : xW D vwCl N0 (xset M9 a (xO 3 [.ref fd, .ref ar, .ref z, .ref (z + 1), .ref (z + 2), .int (nI 1), .ref (z + 3), .null, .null, .null, .null, .null])) H := hM
  obtain ⟨M9, eM9⟩ : ∃ q, xset M9 a (xO 3 [.ref fd, .ref ar, .ref z, .ref (z + 1), .ref (z + 2), .int (nI 1), .ref (z + 3), .null, .null, .null, .null, .null]) = q := ⟨_, rfl⟩
  rw [eM9] at hM
  replace h1 := xkeep eM9 (by omega) h1
  replace h2 := xkeep eM9 (by omega) h2
  replace h3 := xkeep eM9 (by omega) h3
  replace h4 := xkeep eM9 (by omega) h4
  replace hfr : ∀ b, (b ≠ a ∧ (b < z ∨ z + 9 ≤ b)) → M9 b = M b := fun b hb9 => xkeep eM9 (by omega) (hfr b hb9)
  replace ho := xself eM9
  clear eM9
  refine lv_aload_n hx hb dX4_init_47 rfl (lv_at hl 0 rfl) ?_
  refine lv_iload_n hx hb dX4_init_48 rfl (lv_at hl 1 rfl) ?_
  refine r_newi C hM hS hz rfl (hts (.arrayClass .int) (by decide +kernel)) (by omega) (by show _ ≤ 9; omega) (by show _ ≤ 81; omega) dX4_init_49 (fun H hM hS hz => ?_)
  obtain ⟨M9, eM9⟩ : ∃ q, xset M9 (z + 4) (xI (kA 0) L (fun _ => 0)) = q := ⟨_, rfl⟩
  rw [eM9] at hM
  replace ho := xkeep eM9 (by omega) ho
  replace h1 := xkeep eM9 (by omega) h1
  replace h2 := xkeep eM9 (by omega) h2
  replace h3 := xkeep eM9 (by omega) h3
  replace h4 := xkeep eM9 (by omega) h4
  replace hfr : ∀ b, (b ≠ a ∧ (b < z ∨ z + 9 ≤ b)) → M9 b = M b := fun b hb9 => xkeep eM9 (by omega) (hfr b hb9)
  have h5 := xself eM9
  clear eM9
  replace hz : zsz H (z + 5) := hz
  refine z_putF (v := .ref (z + 4)) (ty := (.array .int)) hx hb hts in_X4_init_X4 tyX4 tyX4_ok nmX4 hown hK hM hS hz (ho) rfl 7 (by decide) (hts (.fieldLink RX4 35 "LimbCurves$RunningSum" "otherY" "[I") (by decide +kernel)) (fun _ h9 => h9) rfl hnm rfl (by decide +kernel) rfl rfl (Nat.le_of_ble_eq_true rfl) dX4_init_51 (fun H locs hM hS hz => ?_)
  have hM : xW D vwCl N0 (xset M9 a (xO 3 [.ref fd, .ref ar, .ref z, .ref (z + 1), .ref (z + 2), .int (nI 1), .ref (z + 3), .ref (z + 4), .null, .null, .null, .null])) H := hM
  obtain ⟨M9, eM9⟩ : ∃ q, xset M9 a (xO 3 [.ref fd, .ref ar, .ref z, .ref (z + 1), .ref (z + 2), .int (nI 1), .ref (z + 3), .ref (z + 4), .null, .null, .null, .null]) = q := ⟨_, rfl⟩
  rw [eM9] at hM
  replace h1 := xkeep eM9 (by omega) h1
  replace h2 := xkeep eM9 (by omega) h2
  replace h3 := xkeep eM9 (by omega) h3
  replace h4 := xkeep eM9 (by omega) h4
  replace h5 := xkeep eM9 (by omega) h5
  replace hfr : ∀ b, (b ≠ a ∧ (b < z ∨ z + 9 ≤ b)) → M9 b = M b := fun b hb9 => xkeep eM9 (by omega) (hfr b hb9)
  replace ho := xself eM9
  clear eM9
  refine lv_aload_n hx hb dX4_init_54 rfl (lv_at hl 0 rfl) ?_
  refine lv_iload_n hx hb dX4_init_55 rfl (lv_at hl 1 rfl) ?_
  refine r_newi C hM hS hz rfl (hts (.arrayClass .int) (by decide +kernel)) (by omega) (by show _ ≤ 9; omega) (by show _ ≤ 81; omega) dX4_init_56 (fun H hM hS hz => ?_)
  obtain ⟨M9, eM9⟩ : ∃ q, xset M9 (z + 5) (xI (kA 0) L (fun _ => 0)) = q := ⟨_, rfl⟩
  rw [eM9] at hM
  replace ho := xkeep eM9 (by omega) ho
  replace h1 := xkeep eM9 (by omega) h1
  replace h2 := xkeep eM9 (by omega) h2
  replace h3 := xkeep eM9 (by omega) h3
  replace h4 := xkeep eM9 (by omega) h4
  replace h5 := xkeep eM9 (by omega) h5
  replace hfr : ∀ b, (b ≠ a ∧ (b < z ∨ z + 9 ≤ b)) → M9 b = M b := fun b hb9 => xkeep eM9 (by omega) (hfr b hb9)
  have h6 := xself eM9
  clear eM9
  replace hz : zsz H (z + 6) := hz
  refine z_putF (v := .ref (z + 5)) (ty := (.array .int)) hx hb hts in_X4_init_X4 tyX4 tyX4_ok nmX4 hown hK hM hS hz (ho) rfl 8 (by decide) (hts (.fieldLink RX4 38 "LimbCurves$RunningSum" "run" "[I") (by decide +kernel)) (fun _ h9 => h9) rfl hnm rfl (by decide +kernel) rfl rfl (Nat.le_of_ble_eq_true rfl) dX4_init_58 (fun H locs hM hS hz => ?_)
  have hM : xW D vwCl N0 (xset M9 a (xO 3 [.ref fd, .ref ar, .ref z, .ref (z + 1), .ref (z + 2), .int (nI 1), .ref (z + 3), .ref (z + 4), .ref (z + 5), .null, .null, .null])) H := hM
  obtain ⟨M9, eM9⟩ : ∃ q, xset M9 a (xO 3 [.ref fd, .ref ar, .ref z, .ref (z + 1), .ref (z + 2), .int (nI 1), .ref (z + 3), .ref (z + 4), .ref (z + 5), .null, .null, .null]) = q := ⟨_, rfl⟩
  rw [eM9] at hM
  replace h1 := xkeep eM9 (by omega) h1
  replace h2 := xkeep eM9 (by omega) h2
  replace h3 := xkeep eM9 (by omega) h3
  replace h4 := xkeep eM9 (by omega) h4
  replace h5 := xkeep eM9 (by omega) h5
  replace h6 := xkeep eM9 (by omega) h6
  replace hfr : ∀ b, (b ≠ a ∧ (b < z ∨ z + 9 ≤ b)) → M9 b = M b := fun b hb9 => xkeep eM9 (by omega) (hfr b hb9)
  replace ho := xself eM9
  clear eM9
  refine lv_aload_n hx hb dX4_init_61 rfl (lv_at hl 0 rfl) ?_
  refine lv_iload_n hx hb dX4_init_62 rfl (lv_at hl 1 rfl) ?_
  refine r_newi C hM hS hz rfl (hts (.arrayClass .int) (by decide +kernel)) (by omega) (by show _ ≤ 9; omega) (by show _ ≤ 81; omega) dX4_init_63 (fun H hM hS hz => ?_)
  obtain ⟨M9, eM9⟩ : ∃ q, xset M9 (z + 6) (xI (kA 0) L (fun _ => 0)) = q := ⟨_, rfl⟩
  rw [eM9] at hM
  replace ho := xkeep eM9 (by omega) ho
  replace h1 := xkeep eM9 (by omega) h1
  replace h2 := xkeep eM9 (by omega) h2
  replace h3 := xkeep eM9 (by omega) h3
  replace h4 := xkeep eM9 (by omega) h4
  replace h5 := xkeep eM9 (by omega) h5
  replace h6 := xkeep eM9 (by omega) h6
  replace hfr : ∀ b, (b ≠ a ∧ (b < z ∨ z + 9 ≤ b)) → M9 b = M b := fun b hb9 => xkeep eM9 (by omega) (hfr b hb9)
  have h7 := xself eM9
  clear eM9
  replace hz : zsz H (z + 7) := hz
  refine z_putF (v := .ref (z + 6)) (ty := (.array .int)) hx hb hts in_X4_init_X4 tyX4 tyX4_ok nmX4 hown hK hM hS hz (ho) rfl 9 (by decide) (hts (.fieldLink RX4 41 "LimbCurves$RunningSum" "rise" "[I") (by decide +kernel)) (fun _ h9 => h9) rfl hnm rfl (by decide +kernel) rfl rfl (Nat.le_of_ble_eq_true rfl) dX4_init_65 (fun H locs hM hS hz => ?_)
  have hM : xW D vwCl N0 (xset M9 a (xO 3 [.ref fd, .ref ar, .ref z, .ref (z + 1), .ref (z + 2), .int (nI 1), .ref (z + 3), .ref (z + 4), .ref (z + 5), .ref (z + 6), .null, .null])) H := hM
  obtain ⟨M9, eM9⟩ : ∃ q, xset M9 a (xO 3 [.ref fd, .ref ar, .ref z, .ref (z + 1), .ref (z + 2), .int (nI 1), .ref (z + 3), .ref (z + 4), .ref (z + 5), .ref (z + 6), .null, .null]) = q := ⟨_, rfl⟩
  rw [eM9] at hM
  replace h1 := xkeep eM9 (by omega) h1
  replace h2 := xkeep eM9 (by omega) h2
  replace h3 := xkeep eM9 (by omega) h3
  replace h4 := xkeep eM9 (by omega) h4
  replace h5 := xkeep eM9 (by omega) h5
  replace h6 := xkeep eM9 (by omega) h6
  replace h7 := xkeep eM9 (by omega) h7
  replace hfr : ∀ b, (b ≠ a ∧ (b < z ∨ z + 9 ≤ b)) → M9 b = M b := fun b hb9 => xkeep eM9 (by omega) (hfr b hb9)
  replace ho := xself eM9
  clear eM9
  refine lv_aload_n hx hb dX4_init_68 rfl (lv_at hl 0 rfl) ?_
  refine lv_iload_n hx hb dX4_init_69 rfl (lv_at hl 1 rfl) ?_
  refine r_newi C hM hS hz rfl (hts (.arrayClass .int) (by decide +kernel)) (by omega) (by show _ ≤ 9; omega) (by show _ ≤ 81; omega) dX4_init_70 (fun H hM hS hz => ?_)
  obtain ⟨M9, eM9⟩ : ∃ q, xset M9 (z + 7) (xI (kA 0) L (fun _ => 0)) = q := ⟨_, rfl⟩
  rw [eM9] at hM
  replace ho := xkeep eM9 (by omega) ho
  replace h1 := xkeep eM9 (by omega) h1
  replace h2 := xkeep eM9 (by omega) h2
  replace h3 := xkeep eM9 (by omega) h3
  replace h4 := xkeep eM9 (by omega) h4
  replace h5 := xkeep eM9 (by omega) h5
  replace h6 := xkeep eM9 (by omega) h6
  replace h7 := xkeep eM9 (by omega) h7
  replace hfr : ∀ b, (b ≠ a ∧ (b < z ∨ z + 9 ≤ b)) → M9 b = M b := fun b hb9 => xkeep eM9 (by omega) (hfr b hb9)
  have h8 := xself eM9
  clear eM9
  replace hz : zsz H (z + 8) := hz
  refine z_putF (v := .ref (z + 7)) (ty := (.array .int)) hx hb hts in_X4_init_X4 tyX4 tyX4_ok nmX4 hown hK hM hS hz (ho) rfl 10 (by decide) (hts (.fieldLink RX4 44 "LimbCurves$RunningSum" "s" "[I") (by decide +kernel)) (fun _ h9 => h9) rfl hnm rfl (by decide +kernel) rfl rfl (Nat.le_of_ble_eq_true rfl) dX4_init_72 (fun H locs hM hS hz => ?_)
  have hM : xW D vwCl N0 (xset M9 a (xO 3 [.ref fd, .ref ar, .ref z, .ref (z + 1), .ref (z + 2), .int (nI 1), .ref (z + 3), .ref (z + 4), .ref (z + 5), .ref (z + 6), .ref (z + 7), .null])) H := hM
  obtain ⟨M9, eM9⟩ : ∃ q, xset M9 a (xO 3 [.ref fd, .ref ar, .ref z, .ref (z + 1), .ref (z + 2), .int (nI 1), .ref (z + 3), .ref (z + 4), .ref (z + 5), .ref (z + 6), .ref (z + 7), .null]) = q := ⟨_, rfl⟩
  rw [eM9] at hM
  replace h1 := xkeep eM9 (by omega) h1
  replace h2 := xkeep eM9 (by omega) h2
  replace h3 := xkeep eM9 (by omega) h3
  replace h4 := xkeep eM9 (by omega) h4
  replace h5 := xkeep eM9 (by omega) h5
  replace h6 := xkeep eM9 (by omega) h6
  replace h7 := xkeep eM9 (by omega) h7
  replace h8 := xkeep eM9 (by omega) h8
  replace hfr : ∀ b, (b ≠ a ∧ (b < z ∨ z + 9 ≤ b)) → M9 b = M b := fun b hb9 => xkeep eM9 (by omega) (hfr b hb9)
  replace ho := xself eM9
  clear eM9
  refine lv_aload_n hx hb dX4_init_75 rfl (lv_at hl 0 rfl) ?_
  refine lv_iload_n hx hb dX4_init_76 rfl (lv_at hl 1 rfl) ?_
  refine r_newi C hM hS hz rfl (hts (.arrayClass .int) (by decide +kernel)) (by omega) (by show _ ≤ 9; omega) (by show _ ≤ 81; omega) dX4_init_77 (fun H hM hS hz => ?_)
  obtain ⟨M9, eM9⟩ : ∃ q, xset M9 (z + 8) (xI (kA 0) L (fun _ => 0)) = q := ⟨_, rfl⟩
  rw [eM9] at hM
  replace ho := xkeep eM9 (by omega) ho
  replace h1 := xkeep eM9 (by omega) h1
  replace h2 := xkeep eM9 (by omega) h2
  replace h3 := xkeep eM9 (by omega) h3
  replace h4 := xkeep eM9 (by omega) h4
  replace h5 := xkeep eM9 (by omega) h5
  replace h6 := xkeep eM9 (by omega) h6
  replace h7 := xkeep eM9 (by omega) h7
  replace h8 := xkeep eM9 (by omega) h8
  replace hfr : ∀ b, (b ≠ a ∧ (b < z ∨ z + 9 ≤ b)) → M9 b = M b := fun b hb9 => xkeep eM9 (by omega) (hfr b hb9)
  have h9 := xself eM9
  clear eM9
  replace hz : zsz H (z + 9) := hz
  refine z_putF (v := .ref (z + 8)) (ty := (.array .int)) hx hb hts in_X4_init_X4 tyX4 tyX4_ok nmX4 hown hK hM hS hz (ho) rfl 11 (by decide) (hts (.fieldLink RX4 47 "LimbCurves$RunningSum" "t" "[I") (by decide +kernel)) (fun _ h9 => h9) rfl hnm rfl (by decide +kernel) rfl rfl (Nat.le_of_ble_eq_true rfl) dX4_init_79 (fun H locs hM hS hz => ?_)
  have hM : xW D vwCl N0 (xset M9 a (xO 3 [.ref fd, .ref ar, .ref z, .ref (z + 1), .ref (z + 2), .int (nI 1), .ref (z + 3), .ref (z + 4), .ref (z + 5), .ref (z + 6), .ref (z + 7), .ref (z + 8)])) H := hM
  obtain ⟨M9, eM9⟩ : ∃ q, xset M9 a (xO 3 [.ref fd, .ref ar, .ref z, .ref (z + 1), .ref (z + 2), .int (nI 1), .ref (z + 3), .ref (z + 4), .ref (z + 5), .ref (z + 6), .ref (z + 7), .ref (z + 8)]) = q := ⟨_, rfl⟩
  rw [eM9] at hM
  replace h1 := xkeep eM9 (by omega) h1
  replace h2 := xkeep eM9 (by omega) h2
  replace h3 := xkeep eM9 (by omega) h3
  replace h4 := xkeep eM9 (by omega) h4
  replace h5 := xkeep eM9 (by omega) h5
  replace h6 := xkeep eM9 (by omega) h6
  replace h7 := xkeep eM9 (by omega) h7
  replace h8 := xkeep eM9 (by omega) h8
  replace h9 := xkeep eM9 (by omega) h9
  replace hfr : ∀ b, (b ≠ a ∧ (b < z ∨ z + 9 ≤ b)) → M9 b = M b := fun b hb9 => xkeep eM9 (by omega) (hfr b hb9)
  replace ho := xself eM9
  clear eM9
  have hall : ∀ j, j < 9 → M9 (z + j) = some (xI (kA 0) L (fun _ => 0)) := fun j hj => by
    match j, hj with
    | 0, _ => exact h1
    | 1, _ => exact h2
    | 2, _ => exact h3
    | 3, _ => exact h4
    | 4, _ => exact h5
    | 5, _ => exact h6
    | 6, _ => exact h7
    | 7, _ => exact h8
    | 8, _ => exact h9
    | j + 9, h => omega
  refine W.widen (k := 9) (n := 81) (by omega) (by omega) ?_
  exact r_vretz C hM hS hz (⟨ho, hall, hfr⟩) dX4_init_82
set_option maxRecDepth 100000 in
theorem c_initCv (l : Launch) (D : va_G) (kA : Nat → ClassId) (N0 z a L q p0 p1 p2 fd : Nat) (M : xM) (g : Nat → Option Nat) (f0 : Nat → Int32) (ho : M a = some (xO 0 [.null, .null, .null, .null, .null, .null])) (haz : a < z) (hL : L ≤ 9) (hq : M q = some (xQ (kA 3) 4 g)) (hqz : q < z) (hqa : q ≠ a) (g0 : g 0 = some p0) (g1 : g 1 = some p1) (g2 : g 2 = some p2) (hp0 : M p0 = some (xI (kA 0) L f0)) (hpz : p0 < z) (hpa : p0 ≠ a) : cN l yX0_init wsX0_init 1 2 18 [.ref a, .ref q, .ref fd] D kA N0 z (z + 2) M (fun M1 => M1 a = some (xO 0 [.ref p0, .ref p1, .ref p2, .ref fd, .ref z, .ref (z + 1)]) ∧ M1 z = some (xI (kA 0) L (fun _ => 0)) ∧ M1 (z + 1) = some (xI (kA 0) L (fun _ => 0)) ∧ ∀ b, (b ≠ a ∧ (b < z ∨ z + 2 ≤ b)) → M1 b = M b) := by
  refine r_metz (cc := cX0_init) (maxL := 3) (ret := none) (by decide) rfl (Nat.le_of_ble_eq_true rfl) ?_
  intro p e s m below meth c ls C hM hz hnm hl
  obtain ⟨hx, hb, hml, hown, hts, hr, hlocks, hK, hN⟩ := _root_.id C
  have hS : va_S (xA N0) s.heap s.heap [] := va_S.rf
  have hl : lv_has ls 3 [(0, .ref a), (1, .ref q), (2, .ref fd)] := hl
  have hfr : ∀ b, (b ≠ a ∧ (b < z ∨ z + 2 ≤ b)) → M b = M b := fun _ _ => rfl
  refine lv_aload_n hx hb dX0_init_0 rfl (lv_at hl 0 rfl) ?_
  refine r_objI C (hts (.methodLink RX0 3 objectInit) (by decide +kernel)) (hts (.instanceMethod objectInit) (by decide +kernel)) (hts (.code objectInit ⟨#[0xb1]⟩ 1 none) (by decide +kernel)) hl.1 (Nat.le_of_ble_eq_true rfl) (Nat.le_of_ble_eq_true rfl) dX0_init_1 ?_
  refine lv_aload_n hx hb dX0_init_4 rfl (lv_at hl 0 rfl) ?_
  refine lv_aload_n hx hb dX0_init_5 rfl (lv_at hl 1 rfl) ?_
  refine lv_iconst (v := nI 0) hx hb dX0_init_6 (by decide) ?_
  refine r_aald (t0 := 3) C hM (hq) rfl rfl (by omega) (by omega) (g0) dX0_init_7 ?_
  refine z_putF (v := .ref p0) (ty := (.array .int)) hx hb hts in_X0_init_X0 tyX0 tyX0_ok nmX0 hown hK hM hS hz (ho) rfl 0 (by decide) (hts (.fieldLink RX0 9 "LimbCurves$Curve" "p" "[I") (by decide +kernel)) (fun _ h9 => h9) rfl hnm rfl (by decide +kernel) rfl rfl (Nat.le_of_ble_eq_true rfl) dX0_init_8 (fun H locs hM hS hz => ?_)
  have hM : xW D vwCl N0 (xset M a (xO 0 [.ref p0, .null, .null, .null, .null, .null])) H := hM
  obtain ⟨M9, eM9⟩ : ∃ q, xset M a (xO 0 [.ref p0, .null, .null, .null, .null, .null]) = q := ⟨_, rfl⟩
  rw [eM9] at hM
  replace hq := xkeep eM9 (by omega) hq
  replace hp0 := xkeep eM9 (by omega) hp0
  replace hfr : ∀ b, (b ≠ a ∧ (b < z ∨ z + 2 ≤ b)) → M9 b = M b := fun b hb9 => xkeep eM9 (by omega) (hfr b hb9)
  replace ho := xself eM9
  clear eM9
  refine lv_aload_n hx hb dX0_init_11 rfl (lv_at hl 0 rfl) ?_
  refine lv_aload_n hx hb dX0_init_12 rfl (lv_at hl 1 rfl) ?_
  refine lv_iconst (v := nI 1) hx hb dX0_init_13 (by decide) ?_
  refine r_aald (t0 := 3) C hM (hq) rfl rfl (by omega) (by omega) (g1) dX0_init_14 ?_
  refine z_putF (v := .ref p1) (ty := (.array .int)) hx hb hts in_X0_init_X0 tyX0 tyX0_ok nmX0 hown hK hM hS hz (ho) rfl 1 (by decide) (hts (.fieldLink RX0 15 "LimbCurves$Curve" "a" "[I") (by decide +kernel)) (fun _ h9 => h9) rfl hnm rfl (by decide +kernel) rfl rfl (Nat.le_of_ble_eq_true rfl) dX0_init_15 (fun H locs hM hS hz => ?_)
  have hM : xW D vwCl N0 (xset M9 a (xO 0 [.ref p0, .ref p1, .null, .null, .null, .null])) H := hM
  obtain ⟨M9, eM9⟩ : ∃ q, xset M9 a (xO 0 [.ref p0, .ref p1, .null, .null, .null, .null]) = q := ⟨_, rfl⟩
  rw [eM9] at hM
  replace hq := xkeep eM9 (by omega) hq
  replace hp0 := xkeep eM9 (by omega) hp0
  replace hfr : ∀ b, (b ≠ a ∧ (b < z ∨ z + 2 ≤ b)) → M9 b = M b := fun b hb9 => xkeep eM9 (by omega) (hfr b hb9)
  replace ho := xself eM9
  clear eM9
  refine lv_aload_n hx hb dX0_init_18 rfl (lv_at hl 0 rfl) ?_
  refine lv_aload_n hx hb dX0_init_19 rfl (lv_at hl 1 rfl) ?_
  refine lv_iconst (v := nI 2) hx hb dX0_init_20 (by decide) ?_
  refine r_aald (t0 := 3) C hM (hq) rfl rfl (by omega) (by omega) (g2) dX0_init_21 ?_
  refine z_putF (v := .ref p2) (ty := (.array .int)) hx hb hts in_X0_init_X0 tyX0 tyX0_ok nmX0 hown hK hM hS hz (ho) rfl 2 (by decide) (hts (.fieldLink RX0 18 "LimbCurves$Curve" "b" "[I") (by decide +kernel)) (fun _ h9 => h9) rfl hnm rfl (by decide +kernel) rfl rfl (Nat.le_of_ble_eq_true rfl) dX0_init_22 (fun H locs hM hS hz => ?_)
  have hM : xW D vwCl N0 (xset M9 a (xO 0 [.ref p0, .ref p1, .ref p2, .null, .null, .null])) H := hM
  obtain ⟨M9, eM9⟩ : ∃ q, xset M9 a (xO 0 [.ref p0, .ref p1, .ref p2, .null, .null, .null]) = q := ⟨_, rfl⟩
  rw [eM9] at hM
  replace hq := xkeep eM9 (by omega) hq
  replace hp0 := xkeep eM9 (by omega) hp0
  replace hfr : ∀ b, (b ≠ a ∧ (b < z ∨ z + 2 ≤ b)) → M9 b = M b := fun b hb9 => xkeep eM9 (by omega) (hfr b hb9)
  replace ho := xself eM9
  clear eM9
  refine lv_aload_n hx hb dX0_init_25 rfl (lv_at hl 0 rfl) ?_
  refine lv_aload_n hx hb dX0_init_26 rfl (lv_at hl 2 rfl) ?_
  refine z_putF (v := .ref fd) (ty := (.object "LimbCurves$Residues")) hx hb hts in_X0_init_X0 tyX0 tyX0_ok nmX0 hown hK hM hS hz (ho) rfl 3 (by decide) (hts (.fieldLink RX0 21 "LimbCurves$Curve" "field" "LLimbCurves$Residues;") (by decide +kernel)) (fun _ h9 => h9) rfl hnm rfl (by decide +kernel) rfl rfl (Nat.le_of_ble_eq_true rfl) dX0_init_27 (fun H locs hM hS hz => ?_)
  have hM : xW D vwCl N0 (xset M9 a (xO 0 [.ref p0, .ref p1, .ref p2, .ref fd, .null, .null])) H := hM
  obtain ⟨M9, eM9⟩ : ∃ q, xset M9 a (xO 0 [.ref p0, .ref p1, .ref p2, .ref fd, .null, .null]) = q := ⟨_, rfl⟩
  rw [eM9] at hM
  replace hq := xkeep eM9 (by omega) hq
  replace hp0 := xkeep eM9 (by omega) hp0
  replace hfr : ∀ b, (b ≠ a ∧ (b < z ∨ z + 2 ≤ b)) → M9 b = M b := fun b hb9 => xkeep eM9 (by omega) (hfr b hb9)
  replace ho := xself eM9
  clear eM9
  refine lv_aload_n hx hb dX0_init_30 rfl (lv_at hl 0 rfl) ?_
  refine lv_aload_n hx hb dX0_init_31 rfl (lv_at hl 0 rfl) ?_
  refine x_get (v := .ref p0) hx hb hts in_X0_init_X0 hown hK hM (ho) rfl 0 (by decide) (hts (.fieldLink RX0 9 "LimbCurves$Curve" "p" "[I") (by decide +kernel)) (fun _ h9 => h9) rfl dX0_init_32 ?_
  refine r_alen C hM (hp0) rfl dX0_init_35 ?_
  refine r_newi C hM hS hz rfl (hts (.arrayClass .int) (by decide +kernel)) (by omega) (by show _ ≤ 2; omega) (by show _ ≤ 18; omega) dX0_init_36 (fun H hM hS hz => ?_)
  obtain ⟨M9, eM9⟩ : ∃ q, xset M9 z (xI (kA 0) L (fun _ => 0)) = q := ⟨_, rfl⟩
  rw [eM9] at hM
  replace ho := xkeep eM9 (by omega) ho
  replace hq := xkeep eM9 (by omega) hq
  replace hp0 := xkeep eM9 (by omega) hp0
  replace hfr : ∀ b, (b ≠ a ∧ (b < z ∨ z + 2 ≤ b)) → M9 b = M b := fun b hb9 => xkeep eM9 (by omega) (hfr b hb9)
  have h1 := xself eM9
  clear eM9
  replace hz : zsz H (z + 1) := hz
  refine z_putF (v := .ref z) (ty := (.array .int)) hx hb hts in_X0_init_X0 tyX0 tyX0_ok nmX0 hown hK hM hS hz (ho) rfl 4 (by decide) (hts (.fieldLink RX0 25 "LimbCurves$Curve" "left" "[I") (by decide +kernel)) (fun _ h9 => h9) rfl hnm rfl (by decide +kernel) rfl rfl (Nat.le_of_ble_eq_true rfl) dX0_init_38 (fun H locs hM hS hz => ?_)
  have hM : xW D vwCl N0 (xset M9 a (xO 0 [.ref p0, .ref p1, .ref p2, .ref fd, .ref z, .null])) H := hM
  obtain ⟨M9, eM9⟩ : ∃ q, xset M9 a (xO 0 [.ref p0, .ref p1, .ref p2, .ref fd, .ref z, .null]) = q := ⟨_, rfl⟩
  rw [eM9] at hM
  replace hq := xkeep eM9 (by omega) hq
  replace hp0 := xkeep eM9 (by omega) hp0
  replace h1 := xkeep eM9 (by omega) h1
  replace hfr : ∀ b, (b ≠ a ∧ (b < z ∨ z + 2 ≤ b)) → M9 b = M b := fun b hb9 => xkeep eM9 (by omega) (hfr b hb9)
  replace ho := xself eM9
  clear eM9
  refine lv_aload_n hx hb dX0_init_41 rfl (lv_at hl 0 rfl) ?_
  refine lv_aload_n hx hb dX0_init_42 rfl (lv_at hl 0 rfl) ?_
  refine x_get (v := .ref p0) hx hb hts in_X0_init_X0 hown hK hM (ho) rfl 0 (by decide) (hts (.fieldLink RX0 9 "LimbCurves$Curve" "p" "[I") (by decide +kernel)) (fun _ h9 => h9) rfl dX0_init_43 ?_
  refine r_alen C hM (hp0) rfl dX0_init_46 ?_
  refine r_newi C hM hS hz rfl (hts (.arrayClass .int) (by decide +kernel)) (by omega) (by show _ ≤ 2; omega) (by show _ ≤ 18; omega) dX0_init_47 (fun H hM hS hz => ?_)
  obtain ⟨M9, eM9⟩ : ∃ q, xset M9 (z + 1) (xI (kA 0) L (fun _ => 0)) = q := ⟨_, rfl⟩
  rw [eM9] at hM
  replace ho := xkeep eM9 (by omega) ho
  replace hq := xkeep eM9 (by omega) hq
  replace hp0 := xkeep eM9 (by omega) hp0
  replace h1 := xkeep eM9 (by omega) h1
  replace hfr : ∀ b, (b ≠ a ∧ (b < z ∨ z + 2 ≤ b)) → M9 b = M b := fun b hb9 => xkeep eM9 (by omega) (hfr b hb9)
  have h2 := xself eM9
  clear eM9
  replace hz : zsz H (z + 2) := hz
  refine z_putF (v := .ref (z + 1)) (ty := (.array .int)) hx hb hts in_X0_init_X0 tyX0 tyX0_ok nmX0 hown hK hM hS hz (ho) rfl 5 (by decide) (hts (.fieldLink RX0 28 "LimbCurves$Curve" "right" "[I") (by decide +kernel)) (fun _ h9 => h9) rfl hnm rfl (by decide +kernel) rfl rfl (Nat.le_of_ble_eq_true rfl) dX0_init_49 (fun H locs hM hS hz => ?_)
  have hM : xW D vwCl N0 (xset M9 a (xO 0 [.ref p0, .ref p1, .ref p2, .ref fd, .ref z, .ref (z + 1)])) H := hM
  obtain ⟨M9, eM9⟩ : ∃ q, xset M9 a (xO 0 [.ref p0, .ref p1, .ref p2, .ref fd, .ref z, .ref (z + 1)]) = q := ⟨_, rfl⟩
  rw [eM9] at hM
  replace hq := xkeep eM9 (by omega) hq
  replace hp0 := xkeep eM9 (by omega) hp0
  replace h1 := xkeep eM9 (by omega) h1
  replace h2 := xkeep eM9 (by omega) h2
  replace hfr : ∀ b, (b ≠ a ∧ (b < z ∨ z + 2 ≤ b)) → M9 b = M b := fun b hb9 => xkeep eM9 (by omega) (hfr b hb9)
  replace ho := xself eM9
  clear eM9
  refine W.widen (k := 2) (n := 18) (by omega) (by omega) ?_
  exact r_vretz C hM hS hz (⟨ho, h1, h2, hfr⟩) dX0_init_52
end INITS
