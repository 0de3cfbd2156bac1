theorem in_X6_init_X6 : ∀ w ∈ wsX60, w ∈ wsX6_init := by decide +kernel
theorem t_1 : (nI 1).toInt = 1 := by decide
theorem t_9 : (nI 9).toInt = 9 := by decide
theorem newL {x : Int32} : (spNew x).L = if x.toInt < 1 then 1 else if 9 < x.toInt then 9 else ix x := rfl
theorem newL_b {x : Int32} : 1 ≤ (spNew x).L ∧ (spNew x).L ≤ 9 := by
  rw [newL]
  split
  · omega
  · split
    · omega
    · have := ix_int (x := x) (by omega)
      omega
theorem Mk_new {kA : Nat → ClassId} {M : xM} {g : Nat} {x us : Int32} (h0 : M g = some (xO 5 [.int (nI (spNew x).L), .ref (g + 1), .ref (g + 2), .int 0, .int (-1), .int 0, .ref (g + 3), .ref (g + 4), .ref (g + 5), .ref (g + 6), .ref (g + 7), .int us])) (h1 : M (g + 1) = some (xI (kA 0) 360 (fun _ => 0))) (h2 : M (g + 2) = some (xI (kA 1) 20 (fun _ => 0))) (h3 : M (g + 3) = some (xI (kA 0) 300 (fun _ => 0))) (h4 : M (g + 4) = some (xI (kA 1) 5 (fun _ => 0))) (h5 : M (g + 5) = some (xI (kA 0) 24 (fun _ => 0))) (h6 : M (g + 6) = some (xI (kA 0) 12 (fun _ => 0))) (h7 : M (g + 7) = some (xI (kA 0) 24 (fun _ => 0))) : Mk kA M g (spNew x) := by
  refine ⟨⟨us, h0⟩, ⟨_, h1, fun j _ => (by decide : 0 ≤ (0 : Int32).toInt), fun s _ => ⟨Vw_zero (fun j _ => rfl), fun _ _ => Vw_zero (fun j _ => rfl)⟩⟩, ⟨_, h2, fun s _ _ => rfl⟩, ⟨_, h3, fun j _ => (by decide : 0 ≤ (0 : Int32).toInt)⟩, ⟨_, h4⟩, ⟨_, h5⟩, ⟨_, h6⟩, ⟨_, h7⟩⟩
section INITM
variable {p : Program} {l : Launch} {e : Env} {R : Room} {s : State} {m : MethodId} {args : Array Value} {below : List Frame} {meth : Method} {c : Code} {Q : State → Prop} {cells slots : Nat} {ret : Option FieldType} {D : va_G} {kA : Nat → ClassId} {N0 : Nat}
set_option maxRecDepth 100000 in
theorem c_initModel (l : Launch) (D : va_G) (kA : Nat → ClassId) (N0 g : Nat) (x : Int32) (M : xM) (ho : M g = some (xO 5 [.int 0, .null, .null, .int 0, .int 0, .int 0, .null, .null, .null, .null, .null, .int 0])) : cN l yX6_init wsX6_init 1 7 745 [.ref g, .int x] D kA N0 (g + 1) (g + 8) M (fun M1 => Mk kA M1 g (spNew x) ∧ ∀ b, b < g → M1 b = M b) := by
  refine r_metz (cc := cX6_init) (maxL := 2) (ret := none) (by decide) rfl (Nat.le_of_ble_eq_true rfl) ?_
  intro p e s m below meth c ls C hM hz hnm hl
  obtain ⟨hx, hb, hml, hown, hts, hr, hlocks, hK, hN⟩ := _root_.id C
  have hS : va_S (xA N0) s.heap s.heap [] := va_S.rf
  have hl : lv_has ls 2 [(0, .ref g), (1, .int x)] := hl
  have hfr : ∀ b, (b < g) → M b = M b := fun _ _ => rfl
  refine lv_aload_n hx hb dX6_init_0 rfl (lv_at hl 0 rfl) ?_
  refine r_objI C (hts (.methodLink RX6 1 objectInit) (by decide +kernel)) (hts (.instanceMethod objectInit) (by decide +kernel)) (hts (.code objectInit ⟨#[0xb1]⟩ 1 none) (by decide +kernel)) hl.1 (Nat.le_of_ble_eq_true rfl) (Nat.le_of_ble_eq_true rfl) dX6_init_1 ?_
  refine lv_aload_n hx hb dX6_init_4 rfl (lv_at hl 0 rfl) ?_
  refine lv_sipush (v := nI 360) hx hb dX6_init_5 (by decide) ?_
  refine r_newi C hM hS hz rfl (hts (.arrayClass .int) (by decide +kernel)) (by omega) (by show _ ≤ 7; omega) (by show _ ≤ 745; omega) dX6_init_8 (fun H hM hS hz => ?_)
  obtain ⟨M9, eM9⟩ : ∃ q, xset M (g + 1) (xI (kA 0) 360 (fun _ => 0)) = q := ⟨_, rfl⟩
  rw [eM9] at hM
  replace ho := xkeep eM9 (by omega) ho
  replace hfr : ∀ b, (b < g) → M9 b = M b := fun b hb9 => xkeep eM9 (by omega) (hfr b hb9)
  have h1 := xself eM9
  clear eM9
  replace hz : zsz H (g + 2) := hz
  refine z_putF (v := .ref (g + 1)) (ty := (.array .int)) hx hb hts in_X6_init_X6 tyX6 tyX6_ok nmX6 hown hK hM hS hz (ho) rfl 1 (by decide) (hts (.fieldLink RX6 7 "LimbCurvesModel" "slots" "[I") (by decide +kernel)) (fun _ h9 => h9) rfl hnm rfl (by decide +kernel) rfl rfl (Nat.le_of_ble_eq_true rfl) dX6_init_10 (fun H locs hM hS hz => ?_)
  have hM : xW D vwCl N0 (xset M9 g (xO 5 [.int 0, .ref (g + 1), .null, .int 0, .int 0, .int 0, .null, .null, .null, .null, .null, .int 0])) H := hM
  obtain ⟨M9, eM9⟩ : ∃ q, xset M9 g (xO 5 [.int 0, .ref (g + 1), .null, .int 0, .int 0, .int 0, .null, .null, .null, .null, .null, .int 0]) = q := ⟨_, rfl⟩
  rw [eM9] at hM
  replace h1 := xkeep eM9 (by omega) h1
  replace hfr : ∀ b, (b < g) → M9 b = M b := fun b hb9 => xkeep eM9 (by omega) (hfr b hb9)
  replace ho := xself eM9
  clear eM9
  refine lv_aload_n hx hb dX6_init_13 rfl (lv_at hl 0 rfl) ?_
  refine lv_bipush (v := nI 20) hx hb dX6_init_14 (by decide) ?_
  refine r_newz C hM hS hz rfl (hts (.arrayClass .boolean) (by decide +kernel)) (by omega) (by show _ ≤ 7; omega) (by show _ ≤ 745; omega) dX6_init_16 (fun H hM hS hz => ?_)
  obtain ⟨M9, eM9⟩ : ∃ q, xset M9 (g + 2) (xI (kA 1) 20 (fun _ => 0)) = q := ⟨_, rfl⟩
  rw [eM9] at hM
  replace ho := xkeep eM9 (by omega) ho
  replace h1 := xkeep eM9 (by omega) h1
  replace hfr : ∀ b, (b < g) → M9 b = M b := fun b hb9 => xkeep eM9 (by omega) (hfr b hb9)
  have h2 := xself eM9
  clear eM9
  replace hz : zsz H (g + 3) := hz
  refine z_putF (v := .ref (g + 2)) (ty := (.array .boolean)) hx hb hts in_X6_init_X6 tyX6 tyX6_ok nmX6 hown hK hM hS hz (ho) rfl 2 (by decide) (hts (.fieldLink RX6 13 "LimbCurvesModel" "isPair" "[Z") (by decide +kernel)) (fun _ h9 => h9) rfl hnm rfl (by decide +kernel) rfl rfl (Nat.le_of_ble_eq_true rfl) dX6_init_18 (fun H locs hM hS hz => ?_)
  have hM : xW D vwCl N0 (xset M9 g (xO 5 [.int 0, .ref (g + 1), .ref (g + 2), .int 0, .int 0, .int 0, .null, .null, .null, .null, .null, .int 0])) H := hM
  obtain ⟨M9, eM9⟩ : ∃ q, xset M9 g (xO 5 [.int 0, .ref (g + 1), .ref (g + 2), .int 0, .int 0, .int 0, .null, .null, .null, .null, .null, .int 0]) = q := ⟨_, rfl⟩
  rw [eM9] at hM
  replace h1 := xkeep eM9 (by omega) h1
  replace h2 := xkeep eM9 (by omega) h2
  replace hfr : ∀ b, (b < g) → M9 b = M b := fun b hb9 => xkeep eM9 (by omega) (hfr b hb9)
  replace ho := xself eM9
  clear eM9
  refine lv_aload_n hx hb dX6_init_21 rfl (lv_at hl 0 rfl) ?_
  refine lv_iconst (v := (-1)) hx hb dX6_init_22 (by decide) ?_
  refine z_put (v := .int (-1)) (ty := .int) hx hb hts in_X6_init_X6 tyX6 tyX6_ok nmX6 hown hK hM hS hz (ho) rfl 4 (by decide) (hts (.fieldLink RX6 17 "LimbCurvesModel" "fed" "I") (by decide +kernel)) (fun _ h9 => h9) rfl (by decide +kernel) rfl rfl (Nat.le_of_ble_eq_true rfl) dX6_init_23 (fun H locs hM hS hz => ?_)
  have hM : xW D vwCl N0 (xset M9 g (xO 5 [.int 0, .ref (g + 1), .ref (g + 2), .int 0, .int (-1), .int 0, .null, .null, .null, .null, .null, .int 0])) H := hM
  obtain ⟨M9, eM9⟩ : ∃ q, xset M9 g (xO 5 [.int 0, .ref (g + 1), .ref (g + 2), .int 0, .int (-1), .int 0, .null, .null, .null, .null, .null, .int 0]) = q := ⟨_, rfl⟩
  rw [eM9] at hM
  replace h1 := xkeep eM9 (by omega) h1
  replace h2 := xkeep eM9 (by omega) h2
  replace hfr : ∀ b, (b < g) → M9 b = M b := fun b hb9 => xkeep eM9 (by omega) (hfr b hb9)
  replace ho := xself eM9
  clear eM9
  refine lv_aload_n hx hb dX6_init_26 rfl (lv_at hl 0 rfl) ?_
  refine lv_sipush (v := nI 300) hx hb dX6_init_27 (by decide) ?_
  refine r_newi C hM hS hz rfl (hts (.arrayClass .int) (by decide +kernel)) (by omega) (by show _ ≤ 7; omega) (by show _ ≤ 745; omega) dX6_init_30 (fun H hM hS hz => ?_)
  obtain ⟨M9, eM9⟩ : ∃ q, xset M9 (g + 3) (xI (kA 0) 300 (fun _ => 0)) = q := ⟨_, rfl⟩
  rw [eM9] at hM
  replace ho := xkeep eM9 (by omega) ho
  replace h1 := xkeep eM9 (by omega) h1
  replace h2 := xkeep eM9 (by omega) h2
  replace hfr : ∀ b, (b < g) → M9 b = M b := fun b hb9 => xkeep eM9 (by omega) (hfr b hb9)
  have h3 := xself eM9
  clear eM9
  replace hz : zsz H (g + 4) := hz
  refine z_putF (v := .ref (g + 3)) (ty := (.array .int)) hx hb hts in_X6_init_X6 tyX6 tyX6_ok nmX6 hown hK hM hS hz (ho) rfl 6 (by decide) (hts (.fieldLink RX6 21 "LimbCurvesModel" "numbers" "[I") (by decide +kernel)) (fun _ h9 => h9) rfl hnm rfl (by decide +kernel) rfl rfl (Nat.le_of_ble_eq_true rfl) dX6_init_32 (fun H locs hM hS hz => ?_)
  have hM : xW D vwCl N0 (xset M9 g (xO 5 [.int 0, .ref (g + 1), .ref (g + 2), .int 0, .int (-1), .int 0, .ref (g + 3), .null, .null, .null, .null, .int 0])) H := hM
  obtain ⟨M9, eM9⟩ : ∃ q, xset M9 g (xO 5 [.int 0, .ref (g + 1), .ref (g + 2), .int 0, .int (-1), .int 0, .ref (g + 3), .null, .null, .null, .null, .int 0]) = q := ⟨_, rfl⟩
  rw [eM9] at hM
  replace h1 := xkeep eM9 (by omega) h1
  replace h2 := xkeep eM9 (by omega) h2
  replace h3 := xkeep eM9 (by omega) h3
  replace hfr : ∀ b, (b < g) → M9 b = M b := fun b hb9 => xkeep eM9 (by omega) (hfr b hb9)
  replace ho := xself eM9
  clear eM9
  refine lv_aload_n hx hb dX6_init_35 rfl (lv_at hl 0 rfl) ?_
  refine lv_iconst (v := nI 5) hx hb dX6_init_36 (by decide) ?_
  refine r_newz C hM hS hz rfl (hts (.arrayClass .boolean) (by decide +kernel)) (by omega) (by show _ ≤ 7; omega) (by show _ ≤ 745; omega) dX6_init_37 (fun H hM hS hz => ?_)
  obtain ⟨M9, eM9⟩ : ∃ q, xset M9 (g + 4) (xI (kA 1) 5 (fun _ => 0)) = q := ⟨_, rfl⟩
  rw [eM9] at hM
  replace ho := xkeep eM9 (by omega) ho
  replace h1 := xkeep eM9 (by omega) h1
  replace h2 := xkeep eM9 (by omega) h2
  replace h3 := xkeep eM9 (by omega) h3
  replace hfr : ∀ b, (b < g) → M9 b = M b := fun b hb9 => xkeep eM9 (by omega) (hfr b hb9)
  have h4 := xself eM9
  clear eM9
  replace hz : zsz H (g + 5) := hz
  refine z_putF (v := .ref (g + 4)) (ty := (.array .boolean)) hx hb hts in_X6_init_X6 tyX6 tyX6_ok nmX6 hown hK hM hS hz (ho) rfl 7 (by decide) (hts (.fieldLink RX6 24 "LimbCurvesModel" "isNothing" "[Z") (by decide +kernel)) (fun _ h9 => h9) rfl hnm rfl (by decide +kernel) rfl rfl (Nat.le_of_ble_eq_true rfl) dX6_init_39 (fun H locs hM hS hz => ?_)
  have hM : xW D vwCl N0 (xset M9 g (xO 5 [.int 0, .ref (g + 1), .ref (g + 2), .int 0, .int (-1), .int 0, .ref (g + 3), .ref (g + 4), .null, .null, .null, .int 0])) H := hM
  obtain ⟨M9, eM9⟩ : ∃ q, xset M9 g (xO 5 [.int 0, .ref (g + 1), .ref (g + 2), .int 0, .int (-1), .int 0, .ref (g + 3), .ref (g + 4), .null, .null, .null, .int 0]) = q := ⟨_, rfl⟩
  rw [eM9] at hM
  replace h1 := xkeep eM9 (by omega) h1
  replace h2 := xkeep eM9 (by omega) h2
  replace h3 := xkeep eM9 (by omega) h3
  replace h4 := xkeep eM9 (by omega) h4
  replace hfr : ∀ b, (b < g) → M9 b = M b := fun b hb9 => xkeep eM9 (by omega) (hfr b hb9)
  replace ho := xself eM9
  clear eM9
  refine lv_aload_n hx hb dX6_init_42 rfl (lv_at hl 0 rfl) ?_
  refine lv_bipush (v := nI 24) hx hb dX6_init_43 (by decide) ?_
  refine r_newi C hM hS hz rfl (hts (.arrayClass .int) (by decide +kernel)) (by omega) (by show _ ≤ 7; omega) (by show _ ≤ 745; omega) dX6_init_45 (fun H hM hS hz => ?_)
  obtain ⟨M9, eM9⟩ : ∃ q, xset M9 (g + 5) (xI (kA 0) 24 (fun _ => 0)) = q := ⟨_, rfl⟩
  rw [eM9] at hM
  replace ho := xkeep eM9 (by omega) ho
  replace h1 := xkeep eM9 (by omega) h1
  replace h2 := xkeep eM9 (by omega) h2
  replace h3 := xkeep eM9 (by omega) h3
  replace h4 := xkeep eM9 (by omega) h4
  replace hfr : ∀ b, (b < g) → M9 b = M b := fun b hb9 => xkeep eM9 (by omega) (hfr b hb9)
  have h5 := xself eM9
  clear eM9
  replace hz : zsz H (g + 6) := hz
  refine z_putF (v := .ref (g + 5)) (ty := (.array .int)) hx hb hts in_X6_init_X6 tyX6 tyX6_ok nmX6 hown hK hM hS hz (ho) rfl 8 (by decide) (hts (.fieldLink RX6 27 "LimbCurvesModel" "u" "[I") (by decide +kernel)) (fun _ h9 => h9) rfl hnm rfl (by decide +kernel) rfl rfl (Nat.le_of_ble_eq_true rfl) dX6_init_47 (fun H locs hM hS hz => ?_)
  have hM : xW D vwCl N0 (xset M9 g (xO 5 [.int 0, .ref (g + 1), .ref (g + 2), .int 0, .int (-1), .int 0, .ref (g + 3), .ref (g + 4), .ref (g + 5), .null, .null, .int 0])) H := hM
  obtain ⟨M9, eM9⟩ : ∃ q, xset M9 g (xO 5 [.int 0, .ref (g + 1), .ref (g + 2), .int 0, .int (-1), .int 0, .ref (g + 3), .ref (g + 4), .ref (g + 5), .null, .null, .int 0]) = q := ⟨_, rfl⟩
  rw [eM9] at hM
  replace h1 := xkeep eM9 (by omega) h1
  replace h2 := xkeep eM9 (by omega) h2
  replace h3 := xkeep eM9 (by omega) h3
  replace h4 := xkeep eM9 (by omega) h4
  replace h5 := xkeep eM9 (by omega) h5
  replace hfr : ∀ b, (b < g) → M9 b = M b := fun b hb9 => xkeep eM9 (by omega) (hfr b hb9)
  replace ho := xself eM9
  clear eM9
  refine lv_aload_n hx hb dX6_init_50 rfl (lv_at hl 0 rfl) ?_
  refine lv_bipush (v := nI 12) hx hb dX6_init_51 (by decide) ?_
  refine r_newi C hM hS hz rfl (hts (.arrayClass .int) (by decide +kernel)) (by omega) (by show _ ≤ 7; omega) (by show _ ≤ 745; omega) dX6_init_53 (fun H hM hS hz => ?_)
  obtain ⟨M9, eM9⟩ : ∃ q, xset M9 (g + 6) (xI (kA 0) 12 (fun _ => 0)) = q := ⟨_, rfl⟩
  rw [eM9] at hM
  replace ho := xkeep eM9 (by omega) ho
  replace h1 := xkeep eM9 (by omega) h1
  replace h2 := xkeep eM9 (by omega) h2
  replace h3 := xkeep eM9 (by omega) h3
  replace h4 := xkeep eM9 (by omega) h4
  replace h5 := xkeep eM9 (by omega) h5
  replace hfr : ∀ b, (b < g) → M9 b = M b := fun b hb9 => xkeep eM9 (by omega) (hfr b hb9)
  have h6 := xself eM9
  clear eM9
  replace hz : zsz H (g + 7) := hz
  refine z_putF (v := .ref (g + 6)) (ty := (.array .int)) hx hb hts in_X6_init_X6 tyX6 tyX6_ok nmX6 hown hK hM hS hz (ho) rfl 9 (by decide) (hts (.fieldLink RX6 30 "LimbCurvesModel" "v" "[I") (by decide +kernel)) (fun _ h9 => h9) rfl hnm rfl (by decide +kernel) rfl rfl (Nat.le_of_ble_eq_true rfl) dX6_init_55 (fun H locs hM hS hz => ?_)
  have hM : xW D vwCl N0 (xset M9 g (xO 5 [.int 0, .ref (g + 1), .ref (g + 2), .int 0, .int (-1), .int 0, .ref (g + 3), .ref (g + 4), .ref (g + 5), .ref (g + 6), .null, .int 0])) H := hM
  obtain ⟨M9, eM9⟩ : ∃ q, xset M9 g (xO 5 [.int 0, .ref (g + 1), .ref (g + 2), .int 0, .int (-1), .int 0, .ref (g + 3), .ref (g + 4), .ref (g + 5), .ref (g + 6), .null, .int 0]) = q := ⟨_, rfl⟩
  rw [eM9] at hM
  replace h1 := xkeep eM9 (by omega) h1
  replace h2 := xkeep eM9 (by omega) h2
  replace h3 := xkeep eM9 (by omega) h3
  replace h4 := xkeep eM9 (by omega) h4
  replace h5 := xkeep eM9 (by omega) h5
  replace h6 := xkeep eM9 (by omega) h6
  replace hfr : ∀ b, (b < g) → M9 b = M b := fun b hb9 => xkeep eM9 (by omega) (hfr b hb9)
  replace ho := xself eM9
  clear eM9
  refine lv_aload_n hx hb dX6_init_58 rfl (lv_at hl 0 rfl) ?_
  refine lv_bipush (v := nI 24) hx hb dX6_init_59 (by decide) ?_
  refine r_newi C hM hS hz rfl (hts (.arrayClass .int) (by decide +kernel)) (by omega) (by show _ ≤ 7; omega) (by show _ ≤ 745; omega) dX6_init_61 (fun H hM hS hz => ?_)
  obtain ⟨M9, eM9⟩ : ∃ q, xset M9 (g + 7) (xI (kA 0) 24 (fun _ => 0)) = q := ⟨_, rfl⟩
  rw [eM9] at hM
  replace ho := xkeep eM9 (by omega) ho
  replace h1 := xkeep eM9 (by omega) h1
  replace h2 := xkeep eM9 (by omega) h2
  replace h3 := xkeep eM9 (by omega) h3
  replace h4 := xkeep eM9 (by omega) h4
  replace h5 := xkeep eM9 (by omega) h5
  replace h6 := xkeep eM9 (by omega) h6
  replace hfr : ∀ b, (b < g) → M9 b = M b := fun b hb9 => xkeep eM9 (by omega) (hfr b hb9)
  have h7 := xself eM9
  clear eM9
  replace hz : zsz H (g + 8) := hz
  refine z_putF (v := .ref (g + 7)) (ty := (.array .int)) hx hb hts in_X6_init_X6 tyX6 tyX6_ok nmX6 hown hK hM hS hz (ho) rfl 10 (by decide) (hts (.fieldLink RX6 33 "LimbCurvesModel" "q" "[I") (by decide +kernel)) (fun _ h9 => h9) rfl hnm rfl (by decide +kernel) rfl rfl (Nat.le_of_ble_eq_true rfl) dX6_init_63 (fun H locs hM hS hz => ?_)
  have hM : xW D vwCl N0 (xset M9 g (xO 5 [.int 0, .ref (g + 1), .ref (g + 2), .int 0, .int (-1), .int 0, .ref (g + 3), .ref (g + 4), .ref (g + 5), .ref (g + 6), .ref (g + 7), .int 0])) H := hM
  obtain ⟨M9, eM9⟩ : ∃ q, xset M9 g (xO 5 [.int 0, .ref (g + 1), .ref (g + 2), .int 0, .int (-1), .int 0, .ref (g + 3), .ref (g + 4), .ref (g + 5), .ref (g + 6), .ref (g + 7), .int 0]) = q := ⟨_, rfl⟩
  rw [eM9] at hM
  replace h1 := xkeep eM9 (by omega) h1
  replace h2 := xkeep eM9 (by omega) h2
  replace h3 := xkeep eM9 (by omega) h3
  replace h4 := xkeep eM9 (by omega) h4
  replace h5 := xkeep eM9 (by omega) h5
  replace h6 := xkeep eM9 (by omega) h6
  replace h7 := xkeep eM9 (by omega) h7
  replace hfr : ∀ b, (b < g) → M9 b = M b := fun b hb9 => xkeep eM9 (by omega) (hfr b hb9)
  replace ho := xself eM9
  clear eM9
  refine lv_aload_n hx hb dX6_init_66 rfl (lv_at hl 0 rfl) ?_
  refine lv_iload_n hx hb dX6_init_67 rfl (lv_at hl 1 rfl) ?_
  refine lv_iconst (v := nI 1) hx hb dX6_init_68 (by decide) ?_
  refine lv_icmp_ge (tgt := 76) hx hb dX6_init_69 (by decide) (fun hc => ?_) (fun hc => ?_)
  · rw [ile, t_1] at hc
    refine lv_iload_n hx hb dX6_init_76 rfl (lv_at hl 1 rfl) ?_
    refine lv_bipush (v := nI 9) hx hb dX6_init_77 (by decide) ?_
    refine lv_icmp_le (tgt := 87) hx hb dX6_init_79 (by decide) (fun hd => ?_) (fun hd => ?_)
    · rw [ile, t_9] at hd
      have eL : x = nI (spNew x).L := by
        rw [newL, if_neg (by omega), if_neg (by omega)]
        exact ix_eq (by omega)
      refine lv_iload_n hx hb dX6_init_87 rfl (lv_at hl 1 rfl) ?_
      refine r_topi C (nI (spNew x).L) (eL) ?_
      refine z_putF (v := .int (nI (spNew x).L)) (ty := .int) hx hb hts in_X6_init_X6 tyX6 tyX6_ok nmX6 hown hK hM hS hz (ho) rfl 0 (by decide) (hts (.fieldLink RX6 36 "LimbCurvesModel" "limbs" "I") (by decide +kernel)) (fun _ h9 => h9) rfl hnm rfl (by decide +kernel) rfl rfl (Nat.le_of_ble_eq_true rfl) dX6_init_88 (fun H locs hM hS hz => ?_)
      have hM : xW D vwCl N0 (xset M9 g (xO 5 [.int (nI (spNew x).L), .ref (g + 1), .ref (g + 2), .int 0, .int (-1), .int 0, .ref (g + 3), .ref (g + 4), .ref (g + 5), .ref (g + 6), .ref (g + 7), .int 0])) H := hM
      obtain ⟨M9, eM9⟩ : ∃ q, xset M9 g (xO 5 [.int (nI (spNew x).L), .ref (g + 1), .ref (g + 2), .int 0, .int (-1), .int 0, .ref (g + 3), .ref (g + 4), .ref (g + 5), .ref (g + 6), .ref (g + 7), .int 0]) = q := ⟨_, rfl⟩
      rw [eM9] at hM
      replace h1 := xkeep eM9 (by omega) h1
      replace h2 := xkeep eM9 (by omega) h2
      replace h3 := xkeep eM9 (by omega) h3
      replace h4 := xkeep eM9 (by omega) h4
      replace h5 := xkeep eM9 (by omega) h5
      replace h6 := xkeep eM9 (by omega) h6
      replace h7 := xkeep eM9 (by omega) h7
      replace hfr : ∀ b, (b < g) → M9 b = M b := fun b hb9 => xkeep eM9 (by omega) (hfr b hb9)
      replace ho := xself eM9
      clear eM9
      refine W.widen (k := 7) (n := 745) (by omega) (by omega) ?_
      exact r_vretz C hM hS hz (⟨Mk_new ho h1 h2 h3 h4 h5 h6 h7, hfr⟩) dX6_init_91
    · rw [ile, t_9] at hd
      have eL : nI 9 = nI (spNew x).L := by
        rw [newL, if_neg (by omega), if_pos (by omega)]
      refine lv_bipush (v := nI 9) hx hb dX6_init_82 (by decide) ?_
      refine lv_goto (tgt := 88) hx hb dX6_init_84 (by decide) ?_
      refine r_topi C (nI (spNew x).L) (eL) ?_
      refine z_putF (v := .int (nI (spNew x).L)) (ty := .int) hx hb hts in_X6_init_X6 tyX6 tyX6_ok nmX6 hown hK hM hS hz (ho) rfl 0 (by decide) (hts (.fieldLink RX6 36 "LimbCurvesModel" "limbs" "I") (by decide +kernel)) (fun _ h9 => h9) rfl hnm rfl (by decide +kernel) rfl rfl (Nat.le_of_ble_eq_true rfl) dX6_init_88 (fun H locs hM hS hz => ?_)
      have hM : xW D vwCl N0 (xset M9 g (xO 5 [.int (nI (spNew x).L), .ref (g + 1), .ref (g + 2), .int 0, .int (-1), .int 0, .ref (g + 3), .ref (g + 4), .ref (g + 5), .ref (g + 6), .ref (g + 7), .int 0])) H := hM
      obtain ⟨M9, eM9⟩ : ∃ q, xset M9 g (xO 5 [.int (nI (spNew x).L), .ref (g + 1), .ref (g + 2), .int 0, .int (-1), .int 0, .ref (g + 3), .ref (g + 4), .ref (g + 5), .ref (g + 6), .ref (g + 7), .int 0]) = q := ⟨_, rfl⟩
      rw [eM9] at hM
      replace h1 := xkeep eM9 (by omega) h1
      replace h2 := xkeep eM9 (by omega) h2
      replace h3 := xkeep eM9 (by omega) h3
      replace h4 := xkeep eM9 (by omega) h4
      replace h5 := xkeep eM9 (by omega) h5
      replace h6 := xkeep eM9 (by omega) h6
      replace h7 := xkeep eM9 (by omega) h7
      replace hfr : ∀ b, (b < g) → M9 b = M b := fun b hb9 => xkeep eM9 (by omega) (hfr b hb9)
      replace ho := xself eM9
      clear eM9
      refine W.widen (k := 7) (n := 745) (by omega) (by omega) ?_
      exact r_vretz C hM hS hz (⟨Mk_new ho h1 h2 h3 h4 h5 h6 h7, hfr⟩) dX6_init_91
  · rw [ile, t_1] at hc
    have eL : nI 1 = nI (spNew x).L := by
      rw [newL, if_pos (by omega)]
    refine lv_iconst (v := nI 1) hx hb dX6_init_72 (by decide) ?_
    refine lv_goto (tgt := 88) hx hb dX6_init_73 (by decide) ?_
    refine r_topi C (nI (spNew x).L) (eL) ?_
    refine z_putF (v := .int (nI (spNew x).L)) (ty := .int) hx hb hts in_X6_init_X6 tyX6 tyX6_ok nmX6 hown hK hM hS hz (ho) rfl 0 (by decide) (hts (.fieldLink RX6 36 "LimbCurvesModel" "limbs" "I") (by decide +kernel)) (fun _ h9 => h9) rfl hnm rfl (by decide +kernel) rfl rfl (Nat.le_of_ble_eq_true rfl) dX6_init_88 (fun H locs hM hS hz => ?_)
    have hM : xW D vwCl N0 (xset M9 g (xO 5 [.int (nI (spNew x).L), .ref (g + 1), .ref (g + 2), .int 0, .int (-1), .int 0, .ref (g + 3), .ref (g + 4), .ref (g + 5), .ref (g + 6), .ref (g + 7), .int 0])) H := hM
    obtain ⟨M9, eM9⟩ : ∃ q, xset M9 g (xO 5 [.int (nI (spNew x).L), .ref (g + 1), .ref (g + 2), .int 0, .int (-1), .int 0, .ref (g + 3), .ref (g + 4), .ref (g + 5), .ref (g + 6), .ref (g + 7), .int 0]) = q := ⟨_, rfl⟩
    rw [eM9] at hM
    replace h1 := xkeep eM9 (by omega) h1
    replace h2 := xkeep eM9 (by omega) h2
    replace h3 := xkeep eM9 (by omega) h3
    replace h4 := xkeep eM9 (by omega) h4
    replace h5 := xkeep eM9 (by omega) h5
    replace h6 := xkeep eM9 (by omega) h6
    replace h7 := xkeep eM9 (by omega) h7
    replace hfr : ∀ b, (b < g) → M9 b = M b := fun b hb9 => xkeep eM9 (by omega) (hfr b hb9)
    replace ho := xself eM9
    clear eM9
    refine W.widen (k := 7) (n := 745) (by omega) (by omega) ?_
    exact r_vretz C hM hS hz (⟨Mk_new ho h1 h2 h3 h4 h5 h6 h7, hfr⟩) dX6_init_91
end INITM
