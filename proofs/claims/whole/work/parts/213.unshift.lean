theorem in_X3_unshiftedLimb_X3 : ∀ w ∈ wsX30, w ∈ wsX3_unshiftedLimb := by decide +kernel
set_option maxRecDepth 100000 in
theorem c_unshiftedLimb (l : Launch) (D : va_G) (kA : Nat → ClassId) (N0 : Nat) (M : xM) (r i W0 sh : Nat) (f : Nat → Int32) (sz : Int32) (hob : M r = some (oRes r sz (nI sh))) (hw : M (r + 3) = some (xI (kA 0) W0 f)) (n1 : 0 ≤ (f (i + 1)).toInt) (n0 : 0 ≤ (f i).toInt) (hi : i + 1 < W0) (hW : W0 < 10000) (hsh : sh < 31) : cI l yX3_unshiftedLimb wsX3_unshiftedLimb (xR 0) [.ref r, .int (nI i)] D kA N0 M (fun q M1 => M1 = M ∧ q = nI ((dg (f (i + 1)) * BB + dg (f i)) / 2 ^ sh % BB)) := by
  refine r_met (cc := cX3_unshiftedLimb) (maxL := 2) (ret := (some .int)) (by decide) rfl (Nat.le_of_ble_eq_true rfl) ?_
  intro p e s m below meth c ls C hM hnm hl
  obtain ⟨hx, hb, hml, hown, hts, hr, hlocks, hK, hN⟩ := id C
  have hS : va_S (xA N0) s.heap s.heap [] := va_S.rf
  have hl : lv_has ls 2 [(0, .ref r), (1, .int (nI i))] := hl
  refine lv_aload_n hx hb dX3_unshiftedLimb_0 rfl (lv_at hl 0 rfl) ?_
  refine x_get (v := .ref (r + 3)) hx hb hts in_X3_unshiftedLimb_X3 hown hK hM (hob) rfl 2 (by decide) (hts (.fieldLink RX3 18 "LimbCurves$Residues" "work" "[I") (by decide +kernel)) (fun _ h9 => h9) rfl dX3_unshiftedLimb_1 ?_
  refine lv_iload_n hx hb dX3_unshiftedLimb_4 rfl (lv_at hl 1 rfl) ?_
  refine lv_iconst (v := nI 1) hx hb dX3_unshiftedLimb_5 (by decide) ?_
  refine r_iaddN C dX3_unshiftedLimb_6 ?_
  refine r_iald C hM (hw) rfl (by omega) (by omega) dX3_unshiftedLimb_7 ?_
  refine lv_i2l (v := (f (i + 1)).toInt64) hx hb dX3_unshiftedLimb_8 rfl ?_
  refine lv_bipush (v := nI 31) hx hb dX3_unshiftedLimb_9 (by decide) ?_
  refine lv_lshl (v := ((f (i + 1)).toInt64) <<< ((nI 31).toInt64 &&& 63)) hx hb dX3_unshiftedLimb_11 rfl ?_
  refine lv_aload_n hx hb dX3_unshiftedLimb_12 rfl (lv_at hl 0 rfl) ?_
  refine x_get (v := .ref (r + 3)) hx hb hts in_X3_unshiftedLimb_X3 hown hK hM (hob) rfl 2 (by decide) (hts (.fieldLink RX3 18 "LimbCurves$Residues" "work" "[I") (by decide +kernel)) (fun _ h9 => h9) rfl dX3_unshiftedLimb_13 ?_
  refine lv_iload_n hx hb dX3_unshiftedLimb_16 rfl (lv_at hl 1 rfl) ?_
  refine r_iald C hM (hw) rfl (by omega) (by omega) dX3_unshiftedLimb_17 ?_
  refine lv_i2l (v := (f i).toInt64) hx hb dX3_unshiftedLimb_18 rfl ?_
  refine lv_lor hx hb dX3_unshiftedLimb_19 ?_
  refine lv_aload_n hx hb dX3_unshiftedLimb_20 rfl (lv_at hl 0 rfl) ?_
  refine x_get (v := .int (nI sh)) hx hb hts in_X3_unshiftedLimb_X3 hown hK hM (hob) rfl 9 (by decide) (hts (.fieldLink RX3 40 "LimbCurves$Residues" "shift" "I") (by decide +kernel)) (fun _ h9 => h9) rfl dX3_unshiftedLimb_21 ?_
  rw [i2l_dg n1, i2l_dg n0]
  refine lv_lushr (v := (((lN (dg (f (i + 1))) <<< ((nI 31).toInt64 &&& 63)) ||| lN (dg (f i))).toUInt64 >>> ((nI sh).toInt64.toUInt64 &&& Int64.toUInt64 63)).toInt64) hx hb dX3_unshiftedLimb_24 rfl ?_
  refine lv_ldc2 (v := 2147483647) hx hb hown (hts (.constantLong RX3 90 (2147483647)) (by decide +kernel)) dX3_unshiftedLimb_25 ?_
  refine lv_land hx hb dX3_unshiftedLimb_28 ?_
  refine lv_l2i (v := (((((lN (dg (f (i + 1))) <<< ((nI 31).toInt64 &&& 63)) ||| lN (dg (f i))).toUInt64 >>> ((nI sh).toInt64.toUInt64 &&& Int64.toUInt64 63)).toInt64) &&& 2147483647).toInt32) hx hb dX3_unshiftedLimb_29 rfl ?_
  refine r_topi C (nI ((dg (f (i + 1)) * BB + dg (f i)) / 2 ^ sh % BB)) (pair_val (dg_lt _) (dg_lt _) (by omega)) ?_
  exact r_iret C hM hS (⟨rfl, rfl⟩) dX3_unshiftedLimb_30
