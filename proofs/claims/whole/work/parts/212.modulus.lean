theorem in_X3_shiftWork_X3 : ∀ w ∈ wsX30, w ∈ wsX3_shiftWork := by decide +kernel
theorem in_X3_takeModulus_X3 : ∀ w ∈ wsX30, w ∈ wsX3_takeModulus := by decide +kernel
/-- a Residues with all its rows, whatever they hold -/
def Rk (kA : Nat → ClassId) (M : xM) (r L : Nat) : Prop := (∃ sz sh : Int32, M r = some (oRes r sz sh)) ∧ isA kA M (r + 1) L ∧ isA kA M (r + 2) L ∧ isA kA M (r + 3) (2 * L + 1) ∧ isA kA M (r + 4) L ∧ isA kA M (r + 5) L ∧ isA kA M (r + 6) L ∧ isA kA M (r + 7) L ∧ isA kA M (r + 8) L
section R2
variable {p : Program} {l : Launch} {e : Env} {R : Room} {s : State} {m : MethodId} {args : Array Value} {below : List Frame} {meth : Method} {c : Code} {Q : State → Prop} {cells slots : Nat} {ret : Option FieldType} {D : va_G} {kA : Nat → ClassId} {N0 : Nat}
set_option maxRecDepth 100000 in
theorem lp_divisor {M : xM} {r L sh : Nat} {fm : Nat → Int32} {sz : Int32} (C : xC p s m args meth c cX3_takeModulus 3 ret RX3 wsX3_takeModulus D vwCl (xT kA) N0) (hob : M r = some (oRes r sz (nI sh))) (hm : M (r + 1) = some (xI (kA 0) L fm)) (nm : nn fm L) (hsh : sh < 31) (hL : L < 1000)
    (hexit : ∀ (f : Nat → Int32) (H : Heap) (locs : List Loc) (ls : Array Slot), (∀ j, j < L → f j = nI (shl fm 0 sh j)) → xW D vwCl N0 (xset M (r + 2) (xI (kA 0) L f)) H → va_S (xA N0) s.heap H locs → W p l e (xR 2) s m args below meth c H locs 0 0 Q (F0 m 83 ls [])) :
    ∀ (k i : Nat) (f : Nat → Int32) (H : Heap) (locs : List Loc) (ls : Array Slot), i + k = L → (∀ j, j < i → f j = nI (shl fm 0 sh j)) → xW D vwCl N0 (xset M (r + 2) (xI (kA 0) L f)) H → va_S (xA N0) s.heap H locs → lv_has ls 3 [(2, .int (nI i)), (0, .ref r)] → W p l e (xR 2) s m args below meth c H locs 0 0 Q (F0 m 50 ls []) := by
  obtain ⟨hx, hb, hml, hown, hts, hr, hlocks, hK, hN⟩ := id C
  intro k
  induction k with
  | zero =>
    intro i f H locs ls hi hf hM hS hl
    have hob1 : xset M (r + 2) (xI (kA 0) L f) r = some (oRes r sz (nI sh)) := by rw [xset_n (by omega)]; exact hob
    refine lv_iload_n hx hb dX3_takeModulus_50 rfl (lv_at hl 0 rfl) ?_
    refine lv_aload_n hx hb dX3_takeModulus_51 rfl (lv_at hl 1 rfl) ?_
    refine x_get (v := .ref (r + 2)) hx hb hts in_X3_takeModulus_X3 hown hK hM (hob1) rfl 1 (by decide) (hts (.fieldLink RX3 15 "LimbCurves$Residues" "divisor" "[I") (by decide +kernel)) (fun _ h9 => h9) rfl dX3_takeModulus_52 ?_
    refine r_alen C hM (xset_s) rfl dX3_takeModulus_55 ?_
    refine r_icmp_geN (tgt := 83) C (by omega) (by omega) dX3_takeModulus_56 (by decide) (fun hc => ?_) (fun hc => ?_)
    · exact hexit f H locs ls (fun j hj => hf j (by omega)) hM hS
    · omega
  | succ k ih =>
    intro i f H locs ls hi hf hM hS hl
    have hob1 : xset M (r + 2) (xI (kA 0) L f) r = some (oRes r sz (nI sh)) := by rw [xset_n (by omega)]; exact hob
    have hm1 : xset M (r + 2) (xI (kA 0) L f) (r + 1) = some (xI (kA 0) L fm) := by rw [xset_n (by omega)]; exact hm
    refine lv_iload_n hx hb dX3_takeModulus_50 rfl (lv_at hl 0 rfl) ?_
    refine lv_aload_n hx hb dX3_takeModulus_51 rfl (lv_at hl 1 rfl) ?_
    refine x_get (v := .ref (r + 2)) hx hb hts in_X3_takeModulus_X3 hown hK hM (hob1) rfl 1 (by decide) (hts (.fieldLink RX3 15 "LimbCurves$Residues" "divisor" "[I") (by decide +kernel)) (fun _ h9 => h9) rfl dX3_takeModulus_52 ?_
    refine r_alen C hM (xset_s) rfl dX3_takeModulus_55 ?_
    refine r_icmp_geN (tgt := 83) C (by omega) (by omega) dX3_takeModulus_56 (by decide) (fun hc => ?_) (fun hc => ?_)
    · omega
    · refine lv_aload_n hx hb dX3_takeModulus_59 rfl (lv_at hl 1 rfl) ?_
      refine x_get (v := .ref (r + 2)) hx hb hts in_X3_takeModulus_X3 hown hK hM (hob1) rfl 1 (by decide) (hts (.fieldLink RX3 15 "LimbCurves$Residues" "divisor" "[I") (by decide +kernel)) (fun _ h9 => h9) rfl dX3_takeModulus_60 ?_
      refine lv_iload_n hx hb dX3_takeModulus_63 rfl (lv_at hl 0 rfl) ?_
      refine lv_aload_n hx hb dX3_takeModulus_64 rfl (lv_at hl 1 rfl) ?_
      refine x_get (v := .ref (r + 1)) hx hb hts in_X3_takeModulus_X3 hown hK hM (hob1) rfl 0 (by decide) (hts (.fieldLink RX3 9 "LimbCurves$Residues" "modulus" "[I") (by decide +kernel)) (fun _ h9 => h9) rfl dX3_takeModulus_65 ?_
      refine lv_iload_n hx hb dX3_takeModulus_68 rfl (lv_at hl 0 rfl) ?_
      refine lv_aload_n hx hb dX3_takeModulus_69 rfl (lv_at hl 1 rfl) ?_
      refine x_get (v := .int (nI sh)) hx hb hts in_X3_takeModulus_X3 hown hK hM (hob1) rfl 9 (by decide) (hts (.fieldLink RX3 40 "LimbCurves$Residues" "shift" "I") (by decide +kernel)) (fun _ h9 => h9) rfl dX3_takeModulus_70 ?_
      refine r_Si (As := [.ref (r + 1), .int (nI i), .int (nI sh)]) (rest := [.int (nI i), .ref (r + 2)]) C hM hS (c_shiftedLimb l D kA N0 (xset M (r + 2) (xI (kA 0) L f)) (r + 1) L i sh fm hm1 nm (by omega) (by omega) (by omega)) gX3_takeModulus_X1_shiftedLimb rfl rfl rfl ⟨by decide +kernel, by decide +kernel, (by decide +kernel : (parseMethodDescriptor yX1_shiftedLimb.desc).map (fun d => d.parameters.length) = some 3)⟩ ⟨Nat.le_of_ble_eq_true rfl, Nat.le_of_ble_eq_true rfl⟩ hl.1 rfl (Nat.le_of_ble_eq_true rfl) dX3_takeModulus_73 ⟨Nat.le_of_ble_eq_true rfl, Nat.le_of_ble_eq_true rfl⟩ (fun q M1 H locs hp hM hS => ?_)
      obtain ⟨eM, rfl⟩ := hp
      rw [eM] at hM
      have e1 : sh / 31 = 0 := by omega
      have e2 : sh % 31 = sh := by omega
      rw [e1, e2]
      refine r_iast C hM hS (xset_s) rfl (by omega) (by omega) dX3_takeModulus_76 (fun H locs hM hS => ?_)
      rw [xset_xset] at hM
      refine lv_iinc (v := nI (i + 1)) (lv' := [(2, .int (nI (i + 1))), (0, .ref r)]) hx hb dX3_takeModulus_77 hl (k := 0) rfl (r_inc _) (by decide) rfl (fun ls hl => ?_)
      refine lv_goto (tgt := 50) hx hb dX3_takeModulus_80 (by decide) ?_
      refine ih (i + 1) (upd f i (nI (shl fm 0 sh i))) H locs ls (by omega) (fun j hj => ?_) hM hS (lv_sub hl [0, 1] rfl)
      by_cases h : j = i
      · rw [h, pk_us]
      · rw [pk_un h]
        exact hf j (by omega)
set_option maxRecDepth 100000 in
theorem c_takeModulus (l : Launch) (D : va_G) (kA : Nat → ClassId) (N0 : Nat) (M : xM) (r L num v : Nat) (hk : Rk kA M r L) (h1 : isN kA M num L v) (hL : L < 1000) : cI l yX3_takeModulus wsX3_takeModulus (xR 2) [.ref r, .ref num] D kA N0 M (fun q M1 => Rk kA M1 r L ∧ (∀ b, b ≠ r → b ≠ r + 1 → b ≠ r + 2 → M1 b = M b) ∧ ((q = 0 ∧ v = 0) ∨ (q = 1 ∧ 0 < v ∧ Rs kA M1 r L v))) := by
  obtain ⟨⟨sz, sh, hob⟩, ⟨f1, k1⟩, ⟨f2, k2⟩, k3, k4, k5, k6, k7, k8⟩ := hk
  obtain ⟨g, h1, ng, Vg⟩ := h1
  refine r_met (cc := cX3_takeModulus) (maxL := 3) (ret := (some .boolean)) (by decide) rfl (Nat.le_of_ble_eq_true rfl) ?_
  intro p e s m below meth c ls C hM hnm hl
  obtain ⟨hx, hb, hml, hown, hts, hr, hlocks, hK, hN⟩ := id C
  have hS : va_S (xA N0) s.heap s.heap [] := va_S.rf
  have hl : lv_has ls 3 [(0, .ref r), (1, .ref num)] := hl
  refine lv_aload_n hx hb dX3_takeModulus_0 rfl (lv_at hl 0 rfl) ?_
  refine x_get (v := .ref (r + 1)) hx hb hts in_X3_takeModulus_X3 hown hK hM (hob) rfl 0 (by decide) (hts (.fieldLink RX3 9 "LimbCurves$Residues" "modulus" "[I") (by decide +kernel)) (fun _ h9 => h9) rfl dX3_takeModulus_1 ?_
  refine lv_aload_n hx hb dX3_takeModulus_4 rfl (lv_at hl 1 rfl) ?_
  refine r_Sv (As := [.ref (r + 1), .ref num]) (rest := []) C hM hS (c_copy l D kA N0 M (r + 1) num L f1 g k1 h1 (by omega)) gX3_takeModulus_X1_copy rfl rfl rfl ⟨by decide +kernel, by decide +kernel, (by decide +kernel : (parseMethodDescriptor yX1_copy.desc).map (fun d => d.parameters.length) = some 2)⟩ ⟨Nat.le_of_ble_eq_true rfl, Nat.le_of_ble_eq_true rfl⟩ hl.1 rfl (Nat.le_of_ble_eq_true rfl) dX3_takeModulus_5 ⟨Nat.le_of_ble_eq_true rfl, Nat.le_of_ble_eq_true rfl⟩ (fun M1 H locs hp hM hS => ?_)
  obtain ⟨fm, rfl, hfm⟩ := hp
  have nm : nn fm L := fun j hj => by rw [hfm j hj]; exact ng j hj
  have Vm : V fm L = v := by rw [V_congr hfm]; exact Vg
  have hob1 : xset M (r + 1) (xI (kA 0) L fm) r = some (oRes r sz sh) := by rw [xset_n (by omega)]; exact hob
  refine lv_aload_n hx hb dX3_takeModulus_8 rfl (lv_at hl 0 rfl) ?_
  refine lv_aload_n hx hb dX3_takeModulus_9 rfl (lv_at hl 0 rfl) ?_
  refine x_get (v := .ref (r + 1)) hx hb hts in_X3_takeModulus_X3 hown hK hM (hob1) rfl 0 (by decide) (hts (.fieldLink RX3 9 "LimbCurves$Residues" "modulus" "[I") (by decide +kernel)) (fun _ h9 => h9) rfl dX3_takeModulus_10 ?_
  refine r_Si (As := [.ref (r + 1)]) (rest := [.ref r]) C hM hS (c_sizeOf l D kA N0 (xset M (r + 1) (xI (kA 0) L fm)) (r + 1) L fm xset_s (by omega)) gX3_takeModulus_X1_sizeOf rfl rfl rfl ⟨by decide +kernel, by decide +kernel, (by decide +kernel : (parseMethodDescriptor yX1_sizeOf.desc).map (fun d => d.parameters.length) = some 1)⟩ ⟨Nat.le_of_ble_eq_true rfl, Nat.le_of_ble_eq_true rfl⟩ hl.1 rfl (Nat.le_of_ble_eq_true rfl) dX3_takeModulus_13 ⟨Nat.le_of_ble_eq_true rfl, Nat.le_of_ble_eq_true rfl⟩ (fun q M2 H locs hp hM hS => ?_)
  obtain ⟨eM, k, rfl, hk, hz, hp⟩ := hp
  rw [eM] at hM
  have hV := size_V nm hk hz hp
  rw [Vm] at hV
  refine x_put (v := .int (nI k)) (ty := .int) hx hb hts in_X3_takeModulus_X3 tyX3 tyX3_ok nmX3 hown hK hM hS (hob1) rfl 8 (by decide) (hts (.fieldLink RX3 36 "LimbCurves$Residues" "size" "I") (by decide +kernel)) (fun _ h9 => h9) rfl (by decide +kernel) rfl rfl (Nat.le_of_ble_eq_true rfl) dX3_takeModulus_16 (fun H locs hM hS => ?_)
  have hM : xW D vwCl N0 (xset (xset M (r + 1) (xI (kA 0) L fm)) r (oRes r (nI k) sh)) H := hM
  obtain ⟨M2, hM2⟩ : ∃ M2, M2 = xset (xset M (r + 1) (xI (kA 0) L fm)) r (oRes r (nI k) sh) := ⟨_, rfl⟩
  rw [← hM2] at hM
  have hob2 : M2 r = some (oRes r (nI k) sh) := by rw [hM2, xset_s]
  have hm2 : M2 (r + 1) = some (xI (kA 0) L fm) := by rw [hM2, xset_n (by omega), xset_s]
  have ho2 : ∀ b, b ≠ r → b ≠ r + 1 → M2 b = M b := fun b h1 h2 => by rw [hM2, xset_n h1, xset_n h2]
  refine lv_aload_n hx hb dX3_takeModulus_19 rfl (lv_at hl 0 rfl) ?_
  refine x_get (v := .int (nI k)) hx hb hts in_X3_takeModulus_X3 hown hK hM (hob2) rfl 8 (by decide) (hts (.fieldLink RX3 36 "LimbCurves$Residues" "size" "I") (by decide +kernel)) (fun _ h9 => h9) rfl dX3_takeModulus_20 ?_
  refine r_if_neN (tgt := 28) C (by omega) dX3_takeModulus_23 (by decide) (fun hc => ?_) (fun hc => ?_)
  · have hk0 : 0 < k := by omega
    have ht := hV.2 hk0
    have hlt := dg_lt (fm (k - 1))
    have hB : BB = 2147483648 := rfl
    have hbl : bl (dg (fm (k - 1))) ≤ 31 := bl_le hlt
    have hbp := bl_pos ht
    refine lv_aload_n hx hb dX3_takeModulus_28 rfl (lv_at hl 0 rfl) ?_
    refine lv_aload_n hx hb dX3_takeModulus_29 rfl (lv_at hl 0 rfl) ?_
    refine x_get (v := .ref (r + 1)) hx hb hts in_X3_takeModulus_X3 hown hK hM (hob2) rfl 0 (by decide) (hts (.fieldLink RX3 9 "LimbCurves$Residues" "modulus" "[I") (by decide +kernel)) (fun _ h9 => h9) rfl dX3_takeModulus_30 ?_
    refine lv_aload_n hx hb dX3_takeModulus_33 rfl (lv_at hl 0 rfl) ?_
    refine x_get (v := .int (nI k)) hx hb hts in_X3_takeModulus_X3 hown hK hM (hob2) rfl 8 (by decide) (hts (.fieldLink RX3 36 "LimbCurves$Residues" "size" "I") (by decide +kernel)) (fun _ h9 => h9) rfl dX3_takeModulus_34 ?_
    refine lv_iconst (v := nI 1) hx hb dX3_takeModulus_37 (by decide) ?_
    refine r_isubN C (by omega) dX3_takeModulus_38 ?_
    refine r_iald C hM (hm2) rfl (by omega) (by omega) dX3_takeModulus_39 ?_
    refine r_topi C (nI (dg (fm (k - 1)))) (nI_dg (nm (k - 1) (by omega))) ?_
    refine r_Si (As := [.int (nI (dg (fm (k - 1))))]) (rest := [.ref r]) C hM hS (c_nlz l D kA N0 M2 (dg (fm (k - 1))) ht (by omega)) gX3_takeModulus_J6_numberOfLeadingZeros_0f7a4 rfl rfl rfl ⟨by decide +kernel, by decide +kernel, (by decide +kernel : (parseMethodDescriptor yJ6_numberOfLeadingZeros_0f7a4.desc).map (fun d => d.parameters.length) = some 1)⟩ ⟨Nat.le_of_ble_eq_true rfl, Nat.le_of_ble_eq_true rfl⟩ hl.1 rfl (Nat.le_of_ble_eq_true rfl) dX3_takeModulus_40 ⟨Nat.le_of_ble_eq_true rfl, Nat.le_of_ble_eq_true rfl⟩ (fun q M3 H locs hq hM hS => ?_)
    obtain ⟨eM3, rfl⟩ := hq
    rw [eM3] at hM
    refine lv_iconst (v := nI 1) hx hb dX3_takeModulus_43 (by decide) ?_
    refine r_isubN C (by omega) dX3_takeModulus_44 ?_
    obtain ⟨z, hzz⟩ : ∃ z, 32 - bl (dg (fm (k - 1))) - 1 = z := ⟨_, rfl⟩
    rw [hzz]
    refine x_put (v := .int (nI z)) (ty := .int) hx hb hts in_X3_takeModulus_X3 tyX3 tyX3_ok nmX3 hown hK hM hS (hob2) rfl 9 (by decide) (hts (.fieldLink RX3 40 "LimbCurves$Residues" "shift" "I") (by decide +kernel)) (fun _ h9 => h9) rfl (by decide +kernel) rfl rfl (Nat.le_of_ble_eq_true rfl) dX3_takeModulus_45 (fun H locs hM hS => ?_)
    have hM : xW D vwCl N0 (xset M2 r (oRes r (nI k) (nI z))) H := hM
    refine lv_iconst (v := nI 0) hx hb dX3_takeModulus_48 (by decide) ?_
    refine lv_istore_n (lv' := [(2, .int (nI 0)), (0, .ref r), (1, .ref num)]) hx hb dX3_takeModulus_49 rfl hl (by decide) rfl (fun ls hl => ?_)
    have hM' : xW D vwCl N0 (xset (xset M2 r (oRes r (nI k) (nI z))) (r + 2) (xI (kA 0) L f2)) H := by
      rw [xset_id (M := xset M2 r (oRes r (nI k) (nI z)))]
      · exact hM
      · rw [xset_n (by omega), ho2 _ (by omega) (by omega)]
        exact k2
    refine lp_divisor C xset_s (by rw [xset_n (by omega)]; exact hm2) nm (show z < 31 by omega) hL (fun f H locs ls hf hM hS => ?_) L 0 f2 H _ ls (by omega) (fun j hj => by omega) hM' hS (lv_sub hl [0, 1] rfl)
    refine lv_iconst (v := nI 1) hx hb dX3_takeModulus_83 (by decide) ?_
    have nd : nn f L := fun j hj => by
      rw [hf j hj]
      have := shl_lt fm 0 z j
      rw [nI_toInt (by omega)]
      omega
    have hdv := dv_facts hk0 hk hz ht (show z = 31 - bl (dg (fm (k - 1))) by omega) nd hf
    have hfr : ∀ b, b ≠ r → b ≠ r + 1 → b ≠ r + 2 → xset (xset M2 r (oRes r (nI k) (nI z))) (r + 2) (xI (kA 0) L f) b = M b := fun b h1 h2 h3 => by rw [xset_n h3, xset_n h1, ho2 b h1 h2]
    have hob3 : xset (xset M2 r (oRes r (nI k) (nI z))) (r + 2) (xI (kA 0) L f) r = some (oRes r (nI k) (nI z)) := by rw [xset_n (by omega), xset_s]
    have hm3 : xset (xset M2 r (oRes r (nI k) (nI z))) (r + 2) (xI (kA 0) L f) (r + 1) = some (xI (kA 0) L fm) := by rw [xset_n (by omega), xset_n (by omega)]; exact hm2
    rw [Vm] at hdv
    exact r_zret C hM hS rfl (⟨⟨⟨_, _, hob3⟩, ⟨_, hm3⟩, ⟨_, xset_s⟩, k3.kept (hfr _ (by omega) (by omega) (by omega)), k4.kept (hfr _ (by omega) (by omega) (by omega)), k5.kept (hfr _ (by omega) (by omega) (by omega)), k6.kept (hfr _ (by omega) (by omega) (by omega)), k7.kept (hfr _ (by omega) (by omega) (by omega)), k8.kept (hfr _ (by omega) (by omega) (by omega))⟩, hfr, Or.inr ⟨rfl, by have := hV.1; omega, k, z, fm, f, hob3, hm3, xset_s, nm, nd, Vm, hk0, hk, hz, ht, hdv.1, hdv.2.1, hdv.2.2.1, hdv.2.2.2⟩⟩) dX3_takeModulus_84
  · refine lv_iconst (v := nI 0) hx hb dX3_takeModulus_26 (by decide) ?_
    exact r_zret C hM hS rfl (⟨⟨⟨_, _, hob2⟩, ⟨_, hm2⟩, isA.kept ⟨_, k2⟩ (ho2 _ (by omega) (by omega)), k3.kept (ho2 _ (by omega) (by omega)), k4.kept (ho2 _ (by omega) (by omega)), k5.kept (ho2 _ (by omega) (by omega)), k6.kept (ho2 _ (by omega) (by omega)), k7.kept (ho2 _ (by omega) (by omega)), k8.kept (ho2 _ (by omega) (by omega))⟩, fun b h1 h2 _ => ho2 b h1 h2, Or.inl ⟨rfl, hV.1.mp hc⟩⟩) dX3_takeModulus_27
-- shiftWork
set_option maxRecDepth 100000 in
theorem lp_shiftWork {M : xM} {r n W0 sh : Nat} {g : Nat → Int32} {sz : Int32} (C : xC p s m args meth c cX3_shiftWork 5 ret RX3 wsX3_shiftWork D vwCl (xT kA) N0) (hob : M r = some (oRes r sz (nI sh))) (ng : nn g (n + 1)) (hnW : n < W0) (hW : W0 < 10000) (hsh : sh < 31)
    (hexit : ∀ (f : Nat → Int32) (H : Heap) (locs : List Loc) (ls : Array Slot), (∀ j, 0 < j → j ≤ n → f j = nI (shl g 0 sh j)) → f 0 = g 0 → (∀ j, n < j → f j = g j) → xW D vwCl N0 (xset M (r + 3) (xI (kA 0) W0 f)) H → va_S (xA N0) s.heap H locs → lv_has ls 5 [(0, .ref r)] → W p l e (xR 0) s m args below meth c H locs 0 0 Q (F0 m 60 ls [])) :
    ∀ (i : Nat) (f : Nat → Int32) (H : Heap) (locs : List Loc) (ls : Array Slot), i ≤ n → (∀ j, i < j → j ≤ n → f j = nI (shl g 0 sh j)) → (∀ j, j ≤ i → f j = g j) → (∀ j, n < j → f j = g j) → xW D vwCl N0 (xset M (r + 3) (xI (kA 0) W0 f)) H → va_S (xA N0) s.heap H locs → lv_has ls 5 [(2, .int (nI i)), (0, .ref r)] → W p l e (xR 0) s m args below meth c H locs 0 0 Q (F0 m 9 ls []) := by
  obtain ⟨hx, hb, hml, hown, hts, hr, hlocks, hK, hN⟩ := id C
  intro i
  induction i with
  | zero =>
    intro f H locs ls hi hf hg ht hM hS hl
    refine lv_iload_n hx hb dX3_shiftWork_9 rfl (lv_at hl 0 rfl) ?_
    refine r_if_leN (tgt := 60) C (by omega) dX3_shiftWork_10 (by decide) (fun hc => ?_) (fun hc => ?_)
    · exact hexit f H locs ls (fun j a b => hf j a b) (hg 0 (Nat.le_refl 0)) ht hM hS (lv_sub hl [1] rfl)
    · omega
  | succ i ih =>
    intro f H locs ls hi hf hg ht hM hS hl
    have hob1 : xset M (r + 3) (xI (kA 0) W0 f) r = some (oRes r sz (nI sh)) := by rw [xset_n (by omega)]; exact hob
    refine lv_iload_n hx hb dX3_shiftWork_9 rfl (lv_at hl 0 rfl) ?_
    refine r_if_leN (tgt := 60) C (by omega) dX3_shiftWork_10 (by decide) (fun hc => ?_) (fun hc => ?_)
    · omega
    · refine lv_aload_n hx hb dX3_shiftWork_13 rfl (lv_at hl 1 rfl) ?_
      refine x_get (v := .ref (r + 3)) hx hb hts in_X3_shiftWork_X3 hown hK hM (hob1) rfl 2 (by decide) (hts (.fieldLink RX3 18 "LimbCurves$Residues" "work" "[I") (by decide +kernel)) (fun _ h9 => h9) rfl dX3_shiftWork_14 ?_
      refine lv_iload_n hx hb dX3_shiftWork_17 rfl (lv_at hl 0 rfl) ?_
      refine r_iald C hM (xset_s) rfl (by omega) (by omega) dX3_shiftWork_18 ?_
      refine lv_i2l (v := (f (i + 1)).toInt64) hx hb dX3_shiftWork_19 rfl ?_
      refine lv_bipush (v := nI 31) hx hb dX3_shiftWork_20 (by decide) ?_
      refine lv_lshl (v := ((f (i + 1)).toInt64) <<< ((nI 31).toInt64 &&& 63)) hx hb dX3_shiftWork_22 rfl ?_
      refine lv_aload_n hx hb dX3_shiftWork_23 rfl (lv_at hl 1 rfl) ?_
      refine x_get (v := .ref (r + 3)) hx hb hts in_X3_shiftWork_X3 hown hK hM (hob1) rfl 2 (by decide) (hts (.fieldLink RX3 18 "LimbCurves$Residues" "work" "[I") (by decide +kernel)) (fun _ h9 => h9) rfl dX3_shiftWork_24 ?_
      refine lv_iload_n hx hb dX3_shiftWork_27 rfl (lv_at hl 0 rfl) ?_
      refine lv_iconst (v := nI 1) hx hb dX3_shiftWork_28 (by decide) ?_
      refine r_isubN C (Nat.le_add_left 1 _) dX3_shiftWork_29 ?_
      refine W.eq (g2 := F0 m 30 ls (.int (nI i) :: .ref (r + 3) :: .long (((f (i + 1)).toInt64) <<< ((nI 31).toInt64 &&& 63)) :: [])) rfl ?_
      refine r_iald C hM (xset_s) rfl (by omega) (by omega) dX3_shiftWork_30 ?_
      refine lv_i2l (v := (f i).toInt64) hx hb dX3_shiftWork_31 rfl ?_
      refine lv_lor hx hb dX3_shiftWork_32 ?_
      refine lv_topl (fun v_1 ev_1 => ?_)
      refine lv_lstore_n (lv' := [(3, .long v_1), (2, .int (nI (i + 1))), (0, .ref r)]) hx hb dX3_shiftWork_33 rfl hl (by decide) rfl (fun ls hl => ?_)
      refine lv_aload_n hx hb dX3_shiftWork_34 rfl (lv_at hl 2 rfl) ?_
      rw [hg (i + 1) (Nat.le_refl _), hg i (by omega), i2l_dg (ng (i + 1) (by omega)), i2l_dg (ng i (by omega))] at ev_1
      subst ev_1
      refine x_get (v := .ref (r + 3)) hx hb hts in_X3_shiftWork_X3 hown hK hM (hob1) rfl 2 (by decide) (hts (.fieldLink RX3 18 "LimbCurves$Residues" "work" "[I") (by decide +kernel)) (fun _ h9 => h9) rfl dX3_shiftWork_35 ?_
      refine lv_iload_n hx hb dX3_shiftWork_38 rfl (lv_at hl 1 rfl) ?_
      refine lv_lload_n hx hb dX3_shiftWork_39 rfl (lv_at hl 0 rfl) ?_
      refine lv_bipush (v := nI 31) hx hb dX3_shiftWork_40 (by decide) ?_
      refine lv_aload_n hx hb dX3_shiftWork_42 rfl (lv_at hl 2 rfl) ?_
      refine x_get (v := .int (nI sh)) hx hb hts in_X3_shiftWork_X3 hown hK hM (hob1) rfl 9 (by decide) (hts (.fieldLink RX3 40 "LimbCurves$Residues" "shift" "I") (by decide +kernel)) (fun _ h9 => h9) rfl dX3_shiftWork_43 ?_
      refine r_isubN C (by omega) dX3_shiftWork_46 ?_
      refine lv_lushr (v := (((lN (dg (g (i + 1))) <<< ((nI 31).toInt64 &&& 63)) ||| lN (dg (g i))).toUInt64 >>> ((nI (31 - sh)).toInt64.toUInt64 &&& Int64.toUInt64 63)).toInt64) hx hb dX3_shiftWork_47 rfl ?_
      refine lv_ldc2 (v := 2147483647) hx hb hown (hts (.constantLong RX3 90 (2147483647)) (by decide +kernel)) dX3_shiftWork_48 ?_
      refine lv_land hx hb dX3_shiftWork_51 ?_
      refine lv_l2i (v := (((((lN (dg (g (i + 1))) <<< ((nI 31).toInt64 &&& 63)) ||| lN (dg (g i))).toUInt64 >>> ((nI (31 - sh)).toInt64.toUInt64 &&& Int64.toUInt64 63)).toInt64) &&& 2147483647).toInt32) hx hb dX3_shiftWork_52 rfl ?_
      refine r_topi C (nI (shl g 0 sh (i + 1))) (by rw [shl_s]; exact pair_val (dg_lt _) (dg_lt _) (by omega)) ?_
      refine r_iast C hM hS (xset_s) rfl (by omega) (by omega) dX3_shiftWork_53 (fun H locs hM hS => ?_)
      rw [xset_xset] at hM
      refine lv_iinc (v := nI i) (lv' := [(2, .int (nI i)), (3, .long ((lN (dg (g (i + 1))) <<< ((nI 31).toInt64 &&& 63)) ||| lN (dg (g i)))), (0, .ref r)]) hx hb dX3_shiftWork_54 hl (k := 1) rfl (r_dec _) (by decide) rfl (fun ls hl => ?_)
      refine lv_goto (tgt := 9) hx hb dX3_shiftWork_57 (by decide) ?_
      refine ih (upd f (i + 1) (nI (shl g 0 sh (i + 1)))) H locs ls (by omega) (fun j a b => ?_) (fun j a => ?_) (fun j a => ?_) hM hS (lv_sub hl [0, 2] rfl)
      · by_cases h : j = i + 1
        · rw [h, pk_us]
        · rw [pk_un h]
          exact hf j (by omega) b
      · rw [pk_un (by omega)]
        exact hg j (by omega)
      · rw [pk_un (by omega)]
        exact ht j a
set_option maxRecDepth 100000 in
theorem c_shiftWork (l : Launch) (D : va_G) (kA : Nat → ClassId) (N0 : Nat) (M : xM) (r n W0 sh : Nat) (f : Nat → Int32) (sz : Int32) (hob : M r = some (oRes r sz (nI sh))) (hw : M (r + 3) = some (xI (kA 0) W0 f)) (nf : nn f n) (hnW : n < W0) (hW : W0 < 10000) (hsh : sh < 31) : cV l yX3_shiftWork wsX3_shiftWork (xR 0) [.ref r, .int (nI n)] D kA N0 M (fun M1 => ∃ f', M1 = xset M (r + 3) (xI (kA 0) W0 f') ∧ nn f' (n + 1) ∧ V f' (n + 1) = V f n * 2 ^ sh) := by
  refine r_met (cc := cX3_shiftWork) (maxL := 5) (ret := none) (by decide) rfl (Nat.le_of_ble_eq_true rfl) ?_
  intro p e s m below meth c ls C hM hnm hl
  obtain ⟨hx, hb, hml, hown, hts, hr, hlocks, hK, hN⟩ := id C
  have hS : va_S (xA N0) s.heap s.heap [] := va_S.rf
  have hl : lv_has ls 5 [(0, .ref r), (1, .int (nI n))] := hl
  refine lv_aload_n hx hb dX3_shiftWork_0 rfl (lv_at hl 0 rfl) ?_
  refine x_get (v := .ref (r + 3)) hx hb hts in_X3_shiftWork_X3 hown hK hM (hob) rfl 2 (by decide) (hts (.fieldLink RX3 18 "LimbCurves$Residues" "work" "[I") (by decide +kernel)) (fun _ h9 => h9) rfl dX3_shiftWork_1 ?_
  refine lv_iload_n hx hb dX3_shiftWork_4 rfl (lv_at hl 1 rfl) ?_
  refine lv_iconst (v := nI 0) hx hb dX3_shiftWork_5 (by decide) ?_
  refine r_iast C hM hS (hw) rfl (by omega) (by omega) dX3_shiftWork_6 (fun H locs hM hS => ?_)
  refine lv_iload_n hx hb dX3_shiftWork_7 rfl (lv_at hl 1 rfl) ?_
  refine lv_istore_n (lv' := [(2, .int (nI n)), (0, .ref r), (1, .int (nI n))]) hx hb dX3_shiftWork_8 rfl hl (by decide) rfl (fun ls hl => ?_)
  have ng : nn (upd f n (nI 0)) (n + 1) := fun j hj => by
    by_cases h : j = n
    · rw [h, pk_us]; decide
    · rw [pk_un h]; exact nf j (by omega)
  refine lp_shiftWork C hob ng hnW hW hsh (fun f' H locs ls h1 h2 h3 hM hS hl => ?_) n (upd f n (nI 0)) H _ ls (Nat.le_refl n) (fun j a b => by omega) (fun j a => rfl) (fun j a => rfl) hM hS (lv_sub hl [0, 1] rfl)
  have hob1 : xset M (r + 3) (xI (kA 0) W0 f') r = some (oRes r sz (nI sh)) := by rw [xset_n (by omega)]; exact hob
  refine lv_aload_n hx hb dX3_shiftWork_60 rfl (lv_at hl 0 rfl) ?_
  refine x_get (v := .ref (r + 3)) hx hb hts in_X3_shiftWork_X3 hown hK hM (hob1) rfl 2 (by decide) (hts (.fieldLink RX3 18 "LimbCurves$Residues" "work" "[I") (by decide +kernel)) (fun _ h9 => h9) rfl dX3_shiftWork_61 ?_
  refine lv_iconst (v := nI 0) hx hb dX3_shiftWork_64 (by decide) ?_
  refine lv_aload_n hx hb dX3_shiftWork_65 rfl (lv_at hl 0 rfl) ?_
  refine x_get (v := .ref (r + 3)) hx hb hts in_X3_shiftWork_X3 hown hK hM (hob1) rfl 2 (by decide) (hts (.fieldLink RX3 18 "LimbCurves$Residues" "work" "[I") (by decide +kernel)) (fun _ h9 => h9) rfl dX3_shiftWork_66 ?_
  refine lv_iconst (v := nI 0) hx hb dX3_shiftWork_69 (by decide) ?_
  refine r_iald C hM (xset_s) rfl (by omega) (by omega) dX3_shiftWork_70 ?_
  refine lv_i2l (v := (f' 0).toInt64) hx hb dX3_shiftWork_71 rfl ?_
  refine lv_aload_n hx hb dX3_shiftWork_72 rfl (lv_at hl 0 rfl) ?_
  refine x_get (v := .int (nI sh)) hx hb hts in_X3_shiftWork_X3 hown hK hM (hob1) rfl 9 (by decide) (hts (.fieldLink RX3 40 "LimbCurves$Residues" "shift" "I") (by decide +kernel)) (fun _ h9 => h9) rfl dX3_shiftWork_73 ?_
  rw [h2, i2l_dg (ng 0 (by omega))]
  refine lv_lshl (v := (lN (dg ((upd f n (nI 0)) 0))) <<< ((nI sh).toInt64 &&& 63)) hx hb dX3_shiftWork_76 rfl ?_
  refine lv_ldc2 (v := 2147483647) hx hb hown (hts (.constantLong RX3 90 (2147483647)) (by decide +kernel)) dX3_shiftWork_77 ?_
  refine lv_land hx hb dX3_shiftWork_80 ?_
  refine lv_l2i (v := (((lN (dg ((upd f n (nI 0)) 0))) <<< ((nI sh).toInt64 &&& 63)) &&& 2147483647).toInt32) hx hb dX3_shiftWork_81 rfl ?_
  refine r_topi C (nI (shl (upd f n (nI 0)) 0 sh 0)) (by rw [shl_0 _ hsh]; exact one_val (dg_lt _) hsh) ?_
  refine r_iast C hM hS (xset_s) rfl (by omega) (by omega) dX3_shiftWork_82 (fun H locs hM hS => ?_)
  rw [xset_xset] at hM
  have hall : ∀ j, j ≤ n → upd f' 0 (nI (shl (upd f n (nI 0)) 0 sh 0)) j = nI (shl (upd f n (nI 0)) 0 sh j) := fun j hj => by
    by_cases h : j = 0
    · rw [h, pk_us]
    · rw [pk_un h]; exact h1 j (by omega) hj
  have hV := V_sh hsh hall pk_us
  rw [V_upd_ge (Nat.le_refl n)] at hV
  exact r_vret C hM hS (⟨_, rfl, fun j hj => by rw [hall j (by omega)]; have := shl_lt (upd f n (nI 0)) 0 sh j; have hB : BB = 2147483648 := rfl; rw [nI_toInt (by omega)]; omega, hV⟩) dX3_shiftWork_83
end R2
