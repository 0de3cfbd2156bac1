theorem in_X5_combineModuloOrder_X5 : ∀ w ∈ wsX50, w ∈ wsX5_combineModuloOrder := by decide +kernel
theorem in_X5_isSignaturePart_X5 : ∀ w ∈ wsX50, w ∈ wsX5_isSignaturePart := by decide +kernel
theorem in_X5_reckon_X5 : ∀ w ∈ wsX50, w ∈ wsX5_reckon := by decide +kernel
/-- the order's residues are ready for n; left and right are rows; all else is as in M0 -/
def Os (kA : Nat → ClassId) (M0 M : xM) (h L n : Nat) : Prop := Rs kA M (h + 40) L n ∧ isA kA M (h + 40 + 3) (2 * L + 1) ∧ isA kA M (h + 40 + 4) L ∧ isA kA M (h + 40 + 5) L ∧ isA kA M (h + 40 + 6) L ∧ isA kA M (h + 40 + 7) L ∧ isA kA M (h + 40 + 8) L ∧ isA kA M (h + 71) L ∧ isA kA M (h + 72) L ∧ (∀ b, b < h + 40 ∨ (h + 48 < b ∧ b ≠ h + 71 ∧ b ≠ h + 72) → M b = M0 b)
section OSS
variable {kA : Nat → ClassId} {M0 M M1 : xM} {h L n sl pp : Nat}
theorem Os.rs (g : Os kA M0 M h L n) : Rs kA M (h + 40) L n := g.1
theorem Os.wk (g : Os kA M0 M h L n) : isA kA M (h + 40 + 3) (2 * L + 1) := g.2.1
theorem Os.lf (g : Os kA M0 M h L n) : isA kA M (h + 71) L := g.2.2.2.2.2.2.2.1
theorem Os.rt (g : Os kA M0 M h L n) : isA kA M (h + 72) L := g.2.2.2.2.2.2.2.2.1
theorem Os.fr (g : Os kA M0 M h L n) (b : Nat) (hb : b < h + 40 ∨ (h + 48 < b ∧ b ≠ h + 71 ∧ b ≠ h + 72)) : M b = M0 b := g.2.2.2.2.2.2.2.2.2 b hb
theorem Os.ini (d : Ds kA M h L sl pp) (hk : Rk kA M1 (h + 40) L) (hr : Rs kA M1 (h + 40) L n) (hf : ∀ b, b ≠ h + 40 → b ≠ h + 40 + 1 → b ≠ h + 40 + 2 → M1 b = M b) : Os kA M M1 h L n := by
  obtain ⟨-, -, -, -, -, -, -, lf, rt, -⟩ := d
  obtain ⟨-, -, -, k3, k4, k5, k6, k7, k8⟩ := hk
  exact ⟨hr, k3, k4, k5, k6, k7, k8, lf.kept (hf _ (by omega) (by omega) (by omega)), rt.kept (hf _ (by omega) (by omega) (by omega)), fun b hb => hf b (by omega) (by omega) (by omega)⟩
theorem Os.mul (g : Os kA M0 M h L n) {out : Nat} (ho : out = h + 71 ∨ out = h + 72) (hA : isA kA M1 out L) (hw : isA kA M1 (h + 40 + 3) (2 * L + 1)) (hf : ∀ b, b ≠ out → b ≠ h + 40 + 3 → M1 b = M b) : Os kA M0 M1 h L n := by
  obtain ⟨r, k3, k4, k5, k6, k7, k8, lf, rt, fr⟩ := g
  refine ⟨r.kept (hf _ (by omega) (by omega)) (hf _ (by omega) (by omega)) (hf _ (by omega) (by omega)), hw, k4.kept (hf _ (by omega) (by omega)), k5.kept (hf _ (by omega) (by omega)), k6.kept (hf _ (by omega) (by omega)), k7.kept (hf _ (by omega) (by omega)), k8.kept (hf _ (by omega) (by omega)), ?_, ?_, fun b hb => by rw [hf b (by omega) (by omega)]; exact fr b hb⟩
  · rcases ho with q | q
    · rw [← q]; exact hA
    · exact lf.kept (hf _ (by omega) (by omega))
  · rcases ho with q | q
    · exact rt.kept (hf _ (by omega) (by omega))
    · rw [← q]; exact hA
theorem Os.inv (g : Os kA M0 M h L n) {out : Nat} (ho : out = h + 71 ∨ out = h + 72) (hA : isA kA M1 out L) (h5 : isA kA M1 (h + 40 + 5) L) (h6 : isA kA M1 (h + 40 + 6) L) (h7 : isA kA M1 (h + 40 + 7) L) (h8 : isA kA M1 (h + 40 + 8) L) (hf : ∀ z, z < h + 40 + 5 ∨ h + 40 + 8 < z → z ≠ out → M1 z = M z) : Os kA M0 M1 h L n := by
  obtain ⟨r, k3, k4, k5, k6, k7, k8, lf, rt, fr⟩ := g
  refine ⟨r.kept (hf _ (by omega) (by omega)) (hf _ (by omega) (by omega)) (hf _ (by omega) (by omega)), k3.kept (hf _ (by omega) (by omega)), k4.kept (hf _ (by omega) (by omega)), h5, h6, h7, h8, ?_, ?_, fun b hb => by rw [hf b (by omega) (by omega)]; exact fr b hb⟩
  · rcases ho with q | q
    · rw [← q]; exact hA
    · exact lf.kept (hf _ (by omega) (by omega))
  · rcases ho with q | q
    · exact rt.kept (hf _ (by omega) (by omega))
    · rw [← q]; exact hA
theorem Os.ds (g : Os kA M0 M h L n) (d : Ds kA M0 h L sl pp) : Ds kA M h L sl pp := by
  have d0 := d
  obtain ⟨-, -, -, c1, -⟩ := d0
  obtain ⟨r, k3, k4, k5, k6, k7, k8, lf, rt, fr⟩ := g
  exact d.chg (r.rk k3 k4 k5 k6 k7 k8) (c1.kept (fr _ (by omega))) lf rt (fun b b1 b2 b3 b4 b5 => fr b (by omega))
end OSS
section ORD
variable {p : Program} {l : Launch} {e : Env} {R : Room} {s : State} {m : MethodId} {args : Array Value} {below : List Frame} {meth : Method} {c : Code} {Q : State → Prop} {cells slots : Nat} {ret : Option FieldType} {D : va_G} {kA : Nat → ClassId} {N0 : Nat}
set_option maxRecDepth 100000 in
theorem c_isSignaturePart (l : Launch) (D : va_G) (kA : Nat → ClassId) (N0 : Nat) (M : xM) (h ra v : Nat) (S : St) (d : Dc kA M h S) (hr : isN kA M ra S.L v) (hL : S.L ≤ 9) : cI l yX5_isSignaturePart wsX5_isSignaturePart (xR 2) [.ref h, .ref ra] D kA N0 M (fun q M1 => M1 = M ∧ ((q = 1 ∧ 0 < v ∧ v < S.a 3) ∨ (q = 0 ∧ ¬ (0 < v ∧ v < S.a 3)))) := by
  have hob := d.ob
  obtain ⟨f, hf, nf, Vf⟩ := hr
  obtain ⟨g, hg, ng, Vg⟩ := d.pa (s := 3) (by omega)
  obtain ⟨q1, hq1, hqi⟩ := d.q1
  have hq3 := hqi 3 (by omega)
  refine r_met (cc := cX5_isSignaturePart) (maxL := 2) (ret := (some .boolean)) (by decide) rfl (Nat.le_of_ble_eq_true rfl) ?_
  intro p e s m below meth c ls C hM hnm hl
  obtain ⟨hx, hb, hml, hown, hts, hr, hlocks, hK, hN⟩ := _root_.id C
  have hS : va_S (xA N0) s.heap s.heap [] := va_S.rf
  have hl : lv_has ls 2 [(0, .ref h), (1, .ref ra)] := hl
  refine lv_aload_n hx hb dX5_isSignaturePart_0 rfl (lv_at hl 1 rfl) ?_
  refine r_Si (As := [.ref ra]) (rest := []) C hM hS (c_isZero l D kA N0 M ra S.L f hf nf (by omega)) gX5_isSignaturePart_X1_isZero rfl rfl rfl ⟨by decide +kernel, by decide +kernel, (by decide +kernel : (parseMethodDescriptor yX1_isZero.desc).map (fun d => d.parameters.length) = some 1)⟩ ⟨Nat.le_of_ble_eq_true rfl, Nat.le_of_ble_eq_true rfl⟩ hl.1 rfl (Nat.le_of_ble_eq_true rfl) dX5_isSignaturePart_1 ⟨Nat.le_of_ble_eq_true rfl, Nat.le_of_ble_eq_true rfl⟩ (fun z M1 H locs hp hM hS => ?_)
  obtain ⟨eM, hz⟩ := hp
  rw [eM] at hM
  rw [Vf] at hz
  refine lv_if_ne (tgt := 24) hx hb dX5_isSignaturePart_4 (by decide) (fun hc => ?_) (fun hc => ?_)
  · have hv0 : v = 0 := by
      rcases hz with ⟨h1, h2⟩ | ⟨h1, h2⟩
      · exact h2
      · exact absurd h1 hc
    refine lv_iconst (v := nI 0) hx hb dX5_isSignaturePart_24 (by decide) ?_
    exact r_zret C hM hS rfl (⟨rfl, Or.inr ⟨rfl, fun q => by omega⟩⟩) dX5_isSignaturePart_25
  · have hv0 : 0 < v := by
      rcases hz with ⟨h1, h2⟩ | ⟨h1, h2⟩
      · rw [h1] at hc; exact absurd hc (by decide)
      · exact h2
    refine lv_aload_n hx hb dX5_isSignaturePart_7 rfl (lv_at hl 1 rfl) ?_
    refine lv_aload_n hx hb dX5_isSignaturePart_8 rfl (lv_at hl 0 rfl) ?_
    refine x_get (v := .ref (h + 1)) hx hb hts in_X5_isSignaturePart_X5 hown hK hM (hob) rfl 1 (by decide) (hts (.fieldLink RX5 24 "LimbCurves" "parameters" "[[I") (by decide +kernel)) (fun _ h9 => h9) rfl dX5_isSignaturePart_9 ?_
    refine lv_iconst (v := nI 3) hx hb dX5_isSignaturePart_12 (by decide) ?_
    refine r_aald (t0 := 3) C hM (hq1) rfl rfl (by omega) (by omega) (hq3) dX5_isSignaturePart_13 ?_
    refine r_Si (As := [.ref ra, .ref (h + 2 + 3)]) (rest := []) C hM hS (c_compare l D kA N0 M ra (h + 2 + 3) S.L f g hf hg nf ng (by omega)) gX5_isSignaturePart_X1_compare rfl rfl rfl ⟨by decide +kernel, by decide +kernel, (by decide +kernel : (parseMethodDescriptor yX1_compare.desc).map (fun d => d.parameters.length) = some 2)⟩ ⟨Nat.le_of_ble_eq_true rfl, Nat.le_of_ble_eq_true rfl⟩ hl.1 rfl (Nat.le_of_ble_eq_true rfl) dX5_isSignaturePart_14 ⟨Nat.le_of_ble_eq_true rfl, Nat.le_of_ble_eq_true rfl⟩ (fun w M1 H locs hp hM hS => ?_)
    obtain ⟨eM2, hw⟩ := hp
    rw [eM2] at hM
    rw [Vf, Vg] at hw
    refine lv_if_ge (tgt := 24) hx hb dX5_isSignaturePart_17 (by decide) (fun hc2 => ?_) (fun hc2 => ?_)
    · have hge : S.a 3 ≤ v := by
        rcases hw with ⟨h1, h2⟩ | ⟨h1, h2⟩ | ⟨h1, h2⟩
        · omega
        · rw [h1] at hc2; exact absurd hc2 (by decide)
        · omega
      refine lv_iconst (v := nI 0) hx hb dX5_isSignaturePart_24 (by decide) ?_
      exact r_zret C hM hS rfl (⟨rfl, Or.inr ⟨rfl, fun q => by omega⟩⟩) dX5_isSignaturePart_25
    · have hlt : v < S.a 3 := by
        rcases hw with ⟨h1, h2⟩ | ⟨h1, h2⟩ | ⟨h1, h2⟩
        · rw [h1] at hc2; exact absurd (by decide) hc2
        · exact h2
        · rw [h1] at hc2; exact absurd (by decide) hc2
      refine lv_iconst (v := nI 1) hx hb dX5_isSignaturePart_20 (by decide) ?_
      refine lv_goto (tgt := 25) hx hb dX5_isSignaturePart_21 (by decide) ?_
      exact r_zret C hM hS rfl (⟨rfl, Or.inl ⟨rfl, hv0, hlt⟩⟩) dX5_isSignaturePart_25
set_option maxRecDepth 100000 in
theorem c_combineMO (l : Launch) (D : va_G) (kA : Nat → ClassId) (N0 : Nat) (M0 M : xM) (h n u v w : Nat) (S : St) (d : Dc kA M h S) (hg : Os kA M0 M h S.L n) (hu : isN kA M (h + 71) S.L u) (hv : isN kA M (h + 72) S.L v) (hub : u < n) (hvb : v < n) (hw : w < 3) (hL : S.L ≤ 9) : cV l yX5_combineModuloOrder wsX5_combineModuloOrder (xR 3) [.ref h, .int (nI w)] D kA N0 M (fun M1 => Os kA M0 M1 h S.L n ∧ ∃ z, recR n u v (nI w) = some z ∧ isN kA M1 (h + 71) S.L z) := by
  have hob := d.ob
  obtain ⟨z9, y9, hrf⟩ := hg.rs.ob
  refine r_met (cc := cX5_combineModuloOrder) (maxL := 2) (ret := none) (by decide) rfl (Nat.le_of_ble_eq_true rfl) ?_
  intro p e s m below meth c ls C hM hnm hl
  obtain ⟨hx, hb, hml, hown, hts, hr, hlocks, hK, hN⟩ := _root_.id C
  have hS : va_S (xA N0) s.heap s.heap [] := va_S.rf
  have hl : lv_has ls 2 [(0, .ref h), (1, .int (nI w))] := hl
  refine lv_iload_n hx hb dX5_combineModuloOrder_0 rfl (lv_at hl 1 rfl) ?_
  refine r_if_neN (tgt := 26) C (by omega) dX5_combineModuloOrder_1 (by decide) (fun hc => ?_) (fun hc => ?_)
  · refine lv_iload_n hx hb dX5_combineModuloOrder_26 rfl (lv_at hl 1 rfl) ?_
    refine lv_iconst (v := nI 1) hx hb dX5_combineModuloOrder_27 (by decide) ?_
    refine r_icmp_neN (tgt := 53) C (by omega) (by omega) dX5_combineModuloOrder_28 (by decide) (fun hc1 => ?_) (fun hc1 => ?_)
    · have hw2 : w = 2 := by omega
      refine lv_iload_n hx hb dX5_combineModuloOrder_53 rfl (lv_at hl 1 rfl) ?_
      refine lv_iconst (v := nI 2) hx hb dX5_combineModuloOrder_54 (by decide) ?_
      refine r_icmp_neN (tgt := 77) C (by omega) (by omega) dX5_combineModuloOrder_55 (by decide) (fun hc2 => ?_) (fun hc2 => ?_)
      · omega
      · refine lv_aload_n hx hb dX5_combineModuloOrder_58 rfl (lv_at hl 0 rfl) ?_
        refine x_get (v := .ref (h + 40)) hx hb hts in_X5_combineModuloOrder_X5 hown hK hM (hob) rfl 4 (by decide) (hts (.fieldLink RX5 42 "LimbCurves" "order" "LLimbCurves$Residues;") (by decide +kernel)) (fun _ h9 => h9) rfl dX5_combineModuloOrder_59 ?_
        refine lv_aload_n hx hb dX5_combineModuloOrder_62 rfl (lv_at hl 0 rfl) ?_
        refine x_get (v := .ref (h + 71)) hx hb hts in_X5_combineModuloOrder_X5 hown hK hM (hob) rfl 7 (by decide) (hts (.fieldLink RX5 64 "LimbCurves" "left" "[I") (by decide +kernel)) (fun _ h9 => h9) rfl dX5_combineModuloOrder_63 ?_
        refine lv_aload_n hx hb dX5_combineModuloOrder_66 rfl (lv_at hl 0 rfl) ?_
        refine x_get (v := .ref (h + 71)) hx hb hts in_X5_combineModuloOrder_X5 hown hK hM (hob) rfl 7 (by decide) (hts (.fieldLink RX5 64 "LimbCurves" "left" "[I") (by decide +kernel)) (fun _ h9 => h9) rfl dX5_combineModuloOrder_67 ?_
        refine lv_aload_n hx hb dX5_combineModuloOrder_70 rfl (lv_at hl 0 rfl) ?_
        refine x_get (v := .ref (h + 72)) hx hb hts in_X5_combineModuloOrder_X5 hown hK hM (hob) rfl 8 (by decide) (hts (.fieldLink RX5 68 "LimbCurves" "right" "[I") (by decide +kernel)) (fun _ h9 => h9) rfl dX5_combineModuloOrder_71 ?_
        refine r_Vv (As := [.ref (h + 71), .ref (h + 71), .ref (h + 72)]) (rest := []) C hM hS (c_multiply l D kA N0 M (h + 40) S.L n (h + 71) (h + 71) (h + 72) u v hg.rs hg.wk hg.lf hu hv hub hvb (by omega) (by omega) (by omega) (by omega) (by omega)) (hrf) rfl gX5_combineModuloOrder_X3_multiply rfl rfl rfl ⟨rfl, by decide +kernel, by decide +kernel, (by decide +kernel : (parseMethodDescriptor yX3_multiply.desc).map (fun d => d.parameters.length) = some 3)⟩ ⟨Nat.le_of_ble_eq_true rfl, Nat.le_of_ble_eq_true rfl⟩ hl.1 rfl (Nat.le_of_ble_eq_true rfl) dX5_combineModuloOrder_74 ⟨Nat.le_of_ble_eq_true rfl, Nat.le_of_ble_eq_true rfl⟩ (fun M1 H locs hp hM hS => ?_)
        obtain ⟨q1, q2, q3⟩ := hp
        have hz : recR n u v (nI w) = some (u * v % n) := by rw [hw2]; rfl
        exact r_vret C hM hS (⟨hg.mul (Or.inl rfl) q1.isA q2 q3, _, hz, q1⟩) dX5_combineModuloOrder_77
    · have hw1 : w = 1 := by omega
      refine lv_aload_n hx hb dX5_combineModuloOrder_31 rfl (lv_at hl 0 rfl) ?_
      refine x_get (v := .ref (h + 40)) hx hb hts in_X5_combineModuloOrder_X5 hown hK hM (hob) rfl 4 (by decide) (hts (.fieldLink RX5 42 "LimbCurves" "order" "LLimbCurves$Residues;") (by decide +kernel)) (fun _ h9 => h9) rfl dX5_combineModuloOrder_32 ?_
      refine lv_aload_n hx hb dX5_combineModuloOrder_35 rfl (lv_at hl 0 rfl) ?_
      refine x_get (v := .ref (h + 71)) hx hb hts in_X5_combineModuloOrder_X5 hown hK hM (hob) rfl 7 (by decide) (hts (.fieldLink RX5 64 "LimbCurves" "left" "[I") (by decide +kernel)) (fun _ h9 => h9) rfl dX5_combineModuloOrder_36 ?_
      refine lv_aload_n hx hb dX5_combineModuloOrder_39 rfl (lv_at hl 0 rfl) ?_
      refine x_get (v := .ref (h + 71)) hx hb hts in_X5_combineModuloOrder_X5 hown hK hM (hob) rfl 7 (by decide) (hts (.fieldLink RX5 64 "LimbCurves" "left" "[I") (by decide +kernel)) (fun _ h9 => h9) rfl dX5_combineModuloOrder_40 ?_
      refine lv_aload_n hx hb dX5_combineModuloOrder_43 rfl (lv_at hl 0 rfl) ?_
      refine x_get (v := .ref (h + 72)) hx hb hts in_X5_combineModuloOrder_X5 hown hK hM (hob) rfl 8 (by decide) (hts (.fieldLink RX5 68 "LimbCurves" "right" "[I") (by decide +kernel)) (fun _ h9 => h9) rfl dX5_combineModuloOrder_44 ?_
      refine r_Vv (As := [.ref (h + 71), .ref (h + 71), .ref (h + 72)]) (rest := []) C hM hS (c_subtract l D kA N0 M (h + 40) S.L n (h + 71) (h + 71) (h + 72) u v (nI z9) (nI y9) hrf hg.rs.md hg.lf hu hv hub (by omega) (by omega) (by omega)) (hrf) rfl gX5_combineModuloOrder_X3_subtract rfl rfl rfl ⟨rfl, by decide +kernel, by decide +kernel, (by decide +kernel : (parseMethodDescriptor yX3_subtract.desc).map (fun d => d.parameters.length) = some 3)⟩ ⟨Nat.le_of_ble_eq_true rfl, Nat.le_of_ble_eq_true rfl⟩ hl.1 rfl (Nat.le_of_ble_eq_true rfl) dX5_combineModuloOrder_47 ⟨Nat.le_of_ble_eq_true rfl, Nat.le_of_ble_eq_true rfl⟩ (fun M1 H locs hp hM hS => ?_)
      obtain ⟨q1, q3⟩ := hp
      have hz : recR n u v (nI w) = some ((u + (n - v)) % n) := by rw [hw1]; rfl
      refine lv_goto (tgt := 77) hx hb dX5_combineModuloOrder_50 (by decide) ?_
      exact r_vret C hM hS (⟨hg.mul (Or.inl rfl) q1.isA (hg.wk.kept (q3 _ (by omega))) (fun b b1 _ => q3 b b1), _, hz, q1⟩) dX5_combineModuloOrder_77
  · have hw0 : w = 0 := by omega
    refine lv_aload_n hx hb dX5_combineModuloOrder_4 rfl (lv_at hl 0 rfl) ?_
    refine x_get (v := .ref (h + 40)) hx hb hts in_X5_combineModuloOrder_X5 hown hK hM (hob) rfl 4 (by decide) (hts (.fieldLink RX5 42 "LimbCurves" "order" "LLimbCurves$Residues;") (by decide +kernel)) (fun _ h9 => h9) rfl dX5_combineModuloOrder_5 ?_
    refine lv_aload_n hx hb dX5_combineModuloOrder_8 rfl (lv_at hl 0 rfl) ?_
    refine x_get (v := .ref (h + 71)) hx hb hts in_X5_combineModuloOrder_X5 hown hK hM (hob) rfl 7 (by decide) (hts (.fieldLink RX5 64 "LimbCurves" "left" "[I") (by decide +kernel)) (fun _ h9 => h9) rfl dX5_combineModuloOrder_9 ?_
    refine lv_aload_n hx hb dX5_combineModuloOrder_12 rfl (lv_at hl 0 rfl) ?_
    refine x_get (v := .ref (h + 71)) hx hb hts in_X5_combineModuloOrder_X5 hown hK hM (hob) rfl 7 (by decide) (hts (.fieldLink RX5 64 "LimbCurves" "left" "[I") (by decide +kernel)) (fun _ h9 => h9) rfl dX5_combineModuloOrder_13 ?_
    refine lv_aload_n hx hb dX5_combineModuloOrder_16 rfl (lv_at hl 0 rfl) ?_
    refine x_get (v := .ref (h + 72)) hx hb hts in_X5_combineModuloOrder_X5 hown hK hM (hob) rfl 8 (by decide) (hts (.fieldLink RX5 68 "LimbCurves" "right" "[I") (by decide +kernel)) (fun _ h9 => h9) rfl dX5_combineModuloOrder_17 ?_
    refine r_Vv (As := [.ref (h + 71), .ref (h + 71), .ref (h + 72)]) (rest := []) C hM hS (c_add l D kA N0 M (h + 40) S.L n (h + 71) (h + 71) (h + 72) u v hg.rs hg.lf hu hv hub hvb (by omega) (by omega)) (hrf) rfl gX5_combineModuloOrder_X3_add rfl rfl rfl ⟨rfl, by decide +kernel, by decide +kernel, (by decide +kernel : (parseMethodDescriptor yX3_add.desc).map (fun d => d.parameters.length) = some 3)⟩ ⟨Nat.le_of_ble_eq_true rfl, Nat.le_of_ble_eq_true rfl⟩ hl.1 rfl (Nat.le_of_ble_eq_true rfl) dX5_combineModuloOrder_20 ⟨Nat.le_of_ble_eq_true rfl, Nat.le_of_ble_eq_true rfl⟩ (fun M1 H locs hp hM hS => ?_)
    obtain ⟨q1, q3⟩ := hp
    have hz : recR n u v (nI w) = some ((u + v) % n) := by rw [hw0]; rfl
    refine lv_goto (tgt := 77) hx hb dX5_combineModuloOrder_23 (by decide) ?_
    exact r_vret C hM hS (⟨hg.mul (Or.inl rfl) q1.isA (hg.wk.kept (q3 _ (by omega))) (fun b b1 _ => q3 b b1), _, hz, q1⟩) dX5_combineModuloOrder_77
set_option maxRecDepth 100000 in
theorem re_121 {M0 M : xM} {h dd z n : Nat} {S : St} {H : Heap} {locs : List Loc} {ls : Array Slot} {x1 x3 x4 : Int32} {post : Int32 → xM → Prop} (C : xC p s m args meth c cX5_reckon 5 (some .boolean) RX5 wsX5_reckon D vwCl (xT kA) N0) (hM : xW D vwCl N0 M H) (hS : va_S (xA N0) s.heap H locs) (hl : lv_has ls 5 [(0, .ref h), (1, .int x1), (2, .int (nI dd)), (3, .int x3), (4, .int x4)]) (d : Dc kA M h S) (hg : Os kA M0 M h S.L n) (hz : isN kA M (h + 71) S.L z) (hd1 : 12 ≤ dd) (hd2 : dd < 20) (hL : S.L ≤ 9) (hpost : ∀ M1, Dc kA M1 h (endf (mkS S.L (un S.a dd z) S.b S.pr S.sealed S.fed S.fl) dd) → (∀ b, b < h ∨ h + 39 < b → M1 b = M b) → post 1 M1) : W p l e (xR 4) s m args below meth c H locs 0 0 (MQ below (va_Qi post (xB D vwCl (xT kA) N0) (xA N0)) args s 0 0 (xA N0)) (F0 m 121 ls []) := by
  have hob := d.ob
  obtain ⟨hx, hb, hml, hown, hts, hr, hlocks, hK, hN⟩ := _root_.id C
  refine lv_aload_n hx hb dX5_reckon_121 rfl (lv_at hl 0 rfl) ?_
  refine lv_iload_n hx hb dX5_reckon_122 rfl (lv_at hl 2 rfl) ?_
  refine r_VrQ (As := [.int (nI dd)]) (rest := []) C hM hS (c_scalarIn l D kA N0 M h dd S d hd1 hd2) (hob) rfl gX5_reckon_X5_scalarIn rfl rfl rfl ⟨rfl, by decide +kernel, by decide +kernel, (by decide +kernel : (parseMethodDescriptor yX5_scalarIn.desc).map (fun d => d.parameters.length) = some 1)⟩ ⟨Nat.le_of_ble_eq_true rfl, Nat.le_of_ble_eq_true rfl⟩ hl.1 rfl (Nat.le_of_ble_eq_true rfl) dX5_reckon_123 ⟨Nat.le_of_ble_eq_true rfl, Nat.le_of_ble_eq_true rfl⟩ (fun rk M4 H locs hp hM hS => ?_)
  obtain ⟨eM4, erk⟩ := hp
  have eM4 : M4 = M := eM4
  have erk : rk = (h + 32 + (dd - 12)) := erk
  rw [eM4] at hM
  rw [erk]
  obtain ⟨fz, hfz, nz, Vz⟩ := hz
  obtain ⟨fd, hfd, nd, Vd⟩ := d.sc hd1 hd2
  refine lv_aload_n hx hb dX5_reckon_126 rfl (lv_at hl 0 rfl) ?_
  refine x_get (v := .ref (h + 71)) hx hb hts in_X5_reckon_X5 hown hK hM (hob) rfl 7 (by decide) (hts (.fieldLink RX5 64 "LimbCurves" "left" "[I") (by decide +kernel)) (fun _ h9 => h9) rfl dX5_reckon_127 ?_
  refine r_Sv (As := [.ref (h + 32 + (dd - 12)), .ref (h + 71)]) (rest := []) C hM hS (c_copy l D kA N0 M ((h + 32 + (dd - 12))) (h + 71) S.L fd fz hfd hfz (by omega)) gX5_reckon_X1_copy rfl rfl rfl ⟨by decide +kernel, by decide +kernel, (by decide +kernel : (parseMethodDescriptor yX1_copy.desc).map (fun d => d.parameters.length) = some 2)⟩ ⟨Nat.le_of_ble_eq_true rfl, Nat.le_of_ble_eq_true rfl⟩ hl.1 rfl (Nat.le_of_ble_eq_true rfl) dX5_reckon_130 ⟨Nat.le_of_ble_eq_true rfl, Nat.le_of_ble_eq_true rfl⟩ (fun M1 H locs hp hM hS => ?_)
  obtain ⟨g1, eM1, a1⟩ := hp
  have d1 : Dc kA M1 h (mkS S.L (un S.a dd z) S.b S.pr S.sealed S.fed S.fl) := d.wrN (w := (h + 32 + (dd - 12))) (Or.inr ⟨hd1, hd2, rfl⟩) ⟨g1, by rw [eM1, xset_s], fun j hj => by rw [a1 j hj]; exact nz j hj, by rw [V_congr a1]; exact Vz⟩ (fun _ _ _ => ⟨rfl, rfl⟩) (fun b b1 b2 b3 => by rw [eM1, xset_n b3])
  have hob1 := d1.ob
  refine lv_aload_n hx hb dX5_reckon_133 rfl (lv_at hl 0 rfl) ?_
  refine lv_iload_n hx hb dX5_reckon_134 rfl (lv_at hl 2 rfl) ?_
  refine r_Vv (As := [.int (nI dd)]) (rest := []) C hM hS (c_endFeeding l D kA N0 M1 h dd _ d1 hd2) (hob1) rfl gX5_reckon_X5_endFeeding rfl rfl rfl ⟨rfl, by decide +kernel, by decide +kernel, (by decide +kernel : (parseMethodDescriptor yX5_endFeeding.desc).map (fun d => d.parameters.length) = some 1)⟩ ⟨Nat.le_of_ble_eq_true rfl, Nat.le_of_ble_eq_true rfl⟩ hl.1 rfl (Nat.le_of_ble_eq_true rfl) dX5_reckon_135 ⟨Nat.le_of_ble_eq_true rfl, Nat.le_of_ble_eq_true rfl⟩ (fun M2 H locs hp hM hS => ?_)
  obtain ⟨d2, hf2⟩ := hp
  refine lv_iconst (v := nI 1) hx hb dX5_reckon_138 (by decide) ?_
  exact r_zret C hM hS rfl (hpost _ d2 (fun b hb => by rw [hf2 b (by omega), eM1, xset_n (by omega)])) dX5_reckon_139
set_option maxRecDepth 100000 in
theorem c_reckon (l : Launch) (D : va_G) (kA : Nat → ClassId) (N0 : Nat) (M : xM) (h : Nat) (S : St) (w a x y : Int32) (dk : Dk kA M h S) : cI l yX5_reckon wsX5_reckon (xR 4) [.ref h, .int w, .int a, .int x, .int y] D kA N0 M (fun v M1 => v = (spRec S w a x y).1 ∧ Dk kA M1 h (spRec S w a x y).2 ∧ ∀ b, b < h ∨ h + 75 < b → M1 b = M b) := by
  have hsi' := Si_rec dk.1 w a x y
  have dk0 := dk
  obtain ⟨hsi, d, ds⟩ := dk
  have hob := d.ob
  have hL0 := hsi.L1
  have hL9 := hsi.L9
  have hno : ∀ (v : Int32) (M1 : xM), Dk kA M1 h S → (∀ b, b < h ∨ h + 75 < b → M1 b = M b) → ¬ (0 ≤ w.toInt ∧ w.toInt ≤ 3 ∧ isSc a ∧ isSc x ∧ (w.toInt < 3 → isSc y) ∧ 0 < S.a 3) → v = 0 → v = (spRec S w a x y).1 ∧ Dk kA M1 h (spRec S w a x y).2 ∧ ∀ b, b < h ∨ h + 75 < b → M1 b = M b := fun v M1 k1 k2 q ev => by
    unfold spRec
    rw [if_neg q]
    exact ⟨ev, k1, k2⟩
  refine r_met (cc := cX5_reckon) (maxL := 5) (ret := (some .boolean)) (by decide) rfl (Nat.le_of_ble_eq_true rfl) ?_
  intro p e s m below meth c ls C hM hnm hl
  obtain ⟨hx, hb, hml, hown, hts, hr, hlocks, hK, hN⟩ := _root_.id C
  have hS : va_S (xA N0) s.heap s.heap [] := va_S.rf
  have hl : lv_has ls 5 [(0, .ref h), (1, .int w), (2, .int a), (3, .int x), (4, .int y)] := hl
  have t3 : (nI 3).toInt = 3 := by decide
  refine lv_iload_n hx hb dX5_reckon_0 rfl (lv_at hl 1 rfl) ?_
  refine lv_if_lt (tgt := 23) hx hb dX5_reckon_1 (by decide) (fun hc0 => ?_) (fun hc0 => ?_)
  · rw [ilt, t_0] at hc0
    refine lv_iconst (v := nI 0) hx hb dX5_reckon_23 (by decide) ?_
    exact r_zret C hM hS rfl (hno _ M dk0 (fun _ _ => rfl) (fun q => by have := q.1; omega) rfl) dX5_reckon_24
  · rw [ilt, t_0] at hc0
    refine lv_iload_n hx hb dX5_reckon_4 rfl (lv_at hl 1 rfl) ?_
    refine lv_iconst (v := nI 3) hx hb dX5_reckon_5 (by decide) ?_
    refine lv_icmp_gt (tgt := 23) hx hb dX5_reckon_6 (by decide) (fun hc3 => ?_) (fun hc3 => ?_)
    · rw [ilt, t3] at hc3
      refine lv_iconst (v := nI 0) hx hb dX5_reckon_23 (by decide) ?_
      exact r_zret C hM hS rfl (hno _ M dk0 (fun _ _ => rfl) (fun q => by have := q.2.1; omega) rfl) dX5_reckon_24
    · rw [ilt, t3] at hc3
      have hwe := ix_eq (x := w) (by omega)
      have hwi := ix_int (x := w) (by omega)
      refine lv_iload_n hx hb dX5_reckon_9 rfl (lv_at hl 2 rfl) ?_
      refine r_Si (As := [.int a]) (rest := []) C hM hS (c_isScalar l D kA N0 M a) gX5_reckon_X5_isScalar rfl rfl rfl ⟨by decide +kernel, by decide +kernel, (by decide +kernel : (parseMethodDescriptor yX5_isScalar.desc).map (fun d => d.parameters.length) = some 1)⟩ ⟨Nat.le_of_ble_eq_true rfl, Nat.le_of_ble_eq_true rfl⟩ hl.1 rfl (Nat.le_of_ble_eq_true rfl) dX5_reckon_10 ⟨Nat.le_of_ble_eq_true rfl, Nat.le_of_ble_eq_true rfl⟩ (fun v1 M1 H locs hp hM hS => ?_)
      obtain ⟨eM1, hv1⟩ := hp
      rw [eM1] at hM
      refine lv_if_eq (tgt := 23) hx hb dX5_reckon_13 (by decide) (fun hc1 => ?_) (fun hc1 => ?_)
      · have hn : ¬ isSc a := by
          rcases hv1 with ⟨h1, h2⟩ | ⟨h1, h2⟩
          · rw [h1] at hc1; exact absurd hc1 (by decide)
          · exact h2
        refine lv_iconst (v := nI 0) hx hb dX5_reckon_23 (by decide) ?_
        exact r_zret C hM hS rfl (hno _ M dk0 (fun _ _ => rfl) (fun q => hn q.2.2.1) rfl) dX5_reckon_24
      · have hsa : isSc a := by
          rcases hv1 with ⟨h1, h2⟩ | ⟨h1, h2⟩
          · exact h2
          · exact absurd h1 hc1
        refine lv_iload_n hx hb dX5_reckon_16 rfl (lv_at hl 3 rfl) ?_
        refine r_Si (As := [.int x]) (rest := []) C hM hS (c_isScalar l D kA N0 M x) gX5_reckon_X5_isScalar rfl rfl rfl ⟨by decide +kernel, by decide +kernel, (by decide +kernel : (parseMethodDescriptor yX5_isScalar.desc).map (fun d => d.parameters.length) = some 1)⟩ ⟨Nat.le_of_ble_eq_true rfl, Nat.le_of_ble_eq_true rfl⟩ hl.1 rfl (Nat.le_of_ble_eq_true rfl) dX5_reckon_17 ⟨Nat.le_of_ble_eq_true rfl, Nat.le_of_ble_eq_true rfl⟩ (fun v2 M2 H locs hp hM hS => ?_)
        obtain ⟨eM2, hv2⟩ := hp
        rw [eM2] at hM
        refine lv_if_ne (tgt := 25) hx hb dX5_reckon_20 (by decide) (fun hc2 => ?_) (fun hc2 => ?_)
        · have hsx : isSc x := by
            rcases hv2 with ⟨h1, h2⟩ | ⟨h1, h2⟩
            · exact h2
            · exact absurd h1 hc2
          have har := sc_ix hsa
          have hae := ix_eq (x := a) (by omega)
          have hxr := sc_ix hsx
          have hxe := ix_eq (x := x) (by omega)
          have hl : lv_has ls 5 [(0, .ref h), (1, .int (nI (ix w))), (2, .int (nI (ix a))), (3, .int (nI (ix x))), (4, .int y)] := by rw [← hwe, ← hae, ← hxe]; exact hl
          have hmain : (w.toInt < 3 → isSc y) → ∀ (H : Heap) (locs : List Loc), xW D vwCl N0 M H → va_S (xA N0) s.heap H locs → W p l e (xR 4) s m [.ref h, .int w, .int a, .int x, .int y].toArray below meth c H locs 0 0 (MQ below (va_Qi (fun v M1 => v = (spRec S w a x y).1 ∧ Dk kA M1 h (spRec S w a x y).2 ∧ ∀ b, b < h ∨ h + 75 < b → M1 b = M b) (xB D vwCl (xT kA) N0) (xA N0)) [.ref h, .int w, .int a, .int x, .int y].toArray s 0 0 (xA N0)) (F0 m 40 ls []) := by
            intro hsy H locs hM hS
            obtain ⟨q1, hq1, hqi⟩ := d.q1
            have hq3 := hqi 3 (by omega)
            have hN := d.pa (s := 3) (by omega)
            have hok := ds.1
            obtain ⟨oz1, oz2, hrf⟩ := hok.1
            refine lv_aload_n hx hb dX5_reckon_40 rfl (lv_at hl 0 rfl) ?_
            refine x_get (v := .ref (h + 40)) hx hb hts in_X5_reckon_X5 hown hK hM (hob) rfl 4 (by decide) (hts (.fieldLink RX5 42 "LimbCurves" "order" "LLimbCurves$Residues;") (by decide +kernel)) (fun _ h9 => h9) rfl dX5_reckon_41 ?_
            refine lv_aload_n hx hb dX5_reckon_44 rfl (lv_at hl 0 rfl) ?_
            refine x_get (v := .ref (h + 1)) hx hb hts in_X5_reckon_X5 hown hK hM (hob) rfl 1 (by decide) (hts (.fieldLink RX5 24 "LimbCurves" "parameters" "[[I") (by decide +kernel)) (fun _ h9 => h9) rfl dX5_reckon_45 ?_
            refine lv_iconst (v := nI 3) hx hb dX5_reckon_48 (by decide) ?_
            refine r_aald (t0 := 3) C hM (hq1) rfl rfl (by omega) (by omega) (hq3) dX5_reckon_49 ?_
            refine r_Vi (As := [.ref (h + 2 + 3)]) (rest := []) C hM hS (c_takeModulus l D kA N0 M (h + 40) S.L (h + 2 + 3) (S.a 3) hok hN (by omega)) (hrf) rfl gX5_reckon_X3_takeModulus rfl rfl rfl ⟨rfl, by decide +kernel, by decide +kernel, (by decide +kernel : (parseMethodDescriptor yX3_takeModulus.desc).map (fun d => d.parameters.length) = some 1)⟩ ⟨Nat.le_of_ble_eq_true rfl, Nat.le_of_ble_eq_true rfl⟩ hl.1 rfl (Nat.le_of_ble_eq_true rfl) dX5_reckon_50 ⟨Nat.le_of_ble_eq_true rfl, Nat.le_of_ble_eq_true rfl⟩ (fun qm M3 H locs hp hM hS => ?_)
            obtain ⟨hk3, hf3, hqm⟩ := hp
            have d3 : Dc kA M3 h S := d.kept (fun b b1 b2 => hf3 b (by omega) (by omega) (by omega))
            have hob3 := d3.ob
            refine lv_if_ne (tgt := 58) hx hb dX5_reckon_53 (by decide) (fun hc4 => ?_) (fun hc4 => ?_)
            · obtain ⟨hn0, hRs⟩ : 0 < S.a 3 ∧ Rs kA M3 (h + 40) S.L (S.a 3) := by
                rcases hqm with ⟨h1, h2⟩ | ⟨h1, h2, h3⟩
                · exact absurd h1 hc4
                · exact ⟨h2, h3⟩
              have hcond : 0 ≤ w.toInt ∧ w.toInt ≤ 3 ∧ isSc a ∧ isSc x ∧ (w.toInt < 3 → isSc y) ∧ 0 < S.a 3 := ⟨by omega, by omega, hsa, hsx, hsy, hn0⟩
              have hg := Os.ini ds hk3 hRs hf3
              obtain ⟨z9, y9, hrf3⟩ := hRs.ob
              have hfin : ∀ (z : Nat) (M4 M5 : xM), recR (S.a 3) (S.a (ix x) % S.a 3) (S.a (ix y) % S.a 3) w = some z → Os kA M M4 h S.L (S.a 3) → Dc kA M5 h (endf (mkS S.L (un S.a (ix a) z) S.b S.pr S.sealed S.fed S.fl) (ix a)) → (∀ b, b < h ∨ h + 39 < b → M5 b = M4 b) → (1 : Int32) = (spRec S w a x y).1 ∧ Dk kA M5 h (spRec S w a x y).2 ∧ ∀ b, b < h ∨ h + 75 < b → M5 b = M b := fun z M4 M5 hr4 hg4 d5 hf5 => by
                have hsp : spRec S w a x y = (1, endf (mkS S.L (un S.a (ix a) z) S.b S.pr S.sealed S.fed S.fl) (ix a)) := by
                  unfold spRec
                  rw [if_pos hcond, hr4]
                rw [hsp] at hsi' ⊢
                refine ⟨rfl, ⟨hsi', d5, ?_⟩, fun b hb => by rw [hf5 b (by omega), hg4.fr b (by omega)]⟩
                have hwE : ∀ S1 : St, (endf S1 (ix a)).L = S1.L ∧ (endf S1 (ix a)).sealed = S1.sealed ∧ (endf S1 (ix a)).a = S1.a := fun S1 => by
                  by_cases q : S1.fed = ix a
                  · rw [endf_y q]; exact ⟨rfl, rfl, rfl⟩
                  · rw [endf_n q]; exact ⟨rfl, rfl, rfl⟩
                obtain ⟨w1, w2, w3⟩ := hwE (mkS S.L (un S.a (ix a) z) S.b S.pr S.sealed S.fed S.fl)
                show Ds kA M5 h (endf (mkS S.L (un S.a (ix a) z) S.b S.pr S.sealed S.fed S.fl) (ix a)).L (endf (mkS S.L (un S.a (ix a) z) S.b S.pr S.sealed S.fed S.fl) (ix a)).sealed ((endf (mkS S.L (un S.a (ix a) z) S.b S.pr S.sealed S.fed S.fl) (ix a)).a 0)
                rw [w1, w2, w3, mk_L, mk_sl, mk_a, un_n (by omega)]
                exact (hg4.ds ds).kept (fun b b1 b2 => hf5 b (by omega))
              refine lv_aload_n hx hb dX5_reckon_58 rfl (lv_at hl 0 rfl) ?_
              refine x_get (v := .ref (h + 40)) hx hb hts in_X5_reckon_X5 hown hK hM (hob3) rfl 4 (by decide) (hts (.fieldLink RX5 42 "LimbCurves" "order" "LLimbCurves$Residues;") (by decide +kernel)) (fun _ h9 => h9) rfl dX5_reckon_59 ?_
              refine lv_aload_n hx hb dX5_reckon_62 rfl (lv_at hl 0 rfl) ?_
              refine x_get (v := .ref (h + 71)) hx hb hts in_X5_reckon_X5 hown hK hM (hob3) rfl 7 (by decide) (hts (.fieldLink RX5 64 "LimbCurves" "left" "[I") (by decide +kernel)) (fun _ h9 => h9) rfl dX5_reckon_63 ?_
              refine lv_aload_n hx hb dX5_reckon_66 rfl (lv_at hl 0 rfl) ?_
              refine lv_iload_n hx hb dX5_reckon_67 rfl (lv_at hl 3 rfl) ?_
              refine r_VrQ (As := [.int (nI (ix x))]) (rest := [.ref (h + 71), .ref (h + 40)]) C hM hS (c_scalarIn l D kA N0 M3 h (ix x) S d3 hxr.1 hxr.2) (hob3) rfl gX5_reckon_X5_scalarIn rfl rfl rfl ⟨rfl, by decide +kernel, by decide +kernel, (by decide +kernel : (parseMethodDescriptor yX5_scalarIn.desc).map (fun d => d.parameters.length) = some 1)⟩ ⟨Nat.le_of_ble_eq_true rfl, Nat.le_of_ble_eq_true rfl⟩ hl.1 rfl (Nat.le_of_ble_eq_true rfl) dX5_reckon_68 ⟨Nat.le_of_ble_eq_true rfl, Nat.le_of_ble_eq_true rfl⟩ (fun rk M4 H locs hp hM hS => ?_)
              obtain ⟨eM4, erk⟩ := hp
              have eM4 : M4 = M3 := eM4
              have erk : rk = (h + 32 + ((ix x) - 12)) := erk
              rw [eM4] at hM
              rw [erk]
              refine r_Vv (As := [.ref (h + 71), .ref (h + 32 + ((ix x) - 12))]) (rest := []) C hM hS (c_reduce l D kA N0 M3 (h + 40) S.L (S.a 3) (h + 71) ((h + 32 + ((ix x) - 12))) (S.a (ix x)) hg.rs hg.wk hg.lf (d3.sc hxr.1 hxr.2) (by omega) (by omega) (by omega) (by omega)) (hrf3) rfl gX5_reckon_X3_reduce rfl rfl rfl ⟨rfl, by decide +kernel, by decide +kernel, (by decide +kernel : (parseMethodDescriptor yX3_reduce.desc).map (fun d => d.parameters.length) = some 2)⟩ ⟨Nat.le_of_ble_eq_true rfl, Nat.le_of_ble_eq_true rfl⟩ hl.1 rfl (Nat.le_of_ble_eq_true rfl) dX5_reckon_71 ⟨Nat.le_of_ble_eq_true rfl, Nat.le_of_ble_eq_true rfl⟩ (fun M5 H locs hp hM hS => ?_)
              obtain ⟨q5, q6, q7⟩ := hp
              have hg5 : Os kA M M5 h S.L (S.a 3) := hg.mul (Or.inl rfl) q5.isA q6 q7
              have d5 : Dc kA M5 h S := d.kept (fun b b1 b2 => hg5.fr b (by omega))
              have hob5 := d5.ob
              have hub : S.a (ix x) % S.a 3 < S.a 3 := Nat.mod_lt _ hn0
              obtain ⟨z5, y5, hrf5⟩ := hg5.rs.ob
              refine lv_iload_n hx hb dX5_reckon_74 rfl (lv_at hl 1 rfl) ?_
              refine lv_iconst (v := nI 3) hx hb dX5_reckon_75 (by decide) ?_
              refine r_icmp_neN (tgt := 99) C (by omega) (by omega) dX5_reckon_76 (by decide) (fun hc5 => ?_) (fun hc5 => ?_)
              · have hsy2 := hsy (by omega)
                have hyr := sc_ix hsy2
                have hye := ix_eq (x := y) (by omega)
                have hl : lv_has ls 5 [(0, .ref h), (1, .int (nI (ix w))), (2, .int (nI (ix a))), (3, .int (nI (ix x))), (4, .int (nI (ix y)))] := by rw [← hye]; exact hl
                refine lv_aload_n hx hb dX5_reckon_99 rfl (lv_at hl 0 rfl) ?_
                refine x_get (v := .ref (h + 40)) hx hb hts in_X5_reckon_X5 hown hK hM (hob5) rfl 4 (by decide) (hts (.fieldLink RX5 42 "LimbCurves" "order" "LLimbCurves$Residues;") (by decide +kernel)) (fun _ h9 => h9) rfl dX5_reckon_100 ?_
                refine lv_aload_n hx hb dX5_reckon_103 rfl (lv_at hl 0 rfl) ?_
                refine x_get (v := .ref (h + 72)) hx hb hts in_X5_reckon_X5 hown hK hM (hob5) rfl 8 (by decide) (hts (.fieldLink RX5 68 "LimbCurves" "right" "[I") (by decide +kernel)) (fun _ h9 => h9) rfl dX5_reckon_104 ?_
                refine lv_aload_n hx hb dX5_reckon_107 rfl (lv_at hl 0 rfl) ?_
                refine lv_iload hx hb dX5_reckon_108 (lv_at hl 4 rfl) ?_
                refine r_VrQ (As := [.int (nI (ix y))]) (rest := [.ref (h + 72), .ref (h + 40)]) C hM hS (c_scalarIn l D kA N0 M5 h (ix y) S d5 hyr.1 hyr.2) (hob5) rfl gX5_reckon_X5_scalarIn rfl rfl rfl ⟨rfl, by decide +kernel, by decide +kernel, (by decide +kernel : (parseMethodDescriptor yX5_scalarIn.desc).map (fun d => d.parameters.length) = some 1)⟩ ⟨Nat.le_of_ble_eq_true rfl, Nat.le_of_ble_eq_true rfl⟩ hl.1 rfl (Nat.le_of_ble_eq_true rfl) dX5_reckon_110 ⟨Nat.le_of_ble_eq_true rfl, Nat.le_of_ble_eq_true rfl⟩ (fun ry M6 H locs hp hM hS => ?_)
                obtain ⟨eM6, ery⟩ := hp
                have eM6 : M6 = M5 := eM6
                have ery : ry = (h + 32 + ((ix y) - 12)) := ery
                rw [eM6] at hM
                rw [ery]
                refine r_Vv (As := [.ref (h + 72), .ref (h + 32 + ((ix y) - 12))]) (rest := []) C hM hS (c_reduce l D kA N0 M5 (h + 40) S.L (S.a 3) (h + 72) ((h + 32 + ((ix y) - 12))) (S.a (ix y)) hg5.rs hg5.wk hg5.rt (d5.sc hyr.1 hyr.2) (by omega) (by omega) (by omega) (by omega)) (hrf5) rfl gX5_reckon_X3_reduce rfl rfl rfl ⟨rfl, by decide +kernel, by decide +kernel, (by decide +kernel : (parseMethodDescriptor yX3_reduce.desc).map (fun d => d.parameters.length) = some 2)⟩ ⟨Nat.le_of_ble_eq_true rfl, Nat.le_of_ble_eq_true rfl⟩ hl.1 rfl (Nat.le_of_ble_eq_true rfl) dX5_reckon_113 ⟨Nat.le_of_ble_eq_true rfl, Nat.le_of_ble_eq_true rfl⟩ (fun M7 H locs hp hM hS => ?_)
                obtain ⟨p5, p6, p7⟩ := hp
                have hg7 : Os kA M M7 h S.L (S.a 3) := hg5.mul (Or.inr rfl) p5.isA p6 p7
                have d7 : Dc kA M7 h S := d.kept (fun b b1 b2 => hg7.fr b (by omega))
                have hob7 := d7.ob
                have hvb : S.a (ix y) % S.a 3 < S.a 3 := Nat.mod_lt _ hn0
                refine lv_aload_n hx hb dX5_reckon_116 rfl (lv_at hl 0 rfl) ?_
                refine lv_iload_n hx hb dX5_reckon_117 rfl (lv_at hl 1 rfl) ?_
                refine r_Vv (As := [.int (nI (ix w))]) (rest := []) C hM hS (c_combineMO l D kA N0 M M7 h (S.a 3) _ _ (ix w) S d7 hg7 (q5.kept (p7 _ (by omega) (by omega))) p5 hub hvb (by omega) hL9) (hob7) rfl gX5_reckon_X5_combineModuloOrder rfl rfl rfl ⟨rfl, by decide +kernel, by decide +kernel, (by decide +kernel : (parseMethodDescriptor yX5_combineModuloOrder.desc).map (fun d => d.parameters.length) = some 1)⟩ ⟨Nat.le_of_ble_eq_true rfl, Nat.le_of_ble_eq_true rfl⟩ hl.1 rfl (Nat.le_of_ble_eq_true rfl) dX5_reckon_118 ⟨Nat.le_of_ble_eq_true rfl, Nat.le_of_ble_eq_true rfl⟩ (fun M8 H locs hp hM hS => ?_)
                obtain ⟨hg8, z, hz1, hz2⟩ := hp
                have d8 : Dc kA M8 h S := d.kept (fun b b1 b2 => hg8.fr b (by omega))
                rw [← hwe] at hz1
                exact re_121 C hM hS hl d8 hg8 hz2 har.1 har.2 hL9 (fun M9 e1 e2 => hfin z M8 M9 hz1 hg8 e1 e2)
              · have hw3 : w = nI 3 := by rw [hwe, show ix w = 3 by omega]
                have hrec : ∀ v9, recR (S.a 3) (S.a (ix x) % S.a 3) v9 w = inv? (S.a 3) (S.a (ix x) % S.a 3) := fun v9 => by rw [hw3]; rfl
                obtain ⟨-, -, -, k5, k6, k7, k8, -⟩ := _root_.id hg5
                refine lv_aload_n hx hb dX5_reckon_79 rfl (lv_at hl 0 rfl) ?_
                refine x_get (v := .ref (h + 40)) hx hb hts in_X5_reckon_X5 hown hK hM (hob5) rfl 4 (by decide) (hts (.fieldLink RX5 42 "LimbCurves" "order" "LLimbCurves$Residues;") (by decide +kernel)) (fun _ h9 => h9) rfl dX5_reckon_80 ?_
                refine lv_aload_n hx hb dX5_reckon_83 rfl (lv_at hl 0 rfl) ?_
                refine x_get (v := .ref (h + 71)) hx hb hts in_X5_reckon_X5 hown hK hM (hob5) rfl 7 (by decide) (hts (.fieldLink RX5 64 "LimbCurves" "left" "[I") (by decide +kernel)) (fun _ h9 => h9) rfl dX5_reckon_84 ?_
                refine lv_aload_n hx hb dX5_reckon_87 rfl (lv_at hl 0 rfl) ?_
                refine x_get (v := .ref (h + 71)) hx hb hts in_X5_reckon_X5 hown hK hM (hob5) rfl 7 (by decide) (hts (.fieldLink RX5 64 "LimbCurves" "left" "[I") (by decide +kernel)) (fun _ h9 => h9) rfl dX5_reckon_88 ?_
                refine r_Vi (As := [.ref (h + 71), .ref (h + 71)]) (rest := []) C hM hS (c_invert l D kA N0 M5 (h + 40) S.L (S.a 3) (h + 71) (h + 71) _ (nI z5) (nI y5) hrf5 hg5.rs.md k5 k6 k7 k8 hg5.lf q5 hub (by omega) (by omega) (by omega) (by omega)) (hrf5) rfl gX5_reckon_X3_invert rfl rfl rfl ⟨rfl, by decide +kernel, by decide +kernel, (by decide +kernel : (parseMethodDescriptor yX3_invert.desc).map (fun d => d.parameters.length) = some 2)⟩ ⟨Nat.le_of_ble_eq_true rfl, Nat.le_of_ble_eq_true rfl⟩ hl.1 rfl (Nat.le_of_ble_eq_true rfl) dX5_reckon_91 ⟨Nat.le_of_ble_eq_true rfl, Nat.le_of_ble_eq_true rfl⟩ (fun vi M6 H locs hp hM hS => ?_)
                obtain ⟨i5, i6, i7, i8, hf6, hvi⟩ := hp
                rcases hvi with ⟨evi, hi, h71⟩ | ⟨evi, z, hi, h71⟩
                · rw [evi]
                  have hg6 : Os kA M M6 h S.L (S.a 3) := hg5.inv (Or.inl rfl) (hg5.lf.kept h71) i5 i6 i7 i8 hf6
                  have dk6 : Dk kA M6 h S := ⟨hsi, d.kept (fun b b1 b2 => hg6.fr b (by omega)), hg6.ds ds⟩
                  have hsp : spRec S w a x y = (0, S) := by
                    unfold spRec
                    rw [if_pos hcond, hrec, hi]
                  rw [hsp]
                  refine lv_if_ne (tgt := 121) hx hb dX5_reckon_94 (by decide) (fun hc6 => ?_) (fun hc6 => ?_)
                  · exact absurd rfl hc6
                  · refine lv_iconst (v := nI 0) hx hb dX5_reckon_97 (by decide) ?_
                    exact r_zret C hM hS rfl (⟨rfl, dk6, fun b hb => hg6.fr b (by omega)⟩) dX5_reckon_98
                · rw [evi]
                  have hg6 : Os kA M M6 h S.L (S.a 3) := hg5.inv (Or.inl rfl) h71.isA i5 i6 i7 i8 hf6
                  have d6 : Dc kA M6 h S := d.kept (fun b b1 b2 => hg6.fr b (by omega))
                  have hz1 : recR (S.a 3) (S.a (ix x) % S.a 3) (S.a (ix y) % S.a 3) w = some z := by rw [hrec]; exact hi
                  refine lv_if_ne (tgt := 121) hx hb dX5_reckon_94 (by decide) (fun hc6 => ?_) (fun hc6 => ?_)
                  · exact re_121 C hM hS hl d6 hg6 h71 har.1 har.2 hL9 (fun M9 e1 e2 => hfin z M6 M9 hz1 hg6 e1 e2)
                  · exact absurd hc6 (by decide)
            · have hn0 : S.a 3 = 0 := by
                rcases hqm with ⟨h1, h2⟩ | ⟨h1, h2, h3⟩
                · exact h2
                · rw [h1] at hc4; exact absurd hc4 (by decide)
              have dk3 : Dk kA M3 h S := by
                obtain ⟨-, -, -, c1, -, -, -, lf, rt, -⟩ := _root_.id ds
                exact ⟨hsi, d3, ds.chg hk3 (c1.kept (hf3 _ (by omega) (by omega) (by omega))) (lf.kept (hf3 _ (by omega) (by omega) (by omega))) (rt.kept (hf3 _ (by omega) (by omega) (by omega))) (fun b b1 b2 b3 b4 b5 => hf3 b (by omega) (by omega) (by omega))⟩
              refine lv_iconst (v := nI 0) hx hb dX5_reckon_56 (by decide) ?_
              exact r_zret C hM hS rfl (hno _ M3 dk3 (fun b hb => hf3 b (by omega) (by omega) (by omega)) (fun q => by have := q.2.2.2.2.2; omega) rfl) dX5_reckon_57
          refine lv_iload_n hx hb dX5_reckon_25 rfl (lv_at hl 1 rfl) ?_
          refine lv_iconst (v := nI 3) hx hb dX5_reckon_26 (by decide) ?_
          refine r_icmp_eqN (tgt := 40) C (by omega) (by omega) dX5_reckon_27 (by decide) (fun hc4 => ?_) (fun hc4 => ?_)
          · exact hmain (fun q => by omega) H locs hM hS
          · refine lv_iload hx hb dX5_reckon_30 (lv_at hl 4 rfl) ?_
            refine r_Si (As := [.int y]) (rest := []) C hM hS (c_isScalar l D kA N0 M y) gX5_reckon_X5_isScalar rfl rfl rfl ⟨by decide +kernel, by decide +kernel, (by decide +kernel : (parseMethodDescriptor yX5_isScalar.desc).map (fun d => d.parameters.length) = some 1)⟩ ⟨Nat.le_of_ble_eq_true rfl, Nat.le_of_ble_eq_true rfl⟩ hl.1 rfl (Nat.le_of_ble_eq_true rfl) dX5_reckon_32 ⟨Nat.le_of_ble_eq_true rfl, Nat.le_of_ble_eq_true rfl⟩ (fun v5 M5 H locs hp hM hS => ?_)
            obtain ⟨eM5, hv5⟩ := hp
            rw [eM5] at hM
            refine lv_if_ne (tgt := 40) hx hb dX5_reckon_35 (by decide) (fun hc5 => ?_) (fun hc5 => ?_)
            · have hsy : isSc y := by
                rcases hv5 with ⟨h1, h2⟩ | ⟨h1, h2⟩
                · exact h2
                · exact absurd h1 hc5
              exact hmain (fun _ => hsy) H locs hM hS
            · have hsy : ¬ isSc y := by
                rcases hv5 with ⟨h1, h2⟩ | ⟨h1, h2⟩
                · rw [h1] at hc5; exact absurd hc5 (by decide)
                · exact h2
              refine lv_iconst (v := nI 0) hx hb dX5_reckon_38 (by decide) ?_
              exact r_zret C hM hS rfl (hno _ M dk0 (fun _ _ => rfl) (fun q => hsy (q.2.2.2.2.1 (by omega))) rfl) dX5_reckon_39
        · have hn : ¬ isSc x := by
            rcases hv2 with ⟨h1, h2⟩ | ⟨h1, h2⟩
            · rw [h1] at hc2; exact absurd hc2 (by decide)
            · exact h2
          refine lv_iconst (v := nI 0) hx hb dX5_reckon_23 (by decide) ?_
          exact r_zret C hM hS rfl (hno _ M dk0 (fun _ _ => rfl) (fun q => hn q.2.2.2.1) rfl) dX5_reckon_24
end ORD
