theorem in_X0_holds_X0 : ∀ w ∈ wsX00, w ∈ wsX0_holds := by decide +kernel
theorem in_X0_holds_X2 : ∀ w ∈ wsX20, w ∈ wsX0_holds := by decide +kernel
theorem in_X0_isSingular_X0 : ∀ w ∈ wsX00, w ∈ wsX0_isSingular := by decide +kernel
theorem in_X0_mirror_X0 : ∀ w ∈ wsX00, w ∈ wsX0_mirror := by decide +kernel
theorem in_X0_mirror_X2 : ∀ w ∈ wsX20, w ∈ wsX0_mirror := by decide +kernel
theorem in_X0_takeParameters_X0 : ∀ w ∈ wsX00, w ∈ wsX0_takeParameters := by decide +kernel
/-- the curve's two rows of its own, and the field's work and spare -/
def CG (kA : Nat → ClassId) (M0 M : xM) (h L pp : Nat) (gs : List (Option Nat)) : Prop := M (h + 58) = some (oCv h) ∧ Rs kA M (h + 49) L pp ∧ isA kA M (h + 49 + 3) (2 * L + 1) ∧ isA kA M (h + 49 + 4) L ∧ (∀ k, k < 2 → isA kA M (h + 59 + k) L) ∧ (∀ k v : Nat, gs[k]? = some (some v) → isN kA M (h + 59 + k) L v ∧ v < pp) ∧ (∀ b, b ≠ h + 52 → b ≠ h + 53 → b ≠ h + 59 → b ≠ h + 60 → M b = M0 b)
section CGS
variable {kA : Nat → ClassId} {M0 M M1 : xM} {h L pp : Nat} {gs : List (Option Nat)}
theorem CG.rn (g : CG kA M0 M h L pp gs) : M (h + 58) = some (oCv h) := g.1
theorem CG.rs (g : CG kA M0 M h L pp gs) : Rs kA M (h + 49) L pp := g.2.1
theorem CG.wk (g : CG kA M0 M h L pp gs) : isA kA M (h + 49 + 3) (2 * L + 1) := g.2.2.1
theorem CG.sp (g : CG kA M0 M h L pp gs) : isA kA M (h + 49 + 4) L := g.2.2.2.1
theorem CG.rA (g : CG kA M0 M h L pp gs) (k : Nat) (hk : k < 2) : isA kA M (h + 59 + k) L := g.2.2.2.2.1 k hk
theorem CG.n (g : CG kA M0 M h L pp gs) (k : Nat) {v : Nat} (hk : gs[k]? = some (some v)) : isN kA M (h + 59 + k) L v ∧ v < pp := g.2.2.2.2.2.1 k v hk
theorem CG.fr (g : CG kA M0 M h L pp gs) (b : Nat) (h1 : b ≠ h + 52) (h2 : b ≠ h + 53) (h3 : b ≠ h + 59) (h4 : b ≠ h + 60) : M b = M0 b := g.2.2.2.2.2.2 b h1 h2 h3 h4
theorem CG.st (g : CG kA M0 M h L pp gs) (k : Nat) {v : Nat} (hk : k < 2) (hn : isN kA M1 (h + 59 + k) L v) (hv : v < pp) (hw : isA kA M1 (h + 49 + 3) (2 * L + 1)) (hs : isA kA M1 (h + 49 + 4) L) (hf : ∀ b, b ≠ h + 59 + k → b ≠ h + 49 + 3 → b ≠ h + 49 + 4 → M1 b = M b) : CG kA M0 M1 h L pp (gs.set k (some v)) := by
  obtain ⟨a1, a2, a3, a4, a5, a6, a7⟩ := g
  refine ⟨by rw [hf _ (by omega) (by omega) (by omega)]; exact a1, a2.kept (hf _ (by omega) (by omega) (by omega)) (hf _ (by omega) (by omega) (by omega)) (hf _ (by omega) (by omega) (by omega)), hw, hs, fun j hj => ?_, fun j w hj => ?_, fun b e1 e2 e3 e4 => by rw [hf _ (by omega) (by omega) (by omega)]; exact a7 b e1 e2 e3 e4⟩
  · by_cases e : j = k
    · rw [e]; exact hn.isA
    · exact (a5 j hj).kept (hf _ (by omega) (by omega) (by omega))
  · by_cases e : j = k
    · subst e
      by_cases hl : j < gs.length
      · rw [List.getElem?_set_self hl] at hj
        cases hj
        exact ⟨hn, hv⟩
      · rw [List.getElem?_eq_none (by rw [List.length_set]; omega)] at hj
        cases hj
    · rw [List.getElem?_set_ne (fun q => e q.symm)] at hj
      have := a6 j w hj
      exact ⟨this.1.kept (hf _ (by omega) (by omega) (by omega)), this.2⟩
end CGS
theorem odd_of {f : Nat → Int32} {L : Nat} (hL0 : 0 < L) : V f L % 2 = dg (f 0) % 2 := by
  have := bit_of (f := f) (L := L) (i := 0) (b := 0) hL0 (by decide)
  simpa using this
theorem fz_3 {k : Nat} (a : Zp k) : a + a + a = 3 * a := by grind
/-- four times A A A and 27 times B B -/
def dsc (k A B : Nat) : Zp k := 4 * (fz k A * fz k A * fz k A) + 27 * (fz k B * fz k B)
/-- a pair of numbers lies on the curve -/
abbrev onN (pp A B X Y : Nat) : Prop := X < pp ∧ Y < pp ∧ Y * Y % pp = (((X * X % pp + A) % pp) * X % pp + B) % pp
theorem onN_C {k A B X Y : Nat} (h : onN (k + 1) A B X Y) : onC (fz k A) (fz k B) (some (fz k X, fz k Y)) := by
  obtain ⟨h1, h2, h3⟩ := h
  have h4 := congrArg (fz k) h3
  rw [fz_mul, fz_add, fz_mul, fz_add, fz_mul] at h4
  show fz k Y * fz k Y = _
  rw [h4]
  grind
section CRV
variable {p : Program} {l : Launch} {e : Env} {R : Room} {s : State} {m : MethodId} {args : Array Value} {below : List Frame} {meth : Method} {c : Code} {Q : State → Prop} {cells slots : Nat} {ret : Option FieldType} {D : va_G} {kA : Nat → ClassId} {N0 : Nat}
set_option maxRecDepth 100000 in
theorem c_isSingular (l : Launch) (D : va_G) (kA : Nat → ClassId) (N0 : Nat) (M0 M : xM) (h L k A B : Nat) (hg : CG kA M0 M h L (k + 1) [none, none]) (hA : isN kA M0 (h + 3) L A) (hB : isN kA M0 (h + 4) L B) (hAb : A < k + 1) (hBb : B < k + 1) (hL : L < 40) : cI l yX0_isSingular wsX0_isSingular (xR 3) [.ref (h + 58)] D kA N0 M (fun v M1 => CG kA M0 M1 h L (k + 1) [none, none] ∧ ((v = 1 ∧ dsc k A B = 0) ∨ (v = 0 ∧ dsc k A B ≠ 0))) := by
  have hpp : 0 < k + 1 := Nat.succ_pos k
  obtain ⟨pp, hpe⟩ : ∃ pp, pp = k + 1 := ⟨_, rfl⟩
  rw [← hpe] at hg hpp hAb hBb
  have hrn := hg.rn
  refine r_met (cc := cX0_isSingular) (maxL := 1) (ret := (some .boolean)) (by decide) rfl (Nat.le_of_ble_eq_true rfl) ?_
  intro p e s m below meth c ls C hM hnm hl
  obtain ⟨hx, hb, hml, hown, hts, hr, hlocks, hK, hN⟩ := _root_.id C
  have hS : va_S (xA N0) s.heap s.heap [] := va_S.rf
  have hl : lv_has ls 1 [(0, .ref (h + 58))] := hl
  refine lv_aload_n hx hb dX0_isSingular_0 rfl (lv_at hl 0 rfl) ?_
  refine x_get (v := .ref (h + 49)) hx hb hts in_X0_isSingular_X0 hown hK hM (hrn) rfl 3 (by decide) (hts (.fieldLink RX0 21 "LimbCurves$Curve" "field" "LLimbCurves$Residues;") (by decide +kernel)) (fun _ h9 => h9) rfl dX0_isSingular_1 ?_
  refine lv_aload_n hx hb dX0_isSingular_4 rfl (lv_at hl 0 rfl) ?_
  refine x_get (v := .ref (h + 59)) hx hb hts in_X0_isSingular_X0 hown hK hM (hrn) rfl 4 (by decide) (hts (.fieldLink RX0 25 "LimbCurves$Curve" "left" "[I") (by decide +kernel)) (fun _ h9 => h9) rfl dX0_isSingular_5 ?_
  refine lv_aload_n hx hb dX0_isSingular_8 rfl (lv_at hl 0 rfl) ?_
  refine x_get (v := .ref (h + 3)) hx hb hts in_X0_isSingular_X0 hown hK hM (hrn) rfl 1 (by decide) (hts (.fieldLink RX0 15 "LimbCurves$Curve" "a" "[I") (by decide +kernel)) (fun _ h9 => h9) rfl dX0_isSingular_9 ?_
  refine lv_aload_n hx hb dX0_isSingular_12 rfl (lv_at hl 0 rfl) ?_
  refine x_get (v := .ref (h + 3)) hx hb hts in_X0_isSingular_X0 hown hK hM (hrn) rfl 1 (by decide) (hts (.fieldLink RX0 15 "LimbCurves$Curve" "a" "[I") (by decide +kernel)) (fun _ h9 => h9) rfl dX0_isSingular_13 ?_
  obtain ⟨z9, y9, hrf⟩ := hg.rs.ob
  refine r_Vv (As := [.ref (h + 59), .ref (h + 3), .ref (h + 3)]) (rest := []) C hM hS (c_multiply l D kA N0 _ (h + 49) L pp (h + 59) (h + 3) (h + 3) A A hg.rs hg.wk (hg.rA 0 (by decide)) (hA.kept (hg.fr _ (by omega) (by omega) (by omega) (by omega))) (hA.kept (hg.fr _ (by omega) (by omega) (by omega) (by omega))) (hAb) (hAb) (by omega) (by omega) (by omega) (by omega) (by omega)) (hrf) rfl gX0_isSingular_X3_multiply rfl rfl rfl ⟨rfl, by decide +kernel, by decide +kernel, (by decide +kernel : (parseMethodDescriptor yX3_multiply.desc).map (fun d => d.parameters.length) = some 3)⟩ ⟨Nat.le_of_ble_eq_true rfl, Nat.le_of_ble_eq_true rfl⟩ hl.1 rfl (Nat.le_of_ble_eq_true rfl) dX0_isSingular_16 ⟨Nat.le_of_ble_eq_true rfl, Nat.le_of_ble_eq_true rfl⟩ (fun M1 H locs hp hM hS => ?_)
  obtain ⟨q1, q2, q3⟩ := hp
  obtain ⟨l1, el1⟩ : ∃ q, q = A * A % pp := ⟨_, rfl⟩
  rw [← el1] at q1
  have hg : CG kA _ M1 h L pp [some l1, none]  := hg.st 0 (by decide) q1 (by rw [el1]; exact Nat.mod_lt _ hpp) q2 (hg.sp.kept (q3 _ (by omega) (by omega))) (fun b h1 h2 _ => q3 b h1 h2)
  have hrn := hg.rn
  refine lv_aload_n hx hb dX0_isSingular_19 rfl (lv_at hl 0 rfl) ?_
  refine x_get (v := .ref (h + 49)) hx hb hts in_X0_isSingular_X0 hown hK hM (hrn) rfl 3 (by decide) (hts (.fieldLink RX0 21 "LimbCurves$Curve" "field" "LLimbCurves$Residues;") (by decide +kernel)) (fun _ h9 => h9) rfl dX0_isSingular_20 ?_
  refine lv_aload_n hx hb dX0_isSingular_23 rfl (lv_at hl 0 rfl) ?_
  refine x_get (v := .ref (h + 59)) hx hb hts in_X0_isSingular_X0 hown hK hM (hrn) rfl 4 (by decide) (hts (.fieldLink RX0 25 "LimbCurves$Curve" "left" "[I") (by decide +kernel)) (fun _ h9 => h9) rfl dX0_isSingular_24 ?_
  refine lv_aload_n hx hb dX0_isSingular_27 rfl (lv_at hl 0 rfl) ?_
  refine x_get (v := .ref (h + 59)) hx hb hts in_X0_isSingular_X0 hown hK hM (hrn) rfl 4 (by decide) (hts (.fieldLink RX0 25 "LimbCurves$Curve" "left" "[I") (by decide +kernel)) (fun _ h9 => h9) rfl dX0_isSingular_28 ?_
  refine lv_aload_n hx hb dX0_isSingular_31 rfl (lv_at hl 0 rfl) ?_
  refine x_get (v := .ref (h + 3)) hx hb hts in_X0_isSingular_X0 hown hK hM (hrn) rfl 1 (by decide) (hts (.fieldLink RX0 15 "LimbCurves$Curve" "a" "[I") (by decide +kernel)) (fun _ h9 => h9) rfl dX0_isSingular_32 ?_
  obtain ⟨z9, y9, hrf⟩ := hg.rs.ob
  refine r_Vv (As := [.ref (h + 59), .ref (h + 59), .ref (h + 3)]) (rest := []) C hM hS (c_multiply l D kA N0 _ (h + 49) L pp (h + 59) (h + 59) (h + 3) l1 A hg.rs hg.wk (hg.rA 0 (by decide)) ((hg.n 0 rfl).1) (hA.kept (hg.fr _ (by omega) (by omega) (by omega) (by omega))) ((hg.n 0 rfl).2) (hAb) (by omega) (by omega) (by omega) (by omega) (by omega)) (hrf) rfl gX0_isSingular_X3_multiply rfl rfl rfl ⟨rfl, by decide +kernel, by decide +kernel, (by decide +kernel : (parseMethodDescriptor yX3_multiply.desc).map (fun d => d.parameters.length) = some 3)⟩ ⟨Nat.le_of_ble_eq_true rfl, Nat.le_of_ble_eq_true rfl⟩ hl.1 rfl (Nat.le_of_ble_eq_true rfl) dX0_isSingular_35 ⟨Nat.le_of_ble_eq_true rfl, Nat.le_of_ble_eq_true rfl⟩ (fun M1 H locs hp hM hS => ?_)
  obtain ⟨q1, q2, q3⟩ := hp
  obtain ⟨l2, el2⟩ : ∃ q, q = l1 * A % pp := ⟨_, rfl⟩
  rw [← el2] at q1
  have hg : CG kA _ M1 h L pp [some l2, none]  := hg.st 0 (by decide) q1 (by rw [el2]; exact Nat.mod_lt _ hpp) q2 (hg.sp.kept (q3 _ (by omega) (by omega))) (fun b h1 h2 _ => q3 b h1 h2)
  have hrn := hg.rn
  refine lv_aload_n hx hb dX0_isSingular_38 rfl (lv_at hl 0 rfl) ?_
  refine x_get (v := .ref (h + 49)) hx hb hts in_X0_isSingular_X0 hown hK hM (hrn) rfl 3 (by decide) (hts (.fieldLink RX0 21 "LimbCurves$Curve" "field" "LLimbCurves$Residues;") (by decide +kernel)) (fun _ h9 => h9) rfl dX0_isSingular_39 ?_
  refine lv_aload_n hx hb dX0_isSingular_42 rfl (lv_at hl 0 rfl) ?_
  refine x_get (v := .ref (h + 59)) hx hb hts in_X0_isSingular_X0 hown hK hM (hrn) rfl 4 (by decide) (hts (.fieldLink RX0 25 "LimbCurves$Curve" "left" "[I") (by decide +kernel)) (fun _ h9 => h9) rfl dX0_isSingular_43 ?_
  refine lv_aload_n hx hb dX0_isSingular_46 rfl (lv_at hl 0 rfl) ?_
  refine x_get (v := .ref (h + 59)) hx hb hts in_X0_isSingular_X0 hown hK hM (hrn) rfl 4 (by decide) (hts (.fieldLink RX0 25 "LimbCurves$Curve" "left" "[I") (by decide +kernel)) (fun _ h9 => h9) rfl dX0_isSingular_47 ?_
  obtain ⟨z9, y9, hrf⟩ := hg.rs.ob
  refine r_Vv (As := [.ref (h + 59), .ref (h + 59)]) (rest := []) C hM hS (c_twice l D kA N0 _ (h + 49) L pp (h + 59) (h + 59) l2 hg.rs (hg.rA 0 (by decide)) ((hg.n 0 rfl).1) ((hg.n 0 rfl).2) (by omega) (by omega)) (hrf) rfl gX0_isSingular_X3_twice rfl rfl rfl ⟨rfl, by decide +kernel, by decide +kernel, (by decide +kernel : (parseMethodDescriptor yX3_twice.desc).map (fun d => d.parameters.length) = some 2)⟩ ⟨Nat.le_of_ble_eq_true rfl, Nat.le_of_ble_eq_true rfl⟩ hl.1 rfl (Nat.le_of_ble_eq_true rfl) dX0_isSingular_50 ⟨Nat.le_of_ble_eq_true rfl, Nat.le_of_ble_eq_true rfl⟩ (fun M1 H locs hp hM hS => ?_)
  obtain ⟨q1, q3⟩ := hp
  obtain ⟨l3, el3⟩ : ∃ q, q = (l2 + l2) % pp := ⟨_, rfl⟩
  rw [← el3] at q1
  have hg : CG kA _ M1 h L pp [some l3, none]  := hg.st 0 (by decide) q1 (by rw [el3]; exact Nat.mod_lt _ hpp) (hg.wk.kept (q3 _ (by omega))) (hg.sp.kept (q3 _ (by omega))) (fun b h1 _ _ => q3 b h1)
  have hrn := hg.rn
  refine lv_aload_n hx hb dX0_isSingular_53 rfl (lv_at hl 0 rfl) ?_
  refine x_get (v := .ref (h + 49)) hx hb hts in_X0_isSingular_X0 hown hK hM (hrn) rfl 3 (by decide) (hts (.fieldLink RX0 21 "LimbCurves$Curve" "field" "LLimbCurves$Residues;") (by decide +kernel)) (fun _ h9 => h9) rfl dX0_isSingular_54 ?_
  refine lv_aload_n hx hb dX0_isSingular_57 rfl (lv_at hl 0 rfl) ?_
  refine x_get (v := .ref (h + 59)) hx hb hts in_X0_isSingular_X0 hown hK hM (hrn) rfl 4 (by decide) (hts (.fieldLink RX0 25 "LimbCurves$Curve" "left" "[I") (by decide +kernel)) (fun _ h9 => h9) rfl dX0_isSingular_58 ?_
  refine lv_aload_n hx hb dX0_isSingular_61 rfl (lv_at hl 0 rfl) ?_
  refine x_get (v := .ref (h + 59)) hx hb hts in_X0_isSingular_X0 hown hK hM (hrn) rfl 4 (by decide) (hts (.fieldLink RX0 25 "LimbCurves$Curve" "left" "[I") (by decide +kernel)) (fun _ h9 => h9) rfl dX0_isSingular_62 ?_
  obtain ⟨z9, y9, hrf⟩ := hg.rs.ob
  refine r_Vv (As := [.ref (h + 59), .ref (h + 59)]) (rest := []) C hM hS (c_twice l D kA N0 _ (h + 49) L pp (h + 59) (h + 59) l3 hg.rs (hg.rA 0 (by decide)) ((hg.n 0 rfl).1) ((hg.n 0 rfl).2) (by omega) (by omega)) (hrf) rfl gX0_isSingular_X3_twice rfl rfl rfl ⟨rfl, by decide +kernel, by decide +kernel, (by decide +kernel : (parseMethodDescriptor yX3_twice.desc).map (fun d => d.parameters.length) = some 2)⟩ ⟨Nat.le_of_ble_eq_true rfl, Nat.le_of_ble_eq_true rfl⟩ hl.1 rfl (Nat.le_of_ble_eq_true rfl) dX0_isSingular_65 ⟨Nat.le_of_ble_eq_true rfl, Nat.le_of_ble_eq_true rfl⟩ (fun M1 H locs hp hM hS => ?_)
  obtain ⟨q1, q3⟩ := hp
  obtain ⟨l4, el4⟩ : ∃ q, q = (l3 + l3) % pp := ⟨_, rfl⟩
  rw [← el4] at q1
  have hg : CG kA _ M1 h L pp [some l4, none]  := hg.st 0 (by decide) q1 (by rw [el4]; exact Nat.mod_lt _ hpp) (hg.wk.kept (q3 _ (by omega))) (hg.sp.kept (q3 _ (by omega))) (fun b h1 _ _ => q3 b h1)
  have hrn := hg.rn
  refine lv_aload_n hx hb dX0_isSingular_68 rfl (lv_at hl 0 rfl) ?_
  refine x_get (v := .ref (h + 49)) hx hb hts in_X0_isSingular_X0 hown hK hM (hrn) rfl 3 (by decide) (hts (.fieldLink RX0 21 "LimbCurves$Curve" "field" "LLimbCurves$Residues;") (by decide +kernel)) (fun _ h9 => h9) rfl dX0_isSingular_69 ?_
  refine lv_aload_n hx hb dX0_isSingular_72 rfl (lv_at hl 0 rfl) ?_
  refine x_get (v := .ref (h + 60)) hx hb hts in_X0_isSingular_X0 hown hK hM (hrn) rfl 5 (by decide) (hts (.fieldLink RX0 28 "LimbCurves$Curve" "right" "[I") (by decide +kernel)) (fun _ h9 => h9) rfl dX0_isSingular_73 ?_
  refine lv_aload_n hx hb dX0_isSingular_76 rfl (lv_at hl 0 rfl) ?_
  refine x_get (v := .ref (h + 4)) hx hb hts in_X0_isSingular_X0 hown hK hM (hrn) rfl 2 (by decide) (hts (.fieldLink RX0 18 "LimbCurves$Curve" "b" "[I") (by decide +kernel)) (fun _ h9 => h9) rfl dX0_isSingular_77 ?_
  refine lv_aload_n hx hb dX0_isSingular_80 rfl (lv_at hl 0 rfl) ?_
  refine x_get (v := .ref (h + 4)) hx hb hts in_X0_isSingular_X0 hown hK hM (hrn) rfl 2 (by decide) (hts (.fieldLink RX0 18 "LimbCurves$Curve" "b" "[I") (by decide +kernel)) (fun _ h9 => h9) rfl dX0_isSingular_81 ?_
  obtain ⟨z9, y9, hrf⟩ := hg.rs.ob
  refine r_Vv (As := [.ref (h + 60), .ref (h + 4), .ref (h + 4)]) (rest := []) C hM hS (c_multiply l D kA N0 _ (h + 49) L pp (h + 60) (h + 4) (h + 4) B B hg.rs hg.wk (hg.rA 1 (by decide)) (hB.kept (hg.fr _ (by omega) (by omega) (by omega) (by omega))) (hB.kept (hg.fr _ (by omega) (by omega) (by omega) (by omega))) (hBb) (hBb) (by omega) (by omega) (by omega) (by omega) (by omega)) (hrf) rfl gX0_isSingular_X3_multiply rfl rfl rfl ⟨rfl, by decide +kernel, by decide +kernel, (by decide +kernel : (parseMethodDescriptor yX3_multiply.desc).map (fun d => d.parameters.length) = some 3)⟩ ⟨Nat.le_of_ble_eq_true rfl, Nat.le_of_ble_eq_true rfl⟩ hl.1 rfl (Nat.le_of_ble_eq_true rfl) dX0_isSingular_84 ⟨Nat.le_of_ble_eq_true rfl, Nat.le_of_ble_eq_true rfl⟩ (fun M1 H locs hp hM hS => ?_)
  obtain ⟨q1, q2, q3⟩ := hp
  obtain ⟨r1, er1⟩ : ∃ q, q = B * B % pp := ⟨_, rfl⟩
  rw [← er1] at q1
  have hg : CG kA _ M1 h L pp [some l4, some r1]  := hg.st 1 (by decide) q1 (by rw [er1]; exact Nat.mod_lt _ hpp) q2 (hg.sp.kept (q3 _ (by omega) (by omega))) (fun b h1 h2 _ => q3 b h1 h2)
  have hrn := hg.rn
  refine lv_aload_n hx hb dX0_isSingular_87 rfl (lv_at hl 0 rfl) ?_
  refine x_get (v := .ref (h + 49)) hx hb hts in_X0_isSingular_X0 hown hK hM (hrn) rfl 3 (by decide) (hts (.fieldLink RX0 21 "LimbCurves$Curve" "field" "LLimbCurves$Residues;") (by decide +kernel)) (fun _ h9 => h9) rfl dX0_isSingular_88 ?_
  refine lv_aload_n hx hb dX0_isSingular_91 rfl (lv_at hl 0 rfl) ?_
  refine x_get (v := .ref (h + 60)) hx hb hts in_X0_isSingular_X0 hown hK hM (hrn) rfl 5 (by decide) (hts (.fieldLink RX0 28 "LimbCurves$Curve" "right" "[I") (by decide +kernel)) (fun _ h9 => h9) rfl dX0_isSingular_92 ?_
  refine lv_aload_n hx hb dX0_isSingular_95 rfl (lv_at hl 0 rfl) ?_
  refine x_get (v := .ref (h + 60)) hx hb hts in_X0_isSingular_X0 hown hK hM (hrn) rfl 5 (by decide) (hts (.fieldLink RX0 28 "LimbCurves$Curve" "right" "[I") (by decide +kernel)) (fun _ h9 => h9) rfl dX0_isSingular_96 ?_
  obtain ⟨z9, y9, hrf⟩ := hg.rs.ob
  refine r_Vv (As := [.ref (h + 60), .ref (h + 60)]) (rest := []) C hM hS (c_thrice l D kA N0 _ (h + 49) L pp (h + 60) (h + 60) r1 hg.rs hg.sp (hg.rA 1 (by decide)) ((hg.n 1 rfl).1) ((hg.n 1 rfl).2) (by omega) (by omega) (by omega)) (hrf) rfl gX0_isSingular_X3_thrice rfl rfl rfl ⟨rfl, by decide +kernel, by decide +kernel, (by decide +kernel : (parseMethodDescriptor yX3_thrice.desc).map (fun d => d.parameters.length) = some 2)⟩ ⟨Nat.le_of_ble_eq_true rfl, Nat.le_of_ble_eq_true rfl⟩ hl.1 rfl (Nat.le_of_ble_eq_true rfl) dX0_isSingular_99 ⟨Nat.le_of_ble_eq_true rfl, Nat.le_of_ble_eq_true rfl⟩ (fun M1 H locs hp hM hS => ?_)
  obtain ⟨q1, q2, q3⟩ := hp
  obtain ⟨r2, er2⟩ : ∃ q, q = ((r1 + r1) % pp + r1) % pp := ⟨_, rfl⟩
  rw [← er2] at q1
  have hg : CG kA _ M1 h L pp [some l4, some r2]  := hg.st 1 (by decide) q1 (by rw [er2]; exact Nat.mod_lt _ hpp) (hg.wk.kept (q3 _ (by omega) (by omega))) q2 (fun b h1 _ h3 => q3 b h1 h3)
  have hrn := hg.rn
  refine lv_aload_n hx hb dX0_isSingular_102 rfl (lv_at hl 0 rfl) ?_
  refine x_get (v := .ref (h + 49)) hx hb hts in_X0_isSingular_X0 hown hK hM (hrn) rfl 3 (by decide) (hts (.fieldLink RX0 21 "LimbCurves$Curve" "field" "LLimbCurves$Residues;") (by decide +kernel)) (fun _ h9 => h9) rfl dX0_isSingular_103 ?_
  refine lv_aload_n hx hb dX0_isSingular_106 rfl (lv_at hl 0 rfl) ?_
  refine x_get (v := .ref (h + 60)) hx hb hts in_X0_isSingular_X0 hown hK hM (hrn) rfl 5 (by decide) (hts (.fieldLink RX0 28 "LimbCurves$Curve" "right" "[I") (by decide +kernel)) (fun _ h9 => h9) rfl dX0_isSingular_107 ?_
  refine lv_aload_n hx hb dX0_isSingular_110 rfl (lv_at hl 0 rfl) ?_
  refine x_get (v := .ref (h + 60)) hx hb hts in_X0_isSingular_X0 hown hK hM (hrn) rfl 5 (by decide) (hts (.fieldLink RX0 28 "LimbCurves$Curve" "right" "[I") (by decide +kernel)) (fun _ h9 => h9) rfl dX0_isSingular_111 ?_
  obtain ⟨z9, y9, hrf⟩ := hg.rs.ob
  refine r_Vv (As := [.ref (h + 60), .ref (h + 60)]) (rest := []) C hM hS (c_thrice l D kA N0 _ (h + 49) L pp (h + 60) (h + 60) r2 hg.rs hg.sp (hg.rA 1 (by decide)) ((hg.n 1 rfl).1) ((hg.n 1 rfl).2) (by omega) (by omega) (by omega)) (hrf) rfl gX0_isSingular_X3_thrice rfl rfl rfl ⟨rfl, by decide +kernel, by decide +kernel, (by decide +kernel : (parseMethodDescriptor yX3_thrice.desc).map (fun d => d.parameters.length) = some 2)⟩ ⟨Nat.le_of_ble_eq_true rfl, Nat.le_of_ble_eq_true rfl⟩ hl.1 rfl (Nat.le_of_ble_eq_true rfl) dX0_isSingular_114 ⟨Nat.le_of_ble_eq_true rfl, Nat.le_of_ble_eq_true rfl⟩ (fun M1 H locs hp hM hS => ?_)
  obtain ⟨q1, q2, q3⟩ := hp
  obtain ⟨r3, er3⟩ : ∃ q, q = ((r2 + r2) % pp + r2) % pp := ⟨_, rfl⟩
  rw [← er3] at q1
  have hg : CG kA _ M1 h L pp [some l4, some r3]  := hg.st 1 (by decide) q1 (by rw [er3]; exact Nat.mod_lt _ hpp) (hg.wk.kept (q3 _ (by omega) (by omega))) q2 (fun b h1 _ h3 => q3 b h1 h3)
  have hrn := hg.rn
  refine lv_aload_n hx hb dX0_isSingular_117 rfl (lv_at hl 0 rfl) ?_
  refine x_get (v := .ref (h + 49)) hx hb hts in_X0_isSingular_X0 hown hK hM (hrn) rfl 3 (by decide) (hts (.fieldLink RX0 21 "LimbCurves$Curve" "field" "LLimbCurves$Residues;") (by decide +kernel)) (fun _ h9 => h9) rfl dX0_isSingular_118 ?_
  refine lv_aload_n hx hb dX0_isSingular_121 rfl (lv_at hl 0 rfl) ?_
  refine x_get (v := .ref (h + 60)) hx hb hts in_X0_isSingular_X0 hown hK hM (hrn) rfl 5 (by decide) (hts (.fieldLink RX0 28 "LimbCurves$Curve" "right" "[I") (by decide +kernel)) (fun _ h9 => h9) rfl dX0_isSingular_122 ?_
  refine lv_aload_n hx hb dX0_isSingular_125 rfl (lv_at hl 0 rfl) ?_
  refine x_get (v := .ref (h + 60)) hx hb hts in_X0_isSingular_X0 hown hK hM (hrn) rfl 5 (by decide) (hts (.fieldLink RX0 28 "LimbCurves$Curve" "right" "[I") (by decide +kernel)) (fun _ h9 => h9) rfl dX0_isSingular_126 ?_
  obtain ⟨z9, y9, hrf⟩ := hg.rs.ob
  refine r_Vv (As := [.ref (h + 60), .ref (h + 60)]) (rest := []) C hM hS (c_thrice l D kA N0 _ (h + 49) L pp (h + 60) (h + 60) r3 hg.rs hg.sp (hg.rA 1 (by decide)) ((hg.n 1 rfl).1) ((hg.n 1 rfl).2) (by omega) (by omega) (by omega)) (hrf) rfl gX0_isSingular_X3_thrice rfl rfl rfl ⟨rfl, by decide +kernel, by decide +kernel, (by decide +kernel : (parseMethodDescriptor yX3_thrice.desc).map (fun d => d.parameters.length) = some 2)⟩ ⟨Nat.le_of_ble_eq_true rfl, Nat.le_of_ble_eq_true rfl⟩ hl.1 rfl (Nat.le_of_ble_eq_true rfl) dX0_isSingular_129 ⟨Nat.le_of_ble_eq_true rfl, Nat.le_of_ble_eq_true rfl⟩ (fun M1 H locs hp hM hS => ?_)
  obtain ⟨q1, q2, q3⟩ := hp
  obtain ⟨r4, er4⟩ : ∃ q, q = ((r3 + r3) % pp + r3) % pp := ⟨_, rfl⟩
  rw [← er4] at q1
  have hg : CG kA _ M1 h L pp [some l4, some r4]  := hg.st 1 (by decide) q1 (by rw [er4]; exact Nat.mod_lt _ hpp) (hg.wk.kept (q3 _ (by omega) (by omega))) q2 (fun b h1 _ h3 => q3 b h1 h3)
  have hrn := hg.rn
  refine lv_aload_n hx hb dX0_isSingular_132 rfl (lv_at hl 0 rfl) ?_
  refine x_get (v := .ref (h + 49)) hx hb hts in_X0_isSingular_X0 hown hK hM (hrn) rfl 3 (by decide) (hts (.fieldLink RX0 21 "LimbCurves$Curve" "field" "LLimbCurves$Residues;") (by decide +kernel)) (fun _ h9 => h9) rfl dX0_isSingular_133 ?_
  refine lv_aload_n hx hb dX0_isSingular_136 rfl (lv_at hl 0 rfl) ?_
  refine x_get (v := .ref (h + 59)) hx hb hts in_X0_isSingular_X0 hown hK hM (hrn) rfl 4 (by decide) (hts (.fieldLink RX0 25 "LimbCurves$Curve" "left" "[I") (by decide +kernel)) (fun _ h9 => h9) rfl dX0_isSingular_137 ?_
  refine lv_aload_n hx hb dX0_isSingular_140 rfl (lv_at hl 0 rfl) ?_
  refine x_get (v := .ref (h + 59)) hx hb hts in_X0_isSingular_X0 hown hK hM (hrn) rfl 4 (by decide) (hts (.fieldLink RX0 25 "LimbCurves$Curve" "left" "[I") (by decide +kernel)) (fun _ h9 => h9) rfl dX0_isSingular_141 ?_
  refine lv_aload_n hx hb dX0_isSingular_144 rfl (lv_at hl 0 rfl) ?_
  refine x_get (v := .ref (h + 60)) hx hb hts in_X0_isSingular_X0 hown hK hM (hrn) rfl 5 (by decide) (hts (.fieldLink RX0 28 "LimbCurves$Curve" "right" "[I") (by decide +kernel)) (fun _ h9 => h9) rfl dX0_isSingular_145 ?_
  obtain ⟨z9, y9, hrf⟩ := hg.rs.ob
  refine r_Vv (As := [.ref (h + 59), .ref (h + 59), .ref (h + 60)]) (rest := []) C hM hS (c_add l D kA N0 _ (h + 49) L pp (h + 59) (h + 59) (h + 60) l4 r4 hg.rs (hg.rA 0 (by decide)) ((hg.n 0 rfl).1) ((hg.n 1 rfl).1) ((hg.n 0 rfl).2) ((hg.n 1 rfl).2) (by omega) (by omega)) (hrf) rfl gX0_isSingular_X3_add rfl rfl rfl ⟨rfl, by decide +kernel, by decide +kernel, (by decide +kernel : (parseMethodDescriptor yX3_add.desc).map (fun d => d.parameters.length) = some 3)⟩ ⟨Nat.le_of_ble_eq_true rfl, Nat.le_of_ble_eq_true rfl⟩ hl.1 rfl (Nat.le_of_ble_eq_true rfl) dX0_isSingular_148 ⟨Nat.le_of_ble_eq_true rfl, Nat.le_of_ble_eq_true rfl⟩ (fun M1 H locs hp hM hS => ?_)
  obtain ⟨q1, q3⟩ := hp
  obtain ⟨l5, el5⟩ : ∃ q, q = (l4 + r4) % pp := ⟨_, rfl⟩
  rw [← el5] at q1
  have hg : CG kA _ M1 h L pp [some l5, some r4]  := hg.st 0 (by decide) q1 (by rw [el5]; exact Nat.mod_lt _ hpp) (hg.wk.kept (q3 _ (by omega))) (hg.sp.kept (q3 _ (by omega))) (fun b h1 _ _ => q3 b h1)
  have hrn := hg.rn
  obtain ⟨⟨f5, h5, n5, V5⟩, b5⟩ := hg.n 0 rfl
  refine lv_aload_n hx hb dX0_isSingular_151 rfl (lv_at hl 0 rfl) ?_
  refine x_get (v := .ref (h + 59)) hx hb hts in_X0_isSingular_X0 hown hK hM (hrn) rfl 4 (by decide) (hts (.fieldLink RX0 25 "LimbCurves$Curve" "left" "[I") (by decide +kernel)) (fun _ h9 => h9) rfl dX0_isSingular_152 ?_
  refine r_Si (As := [.ref (h + 59)]) (rest := []) C hM hS (c_isZero l D kA N0 M1 (h + 59) L f5 h5 n5 (by omega)) gX0_isSingular_X1_isZero rfl rfl rfl ⟨by decide +kernel, by decide +kernel, (by decide +kernel : (parseMethodDescriptor yX1_isZero.desc).map (fun d => d.parameters.length) = some 1)⟩ ⟨Nat.le_of_ble_eq_true rfl, Nat.le_of_ble_eq_true rfl⟩ hl.1 rfl (Nat.le_of_ble_eq_true rfl) dX0_isSingular_155 ⟨Nat.le_of_ble_eq_true rfl, Nat.le_of_ble_eq_true rfl⟩ (fun qz M2 H locs hp hM hS => ?_)
  obtain ⟨eM, hqz⟩ := hp
  rw [eM] at hM
  rw [V5] at hqz
  have hd : fz k l5 = dsc k A B := by
    rw [hpe] at el1 el2 el3 el4 er1 er2 er3 er4 el5
    rw [el5, fz_add, el4, fz_add, el3, fz_add, el2, fz_mul, el1, fz_mul, er4, fz_add, fz_add, er3, fz_add, fz_add, er2, fz_add, fz_add, er1, fz_mul]
    unfold dsc
    grind
  have hd0 : l5 = 0 ↔ dsc k A B = 0 := by rw [← hd, fz_z (by omega)]
  have hgl : CG kA M0 M1 h L (k + 1) [none, none] := by
    obtain ⟨a1, a2, a3, a4, a5, a6, a7⟩ := hg
    rw [hpe] at a2
    exact ⟨a1, a2, a3, a4, a5, fun j v hj => by
      match j, hj with
      | 0, hj | 1, hj => cases hj
      | j + 2, hj => simp at hj, a7⟩
  have hn9 : narrow .boolean (.int qz) = .int qz := by rcases hqz with ⟨h1, h2⟩ | ⟨h1, h2⟩ <;> rw [h1] <;> rfl
  have hpost : (qz = 1 ∧ dsc k A B = 0) ∨ (qz = 0 ∧ dsc k A B ≠ 0) := by
    rcases hqz with ⟨h1, h2⟩ | ⟨h1, h2⟩
    · exact Or.inl ⟨h1, hd0.mp h2⟩
    · exact Or.inr ⟨h1, fun q => by have := hd0.mpr q; omega⟩
  exact r_zret C hM hS hn9 (⟨hgl, hpost⟩) dX0_isSingular_158
set_option maxRecDepth 100000 in
theorem c_takeParameters (l : Launch) (D : va_G) (kA : Nat → ClassId) (N0 : Nat) (M : xM) (h L P A B : Nat) (hcv : M (h + 58) = some (oCv h)) (hk : Rk kA M (h + 49) L) (hl1 : isA kA M (h + 59) L) (hl2 : isA kA M (h + 60) L) (hP : isN kA M (h + 2) L P) (hA : isN kA M (h + 3) L A) (hB : isN kA M (h + 4) L B) (hL0 : 0 < L) (hL : L < 40) : cI l yX0_takeParameters wsX0_takeParameters (xR 4) [.ref (h + 58)] D kA N0 M (fun v M1 => Rk kA M1 (h + 49) L ∧ isA kA M1 (h + 59) L ∧ isA kA M1 (h + 60) L ∧ (∀ b, b < h + 49 ∨ h + 53 < b → b ≠ h + 59 → b ≠ h + 60 → M1 b = M b) ∧ ((v = nI 1 ∧ (P % 2 = 0 ∨ P ≤ 3)) ∨ (v = nI 2 ∧ P % 2 = 1 ∧ 3 < P ∧ (P ≤ A ∨ P ≤ B)) ∨ (P % 2 = 1 ∧ 3 < P ∧ A < P ∧ B < P ∧ ((v = nI 3 ∧ dsc (P - 1) A B = 0) ∨ (v = nI 0 ∧ dsc (P - 1) A B ≠ 0 ∧ Rs kA M1 (h + 49) L P))))) := by
  have hP9 := hP
  have hA9 := hA
  have hB9 := hB
  obtain ⟨fp, hp1, np, Vp⟩ := hP
  obtain ⟨fa, ha1, na, Va⟩ := hA
  obtain ⟨fb, hb1, nb, Vb⟩ := hB
  refine r_met (cc := cX0_takeParameters) (maxL := 1) (ret := (some .int)) (by decide) rfl (Nat.le_of_ble_eq_true rfl) ?_
  intro p e s m below meth c ls C hM hnm hl
  obtain ⟨hx, hb, hml, hown, hts, hr, hlocks, hK, hN⟩ := _root_.id C
  have hS : va_S (xA N0) s.heap s.heap [] := va_S.rf
  have hl : lv_has ls 1 [(0, .ref (h + 58))] := hl
  refine lv_aload_n hx hb dX0_takeParameters_0 rfl (lv_at hl 0 rfl) ?_
  refine x_get (v := .ref (h + 2)) hx hb hts in_X0_takeParameters_X0 hown hK hM (hcv) rfl 0 (by decide) (hts (.fieldLink RX0 9 "LimbCurves$Curve" "p" "[I") (by decide +kernel)) (fun _ h9 => h9) rfl dX0_takeParameters_1 ?_
  refine lv_iconst (v := nI 0) hx hb dX0_takeParameters_4 (by decide) ?_
  refine r_iald C hM (hp1) rfl (by omega) (by omega) dX0_takeParameters_5 ?_
  refine lv_iconst (v := nI 1) hx hb dX0_takeParameters_6 (by decide) ?_
  rw [nI_dg (np 0 hL0)]
  have hdl := dg_lt (fp 0)
  have hBB : BB = 2147483648 := rfl
  have hodd := odd_of (f := fp) hL0
  rw [Vp] at hodd
  have hself : ∀ v : Int32, (v = nI 1 ∧ (P % 2 = 0 ∨ P ≤ 3)) → Rk kA M (h + 49) L ∧ isA kA M (h + 59) L ∧ isA kA M (h + 60) L ∧ (∀ b, b < h + 49 ∨ h + 53 < b → b ≠ h + 59 → b ≠ h + 60 → M b = M b) ∧ ((v = nI 1 ∧ (P % 2 = 0 ∨ P ≤ 3)) ∨ (v = nI 2 ∧ P % 2 = 1 ∧ 3 < P ∧ (P ≤ A ∨ P ≤ B)) ∨ (P % 2 = 1 ∧ 3 < P ∧ A < P ∧ B < P ∧ ((v = nI 3 ∧ dsc (P - 1) A B = 0) ∨ (v = nI 0 ∧ dsc (P - 1) A B ≠ 0 ∧ Rs kA M (h + 49) L P)))) := fun v h9 => ⟨hk, hl1, hl2, fun _ _ _ _ => rfl, Or.inl h9⟩
  refine lv_iand hx hb dX0_takeParameters_7 ?_
  refine r_topi C (nI (dg (fp 0) % 2)) (pk_andN (by omega) 1 (by decide)) ?_
  refine r_if_eqN (tgt := 22) C (by omega) dX0_takeParameters_8 (by decide) (fun hc => ?_) (fun hc => ?_)
  · refine lv_iconst (v := nI 1) hx hb dX0_takeParameters_22 (by decide) ?_
    exact r_iret C hM hS (hself _ ⟨rfl, by omega⟩) dX0_takeParameters_23
  · refine lv_aload_n hx hb dX0_takeParameters_11 rfl (lv_at hl 0 rfl) ?_
    refine x_get (v := .ref (h + 2)) hx hb hts in_X0_takeParameters_X0 hown hK hM (hcv) rfl 0 (by decide) (hts (.fieldLink RX0 9 "LimbCurves$Curve" "p" "[I") (by decide +kernel)) (fun _ h9 => h9) rfl dX0_takeParameters_12 ?_
    refine r_Si (As := [.ref (h + 2)]) (rest := []) C hM hS (c_bitsOf l D kA N0 M (h + 2) L fp hp1 np (by omega)) gX0_takeParameters_X1_bitsOf rfl rfl rfl ⟨by decide +kernel, by decide +kernel, (by decide +kernel : (parseMethodDescriptor yX1_bitsOf.desc).map (fun d => d.parameters.length) = some 1)⟩ ⟨Nat.le_of_ble_eq_true rfl, Nat.le_of_ble_eq_true rfl⟩ hl.1 rfl (Nat.le_of_ble_eq_true rfl) dX0_takeParameters_15 ⟨Nat.le_of_ble_eq_true rfl, Nat.le_of_ble_eq_true rfl⟩ (fun vb M1 H locs hp hM hS => ?_)
    obtain ⟨eM, evb⟩ := hp
    rw [eM] at hM
    rw [Vp] at evb
    rw [evb]
    have hbl9 : bl P ≤ 31 * L := by
      refine bl_le ?_
      have := hP9.lt
      rw [BB_two] at this
      exact this
    have hbh := bl_hi P
    refine lv_iconst (v := nI 3) hx hb dX0_takeParameters_18 (by decide) ?_
    refine r_icmp_geN (tgt := 24) C (by omega) (by omega) dX0_takeParameters_19 (by decide) (fun hc2 => ?_) (fun hc2 => ?_)
    · have hP3 : 3 < P := by
        have h1 := bl_lo (n := P) (by
          rcases Nat.eq_zero_or_pos P with h0 | h0
          · rw [h0, bl_0] at hc2; omega
          · exact h0)
        have h2 : 2 ^ 2 ≤ 2 ^ (bl P - 1) := Nat.pow_le_pow_right (by decide) (by omega)
        omega
      clear hself
      refine lv_aload_n hx hb dX0_takeParameters_24 rfl (lv_at hl 0 rfl) ?_
      refine x_get (v := .ref (h + 3)) hx hb hts in_X0_takeParameters_X0 hown hK hM (hcv) rfl 1 (by decide) (hts (.fieldLink RX0 15 "LimbCurves$Curve" "a" "[I") (by decide +kernel)) (fun _ h9 => h9) rfl dX0_takeParameters_25 ?_
      refine lv_aload_n hx hb dX0_takeParameters_28 rfl (lv_at hl 0 rfl) ?_
      refine x_get (v := .ref (h + 2)) hx hb hts in_X0_takeParameters_X0 hown hK hM (hcv) rfl 0 (by decide) (hts (.fieldLink RX0 9 "LimbCurves$Curve" "p" "[I") (by decide +kernel)) (fun _ h9 => h9) rfl dX0_takeParameters_29 ?_
      refine r_Si (As := [.ref (h + 3), .ref (h + 2)]) (rest := []) C hM hS (c_compare l D kA N0 M (h + 3) (h + 2) L fa fp ha1 hp1 na np (by omega)) gX0_takeParameters_X1_compare rfl rfl rfl ⟨by decide +kernel, by decide +kernel, (by decide +kernel : (parseMethodDescriptor yX1_compare.desc).map (fun d => d.parameters.length) = some 2)⟩ ⟨Nat.le_of_ble_eq_true rfl, Nat.le_of_ble_eq_true rfl⟩ hl.1 rfl (Nat.le_of_ble_eq_true rfl) dX0_takeParameters_32 ⟨Nat.le_of_ble_eq_true rfl, Nat.le_of_ble_eq_true rfl⟩ (fun v1 M1 H locs hp hM hS => ?_)
      obtain ⟨eM1, hv1⟩ := hp
      rw [eM1] at hM
      rw [Va, Vp] at hv1
      have hself : ∀ v : Int32, (v = nI 2 ∧ P % 2 = 1 ∧ 3 < P ∧ (P ≤ A ∨ P ≤ B)) → Rk kA M (h + 49) L ∧ isA kA M (h + 59) L ∧ isA kA M (h + 60) L ∧ (∀ b, b < h + 49 ∨ h + 53 < b → b ≠ h + 59 → b ≠ h + 60 → M b = M b) ∧ ((v = nI 1 ∧ (P % 2 = 0 ∨ P ≤ 3)) ∨ (v = nI 2 ∧ P % 2 = 1 ∧ 3 < P ∧ (P ≤ A ∨ P ≤ B)) ∨ (P % 2 = 1 ∧ 3 < P ∧ A < P ∧ B < P ∧ ((v = nI 3 ∧ dsc (P - 1) A B = 0) ∨ (v = nI 0 ∧ dsc (P - 1) A B ≠ 0 ∧ Rs kA M (h + 49) L P)))) := fun v h9 => ⟨hk, hl1, hl2, fun _ _ _ _ => rfl, Or.inr (Or.inl h9)⟩
      refine lv_if_ge (tgt := 52) hx hb dX0_takeParameters_35 (by decide) (fun hc3 => ?_) (fun hc3 => ?_)
      · have hAP : P ≤ A := by
          rcases hv1 with ⟨h1, h2⟩ | ⟨h1, h2⟩ | ⟨h1, h2⟩
          · omega
          · rw [h1] at hc3; exact absurd hc3 (by decide)
          · omega
        refine lv_iconst (v := nI 2) hx hb dX0_takeParameters_52 (by decide) ?_
        exact r_iret C hM hS (hself _ ⟨rfl, by omega, hP3, Or.inl hAP⟩) dX0_takeParameters_53
      · have hAP : A < P := by
          rcases hv1 with ⟨h1, h2⟩ | ⟨h1, h2⟩ | ⟨h1, h2⟩
          · rw [h1] at hc3; exact absurd (by decide) hc3
          · exact h2
          · rw [h1] at hc3; exact absurd (by decide) hc3
        refine lv_aload_n hx hb dX0_takeParameters_38 rfl (lv_at hl 0 rfl) ?_
        refine x_get (v := .ref (h + 4)) hx hb hts in_X0_takeParameters_X0 hown hK hM (hcv) rfl 2 (by decide) (hts (.fieldLink RX0 18 "LimbCurves$Curve" "b" "[I") (by decide +kernel)) (fun _ h9 => h9) rfl dX0_takeParameters_39 ?_
        refine lv_aload_n hx hb dX0_takeParameters_42 rfl (lv_at hl 0 rfl) ?_
        refine x_get (v := .ref (h + 2)) hx hb hts in_X0_takeParameters_X0 hown hK hM (hcv) rfl 0 (by decide) (hts (.fieldLink RX0 9 "LimbCurves$Curve" "p" "[I") (by decide +kernel)) (fun _ h9 => h9) rfl dX0_takeParameters_43 ?_
        refine r_Si (As := [.ref (h + 4), .ref (h + 2)]) (rest := []) C hM hS (c_compare l D kA N0 M (h + 4) (h + 2) L fb fp hb1 hp1 nb np (by omega)) gX0_takeParameters_X1_compare rfl rfl rfl ⟨by decide +kernel, by decide +kernel, (by decide +kernel : (parseMethodDescriptor yX1_compare.desc).map (fun d => d.parameters.length) = some 2)⟩ ⟨Nat.le_of_ble_eq_true rfl, Nat.le_of_ble_eq_true rfl⟩ hl.1 rfl (Nat.le_of_ble_eq_true rfl) dX0_takeParameters_46 ⟨Nat.le_of_ble_eq_true rfl, Nat.le_of_ble_eq_true rfl⟩ (fun v2 M1 H locs hp hM hS => ?_)
        obtain ⟨eM2, hv2⟩ := hp
        rw [eM2] at hM
        rw [Vb, Vp] at hv2
        refine lv_if_lt (tgt := 54) hx hb dX0_takeParameters_49 (by decide) (fun hc4 => ?_) (fun hc4 => ?_)
        · have hBP : B < P := by
            rcases hv2 with ⟨h1, h2⟩ | ⟨h1, h2⟩ | ⟨h1, h2⟩
            · rw [h1] at hc4; exact absurd hc4 (by decide)
            · exact h2
            · rw [h1] at hc4; exact absurd hc4 (by decide)
          obtain ⟨s8, h8, hrf⟩ := hk.1
          refine lv_aload_n hx hb dX0_takeParameters_54 rfl (lv_at hl 0 rfl) ?_
          refine x_get (v := .ref (h + 49)) hx hb hts in_X0_takeParameters_X0 hown hK hM (hcv) rfl 3 (by decide) (hts (.fieldLink RX0 21 "LimbCurves$Curve" "field" "LLimbCurves$Residues;") (by decide +kernel)) (fun _ h9 => h9) rfl dX0_takeParameters_55 ?_
          refine lv_aload_n hx hb dX0_takeParameters_58 rfl (lv_at hl 0 rfl) ?_
          refine x_get (v := .ref (h + 2)) hx hb hts in_X0_takeParameters_X0 hown hK hM (hcv) rfl 0 (by decide) (hts (.fieldLink RX0 9 "LimbCurves$Curve" "p" "[I") (by decide +kernel)) (fun _ h9 => h9) rfl dX0_takeParameters_59 ?_
          refine r_Vi (As := [.ref (h + 2)]) (rest := []) C hM hS (c_takeModulus l D kA N0 M (h + 49) L (h + 2) P hk hP9 (by omega)) (hrf) rfl gX0_takeParameters_X3_takeModulus rfl rfl rfl ⟨rfl, by decide +kernel, by decide +kernel, (by decide +kernel : (parseMethodDescriptor yX3_takeModulus.desc).map (fun d => d.parameters.length) = some 1)⟩ ⟨Nat.le_of_ble_eq_true rfl, Nat.le_of_ble_eq_true rfl⟩ hl.1 rfl (Nat.le_of_ble_eq_true rfl) dX0_takeParameters_62 ⟨Nat.le_of_ble_eq_true rfl, Nat.le_of_ble_eq_true rfl⟩ (fun qm M1 H locs hp hM hS => ?_)
          obtain ⟨hk1, hf1, hq1⟩ := hp
          have hRs : Rs kA M1 (h + 49) L P := by
            rcases hq1 with ⟨h1, h2⟩ | ⟨h1, h2, h3⟩
            · omega
            · exact h3
          obtain ⟨k, hkP⟩ : ∃ k, P = k + 1 := ⟨P - 1, by omega⟩
          have hg : CG kA M1 M1 h L (k + 1) [none, none] := ⟨by rw [hf1 _ (by omega) (by omega) (by omega)]; exact hcv, by rw [← hkP]; exact hRs, hk1.2.2.2.1, hk1.2.2.2.2.1, fun j hj => by
            match j, hj with
            | 0, _ => exact hl1.kept (hf1 _ (by omega) (by omega) (by omega))
            | 1, _ => exact hl2.kept (hf1 _ (by omega) (by omega) (by omega)), fun j v hj => by
            match j, hj with
            | 0, hj | 1, hj => cases hj
            | j + 2, hj => simp at hj, fun _ _ _ _ _ => rfl⟩
          have hcv1 := hg.rn
          refine lv_pop hx hb dX0_takeParameters_65 rfl ?_
          refine lv_aload_n hx hb dX0_takeParameters_66 rfl (lv_at hl 0 rfl) ?_
          refine r_Vi (As := []) (rest := []) C hM hS (c_isSingular l D kA N0 M1 M1 h L k A B hg (hA9.kept (hf1 _ (by omega) (by omega) (by omega))) (hB9.kept (hf1 _ (by omega) (by omega) (by omega))) (by omega) (by omega) hL) (hcv1) rfl gX0_takeParameters_X0_isSingular rfl rfl rfl ⟨rfl, by decide +kernel, by decide +kernel, (by decide +kernel : (parseMethodDescriptor yX0_isSingular.desc).map (fun d => d.parameters.length) = some 0)⟩ ⟨Nat.le_of_ble_eq_true rfl, Nat.le_of_ble_eq_true rfl⟩ hl.1 rfl (Nat.le_of_ble_eq_true rfl) dX0_takeParameters_67 ⟨Nat.le_of_ble_eq_true rfl, Nat.le_of_ble_eq_true rfl⟩ (fun qs M2 H locs hp hM hS => ?_)
          obtain ⟨hg2, hs2⟩ := hp
          have hk2 : Rk kA M2 (h + 49) L := by
            obtain ⟨sz2, sh2, hob2⟩ := hg2.rs.ob
            obtain ⟨sz, sh, fm, fd, -, -, hd2, -⟩ := hg2.rs
            obtain ⟨k0, k1, k2, k3, k4, k5, k6, k7, k8⟩ := hk1
            exact ⟨⟨_, _, hob2⟩, hg2.rs.md.isA, ⟨_, hd2⟩, hg2.wk, hg2.sp, k5.kept (hg2.fr _ (by omega) (by omega) (by omega) (by omega)), k6.kept (hg2.fr _ (by omega) (by omega) (by omega) (by omega)), k7.kept (hg2.fr _ (by omega) (by omega) (by omega) (by omega)), k8.kept (hg2.fr _ (by omega) (by omega) (by omega) (by omega))⟩
          have hf2 : ∀ b, b < h + 49 ∨ h + 53 < b → b ≠ h + 59 → b ≠ h + 60 → M2 b = M b := fun b h1 h2 h3 => by rw [hg2.fr b (by omega) (by omega) h2 h3, hf1 b (by omega) (by omega) (by omega)]
          have hk9 : P - 1 = k := by omega
          refine lv_if_eq (tgt := 77) hx hb dX0_takeParameters_70 (by decide) (fun hc5 => ?_) (fun hc5 => ?_)
          · have hs3 : dsc (P - 1) A B ≠ 0 := by
              rw [hk9]
              rcases hs2 with ⟨h1, h2⟩ | ⟨h1, h2⟩
              · rw [h1] at hc5; exact absurd hc5 (by decide)
              · exact h2
            refine lv_iconst (v := nI 0) hx hb dX0_takeParameters_77 (by decide) ?_
            exact r_iret C hM hS (⟨hk2, hg2.rA 0 (by decide), hg2.rA 1 (by decide), hf2, Or.inr (Or.inr ⟨by omega, hP3, hAP, hBP, Or.inr ⟨rfl, hs3, by rw [hkP]; exact hg2.rs⟩⟩)⟩) dX0_takeParameters_78
          · have hs3 : dsc (P - 1) A B = 0 := by
              rw [hk9]
              rcases hs2 with ⟨h1, h2⟩ | ⟨h1, h2⟩
              · exact h2
              · exact absurd h1 hc5
            refine lv_iconst (v := nI 3) hx hb dX0_takeParameters_73 (by decide) ?_
            refine lv_goto (tgt := 78) hx hb dX0_takeParameters_74 (by decide) ?_
            exact r_iret C hM hS (⟨hk2, hg2.rA 0 (by decide), hg2.rA 1 (by decide), hf2, Or.inr (Or.inr ⟨by omega, hP3, hAP, hBP, Or.inl ⟨rfl, hs3⟩⟩)⟩) dX0_takeParameters_78
        · have hBP : P ≤ B := by
            rcases hv2 with ⟨h1, h2⟩ | ⟨h1, h2⟩ | ⟨h1, h2⟩
            · omega
            · rw [h1] at hc4; exact absurd (by decide) hc4
            · omega
          refine lv_iconst (v := nI 2) hx hb dX0_takeParameters_52 (by decide) ?_
          exact r_iret C hM hS (hself _ ⟨rfl, by omega, hP3, Or.inr hBP⟩) dX0_takeParameters_53
    · have hP3 : P ≤ 3 := by
        have h2 : 2 ^ bl P ≤ 2 ^ 2 := Nat.pow_le_pow_right (by decide) (by omega)
        omega
      refine lv_iconst (v := nI 1) hx hb dX0_takeParameters_22 (by decide) ?_
      exact r_iret C hM hS (hself _ ⟨rfl, Or.inr hP3⟩) dX0_takeParameters_23
set_option maxRecDepth 100000 in
theorem c_holds (l : Launch) (D : va_G) (kA : Nat → ClassId) (N0 : Nat) (M0 M : xM) (h L pp q X Y d A B : Nat) (hg : CG kA M0 M h L pp [none, none]) (hP : isN kA M0 (h + 2) L pp) (hA : isN kA M0 (h + 3) L A) (hB : isN kA M0 (h + 4) L B) (hAb : A < pp) (hBb : B < pp) (hq : M0 q = some (oPt q (nI d))) (hX : isN kA M0 (q + 1) L X) (hY : isN kA M0 (q + 2) L Y) (hd : d ≤ 1) (hqh : q + 2 < h + 49 ∨ h + 60 < q) (hpp : 0 < pp) (hL : L < 40) : cI l yX0_holds wsX0_holds (xR 3) [.ref (h + 58), .ref q] D kA N0 M (fun v M1 => CG kA M0 M1 h L pp [none, none] ∧ ((v = 1 ∧ (d = 1 ∨ onN pp A B X Y)) ∨ (v = 0 ∧ d = 0 ∧ ¬ onN pp A B X Y))) := by
  have hrn := hg.rn
  have hq1 : M q = some (oPt q (nI d)) := by rw [hg.fr _ (by omega) (by omega) (by omega) (by omega)]; exact hq
  refine r_met (cc := cX0_holds) (maxL := 2) (ret := (some .boolean)) (by decide) rfl (Nat.le_of_ble_eq_true rfl) ?_
  intro p e s m below meth c ls C hM hnm hl
  obtain ⟨hx, hb, hml, hown, hts, hr, hlocks, hK, hN⟩ := _root_.id C
  have hS : va_S (xA N0) s.heap s.heap [] := va_S.rf
  have hl : lv_has ls 2 [(0, .ref (h + 58)), (1, .ref q)] := hl
  refine lv_aload_n hx hb dX0_holds_0 rfl (lv_at hl 1 rfl) ?_
  refine x_get (v := .int (nI d)) hx hb hts in_X0_holds_X2 hown hK hM (hq1) rfl 2 (by decide) (hts (.fieldLink RX0 68 "LimbCurves$Point" "identity" "Z") (by decide +kernel)) (fun _ h9 => h9) rfl dX0_holds_1 ?_
  refine r_if_eqN (tgt := 9) C (by omega) dX0_holds_4 (by decide) (fun hc => ?_) (fun hc => ?_)
  · obtain ⟨fp, hp1, np, Vp⟩ := hP.kept (hg.fr (h + 2) (by omega) (by omega) (by omega) (by omega))
    obtain ⟨fx, hx1, nx, Vx⟩ := hX.kept (hg.fr (q + 1) (by omega) (by omega) (by omega) (by omega))
    obtain ⟨fy, hy1, ny, Vy⟩ := hY.kept (hg.fr (q + 2) (by omega) (by omega) (by omega) (by omega))
    refine lv_aload_n hx hb dX0_holds_9 rfl (lv_at hl 1 rfl) ?_
    refine x_get (v := .ref (q + 1)) hx hb hts in_X0_holds_X2 hown hK hM (hq1) rfl 0 (by decide) (hts (.fieldLink RX0 74 "LimbCurves$Point" "x" "[I") (by decide +kernel)) (fun _ h9 => h9) rfl dX0_holds_10 ?_
    refine lv_aload_n hx hb dX0_holds_13 rfl (lv_at hl 0 rfl) ?_
    refine x_get (v := .ref (h + 2)) hx hb hts in_X0_holds_X0 hown hK hM (hrn) rfl 0 (by decide) (hts (.fieldLink RX0 9 "LimbCurves$Curve" "p" "[I") (by decide +kernel)) (fun _ h9 => h9) rfl dX0_holds_14 ?_
    refine r_Si (As := [.ref (q + 1), .ref (h + 2)]) (rest := []) C hM hS (c_compare l D kA N0 M (q + 1) (h + 2) L fx fp hx1 hp1 nx np (by omega)) gX0_holds_X1_compare rfl rfl rfl ⟨by decide +kernel, by decide +kernel, (by decide +kernel : (parseMethodDescriptor yX1_compare.desc).map (fun d => d.parameters.length) = some 2)⟩ ⟨Nat.le_of_ble_eq_true rfl, Nat.le_of_ble_eq_true rfl⟩ hl.1 rfl (Nat.le_of_ble_eq_true rfl) dX0_holds_17 ⟨Nat.le_of_ble_eq_true rfl, Nat.le_of_ble_eq_true rfl⟩ (fun v1 M1 H locs hp hM hS => ?_)
    obtain ⟨eM1, hv1⟩ := hp
    rw [eM1] at hM
    rw [Vx, Vp] at hv1
    refine lv_if_ge (tgt := 37) hx hb dX0_holds_20 (by decide) (fun hc3 => ?_) (fun hc3 => ?_)
    · have hXP : pp ≤ X := by
        rcases hv1 with ⟨h1, h2⟩ | ⟨h1, h2⟩ | ⟨h1, h2⟩
        · omega
        · rw [h1] at hc3; exact absurd hc3 (by decide)
        · omega
      refine lv_iconst (v := nI 0) hx hb dX0_holds_37 (by decide) ?_
      exact r_zret C hM hS rfl (⟨hg, Or.inr ⟨rfl, hc, fun q => by have := q.1; omega⟩⟩) dX0_holds_38
    · have hXP : X < pp := by
        rcases hv1 with ⟨h1, h2⟩ | ⟨h1, h2⟩ | ⟨h1, h2⟩
        · rw [h1] at hc3; exact absurd (by decide) hc3
        · exact h2
        · rw [h1] at hc3; exact absurd (by decide) hc3
      refine lv_aload_n hx hb dX0_holds_23 rfl (lv_at hl 1 rfl) ?_
      refine x_get (v := .ref (q + 2)) hx hb hts in_X0_holds_X2 hown hK hM (hq1) rfl 1 (by decide) (hts (.fieldLink RX0 77 "LimbCurves$Point" "y" "[I") (by decide +kernel)) (fun _ h9 => h9) rfl dX0_holds_24 ?_
      refine lv_aload_n hx hb dX0_holds_27 rfl (lv_at hl 0 rfl) ?_
      refine x_get (v := .ref (h + 2)) hx hb hts in_X0_holds_X0 hown hK hM (hrn) rfl 0 (by decide) (hts (.fieldLink RX0 9 "LimbCurves$Curve" "p" "[I") (by decide +kernel)) (fun _ h9 => h9) rfl dX0_holds_28 ?_
      refine r_Si (As := [.ref (q + 2), .ref (h + 2)]) (rest := []) C hM hS (c_compare l D kA N0 M (q + 2) (h + 2) L fy fp hy1 hp1 ny np (by omega)) gX0_holds_X1_compare rfl rfl rfl ⟨by decide +kernel, by decide +kernel, (by decide +kernel : (parseMethodDescriptor yX1_compare.desc).map (fun d => d.parameters.length) = some 2)⟩ ⟨Nat.le_of_ble_eq_true rfl, Nat.le_of_ble_eq_true rfl⟩ hl.1 rfl (Nat.le_of_ble_eq_true rfl) dX0_holds_31 ⟨Nat.le_of_ble_eq_true rfl, Nat.le_of_ble_eq_true rfl⟩ (fun v2 M1 H locs hp hM hS => ?_)
      obtain ⟨eM2, hv2⟩ := hp
      rw [eM2] at hM
      rw [Vy, Vp] at hv2
      refine lv_if_lt (tgt := 39) hx hb dX0_holds_34 (by decide) (fun hc4 => ?_) (fun hc4 => ?_)
      · have hYP : Y < pp := by
          rcases hv2 with ⟨h1, h2⟩ | ⟨h1, h2⟩ | ⟨h1, h2⟩
          · rw [h1] at hc4; exact absurd hc4 (by decide)
          · exact h2
          · rw [h1] at hc4; exact absurd hc4 (by decide)
        clear hv1 hv2 hp1 hx1 hy1 eM1 eM2
        refine lv_aload_n hx hb dX0_holds_39 rfl (lv_at hl 0 rfl) ?_
        refine x_get (v := .ref (h + 49)) hx hb hts in_X0_holds_X0 hown hK hM (hrn) rfl 3 (by decide) (hts (.fieldLink RX0 21 "LimbCurves$Curve" "field" "LLimbCurves$Residues;") (by decide +kernel)) (fun _ h9 => h9) rfl dX0_holds_40 ?_
        refine lv_aload_n hx hb dX0_holds_43 rfl (lv_at hl 0 rfl) ?_
        refine x_get (v := .ref (h + 59)) hx hb hts in_X0_holds_X0 hown hK hM (hrn) rfl 4 (by decide) (hts (.fieldLink RX0 25 "LimbCurves$Curve" "left" "[I") (by decide +kernel)) (fun _ h9 => h9) rfl dX0_holds_44 ?_
        refine lv_aload_n hx hb dX0_holds_47 rfl (lv_at hl 1 rfl) ?_
        refine x_get (v := .ref (q + 2)) hx hb hts in_X0_holds_X2 hown hK hM (hq1) rfl 1 (by decide) (hts (.fieldLink RX0 77 "LimbCurves$Point" "y" "[I") (by decide +kernel)) (fun _ h9 => h9) rfl dX0_holds_48 ?_
        refine lv_aload_n hx hb dX0_holds_51 rfl (lv_at hl 1 rfl) ?_
        refine x_get (v := .ref (q + 2)) hx hb hts in_X0_holds_X2 hown hK hM (hq1) rfl 1 (by decide) (hts (.fieldLink RX0 77 "LimbCurves$Point" "y" "[I") (by decide +kernel)) (fun _ h9 => h9) rfl dX0_holds_52 ?_
        obtain ⟨z9, y9, hrf⟩ := hg.rs.ob
        refine r_Vv (As := [.ref (h + 59), .ref (q + 2), .ref (q + 2)]) (rest := []) C hM hS (c_multiply l D kA N0 _ (h + 49) L pp (h + 59) (q + 2) (q + 2) Y Y hg.rs hg.wk (hg.rA 0 (by decide)) (hY.kept (hg.fr _ (by omega) (by omega) (by omega) (by omega))) (hY.kept (hg.fr _ (by omega) (by omega) (by omega) (by omega))) (hYP) (hYP) (by omega) (by omega) (by omega) (by omega) (by omega)) (hrf) rfl gX0_holds_X3_multiply rfl rfl rfl ⟨rfl, by decide +kernel, by decide +kernel, (by decide +kernel : (parseMethodDescriptor yX3_multiply.desc).map (fun d => d.parameters.length) = some 3)⟩ ⟨Nat.le_of_ble_eq_true rfl, Nat.le_of_ble_eq_true rfl⟩ hl.1 rfl (Nat.le_of_ble_eq_true rfl) dX0_holds_55 ⟨Nat.le_of_ble_eq_true rfl, Nat.le_of_ble_eq_true rfl⟩ (fun M1 H locs hp hM hS => ?_)
        obtain ⟨q1, q2, q3⟩ := hp
        obtain ⟨l1, el1⟩ : ∃ q, q = Y * Y % pp := ⟨_, rfl⟩
        rw [← el1] at q1
        have hg : CG kA _ M1 h L pp [some l1, none]  := hg.st 0 (by decide) q1 (by rw [el1]; exact Nat.mod_lt _ hpp) q2 (hg.sp.kept (q3 _ (by omega) (by omega))) (fun b h1 h2 _ => q3 b h1 h2)
        have hrn := hg.rn
        have hq1 : M1 q = some (oPt q (nI d)) := by rw [hg.fr _ (by omega) (by omega) (by omega) (by omega)]; exact hq
        refine lv_aload_n hx hb dX0_holds_58 rfl (lv_at hl 0 rfl) ?_
        refine x_get (v := .ref (h + 49)) hx hb hts in_X0_holds_X0 hown hK hM (hrn) rfl 3 (by decide) (hts (.fieldLink RX0 21 "LimbCurves$Curve" "field" "LLimbCurves$Residues;") (by decide +kernel)) (fun _ h9 => h9) rfl dX0_holds_59 ?_
        refine lv_aload_n hx hb dX0_holds_62 rfl (lv_at hl 0 rfl) ?_
        refine x_get (v := .ref (h + 60)) hx hb hts in_X0_holds_X0 hown hK hM (hrn) rfl 5 (by decide) (hts (.fieldLink RX0 28 "LimbCurves$Curve" "right" "[I") (by decide +kernel)) (fun _ h9 => h9) rfl dX0_holds_63 ?_
        refine lv_aload_n hx hb dX0_holds_66 rfl (lv_at hl 1 rfl) ?_
        refine x_get (v := .ref (q + 1)) hx hb hts in_X0_holds_X2 hown hK hM (hq1) rfl 0 (by decide) (hts (.fieldLink RX0 74 "LimbCurves$Point" "x" "[I") (by decide +kernel)) (fun _ h9 => h9) rfl dX0_holds_67 ?_
        refine lv_aload_n hx hb dX0_holds_70 rfl (lv_at hl 1 rfl) ?_
        refine x_get (v := .ref (q + 1)) hx hb hts in_X0_holds_X2 hown hK hM (hq1) rfl 0 (by decide) (hts (.fieldLink RX0 74 "LimbCurves$Point" "x" "[I") (by decide +kernel)) (fun _ h9 => h9) rfl dX0_holds_71 ?_
        obtain ⟨z9, y9, hrf⟩ := hg.rs.ob
        refine r_Vv (As := [.ref (h + 60), .ref (q + 1), .ref (q + 1)]) (rest := []) C hM hS (c_multiply l D kA N0 _ (h + 49) L pp (h + 60) (q + 1) (q + 1) X X hg.rs hg.wk (hg.rA 1 (by decide)) (hX.kept (hg.fr _ (by omega) (by omega) (by omega) (by omega))) (hX.kept (hg.fr _ (by omega) (by omega) (by omega) (by omega))) (hXP) (hXP) (by omega) (by omega) (by omega) (by omega) (by omega)) (hrf) rfl gX0_holds_X3_multiply rfl rfl rfl ⟨rfl, by decide +kernel, by decide +kernel, (by decide +kernel : (parseMethodDescriptor yX3_multiply.desc).map (fun d => d.parameters.length) = some 3)⟩ ⟨Nat.le_of_ble_eq_true rfl, Nat.le_of_ble_eq_true rfl⟩ hl.1 rfl (Nat.le_of_ble_eq_true rfl) dX0_holds_74 ⟨Nat.le_of_ble_eq_true rfl, Nat.le_of_ble_eq_true rfl⟩ (fun M1 H locs hp hM hS => ?_)
        obtain ⟨q1, q2, q3⟩ := hp
        obtain ⟨r1, er1⟩ : ∃ q, q = X * X % pp := ⟨_, rfl⟩
        rw [← er1] at q1
        have hg : CG kA _ M1 h L pp [some l1, some r1]  := hg.st 1 (by decide) q1 (by rw [er1]; exact Nat.mod_lt _ hpp) q2 (hg.sp.kept (q3 _ (by omega) (by omega))) (fun b h1 h2 _ => q3 b h1 h2)
        have hrn := hg.rn
        have hq1 : M1 q = some (oPt q (nI d)) := by rw [hg.fr _ (by omega) (by omega) (by omega) (by omega)]; exact hq
        refine lv_aload_n hx hb dX0_holds_77 rfl (lv_at hl 0 rfl) ?_
        refine x_get (v := .ref (h + 49)) hx hb hts in_X0_holds_X0 hown hK hM (hrn) rfl 3 (by decide) (hts (.fieldLink RX0 21 "LimbCurves$Curve" "field" "LLimbCurves$Residues;") (by decide +kernel)) (fun _ h9 => h9) rfl dX0_holds_78 ?_
        refine lv_aload_n hx hb dX0_holds_81 rfl (lv_at hl 0 rfl) ?_
        refine x_get (v := .ref (h + 60)) hx hb hts in_X0_holds_X0 hown hK hM (hrn) rfl 5 (by decide) (hts (.fieldLink RX0 28 "LimbCurves$Curve" "right" "[I") (by decide +kernel)) (fun _ h9 => h9) rfl dX0_holds_82 ?_
        refine lv_aload_n hx hb dX0_holds_85 rfl (lv_at hl 0 rfl) ?_
        refine x_get (v := .ref (h + 60)) hx hb hts in_X0_holds_X0 hown hK hM (hrn) rfl 5 (by decide) (hts (.fieldLink RX0 28 "LimbCurves$Curve" "right" "[I") (by decide +kernel)) (fun _ h9 => h9) rfl dX0_holds_86 ?_
        refine lv_aload_n hx hb dX0_holds_89 rfl (lv_at hl 0 rfl) ?_
        refine x_get (v := .ref (h + 3)) hx hb hts in_X0_holds_X0 hown hK hM (hrn) rfl 1 (by decide) (hts (.fieldLink RX0 15 "LimbCurves$Curve" "a" "[I") (by decide +kernel)) (fun _ h9 => h9) rfl dX0_holds_90 ?_
        obtain ⟨z9, y9, hrf⟩ := hg.rs.ob
        refine r_Vv (As := [.ref (h + 60), .ref (h + 60), .ref (h + 3)]) (rest := []) C hM hS (c_add l D kA N0 _ (h + 49) L pp (h + 60) (h + 60) (h + 3) r1 A hg.rs (hg.rA 1 (by decide)) ((hg.n 1 rfl).1) (hA.kept (hg.fr _ (by omega) (by omega) (by omega) (by omega))) ((hg.n 1 rfl).2) (hAb) (by omega) (by omega)) (hrf) rfl gX0_holds_X3_add rfl rfl rfl ⟨rfl, by decide +kernel, by decide +kernel, (by decide +kernel : (parseMethodDescriptor yX3_add.desc).map (fun d => d.parameters.length) = some 3)⟩ ⟨Nat.le_of_ble_eq_true rfl, Nat.le_of_ble_eq_true rfl⟩ hl.1 rfl (Nat.le_of_ble_eq_true rfl) dX0_holds_93 ⟨Nat.le_of_ble_eq_true rfl, Nat.le_of_ble_eq_true rfl⟩ (fun M1 H locs hp hM hS => ?_)
        obtain ⟨q1, q3⟩ := hp
        obtain ⟨r2, er2⟩ : ∃ q, q = (r1 + A) % pp := ⟨_, rfl⟩
        rw [← er2] at q1
        have hg : CG kA _ M1 h L pp [some l1, some r2]  := hg.st 1 (by decide) q1 (by rw [er2]; exact Nat.mod_lt _ hpp) (hg.wk.kept (q3 _ (by omega))) (hg.sp.kept (q3 _ (by omega))) (fun b h1 _ _ => q3 b h1)
        have hrn := hg.rn
        have hq1 : M1 q = some (oPt q (nI d)) := by rw [hg.fr _ (by omega) (by omega) (by omega) (by omega)]; exact hq
        refine lv_aload_n hx hb dX0_holds_96 rfl (lv_at hl 0 rfl) ?_
        refine x_get (v := .ref (h + 49)) hx hb hts in_X0_holds_X0 hown hK hM (hrn) rfl 3 (by decide) (hts (.fieldLink RX0 21 "LimbCurves$Curve" "field" "LLimbCurves$Residues;") (by decide +kernel)) (fun _ h9 => h9) rfl dX0_holds_97 ?_
        refine lv_aload_n hx hb dX0_holds_100 rfl (lv_at hl 0 rfl) ?_
        refine x_get (v := .ref (h + 60)) hx hb hts in_X0_holds_X0 hown hK hM (hrn) rfl 5 (by decide) (hts (.fieldLink RX0 28 "LimbCurves$Curve" "right" "[I") (by decide +kernel)) (fun _ h9 => h9) rfl dX0_holds_101 ?_
        refine lv_aload_n hx hb dX0_holds_104 rfl (lv_at hl 0 rfl) ?_
        refine x_get (v := .ref (h + 60)) hx hb hts in_X0_holds_X0 hown hK hM (hrn) rfl 5 (by decide) (hts (.fieldLink RX0 28 "LimbCurves$Curve" "right" "[I") (by decide +kernel)) (fun _ h9 => h9) rfl dX0_holds_105 ?_
        refine lv_aload_n hx hb dX0_holds_108 rfl (lv_at hl 1 rfl) ?_
        refine x_get (v := .ref (q + 1)) hx hb hts in_X0_holds_X2 hown hK hM (hq1) rfl 0 (by decide) (hts (.fieldLink RX0 74 "LimbCurves$Point" "x" "[I") (by decide +kernel)) (fun _ h9 => h9) rfl dX0_holds_109 ?_
        obtain ⟨z9, y9, hrf⟩ := hg.rs.ob
        refine r_Vv (As := [.ref (h + 60), .ref (h + 60), .ref (q + 1)]) (rest := []) C hM hS (c_multiply l D kA N0 _ (h + 49) L pp (h + 60) (h + 60) (q + 1) r2 X hg.rs hg.wk (hg.rA 1 (by decide)) ((hg.n 1 rfl).1) (hX.kept (hg.fr _ (by omega) (by omega) (by omega) (by omega))) ((hg.n 1 rfl).2) (hXP) (by omega) (by omega) (by omega) (by omega) (by omega)) (hrf) rfl gX0_holds_X3_multiply rfl rfl rfl ⟨rfl, by decide +kernel, by decide +kernel, (by decide +kernel : (parseMethodDescriptor yX3_multiply.desc).map (fun d => d.parameters.length) = some 3)⟩ ⟨Nat.le_of_ble_eq_true rfl, Nat.le_of_ble_eq_true rfl⟩ hl.1 rfl (Nat.le_of_ble_eq_true rfl) dX0_holds_112 ⟨Nat.le_of_ble_eq_true rfl, Nat.le_of_ble_eq_true rfl⟩ (fun M1 H locs hp hM hS => ?_)
        obtain ⟨q1, q2, q3⟩ := hp
        obtain ⟨r3, er3⟩ : ∃ q, q = r2 * X % pp := ⟨_, rfl⟩
        rw [← er3] at q1
        have hg : CG kA _ M1 h L pp [some l1, some r3]  := hg.st 1 (by decide) q1 (by rw [er3]; exact Nat.mod_lt _ hpp) q2 (hg.sp.kept (q3 _ (by omega) (by omega))) (fun b h1 h2 _ => q3 b h1 h2)
        have hrn := hg.rn
        have hq1 : M1 q = some (oPt q (nI d)) := by rw [hg.fr _ (by omega) (by omega) (by omega) (by omega)]; exact hq
        refine lv_aload_n hx hb dX0_holds_115 rfl (lv_at hl 0 rfl) ?_
        refine x_get (v := .ref (h + 49)) hx hb hts in_X0_holds_X0 hown hK hM (hrn) rfl 3 (by decide) (hts (.fieldLink RX0 21 "LimbCurves$Curve" "field" "LLimbCurves$Residues;") (by decide +kernel)) (fun _ h9 => h9) rfl dX0_holds_116 ?_
        refine lv_aload_n hx hb dX0_holds_119 rfl (lv_at hl 0 rfl) ?_
        refine x_get (v := .ref (h + 60)) hx hb hts in_X0_holds_X0 hown hK hM (hrn) rfl 5 (by decide) (hts (.fieldLink RX0 28 "LimbCurves$Curve" "right" "[I") (by decide +kernel)) (fun _ h9 => h9) rfl dX0_holds_120 ?_
        refine lv_aload_n hx hb dX0_holds_123 rfl (lv_at hl 0 rfl) ?_
        refine x_get (v := .ref (h + 60)) hx hb hts in_X0_holds_X0 hown hK hM (hrn) rfl 5 (by decide) (hts (.fieldLink RX0 28 "LimbCurves$Curve" "right" "[I") (by decide +kernel)) (fun _ h9 => h9) rfl dX0_holds_124 ?_
        refine lv_aload_n hx hb dX0_holds_127 rfl (lv_at hl 0 rfl) ?_
        refine x_get (v := .ref (h + 4)) hx hb hts in_X0_holds_X0 hown hK hM (hrn) rfl 2 (by decide) (hts (.fieldLink RX0 18 "LimbCurves$Curve" "b" "[I") (by decide +kernel)) (fun _ h9 => h9) rfl dX0_holds_128 ?_
        obtain ⟨z9, y9, hrf⟩ := hg.rs.ob
        refine r_Vv (As := [.ref (h + 60), .ref (h + 60), .ref (h + 4)]) (rest := []) C hM hS (c_add l D kA N0 _ (h + 49) L pp (h + 60) (h + 60) (h + 4) r3 B hg.rs (hg.rA 1 (by decide)) ((hg.n 1 rfl).1) (hB.kept (hg.fr _ (by omega) (by omega) (by omega) (by omega))) ((hg.n 1 rfl).2) (hBb) (by omega) (by omega)) (hrf) rfl gX0_holds_X3_add rfl rfl rfl ⟨rfl, by decide +kernel, by decide +kernel, (by decide +kernel : (parseMethodDescriptor yX3_add.desc).map (fun d => d.parameters.length) = some 3)⟩ ⟨Nat.le_of_ble_eq_true rfl, Nat.le_of_ble_eq_true rfl⟩ hl.1 rfl (Nat.le_of_ble_eq_true rfl) dX0_holds_131 ⟨Nat.le_of_ble_eq_true rfl, Nat.le_of_ble_eq_true rfl⟩ (fun M1 H locs hp hM hS => ?_)
        obtain ⟨q1, q3⟩ := hp
        obtain ⟨r4, er4⟩ : ∃ q, q = (r3 + B) % pp := ⟨_, rfl⟩
        rw [← er4] at q1
        have hg : CG kA _ M1 h L pp [some l1, some r4]  := hg.st 1 (by decide) q1 (by rw [er4]; exact Nat.mod_lt _ hpp) (hg.wk.kept (q3 _ (by omega))) (hg.sp.kept (q3 _ (by omega))) (fun b h1 _ _ => q3 b h1)
        have hrn := hg.rn
        obtain ⟨⟨f5, h5, n5, V5⟩, b5⟩ := hg.n 0 rfl
        obtain ⟨⟨f6, h6, n6, V6⟩, b6⟩ := hg.n 1 rfl
        have hgl : CG kA M0 M1 h L pp [none, none] := by
          obtain ⟨a1, a2, a3, a4, a5, a6, a7⟩ := hg
          exact ⟨a1, a2, a3, a4, a5, fun j v hj => by
            match j, hj with
            | 0, hj | 1, hj => cases hj
            | j + 2, hj => simp at hj, a7⟩
        have hon : l1 = r4 ↔ onN pp A B X Y := by
          show _ ↔ X < pp ∧ Y < pp ∧ Y * Y % pp = (((X * X % pp + A) % pp) * X % pp + B) % pp
          rw [← el1, ← er1, ← er2, ← er3, ← er4]
          exact ⟨fun q => ⟨hXP, hYP, q⟩, fun q => q.2.2⟩
        refine lv_aload_n hx hb dX0_holds_134 rfl (lv_at hl 0 rfl) ?_
        refine x_get (v := .ref (h + 59)) hx hb hts in_X0_holds_X0 hown hK hM (hrn) rfl 4 (by decide) (hts (.fieldLink RX0 25 "LimbCurves$Curve" "left" "[I") (by decide +kernel)) (fun _ h9 => h9) rfl dX0_holds_135 ?_
        refine lv_aload_n hx hb dX0_holds_138 rfl (lv_at hl 0 rfl) ?_
        refine x_get (v := .ref (h + 60)) hx hb hts in_X0_holds_X0 hown hK hM (hrn) rfl 5 (by decide) (hts (.fieldLink RX0 28 "LimbCurves$Curve" "right" "[I") (by decide +kernel)) (fun _ h9 => h9) rfl dX0_holds_139 ?_
        refine r_Si (As := [.ref (h + 59), .ref (h + 60)]) (rest := []) C hM hS (c_compare l D kA N0 M1 (h + 59) (h + 60) L f5 f6 h5 h6 n5 n6 (by omega)) gX0_holds_X1_compare rfl rfl rfl ⟨by decide +kernel, by decide +kernel, (by decide +kernel : (parseMethodDescriptor yX1_compare.desc).map (fun d => d.parameters.length) = some 2)⟩ ⟨Nat.le_of_ble_eq_true rfl, Nat.le_of_ble_eq_true rfl⟩ hl.1 rfl (Nat.le_of_ble_eq_true rfl) dX0_holds_142 ⟨Nat.le_of_ble_eq_true rfl, Nat.le_of_ble_eq_true rfl⟩ (fun v3 M2 H locs hp hM hS => ?_)
        obtain ⟨eM3, hv3⟩ := hp
        rw [eM3] at hM
        rw [V5, V6] at hv3
        refine lv_if_ne (tgt := 152) hx hb dX0_holds_145 (by decide) (fun hc5 => ?_) (fun hc5 => ?_)
        · have hno : ¬ onN pp A B X Y := fun q => by
            have := hon.mpr q
            rcases hv3 with ⟨h1, h2⟩ | ⟨h1, h2⟩ | ⟨h1, h2⟩
            · exact hc5 h1
            · omega
            · omega
          refine lv_iconst (v := nI 0) hx hb dX0_holds_152 (by decide) ?_
          exact r_zret C hM hS rfl (⟨hgl, Or.inr ⟨rfl, hc, hno⟩⟩) dX0_holds_153
        · have he : l1 = r4 := by
            rcases hv3 with ⟨h1, h2⟩ | ⟨h1, h2⟩ | ⟨h1, h2⟩
            · exact h2
            · rw [h1] at hc5; exact absurd hc5 (by decide)
            · rw [h1] at hc5; exact absurd hc5 (by decide)
          refine lv_iconst (v := nI 1) hx hb dX0_holds_148 (by decide) ?_
          refine lv_goto (tgt := 153) hx hb dX0_holds_149 (by decide) ?_
          exact r_zret C hM hS rfl (⟨hgl, Or.inl ⟨rfl, Or.inr (hon.mp he)⟩⟩) dX0_holds_153
      · have hYP : pp ≤ Y := by
          rcases hv2 with ⟨h1, h2⟩ | ⟨h1, h2⟩ | ⟨h1, h2⟩
          · omega
          · rw [h1] at hc4; exact absurd (by decide) hc4
          · omega
        refine lv_iconst (v := nI 0) hx hb dX0_holds_37 (by decide) ?_
        exact r_zret C hM hS rfl (⟨hg, Or.inr ⟨rfl, hc, fun q => by have := q.2.1; omega⟩⟩) dX0_holds_38
  · refine lv_iconst (v := nI 1) hx hb dX0_holds_7 (by decide) ?_
    exact r_zret C hM hS rfl (⟨hg, Or.inl ⟨rfl, Or.inl (by omega)⟩⟩) dX0_holds_8
set_option maxRecDepth 100000 in
theorem c_mirror (l : Launch) (D : va_G) (kA : Nat → ClassId) (N0 : Nat) (M : xM) (h L pp q Y : Nat) (d : Int32) (hcv : M (h + 58) = some (oCv h)) (hrs : Rs kA M (h + 49) L pp) (hl1 : isA kA M (h + 59) L) (hq : M q = some (oPt q d)) (hY : isN kA M (q + 2) L Y) (hYp : Y < pp) (hqh : q + 2 < h + 49 ∨ h + 60 < q) (hL0 : 0 < L) (hL : L < 40) : cV l yX0_mirror wsX0_mirror (xR 2) [.ref (h + 58), .ref q] D kA N0 M (fun M1 => isN kA M1 (q + 2) L (if Y = 0 then 0 else pp - Y) ∧ isA kA M1 (h + 59) L ∧ ∀ b, b ≠ q + 2 → b ≠ h + 59 → M1 b = M b) := by
  have hY9 := hY
  obtain ⟨fy, hy1, ny, Vy⟩ := hY
  have hl9 := hl1
  obtain ⟨f1, h1⟩ := hl1
  refine r_met (cc := cX0_mirror) (maxL := 2) (ret := none) (by decide) rfl (Nat.le_of_ble_eq_true rfl) ?_
  intro p e s m below meth c ls C hM hnm hl
  obtain ⟨hx, hb, hml, hown, hts, hr, hlocks, hK, hN⟩ := _root_.id C
  have hS : va_S (xA N0) s.heap s.heap [] := va_S.rf
  have hl : lv_has ls 2 [(0, .ref (h + 58)), (1, .ref q)] := hl
  refine lv_aload_n hx hb dX0_mirror_0 rfl (lv_at hl 1 rfl) ?_
  refine x_get (v := .ref (q + 2)) hx hb hts in_X0_mirror_X2 hown hK hM (hq) rfl 1 (by decide) (hts (.fieldLink RX0 77 "LimbCurves$Point" "y" "[I") (by decide +kernel)) (fun _ h9 => h9) rfl dX0_mirror_1 ?_
  refine r_Si (As := [.ref (q + 2)]) (rest := []) C hM hS (c_isZero l D kA N0 M (q + 2) L fy hy1 ny (by omega)) gX0_mirror_X1_isZero rfl rfl rfl ⟨by decide +kernel, by decide +kernel, (by decide +kernel : (parseMethodDescriptor yX1_isZero.desc).map (fun d => d.parameters.length) = some 1)⟩ ⟨Nat.le_of_ble_eq_true rfl, Nat.le_of_ble_eq_true rfl⟩ hl.1 rfl (Nat.le_of_ble_eq_true rfl) dX0_mirror_4 ⟨Nat.le_of_ble_eq_true rfl, Nat.le_of_ble_eq_true rfl⟩ (fun qz M2 H locs hp hM hS => ?_)
  obtain ⟨eM, hqz⟩ := hp
  rw [eM] at hM
  rw [Vy] at hqz
  refine lv_if_ne (tgt := 37) hx hb dX0_mirror_7 (by decide) (fun hc => ?_) (fun hc => ?_)
  · have hY0 : Y = 0 := by
      rcases hqz with ⟨h1, h2⟩ | ⟨h1, h2⟩
      · exact h2
      · exact absurd h1 hc
    exact r_vret C hM hS (⟨by rw [if_pos hY0, ← hY0]; exact hY9, hl9, fun _ _ _ => rfl⟩) dX0_mirror_37
  · have hY0 : 0 < Y := by
      rcases hqz with ⟨h1, h2⟩ | ⟨h1, h2⟩
      · rw [h1] at hc; exact absurd hc (by decide)
      · exact h2
    refine lv_aload_n hx hb dX0_mirror_10 rfl (lv_at hl 0 rfl) ?_
    refine x_get (v := .ref (h + 59)) hx hb hts in_X0_mirror_X0 hown hK hM (hcv) rfl 4 (by decide) (hts (.fieldLink RX0 25 "LimbCurves$Curve" "left" "[I") (by decide +kernel)) (fun _ h9 => h9) rfl dX0_mirror_11 ?_
    refine lv_iconst (v := nI 0) hx hb dX0_mirror_14 (by decide) ?_
    refine r_Sv (As := [.ref (h + 59), .int (nI 0)]) (rest := []) C hM hS (c_set l D kA N0 M (h + 59) L f1 (nI 0) h1 hL0 (by omega)) gX0_mirror_X1_set rfl rfl rfl ⟨by decide +kernel, by decide +kernel, (by decide +kernel : (parseMethodDescriptor yX1_set.desc).map (fun d => d.parameters.length) = some 2)⟩ ⟨Nat.le_of_ble_eq_true rfl, Nat.le_of_ble_eq_true rfl⟩ hl.1 rfl (Nat.le_of_ble_eq_true rfl) dX0_mirror_15 ⟨Nat.le_of_ble_eq_true rfl, Nat.le_of_ble_eq_true rfl⟩ (fun M1 H locs hp hM hS => ?_)
    obtain ⟨g1, eM1, a1, b1⟩ := hp
    have hcv1 : M1 (h + 58) = some (oCv h) := by rw [eM1, xset_n (by omega)]; exact hcv
    have hq1 : M1 q = some (oPt q d) := by rw [eM1, xset_n (by omega)]; exact hq
    have hz : isN kA M1 (h + 59) L 0 := ⟨g1, by rw [eM1, xset_s], nn_set (by decide) a1 b1, by rw [V_set hL0 a1 b1]; rfl⟩
    have hf1 : ∀ b, b ≠ h + 59 → M1 b = M b := fun b hb => by rw [eM1, xset_n hb]
    have hrs1 : Rs kA M1 (h + 49) L pp := hrs.kept (hf1 _ (by omega)) (hf1 _ (by omega)) (hf1 _ (by omega))
    obtain ⟨z9, y9, hrf⟩ := hrs1.ob
    have hY1 := hY9.kept (hf1 (q + 2) (by omega))
    refine lv_aload_n hx hb dX0_mirror_18 rfl (lv_at hl 0 rfl) ?_
    refine x_get (v := .ref (h + 49)) hx hb hts in_X0_mirror_X0 hown hK hM (hcv1) rfl 3 (by decide) (hts (.fieldLink RX0 21 "LimbCurves$Curve" "field" "LLimbCurves$Residues;") (by decide +kernel)) (fun _ h9 => h9) rfl dX0_mirror_19 ?_
    refine lv_aload_n hx hb dX0_mirror_22 rfl (lv_at hl 1 rfl) ?_
    refine x_get (v := .ref (q + 2)) hx hb hts in_X0_mirror_X2 hown hK hM (hq1) rfl 1 (by decide) (hts (.fieldLink RX0 77 "LimbCurves$Point" "y" "[I") (by decide +kernel)) (fun _ h9 => h9) rfl dX0_mirror_23 ?_
    refine lv_aload_n hx hb dX0_mirror_26 rfl (lv_at hl 0 rfl) ?_
    refine x_get (v := .ref (h + 59)) hx hb hts in_X0_mirror_X0 hown hK hM (hcv1) rfl 4 (by decide) (hts (.fieldLink RX0 25 "LimbCurves$Curve" "left" "[I") (by decide +kernel)) (fun _ h9 => h9) rfl dX0_mirror_27 ?_
    refine lv_aload_n hx hb dX0_mirror_30 rfl (lv_at hl 1 rfl) ?_
    refine x_get (v := .ref (q + 2)) hx hb hts in_X0_mirror_X2 hown hK hM (hq1) rfl 1 (by decide) (hts (.fieldLink RX0 77 "LimbCurves$Point" "y" "[I") (by decide +kernel)) (fun _ h9 => h9) rfl dX0_mirror_31 ?_
    refine r_Vv (As := [.ref (q + 2), .ref (h + 59), .ref (q + 2)]) (rest := []) C hM hS (c_subtract l D kA N0 M1 (h + 49) L pp (q + 2) (h + 59) (q + 2) 0 Y (nI z9) (nI y9) hrf hrs1.md hY1.isA hz hY1 (by omega) (by omega) (by omega) (by omega)) (hrf) rfl gX0_mirror_X3_subtract rfl rfl rfl ⟨rfl, by decide +kernel, by decide +kernel, (by decide +kernel : (parseMethodDescriptor yX3_subtract.desc).map (fun d => d.parameters.length) = some 3)⟩ ⟨Nat.le_of_ble_eq_true rfl, Nat.le_of_ble_eq_true rfl⟩ hl.1 rfl (Nat.le_of_ble_eq_true rfl) dX0_mirror_34 ⟨Nat.le_of_ble_eq_true rfl, Nat.le_of_ble_eq_true rfl⟩ (fun M3 H locs hp hM hS => ?_)
    obtain ⟨q1, q3⟩ := hp
    have e9 : (0 + (pp - Y)) % pp = pp - Y := by rw [Nat.zero_add, Nat.mod_eq_of_lt (by omega)]
    rw [e9] at q1
    exact r_vret C hM hS (⟨by rw [if_neg (by omega)]; exact q1, hz.isA.kept (q3 _ (by omega)), fun b h1 h2 => by rw [q3 b h1, hf1 b h2]⟩) dX0_mirror_37
end CRV
