theorem in_X2_becomeIdentity_X2 : ∀ w ∈ wsX20, w ∈ wsX2_becomeIdentity := by decide +kernel
theorem in_X2_copyFrom_X2 : ∀ w ∈ wsX20, w ∈ wsX2_copyFrom := by decide +kernel
theorem in_X2_sameAs_X2 : ∀ w ∈ wsX20, w ∈ wsX2_sameAs := by decide +kernel
theorem in_X4_writeTo_X2 : ∀ w ∈ wsX20, w ∈ wsX4_writeTo := by decide +kernel
theorem in_X4_writeTo_X4 : ∀ w ∈ wsX40, w ∈ wsX4_writeTo := by decide +kernel
/-- a point's slot holds P; the identity's numbers are 0 -/
def isPz (kA : Nat → ClassId) (M : xM) (q L k : Nat) (P : Pt k) : Prop := match P with
  | none => M q = some (oPt q (nI 1)) ∧ isN kA M (q + 1) L 0 ∧ isN kA M (q + 2) L 0
  | some (x, y) => M q = some (oPt q (nI 0)) ∧ isN kA M (q + 1) L x.val ∧ isN kA M (q + 2) L y.val
/-- the rests and t change -/
theorem RG.inv {kA : Nat → ClassId} {M0 M M1 : xM} {h L pp id y : Nat} {gs : List (Option Nat)} (g : RG kA M0 M h L pp gs id) (h5 : isA kA M1 (h + 49 + 5) L) (h6 : isA kA M1 (h + 49 + 6) L) (h7 : isA kA M1 (h + 49 + 7) L) (h8 : isA kA M1 (h + 49 + 8) L) (hn : isN kA M1 (h + 70) L y) (hy : y < pp) (hf : ∀ z, z < h + 49 + 5 ∨ h + 49 + 8 < z → z ≠ h + 70 → M1 z = M z) : RG kA M0 M1 h L pp (gs.set 8 (some y)) id := by
  obtain ⟨a1, a2, a3, a4, a5, a6, a7, a8, a9, a10, a11⟩ := g
  refine ⟨by rw [hf _ (by omega) (by omega)]; exact a1, a2.kept (hf _ (by omega) (by omega)) (hf _ (by omega) (by omega)) (hf _ (by omega) (by omega)), a3.kept (hf _ (by omega) (by omega)), a4.kept (hf _ (by omega) (by omega)), h5, h6, h7, h8, fun j hj => ?_, fun j w hj => ?_, fun b hb => by rw [hf _ (by omega) (by omega)]; exact a11 b hb⟩
  · by_cases e : j = 8
    · rw [e]; exact hn.isA
    · exact (a9 j hj).kept (hf _ (by omega) (by omega))
  · by_cases e : j = 8
    · subst e
      by_cases hl : 8 < gs.length
      · rw [List.getElem?_set_self hl] at hj
        cases hj
        exact ⟨hn, hy⟩
      · rw [List.getElem?_eq_none (by rw [List.length_set]; omega)] at hj
        cases hj
    · rw [List.getElem?_set_ne (fun q => e q.symm)] at hj
      have := a10 j w hj
      exact ⟨this.1.kept (hf _ (by omega) (by omega)), this.2⟩
/-- the rests change -/
theorem RG.sc {kA : Nat → ClassId} {M0 M M1 : xM} {h L pp id : Nat} {gs : List (Option Nat)} (g : RG kA M0 M h L pp gs id) (h5 : isA kA M1 (h + 49 + 5) L) (h6 : isA kA M1 (h + 49 + 6) L) (h7 : isA kA M1 (h + 49 + 7) L) (h8 : isA kA M1 (h + 49 + 8) L) (hf : ∀ z, z < h + 49 + 5 ∨ h + 49 + 8 < z → M1 z = M z) : RG kA M0 M1 h L pp gs id := by
  obtain ⟨a1, a2, a3, a4, a5, a6, a7, a8, a9, a10, a11⟩ := g
  exact ⟨by rw [hf _ (by omega)]; exact a1, a2.kept (hf _ (by omega)) (hf _ (by omega)) (hf _ (by omega)), a3.kept (hf _ (by omega)), a4.kept (hf _ (by omega)), h5, h6, h7, h8, fun j hj => (a9 j hj).kept (hf _ (by omega)), fun j w hj => ⟨(a10 j w hj).1.kept (hf _ (by omega)), (a10 j w hj).2⟩, fun b hb => by rw [hf _ (by omega)]; exact a11 b hb⟩
/-- a row outside gets a new number -/
theorem RG.out {kA : Nat → ClassId} {M0 M M1 : xM} {h L pp id o : Nat} {gs : List (Option Nat)} (g : RG kA M0 M h L pp gs id) (hgl : gs.length ≤ 9) (hw : isA kA M1 (h + 49 + 3) (2 * L + 1)) (ho : o < h + 49 ∨ h + 70 < o) (hf : ∀ z, z ≠ o → z ≠ h + 49 + 3 → M1 z = M z) : RG kA M1 M1 h L pp gs id := by
  obtain ⟨a1, a2, a3, a4, a5, a6, a7, a8, a9, a10, a11⟩ := g
  have hf2 : ∀ z, h + 49 ≤ z → z ≠ h + 49 + 3 → z ≤ h + 70 → M1 z = M z := fun z h1 h2 h3 => hf z (by omega) h2
  refine ⟨by rw [hf2 _ (by omega) (by omega) (by omega)]; exact a1, a2.kept (hf2 _ (by omega) (by omega) (by omega)) (hf2 _ (by omega) (by omega) (by omega)) (hf2 _ (by omega) (by omega) (by omega)), hw, a4.kept (hf2 _ (by omega) (by omega) (by omega)), a5.kept (hf2 _ (by omega) (by omega) (by omega)), a6.kept (hf2 _ (by omega) (by omega) (by omega)), a7.kept (hf2 _ (by omega) (by omega) (by omega)), a8.kept (hf2 _ (by omega) (by omega) (by omega)), fun j hj => (a9 j hj).kept (hf2 _ (by omega) (by omega) (by omega)), fun j w hj => ?_, fun b hb => rfl⟩
  have hlt : j < 9 := by
    have h1 := (List.getElem?_eq_some_iff.1 hj).1
    omega
  exact ⟨(a10 j w hj).1.kept (hf2 _ (by omega) (by omega) (by omega)), (a10 j w hj).2⟩
section PNT
variable {p : Program} {l : Launch} {e : Env} {R : Room} {s : State} {m : MethodId} {args : Array Value} {below : List Frame} {meth : Method} {c : Code} {Q : State → Prop} {cells slots : Nat} {ret : Option FieldType} {D : va_G} {kA : Nat → ClassId} {N0 : Nat}
set_option maxRecDepth 100000 in
theorem c_becomeIdentity (l : Launch) (D : va_G) (kA : Nat → ClassId) (N0 : Nat) (M : xM) (q L : Nat) (d : Int32) (hq : M q = some (oPt q d)) (h1 : isA kA M (q + 1) L) (h2 : isA kA M (q + 2) L) (hL0 : 0 < L) (hL : L < 40) : cV l yX2_becomeIdentity wsX2_becomeIdentity (xR 2) [.ref q] D kA N0 M (fun M1 => M1 q = some (oPt q (nI 1)) ∧ isN kA M1 (q + 1) L 0 ∧ isN kA M1 (q + 2) L 0 ∧ ∀ b, b < q ∨ q + 2 < b → M1 b = M b) := by
  obtain ⟨f1, h1⟩ := h1
  obtain ⟨f2, h2⟩ := h2
  refine r_met (cc := cX2_becomeIdentity) (maxL := 1) (ret := none) (by decide) rfl (Nat.le_of_ble_eq_true rfl) ?_
  intro p e s m below meth c ls C hM hnm hl
  obtain ⟨hx, hb, hml, hown, hts, hr, hlocks, hK, hN⟩ := _root_.id C
  have hS : va_S (xA N0) s.heap s.heap [] := va_S.rf
  have hl : lv_has ls 1 [(0, .ref q)] := hl
  refine lv_aload_n hx hb dX2_becomeIdentity_0 rfl (lv_at hl 0 rfl) ?_
  refine x_get (v := .ref (q + 1)) hx hb hts in_X2_becomeIdentity_X2 hown hK hM (hq) rfl 0 (by decide) (hts (.fieldLink RX2 7 "LimbCurves$Point" "x" "[I") (by decide +kernel)) (fun _ h9 => h9) rfl dX2_becomeIdentity_1 ?_
  refine lv_iconst (v := nI 0) hx hb dX2_becomeIdentity_4 (by decide) ?_
  refine r_Sv (As := [.ref (q + 1), .int (nI 0)]) (rest := []) C hM hS (c_set l D kA N0 M (q + 1) L f1 (nI 0) h1 hL0 (by omega)) gX2_becomeIdentity_X1_set rfl rfl rfl ⟨by decide +kernel, by decide +kernel, (by decide +kernel : (parseMethodDescriptor yX1_set.desc).map (fun d => d.parameters.length) = some 2)⟩ ⟨Nat.le_of_ble_eq_true rfl, Nat.le_of_ble_eq_true rfl⟩ hl.1 rfl (Nat.le_of_ble_eq_true rfl) dX2_becomeIdentity_5 ⟨Nat.le_of_ble_eq_true rfl, Nat.le_of_ble_eq_true rfl⟩ (fun M1 H locs hp hM hS => ?_)
  obtain ⟨g1, eM, a1, b1⟩ := hp
  have hq : M1 q = some (oPt q d) := by rw [eM, xset_n (by omega)]; exact hq
  have h2 : M1 (q + 2) = some (xI (kA 0) L f2) := by rw [eM, xset_n (by omega)]; exact h2
  refine lv_aload_n hx hb dX2_becomeIdentity_8 rfl (lv_at hl 0 rfl) ?_
  refine x_get (v := .ref (q + 2)) hx hb hts in_X2_becomeIdentity_X2 hown hK hM (hq) rfl 1 (by decide) (hts (.fieldLink RX2 13 "LimbCurves$Point" "y" "[I") (by decide +kernel)) (fun _ h9 => h9) rfl dX2_becomeIdentity_9 ?_
  refine lv_iconst (v := nI 0) hx hb dX2_becomeIdentity_12 (by decide) ?_
  refine r_Sv (As := [.ref (q + 2), .int (nI 0)]) (rest := []) C hM hS (c_set l D kA N0 M1 (q + 2) L f2 (nI 0) h2 hL0 (by omega)) gX2_becomeIdentity_X1_set rfl rfl rfl ⟨by decide +kernel, by decide +kernel, (by decide +kernel : (parseMethodDescriptor yX1_set.desc).map (fun d => d.parameters.length) = some 2)⟩ ⟨Nat.le_of_ble_eq_true rfl, Nat.le_of_ble_eq_true rfl⟩ hl.1 rfl (Nat.le_of_ble_eq_true rfl) dX2_becomeIdentity_13 ⟨Nat.le_of_ble_eq_true rfl, Nat.le_of_ble_eq_true rfl⟩ (fun M2 H locs hp hM hS => ?_)
  obtain ⟨g2, eM2, a2, b2⟩ := hp
  have hq : M2 q = some (oPt q d) := by rw [eM2, xset_n (by omega)]; exact hq
  refine lv_aload_n hx hb dX2_becomeIdentity_16 rfl (lv_at hl 0 rfl) ?_
  refine lv_iconst (v := nI 1) hx hb dX2_becomeIdentity_17 (by decide) ?_
  refine x_put (v := .int (nI 1)) (ty := .boolean) hx hb hts in_X2_becomeIdentity_X2 tyX2 tyX2_ok nmX2 hown hK hM hS (hq) rfl 2 (by decide) (hts (.fieldLink RX2 16 "LimbCurves$Point" "identity" "Z") (by decide +kernel)) (fun _ h9 => h9) rfl (by decide +kernel) rfl rfl (Nat.le_of_ble_eq_true rfl) dX2_becomeIdentity_18 (fun H locs hM hS => ?_)
  have hM : xW D vwCl N0 (xset M2 q (oPt q (nI 1))) H := hM
  exact r_vret C hM hS (⟨xset_s, ⟨g1, by rw [xset_n (by omega), eM2, xset_n (by omega), eM, xset_s], nn_set (by decide) a1 b1, by rw [V_set hL0 a1 b1]; rfl⟩, ⟨g2, by rw [xset_n (by omega), eM2, xset_s], nn_set (by decide) a2 b2, by rw [V_set hL0 a2 b2]; rfl⟩, fun b hb => by rw [xset_n (by omega), eM2, xset_n (by omega), eM, xset_n (by omega)]⟩) dX2_becomeIdentity_21
set_option maxRecDepth 100000 in
theorem c_copyFrom (l : Launch) (D : va_G) (kA : Nat → ClassId) (N0 : Nat) (M : xM) (q r L X Y : Nat) (d d' : Int32) (hq : M q = some (oPt q d)) (hr1 : M r = some (oPt r d')) (h1 : isA kA M (q + 1) L) (h2 : isA kA M (q + 2) L) (hX : isN kA M (r + 1) L X) (hY : isN kA M (r + 2) L Y) (hd0 : d' = nI 0 ∨ d' = nI 1) (hqr : q = r ∨ q + 2 < r ∨ r + 2 < q) (hL : L < 40) : cV l yX2_copyFrom wsX2_copyFrom (xR 2) [.ref q, .ref r] D kA N0 M (fun M1 => M1 q = some (oPt q d') ∧ isN kA M1 (q + 1) L X ∧ isN kA M1 (q + 2) L Y ∧ ∀ b, b < q ∨ q + 2 < b → M1 b = M b) := by
  obtain ⟨f1, h1⟩ := h1
  obtain ⟨f2, h2⟩ := h2
  obtain ⟨x1, hx1, nx, Vx⟩ := hX
  obtain ⟨y1, hy1, ny, Vy⟩ := hY
  refine r_met (cc := cX2_copyFrom) (maxL := 2) (ret := none) (by decide) rfl (Nat.le_of_ble_eq_true rfl) ?_
  intro p e s m below meth c ls C hM hnm hl
  obtain ⟨hx, hb, hml, hown, hts, hr, hlocks, hK, hN⟩ := _root_.id C
  have hS : va_S (xA N0) s.heap s.heap [] := va_S.rf
  have hl : lv_has ls 2 [(0, .ref q), (1, .ref r)] := hl
  refine lv_aload_n hx hb dX2_copyFrom_0 rfl (lv_at hl 0 rfl) ?_
  refine x_get (v := .ref (q + 1)) hx hb hts in_X2_copyFrom_X2 hown hK hM (hq) rfl 0 (by decide) (hts (.fieldLink RX2 7 "LimbCurves$Point" "x" "[I") (by decide +kernel)) (fun _ h9 => h9) rfl dX2_copyFrom_1 ?_
  refine lv_aload_n hx hb dX2_copyFrom_4 rfl (lv_at hl 1 rfl) ?_
  refine x_get (v := .ref (r + 1)) hx hb hts in_X2_copyFrom_X2 hown hK hM (hr1) rfl 0 (by decide) (hts (.fieldLink RX2 7 "LimbCurves$Point" "x" "[I") (by decide +kernel)) (fun _ h9 => h9) rfl dX2_copyFrom_5 ?_
  refine r_Sv (As := [.ref (q + 1), .ref (r + 1)]) (rest := []) C hM hS (c_copy l D kA N0 M (q + 1) (r + 1) L f1 x1 h1 hx1 (by omega)) gX2_copyFrom_X1_copy rfl rfl rfl ⟨by decide +kernel, by decide +kernel, (by decide +kernel : (parseMethodDescriptor yX1_copy.desc).map (fun d => d.parameters.length) = some 2)⟩ ⟨Nat.le_of_ble_eq_true rfl, Nat.le_of_ble_eq_true rfl⟩ hl.1 rfl (Nat.le_of_ble_eq_true rfl) dX2_copyFrom_8 ⟨Nat.le_of_ble_eq_true rfl, Nat.le_of_ble_eq_true rfl⟩ (fun M1 H locs hp hM hS => ?_)
  obtain ⟨g1, eM, a1⟩ := hp
  have hq : M1 q = some (oPt q d) := by rw [eM, xset_n (by omega)]; exact hq
  have hr1 : M1 r = some (oPt r d') := by rw [eM, xset_n (by omega)]; exact hr1
  have h2 : M1 (q + 2) = some (xI (kA 0) L f2) := by rw [eM, xset_n (by omega)]; exact h2
  have hy1 : M1 (r + 2) = some (xI (kA 0) L y1) := by rw [eM, xset_n (by omega)]; exact hy1
  refine lv_aload_n hx hb dX2_copyFrom_11 rfl (lv_at hl 0 rfl) ?_
  refine x_get (v := .ref (q + 2)) hx hb hts in_X2_copyFrom_X2 hown hK hM (hq) rfl 1 (by decide) (hts (.fieldLink RX2 13 "LimbCurves$Point" "y" "[I") (by decide +kernel)) (fun _ h9 => h9) rfl dX2_copyFrom_12 ?_
  refine lv_aload_n hx hb dX2_copyFrom_15 rfl (lv_at hl 1 rfl) ?_
  refine x_get (v := .ref (r + 2)) hx hb hts in_X2_copyFrom_X2 hown hK hM (hr1) rfl 1 (by decide) (hts (.fieldLink RX2 13 "LimbCurves$Point" "y" "[I") (by decide +kernel)) (fun _ h9 => h9) rfl dX2_copyFrom_16 ?_
  refine r_Sv (As := [.ref (q + 2), .ref (r + 2)]) (rest := []) C hM hS (c_copy l D kA N0 M1 (q + 2) (r + 2) L f2 y1 h2 hy1 (by omega)) gX2_copyFrom_X1_copy rfl rfl rfl ⟨by decide +kernel, by decide +kernel, (by decide +kernel : (parseMethodDescriptor yX1_copy.desc).map (fun d => d.parameters.length) = some 2)⟩ ⟨Nat.le_of_ble_eq_true rfl, Nat.le_of_ble_eq_true rfl⟩ hl.1 rfl (Nat.le_of_ble_eq_true rfl) dX2_copyFrom_19 ⟨Nat.le_of_ble_eq_true rfl, Nat.le_of_ble_eq_true rfl⟩ (fun M2 H locs hp hM hS => ?_)
  obtain ⟨g2, eM2, a2⟩ := hp
  have hq : M2 q = some (oPt q d) := by rw [eM2, xset_n (by omega)]; exact hq
  have hr1 : M2 r = some (oPt r d') := by rw [eM2, xset_n (by omega)]; exact hr1
  refine lv_aload_n hx hb dX2_copyFrom_22 rfl (lv_at hl 0 rfl) ?_
  refine lv_aload_n hx hb dX2_copyFrom_23 rfl (lv_at hl 1 rfl) ?_
  refine x_get (v := .int d') hx hb hts in_X2_copyFrom_X2 hown hK hM (hr1) rfl 2 (by decide) (hts (.fieldLink RX2 16 "LimbCurves$Point" "identity" "Z") (by decide +kernel)) (fun _ h9 => h9) rfl dX2_copyFrom_24 ?_
  have hz9 : narrow .boolean (.int d') = .int d' := by rcases hd0 with h | h <;> rw [h] <;> rfl
  have hf9 : fits .boolean (.int d') = true := by rcases hd0 with h | h <;> rw [h] <;> rfl
  refine x_put (v := .int d') (ty := .boolean) hx hb hts in_X2_copyFrom_X2 tyX2 tyX2_ok nmX2 hown hK hM hS (hq) rfl 2 (by decide) (hts (.fieldLink RX2 16 "LimbCurves$Point" "identity" "Z") (by decide +kernel)) (fun _ h9 => h9) rfl (by decide +kernel) hz9 hf9 (Nat.le_of_ble_eq_true rfl) dX2_copyFrom_27 (fun H locs hM hS => ?_)
  have hM : xW D vwCl N0 (xset M2 q (oPt q d')) H := hM
  exact r_vret C hM hS (⟨xset_s, ⟨g1, by rw [xset_n (by omega), eM2, xset_n (by omega), eM, xset_s], fun j hj => by rw [a1 j hj]; exact nx j hj, by rw [V_congr a1]; exact Vx⟩, ⟨g2, by rw [xset_n (by omega), eM2, xset_s], fun j hj => by rw [a2 j hj]; exact ny j hj, by rw [V_congr a2]; exact Vy⟩, fun b hb => by rw [xset_n (by omega), eM2, xset_n (by omega), eM, xset_n (by omega)]⟩) dX2_copyFrom_30
set_option maxRecDepth 100000 in
theorem c_sameAs (l : Launch) (D : va_G) (kA : Nat → ClassId) (N0 : Nat) (M : xM) (q r L X Y U V0 d d' : Nat) (hq : M q = some (oPt q (nI d))) (hr1 : M r = some (oPt r (nI d'))) (hX : isN kA M (q + 1) L X) (hY : isN kA M (q + 2) L Y) (hU : isN kA M (r + 1) L U) (hV0 : isN kA M (r + 2) L V0) (hd : d ≤ 1) (hd' : d' ≤ 1) (hL : L < 40) : cI l yX2_sameAs wsX2_sameAs (xR 1) [.ref q, .ref r] D kA N0 M (fun v M1 => M1 = M ∧ ((v = 1 ∧ d = d' ∧ X = U ∧ Y = V0) ∨ (v = 0 ∧ ¬ (d = d' ∧ X = U ∧ Y = V0)))) := by
  obtain ⟨x1, hx1, nx, Vx⟩ := hX
  obtain ⟨y1, hy1, ny, Vy⟩ := hY
  obtain ⟨x2, hx2, nx2, Vx2⟩ := hU
  obtain ⟨y2, hy2, ny2, Vy2⟩ := hV0
  refine r_met (cc := cX2_sameAs) (maxL := 2) (ret := (some .boolean)) (by decide) rfl (Nat.le_of_ble_eq_true rfl) ?_
  intro p e s m below meth c ls C hM hnm hl
  obtain ⟨hx, hb, hml, hown, hts, hr, hlocks, hK, hN⟩ := _root_.id C
  have hS : va_S (xA N0) s.heap s.heap [] := va_S.rf
  have hl : lv_has ls 2 [(0, .ref q), (1, .ref r)] := hl
  refine lv_aload_n hx hb dX2_sameAs_0 rfl (lv_at hl 0 rfl) ?_
  refine x_get (v := .int (nI d)) hx hb hts in_X2_sameAs_X2 hown hK hM (hq) rfl 2 (by decide) (hts (.fieldLink RX2 16 "LimbCurves$Point" "identity" "Z") (by decide +kernel)) (fun _ h9 => h9) rfl dX2_sameAs_1 ?_
  refine lv_aload_n hx hb dX2_sameAs_4 rfl (lv_at hl 1 rfl) ?_
  refine x_get (v := .int (nI d')) hx hb hts in_X2_sameAs_X2 hown hK hM (hr1) rfl 2 (by decide) (hts (.fieldLink RX2 16 "LimbCurves$Point" "identity" "Z") (by decide +kernel)) (fun _ h9 => h9) rfl dX2_sameAs_5 ?_
  refine r_icmp_neN (tgt := 43) C (by omega) (by omega) dX2_sameAs_8 (by decide) (fun hc => ?_) (fun hc => ?_)
  · refine lv_iconst (v := nI 0) hx hb dX2_sameAs_43 (by decide) ?_
    exact r_zret C hM hS rfl (⟨rfl, Or.inr ⟨rfl, fun q => hc q.1⟩⟩) dX2_sameAs_44
  · refine lv_aload_n hx hb dX2_sameAs_11 rfl (lv_at hl 0 rfl) ?_
    refine x_get (v := .ref (q + 1)) hx hb hts in_X2_sameAs_X2 hown hK hM (hq) rfl 0 (by decide) (hts (.fieldLink RX2 7 "LimbCurves$Point" "x" "[I") (by decide +kernel)) (fun _ h9 => h9) rfl dX2_sameAs_12 ?_
    refine lv_aload_n hx hb dX2_sameAs_15 rfl (lv_at hl 1 rfl) ?_
    refine x_get (v := .ref (r + 1)) hx hb hts in_X2_sameAs_X2 hown hK hM (hr1) rfl 0 (by decide) (hts (.fieldLink RX2 7 "LimbCurves$Point" "x" "[I") (by decide +kernel)) (fun _ h9 => h9) rfl dX2_sameAs_16 ?_
    refine r_Si (As := [.ref (q + 1), .ref (r + 1)]) (rest := []) C hM hS (c_compare l D kA N0 M (q + 1) (r + 1) L x1 x2 hx1 hx2 nx nx2 (by omega)) gX2_sameAs_X1_compare rfl rfl rfl ⟨by decide +kernel, by decide +kernel, (by decide +kernel : (parseMethodDescriptor yX1_compare.desc).map (fun d => d.parameters.length) = some 2)⟩ ⟨Nat.le_of_ble_eq_true rfl, Nat.le_of_ble_eq_true rfl⟩ hl.1 rfl (Nat.le_of_ble_eq_true rfl) dX2_sameAs_19 ⟨Nat.le_of_ble_eq_true rfl, Nat.le_of_ble_eq_true rfl⟩ (fun v1 M1 H locs hp hM hS => ?_)
    obtain ⟨eM, hv⟩ := hp
    rw [eM] at hM
    rw [Vx, Vx2] at hv
    refine lv_if_ne (tgt := 43) hx hb dX2_sameAs_22 (by decide) (fun hc2 => ?_) (fun hc2 => ?_)
    · have hno : ¬ (d = d' ∧ X = U ∧ Y = V0) := fun q => by
        rcases hv with ⟨h1, h2⟩ | ⟨h1, h2⟩ | ⟨h1, h2⟩
        · exact hc2 h1
        · omega
        · omega
      refine lv_iconst (v := nI 0) hx hb dX2_sameAs_43 (by decide) ?_
      exact r_zret C hM hS rfl (⟨rfl, Or.inr ⟨rfl, hno⟩⟩) dX2_sameAs_44
    · have hXU : X = U := by
        rcases hv with ⟨h1, h2⟩ | ⟨h1, h2⟩ | ⟨h1, h2⟩
        · exact h2
        · rw [h1] at hc2; exact absurd hc2 (by decide)
        · rw [h1] at hc2; exact absurd hc2 (by decide)
      refine lv_aload_n hx hb dX2_sameAs_25 rfl (lv_at hl 0 rfl) ?_
      refine x_get (v := .ref (q + 2)) hx hb hts in_X2_sameAs_X2 hown hK hM (hq) rfl 1 (by decide) (hts (.fieldLink RX2 13 "LimbCurves$Point" "y" "[I") (by decide +kernel)) (fun _ h9 => h9) rfl dX2_sameAs_26 ?_
      refine lv_aload_n hx hb dX2_sameAs_29 rfl (lv_at hl 1 rfl) ?_
      refine x_get (v := .ref (r + 2)) hx hb hts in_X2_sameAs_X2 hown hK hM (hr1) rfl 1 (by decide) (hts (.fieldLink RX2 13 "LimbCurves$Point" "y" "[I") (by decide +kernel)) (fun _ h9 => h9) rfl dX2_sameAs_30 ?_
      refine r_Si (As := [.ref (q + 2), .ref (r + 2)]) (rest := []) C hM hS (c_compare l D kA N0 M (q + 2) (r + 2) L y1 y2 hy1 hy2 ny ny2 (by omega)) gX2_sameAs_X1_compare rfl rfl rfl ⟨by decide +kernel, by decide +kernel, (by decide +kernel : (parseMethodDescriptor yX1_compare.desc).map (fun d => d.parameters.length) = some 2)⟩ ⟨Nat.le_of_ble_eq_true rfl, Nat.le_of_ble_eq_true rfl⟩ hl.1 rfl (Nat.le_of_ble_eq_true rfl) dX2_sameAs_33 ⟨Nat.le_of_ble_eq_true rfl, Nat.le_of_ble_eq_true rfl⟩ (fun v2 M2 H locs hp hM hS => ?_)
      obtain ⟨eM2, hv2⟩ := hp
      rw [eM2] at hM
      rw [Vy, Vy2] at hv2
      refine lv_if_ne (tgt := 43) hx hb dX2_sameAs_36 (by decide) (fun hc3 => ?_) (fun hc3 => ?_)
      · have hno : ¬ (d = d' ∧ X = U ∧ Y = V0) := fun q => by
          rcases hv2 with ⟨h1, h2⟩ | ⟨h1, h2⟩ | ⟨h1, h2⟩
          · exact hc3 h1
          · omega
          · omega
        refine lv_iconst (v := nI 0) hx hb dX2_sameAs_43 (by decide) ?_
        exact r_zret C hM hS rfl (⟨rfl, Or.inr ⟨rfl, hno⟩⟩) dX2_sameAs_44
      · have hYV : Y = V0 := by
          rcases hv2 with ⟨h1, h2⟩ | ⟨h1, h2⟩ | ⟨h1, h2⟩
          · exact h2
          · rw [h1] at hc3; exact absurd hc3 (by decide)
          · rw [h1] at hc3; exact absurd hc3 (by decide)
        refine lv_iconst (v := nI 1) hx hb dX2_sameAs_39 (by decide) ?_
        refine lv_goto (tgt := 44) hx hb dX2_sameAs_40 (by decide) ?_
        exact r_zret C hM hS rfl (⟨rfl, Or.inl ⟨rfl, by omega, hXU, hYV⟩⟩) dX2_sameAs_44
theorem JS_no {k z id : Nat} {x y : Zp k} {r : Option (Pt k)} (hz : z < k + 1) (h : JS k id x y (fz k z) r) (hi : inv? (k + 1) z = none) : r = none := by
  have h1 : ¬ unit? k (fz k z) := zinv_none (by unfold zinv; rw [fz_val, Nat.mod_eq_of_lt hz, hi]; rfl)
  cases r with
  | none => rfl
  | some R =>
    cases R with
    | none => exact absurd h.1 h1
    | some P => obtain ⟨X, Y⟩ := P; exact absurd h.2.1 h1
theorem JS_yes {k z w id : Nat} {x y : Zp k} {r : Option (Pt k)} (hz : z < k + 1) (h : JS k id x y (fz k z) r) (hi : inv? (k + 1) z = some w) : ∃ P, r = some P ∧ fz k z * fz k w = 1 := by
  have h1 : fz k z * fz k w = 1 := zinv_some (by unfold zinv; rw [fz_val, Nat.mod_eq_of_lt hz, hi]; rfl)
  cases r with
  | none => exact absurd ⟨_, h1⟩ h
  | some R => exact ⟨R, rfl, h1⟩
theorem jw {k : Nat} {X z w : Zp k} (h : z * w = 1) : X * (z * z) * (w * w) = X := by grind
theorem jw3 {k : Nat} {X z w : Zp k} (h : z * w = 1) : X * (z * z * z) * (w * w * w) = X := by grind
set_option maxRecDepth 100000 in
theorem c_writeTo (l : Launch) (D : va_G) (kA : Nat → ClassId) (N0 : Nat) (M0 M : xM) (h L k q : Nat) (d : Int32) (r : Option (Pt k)) (hj : RJ kA M0 M h L k r) (hp0 : M q = some (oPt q d)) (h1 : isA kA M (q + 1) L) (h2 : isA kA M (q + 2) L) (hq : q + 2 < h + 49 ∨ h + 70 < q) (hL0 : 0 < L) (hL : L < 40) : cI l yX4_writeTo wsX4_writeTo (xR 4) [.ref (h + 61), .ref q] D kA N0 M (fun v M1 => (∃ gs id, RG kA M1 M1 h L (k + 1) gs id) ∧ (∀ b, b < h + 49 ∨ h + 70 < b ∨ (h + 58 ≤ b ∧ b ≤ h + 60) → b < q ∨ q + 2 < b → M1 b = M b) ∧ ((v = 0 ∧ r = none ∧ ∀ b, q ≤ b → b ≤ q + 2 → M1 b = M b) ∨ (v = 1 ∧ ∃ P, r = some P ∧ isPz kA M1 q L k P))) := by
  have hpp : 0 < k + 1 := Nat.succ_pos k
  rcases hj with ⟨z, hg, hJ⟩ | ⟨x, y, z, hg, hJ⟩
  · have hrn := hg.rn
    obtain ⟨z9, y9, hrf⟩ := hg.rs.ob
    have hz := hg.n 2 rfl
    have hg0 := hg
    obtain ⟨a1, a2, a3, a4, a5, a6, a7, a8, a9, a10, a11⟩ := hg0
    refine r_met (cc := cX4_writeTo) (maxL := 2) (ret := (some .boolean)) (by decide) rfl (Nat.le_of_ble_eq_true rfl) ?_
    intro p e s m below meth c ls C hM hnm hl
    obtain ⟨hx, hb, hml, hown, hts, hr, hlocks, hK, hN⟩ := _root_.id C
    have hS : va_S (xA N0) s.heap s.heap [] := va_S.rf
    have hl : lv_has ls 2 [(0, .ref (h + 61)), (1, .ref q)] := hl
    refine lv_aload_n hx hb dX4_writeTo_0 rfl (lv_at hl 0 rfl) ?_
    refine x_get (v := .ref (h + 49)) hx hb hts in_X4_writeTo_X4 hown hK hM (hrn) rfl 0 (by decide) (hts (.fieldLink RX4 9 "LimbCurves$RunningSum" "field" "LLimbCurves$Residues;") (by decide +kernel)) (fun _ h9 => h9) rfl dX4_writeTo_1 ?_
    refine lv_aload_n hx hb dX4_writeTo_4 rfl (lv_at hl 0 rfl) ?_
    refine x_get (v := .ref (h + 70)) hx hb hts in_X4_writeTo_X4 hown hK hM (hrn) rfl 11 (by decide) (hts (.fieldLink RX4 47 "LimbCurves$RunningSum" "t" "[I") (by decide +kernel)) (fun _ h9 => h9) rfl dX4_writeTo_5 ?_
    refine lv_aload_n hx hb dX4_writeTo_8 rfl (lv_at hl 0 rfl) ?_
    refine x_get (v := .ref (h + 64)) hx hb hts in_X4_writeTo_X4 hown hK hM (hrn) rfl 4 (by decide) (hts (.fieldLink RX4 25 "LimbCurves$RunningSum" "z" "[I") (by decide +kernel)) (fun _ h9 => h9) rfl dX4_writeTo_9 ?_
    refine r_Vi (As := [.ref (h + 70), .ref (h + 64)]) (rest := []) C hM hS (c_invert l D kA N0 M (h + 49) L (k + 1) (h + 70) (h + 64) z (nI z9) (nI y9) hrf hg.rs.md a5 a6 a7 a8 (a9 8 (by decide)) hz.1 hz.2 (by omega) (by omega) (by omega) hL) (hrf) rfl gX4_writeTo_X3_invert rfl rfl rfl ⟨rfl, by decide +kernel, by decide +kernel, (by decide +kernel : (parseMethodDescriptor yX3_invert.desc).map (fun d => d.parameters.length) = some 2)⟩ ⟨Nat.le_of_ble_eq_true rfl, Nat.le_of_ble_eq_true rfl⟩ hl.1 rfl (Nat.le_of_ble_eq_true rfl) dX4_writeTo_12 ⟨Nat.le_of_ble_eq_true rfl, Nat.le_of_ble_eq_true rfl⟩ (fun v M1 H locs hp hM hS => ?_)
    obtain ⟨i5, i6, i7, i8, hfr, hv⟩ := hp
    rcases hv with ⟨rfl, hi, h70⟩ | ⟨rfl, y0, hi, h70⟩
    · have h9 := hL
      refine lv_if_ne (tgt := 20) hx hb dX4_writeTo_15 (by decide) (fun hc => ?_) (fun hc => ?_)
      · exact absurd rfl hc
      · refine lv_iconst (v := nI 0) hx hb dX4_writeTo_18 (by decide) ?_
        have hf9 : ∀ b, b < h + 49 + 5 ∨ h + 49 + 8 < b → M1 b = M b := fun b hb => by
          by_cases e : b = h + 70
          · rw [e]; exact h70
          · exact hfr b hb e
        exact r_zret C hM hS rfl (⟨⟨_, _, (hg.sc i5 i6 i7 i8 hf9).other (Nat.le_refl 9) (fun _ _ _ => rfl)⟩, fun b hb _ => hf9 b (by omega), Or.inl ⟨rfl, JS_no hz.2 hJ hi, fun b _ _ => hf9 b (by omega)⟩⟩) dX4_writeTo_19
    · have h9 := hL
      refine lv_if_ne (tgt := 20) hx hb dX4_writeTo_15 (by decide) (fun hc => ?_) (fun hc => ?_)
      · have hy0 := (inv_spec hi).1
        obtain ⟨P, hrP, hzw⟩ := JS_yes hz.2 hJ hi
        have hg := hg.inv i5 i6 i7 i8 h70 hy0 hfr
        have hrn := hg.rn
        refine lv_aload_n hx hb dX4_writeTo_20 rfl (lv_at hl 0 rfl) ?_
        refine x_get (v := .int (nI 1)) hx hb hts in_X4_writeTo_X4 hown hK hM (hrn) rfl 5 (by decide) (hts (.fieldLink RX4 28 "LimbCurves$RunningSum" "identity" "Z") (by decide +kernel)) (fun _ h9 => h9) rfl dX4_writeTo_21 ?_
        refine r_if_eqN (tgt := 33) C (by omega) dX4_writeTo_24 (by decide) (fun hc1 => ?_) (fun hc1 => ?_)
        · omega
        · refine lv_aload_n hx hb dX4_writeTo_27 rfl (lv_at hl 1 rfl) ?_
          have hp1 : M1 q = some (oPt q d) := by rw [hfr _ (by omega) (by omega)]; exact hp0
          refine r_Vv (As := []) (rest := []) C hM hS (c_becomeIdentity l D kA N0 M1 q L d hp1 (h1.kept (hfr _ (by omega) (by omega))) (h2.kept (hfr _ (by omega) (by omega))) hL0 hL) (hp1) rfl gX4_writeTo_X2_becomeIdentity rfl rfl rfl ⟨rfl, by decide +kernel, by decide +kernel, (by decide +kernel : (parseMethodDescriptor yX2_becomeIdentity.desc).map (fun d => d.parameters.length) = some 0)⟩ ⟨Nat.le_of_ble_eq_true rfl, Nat.le_of_ble_eq_true rfl⟩ hl.1 rfl (Nat.le_of_ble_eq_true rfl) dX4_writeTo_28 ⟨Nat.le_of_ble_eq_true rfl, Nat.le_of_ble_eq_true rfl⟩ (fun M2 H locs hp hM hS => ?_)
          obtain ⟨b1, b2, b3, b4⟩ := hp
          have hPn : P = none := by
            rw [hrP] at hJ
            cases P with
            | none => rfl
            | some P => obtain ⟨X, Y⟩ := P; exact absurd hJ.1 (by decide)
          refine lv_iconst (v := nI 1) hx hb dX4_writeTo_31 (by decide) ?_
          exact r_zret C hM hS rfl (⟨⟨_, _, hg.other (Nat.le_refl 9) (fun b e1 e2 => b4 b (by omega))⟩, fun b e1 e2 => by rw [b4 b e2, hfr b (by omega) (by omega)], Or.inr ⟨rfl, none, by rw [hrP, hPn], b1, b2, b3⟩⟩) dX4_writeTo_32
      · exact absurd hc (by decide)
  · have hrn := hg.rn
    obtain ⟨z9, y9, hrf⟩ := hg.rs.ob
    have hz := hg.n 2 rfl
    have hg0 := hg
    obtain ⟨a1, a2, a3, a4, a5, a6, a7, a8, a9, a10, a11⟩ := hg0
    refine r_met (cc := cX4_writeTo) (maxL := 2) (ret := (some .boolean)) (by decide) rfl (Nat.le_of_ble_eq_true rfl) ?_
    intro p e s m below meth c ls C hM hnm hl
    obtain ⟨hx, hb, hml, hown, hts, hr, hlocks, hK, hN⟩ := _root_.id C
    have hS : va_S (xA N0) s.heap s.heap [] := va_S.rf
    have hl : lv_has ls 2 [(0, .ref (h + 61)), (1, .ref q)] := hl
    refine lv_aload_n hx hb dX4_writeTo_0 rfl (lv_at hl 0 rfl) ?_
    refine x_get (v := .ref (h + 49)) hx hb hts in_X4_writeTo_X4 hown hK hM (hrn) rfl 0 (by decide) (hts (.fieldLink RX4 9 "LimbCurves$RunningSum" "field" "LLimbCurves$Residues;") (by decide +kernel)) (fun _ h9 => h9) rfl dX4_writeTo_1 ?_
    refine lv_aload_n hx hb dX4_writeTo_4 rfl (lv_at hl 0 rfl) ?_
    refine x_get (v := .ref (h + 70)) hx hb hts in_X4_writeTo_X4 hown hK hM (hrn) rfl 11 (by decide) (hts (.fieldLink RX4 47 "LimbCurves$RunningSum" "t" "[I") (by decide +kernel)) (fun _ h9 => h9) rfl dX4_writeTo_5 ?_
    refine lv_aload_n hx hb dX4_writeTo_8 rfl (lv_at hl 0 rfl) ?_
    refine x_get (v := .ref (h + 64)) hx hb hts in_X4_writeTo_X4 hown hK hM (hrn) rfl 4 (by decide) (hts (.fieldLink RX4 25 "LimbCurves$RunningSum" "z" "[I") (by decide +kernel)) (fun _ h9 => h9) rfl dX4_writeTo_9 ?_
    refine r_Vi (As := [.ref (h + 70), .ref (h + 64)]) (rest := []) C hM hS (c_invert l D kA N0 M (h + 49) L (k + 1) (h + 70) (h + 64) z (nI z9) (nI y9) hrf hg.rs.md a5 a6 a7 a8 (a9 8 (by decide)) hz.1 hz.2 (by omega) (by omega) (by omega) hL) (hrf) rfl gX4_writeTo_X3_invert rfl rfl rfl ⟨rfl, by decide +kernel, by decide +kernel, (by decide +kernel : (parseMethodDescriptor yX3_invert.desc).map (fun d => d.parameters.length) = some 2)⟩ ⟨Nat.le_of_ble_eq_true rfl, Nat.le_of_ble_eq_true rfl⟩ hl.1 rfl (Nat.le_of_ble_eq_true rfl) dX4_writeTo_12 ⟨Nat.le_of_ble_eq_true rfl, Nat.le_of_ble_eq_true rfl⟩ (fun v M1 H locs hp hM hS => ?_)
    obtain ⟨i5, i6, i7, i8, hfr, hv⟩ := hp
    rcases hv with ⟨rfl, hi, h70⟩ | ⟨rfl, y0, hi, h70⟩
    · have h9 := hL
      refine lv_if_ne (tgt := 20) hx hb dX4_writeTo_15 (by decide) (fun hc => ?_) (fun hc => ?_)
      · exact absurd rfl hc
      · refine lv_iconst (v := nI 0) hx hb dX4_writeTo_18 (by decide) ?_
        have hf9 : ∀ b, b < h + 49 + 5 ∨ h + 49 + 8 < b → M1 b = M b := fun b hb => by
          by_cases e : b = h + 70
          · rw [e]; exact h70
          · exact hfr b hb e
        exact r_zret C hM hS rfl (⟨⟨_, _, (hg.sc i5 i6 i7 i8 hf9).other (Nat.le_refl 9) (fun _ _ _ => rfl)⟩, fun b hb _ => hf9 b (by omega), Or.inl ⟨rfl, JS_no hz.2 hJ hi, fun b _ _ => hf9 b (by omega)⟩⟩) dX4_writeTo_19
    · have h9 := hL
      refine lv_if_ne (tgt := 20) hx hb dX4_writeTo_15 (by decide) (fun hc => ?_) (fun hc => ?_)
      · have hy0 := (inv_spec hi).1
        obtain ⟨P, hrP, hzw⟩ := JS_yes hz.2 hJ hi
        have hg : RG kA M0 M1 h L (k + 1) [some x, some y, some z, none, none, none, none, none, some y0] 0 := hg.inv i5 i6 i7 i8 h70 hy0 hfr
        have hrn := hg.rn
        have hp1 : M1 q = some (oPt q d) := by rw [hfr _ (by omega) (by omega)]; exact hp0
        have h1 := h1.kept (hfr (q + 1) (by omega) (by omega))
        have h2 := h2.kept (hfr (q + 2) (by omega) (by omega))
        obtain ⟨Mi, eMi⟩ : ∃ Mi, Mi = M1 := ⟨_, rfl⟩
        have hfr : ∀ b, b < h + 49 ∨ h + 70 < b ∨ (h + 58 ≤ b ∧ b ≤ h + 60) → Mi b = M b := fun b hb => by rw [eMi]; exact hfr b (by omega) (by omega)
        clear a1 a2 a3 a4 a5 a6 a7 a8 a9 a10 a11 i5 i6 i7 i8 hc h70
        obtain ⟨pp, hpe⟩ : ∃ pp, pp = k + 1 := ⟨_, rfl⟩
        rw [← hpe] at hg hpp
        refine lv_aload_n hx hb dX4_writeTo_20 rfl (lv_at hl 0 rfl) ?_
        refine x_get (v := .int (nI 0)) hx hb hts in_X4_writeTo_X4 hown hK hM (hrn) rfl 5 (by decide) (hts (.fieldLink RX4 28 "LimbCurves$RunningSum" "identity" "Z") (by decide +kernel)) (fun _ h9 => h9) rfl dX4_writeTo_21 ?_
        refine r_if_eqN (tgt := 33) C (by omega) dX4_writeTo_24 (by decide) (fun hc1 => ?_) (fun hc1 => ?_)
        · refine lv_aload_n hx hb dX4_writeTo_33 rfl (lv_at hl 0 rfl) ?_
          refine x_get (v := .ref (h + 49)) hx hb hts in_X4_writeTo_X4 hown hK hM (hrn) rfl 0 (by decide) (hts (.fieldLink RX4 9 "LimbCurves$RunningSum" "field" "LLimbCurves$Residues;") (by decide +kernel)) (fun _ h9 => h9) rfl dX4_writeTo_34 ?_
          refine lv_aload_n hx hb dX4_writeTo_37 rfl (lv_at hl 0 rfl) ?_
          refine x_get (v := .ref (h + 69)) hx hb hts in_X4_writeTo_X4 hown hK hM (hrn) rfl 10 (by decide) (hts (.fieldLink RX4 44 "LimbCurves$RunningSum" "s" "[I") (by decide +kernel)) (fun _ h9 => h9) rfl dX4_writeTo_38 ?_
          refine lv_aload_n hx hb dX4_writeTo_41 rfl (lv_at hl 0 rfl) ?_
          refine x_get (v := .ref (h + 70)) hx hb hts in_X4_writeTo_X4 hown hK hM (hrn) rfl 11 (by decide) (hts (.fieldLink RX4 47 "LimbCurves$RunningSum" "t" "[I") (by decide +kernel)) (fun _ h9 => h9) rfl dX4_writeTo_42 ?_
          refine lv_aload_n hx hb dX4_writeTo_45 rfl (lv_at hl 0 rfl) ?_
          refine x_get (v := .ref (h + 70)) hx hb hts in_X4_writeTo_X4 hown hK hM (hrn) rfl 11 (by decide) (hts (.fieldLink RX4 47 "LimbCurves$RunningSum" "t" "[I") (by decide +kernel)) (fun _ h9 => h9) rfl dX4_writeTo_46 ?_
          obtain ⟨z9, y9, hrf⟩ := hg.rs.ob
          refine r_Vv (As := [.ref (h + 69), .ref (h + 70), .ref (h + 70)]) (rest := []) C hM hS (c_multiply l D kA N0 _ (h + 49) L pp (h + 69) (h + 70) (h + 70) y0 y0 hg.rs hg.wk (hg.rA 7 (by decide)) ((hg.n 8 rfl).1) ((hg.n 8 rfl).1) ((hg.n 8 rfl).2) ((hg.n 8 rfl).2) (by omega) (by omega) (by omega) (by omega) (by omega)) (hrf) rfl gX4_writeTo_X3_multiply rfl rfl rfl ⟨rfl, by decide +kernel, by decide +kernel, (by decide +kernel : (parseMethodDescriptor yX3_multiply.desc).map (fun d => d.parameters.length) = some 3)⟩ ⟨Nat.le_of_ble_eq_true rfl, Nat.le_of_ble_eq_true rfl⟩ hl.1 rfl (Nat.le_of_ble_eq_true rfl) dX4_writeTo_49 ⟨Nat.le_of_ble_eq_true rfl, Nat.le_of_ble_eq_true rfl⟩ (fun M1 H locs hp hM hS => ?_)
          obtain ⟨q1, q2, q3⟩ := hp
          obtain ⟨s1, es1⟩ : ∃ q, q = y0 * y0 % pp := ⟨_, rfl⟩
          rw [← es1] at q1
          have hg : RG kA _ M1 h L pp [some x, some y, some z, none, none, none, none, some s1, some y0] 0 := hg.st 7 (by decide) q1 (by rw [es1]; exact Nat.mod_lt _ hpp) q2 (hg.sp.kept (q3 _ (by omega) (by omega))) (fun b h1 h2 _ => q3 b h1 h2)
          have hrn := hg.rn
          have hp1 : M1 q = some (oPt q d) := by rw [q3 _ (by omega) (by omega), ← eMi]; rw [← eMi] at hp1; exact hp1
          have h1 := h1.kept (q3 (q + 1) (by omega) (by omega))
          have h2 := h2.kept (q3 (q + 2) (by omega) (by omega))
          have hfr : ∀ b, b < h + 49 ∨ h + 70 < b ∨ (h + 58 ≤ b ∧ b ≤ h + 60) → M1 b = M b := fun b hb => by rw [q3 b (by omega) (by omega), ← eMi]; exact hfr b hb
          clear eMi q1 q2 q3 hrf
          refine lv_aload_n hx hb dX4_writeTo_52 rfl (lv_at hl 0 rfl) ?_
          refine x_get (v := .ref (h + 49)) hx hb hts in_X4_writeTo_X4 hown hK hM (hrn) rfl 0 (by decide) (hts (.fieldLink RX4 9 "LimbCurves$RunningSum" "field" "LLimbCurves$Residues;") (by decide +kernel)) (fun _ h9 => h9) rfl dX4_writeTo_53 ?_
          refine lv_aload_n hx hb dX4_writeTo_56 rfl (lv_at hl 1 rfl) ?_
          refine x_get (v := .ref (q + 1)) hx hb hts in_X4_writeTo_X2 hown hK hM (hp1) rfl 0 (by decide) (hts (.fieldLink RX4 102 "LimbCurves$Point" "x" "[I") (by decide +kernel)) (fun _ h9 => h9) rfl dX4_writeTo_57 ?_
          refine lv_aload_n hx hb dX4_writeTo_60 rfl (lv_at hl 0 rfl) ?_
          refine x_get (v := .ref (h + 62)) hx hb hts in_X4_writeTo_X4 hown hK hM (hrn) rfl 2 (by decide) (hts (.fieldLink RX4 19 "LimbCurves$RunningSum" "x" "[I") (by decide +kernel)) (fun _ h9 => h9) rfl dX4_writeTo_61 ?_
          refine lv_aload_n hx hb dX4_writeTo_64 rfl (lv_at hl 0 rfl) ?_
          refine x_get (v := .ref (h + 69)) hx hb hts in_X4_writeTo_X4 hown hK hM (hrn) rfl 10 (by decide) (hts (.fieldLink RX4 44 "LimbCurves$RunningSum" "s" "[I") (by decide +kernel)) (fun _ h9 => h9) rfl dX4_writeTo_65 ?_
          obtain ⟨z9, y9, hrf⟩ := hg.rs.ob
          refine r_Vv (As := [.ref (q + 1), .ref (h + 62), .ref (h + 69)]) (rest := []) C hM hS (c_multiply l D kA N0 M1 (h + 49) L pp (q + 1) (h + 62) (h + 69) x s1 hg.rs hg.wk h1 (hg.n 0 rfl).1 (hg.n 7 rfl).1 (hg.n 0 rfl).2 (hg.n 7 rfl).2 (by omega) (by omega) (by omega) (by omega) (by omega)) (hrf) rfl gX4_writeTo_X3_multiply rfl rfl rfl ⟨rfl, by decide +kernel, by decide +kernel, (by decide +kernel : (parseMethodDescriptor yX3_multiply.desc).map (fun d => d.parameters.length) = some 3)⟩ ⟨Nat.le_of_ble_eq_true rfl, Nat.le_of_ble_eq_true rfl⟩ hl.1 rfl (Nat.le_of_ble_eq_true rfl) dX4_writeTo_68 ⟨Nat.le_of_ble_eq_true rfl, Nat.le_of_ble_eq_true rfl⟩ (fun M2 H locs hp hM hS => ?_)
          obtain ⟨q1, q2, q3⟩ := hp
          have hg : RG kA M2 M2 h L pp [some x, some y, some z, none, none, none, none, some s1, some y0] 0 := hg.out (Nat.le_refl 9) q2 (o := q + 1) (by omega) q3
          have hrn := hg.rn
          have hp1 : M2 q = some (oPt q d) := by rw [q3 _ (by omega) (by omega)]; exact hp1
          have h2 := h2.kept (q3 (q + 2) (by omega) (by omega))
          have hfr : ∀ b, b < h + 49 ∨ h + 70 < b ∨ (h + 58 ≤ b ∧ b ≤ h + 60) → b < q ∨ q + 2 < b → M2 b = M b := fun b hb hc => by rw [q3 b (by omega) (by omega)]; exact hfr b hb
          have hX := q1
          clear q1 q2 q3 hrf
          obtain ⟨Mi, eMi⟩ : ∃ Mi, Mi = M2 := ⟨_, rfl⟩
          have hfr : ∀ b, b < h + 49 ∨ h + 70 < b ∨ (h + 58 ≤ b ∧ b ≤ h + 60) → b < q ∨ q + 2 < b → Mi b = M b := by rw [eMi]; exact hfr
          refine lv_aload_n hx hb dX4_writeTo_71 rfl (lv_at hl 0 rfl) ?_
          refine x_get (v := .ref (h + 49)) hx hb hts in_X4_writeTo_X4 hown hK hM (hrn) rfl 0 (by decide) (hts (.fieldLink RX4 9 "LimbCurves$RunningSum" "field" "LLimbCurves$Residues;") (by decide +kernel)) (fun _ h9 => h9) rfl dX4_writeTo_72 ?_
          refine lv_aload_n hx hb dX4_writeTo_75 rfl (lv_at hl 0 rfl) ?_
          refine x_get (v := .ref (h + 69)) hx hb hts in_X4_writeTo_X4 hown hK hM (hrn) rfl 10 (by decide) (hts (.fieldLink RX4 44 "LimbCurves$RunningSum" "s" "[I") (by decide +kernel)) (fun _ h9 => h9) rfl dX4_writeTo_76 ?_
          refine lv_aload_n hx hb dX4_writeTo_79 rfl (lv_at hl 0 rfl) ?_
          refine x_get (v := .ref (h + 69)) hx hb hts in_X4_writeTo_X4 hown hK hM (hrn) rfl 10 (by decide) (hts (.fieldLink RX4 44 "LimbCurves$RunningSum" "s" "[I") (by decide +kernel)) (fun _ h9 => h9) rfl dX4_writeTo_80 ?_
          refine lv_aload_n hx hb dX4_writeTo_83 rfl (lv_at hl 0 rfl) ?_
          refine x_get (v := .ref (h + 70)) hx hb hts in_X4_writeTo_X4 hown hK hM (hrn) rfl 11 (by decide) (hts (.fieldLink RX4 47 "LimbCurves$RunningSum" "t" "[I") (by decide +kernel)) (fun _ h9 => h9) rfl dX4_writeTo_84 ?_
          obtain ⟨z9, y9, hrf⟩ := hg.rs.ob
          refine r_Vv (As := [.ref (h + 69), .ref (h + 69), .ref (h + 70)]) (rest := []) C hM hS (c_multiply l D kA N0 _ (h + 49) L pp (h + 69) (h + 69) (h + 70) s1 y0 hg.rs hg.wk (hg.rA 7 (by decide)) ((hg.n 7 rfl).1) ((hg.n 8 rfl).1) ((hg.n 7 rfl).2) ((hg.n 8 rfl).2) (by omega) (by omega) (by omega) (by omega) (by omega)) (hrf) rfl gX4_writeTo_X3_multiply rfl rfl rfl ⟨rfl, by decide +kernel, by decide +kernel, (by decide +kernel : (parseMethodDescriptor yX3_multiply.desc).map (fun d => d.parameters.length) = some 3)⟩ ⟨Nat.le_of_ble_eq_true rfl, Nat.le_of_ble_eq_true rfl⟩ hl.1 rfl (Nat.le_of_ble_eq_true rfl) dX4_writeTo_87 ⟨Nat.le_of_ble_eq_true rfl, Nat.le_of_ble_eq_true rfl⟩ (fun M1 H locs hp hM hS => ?_)
          obtain ⟨q1, q2, q3⟩ := hp
          obtain ⟨s2, es2⟩ : ∃ q, q = s1 * y0 % pp := ⟨_, rfl⟩
          rw [← es2] at q1
          have hg : RG kA _ M1 h L pp [some x, some y, some z, none, none, none, none, some s2, some y0] 0 := hg.st 7 (by decide) q1 (by rw [es2]; exact Nat.mod_lt _ hpp) q2 (hg.sp.kept (q3 _ (by omega) (by omega))) (fun b h1 h2 _ => q3 b h1 h2)
          have hrn := hg.rn
          have hp1 : M1 q = some (oPt q d) := by rw [q3 _ (by omega) (by omega)]; exact hp1
          have h2 := h2.kept (q3 (q + 2) (by omega) (by omega))
          have hX := hX.kept (q3 (q + 1) (by omega) (by omega))
          have hfr : ∀ b, b < h + 49 ∨ h + 70 < b ∨ (h + 58 ≤ b ∧ b ≤ h + 60) → b < q ∨ q + 2 < b → M1 b = M b := fun b hb hc => by rw [q3 b (by omega) (by omega), ← eMi]; exact hfr b hb hc
          clear eMi q1 q2 q3 hrf
          refine lv_aload_n hx hb dX4_writeTo_90 rfl (lv_at hl 0 rfl) ?_
          refine x_get (v := .ref (h + 49)) hx hb hts in_X4_writeTo_X4 hown hK hM (hrn) rfl 0 (by decide) (hts (.fieldLink RX4 9 "LimbCurves$RunningSum" "field" "LLimbCurves$Residues;") (by decide +kernel)) (fun _ h9 => h9) rfl dX4_writeTo_91 ?_
          refine lv_aload_n hx hb dX4_writeTo_94 rfl (lv_at hl 1 rfl) ?_
          refine x_get (v := .ref (q + 2)) hx hb hts in_X4_writeTo_X2 hown hK hM (hp1) rfl 1 (by decide) (hts (.fieldLink RX4 103 "LimbCurves$Point" "y" "[I") (by decide +kernel)) (fun _ h9 => h9) rfl dX4_writeTo_95 ?_
          refine lv_aload_n hx hb dX4_writeTo_98 rfl (lv_at hl 0 rfl) ?_
          refine x_get (v := .ref (h + 63)) hx hb hts in_X4_writeTo_X4 hown hK hM (hrn) rfl 3 (by decide) (hts (.fieldLink RX4 22 "LimbCurves$RunningSum" "y" "[I") (by decide +kernel)) (fun _ h9 => h9) rfl dX4_writeTo_99 ?_
          refine lv_aload_n hx hb dX4_writeTo_102 rfl (lv_at hl 0 rfl) ?_
          refine x_get (v := .ref (h + 69)) hx hb hts in_X4_writeTo_X4 hown hK hM (hrn) rfl 10 (by decide) (hts (.fieldLink RX4 44 "LimbCurves$RunningSum" "s" "[I") (by decide +kernel)) (fun _ h9 => h9) rfl dX4_writeTo_103 ?_
          obtain ⟨z9, y9, hrf⟩ := hg.rs.ob
          refine r_Vv (As := [.ref (q + 2), .ref (h + 63), .ref (h + 69)]) (rest := []) C hM hS (c_multiply l D kA N0 M1 (h + 49) L pp (q + 2) (h + 63) (h + 69) y s2 hg.rs hg.wk h2 (hg.n 1 rfl).1 (hg.n 7 rfl).1 (hg.n 1 rfl).2 (hg.n 7 rfl).2 (by omega) (by omega) (by omega) (by omega) (by omega)) (hrf) rfl gX4_writeTo_X3_multiply rfl rfl rfl ⟨rfl, by decide +kernel, by decide +kernel, (by decide +kernel : (parseMethodDescriptor yX3_multiply.desc).map (fun d => d.parameters.length) = some 3)⟩ ⟨Nat.le_of_ble_eq_true rfl, Nat.le_of_ble_eq_true rfl⟩ hl.1 rfl (Nat.le_of_ble_eq_true rfl) dX4_writeTo_106 ⟨Nat.le_of_ble_eq_true rfl, Nat.le_of_ble_eq_true rfl⟩ (fun M3 H locs hp hM hS => ?_)
          obtain ⟨q1, q2, q3⟩ := hp
          have hg : RG kA M3 M3 h L pp [some x, some y, some z, none, none, none, none, some s2, some y0] 0 := hg.out (Nat.le_refl 9) q2 (o := q + 2) (by omega) q3
          have hp1 : M3 q = some (oPt q d) := by rw [q3 _ (by omega) (by omega)]; exact hp1
          have hX := hX.kept (q3 (q + 1) (by omega) (by omega))
          refine lv_aload_n hx hb dX4_writeTo_109 rfl (lv_at hl 1 rfl) ?_
          refine lv_iconst (v := nI 0) hx hb dX4_writeTo_110 (by decide) ?_
          refine x_put (v := .int (nI 0)) (ty := .boolean) hx hb hts in_X4_writeTo_X2 tyX2 tyX2_ok nmX2 hown hK hM hS (hp1) rfl 2 (by decide) (hts (.fieldLink RX4 66 "LimbCurves$Point" "identity" "Z") (by decide +kernel)) (fun _ h9 => h9) rfl (by decide +kernel) rfl rfl (Nat.le_of_ble_eq_true rfl) dX4_writeTo_111 (fun H locs hM hS => ?_)
          have hM : xW D vwCl N0 (xset M3 q (oPt q (nI 0))) H := hM
          refine lv_iconst (v := nI 1) hx hb dX4_writeTo_114 (by decide) ?_
          have hxy : P = some (fz k (x * s1 % pp), fz k (y * s2 % pp)) := by
            rw [hrP] at hJ
            cases P with
            | none => exact absurd hJ.2 (by decide)
            | some P =>
              obtain ⟨X, Y⟩ := P
              obtain ⟨-, -, eX, eY⟩ := hJ
              rw [hpe] at es1 es2 ⊢
              rw [fz_mul, fz_mul, es2, fz_mul, es1, fz_mul, eX, eY, jw hzw, jw3 hzw]
          have hP : isPz kA (xset M3 q (oPt q (nI 0))) q L k P := by
            rw [hxy]
            refine ⟨xset_s, ?_, ?_⟩
            · rw [fz_val, ← hpe, Nat.mod_mod]
              exact hX.kept (xset_n (by omega))
            · rw [fz_val, ← hpe, Nat.mod_mod]
              exact q1.kept (xset_n (by omega))
          have hgz : RG kA (xset M3 q (oPt q (nI 0))) (xset M3 q (oPt q (nI 0))) h L (k + 1) [some x, some y, some z, none, none, none, none, some s2, some y0] 0 := by
            rw [← hpe]
            exact hg.other (Nat.le_refl 9) (fun b e1 e2 => xset_n (by omega))
          exact r_zret C hM hS rfl (⟨⟨_, _, hgz⟩, fun b e1 e2 => by rw [xset_n (by omega), q3 b (by omega) (by omega)]; exact hfr b e1 e2, Or.inr ⟨rfl, P, hrP, hP⟩⟩) dX4_writeTo_115
        · omega
      · exact absurd hc (by decide)
end PNT
