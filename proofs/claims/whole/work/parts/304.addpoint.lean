theorem in_X4_addPoint_X2 : ∀ w ∈ wsX20, w ∈ wsX4_addPoint := by decide +kernel
theorem in_X4_addPoint_X4 : ∀ w ∈ wsX40, w ∈ wsX4_addPoint := by decide +kernel
theorem cV.mono {l : Launch} {y : MethodName} {ws : List Cond} {rm : Room} {av : List Value} {D : va_G} {kA : Nat → ClassId} {N0 : Nat} {M : xM} {post post' : xM → Prop} (h : cV l y ws rm av D kA N0 M post) (hi : ∀ M1, post M1 → post' M1) : cV l y ws rm av D kA N0 M post' := by
  intro p e a1 a2 a3 s m args below a4 a5 a6 a7
  obtain ⟨n, o, h1, h2, h3, ⟨⟨u, e1, e2, e3⟩, e4⟩, e5⟩ := h p e a1 a2 a3 s m args below a4 a5 a6 a7
  exact ⟨n, o, h1, h2, h3, ⟨⟨u, e1, hi u e2, e3⟩, e4⟩, e5⟩
theorem cI.mono {l : Launch} {y : MethodName} {ws : List Cond} {rm : Room} {av : List Value} {D : va_G} {kA : Nat → ClassId} {N0 : Nat} {M : xM} {post post' : Int32 → xM → Prop} (h : cI l y ws rm av D kA N0 M post) (hi : ∀ r M1, post r M1 → post' r M1) : cI l y ws rm av D kA N0 M post' := by
  intro p e a1 a2 a3 s m args below a4 a5 a6 a7
  obtain ⟨n, o, h1, h2, h3, ⟨⟨r, u, e1, e2, e3⟩, e4⟩, e5⟩ := h p e a1 a2 a3 s m args below a4 a5 a6 a7
  exact ⟨n, o, h1, h2, h3, ⟨⟨r, u, e1, hi r u e2, e3⟩, e4⟩, e5⟩
/-- the running sum stands for r -/
def RJ (kA : Nat → ClassId) (M0 M : xM) (h L k : Nat) (r : Option (Pt k)) : Prop := (∃ z, RG kA M0 M h L (k + 1) [none, none, some z, none, none, none, none, none, none] 1 ∧ JS k 1 0 0 (fz k z) r) ∨ (∃ x y z, RG kA M0 M h L (k + 1) [some x, some y, some z, none, none, none, none, none, none] 0 ∧ JS k 0 (fz k x) (fz k y) (fz k z) r)
theorem JS1 {k : Nat} {x y z : Zp k} {r : Option (Pt k)} (h : JS k 1 x y z r) : JS k 1 0 0 z r := by
  cases r with
  | none => exact h
  | some R =>
    cases R with
    | none => exact h
    | some P => obtain ⟨X, Y⟩ := P; exact absurd h.1 (by decide)
/-- a point's slot of the desk holds P -/
def isPt (kA : Nat → ClassId) (M : xM) (q L k : Nat) (P : Pt k) : Prop := ∃ X Y d : Nat, M q = some (oPt q (nI d)) ∧ isN kA M (q + 1) L X ∧ isN kA M (q + 2) L Y ∧ ((d = 1 ∧ P = none) ∨ (d = 0 ∧ X < k + 1 ∧ Y < k + 1 ∧ P = some (fz k X, fz k Y)))
theorem isPt.kept {kA : Nat → ClassId} {M M1 : xM} {q L k : Nat} {P : Pt k} (h : isPt kA M q L k P) (e0 : M1 q = M q) (e1 : M1 (q + 1) = M (q + 1)) (e2 : M1 (q + 2) = M (q + 2)) : isPt kA M1 q L k P := by
  obtain ⟨X, Y, d, h1, h2, h3, h4⟩ := h
  exact ⟨X, Y, d, by rw [e0]; exact h1, h2.kept e1, h3.kept e2, h4⟩
section RUN3
variable {p : Program} {l : Launch} {e : Env} {R : Room} {s : State} {m : MethodId} {args : Array Value} {below : List Frame} {meth : Method} {c : Code} {Q : State → Prop} {cells slots : Nat} {ret : Option FieldType} {D : va_G} {kA : Nat → ClassId} {N0 : Nat}
theorem c_addItselfJ (l : Launch) (D : va_G) (kA : Nat → ClassId) (N0 : Nat) (M0 M : xM) (h L k A : Nat) (r : Option (Pt k)) (hj : RJ kA M0 M h L k r) (hA : isN kA M0 (h + 3) L A) (hAb : A < k + 1) (hodd : (k + 1) % 2 = 1) (hL : L < 40) : cV l yX4_addItself wsX4_addItself (xR 3) [.ref (h + 61)] D kA N0 M (fun M1 => RJ kA M0 M1 h L k (dblR (fz k A) r)) := by
  rcases hj with ⟨z, hg, hJ⟩ | ⟨x, y, z, hg, hJ⟩
  · refine (c_addItself1 l D kA N0 M0 M h L (k + 1) _ hg).mono (fun M1 e => ?_)
    rw [e]
    refine Or.inl ⟨z, hg, ?_⟩
    cases r with
    | none => exact hJ
    | some R =>
      cases R with
      | none => exact hJ
      | some P => obtain ⟨X, Y⟩ := P; exact absurd hJ.1 (by decide)
  · refine (c_addItself l D kA N0 M0 M h L (k + 1) A x y z hg hA hAb (by omega) hL).mono (fun M1 hp => ?_)
    have hyb := (hg.n 1 rfl).2
    rcases hp with ⟨hy, hg1⟩ | ⟨hy, x', y', z', hg1, hd⟩
    · exact Or.inl ⟨z, hg1.less (gs_less (by simp [gsl])), JS1 (J_dbl0 hJ (by rw [hy]; rfl))⟩
    · exact Or.inr ⟨x', y', z', hg1, J_dbl hodd hJ (fun q => by have := (fz_z hyb).mp q; omega) hd⟩
set_option maxRecDepth 100000 in
theorem c_addPoint (l : Launch) (D : va_G) (kA : Nat → ClassId) (N0 : Nat) (M0 M : xM) (h L k A B q : Nat) (r : Option (Pt k)) (P : Pt k) (hj : RJ kA M0 M h L k r) (hA : isN kA M0 (h + 3) L A) (hAb : A < k + 1) (hodd : (k + 1) % 2 = 1) (hk : 0 < k) (hpt : isPt kA M0 q L k P) (hon : onC (fz k A) (fz k B) P) (hr9 : ∀ R, r = some R → onC (fz k A) (fz k B) R) (hq : q + 2 < h + 49 ∨ h + 70 < q) (hL0 : 0 < L) (hL : L < 40) : cV l yX4_addPoint wsX4_addPoint (xR 4) [.ref (h + 61), .ref q] D kA N0 M (fun M1 => RJ kA M0 M1 h L k (addR (fz k A) P r)) := by
  obtain ⟨X, Y, d, hp0, hX, hY, hP⟩ := hpt
  have hpp : 0 < k + 1 := Nat.succ_pos k
  obtain ⟨pp, hpe⟩ : ∃ pp, pp = k + 1 := ⟨_, rfl⟩
  rcases hj with ⟨z, hg, hJ⟩ | ⟨x, y, z, hg, hJ⟩
  · have hrn := hg.rn
    have hp1 : M q = some (oPt q (nI d)) := by rw [hg.fr _ (by omega)]; exact hp0
    refine r_met (cc := cX4_addPoint) (maxL := 2) (ret := none) (by decide) rfl (Nat.le_of_ble_eq_true rfl) ?_
    intro p e s m below meth c ls C hM hnm hl
    obtain ⟨hx, hb, hml, hown, hts, hr, hlocks, hK, hN⟩ := _root_.id C
    have hS : va_S (xA N0) s.heap s.heap [] := va_S.rf
    have hl : lv_has ls 2 [(0, .ref (h + 61)), (1, .ref q)] := hl
    rcases hP with ⟨hd, rfl⟩ | ⟨hd, hXb, hYb, rfl⟩
    refine lv_aload_n hx hb dX4_addPoint_0 rfl (lv_at hl 1 rfl) ?_
    refine x_get (v := .int (nI d)) hx hb hts in_X4_addPoint_X2 hown hK hM (hp1) rfl 2 (by decide) (hts (.fieldLink RX4 66 "LimbCurves$Point" "identity" "Z") (by decide +kernel)) (fun _ h9 => h9) rfl dX4_addPoint_1 ?_
    · refine r_if_eqN (tgt := 8) C (by omega) dX4_addPoint_4 (by decide) (fun hc => ?_) (fun hc => ?_)
      · omega
      · refine r_vret C hM hS ?_ dX4_addPoint_7
        have e1 : addR (fz k A) none r = r := by
          cases r with
          | none => rfl
          | some R => exact psum_right R
        rw [e1]
        exact Or.inl ⟨z, hg, hJ⟩
    · refine lv_aload_n hx hb dX4_addPoint_0 rfl (lv_at hl 1 rfl) ?_
      refine x_get (v := .int (nI d)) hx hb hts in_X4_addPoint_X2 hown hK hM (hp1) rfl 2 (by decide) (hts (.fieldLink RX4 66 "LimbCurves$Point" "identity" "Z") (by decide +kernel)) (fun _ h9 => h9) rfl dX4_addPoint_1 ?_
      refine r_if_eqN (tgt := 8) C (by omega) dX4_addPoint_4 (by decide) (fun hc => ?_) (fun hc => ?_)
      · refine lv_aload_n hx hb dX4_addPoint_8 rfl (lv_at hl 0 rfl) ?_
        refine lv_aload_n hx hb dX4_addPoint_9 rfl (lv_at hl 1 rfl) ?_
        refine r_Vv (As := [.ref q]) (rest := []) C hM hS (c_bringToSameZ l D kA N0 M0 M h L (k + 1) q 1 X Y z none none (nI d) hg hp0 hX hY hXb hYb hq hpp hL) (hrn) rfl gX4_addPoint_X4_bringToSameZ rfl rfl rfl ⟨rfl, by decide +kernel, by decide +kernel, (by decide +kernel : (parseMethodDescriptor yX4_bringToSameZ.desc).map (fun d => d.parameters.length) = some 1)⟩ ⟨Nat.le_of_ble_eq_true rfl, Nat.le_of_ble_eq_true rfl⟩ hl.1 rfl (Nat.le_of_ble_eq_true rfl) dX4_addPoint_10 ⟨Nat.le_of_ble_eq_true rfl, Nat.le_of_ble_eq_true rfl⟩ (fun M1 H locs hg hM hS => ?_)
        have hrn := hg.rn
        have hzb := (hg.n 2 rfl).2
        refine lv_aload_n hx hb dX4_addPoint_13 rfl (lv_at hl 0 rfl) ?_
        refine x_get (v := .int (nI 1)) hx hb hts in_X4_addPoint_X4 hown hK hM (hrn) rfl 5 (by decide) (hts (.fieldLink RX4 28 "LimbCurves$RunningSum" "identity" "Z") (by decide +kernel)) (fun _ h9 => h9) rfl dX4_addPoint_14 ?_
        refine r_if_eqN (tgt := 48) C (by omega) dX4_addPoint_17 (by decide) (fun hi => ?_) (fun hi => ?_)
        · omega
        · obtain ⟨⟨f3, h3, n3, V3⟩, b3⟩ := hg.n 3 rfl
          obtain ⟨f0, h0⟩ := hg.rA 0 (by decide)
          refine lv_aload_n hx hb dX4_addPoint_20 rfl (lv_at hl 0 rfl) ?_
          refine x_get (v := .ref (h + 62)) hx hb hts in_X4_addPoint_X4 hown hK hM (hrn) rfl 2 (by decide) (hts (.fieldLink RX4 19 "LimbCurves$RunningSum" "x" "[I") (by decide +kernel)) (fun _ h9 => h9) rfl dX4_addPoint_21 ?_
          refine lv_aload_n hx hb dX4_addPoint_24 rfl (lv_at hl 0 rfl) ?_
          refine x_get (v := .ref (h + 65)) hx hb hts in_X4_addPoint_X4 hown hK hM (hrn) rfl 6 (by decide) (hts (.fieldLink RX4 32 "LimbCurves$RunningSum" "otherX" "[I") (by decide +kernel)) (fun _ h9 => h9) rfl dX4_addPoint_25 ?_
          refine r_Sv (As := [.ref (h + 62), .ref (h + 65)]) (rest := []) C hM hS (c_copy l D kA N0 M1 (h + 62) (h + 65) L f0 f3 h0 h3 (by omega)) gX4_addPoint_X1_copy rfl rfl rfl ⟨by decide +kernel, by decide +kernel, (by decide +kernel : (parseMethodDescriptor yX1_copy.desc).map (fun d => d.parameters.length) = some 2)⟩ ⟨Nat.le_of_ble_eq_true rfl, Nat.le_of_ble_eq_true rfl⟩ hl.1 rfl (Nat.le_of_ble_eq_true rfl) dX4_addPoint_28 ⟨Nat.le_of_ble_eq_true rfl, Nat.le_of_ble_eq_true rfl⟩ (fun M2 H locs hp hM hS => ?_)
          obtain ⟨g0, rfl, e0⟩ := hp
          have hg := hg.st 0 (by decide) (M1 := xset M1 (h + 62) (xI (kA 0) L g0)) ⟨g0, xset_s, fun j hj => by rw [e0 j hj]; exact n3 j hj, by rw [V_congr e0]; exact V3⟩ b3 (hg.wk.kept (xset_n (by omega))) (hg.sp.kept (xset_n (by omega))) (fun b h1 _ _ => xset_n h1)
          have hrn := hg.rn
          obtain ⟨⟨f4, h4, n4, V4⟩, b4⟩ := hg.n 4 rfl
          obtain ⟨f1, h1⟩ := hg.rA 1 (by decide)
          refine lv_aload_n hx hb dX4_addPoint_31 rfl (lv_at hl 0 rfl) ?_
          refine x_get (v := .ref (h + 63)) hx hb hts in_X4_addPoint_X4 hown hK hM (hrn) rfl 3 (by decide) (hts (.fieldLink RX4 22 "LimbCurves$RunningSum" "y" "[I") (by decide +kernel)) (fun _ h9 => h9) rfl dX4_addPoint_32 ?_
          refine lv_aload_n hx hb dX4_addPoint_35 rfl (lv_at hl 0 rfl) ?_
          refine x_get (v := .ref (h + 66)) hx hb hts in_X4_addPoint_X4 hown hK hM (hrn) rfl 7 (by decide) (hts (.fieldLink RX4 35 "LimbCurves$RunningSum" "otherY" "[I") (by decide +kernel)) (fun _ h9 => h9) rfl dX4_addPoint_36 ?_
          refine r_Sv (As := [.ref (h + 63), .ref (h + 66)]) (rest := []) C hM hS (c_copy l D kA N0 (xset M1 (h + 62) (xI (kA 0) L g0)) (h + 63) (h + 66) L f1 f4 h1 h4 (by omega)) gX4_addPoint_X1_copy rfl rfl rfl ⟨by decide +kernel, by decide +kernel, (by decide +kernel : (parseMethodDescriptor yX1_copy.desc).map (fun d => d.parameters.length) = some 2)⟩ ⟨Nat.le_of_ble_eq_true rfl, Nat.le_of_ble_eq_true rfl⟩ hl.1 rfl (Nat.le_of_ble_eq_true rfl) dX4_addPoint_39 ⟨Nat.le_of_ble_eq_true rfl, Nat.le_of_ble_eq_true rfl⟩ (fun M2 H locs hp hM hS => ?_)
          obtain ⟨g1, rfl, e1⟩ := hp
          have hg := hg.st 1 (by decide) (M1 := xset (xset M1 (h + 62) (xI (kA 0) L g0)) (h + 63) (xI (kA 0) L g1)) ⟨g1, xset_s, fun j hj => by rw [e1 j hj]; exact n4 j hj, by rw [V_congr e1]; exact V4⟩ b4 (hg.wk.kept (xset_n (by omega))) (hg.sp.kept (xset_n (by omega))) (fun b h1 _ _ => xset_n h1)
          have hrn := hg.rn
          refine lv_aload_n hx hb dX4_addPoint_42 rfl (lv_at hl 0 rfl) ?_
          refine lv_iconst (v := nI 0) hx hb dX4_addPoint_43 (by decide) ?_
          refine x_put (v := .int (nI 0)) (ty := .boolean) hx hb hts in_X4_addPoint_X4 tyX4 tyX4_ok nmX4 hown hK hM hS (hrn) rfl 5 (by decide) (hts (.fieldLink RX4 28 "LimbCurves$RunningSum" "identity" "Z") (by decide +kernel)) (fun _ h9 => h9) rfl (by decide +kernel) rfl rfl (Nat.le_of_ble_eq_true rfl) dX4_addPoint_44 (fun H locs hM hS => ?_)
          have hM : xW D vwCl N0 (xset (xset (xset M1 (h + 62) (xI (kA 0) L g0)) (h + 63) (xI (kA 0) L g1)) (h + 61) (oRn h (nI 0))) H := hM
          refine r_vret C hM hS (Or.inr ⟨X * (z * z % (k + 1)) % (k + 1), Y * (z * z % (k + 1) * z % (k + 1)) % (k + 1), z, (hg.mark 0).less (gs_less ⟨rfl, rfl, rfl, trivial⟩), ?_⟩) dX4_addPoint_47
          rw [fz_mul, fz_mul, fz_mul, fz_mul, fz_mul]
          exact J_id hJ
      · omega
  · have hrn := hg.rn
    have hp1 : M q = some (oPt q (nI d)) := by rw [hg.fr _ (by omega)]; exact hp0
    refine r_met (cc := cX4_addPoint) (maxL := 2) (ret := none) (by decide) rfl (Nat.le_of_ble_eq_true rfl) ?_
    intro p e s m below meth c ls C hM hnm hl
    obtain ⟨hx, hb, hml, hown, hts, hr, hlocks, hK, hN⟩ := _root_.id C
    have hS : va_S (xA N0) s.heap s.heap [] := va_S.rf
    have hl : lv_has ls 2 [(0, .ref (h + 61)), (1, .ref q)] := hl
    rcases hP with ⟨hd, rfl⟩ | ⟨hd, hXb, hYb, rfl⟩
    refine lv_aload_n hx hb dX4_addPoint_0 rfl (lv_at hl 1 rfl) ?_
    refine x_get (v := .int (nI d)) hx hb hts in_X4_addPoint_X2 hown hK hM (hp1) rfl 2 (by decide) (hts (.fieldLink RX4 66 "LimbCurves$Point" "identity" "Z") (by decide +kernel)) (fun _ h9 => h9) rfl dX4_addPoint_1 ?_
    · refine r_if_eqN (tgt := 8) C (by omega) dX4_addPoint_4 (by decide) (fun hc => ?_) (fun hc => ?_)
      · omega
      · refine r_vret C hM hS ?_ dX4_addPoint_7
        have e1 : addR (fz k A) none r = r := by
          cases r with
          | none => rfl
          | some R => exact psum_right R
        rw [e1]
        exact Or.inr ⟨x, y, z, hg, hJ⟩
    · refine lv_aload_n hx hb dX4_addPoint_0 rfl (lv_at hl 1 rfl) ?_
      refine x_get (v := .int (nI d)) hx hb hts in_X4_addPoint_X2 hown hK hM (hp1) rfl 2 (by decide) (hts (.fieldLink RX4 66 "LimbCurves$Point" "identity" "Z") (by decide +kernel)) (fun _ h9 => h9) rfl dX4_addPoint_1 ?_
      refine r_if_eqN (tgt := 8) C (by omega) dX4_addPoint_4 (by decide) (fun hc => ?_) (fun hc => ?_)
      · refine lv_aload_n hx hb dX4_addPoint_8 rfl (lv_at hl 0 rfl) ?_
        refine lv_aload_n hx hb dX4_addPoint_9 rfl (lv_at hl 1 rfl) ?_
        refine r_Vv (As := [.ref q]) (rest := []) C hM hS (c_bringToSameZ l D kA N0 M0 M h L (k + 1) q 0 X Y z (some x) (some y) (nI d) hg hp0 hX hY hXb hYb hq hpp hL) (hrn) rfl gX4_addPoint_X4_bringToSameZ rfl rfl rfl ⟨rfl, by decide +kernel, by decide +kernel, (by decide +kernel : (parseMethodDescriptor yX4_bringToSameZ.desc).map (fun d => d.parameters.length) = some 1)⟩ ⟨Nat.le_of_ble_eq_true rfl, Nat.le_of_ble_eq_true rfl⟩ hl.1 rfl (Nat.le_of_ble_eq_true rfl) dX4_addPoint_10 ⟨Nat.le_of_ble_eq_true rfl, Nat.le_of_ble_eq_true rfl⟩ (fun M1 H locs hg hM hS => ?_)
        have hrn := hg.rn
        have hzb := (hg.n 2 rfl).2
        refine lv_aload_n hx hb dX4_addPoint_13 rfl (lv_at hl 0 rfl) ?_
        refine x_get (v := .int (nI 0)) hx hb hts in_X4_addPoint_X4 hown hK hM (hrn) rfl 5 (by decide) (hts (.fieldLink RX4 28 "LimbCurves$RunningSum" "identity" "Z") (by decide +kernel)) (fun _ h9 => h9) rfl dX4_addPoint_14 ?_
        refine r_if_eqN (tgt := 48) C (by omega) dX4_addPoint_17 (by decide) (fun hi => ?_) (fun hi => ?_)
        · obtain ⟨ox, eox⟩ : ∃ q, q = X * (z * z % (k + 1)) % (k + 1) := ⟨_, rfl⟩
          obtain ⟨oy, eoy⟩ : ∃ q, q = Y * (z * z % (k + 1) * z % (k + 1)) % (k + 1) := ⟨_, rfl⟩
          rw [← eox, ← eoy] at hg
          have fox : fz k ox = fz k X * (fz k z * fz k z) := by rw [eox, fz_mul, fz_mul]
          have foy : fz k oy = fz k Y * (fz k z * fz k z * fz k z) := by rw [eoy, fz_mul, fz_mul, fz_mul]
          rw [← hpe] at hg hpp
          refine lv_aload_n hx hb dX4_addPoint_48 rfl (lv_at hl 0 rfl) ?_
          refine x_get (v := .ref (h + 49)) hx hb hts in_X4_addPoint_X4 hown hK hM (hrn) rfl 0 (by decide) (hts (.fieldLink RX4 9 "LimbCurves$RunningSum" "field" "LLimbCurves$Residues;") (by decide +kernel)) (fun _ h9 => h9) rfl dX4_addPoint_49 ?_
          refine lv_aload_n hx hb dX4_addPoint_52 rfl (lv_at hl 0 rfl) ?_
          refine x_get (v := .ref (h + 67)) hx hb hts in_X4_addPoint_X4 hown hK hM (hrn) rfl 8 (by decide) (hts (.fieldLink RX4 38 "LimbCurves$RunningSum" "run" "[I") (by decide +kernel)) (fun _ h9 => h9) rfl dX4_addPoint_53 ?_
          refine lv_aload_n hx hb dX4_addPoint_56 rfl (lv_at hl 0 rfl) ?_
          refine x_get (v := .ref (h + 65)) hx hb hts in_X4_addPoint_X4 hown hK hM (hrn) rfl 6 (by decide) (hts (.fieldLink RX4 32 "LimbCurves$RunningSum" "otherX" "[I") (by decide +kernel)) (fun _ h9 => h9) rfl dX4_addPoint_57 ?_
          refine lv_aload_n hx hb dX4_addPoint_60 rfl (lv_at hl 0 rfl) ?_
          refine x_get (v := .ref (h + 62)) hx hb hts in_X4_addPoint_X4 hown hK hM (hrn) rfl 2 (by decide) (hts (.fieldLink RX4 19 "LimbCurves$RunningSum" "x" "[I") (by decide +kernel)) (fun _ h9 => h9) rfl dX4_addPoint_61 ?_
          obtain ⟨z9, y9, hrf⟩ := hg.rs.ob
          refine r_Vv (As := [.ref (h + 67), .ref (h + 65), .ref (h + 62)]) (rest := []) C hM hS (c_subtract l D kA N0 _ (h + 49) L pp (h + 67) (h + 65) (h + 62) ox x (nI z9) (nI y9) hrf hg.rs.md (hg.rA 5 (by decide)) ((hg.n 3 rfl).1) ((hg.n 0 rfl).1) ((hg.n 3 rfl).2) (Nat.le_of_lt ((hg.n 0 rfl).2)) (by omega) (by omega)) (hrf) rfl gX4_addPoint_X3_subtract rfl rfl rfl ⟨rfl, by decide +kernel, by decide +kernel, (by decide +kernel : (parseMethodDescriptor yX3_subtract.desc).map (fun d => d.parameters.length) = some 3)⟩ ⟨Nat.le_of_ble_eq_true rfl, Nat.le_of_ble_eq_true rfl⟩ hl.1 rfl (Nat.le_of_ble_eq_true rfl) dX4_addPoint_64 ⟨Nat.le_of_ble_eq_true rfl, Nat.le_of_ble_eq_true rfl⟩ (fun M1 H locs hp hM hS => ?_)
          obtain ⟨q1, q3⟩ := hp
          obtain ⟨rn, ern⟩ : ∃ q, q = (ox + (pp - x)) % pp := ⟨_, rfl⟩
          rw [← ern] at q1
          have hg : RG kA _ M1 h L pp [some x, some y, some z, some ox, some oy, some rn, none, none, none] 0 := hg.st 5 (by decide) q1 (by rw [ern]; exact Nat.mod_lt _ hpp) (hg.wk.kept (q3 _ (by omega))) (hg.sp.kept (q3 _ (by omega))) (fun b h1 _ _ => q3 b h1)
          have hrn := hg.rn
          refine lv_aload_n hx hb dX4_addPoint_67 rfl (lv_at hl 0 rfl) ?_
          refine x_get (v := .ref (h + 49)) hx hb hts in_X4_addPoint_X4 hown hK hM (hrn) rfl 0 (by decide) (hts (.fieldLink RX4 9 "LimbCurves$RunningSum" "field" "LLimbCurves$Residues;") (by decide +kernel)) (fun _ h9 => h9) rfl dX4_addPoint_68 ?_
          refine lv_aload_n hx hb dX4_addPoint_71 rfl (lv_at hl 0 rfl) ?_
          refine x_get (v := .ref (h + 68)) hx hb hts in_X4_addPoint_X4 hown hK hM (hrn) rfl 9 (by decide) (hts (.fieldLink RX4 41 "LimbCurves$RunningSum" "rise" "[I") (by decide +kernel)) (fun _ h9 => h9) rfl dX4_addPoint_72 ?_
          refine lv_aload_n hx hb dX4_addPoint_75 rfl (lv_at hl 0 rfl) ?_
          refine x_get (v := .ref (h + 66)) hx hb hts in_X4_addPoint_X4 hown hK hM (hrn) rfl 7 (by decide) (hts (.fieldLink RX4 35 "LimbCurves$RunningSum" "otherY" "[I") (by decide +kernel)) (fun _ h9 => h9) rfl dX4_addPoint_76 ?_
          refine lv_aload_n hx hb dX4_addPoint_79 rfl (lv_at hl 0 rfl) ?_
          refine x_get (v := .ref (h + 63)) hx hb hts in_X4_addPoint_X4 hown hK hM (hrn) rfl 3 (by decide) (hts (.fieldLink RX4 22 "LimbCurves$RunningSum" "y" "[I") (by decide +kernel)) (fun _ h9 => h9) rfl dX4_addPoint_80 ?_
          obtain ⟨z9, y9, hrf⟩ := hg.rs.ob
          refine r_Vv (As := [.ref (h + 68), .ref (h + 66), .ref (h + 63)]) (rest := []) C hM hS (c_subtract l D kA N0 _ (h + 49) L pp (h + 68) (h + 66) (h + 63) oy y (nI z9) (nI y9) hrf hg.rs.md (hg.rA 6 (by decide)) ((hg.n 4 rfl).1) ((hg.n 1 rfl).1) ((hg.n 4 rfl).2) (Nat.le_of_lt ((hg.n 1 rfl).2)) (by omega) (by omega)) (hrf) rfl gX4_addPoint_X3_subtract rfl rfl rfl ⟨rfl, by decide +kernel, by decide +kernel, (by decide +kernel : (parseMethodDescriptor yX3_subtract.desc).map (fun d => d.parameters.length) = some 3)⟩ ⟨Nat.le_of_ble_eq_true rfl, Nat.le_of_ble_eq_true rfl⟩ hl.1 rfl (Nat.le_of_ble_eq_true rfl) dX4_addPoint_83 ⟨Nat.le_of_ble_eq_true rfl, Nat.le_of_ble_eq_true rfl⟩ (fun M1 H locs hp hM hS => ?_)
          obtain ⟨q1, q3⟩ := hp
          obtain ⟨rs, ers⟩ : ∃ q, q = (oy + (pp - y)) % pp := ⟨_, rfl⟩
          rw [← ers] at q1
          have hg : RG kA _ M1 h L pp [some x, some y, some z, some ox, some oy, some rn, some rs, none, none] 0 := hg.st 6 (by decide) q1 (by rw [ers]; exact Nat.mod_lt _ hpp) (hg.wk.kept (q3 _ (by omega))) (hg.sp.kept (q3 _ (by omega))) (fun b h1 _ _ => q3 b h1)
          have hrn := hg.rn
          rw [hpe] at hg hpp ern ers
          have hxb := (hg.n 0 rfl).2
          have hyb := (hg.n 1 rfl).2
          have frn : fz k rn = fz k X * (fz k z * fz k z) - fz k x := by rw [ern, fz_sub (by omega), fox]
          have frs : fz k rs = fz k Y * (fz k z * fz k z * fz k z) - fz k y := by rw [ers, fz_sub (by omega), foy]
          obtain ⟨⟨f5, h5, n5, V5⟩, b5⟩ := hg.n 5 rfl
          obtain ⟨⟨f6, h6, n6, V6⟩, b6⟩ := hg.n 6 rfl
          refine lv_aload_n hx hb dX4_addPoint_86 rfl (lv_at hl 0 rfl) ?_
          refine x_get (v := .ref (h + 67)) hx hb hts in_X4_addPoint_X4 hown hK hM (hrn) rfl 8 (by decide) (hts (.fieldLink RX4 38 "LimbCurves$RunningSum" "run" "[I") (by decide +kernel)) (fun _ h9 => h9) rfl dX4_addPoint_87 ?_
          refine r_Si (As := [.ref (h + 67)]) (rest := []) C hM hS (c_isZero l D kA N0 M1 (h + 67) L f5 h5 n5 (by omega)) gX4_addPoint_X1_isZero rfl rfl rfl ⟨by decide +kernel, by decide +kernel, (by decide +kernel : (parseMethodDescriptor yX1_isZero.desc).map (fun d => d.parameters.length) = some 1)⟩ ⟨Nat.le_of_ble_eq_true rfl, Nat.le_of_ble_eq_true rfl⟩ hl.1 rfl (Nat.le_of_ble_eq_true rfl) dX4_addPoint_90 ⟨Nat.le_of_ble_eq_true rfl, Nat.le_of_ble_eq_true rfl⟩ (fun qz M2 H locs hp hM hS => ?_)
          obtain ⟨eM, hqz⟩ := hp
          rw [eM] at hM
          rw [V5] at hqz
          refine lv_if_ne (tgt := 103) hx hb dX4_addPoint_93 (by decide) (fun hz5 => ?_) (fun hz5 => ?_)
          · have hr0 : rn = 0 := by
              rcases hqz with ⟨h1, h2⟩ | ⟨h1, h2⟩
              · exact h2
              · exact absurd h1 hz5
            have frn0 : fz k X * (fz k z * fz k z) - fz k x = 0 := by rw [← frn, hr0]; rfl
            refine lv_aload_n hx hb dX4_addPoint_103 rfl (lv_at hl 0 rfl) ?_
            refine x_get (v := .ref (h + 68)) hx hb hts in_X4_addPoint_X4 hown hK hM (hrn) rfl 9 (by decide) (hts (.fieldLink RX4 41 "LimbCurves$RunningSum" "rise" "[I") (by decide +kernel)) (fun _ h9 => h9) rfl dX4_addPoint_104 ?_
            refine r_Si (As := [.ref (h + 68)]) (rest := []) C hM hS (c_isZero l D kA N0 M1 (h + 68) L f6 h6 n6 (by omega)) gX4_addPoint_X1_isZero rfl rfl rfl ⟨by decide +kernel, by decide +kernel, (by decide +kernel : (parseMethodDescriptor yX1_isZero.desc).map (fun d => d.parameters.length) = some 1)⟩ ⟨Nat.le_of_ble_eq_true rfl, Nat.le_of_ble_eq_true rfl⟩ hl.1 rfl (Nat.le_of_ble_eq_true rfl) dX4_addPoint_107 ⟨Nat.le_of_ble_eq_true rfl, Nat.le_of_ble_eq_true rfl⟩ (fun qy M2 H locs hp hM hS => ?_)
            obtain ⟨eM2, hqy⟩ := hp
            rw [eM2] at hM
            rw [V6] at hqy
            refine lv_if_eq (tgt := 120) hx hb dX4_addPoint_110 (by decide) (fun hz6 => ?_) (fun hz6 => ?_)
            · have hr1 : rs ≠ 0 := by
                rcases hqy with ⟨h1, h2⟩ | ⟨h1, h2⟩
                · rw [h1] at hz6; exact absurd hz6 (by decide)
                · omega
              have frs1 : fz k Y * (fz k z * fz k z * fz k z) - fz k y ≠ 0 := fun w => hr1 ((fz_z b6).mp (by rw [frs]; exact w))
              refine lv_aload_n hx hb dX4_addPoint_120 rfl (lv_at hl 0 rfl) ?_
              refine r_Vv (As := []) (rest := []) C hM hS (c_addAtSameX l D kA N0 M0 M1 h L (k + 1) x y z oy (hg.less (gs_less (by simp [gsl]))) hpp hL0 hL) (hrn) rfl gX4_addPoint_X4_addAtSameX rfl rfl rfl ⟨rfl, by decide +kernel, by decide +kernel, (by decide +kernel : (parseMethodDescriptor yX4_addAtSameX.desc).map (fun d => d.parameters.length) = some 0)⟩ ⟨Nat.le_of_ble_eq_true rfl, Nat.le_of_ble_eq_true rfl⟩ hl.1 rfl (Nat.le_of_ble_eq_true rfl) dX4_addPoint_121 ⟨Nat.le_of_ble_eq_true rfl, Nat.le_of_ble_eq_true rfl⟩ (fun M3 H locs hp hM hS => ?_)
              have hsum : fz k ((oy + y) % (k + 1)) = fz k Y * (fz k z * fz k z * fz k z) + fz k y := by rw [fz_add, foy]
              refine r_vret C hM hS ?_ dX4_addPoint_124
              rcases hp with ⟨h1, hg3⟩ | ⟨h1, hg3⟩
              · exact Or.inl ⟨z, hg3.less (gs_less (by simp [gsl])), JS1 (J_opp0 hJ frn0 (by rw [← hsum, h1]; rfl))⟩
              · exact Or.inr ⟨x, y, 0, hg3, J_opp1 hk hJ hr9 hon frn0 frs1 (fun w => h1 ((fz_z (Nat.mod_lt _ hpp)).mp (by rw [hsum]; exact w)))⟩
            · have hr1 : rs = 0 := by
                rcases hqy with ⟨h1, h2⟩ | ⟨h1, h2⟩
                · exact h2
                · exact absurd h1 hz6
              have frs0 : fz k Y * (fz k z * fz k z * fz k z) - fz k y = 0 := by rw [← frs, hr1]; rfl
              refine lv_aload_n hx hb dX4_addPoint_113 rfl (lv_at hl 0 rfl) ?_
              refine r_Vv (As := []) (rest := []) C hM hS (c_addItselfJ l D kA N0 M0 M1 h L k A r (Or.inr ⟨x, y, z, hg.less (gs_less (by simp [gsl])), hJ⟩) hA hAb hodd hL) (hrn) rfl gX4_addPoint_X4_addItself rfl rfl rfl ⟨rfl, by decide +kernel, by decide +kernel, (by decide +kernel : (parseMethodDescriptor yX4_addItself.desc).map (fun d => d.parameters.length) = some 0)⟩ ⟨Nat.le_of_ble_eq_true rfl, Nat.le_of_ble_eq_true rfl⟩ hl.1 rfl (Nat.le_of_ble_eq_true rfl) dX4_addPoint_114 ⟨Nat.le_of_ble_eq_true rfl, Nat.le_of_ble_eq_true rfl⟩ (fun M3 H locs hp hM hS => ?_)
              refine lv_goto (tgt := 124) hx hb dX4_addPoint_117 (by decide) ?_
              refine r_vret C hM hS ?_ dX4_addPoint_124
              rw [J_same hJ frn0 frs0]
              exact hp
          · have hr0 : rn ≠ 0 := by
              rcases hqz with ⟨h1, h2⟩ | ⟨h1, h2⟩
              · rw [h1] at hz5; exact absurd hz5 (by decide)
              · omega
            refine lv_aload_n hx hb dX4_addPoint_96 rfl (lv_at hl 0 rfl) ?_
            refine r_Vv (As := []) (rest := []) C hM hS (c_addAlongChord l D kA N0 M0 M1 h L (k + 1) x y z rn rs (hg.less (gs_less (by simp [gsl]))) hpp hL) (hrn) rfl gX4_addPoint_X4_addAlongChord rfl rfl rfl ⟨rfl, by decide +kernel, by decide +kernel, (by decide +kernel : (parseMethodDescriptor yX4_addAlongChord.desc).map (fun d => d.parameters.length) = some 0)⟩ ⟨Nat.le_of_ble_eq_true rfl, Nat.le_of_ble_eq_true rfl⟩ hl.1 rfl (Nat.le_of_ble_eq_true rfl) dX4_addPoint_97 ⟨Nat.le_of_ble_eq_true rfl, Nat.le_of_ble_eq_true rfl⟩ (fun M3 H locs hp hM hS => ?_)
            obtain ⟨x', y', z', hg3, hd3⟩ := hp
            refine lv_goto (tgt := 124) hx hb dX4_addPoint_100 (by decide) ?_
            refine r_vret C hM hS (Or.inr ⟨x', y', z', hg3, J_chd hJ frn frs (fun w => hr0 ((fz_z b5).mp w)) hd3⟩) dX4_addPoint_124
        · omega
      · omega
end RUN3
