theorem in_X5_addPts_X5 : ∀ w ∈ wsX50, w ∈ wsX5_addPts := by decide +kernel
theorem in_X5_negate_X5 : ∀ w ∈ wsX50, w ∈ wsX5_negate := by decide +kernel
theorem in_X5_scalarMul_X5 : ∀ w ∈ wsX50, w ∈ wsX5_scalarMul := by decide +kernel
theorem in_X5_state_X5 : ∀ w ∈ wsX50, w ∈ wsX5_state := by decide +kernel
theorem in_X5_writeRunningSum_X5 : ∀ w ∈ wsX50, w ∈ wsX5_writeRunningSum := by decide +kernel
theorem RJ.fr {kA : Nat → ClassId} {M0 M : xM} {h L k : Nat} {r : Option (Pt k)} (hj : RJ kA M0 M h L k r) : ∀ b, b < h + 49 ∨ h + 70 < b ∨ (h + 58 ≤ b ∧ b ≤ h + 60) → M b = M0 b := by
  rcases hj with ⟨z, hg, -⟩ | ⟨x, y, z, hg, -⟩
  · exact hg.fr
  · exact hg.fr
theorem RJ.rn {kA : Nat → ClassId} {M0 M : xM} {h L k : Nat} {r : Option (Pt k)} (hj : RJ kA M0 M h L k r) : ∃ dd, M (h + 61) = some (oRn h dd) := by
  rcases hj with ⟨z, hg, -⟩ | ⟨x, y, z, hg, -⟩
  · exact ⟨_, hg.rn⟩
  · exact ⟨_, hg.rn⟩
theorem Ds.chg {kA : Nat → ClassId} {M M1 : xM} {h L sl pp : Nat} (d : Ds kA M h L sl pp) (ho : Rk kA M1 (h + 40) L) (h59 : isA kA M1 (h + 59) L) (h71 : isA kA M1 (h + 71) L) (h72 : isA kA M1 (h + 72) L) (hf : ∀ b, h + 49 ≤ b → b ≤ h + 75 → b ≠ h + 59 → b ≠ h + 71 → b ≠ h + 72 → M1 b = M b) : Ds kA M1 h L sl pp := by
  obtain ⟨-, ⟨⟨w1, w2, g0⟩, g1, g2, g3, g4, g5, g6, g7, g8⟩, c0, c1, c2, ⟨rd, r0⟩, rr, lf, rt, ⟨sd, s0⟩, s1, s2, rs⟩ := d
  have hf2 : ∀ b, h + 49 ≤ b → b ≤ h + 58 → M1 b = M b := fun b h1 h2 => hf b h1 (by omega) (by omega) (by omega) (by omega)
  have hf3 : ∀ b, h + 60 ≤ b → b ≤ h + 70 → M1 b = M b := fun b h1 h2 => hf b (by omega) (by omega) (by omega) (by omega) (by omega)
  have hf4 : ∀ b, h + 73 ≤ b → b ≤ h + 75 → M1 b = M b := fun b h1 h2 => hf b (by omega) (by omega) (by omega) (by omega) (by omega)
  exact ⟨ho, ⟨⟨w1, w2, by rw [hf2 _ (by omega) (by omega)]; exact g0⟩, g1.kept (hf2 _ (by omega) (by omega)), g2.kept (hf2 _ (by omega) (by omega)), g3.kept (hf2 _ (by omega) (by omega)), g4.kept (hf2 _ (by omega) (by omega)), g5.kept (hf2 _ (by omega) (by omega)), g6.kept (hf2 _ (by omega) (by omega)), g7.kept (hf2 _ (by omega) (by omega)), g8.kept (hf2 _ (by omega) (by omega))⟩, by rw [hf2 _ (by omega) (by omega)]; exact c0, h59, c2.kept (hf3 _ (by omega) (by omega)), ⟨rd, by rw [hf3 _ (by omega) (by omega)]; exact r0⟩, fun j hj => (rr j hj).kept (hf3 _ (by omega) (by omega)), h71, h72, ⟨sd, by rw [hf4 _ (by omega) (by omega)]; exact s0⟩, s1.kept (hf4 _ (by omega) (by omega)), s2.kept (hf4 _ (by omega) (by omega)), fun q => (rs q).kept (hf2 _ (by omega) (by omega)) (hf2 _ (by omega) (by omega)) (hf2 _ (by omega) (by omega))⟩
theorem Rk.kept {kA : Nat → ClassId} {M M1 : xM} {r L : Nat} (d : Rk kA M r L) (hf : ∀ b, r ≤ b → b ≤ r + 8 → M1 b = M b) : Rk kA M1 r L := by
  obtain ⟨⟨w1, w2, g0⟩, g1, g2, g3, g4, g5, g6, g7, g8⟩ := d
  exact ⟨⟨w1, w2, by rw [hf _ (by omega) (by omega)]; exact g0⟩, g1.kept (hf _ (by omega) (by omega)), g2.kept (hf _ (by omega) (by omega)), g3.kept (hf _ (by omega) (by omega)), g4.kept (hf _ (by omega) (by omega)), g5.kept (hf _ (by omega) (by omega)), g6.kept (hf _ (by omega) (by omega)), g7.kept (hf _ (by omega) (by omega)), g8.kept (hf _ (by omega) (by omega))⟩
section SUM
variable {p : Program} {l : Launch} {e : Env} {R : Room} {s : State} {m : MethodId} {args : Array Value} {below : List Frame} {meth : Method} {c : Code} {Q : State → Prop} {cells slots : Nat} {ret : Option FieldType} {D : va_G} {kA : Nat → ClassId} {N0 : Nat}
set_option maxRecDepth 100000 in
theorem c_state (l : Launch) (D : va_G) (kA : Nat → ClassId) (N0 : Nat) (M : xM) (h : Nat) (S : St) (x : Int32) (dk : Dk kA M h S) : cI l yX5_state wsX5_state (xR 0) [.ref h, .int x] D kA N0 M (fun v M1 => v = spState S x ∧ M1 = M) := by
  obtain ⟨hsi, d, ds⟩ := dk
  have hob := d.ob
  have hsl := hsi.sl
  refine r_met (cc := cX5_state) (maxL := 2) (ret := (some .int)) (by decide) rfl (Nat.le_of_ble_eq_true rfl) ?_
  intro p e s m below meth c ls C hM hnm hl
  obtain ⟨hx, hb, hml, hown, hts, hr, hlocks, hK, hN⟩ := _root_.id C
  have hS : va_S (xA N0) s.heap s.heap [] := va_S.rf
  have hl : lv_has ls 2 [(0, .ref h), (1, .int x)] := hl
  refine lv_iload_n hx hb dX5_state_0 rfl (lv_at hl 1 rfl) ?_
  by_cases hq : x.toInt < 0 ∨ 3 < x.toInt
  · refine lv_tableOut (tgt := 60) hx hb dX5_state_1 hq (by decide) ?_
    have hx0 : ∀ n : Int32, 0 ≤ n.toInt → n.toInt ≤ 3 → x ≠ n := fun n h1 h2 q => by rw [q] at hq; omega
    have hs9 : (-1 : Int32) = spState S x := by
      unfold spState
      rw [if_neg (hx0 0 (by decide) (by decide)), if_neg (hx0 1 (by decide) (by decide)), if_neg (hx0 2 (by decide) (by decide)), if_neg (hx0 3 (by decide) (by decide))]
    refine lv_iconst (v := (-1)) hx hb dX5_state_60 (by decide) ?_
    exact r_iret C hM hS (⟨hs9, rfl⟩) dX5_state_61
  · have hxe := ix_eq (x := x) (by omega)
    have hxi := ix_int (x := x) (by omega)
    have h4 : ix x = 0 ∨ ix x = 1 ∨ ix x = 2 ∨ ix x = 3 := by omega
    rcases h4 with h4 | h4 | h4 | h4
    · rw [h4] at hxe
      subst hxe
      refine lv_tableIn (tgt := 32) (off := 31) hx hb dX5_state_1 (by decide) (by decide) (by decide) (by decide) ?_
      refine lv_aload_n hx hb dX5_state_32 rfl (lv_at hl 0 rfl) ?_
      refine x_get (v := .int (nI S.L)) hx hb hts in_X5_state_X5 hown hK hM (hob) rfl 0 (by decide) (hts (.fieldLink RX5 18 "LimbCurves" "limbs" "I") (by decide +kernel)) (fun _ h9 => h9) rfl dX5_state_33 ?_
      exact r_iret C hM hS (⟨rfl, rfl⟩) dX5_state_36
    · rw [h4] at hxe
      subst hxe
      refine lv_tableIn (tgt := 37) (off := 36) hx hb dX5_state_1 (by decide) (by decide) (by decide) (by decide) ?_
      have hs9 : spState S (nI 1) = nI S.sealed := rfl
      rw [hs9]
      refine lv_aload_n hx hb dX5_state_37 rfl (lv_at hl 0 rfl) ?_
      refine x_get (v := .int (nI S.sealed)) hx hb hts in_X5_state_X5 hown hK hM (hob) rfl 10 (by decide) (hts (.fieldLink RX5 75 "LimbCurves" "sealed" "Z") (by decide +kernel)) (fun _ h9 => h9) rfl dX5_state_38 ?_
      refine r_if_eqN (tgt := 48) C (by omega) dX5_state_41 (by decide) (fun hc => ?_) (fun hc => ?_)
      · refine lv_iconst (v := nI 0) hx hb dX5_state_48 (by decide) ?_
        exact r_iret C hM hS (⟨by rw [hc], rfl⟩) dX5_state_49
      · have h9 : S.sealed = 1 := by omega
        refine lv_iconst (v := nI 1) hx hb dX5_state_44 (by decide) ?_
        refine lv_goto (tgt := 49) hx hb dX5_state_45 (by decide) ?_
        exact r_iret C hM hS (⟨by rw [h9], rfl⟩) dX5_state_49
    · rw [h4] at hxe
      subst hxe
      refine lv_tableIn (tgt := 50) (off := 49) hx hb dX5_state_1 (by decide) (by decide) (by decide) (by decide) ?_
      refine lv_aload_n hx hb dX5_state_50 rfl (lv_at hl 0 rfl) ?_
      refine x_get (v := .int (fedV S)) hx hb hts in_X5_state_X5 hown hK hM (hob) rfl 11 (by decide) (hts (.fieldLink RX5 79 "LimbCurves" "fedSlot" "I") (by decide +kernel)) (fun _ h9 => h9) rfl dX5_state_51 ?_
      exact r_iret C hM hS (⟨rfl, rfl⟩) dX5_state_54
    · rw [h4] at hxe
      subst hxe
      refine lv_tableIn (tgt := 55) (off := 54) hx hb dX5_state_1 (by decide) (by decide) (by decide) (by decide) ?_
      refine lv_aload_n hx hb dX5_state_55 rfl (lv_at hl 0 rfl) ?_
      refine x_get (v := .int (nI S.fl)) hx hb hts in_X5_state_X5 hown hK hM (hob) rfl 12 (by decide) (hts (.fieldLink RX5 82 "LimbCurves" "fedLimbs" "I") (by decide +kernel)) (fun _ h9 => h9) rfl dX5_state_56 ?_
      exact r_iret C hM hS (⟨rfl, rfl⟩) dX5_state_59
set_option maxRecDepth 100000 in
theorem c_writeRunningSum (l : Launch) (D : va_G) (kA : Nat → ClassId) (N0 : Nat) (M0 M : xM) (h sl : Nat) (S : St) (r : Option (Pt (kp S))) (hsi : Si S) (hs1 : S.sealed = 1) (d : Dc kA M0 h S) (ds : Ds kA M0 h S.L 1 (S.a 0)) (hj : RJ kA M0 M h S.L (kp S) r) (h4 : 4 ≤ sl) (hs : sl < 12) : cI l yX5_writeRunningSum wsX5_writeRunningSum (xR 5) [.ref h, .int (nI sl)] D kA N0 M (fun v M1 => v = (wrp S sl r).1 ∧ Dk kA M1 h (wrp S sl r).2 ∧ ∀ b, b < h ∨ h + 75 < b → M1 b = M b) := by
  have hsi' := Si_wrp hsi hs1 h4 r
  have hfr := hj.fr
  have d1 : Dc kA M h S := d.kept (fun b b1 b2 => hfr b (by omega))
  have hob := d1.ob
  have hL0 := hsi.L1
  have hL9 := hsi.L9
  have hk : kp S + 1 = S.a 0 := by have := (hsi.sg hs1).2.1; show S.a 0 - 1 + 1 = S.a 0; omega
  obtain ⟨rd, hrn⟩ := hj.rn
  refine r_met (cc := cX5_writeRunningSum) (maxL := 2) (ret := (some .boolean)) (by decide) rfl (Nat.le_of_ble_eq_true rfl) ?_
  intro p e s m below meth c ls C hM hnm hl
  obtain ⟨hx, hb, hml, hown, hts, hr, hlocks, hK, hN⟩ := _root_.id C
  have hS : va_S (xA N0) s.heap s.heap [] := va_S.rf
  have hl : lv_has ls 2 [(0, .ref h), (1, .int (nI sl))] := hl
  refine lv_aload_n hx hb dX5_writeRunningSum_0 rfl (lv_at hl 0 rfl) ?_
  refine x_get (v := .ref (h + 61)) hx hb hts in_X5_writeRunningSum_X5 hown hK hM (hob) rfl 6 (by decide) (hts (.fieldLink RX5 60 "LimbCurves" "running" "LLimbCurves$RunningSum;") (by decide +kernel)) (fun _ h9 => h9) rfl dX5_writeRunningSum_1 ?_
  refine lv_aload_n hx hb dX5_writeRunningSum_4 rfl (lv_at hl 0 rfl) ?_
  refine lv_iload_n hx hb dX5_writeRunningSum_5 rfl (lv_at hl 1 rfl) ?_
  refine r_VrQ (As := [.int (nI sl)]) (rest := [.ref (h + 61)]) C hM hS (c_pointIn l D kA N0 M h sl S d1 h4 hs) (hob) rfl gX5_writeRunningSum_X5_pointIn rfl rfl rfl ⟨rfl, by decide +kernel, by decide +kernel, (by decide +kernel : (parseMethodDescriptor yX5_pointIn.desc).map (fun d => d.parameters.length) = some 1)⟩ ⟨Nat.le_of_ble_eq_true rfl, Nat.le_of_ble_eq_true rfl⟩ hl.1 rfl (Nat.le_of_ble_eq_true rfl) dX5_writeRunningSum_6 ⟨Nat.le_of_ble_eq_true rfl, Nat.le_of_ble_eq_true rfl⟩ (fun ra M3 H locs hp hM hS => ?_)
  obtain ⟨eM3, era⟩ := hp
  have eM3 : M3 = M := eM3
  have era : ra = (h + 7 + 3 * (sl - 4)) := era
  rw [eM3] at hM
  rw [era]
  have hpo := d1.po h4 hs
  refine r_Vi (As := [.ref (h + 7 + 3 * (sl - 4))]) (rest := []) C hM hS (c_writeTo l D kA N0 M0 M h S.L (kp S) ((h + 7 + 3 * (sl - 4))) (nI (1 - S.pr sl)) r hj hpo.1 hpo.2.1.isA hpo.2.2.isA (by omega) (by omega) (by omega)) (hrn) rfl gX5_writeRunningSum_X4_writeTo rfl rfl rfl ⟨rfl, by decide +kernel, by decide +kernel, (by decide +kernel : (parseMethodDescriptor yX4_writeTo.desc).map (fun d => d.parameters.length) = some 1)⟩ ⟨Nat.le_of_ble_eq_true rfl, Nat.le_of_ble_eq_true rfl⟩ hl.1 rfl (Nat.le_of_ble_eq_true rfl) dX5_writeRunningSum_9 ⟨Nat.le_of_ble_eq_true rfl, Nat.le_of_ble_eq_true rfl⟩ (fun v M4 H locs hp hM hS => ?_)
  obtain ⟨⟨gs, id, hg4⟩, hf4, hv⟩ := hp
  rw [hk] at hg4
  have hfs : ∀ b, h + 40 ≤ b → b ≤ h + 75 → b < h + 49 ∨ h + 70 < b ∨ (h + 58 ≤ b ∧ b ≤ h + 60) → M4 b = M0 b := fun b b1 b2 b3 => by rw [hf4 b b3 (by omega), hfr b b3]
  have ds4 : Ds kA M4 h S.L 1 (S.a 0) := by
    obtain ⟨-, -, -, -, -, -, -, -, -, ⟨sd, s0⟩, s1, s2, -⟩ := _root_.id ds
    exact ds.ofRG hg4 (fun b b1 b2 b3 => hfs b b1 (by omega) b3) ⟨sd, by rw [hfs _ (by omega) (by omega) (by omega)]; exact s0⟩ (s1.kept (hfs _ (by omega) (by omega) (by omega))) (s2.kept (hfs _ (by omega) (by omega) (by omega)))
  rcases hv with ⟨ev, er, hq⟩ | ⟨ev, P, er, hP⟩
  · rw [ev]
    have d4 : Dc kA M4 h S := d1.kept (fun b b1 b2 => by
      by_cases e1 : b < (h + 7 + 3 * (sl - 4)) ∨ (h + 7 + 3 * (sl - 4)) + 2 < b
      · exact hf4 b (by omega) e1
      · exact hq b (by omega) (by omega))
    rw [er]
    refine lv_if_ne (tgt := 17) hx hb dX5_writeRunningSum_12 (by decide) (fun hc => ?_) (fun hc => ?_)
    · exact absurd rfl hc
    · have hpost : (nI 0 : Int32) = (wrp S sl (none : Option (Pt (kp S)))).1 ∧ Dk kA M4 h (wrp S sl (none : Option (Pt (kp S)))).2 ∧ ∀ b, b < h ∨ h + 75 < b → M4 b = M b := ⟨rfl, ⟨hsi, d4, by rw [show (wrp S sl (none : Option (Pt (kp S)))).2 = S from rfl, hs1]; exact ds4⟩, fun b hb => hf4 b (by omega) (by omega)⟩
      refine lv_iconst (v := nI 0) hx hb dX5_writeRunningSum_15 (by decide) ?_
      exact r_zret C hM hS rfl (hpost) dX5_writeRunningSum_16
  · rw [ev]
    have d4 : Dc kA M4 h (wp S sl P) := by
      cases P with
      | none => exact d1.wrP (r := 0) h4 hs hP.1 hP.2.1 hP.2.2 (fun b b1 b2 b3 => hf4 b (by omega) b3)
      | some P => obtain ⟨X, Y⟩ := P; exact d1.wrP (r := 1) h4 hs hP.1 hP.2.1 hP.2.2 (fun b b1 b2 b3 => hf4 b (by omega) b3)
    have hob4 := d4.ob
    have hwL : (wp S sl P).L = S.L ∧ (wp S sl P).sealed = S.sealed ∧ (wp S sl P).fed = S.fed ∧ (wp S sl P).a 0 = S.a 0 := by
      cases P with
      | none => exact ⟨rfl, rfl, rfl, un_n (by omega)⟩
      | some P => obtain ⟨X, Y⟩ := P; exact ⟨rfl, rfl, rfl, un_n (by omega)⟩
    rw [er] at hsi' ⊢
    refine lv_if_ne (tgt := 17) hx hb dX5_writeRunningSum_12 (by decide) (fun hc => ?_) (fun hc => ?_)
    · refine lv_aload_n hx hb dX5_writeRunningSum_17 rfl (lv_at hl 0 rfl) ?_
      refine lv_iload_n hx hb dX5_writeRunningSum_18 rfl (lv_at hl 1 rfl) ?_
      refine r_Vv (As := [.int (nI sl)]) (rest := []) C hM hS (c_endFeeding l D kA N0 M4 h sl (wp S sl P) d4 (by omega)) (hob4) rfl gX5_writeRunningSum_X5_endFeeding rfl rfl rfl ⟨rfl, by decide +kernel, by decide +kernel, (by decide +kernel : (parseMethodDescriptor yX5_endFeeding.desc).map (fun d => d.parameters.length) = some 1)⟩ ⟨Nat.le_of_ble_eq_true rfl, Nat.le_of_ble_eq_true rfl⟩ hl.1 rfl (Nat.le_of_ble_eq_true rfl) dX5_writeRunningSum_19 ⟨Nat.le_of_ble_eq_true rfl, Nat.le_of_ble_eq_true rfl⟩ (fun M5 H locs hp hM hS => ?_)
      obtain ⟨d5, hf5⟩ := hp
      have hwE : (endf (wp S sl P) sl).L = S.L ∧ (endf (wp S sl P) sl).sealed = 1 ∧ (endf (wp S sl P) sl).a 0 = S.a 0 := by
        by_cases q : (wp S sl P).fed = sl
        · rw [endf_y q]; exact ⟨hwL.1, by rw [mk_sl, hwL.2.1, hs1], hwL.2.2.2⟩
        · rw [endf_n q]; exact ⟨hwL.1, by rw [hwL.2.1, hs1], hwL.2.2.2⟩
      have hpost : (nI 1 : Int32) = (wrp S sl (some P)).1 ∧ Dk kA M5 h (wrp S sl (some P)).2 ∧ ∀ b, b < h ∨ h + 75 < b → M5 b = M b := by
        refine ⟨rfl, ⟨hsi', d5, ?_⟩, fun b hb => by rw [hf5 b (by omega)]; exact hf4 b (by omega) (by omega)⟩
        show Ds kA M5 h (endf (wp S sl P) sl).L (endf (wp S sl P) sl).sealed ((endf (wp S sl P) sl).a 0)
        rw [hwE.1, hwE.2.1, hwE.2.2]
        exact ds4.kept (fun b b1 b2 => hf5 b (by omega))
      refine lv_iconst (v := nI 1) hx hb dX5_writeRunningSum_22 (by decide) ?_
      exact r_zret C hM hS rfl (hpost) dX5_writeRunningSum_23
    · exact absurd hc (by decide)
theorem wrp_nar {k : Nat} {S : St} {s : Nat} (r : Option (Pt k)) : narrow .boolean (.int (wrp S s r).1) = .int (wrp S s r).1 := by
  cases r with
  | none =>
    show narrow .boolean (.int 0) = .int 0
    rfl
  | some P =>
    show narrow .boolean (.int 1) = .int 1
    rfl
theorem addR_1 {k : Nat} {A : Zp k} {P : Pt k} : addR A P (some none) = some P := by
  show psum A none P = some P
  exact psum_none P
set_option maxRecDepth 100000 in
theorem c_addPts (l : Launch) (D : va_G) (kA : Nat → ClassId) (N0 : Nat) (M : xM) (h : Nat) (S : St) (a x y : Int32) (dk : Dk kA M h S) : cI l yX5_addPts wsX5_addPts (xR 6) [.ref h, .int a, .int x, .int y] D kA N0 M (fun v M1 => v = (spAdd S a x y).1 ∧ Dk kA M1 h (spAdd S a x y).2 ∧ ∀ b, b < h ∨ h + 75 < b → M1 b = M b) := by
  have dk0 := dk
  obtain ⟨hsi, d, ds⟩ := dk
  have hob := d.ob
  have hL0 := hsi.L1
  have hL9 := hsi.L9
  have hno : ∀ (v : Int32) (M1 : xM), Dk kA M1 h S → (∀ b, b < h ∨ h + 75 < b → M1 b = M b) → ¬ (isPo a ∧ good S x ∧ good S y) → v = 0 → v = (spAdd S a x y).1 ∧ Dk kA M1 h (spAdd S a x y).2 ∧ ∀ b, b < h ∨ h + 75 < b → M1 b = M b := fun v M1 k1 k2 q ev => by
    unfold spAdd
    rw [if_neg q]
    exact ⟨ev, k1, k2⟩
  refine r_met (cc := cX5_addPts) (maxL := 4) (ret := (some .boolean)) (by decide) rfl (Nat.le_of_ble_eq_true rfl) ?_
  intro p e s m below meth c ls C hM hnm hl
  obtain ⟨hx, hb, hml, hown, hts, hr, hlocks, hK, hN⟩ := _root_.id C
  have hS : va_S (xA N0) s.heap s.heap [] := va_S.rf
  have hl : lv_has ls 4 [(0, .ref h), (1, .int a), (2, .int x), (3, .int y)] := hl
  refine lv_iload_n hx hb dX5_addPts_0 rfl (lv_at hl 1 rfl) ?_
  refine r_Si (As := [.int a]) (rest := []) C hM hS (c_isPoint l D kA N0 M a) gX5_addPts_X5_isPoint rfl rfl rfl ⟨by decide +kernel, by decide +kernel, (by decide +kernel : (parseMethodDescriptor yX5_isPoint.desc).map (fun d => d.parameters.length) = some 1)⟩ ⟨Nat.le_of_ble_eq_true rfl, Nat.le_of_ble_eq_true rfl⟩ hl.1 rfl (Nat.le_of_ble_eq_true rfl) dX5_addPts_1 ⟨Nat.le_of_ble_eq_true rfl, Nat.le_of_ble_eq_true rfl⟩ (fun v M1 H locs hp hM hS => ?_)
  obtain ⟨eM, hv⟩ := hp
  rw [eM] at hM
  refine lv_if_eq (tgt := 23) hx hb dX5_addPts_4 (by decide) (fun hc1 => ?_) (fun hc1 => ?_)
  · have hn : ¬ isPo a := by
      rcases hv with ⟨h1, h2⟩ | ⟨h1, h2⟩
      · rw [h1] at hc1; exact absurd hc1 (by decide)
      · exact h2
    refine lv_iconst (v := nI 0) hx hb dX5_addPts_23 (by decide) ?_
    exact r_zret C hM hS rfl (hno _ M dk0 (fun _ _ => rfl) (fun q => hn q.1) rfl) dX5_addPts_24
  · have hn : isPo a := by
      rcases hv with ⟨h1, h2⟩ | ⟨h1, h2⟩
      · exact h2
      · exact absurd h1 hc1
    refine lv_aload_n hx hb dX5_addPts_7 rfl (lv_at hl 0 rfl) ?_
    refine lv_iload_n hx hb dX5_addPts_8 rfl (lv_at hl 2 rfl) ?_
    refine r_Vi (As := [.int x]) (rest := []) C hM hS (c_onCurve l D kA N0 M h S x dk0) (hob) rfl gX5_addPts_X5_onCurve rfl rfl rfl ⟨rfl, by decide +kernel, by decide +kernel, (by decide +kernel : (parseMethodDescriptor yX5_onCurve.desc).map (fun d => d.parameters.length) = some 1)⟩ ⟨Nat.le_of_ble_eq_true rfl, Nat.le_of_ble_eq_true rfl⟩ hl.1 rfl (Nat.le_of_ble_eq_true rfl) dX5_addPts_9 ⟨Nat.le_of_ble_eq_true rfl, Nat.le_of_ble_eq_true rfl⟩ (fun v2 M2 H locs hp hM hS => ?_)
    obtain ⟨hv2, dk2, hf2⟩ := hp
    have hob2 := dk2.2.1.ob
    refine lv_if_eq (tgt := 23) hx hb dX5_addPts_12 (by decide) (fun hc2 => ?_) (fun hc2 => ?_)
    · have hn2 : ¬ good S x := by
        rcases hv2 with ⟨h1, h2⟩ | ⟨h1, h2⟩
        · rw [h1] at hc2; exact absurd hc2 (by decide)
        · exact h2
      refine lv_iconst (v := nI 0) hx hb dX5_addPts_23 (by decide) ?_
      exact r_zret C hM hS rfl (hno _ M2 dk2 (fun b hb => hf2 b (by omega)) (fun q => hn2 q.2.1) rfl) dX5_addPts_24
    · have hgx : good S x := by
        rcases hv2 with ⟨h1, h2⟩ | ⟨h1, h2⟩
        · exact h2
        · exact absurd h1 hc2
      refine lv_aload_n hx hb dX5_addPts_15 rfl (lv_at hl 0 rfl) ?_
      refine lv_iload_n hx hb dX5_addPts_16 rfl (lv_at hl 3 rfl) ?_
      refine r_Vi (As := [.int y]) (rest := []) C hM hS (c_onCurve l D kA N0 M2 h S y dk2) (hob2) rfl gX5_addPts_X5_onCurve rfl rfl rfl ⟨rfl, by decide +kernel, by decide +kernel, (by decide +kernel : (parseMethodDescriptor yX5_onCurve.desc).map (fun d => d.parameters.length) = some 1)⟩ ⟨Nat.le_of_ble_eq_true rfl, Nat.le_of_ble_eq_true rfl⟩ hl.1 rfl (Nat.le_of_ble_eq_true rfl) dX5_addPts_17 ⟨Nat.le_of_ble_eq_true rfl, Nat.le_of_ble_eq_true rfl⟩ (fun v3 M3 H locs hp hM hS => ?_)
      obtain ⟨hv3, dk3, hf3⟩ := hp
      obtain ⟨-, d3, ds3⟩ := _root_.id dk3
      have hob3 := d3.ob
      have hfr3 : ∀ b, b < h ∨ h + 75 < b → M3 b = M b := fun b hb => by rw [hf3 b (by omega), hf2 b (by omega)]
      refine lv_if_ne (tgt := 25) hx hb dX5_addPts_20 (by decide) (fun hc3 => ?_) (fun hc3 => ?_)
      · have hgy : good S y := by
          rcases hv3 with ⟨h1, h2⟩ | ⟨h1, h2⟩
          · exact h2
          · exact absurd h1 hc3
        have har := po_ix hn
        have hae := ix_eq (x := a) (by omega)
        have hxr := po_ix hgx.2.1
        have hxe := ix_eq (x := x) (by have := hgx.2.1.1; omega)
        have hyr := po_ix hgy.2.1
        have hye := ix_eq (x := y) (by have := hgy.2.1.1; omega)
        have hl : lv_has ls 4 [(0, .ref h), (1, .int (nI (ix a))), (2, .int (nI (ix x))), (3, .int (nI (ix y)))] := by rw [← hae, ← hxe, ← hye]; exact hl
        have hs1 := hgx.1
        have hgd := hsi.sg hs1
        have hk : kp S + 1 = S.a 0 := by have := hgd.2.1; show S.a 0 - 1 + 1 = S.a 0; omega
        have hk0 : 0 < kp S := by have := hgd.2.1; show 0 < S.a 0 - 1; omega
        have hodd : (kp S + 1) % 2 = 1 := by rw [hk]; exact hgd.1
        have hAb : S.a 1 < kp S + 1 := by rw [hk]; exact hgd.2.2.1
        have hA : isN kA M3 (h + 3) S.L (S.a 1) := d3.pa (s := 1) (by omega)
        rw [hs1] at ds3
        obtain ⟨id, hg⟩ := ds3.rg
        rw [← hk] at hg
        obtain ⟨ptx, onx⟩ := ptS_of d3 (hsi.prb _) hxr.1 hxr.2 (by have := hgd.2.1; omega) hgx.2.2
        obtain ⟨pty, ony⟩ := ptS_of d3 (hsi.prb _) hyr.1 hyr.2 (by have := hgd.2.1; omega) hgy.2.2
        have hrn3 := hg.rn
        refine lv_aload_n hx hb dX5_addPts_25 rfl (lv_at hl 0 rfl) ?_
        refine x_get (v := .ref (h + 61)) hx hb hts in_X5_addPts_X5 hown hK hM (hob3) rfl 6 (by decide) (hts (.fieldLink RX5 60 "LimbCurves" "running" "LLimbCurves$RunningSum;") (by decide +kernel)) (fun _ h9 => h9) rfl dX5_addPts_26 ?_
        refine r_Vv (As := []) (rest := []) C hM hS (c_startAtIdentity l D kA N0 M3 M3 h S.L (kp S + 1) id _ hg (by omega) (by omega) (by omega)) (hrn3) rfl gX5_addPts_X4_startAtIdentity rfl rfl rfl ⟨rfl, by decide +kernel, by decide +kernel, (by decide +kernel : (parseMethodDescriptor yX4_startAtIdentity.desc).map (fun d => d.parameters.length) = some 0)⟩ ⟨Nat.le_of_ble_eq_true rfl, Nat.le_of_ble_eq_true rfl⟩ hl.1 rfl (Nat.le_of_ble_eq_true rfl) dX5_addPts_29 ⟨Nat.le_of_ble_eq_true rfl, Nat.le_of_ble_eq_true rfl⟩ (fun M4 H locs hg4 hM hS => ?_)
        have hj4 : RJ kA M3 M4 h S.L (kp S) (some none) := Or.inl ⟨1, hg4, ⟨(1 : Zp (kp S)), by rw [fz_1]; grind⟩, rfl⟩
        have d4 : Dc kA M4 h S := d3.kept (fun b b1 b2 => hg4.fr b (by omega))
        have hob4 := d4.ob
        have hrn4 := hg4.rn
        refine lv_aload_n hx hb dX5_addPts_32 rfl (lv_at hl 0 rfl) ?_
        refine x_get (v := .ref (h + 61)) hx hb hts in_X5_addPts_X5 hown hK hM (hob4) rfl 6 (by decide) (hts (.fieldLink RX5 60 "LimbCurves" "running" "LLimbCurves$RunningSum;") (by decide +kernel)) (fun _ h9 => h9) rfl dX5_addPts_33 ?_
        refine lv_aload_n hx hb dX5_addPts_36 rfl (lv_at hl 0 rfl) ?_
        refine lv_iload_n hx hb dX5_addPts_37 rfl (lv_at hl 2 rfl) ?_
        refine r_VrQ (As := [.int (nI (ix x))]) (rest := [.ref (h + 61)]) C hM hS (c_pointIn l D kA N0 M4 h (ix x) S d4 hxr.1 hxr.2) (hob4) rfl gX5_addPts_X5_pointIn rfl rfl rfl ⟨rfl, by decide +kernel, by decide +kernel, (by decide +kernel : (parseMethodDescriptor yX5_pointIn.desc).map (fun d => d.parameters.length) = some 1)⟩ ⟨Nat.le_of_ble_eq_true rfl, Nat.le_of_ble_eq_true rfl⟩ hl.1 rfl (Nat.le_of_ble_eq_true rfl) dX5_addPts_38 ⟨Nat.le_of_ble_eq_true rfl, Nat.le_of_ble_eq_true rfl⟩ (fun ra M5 H locs hp hM hS => ?_)
        obtain ⟨eM5, era⟩ := hp
        have eM5 : M5 = M4 := eM5
        have era : ra = (h + 7 + 3 * ((ix x) - 4)) := era
        rw [eM5] at hM
        rw [era]
        refine r_Vv (As := [.ref (h + 7 + 3 * ((ix x) - 4))]) (rest := []) C hM hS (c_addPoint l D kA N0 M3 M4 h S.L (kp S) (S.a 1) (S.a 2) ((h + 7 + 3 * ((ix x) - 4))) (some none) (pt S (ix x)) hj4 hA hAb hodd hk0 ptx onx (fun R hR => by cases hR; trivial) (by omega) (by omega) (by omega)) (hrn4) rfl gX5_addPts_X4_addPoint rfl rfl rfl ⟨rfl, by decide +kernel, by decide +kernel, (by decide +kernel : (parseMethodDescriptor yX4_addPoint.desc).map (fun d => d.parameters.length) = some 1)⟩ ⟨Nat.le_of_ble_eq_true rfl, Nat.le_of_ble_eq_true rfl⟩ hl.1 rfl (Nat.le_of_ble_eq_true rfl) dX5_addPts_41 ⟨Nat.le_of_ble_eq_true rfl, Nat.le_of_ble_eq_true rfl⟩ (fun M6 H locs hj6 hM hS => ?_)
        rw [addR_1] at hj6
        have d6 : Dc kA M6 h S := d3.kept (fun b b1 b2 => hj6.fr b (by omega))
        have hob6 := d6.ob
        obtain ⟨rd6, hrn6⟩ := hj6.rn
        refine lv_aload_n hx hb dX5_addPts_44 rfl (lv_at hl 0 rfl) ?_
        refine x_get (v := .ref (h + 61)) hx hb hts in_X5_addPts_X5 hown hK hM (hob6) rfl 6 (by decide) (hts (.fieldLink RX5 60 "LimbCurves" "running" "LLimbCurves$RunningSum;") (by decide +kernel)) (fun _ h9 => h9) rfl dX5_addPts_45 ?_
        refine lv_aload_n hx hb dX5_addPts_48 rfl (lv_at hl 0 rfl) ?_
        refine lv_iload_n hx hb dX5_addPts_49 rfl (lv_at hl 3 rfl) ?_
        refine r_VrQ (As := [.int (nI (ix y))]) (rest := [.ref (h + 61)]) C hM hS (c_pointIn l D kA N0 M6 h (ix y) S d6 hyr.1 hyr.2) (hob6) rfl gX5_addPts_X5_pointIn rfl rfl rfl ⟨rfl, by decide +kernel, by decide +kernel, (by decide +kernel : (parseMethodDescriptor yX5_pointIn.desc).map (fun d => d.parameters.length) = some 1)⟩ ⟨Nat.le_of_ble_eq_true rfl, Nat.le_of_ble_eq_true rfl⟩ hl.1 rfl (Nat.le_of_ble_eq_true rfl) dX5_addPts_50 ⟨Nat.le_of_ble_eq_true rfl, Nat.le_of_ble_eq_true rfl⟩ (fun rb M7 H locs hp hM hS => ?_)
        obtain ⟨eM7, erb⟩ := hp
        have eM7 : M7 = M6 := eM7
        have erb : rb = (h + 7 + 3 * ((ix y) - 4)) := erb
        rw [eM7] at hM
        rw [erb]
        refine r_Vv (As := [.ref (h + 7 + 3 * ((ix y) - 4))]) (rest := []) C hM hS (c_addPoint l D kA N0 M3 M6 h S.L (kp S) (S.a 1) (S.a 2) ((h + 7 + 3 * ((ix y) - 4))) (some (pt S (ix x))) (pt S (ix y)) hj6 hA hAb hodd hk0 pty ony (fun R hR => by cases hR; exact onx) (by omega) (by omega) (by omega)) (hrn6) rfl gX5_addPts_X4_addPoint rfl rfl rfl ⟨rfl, by decide +kernel, by decide +kernel, (by decide +kernel : (parseMethodDescriptor yX4_addPoint.desc).map (fun d => d.parameters.length) = some 1)⟩ ⟨Nat.le_of_ble_eq_true rfl, Nat.le_of_ble_eq_true rfl⟩ hl.1 rfl (Nat.le_of_ble_eq_true rfl) dX5_addPts_53 ⟨Nat.le_of_ble_eq_true rfl, Nat.le_of_ble_eq_true rfl⟩ (fun M8 H locs hj8 hM hS => ?_)
        have d8 : Dc kA M8 h S := d3.kept (fun b b1 b2 => hj8.fr b (by omega))
        have hob8 := d8.ob
        refine lv_aload_n hx hb dX5_addPts_56 rfl (lv_at hl 0 rfl) ?_
        refine lv_iload_n hx hb dX5_addPts_57 rfl (lv_at hl 1 rfl) ?_
        refine r_Vi (As := [.int (nI (ix a))]) (rest := []) C hM hS (c_writeRunningSum l D kA N0 M3 M8 h (ix a) S _ hsi hs1 d3 ds3 hj8 har.1 har.2) (hob8) rfl gX5_addPts_X5_writeRunningSum rfl rfl rfl ⟨rfl, by decide +kernel, by decide +kernel, (by decide +kernel : (parseMethodDescriptor yX5_writeRunningSum.desc).map (fun d => d.parameters.length) = some 1)⟩ ⟨Nat.le_of_ble_eq_true rfl, Nat.le_of_ble_eq_true rfl⟩ hl.1 rfl (Nat.le_of_ble_eq_true rfl) dX5_addPts_58 ⟨Nat.le_of_ble_eq_true rfl, Nat.le_of_ble_eq_true rfl⟩ (fun v9 M9 H locs hp hM hS => ?_)
        obtain ⟨ev9, dk9, hf9⟩ := hp
        have hsp : spAdd S a x y = wrp S (ix a) (addR (fz (kp S) (S.a 1)) (pt S (ix y)) (some (pt S (ix x)))) := by
          unfold spAdd
          rw [if_pos ⟨hn, hgx, hgy⟩]
          rfl
        rw [hsp]
        have hn9 : narrow .boolean (.int v9) = .int v9 := by
          rw [ev9]
          exact wrp_nar _
        have hfr9 : ∀ b, b < h ∨ h + 75 < b → M9 b = M b := fun b hb => by rw [hf9 b hb, hj8.fr b (by omega)]; exact hfr3 b hb
        exact r_zret C hM hS hn9 (⟨ev9, dk9, hfr9⟩) dX5_addPts_61
      · have hn3 : ¬ good S y := by
          rcases hv3 with ⟨h1, h2⟩ | ⟨h1, h2⟩
          · rw [h1] at hc3; exact absurd hc3 (by decide)
          · exact h2
        refine lv_iconst (v := nI 0) hx hb dX5_addPts_23 (by decide) ?_
        exact r_zret C hM hS rfl (hno _ M3 dk3 hfr3 (fun q => hn3 q.2.2) rfl) dX5_addPts_24
set_option maxRecDepth 100000 in
theorem c_dbl (l : Launch) (D : va_G) (kA : Nat → ClassId) (N0 : Nat) (M : xM) (h : Nat) (S : St) (a x : Int32) (dk : Dk kA M h S) : cI l yX5_dbl wsX5_dbl (xR 7) [.ref h, .int a, .int x] D kA N0 M (fun v M1 => v = (spAdd S a x x).1 ∧ Dk kA M1 h (spAdd S a x x).2 ∧ ∀ b, b < h ∨ h + 75 < b → M1 b = M b) := by
  have hob := dk.2.1.ob
  refine r_met (cc := cX5_dbl) (maxL := 3) (ret := (some .boolean)) (by decide) rfl (Nat.le_of_ble_eq_true rfl) ?_
  intro p e s m below meth c ls C hM hnm hl
  obtain ⟨hx, hb, hml, hown, hts, hr, hlocks, hK, hN⟩ := _root_.id C
  have hS : va_S (xA N0) s.heap s.heap [] := va_S.rf
  have hl : lv_has ls 3 [(0, .ref h), (1, .int a), (2, .int x)] := hl
  refine lv_aload_n hx hb dX5_dbl_0 rfl (lv_at hl 0 rfl) ?_
  refine lv_iload_n hx hb dX5_dbl_1 rfl (lv_at hl 1 rfl) ?_
  refine lv_iload_n hx hb dX5_dbl_2 rfl (lv_at hl 2 rfl) ?_
  refine lv_iload_n hx hb dX5_dbl_3 rfl (lv_at hl 2 rfl) ?_
  refine r_Vi (As := [.int a, .int x, .int x]) (rest := []) C hM hS (c_addPts l D kA N0 M h S a x x dk) (hob) rfl gX5_dbl_X5_addPts rfl rfl rfl ⟨rfl, by decide +kernel, by decide +kernel, (by decide +kernel : (parseMethodDescriptor yX5_addPts.desc).map (fun d => d.parameters.length) = some 3)⟩ ⟨Nat.le_of_ble_eq_true rfl, Nat.le_of_ble_eq_true rfl⟩ hl.1 rfl (Nat.le_of_ble_eq_true rfl) dX5_dbl_4 ⟨Nat.le_of_ble_eq_true rfl, Nat.le_of_ble_eq_true rfl⟩ (fun v M1 H locs hp hM hS => ?_)
  have hn9 : narrow .boolean (.int v) = .int v := by
    rw [hp.1]
    unfold spAdd
    split
    · exact wrp_nar _
    · show narrow .boolean (.int 0) = .int 0
      rfl
  exact r_zret C hM hS hn9 (hp) dX5_dbl_7
set_option maxRecDepth 100000 in
theorem c_scalarMul (l : Launch) (D : va_G) (kA : Nat → ClassId) (N0 : Nat) (M : xM) (h : Nat) (S : St) (a k x : Int32) (dk : Dk kA M h S) : cI l yX5_scalarMul wsX5_scalarMul (xR 6) [.ref h, .int a, .int k, .int x] D kA N0 M (fun v M1 => v = (spMul S a k x).1 ∧ Dk kA M1 h (spMul S a k x).2 ∧ ∀ b, b < h ∨ h + 75 < b → M1 b = M b) := by
  have dk0 := dk
  obtain ⟨hsi, d, ds⟩ := dk
  have hob := d.ob
  have hL0 := hsi.L1
  have hL9 := hsi.L9
  have hno : ∀ (v : Int32) (M1 : xM), Dk kA M1 h S → (∀ b, b < h ∨ h + 75 < b → M1 b = M b) → ¬ (isPo a ∧ isSc k ∧ good S x) → v = 0 → v = (spMul S a k x).1 ∧ Dk kA M1 h (spMul S a k x).2 ∧ ∀ b, b < h ∨ h + 75 < b → M1 b = M b := fun v M1 k1 k2 q ev => by
    unfold spMul
    rw [if_neg q]
    exact ⟨ev, k1, k2⟩
  refine r_met (cc := cX5_scalarMul) (maxL := 4) (ret := (some .boolean)) (by decide) rfl (Nat.le_of_ble_eq_true rfl) ?_
  intro p e s m below meth c ls C hM hnm hl
  obtain ⟨hx, hb, hml, hown, hts, hr, hlocks, hK, hN⟩ := _root_.id C
  have hS : va_S (xA N0) s.heap s.heap [] := va_S.rf
  have hl : lv_has ls 4 [(0, .ref h), (1, .int a), (2, .int k), (3, .int x)] := hl
  refine lv_iload_n hx hb dX5_scalarMul_0 rfl (lv_at hl 1 rfl) ?_
  refine r_Si (As := [.int a]) (rest := []) C hM hS (c_isPoint l D kA N0 M a) gX5_scalarMul_X5_isPoint rfl rfl rfl ⟨by decide +kernel, by decide +kernel, (by decide +kernel : (parseMethodDescriptor yX5_isPoint.desc).map (fun d => d.parameters.length) = some 1)⟩ ⟨Nat.le_of_ble_eq_true rfl, Nat.le_of_ble_eq_true rfl⟩ hl.1 rfl (Nat.le_of_ble_eq_true rfl) dX5_scalarMul_1 ⟨Nat.le_of_ble_eq_true rfl, Nat.le_of_ble_eq_true rfl⟩ (fun v M1 H locs hp hM hS => ?_)
  obtain ⟨eM, hv⟩ := hp
  rw [eM] at hM
  refine lv_if_eq (tgt := 22) hx hb dX5_scalarMul_4 (by decide) (fun hc1 => ?_) (fun hc1 => ?_)
  · have hn : ¬ isPo a := by
      rcases hv with ⟨h1, h2⟩ | ⟨h1, h2⟩
      · rw [h1] at hc1; exact absurd hc1 (by decide)
      · exact h2
    refine lv_iconst (v := nI 0) hx hb dX5_scalarMul_22 (by decide) ?_
    exact r_zret C hM hS rfl (hno _ M dk0 (fun _ _ => rfl) (fun q => hn q.1) rfl) dX5_scalarMul_23
  · have hn : isPo a := by
      rcases hv with ⟨h1, h2⟩ | ⟨h1, h2⟩
      · exact h2
      · exact absurd h1 hc1
    refine lv_iload_n hx hb dX5_scalarMul_7 rfl (lv_at hl 2 rfl) ?_
    refine r_Si (As := [.int k]) (rest := []) C hM hS (c_isScalar l D kA N0 M k) gX5_scalarMul_X5_isScalar rfl rfl rfl ⟨by decide +kernel, by decide +kernel, (by decide +kernel : (parseMethodDescriptor yX5_isScalar.desc).map (fun d => d.parameters.length) = some 1)⟩ ⟨Nat.le_of_ble_eq_true rfl, Nat.le_of_ble_eq_true rfl⟩ hl.1 rfl (Nat.le_of_ble_eq_true rfl) dX5_scalarMul_8 ⟨Nat.le_of_ble_eq_true rfl, Nat.le_of_ble_eq_true rfl⟩ (fun v2 M2 H locs hp hM hS => ?_)
    obtain ⟨eM2, hv2⟩ := hp
    rw [eM2] at hM
    refine lv_if_eq (tgt := 22) hx hb dX5_scalarMul_11 (by decide) (fun hc2 => ?_) (fun hc2 => ?_)
    · have hn2 : ¬ isSc k := by
        rcases hv2 with ⟨h1, h2⟩ | ⟨h1, h2⟩
        · rw [h1] at hc2; exact absurd hc2 (by decide)
        · exact h2
      refine lv_iconst (v := nI 0) hx hb dX5_scalarMul_22 (by decide) ?_
      exact r_zret C hM hS rfl (hno _ M dk0 (fun _ _ => rfl) (fun q => hn2 q.2.1) rfl) dX5_scalarMul_23
    · have hsk : isSc k := by
        rcases hv2 with ⟨h1, h2⟩ | ⟨h1, h2⟩
        · exact h2
        · exact absurd h1 hc2
      refine lv_aload_n hx hb dX5_scalarMul_14 rfl (lv_at hl 0 rfl) ?_
      refine lv_iload_n hx hb dX5_scalarMul_15 rfl (lv_at hl 3 rfl) ?_
      refine r_Vi (As := [.int x]) (rest := []) C hM hS (c_onCurve l D kA N0 M h S x dk0) (hob) rfl gX5_scalarMul_X5_onCurve rfl rfl rfl ⟨rfl, by decide +kernel, by decide +kernel, (by decide +kernel : (parseMethodDescriptor yX5_onCurve.desc).map (fun d => d.parameters.length) = some 1)⟩ ⟨Nat.le_of_ble_eq_true rfl, Nat.le_of_ble_eq_true rfl⟩ hl.1 rfl (Nat.le_of_ble_eq_true rfl) dX5_scalarMul_16 ⟨Nat.le_of_ble_eq_true rfl, Nat.le_of_ble_eq_true rfl⟩ (fun v3 M3 H locs hp hM hS => ?_)
      obtain ⟨hv3, dk3, hf3⟩ := hp
      obtain ⟨-, d3, ds3⟩ := _root_.id dk3
      have hob3 := d3.ob
      have hfr3 : ∀ b, b < h ∨ h + 75 < b → M3 b = M b := fun b hb => hf3 b (by omega)
      refine lv_if_ne (tgt := 24) hx hb dX5_scalarMul_19 (by decide) (fun hc3 => ?_) (fun hc3 => ?_)
      · have hgx : good S x := by
          rcases hv3 with ⟨h1, h2⟩ | ⟨h1, h2⟩
          · exact h2
          · exact absurd h1 hc3
        have har := po_ix hn
        have hae := ix_eq (x := a) (by omega)
        have hxr := po_ix hgx.2.1
        have hxe := ix_eq (x := x) (by have := hgx.2.1.1; omega)
        have hkr := sc_ix hsk
        have hke := ix_eq (x := k) (by omega)
        have hl : lv_has ls 4 [(0, .ref h), (1, .int (nI (ix a))), (2, .int (nI (ix k))), (3, .int (nI (ix x)))] := by rw [← hae, ← hxe, ← hke]; exact hl
        have hs1 := hgx.1
        have hgd := hsi.sg hs1
        have hk : kp S + 1 = S.a 0 := by have := hgd.2.1; show S.a 0 - 1 + 1 = S.a 0; omega
        have hk0 : 0 < kp S := by have := hgd.2.1; show 0 < S.a 0 - 1; omega
        have hodd : (kp S + 1) % 2 = 1 := by rw [hk]; exact hgd.1
        have hAb : S.a 1 < kp S + 1 := by rw [hk]; exact hgd.2.2.1
        have hA : isN kA M3 (h + 3) S.L (S.a 1) := d3.pa (s := 1) (by omega)
        rw [hs1] at ds3
        obtain ⟨id, hg⟩ := ds3.rg
        rw [← hk] at hg
        obtain ⟨ptx, onx⟩ := ptS_of d3 (hsi.prb _) hxr.1 hxr.2 (by have := hgd.2.1; omega) hgx.2.2
        have hrn3 := hg.rn
        refine lv_aload_n hx hb dX5_scalarMul_24 rfl (lv_at hl 0 rfl) ?_
        refine x_get (v := .ref (h + 61)) hx hb hts in_X5_scalarMul_X5 hown hK hM (hob3) rfl 6 (by decide) (hts (.fieldLink RX5 60 "LimbCurves" "running" "LLimbCurves$RunningSum;") (by decide +kernel)) (fun _ h9 => h9) rfl dX5_scalarMul_25 ?_
        refine lv_aload_n hx hb dX5_scalarMul_28 rfl (lv_at hl 0 rfl) ?_
        refine lv_iload_n hx hb dX5_scalarMul_29 rfl (lv_at hl 2 rfl) ?_
        refine r_VrQ (As := [.int (nI (ix k))]) (rest := [.ref (h + 61)]) C hM hS (c_scalarIn l D kA N0 M3 h (ix k) S d3 hkr.1 hkr.2) (hob3) rfl gX5_scalarMul_X5_scalarIn rfl rfl rfl ⟨rfl, by decide +kernel, by decide +kernel, (by decide +kernel : (parseMethodDescriptor yX5_scalarIn.desc).map (fun d => d.parameters.length) = some 1)⟩ ⟨Nat.le_of_ble_eq_true rfl, Nat.le_of_ble_eq_true rfl⟩ hl.1 rfl (Nat.le_of_ble_eq_true rfl) dX5_scalarMul_30 ⟨Nat.le_of_ble_eq_true rfl, Nat.le_of_ble_eq_true rfl⟩ (fun rk M4 H locs hp hM hS => ?_)
        obtain ⟨eM4, erk⟩ := hp
        have eM4 : M4 = M3 := eM4
        have erk : rk = (h + 32 + ((ix k) - 12)) := erk
        rw [eM4] at hM
        rw [erk]
        refine lv_aload_n hx hb dX5_scalarMul_33 rfl (lv_at hl 0 rfl) ?_
        refine lv_iload_n hx hb dX5_scalarMul_34 rfl (lv_at hl 3 rfl) ?_
        refine r_VrQ (As := [.int (nI (ix x))]) (rest := [.ref (h + 32 + ((ix k) - 12)), .ref (h + 61)]) C hM hS (c_pointIn l D kA N0 M3 h (ix x) S d3 hxr.1 hxr.2) (hob3) rfl gX5_scalarMul_X5_pointIn rfl rfl rfl ⟨rfl, by decide +kernel, by decide +kernel, (by decide +kernel : (parseMethodDescriptor yX5_pointIn.desc).map (fun d => d.parameters.length) = some 1)⟩ ⟨Nat.le_of_ble_eq_true rfl, Nat.le_of_ble_eq_true rfl⟩ hl.1 rfl (Nat.le_of_ble_eq_true rfl) dX5_scalarMul_35 ⟨Nat.le_of_ble_eq_true rfl, Nat.le_of_ble_eq_true rfl⟩ (fun ra M5 H locs hp hM hS => ?_)
        obtain ⟨eM5, era⟩ := hp
        have eM5 : M5 = M3 := eM5
        have era : ra = (h + 7 + 3 * ((ix x) - 4)) := era
        rw [eM5] at hM
        rw [era]
        have hka := d3.sc hkr.1 hkr.2
        refine r_Vv (As := [.ref (h + 32 + ((ix k) - 12)), .ref (h + 7 + 3 * ((ix x) - 4))]) (rest := []) C hM hS (c_takeTimes l D kA N0 M3 h S.L (kp S) (S.a 1) (S.a 2) ((h + 7 + 3 * ((ix x) - 4))) ((h + 32 + ((ix k) - 12))) (S.a (ix k)) id _ (pt S (ix x)) hg hA hAb hodd hk0 ptx onx (by omega) hka (by omega) (by omega) (by omega)) (hrn3) rfl gX5_scalarMul_X4_takeTimes rfl rfl rfl ⟨rfl, by decide +kernel, by decide +kernel, (by decide +kernel : (parseMethodDescriptor yX4_takeTimes.desc).map (fun d => d.parameters.length) = some 2)⟩ ⟨Nat.le_of_ble_eq_true rfl, Nat.le_of_ble_eq_true rfl⟩ hl.1 rfl (Nat.le_of_ble_eq_true rfl) dX5_scalarMul_38 ⟨Nat.le_of_ble_eq_true rfl, Nat.le_of_ble_eq_true rfl⟩ (fun M8 H locs hj8 hM hS => ?_)
        have d8 : Dc kA M8 h S := d3.kept (fun b b1 b2 => hj8.fr b (by omega))
        have hob8 := d8.ob
        refine lv_aload_n hx hb dX5_scalarMul_41 rfl (lv_at hl 0 rfl) ?_
        refine lv_iload_n hx hb dX5_scalarMul_42 rfl (lv_at hl 1 rfl) ?_
        refine r_Vi (As := [.int (nI (ix a))]) (rest := []) C hM hS (c_writeRunningSum l D kA N0 M3 M8 h (ix a) S _ hsi hs1 d3 ds3 hj8 har.1 har.2) (hob8) rfl gX5_scalarMul_X5_writeRunningSum rfl rfl rfl ⟨rfl, by decide +kernel, by decide +kernel, (by decide +kernel : (parseMethodDescriptor yX5_writeRunningSum.desc).map (fun d => d.parameters.length) = some 1)⟩ ⟨Nat.le_of_ble_eq_true rfl, Nat.le_of_ble_eq_true rfl⟩ hl.1 rfl (Nat.le_of_ble_eq_true rfl) dX5_scalarMul_43 ⟨Nat.le_of_ble_eq_true rfl, Nat.le_of_ble_eq_true rfl⟩ (fun v9 M9 H locs hp hM hS => ?_)
        obtain ⟨ev9, dk9, hf9⟩ := hp
        have hsp : spMul S a k x = wrp S (ix a) (kT (fz (kp S) (S.a 1)) (pt S (ix x)) (S.a (ix k))) := by
          unfold spMul
          rw [if_pos ⟨hn, hsk, hgx⟩]
        rw [hsp]
        have hn9 : narrow .boolean (.int v9) = .int v9 := by
          rw [ev9]
          exact wrp_nar _
        have hfr9 : ∀ b, b < h ∨ h + 75 < b → M9 b = M b := fun b hb => by rw [hf9 b hb, hj8.fr b (by omega)]; exact hfr3 b hb
        exact r_zret C hM hS hn9 (⟨ev9, dk9, hfr9⟩) dX5_scalarMul_46
      · have hn3 : ¬ good S x := by
          rcases hv3 with ⟨h1, h2⟩ | ⟨h1, h2⟩
          · rw [h1] at hc3; exact absurd hc3 (by decide)
          · exact h2
        refine lv_iconst (v := nI 0) hx hb dX5_scalarMul_22 (by decide) ?_
        exact r_zret C hM hS rfl (hno _ M3 dk3 hfr3 (fun q => hn3 q.2.2) rfl) dX5_scalarMul_23
set_option maxRecDepth 100000 in
theorem c_negate (l : Launch) (D : va_G) (kA : Nat → ClassId) (N0 : Nat) (M : xM) (h : Nat) (S : St) (a x : Int32) (dk : Dk kA M h S) : cI l yX5_negate wsX5_negate (xR 5) [.ref h, .int a, .int x] D kA N0 M (fun v M1 => v = (spNeg S a x).1 ∧ Dk kA M1 h (spNeg S a x).2 ∧ ∀ b, b < h ∨ h + 75 < b → M1 b = M b) := by
  have hsi' := Si_neg dk.1 a x
  have dk0 := dk
  obtain ⟨hsi, d, ds⟩ := dk
  have hob := d.ob
  have hL0 := hsi.L1
  have hL9 := hsi.L9
  have hno : ∀ (v : Int32) (M1 : xM), Dk kA M1 h S → (∀ b, b < h ∨ h + 75 < b → M1 b = M b) → ¬ (isPo a ∧ good S x) → v = 0 → v = (spNeg S a x).1 ∧ Dk kA M1 h (spNeg S a x).2 ∧ ∀ b, b < h ∨ h + 75 < b → M1 b = M b := fun v M1 k1 k2 q ev => by
    unfold spNeg
    rw [if_neg q]
    exact ⟨ev, k1, k2⟩
  refine r_met (cc := cX5_negate) (maxL := 3) (ret := (some .boolean)) (by decide) rfl (Nat.le_of_ble_eq_true rfl) ?_
  intro p e s m below meth c ls C hM hnm hl
  obtain ⟨hx, hb, hml, hown, hts, hr, hlocks, hK, hN⟩ := _root_.id C
  have hS : va_S (xA N0) s.heap s.heap [] := va_S.rf
  have hl : lv_has ls 3 [(0, .ref h), (1, .int a), (2, .int x)] := hl
  refine lv_iload_n hx hb dX5_negate_0 rfl (lv_at hl 1 rfl) ?_
  refine r_Si (As := [.int a]) (rest := []) C hM hS (c_isPoint l D kA N0 M a) gX5_negate_X5_isPoint rfl rfl rfl ⟨by decide +kernel, by decide +kernel, (by decide +kernel : (parseMethodDescriptor yX5_isPoint.desc).map (fun d => d.parameters.length) = some 1)⟩ ⟨Nat.le_of_ble_eq_true rfl, Nat.le_of_ble_eq_true rfl⟩ hl.1 rfl (Nat.le_of_ble_eq_true rfl) dX5_negate_1 ⟨Nat.le_of_ble_eq_true rfl, Nat.le_of_ble_eq_true rfl⟩ (fun v M1 H locs hp hM hS => ?_)
  obtain ⟨eM, hv⟩ := hp
  rw [eM] at hM
  refine lv_if_eq (tgt := 15) hx hb dX5_negate_4 (by decide) (fun hc1 => ?_) (fun hc1 => ?_)
  · have hn : ¬ isPo a := by
      rcases hv with ⟨h1, h2⟩ | ⟨h1, h2⟩
      · rw [h1] at hc1; exact absurd hc1 (by decide)
      · exact h2
    refine lv_iconst (v := nI 0) hx hb dX5_negate_15 (by decide) ?_
    exact r_zret C hM hS rfl (hno _ M dk0 (fun _ _ => rfl) (fun q => hn q.1) rfl) dX5_negate_16
  · have hn : isPo a := by
      rcases hv with ⟨h1, h2⟩ | ⟨h1, h2⟩
      · exact h2
      · exact absurd h1 hc1
    refine lv_aload_n hx hb dX5_negate_7 rfl (lv_at hl 0 rfl) ?_
    refine lv_iload_n hx hb dX5_negate_8 rfl (lv_at hl 2 rfl) ?_
    refine r_Vi (As := [.int x]) (rest := []) C hM hS (c_onCurve l D kA N0 M h S x dk0) (hob) rfl gX5_negate_X5_onCurve rfl rfl rfl ⟨rfl, by decide +kernel, by decide +kernel, (by decide +kernel : (parseMethodDescriptor yX5_onCurve.desc).map (fun d => d.parameters.length) = some 1)⟩ ⟨Nat.le_of_ble_eq_true rfl, Nat.le_of_ble_eq_true rfl⟩ hl.1 rfl (Nat.le_of_ble_eq_true rfl) dX5_negate_9 ⟨Nat.le_of_ble_eq_true rfl, Nat.le_of_ble_eq_true rfl⟩ (fun v3 M3 H locs hp hM hS => ?_)
    obtain ⟨hv3, dk3, hf3⟩ := hp
    obtain ⟨-, d3, ds3⟩ := _root_.id dk3
    have hob3 := d3.ob
    have hfr3 : ∀ b, b < h ∨ h + 75 < b → M3 b = M b := fun b hb => hf3 b (by omega)
    refine lv_if_ne (tgt := 17) hx hb dX5_negate_12 (by decide) (fun hc3 => ?_) (fun hc3 => ?_)
    · have hgx : good S x := by
        rcases hv3 with ⟨h1, h2⟩ | ⟨h1, h2⟩
        · exact h2
        · exact absurd h1 hc3
      have har := po_ix hn
      have hae := ix_eq (x := a) (by omega)
      have hxr := po_ix hgx.2.1
      have hxe := ix_eq (x := x) (by have := hgx.2.1.1; omega)
      have hl : lv_has ls 3 [(0, .ref h), (1, .int (nI (ix a))), (2, .int (nI (ix x)))] := by rw [← hae, ← hxe]; exact hl
      have hs1 := hgx.1
      have hgd := hsi.sg hs1
      have hg3 := hgd.2.1
      rw [hs1] at ds3
      have hg := ds3.cg
      have hcv3 := hg.rn
      have hYb : S.b (ix x) < S.a 0 := by
        rcases hgx.2.2 with q | q
        · have := (hsi.pr0 _ hxr.1 hxr.2 q).2; omega
        · exact q.2.1
      refine lv_aload_n hx hb dX5_negate_17 rfl (lv_at hl 0 rfl) ?_
      refine lv_iload_n hx hb dX5_negate_18 rfl (lv_at hl 1 rfl) ?_
      refine r_VrQ (As := [.int (nI (ix a))]) (rest := []) C hM hS (c_pointIn l D kA N0 M3 h (ix a) S d3 har.1 har.2) (hob3) rfl gX5_negate_X5_pointIn rfl rfl rfl ⟨rfl, by decide +kernel, by decide +kernel, (by decide +kernel : (parseMethodDescriptor yX5_pointIn.desc).map (fun d => d.parameters.length) = some 1)⟩ ⟨Nat.le_of_ble_eq_true rfl, Nat.le_of_ble_eq_true rfl⟩ hl.1 rfl (Nat.le_of_ble_eq_true rfl) dX5_negate_19 ⟨Nat.le_of_ble_eq_true rfl, Nat.le_of_ble_eq_true rfl⟩ (fun ra M5 H locs hp hM hS => ?_)
      obtain ⟨eM5, era⟩ := hp
      have eM5 : M5 = M3 := eM5
      have era : ra = (h + 7 + 3 * ((ix a) - 4)) := era
      rw [eM5] at hM
      rw [era]
      refine lv_aload_n hx hb dX5_negate_22 rfl (lv_at hl 0 rfl) ?_
      refine lv_iload_n hx hb dX5_negate_23 rfl (lv_at hl 2 rfl) ?_
      refine r_VrQ (As := [.int (nI (ix x))]) (rest := [.ref (h + 7 + 3 * ((ix a) - 4))]) C hM hS (c_pointIn l D kA N0 M3 h (ix x) S d3 hxr.1 hxr.2) (hob3) rfl gX5_negate_X5_pointIn rfl rfl rfl ⟨rfl, by decide +kernel, by decide +kernel, (by decide +kernel : (parseMethodDescriptor yX5_pointIn.desc).map (fun d => d.parameters.length) = some 1)⟩ ⟨Nat.le_of_ble_eq_true rfl, Nat.le_of_ble_eq_true rfl⟩ hl.1 rfl (Nat.le_of_ble_eq_true rfl) dX5_negate_24 ⟨Nat.le_of_ble_eq_true rfl, Nat.le_of_ble_eq_true rfl⟩ (fun rb M7 H locs hp hM hS => ?_)
      obtain ⟨eM7, erb⟩ := hp
      have eM7 : M7 = M3 := eM7
      have erb : rb = (h + 7 + 3 * ((ix x) - 4)) := erb
      rw [eM7] at hM
      rw [erb]
      have hpa := d3.po har.1 har.2
      have hpx := d3.po hxr.1 hxr.2
      have hpb := hsi.prb (ix x)
      have hpz : nI (1 - S.pr (ix x)) = nI 0 ∨ nI (1 - S.pr (ix x)) = nI 1 := by
        rcases Nat.le_one_iff_eq_zero_or_eq_one.mp hpb with q | q
        · rw [q]; exact Or.inr rfl
        · rw [q]; exact Or.inl rfl
      have hqa := hpa.1
      refine r_Vv (As := [.ref (h + 7 + 3 * ((ix x) - 4))]) (rest := []) C hM hS (c_copyFrom l D kA N0 M3 ((h + 7 + 3 * ((ix a) - 4))) ((h + 7 + 3 * ((ix x) - 4))) S.L (S.a (ix x)) (S.b (ix x)) (nI (1 - S.pr (ix a))) (nI (1 - S.pr (ix x))) hpa.1 hpx.1 hpa.2.1.isA hpa.2.2.isA hpx.2.1 hpx.2.2 hpz (by omega) (by omega)) (hqa) rfl gX5_negate_X2_copyFrom rfl rfl rfl ⟨rfl, by decide +kernel, by decide +kernel, (by decide +kernel : (parseMethodDescriptor yX2_copyFrom.desc).map (fun d => d.parameters.length) = some 1)⟩ ⟨Nat.le_of_ble_eq_true rfl, Nat.le_of_ble_eq_true rfl⟩ hl.1 rfl (Nat.le_of_ble_eq_true rfl) dX5_negate_27 ⟨Nat.le_of_ble_eq_true rfl, Nat.le_of_ble_eq_true rfl⟩ (fun M8 H locs hp hM hS => ?_)
      obtain ⟨p0, p1, p2, hf8⟩ := hp
      have d8 : Dc kA M8 h (mkS S.L (un S.a (ix a) (S.a (ix x))) (un S.b (ix a) (S.b (ix x))) (un S.pr (ix a) (S.pr (ix x))) S.sealed S.fed S.fl) := d3.wrP har.1 har.2 p0 p1 p2 (fun b b1 b2 b3 => hf8 b b3)
      have hob8 := d8.ob
      have hcv8 : M8 (h + 58) = some (oCv h) := by rw [hf8 _ (by omega)]; exact hcv3
      have ds8 : Ds kA M8 h S.L 1 (S.a 0) := ds3.kept (fun b b1 b2 => hf8 b (by omega))
      refine lv_aload_n hx hb dX5_negate_30 rfl (lv_at hl 0 rfl) ?_
      refine x_get (v := .ref (h + 58)) hx hb hts in_X5_negate_X5 hown hK hM (hob8) rfl 5 (by decide) (hts (.fieldLink RX5 51 "LimbCurves" "curve" "LLimbCurves$Curve;") (by decide +kernel)) (fun _ h9 => h9) rfl dX5_negate_31 ?_
      refine lv_aload_n hx hb dX5_negate_34 rfl (lv_at hl 0 rfl) ?_
      refine lv_iload_n hx hb dX5_negate_35 rfl (lv_at hl 1 rfl) ?_
      refine r_VrQ (As := [.int (nI (ix a))]) (rest := [.ref (h + 58)]) C hM hS (c_pointIn l D kA N0 M8 h (ix a) _ d8 har.1 har.2) (hob8) rfl gX5_negate_X5_pointIn rfl rfl rfl ⟨rfl, by decide +kernel, by decide +kernel, (by decide +kernel : (parseMethodDescriptor yX5_pointIn.desc).map (fun d => d.parameters.length) = some 1)⟩ ⟨Nat.le_of_ble_eq_true rfl, Nat.le_of_ble_eq_true rfl⟩ hl.1 rfl (Nat.le_of_ble_eq_true rfl) dX5_negate_36 ⟨Nat.le_of_ble_eq_true rfl, Nat.le_of_ble_eq_true rfl⟩ (fun rc M9 H locs hp hM hS => ?_)
      obtain ⟨eM9, erc⟩ := hp
      have eM9 : M9 = M8 := eM9
      have erc : rc = (h + 7 + 3 * ((ix a) - 4)) := erc
      rw [eM9] at hM
      rw [erc]
      refine r_Vv (As := [.ref (h + 7 + 3 * ((ix a) - 4))]) (rest := []) C hM hS (c_mirror l D kA N0 M8 h S.L (S.a 0) ((h + 7 + 3 * ((ix a) - 4))) (S.b (ix x)) (nI (1 - S.pr (ix x))) hcv8 (ds8.cg).rs (ds8.cg.rA 0 (by decide)) p0 p2 hYb (by omega) (by omega) (by omega)) (hcv8) rfl gX5_negate_X0_mirror rfl rfl rfl ⟨rfl, by decide +kernel, by decide +kernel, (by decide +kernel : (parseMethodDescriptor yX0_mirror.desc).map (fun d => d.parameters.length) = some 1)⟩ ⟨Nat.le_of_ble_eq_true rfl, Nat.le_of_ble_eq_true rfl⟩ hl.1 rfl (Nat.le_of_ble_eq_true rfl) dX5_negate_39 ⟨Nat.le_of_ble_eq_true rfl, Nat.le_of_ble_eq_true rfl⟩ (fun M10 H locs hp hM hS => ?_)
      obtain ⟨y1, y2, hf10⟩ := hp
      have d10 : Dc kA M10 h (mkS S.L (un S.a (ix a) (S.a (ix x))) (un S.b (ix a) (if S.b (ix x) = 0 then 0 else S.a 0 - S.b (ix x))) (un S.pr (ix a) (S.pr (ix x))) S.sealed S.fed S.fl) := d3.wrP har.1 har.2 (by rw [hf10 _ (by omega) (by omega)]; exact p0) (p1.kept (hf10 _ (by omega) (by omega))) y1 (fun b b1 b2 b3 => by rw [hf10 b (by omega) (by omega)]; exact hf8 b b3)
      have hob10 := d10.ob
      have ds10 : Ds kA M10 h S.L 1 (S.a 0) := by
        obtain ⟨ok, -, -, -, -, -, -, lf, rt, -⟩ := _root_.id ds8
        exact ds8.chg (ok.kept (fun b b1 b2 => hf10 b (by omega) (by omega))) y2 (lf.kept (hf10 _ (by omega) (by omega))) (rt.kept (hf10 _ (by omega) (by omega))) (fun b b1 b2 b3 b4 b5 => hf10 b (by omega) b3)
      refine lv_aload_n hx hb dX5_negate_42 rfl (lv_at hl 0 rfl) ?_
      refine lv_iload_n hx hb dX5_negate_43 rfl (lv_at hl 1 rfl) ?_
      refine r_Vv (As := [.int (nI (ix a))]) (rest := []) C hM hS (c_endFeeding l D kA N0 M10 h (ix a) _ d10 (by omega)) (hob10) rfl gX5_negate_X5_endFeeding rfl rfl rfl ⟨rfl, by decide +kernel, by decide +kernel, (by decide +kernel : (parseMethodDescriptor yX5_endFeeding.desc).map (fun d => d.parameters.length) = some 1)⟩ ⟨Nat.le_of_ble_eq_true rfl, Nat.le_of_ble_eq_true rfl⟩ hl.1 rfl (Nat.le_of_ble_eq_true rfl) dX5_negate_44 ⟨Nat.le_of_ble_eq_true rfl, Nat.le_of_ble_eq_true rfl⟩ (fun M11 H locs hp hM hS => ?_)
      obtain ⟨d11, hf11⟩ := hp
      have hsp : spNeg S a x = (1, endf (mkS S.L (un S.a (ix a) (S.a (ix x))) (un S.b (ix a) (if S.b (ix x) = 0 then 0 else S.a 0 - S.b (ix x))) (un S.pr (ix a) (S.pr (ix x))) S.sealed S.fed S.fl) (ix a)) := by
        unfold spNeg
        rw [if_pos ⟨hn, hgx⟩]
      rw [hsp] at hsi' ⊢
      have hwE : ∀ S1 : St, (endf S1 (ix a)).L = S1.L ∧ (endf S1 (ix a)).sealed = S1.sealed ∧ (endf S1 (ix a)).a = S1.a := fun S1 => by
        by_cases q : S1.fed = ix a
        · rw [endf_y q]; exact ⟨rfl, rfl, rfl⟩
        · rw [endf_n q]; exact ⟨rfl, rfl, rfl⟩
      have ds11 : Ds kA M11 h (endf (mkS S.L (un S.a (ix a) (S.a (ix x))) (un S.b (ix a) (if S.b (ix x) = 0 then 0 else S.a 0 - S.b (ix x))) (un S.pr (ix a) (S.pr (ix x))) S.sealed S.fed S.fl) (ix a)).L (endf (mkS S.L (un S.a (ix a) (S.a (ix x))) (un S.b (ix a) (if S.b (ix x) = 0 then 0 else S.a 0 - S.b (ix x))) (un S.pr (ix a) (S.pr (ix x))) S.sealed S.fed S.fl) (ix a)).sealed ((endf (mkS S.L (un S.a (ix a) (S.a (ix x))) (un S.b (ix a) (if S.b (ix x) = 0 then 0 else S.a 0 - S.b (ix x))) (un S.pr (ix a) (S.pr (ix x))) S.sealed S.fed S.fl) (ix a)).a 0) := by
        obtain ⟨w1, w2, w3⟩ := hwE (mkS S.L (un S.a (ix a) (S.a (ix x))) (un S.b (ix a) (if S.b (ix x) = 0 then 0 else S.a 0 - S.b (ix x))) (un S.pr (ix a) (S.pr (ix x))) S.sealed S.fed S.fl)
        rw [w1, w2, w3, mk_L, mk_sl, mk_a, hs1, un_n (by omega)]
        exact ds10.kept (fun b b1 b2 => hf11 b (by omega))
      refine lv_iconst (v := nI 1) hx hb dX5_negate_47 (by decide) ?_
      exact r_zret C hM hS rfl (⟨rfl, ⟨hsi', d11, ds11⟩, fun b hb => by rw [hf11 b (by omega), hf10 b (by omega) (by omega), hf8 b (by omega)]; exact hfr3 b hb⟩) dX5_negate_48
    · have hn3 : ¬ good S x := by
        rcases hv3 with ⟨h1, h2⟩ | ⟨h1, h2⟩
        · rw [h1] at hc3; exact absurd hc3 (by decide)
        · exact h2
      refine lv_iconst (v := nI 0) hx hb dX5_negate_15 (by decide) ?_
      exact r_zret C hM hS rfl (hno _ M3 dk3 hfr3 (fun q => hn3 q.2) rfl) dX5_negate_16
end SUM
