theorem in_X5_isInfinity_X2 : ∀ w ∈ wsX20, w ∈ wsX5_isInfinity := by decide +kernel
theorem in_X5_onCurve_X5 : ∀ w ∈ wsX50, w ∈ wsX5_onCurve := by decide +kernel
theorem in_X5_open_X5 : ∀ w ∈ wsX50, w ∈ wsX5_open := by decide +kernel
theorem in_X5_seal_X5 : ∀ w ∈ wsX50, w ∈ wsX5_seal := by decide +kernel
theorem ptS_of {kA : Nat → ClassId} {M : xM} {h : Nat} {S : St} (d : Dc kA M h S) {s : Nat} (hpb : S.pr s ≤ 1) (h4 : 4 ≤ s) (hs : s < 12) (h0 : 0 < S.a 0) (ho : on S s) : isPt kA M ((h + 7 + 3 * (s - 4))) S.L (kp S) (pt S s) ∧ onC (fz (kp S) (S.a 1)) (fz (kp S) (S.a 2)) (pt S s) := by
  obtain ⟨p0, p1, p2⟩ := d.po h4 hs
  have hk : kp S + 1 = S.a 0 := by show S.a 0 - 1 + 1 = S.a 0; omega
  by_cases hp : S.pr s = 0
  · have e : pt S s = none := by unfold pt; rw [if_pos hp]
    rw [e]
    rw [hp] at p0
    exact ⟨⟨_, _, 1, p0, p1, p2, Or.inl ⟨rfl, rfl⟩⟩, trivial⟩
  · have e : pt S s = some (fz (kp S) (S.a s), fz (kp S) (S.b s)) := by unfold pt; rw [if_neg hp]
    rw [e]
    have h1 : S.pr s = 1 := by omega
    rw [h1] at p0
    rcases ho with q | q
    · exact absurd q hp
    · refine ⟨⟨_, _, 0, p0, p1, p2, Or.inr ⟨rfl, by rw [hk]; exact q.1, by rw [hk]; exact q.2.1, rfl⟩⟩, onN_C ?_⟩
      rw [hk]
      exact q
section CL3
variable {p : Program} {l : Launch} {e : Env} {R : Room} {s : State} {m : MethodId} {args : Array Value} {below : List Frame} {meth : Method} {c : Code} {Q : State → Prop} {cells slots : Nat} {ret : Option FieldType} {D : va_G} {kA : Nat → ClassId} {N0 : Nat}
set_option maxRecDepth 100000 in
theorem c_seal (l : Launch) (D : va_G) (kA : Nat → ClassId) (N0 : Nat) (M : xM) (h : Nat) (S : St) (dk : Dk kA M h S) : cI l yX5_seal wsX5_seal (xR 5) [.ref h] D kA N0 M (fun v M1 => v = (spSeal S).1 ∧ Dk kA M1 h (spSeal S).2 ∧ ∀ b, b < h ∨ h + 75 < b → M1 b = M b) := by
  have hsi' := Si_seal dk.1
  have dk0 := dk
  obtain ⟨hsi, d, ds⟩ := dk
  have hob := d.ob
  have hL0 := hsi.L1
  have hL9 := hsi.L9
  have hsl := hsi.sl
  refine r_met (cc := cX5_seal) (maxL := 2) (ret := (some .int)) (by decide) rfl (Nat.le_of_ble_eq_true rfl) ?_
  intro p e s m below meth c ls C hM hnm hl
  obtain ⟨hx, hb, hml, hown, hts, hr, hlocks, hK, hN⟩ := _root_.id C
  have hS : va_S (xA N0) s.heap s.heap [] := va_S.rf
  have hl : lv_has ls 2 [(0, .ref h)] := hl
  refine lv_aload_n hx hb dX5_seal_0 rfl (lv_at hl 0 rfl) ?_
  refine x_get (v := .int (nI S.sealed)) hx hb hts in_X5_seal_X5 hown hK hM (hob) rfl 10 (by decide) (hts (.fieldLink RX5 75 "LimbCurves" "sealed" "Z") (by decide +kernel)) (fun _ h9 => h9) rfl dX5_seal_1 ?_
  refine r_if_eqN (tgt := 9) C (by omega) dX5_seal_4 (by decide) (fun hc => ?_) (fun hc => ?_)
  · obtain ⟨⟨⟨z1, z2, o0⟩, o1, o2, o3, o4, o5, o6, o7, o8⟩, fk, c0, c1, c2, rd, rr, lf, rt, sd, s1, s2, rs⟩ := ds
    have hP : isN kA M (h + 2) S.L (S.a 0) := d.pa (s := 0) (by omega)
    have hA : isN kA M (h + 3) S.L (S.a 1) := d.pa (s := 1) (by omega)
    have hB : isN kA M (h + 4) S.L (S.a 2) := d.pa (s := 2) (by omega)
    refine lv_aload_n hx hb dX5_seal_9 rfl (lv_at hl 0 rfl) ?_
    refine x_get (v := .ref (h + 58)) hx hb hts in_X5_seal_X5 hown hK hM (hob) rfl 5 (by decide) (hts (.fieldLink RX5 51 "LimbCurves" "curve" "LLimbCurves$Curve;") (by decide +kernel)) (fun _ h9 => h9) rfl dX5_seal_10 ?_
    refine r_Vi (As := []) (rest := []) C hM hS (c_takeParameters l D kA N0 M h S.L (S.a 0) (S.a 1) (S.a 2) c0 fk c1 c2 hP hA hB (by omega) (by omega)) (c0) rfl gX5_seal_X0_takeParameters rfl rfl rfl ⟨rfl, by decide +kernel, by decide +kernel, (by decide +kernel : (parseMethodDescriptor yX0_takeParameters.desc).map (fun d => d.parameters.length) = some 0)⟩ ⟨Nat.le_of_ble_eq_true rfl, Nat.le_of_ble_eq_true rfl⟩ hl.1 rfl (Nat.le_of_ble_eq_true rfl) dX5_seal_13 ⟨Nat.le_of_ble_eq_true rfl, Nat.le_of_ble_eq_true rfl⟩ (fun v M1 H locs hp hM hS => ?_)
    obtain ⟨fk1, c11, c21, hf1, hv⟩ := hp
    have k : ∀ {a n : Nat}, a < h + 49 ∨ h + 53 < a → a ≠ h + 59 → a ≠ h + 60 → isA kA M a n → isA kA M1 a n := fun h1 h2 h3 q => q.kept (hf1 _ h1 h2 h3)
    have d1 : Dc kA M1 h S := d.kept (fun b b1 b2 => hf1 b (by omega) (by omega) (by omega))
    have ds1 : ∀ sl, (sl = 1 → Rs kA M1 (h + 49) S.L (S.a 0)) → Ds kA M1 h S.L sl (S.a 0) := fun sl hrs => ⟨⟨⟨z1, z2, by rw [hf1 _ (by omega) (by omega) (by omega)]; exact o0⟩, k (by omega) (by omega) (by omega) o1, k (by omega) (by omega) (by omega) o2, k (by omega) (by omega) (by omega) o3, k (by omega) (by omega) (by omega) o4, k (by omega) (by omega) (by omega) o5, k (by omega) (by omega) (by omega) o6, k (by omega) (by omega) (by omega) o7, k (by omega) (by omega) (by omega) o8⟩, fk1, by rw [hf1 _ (by omega) (by omega) (by omega)]; exact c0, c11, c21, by rw [hf1 _ (by omega) (by omega) (by omega)]; exact rd, fun j hj => k (by omega) (by omega) (by omega) (rr j hj), k (by omega) (by omega) (by omega) lf, k (by omega) (by omega) (by omega) rt, by rw [hf1 _ (by omega) (by omega) (by omega)]; exact sd, k (by omega) (by omega) (by omega) s1, k (by omega) (by omega) (by omega) s2, hrs⟩
    have hs0 : ¬ S.sealed = 1 := by omega
    have dk1 : Dk kA M1 h S := ⟨hsi, d1, ds1 _ (fun q => absurd q hs0)⟩
    have hfr1 : ∀ b, b < h ∨ h + 75 < b → M1 b = M b := fun b hb => hf1 b (by omega) (by omega) (by omega)
    have hob1 := d1.ob
    have hbad : v ≠ nI 0 → v = (spSeal S).1 ∧ (spSeal S).2 = S := fun hv0 => by
      unfold spSeal
      rw [if_neg hs0]
      rcases hv with ⟨h1, h2⟩ | ⟨h1, h2, h3, h4⟩ | ⟨h1, h2, h3, h4, ⟨h5, h6⟩ | ⟨h5, h6⟩⟩
      · rw [if_pos h2]; exact ⟨h1, rfl⟩
      · rw [if_neg (by omega), if_pos h4]; exact ⟨h1, rfl⟩
      · rw [if_neg (by omega), if_neg (by omega), if_pos h6]; exact ⟨h5, rfl⟩
      · exact absurd h5 hv0
    refine lv_istore_n (lv' := [(1, .int v), (0, .ref h)]) hx hb dX5_seal_16 rfl hl (by decide) rfl (fun ls hl => ?_)
    refine lv_iload_n hx hb dX5_seal_17 rfl (lv_at hl 0 rfl) ?_
    refine lv_if_eq (tgt := 23) hx hb dX5_seal_18 (by decide) (fun hc2 => ?_) (fun hc2 => ?_)
    · have hgd : S.a 0 % 2 = 1 ∧ 3 < S.a 0 ∧ S.a 1 < S.a 0 ∧ S.a 2 < S.a 0 ∧ dsc (S.a 0 - 1) (S.a 1) (S.a 2) ≠ 0 ∧ Rs kA M1 (h + 49) S.L (S.a 0) := by
        rcases hv with ⟨h1, h2⟩ | ⟨h1, h2, h3, h4⟩ | ⟨h1, h2, h3, h4, ⟨h5, h6⟩ | ⟨h5, h6, h7⟩⟩
        · rw [hc2] at h1; exact absurd h1 (by decide)
        · rw [hc2] at h1; exact absurd h1 (by decide)
        · rw [hc2] at h5; exact absurd h5 (by decide)
        · exact ⟨h1, h2, h3, h4, h6, h7⟩
      obtain ⟨g1, g2, g3, g4, g5, g6⟩ := hgd
      have hsp : spSeal S = (nI 0, if S.fed < 4 then mkS S.L S.a S.b S.pr 1 20 0 else mkS S.L S.a S.b S.pr 1 S.fed S.fl) := by
        unfold spSeal
        rw [if_neg hs0, if_neg (by omega), if_neg (by omega), if_neg g5]
      refine lv_aload_n hx hb dX5_seal_23 rfl (lv_at hl 1 rfl) ?_
      refine lv_iconst (v := nI 1) hx hb dX5_seal_24 (by decide) ?_
      refine x_put (v := .int (nI 1)) (ty := .boolean) hx hb hts in_X5_seal_X5 tyX5 tyX5_ok nmX5 hown hK hM hS (hob1) rfl 10 (by decide) (hts (.fieldLink RX5 75 "LimbCurves" "sealed" "Z") (by decide +kernel)) (fun _ h9 => h9) rfl (by decide +kernel) rfl rfl (Nat.le_of_ble_eq_true rfl) dX5_seal_25 (fun H locs hM hS => ?_)
      have hM : xW D vwCl N0 (xset M1 h (oLc h (nI S.L) (nI 1) (fedV S) (nI S.fl))) H := hM
      have d2 : Dc kA (xset M1 h (oLc h (nI S.L) (nI 1) (fedV S) (nI S.fl))) h (mkS S.L S.a S.b S.pr 1 S.fed S.fl) := d1.fld rfl rfl rfl rfl
      have ds2 : Ds kA (xset M1 h (oLc h (nI S.L) (nI 1) (fedV S) (nI S.fl))) h S.L 1 (S.a 0) := (ds1 1 (fun _ => g6)).kept (fun b b1 b2 => xset_n (by omega))
      have hob2 : xset M1 h (oLc h (nI S.L) (nI 1) (fedV S) (nI S.fl)) h = some (oLc h (nI S.L) (nI 1) (fedV S) (nI S.fl)) := xset_s
      refine lv_aload_n hx hb dX5_seal_28 rfl (lv_at hl 1 rfl) ?_
      refine x_get (v := .int (fedV S)) hx hb hts in_X5_seal_X5 hown hK hM (hob2) rfl 11 (by decide) (hts (.fieldLink RX5 79 "LimbCurves" "fedSlot" "I") (by decide +kernel)) (fun _ h9 => h9) rfl dX5_seal_29 ?_
      refine r_Si (As := [.int (fedV S)]) (rest := []) C hM hS (c_isParameter l D kA N0 (xset M1 h (oLc h (nI S.L) (nI 1) (fedV S) (nI S.fl))) (fedV S)) gX5_seal_X5_isParameter rfl rfl rfl ⟨by decide +kernel, by decide +kernel, (by decide +kernel : (parseMethodDescriptor yX5_isParameter.desc).map (fun d => d.parameters.length) = some 1)⟩ ⟨Nat.le_of_ble_eq_true rfl, Nat.le_of_ble_eq_true rfl⟩ hl.1 rfl (Nat.le_of_ble_eq_true rfl) dX5_seal_32 ⟨Nat.le_of_ble_eq_true rfl, Nat.le_of_ble_eq_true rfl⟩ (fun v3 M3 H locs hp hM hS => ?_)
      obtain ⟨eM3, hv3⟩ := hp
      rw [eM3] at hM
      refine lv_if_eq (tgt := 46) hx hb dX5_seal_35 (by decide) (fun hc3 => ?_) (fun hc3 => ?_)
      · have hn : ¬ S.fed < 4 := fun q => by
          rcases hv3 with ⟨h1, h2⟩ | ⟨h1, h2⟩
          · rw [h1] at hc3; exact absurd hc3 (by decide)
          · unfold isPa at h2
            rw [fedV_lt (by omega), t_nI (by omega)] at h2
            omega
        rw [if_neg hn] at hsp
        rw [hsp] at hsi' ⊢
        refine lv_iconst (v := nI 0) hx hb dX5_seal_46 (by decide) ?_
        exact r_iret C hM hS (⟨rfl, ⟨hsi', d2, ds2⟩, fun b hb => by rw [xset_n (by omega)]; exact hfr1 b hb⟩) dX5_seal_47
      · have hn : S.fed < 4 := by
          rcases hv3 with ⟨h1, h2⟩ | ⟨h1, h2⟩
          · unfold isPa at h2
            by_cases q : S.fed < 20
            · rw [fedV_lt q, t_nI (by omega)] at h2
              omega
            · rw [fedV_ge q] at h2
              exact absurd h2.1 (by decide)
          · exact absurd h1 hc3
        have hfe : fedV S = nI S.fed := fedV_lt (by omega)
        rw [hfe] at hob2 hM d2 ds2
        rw [if_pos hn] at hsp
        rw [hsp] at hsi' ⊢
        refine lv_aload_n hx hb dX5_seal_38 rfl (lv_at hl 1 rfl) ?_
        refine lv_aload_n hx hb dX5_seal_39 rfl (lv_at hl 1 rfl) ?_
        refine x_get (v := .int (nI S.fed)) hx hb hts in_X5_seal_X5 hown hK hM (hob2) rfl 11 (by decide) (hts (.fieldLink RX5 79 "LimbCurves" "fedSlot" "I") (by decide +kernel)) (fun _ h9 => h9) rfl dX5_seal_40 ?_
        refine r_Vv (As := [.int (nI S.fed)]) (rest := []) C hM hS (c_endFeeding l D kA N0 (xset M1 h (oLc h (nI S.L) (nI 1) (nI S.fed) (nI S.fl))) h S.fed (mkS S.L S.a S.b S.pr 1 S.fed S.fl) d2 (by omega)) (hob2) rfl gX5_seal_X5_endFeeding rfl rfl rfl ⟨rfl, by decide +kernel, by decide +kernel, (by decide +kernel : (parseMethodDescriptor yX5_endFeeding.desc).map (fun d => d.parameters.length) = some 1)⟩ ⟨Nat.le_of_ble_eq_true rfl, Nat.le_of_ble_eq_true rfl⟩ hl.1 rfl (Nat.le_of_ble_eq_true rfl) dX5_seal_43 ⟨Nat.le_of_ble_eq_true rfl, Nat.le_of_ble_eq_true rfl⟩ (fun M4 H locs hp hM hS => ?_)
        obtain ⟨d4, hf4⟩ := hp
        rw [show endf (mkS S.L S.a S.b S.pr 1 S.fed S.fl) S.fed = mkS S.L S.a S.b S.pr 1 20 0 from endf_y rfl] at d4
        refine lv_iconst (v := nI 0) hx hb dX5_seal_46 (by decide) ?_
        exact r_iret C hM hS (⟨rfl, ⟨hsi', d4, ds2.kept (fun b b1 b2 => hf4 b (by omega))⟩, fun b hb => by rw [hf4 b (by omega), xset_n (by omega)]; exact hfr1 b hb⟩) dX5_seal_47
    · obtain ⟨e1, e2⟩ := hbad hc2
      rw [e2]
      refine lv_iload_n hx hb dX5_seal_21 rfl (lv_at hl 0 rfl) ?_
      exact r_iret C hM hS (⟨e1, dk1, hfr1⟩) dX5_seal_22
  · have hs1 : S.sealed = 1 := by omega
    have hsp : spSeal S = (nI 4, S) := by unfold spSeal; rw [if_pos hs1]
    rw [hsp]
    refine lv_iconst (v := nI 4) hx hb dX5_seal_7 (by decide) ?_
    exact r_iret C hM hS (⟨rfl, dk0, fun _ _ => rfl⟩) dX5_seal_8
set_option maxRecDepth 100000 in
theorem c_open (l : Launch) (D : va_G) (kA : Nat → ClassId) (N0 : Nat) (M : xM) (h : Nat) (S : St) (dk : Dk kA M h S) : cI l yX5_open wsX5_open (xR 0) [.ref h] D kA N0 M (fun v M1 => v = (spOpen S).1 ∧ Dk kA M1 h (spOpen S).2 ∧ ∀ b, b < h ∨ h + 75 < b → M1 b = M b) := by
  have hsi' := Si_open dk.1
  obtain ⟨hsi, d, ds⟩ := dk
  have hob := d.ob
  have hsl := hsi.sl
  refine r_met (cc := cX5_open) (maxL := 2) (ret := (some .boolean)) (by decide) rfl (Nat.le_of_ble_eq_true rfl) ?_
  intro p e s m below meth c ls C hM hnm hl
  obtain ⟨hx, hb, hml, hown, hts, hr, hlocks, hK, hN⟩ := _root_.id C
  have hS : va_S (xA N0) s.heap s.heap [] := va_S.rf
  have hl : lv_has ls 2 [(0, .ref h)] := hl
  refine lv_aload_n hx hb dX5_open_0 rfl (lv_at hl 0 rfl) ?_
  refine x_get (v := .int (nI S.sealed)) hx hb hts in_X5_open_X5 hown hK hM (hob) rfl 10 (by decide) (hts (.fieldLink RX5 75 "LimbCurves" "sealed" "Z") (by decide +kernel)) (fun _ h9 => h9) rfl dX5_open_1 ?_
  refine lv_istore_n (lv' := [(1, .int (nI S.sealed)), (0, .ref h)]) hx hb dX5_open_4 rfl hl (by decide) rfl (fun ls hl => ?_)
  refine lv_aload_n hx hb dX5_open_5 rfl (lv_at hl 1 rfl) ?_
  refine lv_iconst (v := nI 0) hx hb dX5_open_6 (by decide) ?_
  refine x_put (v := .int (nI 0)) (ty := .boolean) hx hb hts in_X5_open_X5 tyX5 tyX5_ok nmX5 hown hK hM hS (hob) rfl 10 (by decide) (hts (.fieldLink RX5 75 "LimbCurves" "sealed" "Z") (by decide +kernel)) (fun _ h9 => h9) rfl (by decide +kernel) rfl rfl (Nat.le_of_ble_eq_true rfl) dX5_open_7 (fun H locs hM hS => ?_)
  have hM : xW D vwCl N0 (xset M h (oLc h (nI S.L) (nI 0) (fedV S) (nI S.fl))) H := hM
  have d2 : Dc kA (xset M h (oLc h (nI S.L) (nI 0) (fedV S) (nI S.fl))) h (mkS S.L S.a S.b S.pr 0 S.fed S.fl) := d.fld rfl rfl rfl rfl
  have ds2 : Ds kA (xset M h (oLc h (nI S.L) (nI 0) (fedV S) (nI S.fl))) h S.L 0 (S.a 0) := ds.opn.kept (fun b b1 b2 => xset_n (by omega))
  have hn9 : narrow .boolean (.int (nI S.sealed)) = .int (nI S.sealed) := by
    rcases Nat.le_one_iff_eq_zero_or_eq_one.mp hsl with q | q <;> rw [q] <;> rfl
  have hfr : ∀ b, b < h ∨ h + 75 < b → xset M h (oLc h (nI S.L) (nI 0) (fedV S) (nI S.fl)) b = M b := fun b hb => xset_n (by omega)
  refine lv_iload_n hx hb dX5_open_10 rfl (lv_at hl 0 rfl) ?_
  exact r_zret C hM hS hn9 (⟨rfl, ⟨hsi', d2, ds2⟩, hfr⟩) dX5_open_11
set_option maxRecDepth 100000 in
theorem c_limb (l : Launch) (D : va_G) (kA : Nat → ClassId) (N0 : Nat) (M : xM) (h : Nat) (S : St) (k i : Int32) (dk : Dk kA M h S) : cI l yX5_limb wsX5_limb (xR 2) [.ref h, .int k, .int i] D kA N0 M (fun v M1 => v = spLimb S k i ∧ M1 = M) := by
  obtain ⟨hsi, d, ds⟩ := dk
  have hob := d.ob
  have hL0 := hsi.L1
  have hL9 := hsi.L9
  refine r_met (cc := cX5_limb) (maxL := 3) (ret := (some .int)) (by decide) rfl (Nat.le_of_ble_eq_true rfl) ?_
  intro p e s m below meth c ls C hM hnm hl
  obtain ⟨hx, hb, hml, hown, hts, hr, hlocks, hK, hN⟩ := _root_.id C
  have hS : va_S (xA N0) s.heap s.heap [] := va_S.rf
  have hl : lv_has ls 3 [(0, .ref h), (1, .int k), (2, .int i)] := hl
  have hno : ¬ (isSl k ∧ 0 ≤ i.toInt ∧ i.toInt < lim S (ix k)) → (-1 : Int32) = spLimb S k i := fun q => by
    unfold spLimb
    rw [if_neg q]
  refine lv_iload_n hx hb dX5_limb_0 rfl (lv_at hl 1 rfl) ?_
  refine r_Si (As := [.int k]) (rest := []) C hM hS (c_isSlot l D kA N0 M k) gX5_limb_X5_isSlot rfl rfl rfl ⟨by decide +kernel, by decide +kernel, (by decide +kernel : (parseMethodDescriptor yX5_isSlot.desc).map (fun d => d.parameters.length) = some 1)⟩ ⟨Nat.le_of_ble_eq_true rfl, Nat.le_of_ble_eq_true rfl⟩ hl.1 rfl (Nat.le_of_ble_eq_true rfl) dX5_limb_1 ⟨Nat.le_of_ble_eq_true rfl, Nat.le_of_ble_eq_true rfl⟩ (fun v M1 H locs hp hM hS => ?_)
  obtain ⟨eM, hv⟩ := hp
  rw [eM] at hM
  refine lv_if_eq (tgt := 20) hx hb dX5_limb_4 (by decide) (fun hc => ?_) (fun hc => ?_)
  · have hn : ¬ isSl k := by
      rcases hv with ⟨h1, h2⟩ | ⟨h1, h2⟩
      · rw [h1] at hc; exact absurd hc (by decide)
      · exact h2
    refine lv_iconst (v := (-1)) hx hb dX5_limb_20 (by decide) ?_
    exact r_iret C hM hS (⟨hno (fun q => hn q.1), rfl⟩) dX5_limb_21
  · have hn : isSl k := by
      rcases hv with ⟨h1, h2⟩ | ⟨h1, h2⟩
      · exact h2
      · exact absurd h1 hc
    have hk20 := sl_ix hn
    have hke := ix_eq hn.1
    refine lv_iload_n hx hb dX5_limb_7 rfl (lv_at hl 2 rfl) ?_
    refine lv_if_lt (tgt := 20) hx hb dX5_limb_8 (by decide) (fun hc2 => ?_) (fun hc2 => ?_)
    · rw [ilt, t_0] at hc2
      refine lv_iconst (v := (-1)) hx hb dX5_limb_20 (by decide) ?_
      exact r_iret C hM hS (⟨hno (fun q => by omega), rfl⟩) dX5_limb_21
    · rw [ilt, t_0] at hc2
      have hi0 : 0 ≤ i.toInt := by omega
      have hie := ix_eq hi0
      have hii := ix_int hi0
      have hl : lv_has ls 3 [(0, .ref h), (1, .int (nI (ix k))), (2, .int (nI (ix i)))] := by rw [← hke, ← hie]; exact hl
      have hlim : lim S (ix k) ≤ 18 := by unfold lim; split <;> omega
      have hlim2 : lim S (ix k) ≤ 2 * S.L := by unfold lim; split <;> omega
      have hib : ix i < 2147483648 := dg_lt i
      refine lv_iload_n hx hb dX5_limb_11 rfl (lv_at hl 2 rfl) ?_
      refine lv_aload_n hx hb dX5_limb_12 rfl (lv_at hl 0 rfl) ?_
      refine lv_iload_n hx hb dX5_limb_13 rfl (lv_at hl 1 rfl) ?_
      refine r_Vi (As := [.int (nI (ix k))]) (rest := [.int (nI (ix i))]) C hM hS (c_limbsOf l D kA N0 M h (ix k) S d hk20 hL9) (hob) rfl gX5_limb_X5_limbsOf rfl rfl rfl ⟨rfl, by decide +kernel, by decide +kernel, (by decide +kernel : (parseMethodDescriptor yX5_limbsOf.desc).map (fun d => d.parameters.length) = some 1)⟩ ⟨Nat.le_of_ble_eq_true rfl, Nat.le_of_ble_eq_true rfl⟩ hl.1 rfl (Nat.le_of_ble_eq_true rfl) dX5_limb_14 ⟨Nat.le_of_ble_eq_true rfl, Nat.le_of_ble_eq_true rfl⟩ (fun v2 M2 H locs hp hM hS => ?_)
      obtain ⟨eM2, ev2⟩ := hp
      rw [eM2] at hM
      rw [ev2]
      refine r_icmp_ltN (tgt := 22) C (by omega) (by omega) dX5_limb_17 (by decide) (fun hc3 => ?_) (fun hc3 => ?_)
      · refine lv_aload_n hx hb dX5_limb_22 rfl (lv_at hl 0 rfl) ?_
        refine lv_iload_n hx hb dX5_limb_23 rfl (lv_at hl 1 rfl) ?_
        refine lv_iload_n hx hb dX5_limb_24 rfl (lv_at hl 2 rfl) ?_
        refine r_VrQ (As := [.int (nI (ix k)), .int (nI (ix i))]) (rest := []) C hM hS (c_rowOf l D kA N0 M h (ix k) (ix i) S d hk20 (by omega) hL9) (hob) rfl gX5_limb_X5_rowOf rfl rfl rfl ⟨rfl, by decide +kernel, by decide +kernel, (by decide +kernel : (parseMethodDescriptor yX5_rowOf.desc).map (fun d => d.parameters.length) = some 2)⟩ ⟨Nat.le_of_ble_eq_true rfl, Nat.le_of_ble_eq_true rfl⟩ hl.1 rfl (Nat.le_of_ble_eq_true rfl) dX5_limb_25 ⟨Nat.le_of_ble_eq_true rfl, Nat.le_of_ble_eq_true rfl⟩ (fun ra M3 H locs hp hM hS => ?_)
        obtain ⟨eM3, era⟩ := hp
        have eM3 : M3 = M := eM3
        have era : ra = (if (ix k) < 4 then h + 2 + (ix k) else if 12 ≤ (ix k) then (h + 32 + ((ix k) - 12)) else if (ix i) < S.L then (h + 7 + 3 * ((ix k) - 4)) + 1 else (h + 7 + 3 * ((ix k) - 4)) + 2) := era
        rw [eM3] at hM
        refine lv_aload_n hx hb dX5_limb_28 rfl (lv_at hl 0 rfl) ?_
        refine lv_iload_n hx hb dX5_limb_29 rfl (lv_at hl 2 rfl) ?_
        refine r_Vi (As := [.int (nI (ix i))]) (rest := [.ref ra]) C hM hS (c_placeInRow l D kA N0 M h (ix i) S d (by omega) hL9) (hob) rfl gX5_limb_X5_placeInRow rfl rfl rfl ⟨rfl, by decide +kernel, by decide +kernel, (by decide +kernel : (parseMethodDescriptor yX5_placeInRow.desc).map (fun d => d.parameters.length) = some 1)⟩ ⟨Nat.le_of_ble_eq_true rfl, Nat.le_of_ble_eq_true rfl⟩ hl.1 rfl (Nat.le_of_ble_eq_true rfl) dX5_limb_30 ⟨Nat.le_of_ble_eq_true rfl, Nat.le_of_ble_eq_true rfl⟩ (fun v4 M4 H locs hp hM hS => ?_)
        obtain ⟨eM4, ev4⟩ := hp
        rw [eM4] at hM
        obtain ⟨j, hj⟩ : ∃ j, j = if ix i < S.L then ix i else ix i - S.L := ⟨_, rfl⟩
        rw [← hj] at ev4
        rw [ev4]
        have hjL : j < S.L := by
          rw [hj]
          split
          · assumption
          · omega
        have hrow : isN kA M ra S.L (if ix i < S.L then S.a (ix k) else S.b (ix k)) := by
          by_cases h4 : ix k < 4
          · rw [if_pos h4] at era
            have : lim S (ix k) = S.L := by unfold lim; rw [if_neg (by omega)]
            rw [if_pos (by omega), era]
            exact d.pa h4
          · rw [if_neg h4] at era
            by_cases h12 : 12 ≤ ix k
            · rw [if_pos h12] at era
              have : lim S (ix k) = S.L := by unfold lim; rw [if_neg (by omega)]
              rw [if_pos (by omega), era]
              exact d.sc h12 hk20
            · rw [if_neg h12] at era
              have hpo := d.po (s := ix k) (by omega) (by omega)
              by_cases hq : ix i < S.L
              · rw [if_pos hq] at era ⊢
                rw [era]
                exact hpo.2.1
              · rw [if_neg hq] at era ⊢
                rw [era]
                exact hpo.2.2
        obtain ⟨f, hfr, nf, Vf⟩ := hrow
        refine r_iald C hM (hfr) rfl (by omega) (by omega) dX5_limb_33 ?_
        have hres : f j = spLimb S k i := by
          unfold spLimb
          rw [if_pos ⟨hn, hi0, by omega⟩, dgt_of nf Vf hjL, hj]
          split <;> rfl
        exact r_iret C hM hS (⟨hres, rfl⟩) dX5_limb_34
      · refine lv_iconst (v := (-1)) hx hb dX5_limb_20 (by decide) ?_
        exact r_iret C hM hS (⟨hno (fun q => by omega), rfl⟩) dX5_limb_21
set_option maxRecDepth 100000 in
theorem c_onCurve (l : Launch) (D : va_G) (kA : Nat → ClassId) (N0 : Nat) (M : xM) (h : Nat) (S : St) (x : Int32) (dk : Dk kA M h S) : cI l yX5_onCurve wsX5_onCurve (xR 4) [.ref h, .int x] D kA N0 M (fun v M1 => ((v = 1 ∧ good S x) ∨ (v = 0 ∧ ¬ good S x)) ∧ Dk kA M1 h S ∧ ∀ b, b < h + 40 ∨ h + 75 < b → M1 b = M b) := by
  have dk0 := dk
  obtain ⟨hsi, d, ds⟩ := dk
  have hob := d.ob
  have hL0 := hsi.L1
  have hL9 := hsi.L9
  have hsl := hsi.sl
  refine r_met (cc := cX5_onCurve) (maxL := 2) (ret := (some .boolean)) (by decide) rfl (Nat.le_of_ble_eq_true rfl) ?_
  intro p e s m below meth c ls C hM hnm hl
  obtain ⟨hx, hb, hml, hown, hts, hr, hlocks, hK, hN⟩ := _root_.id C
  have hS : va_S (xA N0) s.heap s.heap [] := va_S.rf
  have hl : lv_has ls 2 [(0, .ref h), (1, .int x)] := hl
  refine lv_aload_n hx hb dX5_onCurve_0 rfl (lv_at hl 0 rfl) ?_
  refine x_get (v := .int (nI S.sealed)) hx hb hts in_X5_onCurve_X5 hown hK hM (hob) rfl 10 (by decide) (hts (.fieldLink RX5 75 "LimbCurves" "sealed" "Z") (by decide +kernel)) (fun _ h9 => h9) rfl dX5_onCurve_1 ?_
  refine r_if_eqN (tgt := 33) C (by omega) dX5_onCurve_4 (by decide) (fun hc => ?_) (fun hc => ?_)
  · refine lv_iconst (v := nI 0) hx hb dX5_onCurve_33 (by decide) ?_
    exact r_zret C hM hS rfl (⟨Or.inr ⟨rfl, fun q => by have := q.1; omega⟩, dk0, fun _ _ => rfl⟩) dX5_onCurve_34
  · have hs1 : S.sealed = 1 := by omega
    refine lv_iload_n hx hb dX5_onCurve_7 rfl (lv_at hl 1 rfl) ?_
    refine r_Si (As := [.int x]) (rest := []) C hM hS (c_isPoint l D kA N0 M x) gX5_onCurve_X5_isPoint rfl rfl rfl ⟨by decide +kernel, by decide +kernel, (by decide +kernel : (parseMethodDescriptor yX5_isPoint.desc).map (fun d => d.parameters.length) = some 1)⟩ ⟨Nat.le_of_ble_eq_true rfl, Nat.le_of_ble_eq_true rfl⟩ hl.1 rfl (Nat.le_of_ble_eq_true rfl) dX5_onCurve_8 ⟨Nat.le_of_ble_eq_true rfl, Nat.le_of_ble_eq_true rfl⟩ (fun v M1 H locs hp hM hS => ?_)
    obtain ⟨eM, hv⟩ := hp
    rw [eM] at hM
    refine lv_if_eq (tgt := 33) hx hb dX5_onCurve_11 (by decide) (fun hc1 => ?_) (fun hc1 => ?_)
    · have hn : ¬ isPo x := by
        rcases hv with ⟨h1, h2⟩ | ⟨h1, h2⟩
        · rw [h1] at hc1; exact absurd hc1 (by decide)
        · exact h2
      refine lv_iconst (v := nI 0) hx hb dX5_onCurve_33 (by decide) ?_
      exact r_zret C hM hS rfl (⟨Or.inr ⟨rfl, fun q => hn q.2.1⟩, dk0, fun _ _ => rfl⟩) dX5_onCurve_34
    · have hn : isPo x := by
        rcases hv with ⟨h1, h2⟩ | ⟨h1, h2⟩
        · exact h2
        · exact absurd h1 hc1
      have hxr := po_ix hn
      have hxe := ix_eq (x := x) (by omega)
      have hl : lv_has ls 2 [(0, .ref h), (1, .int (nI (ix x)))] := by rw [← hxe]; exact hl
      rw [hs1] at ds
      have hg := ds.cg
      have hcv := hg.rn
      refine lv_aload_n hx hb dX5_onCurve_14 rfl (lv_at hl 0 rfl) ?_
      refine x_get (v := .ref (h + 58)) hx hb hts in_X5_onCurve_X5 hown hK hM (hob) rfl 5 (by decide) (hts (.fieldLink RX5 51 "LimbCurves" "curve" "LLimbCurves$Curve;") (by decide +kernel)) (fun _ h9 => h9) rfl dX5_onCurve_15 ?_
      refine lv_aload_n hx hb dX5_onCurve_18 rfl (lv_at hl 0 rfl) ?_
      refine lv_iload_n hx hb dX5_onCurve_19 rfl (lv_at hl 1 rfl) ?_
      refine r_VrQ (As := [.int (nI (ix x))]) (rest := [.ref (h + 58)]) C hM hS (c_pointIn l D kA N0 M h (ix x) S d hxr.1 hxr.2) (hob) rfl gX5_onCurve_X5_pointIn rfl rfl rfl ⟨rfl, by decide +kernel, by decide +kernel, (by decide +kernel : (parseMethodDescriptor yX5_pointIn.desc).map (fun d => d.parameters.length) = some 1)⟩ ⟨Nat.le_of_ble_eq_true rfl, Nat.le_of_ble_eq_true rfl⟩ hl.1 rfl (Nat.le_of_ble_eq_true rfl) dX5_onCurve_20 ⟨Nat.le_of_ble_eq_true rfl, Nat.le_of_ble_eq_true rfl⟩ (fun ra M3 H locs hp hM hS => ?_)
      obtain ⟨eM3, era⟩ := hp
      have eM3 : M3 = M := eM3
      have era : ra = (h + 7 + 3 * ((ix x) - 4)) := era
      rw [eM3] at hM
      rw [era]
      have hpo := d.po hxr.1 hxr.2
      have hgd := hsi.sg hs1
      have hpb := hsi.prb (ix x)
      have hP : isN kA M (h + 2) S.L (S.a 0) := d.pa (s := 0) (by omega)
      have hA : isN kA M (h + 3) S.L (S.a 1) := d.pa (s := 1) (by omega)
      have hB : isN kA M (h + 4) S.L (S.a 2) := d.pa (s := 2) (by omega)
      have hg3 := hgd.2.1
      refine r_Vi (As := [.ref (h + 7 + 3 * ((ix x) - 4))]) (rest := []) C hM hS (c_holds l D kA N0 M M h S.L (S.a 0) ((h + 7 + 3 * ((ix x) - 4))) (S.a (ix x)) (S.b (ix x)) (1 - S.pr (ix x)) (S.a 1) (S.a 2) hg hP hA hB hgd.2.2.1 hgd.2.2.2.1 hpo.1 hpo.2.1 hpo.2.2 (by omega) (by omega) (by omega) (by omega)) (hcv) rfl gX5_onCurve_X0_holds rfl rfl rfl ⟨rfl, by decide +kernel, by decide +kernel, (by decide +kernel : (parseMethodDescriptor yX0_holds.desc).map (fun d => d.parameters.length) = some 1)⟩ ⟨Nat.le_of_ble_eq_true rfl, Nat.le_of_ble_eq_true rfl⟩ hl.1 rfl (Nat.le_of_ble_eq_true rfl) dX5_onCurve_23 ⟨Nat.le_of_ble_eq_true rfl, Nat.le_of_ble_eq_true rfl⟩ (fun v4 M4 H locs hp hM hS => ?_)
      obtain ⟨hg4, hv4⟩ := hp
      have dk4 : Dk kA M4 h S := ⟨hsi, d.kept (fun b b1 b2 => hg4.fr b (by omega) (by omega) (by omega) (by omega)), by rw [hs1]; exact ds.ofCG hg4⟩
      have hfr4 : ∀ b, b < h + 40 ∨ h + 75 < b → M4 b = M b := fun b hb => hg4.fr b (by omega) (by omega) (by omega) (by omega)
      refine lv_if_eq (tgt := 33) hx hb dX5_onCurve_26 (by decide) (fun hc5 => ?_) (fun hc5 => ?_)
      · have hng : ¬ good S x := fun q => by
          rcases hv4 with ⟨h1, h2⟩ | ⟨h1, h2, h3⟩
          · rw [h1] at hc5; exact absurd hc5 (by decide)
          · rcases q.2.2 with q1 | q1
            · omega
            · exact h3 q1
        refine lv_iconst (v := nI 0) hx hb dX5_onCurve_33 (by decide) ?_
        exact r_zret C hM hS rfl (⟨Or.inr ⟨rfl, hng⟩, dk4, hfr4⟩) dX5_onCurve_34
      · have hgo : good S x := by
          rcases hv4 with ⟨h1, h2⟩ | ⟨h1, h2, h3⟩
          · refine ⟨hs1, hn, ?_⟩
            rcases h2 with q1 | q1
            · exact Or.inl (by omega)
            · exact Or.inr q1
          · exact absurd h1 hc5
        refine lv_iconst (v := nI 1) hx hb dX5_onCurve_29 (by decide) ?_
        refine lv_goto (tgt := 34) hx hb dX5_onCurve_30 (by decide) ?_
        exact r_zret C hM hS rfl (⟨Or.inl ⟨rfl, hgo⟩, dk4, hfr4⟩) dX5_onCurve_34
set_option maxRecDepth 100000 in
theorem c_isInfinity (l : Launch) (D : va_G) (kA : Nat → ClassId) (N0 : Nat) (M : xM) (h : Nat) (S : St) (x : Int32) (dk : Dk kA M h S) : cI l yX5_isInfinity wsX5_isInfinity (xR 1) [.ref h, .int x] D kA N0 M (fun v M1 => v = spInf S x ∧ M1 = M) := by
  obtain ⟨hsi, d, ds⟩ := dk
  have hob := d.ob
  unfold spInf
  refine r_met (cc := cX5_isInfinity) (maxL := 2) (ret := (some .boolean)) (by decide) rfl (Nat.le_of_ble_eq_true rfl) ?_
  intro p e s m below meth c ls C hM hnm hl
  obtain ⟨hx, hb, hml, hown, hts, hr, hlocks, hK, hN⟩ := _root_.id C
  have hS : va_S (xA N0) s.heap s.heap [] := va_S.rf
  have hl : lv_has ls 2 [(0, .ref h), (1, .int x)] := hl
  refine lv_iload_n hx hb dX5_isInfinity_0 rfl (lv_at hl 1 rfl) ?_
  refine r_Si (As := [.int x]) (rest := []) C hM hS (c_isPoint l D kA N0 M x) gX5_isInfinity_X5_isPoint rfl rfl rfl ⟨by decide +kernel, by decide +kernel, (by decide +kernel : (parseMethodDescriptor yX5_isPoint.desc).map (fun d => d.parameters.length) = some 1)⟩ ⟨Nat.le_of_ble_eq_true rfl, Nat.le_of_ble_eq_true rfl⟩ hl.1 rfl (Nat.le_of_ble_eq_true rfl) dX5_isInfinity_1 ⟨Nat.le_of_ble_eq_true rfl, Nat.le_of_ble_eq_true rfl⟩ (fun v M1 H locs hp hM hS => ?_)
  obtain ⟨eM, hv⟩ := hp
  rw [eM] at hM
  refine lv_if_eq (tgt := 22) hx hb dX5_isInfinity_4 (by decide) (fun hc1 => ?_) (fun hc1 => ?_)
  · have hn : ¬ isPo x := by
      rcases hv with ⟨h1, h2⟩ | ⟨h1, h2⟩
      · rw [h1] at hc1; exact absurd hc1 (by decide)
      · exact h2
    refine lv_iconst (v := nI 0) hx hb dX5_isInfinity_22 (by decide) ?_
    exact r_zret C hM hS rfl (⟨by rw [if_neg (fun q => hn q.1)]; rfl, rfl⟩) dX5_isInfinity_23
  · have hn : isPo x := by
      rcases hv with ⟨h1, h2⟩ | ⟨h1, h2⟩
      · exact h2
      · exact absurd h1 hc1
    have hxr := po_ix hn
    have hxe := ix_eq (x := x) (by omega)
    have hl : lv_has ls 2 [(0, .ref h), (1, .int (nI (ix x)))] := by rw [← hxe]; exact hl
    refine lv_aload_n hx hb dX5_isInfinity_7 rfl (lv_at hl 0 rfl) ?_
    refine lv_iload_n hx hb dX5_isInfinity_8 rfl (lv_at hl 1 rfl) ?_
    refine r_VrQ (As := [.int (nI (ix x))]) (rest := []) C hM hS (c_pointIn l D kA N0 M h (ix x) S d hxr.1 hxr.2) (hob) rfl gX5_isInfinity_X5_pointIn rfl rfl rfl ⟨rfl, by decide +kernel, by decide +kernel, (by decide +kernel : (parseMethodDescriptor yX5_pointIn.desc).map (fun d => d.parameters.length) = some 1)⟩ ⟨Nat.le_of_ble_eq_true rfl, Nat.le_of_ble_eq_true rfl⟩ hl.1 rfl (Nat.le_of_ble_eq_true rfl) dX5_isInfinity_9 ⟨Nat.le_of_ble_eq_true rfl, Nat.le_of_ble_eq_true rfl⟩ (fun ra M3 H locs hp hM hS => ?_)
    obtain ⟨eM3, era⟩ := hp
    have eM3 : M3 = M := eM3
    have era : ra = (h + 7 + 3 * ((ix x) - 4)) := era
    rw [eM3] at hM
    rw [era]
    have hq := (d.po hxr.1 hxr.2).1
    have hpb := hsi.prb (ix x)
    refine x_get (v := .int (nI (1 - S.pr (ix x)))) hx hb hts in_X5_isInfinity_X2 hown hK hM (hq) rfl 2 (by decide) (hts (.fieldLink RX5 110 "LimbCurves$Point" "identity" "Z") (by decide +kernel)) (fun _ h9 => h9) rfl dX5_isInfinity_12 ?_
    refine r_if_eqN (tgt := 22) C (by omega) dX5_isInfinity_15 (by decide) (fun hc2 => ?_) (fun hc2 => ?_)
    · refine lv_iconst (v := nI 0) hx hb dX5_isInfinity_22 (by decide) ?_
      exact r_zret C hM hS rfl (⟨by rw [if_neg (fun q => by have := q.2; omega)]; rfl, rfl⟩) dX5_isInfinity_23
    · refine lv_iconst (v := nI 1) hx hb dX5_isInfinity_18 (by decide) ?_
      refine lv_goto (tgt := 23) hx hb dX5_isInfinity_19 (by decide) ?_
      exact r_zret C hM hS rfl (⟨by rw [if_pos ⟨hn, by omega⟩]; rfl, rfl⟩) dX5_isInfinity_23
set_option maxRecDepth 100000 in
theorem c_isSame (l : Launch) (D : va_G) (kA : Nat → ClassId) (N0 : Nat) (M : xM) (h : Nat) (S : St) (x y : Int32) (dk : Dk kA M h S) : cI l yX5_isSame wsX5_isSame (xR 2) [.ref h, .int x, .int y] D kA N0 M (fun v M1 => v = spSame S x y ∧ M1 = M) := by
  obtain ⟨hsi, d, ds⟩ := dk
  have hob := d.ob
  have hL9 := hsi.L9
  unfold spSame
  refine r_met (cc := cX5_isSame) (maxL := 3) (ret := (some .boolean)) (by decide) rfl (Nat.le_of_ble_eq_true rfl) ?_
  intro p e s m below meth c ls C hM hnm hl
  obtain ⟨hx, hb, hml, hown, hts, hr, hlocks, hK, hN⟩ := _root_.id C
  have hS : va_S (xA N0) s.heap s.heap [] := va_S.rf
  have hl : lv_has ls 3 [(0, .ref h), (1, .int x), (2, .int y)] := hl
  refine lv_iload_n hx hb dX5_isSame_0 rfl (lv_at hl 1 rfl) ?_
  refine r_Si (As := [.int x]) (rest := []) C hM hS (c_isPoint l D kA N0 M x) gX5_isSame_X5_isPoint rfl rfl rfl ⟨by decide +kernel, by decide +kernel, (by decide +kernel : (parseMethodDescriptor yX5_isPoint.desc).map (fun d => d.parameters.length) = some 1)⟩ ⟨Nat.le_of_ble_eq_true rfl, Nat.le_of_ble_eq_true rfl⟩ hl.1 rfl (Nat.le_of_ble_eq_true rfl) dX5_isSame_1 ⟨Nat.le_of_ble_eq_true rfl, Nat.le_of_ble_eq_true rfl⟩ (fun v M1 H locs hp hM hS => ?_)
  obtain ⟨eM, hv⟩ := hp
  rw [eM] at hM
  refine lv_if_eq (tgt := 34) hx hb dX5_isSame_4 (by decide) (fun hc1 => ?_) (fun hc1 => ?_)
  · have hn : ¬ isPo x := by
      rcases hv with ⟨h1, h2⟩ | ⟨h1, h2⟩
      · rw [h1] at hc1; exact absurd hc1 (by decide)
      · exact h2
    refine lv_iconst (v := nI 0) hx hb dX5_isSame_34 (by decide) ?_
    exact r_zret C hM hS rfl (⟨by rw [if_neg (fun q => hn q.1)]; rfl, rfl⟩) dX5_isSame_35
  · have hn : isPo x := by
      rcases hv with ⟨h1, h2⟩ | ⟨h1, h2⟩
      · exact h2
      · exact absurd h1 hc1
    refine lv_iload_n hx hb dX5_isSame_7 rfl (lv_at hl 2 rfl) ?_
    refine r_Si (As := [.int y]) (rest := []) C hM hS (c_isPoint l D kA N0 M y) gX5_isSame_X5_isPoint rfl rfl rfl ⟨by decide +kernel, by decide +kernel, (by decide +kernel : (parseMethodDescriptor yX5_isPoint.desc).map (fun d => d.parameters.length) = some 1)⟩ ⟨Nat.le_of_ble_eq_true rfl, Nat.le_of_ble_eq_true rfl⟩ hl.1 rfl (Nat.le_of_ble_eq_true rfl) dX5_isSame_8 ⟨Nat.le_of_ble_eq_true rfl, Nat.le_of_ble_eq_true rfl⟩ (fun v2 M1 H locs hp hM hS => ?_)
    obtain ⟨eM2, hv2⟩ := hp
    rw [eM2] at hM
    refine lv_if_eq (tgt := 34) hx hb dX5_isSame_11 (by decide) (fun hc2 => ?_) (fun hc2 => ?_)
    · have hn2 : ¬ isPo y := by
        rcases hv2 with ⟨h1, h2⟩ | ⟨h1, h2⟩
        · rw [h1] at hc2; exact absurd hc2 (by decide)
        · exact h2
      refine lv_iconst (v := nI 0) hx hb dX5_isSame_34 (by decide) ?_
      exact r_zret C hM hS rfl (⟨by rw [if_neg (fun q => hn2 q.2.1)]; rfl, rfl⟩) dX5_isSame_35
    · have hn2 : isPo y := by
        rcases hv2 with ⟨h1, h2⟩ | ⟨h1, h2⟩
        · exact h2
        · exact absurd h1 hc2
      have hxr := po_ix hn
      have hxe := ix_eq (x := x) (by omega)
      have hyr := po_ix hn2
      have hye := ix_eq (x := y) (by omega)
      have hl : lv_has ls 3 [(0, .ref h), (1, .int (nI (ix x))), (2, .int (nI (ix y)))] := by rw [← hxe, ← hye]; exact hl
      refine lv_aload_n hx hb dX5_isSame_14 rfl (lv_at hl 0 rfl) ?_
      refine lv_iload_n hx hb dX5_isSame_15 rfl (lv_at hl 1 rfl) ?_
      refine r_VrQ (As := [.int (nI (ix x))]) (rest := []) C hM hS (c_pointIn l D kA N0 M h (ix x) S d hxr.1 hxr.2) (hob) rfl gX5_isSame_X5_pointIn rfl rfl rfl ⟨rfl, by decide +kernel, by decide +kernel, (by decide +kernel : (parseMethodDescriptor yX5_pointIn.desc).map (fun d => d.parameters.length) = some 1)⟩ ⟨Nat.le_of_ble_eq_true rfl, Nat.le_of_ble_eq_true rfl⟩ hl.1 rfl (Nat.le_of_ble_eq_true rfl) dX5_isSame_16 ⟨Nat.le_of_ble_eq_true rfl, Nat.le_of_ble_eq_true rfl⟩ (fun ra M3 H locs hp hM hS => ?_)
      obtain ⟨eM3, era⟩ := hp
      have eM3 : M3 = M := eM3
      have era : ra = (h + 7 + 3 * ((ix x) - 4)) := era
      rw [eM3] at hM
      rw [era]
      refine lv_aload_n hx hb dX5_isSame_19 rfl (lv_at hl 0 rfl) ?_
      refine lv_iload_n hx hb dX5_isSame_20 rfl (lv_at hl 2 rfl) ?_
      refine r_VrQ (As := [.int (nI (ix y))]) (rest := [.ref (h + 7 + 3 * ((ix x) - 4))]) C hM hS (c_pointIn l D kA N0 M h (ix y) S d hyr.1 hyr.2) (hob) rfl gX5_isSame_X5_pointIn rfl rfl rfl ⟨rfl, by decide +kernel, by decide +kernel, (by decide +kernel : (parseMethodDescriptor yX5_pointIn.desc).map (fun d => d.parameters.length) = some 1)⟩ ⟨Nat.le_of_ble_eq_true rfl, Nat.le_of_ble_eq_true rfl⟩ hl.1 rfl (Nat.le_of_ble_eq_true rfl) dX5_isSame_21 ⟨Nat.le_of_ble_eq_true rfl, Nat.le_of_ble_eq_true rfl⟩ (fun rb M4 H locs hp hM hS => ?_)
      obtain ⟨eM4, erb⟩ := hp
      have eM4 : M4 = M := eM4
      have erb : rb = (h + 7 + 3 * ((ix y) - 4)) := erb
      rw [eM4] at hM
      rw [erb]
      have hpx := d.po hxr.1 hxr.2
      have hpy := d.po hyr.1 hyr.2
      have hbx := hsi.prb (ix x)
      have hby := hsi.prb (ix y)
      have hqx := hpx.1
      refine r_Vi (As := [.ref (h + 7 + 3 * ((ix y) - 4))]) (rest := []) C hM hS (c_sameAs l D kA N0 M ((h + 7 + 3 * ((ix x) - 4))) ((h + 7 + 3 * ((ix y) - 4))) S.L (S.a (ix x)) (S.b (ix x)) (S.a (ix y)) (S.b (ix y)) (1 - S.pr (ix x)) (1 - S.pr (ix y)) hpx.1 hpy.1 hpx.2.1 hpx.2.2 hpy.2.1 hpy.2.2 (by omega) (by omega) (by omega)) (hqx) rfl gX5_isSame_X2_sameAs rfl rfl rfl ⟨rfl, by decide +kernel, by decide +kernel, (by decide +kernel : (parseMethodDescriptor yX2_sameAs.desc).map (fun d => d.parameters.length) = some 1)⟩ ⟨Nat.le_of_ble_eq_true rfl, Nat.le_of_ble_eq_true rfl⟩ hl.1 rfl (Nat.le_of_ble_eq_true rfl) dX5_isSame_24 ⟨Nat.le_of_ble_eq_true rfl, Nat.le_of_ble_eq_true rfl⟩ (fun v5 M5 H locs hp hM hS => ?_)
      obtain ⟨eM5, hv5⟩ := hp
      rw [eM5] at hM
      refine lv_if_eq (tgt := 34) hx hb dX5_isSame_27 (by decide) (fun hc5 => ?_) (fun hc5 => ?_)
      · have hno : ¬ (isPo x ∧ isPo y ∧ S.pr (ix x) = S.pr (ix y) ∧ S.a (ix x) = S.a (ix y) ∧ S.b (ix x) = S.b (ix y)) := fun q => by
          rcases hv5 with ⟨h1, h2⟩ | ⟨h1, h2⟩
          · rw [h1] at hc5; exact absurd hc5 (by decide)
          · exact h2 ⟨by have := q.2.2.1; omega, q.2.2.2.1, q.2.2.2.2⟩
        refine lv_iconst (v := nI 0) hx hb dX5_isSame_34 (by decide) ?_
        exact r_zret C hM hS rfl (⟨by rw [if_neg hno]; rfl, rfl⟩) dX5_isSame_35
      · have hyes : isPo x ∧ isPo y ∧ S.pr (ix x) = S.pr (ix y) ∧ S.a (ix x) = S.a (ix y) ∧ S.b (ix x) = S.b (ix y) := by
          rcases hv5 with ⟨h1, h2⟩ | ⟨h1, h2⟩
          · exact ⟨hn, hn2, by have := h2.1; omega, h2.2.1, h2.2.2⟩
          · exact absurd h1 hc5
        refine lv_iconst (v := nI 1) hx hb dX5_isSame_30 (by decide) ?_
        refine lv_goto (tgt := 35) hx hb dX5_isSame_31 (by decide) ?_
        exact r_zret C hM hS rfl (⟨by rw [if_pos hyes]; rfl, rfl⟩) dX5_isSame_35
end CL3
