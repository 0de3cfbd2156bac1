theorem in_X6_isGood_X6 : ∀ w ∈ wsX60, w ∈ wsX6_isGood := by decide +kernel
theorem in_X6_seal_X6 : ∀ w ∈ wsX60, w ∈ wsX6_seal := by decide +kernel
section NM16
variable {p : Program} {l : Launch} {e : Env} {R : Room} {s : State} {m : MethodId} {args : Array Value} {below : List Frame} {meth : Method} {c : Code} {Q : State → Prop} {cells slots : Nat} {ret : Option FieldType} {D : va_G} {kA : Nat → ClassId} {N0 : Nat}
theorem Mk.mz {kA : Nat → ClassId} {M : xM} {g : Nat} {S : St} (h : Mk kA M g S) : ∃ N Z, MZ kA M M g (BS S) N Z := by
  obtain ⟨⟨us, h0⟩, -, -, hw⟩ := h
  exact hw.mz h0
/-- a point was judged good: what lies in the numbers now -/
def GD (S : St) (N' : Nat → Nat) (Z' : Nat → Int32) (pt9 x : Nat) : Prop := N' 0 = S.a 0 ∧ N' 1 = S.a 1 ∧ N' 2 = S.a 2 ∧ N' 3 = S.a 3 ∧ N' 4 = 1 ∧ Z' pt9 = nI (1 - S.pr x) ∧ N' (20 + 2 * pt9) = S.a x ∧ N' (20 + 2 * pt9 + 1) = S.b x ∧ PV (kp S) N' Z' pt9 (pt S x)
set_option maxRecDepth 100000 in
theorem c6_isGood (l : Launch) (D : va_G) (kA : Nat → ClassId) (N0 : Nat) (M0 M : xM) (g pt9 : Nat) (S : St) (x : Int32) (N : Nat → Nat) (Z : Nat → Int32) (hsi : Si S) (mk : Mk kA M0 g S) (hz : MZ kA M0 M g (BS S) N Z) (hpt : pt9 < 5) : cI l yX6_isGood wsX6_isGood (xR 5) [.ref g, .int (nI pt9), .int x] D kA N0 M (fun r M1 => ∃ N' Z', MZ kA M0 M1 g (BS S) N' Z' ∧ (∀ j, 13 < j → j ≠ 20 + 2 * pt9 → j ≠ 20 + 2 * pt9 + 1 → N' j = N j) ∧ (∀ i, i ≠ pt9 → Z' i = Z i) ∧ ((r = 1 ∧ good S x ∧ GD S N' Z' pt9 (ix x)) ∨ (r = 0 ∧ ¬ good S x))) := by
  have hL0 := hsi.L1
  have hL9 := hsi.L9
  have hsl := hsi.sl
  obtain ⟨us, hob⟩ := hz.ob
  obtain ⟨-, ⟨f, hf, nf, hmf⟩, ⟨z, hz2, hmz⟩, hw⟩ := mk
  refine r_mZ (cc := cX6_isGood) (maxL := 3) (by decide) rfl (Nat.le_of_ble_eq_true rfl) ?_
  intro p e s m below meth c ls A0 Qp C hM hnm hl hend
  obtain ⟨hx, hb, hml, hown, hts, hr, hlocks, hK, hN⟩ := _root_.id C
  have hS : va_S (xA N0) s.heap s.heap [] := va_S.rf
  have hl : lv_has ls 3 [(0, .ref g), (1, .int (nI pt9)), (2, .int x)] := hl
  have hF : ∀ (H : Heap) (locs : List Loc) (ls : Array Slot), ¬ good S x → xW D vwCl N0 M H → va_S (xA N0) s.heap H locs → lv_has ls 3 [(0, .ref g), (1, .int (nI pt9)), (2, .int x)] → W p l e (xR 5) s m A0 below meth c H locs 0 0 Qp (F0 m 14 ls []) := by
    intro H locs ls hq hM hS hl
    refine lv_iconst (v := nI 0) hx hb dX6_isGood_14 (by decide) ?_
    exact hend _ _ _ _ _ _ hM hS (by decide) (⟨N, Z, hz, fun _ _ _ _ => rfl, fun _ _ => rfl, Or.inr ⟨rfl, hq⟩⟩) dX6_isGood_15
  refine lv_aload_n hx hb dX6_isGood_0 rfl (lv_at hl 0 rfl) ?_
  refine x_get (v := .int (nI S.sealed)) hx hb hts in_X6_isGood_X6 hown hK hM (hob) rfl 3 (by decide) (hts (.fieldLink RX6 43 "LimbCurvesModel" "sealed" "Z") (by decide +kernel)) (fun _ h9 => h9) rfl dX6_isGood_1 ?_
  refine r_if_eqN (tgt := 14) C (by omega) dX6_isGood_4 (by decide) (fun hc => ?_) (fun hc => ?_)
  · exact hF _ _ ls (fun q => by have := q.1; omega) hM hS hl
  · have hs1 : S.sealed = 1 := by omega
    obtain ⟨g1, g2, g3, g4, g5⟩ := hsi.sg hs1
    refine lv_iload_n hx hb dX6_isGood_7 rfl (lv_at hl 2 rfl) ?_
    refine r_Si (As := [.int x]) (rest := []) C hM hS (c6_isPoint l D kA N0 M x) gX6_isGood_X6_isPoint rfl rfl rfl ⟨by decide +kernel, by decide +kernel, (by decide +kernel : (parseMethodDescriptor yX6_isPoint.desc).map (fun d => d.parameters.length) = some 1)⟩ ⟨Nat.le_of_ble_eq_true rfl, Nat.le_of_ble_eq_true rfl⟩ hl.1 rfl (Nat.le_of_ble_eq_true rfl) dX6_isGood_8 ⟨Nat.le_of_ble_eq_true rfl, Nat.le_of_ble_eq_true rfl⟩ (fun v M1 H locs hp hM hS => ?_)
    obtain ⟨eM, hv⟩ := hp
    rw [eM] at hM
    refine lv_if_ne (tgt := 16) hx hb dX6_isGood_11 (by decide) (fun hc1 => ?_) (fun hc1 => ?_)
    · have hn : isPo x := by
        rcases hv with ⟨h1, h2⟩ | ⟨h1, h2⟩
        · exact h2
        · exact absurd h1 hc1
      have hxr := po_ix hn
      have hxe := ix_eq (x := x) (by omega)
      have hl : lv_has ls 3 [(0, .ref g), (1, .int (nI pt9)), (2, .int (nI (ix x)))] := by rw [← hxe]; exact hl
      have hpb := hsi.prb (ix x)
      have hp9 : S.a 0 < BB ^ 9 := Nat.lt_of_lt_of_le (hsi.ab 0) (Nat.pow_le_pow_right (by decide) hL9)
      obtain ⟨ga, gb⟩ := hmf (ix x) (by omega)
      have gb := gb hxr.1 hxr.2
      obtain ⟨M00, hm, hz0, hf0⟩ := hz
      have h01 : M (g + 1) = some (xI (kA 0) 360 f) := by rw [hm.at4 (by omega) (by omega) (by omega) (by omega) (by omega), hf0 _ (by omega)]; exact hf
      refine lv_aload_n hx hb dX6_isGood_16 rfl (lv_at hl 0 rfl) ?_
      refine r_Vv (As := []) (rest := []) C hM hS (c6_loadParameters l D kA N0 M00 M g S.L (BS S) N f hm h01 nf rfl hL9) (hob) rfl gX6_isGood_X6_loadParameters rfl rfl rfl ⟨rfl, by decide +kernel, by decide +kernel, (by decide +kernel : (parseMethodDescriptor yX6_loadParameters.desc).map (fun d => d.parameters.length) = some 0)⟩ ⟨Nat.le_of_ble_eq_true rfl, Nat.le_of_ble_eq_true rfl⟩ hl.1 rfl (Nat.le_of_ble_eq_true rfl) dX6_isGood_17 ⟨Nat.le_of_ble_eq_true rfl, Nat.le_of_ble_eq_true rfl⟩ (fun M2 H locs hp hM hS => ?_)
      obtain ⟨N2, hm2, q1, q2, q3⟩ := hp
      have hz3 : MZ kA M0 M2 g (BS S) N2 Z := ⟨M00, hm2, hz0, hf0⟩
      obtain ⟨us2, hob2⟩ := hm2.1
      have k0 : N2 0 = S.a 0 := by rw [q1 0 (by omega)]; exact (hmf 0 (by omega)).1
      have k1 : N2 1 = S.a 1 := by rw [q1 1 (by omega)]; exact (hmf 1 (by omega)).1
      have k2 : N2 2 = S.a 2 := by rw [q1 2 (by omega)]; exact (hmf 2 (by omega)).1
      have k3 : N2 3 = S.a 3 := by rw [q1 3 (by omega)]; exact (hmf 3 (by omega)).1
      refine lv_aload_n hx hb dX6_isGood_20 rfl (lv_at hl 0 rfl) ?_
      refine lv_iload_n hx hb dX6_isGood_21 rfl (lv_at hl 1 rfl) ?_
      refine lv_iload_n hx hb dX6_isGood_22 rfl (lv_at hl 2 rfl) ?_
      refine r_Vv (As := [.int (nI pt9), .int (nI (ix x))]) (rest := []) C hM hS (c6_loadPoint l D kA N0 M0 M2 g pt9 (ix x) S.L (S.pr (ix x)) (BS S) N2 Z f z hz3 hpt (by omega) hf nf hz2 (hmz _ hxr.1 hxr.2) hpb rfl hL9) (hob2) rfl gX6_isGood_X6_loadPoint rfl rfl rfl ⟨rfl, by decide +kernel, by decide +kernel, (by decide +kernel : (parseMethodDescriptor yX6_loadPoint.desc).map (fun d => d.parameters.length) = some 2)⟩ ⟨Nat.le_of_ble_eq_true rfl, Nat.le_of_ble_eq_true rfl⟩ hl.1 rfl (Nat.le_of_ble_eq_true rfl) dX6_isGood_23 ⟨Nat.le_of_ble_eq_true rfl, Nat.le_of_ble_eq_true rfl⟩ (fun M3 H locs hp hM hS => ?_)
      obtain ⟨N3, hz4, e1, e2, e3⟩ := hp
      rw [ga] at e1
      rw [gb] at e2
      obtain ⟨us3, hob3⟩ := hz4.ob
      have hzz : upd Z pt9 (nI (1 - S.pr (ix x))) pt9 = nI (1 - S.pr (ix x)) := pk_us
      have hz01 : upd Z pt9 (nI (1 - S.pr (ix x))) pt9 = 0 ∨ upd Z pt9 (nI (1 - S.pr (ix x))) pt9 = 1 := by
        rw [hzz]
        rcases Nat.le_one_iff_eq_zero_or_eq_one.mp hpb with q | q
        · exact Or.inr (by rw [q]; rfl)
        · exact Or.inl (by rw [q]; rfl)
      refine lv_aload_n hx hb dX6_isGood_26 rfl (lv_at hl 0 rfl) ?_
      refine lv_iload_n hx hb dX6_isGood_27 rfl (lv_at hl 1 rfl) ?_
      refine r_Vi (As := [.int (nI pt9)]) (rest := []) C hM hS (c6_isOn l D kA N0 M0 M3 g pt9 (S.a 0) (S.a 1) (S.a 2) (S.a (ix x)) (S.b (ix x)) (BS S) N3 _ hz4 hpt hz01 (by rw [e3 0 (by omega) (by omega)]; exact k0) (by rw [e3 1 (by omega) (by omega)]; exact k1) (by rw [e3 2 (by omega) (by omega)]; exact k2) e1 e2 g3 g4 hp9) (hob3) rfl gX6_isGood_X6_isOn rfl rfl rfl ⟨rfl, by decide +kernel, by decide +kernel, (by decide +kernel : (parseMethodDescriptor yX6_isOn.desc).map (fun d => d.parameters.length) = some 1)⟩ ⟨Nat.le_of_ble_eq_true rfl, Nat.le_of_ble_eq_true rfl⟩ hl.1 rfl (Nat.le_of_ble_eq_true rfl) dX6_isGood_28 ⟨Nat.le_of_ble_eq_true rfl, Nat.le_of_ble_eq_true rfl⟩ (fun r M4 H locs hp hM hS => ?_)
      obtain ⟨N4, hz5, hfr5, hr⟩ := hp
      rw [hzz] at hr
      have h1p : nI (1 - S.pr (ix x)) = 1 ↔ S.pr (ix x) = 0 := by
        rcases Nat.le_one_iff_eq_zero_or_eq_one.mp hpb with q | q
        · rw [q]; exact ⟨fun _ => rfl, fun _ => rfl⟩
        · rw [q]; exact ⟨fun h9 => absurd h9 (by decide), fun h9 => absurd h9 (by decide)⟩
      have h01r : r = 0 ∨ r = 1 := by
        rcases hr with ⟨q, -⟩ | ⟨q, -⟩
        · exact Or.inr q
        · exact Or.inl q
      have hfrN : ∀ j, 13 < j → j ≠ 20 + 2 * pt9 → j ≠ 20 + 2 * pt9 + 1 → N4 j = N j := fun j j1 j2 j3 => by rw [hfr5 j (by omega), e3 j j2 j3, q3 j (by omega)]
      have hfrZ : ∀ i, i ≠ pt9 → upd Z pt9 (nI (1 - S.pr (ix x))) i = Z i := fun i hi => pk_un hi
      have m0 : N4 0 = S.a 0 := by rw [hfr5 0 (by omega), e3 0 (by omega) (by omega)]; exact k0
      have m1 : N4 1 = S.a 1 := by rw [hfr5 1 (by omega), e3 1 (by omega) (by omega)]; exact k1
      have m2 : N4 2 = S.a 2 := by rw [hfr5 2 (by omega), e3 2 (by omega) (by omega)]; exact k2
      have m3 : N4 3 = S.a 3 := by rw [hfr5 3 (by omega), e3 3 (by omega) (by omega)]; exact k3
      have m4 : N4 4 = 1 := by rw [hfr5 4 (by omega), e3 4 (by omega) (by omega)]; exact q2
      have mx : N4 (20 + 2 * pt9) = S.a (ix x) := by rw [hfr5 _ (by omega)]; exact e1
      have my : N4 (20 + 2 * pt9 + 1) = S.b (ix x) := by rw [hfr5 _ (by omega)]; exact e2
      have hpost : (r = 1 ∧ good S x ∧ GD S N4 (upd Z pt9 (nI (1 - S.pr (ix x)))) pt9 (ix x)) ∨ (r = 0 ∧ ¬ good S x) := by
        rcases hr with ⟨er, hr⟩ | ⟨er, hr⟩
        · refine Or.inl ⟨er, ⟨hs1, hn, ?_⟩, m0, m1, m2, m3, m4, hzz, mx, my, ?_⟩
          · rcases hr with hr | hr
            · exact Or.inl (h1p.mp hr)
            · exact Or.inr hr
          · unfold PV pt
            rw [hzz, mx, my]
            rcases Nat.le_one_iff_eq_zero_or_eq_one.mp hpb with q | q
            · rw [if_pos q, q]
              exact Or.inl ⟨rfl, rfl⟩
            · rw [if_neg (by omega), q]
              have hon : onN (S.a 0) (S.a 1) (S.a 2) (S.a (ix x)) (S.b (ix x)) := by
                rcases hr with hr | hr
                · have := h1p.mp hr; omega
                · exact hr
              have hk1 : kp S + 1 = S.a 0 := by unfold kp; omega
              exact Or.inr ⟨rfl, by rw [hk1]; exact hon.1, by rw [hk1]; exact hon.2.1, rfl⟩
        · refine Or.inr ⟨er, fun q => hr ?_⟩
          rcases q.2.2 with q1 | q1
          · exact Or.inl (h1p.mpr q1)
          · exact Or.inr q1
      exact hend _ _ _ _ _ _ hM hS (h01r) (⟨N4, _, hz5, hfrN, hfrZ, hpost⟩) dX6_isGood_31
    · have hn : ¬ isPo x := by
        rcases hv with ⟨h1, h2⟩ | ⟨h1, h2⟩
        · rw [h1] at hc1; exact absurd hc1 (by decide)
        · exact h2
      exact hF _ _ ls (fun q => hn q.2.1) hM hS hl
set_option maxRecDepth 100000 in
theorem c6_onCurve (l : Launch) (D : va_G) (kA : Nat → ClassId) (N0 : Nat) (M : xM) (g : Nat) (S : St) (x : Int32) (hsi : Si S) (mk : Mk kA M g S) : cI l yX6_onCurve wsX6_onCurve (xR 6) [.ref g, .int x] D kA N0 M (fun v M1 => v = spOn S x ∧ Mk kA M1 g S ∧ ∀ b, b < g ∨ g + 7 < b → M1 b = M b) := by
  obtain ⟨N, Z, hz⟩ := mk.mz
  obtain ⟨us, hob⟩ := hz.ob
  refine r_mZ (cc := cX6_onCurve) (maxL := 2) (by decide) rfl (Nat.le_of_ble_eq_true rfl) ?_
  intro p e s m below meth c ls A0 Qp C hM hnm hl hend
  obtain ⟨hx, hb, hml, hown, hts, hr, hlocks, hK, hN⟩ := _root_.id C
  have hS : va_S (xA N0) s.heap s.heap [] := va_S.rf
  have hl : lv_has ls 2 [(0, .ref g), (1, .int x)] := hl
  refine lv_aload_n hx hb dX6_onCurve_0 rfl (lv_at hl 0 rfl) ?_
  refine lv_iconst (v := nI 0) hx hb dX6_onCurve_1 (by decide) ?_
  refine lv_iload_n hx hb dX6_onCurve_2 rfl (lv_at hl 1 rfl) ?_
  refine r_Vi (As := [.int (nI 0), .int x]) (rest := []) C hM hS (c6_isGood l D kA N0 M M g 0 S x N Z hsi mk hz (by omega)) (hob) rfl gX6_onCurve_X6_isGood rfl rfl rfl ⟨rfl, by decide +kernel, by decide +kernel, (by decide +kernel : (parseMethodDescriptor yX6_isGood.desc).map (fun d => d.parameters.length) = some 2)⟩ ⟨Nat.le_of_ble_eq_true rfl, Nat.le_of_ble_eq_true rfl⟩ hl.1 rfl (Nat.le_of_ble_eq_true rfl) dX6_onCurve_3 ⟨Nat.le_of_ble_eq_true rfl, Nat.le_of_ble_eq_true rfl⟩ (fun r M1 H locs hp hM hS => ?_)
  obtain ⟨N1, Z1, hz1, -, -, hr⟩ := hp
  have hms := mk.scr hz1
  have hsp : r = spOn S x := by
    unfold spOn
    rcases hr with ⟨er, hr, -⟩ | ⟨er, hr⟩
    · rw [if_pos hr]; exact er
    · rw [if_neg hr]; exact er
  have h01r : r = 0 ∨ r = 1 := by
    rcases hr with ⟨q, -⟩ | ⟨q, -⟩
    · exact Or.inr q
    · exact Or.inl q
  exact hend _ _ _ _ _ _ hM hS (h01r) (⟨hsp, hms⟩) dX6_onCurve_6
set_option maxRecDepth 100000 in
theorem c6_seal (l : Launch) (D : va_G) (kA : Nat → ClassId) (N0 : Nat) (M : xM) (g : Nat) (S : St) (hsi : Si S) (mk : Mk kA M g S) : cI l yX6_seal wsX6_seal (xR 4) [.ref g] D kA N0 M (fun v M1 => v = (spSeal S).1 ∧ Mk kA M1 g (spSeal S).2 ∧ ∀ b, b < g ∨ g + 7 < b → M1 b = M b) := by
  have hL0 := hsi.L1
  have hL9 := hsi.L9
  have hsl := hsi.sl
  have mk0 := mk
  obtain ⟨N, Z, hz⟩ := mk.mz
  obtain ⟨us, hob⟩ := hz.ob
  obtain ⟨-, ⟨f, hf, nf, hmf⟩, -, -⟩ := mk
  obtain ⟨M00, hm, hz0, hf0⟩ := hz
  obtain ⟨PP, ePP⟩ : ∃ q, S.a 0 = q := ⟨_, rfl⟩
  obtain ⟨AA, eAA⟩ : ∃ q, S.a 1 = q := ⟨_, rfl⟩
  obtain ⟨bb, ebb⟩ : ∃ q, S.a 2 = q := ⟨_, rfl⟩
  have hp9 : PP < BB ^ 9 := by rw [← ePP]; exact Nat.lt_of_lt_of_le (hsi.ab 0) (Nat.pow_le_pow_right (by decide) hL9)
  have hgd : S.sealed = 1 → PP % 2 = 1 ∧ 3 < PP ∧ AA < PP ∧ bb < PP ∧ dsc (PP - 1) AA bb ≠ 0 := fun q => by
    have := hsi.sg q
    unfold goodP gP at this
    rw [ePP, eAA, ebb] at this
    exact this
  have hs4 : S.sealed = 1 → spSeal S = (nI 4, S) := fun h1 => by unfold spSeal; rw [if_pos h1]
  have hs1 : ¬ S.sealed = 1 → (PP % 2 = 0 ∨ PP ≤ 3) → spSeal S = (nI 1, S) := fun h1 h2 => by subst ePP eAA ebb; unfold spSeal; rw [if_neg h1, if_pos h2]
  have hs2 : ¬ S.sealed = 1 → ¬ (PP % 2 = 0 ∨ PP ≤ 3) → (PP ≤ AA ∨ PP ≤ bb) → spSeal S = (nI 2, S) := fun h1 h2 h3 => by subst ePP eAA ebb; unfold spSeal; rw [if_neg h1, if_neg h2, if_pos h3]
  have hs3 : ¬ S.sealed = 1 → ¬ (PP % 2 = 0 ∨ PP ≤ 3) → ¬ (PP ≤ AA ∨ PP ≤ bb) → dsc (PP - 1) AA bb = 0 → spSeal S = (nI 3, S) := fun h1 h2 h3 h4 => by subst ePP eAA ebb; unfold spSeal; rw [if_neg h1, if_neg h2, if_neg h3, if_pos h4]
  have hs0 : ¬ S.sealed = 1 → ¬ (PP % 2 = 0 ∨ PP ≤ 3) → ¬ (PP ≤ AA ∨ PP ≤ bb) → ¬ dsc (PP - 1) AA bb = 0 → spSeal S = (nI 0, if S.fed < 4 then (mkS S.L S.a S.b S.pr 1 20 0) else (mkS S.L S.a S.b S.pr 1 S.fed S.fl)) := fun h1 h2 h3 h4 => by subst ePP eAA ebb; unfold spSeal; rw [if_neg h1, if_neg h2, if_neg h3, if_neg h4]
  refine r_mI (cc := cX6_seal) (maxL := 1) (by decide) rfl (Nat.le_of_ble_eq_true rfl) ?_
  intro p e s m below meth c ls A0 Qp C hM hnm hl hend
  obtain ⟨hx, hb, hml, hown, hts, hr, hlocks, hK, hN⟩ := _root_.id C
  have hS : va_S (xA N0) s.heap s.heap [] := va_S.rf
  have hl : lv_has ls 1 [(0, .ref g)] := hl
  refine lv_aload_n hx hb dX6_seal_0 rfl (lv_at hl 0 rfl) ?_
  refine r_Vv (As := []) (rest := []) C hM hS (c6_loadParameters l D kA N0 M00 M g S.L (BS S) N f hm hf nf rfl hL9) (hob) rfl gX6_seal_X6_loadParameters rfl rfl rfl ⟨rfl, by decide +kernel, by decide +kernel, (by decide +kernel : (parseMethodDescriptor yX6_loadParameters.desc).map (fun d => d.parameters.length) = some 0)⟩ ⟨Nat.le_of_ble_eq_true rfl, Nat.le_of_ble_eq_true rfl⟩ hl.1 rfl (Nat.le_of_ble_eq_true rfl) dX6_seal_1 ⟨Nat.le_of_ble_eq_true rfl, Nat.le_of_ble_eq_true rfl⟩ (fun M2 H locs hp hM hS => ?_)
  obtain ⟨N2, hm, q1, q2, q3⟩ := hp
  have n_0 : N2 0 = PP := by rw [q1 0 (by omega), ← ePP]; exact (hmf 0 (by omega)).1
  have n_1 : N2 1 = AA := by rw [q1 1 (by omega), ← eAA]; exact (hmf 1 (by omega)).1
  have n_2 : N2 2 = bb := by rw [q1 2 (by omega), ← ebb]; exact (hmf 2 (by omega)).1
  have hend2 : ∀ {v : Int32} {N9 : Nat → Nat} {M9 : xM} {H : Heap} {locs : List Loc} {ls : Array Slot} {pc : Nat}, MN kA M00 M9 g (BS S) N9 → xW D vwCl N0 M9 H → va_S (xA N0) s.heap H locs → spSeal S = (v, S) → decode cX6_seal pc = .ok (.ireturn, 1) → W p l e (xR 4) s m A0 below meth c H locs 0 0 Qp (F0 m pc ls [.int v]) := by
    intro v N9 M9 H locs ls pc h1 h2 h3 h5 h6
    have h7 := mk0.scr (N := N9) (Z := Z) ⟨M00, h1, hz0, hf0⟩
    exact hend _ M9 _ _ _ _ h2 h3 (by rw [h5]; exact ⟨rfl, h7⟩) h6
  refine lv_aload_n hx hb dX6_seal_4 rfl (lv_at hl 0 rfl) ?_
  refine lv_iconst (v := nI 5) hx hb dX6_seal_5 (by decide) ?_
  refine lv_iconst (v := nI 3) hx hb dX6_seal_6 (by decide) ?_
  obtain ⟨us9, hob9⟩ := hm.1
  refine r_Vv (As := [.int (nI 5), .int (nI 3)]) (rest := []) C hM hS (c6_smallV l D kA N0 _ _ g 5 3  _ _ hm (by omega) (by omega) (by omega)) (hob9) rfl gX6_seal_X6_small rfl rfl rfl ⟨rfl, by decide +kernel, by decide +kernel, (by decide +kernel : (parseMethodDescriptor yX6_small.desc).map (fun d => d.parameters.length) = some 2)⟩ ⟨Nat.le_of_ble_eq_true rfl, Nat.le_of_ble_eq_true rfl⟩ hl.1 rfl (Nat.le_of_ble_eq_true rfl) dX6_seal_7 ⟨Nat.le_of_ble_eq_true rfl, Nat.le_of_ble_eq_true rfl⟩ (fun M1 H locs hp9 hM hS => ?_)
  obtain ⟨N9, hm, un9⟩ := hp9
  obtain ⟨w1, ew1⟩ : ∃ q, q = 3 := ⟨_, rfl⟩
  rw [← ew1] at un9
  have n_w1 := un9.1
  have n_0 := un9.k n_0 (by omega) (by omega)
  have n_1 := un9.k n_1 (by omega) (by omega)
  have n_2 := un9.k n_2 (by omega) (by omega)
  refine lv_aload_n hx hb dX6_seal_10 rfl (lv_at hl 0 rfl) ?_
  refine lv_iconst (v := nI 0) hx hb dX6_seal_11 (by decide) ?_
  obtain ⟨us9, hob9⟩ := hm.1
  refine r_Vi (As := [.int (nI 0)]) (rest := []) C hM hS (c6_isOdd l D kA N0 _ _ g 0 _ _ hm (by omega)) (hob9) rfl gX6_seal_X6_isOdd rfl rfl rfl ⟨rfl, by decide +kernel, by decide +kernel, (by decide +kernel : (parseMethodDescriptor yX6_isOdd.desc).map (fun d => d.parameters.length) = some 1)⟩ ⟨Nat.le_of_ble_eq_true rfl, Nat.le_of_ble_eq_true rfl⟩ hl.1 rfl (Nat.le_of_ble_eq_true rfl) dX6_seal_12 ⟨Nat.le_of_ble_eq_true rfl, Nat.le_of_ble_eq_true rfl⟩ (fun rd M9 H locs hp9 hM hS => ?_)
  obtain ⟨eM9, hrd⟩ := hp9
  rw [eM9] at hM
  rw [n_0] at hrd
  -- the first refusal
  have h1F : ∀ (N9 : Nat → Nat) (M9 : xM) (H : Heap) (locs : List Loc) (ls : Array Slot), (PP % 2 = 0 ∨ PP ≤ 3) → MN kA M00 M9 g (BS S) N9 → xW D vwCl N0 M9 H → va_S (xA N0) s.heap H locs → lv_has ls 1 [(0, .ref g)] → W p l e (xR 4) s m A0 below meth c H locs 0 0 Qp (F0 m 27 ls []) := by
    intro N9 M9 H locs ls hq hm hM hS hl
    have hns : ¬ S.sealed = 1 := fun q => by have := hgd q; omega
    refine lv_iconst (v := nI 1) hx hb dX6_seal_27 (by decide) ?_
    exact hend2 hm hM hS (hs1 hns hq) dX6_seal_28
  have h2F : ∀ (N9 : Nat → Nat) (M9 : xM) (H : Heap) (locs : List Loc) (ls : Array Slot), ¬ (PP % 2 = 0 ∨ PP ≤ 3) → (PP ≤ AA ∨ PP ≤ bb) → MN kA M00 M9 g (BS S) N9 → xW D vwCl N0 M9 H → va_S (xA N0) s.heap H locs → lv_has ls 1 [(0, .ref g)] → W p l e (xR 4) s m A0 below meth c H locs 0 0 Qp (F0 m 47 ls []) := by
    intro N9 M9 H locs ls hq hq2 hm hM hS hl
    have hns : ¬ S.sealed = 1 := fun q => by have := hgd q; omega
    refine lv_iconst (v := nI 2) hx hb dX6_seal_47 (by decide) ?_
    exact hend2 hm hM hS (hs2 hns hq hq2) dX6_seal_48
  rcases hrd with ⟨er, hr⟩ | ⟨er, hr⟩
  · rw [er]
    refine lv_if_eq (tgt := 27) hx hb dX6_seal_15 (by decide) (fun hc => ?_) (fun hc => ?_)
    · exact absurd hc (by decide)
    · refine lv_aload_n hx hb dX6_seal_18 rfl (lv_at hl 0 rfl) ?_
      refine lv_iconst (v := nI 0) hx hb dX6_seal_19 (by decide) ?_
      refine lv_iconst (v := nI 5) hx hb dX6_seal_20 (by decide) ?_
      obtain ⟨us9, hob9⟩ := hm.1
      refine r_Vi (As := [.int (nI 0), .int (nI 5)]) (rest := []) C hM hS (c6_compare l D kA N0 _ _ g 0 5 _ _ hm (by omega) (by omega)) (hob9) rfl gX6_seal_X6_compare rfl rfl rfl ⟨rfl, by decide +kernel, by decide +kernel, (by decide +kernel : (parseMethodDescriptor yX6_compare.desc).map (fun d => d.parameters.length) = some 2)⟩ ⟨Nat.le_of_ble_eq_true rfl, Nat.le_of_ble_eq_true rfl⟩ hl.1 rfl (Nat.le_of_ble_eq_true rfl) dX6_seal_21 ⟨Nat.le_of_ble_eq_true rfl, Nat.le_of_ble_eq_true rfl⟩ (fun rc M9 H locs hp9 hM hS => ?_)
      obtain ⟨eM9, hrc⟩ := hp9
      rw [eM9] at hM
      rw [n_0, n_w1] at hrc
      by_cases h3 : PP ≤ 3
      · have hrc0 : ¬ (0 : Int32) < rc := by
          rw [ew1] at hrc
          rcases hrc with ⟨q1, q2⟩ | ⟨q1, q2⟩ | ⟨q1, q2⟩
          · rw [q1]; decide
          · rw [q1]; decide
          · omega
        refine lv_if_gt (tgt := 29) hx hb dX6_seal_24 (by decide) (fun hd => ?_) (fun hd => ?_)
        · exact absurd hd hrc0
        · exact h1F _ _ _ _ ls (Or.inr h3) hm hM hS hl
      · have hpp : 0 < PP := by omega
        have hq1 : ¬ (PP % 2 = 0 ∨ PP ≤ 3) := by omega
        have hrc0 : (0 : Int32) < rc := by
          rw [ew1] at hrc
          rcases hrc with ⟨q1, q2⟩ | ⟨q1, q2⟩ | ⟨q1, q2⟩
          · omega
          · omega
          · rw [q1]; decide
        refine lv_if_gt (tgt := 29) hx hb dX6_seal_24 (by decide) (fun hd => ?_) (fun hd => ?_)
        · refine lv_aload_n hx hb dX6_seal_29 rfl (lv_at hl 0 rfl) ?_
          refine lv_iconst (v := nI 1) hx hb dX6_seal_30 (by decide) ?_
          refine lv_iconst (v := nI 0) hx hb dX6_seal_31 (by decide) ?_
          obtain ⟨us9, hob9⟩ := hm.1
          refine r_Vi (As := [.int (nI 1), .int (nI 0)]) (rest := []) C hM hS (c6_compare l D kA N0 _ _ g 1 0 _ _ hm (by omega) (by omega)) (hob9) rfl gX6_seal_X6_compare rfl rfl rfl ⟨rfl, by decide +kernel, by decide +kernel, (by decide +kernel : (parseMethodDescriptor yX6_compare.desc).map (fun d => d.parameters.length) = some 2)⟩ ⟨Nat.le_of_ble_eq_true rfl, Nat.le_of_ble_eq_true rfl⟩ hl.1 rfl (Nat.le_of_ble_eq_true rfl) dX6_seal_32 ⟨Nat.le_of_ble_eq_true rfl, Nat.le_of_ble_eq_true rfl⟩ (fun ra M9 H locs hp9 hM hS => ?_)
          obtain ⟨eM9, hra⟩ := hp9
          rw [eM9] at hM
          rw [n_1, n_0] at hra
          by_cases bA : AA < PP
          · have hra0 : ¬ (0 : Int32) ≤ ra := by
              rcases hra with ⟨q1, q2⟩ | ⟨q1, q2⟩ | ⟨q1, q2⟩
              · omega
              · rw [q1]; decide
              · omega
            refine lv_if_ge (tgt := 47) hx hb dX6_seal_35 (by decide) (fun hf9 => ?_) (fun hf9 => ?_)
            · exact absurd hf9 hra0
            · refine lv_aload_n hx hb dX6_seal_38 rfl (lv_at hl 0 rfl) ?_
              refine lv_iconst (v := nI 2) hx hb dX6_seal_39 (by decide) ?_
              refine lv_iconst (v := nI 0) hx hb dX6_seal_40 (by decide) ?_
              obtain ⟨us9, hob9⟩ := hm.1
              refine r_Vi (As := [.int (nI 2), .int (nI 0)]) (rest := []) C hM hS (c6_compare l D kA N0 _ _ g 2 0 _ _ hm (by omega) (by omega)) (hob9) rfl gX6_seal_X6_compare rfl rfl rfl ⟨rfl, by decide +kernel, by decide +kernel, (by decide +kernel : (parseMethodDescriptor yX6_compare.desc).map (fun d => d.parameters.length) = some 2)⟩ ⟨Nat.le_of_ble_eq_true rfl, Nat.le_of_ble_eq_true rfl⟩ hl.1 rfl (Nat.le_of_ble_eq_true rfl) dX6_seal_41 ⟨Nat.le_of_ble_eq_true rfl, Nat.le_of_ble_eq_true rfl⟩ (fun rb M9 H locs hp9 hM hS => ?_)
              obtain ⟨eM9, hrb⟩ := hp9
              rw [eM9] at hM
              rw [n_2, n_0] at hrb
              by_cases bB : bb < PP
              · have hrb0 : rb < 0 := by
                  rcases hrb with ⟨q1, q2⟩ | ⟨q1, q2⟩ | ⟨q1, q2⟩
                  · omega
                  · rw [q1]; decide
                  · omega
                have hq2 : ¬ (PP ≤ AA ∨ PP ≤ bb) := by omega
                refine lv_if_lt (tgt := 49) hx hb dX6_seal_44 (by decide) (fun hg9 => ?_) (fun hg9 => ?_)
                · refine lv_aload_n hx hb dX6_seal_49 rfl (lv_at hl 0 rfl) ?_
                  refine lv_iconst (v := nI 5) hx hb dX6_seal_50 (by decide) ?_
                  refine lv_iconst (v := nI 1) hx hb dX6_seal_51 (by decide) ?_
                  refine lv_iconst (v := nI 1) hx hb dX6_seal_52 (by decide) ?_
                  refine lv_iconst (v := nI 0) hx hb dX6_seal_53 (by decide) ?_
                  obtain ⟨us9, hob9⟩ := hm.1
                  refine r_Vv (As := [.int (nI 5), .int (nI 1), .int (nI 1), .int (nI 0)]) (rest := []) C hM hS (c6_timesV l D kA N0 _ _ g 5 1 1 0 AA AA PP _ _ hm (by omega) (by omega) (by omega) (by omega) n_1 n_1 n_0 hpp (by omega)) (hob9) rfl gX6_seal_X6_times rfl rfl rfl ⟨rfl, by decide +kernel, by decide +kernel, (by decide +kernel : (parseMethodDescriptor yX6_times.desc).map (fun d => d.parameters.length) = some 4)⟩ ⟨Nat.le_of_ble_eq_true rfl, Nat.le_of_ble_eq_true rfl⟩ hl.1 rfl (Nat.le_of_ble_eq_true rfl) dX6_seal_54 ⟨Nat.le_of_ble_eq_true rfl, Nat.le_of_ble_eq_true rfl⟩ (fun M1 H locs hp9 hM hS => ?_)
                  obtain ⟨N9, hm, un9⟩ := hp9
                  obtain ⟨w2, ew2⟩ : ∃ q, q = AA * AA % PP := ⟨_, rfl⟩
                  rw [← ew2] at un9
                  have b_w2 : w2 < PP := by rw [ew2]; exact Nat.mod_lt _ hpp
                  have n_w2 := un9.1
                  have n_0 := un9.k n_0 (by omega) (by omega)
                  have n_1 := un9.k n_1 (by omega) (by omega)
                  have n_2 := un9.k n_2 (by omega) (by omega)
                  refine lv_aload_n hx hb dX6_seal_57 rfl (lv_at hl 0 rfl) ?_
                  refine lv_iconst (v := nI 5) hx hb dX6_seal_58 (by decide) ?_
                  refine lv_iconst (v := nI 5) hx hb dX6_seal_59 (by decide) ?_
                  refine lv_iconst (v := nI 1) hx hb dX6_seal_60 (by decide) ?_
                  refine lv_iconst (v := nI 0) hx hb dX6_seal_61 (by decide) ?_
                  obtain ⟨us9, hob9⟩ := hm.1
                  refine r_Vv (As := [.int (nI 5), .int (nI 5), .int (nI 1), .int (nI 0)]) (rest := []) C hM hS (c6_timesV l D kA N0 _ _ g 5 5 1 0 w2 AA PP _ _ hm (by omega) (by omega) (by omega) (by omega) n_w2 n_1 n_0 hpp (by omega)) (hob9) rfl gX6_seal_X6_times rfl rfl rfl ⟨rfl, by decide +kernel, by decide +kernel, (by decide +kernel : (parseMethodDescriptor yX6_times.desc).map (fun d => d.parameters.length) = some 4)⟩ ⟨Nat.le_of_ble_eq_true rfl, Nat.le_of_ble_eq_true rfl⟩ hl.1 rfl (Nat.le_of_ble_eq_true rfl) dX6_seal_62 ⟨Nat.le_of_ble_eq_true rfl, Nat.le_of_ble_eq_true rfl⟩ (fun M1 H locs hp9 hM hS => ?_)
                  obtain ⟨N9, hm, un9⟩ := hp9
                  obtain ⟨w3, ew3⟩ : ∃ q, q = w2 * AA % PP := ⟨_, rfl⟩
                  rw [← ew3] at un9
                  have b_w3 : w3 < PP := by rw [ew3]; exact Nat.mod_lt _ hpp
                  have n_w3 := un9.1
                  have n_0 := un9.k n_0 (by omega) (by omega)
                  have n_1 := un9.k n_1 (by omega) (by omega)
                  have n_2 := un9.k n_2 (by omega) (by omega)
                  refine lv_aload_n hx hb dX6_seal_65 rfl (lv_at hl 0 rfl) ?_
                  refine lv_bipush (v := nI 6) hx hb dX6_seal_66 (by decide) ?_
                  refine lv_iconst (v := nI 4) hx hb dX6_seal_68 (by decide) ?_
                  obtain ⟨us9, hob9⟩ := hm.1
                  refine r_Vv (As := [.int (nI 6), .int (nI 4)]) (rest := []) C hM hS (c6_smallV l D kA N0 _ _ g 6 4  _ _ hm (by omega) (by omega) (by omega)) (hob9) rfl gX6_seal_X6_small rfl rfl rfl ⟨rfl, by decide +kernel, by decide +kernel, (by decide +kernel : (parseMethodDescriptor yX6_small.desc).map (fun d => d.parameters.length) = some 2)⟩ ⟨Nat.le_of_ble_eq_true rfl, Nat.le_of_ble_eq_true rfl⟩ hl.1 rfl (Nat.le_of_ble_eq_true rfl) dX6_seal_69 ⟨Nat.le_of_ble_eq_true rfl, Nat.le_of_ble_eq_true rfl⟩ (fun M1 H locs hp9 hM hS => ?_)
                  obtain ⟨N9, hm, un9⟩ := hp9
                  obtain ⟨w4, ew4⟩ : ∃ q, q = 4 := ⟨_, rfl⟩
                  rw [← ew4] at un9
                  have n_w4 := un9.1
                  have n_0 := un9.k n_0 (by omega) (by omega)
                  have n_1 := un9.k n_1 (by omega) (by omega)
                  have n_2 := un9.k n_2 (by omega) (by omega)
                  have n_w3 := un9.k n_w3 (by omega) (by omega)
                  refine lv_aload_n hx hb dX6_seal_72 rfl (lv_at hl 0 rfl) ?_
                  refine lv_iconst (v := nI 5) hx hb dX6_seal_73 (by decide) ?_
                  refine lv_iconst (v := nI 5) hx hb dX6_seal_74 (by decide) ?_
                  refine lv_bipush (v := nI 6) hx hb dX6_seal_75 (by decide) ?_
                  refine lv_iconst (v := nI 0) hx hb dX6_seal_77 (by decide) ?_
                  obtain ⟨us9, hob9⟩ := hm.1
                  refine r_Vv (As := [.int (nI 5), .int (nI 5), .int (nI 6), .int (nI 0)]) (rest := []) C hM hS (c6_timesV l D kA N0 _ _ g 5 5 6 0 w3 w4 PP _ _ hm (by omega) (by omega) (by omega) (by omega) n_w3 n_w4 n_0 hpp (by omega)) (hob9) rfl gX6_seal_X6_times rfl rfl rfl ⟨rfl, by decide +kernel, by decide +kernel, (by decide +kernel : (parseMethodDescriptor yX6_times.desc).map (fun d => d.parameters.length) = some 4)⟩ ⟨Nat.le_of_ble_eq_true rfl, Nat.le_of_ble_eq_true rfl⟩ hl.1 rfl (Nat.le_of_ble_eq_true rfl) dX6_seal_78 ⟨Nat.le_of_ble_eq_true rfl, Nat.le_of_ble_eq_true rfl⟩ (fun M1 H locs hp9 hM hS => ?_)
                  obtain ⟨N9, hm, un9⟩ := hp9
                  obtain ⟨w5, ew5⟩ : ∃ q, q = w3 * w4 % PP := ⟨_, rfl⟩
                  rw [← ew5] at un9
                  have b_w5 : w5 < PP := by rw [ew5]; exact Nat.mod_lt _ hpp
                  have n_w5 := un9.1
                  have n_0 := un9.k n_0 (by omega) (by omega)
                  have n_1 := un9.k n_1 (by omega) (by omega)
                  have n_2 := un9.k n_2 (by omega) (by omega)
                  have n_w4 := un9.k n_w4 (by omega) (by omega)
                  refine lv_aload_n hx hb dX6_seal_81 rfl (lv_at hl 0 rfl) ?_
                  refine lv_bipush (v := nI 7) hx hb dX6_seal_82 (by decide) ?_
                  refine lv_iconst (v := nI 2) hx hb dX6_seal_84 (by decide) ?_
                  refine lv_iconst (v := nI 2) hx hb dX6_seal_85 (by decide) ?_
                  refine lv_iconst (v := nI 0) hx hb dX6_seal_86 (by decide) ?_
                  obtain ⟨us9, hob9⟩ := hm.1
                  refine r_Vv (As := [.int (nI 7), .int (nI 2), .int (nI 2), .int (nI 0)]) (rest := []) C hM hS (c6_timesV l D kA N0 _ _ g 7 2 2 0 bb bb PP _ _ hm (by omega) (by omega) (by omega) (by omega) n_2 n_2 n_0 hpp (by omega)) (hob9) rfl gX6_seal_X6_times rfl rfl rfl ⟨rfl, by decide +kernel, by decide +kernel, (by decide +kernel : (parseMethodDescriptor yX6_times.desc).map (fun d => d.parameters.length) = some 4)⟩ ⟨Nat.le_of_ble_eq_true rfl, Nat.le_of_ble_eq_true rfl⟩ hl.1 rfl (Nat.le_of_ble_eq_true rfl) dX6_seal_87 ⟨Nat.le_of_ble_eq_true rfl, Nat.le_of_ble_eq_true rfl⟩ (fun M1 H locs hp9 hM hS => ?_)
                  obtain ⟨N9, hm, un9⟩ := hp9
                  obtain ⟨w6, ew6⟩ : ∃ q, q = bb * bb % PP := ⟨_, rfl⟩
                  rw [← ew6] at un9
                  have b_w6 : w6 < PP := by rw [ew6]; exact Nat.mod_lt _ hpp
                  have n_w6 := un9.1
                  have n_0 := un9.k n_0 (by omega) (by omega)
                  have n_1 := un9.k n_1 (by omega) (by omega)
                  have n_2 := un9.k n_2 (by omega) (by omega)
                  have n_w5 := un9.k n_w5 (by omega) (by omega)
                  have n_w4 := un9.k n_w4 (by omega) (by omega)
                  refine lv_aload_n hx hb dX6_seal_90 rfl (lv_at hl 0 rfl) ?_
                  refine lv_bipush (v := nI 6) hx hb dX6_seal_91 (by decide) ?_
                  refine lv_bipush (v := nI 27) hx hb dX6_seal_93 (by decide) ?_
                  obtain ⟨us9, hob9⟩ := hm.1
                  refine r_Vv (As := [.int (nI 6), .int (nI 27)]) (rest := []) C hM hS (c6_smallV l D kA N0 _ _ g 6 27  _ _ hm (by omega) (by omega) (by omega)) (hob9) rfl gX6_seal_X6_small rfl rfl rfl ⟨rfl, by decide +kernel, by decide +kernel, (by decide +kernel : (parseMethodDescriptor yX6_small.desc).map (fun d => d.parameters.length) = some 2)⟩ ⟨Nat.le_of_ble_eq_true rfl, Nat.le_of_ble_eq_true rfl⟩ hl.1 rfl (Nat.le_of_ble_eq_true rfl) dX6_seal_95 ⟨Nat.le_of_ble_eq_true rfl, Nat.le_of_ble_eq_true rfl⟩ (fun M1 H locs hp9 hM hS => ?_)
                  obtain ⟨N9, hm, un9⟩ := hp9
                  obtain ⟨w7, ew7⟩ : ∃ q, q = 27 := ⟨_, rfl⟩
                  rw [← ew7] at un9
                  have n_w7 := un9.1
                  have n_0 := un9.k n_0 (by omega) (by omega)
                  have n_1 := un9.k n_1 (by omega) (by omega)
                  have n_2 := un9.k n_2 (by omega) (by omega)
                  have n_w5 := un9.k n_w5 (by omega) (by omega)
                  have n_w6 := un9.k n_w6 (by omega) (by omega)
                  refine lv_aload_n hx hb dX6_seal_98 rfl (lv_at hl 0 rfl) ?_
                  refine lv_bipush (v := nI 7) hx hb dX6_seal_99 (by decide) ?_
                  refine lv_bipush (v := nI 7) hx hb dX6_seal_101 (by decide) ?_
                  refine lv_bipush (v := nI 6) hx hb dX6_seal_103 (by decide) ?_
                  refine lv_iconst (v := nI 0) hx hb dX6_seal_105 (by decide) ?_
                  obtain ⟨us9, hob9⟩ := hm.1
                  refine r_Vv (As := [.int (nI 7), .int (nI 7), .int (nI 6), .int (nI 0)]) (rest := []) C hM hS (c6_timesV l D kA N0 _ _ g 7 7 6 0 w6 w7 PP _ _ hm (by omega) (by omega) (by omega) (by omega) n_w6 n_w7 n_0 hpp (by omega)) (hob9) rfl gX6_seal_X6_times rfl rfl rfl ⟨rfl, by decide +kernel, by decide +kernel, (by decide +kernel : (parseMethodDescriptor yX6_times.desc).map (fun d => d.parameters.length) = some 4)⟩ ⟨Nat.le_of_ble_eq_true rfl, Nat.le_of_ble_eq_true rfl⟩ hl.1 rfl (Nat.le_of_ble_eq_true rfl) dX6_seal_106 ⟨Nat.le_of_ble_eq_true rfl, Nat.le_of_ble_eq_true rfl⟩ (fun M1 H locs hp9 hM hS => ?_)
                  obtain ⟨N9, hm, un9⟩ := hp9
                  obtain ⟨w8, ew8⟩ : ∃ q, q = w6 * w7 % PP := ⟨_, rfl⟩
                  rw [← ew8] at un9
                  have b_w8 : w8 < PP := by rw [ew8]; exact Nat.mod_lt _ hpp
                  have n_w8 := un9.1
                  have n_0 := un9.k n_0 (by omega) (by omega)
                  have n_1 := un9.k n_1 (by omega) (by omega)
                  have n_2 := un9.k n_2 (by omega) (by omega)
                  have n_w5 := un9.k n_w5 (by omega) (by omega)
                  have n_w7 := un9.k n_w7 (by omega) (by omega)
                  refine lv_aload_n hx hb dX6_seal_109 rfl (lv_at hl 0 rfl) ?_
                  refine lv_iconst (v := nI 5) hx hb dX6_seal_110 (by decide) ?_
                  refine lv_iconst (v := nI 5) hx hb dX6_seal_111 (by decide) ?_
                  refine lv_bipush (v := nI 7) hx hb dX6_seal_112 (by decide) ?_
                  refine lv_iconst (v := nI 0) hx hb dX6_seal_114 (by decide) ?_
                  obtain ⟨us9, hob9⟩ := hm.1
                  refine r_Vv (As := [.int (nI 5), .int (nI 5), .int (nI 7), .int (nI 0)]) (rest := []) C hM hS (c6_sumV l D kA N0 _ _ g 5 5 7 0 w5 w8 PP _ _ hm (by omega) (by omega) (by omega) (by omega) n_w5 n_w8 n_0 (by omega) (b_w5) (b_w8) hp9 (by omega)) (hob9) rfl gX6_seal_X6_sum rfl rfl rfl ⟨rfl, by decide +kernel, by decide +kernel, (by decide +kernel : (parseMethodDescriptor yX6_sum.desc).map (fun d => d.parameters.length) = some 4)⟩ ⟨Nat.le_of_ble_eq_true rfl, Nat.le_of_ble_eq_true rfl⟩ hl.1 rfl (Nat.le_of_ble_eq_true rfl) dX6_seal_115 ⟨Nat.le_of_ble_eq_true rfl, Nat.le_of_ble_eq_true rfl⟩ (fun M1 H locs hp9 hM hS => ?_)
                  obtain ⟨N9, hm, un9⟩ := hp9
                  obtain ⟨w9, ew9⟩ : ∃ q, q = (w5 + w8) % PP := ⟨_, rfl⟩
                  rw [← ew9] at un9
                  have b_w9 : w9 < PP := by rw [ew9]; exact Nat.mod_lt _ hpp
                  have n_w9 := un9.1
                  have n_0 := un9.k n_0 (by omega) (by omega)
                  have n_1 := un9.k n_1 (by omega) (by omega)
                  have n_2 := un9.k n_2 (by omega) (by omega)
                  have n_w7 := un9.k n_w7 (by omega) (by omega)
                  have n_w8 := un9.k n_w8 (by omega) (by omega)
                  refine lv_aload_n hx hb dX6_seal_118 rfl (lv_at hl 0 rfl) ?_
                  refine lv_iconst (v := nI 5) hx hb dX6_seal_119 (by decide) ?_
                  obtain ⟨us9, hob9⟩ := hm.1
                  refine r_Vi (As := [.int (nI 5)]) (rest := []) C hM hS (c6_isZero l D kA N0 _ _ g 5 _ _ hm (by omega)) (hob9) rfl gX6_seal_X6_isZero rfl rfl rfl ⟨rfl, by decide +kernel, by decide +kernel, (by decide +kernel : (parseMethodDescriptor yX6_isZero.desc).map (fun d => d.parameters.length) = some 1)⟩ ⟨Nat.le_of_ble_eq_true rfl, Nat.le_of_ble_eq_true rfl⟩ hl.1 rfl (Nat.le_of_ble_eq_true rfl) dX6_seal_120 ⟨Nat.le_of_ble_eq_true rfl, Nat.le_of_ble_eq_true rfl⟩ (fun rz M9 H locs hp9 hM hS => ?_)
                  obtain ⟨eM9, hrz⟩ := hp9
                  rw [eM9] at hM
                  rw [n_w9] at hrz
                  obtain ⟨k, ek⟩ : ∃ k, PP = k + 1 := ⟨PP - 1, by omega⟩
                  have hdz : w9 = 0 ↔ dsc (PP - 1) AA bb = 0 := by
                    have h9 : fz k w9 = dsc k AA bb := by
                      rw [ew9, ek, fz_add, ew5, ek, fz_mul, ew3, ek, fz_mul, ew2, ek, fz_mul, ew8, ek, fz_mul, ew6, ek, fz_mul, ew4, ew7]
                      unfold dsc
                      show _ * (4 : Zp k) + _ * (27 : Zp k) = _
                      grind
                    rw [show PP - 1 = k by omega, ← h9, fz_z (by omega)]
                  rcases hrz with ⟨q1, q2⟩ | ⟨q1, q2⟩
                  · rw [q1]
                    refine lv_if_eq (tgt := 128) hx hb dX6_seal_123 (by decide) (fun hj => ?_) (fun hj => ?_)
                    · exact absurd hj (by decide)
                    · have hns : ¬ S.sealed = 1 := fun q => (hgd q).2.2.2.2 (hdz.mp q2)
                      refine lv_iconst (v := nI 3) hx hb dX6_seal_126 (by decide) ?_
                      exact hend2 hm hM hS (hs3 hns hq1 hq2 (hdz.mp q2)) dX6_seal_127
                  · rw [q1]
                    have hq3 : ¬ dsc (PP - 1) AA bb = 0 := fun q => q2 (hdz.mpr q)
                    refine lv_if_eq (tgt := 128) hx hb dX6_seal_123 (by decide) (fun hj => ?_) (fun hj => ?_)
                    · have mk1 := mk0.scr (N := N9) (Z := Z) ⟨M00, hm, hz0, hf0⟩
                      obtain ⟨us1, hob1⟩ := hm.1
                      refine lv_aload_n hx hb dX6_seal_128 rfl (lv_at hl 0 rfl) ?_
                      refine x_get (v := .int (nI S.sealed)) hx hb hts in_X6_seal_X6 hown hK hM (hob1) rfl 3 (by decide) (hts (.fieldLink RX6 43 "LimbCurvesModel" "sealed" "Z") (by decide +kernel)) (fun _ h9 => h9) rfl dX6_seal_129 ?_
                      refine r_if_eqN (tgt := 137) C (by omega) dX6_seal_132 (by decide) (fun hk => ?_) (fun hk => ?_)
                      · have hns : ¬ S.sealed = 1 := by omega
                        rw [hs0 hns hq1 hq2 hq3] at hend
                        refine lv_aload_n hx hb dX6_seal_137 rfl (lv_at hl 0 rfl) ?_
                        refine lv_iconst (v := nI 1) hx hb dX6_seal_138 (by decide) ?_
                        refine x_put (v := .int (nI 1)) (ty := .boolean) hx hb hts in_X6_seal_X6 tyX6 tyX6_ok nmX6 hown hK hM hS (hob1) rfl 3 (by decide) (hts (.fieldLink RX6 43 "LimbCurvesModel" "sealed" "Z") (by decide +kernel)) (fun _ h9 => h9) rfl (by decide +kernel) rfl rfl (Nat.le_of_ble_eq_true rfl) dX6_seal_139 (fun H locs hM hS => ?_)
                        have hM : xW D vwCl N0 (xset M1 g (oMd g (nI S.L, nI 1, fedV S, nI S.fl) us1)) H := hM
                        have mk2 : Mk kA (xset M1 g (oMd g (nI S.L, nI 1, fedV S, nI S.fl) us1)) g (mkS S.L S.a S.b S.pr 1 S.fed S.fl) := mk1.1.fld rfl rfl rfl rfl rfl
                        have hob2 : xset M1 g (oMd g (nI S.L, nI 1, fedV S, nI S.fl) us1) g = some (oMd g (nI S.L, nI 1, fedV S, nI S.fl) us1) := xset_s
                        have hfr2 : ∀ b, b < g ∨ g + 7 < b → xset M1 g (oMd g (nI S.L, nI 1, fedV S, nI S.fl) us1) b = M b := fun b hb => by rw [xset_n (by omega)]; exact mk1.2 b hb
                        refine lv_aload_n hx hb dX6_seal_142 rfl (lv_at hl 0 rfl) ?_
                        refine x_get (v := .int (fedV S)) hx hb hts in_X6_seal_X6 hown hK hM (hob2) rfl 4 (by decide) (hts (.fieldLink RX6 17 "LimbCurvesModel" "fed" "I") (by decide +kernel)) (fun _ h9 => h9) rfl dX6_seal_143 ?_
                        refine lv_if_lt (tgt := 161) hx hb dX6_seal_146 (by decide) (fun hn1 => ?_) (fun hn1 => ?_)
                        · rw [ilt, t_0] at hn1
                          have hn4 : ¬ S.fed < 4 := fun q => by rw [fedV_lt (by omega), t_nI (by omega)] at hn1; omega
                          rw [if_neg hn4] at hend
                          refine lv_iconst (v := nI 0) hx hb dX6_seal_161 (by decide) ?_
                          exact hend _ _ _ _ _ _ hM hS (⟨rfl, mk2, hfr2⟩) dX6_seal_162
                        · rw [ilt, t_0] at hn1
                          have hf20 : S.fed < 20 := by
                            by_cases q : S.fed < 20
                            · exact q
                            · rw [fedV_ge q] at hn1
                              exact absurd (by decide) hn1
                          have htf : (fedV S).toInt = S.fed := by rw [fedV_lt hf20, t_nI (by omega)]
                          refine lv_aload_n hx hb dX6_seal_149 rfl (lv_at hl 0 rfl) ?_
                          refine x_get (v := .int (fedV S)) hx hb hts in_X6_seal_X6 hown hK hM (hob2) rfl 4 (by decide) (hts (.fieldLink RX6 17 "LimbCurvesModel" "fed" "I") (by decide +kernel)) (fun _ h9 => h9) rfl dX6_seal_150 ?_
                          refine lv_iconst (v := nI 4) hx hb dX6_seal_153 (by decide) ?_
                          refine lv_icmp_ge (tgt := 161) hx hb dX6_seal_154 (by decide) (fun hn2 => ?_) (fun hn2 => ?_)
                          · rw [ile, t_4, htf] at hn2
                            have hn4 : ¬ S.fed < 4 := by omega
                            rw [if_neg hn4] at hend
                            refine lv_iconst (v := nI 0) hx hb dX6_seal_161 (by decide) ?_
                            exact hend _ _ _ _ _ _ hM hS (⟨rfl, mk2, hfr2⟩) dX6_seal_162
                          · rw [ile, t_4, htf] at hn2
                            have hn4 : S.fed < 4 := by omega
                            rw [if_pos hn4] at hend
                            refine lv_aload_n hx hb dX6_seal_157 rfl (lv_at hl 0 rfl) ?_
                            refine r_Vv (As := []) (rest := []) C hM hS (c6_stopFeeding l D kA N0 _ g _ mk2) (hob2) rfl gX6_seal_X6_stopFeeding rfl rfl rfl ⟨rfl, by decide +kernel, by decide +kernel, (by decide +kernel : (parseMethodDescriptor yX6_stopFeeding.desc).map (fun d => d.parameters.length) = some 0)⟩ ⟨Nat.le_of_ble_eq_true rfl, Nat.le_of_ble_eq_true rfl⟩ hl.1 rfl (Nat.le_of_ble_eq_true rfl) dX6_seal_158 ⟨Nat.le_of_ble_eq_true rfl, Nat.le_of_ble_eq_true rfl⟩ (fun M5 H locs hp hM hS => ?_)
                            refine lv_iconst (v := nI 0) hx hb dX6_seal_161 (by decide) ?_
                            exact hend _ _ _ _ _ _ hM hS (⟨rfl, hp.1, fun b hb => by rw [hp.2 b (by omega)]; exact hfr2 b hb⟩) dX6_seal_162
                      · have hs9 : S.sealed = 1 := by omega
                        refine lv_iconst (v := nI 4) hx hb dX6_seal_135 (by decide) ?_
                        exact hend2 hm hM hS (hs4 hs9) dX6_seal_136
                    · exact absurd rfl hj
                · exact absurd hrb0 hg9
              · have hrb0 : ¬ rb < 0 := by
                  rcases hrb with ⟨q1, q2⟩ | ⟨q1, q2⟩ | ⟨q1, q2⟩
                  · rw [q1]; decide
                  · omega
                  · rw [q1]; decide
                refine lv_if_lt (tgt := 49) hx hb dX6_seal_44 (by decide) (fun hg9 => ?_) (fun hg9 => ?_)
                · exact absurd hg9 hrb0
                · exact h2F _ _ _ _ ls hq1 (Or.inr (by omega)) hm hM hS hl
          · have hra0 : (0 : Int32) ≤ ra := by
              rcases hra with ⟨q1, q2⟩ | ⟨q1, q2⟩ | ⟨q1, q2⟩
              · rw [q1]; decide
              · omega
              · rw [q1]; decide
            refine lv_if_ge (tgt := 47) hx hb dX6_seal_35 (by decide) (fun hf9 => ?_) (fun hf9 => ?_)
            · exact h2F _ _ _ _ ls hq1 (Or.inl (by omega)) hm hM hS hl
            · exact absurd hra0 hf9
        · exact absurd hrc0 hd
  · rw [er]
    refine lv_if_eq (tgt := 27) hx hb dX6_seal_15 (by decide) (fun hc => ?_) (fun hc => ?_)
    · exact h1F _ _ _ _ ls (Or.inl (by omega)) hm hM hS hl
    · exact absurd rfl hc
end NM16
