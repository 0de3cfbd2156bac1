theorem in_X6_verify_X6 : ∀ w ∈ wsX60, w ∈ wsX6_verify := by decide +kernel
section VRS
variable {S : St} {q g e r s : Int32}
theorem vr_1 {k n r : Nat} {A : Zp k} {Q : Option (Pt k)} : verR n r A none Q = -2 := by cases Q <;> rfl
theorem vr_2 {k n r : Nat} {A : Zp k} {G : Option (Pt k)} : verR n r A G none = -2 := by cases G <;> rfl
theorem vr_3 {k n r : Nat} {A : Zp k} {G Q : Pt k} (h : psum A G Q = none) : verR n r A (some G) (some Q) = -2 := by
  show (match psum A G Q with
    | none => -2
    | some none => 0
    | some (some (X, _)) => if X.val % n = r then (1 : Int32) else 0) = -2
  rw [h]
theorem vr_4 {k n r : Nat} {A : Zp k} {G Q : Pt k} (h : psum A G Q = some none) : verR n r A (some G) (some Q) = 0 := by
  show (match psum A G Q with
    | none => -2
    | some none => 0
    | some (some (X, _)) => if X.val % n = r then (1 : Int32) else 0) = 0
  rw [h]
theorem vr_5 {k n r : Nat} {A X Y : Zp k} {G Q : Pt k} (h : psum A G Q = some (some (X, Y))) : verR n r A (some G) (some Q) = if X.val % n = r then 1 else 0 := by
  show (match psum A G Q with
    | none => -2
    | some none => 0
    | some (some (X, _)) => if X.val % n = r then (1 : Int32) else 0) = _
  rw [h]
theorem sv_no (h : ¬ (good S q ∧ good S g ∧ isSc e ∧ isSc r ∧ isSc s ∧ 0 < S.a 3)) : spVer S q g e r s = -1 := by
  unfold spVer
  rw [if_neg h]
theorem sv_0 (h : good S q ∧ good S g ∧ isSc e ∧ isSc r ∧ isSc s ∧ 0 < S.a 3) (h2 : ¬ (0 < S.a (ix r) ∧ S.a (ix r) < S.a 3 ∧ 0 < S.a (ix s) ∧ S.a (ix s) < S.a 3)) : spVer S q g e r s = 0 := by
  unfold spVer
  rw [if_pos h, if_neg h2]
theorem sv_none (h : good S q ∧ good S g ∧ isSc e ∧ isSc r ∧ isSc s ∧ 0 < S.a 3) (h2 : 0 < S.a (ix r) ∧ S.a (ix r) < S.a 3 ∧ 0 < S.a (ix s) ∧ S.a (ix s) < S.a 3) (h3 : inv? (S.a 3) (S.a (ix s)) = none) : spVer S q g e r s = 0 := by
  unfold spVer
  rw [if_pos h, if_pos h2, h3]
theorem sv_some {w : Nat} (h : good S q ∧ good S g ∧ isSc e ∧ isSc r ∧ isSc s ∧ 0 < S.a 3) (h2 : 0 < S.a (ix r) ∧ S.a (ix r) < S.a 3 ∧ 0 < S.a (ix s) ∧ S.a (ix s) < S.a 3) (h3 : inv? (S.a 3) (S.a (ix s)) = some w) : spVer S q g e r s = verR (S.a 3) (S.a (ix r)) (fz (kp S) (S.a 1)) (kT (fz (kp S) (S.a 1)) (pt S (ix g)) (S.a (ix e) * w % S.a 3)) (kT (fz (kp S) (S.a 1)) (pt S (ix q)) (S.a (ix r) * w % S.a 3)) := by
  unfold spVer
  rw [if_pos h, if_pos h2, h3]
end VRS
section NM19
variable {p : Program} {l : Launch} {e : Env} {R : Room} {s : State} {m : MethodId} {args : Array Value} {below : List Frame} {meth : Method} {c : Code} {Q : State → Prop} {cells slots : Nat} {ret : Option FieldType} {D : va_G} {kA : Nat → ClassId} {N0 : Nat}
set_option maxRecDepth 100000 in
theorem c6_verify (l : Launch) (D : va_G) (kA : Nat → ClassId) (N0 : Nat) (M : xM) (g : Nat) (S : St) (q gs w r t : Int32) (hsi : Si S) (mk : Mk kA M g S) : cI l yX6_verify wsX6_verify (xR 6) [.ref g, .int q, .int gs, .int w, .int r, .int t] D kA N0 M (fun v M1 => v = spVer S q gs w r t ∧ Mk kA M1 g S ∧ ∀ b, b < g ∨ g + 7 < b → M1 b = M b) := by
  have hL0 := hsi.L1
  have hL9 := hsi.L9
  obtain ⟨N, Z, hz⟩ := mk.mz
  obtain ⟨us, hob⟩ := hz.ob
  have mk9 := mk
  obtain ⟨-, ⟨f, hf, nf, hmf⟩, -, -⟩ := mk9
  refine r_mI (cc := cX6_verify) (maxL := 6) (by decide) rfl (Nat.le_of_ble_eq_true rfl) ?_
  intro p e s m below meth c ls A0 Qp C hM hnm hl hend
  obtain ⟨hx, hb, hml, hown, hts, hr, hlocks, hK, hN⟩ := _root_.id C
  have hS : va_S (xA N0) s.heap s.heap [] := va_S.rf
  have hl : lv_has ls 6 [(0, .ref g), (1, .int q), (2, .int gs), (3, .int w), (4, .int r), (5, .int t)] := hl
  -- ends
  have hR : ∀ {v : Int32} {N1 : Nat → Nat} {Z1 : Nat → Int32} {M1 : xM} {H : Heap} {locs : List Loc} {ls : Array Slot} {pc : Nat}, v = spVer S q gs w r t → MZ kA M M1 g (BS S) N1 Z1 → xW D vwCl N0 M1 H → va_S (xA N0) s.heap H locs → decode cX6_verify pc = .ok (.ireturn, 1) → W p l e (xR 6) s m A0 below meth c H locs 0 0 Qp (F0 m pc ls [.int v]) := by
    intro v N1 Z1 M1 H locs ls pc h1 h2 h3 h5 h6
    exact hend _ M1 _ _ _ _ h3 h5 ⟨h1, mk.scr h2⟩ h6
  have hF23 : ∀ (H : Heap) (locs : List Loc) (ls : Array Slot), spVer S q gs w r t = -1 → xW D vwCl N0 M H → va_S (xA N0) s.heap H locs → lv_has ls 6 [(0, .ref g), (1, .int q), (2, .int gs), (3, .int w), (4, .int r), (5, .int t)] → W p l e (xR 6) s m A0 below meth c H locs 0 0 Qp (F0 m 23 ls []) := by
    intro H locs ls hq hM hS hl
    refine lv_iconst (v := (-1)) hx hb dX6_verify_23 (by decide) ?_
    exact hR (by rw [hq]) hz hM hS dX6_verify_24
  have hF43 : ∀ (N1 : Nat → Nat) (Z1 : Nat → Int32) (M1 : xM) (H : Heap) (locs : List Loc) (ls : Array Slot), spVer S q gs w r t = -1 → MZ kA M M1 g (BS S) N1 Z1 → xW D vwCl N0 M1 H → va_S (xA N0) s.heap H locs → lv_has ls 6 [(0, .ref g), (1, .int q), (2, .int gs), (3, .int w), (4, .int r), (5, .int t)] → W p l e (xR 6) s m A0 below meth c H locs 0 0 Qp (F0 m 43 ls []) := by
    intro N1 Z1 M1 H locs ls hq hz1 hM hS hl
    refine lv_iconst (v := (-1)) hx hb dX6_verify_43 (by decide) ?_
    exact hR (by rw [hq]) hz1 hM hS dX6_verify_44
  have hF131 : ∀ (N1 : Nat → Nat) (Z1 : Nat → Int32) (M1 : xM) (H : Heap) (locs : List Loc) (ls : Array Slot), spVer S q gs w r t = 0 → MZ kA M M1 g (BS S) N1 Z1 → xW D vwCl N0 M1 H → va_S (xA N0) s.heap H locs → W p l e (xR 6) s m A0 below meth c H locs 0 0 Qp (F0 m 131 ls []) := by
    intro N1 Z1 M1 H locs ls hq hz1 hM hS
    refine lv_iconst (v := nI 0) hx hb dX6_verify_131 (by decide) ?_
    exact hR (by rw [hq]; rfl) hz1 hM hS dX6_verify_132
  have hF187 : ∀ (N1 : Nat → Nat) (Z1 : Nat → Int32) (M1 : xM) (H : Heap) (locs : List Loc) (ls : Array Slot), spVer S q gs w r t = -2 → MZ kA M M1 g (BS S) N1 Z1 → xW D vwCl N0 M1 H → va_S (xA N0) s.heap H locs → W p l e (xR 6) s m A0 below meth c H locs 0 0 Qp (F0 m 187 ls []) := by
    intro N1 Z1 M1 H locs ls hq hz1 hM hS
    refine lv_bipush (v := (-2)) hx hb dX6_verify_187 (by decide) ?_
    exact hR (by rw [hq]) hz1 hM hS dX6_verify_189
  have h01 : ∀ {P : Prop} {v : Int32}, ((v = 1 ∧ P) ∨ (v = 0 ∧ ¬ P)) → v = 0 → ¬ P := fun h h0 => by
    rcases h with ⟨q1, q2⟩ | ⟨q1, q2⟩
    · rw [q1] at h0; exact absurd h0 (by decide)
    · exact q2
  have h02 : ∀ {P : Prop} {v : Int32}, ((v = 1 ∧ P) ∨ (v = 0 ∧ ¬ P)) → ¬ v = 0 → P := fun h h0 => by
    rcases h with ⟨q1, q2⟩ | ⟨q1, q2⟩
    · exact q2
    · exact absurd q1 h0
  refine lv_iload_n hx hb dX6_verify_0 rfl (lv_at hl 3 rfl) ?_
  refine r_Si (As := [.int w]) (rest := []) C hM hS (c6_isScalar l D kA N0 M w) gX6_verify_X6_isScalar rfl rfl rfl ⟨by decide +kernel, by decide +kernel, (by decide +kernel : (parseMethodDescriptor yX6_isScalar.desc).map (fun d => d.parameters.length) = some 1)⟩ ⟨Nat.le_of_ble_eq_true rfl, Nat.le_of_ble_eq_true rfl⟩ hl.1 rfl (Nat.le_of_ble_eq_true rfl) dX6_verify_1 ⟨Nat.le_of_ble_eq_true rfl, Nat.le_of_ble_eq_true rfl⟩ (fun v1 M1 H locs hp hM hS => ?_)
  obtain ⟨eM1, hv1⟩ := hp
  rw [eM1] at hM
  refine lv_if_eq (tgt := 23) hx hb dX6_verify_4 (by decide) (fun hc1 => ?_) (fun hc1 => ?_)
  · exact hF23 _ _ ls (sv_no (fun h => h01 hv1 hc1 h.2.2.1)) hM hS hl
  · have hw := h02 hv1 hc1
    refine lv_iload hx hb dX6_verify_7 (lv_at hl 4 rfl) ?_
    refine r_Si (As := [.int r]) (rest := []) C hM hS (c6_isScalar l D kA N0 M r) gX6_verify_X6_isScalar rfl rfl rfl ⟨by decide +kernel, by decide +kernel, (by decide +kernel : (parseMethodDescriptor yX6_isScalar.desc).map (fun d => d.parameters.length) = some 1)⟩ ⟨Nat.le_of_ble_eq_true rfl, Nat.le_of_ble_eq_true rfl⟩ hl.1 rfl (Nat.le_of_ble_eq_true rfl) dX6_verify_9 ⟨Nat.le_of_ble_eq_true rfl, Nat.le_of_ble_eq_true rfl⟩ (fun v2 M1 H locs hp hM hS => ?_)
    obtain ⟨eM2, hv2⟩ := hp
    rw [eM2] at hM
    refine lv_if_eq (tgt := 23) hx hb dX6_verify_12 (by decide) (fun hc2 => ?_) (fun hc2 => ?_)
    · exact hF23 _ _ ls (sv_no (fun h => h01 hv2 hc2 h.2.2.2.1)) hM hS hl
    · have hrs := h02 hv2 hc2
      refine lv_iload hx hb dX6_verify_15 (lv_at hl 5 rfl) ?_
      refine r_Si (As := [.int t]) (rest := []) C hM hS (c6_isScalar l D kA N0 M t) gX6_verify_X6_isScalar rfl rfl rfl ⟨by decide +kernel, by decide +kernel, (by decide +kernel : (parseMethodDescriptor yX6_isScalar.desc).map (fun d => d.parameters.length) = some 1)⟩ ⟨Nat.le_of_ble_eq_true rfl, Nat.le_of_ble_eq_true rfl⟩ hl.1 rfl (Nat.le_of_ble_eq_true rfl) dX6_verify_17 ⟨Nat.le_of_ble_eq_true rfl, Nat.le_of_ble_eq_true rfl⟩ (fun v3 M1 H locs hp hM hS => ?_)
      obtain ⟨eM3, hv3⟩ := hp
      rw [eM3] at hM
      refine lv_if_ne (tgt := 25) hx hb dX6_verify_20 (by decide) (fun hc3 => ?_) (fun hc3 => ?_)
      · have hts9 := h02 hv3 hc3
        refine lv_aload_n hx hb dX6_verify_25 rfl (lv_at hl 0 rfl) ?_
        refine lv_iconst (v := nI 0) hx hb dX6_verify_26 (by decide) ?_
        refine lv_iload_n hx hb dX6_verify_27 rfl (lv_at hl 2 rfl) ?_
        refine r_Vi (As := [.int (nI 0), .int gs]) (rest := []) C hM hS (c6_isGood l D kA N0 M M g 0 S gs N Z hsi mk hz (by omega)) (hob) rfl gX6_verify_X6_isGood rfl rfl rfl ⟨rfl, by decide +kernel, by decide +kernel, (by decide +kernel : (parseMethodDescriptor yX6_isGood.desc).map (fun d => d.parameters.length) = some 2)⟩ ⟨Nat.le_of_ble_eq_true rfl, Nat.le_of_ble_eq_true rfl⟩ hl.1 rfl (Nat.le_of_ble_eq_true rfl) dX6_verify_28 ⟨Nat.le_of_ble_eq_true rfl, Nat.le_of_ble_eq_true rfl⟩ (fun r2 M2 H locs hp hM hS => ?_)
        obtain ⟨N2, Z2, hz2, -, -, hr⟩ := hp
        rcases hr with ⟨er, hgx, gd⟩ | ⟨er, hgx⟩
        · rw [er]
          refine lv_if_eq (tgt := 43) hx hb dX6_verify_31 (by decide) (fun hc4 => ?_) (fun hc4 => ?_)
          · exact absurd hc4 (by decide)
          · obtain ⟨us2, hob2⟩ := hz2.ob
            refine lv_aload_n hx hb dX6_verify_34 rfl (lv_at hl 0 rfl) ?_
            refine lv_iconst (v := nI 1) hx hb dX6_verify_35 (by decide) ?_
            refine lv_iload_n hx hb dX6_verify_36 rfl (lv_at hl 1 rfl) ?_
            refine r_Vi (As := [.int (nI 1), .int q]) (rest := []) C hM hS (c6_isGood l D kA N0 M M2 g 1 S q N2 Z2 hsi mk hz2 (by omega)) (hob2) rfl gX6_verify_X6_isGood rfl rfl rfl ⟨rfl, by decide +kernel, by decide +kernel, (by decide +kernel : (parseMethodDescriptor yX6_isGood.desc).map (fun d => d.parameters.length) = some 2)⟩ ⟨Nat.le_of_ble_eq_true rfl, Nat.le_of_ble_eq_true rfl⟩ hl.1 rfl (Nat.le_of_ble_eq_true rfl) dX6_verify_37 ⟨Nat.le_of_ble_eq_true rfl, Nat.le_of_ble_eq_true rfl⟩ (fun r3 M3 H locs hp hM hS => ?_)
            obtain ⟨N3, Z3, hz3, hfr3, hfz3, hr3⟩ := hp
            rcases hr3 with ⟨er3, hgy, gd3⟩ | ⟨er3, hgy⟩
            · rw [er3]
              refine lv_if_ne (tgt := 45) hx hb dX6_verify_40 (by decide) (fun hc5 => ?_) (fun hc5 => ?_)
              · have hwr := sc_ix hw
                have hwe := ix_eq (x := w) (by omega)
                have hrr := sc_ix hrs
                have hre := ix_eq (x := r) (by omega)
                have htr := sc_ix hts9
                have hte := ix_eq (x := t) (by omega)
                have hl : lv_has ls 6 [(0, .ref g), (1, .int q), (2, .int gs), (3, .int (nI (ix w))), (4, .int (nI (ix r))), (5, .int (nI (ix t)))] := by rw [← hwe, ← hre, ← hte]; exact hl
                have hgp := hsi.sg hgx.1
                have hk1 := kp_s hgp
                obtain ⟨g1, g2, g3, g4, -⟩ := hgp
                have hp9 : S.a 0 < BB ^ 9 := Nat.lt_of_lt_of_le (hsi.ab 0) (Nat.pow_le_pow_right (by decide) hL9)
                have ho9 : S.a 3 < BB ^ 9 := Nat.lt_of_lt_of_le (hsi.ab 3) (Nat.pow_le_pow_right (by decide) hL9)
                have hpx : PV (kp S) N3 Z3 0 (pt S (ix gs)) := gd.2.2.2.2.2.2.2.2.cg (hfr3 _ (by omega) (by omega) (by omega)) (hfr3 _ (by omega) (by omega) (by omega)) (hfz3 0 (by omega))
                obtain ⟨k0, k1, -, k3, k4, -, -, -, hpy⟩ := gd3
                obtain ⟨od, eod⟩ : ∃ x, S.a 3 = x := ⟨_, rfl⟩
                rw [eod] at k3 ho9
                have hmz := hz3
                obtain ⟨M00, hm, hz0, hf0⟩ := hmz
                refine lv_aload_n hx hb dX6_verify_45 rfl (lv_at hl 0 rfl) ?_
                refine lv_iconst (v := nI 3) hx hb dX6_verify_46 (by decide) ?_
                obtain ⟨us9, hob9⟩ := hm.1
                refine r_Vi (As := [.int (nI 3)]) (rest := []) C hM hS (c6_isZero l D kA N0 _ _ g 3 _ _ hm (by omega)) (hob9) rfl gX6_verify_X6_isZero rfl rfl rfl ⟨rfl, by decide +kernel, by decide +kernel, (by decide +kernel : (parseMethodDescriptor yX6_isZero.desc).map (fun d => d.parameters.length) = some 1)⟩ ⟨Nat.le_of_ble_eq_true rfl, Nat.le_of_ble_eq_true rfl⟩ hl.1 rfl (Nat.le_of_ble_eq_true rfl) dX6_verify_47 ⟨Nat.le_of_ble_eq_true rfl, Nat.le_of_ble_eq_true rfl⟩ (fun rz M9 H locs hp9 hM hS => ?_)
                obtain ⟨eM9, hrz⟩ := hp9
                rw [eM9] at hM
                rw [k3] at hrz
                rcases hrz with ⟨q1, q2⟩ | ⟨q1, q2⟩
                · rw [q1]
                  refine lv_if_eq (tgt := 55) hx hb dX6_verify_50 (by decide) (fun hc6 => ?_) (fun hc6 => ?_)
                  · exact absurd hc6 (by decide)
                  · refine lv_iconst (v := (-1)) hx hb dX6_verify_53 (by decide) ?_
                    exact hR (by rw [sv_no (fun h => by have := h.2.2.2.2.2; omega)]) hz3 hM hS dX6_verify_54
                · rw [q1]
                  refine lv_if_eq (tgt := 55) hx hb dX6_verify_50 (by decide) (fun hc6 => ?_) (fun hc6 => ?_)
                  · have hcond : good S q ∧ good S gs ∧ isSc w ∧ isSc r ∧ isSc t ∧ 0 < S.a 3 := ⟨hgy, hgx, hw, hrs, hts9, by omega⟩
                    have h0f : M00 (g + 1) = some (xI (kA 0) 360 f) := by rw [hf0 _ (by omega)]; exact hf
                    obtain ⟨rr, err⟩ : ∃ x, S.a (ix r) = x := ⟨_, rfl⟩
                    obtain ⟨ss, ess⟩ : ∃ x, S.a (ix t) = x := ⟨_, rfl⟩
                    obtain ⟨ee, eee⟩ : ∃ x, S.a (ix w) = x := ⟨_, rfl⟩
                    obtain ⟨us3, hob3⟩ := hm.1
                    refine lv_aload_n hx hb dX6_verify_55 rfl (lv_at hl 0 rfl) ?_
                    refine lv_bipush (v := nI 14) hx hb dX6_verify_56 (by decide) ?_
                    refine lv_iload hx hb dX6_verify_58 (lv_at hl 4 rfl) ?_
                    refine lv_iconst (v := nI 0) hx hb dX6_verify_60 (by decide) ?_
                    refine r_Vv (As := [.int (nI 14), .int (nI (ix r)), .int (nI 0)]) (rest := []) C hM hS (c6_load l D kA N0 M00 _ g 14 (ix r) 0 S.L (BS S) N3 f hm (by omega) (by rw [hm.at4 (by omega) (by omega) (by omega) (by omega) (by omega)]; exact h0f) nf rfl hL9 (by omega)) (hob3) rfl gX6_verify_X6_load rfl rfl rfl ⟨rfl, by decide +kernel, by decide +kernel, (by decide +kernel : (parseMethodDescriptor yX6_load.desc).map (fun d => d.parameters.length) = some 3)⟩ ⟨Nat.le_of_ble_eq_true rfl, Nat.le_of_ble_eq_true rfl⟩ hl.1 rfl (Nat.le_of_ble_eq_true rfl) dX6_verify_61 ⟨Nat.le_of_ble_eq_true rfl, Nat.le_of_ble_eq_true rfl⟩ (fun M4 H locs hm4 hM hS => ?_)
                    rw [Nat.add_zero, (hmf (ix r) (by omega)).1, err] at hm4
                    obtain ⟨us4, hob4⟩ := hm4.1
                    refine lv_aload_n hx hb dX6_verify_64 rfl (lv_at hl 0 rfl) ?_
                    refine lv_bipush (v := nI 15) hx hb dX6_verify_65 (by decide) ?_
                    refine lv_iload hx hb dX6_verify_67 (lv_at hl 5 rfl) ?_
                    refine lv_iconst (v := nI 0) hx hb dX6_verify_69 (by decide) ?_
                    refine r_Vv (As := [.int (nI 15), .int (nI (ix t)), .int (nI 0)]) (rest := []) C hM hS (c6_load l D kA N0 M00 _ g 15 (ix t) 0 S.L (BS S) _ f hm4 (by omega) (by rw [hm4.at4 (by omega) (by omega) (by omega) (by omega) (by omega)]; exact h0f) nf rfl hL9 (by omega)) (hob4) rfl gX6_verify_X6_load rfl rfl rfl ⟨rfl, by decide +kernel, by decide +kernel, (by decide +kernel : (parseMethodDescriptor yX6_load.desc).map (fun d => d.parameters.length) = some 3)⟩ ⟨Nat.le_of_ble_eq_true rfl, Nat.le_of_ble_eq_true rfl⟩ hl.1 rfl (Nat.le_of_ble_eq_true rfl) dX6_verify_70 ⟨Nat.le_of_ble_eq_true rfl, Nat.le_of_ble_eq_true rfl⟩ (fun M5 H locs hm5 hM hS => ?_)
                    rw [Nat.add_zero, (hmf (ix t) (by omega)).1, ess] at hm5
                    obtain ⟨us5, hob5⟩ := hm5.1
                    refine lv_aload_n hx hb dX6_verify_73 rfl (lv_at hl 0 rfl) ?_
                    refine lv_bipush (v := nI 16) hx hb dX6_verify_74 (by decide) ?_
                    refine lv_iload_n hx hb dX6_verify_76 rfl (lv_at hl 3 rfl) ?_
                    refine lv_iconst (v := nI 0) hx hb dX6_verify_77 (by decide) ?_
                    refine r_Vv (As := [.int (nI 16), .int (nI (ix w)), .int (nI 0)]) (rest := []) C hM hS (c6_load l D kA N0 M00 _ g 16 (ix w) 0 S.L (BS S) _ f hm5 (by omega) (by rw [hm5.at4 (by omega) (by omega) (by omega) (by omega) (by omega)]; exact h0f) nf rfl hL9 (by omega)) (hob5) rfl gX6_verify_X6_load rfl rfl rfl ⟨rfl, by decide +kernel, by decide +kernel, (by decide +kernel : (parseMethodDescriptor yX6_load.desc).map (fun d => d.parameters.length) = some 3)⟩ ⟨Nat.le_of_ble_eq_true rfl, Nat.le_of_ble_eq_true rfl⟩ hl.1 rfl (Nat.le_of_ble_eq_true rfl) dX6_verify_78 ⟨Nat.le_of_ble_eq_true rfl, Nat.le_of_ble_eq_true rfl⟩ (fun M6 H locs hm6 hM hS => ?_)
                    rw [Nat.add_zero, (hmf (ix w) (by omega)).1, eee] at hm6
                    obtain ⟨N6, eN6⟩ : ∃ x, un (un (un N3 14 rr) 15 ss) 16 ee = x := ⟨_, rfl⟩
                    rw [eN6] at hm6
                    have m14 : N6 14 = rr := by rw [← eN6, un_n (by omega), un_n (by omega), un_s]
                    have m15 : N6 15 = ss := by rw [← eN6, un_n (by omega), un_s]
                    have m16 : N6 16 = ee := by rw [← eN6, un_s]
                    have hf6 : ∀ j, (j < 14 ∨ 16 < j) → N6 j = N3 j := fun j hj => by rw [← eN6, un_n (by omega), un_n (by omega), un_n (by omega)]
                    have m3 : N6 3 = od := by rw [hf6 3 (by omega)]; exact k3
                    have m4 : N6 4 = 1 := by rw [hf6 4 (by omega)]; exact k4
                    have hm := hm6
                    have hz6 : MZ kA M M6 g (BS S) N6 Z3 := ⟨M00, hm6, hz0, hf0⟩
                    refine lv_aload_n hx hb dX6_verify_81 rfl (lv_at hl 0 rfl) ?_
                    refine lv_bipush (v := nI 14) hx hb dX6_verify_82 (by decide) ?_
                    obtain ⟨us9, hob9⟩ := hm.1
                    refine r_Vi (As := [.int (nI 14)]) (rest := []) C hM hS (c6_isZero l D kA N0 _ _ g 14 _ _ hm (by omega)) (hob9) rfl gX6_verify_X6_isZero rfl rfl rfl ⟨rfl, by decide +kernel, by decide +kernel, (by decide +kernel : (parseMethodDescriptor yX6_isZero.desc).map (fun d => d.parameters.length) = some 1)⟩ ⟨Nat.le_of_ble_eq_true rfl, Nat.le_of_ble_eq_true rfl⟩ hl.1 rfl (Nat.le_of_ble_eq_true rfl) dX6_verify_84 ⟨Nat.le_of_ble_eq_true rfl, Nat.le_of_ble_eq_true rfl⟩ (fun z1 M9 H locs hp9 hM hS => ?_)
                    obtain ⟨eM9, hz1⟩ := hp9
                    rw [eM9] at hM
                    rw [m14] at hz1
                    by_cases c1 : rr = 0
                    · have hz1 : z1 ≠ 0 := by
                        rcases hz1 with ⟨x1, x2⟩ | ⟨x1, x2⟩
                        · rw [x1]; decide
                        · exact absurd c1 x2
                      refine lv_if_ne (tgt := 131) hx hb dX6_verify_87 (by decide) (fun hd1 => ?_) (fun hd1 => ?_)
                      · exact hF131 N6 Z3 _ _ _ _ (sv_0 hcond (by rw [err]; omega)) hz6 hM hS
                      · exact absurd hd1 hz1
                    · have hz1 : z1 = 0 := by
                        rcases hz1 with ⟨x1, x2⟩ | ⟨x1, x2⟩
                        · exact absurd x2 c1
                        · exact x1
                      refine lv_if_ne (tgt := 131) hx hb dX6_verify_87 (by decide) (fun hd1 => ?_) (fun hd1 => ?_)
                      · exact absurd hz1 hd1
                      · refine lv_aload_n hx hb dX6_verify_90 rfl (lv_at hl 0 rfl) ?_
                        refine lv_bipush (v := nI 15) hx hb dX6_verify_91 (by decide) ?_
                        obtain ⟨us9, hob9⟩ := hm.1
                        refine r_Vi (As := [.int (nI 15)]) (rest := []) C hM hS (c6_isZero l D kA N0 _ _ g 15 _ _ hm (by omega)) (hob9) rfl gX6_verify_X6_isZero rfl rfl rfl ⟨rfl, by decide +kernel, by decide +kernel, (by decide +kernel : (parseMethodDescriptor yX6_isZero.desc).map (fun d => d.parameters.length) = some 1)⟩ ⟨Nat.le_of_ble_eq_true rfl, Nat.le_of_ble_eq_true rfl⟩ hl.1 rfl (Nat.le_of_ble_eq_true rfl) dX6_verify_93 ⟨Nat.le_of_ble_eq_true rfl, Nat.le_of_ble_eq_true rfl⟩ (fun z2 M9 H locs hp9 hM hS => ?_)
                        obtain ⟨eM9, hz2⟩ := hp9
                        rw [eM9] at hM
                        rw [m15] at hz2
                        by_cases c2 : ss = 0
                        · have hz2 : z2 ≠ 0 := by
                            rcases hz2 with ⟨x1, x2⟩ | ⟨x1, x2⟩
                            · rw [x1]; decide
                            · exact absurd c2 x2
                          refine lv_if_ne (tgt := 131) hx hb dX6_verify_96 (by decide) (fun hd2 => ?_) (fun hd2 => ?_)
                          · exact hF131 N6 Z3 _ _ _ _ (sv_0 hcond (by rw [ess]; omega)) hz6 hM hS
                          · exact absurd hd2 hz2
                        · have hz2 : z2 = 0 := by
                            rcases hz2 with ⟨x1, x2⟩ | ⟨x1, x2⟩
                            · exact absurd x2 c2
                            · exact x1
                          refine lv_if_ne (tgt := 131) hx hb dX6_verify_96 (by decide) (fun hd2 => ?_) (fun hd2 => ?_)
                          · exact absurd hz2 hd2
                          · refine lv_aload_n hx hb dX6_verify_99 rfl (lv_at hl 0 rfl) ?_
                            refine lv_bipush (v := nI 14) hx hb dX6_verify_100 (by decide) ?_
                            refine lv_iconst (v := nI 3) hx hb dX6_verify_102 (by decide) ?_
                            obtain ⟨us9, hob9⟩ := hm.1
                            refine r_Vi (As := [.int (nI 14), .int (nI 3)]) (rest := []) C hM hS (c6_compare l D kA N0 _ _ g 14 3 _ _ hm (by omega) (by omega)) (hob9) rfl gX6_verify_X6_compare rfl rfl rfl ⟨rfl, by decide +kernel, by decide +kernel, (by decide +kernel : (parseMethodDescriptor yX6_compare.desc).map (fun d => d.parameters.length) = some 2)⟩ ⟨Nat.le_of_ble_eq_true rfl, Nat.le_of_ble_eq_true rfl⟩ hl.1 rfl (Nat.le_of_ble_eq_true rfl) dX6_verify_103 ⟨Nat.le_of_ble_eq_true rfl, Nat.le_of_ble_eq_true rfl⟩ (fun z3 M9 H locs hp9 hM hS => ?_)
                            obtain ⟨eM9, hz3⟩ := hp9
                            rw [eM9] at hM
                            rw [m14, m3] at hz3
                            by_cases c3 : rr < od
                            · have hz3' : ¬ 0 ≤ z3 := by
                                rcases hz3 with ⟨x1, x2⟩ | ⟨x1, x2⟩ | ⟨x1, x2⟩
                                · omega
                                · rw [x1]; decide
                                · omega
                              refine lv_if_ge (tgt := 131) hx hb dX6_verify_106 (by decide) (fun hd3 => ?_) (fun hd3 => ?_)
                              · exact absurd hd3 hz3'
                              · refine lv_aload_n hx hb dX6_verify_109 rfl (lv_at hl 0 rfl) ?_
                                refine lv_bipush (v := nI 15) hx hb dX6_verify_110 (by decide) ?_
                                refine lv_iconst (v := nI 3) hx hb dX6_verify_112 (by decide) ?_
                                obtain ⟨us9, hob9⟩ := hm.1
                                refine r_Vi (As := [.int (nI 15), .int (nI 3)]) (rest := []) C hM hS (c6_compare l D kA N0 _ _ g 15 3 _ _ hm (by omega) (by omega)) (hob9) rfl gX6_verify_X6_compare rfl rfl rfl ⟨rfl, by decide +kernel, by decide +kernel, (by decide +kernel : (parseMethodDescriptor yX6_compare.desc).map (fun d => d.parameters.length) = some 2)⟩ ⟨Nat.le_of_ble_eq_true rfl, Nat.le_of_ble_eq_true rfl⟩ hl.1 rfl (Nat.le_of_ble_eq_true rfl) dX6_verify_113 ⟨Nat.le_of_ble_eq_true rfl, Nat.le_of_ble_eq_true rfl⟩ (fun z4 M9 H locs hp9 hM hS => ?_)
                                obtain ⟨eM9, hz4⟩ := hp9
                                rw [eM9] at hM
                                rw [m15, m3] at hz4
                                by_cases c4 : ss < od
                                · have hz4' : ¬ 0 ≤ z4 := by
                                    rcases hz4 with ⟨x1, x2⟩ | ⟨x1, x2⟩ | ⟨x1, x2⟩
                                    · omega
                                    · rw [x1]; decide
                                    · omega
                                  have hc2' : 0 < S.a (ix r) ∧ S.a (ix r) < S.a 3 ∧ 0 < S.a (ix t) ∧ S.a (ix t) < S.a 3 := by rw [err, ess, eod]; omega
                                  refine lv_if_ge (tgt := 131) hx hb dX6_verify_116 (by decide) (fun hd4 => ?_) (fun hd4 => ?_)
                                  · exact absurd hd4 hz4'
                                  · obtain ⟨us6, hob6⟩ := hm.1
                                    refine lv_aload_n hx hb dX6_verify_119 rfl (lv_at hl 0 rfl) ?_
                                    refine lv_bipush (v := nI 17) hx hb dX6_verify_120 (by decide) ?_
                                    refine lv_bipush (v := nI 15) hx hb dX6_verify_122 (by decide) ?_
                                    refine lv_iconst (v := nI 3) hx hb dX6_verify_124 (by decide) ?_
                                    refine r_Vi (As := [.int (nI 17), .int (nI 15), .int (nI 3)]) (rest := []) C hM hS (c6_inverse l D kA N0 M00 M6 g 17 15 3 (BS S) N6 hm6 (by omega) (by omega) (by omega) (by omega) (by omega) (by omega) (by omega) m4 (by rw [m3]; omega) (by rw [m3, m15]; exact c4) (by rw [m3]; exact ho9)) (hob6) rfl gX6_verify_X6_inverse rfl rfl rfl ⟨rfl, by decide +kernel, by decide +kernel, (by decide +kernel : (parseMethodDescriptor yX6_inverse.desc).map (fun d => d.parameters.length) = some 3)⟩ ⟨Nat.le_of_ble_eq_true rfl, Nat.le_of_ble_eq_true rfl⟩ hl.1 rfl (Nat.le_of_ble_eq_true rfl) dX6_verify_125 ⟨Nat.le_of_ble_eq_true rfl, Nat.le_of_ble_eq_true rfl⟩ (fun r7 M7 H locs hp hM hS => ?_)
                                    obtain ⟨N7, hm, hf7, hr7⟩ := hp
                                    rw [m3, m15] at hr7
                                    have hz7 : MZ kA M M7 g (BS S) N7 Z3 := ⟨M00, hm, hz0, hf0⟩
                                    rcases hr7 with ⟨er7, hi7⟩ | ⟨er7, hi7⟩
                                    · rw [er7]
                                      obtain ⟨iv, eiv⟩ : ∃ x, N7 17 = x := ⟨_, rfl⟩
                                      rw [eiv] at hi7
                                      have hsv := sv_some hcond hc2' (w := iv) (by rw [eod, ess]; exact hi7)
                                      rw [eod, err, eee] at hsv
                                      have hpp : 0 < od := by omega
                                      have n3 : N7 3 = od := by rw [hf7 3 (by omega) (by omega)]; exact m3
                                      have n14 : N7 14 = rr := by rw [hf7 14 (by omega) (by omega)]; exact m14
                                      have n16 : N7 16 = ee := by rw [hf7 16 (by omega) (by omega)]; exact m16
                                      have hfr : ∀ j, (j < 5 ∨ 18 < j) → N7 j = N7 j := fun _ _ => rfl
                                      refine lv_if_ne (tgt := 133) hx hb dX6_verify_128 (by decide) (fun hd5 => ?_) (fun hd5 => ?_)
                                      · refine lv_aload_n hx hb dX6_verify_133 rfl (lv_at hl 0 rfl) ?_
                                        refine lv_bipush (v := nI 16) hx hb dX6_verify_134 (by decide) ?_
                                        refine lv_bipush (v := nI 16) hx hb dX6_verify_136 (by decide) ?_
                                        refine lv_bipush (v := nI 17) hx hb dX6_verify_138 (by decide) ?_
                                        refine lv_iconst (v := nI 3) hx hb dX6_verify_140 (by decide) ?_
                                        obtain ⟨us9, hob9⟩ := hm.1
                                        refine r_Vv (As := [.int (nI 16), .int (nI 16), .int (nI 17), .int (nI 3)]) (rest := []) C hM hS (c6_timesV l D kA N0 _ _ g 16 16 17 3 ee iv od _ _ hm (by omega) (by omega) (by omega) (by omega) n16 eiv n3 hpp (by omega)) (hob9) rfl gX6_verify_X6_times rfl rfl rfl ⟨rfl, by decide +kernel, by decide +kernel, (by decide +kernel : (parseMethodDescriptor yX6_times.desc).map (fun d => d.parameters.length) = some 4)⟩ ⟨Nat.le_of_ble_eq_true rfl, Nat.le_of_ble_eq_true rfl⟩ hl.1 rfl (Nat.le_of_ble_eq_true rfl) dX6_verify_141 ⟨Nat.le_of_ble_eq_true rfl, Nat.le_of_ble_eq_true rfl⟩ (fun M1 H locs hp9 hM hS => ?_)
                                        obtain ⟨N9, hm, un9⟩ := hp9
                                        obtain ⟨w1, ew1⟩ : ∃ q, q = ee * iv % od := ⟨_, rfl⟩
                                        rw [← ew1] at un9
                                        have b_w1 : w1 < od := by rw [ew1]; exact Nat.mod_lt _ hpp
                                        have n_w1 := un9.1
                                        have n3 := un9.k n3 (by omega) (by omega)
                                        have n14 := un9.k n14 (by omega) (by omega)
                                        have eiv := un9.k eiv (by omega) (by omega)
                                        have hfr : ∀ j, (j < 5 ∨ 18 < j) → N9 j = N7 j := fun j hj => un9.k (hfr j hj) (by omega) (by omega)
                                        refine lv_aload_n hx hb dX6_verify_144 rfl (lv_at hl 0 rfl) ?_
                                        refine lv_bipush (v := nI 18) hx hb dX6_verify_145 (by decide) ?_
                                        refine lv_bipush (v := nI 14) hx hb dX6_verify_147 (by decide) ?_
                                        refine lv_bipush (v := nI 17) hx hb dX6_verify_149 (by decide) ?_
                                        refine lv_iconst (v := nI 3) hx hb dX6_verify_151 (by decide) ?_
                                        obtain ⟨us9, hob9⟩ := hm.1
                                        refine r_Vv (As := [.int (nI 18), .int (nI 14), .int (nI 17), .int (nI 3)]) (rest := []) C hM hS (c6_timesV l D kA N0 _ _ g 18 14 17 3 rr iv od _ _ hm (by omega) (by omega) (by omega) (by omega) n14 eiv n3 hpp (by omega)) (hob9) rfl gX6_verify_X6_times rfl rfl rfl ⟨rfl, by decide +kernel, by decide +kernel, (by decide +kernel : (parseMethodDescriptor yX6_times.desc).map (fun d => d.parameters.length) = some 4)⟩ ⟨Nat.le_of_ble_eq_true rfl, Nat.le_of_ble_eq_true rfl⟩ hl.1 rfl (Nat.le_of_ble_eq_true rfl) dX6_verify_152 ⟨Nat.le_of_ble_eq_true rfl, Nat.le_of_ble_eq_true rfl⟩ (fun M1 H locs hp9 hM hS => ?_)
                                        obtain ⟨N9, hm, un9⟩ := hp9
                                        obtain ⟨w2, ew2⟩ : ∃ q, q = rr * iv % od := ⟨_, rfl⟩
                                        rw [← ew2] at un9
                                        have b_w2 : w2 < od := by rw [ew2]; exact Nat.mod_lt _ hpp
                                        have n_w2 := un9.1
                                        have n3 := un9.k n3 (by omega) (by omega)
                                        have n14 := un9.k n14 (by omega) (by omega)
                                        have n_w1 := un9.k n_w1 (by omega) (by omega)
                                        have eiv := un9.k eiv (by omega) (by omega)
                                        have hfr : ∀ j, (j < 5 ∨ 18 < j) → N9 j = N7 j := fun j hj => un9.k (hfr j hj) (by omega) (by omega)
                                        refine lv_aload_n hx hb dX6_verify_155 rfl (lv_at hl 0 rfl) ?_
                                        refine lv_iconst (v := nI 2) hx hb dX6_verify_156 (by decide) ?_
                                        refine lv_bipush (v := nI 16) hx hb dX6_verify_157 (by decide) ?_
                                        refine lv_iconst (v := nI 0) hx hb dX6_verify_159 (by decide) ?_
                                        rw [← ew1, ← ew2] at hsv
                                        have hfb : ∀ j, (j < 5 ∨ 18 < j) → N9 j = N3 j := fun j hj => by rw [hfr j hj, hf7 j (by omega) (by omega), hf6 j (by omega)]
                                        have hz9 : MZ kA M M1 g (BS S) N9 Z3 := ⟨M00, hm, hz0, hf0⟩
                                        obtain ⟨us9, hob9⟩ := hm.1
                                        have hpx9 : PV (kp S) N9 Z3 0 (pt S (ix gs)) := hpx.cg (hfb _ (by omega)) (hfb _ (by omega)) rfl
                                        refine r_Vi (As := [.int (nI 2), .int (nI 16), .int (nI 0)]) (rest := []) C hM hS (c6_multiply l D kA N0 M M1 g 2 16 0 (kp S) (S.a 1) (BS S) N9 Z3 (pt S (ix gs)) hz9 (by omega) (by omega) (by omega) (by omega) (by omega) hpx9 (by rw [hk1, hfb 0 (by omega)]; exact k0) (by rw [hfb 1 (by omega)]; exact k1) (by rw [hfb 4 (by omega)]; exact k4) (by rw [hk1]; exact g3) (by rw [hk1]; exact g1) (by rw [hk1]; exact g2) (by rw [hk1]; exact hp9)) (hob9) rfl gX6_verify_X6_multiply rfl rfl rfl ⟨rfl, by decide +kernel, by decide +kernel, (by decide +kernel : (parseMethodDescriptor yX6_multiply.desc).map (fun d => d.parameters.length) = some 3)⟩ ⟨Nat.le_of_ble_eq_true rfl, Nat.le_of_ble_eq_true rfl⟩ hl.1 rfl (Nat.le_of_ble_eq_true rfl) dX6_verify_160 ⟨Nat.le_of_ble_eq_true rfl, Nat.le_of_ble_eq_true rfl⟩ (fun r10 M10 H locs hp hM hS => ?_)
                                        obtain ⟨N10, Z10, hz10, hf10, hfz10, hr10⟩ := hp
                                        rw [n_w1] at hr10
                                        rcases hr10 with ⟨er10, T1, hT1, hP1⟩ | ⟨er10, hT1⟩
                                        · rw [er10]
                                          rw [hT1] at hsv
                                          obtain ⟨us10, hob10⟩ := hz10.ob
                                          have hpy10 : PV (kp S) N10 Z10 1 (pt S (ix q)) := hpy.cg (by rw [hf10 _ (by omega)]; exact hfb _ (by omega)) (by rw [hf10 _ (by omega)]; exact hfb _ (by omega)) (hfz10 1 (by omega))
                                          refine lv_if_eq (tgt := 187) hx hb dX6_verify_163 (by decide) (fun hd6 => ?_) (fun hd6 => ?_)
                                          · exact absurd hd6 (by decide)
                                          · refine lv_aload_n hx hb dX6_verify_166 rfl (lv_at hl 0 rfl) ?_
                                            refine lv_iconst (v := nI 3) hx hb dX6_verify_167 (by decide) ?_
                                            refine lv_bipush (v := nI 18) hx hb dX6_verify_168 (by decide) ?_
                                            refine lv_iconst (v := nI 1) hx hb dX6_verify_170 (by decide) ?_
                                            refine r_Vi (As := [.int (nI 3), .int (nI 18), .int (nI 1)]) (rest := []) C hM hS (c6_multiply l D kA N0 M M10 g 3 18 1 (kp S) (S.a 1) (BS S) N10 Z10 (pt S (ix q)) hz10 (by omega) (by omega) (by omega) (by omega) (by omega) hpy10 (by rw [hk1, hf10 0 (by omega), hfb 0 (by omega)]; exact k0) (by rw [hf10 1 (by omega), hfb 1 (by omega)]; exact k1) (by rw [hf10 4 (by omega), hfb 4 (by omega)]; exact k4) (by rw [hk1]; exact g3) (by rw [hk1]; exact g1) (by rw [hk1]; exact g2) (by rw [hk1]; exact hp9)) (hob10) rfl gX6_verify_X6_multiply rfl rfl rfl ⟨rfl, by decide +kernel, by decide +kernel, (by decide +kernel : (parseMethodDescriptor yX6_multiply.desc).map (fun d => d.parameters.length) = some 3)⟩ ⟨Nat.le_of_ble_eq_true rfl, Nat.le_of_ble_eq_true rfl⟩ hl.1 rfl (Nat.le_of_ble_eq_true rfl) dX6_verify_171 ⟨Nat.le_of_ble_eq_true rfl, Nat.le_of_ble_eq_true rfl⟩ (fun r11 M11 H locs hp hM hS => ?_)
                                            obtain ⟨N11, Z11, hz11, hf11, hfz11, hr11⟩ := hp
                                            rw [hf10 18 (by omega), n_w2] at hr11
                                            rcases hr11 with ⟨er11, T2, hT2, hP2⟩ | ⟨er11, hT2⟩
                                            · rw [er11]
                                              rw [hT2] at hsv
                                              obtain ⟨us11, hob11⟩ := hz11.ob
                                              have hP11 : PV (kp S) N11 Z11 2 T1 := hP1.cg (hf11 _ (by omega)) (hf11 _ (by omega)) (hfz11 2 (by omega))
                                              refine lv_if_eq (tgt := 187) hx hb dX6_verify_174 (by decide) (fun hd7 => ?_) (fun hd7 => ?_)
                                              · exact absurd hd7 (by decide)
                                              · refine lv_aload_n hx hb dX6_verify_177 rfl (lv_at hl 0 rfl) ?_
                                                refine lv_iconst (v := nI 2) hx hb dX6_verify_178 (by decide) ?_
                                                refine lv_iconst (v := nI 2) hx hb dX6_verify_179 (by decide) ?_
                                                refine lv_iconst (v := nI 3) hx hb dX6_verify_180 (by decide) ?_
                                                refine r_Vi (As := [.int (nI 2), .int (nI 2), .int (nI 3)]) (rest := []) C hM hS (c6_sumPoints l D kA N0 M M11 g 2 2 3 (kp S) (S.a 1) (BS S) N11 Z11 T1 T2 hz11 (by omega) (by omega) (by omega) hP11 hP2 (by rw [hk1, hf11 0 (by omega), hf10 0 (by omega), hfb 0 (by omega)]; exact k0) (by rw [hf11 1 (by omega), hf10 1 (by omega), hfb 1 (by omega)]; exact k1) (by rw [hf11 4 (by omega), hf10 4 (by omega), hfb 4 (by omega)]; exact k4) (by rw [hk1]; exact g3) (by rw [hk1]; exact g1) (by rw [hk1]; exact g2) (by rw [hk1]; exact hp9)) (hob11) rfl gX6_verify_X6_sumPoints rfl rfl rfl ⟨rfl, by decide +kernel, by decide +kernel, (by decide +kernel : (parseMethodDescriptor yX6_sumPoints.desc).map (fun d => d.parameters.length) = some 3)⟩ ⟨Nat.le_of_ble_eq_true rfl, Nat.le_of_ble_eq_true rfl⟩ hl.1 rfl (Nat.le_of_ble_eq_true rfl) dX6_verify_181 ⟨Nat.le_of_ble_eq_true rfl, Nat.le_of_ble_eq_true rfl⟩ (fun r12 M12 H locs hp hM hS => ?_)
                                                obtain ⟨N12, Z12, hz12, hf12, hfz12, hr12⟩ := hp
                                                have p3 : N12 3 = od := by rw [hf12 3 (by omega), hf11 3 (by omega), hf10 3 (by omega), hfb 3 (by omega)]; exact k3
                                                have p14 : N12 14 = rr := by
                                                  rw [hf12 14 (by omega), hf11 14 (by omega), hf10 14 (by omega)]
                                                  exact n14
                                                rcases hr12 with ⟨er12, T3, hT3, hP3⟩ | ⟨er12, hT3⟩
                                                · rw [er12]
                                                  refine lv_if_ne (tgt := 190) hx hb dX6_verify_184 (by decide) (fun hd8 => ?_) (fun hd8 => ?_)
                                                  · obtain ⟨us12, hob12⟩ := hz12.ob
                                                    have hz124 := hz12.z
                                                    refine lv_aload_n hx hb dX6_verify_190 rfl (lv_at hl 0 rfl) ?_
                                                    refine x_get (v := .ref (g + 4)) hx hb hts in_X6_verify_X6 hown hK hM (hob12) rfl 7 (by decide) (hts (.fieldLink RX6 24 "LimbCurvesModel" "isNothing" "[Z") (by decide +kernel)) (fun _ h9 => h9) rfl dX6_verify_191 ?_
                                                    refine lv_iconst (v := nI 2) hx hb dX6_verify_194 (by decide) ?_
                                                    refine r_zald C hM (hz124) rfl (by omega) (by omega) dX6_verify_195 ?_
                                                    rcases hP3 with ⟨x1, x2⟩ | ⟨x1, x2, x3, x4⟩
                                                    · rw [x1]
                                                      refine lv_if_eq (tgt := 201) hx hb dX6_verify_196 (by decide) (fun hd9 => ?_) (fun hd9 => ?_)
                                                      · exact absurd hd9 (by decide)
                                                      · refine lv_iconst (v := nI 0) hx hb dX6_verify_199 (by decide) ?_
                                                        exact hR (by rw [hsv, vr_4 (by rw [hT3, x2])]; rfl) hz12 hM hS dX6_verify_200
                                                    · rw [x1]
                                                      refine lv_if_eq (tgt := 201) hx hb dX6_verify_196 (by decide) (fun hd9 => ?_) (fun hd9 => ?_)
                                                      · obtain ⟨XX, eXX⟩ : ∃ x, N12 24 = x := ⟨_, rfl⟩
                                                        have x2 : N12 24 < kp S + 1 := x2
                                                        have x4 : T3 = some (fz (kp S) (N12 24), fz (kp S) (N12 25)) := x4
                                                        rw [eXX] at x2 x4
                                                        have hvr := vr_5 (n := od) (r := rr) (by rw [hT3, x4])
                                                        rw [fz_val, Nat.mod_eq_of_lt x2] at hvr
                                                        rw [hvr] at hsv
                                                        obtain ⟨M02, hm, hz02, hf02⟩ := hz12
                                                        refine lv_aload_n hx hb dX6_verify_201 rfl (lv_at hl 0 rfl) ?_
                                                        refine lv_iconst (v := nI 5) hx hb dX6_verify_202 (by decide) ?_
                                                        refine lv_iconst (v := nI 2) hx hb dX6_verify_203 (by decide) ?_
                                                        refine r_Si (As := [.int (nI 2)]) (rest := [.int (nI 5), .ref g]) C hM hS (c6_x l D kA N0 _ 2 (by omega)) gX6_verify_X6_x rfl rfl rfl ⟨by decide +kernel, by decide +kernel, (by decide +kernel : (parseMethodDescriptor yX6_x.desc).map (fun d => d.parameters.length) = some 1)⟩ ⟨Nat.le_of_ble_eq_true rfl, Nat.le_of_ble_eq_true rfl⟩ hl.1 rfl (Nat.le_of_ble_eq_true rfl) dX6_verify_204 ⟨Nat.le_of_ble_eq_true rfl, Nat.le_of_ble_eq_true rfl⟩ (fun r9 M9 H locs hp9 hM hS => ?_)
                                                        obtain ⟨er9, eM9⟩ := hp9
                                                        rw [eM9] at hM
                                                        rw [er9]
                                                        refine lv_iconst (v := nI 3) hx hb dX6_verify_207 (by decide) ?_
                                                        obtain ⟨us9, hob9⟩ := hm.1
                                                        refine r_Vv (As := [.int (nI 5), .int (nI 24), .int (nI 3)]) (rest := []) C hM hS (c6_restV l D kA N0 _ _ g 5 24 3 XX od _ _ hm (by omega) (by omega) (by omega) eXX p3 hpp (by omega)) (hob9) rfl gX6_verify_X6_rest rfl rfl rfl ⟨rfl, by decide +kernel, by decide +kernel, (by decide +kernel : (parseMethodDescriptor yX6_rest.desc).map (fun d => d.parameters.length) = some 3)⟩ ⟨Nat.le_of_ble_eq_true rfl, Nat.le_of_ble_eq_true rfl⟩ hl.1 rfl (Nat.le_of_ble_eq_true rfl) dX6_verify_208 ⟨Nat.le_of_ble_eq_true rfl, Nat.le_of_ble_eq_true rfl⟩ (fun M1 H locs hp9 hM hS => ?_)
                                                        obtain ⟨N9, hm, un9⟩ := hp9
                                                        obtain ⟨w1, ew1⟩ : ∃ q, q = XX % od := ⟨_, rfl⟩
                                                        rw [← ew1] at un9
                                                        have b_w1 : w1 < od := by rw [ew1]; exact Nat.mod_lt _ hpp
                                                        have n_w1 := un9.1
                                                        have p3 := un9.k p3 (by omega) (by omega)
                                                        have p14 := un9.k p14 (by omega) (by omega)
                                                        have eXX := un9.k eXX (by omega) (by omega)
                                                        refine lv_aload_n hx hb dX6_verify_211 rfl (lv_at hl 0 rfl) ?_
                                                        refine lv_iconst (v := nI 5) hx hb dX6_verify_212 (by decide) ?_
                                                        refine lv_bipush (v := nI 14) hx hb dX6_verify_213 (by decide) ?_
                                                        obtain ⟨us9, hob9⟩ := hm.1
                                                        refine r_Vi (As := [.int (nI 5), .int (nI 14)]) (rest := []) C hM hS (c6_compare l D kA N0 _ _ g 5 14 _ _ hm (by omega) (by omega)) (hob9) rfl gX6_verify_X6_compare rfl rfl rfl ⟨rfl, by decide +kernel, by decide +kernel, (by decide +kernel : (parseMethodDescriptor yX6_compare.desc).map (fun d => d.parameters.length) = some 2)⟩ ⟨Nat.le_of_ble_eq_true rfl, Nat.le_of_ble_eq_true rfl⟩ hl.1 rfl (Nat.le_of_ble_eq_true rfl) dX6_verify_215 ⟨Nat.le_of_ble_eq_true rfl, Nat.le_of_ble_eq_true rfl⟩ (fun rf M9 H locs hp9 hM hS => ?_)
                                                        obtain ⟨eM9, hrf⟩ := hp9
                                                        rw [eM9] at hM
                                                        rw [n_w1, p14] at hrf
                                                        rw [ew1] at hrf
                                                        by_cases c9 : XX % od = rr
                                                        · have hrf0 : rf = 0 := by
                                                            rcases hrf with ⟨y1, y2⟩ | ⟨y1, y2⟩ | ⟨y1, y2⟩
                                                            · exact y1
                                                            · omega
                                                            · omega
                                                          rw [hrf0]
                                                          refine lv_if_ne (tgt := 225) hx hb dX6_verify_218 (by decide) (fun hd10 => ?_) (fun hd10 => ?_)
                                                          · exact absurd rfl hd10
                                                          · refine lv_iconst (v := nI 1) hx hb dX6_verify_221 (by decide) ?_
                                                            refine lv_goto (tgt := 226) hx hb dX6_verify_222 (by decide) ?_
                                                            exact hR (by rw [hsv, if_pos c9]; rfl) ⟨M02, hm, hz02, hf02⟩ hM hS dX6_verify_226
                                                        · have hrf0 : rf ≠ 0 := by
                                                            rcases hrf with ⟨y1, y2⟩ | ⟨y1, y2⟩ | ⟨y1, y2⟩
                                                            · exact absurd y2 c9
                                                            · rw [y1]; decide
                                                            · rw [y1]; decide
                                                          refine lv_if_ne (tgt := 225) hx hb dX6_verify_218 (by decide) (fun hd10 => ?_) (fun hd10 => ?_)
                                                          · refine lv_iconst (v := nI 0) hx hb dX6_verify_225 (by decide) ?_
                                                            exact hR (by rw [hsv, if_neg c9]; rfl) ⟨M02, hm, hz02, hf02⟩ hM hS dX6_verify_226
                                                          · exact absurd hd10 hrf0
                                                      · exact absurd rfl hd9
                                                  · exact absurd hd8 (by decide)
                                                · rw [er12]
                                                  refine lv_if_ne (tgt := 190) hx hb dX6_verify_184 (by decide) (fun hd8 => ?_) (fun hd8 => ?_)
                                                  · exact absurd rfl hd8
                                                  · exact hF187 N12 Z12 _ _ _ _ (by rw [hsv]; exact vr_3 hT3) hz12 hM hS
                                            · rw [er11]
                                              rw [hT2] at hsv
                                              refine lv_if_eq (tgt := 187) hx hb dX6_verify_174 (by decide) (fun hd7 => ?_) (fun hd7 => ?_)
                                              · exact hF187 N11 Z11 _ _ _ _ (by rw [hsv]; exact vr_2) hz11 hM hS
                                              · exact absurd rfl hd7
                                        · rw [er10]
                                          rw [hT1] at hsv
                                          refine lv_if_eq (tgt := 187) hx hb dX6_verify_163 (by decide) (fun hd6 => ?_) (fun hd6 => ?_)
                                          · exact hF187 N10 Z10 _ _ _ _ (by rw [hsv]; exact vr_1) hz10 hM hS
                                          · exact absurd rfl hd6
                                      · exact absurd hd5 (by decide)
                                    · rw [er7]
                                      refine lv_if_ne (tgt := 133) hx hb dX6_verify_128 (by decide) (fun hd5 => ?_) (fun hd5 => ?_)
                                      · exact absurd rfl hd5
                                      · exact hF131 N7 Z3 _ _ _ _ (sv_none hcond hc2' (by rw [eod, ess]; exact hi7)) hz7 hM hS
                                · have hz4' : 0 ≤ z4 := by
                                    rcases hz4 with ⟨x1, x2⟩ | ⟨x1, x2⟩ | ⟨x1, x2⟩
                                    · rw [x1]; decide
                                    · omega
                                    · rw [x1]; decide
                                  refine lv_if_ge (tgt := 131) hx hb dX6_verify_116 (by decide) (fun hd4 => ?_) (fun hd4 => ?_)
                                  · exact hF131 N6 Z3 _ _ _ _ (sv_0 hcond (by rw [ess, eod]; omega)) hz6 hM hS
                                  · exact absurd hz4' hd4
                            · have hz3' : 0 ≤ z3 := by
                                rcases hz3 with ⟨x1, x2⟩ | ⟨x1, x2⟩ | ⟨x1, x2⟩
                                · rw [x1]; decide
                                · omega
                                · rw [x1]; decide
                              refine lv_if_ge (tgt := 131) hx hb dX6_verify_106 (by decide) (fun hd3 => ?_) (fun hd3 => ?_)
                              · exact hF131 N6 Z3 _ _ _ _ (sv_0 hcond (by rw [err, eod]; omega)) hz6 hM hS
                              · exact absurd hz3' hd3
                  · exact absurd rfl hc6
              · exact absurd hc5 (by decide)
            · rw [er3]
              refine lv_if_ne (tgt := 45) hx hb dX6_verify_40 (by decide) (fun hc5 => ?_) (fun hc5 => ?_)
              · exact absurd rfl hc5
              · exact hF43 N3 Z3 M3 _ _ ls (sv_no (fun h => hgy h.1)) hz3 hM hS hl
        · rw [er]
          refine lv_if_eq (tgt := 43) hx hb dX6_verify_31 (by decide) (fun hc4 => ?_) (fun hc4 => ?_)
          · exact hF43 N2 Z2 M2 _ _ ls (sv_no (fun h => hgx h.2.1)) hz2 hM hS hl
          · exact absurd rfl hc4
      · exact hF23 _ _ ls (sv_no (fun h => h01 hv3 hc3 h.2.2.2.2.1)) hM hS hl
end NM19
