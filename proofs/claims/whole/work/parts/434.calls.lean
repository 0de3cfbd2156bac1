theorem in_X6_negate_X6 : ∀ w ∈ wsX60, w ∈ wsX6_negate := by decide +kernel
section NM18
variable {p : Program} {l : Launch} {e : Env} {R : Room} {s : State} {m : MethodId} {args : Array Value} {below : List Frame} {meth : Method} {c : Code} {Q : State → Prop} {cells slots : Nat} {ret : Option FieldType} {D : va_G} {kA : Nat → ClassId} {N0 : Nat}
theorem kp_s {S : St} (h : goodP S) : kp S + 1 = S.a 0 := by
  have := h.2.1
  unfold kp
  omega
theorem spAdd_n {S : St} {d x y : Int32} (h : ¬ (isPo d ∧ good S x ∧ good S y)) : spAdd S d x y = (0, S) := by
  unfold spAdd
  rw [if_neg h]
theorem spAdd_y {S : St} {d x y : Int32} (h : isPo d ∧ good S x ∧ good S y) : spAdd S d x y = wrp S (ix d) (psum (fz (kp S) (S.a 1)) (pt S (ix x)) (pt S (ix y))) := by
  unfold spAdd
  rw [if_pos h]
theorem spMul_n {S : St} {d k x : Int32} (h : ¬ (isPo d ∧ isSc k ∧ good S x)) : spMul S d k x = (0, S) := by
  unfold spMul
  rw [if_neg h]
theorem spMul_y {S : St} {d k x : Int32} (h : isPo d ∧ isSc k ∧ good S x) : spMul S d k x = wrp S (ix d) (kT (fz (kp S) (S.a 1)) (pt S (ix x)) (S.a (ix k))) := by
  unfold spMul
  rw [if_pos h]
set_option maxRecDepth 100000 in
theorem c6_addPts (l : Launch) (D : va_G) (kA : Nat → ClassId) (N0 : Nat) (M : xM) (g : Nat) (S : St) (a x y : Int32) (hsi : Si S) (mk : Mk kA M g S) : cI l yX6_addPts wsX6_addPts (xR 6) [.ref g, .int a, .int x, .int y] D kA N0 M (fun v M1 => v = (spAdd S a x y).1 ∧ Mk kA M1 g (spAdd S a x y).2 ∧ ∀ b, b < g ∨ g + 7 < b → M1 b = M b) := by
  have hL0 := hsi.L1
  have hL9 := hsi.L9
  obtain ⟨N, Z, hz⟩ := mk.mz
  obtain ⟨us, hob⟩ := hz.ob
  refine r_mZ (cc := cX6_addPts) (maxL := 5) (by decide) rfl (Nat.le_of_ble_eq_true rfl) ?_
  intro p e s m below meth c ls A0 Qp C hM hnm hl hend
  obtain ⟨hx, hb, hml, hown, hts, hr, hlocks, hK, hN⟩ := _root_.id C
  have hS : va_S (xA N0) s.heap s.heap [] := va_S.rf
  have hl : lv_has ls 5 [(0, .ref g), (1, .int a), (2, .int x), (3, .int y)] := hl
  have hF63 : ∀ (N1 : Nat → Nat) (Z1 : Nat → Int32) (v1 v4 : Int32) (M1 : xM) (H : Heap) (locs : List Loc) (ls : Array Slot), spAdd S a x y = (0, S) → MZ kA M M1 g (BS S) N1 Z1 → xW D vwCl N0 M1 H → va_S (xA N0) s.heap H locs → lv_has ls 5 [(4, .int v4), (0, .ref g), (1, .int v1), (2, .int x), (3, .int y)] → W p l e (xR 6) s m A0 below meth c H locs 0 0 Qp (F0 m 63 ls []) := by
    intro N1 Z1 v1 v4 M1 H locs ls hq hz1 hM hS hl
    rw [hq] at hend
    refine lv_iconst (v := nI 0) hx hb dX6_addPts_63 (by decide) ?_
    refine lv_istore (lv' := [(4, .int (nI 0)), (0, .ref g), (1, .int v1), (2, .int x), (3, .int y)]) hx hb dX6_addPts_64 hl (by decide) rfl (fun ls hl => ?_)
    refine lv_iload hx hb dX6_addPts_66 (lv_at hl 0 rfl) ?_
    refine r_if_eqN (tgt := 77) C (by omega) dX6_addPts_68 (by decide) (fun hc => ?_) (fun hc => ?_)
    · refine lv_iload hx hb dX6_addPts_77 (lv_at hl 0 rfl) ?_
      exact hend _ _ _ _ _ _ hM hS (by decide) (⟨rfl, mk.scr hz1⟩) dX6_addPts_79
    · omega
  have hF41 : ∀ (N1 : Nat → Nat) (Z1 : Nat → Int32) (v1 v4 : Int32) (M1 : xM) (H : Heap) (locs : List Loc) (ls : Array Slot), spAdd S a x y = (0, S) → MZ kA M M1 g (BS S) N1 Z1 → xW D vwCl N0 M1 H → va_S (xA N0) s.heap H locs → lv_has ls 5 [(4, .int v4), (0, .ref g), (1, .int v1), (2, .int x), (3, .int y)] → W p l e (xR 6) s m A0 below meth c H locs 0 0 Qp (F0 m 41 ls []) := by
    intro N1 Z1 v1 v4 M1 H locs ls hq hz1 hM hS hl
    refine lv_iconst (v := nI 0) hx hb dX6_addPts_41 (by decide) ?_
    refine lv_istore (lv' := [(4, .int (nI 0)), (0, .ref g), (1, .int v1), (2, .int x), (3, .int y)]) hx hb dX6_addPts_42 hl (by decide) rfl (fun ls hl => ?_)
    refine lv_iload hx hb dX6_addPts_44 (lv_at hl 0 rfl) ?_
    refine r_if_eqN (tgt := 63) C (by omega) dX6_addPts_46 (by decide) (fun hc => ?_) (fun hc => ?_)
    · exact hF63 N1 Z1 _ _ M1 H locs _ hq hz1 hM hS hl
    · omega
  have hF20 : ∀ (N1 : Nat → Nat) (Z1 : Nat → Int32) (M1 : xM) (H : Heap) (locs : List Loc) (ls : Array Slot), spAdd S a x y = (0, S) → MZ kA M M1 g (BS S) N1 Z1 → xW D vwCl N0 M1 H → va_S (xA N0) s.heap H locs → lv_has ls 5 [(0, .ref g), (1, .int a), (2, .int x), (3, .int y)] → W p l e (xR 6) s m A0 below meth c H locs 0 0 Qp (F0 m 20 ls []) := by
    intro N1 Z1 M1 H locs ls hq hz1 hM hS hl
    refine lv_iconst (v := nI 0) hx hb dX6_addPts_20 (by decide) ?_
    refine lv_istore (lv' := [(4, .int (nI 0)), (0, .ref g), (1, .int a), (2, .int x), (3, .int y)]) hx hb dX6_addPts_21 hl (by decide) rfl (fun ls hl => ?_)
    refine lv_iload hx hb dX6_addPts_23 (lv_at hl 0 rfl) ?_
    refine r_if_eqN (tgt := 41) C (by omega) dX6_addPts_25 (by decide) (fun hc => ?_) (fun hc => ?_)
    · exact hF41 N1 Z1 _ _ M1 H locs _ hq hz1 hM hS hl
    · omega
  refine lv_iload_n hx hb dX6_addPts_0 rfl (lv_at hl 1 rfl) ?_
  refine r_Si (As := [.int a]) (rest := []) C hM hS (c6_isPoint l D kA N0 M a) gX6_addPts_X6_isPoint rfl rfl rfl ⟨by decide +kernel, by decide +kernel, (by decide +kernel : (parseMethodDescriptor yX6_isPoint.desc).map (fun d => d.parameters.length) = some 1)⟩ ⟨Nat.le_of_ble_eq_true rfl, Nat.le_of_ble_eq_true rfl⟩ hl.1 rfl (Nat.le_of_ble_eq_true rfl) dX6_addPts_1 ⟨Nat.le_of_ble_eq_true rfl, Nat.le_of_ble_eq_true rfl⟩ (fun v M1 H locs hp hM hS => ?_)
  obtain ⟨eM, hv⟩ := hp
  rw [eM] at hM
  refine lv_if_eq (tgt := 20) hx hb dX6_addPts_4 (by decide) (fun hc1 => ?_) (fun hc1 => ?_)
  · have hn : ¬ isPo a := by
      rcases hv with ⟨h1, h2⟩ | ⟨h1, h2⟩
      · rw [h1] at hc1; exact absurd hc1 (by decide)
      · exact h2
    exact hF20 N Z _ _ _ ls (spAdd_n (fun q => hn q.1)) hz hM hS hl
  · have hn : isPo a := by
      rcases hv with ⟨h1, h2⟩ | ⟨h1, h2⟩
      · exact h2
      · exact absurd h1 hc1
    have har := po_ix hn
    have hae := ix_eq (x := a) (by omega)
    refine lv_aload_n hx hb dX6_addPts_7 rfl (lv_at hl 0 rfl) ?_
    refine lv_iconst (v := nI 0) hx hb dX6_addPts_8 (by decide) ?_
    refine lv_iload_n hx hb dX6_addPts_9 rfl (lv_at hl 2 rfl) ?_
    refine r_Vi (As := [.int (nI 0), .int x]) (rest := []) C hM hS (c6_isGood l D kA N0 M M g 0 S x N Z hsi mk hz (by omega)) (hob) rfl gX6_addPts_X6_isGood rfl rfl rfl ⟨rfl, by decide +kernel, by decide +kernel, (by decide +kernel : (parseMethodDescriptor yX6_isGood.desc).map (fun d => d.parameters.length) = some 2)⟩ ⟨Nat.le_of_ble_eq_true rfl, Nat.le_of_ble_eq_true rfl⟩ hl.1 rfl (Nat.le_of_ble_eq_true rfl) dX6_addPts_10 ⟨Nat.le_of_ble_eq_true rfl, Nat.le_of_ble_eq_true rfl⟩ (fun r M2 H locs hp hM hS => ?_)
    obtain ⟨N2, Z2, hz2, -, -, hr⟩ := hp
    rcases hr with ⟨er, hgx, gd⟩ | ⟨er, hgx⟩
    · rw [er]
      refine lv_if_eq (tgt := 20) hx hb dX6_addPts_13 (by decide) (fun hc2 => ?_) (fun hc2 => ?_)
      · exact absurd hc2 (by decide)
      · obtain ⟨us2, hob2⟩ := hz2.ob
        refine lv_iconst (v := nI 1) hx hb dX6_addPts_16 (by decide) ?_
        refine lv_goto (tgt := 21) hx hb dX6_addPts_17 (by decide) ?_
        refine lv_istore (lv' := [(4, .int (nI 1)), (0, .ref g), (1, .int a), (2, .int x), (3, .int y)]) hx hb dX6_addPts_21 hl (by decide) rfl (fun ls hl => ?_)
        refine lv_iload hx hb dX6_addPts_23 (lv_at hl 0 rfl) ?_
        refine r_if_eqN (tgt := 41) C (by omega) dX6_addPts_25 (by decide) (fun hc3 => ?_) (fun hc3 => ?_)
        · omega
        · refine lv_aload_n hx hb dX6_addPts_28 rfl (lv_at hl 1 rfl) ?_
          refine lv_iconst (v := nI 1) hx hb dX6_addPts_29 (by decide) ?_
          refine lv_iload_n hx hb dX6_addPts_30 rfl (lv_at hl 4 rfl) ?_
          refine r_Vi (As := [.int (nI 1), .int y]) (rest := []) C hM hS (c6_isGood l D kA N0 M M2 g 1 S y N2 Z2 hsi mk hz2 (by omega)) (hob2) rfl gX6_addPts_X6_isGood rfl rfl rfl ⟨rfl, by decide +kernel, by decide +kernel, (by decide +kernel : (parseMethodDescriptor yX6_isGood.desc).map (fun d => d.parameters.length) = some 2)⟩ ⟨Nat.le_of_ble_eq_true rfl, Nat.le_of_ble_eq_true rfl⟩ hl.1 rfl (Nat.le_of_ble_eq_true rfl) dX6_addPts_31 ⟨Nat.le_of_ble_eq_true rfl, Nat.le_of_ble_eq_true rfl⟩ (fun r3 M3 H locs hp hM hS => ?_)
          obtain ⟨N3, Z3, hz3, hfr3, hfz3, hr3⟩ := hp
          rcases hr3 with ⟨er3, hgy, gd3⟩ | ⟨er3, hgy⟩
          · rw [er3]
            refine lv_if_eq (tgt := 41) hx hb dX6_addPts_34 (by decide) (fun hc4 => ?_) (fun hc4 => ?_)
            · exact absurd hc4 (by decide)
            · obtain ⟨us3, hob3⟩ := hz3.ob
              have hgp := hsi.sg hgx.1
              have hk1 := kp_s hgp
              obtain ⟨g1, g2, g3, g4, -⟩ := hgp
              have hp9 : S.a 0 < BB ^ 9 := Nat.lt_of_lt_of_le (hsi.ab 0) (Nat.pow_le_pow_right (by decide) hL9)
              have hpx : PV (kp S) N3 Z3 0 (pt S (ix x)) := gd.2.2.2.2.2.2.2.2.cg (hfr3 _ (by omega) (by omega) (by omega)) (hfr3 _ (by omega) (by omega) (by omega)) (hfz3 0 (by omega))
              have hpy := gd3.2.2.2.2.2.2.2.2
              refine lv_iconst (v := nI 1) hx hb dX6_addPts_37 (by decide) ?_
              refine lv_goto (tgt := 42) hx hb dX6_addPts_38 (by decide) ?_
              refine lv_istore (lv' := [(4, .int (nI 1)), (0, .ref g), (1, .int a), (2, .int x), (3, .int y)]) hx hb dX6_addPts_42 hl (by decide) rfl (fun ls hl => ?_)
              refine lv_iload hx hb dX6_addPts_44 (lv_at hl 0 rfl) ?_
              refine r_if_eqN (tgt := 63) C (by omega) dX6_addPts_46 (by decide) (fun hc5 => ?_) (fun hc5 => ?_)
              · omega
              · refine lv_aload_n hx hb dX6_addPts_49 rfl (lv_at hl 1 rfl) ?_
                refine lv_iconst (v := nI 2) hx hb dX6_addPts_50 (by decide) ?_
                refine lv_iconst (v := nI 0) hx hb dX6_addPts_51 (by decide) ?_
                refine lv_iconst (v := nI 1) hx hb dX6_addPts_52 (by decide) ?_
                refine r_Vi (As := [.int (nI 2), .int (nI 0), .int (nI 1)]) (rest := []) C hM hS (c6_sumPoints l D kA N0 M M3 g 2 0 1 (kp S) (S.a 1) (BS S) N3 Z3 (pt S (ix x)) (pt S (ix y)) hz3 (by omega) (by omega) (by omega) hpx hpy (by rw [hk1]; exact gd3.1) gd3.2.1 gd3.2.2.2.2.1 (by rw [hk1]; exact g3) (by rw [hk1]; exact g1) (by rw [hk1]; exact g2) (by rw [hk1]; exact hp9)) (hob3) rfl gX6_addPts_X6_sumPoints rfl rfl rfl ⟨rfl, by decide +kernel, by decide +kernel, (by decide +kernel : (parseMethodDescriptor yX6_sumPoints.desc).map (fun d => d.parameters.length) = some 3)⟩ ⟨Nat.le_of_ble_eq_true rfl, Nat.le_of_ble_eq_true rfl⟩ hl.1 rfl (Nat.le_of_ble_eq_true rfl) dX6_addPts_53 ⟨Nat.le_of_ble_eq_true rfl, Nat.le_of_ble_eq_true rfl⟩ (fun r4 M4 H locs hp hM hS => ?_)
                obtain ⟨N4, Z4, hz4, -, -, hr4⟩ := hp
                have hsp := spAdd_y ⟨hn, hgx, hgy⟩
                rcases hr4 with ⟨er4, T, hT, hPV⟩ | ⟨er4, hT⟩
                · rw [er4]
                  rw [hT] at hsp
                  have hsp : spAdd S a x y = (1, endf (wp S (ix a) T) (ix a)) := hsp
                  rw [hsp] at hend
                  refine lv_if_eq (tgt := 63) hx hb dX6_addPts_56 (by decide) (fun hc6 => ?_) (fun hc6 => ?_)
                  · exact absurd hc6 (by decide)
                  · obtain ⟨us4, hob4⟩ := hz4.ob
                    have hkL : kp S + 1 ≤ BB ^ S.L := by rw [hk1]; exact Nat.le_of_lt (hsi.ab 0)
                    have hl : lv_has ls 5 [(4, .int (nI 1)), (0, .ref g), (1, .int (nI (ix a))), (2, .int x), (3, .int y)] := by rw [← hae]; exact hl
                    refine lv_iconst (v := nI 1) hx hb dX6_addPts_59 (by decide) ?_
                    refine lv_goto (tgt := 64) hx hb dX6_addPts_60 (by decide) ?_
                    refine lv_istore (lv' := [(4, .int (nI 1)), (0, .ref g), (1, .int (nI (ix a))), (2, .int x), (3, .int y)]) hx hb dX6_addPts_64 hl (by decide) rfl (fun ls hl => ?_)
                    refine lv_iload hx hb dX6_addPts_66 (lv_at hl 0 rfl) ?_
                    refine r_if_eqN (tgt := 77) C (by omega) dX6_addPts_68 (by decide) (fun hc7 => ?_) (fun hc7 => ?_)
                    · omega
                    · refine lv_aload_n hx hb dX6_addPts_71 rfl (lv_at hl 1 rfl) ?_
                      refine lv_iload_n hx hb dX6_addPts_72 rfl (lv_at hl 2 rfl) ?_
                      refine lv_iconst (v := nI 2) hx hb dX6_addPts_73 (by decide) ?_
                      refine r_Vv (As := [.int (nI (ix a)), .int (nI 2)]) (rest := []) C hM hS (c6_storeP l D kA N0 M M4 g (ix a) 2 (kp S) S N4 Z4 T hsi mk hz4 har.1 har.2 (by omega) hPV hkL) (hob4) rfl gX6_addPts_X6_storePoint rfl rfl rfl ⟨rfl, by decide +kernel, by decide +kernel, (by decide +kernel : (parseMethodDescriptor yX6_storePoint.desc).map (fun d => d.parameters.length) = some 2)⟩ ⟨Nat.le_of_ble_eq_true rfl, Nat.le_of_ble_eq_true rfl⟩ hl.1 rfl (Nat.le_of_ble_eq_true rfl) dX6_addPts_74 ⟨Nat.le_of_ble_eq_true rfl, Nat.le_of_ble_eq_true rfl⟩ (fun M5 H locs hp hM hS => ?_)
                      refine lv_iload hx hb dX6_addPts_77 (lv_at hl 0 rfl) ?_
                      exact hend _ _ _ _ _ _ hM hS (by decide) (⟨rfl, hp⟩) dX6_addPts_79
                · rw [er4]
                  rw [hT] at hsp
                  refine lv_if_eq (tgt := 63) hx hb dX6_addPts_56 (by decide) (fun hc6 => ?_) (fun hc6 => ?_)
                  · exact hF63 N4 Z4 _ _ M4 H locs ls hsp hz4 hM hS hl
                  · exact absurd rfl hc6
          · rw [er3]
            refine lv_if_eq (tgt := 41) hx hb dX6_addPts_34 (by decide) (fun hc4 => ?_) (fun hc4 => ?_)
            · exact hF41 N3 Z3 _ _ M3 H locs ls (spAdd_n (fun q => hgy q.2.2)) hz3 hM hS hl
            · exact absurd rfl hc4
    · rw [er]
      refine lv_if_eq (tgt := 20) hx hb dX6_addPts_13 (by decide) (fun hc2 => ?_) (fun hc2 => ?_)
      · exact hF20 N2 Z2 M2 H locs ls (spAdd_n (fun q => hgx q.2.1)) hz2 hM hS hl
      · exact absurd rfl hc2
set_option maxRecDepth 100000 in
theorem c6_dbl (l : Launch) (D : va_G) (kA : Nat → ClassId) (N0 : Nat) (M : xM) (g : Nat) (S : St) (a x : Int32) (hsi : Si S) (mk : Mk kA M g S) : cI l yX6_dbl wsX6_dbl (xR 7) [.ref g, .int a, .int x] D kA N0 M (fun v M1 => v = (spAdd S a x x).1 ∧ Mk kA M1 g (spAdd S a x x).2 ∧ ∀ b, b < g ∨ g + 7 < b → M1 b = M b) := by
  obtain ⟨us, hob⟩ := mk.1
  refine r_mZ (cc := cX6_dbl) (maxL := 3) (by decide) rfl (Nat.le_of_ble_eq_true rfl) ?_
  intro p e s m below meth c ls A0 Qp C hM hnm hl hend
  obtain ⟨hx, hb, hml, hown, hts, hr, hlocks, hK, hN⟩ := _root_.id C
  have hS : va_S (xA N0) s.heap s.heap [] := va_S.rf
  have hl : lv_has ls 3 [(0, .ref g), (1, .int a), (2, .int x)] := hl
  refine lv_aload_n hx hb dX6_dbl_0 rfl (lv_at hl 0 rfl) ?_
  refine lv_iload_n hx hb dX6_dbl_1 rfl (lv_at hl 1 rfl) ?_
  refine lv_iload_n hx hb dX6_dbl_2 rfl (lv_at hl 2 rfl) ?_
  refine lv_iload_n hx hb dX6_dbl_3 rfl (lv_at hl 2 rfl) ?_
  refine r_Vi (As := [.int a, .int x, .int x]) (rest := []) C hM hS (c6_addPts l D kA N0 M g S a x x hsi mk) (hob) rfl gX6_dbl_X6_addPts rfl rfl rfl ⟨rfl, by decide +kernel, by decide +kernel, (by decide +kernel : (parseMethodDescriptor yX6_addPts.desc).map (fun d => d.parameters.length) = some 3)⟩ ⟨Nat.le_of_ble_eq_true rfl, Nat.le_of_ble_eq_true rfl⟩ hl.1 rfl (Nat.le_of_ble_eq_true rfl) dX6_dbl_4 ⟨Nat.le_of_ble_eq_true rfl, Nat.le_of_ble_eq_true rfl⟩ (fun r M1 H locs hp hM hS => ?_)
  have h01 : r = 0 ∨ r = 1 := by
    rw [hp.1]
    unfold spAdd
    split
    · cases psum (fz (kp S) (S.a 1)) (pt S (ix x)) (pt S (ix x)) with
      | none => exact Or.inl rfl
      | some T => exact Or.inr rfl
    · exact Or.inl rfl
  exact hend _ _ _ _ _ _ hM hS (h01) (hp) dX6_dbl_7
set_option maxRecDepth 100000 in
theorem c6_scalarMul (l : Launch) (D : va_G) (kA : Nat → ClassId) (N0 : Nat) (M : xM) (g : Nat) (S : St) (a k x : Int32) (hsi : Si S) (mk : Mk kA M g S) : cI l yX6_scalarMul wsX6_scalarMul (xR 6) [.ref g, .int a, .int k, .int x] D kA N0 M (fun v M1 => v = (spMul S a k x).1 ∧ Mk kA M1 g (spMul S a k x).2 ∧ ∀ b, b < g ∨ g + 7 < b → M1 b = M b) := by
  have hL0 := hsi.L1
  have hL9 := hsi.L9
  obtain ⟨N, Z, hz⟩ := mk.mz
  obtain ⟨us, hob⟩ := hz.ob
  have mk9 := mk
  obtain ⟨-, ⟨f, hf, nf, hmf⟩, -, -⟩ := mk9
  refine r_mZ (cc := cX6_scalarMul) (maxL := 5) (by decide) rfl (Nat.le_of_ble_eq_true rfl) ?_
  intro p e s m below meth c ls A0 Qp C hM hnm hl hend
  obtain ⟨hx, hb, hml, hown, hts, hr, hlocks, hK, hN⟩ := _root_.id C
  have hS : va_S (xA N0) s.heap s.heap [] := va_S.rf
  have hl : lv_has ls 5 [(0, .ref g), (1, .int a), (2, .int k), (3, .int x)] := hl
  have hF39 : ∀ (N1 : Nat → Nat) (Z1 : Nat → Int32) (v4 : Int32) (M1 : xM) (H : Heap) (locs : List Loc) (ls : Array Slot), spMul S a k x = (0, S) → MZ kA M M1 g (BS S) N1 Z1 → xW D vwCl N0 M1 H → va_S (xA N0) s.heap H locs → lv_has ls 5 [(4, .int v4), (0, .ref g), (1, .int a), (2, .int k), (3, .int x)] → W p l e (xR 6) s m A0 below meth c H locs 0 0 Qp (F0 m 39 ls []) := by
    intro N1 Z1 v4 M1 H locs ls hq hz1 hM hS hl
    rw [hq] at hend
    refine lv_iconst (v := nI 0) hx hb dX6_scalarMul_39 (by decide) ?_
    refine lv_istore (lv' := [(4, .int (nI 0)), (0, .ref g), (1, .int a), (2, .int k), (3, .int x)]) hx hb dX6_scalarMul_40 hl (by decide) rfl (fun ls hl => ?_)
    refine lv_iload hx hb dX6_scalarMul_42 (lv_at hl 0 rfl) ?_
    refine r_if_neN (tgt := 49) C (by omega) dX6_scalarMul_44 (by decide) (fun hc => ?_) (fun hc => ?_)
    · omega
    · refine lv_iconst (v := nI 0) hx hb dX6_scalarMul_47 (by decide) ?_
      exact hend _ _ _ _ _ _ hM hS (by decide) (⟨rfl, mk.scr hz1⟩) dX6_scalarMul_48
  have hF18 : ∀ (N1 : Nat → Nat) (Z1 : Nat → Int32) (M1 : xM) (H : Heap) (locs : List Loc) (ls : Array Slot), spMul S a k x = (0, S) → MZ kA M M1 g (BS S) N1 Z1 → xW D vwCl N0 M1 H → va_S (xA N0) s.heap H locs → lv_has ls 5 [(0, .ref g), (1, .int a), (2, .int k), (3, .int x)] → W p l e (xR 6) s m A0 below meth c H locs 0 0 Qp (F0 m 18 ls []) := by
    intro N1 Z1 M1 H locs ls hq hz1 hM hS hl
    refine lv_iconst (v := nI 0) hx hb dX6_scalarMul_18 (by decide) ?_
    refine lv_istore (lv' := [(4, .int (nI 0)), (0, .ref g), (1, .int a), (2, .int k), (3, .int x)]) hx hb dX6_scalarMul_19 hl (by decide) rfl (fun ls hl => ?_)
    refine lv_iload hx hb dX6_scalarMul_21 (lv_at hl 0 rfl) ?_
    refine r_if_eqN (tgt := 39) C (by omega) dX6_scalarMul_23 (by decide) (fun hc => ?_) (fun hc => ?_)
    · exact hF39 N1 Z1 _ M1 H locs _ hq hz1 hM hS hl
    · omega
  refine lv_iload_n hx hb dX6_scalarMul_0 rfl (lv_at hl 1 rfl) ?_
  refine r_Si (As := [.int a]) (rest := []) C hM hS (c6_isPoint l D kA N0 M a) gX6_scalarMul_X6_isPoint rfl rfl rfl ⟨by decide +kernel, by decide +kernel, (by decide +kernel : (parseMethodDescriptor yX6_isPoint.desc).map (fun d => d.parameters.length) = some 1)⟩ ⟨Nat.le_of_ble_eq_true rfl, Nat.le_of_ble_eq_true rfl⟩ hl.1 rfl (Nat.le_of_ble_eq_true rfl) dX6_scalarMul_1 ⟨Nat.le_of_ble_eq_true rfl, Nat.le_of_ble_eq_true rfl⟩ (fun v M1 H locs hp hM hS => ?_)
  obtain ⟨eM, hv⟩ := hp
  rw [eM] at hM
  refine lv_if_eq (tgt := 18) hx hb dX6_scalarMul_4 (by decide) (fun hc1 => ?_) (fun hc1 => ?_)
  · have hn : ¬ isPo a := by
      rcases hv with ⟨h1, h2⟩ | ⟨h1, h2⟩
      · rw [h1] at hc1; exact absurd hc1 (by decide)
      · exact h2
    exact hF18 N Z _ _ _ ls (spMul_n (fun q => hn q.1)) hz hM hS hl
  · have hn : isPo a := by
      rcases hv with ⟨h1, h2⟩ | ⟨h1, h2⟩
      · exact h2
      · exact absurd h1 hc1
    have har := po_ix hn
    have hae := ix_eq (x := a) (by omega)
    refine lv_iload_n hx hb dX6_scalarMul_7 rfl (lv_at hl 2 rfl) ?_
    refine r_Si (As := [.int k]) (rest := []) C hM hS (c6_isScalar l D kA N0 M k) gX6_scalarMul_X6_isScalar rfl rfl rfl ⟨by decide +kernel, by decide +kernel, (by decide +kernel : (parseMethodDescriptor yX6_isScalar.desc).map (fun d => d.parameters.length) = some 1)⟩ ⟨Nat.le_of_ble_eq_true rfl, Nat.le_of_ble_eq_true rfl⟩ hl.1 rfl (Nat.le_of_ble_eq_true rfl) dX6_scalarMul_8 ⟨Nat.le_of_ble_eq_true rfl, Nat.le_of_ble_eq_true rfl⟩ (fun v2 M1 H locs hp hM hS => ?_)
    obtain ⟨eM2, hv2⟩ := hp
    rw [eM2] at hM
    refine lv_if_eq (tgt := 18) hx hb dX6_scalarMul_11 (by decide) (fun hc2 => ?_) (fun hc2 => ?_)
    · have hn2 : ¬ isSc k := by
        rcases hv2 with ⟨h1, h2⟩ | ⟨h1, h2⟩
        · rw [h1] at hc2; exact absurd hc2 (by decide)
        · exact h2
      exact hF18 N Z _ _ _ ls (spMul_n (fun q => hn2 q.2.1)) hz hM hS hl
    · have hn2 : isSc k := by
        rcases hv2 with ⟨h1, h2⟩ | ⟨h1, h2⟩
        · exact h2
        · exact absurd h1 hc2
      have hkr := sc_ix hn2
      have hke := ix_eq (x := k) (by omega)
      refine lv_iconst (v := nI 1) hx hb dX6_scalarMul_14 (by decide) ?_
      refine lv_goto (tgt := 19) hx hb dX6_scalarMul_15 (by decide) ?_
      refine lv_istore (lv' := [(4, .int (nI 1)), (0, .ref g), (1, .int a), (2, .int k), (3, .int x)]) hx hb dX6_scalarMul_19 hl (by decide) rfl (fun ls hl => ?_)
      refine lv_iload hx hb dX6_scalarMul_21 (lv_at hl 0 rfl) ?_
      refine r_if_eqN (tgt := 39) C (by omega) dX6_scalarMul_23 (by decide) (fun hc3 => ?_) (fun hc3 => ?_)
      · omega
      · refine lv_aload_n hx hb dX6_scalarMul_26 rfl (lv_at hl 1 rfl) ?_
        refine lv_iconst (v := nI 0) hx hb dX6_scalarMul_27 (by decide) ?_
        refine lv_iload_n hx hb dX6_scalarMul_28 rfl (lv_at hl 4 rfl) ?_
        refine r_Vi (As := [.int (nI 0), .int x]) (rest := []) C hM hS (c6_isGood l D kA N0 M M g 0 S x N Z hsi mk hz (by omega)) (hob) rfl gX6_scalarMul_X6_isGood rfl rfl rfl ⟨rfl, by decide +kernel, by decide +kernel, (by decide +kernel : (parseMethodDescriptor yX6_isGood.desc).map (fun d => d.parameters.length) = some 2)⟩ ⟨Nat.le_of_ble_eq_true rfl, Nat.le_of_ble_eq_true rfl⟩ hl.1 rfl (Nat.le_of_ble_eq_true rfl) dX6_scalarMul_29 ⟨Nat.le_of_ble_eq_true rfl, Nat.le_of_ble_eq_true rfl⟩ (fun r M2 H locs hp hM hS => ?_)
        obtain ⟨N2, Z2, hz2, -, -, hr⟩ := hp
        rcases hr with ⟨er, hgx, gd⟩ | ⟨er, hgx⟩
        · rw [er]
          refine lv_if_eq (tgt := 39) hx hb dX6_scalarMul_32 (by decide) (fun hc4 => ?_) (fun hc4 => ?_)
          · exact absurd hc4 (by decide)
          · have hgp := hsi.sg hgx.1
            have hk1 := kp_s hgp
            obtain ⟨g1, g2, g3, g4, -⟩ := hgp
            have hp9 : S.a 0 < BB ^ 9 := Nat.lt_of_lt_of_le (hsi.ab 0) (Nat.pow_le_pow_right (by decide) hL9)
            refine lv_iconst (v := nI 1) hx hb dX6_scalarMul_35 (by decide) ?_
            refine lv_goto (tgt := 40) hx hb dX6_scalarMul_36 (by decide) ?_
            refine lv_istore (lv' := [(4, .int (nI 1)), (0, .ref g), (1, .int a), (2, .int k), (3, .int x)]) hx hb dX6_scalarMul_40 hl (by decide) rfl (fun ls hl => ?_)
            refine lv_iload hx hb dX6_scalarMul_42 (lv_at hl 0 rfl) ?_
            refine r_if_neN (tgt := 49) C (by omega) dX6_scalarMul_44 (by decide) (fun hc5 => ?_) (fun hc5 => ?_)
            · have hl : lv_has ls 5 [(4, .int (nI 1)), (0, .ref g), (1, .int (nI (ix a))), (2, .int (nI (ix k))), (3, .int x)] := by rw [← hae, ← hke]; exact hl
              obtain ⟨M00, hm2, hz0, hf0⟩ := hz2
              obtain ⟨us2, hob2⟩ := hm2.1
              have h01 : M2 (g + 1) = some (xI (kA 0) 360 f) := by rw [hm2.at4 (by omega) (by omega) (by omega) (by omega) (by omega), hf0 _ (by omega)]; exact hf
              refine lv_aload_n hx hb dX6_scalarMul_49 rfl (lv_at hl 1 rfl) ?_
              refine lv_bipush (v := nI 14) hx hb dX6_scalarMul_50 (by decide) ?_
              refine lv_iload_n hx hb dX6_scalarMul_52 rfl (lv_at hl 3 rfl) ?_
              refine lv_iconst (v := nI 0) hx hb dX6_scalarMul_53 (by decide) ?_
              refine r_Vv (As := [.int (nI 14), .int (nI (ix k)), .int (nI 0)]) (rest := []) C hM hS (c6_load l D kA N0 M00 M2 g 14 (ix k) 0 S.L (BS S) N2 f hm2 (by omega) h01 nf rfl hL9 (by omega)) (hob2) rfl gX6_scalarMul_X6_load rfl rfl rfl ⟨rfl, by decide +kernel, by decide +kernel, (by decide +kernel : (parseMethodDescriptor yX6_load.desc).map (fun d => d.parameters.length) = some 3)⟩ ⟨Nat.le_of_ble_eq_true rfl, Nat.le_of_ble_eq_true rfl⟩ hl.1 rfl (Nat.le_of_ble_eq_true rfl) dX6_scalarMul_54 ⟨Nat.le_of_ble_eq_true rfl, Nat.le_of_ble_eq_true rfl⟩ (fun M3 H locs hm3 hM hS => ?_)
              rw [Nat.add_zero, (hmf (ix k) (by omega)).1] at hm3
              have hz3 : MZ kA M M3 g (BS S) (un N2 14 (S.a (ix k))) Z2 := ⟨M00, hm3, hz0, hf0⟩
              obtain ⟨us3, hob3⟩ := hm3.1
              have hpx : PV (kp S) (un N2 14 (S.a (ix k))) Z2 0 (pt S (ix x)) := gd.2.2.2.2.2.2.2.2.cg (un_n (by omega)) (un_n (by omega)) rfl
              refine lv_aload_n hx hb dX6_scalarMul_57 rfl (lv_at hl 1 rfl) ?_
              refine lv_iconst (v := nI 2) hx hb dX6_scalarMul_58 (by decide) ?_
              refine lv_bipush (v := nI 14) hx hb dX6_scalarMul_59 (by decide) ?_
              refine lv_iconst (v := nI 0) hx hb dX6_scalarMul_61 (by decide) ?_
              refine r_Vi (As := [.int (nI 2), .int (nI 14), .int (nI 0)]) (rest := []) C hM hS (c6_multiply l D kA N0 M M3 g 2 14 0 (kp S) (S.a 1) (BS S) _ Z2 (pt S (ix x)) hz3 (by omega) (by omega) (by omega) (by omega) (by omega) hpx (by rw [hk1, un_n (by omega)]; exact gd.1) (by rw [un_n (by omega)]; exact gd.2.1) (by rw [un_n (by omega)]; exact gd.2.2.2.2.1) (by rw [hk1]; exact g3) (by rw [hk1]; exact g1) (by rw [hk1]; exact g2) (by rw [hk1]; exact hp9)) (hob3) rfl gX6_scalarMul_X6_multiply rfl rfl rfl ⟨rfl, by decide +kernel, by decide +kernel, (by decide +kernel : (parseMethodDescriptor yX6_multiply.desc).map (fun d => d.parameters.length) = some 3)⟩ ⟨Nat.le_of_ble_eq_true rfl, Nat.le_of_ble_eq_true rfl⟩ hl.1 rfl (Nat.le_of_ble_eq_true rfl) dX6_scalarMul_62 ⟨Nat.le_of_ble_eq_true rfl, Nat.le_of_ble_eq_true rfl⟩ (fun r4 M4 H locs hp hM hS => ?_)
              obtain ⟨N4, Z4, hz4, -, -, hr4⟩ := hp
              rw [un_s] at hr4
              have hsp := spMul_y ⟨hn, hn2, hgx⟩
              rcases hr4 with ⟨er4, T, hT, hPV⟩ | ⟨er4, hT⟩
              · rw [er4]
                rw [hT] at hsp
                have hsp : spMul S a k x = (1, endf (wp S (ix a) T) (ix a)) := hsp
                rw [hsp] at hend
                obtain ⟨us4, hob4⟩ := hz4.ob
                have hkL : kp S + 1 ≤ BB ^ S.L := by rw [hk1]; exact Nat.le_of_lt (hsi.ab 0)
                refine lv_istore (lv' := [(4, .int (nI 1)), (0, .ref g), (1, .int (nI (ix a))), (2, .int (nI (ix k))), (3, .int x)]) hx hb dX6_scalarMul_65 hl (by decide) rfl (fun ls hl => ?_)
                refine lv_iload hx hb dX6_scalarMul_67 (lv_at hl 0 rfl) ?_
                refine r_if_eqN (tgt := 78) C (by omega) dX6_scalarMul_69 (by decide) (fun hc7 => ?_) (fun hc7 => ?_)
                · omega
                · refine lv_aload_n hx hb dX6_scalarMul_72 rfl (lv_at hl 1 rfl) ?_
                  refine lv_iload_n hx hb dX6_scalarMul_73 rfl (lv_at hl 2 rfl) ?_
                  refine lv_iconst (v := nI 2) hx hb dX6_scalarMul_74 (by decide) ?_
                  refine r_Vv (As := [.int (nI (ix a)), .int (nI 2)]) (rest := []) C hM hS (c6_storeP l D kA N0 M M4 g (ix a) 2 (kp S) S N4 Z4 T hsi mk hz4 har.1 har.2 (by omega) hPV hkL) (hob4) rfl gX6_scalarMul_X6_storePoint rfl rfl rfl ⟨rfl, by decide +kernel, by decide +kernel, (by decide +kernel : (parseMethodDescriptor yX6_storePoint.desc).map (fun d => d.parameters.length) = some 2)⟩ ⟨Nat.le_of_ble_eq_true rfl, Nat.le_of_ble_eq_true rfl⟩ hl.1 rfl (Nat.le_of_ble_eq_true rfl) dX6_scalarMul_75 ⟨Nat.le_of_ble_eq_true rfl, Nat.le_of_ble_eq_true rfl⟩ (fun M5 H locs hp hM hS => ?_)
                  refine lv_iload hx hb dX6_scalarMul_78 (lv_at hl 0 rfl) ?_
                  exact hend _ _ _ _ _ _ hM hS (by decide) (⟨rfl, hp⟩) dX6_scalarMul_80
              · rw [er4]
                rw [hT] at hsp
                have hsp : spMul S a k x = (0, S) := hsp
                rw [hsp] at hend
                refine lv_istore (lv' := [(4, .int (nI 0)), (0, .ref g), (1, .int (nI (ix a))), (2, .int (nI (ix k))), (3, .int x)]) hx hb dX6_scalarMul_65 hl (by decide) rfl (fun ls hl => ?_)
                refine lv_iload hx hb dX6_scalarMul_67 (lv_at hl 0 rfl) ?_
                refine r_if_eqN (tgt := 78) C (by omega) dX6_scalarMul_69 (by decide) (fun hc7 => ?_) (fun hc7 => ?_)
                · refine lv_iload hx hb dX6_scalarMul_78 (lv_at hl 0 rfl) ?_
                  exact hend _ _ _ _ _ _ hM hS (by decide) (⟨rfl, mk.scr hz4⟩) dX6_scalarMul_80
                · omega
            · omega
        · rw [er]
          refine lv_if_eq (tgt := 39) hx hb dX6_scalarMul_32 (by decide) (fun hc4 => ?_) (fun hc4 => ?_)
          · exact hF39 N2 Z2 _ M2 H locs ls (spMul_n (fun q => hgx q.2.2)) hz2 hM hS hl
          · exact absurd rfl hc4
set_option maxRecDepth 100000 in
theorem c6_negate (l : Launch) (D : va_G) (kA : Nat → ClassId) (N0 : Nat) (M : xM) (g : Nat) (S : St) (a x : Int32) (hsi : Si S) (mk : Mk kA M g S) : cI l yX6_negate wsX6_negate (xR 6) [.ref g, .int a, .int x] D kA N0 M (fun v M1 => v = (spNeg S a x).1 ∧ Mk kA M1 g (spNeg S a x).2 ∧ ∀ b, b < g ∨ g + 7 < b → M1 b = M b) := by
  have hL0 := hsi.L1
  have hL9 := hsi.L9
  obtain ⟨N, Z, hz⟩ := mk.mz
  obtain ⟨us, hob⟩ := hz.ob
  have hsn : ¬ (isPo a ∧ good S x) → spNeg S a x = (0, S) := fun q => by unfold spNeg; rw [if_neg q]
  refine r_mZ (cc := cX6_negate) (maxL := 4) (by decide) rfl (Nat.le_of_ble_eq_true rfl) ?_
  intro p e s m below meth c ls A0 Qp C hM hnm hl hend
  obtain ⟨hx, hb, hml, hown, hts, hr, hlocks, hK, hN⟩ := _root_.id C
  have hS : va_S (xA N0) s.heap s.heap [] := va_S.rf
  have hl : lv_has ls 4 [(0, .ref g), (1, .int a), (2, .int x)] := hl
  have hF20 : ∀ (N1 : Nat → Nat) (Z1 : Nat → Int32) (M1 : xM) (H : Heap) (locs : List Loc) (ls : Array Slot), ¬ (isPo a ∧ good S x) → MZ kA M M1 g (BS S) N1 Z1 → xW D vwCl N0 M1 H → va_S (xA N0) s.heap H locs → lv_has ls 4 [(0, .ref g), (1, .int a), (2, .int x)] → W p l e (xR 6) s m A0 below meth c H locs 0 0 Qp (F0 m 20 ls []) := by
    intro N1 Z1 M1 H locs ls hq hz1 hM hS hl
    rw [hsn hq] at hend
    refine lv_iconst (v := nI 0) hx hb dX6_negate_20 (by decide) ?_
    refine lv_istore_n (lv' := [(3, .int (nI 0)), (0, .ref g), (1, .int a), (2, .int x)]) hx hb dX6_negate_21 rfl hl (by decide) rfl (fun ls hl => ?_)
    refine lv_iload_n hx hb dX6_negate_22 rfl (lv_at hl 0 rfl) ?_
    refine r_if_eqN (tgt := 65) C (by omega) dX6_negate_23 (by decide) (fun hc => ?_) (fun hc => ?_)
    · refine lv_iload_n hx hb dX6_negate_65 rfl (lv_at hl 0 rfl) ?_
      exact hend _ _ _ _ _ _ hM hS (by decide) (⟨rfl, mk.scr hz1⟩) dX6_negate_66
    · omega
  refine lv_iload_n hx hb dX6_negate_0 rfl (lv_at hl 1 rfl) ?_
  refine r_Si (As := [.int a]) (rest := []) C hM hS (c6_isPoint l D kA N0 M a) gX6_negate_X6_isPoint rfl rfl rfl ⟨by decide +kernel, by decide +kernel, (by decide +kernel : (parseMethodDescriptor yX6_isPoint.desc).map (fun d => d.parameters.length) = some 1)⟩ ⟨Nat.le_of_ble_eq_true rfl, Nat.le_of_ble_eq_true rfl⟩ hl.1 rfl (Nat.le_of_ble_eq_true rfl) dX6_negate_1 ⟨Nat.le_of_ble_eq_true rfl, Nat.le_of_ble_eq_true rfl⟩ (fun v M1 H locs hp hM hS => ?_)
  obtain ⟨eM, hv⟩ := hp
  rw [eM] at hM
  refine lv_if_eq (tgt := 20) hx hb dX6_negate_4 (by decide) (fun hc1 => ?_) (fun hc1 => ?_)
  · have hn : ¬ isPo a := by
      rcases hv with ⟨h1, h2⟩ | ⟨h1, h2⟩
      · rw [h1] at hc1; exact absurd hc1 (by decide)
      · exact h2
    exact hF20 N Z _ _ _ ls (fun q => hn q.1) hz hM hS hl
  · have hn : isPo a := by
      rcases hv with ⟨h1, h2⟩ | ⟨h1, h2⟩
      · exact h2
      · exact absurd h1 hc1
    have har := po_ix hn
    have hae := ix_eq (x := a) (by omega)
    refine lv_aload_n hx hb dX6_negate_7 rfl (lv_at hl 0 rfl) ?_
    refine lv_iconst (v := nI 0) hx hb dX6_negate_8 (by decide) ?_
    refine lv_iload_n hx hb dX6_negate_9 rfl (lv_at hl 2 rfl) ?_
    refine r_Vi (As := [.int (nI 0), .int x]) (rest := []) C hM hS (c6_isGood l D kA N0 M M g 0 S x N Z hsi mk hz (by omega)) (hob) rfl gX6_negate_X6_isGood rfl rfl rfl ⟨rfl, by decide +kernel, by decide +kernel, (by decide +kernel : (parseMethodDescriptor yX6_isGood.desc).map (fun d => d.parameters.length) = some 2)⟩ ⟨Nat.le_of_ble_eq_true rfl, Nat.le_of_ble_eq_true rfl⟩ hl.1 rfl (Nat.le_of_ble_eq_true rfl) dX6_negate_10 ⟨Nat.le_of_ble_eq_true rfl, Nat.le_of_ble_eq_true rfl⟩ (fun r M2 H locs hp hM hS => ?_)
    obtain ⟨N2, Z2, hz2, -, -, hr⟩ := hp
    rcases hr with ⟨er, hgx, gd⟩ | ⟨er, hgx⟩
    · rw [er]
      refine lv_if_eq (tgt := 20) hx hb dX6_negate_13 (by decide) (fun hc2 => ?_) (fun hc2 => ?_)
      · exact absurd hc2 (by decide)
      · have hxr := po_ix hgx.2.1
        have hpb := hsi.prb (ix x)
        obtain ⟨k0, k1, k2, k3, k4, kz, kx, ky, -⟩ := gd
        have hsp : spNeg S a x = (1, endf (mkS S.L (un S.a (ix a) (S.a (ix x))) (un S.b (ix a) (if S.b (ix x) = 0 then 0 else S.a 0 - S.b (ix x))) (un S.pr (ix a) (S.pr (ix x))) S.sealed S.fed S.fl) (ix a)) := by
          unfold spNeg
          rw [if_pos ⟨hn, hgx⟩]
        rw [hsp] at hend
        obtain ⟨us2, hob2⟩ := hz2.ob
        have hz24 := hz2.z
        have hl : lv_has ls 4 [(0, .ref g), (1, .int (nI (ix a))), (2, .int x)] := by rw [← hae]; exact hl
        -- it is stored
        have hE : ∀ (N3 : Nat → Nat) (M3 : xM) (H : Heap) (locs : List Loc) (ls : Array Slot), MZ kA M M3 g (BS S) N3 Z2 → (S.pr (ix x) = 1 → N3 20 = S.a (ix x)) → (S.pr (ix x) = 1 → N3 21 = (if S.b (ix x) = 0 then 0 else S.a 0 - S.b (ix x))) → xW D vwCl N0 M3 H → va_S (xA N0) s.heap H locs → lv_has ls 4 [(3, .int (nI 1)), (0, .ref g), (1, .int (nI (ix a))), (2, .int x)] → W p l e (xR 6) s m A0 below meth c H locs 0 0 Qp (F0 m 59 ls []) := by
          intro N3 M3 H locs ls hz3 h1 h2 hM hS hl
          obtain ⟨us3, hob3⟩ := hz3.ob
          have hpr0 := hsi.pr0 (ix x) hxr.1 hxr.2
          have hb0 := hsi.ab 0
          refine lv_aload_n hx hb dX6_negate_59 rfl (lv_at hl 1 rfl) ?_
          refine lv_iload_n hx hb dX6_negate_60 rfl (lv_at hl 2 rfl) ?_
          refine lv_iconst (v := nI 0) hx hb dX6_negate_61 (by decide) ?_
          refine r_Vv (As := [.int (nI (ix a)), .int (nI 0)]) (rest := []) C hM hS (c6_storePoint l D kA N0 M M3 g (ix a) 0 (1 - S.pr (ix x)) (S.a (ix x)) (if S.b (ix x) = 0 then 0 else S.a 0 - S.b (ix x)) S N3 Z2 hsi mk hz3 har.1 har.2 (by omega) (by omega) kz (fun q => h1 (by omega)) (fun q => h2 (by omega)) (hsi.ab _) (by have := Nat.pow_pos (n := S.L) BB_pos; split <;> omega) (fun q => (hpr0 (by omega)).1) (fun q => by rw [if_pos (hpr0 (by omega)).2])) (hob3) rfl gX6_negate_X6_storePoint rfl rfl rfl ⟨rfl, by decide +kernel, by decide +kernel, (by decide +kernel : (parseMethodDescriptor yX6_storePoint.desc).map (fun d => d.parameters.length) = some 2)⟩ ⟨Nat.le_of_ble_eq_true rfl, Nat.le_of_ble_eq_true rfl⟩ hl.1 rfl (Nat.le_of_ble_eq_true rfl) dX6_negate_62 ⟨Nat.le_of_ble_eq_true rfl, Nat.le_of_ble_eq_true rfl⟩ (fun M4 H locs hp hM hS => ?_)
          rw [show 1 - (1 - S.pr (ix x)) = S.pr (ix x) by omega] at hp
          refine lv_iload_n hx hb dX6_negate_65 rfl (lv_at hl 0 rfl) ?_
          exact hend _ _ _ _ _ _ hM hS (by decide) (⟨rfl, hp⟩) dX6_negate_66
        refine lv_iconst (v := nI 1) hx hb dX6_negate_16 (by decide) ?_
        refine lv_goto (tgt := 21) hx hb dX6_negate_17 (by decide) ?_
        refine lv_istore_n (lv' := [(3, .int (nI 1)), (0, .ref g), (1, .int (nI (ix a))), (2, .int x)]) hx hb dX6_negate_21 rfl hl (by decide) rfl (fun ls hl => ?_)
        refine lv_iload_n hx hb dX6_negate_22 rfl (lv_at hl 0 rfl) ?_
        refine r_if_eqN (tgt := 65) C (by omega) dX6_negate_23 (by decide) (fun hc3 => ?_) (fun hc3 => ?_)
        · omega
        · refine lv_aload_n hx hb dX6_negate_26 rfl (lv_at hl 1 rfl) ?_
          refine x_get (v := .ref (g + 4)) hx hb hts in_X6_negate_X6 hown hK hM (hob2) rfl 7 (by decide) (hts (.fieldLink RX6 24 "LimbCurvesModel" "isNothing" "[Z") (by decide +kernel)) (fun _ h9 => h9) rfl dX6_negate_27 ?_
          refine lv_iconst (v := nI 0) hx hb dX6_negate_30 (by decide) ?_
          refine r_zald C hM (hz24) rfl (by omega) (by omega) dX6_negate_31 ?_
          rw [kz]
          refine r_if_neN (tgt := 59) C (by omega) dX6_negate_32 (by decide) (fun hc4 => ?_) (fun hc4 => ?_)
          · exact hE N2 M2 H locs _ hz2 (fun q => by omega) (fun q => by omega) hM hS hl
          · have hgp := hsi.sg hgx.1
            have hon : onN (S.a 0) (S.a 1) (S.a 2) (S.a (ix x)) (S.b (ix x)) := by
              rcases hgx.2.2 with q | q
              · omega
              · exact q
            have kx : N2 20 = S.a (ix x) := kx
            have ky : N2 21 = S.b (ix x) := ky
            obtain ⟨M00, hm, hz0, hf0⟩ := hz2
            refine lv_aload_n hx hb dX6_negate_35 rfl (lv_at hl 1 rfl) ?_
            refine lv_iconst (v := nI 0) hx hb dX6_negate_36 (by decide) ?_
            refine r_Si (As := [.int (nI 0)]) (rest := [.ref g]) C hM hS (c6_y l D kA N0 _ 0 (by omega)) gX6_negate_X6_y rfl rfl rfl ⟨by decide +kernel, by decide +kernel, (by decide +kernel : (parseMethodDescriptor yX6_y.desc).map (fun d => d.parameters.length) = some 1)⟩ ⟨Nat.le_of_ble_eq_true rfl, Nat.le_of_ble_eq_true rfl⟩ hl.1 rfl (Nat.le_of_ble_eq_true rfl) dX6_negate_37 ⟨Nat.le_of_ble_eq_true rfl, Nat.le_of_ble_eq_true rfl⟩ (fun r9 M9 H locs hp9 hM hS => ?_)
            obtain ⟨er9, eM9⟩ := hp9
            rw [eM9] at hM
            rw [er9]
            obtain ⟨us9, hob9⟩ := hm.1
            refine r_Vi (As := [.int (nI 21)]) (rest := []) C hM hS (c6_isZero l D kA N0 _ _ g 21 _ _ hm (by omega)) (hob9) rfl gX6_negate_X6_isZero rfl rfl rfl ⟨rfl, by decide +kernel, by decide +kernel, (by decide +kernel : (parseMethodDescriptor yX6_isZero.desc).map (fun d => d.parameters.length) = some 1)⟩ ⟨Nat.le_of_ble_eq_true rfl, Nat.le_of_ble_eq_true rfl⟩ hl.1 rfl (Nat.le_of_ble_eq_true rfl) dX6_negate_40 ⟨Nat.le_of_ble_eq_true rfl, Nat.le_of_ble_eq_true rfl⟩ (fun rz M9 H locs hp9 hM hS => ?_)
            obtain ⟨eM9, hrz⟩ := hp9
            rw [eM9] at hM
            rw [ky] at hrz
            rcases hrz with ⟨q1, q2⟩ | ⟨q1, q2⟩
            · rw [q1]
              refine lv_if_ne (tgt := 59) hx hb dX6_negate_43 (by decide) (fun hc5 => ?_) (fun hc5 => ?_)
              · exact hE N2 M2 H locs _ ⟨M00, hm, hz0, hf0⟩ (fun _ => kx) (fun _ => by rw [if_pos q2, ky]; exact q2) hM hS hl
              · exact absurd hc5 (by decide)
            · rw [q1]
              refine lv_if_ne (tgt := 59) hx hb dX6_negate_43 (by decide) (fun hc5 => ?_) (fun hc5 => ?_)
              · exact absurd rfl hc5
              · refine lv_aload_n hx hb dX6_negate_46 rfl (lv_at hl 1 rfl) ?_
                refine lv_iconst (v := nI 0) hx hb dX6_negate_47 (by decide) ?_
                refine r_Si (As := [.int (nI 0)]) (rest := [.ref g]) C hM hS (c6_y l D kA N0 _ 0 (by omega)) gX6_negate_X6_y rfl rfl rfl ⟨by decide +kernel, by decide +kernel, (by decide +kernel : (parseMethodDescriptor yX6_y.desc).map (fun d => d.parameters.length) = some 1)⟩ ⟨Nat.le_of_ble_eq_true rfl, Nat.le_of_ble_eq_true rfl⟩ hl.1 rfl (Nat.le_of_ble_eq_true rfl) dX6_negate_48 ⟨Nat.le_of_ble_eq_true rfl, Nat.le_of_ble_eq_true rfl⟩ (fun r9 M9 H locs hp9 hM hS => ?_)
                obtain ⟨er9, eM9⟩ := hp9
                rw [eM9] at hM
                rw [er9]
                refine lv_iconst (v := nI 0) hx hb dX6_negate_51 (by decide) ?_
                refine lv_iconst (v := nI 0) hx hb dX6_negate_52 (by decide) ?_
                refine r_Si (As := [.int (nI 0)]) (rest := [.int (nI 0), .int (nI 21), .ref g]) C hM hS (c6_y l D kA N0 _ 0 (by omega)) gX6_negate_X6_y rfl rfl rfl ⟨by decide +kernel, by decide +kernel, (by decide +kernel : (parseMethodDescriptor yX6_y.desc).map (fun d => d.parameters.length) = some 1)⟩ ⟨Nat.le_of_ble_eq_true rfl, Nat.le_of_ble_eq_true rfl⟩ hl.1 rfl (Nat.le_of_ble_eq_true rfl) dX6_negate_53 ⟨Nat.le_of_ble_eq_true rfl, Nat.le_of_ble_eq_true rfl⟩ (fun r9 M9 H locs hp9 hM hS => ?_)
                obtain ⟨er9, eM9⟩ := hp9
                rw [eM9] at hM
                rw [er9]
                obtain ⟨us9, hob9⟩ := hm.1
                refine r_Vv (As := [.int (nI 21), .int (nI 0), .int (nI 21)]) (rest := []) C hM hS (c6_minus l D kA N0 M00 M2 g 21 0 21 _ N2 hm (by omega) (by omega) (by omega) (by rw [k0, ky]; exact Nat.le_of_lt hon.2.1)) (hob9) rfl gX6_negate_X6_minus rfl rfl rfl ⟨rfl, by decide +kernel, by decide +kernel, (by decide +kernel : (parseMethodDescriptor yX6_minus.desc).map (fun d => d.parameters.length) = some 3)⟩ ⟨Nat.le_of_ble_eq_true rfl, Nat.le_of_ble_eq_true rfl⟩ hl.1 rfl (Nat.le_of_ble_eq_true rfl) dX6_negate_56 ⟨Nat.le_of_ble_eq_true rfl, Nat.le_of_ble_eq_true rfl⟩ (fun M3 H locs hm3 hM hS => ?_)
                rw [k0, ky] at hm3
                exact hE _ M3 H locs _ ⟨M00, hm3, hz0, hf0⟩ (fun _ => by rw [un_n (by omega)]; exact kx) (fun _ => by rw [un_s, if_neg q2]) hM hS hl
    · rw [er]
      refine lv_if_eq (tgt := 20) hx hb dX6_negate_13 (by decide) (fun hc2 => ?_) (fun hc2 => ?_)
      · exact hF20 N2 Z2 M2 H locs ls (fun q => hgx q.2) hz2 hM hS hl
      · exact absurd rfl hc2
end NM18
