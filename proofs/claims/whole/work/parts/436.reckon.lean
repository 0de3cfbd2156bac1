theorem in_X6_reckon_X6 : ∀ w ∈ wsX60, w ∈ wsX6_reckon := by decide +kernel
section RCK
variable {S : St} {w d x y : Int32}
theorem rk_no (h : ¬ (0 ≤ w.toInt ∧ w.toInt ≤ 3 ∧ isSc d ∧ isSc x ∧ (w.toInt < 3 → isSc y) ∧ 0 < S.a 3)) : spRec S w d x y = (0, S) := by
  unfold spRec
  rw [if_neg h]
theorem rk_none (h : 0 ≤ w.toInt ∧ w.toInt ≤ 3 ∧ isSc d ∧ isSc x ∧ (w.toInt < 3 → isSc y) ∧ 0 < S.a 3) (h2 : recR (S.a 3) (S.a (ix x) % S.a 3) (S.a (ix y) % S.a 3) w = none) : spRec S w d x y = (0, S) := by
  unfold spRec
  rw [if_pos h, h2]
theorem rk_some {v : Nat} (h : 0 ≤ w.toInt ∧ w.toInt ≤ 3 ∧ isSc d ∧ isSc x ∧ (w.toInt < 3 → isSc y) ∧ 0 < S.a 3) (h2 : recR (S.a 3) (S.a (ix x) % S.a 3) (S.a (ix y) % S.a 3) w = some v) : spRec S w d x y = (1, endf (mkS S.L (un S.a (ix d) v) S.b S.pr S.sealed S.fed S.fl) (ix d)) := by
  unfold spRec
  rw [if_pos h, h2]
end RCK
section NM20
variable {p : Program} {l : Launch} {e : Env} {R : Room} {s : State} {m : MethodId} {args : Array Value} {below : List Frame} {meth : Method} {c : Code} {Q : State → Prop} {cells slots : Nat} {ret : Option FieldType} {D : va_G} {kA : Nat → ClassId} {N0 : Nat}
set_option maxRecDepth 100000 in
theorem c6_reckon (l : Launch) (D : va_G) (kA : Nat → ClassId) (N0 : Nat) (M : xM) (g : Nat) (S : St) (w a x y : Int32) (hsi : Si S) (mk : Mk kA M g S) : cI l yX6_reckon wsX6_reckon (xR 5) [.ref g, .int w, .int a, .int x, .int y] D kA N0 M (fun v M1 => v = (spRec S w a x y).1 ∧ Mk kA M1 g (spRec S w a x y).2 ∧ ∀ b, b < g ∨ g + 7 < b → M1 b = M b) := by
  have hL0 := hsi.L1
  have hL9 := hsi.L9
  obtain ⟨N, Z, hz⟩ := mk.mz
  obtain ⟨us, hob⟩ := hz.ob
  have mk9 := mk
  obtain ⟨-, ⟨f, hf, nf, hmf⟩, ⟨z, hz2, hmz⟩, -⟩ := mk9
  obtain ⟨M00, hm, hz0, hf0⟩ := hz
  obtain ⟨od, eod⟩ : ∃ q, S.a 3 = q := ⟨_, rfl⟩
  have hp9 : od < BB ^ 9 := by rw [← eod]; exact Nat.lt_of_lt_of_le (hsi.ab 3) (Nat.pow_le_pow_right (by decide) hL9)
  have h0f : M00 (g + 1) = some (xI (kA 0) 360 f) := by rw [hf0 _ (by omega)]; exact hf
  refine r_mZ (cc := cX6_reckon) (maxL := 7) (by decide) rfl (Nat.le_of_ble_eq_true rfl) ?_
  intro p e s m below meth c ls A0 Qp C hM hnm hl hend
  obtain ⟨hx, hb, hml, hown, hts, hr, hlocks, hK, hN⟩ := _root_.id C
  have hS : va_S (xA N0) s.heap s.heap [] := va_S.rf
  have hl : lv_has ls 7 [(0, .ref g), (1, .int w), (2, .int a), (3, .int x), (4, .int y)] := hl
  refine lv_aload_n hx hb dX6_reckon_0 rfl (lv_at hl 0 rfl) ?_
  refine r_Vv (As := []) (rest := []) C hM hS (c6_loadParameters l D kA N0 M00 M g S.L (BS S) N f hm hf nf rfl hL9) (hob) rfl gX6_reckon_X6_loadParameters rfl rfl rfl ⟨rfl, by decide +kernel, by decide +kernel, (by decide +kernel : (parseMethodDescriptor yX6_loadParameters.desc).map (fun d => d.parameters.length) = some 0)⟩ ⟨Nat.le_of_ble_eq_true rfl, Nat.le_of_ble_eq_true rfl⟩ hl.1 rfl (Nat.le_of_ble_eq_true rfl) dX6_reckon_1 ⟨Nat.le_of_ble_eq_true rfl, Nat.le_of_ble_eq_true rfl⟩ (fun M2 H locs hp hM hS => ?_)
  obtain ⟨N2, hm, lq1, lq2, lq3⟩ := hp
  have k3 : N2 3 = od := by rw [lq1 3 (by omega), ← eod]; exact (hmf 3 (by omega)).1
  have hz9 : MZ kA M M2 g (BS S) N2 Z := ⟨M00, hm, hz0, hf0⟩
  obtain ⟨us2, hob2⟩ := hm.1
  have hF48 : ∀ (H : Heap) (locs : List Loc) (ls : Array Slot), ¬ (0 ≤ w.toInt ∧ w.toInt ≤ 3 ∧ isSc a ∧ isSc x ∧ (w.toInt < 3 → isSc y) ∧ 0 < S.a 3) → xW D vwCl N0 M2 H → va_S (xA N0) s.heap H locs → W p l e (xR 5) s m A0 below meth c H locs 0 0 Qp (F0 m 48 ls []) := by
    intro H locs ls hq hM hS
    rw [rk_no hq] at hend
    refine lv_iconst (v := nI 0) hx hb dX6_reckon_48 (by decide) ?_
    exact hend _ _ _ _ _ _ hM hS (by decide) (⟨rfl, mk.scr hz9⟩) dX6_reckon_49
  have h01 : ∀ {P : Prop} {v : Int32}, ((v = 1 ∧ P) ∨ (v = 0 ∧ ¬ P)) → v = 0 → ¬ P := fun h h0 => by
    rcases h with ⟨q1, q2⟩ | ⟨q1, q2⟩
    · rw [q1] at h0; exact absurd h0 (by decide)
    · exact q2
  have h02 : ∀ {P : Prop} {v : Int32}, ((v = 1 ∧ P) ∨ (v = 0 ∧ ¬ P)) → ¬ v = 0 → P := fun h h0 => by
    rcases h with ⟨q1, q2⟩ | ⟨q1, q2⟩
    · exact q2
    · exact absurd q1 h0
  -- from the test of the order on
  have hG : ∀ (H : Heap) (locs : List Loc) (ls : Array Slot), 0 ≤ w.toInt → w.toInt ≤ 3 → isSc a → isSc x → (w.toInt < 3 → isSc y) → xW D vwCl N0 M2 H → va_S (xA N0) s.heap H locs → lv_has ls 7 [(0, .ref g), (1, .int w), (2, .int a), (3, .int x), (4, .int y)] → W p l e (xR 5) s m A0 below meth c H locs 0 0 Qp (F0 m 40 ls []) := by
    intro H locs ls hw0 hw3 hsa hsx hsy hM hS hl
    have har := sc_ix hsa
    have hae := ix_eq (x := a) (by omega)
    have hxr := sc_ix hsx
    have hxe := ix_eq (x := x) (by omega)
    have hl : lv_has ls 7 [(0, .ref g), (1, .int w), (2, .int (nI (ix a))), (3, .int (nI (ix x))), (4, .int y)] := by rw [← hae, ← hxe]; exact hl
    refine lv_aload_n hx hb dX6_reckon_40 rfl (lv_at hl 0 rfl) ?_
    refine lv_iconst (v := nI 3) hx hb dX6_reckon_41 (by decide) ?_
    obtain ⟨us9, hob9⟩ := hm.1
    refine r_Vi (As := [.int (nI 3)]) (rest := []) C hM hS (c6_isZero l D kA N0 _ _ g 3 _ _ hm (by omega)) (hob9) rfl gX6_reckon_X6_isZero rfl rfl rfl ⟨rfl, by decide +kernel, by decide +kernel, (by decide +kernel : (parseMethodDescriptor yX6_isZero.desc).map (fun d => d.parameters.length) = some 1)⟩ ⟨Nat.le_of_ble_eq_true rfl, Nat.le_of_ble_eq_true rfl⟩ hl.1 rfl (Nat.le_of_ble_eq_true rfl) dX6_reckon_42 ⟨Nat.le_of_ble_eq_true rfl, Nat.le_of_ble_eq_true rfl⟩ (fun rz M9 H locs hp9 hM hS => ?_)
    obtain ⟨eM9, hrz⟩ := hp9
    rw [eM9] at hM
    rw [k3] at hrz
    rcases hrz with ⟨q1, q2⟩ | ⟨q1, q2⟩
    · rw [q1]
      refine lv_if_eq (tgt := 50) hx hb dX6_reckon_45 (by decide) (fun hc6 => ?_) (fun hc6 => ?_)
      · exact absurd hc6 (by decide)
      · exact hF48 _ _ _ (fun h => by have := h.2.2.2.2.2; omega) hM hS
    · rw [q1]
      have hpp : 0 < od := by omega
      have hcond : 0 ≤ w.toInt ∧ w.toInt ≤ 3 ∧ isSc a ∧ isSc x ∧ (w.toInt < 3 → isSc y) ∧ 0 < S.a 3 := ⟨hw0, hw3, hsa, hsx, hsy, by omega⟩
      have hrn := rk_none hcond
      have hrs := fun v => rk_some (v := v) hcond
      rw [eod] at hrn hrs
      have hodL : od < BB ^ S.L := by rw [← eod]; exact hsi.ab 3
      -- the answer is written
      have hT : ∀ (v4 : Int32) (N3 : Nat → Nat) (v : Nat) (M3 : xM) (H : Heap) (locs : List Loc) (ls : Array Slot), MN kA M00 M3 g (BS S) N3 → N3 16 = v → v < od → recR od (S.a (ix x) % od) (S.a (ix y) % od) w = some v → xW D vwCl N0 M3 H → va_S (xA N0) s.heap H locs → lv_has ls 7 [(5, .int (nI 1)), (0, .ref g), (1, .int w), (2, .int (nI (ix a))), (3, .int (nI (ix x))), (4, .int v4)] → W p l e (xR 5) s m A0 below meth c H locs 0 0 Qp (F0 m 160 ls []) := by
        intro v4 N3 v M3 H locs ls hm3 e16 hv hrec hM hS hl
        rw [hrs v hrec] at hend
        have hz3 : MZ kA M M3 g (BS S) N3 Z := ⟨M00, hm3, hz0, hf0⟩
        have hms := mk.scr hz3
        obtain ⟨us3, F, hob3, hF, hnf, -⟩ := hm3.op
        have hf3 : M3 (g + 1) = some (xI (kA 0) 360 f) := by rw [hm3.at4 (by omega) (by omega) (by omega) (by omega) (by omega)]; exact h0f
        have hz23 : M3 (g + 2) = some (xI (kA 1) 20 z) := by rw [hz3.fr (by omega)]; exact hz2
        have lp : ∀ (k i : Nat) (f' : Nat → Int32) (H : Heap) (locs : List Loc) (ls : Array Slot), i + k = S.L → (∀ q, q < 18 * ix a ∨ 18 * ix a + 18 ≤ q → f' q = f q) → nn f' 360 → (∀ j, j < i → f' (18 * ix a + j) = F (10 * 16 + j)) → xW D vwCl N0 (xset M3 (g + 1) (xI (kA 0) 360 f')) H → va_S (xA N0) s.heap H locs → lv_has ls 7 [(6, .int (nI i)), (5, .int (nI 1)), (0, .ref g), (1, .int w), (2, .int (nI (ix a))), (3, .int (nI (ix x))), (4, .int v4)] → W p l e (xR 5) s m A0 below meth c H locs 0 0 Qp (F0 m 168 ls []) := by
          intro k
          induction k with
          | zero =>
            intro i f' H locs ls hik h1 h2 h3 hM hS hl
            have hob4 : xset M3 (g + 1) (xI (kA 0) 360 f') g = some (oMd g (BS S) us3) := by rw [xset_n (by omega)]; exact hob3
            have hVX : Vw f' (18 * ix a) S.L = v := by
              rw [Vw_same2 (F := F) (b := 10 * 16) (fun j hj => h3 j (by omega))]
              exact Vw_top (n := 10) (by omega) (by rw [hnf.2 16 (by omega)]; exact e16) (by omega)
            have hmf2 := hmf.put (x := ix a) (b' := S.b (ix a)) hL9 h1 hVX (fun q1 q2 => by omega)
            rw [un_id] at hmf2
            have mk1 : Mk kA (xset (xset M3 (g + 1) (xI (kA 0) 360 f')) (g + 2) (xI (kA 1) 20 z)) g (mkS S.L (un S.a (ix a) v) S.b S.pr S.sealed S.fed S.fl) := hms.1.mem rfl h2 hmf2 hmz
            rw [xset_id (show xset M3 (g + 1) (xI (kA 0) 360 f') (g + 2) = some (xI (kA 1) 20 z) by rw [xset_n (by omega)]; exact hz23)] at mk1
            refine lv_iload hx hb dX6_reckon_168 (lv_at hl 0 rfl) ?_
            refine lv_aload_n hx hb dX6_reckon_170 rfl (lv_at hl 2 rfl) ?_
            refine x_get (v := .int (nI S.L)) hx hb hts in_X6_reckon_X6 hown hK hM (hob4) rfl 0 (by decide) (hts (.fieldLink RX6 36 "LimbCurvesModel" "limbs" "I") (by decide +kernel)) (fun _ h9 => h9) rfl dX6_reckon_171 ?_
            refine r_icmp_geN (tgt := 203) C (by omega) (by omega) dX6_reckon_174 (by decide) (fun hc => ?_) (fun hc => ?_)
            · refine lv_aload_n hx hb dX6_reckon_203 rfl (lv_at hl 2 rfl) ?_
              refine lv_iload_n hx hb dX6_reckon_204 rfl (lv_at hl 4 rfl) ?_
              refine r_Vv (As := [.int (nI (ix a))]) (rest := []) C hM hS (c6_written l D kA N0 _ g (ix a) _ mk1 (by omega)) (hob4) rfl gX6_reckon_X6_written rfl rfl rfl ⟨rfl, by decide +kernel, by decide +kernel, (by decide +kernel : (parseMethodDescriptor yX6_written.desc).map (fun d => d.parameters.length) = some 1)⟩ ⟨Nat.le_of_ble_eq_true rfl, Nat.le_of_ble_eq_true rfl⟩ hl.1 rfl (Nat.le_of_ble_eq_true rfl) dX6_reckon_205 ⟨Nat.le_of_ble_eq_true rfl, Nat.le_of_ble_eq_true rfl⟩ (fun M5 H locs hp hM hS => ?_)
              refine lv_iload hx hb dX6_reckon_208 (lv_at hl 1 rfl) ?_
              exact hend _ _ _ _ _ _ hM hS (by decide) (⟨rfl, hp.1, fun b hb => by rw [hp.2 b (by omega), xset_n (by omega)]; exact hms.2 b hb⟩) dX6_reckon_210
            · omega
          | succ k ih =>
            intro i f' H locs ls hik h1 h2 h3 hM hS hl
            have hob4 : xset M3 (g + 1) (xI (kA 0) 360 f') g = some (oMd g (BS S) us3) := by rw [xset_n (by omega)]; exact hob3
            have hF4 : xset M3 (g + 1) (xI (kA 0) 360 f') (g + 3) = some (xI (kA 0) 300 F) := by rw [xset_n (by omega)]; exact hF
            have hs4 : xset M3 (g + 1) (xI (kA 0) 360 f') (g + 1) = some (xI (kA 0) 360 f') := xset_s
            refine lv_iload hx hb dX6_reckon_168 (lv_at hl 0 rfl) ?_
            refine lv_aload_n hx hb dX6_reckon_170 rfl (lv_at hl 2 rfl) ?_
            refine x_get (v := .int (nI S.L)) hx hb hts in_X6_reckon_X6 hown hK hM (hob4) rfl 0 (by decide) (hts (.fieldLink RX6 36 "LimbCurvesModel" "limbs" "I") (by decide +kernel)) (fun _ h9 => h9) rfl dX6_reckon_171 ?_
            refine r_icmp_geN (tgt := 203) C (by omega) (by omega) dX6_reckon_174 (by decide) (fun hc => ?_) (fun hc => ?_)
            · omega
            · refine lv_aload_n hx hb dX6_reckon_177 rfl (lv_at hl 2 rfl) ?_
              refine x_get (v := .ref (g + 1)) hx hb hts in_X6_reckon_X6 hown hK hM (hob4) rfl 1 (by decide) (hts (.fieldLink RX6 7 "LimbCurvesModel" "slots" "[I") (by decide +kernel)) (fun _ h9 => h9) rfl dX6_reckon_178 ?_
              refine lv_bipush (v := nI 18) hx hb dX6_reckon_181 (by decide) ?_
              refine lv_iload_n hx hb dX6_reckon_183 rfl (lv_at hl 4 rfl) ?_
              refine r_imulN C dX6_reckon_184 ?_
              refine lv_iload hx hb dX6_reckon_185 (lv_at hl 0 rfl) ?_
              refine r_iaddN C dX6_reckon_187 ?_
              refine lv_aload_n hx hb dX6_reckon_188 rfl (lv_at hl 2 rfl) ?_
              refine lv_bipush (v := nI 16) hx hb dX6_reckon_189 (by decide) ?_
              refine lv_iload hx hb dX6_reckon_191 (lv_at hl 0 rfl) ?_
              refine r_Vi (As := [.int (nI 16), .int (nI i)]) (rest := [.int (nI ((18 * (ix a)) + i)), .ref (g + 1)]) C hM hS (c6_get l D kA N0 _ g 16 i _ us3 F hob4 hF4 (by omega) (by omega)) (hob4) rfl gX6_reckon_X6_get rfl rfl rfl ⟨rfl, by decide +kernel, by decide +kernel, (by decide +kernel : (parseMethodDescriptor yX6_get.desc).map (fun d => d.parameters.length) = some 2)⟩ ⟨Nat.le_of_ble_eq_true rfl, Nat.le_of_ble_eq_true rfl⟩ hl.1 rfl (Nat.le_of_ble_eq_true rfl) dX6_reckon_193 ⟨Nat.le_of_ble_eq_true rfl, Nat.le_of_ble_eq_true rfl⟩ (fun x1 M5 H locs hp hM hS => ?_)
              obtain ⟨ex1, eM5⟩ := hp
              rw [eM5] at hM
              refine r_iast C hM hS (hs4) rfl (by omega) (by omega) dX6_reckon_196 (fun H locs hM hS => ?_)
              rw [xset_xset] at hM
              have y1 : 0 ≤ x1.toInt := by rw [ex1]; exact hnf.nn9 (by omega) (by omega)
              refine lv_iinc (v := nI (i + 1)) (lv' := [(6, .int (nI (i + 1))), (5, .int (nI 1)), (0, .ref g), (1, .int w), (2, .int (nI (ix a))), (3, .int (nI (ix x))), (4, .int v4)]) hx hb dX6_reckon_197 hl (k := 0) rfl (r_inc _) (by decide) rfl (fun ls hl => ?_)
              refine lv_goto (tgt := 168) hx hb dX6_reckon_200 (by decide) ?_
              refine ih (i + 1) _ H locs ls (by omega) (fun q hq => ?_) (nn_upd h2 y1) (fun j hj => ?_) hM hS hl
              · rw [pk_un (by omega)]; exact h1 q hq
              · by_cases q1 : j = i
                · rw [q1, pk_us]; exact ex1
                · rw [pk_un (by omega)]; exact h3 j (by omega)
        have hM : xW D vwCl N0 (xset M3 (g + 1) (xI (kA 0) 360 f)) H := by rw [xset_id hf3]; exact hM
        refine lv_iload hx hb dX6_reckon_160 (lv_at hl 0 rfl) ?_
        refine r_if_eqN (tgt := 208) C (by omega) dX6_reckon_162 (by decide) (fun hc => ?_) (fun hc => ?_)
        · omega
        · refine lv_iconst (v := nI 0) hx hb dX6_reckon_165 (by decide) ?_
          refine lv_istore (lv' := [(6, .int (nI 0)), (5, .int (nI 1)), (0, .ref g), (1, .int w), (2, .int (nI (ix a))), (3, .int (nI (ix x))), (4, .int v4)]) hx hb dX6_reckon_166 hl (by decide) rfl (fun ls hl => ?_)
          exact lp S.L 0 f _ _ _ (by omega) (fun _ _ => rfl) nf (fun j hj => by omega) hM hS hl
      refine lv_if_eq (tgt := 50) hx hb dX6_reckon_45 (by decide) (fun hc6 => ?_) (fun hc6 => ?_)
      · refine lv_aload_n hx hb dX6_reckon_50 rfl (lv_at hl 0 rfl) ?_
        refine lv_bipush (v := nI 14) hx hb dX6_reckon_51 (by decide) ?_
        refine lv_iload_n hx hb dX6_reckon_53 rfl (lv_at hl 3 rfl) ?_
        refine lv_iconst (v := nI 0) hx hb dX6_reckon_54 (by decide) ?_
        refine r_Vv (As := [.int (nI 14), .int (nI (ix x)), .int (nI 0)]) (rest := []) C hM hS (c6_load l D kA N0 M00 _ g 14 (ix x) 0 S.L (BS S) N2 f hm (by omega) (by rw [hm.at4 (by omega) (by omega) (by omega) (by omega) (by omega)]; exact h0f) nf rfl hL9 (by omega)) (hob2) rfl gX6_reckon_X6_load rfl rfl rfl ⟨rfl, by decide +kernel, by decide +kernel, (by decide +kernel : (parseMethodDescriptor yX6_load.desc).map (fun d => d.parameters.length) = some 3)⟩ ⟨Nat.le_of_ble_eq_true rfl, Nat.le_of_ble_eq_true rfl⟩ hl.1 rfl (Nat.le_of_ble_eq_true rfl) dX6_reckon_55 ⟨Nat.le_of_ble_eq_true rfl, Nat.le_of_ble_eq_true rfl⟩ (fun M4 H locs hm hM hS => ?_)
        obtain ⟨ua, eua⟩ : ∃ q, S.a (ix x) = q := ⟨_, rfl⟩
        rw [Nat.add_zero, (hmf (ix x) (by omega)).1, eua] at hm
        rw [eua] at hT hrn
        obtain ⟨N4, eN4⟩ : ∃ q, un N2 14 ua = q := ⟨_, rfl⟩
        rw [eN4] at hm
        have m14 : N4 14 = ua := by rw [← eN4, un_s]
        have m3 : N4 3 = od := by rw [← eN4, un_n (by omega)]; exact k3
        have m4 : N4 4 = 1 := by rw [← eN4, un_n (by omega)]; exact lq2
        refine lv_aload_n hx hb dX6_reckon_58 rfl (lv_at hl 0 rfl) ?_
        refine lv_bipush (v := nI 14) hx hb dX6_reckon_59 (by decide) ?_
        refine lv_bipush (v := nI 14) hx hb dX6_reckon_61 (by decide) ?_
        refine lv_iconst (v := nI 3) hx hb dX6_reckon_63 (by decide) ?_
        obtain ⟨us9, hob9⟩ := hm.1
        refine r_Vv (As := [.int (nI 14), .int (nI 14), .int (nI 3)]) (rest := []) C hM hS (c6_restV l D kA N0 _ _ g 14 14 3 ua od _ _ hm (by omega) (by omega) (by omega) m14 m3 hpp (by omega)) (hob9) rfl gX6_reckon_X6_rest rfl rfl rfl ⟨rfl, by decide +kernel, by decide +kernel, (by decide +kernel : (parseMethodDescriptor yX6_rest.desc).map (fun d => d.parameters.length) = some 3)⟩ ⟨Nat.le_of_ble_eq_true rfl, Nat.le_of_ble_eq_true rfl⟩ hl.1 rfl (Nat.le_of_ble_eq_true rfl) dX6_reckon_64 ⟨Nat.le_of_ble_eq_true rfl, Nat.le_of_ble_eq_true rfl⟩ (fun M1 H locs hp9 hM hS => ?_)
        obtain ⟨N9, hm, un9⟩ := hp9
        obtain ⟨w1, ew1⟩ : ∃ q, q = ua % od := ⟨_, rfl⟩
        rw [← ew1] at un9
        have b_w1 : w1 < od := by rw [ew1]; exact Nat.mod_lt _ hpp
        have n_w1 := un9.1
        have m3 := un9.k m3 (by omega) (by omega)
        have m4 := un9.k m4 (by omega) (by omega)
        refine lv_iload_n hx hb dX6_reckon_67 rfl (lv_at hl 1 rfl) ?_
        refine lv_iconst (v := nI 3) hx hb dX6_reckon_68 (by decide) ?_
        refine lv_icmp_ge (tgt := 90) hx hb dX6_reckon_69 (by decide) (fun hc7 => ?_) (fun hc7 => ?_)
        · rw [ile, t_3] at hc7
          have h0 : ¬ w = 0 := fun q => by rw [q] at hc7; exact absurd hc7 (by decide)
          have h1 : ¬ w = 1 := fun q => by rw [q] at hc7; exact absurd hc7 (by decide)
          have h2 : ¬ w = 2 := fun q => by rw [q] at hc7; exact absurd hc7 (by decide)
          have hrec : ∀ u v, recR od u v w = inv? od u := fun u v => by unfold recR; rw [if_neg h0, if_neg h1, if_neg h2]
          refine lv_iconst (v := nI 1) hx hb dX6_reckon_90 (by decide) ?_
          refine lv_istore (lv' := [(5, .int (nI 1)), (0, .ref g), (1, .int w), (2, .int (nI (ix a))), (3, .int (nI (ix x))), (4, .int y)]) hx hb dX6_reckon_91 hl (by decide) rfl (fun ls hl => ?_)
          refine lv_iload_n hx hb dX6_reckon_93 rfl (lv_at hl 2 rfl) ?_
          refine lv_if_ne (tgt := 111) hx hb dX6_reckon_94 (by decide) (fun hd0 => ?_) (fun hd0 => ?_)
          · refine lv_iload_n hx hb dX6_reckon_111 rfl (lv_at hl 2 rfl) ?_
            refine lv_iconst (v := nI 1) hx hb dX6_reckon_112 (by decide) ?_
            refine lv_icmp_ne (tgt := 130) hx hb dX6_reckon_113 (by decide) (fun hd1 => ?_) (fun hd1 => ?_)
            · refine lv_iload_n hx hb dX6_reckon_130 rfl (lv_at hl 2 rfl) ?_
              refine lv_iconst (v := nI 2) hx hb dX6_reckon_131 (by decide) ?_
              refine lv_icmp_ne (tgt := 149) hx hb dX6_reckon_132 (by decide) (fun hd2 => ?_) (fun hd2 => ?_)
              · obtain ⟨us5, hob5⟩ := hm.1
                refine lv_aload_n hx hb dX6_reckon_149 rfl (lv_at hl 1 rfl) ?_
                refine lv_bipush (v := nI 16) hx hb dX6_reckon_150 (by decide) ?_
                refine lv_bipush (v := nI 14) hx hb dX6_reckon_152 (by decide) ?_
                refine lv_iconst (v := nI 3) hx hb dX6_reckon_154 (by decide) ?_
                refine r_Vi (As := [.int (nI 16), .int (nI 14), .int (nI 3)]) (rest := []) C hM hS (c6_inverse l D kA N0 M00 _ g 16 14 3 _ _ hm (by omega) (by omega) (by omega) (by omega) (by omega) (by omega) (by omega) m4 (by rw [m3]; exact hpp) (by rw [m3, n_w1, ew1]; exact Nat.mod_lt _ hpp) (by rw [m3]; exact hp9)) (hob5) rfl gX6_reckon_X6_inverse rfl rfl rfl ⟨rfl, by decide +kernel, by decide +kernel, (by decide +kernel : (parseMethodDescriptor yX6_inverse.desc).map (fun d => d.parameters.length) = some 3)⟩ ⟨Nat.le_of_ble_eq_true rfl, Nat.le_of_ble_eq_true rfl⟩ hl.1 rfl (Nat.le_of_ble_eq_true rfl) dX6_reckon_155 ⟨Nat.le_of_ble_eq_true rfl, Nat.le_of_ble_eq_true rfl⟩ (fun r7 M7 H locs hp hM hS => ?_)
                obtain ⟨N7, hm7, hf7, hr7⟩ := hp
                rw [m3, n_w1, ew1] at hr7
                rcases hr7 with ⟨er7, hi7⟩ | ⟨er7, hi7⟩
                · rw [er7]
                  refine lv_istore (lv' := [(5, .int (nI 1)), (0, .ref g), (1, .int w), (2, .int (nI (ix a))), (3, .int (nI (ix x))), (4, .int y)]) hx hb dX6_reckon_158 hl (by decide) rfl (fun ls hl => ?_)
                  exact hT y N7 (N7 16) M7 H _ _ hm7 rfl (inv_spec hi7).1 (by rw [hrec]; exact hi7) hM hS (lv_sub hl [0, 1, 2, 3, 4, 5] rfl)
                · rw [er7]
                  rw [hrn (by rw [hrec]; exact hi7)] at hend
                  refine lv_istore (lv' := [(5, .int (nI 0)), (0, .ref g), (1, .int w), (2, .int (nI (ix a))), (3, .int (nI (ix x))), (4, .int y)]) hx hb dX6_reckon_158 hl (by decide) rfl (fun ls hl => ?_)
                  refine lv_iload hx hb dX6_reckon_160 (lv_at hl 0 rfl) ?_
                  refine r_if_eqN (tgt := 208) C (by omega) dX6_reckon_162 (by decide) (fun hd3 => ?_) (fun hd3 => ?_)
                  · refine lv_iload hx hb dX6_reckon_208 (lv_at hl 0 rfl) ?_
                    exact hend _ _ _ _ _ _ hM hS (by decide) (⟨rfl, mk.scr ⟨M00, hm7, hz0, hf0⟩⟩) dX6_reckon_210
                  · omega
              · exact absurd hd2 h2
            · exact absurd hd1 h1
          · exact absurd hd0 h0
        · rw [ile, t_3] at hc7
          have hsy := hsy (by omega)
          have hyr := sc_ix hsy
          have hye := ix_eq (x := y) (by omega)
          have hl : lv_has ls 7 [(0, .ref g), (1, .int w), (2, .int (nI (ix a))), (3, .int (nI (ix x))), (4, .int (nI (ix y)))] := by rw [← hye]; exact hl
          obtain ⟨us5, hob5⟩ := hm.1
          obtain ⟨ub, eub⟩ : ∃ q, S.a (ix y) = q := ⟨_, rfl⟩
          rw [eub] at hT
          refine lv_aload_n hx hb dX6_reckon_72 rfl (lv_at hl 0 rfl) ?_
          refine lv_bipush (v := nI 15) hx hb dX6_reckon_73 (by decide) ?_
          refine lv_iload hx hb dX6_reckon_75 (lv_at hl 4 rfl) ?_
          refine lv_iconst (v := nI 0) hx hb dX6_reckon_77 (by decide) ?_
          refine r_Vv (As := [.int (nI 15), .int (nI (ix y)), .int (nI 0)]) (rest := []) C hM hS (c6_load l D kA N0 M00 _ g 15 (ix y) 0 S.L (BS S) _ f hm (by omega) (by rw [hm.at4 (by omega) (by omega) (by omega) (by omega) (by omega)]; exact h0f) nf rfl hL9 (by omega)) (hob5) rfl gX6_reckon_X6_load rfl rfl rfl ⟨rfl, by decide +kernel, by decide +kernel, (by decide +kernel : (parseMethodDescriptor yX6_load.desc).map (fun d => d.parameters.length) = some 3)⟩ ⟨Nat.le_of_ble_eq_true rfl, Nat.le_of_ble_eq_true rfl⟩ hl.1 rfl (Nat.le_of_ble_eq_true rfl) dX6_reckon_78 ⟨Nat.le_of_ble_eq_true rfl, Nat.le_of_ble_eq_true rfl⟩ (fun M6 H locs hm hM hS => ?_)
          rw [Nat.add_zero, (hmf (ix y) (by omega)).1, eub] at hm
          obtain ⟨N6, eN6⟩ : ∃ q, un N9 15 ub = q := ⟨_, rfl⟩
          rw [eN6] at hm
          have m15 : N6 15 = ub := by rw [← eN6, un_s]
          have m3 : N6 3 = od := by rw [← eN6, un_n (by omega)]; exact m3
          have m14 : N6 14 = w1 := by rw [← eN6, un_n (by omega)]; exact n_w1
          refine lv_aload_n hx hb dX6_reckon_81 rfl (lv_at hl 0 rfl) ?_
          refine lv_bipush (v := nI 15) hx hb dX6_reckon_82 (by decide) ?_
          refine lv_bipush (v := nI 15) hx hb dX6_reckon_84 (by decide) ?_
          refine lv_iconst (v := nI 3) hx hb dX6_reckon_86 (by decide) ?_
          obtain ⟨us9, hob9⟩ := hm.1
          refine r_Vv (As := [.int (nI 15), .int (nI 15), .int (nI 3)]) (rest := []) C hM hS (c6_restV l D kA N0 _ _ g 15 15 3 ub od _ _ hm (by omega) (by omega) (by omega) m15 m3 hpp (by omega)) (hob9) rfl gX6_reckon_X6_rest rfl rfl rfl ⟨rfl, by decide +kernel, by decide +kernel, (by decide +kernel : (parseMethodDescriptor yX6_rest.desc).map (fun d => d.parameters.length) = some 3)⟩ ⟨Nat.le_of_ble_eq_true rfl, Nat.le_of_ble_eq_true rfl⟩ hl.1 rfl (Nat.le_of_ble_eq_true rfl) dX6_reckon_87 ⟨Nat.le_of_ble_eq_true rfl, Nat.le_of_ble_eq_true rfl⟩ (fun M1 H locs hp9 hM hS => ?_)
          obtain ⟨N9, hm, un9⟩ := hp9
          obtain ⟨w2, ew2⟩ : ∃ q, q = ub % od := ⟨_, rfl⟩
          rw [← ew2] at un9
          have b_w2 : w2 < od := by rw [ew2]; exact Nat.mod_lt _ hpp
          have n_w2 := un9.1
          have m3 := un9.k m3 (by omega) (by omega)
          have m14 := un9.k m14 (by omega) (by omega)
          refine lv_iconst (v := nI 1) hx hb dX6_reckon_90 (by decide) ?_
          refine lv_istore (lv' := [(5, .int (nI 1)), (0, .ref g), (1, .int w), (2, .int (nI (ix a))), (3, .int (nI (ix x))), (4, .int (nI (ix y)))]) hx hb dX6_reckon_91 hl (by decide) rfl (fun ls hl => ?_)
          refine lv_iload_n hx hb dX6_reckon_93 rfl (lv_at hl 2 rfl) ?_
          have hcs : w.toInt = 0 ∨ w.toInt = 1 ∨ w.toInt = 2 := by omega
          have hlT := hl
          have hT9 := hT (nI (ix y))
          rw [← ew1, ← ew2] at hT9
          have hTh := fun {N3 v M3 H locs ls} h1 h2 h3 h4 h5 h6 h7 => hT9 N3 v M3 H locs ls h1 h2 h3 h4 h5 h6 h7
          have i_0 : (0 : Int32).toInt = 0 := rfl
          have i_1 : (1 : Int32).toInt = 1 := rfl
          have i_2 : (2 : Int32).toInt = 2 := rfl
          refine lv_if_ne (tgt := 111) hx hb dX6_reckon_94 (by decide) (fun hd0 => ?_) (fun hd0 => ?_)
          · refine lv_iload_n hx hb dX6_reckon_111 rfl (lv_at hl 2 rfl) ?_
            refine lv_iconst (v := nI 1) hx hb dX6_reckon_112 (by decide) ?_
            refine lv_icmp_ne (tgt := 130) hx hb dX6_reckon_113 (by decide) (fun hd1 => ?_) (fun hd1 => ?_)
            · refine lv_iload_n hx hb dX6_reckon_130 rfl (lv_at hl 2 rfl) ?_
              refine lv_iconst (v := nI 2) hx hb dX6_reckon_131 (by decide) ?_
              have h0 : ¬ w = 0 := hd0
              have h1 : ¬ w = 1 := hd1
              have h2 : w = 2 := by
                rcases hcs with q | q | q
                · exact absurd (Int32.toInt_inj.mp (by rw [q]; rfl)) h0
                · exact absurd (Int32.toInt_inj.mp (by rw [q]; rfl)) h1
                · exact Int32.toInt_inj.mp (by rw [q]; rfl)
              have hrec : ∀ u v, recR od u v w = some (u * v % od) := fun u v => by unfold recR; rw [if_neg h0, if_neg h1, if_pos h2]
              refine lv_icmp_ne (tgt := 149) hx hb dX6_reckon_132 (by decide) (fun hd2 => ?_) (fun hd2 => ?_)
              · exact absurd h2 hd2
              · refine lv_aload_n hx hb dX6_reckon_135 rfl (lv_at hl 1 rfl) ?_
                refine lv_bipush (v := nI 16) hx hb dX6_reckon_136 (by decide) ?_
                refine lv_bipush (v := nI 14) hx hb dX6_reckon_138 (by decide) ?_
                refine lv_bipush (v := nI 15) hx hb dX6_reckon_140 (by decide) ?_
                refine lv_iconst (v := nI 3) hx hb dX6_reckon_142 (by decide) ?_
                obtain ⟨us9, hob9⟩ := hm.1
                refine r_Vv (As := [.int (nI 16), .int (nI 14), .int (nI 15), .int (nI 3)]) (rest := []) C hM hS (c6_timesV l D kA N0 _ _ g 16 14 15 3 w1 w2 od _ _ hm (by omega) (by omega) (by omega) (by omega) m14 n_w2 m3 hpp (by omega)) (hob9) rfl gX6_reckon_X6_times rfl rfl rfl ⟨rfl, by decide +kernel, by decide +kernel, (by decide +kernel : (parseMethodDescriptor yX6_times.desc).map (fun d => d.parameters.length) = some 4)⟩ ⟨Nat.le_of_ble_eq_true rfl, Nat.le_of_ble_eq_true rfl⟩ hl.1 rfl (Nat.le_of_ble_eq_true rfl) dX6_reckon_143 ⟨Nat.le_of_ble_eq_true rfl, Nat.le_of_ble_eq_true rfl⟩ (fun M1 H locs hp9 hM hS => ?_)
                obtain ⟨N9, hm, un9⟩ := hp9
                obtain ⟨w3, ew3⟩ : ∃ q, q = w1 * w2 % od := ⟨_, rfl⟩
                rw [← ew3] at un9
                have b_w3 : w3 < od := by rw [ew3]; exact Nat.mod_lt _ hpp
                have n_w3 := un9.1
                have m3 := un9.k m3 (by omega) (by omega)
                have m14 := un9.k m14 (by omega) (by omega)
                have n_w2 := un9.k n_w2 (by omega) (by omega)
                refine lv_goto (tgt := 160) hx hb dX6_reckon_146 (by decide) ?_
                exact hTh hm n_w3 b_w3 (by rw [hrec, ← ew3]) hM hS (lv_sub hl [0, 1, 2, 3, 4, 5] rfl)
            · have h0 : ¬ w = 0 := hd0
              have h1 : w = 1 := hd1
              have hrec : ∀ u v, recR od u v w = some ((u + (od - v)) % od) := fun u v => by unfold recR; rw [if_neg h0, if_pos h1]
              refine lv_aload_n hx hb dX6_reckon_116 rfl (lv_at hl 1 rfl) ?_
              refine lv_bipush (v := nI 16) hx hb dX6_reckon_117 (by decide) ?_
              refine lv_bipush (v := nI 14) hx hb dX6_reckon_119 (by decide) ?_
              refine lv_bipush (v := nI 15) hx hb dX6_reckon_121 (by decide) ?_
              refine lv_iconst (v := nI 3) hx hb dX6_reckon_123 (by decide) ?_
              obtain ⟨us9, hob9⟩ := hm.1
              refine r_Vv (As := [.int (nI 16), .int (nI 14), .int (nI 15), .int (nI 3)]) (rest := []) C hM hS (c6_differenceV l D kA N0 _ _ g 16 14 15 3 w1 w2 od _ _ hm (by omega) (by omega) (by omega) (by omega) m14 n_w2 m3 (by omega) (by omega) (b_w1) (b_w2) hp9 (by omega)) (hob9) rfl gX6_reckon_X6_difference rfl rfl rfl ⟨rfl, by decide +kernel, by decide +kernel, (by decide +kernel : (parseMethodDescriptor yX6_difference.desc).map (fun d => d.parameters.length) = some 4)⟩ ⟨Nat.le_of_ble_eq_true rfl, Nat.le_of_ble_eq_true rfl⟩ hl.1 rfl (Nat.le_of_ble_eq_true rfl) dX6_reckon_124 ⟨Nat.le_of_ble_eq_true rfl, Nat.le_of_ble_eq_true rfl⟩ (fun M1 H locs hp9 hM hS => ?_)
              obtain ⟨N9, hm, un9⟩ := hp9
              obtain ⟨w4, ew4⟩ : ∃ q, q = (w1 + (od - w2)) % od := ⟨_, rfl⟩
              rw [← ew4] at un9
              have b_w4 : w4 < od := by rw [ew4]; exact Nat.mod_lt _ hpp
              have n_w4 := un9.1
              have m3 := un9.k m3 (by omega) (by omega)
              have m14 := un9.k m14 (by omega) (by omega)
              have n_w2 := un9.k n_w2 (by omega) (by omega)
              refine lv_goto (tgt := 160) hx hb dX6_reckon_127 (by decide) ?_
              exact hTh hm n_w4 b_w4 (by rw [hrec, ← ew4]) hM hS (lv_sub hl [0, 1, 2, 3, 4, 5] rfl)
          · have h0 : w = 0 := hd0
            have hrec : ∀ u v, recR od u v w = some ((u + v) % od) := fun u v => by unfold recR; rw [if_pos h0]
            refine lv_aload_n hx hb dX6_reckon_97 rfl (lv_at hl 1 rfl) ?_
            refine lv_bipush (v := nI 16) hx hb dX6_reckon_98 (by decide) ?_
            refine lv_bipush (v := nI 14) hx hb dX6_reckon_100 (by decide) ?_
            refine lv_bipush (v := nI 15) hx hb dX6_reckon_102 (by decide) ?_
            refine lv_iconst (v := nI 3) hx hb dX6_reckon_104 (by decide) ?_
            obtain ⟨us9, hob9⟩ := hm.1
            refine r_Vv (As := [.int (nI 16), .int (nI 14), .int (nI 15), .int (nI 3)]) (rest := []) C hM hS (c6_sumV l D kA N0 _ _ g 16 14 15 3 w1 w2 od _ _ hm (by omega) (by omega) (by omega) (by omega) m14 n_w2 m3 (by omega) (b_w1) (b_w2) hp9 (by omega)) (hob9) rfl gX6_reckon_X6_sum rfl rfl rfl ⟨rfl, by decide +kernel, by decide +kernel, (by decide +kernel : (parseMethodDescriptor yX6_sum.desc).map (fun d => d.parameters.length) = some 4)⟩ ⟨Nat.le_of_ble_eq_true rfl, Nat.le_of_ble_eq_true rfl⟩ hl.1 rfl (Nat.le_of_ble_eq_true rfl) dX6_reckon_105 ⟨Nat.le_of_ble_eq_true rfl, Nat.le_of_ble_eq_true rfl⟩ (fun M1 H locs hp9 hM hS => ?_)
            obtain ⟨N9, hm, un9⟩ := hp9
            obtain ⟨w5, ew5⟩ : ∃ q, q = (w1 + w2) % od := ⟨_, rfl⟩
            rw [← ew5] at un9
            have b_w5 : w5 < od := by rw [ew5]; exact Nat.mod_lt _ hpp
            have n_w5 := un9.1
            have m3 := un9.k m3 (by omega) (by omega)
            have m14 := un9.k m14 (by omega) (by omega)
            have n_w2 := un9.k n_w2 (by omega) (by omega)
            refine lv_goto (tgt := 160) hx hb dX6_reckon_108 (by decide) ?_
            exact hTh hm n_w5 b_w5 (by rw [hrec, ← ew5]) hM hS (lv_sub hl [0, 1, 2, 3, 4, 5] rfl)
      · exact absurd rfl hc6
  refine lv_iload_n hx hb dX6_reckon_4 rfl (lv_at hl 1 rfl) ?_
  refine lv_if_lt (tgt := 48) hx hb dX6_reckon_5 (by decide) (fun hc1 => ?_) (fun hc1 => ?_)
  · rw [ilt, t_0] at hc1
    exact hF48 _ _ _ (fun h => by omega) hM hS
  · rw [ilt, t_0] at hc1
    refine lv_iload_n hx hb dX6_reckon_8 rfl (lv_at hl 1 rfl) ?_
    refine lv_iconst (v := nI 3) hx hb dX6_reckon_9 (by decide) ?_
    refine lv_icmp_gt (tgt := 48) hx hb dX6_reckon_10 (by decide) (fun hc2 => ?_) (fun hc2 => ?_)
    · have hc2 : (nI 3).toInt < w.toInt := ilt.mp hc2
      rw [t_3] at hc2
      exact hF48 _ _ _ (fun h => by omega) hM hS
    · have hc2 : ¬ (nI 3).toInt < w.toInt := fun q => hc2 (ilt.mpr q)
      rw [t_3] at hc2
      refine lv_iload_n hx hb dX6_reckon_13 rfl (lv_at hl 2 rfl) ?_
      refine r_Si (As := [.int a]) (rest := []) C hM hS (c6_isScalar l D kA N0 M2 a) gX6_reckon_X6_isScalar rfl rfl rfl ⟨by decide +kernel, by decide +kernel, (by decide +kernel : (parseMethodDescriptor yX6_isScalar.desc).map (fun d => d.parameters.length) = some 1)⟩ ⟨Nat.le_of_ble_eq_true rfl, Nat.le_of_ble_eq_true rfl⟩ hl.1 rfl (Nat.le_of_ble_eq_true rfl) dX6_reckon_14 ⟨Nat.le_of_ble_eq_true rfl, Nat.le_of_ble_eq_true rfl⟩ (fun v1 M1 H locs hp hM hS => ?_)
      obtain ⟨eM1, hv1⟩ := hp
      rw [eM1] at hM
      refine lv_if_eq (tgt := 48) hx hb dX6_reckon_17 (by decide) (fun hc3 => ?_) (fun hc3 => ?_)
      · exact hF48 _ _ _ (fun h => h01 hv1 hc3 h.2.2.1) hM hS
      · have hsa := h02 hv1 hc3
        refine lv_iload_n hx hb dX6_reckon_20 rfl (lv_at hl 3 rfl) ?_
        refine r_Si (As := [.int x]) (rest := []) C hM hS (c6_isScalar l D kA N0 M2 x) gX6_reckon_X6_isScalar rfl rfl rfl ⟨by decide +kernel, by decide +kernel, (by decide +kernel : (parseMethodDescriptor yX6_isScalar.desc).map (fun d => d.parameters.length) = some 1)⟩ ⟨Nat.le_of_ble_eq_true rfl, Nat.le_of_ble_eq_true rfl⟩ hl.1 rfl (Nat.le_of_ble_eq_true rfl) dX6_reckon_21 ⟨Nat.le_of_ble_eq_true rfl, Nat.le_of_ble_eq_true rfl⟩ (fun v2 M1 H locs hp hM hS => ?_)
        obtain ⟨eM3, hv2⟩ := hp
        rw [eM3] at hM
        refine lv_if_eq (tgt := 48) hx hb dX6_reckon_24 (by decide) (fun hc4 => ?_) (fun hc4 => ?_)
        · exact hF48 _ _ _ (fun h => h01 hv2 hc4 h.2.2.2.1) hM hS
        · have hsx := h02 hv2 hc4
          refine lv_iload_n hx hb dX6_reckon_27 rfl (lv_at hl 1 rfl) ?_
          refine lv_iconst (v := nI 3) hx hb dX6_reckon_28 (by decide) ?_
          refine lv_icmp_ge (tgt := 40) hx hb dX6_reckon_29 (by decide) (fun hc5 => ?_) (fun hc5 => ?_)
          · rw [ile, t_3] at hc5
            exact hG _ _ _ (by omega) (by omega) hsa hsx (fun q => by omega) hM hS hl
          · rw [ile, t_3] at hc5
            refine lv_iload hx hb dX6_reckon_32 (lv_at hl 4 rfl) ?_
            refine r_Si (As := [.int y]) (rest := []) C hM hS (c6_isScalar l D kA N0 M2 y) gX6_reckon_X6_isScalar rfl rfl rfl ⟨by decide +kernel, by decide +kernel, (by decide +kernel : (parseMethodDescriptor yX6_isScalar.desc).map (fun d => d.parameters.length) = some 1)⟩ ⟨Nat.le_of_ble_eq_true rfl, Nat.le_of_ble_eq_true rfl⟩ hl.1 rfl (Nat.le_of_ble_eq_true rfl) dX6_reckon_34 ⟨Nat.le_of_ble_eq_true rfl, Nat.le_of_ble_eq_true rfl⟩ (fun v3 M1 H locs hp hM hS => ?_)
            obtain ⟨eM4, hv3⟩ := hp
            rw [eM4] at hM
            refine lv_if_eq (tgt := 48) hx hb dX6_reckon_37 (by decide) (fun hc7 => ?_) (fun hc7 => ?_)
            · exact hF48 _ _ _ (fun h => h01 hv3 hc7 (h.2.2.2.2.1 (by omega))) hM hS
            · exact hG _ _ _ (by omega) (by omega) hsa hsx (fun _ => h02 hv3 hc7) hM hS hl
end NM20
