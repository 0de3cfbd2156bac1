theorem in_X6_storePoint_X6 : ∀ w ∈ wsX60, w ∈ wsX6_storePoint := by decide +kernel
theorem Vw_top {f : Nat → Int32} {b L n X : Nat} (hL : L ≤ n) (h : Vw f b n = X) (hX : X < BB ^ L) : Vw f b L = X := by
  have h1 := Vw_split f b L (n - L)
  rw [show L + (n - L) = n by omega, h] at h1
  rcases Nat.eq_zero_or_pos (Vw f (b + L) (n - L)) with q | q
  · rw [q, Nat.mul_zero, Nat.add_zero] at h1
    exact h1.symm
  · have : BB ^ L * 1 ≤ BB ^ L * Vw f (b + L) (n - L) := Nat.mul_le_mul_left _ q
    omega
theorem Vw_same2 {f F : Nat → Int32} {a b n : Nat} (h : ∀ j, j < n → f (a + j) = F (b + j)) : Vw f a n = Vw F b n := by
  rw [Vw_V, Vw_V]
  exact V_congr h
section NM17
variable {p : Program} {l : Launch} {e : Env} {R : Room} {s : State} {m : MethodId} {args : Array Value} {below : List Frame} {meth : Method} {c : Code} {Q : State → Prop} {cells slots : Nat} {ret : Option FieldType} {D : va_G} {kA : Nat → ClassId} {N0 : Nat}
set_option maxRecDepth 100000 in
theorem c6_storePoint (l : Launch) (D : va_G) (kA : Nat → ClassId) (N0 : Nat) (M0 M : xM) (g sl pt9 d X Y : Nat) (S : St) (N : Nat → Nat) (Z : Nat → Int32) (hsi : Si S) (mk : Mk kA M0 g S) (hz : MZ kA M0 M g (BS S) N Z) (h4 : 4 ≤ sl) (h12 : sl < 12) (hpt : pt9 < 5) (hd : d ≤ 1) (hZ : Z pt9 = nI d) (hX : d = 0 → N (20 + 2 * pt9) = X) (hY : d = 0 → N (20 + 2 * pt9 + 1) = Y) (hX2 : X < BB ^ S.L) (hY2 : Y < BB ^ S.L) (hX1 : d = 1 → X = 0) (hY1 : d = 1 → Y = 0) : cV l yX6_storePoint wsX6_storePoint (xR 2) [.ref g, .int (nI sl), .int (nI pt9)] D kA N0 M (fun M1 => Mk kA M1 g (endf (mkS S.L (un S.a sl X) (un S.b sl Y) (un S.pr sl (1 - d)) S.sealed S.fed S.fl) sl) ∧ ∀ b, b < g ∨ g + 7 < b → M1 b = M0 b) := by
  have hL0 := hsi.L1
  have hL9 := hsi.L9
  have hz4 := hz.z
  have hms := mk.scr hz
  have hmkM := hms.1
  obtain ⟨-, ⟨f, hf, nf, hmf⟩, ⟨z, hz2, hmz⟩, hw⟩ := hmkM
  have hzz := hz
  obtain ⟨M00, hm, hz0, hf0⟩ := hzz
  obtain ⟨us, F, hob, hF, hnf, -⟩ := hm.op
  refine r_mV (cc := cX6_storePoint) (maxL := 4) (by decide) rfl (Nat.le_of_ble_eq_true rfl) ?_
  intro p e s m below meth c ls A0 Qp C hM hnm hl hend
  obtain ⟨hx, hb, hml, hown, hts, hr, hlocks, hK, hN⟩ := _root_.id C
  have hS : va_S (xA N0) s.heap s.heap [] := va_S.rf
  have hl : lv_has ls 4 [(0, .ref g), (1, .int (nI sl)), (2, .int (nI pt9))] := hl
  -- the end
  have hE : ∀ (i : Nat) (f' : Nat → Int32) (H : Heap) (locs : List Loc) (ls : Array Slot), (∀ q, q < 18 * sl ∨ 18 * sl + 18 ≤ q → f' q = f q) → nn f' 360 → Vw f' (18 * sl) S.L = X → Vw f' (18 * sl + S.L) S.L = Y → xW D vwCl N0 (xset M (g + 1) (xI (kA 0) 360 f')) H → va_S (xA N0) s.heap H locs → lv_has ls 4 [(3, .int (nI i)), (0, .ref g), (1, .int (nI sl)), (2, .int (nI pt9))] → W p l e (xR 2) s m A0 below meth c H locs 0 0 Qp (F0 m 96 ls []) := by
    intro i f' H locs ls h1 h2 h3 h5 hM hS hl
    have hob1 : xset M (g + 1) (xI (kA 0) 360 f') g = some (oMd g (BS S) us) := by rw [xset_n (by omega)]; exact hob
    have hz1 : xset M (g + 1) (xI (kA 0) 360 f') (g + 2) = some (xI (kA 1) 20 z) := by rw [xset_n (by omega)]; exact hz2
    have hz5 : xset M (g + 1) (xI (kA 0) 360 f') (g + 4) = some (xI (kA 1) 5 Z) := by rw [xset_n (by omega)]; exact hz4
    have hT : ∀ (H : Heap) (locs : List Loc) (ls : Array Slot), xW D vwCl N0 (xset (xset M (g + 1) (xI (kA 0) 360 f')) (g + 2) (xI (kA 1) 20 (upd z sl (nI (1 - d))))) H → va_S (xA N0) s.heap H locs → lv_has ls 4 [(3, .int (nI i)), (0, .ref g), (1, .int (nI sl)), (2, .int (nI pt9))] → W p l e (xR 2) s m A0 below meth c H locs 0 0 Qp (F0 m 116 ls []) := by
      intro H locs ls hM hS hl
      have mk1 : Mk kA (xset (xset M (g + 1) (xI (kA 0) 360 f')) (g + 2) (xI (kA 1) 20 (upd z sl (nI (1 - d))))) g (mkS S.L (un S.a sl X) (un S.b sl Y) (un S.pr sl (1 - d)) S.sealed S.fed S.fl) := hms.1.mem rfl h2 (hmf.put hL9 h1 h3 (fun _ _ => h5)) hmz.put
      have hob2 : xset (xset M (g + 1) (xI (kA 0) 360 f')) (g + 2) (xI (kA 1) 20 (upd z sl (nI (1 - d)))) g = some (oMd g (BS S) us) := by rw [xset_n (by omega)]; exact hob1
      refine lv_aload_n hx hb dX6_storePoint_116 rfl (lv_at hl 1 rfl) ?_
      refine lv_iload_n hx hb dX6_storePoint_117 rfl (lv_at hl 2 rfl) ?_
      refine r_Vv (As := [.int (nI sl)]) (rest := []) C hM hS (c6_written l D kA N0 _ g sl _ mk1 (by omega)) (hob2) rfl gX6_storePoint_X6_written rfl rfl rfl ⟨rfl, by decide +kernel, by decide +kernel, (by decide +kernel : (parseMethodDescriptor yX6_written.desc).map (fun d => d.parameters.length) = some 1)⟩ ⟨Nat.le_of_ble_eq_true rfl, Nat.le_of_ble_eq_true rfl⟩ hl.1 rfl (Nat.le_of_ble_eq_true rfl) dX6_storePoint_118 ⟨Nat.le_of_ble_eq_true rfl, Nat.le_of_ble_eq_true rfl⟩ (fun M2 H locs hp hM hS => ?_)
      exact hend _ _ _ _ _ hM hS (⟨hp.1, fun b hb => by rw [hp.2 b (by omega), xset_n (by omega), xset_n (by omega)]; exact hms.2 b hb⟩) dX6_storePoint_121
    refine lv_aload_n hx hb dX6_storePoint_96 rfl (lv_at hl 1 rfl) ?_
    refine x_get (v := .ref (g + 2)) hx hb hts in_X6_storePoint_X6 hown hK hM (hob1) rfl 2 (by decide) (hts (.fieldLink RX6 13 "LimbCurvesModel" "isPair" "[Z") (by decide +kernel)) (fun _ h9 => h9) rfl dX6_storePoint_97 ?_
    refine lv_iload_n hx hb dX6_storePoint_100 rfl (lv_at hl 2 rfl) ?_
    refine lv_aload_n hx hb dX6_storePoint_101 rfl (lv_at hl 1 rfl) ?_
    refine x_get (v := .ref (g + 4)) hx hb hts in_X6_storePoint_X6 hown hK hM (hob1) rfl 7 (by decide) (hts (.fieldLink RX6 24 "LimbCurvesModel" "isNothing" "[Z") (by decide +kernel)) (fun _ h9 => h9) rfl dX6_storePoint_102 ?_
    refine lv_iload_n hx hb dX6_storePoint_105 rfl (lv_at hl 3 rfl) ?_
    refine r_zald C hM (hz5) rfl (by omega) (by omega) dX6_storePoint_106 ?_
    rw [hZ]
    refine r_if_neN (tgt := 114) C (by omega) dX6_storePoint_107 (by decide) (fun hc => ?_) (fun hc => ?_)
    · rw [show 1 - d = 0 by omega] at hT
      refine lv_iconst (v := nI 0) hx hb dX6_storePoint_114 (by decide) ?_
      refine r_zast C hM hS (hz1) rfl (by omega) (by omega) rfl dX6_storePoint_115 (fun H locs hM hS => ?_)
      exact hT H locs ls hM hS hl
    · rw [show 1 - d = 1 by omega] at hT
      refine lv_iconst (v := nI 1) hx hb dX6_storePoint_110 (by decide) ?_
      refine lv_goto (tgt := 115) hx hb dX6_storePoint_111 (by decide) ?_
      refine r_zast C hM hS (hz1) rfl (by omega) (by omega) rfl dX6_storePoint_115 (fun H locs hM hS => ?_)
      exact hT H locs ls hM hS hl
  have lp2 : ∀ (k i : Nat) (f' : Nat → Int32) (H : Heap) (locs : List Loc) (ls : Array Slot), i + k = S.L → d = 0 → (∀ q, q < 18 * sl ∨ 18 * sl + 18 ≤ q → f' q = f q) → nn f' 360 → (∀ j, j < i → f' (18 * sl + j) = F (10 * (20 + 2 * pt9) + j) ∧ f' (18 * sl + S.L + j) = F (10 * (20 + 2 * pt9 + 1) + j)) → xW D vwCl N0 (xset M (g + 1) (xI (kA 0) 360 f')) H → va_S (xA N0) s.heap H locs → lv_has ls 4 [(3, .int (nI i)), (0, .ref g), (1, .int (nI sl)), (2, .int (nI pt9))] → W p l e (xR 2) s m A0 below meth c H locs 0 0 Qp (F0 m 28 ls []) := by
    intro k
    induction k with
    | zero =>
      intro i f' H locs ls hik hd0 h1 h2 h3 hM hS hl
      have hob1 : xset M (g + 1) (xI (kA 0) 360 f') g = some (oMd g (BS S) us) := by rw [xset_n (by omega)]; exact hob
      have hVX : Vw f' (18 * sl) S.L = X := by
        rw [Vw_same2 (F := F) (b := 10 * (20 + 2 * pt9)) (fun j hj => (h3 j (by omega)).1)]
        exact Vw_top (n := 10) (by omega) (by rw [hnf.2 _ (by omega)]; exact hX hd0) hX2
      have hVY : Vw f' (18 * sl + S.L) S.L = Y := by
        rw [Vw_same2 (F := F) (b := 10 * (20 + 2 * pt9 + 1)) (fun j hj => (h3 j (by omega)).2)]
        exact Vw_top (n := 10) (by omega) (by rw [hnf.2 _ (by omega)]; exact hY hd0) hY2
      refine lv_iload_n hx hb dX6_storePoint_28 rfl (lv_at hl 0 rfl) ?_
      refine lv_aload_n hx hb dX6_storePoint_29 rfl (lv_at hl 1 rfl) ?_
      refine x_get (v := .int (nI S.L)) hx hb hts in_X6_storePoint_X6 hown hK hM (hob1) rfl 0 (by decide) (hts (.fieldLink RX6 36 "LimbCurvesModel" "limbs" "I") (by decide +kernel)) (fun _ h9 => h9) rfl dX6_storePoint_30 ?_
      refine r_icmp_geN (tgt := 96) C (by omega) (by omega) dX6_storePoint_33 (by decide) (fun hc => ?_) (fun hc => ?_)
      · exact hE i f' H locs ls h1 h2 hVX hVY hM hS hl
      · omega
    | succ k ih =>
      intro i f' H locs ls hik hd0 h1 h2 h3 hM hS hl
      have hob1 : xset M (g + 1) (xI (kA 0) 360 f') g = some (oMd g (BS S) us) := by rw [xset_n (by omega)]; exact hob
      have hF1 : xset M (g + 1) (xI (kA 0) 360 f') (g + 3) = some (xI (kA 0) 300 F) := by rw [xset_n (by omega)]; exact hF
      have hz5 : xset M (g + 1) (xI (kA 0) 360 f') (g + 4) = some (xI (kA 1) 5 Z) := by rw [xset_n (by omega)]; exact hz4
      have hs1 : xset M (g + 1) (xI (kA 0) 360 f') (g + 1) = some (xI (kA 0) 360 f') := xset_s
      refine lv_iload_n hx hb dX6_storePoint_28 rfl (lv_at hl 0 rfl) ?_
      refine lv_aload_n hx hb dX6_storePoint_29 rfl (lv_at hl 1 rfl) ?_
      refine x_get (v := .int (nI S.L)) hx hb hts in_X6_storePoint_X6 hown hK hM (hob1) rfl 0 (by decide) (hts (.fieldLink RX6 36 "LimbCurvesModel" "limbs" "I") (by decide +kernel)) (fun _ h9 => h9) rfl dX6_storePoint_30 ?_
      refine r_icmp_geN (tgt := 96) C (by omega) (by omega) dX6_storePoint_33 (by decide) (fun hc => ?_) (fun hc => ?_)
      · omega
      · refine lv_aload_n hx hb dX6_storePoint_36 rfl (lv_at hl 1 rfl) ?_
        refine x_get (v := .ref (g + 4)) hx hb hts in_X6_storePoint_X6 hown hK hM (hob1) rfl 7 (by decide) (hts (.fieldLink RX6 24 "LimbCurvesModel" "isNothing" "[Z") (by decide +kernel)) (fun _ h9 => h9) rfl dX6_storePoint_37 ?_
        refine lv_iload_n hx hb dX6_storePoint_40 rfl (lv_at hl 3 rfl) ?_
        refine r_zald C hM (hz5) rfl (by omega) (by omega) dX6_storePoint_41 ?_
        rw [hZ]
        refine r_if_neN (tgt := 96) C (by omega) dX6_storePoint_42 (by decide) (fun hc2 => ?_) (fun hc2 => ?_)
        · omega
        · refine lv_aload_n hx hb dX6_storePoint_45 rfl (lv_at hl 1 rfl) ?_
          refine x_get (v := .ref (g + 1)) hx hb hts in_X6_storePoint_X6 hown hK hM (hob1) rfl 1 (by decide) (hts (.fieldLink RX6 7 "LimbCurvesModel" "slots" "[I") (by decide +kernel)) (fun _ h9 => h9) rfl dX6_storePoint_46 ?_
          refine lv_bipush (v := nI 18) hx hb dX6_storePoint_49 (by decide) ?_
          refine lv_iload_n hx hb dX6_storePoint_51 rfl (lv_at hl 2 rfl) ?_
          refine r_imulN C dX6_storePoint_52 ?_
          refine lv_iload_n hx hb dX6_storePoint_53 rfl (lv_at hl 0 rfl) ?_
          refine r_iaddN C dX6_storePoint_54 ?_
          refine lv_aload_n hx hb dX6_storePoint_55 rfl (lv_at hl 1 rfl) ?_
          refine lv_iload_n hx hb dX6_storePoint_56 rfl (lv_at hl 3 rfl) ?_
          refine r_Si (As := [.int (nI pt9)]) (rest := [.ref g, .int (nI ((18 * sl) + i)), .ref (g + 1)]) C hM hS (c6_x l D kA N0 _ pt9 (by omega)) gX6_storePoint_X6_x rfl rfl rfl ⟨by decide +kernel, by decide +kernel, (by decide +kernel : (parseMethodDescriptor yX6_x.desc).map (fun d => d.parameters.length) = some 1)⟩ ⟨Nat.le_of_ble_eq_true rfl, Nat.le_of_ble_eq_true rfl⟩ hl.1 rfl (Nat.le_of_ble_eq_true rfl) dX6_storePoint_57 ⟨Nat.le_of_ble_eq_true rfl, Nat.le_of_ble_eq_true rfl⟩ (fun r9 M9 H locs hp9 hM hS => ?_)
          obtain ⟨er9, eM9⟩ := hp9
          rw [eM9] at hM
          rw [er9]
          refine lv_iload_n hx hb dX6_storePoint_60 rfl (lv_at hl 0 rfl) ?_
          refine r_Vi (As := [.int (nI (20 + 2 * pt9)), .int (nI i)]) (rest := [.int (nI ((18 * sl) + i)), .ref (g + 1)]) C hM hS (c6_get l D kA N0 _ g (20 + 2 * pt9) i _ us F hob1 hF1 (by omega) (by omega)) (hob1) rfl gX6_storePoint_X6_get rfl rfl rfl ⟨rfl, by decide +kernel, by decide +kernel, (by decide +kernel : (parseMethodDescriptor yX6_get.desc).map (fun d => d.parameters.length) = some 2)⟩ ⟨Nat.le_of_ble_eq_true rfl, Nat.le_of_ble_eq_true rfl⟩ hl.1 rfl (Nat.le_of_ble_eq_true rfl) dX6_storePoint_61 ⟨Nat.le_of_ble_eq_true rfl, Nat.le_of_ble_eq_true rfl⟩ (fun x1 M5 H locs hp hM hS => ?_)
          obtain ⟨ex1, eM5⟩ := hp
          rw [eM5] at hM
          refine r_iast C hM hS (hs1) rfl (by omega) (by omega) dX6_storePoint_64 (fun H locs hM hS => ?_)
          rw [xset_xset] at hM
          have hob2 : xset M (g + 1) (xI (kA 0) 360 (upd f' (18 * sl + i) x1)) g = some (oMd g (BS S) us) := by rw [xset_n (by omega)]; exact hob
          have hF2 : xset M (g + 1) (xI (kA 0) 360 (upd f' (18 * sl + i) x1)) (g + 3) = some (xI (kA 0) 300 F) := by rw [xset_n (by omega)]; exact hF
          have hs2 : xset M (g + 1) (xI (kA 0) 360 (upd f' (18 * sl + i) x1)) (g + 1) = some (xI (kA 0) 360 (upd f' (18 * sl + i) x1)) := xset_s
          refine lv_aload_n hx hb dX6_storePoint_65 rfl (lv_at hl 1 rfl) ?_
          refine x_get (v := .ref (g + 1)) hx hb hts in_X6_storePoint_X6 hown hK hM (hob2) rfl 1 (by decide) (hts (.fieldLink RX6 7 "LimbCurvesModel" "slots" "[I") (by decide +kernel)) (fun _ h9 => h9) rfl dX6_storePoint_66 ?_
          refine lv_bipush (v := nI 18) hx hb dX6_storePoint_69 (by decide) ?_
          refine lv_iload_n hx hb dX6_storePoint_71 rfl (lv_at hl 2 rfl) ?_
          refine r_imulN C dX6_storePoint_72 ?_
          refine lv_aload_n hx hb dX6_storePoint_73 rfl (lv_at hl 1 rfl) ?_
          refine x_get (v := .int (nI S.L)) hx hb hts in_X6_storePoint_X6 hown hK hM (hob2) rfl 0 (by decide) (hts (.fieldLink RX6 36 "LimbCurvesModel" "limbs" "I") (by decide +kernel)) (fun _ h9 => h9) rfl dX6_storePoint_74 ?_
          refine r_iaddN C dX6_storePoint_77 ?_
          refine lv_iload_n hx hb dX6_storePoint_78 rfl (lv_at hl 0 rfl) ?_
          refine r_iaddN C dX6_storePoint_79 ?_
          refine lv_aload_n hx hb dX6_storePoint_80 rfl (lv_at hl 1 rfl) ?_
          refine lv_iload_n hx hb dX6_storePoint_81 rfl (lv_at hl 3 rfl) ?_
          refine r_Si (As := [.int (nI pt9)]) (rest := [.ref g, .int (nI (((18 * sl) + S.L) + i)), .ref (g + 1)]) C hM hS (c6_y l D kA N0 _ pt9 (by omega)) gX6_storePoint_X6_y rfl rfl rfl ⟨by decide +kernel, by decide +kernel, (by decide +kernel : (parseMethodDescriptor yX6_y.desc).map (fun d => d.parameters.length) = some 1)⟩ ⟨Nat.le_of_ble_eq_true rfl, Nat.le_of_ble_eq_true rfl⟩ hl.1 rfl (Nat.le_of_ble_eq_true rfl) dX6_storePoint_82 ⟨Nat.le_of_ble_eq_true rfl, Nat.le_of_ble_eq_true rfl⟩ (fun r9 M9 H locs hp9 hM hS => ?_)
          obtain ⟨er9, eM9⟩ := hp9
          rw [eM9] at hM
          rw [er9]
          refine lv_iload_n hx hb dX6_storePoint_85 rfl (lv_at hl 0 rfl) ?_
          refine r_Vi (As := [.int (nI (20 + 2 * pt9 + 1)), .int (nI i)]) (rest := [.int (nI (((18 * sl) + S.L) + i)), .ref (g + 1)]) C hM hS (c6_get l D kA N0 _ g (20 + 2 * pt9 + 1) i _ us F hob2 hF2 (by omega) (by omega)) (hob2) rfl gX6_storePoint_X6_get rfl rfl rfl ⟨rfl, by decide +kernel, by decide +kernel, (by decide +kernel : (parseMethodDescriptor yX6_get.desc).map (fun d => d.parameters.length) = some 2)⟩ ⟨Nat.le_of_ble_eq_true rfl, Nat.le_of_ble_eq_true rfl⟩ hl.1 rfl (Nat.le_of_ble_eq_true rfl) dX6_storePoint_86 ⟨Nat.le_of_ble_eq_true rfl, Nat.le_of_ble_eq_true rfl⟩ (fun x2 M6 H locs hp hM hS => ?_)
          obtain ⟨ex2, eM6⟩ := hp
          rw [eM6] at hM
          refine r_iast C hM hS (hs2) rfl (by omega) (by omega) dX6_storePoint_89 (fun H locs hM hS => ?_)
          rw [xset_xset] at hM
          have y1 : 0 ≤ x1.toInt := by rw [ex1]; exact hnf.nn9 (by omega) (by omega)
          have y2 : 0 ≤ x2.toInt := by rw [ex2]; exact hnf.nn9 (by omega) (by omega)
          refine lv_iinc (v := nI (i + 1)) (lv' := [(3, .int (nI (i + 1))), (0, .ref g), (1, .int (nI sl)), (2, .int (nI pt9))]) hx hb dX6_storePoint_90 hl (k := 0) rfl (r_inc _) (by decide) rfl (fun ls hl => ?_)
          refine lv_goto (tgt := 28) hx hb dX6_storePoint_93 (by decide) ?_
          refine ih (i + 1) _ H locs ls (by omega) hd0 (fun q hq => ?_) (nn_upd (nn_upd h2 y1) y2) (fun j hj => ?_) hM hS hl
          · rw [pk_un (by omega), pk_un (by omega)]; exact h1 q hq
          · by_cases q1 : j = i
            · rw [q1]
              refine ⟨?_, ?_⟩
              · rw [pk_un (by omega), pk_us]; exact ex1
              · rw [pk_us]; exact ex2
            · refine ⟨?_, ?_⟩
              · rw [pk_un (by omega), pk_un (by omega)]; exact (h3 j (by omega)).1
              · rw [pk_un (by omega), pk_un (by omega)]; exact (h3 j (by omega)).2
  have lp : ∀ (k i : Nat) (f' : Nat → Int32) (H : Heap) (locs : List Loc) (ls : Array Slot), i + k = 18 → (∀ q, q < 18 * sl ∨ 18 * sl + 18 ≤ q → f' q = f q) → (∀ j, j < i → f' (18 * sl + j) = 0) → nn f' 360 → xW D vwCl N0 (xset M (g + 1) (xI (kA 0) 360 f')) H → va_S (xA N0) s.heap H locs → lv_has ls 4 [(3, .int (nI i)), (0, .ref g), (1, .int (nI sl)), (2, .int (nI pt9))] → W p l e (xR 2) s m A0 below meth c H locs 0 0 Qp (F0 m 2 ls []) := by
    intro k
    induction k with
    | zero =>
      intro i f' H locs ls hik h1 h2 h3 hM hS hl
      have hob1 : xset M (g + 1) (xI (kA 0) 360 f') g = some (oMd g (BS S) us) := by rw [xset_n (by omega)]; exact hob
      have hz5 : xset M (g + 1) (xI (kA 0) 360 f') (g + 4) = some (xI (kA 1) 5 Z) := by rw [xset_n (by omega)]; exact hz4
      refine lv_iload_n hx hb dX6_storePoint_2 rfl (lv_at hl 0 rfl) ?_
      refine lv_bipush (v := nI 18) hx hb dX6_storePoint_3 (by decide) ?_
      refine r_icmp_geN (tgt := 26) C (by omega) (by omega) dX6_storePoint_5 (by decide) (fun hc => ?_) (fun hc => ?_)
      · by_cases hd0 : d = 0
        refine lv_iconst (v := nI 0) hx hb dX6_storePoint_26 (by decide) ?_
        refine lv_istore_n (lv' := [(3, .int (nI 0)), (0, .ref g), (1, .int (nI sl)), (2, .int (nI pt9))]) hx hb dX6_storePoint_27 rfl hl (by decide) rfl (fun ls hl => ?_)
        · exact lp2 S.L 0 f' H _ _ (by omega) hd0 h1 h3 (fun j hj => by omega) hM hS hl
        · have hd1 : d = 1 := by omega
          refine lv_iconst (v := nI 0) hx hb dX6_storePoint_26 (by decide) ?_
          refine lv_istore_n (lv' := [(3, .int (nI 0)), (0, .ref g), (1, .int (nI sl)), (2, .int (nI pt9))]) hx hb dX6_storePoint_27 rfl hl (by decide) rfl (fun ls hl => ?_)
          refine lv_iload_n hx hb dX6_storePoint_28 rfl (lv_at hl 0 rfl) ?_
          refine lv_aload_n hx hb dX6_storePoint_29 rfl (lv_at hl 1 rfl) ?_
          refine x_get (v := .int (nI S.L)) hx hb hts in_X6_storePoint_X6 hown hK hM (hob1) rfl 0 (by decide) (hts (.fieldLink RX6 36 "LimbCurvesModel" "limbs" "I") (by decide +kernel)) (fun _ h9 => h9) rfl dX6_storePoint_30 ?_
          refine r_icmp_geN (tgt := 96) C (by omega) (by omega) dX6_storePoint_33 (by decide) (fun hc2 => ?_) (fun hc2 => ?_)
          · omega
          · refine lv_aload_n hx hb dX6_storePoint_36 rfl (lv_at hl 1 rfl) ?_
            refine x_get (v := .ref (g + 4)) hx hb hts in_X6_storePoint_X6 hown hK hM (hob1) rfl 7 (by decide) (hts (.fieldLink RX6 24 "LimbCurvesModel" "isNothing" "[Z") (by decide +kernel)) (fun _ h9 => h9) rfl dX6_storePoint_37 ?_
            refine lv_iload_n hx hb dX6_storePoint_40 rfl (lv_at hl 3 rfl) ?_
            refine r_zald C hM (hz5) rfl (by omega) (by omega) dX6_storePoint_41 ?_
            rw [hZ]
            refine r_if_neN (tgt := 96) C (by omega) dX6_storePoint_42 (by decide) (fun hc3 => ?_) (fun hc3 => ?_)
            · exact hE 0 f' H _ _ h1 h3 (by rw [hX1 hd1]; exact Vw_eqz (fun j hj => h2 j (by omega))) (by rw [hY1 hd1]; exact Vw_eqz (fun j hj => by rw [Nat.add_assoc]; exact h2 _ (by omega))) hM hS hl
            · omega
      · omega
    | succ k ih =>
      intro i f' H locs ls hik h1 h2 h3 hM hS hl
      have hob1 : xset M (g + 1) (xI (kA 0) 360 f') g = some (oMd g (BS S) us) := by rw [xset_n (by omega)]; exact hob
      have hs1 : xset M (g + 1) (xI (kA 0) 360 f') (g + 1) = some (xI (kA 0) 360 f') := xset_s
      refine lv_iload_n hx hb dX6_storePoint_2 rfl (lv_at hl 0 rfl) ?_
      refine lv_bipush (v := nI 18) hx hb dX6_storePoint_3 (by decide) ?_
      refine r_icmp_geN (tgt := 26) C (by omega) (by omega) dX6_storePoint_5 (by decide) (fun hc => ?_) (fun hc => ?_)
      · omega
      · refine lv_aload_n hx hb dX6_storePoint_8 rfl (lv_at hl 1 rfl) ?_
        refine x_get (v := .ref (g + 1)) hx hb hts in_X6_storePoint_X6 hown hK hM (hob1) rfl 1 (by decide) (hts (.fieldLink RX6 7 "LimbCurvesModel" "slots" "[I") (by decide +kernel)) (fun _ h9 => h9) rfl dX6_storePoint_9 ?_
        refine lv_bipush (v := nI 18) hx hb dX6_storePoint_12 (by decide) ?_
        refine lv_iload_n hx hb dX6_storePoint_14 rfl (lv_at hl 2 rfl) ?_
        refine r_imulN C dX6_storePoint_15 ?_
        refine lv_iload_n hx hb dX6_storePoint_16 rfl (lv_at hl 0 rfl) ?_
        refine r_iaddN C dX6_storePoint_17 ?_
        refine lv_iconst (v := nI 0) hx hb dX6_storePoint_18 (by decide) ?_
        refine r_iast C hM hS (hs1) rfl (by omega) (by omega) dX6_storePoint_19 (fun H locs hM hS => ?_)
        rw [xset_xset] at hM
        refine lv_iinc (v := nI (i + 1)) (lv' := [(3, .int (nI (i + 1))), (0, .ref g), (1, .int (nI sl)), (2, .int (nI pt9))]) hx hb dX6_storePoint_20 hl (k := 0) rfl (r_inc _) (by decide) rfl (fun ls hl => ?_)
        refine lv_goto (tgt := 2) hx hb dX6_storePoint_23 (by decide) ?_
        refine ih (i + 1) _ H locs ls (by omega) (fun q hq => ?_) (fun j hj => ?_) (nn_upd h3 (by decide)) hM hS hl
        · rw [pk_un (by omega)]; exact h1 q hq
        · by_cases q1 : j = i
          · rw [q1, pk_us]; rfl
          · rw [pk_un (by omega)]; exact h2 j (by omega)
  have hM : xW D vwCl N0 (xset M (g + 1) (xI (kA 0) 360 f)) s.heap := by rw [xset_id hf]; exact hM
  refine lv_iconst (v := nI 0) hx hb dX6_storePoint_0 (by decide) ?_
  refine lv_istore_n (lv' := [(3, .int (nI 0)), (0, .ref g), (1, .int (nI sl)), (2, .int (nI pt9))]) hx hb dX6_storePoint_1 rfl hl (by decide) rfl (fun ls hl => ?_)
  exact lp 18 0 f _ _ _ rfl (fun _ _ => rfl) (fun j hj => by omega) nf hM hS hl
theorem c6_storeP (l : Launch) (D : va_G) (kA : Nat → ClassId) (N0 : Nat) (M0 M : xM) (g sl pt9 k : Nat) (S : St) (N : Nat → Nat) (Z : Nat → Int32) (T : Pt k) (hsi : Si S) (mk : Mk kA M0 g S) (hz : MZ kA M0 M g (BS S) N Z) (h4 : 4 ≤ sl) (h12 : sl < 12) (hpt : pt9 < 5) (hT : PV k N Z pt9 T) (hk : k + 1 ≤ BB ^ S.L) : cV l yX6_storePoint wsX6_storePoint (xR 2) [.ref g, .int (nI sl), .int (nI pt9)] D kA N0 M (fun M1 => Mk kA M1 g (endf (wp S sl T) sl) ∧ ∀ b, b < g ∨ g + 7 < b → M1 b = M0 b) := by
  have hpos : 0 < BB ^ S.L := Nat.pow_pos BB_pos
  rcases hT with ⟨z1, eT⟩ | ⟨z1, b1, b2, eT⟩
  · rw [eT]
    exact c6_storePoint l D kA N0 M0 M g sl pt9 1 0 0 S N Z hsi mk hz h4 h12 hpt (by omega) z1 (by omega) (by omega) hpos hpos (fun _ => rfl) (fun _ => rfl)
  · rw [eT]
    have h9 := c6_storePoint l D kA N0 M0 M g sl pt9 0 (N (20 + 2 * pt9)) (N (20 + 2 * pt9 + 1)) S N Z hsi mk hz h4 h12 hpt (by omega) z1 (fun _ => rfl) (fun _ => rfl) (by omega) (by omega) (by omega) (by omega)
    show cV _ _ _ _ _ _ _ _ _ (fun M1 => Mk kA M1 g (endf (mkS S.L (un S.a sl (fz k (N (20 + 2 * pt9))).val) (un S.b sl (fz k (N (20 + 2 * pt9 + 1))).val) (un S.pr sl 1) S.sealed S.fed S.fl) sl) ∧ ∀ b, b < g ∨ g + 7 < b → M1 b = M0 b)
    rw [fz_val, fz_val, Nat.mod_eq_of_lt b1, Nat.mod_eq_of_lt b2]
    exact h9
end NM17
