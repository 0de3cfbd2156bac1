theorem in_X6_isOn_X6 : ∀ w ∈ wsX60, w ∈ wsX6_isOn := by decide +kernel
theorem in_X6_loadPoint_X6 : ∀ w ∈ wsX60, w ∈ wsX6_loadPoint := by decide +kernel
section NM13
variable {p : Program} {l : Launch} {e : Env} {R : Room} {s : State} {m : MethodId} {args : Array Value} {below : List Frame} {meth : Method} {c : Code} {Q : State → Prop} {cells slots : Nat} {ret : Option FieldType} {D : va_G} {kA : Nat → ClassId} {N0 : Nat}
set_option maxRecDepth 100000 in
theorem c6_loadPoint (l : Launch) (D : va_G) (kA : Nat → ClassId) (N0 : Nat) (M0 M : xM) (g pt sl L pr : Nat) (B : Int32 × Int32 × Int32 × Int32) (N : Nat → Nat) (Z f z : Nat → Int32) (hz : MZ kA M0 M g B N Z) (hpt : pt < 5) (hsl : sl < 19) (hs1 : M0 (g + 1) = some (xI (kA 0) 360 f)) (nf : nn f 360) (hs2 : M0 (g + 2) = some (xI (kA 1) 20 z)) (hzs : z sl = nI pr) (hpr : pr ≤ 1) (hB1 : B.1 = nI L) (hL9 : L ≤ 9) : cV l yX6_loadPoint wsX6_loadPoint (xR 2) [.ref g, .int (nI pt), .int (nI sl)] D kA N0 M (fun M1 => ∃ N', MZ kA M0 M1 g B N' (upd Z pt (nI (1 - pr))) ∧ N' (20 + 2 * pt) = Vw f (18 * sl) L ∧ N' (20 + 2 * pt + 1) = Vw f (18 * sl + L) L ∧ ∀ j, j ≠ 20 + 2 * pt → j ≠ 20 + 2 * pt + 1 → N' j = N j) := by
  obtain ⟨B1, B2⟩ := B
  have hB1 : B1 = nI L := hB1
  subst hB1
  obtain ⟨us, hob⟩ := hz.ob
  have hz4 := hz.z
  have hz2 : M (g + 2) = some (xI (kA 1) 20 z) := by rw [hz.fr (by omega)]; exact hs2
  refine r_mV (cc := cX6_loadPoint) (maxL := 3) (by decide) rfl (Nat.le_of_ble_eq_true rfl) ?_
  intro p e s m below meth c ls A0 Qp C hM hnm hl hend
  obtain ⟨hx, hb, hml, hown, hts, hr, hlocks, hK, hN⟩ := _root_.id C
  have hS : va_S (xA N0) s.heap s.heap [] := va_S.rf
  have hl : lv_has ls 3 [(0, .ref g), (1, .int (nI pt)), (2, .int (nI sl))] := hl
  have hT : ∀ (H : Heap) (locs : List Loc) (ls : Array Slot), xW D vwCl N0 (xset M (g + 4) (xI (kA 1) 5 (upd Z pt (nI (1 - pr))))) H → va_S (xA N0) s.heap H locs → lv_has ls 3 [(0, .ref g), (1, .int (nI pt)), (2, .int (nI sl))] → W p l e (xR 2) s m A0 below meth c H locs 0 0 Qp (F0 m 20 ls []) := by
    intro H locs ls hM hS hl
    have hz := hz.setz (upd Z pt (nI (1 - pr)))
    obtain ⟨M00, hm, hz5, hf0⟩ := hz
    obtain ⟨us1, hob1⟩ := hm.1
    have h01 : M00 (g + 1) = some (xI (kA 0) 360 f) := by rw [hf0 _ (by omega)]; exact hs1
    refine lv_aload_n hx hb dX6_loadPoint_20 rfl (lv_at hl 0 rfl) ?_
    refine lv_iload_n hx hb dX6_loadPoint_21 rfl (lv_at hl 1 rfl) ?_
    refine r_Si (As := [.int (nI pt)]) (rest := [.ref g]) C hM hS (c6_x l D kA N0 _ pt (by omega)) gX6_loadPoint_X6_x rfl rfl rfl ⟨by decide +kernel, by decide +kernel, (by decide +kernel : (parseMethodDescriptor yX6_x.desc).map (fun d => d.parameters.length) = some 1)⟩ ⟨Nat.le_of_ble_eq_true rfl, Nat.le_of_ble_eq_true rfl⟩ hl.1 rfl (Nat.le_of_ble_eq_true rfl) dX6_loadPoint_22 ⟨Nat.le_of_ble_eq_true rfl, Nat.le_of_ble_eq_true rfl⟩ (fun r9 M9 H locs hp9 hM hS => ?_)
    obtain ⟨er9, eM9⟩ := hp9
    rw [eM9] at hM
    rw [er9]
    refine lv_iload_n hx hb dX6_loadPoint_25 rfl (lv_at hl 2 rfl) ?_
    refine lv_iconst (v := nI 0) hx hb dX6_loadPoint_26 (by decide) ?_
    refine r_Vv (As := [.int (nI (20 + 2 * pt)), .int (nI sl), .int (nI 0)]) (rest := []) C hM hS (c6_load l D kA N0 M00 _ g (20 + 2 * pt) sl 0 L (nI L, B2) N f hm (by omega) (by rw [hm.at4 (by omega) (by omega) (by omega) (by omega) (by omega)]; exact h01) nf rfl hL9 (by omega)) (hob1) rfl gX6_loadPoint_X6_load rfl rfl rfl ⟨rfl, by decide +kernel, by decide +kernel, (by decide +kernel : (parseMethodDescriptor yX6_load.desc).map (fun d => d.parameters.length) = some 3)⟩ ⟨Nat.le_of_ble_eq_true rfl, Nat.le_of_ble_eq_true rfl⟩ hl.1 rfl (Nat.le_of_ble_eq_true rfl) dX6_loadPoint_27 ⟨Nat.le_of_ble_eq_true rfl, Nat.le_of_ble_eq_true rfl⟩ (fun M2 H locs hm2 hM hS => ?_)
    obtain ⟨us2, hob2⟩ := hm2.1
    rw [Nat.add_zero] at hm2
    refine lv_aload_n hx hb dX6_loadPoint_30 rfl (lv_at hl 0 rfl) ?_
    refine lv_iload_n hx hb dX6_loadPoint_31 rfl (lv_at hl 1 rfl) ?_
    refine r_Si (As := [.int (nI pt)]) (rest := [.ref g]) C hM hS (c6_y l D kA N0 _ pt (by omega)) gX6_loadPoint_X6_y rfl rfl rfl ⟨by decide +kernel, by decide +kernel, (by decide +kernel : (parseMethodDescriptor yX6_y.desc).map (fun d => d.parameters.length) = some 1)⟩ ⟨Nat.le_of_ble_eq_true rfl, Nat.le_of_ble_eq_true rfl⟩ hl.1 rfl (Nat.le_of_ble_eq_true rfl) dX6_loadPoint_32 ⟨Nat.le_of_ble_eq_true rfl, Nat.le_of_ble_eq_true rfl⟩ (fun r9 M9 H locs hp9 hM hS => ?_)
    obtain ⟨er9, eM9⟩ := hp9
    rw [eM9] at hM
    rw [er9]
    refine lv_iload_n hx hb dX6_loadPoint_35 rfl (lv_at hl 2 rfl) ?_
    refine lv_aload_n hx hb dX6_loadPoint_36 rfl (lv_at hl 0 rfl) ?_
    refine x_get (v := .int (nI L)) hx hb hts in_X6_loadPoint_X6 hown hK hM (hob2) rfl 0 (by decide) (hts (.fieldLink RX6 36 "LimbCurvesModel" "limbs" "I") (by decide +kernel)) (fun _ h9 => h9) rfl dX6_loadPoint_37 ?_
    refine r_Vv (As := [.int (nI (20 + 2 * pt + 1)), .int (nI sl), .int (nI L)]) (rest := []) C hM hS (c6_load l D kA N0 M00 _ g (20 + 2 * pt + 1) sl L L (nI L, B2) _ f hm2 (by omega) (by rw [hm2.at4 (by omega) (by omega) (by omega) (by omega) (by omega)]; exact h01) nf rfl hL9 (by omega)) (hob2) rfl gX6_loadPoint_X6_load rfl rfl rfl ⟨rfl, by decide +kernel, by decide +kernel, (by decide +kernel : (parseMethodDescriptor yX6_load.desc).map (fun d => d.parameters.length) = some 3)⟩ ⟨Nat.le_of_ble_eq_true rfl, Nat.le_of_ble_eq_true rfl⟩ hl.1 rfl (Nat.le_of_ble_eq_true rfl) dX6_loadPoint_40 ⟨Nat.le_of_ble_eq_true rfl, Nat.le_of_ble_eq_true rfl⟩ (fun M3 H locs hm3 hM hS => ?_)
    exact hend _ _ _ _ _ hM hS (⟨_, ⟨M00, hm3, hz5, hf0⟩, by rw [un_n (by omega), un_s], un_s, fun j j1 j2 => by rw [un_n j2, un_n j1]⟩) dX6_loadPoint_43
  refine lv_aload_n hx hb dX6_loadPoint_0 rfl (lv_at hl 0 rfl) ?_
  refine x_get (v := .ref (g + 4)) hx hb hts in_X6_loadPoint_X6 hown hK hM (hob) rfl 7 (by decide) (hts (.fieldLink RX6 24 "LimbCurvesModel" "isNothing" "[Z") (by decide +kernel)) (fun _ h9 => h9) rfl dX6_loadPoint_1 ?_
  refine lv_iload_n hx hb dX6_loadPoint_4 rfl (lv_at hl 1 rfl) ?_
  refine lv_aload_n hx hb dX6_loadPoint_5 rfl (lv_at hl 0 rfl) ?_
  refine x_get (v := .ref (g + 2)) hx hb hts in_X6_loadPoint_X6 hown hK hM (hob) rfl 2 (by decide) (hts (.fieldLink RX6 13 "LimbCurvesModel" "isPair" "[Z") (by decide +kernel)) (fun _ h9 => h9) rfl dX6_loadPoint_6 ?_
  refine lv_iload_n hx hb dX6_loadPoint_9 rfl (lv_at hl 2 rfl) ?_
  refine r_zald C hM (hz2) rfl (by omega) (by omega) dX6_loadPoint_10 ?_
  rw [hzs]
  refine r_if_neN (tgt := 18) C (by omega) dX6_loadPoint_11 (by decide) (fun hc => ?_) (fun hc => ?_)
  · have hp1 : 1 - pr = 0 := by omega
    rw [hp1] at hT
    refine lv_iconst (v := nI 0) hx hb dX6_loadPoint_18 (by decide) ?_
    refine r_zast C hM hS (hz4) rfl (by omega) (by omega) rfl dX6_loadPoint_19 (fun H locs hM hS => ?_)
    exact hT H locs ls hM hS hl
  · have hp1 : 1 - pr = 1 := by omega
    rw [hp1] at hT
    refine lv_iconst (v := nI 1) hx hb dX6_loadPoint_14 (by decide) ?_
    refine lv_goto (tgt := 19) hx hb dX6_loadPoint_15 (by decide) ?_
    refine r_zast C hM hS (hz4) rfl (by omega) (by omega) rfl dX6_loadPoint_19 (fun H locs hM hS => ?_)
    exact hT H locs ls hM hS hl
set_option maxRecDepth 100000 in
theorem c6_isOn (l : Launch) (D : va_G) (kA : Nat → ClassId) (N0 : Nat) (M0 M : xM) (g pt pp A b X Y : Nat) (B : Int32 × Int32 × Int32 × Int32) (N : Nat → Nat) (Z : Nat → Int32) (hz : MZ kA M0 M g B N Z) (hpt : pt < 5) (hzp : Z pt = 0 ∨ Z pt = 1) (n_0 : N 0 = pp) (n_1 : N 1 = A) (n_2 : N 2 = b) (n_x : N (20 + 2 * pt) = X) (n_y : N (20 + 2 * pt + 1) = Y) (hA : A < pp) (hb9 : b < pp) (hp9 : pp < BB ^ 9) : cI l yX6_isOn wsX6_isOn (xR 4) [.ref g, .int (nI pt)] D kA N0 M (fun r M1 => ∃ N', MZ kA M0 M1 g B N' Z ∧ (∀ j, (j < 5 ∨ 13 < j) → N' j = N j) ∧ ((r = 1 ∧ (Z pt = 1 ∨ onN pp A b X Y)) ∨ (r = 0 ∧ ¬ (Z pt = 1 ∨ onN pp A b X Y)))) := by
  obtain ⟨us, hob⟩ := hz.ob
  have hz4 := hz.z
  have hpp : 0 < pp := by omega
  refine r_mZ (cc := cX6_isOn) (maxL := 2) (by decide) rfl (Nat.le_of_ble_eq_true rfl) ?_
  intro p e s m below meth c ls A0 Qp C hM hnm hl hend
  obtain ⟨hx, hb, hml, hown, hts, hr, hlocks, hK, hN⟩ := _root_.id C
  have hS : va_S (xA N0) s.heap s.heap [] := va_S.rf
  have hl : lv_has ls 2 [(0, .ref g), (1, .int (nI pt))] := hl
  refine lv_aload_n hx hb dX6_isOn_0 rfl (lv_at hl 0 rfl) ?_
  refine x_get (v := .ref (g + 4)) hx hb hts in_X6_isOn_X6 hown hK hM (hob) rfl 7 (by decide) (hts (.fieldLink RX6 24 "LimbCurvesModel" "isNothing" "[Z") (by decide +kernel)) (fun _ h9 => h9) rfl dX6_isOn_1 ?_
  refine lv_iload_n hx hb dX6_isOn_4 rfl (lv_at hl 1 rfl) ?_
  refine r_zald C hM (hz4) rfl (by omega) (by omega) dX6_isOn_5 ?_
  rcases hzp with z1 | z1
  · rw [z1]
    refine lv_if_eq (tgt := 11) hx hb dX6_isOn_6 (by decide) (fun hc => ?_) (fun hc => ?_)
    · obtain ⟨M00, hm, hz0, hf0⟩ := hz
      have hfr : ∀ j, (j < 5 ∨ 13 < j) → N j = N j := fun _ _ => rfl
      have hno : ∀ {q : Prop}, ¬ q → ¬ (Z pt = 1 ∨ q) := fun hq h9 => by
        rcases h9 with h9 | h9
        · rw [z1] at h9; exact absurd h9 (by decide)
        · exact hq h9
      have hF : ∀ (H : Heap) (locs : List Loc) (ls : Array Slot), ¬ onN pp A b X Y → xW D vwCl N0 M H → va_S (xA N0) s.heap H locs → lv_has ls 2 [(0, .ref g), (1, .int (nI pt))] → W p l e (xR 4) s m A0 below meth c H locs 0 0 Qp (F0 m 35 ls []) := by
        intro H locs ls hq hM hS hl
        refine lv_iconst (v := nI 0) hx hb dX6_isOn_35 (by decide) ?_
        exact hend _ _ _ _ _ _ hM hS (by decide) (⟨N, ⟨M00, hm, hz0, hf0⟩, hfr, Or.inr ⟨rfl, hno hq⟩⟩) dX6_isOn_36
      refine lv_aload_n hx hb dX6_isOn_11 rfl (lv_at hl 0 rfl) ?_
      refine lv_iload_n hx hb dX6_isOn_12 rfl (lv_at hl 1 rfl) ?_
      refine r_Si (As := [.int (nI pt)]) (rest := [.ref g]) C hM hS (c6_x l D kA N0 _ pt (by omega)) gX6_isOn_X6_x rfl rfl rfl ⟨by decide +kernel, by decide +kernel, (by decide +kernel : (parseMethodDescriptor yX6_x.desc).map (fun d => d.parameters.length) = some 1)⟩ ⟨Nat.le_of_ble_eq_true rfl, Nat.le_of_ble_eq_true rfl⟩ hl.1 rfl (Nat.le_of_ble_eq_true rfl) dX6_isOn_13 ⟨Nat.le_of_ble_eq_true rfl, Nat.le_of_ble_eq_true rfl⟩ (fun r9 M9 H locs hp9 hM hS => ?_)
      obtain ⟨er9, eM9⟩ := hp9
      rw [eM9] at hM
      rw [er9]
      refine lv_iconst (v := nI 0) hx hb dX6_isOn_16 (by decide) ?_
      obtain ⟨us9, hob9⟩ := hm.1
      refine r_Vi (As := [.int (nI (20 + 2 * pt)), .int (nI 0)]) (rest := []) C hM hS (c6_compare l D kA N0 _ _ g (20 + 2 * pt) 0 B _ hm (by omega) (by omega)) (hob9) rfl gX6_isOn_X6_compare rfl rfl rfl ⟨rfl, by decide +kernel, by decide +kernel, (by decide +kernel : (parseMethodDescriptor yX6_compare.desc).map (fun d => d.parameters.length) = some 2)⟩ ⟨Nat.le_of_ble_eq_true rfl, Nat.le_of_ble_eq_true rfl⟩ hl.1 rfl (Nat.le_of_ble_eq_true rfl) dX6_isOn_17 ⟨Nat.le_of_ble_eq_true rfl, Nat.le_of_ble_eq_true rfl⟩ (fun rx M9 H locs hp9 hM hS => ?_)
      obtain ⟨eM9, hrx⟩ := hp9
      rw [eM9] at hM
      rw [n_x, n_0] at hrx
      by_cases bX : X < pp
      · have hx0 : ¬ 0 ≤ rx := by
          rcases hrx with ⟨q1, q2⟩ | ⟨q1, q2⟩ | ⟨q1, q2⟩
          · omega
          · rw [q1]; decide
          · omega
        refine lv_if_ge (tgt := 35) hx hb dX6_isOn_20 (by decide) (fun hd => ?_) (fun hd => ?_)
        · exact absurd hd hx0
        · refine lv_aload_n hx hb dX6_isOn_23 rfl (lv_at hl 0 rfl) ?_
          refine lv_iload_n hx hb dX6_isOn_24 rfl (lv_at hl 1 rfl) ?_
          refine r_Si (As := [.int (nI pt)]) (rest := [.ref g]) C hM hS (c6_y l D kA N0 _ pt (by omega)) gX6_isOn_X6_y rfl rfl rfl ⟨by decide +kernel, by decide +kernel, (by decide +kernel : (parseMethodDescriptor yX6_y.desc).map (fun d => d.parameters.length) = some 1)⟩ ⟨Nat.le_of_ble_eq_true rfl, Nat.le_of_ble_eq_true rfl⟩ hl.1 rfl (Nat.le_of_ble_eq_true rfl) dX6_isOn_25 ⟨Nat.le_of_ble_eq_true rfl, Nat.le_of_ble_eq_true rfl⟩ (fun r9 M9 H locs hp9 hM hS => ?_)
          obtain ⟨er9, eM9⟩ := hp9
          rw [eM9] at hM
          rw [er9]
          refine lv_iconst (v := nI 0) hx hb dX6_isOn_28 (by decide) ?_
          obtain ⟨us9, hob9⟩ := hm.1
          refine r_Vi (As := [.int (nI (20 + 2 * pt + 1)), .int (nI 0)]) (rest := []) C hM hS (c6_compare l D kA N0 _ _ g (20 + 2 * pt + 1) 0 B _ hm (by omega) (by omega)) (hob9) rfl gX6_isOn_X6_compare rfl rfl rfl ⟨rfl, by decide +kernel, by decide +kernel, (by decide +kernel : (parseMethodDescriptor yX6_compare.desc).map (fun d => d.parameters.length) = some 2)⟩ ⟨Nat.le_of_ble_eq_true rfl, Nat.le_of_ble_eq_true rfl⟩ hl.1 rfl (Nat.le_of_ble_eq_true rfl) dX6_isOn_29 ⟨Nat.le_of_ble_eq_true rfl, Nat.le_of_ble_eq_true rfl⟩ (fun ry M9 H locs hp9 hM hS => ?_)
          obtain ⟨eM9, hry⟩ := hp9
          rw [eM9] at hM
          rw [n_y, n_0] at hry
          by_cases bY : Y < pp
          · have hy0 : ry < 0 := by
              rcases hry with ⟨q1, q2⟩ | ⟨q1, q2⟩ | ⟨q1, q2⟩
              · omega
              · rw [q1]; decide
              · omega
            refine lv_if_lt (tgt := 37) hx hb dX6_isOn_32 (by decide) (fun hf => ?_) (fun hf => ?_)
            · refine lv_aload_n hx hb dX6_isOn_37 rfl (lv_at hl 0 rfl) ?_
              refine lv_iconst (v := nI 5) hx hb dX6_isOn_38 (by decide) ?_
              refine lv_iload_n hx hb dX6_isOn_39 rfl (lv_at hl 1 rfl) ?_
              refine r_Si (As := [.int (nI pt)]) (rest := [.int (nI 5), .ref g]) C hM hS (c6_x l D kA N0 _ pt (by omega)) gX6_isOn_X6_x rfl rfl rfl ⟨by decide +kernel, by decide +kernel, (by decide +kernel : (parseMethodDescriptor yX6_x.desc).map (fun d => d.parameters.length) = some 1)⟩ ⟨Nat.le_of_ble_eq_true rfl, Nat.le_of_ble_eq_true rfl⟩ hl.1 rfl (Nat.le_of_ble_eq_true rfl) dX6_isOn_40 ⟨Nat.le_of_ble_eq_true rfl, Nat.le_of_ble_eq_true rfl⟩ (fun r9 M9 H locs hp9 hM hS => ?_)
              obtain ⟨er9, eM9⟩ := hp9
              rw [eM9] at hM
              rw [er9]
              refine lv_iload_n hx hb dX6_isOn_43 rfl (lv_at hl 1 rfl) ?_
              refine r_Si (As := [.int (nI pt)]) (rest := [.int (nI (20 + 2 * pt)), .int (nI 5), .ref g]) C hM hS (c6_x l D kA N0 _ pt (by omega)) gX6_isOn_X6_x rfl rfl rfl ⟨by decide +kernel, by decide +kernel, (by decide +kernel : (parseMethodDescriptor yX6_x.desc).map (fun d => d.parameters.length) = some 1)⟩ ⟨Nat.le_of_ble_eq_true rfl, Nat.le_of_ble_eq_true rfl⟩ hl.1 rfl (Nat.le_of_ble_eq_true rfl) dX6_isOn_44 ⟨Nat.le_of_ble_eq_true rfl, Nat.le_of_ble_eq_true rfl⟩ (fun r9 M9 H locs hp9 hM hS => ?_)
              obtain ⟨er9, eM9⟩ := hp9
              rw [eM9] at hM
              rw [er9]
              refine lv_iconst (v := nI 0) hx hb dX6_isOn_47 (by decide) ?_
              obtain ⟨us9, hob9⟩ := hm.1
              refine r_Vv (As := [.int (nI 5), .int (nI (20 + 2 * pt)), .int (nI (20 + 2 * pt)), .int (nI 0)]) (rest := []) C hM hS (c6_timesV l D kA N0 _ _ g 5 (20 + 2 * pt) (20 + 2 * pt) 0 X X pp B _ hm (by omega) (by omega) (by omega) (by omega) n_x n_x n_0 hpp (by omega)) (hob9) rfl gX6_isOn_X6_times rfl rfl rfl ⟨rfl, by decide +kernel, by decide +kernel, (by decide +kernel : (parseMethodDescriptor yX6_times.desc).map (fun d => d.parameters.length) = some 4)⟩ ⟨Nat.le_of_ble_eq_true rfl, Nat.le_of_ble_eq_true rfl⟩ hl.1 rfl (Nat.le_of_ble_eq_true rfl) dX6_isOn_48 ⟨Nat.le_of_ble_eq_true rfl, Nat.le_of_ble_eq_true rfl⟩ (fun M1 H locs hp9 hM hS => ?_)
              obtain ⟨N9, hm, un9⟩ := hp9
              obtain ⟨w1, ew1⟩ : ∃ q, q = X * X % pp := ⟨_, rfl⟩
              rw [← ew1] at un9
              have b_w1 : w1 < pp := by rw [ew1]; exact Nat.mod_lt _ hpp
              have n_w1 := un9.1
              have n_0 := un9.k n_0 (by omega) (by omega)
              have n_1 := un9.k n_1 (by omega) (by omega)
              have n_2 := un9.k n_2 (by omega) (by omega)
              have n_x := un9.k n_x (by omega) (by omega)
              have n_y := un9.k n_y (by omega) (by omega)
              have hfr : ∀ j, (j < 5 ∨ 13 < j) → N9 j = N j := fun j hj => un9.k (hfr j hj) (by omega) (by omega)
              refine lv_aload_n hx hb dX6_isOn_51 rfl (lv_at hl 0 rfl) ?_
              refine lv_iconst (v := nI 5) hx hb dX6_isOn_52 (by decide) ?_
              refine lv_iconst (v := nI 5) hx hb dX6_isOn_53 (by decide) ?_
              refine lv_iconst (v := nI 1) hx hb dX6_isOn_54 (by decide) ?_
              refine lv_iconst (v := nI 0) hx hb dX6_isOn_55 (by decide) ?_
              obtain ⟨us9, hob9⟩ := hm.1
              refine r_Vv (As := [.int (nI 5), .int (nI 5), .int (nI 1), .int (nI 0)]) (rest := []) C hM hS (c6_sumV l D kA N0 _ _ g 5 5 1 0 w1 A pp B _ hm (by omega) (by omega) (by omega) (by omega) n_w1 n_1 n_0 (by omega) (b_w1) (hA) hp9 (by omega)) (hob9) rfl gX6_isOn_X6_sum rfl rfl rfl ⟨rfl, by decide +kernel, by decide +kernel, (by decide +kernel : (parseMethodDescriptor yX6_sum.desc).map (fun d => d.parameters.length) = some 4)⟩ ⟨Nat.le_of_ble_eq_true rfl, Nat.le_of_ble_eq_true rfl⟩ hl.1 rfl (Nat.le_of_ble_eq_true rfl) dX6_isOn_56 ⟨Nat.le_of_ble_eq_true rfl, Nat.le_of_ble_eq_true rfl⟩ (fun M1 H locs hp9 hM hS => ?_)
              obtain ⟨N9, hm, un9⟩ := hp9
              obtain ⟨w2, ew2⟩ : ∃ q, q = (w1 + A) % pp := ⟨_, rfl⟩
              rw [← ew2] at un9
              have b_w2 : w2 < pp := by rw [ew2]; exact Nat.mod_lt _ hpp
              have n_w2 := un9.1
              have n_0 := un9.k n_0 (by omega) (by omega)
              have n_1 := un9.k n_1 (by omega) (by omega)
              have n_2 := un9.k n_2 (by omega) (by omega)
              have n_x := un9.k n_x (by omega) (by omega)
              have n_y := un9.k n_y (by omega) (by omega)
              have hfr : ∀ j, (j < 5 ∨ 13 < j) → N9 j = N j := fun j hj => un9.k (hfr j hj) (by omega) (by omega)
              refine lv_aload_n hx hb dX6_isOn_59 rfl (lv_at hl 0 rfl) ?_
              refine lv_iconst (v := nI 5) hx hb dX6_isOn_60 (by decide) ?_
              refine lv_iconst (v := nI 5) hx hb dX6_isOn_61 (by decide) ?_
              refine lv_iload_n hx hb dX6_isOn_62 rfl (lv_at hl 1 rfl) ?_
              refine r_Si (As := [.int (nI pt)]) (rest := [.int (nI 5), .int (nI 5), .ref g]) C hM hS (c6_x l D kA N0 _ pt (by omega)) gX6_isOn_X6_x rfl rfl rfl ⟨by decide +kernel, by decide +kernel, (by decide +kernel : (parseMethodDescriptor yX6_x.desc).map (fun d => d.parameters.length) = some 1)⟩ ⟨Nat.le_of_ble_eq_true rfl, Nat.le_of_ble_eq_true rfl⟩ hl.1 rfl (Nat.le_of_ble_eq_true rfl) dX6_isOn_63 ⟨Nat.le_of_ble_eq_true rfl, Nat.le_of_ble_eq_true rfl⟩ (fun r9 M9 H locs hp9 hM hS => ?_)
              obtain ⟨er9, eM9⟩ := hp9
              rw [eM9] at hM
              rw [er9]
              refine lv_iconst (v := nI 0) hx hb dX6_isOn_66 (by decide) ?_
              obtain ⟨us9, hob9⟩ := hm.1
              refine r_Vv (As := [.int (nI 5), .int (nI 5), .int (nI (20 + 2 * pt)), .int (nI 0)]) (rest := []) C hM hS (c6_timesV l D kA N0 _ _ g 5 5 (20 + 2 * pt) 0 w2 X pp B _ hm (by omega) (by omega) (by omega) (by omega) n_w2 n_x n_0 hpp (by omega)) (hob9) rfl gX6_isOn_X6_times rfl rfl rfl ⟨rfl, by decide +kernel, by decide +kernel, (by decide +kernel : (parseMethodDescriptor yX6_times.desc).map (fun d => d.parameters.length) = some 4)⟩ ⟨Nat.le_of_ble_eq_true rfl, Nat.le_of_ble_eq_true rfl⟩ hl.1 rfl (Nat.le_of_ble_eq_true rfl) dX6_isOn_67 ⟨Nat.le_of_ble_eq_true rfl, Nat.le_of_ble_eq_true rfl⟩ (fun M1 H locs hp9 hM hS => ?_)
              obtain ⟨N9, hm, un9⟩ := hp9
              obtain ⟨w3, ew3⟩ : ∃ q, q = w2 * X % pp := ⟨_, rfl⟩
              rw [← ew3] at un9
              have b_w3 : w3 < pp := by rw [ew3]; exact Nat.mod_lt _ hpp
              have n_w3 := un9.1
              have n_0 := un9.k n_0 (by omega) (by omega)
              have n_1 := un9.k n_1 (by omega) (by omega)
              have n_2 := un9.k n_2 (by omega) (by omega)
              have n_x := un9.k n_x (by omega) (by omega)
              have n_y := un9.k n_y (by omega) (by omega)
              have hfr : ∀ j, (j < 5 ∨ 13 < j) → N9 j = N j := fun j hj => un9.k (hfr j hj) (by omega) (by omega)
              refine lv_aload_n hx hb dX6_isOn_70 rfl (lv_at hl 0 rfl) ?_
              refine lv_iconst (v := nI 5) hx hb dX6_isOn_71 (by decide) ?_
              refine lv_iconst (v := nI 5) hx hb dX6_isOn_72 (by decide) ?_
              refine lv_iconst (v := nI 2) hx hb dX6_isOn_73 (by decide) ?_
              refine lv_iconst (v := nI 0) hx hb dX6_isOn_74 (by decide) ?_
              obtain ⟨us9, hob9⟩ := hm.1
              refine r_Vv (As := [.int (nI 5), .int (nI 5), .int (nI 2), .int (nI 0)]) (rest := []) C hM hS (c6_sumV l D kA N0 _ _ g 5 5 2 0 w3 b pp B _ hm (by omega) (by omega) (by omega) (by omega) n_w3 n_2 n_0 (by omega) (b_w3) (hb9) hp9 (by omega)) (hob9) rfl gX6_isOn_X6_sum rfl rfl rfl ⟨rfl, by decide +kernel, by decide +kernel, (by decide +kernel : (parseMethodDescriptor yX6_sum.desc).map (fun d => d.parameters.length) = some 4)⟩ ⟨Nat.le_of_ble_eq_true rfl, Nat.le_of_ble_eq_true rfl⟩ hl.1 rfl (Nat.le_of_ble_eq_true rfl) dX6_isOn_75 ⟨Nat.le_of_ble_eq_true rfl, Nat.le_of_ble_eq_true rfl⟩ (fun M1 H locs hp9 hM hS => ?_)
              obtain ⟨N9, hm, un9⟩ := hp9
              obtain ⟨w4, ew4⟩ : ∃ q, q = (w3 + b) % pp := ⟨_, rfl⟩
              rw [← ew4] at un9
              have b_w4 : w4 < pp := by rw [ew4]; exact Nat.mod_lt _ hpp
              have n_w4 := un9.1
              have n_0 := un9.k n_0 (by omega) (by omega)
              have n_1 := un9.k n_1 (by omega) (by omega)
              have n_2 := un9.k n_2 (by omega) (by omega)
              have n_x := un9.k n_x (by omega) (by omega)
              have n_y := un9.k n_y (by omega) (by omega)
              have hfr : ∀ j, (j < 5 ∨ 13 < j) → N9 j = N j := fun j hj => un9.k (hfr j hj) (by omega) (by omega)
              refine lv_aload_n hx hb dX6_isOn_78 rfl (lv_at hl 0 rfl) ?_
              refine lv_bipush (v := nI 6) hx hb dX6_isOn_79 (by decide) ?_
              refine lv_iload_n hx hb dX6_isOn_81 rfl (lv_at hl 1 rfl) ?_
              refine r_Si (As := [.int (nI pt)]) (rest := [.int (nI 6), .ref g]) C hM hS (c6_y l D kA N0 _ pt (by omega)) gX6_isOn_X6_y rfl rfl rfl ⟨by decide +kernel, by decide +kernel, (by decide +kernel : (parseMethodDescriptor yX6_y.desc).map (fun d => d.parameters.length) = some 1)⟩ ⟨Nat.le_of_ble_eq_true rfl, Nat.le_of_ble_eq_true rfl⟩ hl.1 rfl (Nat.le_of_ble_eq_true rfl) dX6_isOn_82 ⟨Nat.le_of_ble_eq_true rfl, Nat.le_of_ble_eq_true rfl⟩ (fun r9 M9 H locs hp9 hM hS => ?_)
              obtain ⟨er9, eM9⟩ := hp9
              rw [eM9] at hM
              rw [er9]
              refine lv_iload_n hx hb dX6_isOn_85 rfl (lv_at hl 1 rfl) ?_
              refine r_Si (As := [.int (nI pt)]) (rest := [.int (nI (20 + 2 * pt + 1)), .int (nI 6), .ref g]) C hM hS (c6_y l D kA N0 _ pt (by omega)) gX6_isOn_X6_y rfl rfl rfl ⟨by decide +kernel, by decide +kernel, (by decide +kernel : (parseMethodDescriptor yX6_y.desc).map (fun d => d.parameters.length) = some 1)⟩ ⟨Nat.le_of_ble_eq_true rfl, Nat.le_of_ble_eq_true rfl⟩ hl.1 rfl (Nat.le_of_ble_eq_true rfl) dX6_isOn_86 ⟨Nat.le_of_ble_eq_true rfl, Nat.le_of_ble_eq_true rfl⟩ (fun r9 M9 H locs hp9 hM hS => ?_)
              obtain ⟨er9, eM9⟩ := hp9
              rw [eM9] at hM
              rw [er9]
              refine lv_iconst (v := nI 0) hx hb dX6_isOn_89 (by decide) ?_
              obtain ⟨us9, hob9⟩ := hm.1
              refine r_Vv (As := [.int (nI 6), .int (nI (20 + 2 * pt + 1)), .int (nI (20 + 2 * pt + 1)), .int (nI 0)]) (rest := []) C hM hS (c6_timesV l D kA N0 _ _ g 6 (20 + 2 * pt + 1) (20 + 2 * pt + 1) 0 Y Y pp B _ hm (by omega) (by omega) (by omega) (by omega) n_y n_y n_0 hpp (by omega)) (hob9) rfl gX6_isOn_X6_times rfl rfl rfl ⟨rfl, by decide +kernel, by decide +kernel, (by decide +kernel : (parseMethodDescriptor yX6_times.desc).map (fun d => d.parameters.length) = some 4)⟩ ⟨Nat.le_of_ble_eq_true rfl, Nat.le_of_ble_eq_true rfl⟩ hl.1 rfl (Nat.le_of_ble_eq_true rfl) dX6_isOn_90 ⟨Nat.le_of_ble_eq_true rfl, Nat.le_of_ble_eq_true rfl⟩ (fun M1 H locs hp9 hM hS => ?_)
              obtain ⟨N9, hm, un9⟩ := hp9
              obtain ⟨w5, ew5⟩ : ∃ q, q = Y * Y % pp := ⟨_, rfl⟩
              rw [← ew5] at un9
              have b_w5 : w5 < pp := by rw [ew5]; exact Nat.mod_lt _ hpp
              have n_w5 := un9.1
              have n_0 := un9.k n_0 (by omega) (by omega)
              have n_1 := un9.k n_1 (by omega) (by omega)
              have n_2 := un9.k n_2 (by omega) (by omega)
              have n_x := un9.k n_x (by omega) (by omega)
              have n_y := un9.k n_y (by omega) (by omega)
              have n_w4 := un9.k n_w4 (by omega) (by omega)
              have hfr : ∀ j, (j < 5 ∨ 13 < j) → N9 j = N j := fun j hj => un9.k (hfr j hj) (by omega) (by omega)
              refine lv_aload_n hx hb dX6_isOn_93 rfl (lv_at hl 0 rfl) ?_
              refine lv_iconst (v := nI 5) hx hb dX6_isOn_94 (by decide) ?_
              refine lv_bipush (v := nI 6) hx hb dX6_isOn_95 (by decide) ?_
              obtain ⟨us9, hob9⟩ := hm.1
              refine r_Vi (As := [.int (nI 5), .int (nI 6)]) (rest := []) C hM hS (c6_compare l D kA N0 _ _ g 5 6 B _ hm (by omega) (by omega)) (hob9) rfl gX6_isOn_X6_compare rfl rfl rfl ⟨rfl, by decide +kernel, by decide +kernel, (by decide +kernel : (parseMethodDescriptor yX6_compare.desc).map (fun d => d.parameters.length) = some 2)⟩ ⟨Nat.le_of_ble_eq_true rfl, Nat.le_of_ble_eq_true rfl⟩ hl.1 rfl (Nat.le_of_ble_eq_true rfl) dX6_isOn_97 ⟨Nat.le_of_ble_eq_true rfl, Nat.le_of_ble_eq_true rfl⟩ (fun rc M9 H locs hp9 hM hS => ?_)
              obtain ⟨eM9, hrc⟩ := hp9
              rw [eM9] at hM
              rw [n_w4, n_w5] at hrc
              have hon : w4 = w5 ↔ onN pp A b X Y := by
                rw [ew4, ew5, ew3, ew2, ew1]
                exact ⟨fun q => ⟨bX, bY, q.symm⟩, fun q => q.2.2.symm⟩
              by_cases hww : w4 = w5
              · have hr0 : rc = 0 := by
                  rcases hrc with ⟨q1, q2⟩ | ⟨q1, q2⟩ | ⟨q1, q2⟩
                  · exact q1
                  · omega
                  · omega
                rw [hr0]
                refine lv_if_ne (tgt := 107) hx hb dX6_isOn_100 (by decide) (fun hg9 => ?_) (fun hg9 => ?_)
                · exact absurd rfl hg9
                · refine lv_iconst (v := nI 1) hx hb dX6_isOn_103 (by decide) ?_
                  refine lv_goto (tgt := 108) hx hb dX6_isOn_104 (by decide) ?_
                  exact hend _ _ _ _ _ _ hM hS (by decide) (⟨_, ⟨M00, hm, hz0, hf0⟩, hfr, Or.inl ⟨rfl, Or.inr (hon.mp hww)⟩⟩) dX6_isOn_108
              · have hr0 : rc ≠ 0 := by
                  rcases hrc with ⟨q1, q2⟩ | ⟨q1, q2⟩ | ⟨q1, q2⟩
                  · exact absurd q2 hww
                  · rw [q1]; decide
                  · rw [q1]; decide
                refine lv_if_ne (tgt := 107) hx hb dX6_isOn_100 (by decide) (fun hg9 => ?_) (fun hg9 => ?_)
                · refine lv_iconst (v := nI 0) hx hb dX6_isOn_107 (by decide) ?_
                  exact hend _ _ _ _ _ _ hM hS (by decide) (⟨_, ⟨M00, hm, hz0, hf0⟩, hfr, Or.inr ⟨rfl, hno (fun q => hww (hon.mpr q))⟩⟩) dX6_isOn_108
                · exact absurd hg9 hr0
            · exact absurd hy0 hf
          · have hy0 : ¬ ry < 0 := by
              rcases hry with ⟨q1, q2⟩ | ⟨q1, q2⟩ | ⟨q1, q2⟩
              · rw [q1]; decide
              · omega
              · rw [q1]; decide
            refine lv_if_lt (tgt := 37) hx hb dX6_isOn_32 (by decide) (fun hf => ?_) (fun hf => ?_)
            · exact absurd hf hy0
            · exact hF H locs ls (fun q => bY q.2.1) hM hS hl
      · have hx0 : 0 ≤ rx := by
          rcases hrx with ⟨q1, q2⟩ | ⟨q1, q2⟩ | ⟨q1, q2⟩
          · rw [q1]; decide
          · omega
          · rw [q1]; decide
        refine lv_if_ge (tgt := 35) hx hb dX6_isOn_20 (by decide) (fun hd => ?_) (fun hd => ?_)
        · exact hF H locs ls (fun q => bX q.1) hM hS hl
        · exact absurd hx0 hd
    · exact absurd rfl hc
  · rw [z1]
    refine lv_if_eq (tgt := 11) hx hb dX6_isOn_6 (by decide) (fun hc => ?_) (fun hc => ?_)
    · exact absurd hc (by decide)
    · refine lv_iconst (v := nI 1) hx hb dX6_isOn_9 (by decide) ?_
      exact hend _ _ _ _ _ _ hM hS (by decide) (⟨N, hz, fun _ _ => rfl, Or.inl ⟨rfl, Or.inl z1⟩⟩) dX6_isOn_10
end NM13
