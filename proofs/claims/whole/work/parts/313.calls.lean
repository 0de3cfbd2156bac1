theorem in_X5_select_X5 : ∀ w ∈ wsX50, w ∈ wsX5_select := by decide +kernel
section CLS
variable {p : Program} {l : Launch} {e : Env} {R : Room} {s : State} {m : MethodId} {args : Array Value} {below : List Frame} {meth : Method} {c : Code} {Q : State → Prop} {cells slots : Nat} {ret : Option FieldType} {D : va_G} {kA : Nat → ClassId} {N0 : Nat}
set_option maxRecDepth 100000 in
theorem c_clearSlot (l : Launch) (D : va_G) (kA : Nat → ClassId) (N0 : Nat) (M : xM) (h sl : Nat) (S : St) (d : Dc kA M h S) (hs : sl < 20) (hL0 : 1 ≤ S.L) (hL : S.L ≤ 9) : cV l yX5_clearSlot wsX5_clearSlot (xR 3) [.ref h, .int (nI sl)] D kA N0 M (fun M1 => Dc kA M1 h (mkS S.L (un S.a sl 0) (un S.b sl 0) (un S.pr sl 0) S.sealed S.fed S.fl) ∧ ∀ b, b ≤ h ∨ h + 39 < b → M1 b = M b) := by
  have hob := d.ob
  have ht := t_nI (n := sl) (by omega)
  refine r_met (cc := cX5_clearSlot) (maxL := 2) (ret := none) (by decide) rfl (Nat.le_of_ble_eq_true rfl) ?_
  intro p e s m below meth c ls C hM hnm hl
  obtain ⟨hx, hb, hml, hown, hts, hr, hlocks, hK, hN⟩ := _root_.id C
  have hS : va_S (xA N0) s.heap s.heap [] := va_S.rf
  have hl : lv_has ls 2 [(0, .ref h), (1, .int (nI sl))] := hl
  refine lv_iload_n hx hb dX5_clearSlot_0 rfl (lv_at hl 1 rfl) ?_
  refine r_Si (As := [.int (nI sl)]) (rest := []) C hM hS (c_isPoint l D kA N0 M (nI sl)) gX5_clearSlot_X5_isPoint rfl rfl rfl ⟨by decide +kernel, by decide +kernel, (by decide +kernel : (parseMethodDescriptor yX5_isPoint.desc).map (fun d => d.parameters.length) = some 1)⟩ ⟨Nat.le_of_ble_eq_true rfl, Nat.le_of_ble_eq_true rfl⟩ hl.1 rfl (Nat.le_of_ble_eq_true rfl) dX5_clearSlot_1 ⟨Nat.le_of_ble_eq_true rfl, Nat.le_of_ble_eq_true rfl⟩ (fun v M1 H locs hp hM hS => ?_)
  obtain ⟨eM, hv⟩ := hp
  rw [eM] at hM
  refine lv_if_eq (tgt := 18) hx hb dX5_clearSlot_4 (by decide) (fun hc => ?_) (fun hc => ?_)
  · have hn : ¬ (4 ≤ sl ∧ sl < 12) := by
      rcases hv with ⟨h1, h2⟩ | ⟨h1, h2⟩
      · rw [h1] at hc; exact absurd hc (by decide)
      · unfold isPo at h2; rw [ht] at h2; omega
    refine lv_aload_n hx hb dX5_clearSlot_18 rfl (lv_at hl 0 rfl) ?_
    refine lv_iload_n hx hb dX5_clearSlot_19 rfl (lv_at hl 1 rfl) ?_
    refine lv_iconst (v := nI 0) hx hb dX5_clearSlot_20 (by decide) ?_
    refine r_VrQ (As := [.int (nI sl), .int (nI 0)]) (rest := []) C hM hS (c_rowOf l D kA N0 M h sl 0 S d hs (by omega) hL) (hob) rfl gX5_clearSlot_X5_rowOf rfl rfl rfl ⟨rfl, by decide +kernel, by decide +kernel, (by decide +kernel : (parseMethodDescriptor yX5_rowOf.desc).map (fun d => d.parameters.length) = some 2)⟩ ⟨Nat.le_of_ble_eq_true rfl, Nat.le_of_ble_eq_true rfl⟩ hl.1 rfl (Nat.le_of_ble_eq_true rfl) dX5_clearSlot_21 ⟨Nat.le_of_ble_eq_true rfl, Nat.le_of_ble_eq_true rfl⟩ (fun ra M3 H locs hp hM hS => ?_)
    obtain ⟨eM3, era⟩ := hp
    have eM3 : M3 = M := eM3
    have era : ra = (if sl < 4 then h + 2 + sl else if 12 ≤ sl then (h + 32 + (sl - 12)) else if 0 < S.L then (h + 7 + 3 * (sl - 4)) + 1 else (h + 7 + 3 * (sl - 4)) + 2) := era
    rw [eM3] at hM
    have hw : (sl < 4 ∧ ra = h + 2 + sl) ∨ (12 ≤ sl ∧ sl < 20 ∧ ra = (h + 32 + (sl - 12))) := by
      by_cases h4 : sl < 4
      · rw [if_pos h4] at era; exact Or.inl ⟨h4, era⟩
      · rw [if_neg h4, if_pos (by omega)] at era; exact Or.inr ⟨by omega, hs, era⟩
    have hrow : isN kA M ra S.L (S.a sl) := by
      rcases hw with ⟨h1, h2⟩ | ⟨h1, h2, h3⟩
      · rw [h2]; exact d.pa h1
      · rw [h3]; exact d.sc h1 h2
    obtain ⟨f, hf, nf, Vf⟩ := hrow
    refine lv_iconst (v := nI 0) hx hb dX5_clearSlot_24 (by decide) ?_
    refine r_Sv (As := [.ref ra, .int (nI 0)]) (rest := []) C hM hS (c_set l D kA N0 M ra S.L f (nI 0) hf (by omega) (by omega)) gX5_clearSlot_X1_set rfl rfl rfl ⟨by decide +kernel, by decide +kernel, (by decide +kernel : (parseMethodDescriptor yX1_set.desc).map (fun d => d.parameters.length) = some 2)⟩ ⟨Nat.le_of_ble_eq_true rfl, Nat.le_of_ble_eq_true rfl⟩ hl.1 rfl (Nat.le_of_ble_eq_true rfl) dX5_clearSlot_25 ⟨Nat.le_of_ble_eq_true rfl, Nat.le_of_ble_eq_true rfl⟩ (fun M2 H locs hp hM hS => ?_)
    obtain ⟨g1, eM2, a1, b1⟩ := hp
    have hd2 : Dc kA M2 h (mkS S.L (un S.a sl 0) (un S.b sl 0) (un S.pr sl 0) S.sealed S.fed S.fl) := d.wrN hw ⟨g1, by rw [eM2, xset_s], nn_set (by decide) a1 b1, by rw [V_set (by omega) a1 b1]; rfl⟩ (fun t h4 h12 => ⟨un_n (by omega), un_n (by omega)⟩) (fun b _ _ hb => by rw [eM2, xset_n hb])
    exact r_vret C hM hS (⟨hd2, fun b hb => by rw [eM2, xset_n (by omega)]⟩) dX5_clearSlot_28
  · have hn : 4 ≤ sl ∧ sl < 12 := by
      rcases hv with ⟨h1, h2⟩ | ⟨h1, h2⟩
      · unfold isPo at h2; rw [ht] at h2; omega
      · exact absurd h1 hc
    refine lv_aload_n hx hb dX5_clearSlot_7 rfl (lv_at hl 0 rfl) ?_
    refine lv_iload_n hx hb dX5_clearSlot_8 rfl (lv_at hl 1 rfl) ?_
    refine r_VrQ (As := [.int (nI sl)]) (rest := []) C hM hS (c_pointIn l D kA N0 M h sl S d (by omega) (by omega)) (hob) rfl gX5_clearSlot_X5_pointIn rfl rfl rfl ⟨rfl, by decide +kernel, by decide +kernel, (by decide +kernel : (parseMethodDescriptor yX5_pointIn.desc).map (fun d => d.parameters.length) = some 1)⟩ ⟨Nat.le_of_ble_eq_true rfl, Nat.le_of_ble_eq_true rfl⟩ hl.1 rfl (Nat.le_of_ble_eq_true rfl) dX5_clearSlot_9 ⟨Nat.le_of_ble_eq_true rfl, Nat.le_of_ble_eq_true rfl⟩ (fun ra M3 H locs hp hM hS => ?_)
    obtain ⟨eM3, era⟩ := hp
    have eM3 : M3 = M := eM3
    have era : ra = (h + 7 + 3 * (sl - 4)) := era
    rw [eM3] at hM
    rw [era]
    have hpo := d.po hn.1 hn.2
    have hq := hpo.1
    refine r_Vv (As := []) (rest := []) C hM hS (c_becomeIdentity l D kA N0 M ((h + 7 + 3 * (sl - 4))) S.L (nI (1 - S.pr sl)) hq hpo.2.1.isA hpo.2.2.isA (by omega) (by omega)) (hq) rfl gX5_clearSlot_X2_becomeIdentity rfl rfl rfl ⟨rfl, by decide +kernel, by decide +kernel, (by decide +kernel : (parseMethodDescriptor yX2_becomeIdentity.desc).map (fun d => d.parameters.length) = some 0)⟩ ⟨Nat.le_of_ble_eq_true rfl, Nat.le_of_ble_eq_true rfl⟩ hl.1 rfl (Nat.le_of_ble_eq_true rfl) dX5_clearSlot_12 ⟨Nat.le_of_ble_eq_true rfl, Nat.le_of_ble_eq_true rfl⟩ (fun M2 H locs hp hM hS => ?_)
    obtain ⟨b1, b2, b3, b4⟩ := hp
    refine lv_goto (tgt := 28) hx hb dX5_clearSlot_15 (by decide) ?_
    exact r_vret C hM hS (⟨d.wrP hn.1 hn.2 (r := 0) b1 b2 b3 (fun b _ _ hb => b4 b hb), fun b hb => b4 b (by omega)⟩) dX5_clearSlot_28
set_option maxRecDepth 100000 in
theorem c_select (l : Launch) (D : va_G) (kA : Nat → ClassId) (N0 : Nat) (M : xM) (h : Nat) (S : St) (x : Int32) (dk : Dk kA M h S) : cI l yX5_select wsX5_select (xR 4) [.ref h, .int x] D kA N0 M (fun v M1 => v = (spSelect S x).1 ∧ Dk kA M1 h (spSelect S x).2 ∧ ∀ b, b < h ∨ h + 75 < b → M1 b = M b) := by
  have hsi' := Si_select dk.1 x
  have dk0 := dk
  obtain ⟨hsi, d, ds⟩ := dk
  have hob := d.ob
  have hL0 := hsi.L1
  have hL9 := hsi.L9
  have hsl := hsi.sl
  refine r_met (cc := cX5_select) (maxL := 2) (ret := (some .boolean)) (by decide) rfl (Nat.le_of_ble_eq_true rfl) ?_
  intro p e s m below meth c ls C hM hnm hl
  obtain ⟨hx, hb, hml, hown, hts, hr, hlocks, hK, hN⟩ := _root_.id C
  have hS : va_S (xA N0) s.heap s.heap [] := va_S.rf
  have hl : lv_has ls 2 [(0, .ref h), (1, .int x)] := hl
  refine lv_iload_n hx hb dX5_select_0 rfl (lv_at hl 1 rfl) ?_
  have hno : ∀ v : Int32, ¬ (isSl x ∧ (S.sealed = 1 → 4 ≤ ix x)) → v = 0 → v = (spSelect S x).1 ∧ Dk kA M h (spSelect S x).2 ∧ ∀ b, b < h ∨ h + 75 < b → M b = M b := fun v q ev => by
    unfold spSelect
    rw [if_neg q]
    exact ⟨ev, dk0, fun _ _ => rfl⟩
  refine r_Si (As := [.int x]) (rest := []) C hM hS (c_isSlot l D kA N0 M x) gX5_select_X5_isSlot rfl rfl rfl ⟨by decide +kernel, by decide +kernel, (by decide +kernel : (parseMethodDescriptor yX5_isSlot.desc).map (fun d => d.parameters.length) = some 1)⟩ ⟨Nat.le_of_ble_eq_true rfl, Nat.le_of_ble_eq_true rfl⟩ hl.1 rfl (Nat.le_of_ble_eq_true rfl) dX5_select_1 ⟨Nat.le_of_ble_eq_true rfl, Nat.le_of_ble_eq_true rfl⟩ (fun v M1 H locs hp hM hS => ?_)
  obtain ⟨eM, hv⟩ := hp
  rw [eM] at hM
  have hyes : isSl x → (S.sealed = 1 → 4 ≤ ix x) → ∀ (H : Heap) (locs : List Loc) (ls : Array Slot), lv_has ls 2 [(0, .ref h), (1, .int x)] → xW D vwCl N0 M H → va_S (xA N0) s.heap H locs → W p l e (xR 4) s m [.ref h, .int x].toArray below meth c H locs 0 0 (MQ below (va_Qi (fun v M1 => v = (spSelect S x).1 ∧ Dk kA M1 h (spSelect S x).2 ∧ ∀ b, b < h ∨ h + 75 < b → M1 b = M b) (xB D vwCl (xT kA) N0) (xA N0)) [.ref h, .int x].toArray s 0 0 (xA N0)) (F0 m 23 ls []) := by
    intro q1 q2 H locs ls hl hM hS
    have hx20 := sl_ix q1
    have hxe := ix_eq q1.1
    rw [show lv_has ls 2 [(0, .ref h), (1, .int x)] = lv_has ls 2 [(0, .ref h), (1, .int (nI (ix x)))] by rw [← hxe]] at hl
    refine lv_aload_n hx hb dX5_select_23 rfl (lv_at hl 0 rfl) ?_
    refine lv_iload_n hx hb dX5_select_24 rfl (lv_at hl 1 rfl) ?_
    refine r_Vv (As := [.int (nI (ix x))]) (rest := []) C hM hS (c_clearSlot l D kA N0 M h (ix x) S d hx20 hL0 hL9) (hob) rfl gX5_select_X5_clearSlot rfl rfl rfl ⟨rfl, by decide +kernel, by decide +kernel, (by decide +kernel : (parseMethodDescriptor yX5_clearSlot.desc).map (fun d => d.parameters.length) = some 1)⟩ ⟨Nat.le_of_ble_eq_true rfl, Nat.le_of_ble_eq_true rfl⟩ hl.1 rfl (Nat.le_of_ble_eq_true rfl) dX5_select_25 ⟨Nat.le_of_ble_eq_true rfl, Nat.le_of_ble_eq_true rfl⟩ (fun M2 H locs hp hM hS => ?_)
    obtain ⟨d2, hf2⟩ := hp
    have hob2 := d2.ob
    refine lv_aload_n hx hb dX5_select_28 rfl (lv_at hl 0 rfl) ?_
    refine lv_iload_n hx hb dX5_select_29 rfl (lv_at hl 1 rfl) ?_
    refine x_put (v := .int (nI (ix x))) (ty := .int) hx hb hts in_X5_select_X5 tyX5 tyX5_ok nmX5 hown hK hM hS (hob2) rfl 11 (by decide) (hts (.fieldLink RX5 79 "LimbCurves" "fedSlot" "I") (by decide +kernel)) (fun _ h9 => h9) rfl (by decide +kernel) rfl rfl (Nat.le_of_ble_eq_true rfl) dX5_select_30 (fun H locs hM hS => ?_)
    have hM : xW D vwCl N0 (xset M2 h (oLc h (nI S.L) (nI S.sealed) (nI (ix x)) (nI S.fl))) H := hM
    refine lv_aload_n hx hb dX5_select_33 rfl (lv_at hl 0 rfl) ?_
    refine lv_iconst (v := nI 0) hx hb dX5_select_34 (by decide) ?_
    refine x_put (v := .int (nI 0)) (ty := .int) hx hb hts in_X5_select_X5 tyX5 tyX5_ok nmX5 hown hK hM hS (xset_s) rfl 12 (by decide) (hts (.fieldLink RX5 82 "LimbCurves" "fedLimbs" "I") (by decide +kernel)) (fun _ h9 => h9) rfl (by decide +kernel) rfl rfl (Nat.le_of_ble_eq_true rfl) dX5_select_35 (fun H locs hM hS => ?_)
    rw [xset_xset] at hM
    have hM : xW D vwCl N0 (xset M2 h (oLc h (nI S.L) (nI S.sealed) (nI (ix x)) (nI 0))) H := hM
    have hsp : spSelect S x = (1, mkS S.L (un S.a (ix x) 0) (un S.b (ix x) 0) (un S.pr (ix x) 0) S.sealed (ix x) 0) := by
      unfold spSelect
      rw [if_pos ⟨q1, q2⟩]
    rw [hsp] at hsi' ⊢
    have hfv : nI (ix x) = fedV (mkS S.L (un S.a (ix x) 0) (un S.b (ix x) 0) (un S.pr (ix x) 0) S.sealed (ix x) 0) := by
      unfold fedV
      rw [mk_fd, if_pos hx20]
    have d3 : Dc kA (xset M2 h (oLc h (nI S.L) (nI S.sealed) (nI (ix x)) (nI 0))) h (mkS S.L (un S.a (ix x) 0) (un S.b (ix x) 0) (un S.pr (ix x) 0) S.sealed (ix x) 0) := d2.fld rfl hfv rfl rfl
    have ds3 : Ds kA (xset M2 h (oLc h (nI S.L) (nI S.sealed) (nI (ix x)) (nI 0))) h S.L S.sealed (un S.a (ix x) 0 0) := (ds.kept (fun b h1 h2 => by rw [xset_n (by omega), hf2 b (by omega)])).pp (fun q => un_n (by have := q2 q; omega))
    refine lv_iconst (v := nI 1) hx hb dX5_select_38 (by decide) ?_
    exact r_zret C hM hS rfl (⟨rfl, ⟨hsi', d3, ds3⟩, fun b hb => by rw [xset_n (by omega), hf2 b (by omega)]⟩) dX5_select_39
  refine lv_if_eq (tgt := 21) hx hb dX5_select_4 (by decide) (fun hc => ?_) (fun hc => ?_)
  · have hn : ¬ isSl x := by
      rcases hv with ⟨h1, h2⟩ | ⟨h1, h2⟩
      · rw [h1] at hc; exact absurd hc (by decide)
      · exact h2
    refine lv_iconst (v := nI 0) hx hb dX5_select_21 (by decide) ?_
    exact r_zret C hM hS rfl (hno _ (fun q => hn q.1) rfl) dX5_select_22
  · have hn : isSl x := by
      rcases hv with ⟨h1, h2⟩ | ⟨h1, h2⟩
      · exact h2
      · exact absurd h1 hc
    refine lv_aload_n hx hb dX5_select_7 rfl (lv_at hl 0 rfl) ?_
    refine x_get (v := .int (nI S.sealed)) hx hb hts in_X5_select_X5 hown hK hM (hob) rfl 10 (by decide) (hts (.fieldLink RX5 75 "LimbCurves" "sealed" "Z") (by decide +kernel)) (fun _ h9 => h9) rfl dX5_select_8 ?_
    refine r_if_eqN (tgt := 23) C (by omega) dX5_select_11 (by decide) (fun hc2 => ?_) (fun hc2 => ?_)
    · exact hyes hn (fun q => by omega) H locs ls (lv_sub hl [0, 1] rfl) hM hS
    · have hs1 : S.sealed = 1 := by omega
      refine lv_iload_n hx hb dX5_select_14 rfl (lv_at hl 1 rfl) ?_
      refine r_Si (As := [.int x]) (rest := []) C hM hS (c_isParameter l D kA N0 M x) gX5_select_X5_isParameter rfl rfl rfl ⟨by decide +kernel, by decide +kernel, (by decide +kernel : (parseMethodDescriptor yX5_isParameter.desc).map (fun d => d.parameters.length) = some 1)⟩ ⟨Nat.le_of_ble_eq_true rfl, Nat.le_of_ble_eq_true rfl⟩ hl.1 rfl (Nat.le_of_ble_eq_true rfl) dX5_select_15 ⟨Nat.le_of_ble_eq_true rfl, Nat.le_of_ble_eq_true rfl⟩ (fun v2 M2 H locs hp hM hS => ?_)
      obtain ⟨eM2, hv2⟩ := hp
      rw [eM2] at hM
      refine lv_if_eq (tgt := 23) hx hb dX5_select_18 (by decide) (fun hc3 => ?_) (fun hc3 => ?_)
      · have hn2 : ¬ isPa x := by
          rcases hv2 with ⟨h1, h2⟩ | ⟨h1, h2⟩
          · rw [h1] at hc3; exact absurd hc3 (by decide)
          · exact h2
        exact hyes hn (fun _ => by have := ix_int hn.1; omega) H locs ls (lv_sub hl [0, 1] rfl) hM hS
      · have hn2 : isPa x := by
          rcases hv2 with ⟨h1, h2⟩ | ⟨h1, h2⟩
          · exact h2
          · exact absurd h1 hc3
        refine lv_iconst (v := nI 0) hx hb dX5_select_21 (by decide) ?_
        exact r_zret C hM hS rfl (hno _ (fun q => by have h1 := q.2 hs1; have := ix_int hn.1; omega) rfl) dX5_select_22
end CLS
