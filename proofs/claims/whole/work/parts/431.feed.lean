theorem in_X6_feedLimb_X6 : ∀ w ∈ wsX60, w ∈ wsX6_feedLimb := by decide +kernel
theorem in_X6_isSame_X6 : ∀ w ∈ wsX60, w ∈ wsX6_isSame := by decide +kernel
theorem in_X6_select_X6 : ∀ w ∈ wsX60, w ∈ wsX6_select := by decide +kernel
theorem Mk.mem {kA : Nat → ClassId} {M : xM} {g : Nat} {S S' : St} {f' z' : Nat → Int32} (h : Mk kA M g S) (hB : BS S' = BS S) (nf : nn f' 360) (hf : Mf S'.L S'.a S'.b f') (hz : Mz S'.pr z') : Mk kA (xset (xset M (g + 1) (xI (kA 0) 360 f')) (g + 2) (xI (kA 1) 20 z')) g S' := by
  obtain ⟨⟨us, h0⟩, -, -, hw⟩ := h
  exact ⟨⟨us, by rw [xset_n (by omega), xset_n (by omega), hB]; exact h0⟩, ⟨f', by rw [xset_n (by omega), xset_s], nf, hf⟩, ⟨z', xset_s, hz⟩, hw.kept (fun b b1 b2 => by rw [xset_n (by omega), xset_n (by omega)])⟩
theorem Vw_eqz {f : Nat → Int32} {a L : Nat} (h : ∀ j, j < L → f (a + j) = 0) : Vw f a L = 0 := Vw_zero h
theorem Vw_same {f : Nat → Int32} {a b n : Nat} (h : ∀ j, j < n → f (a + j) = f (b + j)) : Vw f a n = Vw f b n := by
  rw [Vw_V, Vw_V]
  exact V_congr h
theorem Vw_inj2 {f : Nat → Int32} {a b n : Nat} (na : ∀ j, j < n → 0 ≤ (f (a + j)).toInt) (nb : ∀ j, j < n → 0 ≤ (f (b + j)).toInt) (h : Vw f a n = Vw f b n) : ∀ j, j < n → f (a + j) = f (b + j) := by
  intro j hj
  rw [Vw_V, Vw_V] at h
  have := V_inj h j hj
  rw [nI_dg (na j hj), nI_dg (nb j hj), this]
section NM15
variable {p : Program} {l : Launch} {e : Env} {R : Room} {s : State} {m : MethodId} {args : Array Value} {below : List Frame} {meth : Method} {c : Code} {Q : State → Prop} {cells slots : Nat} {ret : Option FieldType} {D : va_G} {kA : Nat → ClassId} {N0 : Nat}
set_option maxRecDepth 100000 in
theorem c6_select (l : Launch) (D : va_G) (kA : Nat → ClassId) (N0 : Nat) (M : xM) (g : Nat) (S : St) (x : Int32) (hsi : Si S) (mk : Mk kA M g S) : cI l yX6_select wsX6_select (xR 0) [.ref g, .int x] D kA N0 M (fun v M1 => v = (spSelect S x).1 ∧ Mk kA M1 g (spSelect S x).2 ∧ ∀ b, b < g ∨ g + 7 < b → M1 b = M b) := by
  have mk0 := mk
  obtain ⟨⟨us, hob⟩, ⟨f, hf, nf, hmf⟩, ⟨z, hz, hmz⟩, hw⟩ := mk
  have hL9 := hsi.L9
  have hsl := hsi.sl
  have hno : ¬ (isSl x ∧ (S.sealed = 1 → 4 ≤ ix x)) → (nI 0) = (spSelect S x).1 ∧ Mk kA M g (spSelect S x).2 ∧ ∀ b, b < g ∨ g + 7 < b → M b = M b := fun q => by
    unfold spSelect
    rw [if_neg q]
    exact ⟨rfl, mk0, fun _ _ => rfl⟩
  refine r_mZ (cc := cX6_select) (maxL := 3) (by decide) rfl (Nat.le_of_ble_eq_true rfl) ?_
  intro p e s m below meth c ls A0 Qp C hM hnm hl hend
  obtain ⟨hx, hb, hml, hown, hts, hr, hlocks, hK, hN⟩ := _root_.id C
  have hS : va_S (xA N0) s.heap s.heap [] := va_S.rf
  have hl : lv_has ls 3 [(0, .ref g), (1, .int x)] := hl
  have hF : ∀ (v1 : Int32) (H : Heap) (locs : List Loc) (ls : Array Slot), ¬ (isSl x ∧ (S.sealed = 1 → 4 ≤ ix x)) → xW D vwCl N0 M H → va_S (xA N0) s.heap H locs → lv_has ls 3 [(0, .ref g), (1, .int v1)] → W p l e (xR 0) s m A0 below meth c H locs 0 0 Qp (F0 m 22 ls []) := by
    intro v1 H locs ls hq hM hS hl
    refine lv_iconst (v := nI 0) hx hb dX6_select_22 (by decide) ?_
    exact hend _ _ _ _ _ _ hM hS (by decide) (hno hq) dX6_select_23
  have hY : ∀ (H : Heap) (locs : List Loc) (ls : Array Slot), isSl x → (S.sealed = 1 → 4 ≤ ix x) → xW D vwCl N0 M H → va_S (xA N0) s.heap H locs → lv_has ls 3 [(0, .ref g), (1, .int (nI (ix x)))] → W p l e (xR 0) s m A0 below meth c H locs 0 0 Qp (F0 m 24 ls []) := by
    intro H locs ls hq hq2 hM hS hl
    have hx20 := sl_ix hq
    have hsp : spSelect S x = (1, mkS S.L (un S.a (ix x) 0) (un S.b (ix x) 0) (un S.pr (ix x) 0) S.sealed (ix x) 0) := by
      unfold spSelect
      rw [if_pos ⟨hq, hq2⟩]
    rw [hsp] at hend
    have lp : ∀ (k i : Nat) (f' : Nat → Int32) (H : Heap) (locs : List Loc) (ls : Array Slot), i + k = 18 → (∀ q, q < 18 * ix x ∨ 18 * ix x + 18 ≤ q → f' q = f q) → (∀ j, j < i → f' (18 * ix x + j) = 0) → nn f' 360 → xW D vwCl N0 (xset M (g + 1) (xI (kA 0) 360 f')) H → va_S (xA N0) s.heap H locs → lv_has ls 3 [(2, .int (nI i)), (0, .ref g), (1, .int (nI (ix x)))] → W p l e (xR 0) s m A0 below meth c H locs 0 0 Qp (F0 m 26 ls []) := by
      intro k
      induction k with
      | zero =>
        intro i f' H locs ls hik h1 h2 h3 hM hS hl
        have hob1 : xset M (g + 1) (xI (kA 0) 360 f') g = some (oMd g (BS S) us) := by rw [xset_n (by omega)]; exact hob
        have hz1 : xset M (g + 1) (xI (kA 0) 360 f') (g + 2) = some (xI (kA 1) 20 z) := by rw [xset_n (by omega)]; exact hz
        have hob2 : xset (xset M (g + 1) (xI (kA 0) 360 f')) (g + 2) (xI (kA 1) 20 (upd z (ix x) (nI 0))) g = some (oMd g (BS S) us) := by rw [xset_n (by omega)]; exact hob1
        have mk1 : Mk kA (xset (xset M (g + 1) (xI (kA 0) 360 f')) (g + 2) (xI (kA 1) 20 (upd z (ix x) (nI 0)))) g (mkS S.L (un S.a (ix x) 0) (un S.b (ix x) 0) (un S.pr (ix x) 0) S.sealed S.fed S.fl) := mk0.mem rfl h3 (hmf.put hL9 h1 (Vw_eqz (fun j hj => h2 j (by omega))) (fun _ _ => Vw_eqz (fun j hj => by rw [Nat.add_assoc]; exact h2 _ (by omega)))) hmz.put
        have hfv : (nI S.L, nI S.sealed, nI (ix x), nI 0) = BS (mkS S.L (un S.a (ix x) 0) (un S.b (ix x) 0) (un S.pr (ix x) 0) S.sealed (ix x) 0) := by
          unfold BS fedV
          rw [mk_fd, if_pos hx20]
          rfl
        refine lv_iload_n hx hb dX6_select_26 rfl (lv_at hl 0 rfl) ?_
        refine lv_bipush (v := nI 18) hx hb dX6_select_27 (by decide) ?_
        refine r_icmp_geN (tgt := 50) C (by omega) (by omega) dX6_select_29 (by decide) (fun hc => ?_) (fun hc => ?_)
        · refine lv_aload_n hx hb dX6_select_50 rfl (lv_at hl 1 rfl) ?_
          refine x_get (v := .ref (g + 2)) hx hb hts in_X6_select_X6 hown hK hM (hob1) rfl 2 (by decide) (hts (.fieldLink RX6 13 "LimbCurvesModel" "isPair" "[Z") (by decide +kernel)) (fun _ h9 => h9) rfl dX6_select_51 ?_
          refine lv_iload_n hx hb dX6_select_54 rfl (lv_at hl 2 rfl) ?_
          refine lv_iconst (v := nI 0) hx hb dX6_select_55 (by decide) ?_
          refine r_zast C hM hS (hz1) rfl (by omega) (by omega) rfl dX6_select_56 (fun H locs hM hS => ?_)
          refine lv_aload_n hx hb dX6_select_57 rfl (lv_at hl 1 rfl) ?_
          refine lv_iload_n hx hb dX6_select_58 rfl (lv_at hl 2 rfl) ?_
          refine x_put (v := .int (nI (ix x))) (ty := .int) hx hb hts in_X6_select_X6 tyX6 tyX6_ok nmX6 hown hK hM hS (hob2) rfl 4 (by decide) (hts (.fieldLink RX6 17 "LimbCurvesModel" "fed" "I") (by decide +kernel)) (fun _ h9 => h9) rfl (by decide +kernel) rfl rfl (Nat.le_of_ble_eq_true rfl) dX6_select_59 (fun H locs hM hS => ?_)
          refine lv_aload_n hx hb dX6_select_62 rfl (lv_at hl 1 rfl) ?_
          refine lv_iconst (v := nI 0) hx hb dX6_select_63 (by decide) ?_
          refine x_put (v := .int (nI 0)) (ty := .int) hx hb hts in_X6_select_X6 tyX6 tyX6_ok nmX6 hown hK hM hS (xset_s) rfl 5 (by decide) (hts (.fieldLink RX6 47 "LimbCurvesModel" "fedLimbs" "I") (by decide +kernel)) (fun _ h9 => h9) rfl (by decide +kernel) rfl rfl (Nat.le_of_ble_eq_true rfl) dX6_select_64 (fun H locs hM hS => ?_)
          rw [xset_xset] at hM
          have hM : xW D vwCl N0 (xset (xset (xset M (g + 1) (xI (kA 0) 360 f')) (g + 2) (xI (kA 1) 20 (upd z (ix x) (nI 0)))) g (oMd g (nI S.L, nI S.sealed, nI (ix x), nI 0) us)) H := hM
          have mk2 := mk1.fld (us := us) hfv rfl rfl rfl rfl
          refine lv_iconst (v := nI 1) hx hb dX6_select_67 (by decide) ?_
          exact hend _ _ _ _ _ _ hM hS (by decide) (⟨rfl, mk2, fun b hb => by rw [xset_n (by omega), xset_n (by omega), xset_n (by omega)]⟩) dX6_select_68
        · omega
      | succ k ih =>
        intro i f' H locs ls hik h1 h2 h3 hM hS hl
        have hob1 : xset M (g + 1) (xI (kA 0) 360 f') g = some (oMd g (BS S) us) := by rw [xset_n (by omega)]; exact hob
        have hs1 : xset M (g + 1) (xI (kA 0) 360 f') (g + 1) = some (xI (kA 0) 360 f') := xset_s
        refine lv_iload_n hx hb dX6_select_26 rfl (lv_at hl 0 rfl) ?_
        refine lv_bipush (v := nI 18) hx hb dX6_select_27 (by decide) ?_
        refine r_icmp_geN (tgt := 50) C (by omega) (by omega) dX6_select_29 (by decide) (fun hc => ?_) (fun hc => ?_)
        · omega
        · refine lv_aload_n hx hb dX6_select_32 rfl (lv_at hl 1 rfl) ?_
          refine x_get (v := .ref (g + 1)) hx hb hts in_X6_select_X6 hown hK hM (hob1) rfl 1 (by decide) (hts (.fieldLink RX6 7 "LimbCurvesModel" "slots" "[I") (by decide +kernel)) (fun _ h9 => h9) rfl dX6_select_33 ?_
          refine lv_bipush (v := nI 18) hx hb dX6_select_36 (by decide) ?_
          refine lv_iload_n hx hb dX6_select_38 rfl (lv_at hl 2 rfl) ?_
          refine r_imulN C dX6_select_39 ?_
          refine lv_iload_n hx hb dX6_select_40 rfl (lv_at hl 0 rfl) ?_
          refine r_iaddN C dX6_select_41 ?_
          refine lv_iconst (v := nI 0) hx hb dX6_select_42 (by decide) ?_
          refine r_iast C hM hS (hs1) rfl (by omega) (by omega) dX6_select_43 (fun H locs hM hS => ?_)
          rw [xset_xset] at hM
          refine lv_iinc (v := nI (i + 1)) (lv' := [(2, .int (nI (i + 1))), (0, .ref g), (1, .int (nI (ix x)))]) hx hb dX6_select_44 hl (k := 0) rfl (r_inc _) (by decide) rfl (fun ls hl => ?_)
          refine lv_goto (tgt := 26) hx hb dX6_select_47 (by decide) ?_
          refine ih (i + 1) _ H locs ls (by omega) (fun q hq => ?_) (fun j hj => ?_) (nn_upd h3 (by decide)) hM hS hl
          · rw [pk_un (by omega)]; exact h1 q hq
          · by_cases q1 : j = i
            · rw [q1, pk_us]; rfl
            · rw [pk_un (by omega)]; exact h2 j (by omega)
    have hM : xW D vwCl N0 (xset M (g + 1) (xI (kA 0) 360 f)) H := by rw [xset_id hf]; exact hM
    refine lv_iconst (v := nI 0) hx hb dX6_select_24 (by decide) ?_
    refine lv_istore_n (lv' := [(2, .int (nI 0)), (0, .ref g), (1, .int (nI (ix x)))]) hx hb dX6_select_25 rfl hl (by decide) rfl (fun ls hl => ?_)
    exact lp 18 0 f _ _ _ rfl (fun _ _ => rfl) (fun j hj => by omega) nf hM hS hl
  refine lv_iload_n hx hb dX6_select_0 rfl (lv_at hl 1 rfl) ?_
  refine lv_if_lt (tgt := 22) hx hb dX6_select_1 (by decide) (fun hc => ?_) (fun hc => ?_)
  · rw [ilt, t_0] at hc
    exact hF x _ _ ls (fun q => by omega) hM hS hl
  · rw [ilt, t_0] at hc
    refine lv_iload_n hx hb dX6_select_4 rfl (lv_at hl 1 rfl) ?_
    refine lv_bipush (v := nI 19) hx hb dX6_select_5 (by decide) ?_
    refine lv_icmp_gt (tgt := 22) hx hb dX6_select_7 (by decide) (fun hc1 => ?_) (fun hc1 => ?_)
    · have hc1 : (nI 19).toInt < x.toInt := ilt.mp hc1
      rw [t_19] at hc1
      exact hF x _ _ ls (fun q => by omega) hM hS hl
    · have hc1 : ¬ (nI 19).toInt < x.toInt := fun q => hc1 (ilt.mpr q)
      rw [t_19] at hc1
      have hn : isSl x := ⟨by omega, by omega⟩
      have hxe := ix_eq hn.1
      have hxi := ix_int hn.1
      have hl2 : lv_has ls 3 [(0, .ref g), (1, .int (nI (ix x)))] := by rw [← hxe]; exact hl
      refine lv_iload_n hx hb dX6_select_10 rfl (lv_at hl 1 rfl) ?_
      refine lv_iconst (v := nI 4) hx hb dX6_select_11 (by decide) ?_
      refine lv_icmp_ge (tgt := 24) hx hb dX6_select_12 (by decide) (fun hc2 => ?_) (fun hc2 => ?_)
      · rw [ile, t_4] at hc2
        exact hY _ _ ls hn (fun _ => by omega) hM hS hl2
      · rw [ile, t_4] at hc2
        refine lv_aload_n hx hb dX6_select_15 rfl (lv_at hl 0 rfl) ?_
        refine x_get (v := .int (nI S.sealed)) hx hb hts in_X6_select_X6 hown hK hM (hob) rfl 3 (by decide) (hts (.fieldLink RX6 43 "LimbCurvesModel" "sealed" "Z") (by decide +kernel)) (fun _ h9 => h9) rfl dX6_select_16 ?_
        refine r_if_eqN (tgt := 24) C (by omega) dX6_select_19 (by decide) (fun hc3 => ?_) (fun hc3 => ?_)
        · exact hY _ _ ls hn (fun _ => by omega) hM hS hl2
        · exact hF x _ _ ls (fun q => by have := q.2 (by omega); omega) hM hS hl
set_option maxRecDepth 100000 in
theorem c6_feedLimb (l : Launch) (D : va_G) (kA : Nat → ClassId) (N0 : Nat) (M : xM) (g : Nat) (S : St) (w : Int32) (hsi : Si S) (mk : Mk kA M g S) : cI l yX6_feedLimb wsX6_feedLimb (xR 2) [.ref g, .int w] D kA N0 M (fun v M1 => v = (spFeed S w).1 ∧ Mk kA M1 g (spFeed S w).2 ∧ ∀ b, b < g ∨ g + 7 < b → M1 b = M b) := by
  have mk0 := mk
  obtain ⟨⟨us, hob⟩, ⟨f, hf, nf, hmf⟩, ⟨z, hz, hmz⟩, hw⟩ := mk
  have hL0 := hsi.L1
  have hL9 := hsi.L9
  have hno : ¬ (S.fed < 20 ∧ 0 ≤ w.toInt) → (nI 0) = (spFeed S w).1 ∧ Mk kA M g (spFeed S w).2 ∧ ∀ b, b < g ∨ g + 7 < b → M b = M b := fun q => by
    unfold spFeed
    rw [if_neg q]
    exact ⟨rfl, mk0, fun _ _ => rfl⟩
  refine r_mZ (cc := cX6_feedLimb) (maxL := 2) (by decide) rfl (Nat.le_of_ble_eq_true rfl) ?_
  intro p e s m below meth c ls A0 Qp C hM hnm hl hend
  obtain ⟨hx, hb, hml, hown, hts, hr, hlocks, hK, hN⟩ := _root_.id C
  have hS : va_S (xA N0) s.heap s.heap [] := va_S.rf
  have hl : lv_has ls 2 [(0, .ref g), (1, .int w)] := hl
  have hF : ∀ (H : Heap) (locs : List Loc) (ls : Array Slot), ¬ (S.fed < 20 ∧ 0 ≤ w.toInt) → xW D vwCl N0 M H → va_S (xA N0) s.heap H locs → lv_has ls 2 [(0, .ref g), (1, .int w)] → W p l e (xR 2) s m A0 below meth c H locs 0 0 Qp (F0 m 11 ls []) := by
    intro H locs ls hq hM hS hl
    refine lv_iconst (v := nI 0) hx hb dX6_feedLimb_11 (by decide) ?_
    exact hend _ _ _ _ _ _ hM hS (by decide) (hno hq) dX6_feedLimb_12
  refine lv_aload_n hx hb dX6_feedLimb_0 rfl (lv_at hl 0 rfl) ?_
  refine x_get (v := .int (fedV S)) hx hb hts in_X6_feedLimb_X6 hown hK hM (hob) rfl 4 (by decide) (hts (.fieldLink RX6 17 "LimbCurvesModel" "fed" "I") (by decide +kernel)) (fun _ h9 => h9) rfl dX6_feedLimb_1 ?_
  refine lv_if_lt (tgt := 11) hx hb dX6_feedLimb_4 (by decide) (fun hc => ?_) (fun hc => ?_)
  · rw [ilt, t_0] at hc
    refine hF _ _ ls (fun q => ?_) hM hS hl
    rw [fedV_lt q.1, t_nI (by omega)] at hc
    omega
  · rw [ilt, t_0] at hc
    have hfd : S.fed < 20 := by
      by_cases q : S.fed < 20
      · exact q
      · rw [fedV_ge q] at hc
        exact absurd (by decide) hc
    refine lv_iload_n hx hb dX6_feedLimb_7 rfl (lv_at hl 1 rfl) ?_
    refine lv_if_ge (tgt := 13) hx hb dX6_feedLimb_8 (by decide) (fun hc2 => ?_) (fun hc2 => ?_)
    · rw [ile, t_0] at hc2
      obtain ⟨f1, f2, f3, f4⟩ := hsi.fd hfd
      have hlim : lim S S.fed ≤ 18 := by unfold lim; split <;> omega
      have hB9 : BS S = (nI S.L, nI S.sealed, nI S.fed, nI S.fl) := by unfold BS; rw [fedV_lt hfd]
      have hob9 := hob
      rw [hB9] at hob9
      have hpl : ¬ S.fl < S.L → 4 ≤ S.fed ∧ S.fed < 12 := fun q => by
        unfold lim at f1
        split at f1
        · assumption
        · omega
      have hf18 : S.fl < 2 * S.L := by
        unfold lim at f1
        split at f1 <;> omega
      have ht := t_nI (n := S.fed) (by omega)
      refine lv_aload_n hx hb dX6_feedLimb_13 rfl (lv_at hl 0 rfl) ?_
      refine x_get (v := .ref (g + 1)) hx hb hts in_X6_feedLimb_X6 hown hK hM (hob9) rfl 1 (by decide) (hts (.fieldLink RX6 7 "LimbCurvesModel" "slots" "[I") (by decide +kernel)) (fun _ h9 => h9) rfl dX6_feedLimb_14 ?_
      refine lv_bipush (v := nI 18) hx hb dX6_feedLimb_17 (by decide) ?_
      refine lv_aload_n hx hb dX6_feedLimb_19 rfl (lv_at hl 0 rfl) ?_
      refine x_get (v := .int (nI S.fed)) hx hb hts in_X6_feedLimb_X6 hown hK hM (hob9) rfl 4 (by decide) (hts (.fieldLink RX6 17 "LimbCurvesModel" "fed" "I") (by decide +kernel)) (fun _ h9 => h9) rfl dX6_feedLimb_20 ?_
      refine r_imulN C dX6_feedLimb_23 ?_
      refine lv_aload_n hx hb dX6_feedLimb_24 rfl (lv_at hl 0 rfl) ?_
      refine x_get (v := .int (nI S.fl)) hx hb hts in_X6_feedLimb_X6 hown hK hM (hob9) rfl 5 (by decide) (hts (.fieldLink RX6 47 "LimbCurvesModel" "fedLimbs" "I") (by decide +kernel)) (fun _ h9 => h9) rfl dX6_feedLimb_25 ?_
      refine r_iaddN C dX6_feedLimb_28 ?_
      refine lv_iload_n hx hb dX6_feedLimb_29 rfl (lv_at hl 1 rfl) ?_
      refine r_iast C hM hS (hf) rfl (by omega) (by omega) dX6_feedLimb_30 (fun H locs hM hS => ?_)
      have hob1 : xset M (g + 1) (xI (kA 0) 360 (upd f (18 * S.fed + S.fl) w)) g = some (oMd g (nI S.L, nI S.sealed, nI S.fed, nI S.fl) us) := by rw [xset_n (by omega)]; exact hob9
      have hz1 : xset M (g + 1) (xI (kA 0) 360 (upd f (18 * S.fed + S.fl) w)) (g + 2) = some (xI (kA 1) 20 z) := by rw [xset_n (by omega)]; exact hz
      refine lv_aload_n hx hb dX6_feedLimb_31 rfl (lv_at hl 0 rfl) ?_
      refine x_get (v := .ref (g + 2)) hx hb hts in_X6_feedLimb_X6 hown hK hM (hob1) rfl 2 (by decide) (hts (.fieldLink RX6 13 "LimbCurvesModel" "isPair" "[Z") (by decide +kernel)) (fun _ h9 => h9) rfl dX6_feedLimb_32 ?_
      refine lv_aload_n hx hb dX6_feedLimb_35 rfl (lv_at hl 0 rfl) ?_
      refine x_get (v := .int (nI S.fed)) hx hb hts in_X6_feedLimb_X6 hown hK hM (hob1) rfl 4 (by decide) (hts (.fieldLink RX6 17 "LimbCurvesModel" "fed" "I") (by decide +kernel)) (fun _ h9 => h9) rfl dX6_feedLimb_36 ?_
      refine lv_aload_n hx hb dX6_feedLimb_39 rfl (lv_at hl 0 rfl) ?_
      refine x_get (v := .int (nI S.fed)) hx hb hts in_X6_feedLimb_X6 hown hK hM (hob1) rfl 4 (by decide) (hts (.fieldLink RX6 17 "LimbCurvesModel" "fed" "I") (by decide +kernel)) (fun _ h9 => h9) rfl dX6_feedLimb_40 ?_
      refine r_Si (As := [.int (nI S.fed)]) (rest := [.int (nI S.fed), .ref (g + 2)]) C hM hS (c6_isPoint l D kA N0 _ (nI S.fed)) gX6_feedLimb_X6_isPoint rfl rfl rfl ⟨by decide +kernel, by decide +kernel, (by decide +kernel : (parseMethodDescriptor yX6_isPoint.desc).map (fun d => d.parameters.length) = some 1)⟩ ⟨Nat.le_of_ble_eq_true rfl, Nat.le_of_ble_eq_true rfl⟩ hl.1 rfl (Nat.le_of_ble_eq_true rfl) dX6_feedLimb_43 ⟨Nat.le_of_ble_eq_true rfl, Nat.le_of_ble_eq_true rfl⟩ (fun v M1 H locs hp hM hS => ?_)
      obtain ⟨eM, hv⟩ := hp
      rw [eM] at hM
      have hvb : vp_nar .boolean v = v := by
        rcases hv with ⟨q, -⟩ | ⟨q, -⟩ <;> rw [q] <;> rfl
      refine r_zast C hM hS (hz1) rfl (by omega) (by omega) hvb dX6_feedLimb_46 (fun H locs hM hS => ?_)
      have hmz2 : Mz (if 4 ≤ S.fed ∧ S.fed < 12 then un S.pr S.fed 1 else S.pr) (upd z S.fed v) := by
        by_cases q : 4 ≤ S.fed ∧ S.fed < 12
        · rw [if_pos q]
          have ev : v = nI 1 := by
            rcases hv with ⟨q1, -⟩ | ⟨-, q2⟩
            · exact q1
            · exfalso; apply q2; unfold isPo; rw [ht]; omega
          rw [ev]
          exact hmz.put
        · rw [if_neg q]
          intro s9 s1 s2
          rw [pk_un (by omega)]
          exact hmz s9 s1 s2
      have hnu := nn_upd (j := 18 * S.fed + S.fl) nf hc2
      have hoff : ∀ q, q < 18 * S.fed ∨ 18 * S.fed + 18 ≤ q → upd f (18 * S.fed + S.fl) w q = f q := fun q hq => pk_un (by omega)
      obtain ⟨ga, gb⟩ := hmf S.fed hfd
      have mk1 : Mk kA (xset (xset M (g + 1) (xI (kA 0) 360 (upd f (18 * S.fed + S.fl) w))) (g + 2) (xI (kA 1) 20 (upd z S.fed v))) g (fedS S (ix w)) := by
        by_cases q : S.fl < S.L
        · rw [fedS_1 q]
          have h9 := hmf.put (x := S.fed) (a' := S.a S.fed + ix w * BB ^ S.fl) (b' := S.b S.fed) hL9 hoff (by rw [feed_Vw (fun j hj => nf _ (by omega)) q (by rw [ga]; exact f2), ga]; rfl) (fun h1 h2 => by rw [Vw_upd_out (by omega)]; exact gb h1 h2)
          rw [un_id] at h9
          exact mk0.mem rfl hnu h9 hmz2
        · rw [fedS_2 q]
          obtain ⟨p1, p2⟩ := hpl q
          have h9 := hmf.put (x := S.fed) (a' := S.a S.fed) (b' := S.b S.fed + ix w * BB ^ (S.fl - S.L)) hL9 hoff (by rw [Vw_upd_out (by omega)]; exact ga) (fun h1 h2 => by
            have e9 := feed_Vw (f := f) (b := 18 * S.fed + S.L) (L := S.L) (i := S.fl - S.L) (w := w) (fun j hj => nf _ (by omega)) (by omega) (by rw [gb p1 p2]; exact f3)
            rw [show 18 * S.fed + S.L + (S.fl - S.L) = 18 * S.fed + S.fl by omega, gb p1 p2] at e9
            exact e9)
          rw [un_id] at h9
          exact mk0.mem rfl hnu h9 hmz2
      obtain ⟨e1, e2, e3, e4⟩ := fedS_fed (S := S) (w := ix w)
      rw [spFeed_y hfd hc2] at hend
      obtain ⟨T, eT⟩ : ∃ T, fedS S (ix w) = T := ⟨_, rfl⟩
      rw [eT] at hend mk1 e1 e2 e3 e4
      have hlT : lim T T.fed = lim S S.fed := by unfold lim; rw [e1, e3]
      have hob2 : xset (xset M (g + 1) (xI (kA 0) 360 (upd f (18 * S.fed + S.fl) w))) (g + 2) (xI (kA 1) 20 (upd z S.fed v)) g = some (oMd g (nI S.L, nI S.sealed, nI S.fed, nI S.fl) us) := by rw [xset_n (by omega)]; exact hob1
      obtain ⟨M9, eM9⟩ : ∃ q, xset (xset M (g + 1) (xI (kA 0) 360 (upd f (18 * S.fed + S.fl) w))) (g + 2) (xI (kA 1) 20 (upd z S.fed v)) = q := ⟨_, rfl⟩
      have hfr9 : ∀ b, b < g ∨ g + 7 < b → M9 b = M b := fun b hb => by rw [← eM9, xset_n (by omega), xset_n (by omega)]
      rw [eM9] at hM hob2 mk1
      refine lv_aload_n hx hb dX6_feedLimb_47 rfl (lv_at hl 0 rfl) ?_
      refine lv_dup hx hb dX6_feedLimb_48 rfl ?_
      refine x_get (v := .int (nI S.fl)) hx hb hts in_X6_feedLimb_X6 hown hK hM (hob2) rfl 5 (by decide) (hts (.fieldLink RX6 47 "LimbCurvesModel" "fedLimbs" "I") (by decide +kernel)) (fun _ h9 => h9) rfl dX6_feedLimb_49 ?_
      refine lv_iconst (v := nI 1) hx hb dX6_feedLimb_52 (by decide) ?_
      refine r_iaddN C dX6_feedLimb_53 ?_
      refine x_put (v := .int (nI (S.fl + 1))) (ty := .int) hx hb hts in_X6_feedLimb_X6 tyX6 tyX6_ok nmX6 hown hK hM hS (hob2) rfl 5 (by decide) (hts (.fieldLink RX6 47 "LimbCurvesModel" "fedLimbs" "I") (by decide +kernel)) (fun _ h9 => h9) rfl (by decide +kernel) rfl rfl (Nat.le_of_ble_eq_true rfl) dX6_feedLimb_54 (fun H locs hM hS => ?_)
      have hM : xW D vwCl N0 (xset M9 g (oMd g (nI S.L, nI S.sealed, nI S.fed, nI (S.fl + 1)) us)) H := hM
      have hB3 : (nI S.L, nI S.sealed, nI S.fed, nI (S.fl + 1)) = BS (mkS T.L T.a T.b T.pr T.sealed T.fed (T.fl + 1)) := by
        unfold BS fedV
        rw [mk_fd, mk_L, mk_sl, mk_fl, e1, e2, e3, e4, if_pos hfd]
      have mk2 := mk1.fld (us := us) hB3 rfl rfl rfl rfl
      have hob3 : xset M9 g (oMd g (nI S.L, nI S.sealed, nI S.fed, nI (S.fl + 1)) us) g = some (oMd g (nI S.L, nI S.sealed, nI S.fed, nI (S.fl + 1)) us) := xset_s
      have hob4 := hob3
      rw [hB3] at hob4
      have hlT2 : lim (mkS T.L T.a T.b T.pr T.sealed T.fed (T.fl + 1)) S.fed = lim S S.fed := by unfold lim; rw [mk_L, e3]
      refine lv_aload_n hx hb dX6_feedLimb_57 rfl (lv_at hl 0 rfl) ?_
      refine x_get (v := .int (nI (S.fl + 1))) hx hb hts in_X6_feedLimb_X6 hown hK hM (hob3) rfl 5 (by decide) (hts (.fieldLink RX6 47 "LimbCurvesModel" "fedLimbs" "I") (by decide +kernel)) (fun _ h9 => h9) rfl dX6_feedLimb_58 ?_
      refine lv_aload_n hx hb dX6_feedLimb_61 rfl (lv_at hl 0 rfl) ?_
      refine lv_aload_n hx hb dX6_feedLimb_62 rfl (lv_at hl 0 rfl) ?_
      refine x_get (v := .int (nI S.fed)) hx hb hts in_X6_feedLimb_X6 hown hK hM (hob3) rfl 4 (by decide) (hts (.fieldLink RX6 17 "LimbCurvesModel" "fed" "I") (by decide +kernel)) (fun _ h9 => h9) rfl dX6_feedLimb_63 ?_
      refine r_Vi (As := [.int (nI S.fed)]) (rest := [.int (nI (S.fl + 1))]) C hM hS (c6_limbsOf l D kA N0 _ g S.fed (mkS T.L T.a T.b T.pr T.sealed T.fed (T.fl + 1)) us (by rw [← hB3]; exact hob3) hfd (by rw [mk_L, e3]; exact hL9)) (hob3) rfl gX6_feedLimb_X6_limbsOf rfl rfl rfl ⟨rfl, by decide +kernel, by decide +kernel, (by decide +kernel : (parseMethodDescriptor yX6_limbsOf.desc).map (fun d => d.parameters.length) = some 1)⟩ ⟨Nat.le_of_ble_eq_true rfl, Nat.le_of_ble_eq_true rfl⟩ hl.1 rfl (Nat.le_of_ble_eq_true rfl) dX6_feedLimb_66 ⟨Nat.le_of_ble_eq_true rfl, Nat.le_of_ble_eq_true rfl⟩ (fun v2 M2 H locs hp hM hS => ?_)
      obtain ⟨eM2, ev2⟩ := hp
      rw [eM2] at hM
      rw [hlT2] at ev2
      rw [ev2]
      refine r_icmp_neN (tgt := 76) C (by omega) (by omega) dX6_feedLimb_69 (by decide) (fun hc4 => ?_) (fun hc4 => ?_)
      · have hfin : finS T = mkS T.L T.a T.b T.pr T.sealed T.fed (T.fl + 1) := if_neg (by rw [hlT, e2]; omega)
        rw [hfin] at hend
        refine lv_iconst (v := nI 1) hx hb dX6_feedLimb_76 (by decide) ?_
        exact hend _ _ _ _ _ _ hM hS (by decide) (⟨rfl, mk2, fun b hb => by rw [xset_n (by omega)]; exact hfr9 b hb⟩) dX6_feedLimb_77
      · have hfin : finS T = mkS T.L T.a T.b T.pr T.sealed 20 0 := if_pos (by rw [hlT, e2]; omega)
        rw [hfin] at hend
        refine lv_aload_n hx hb dX6_feedLimb_72 rfl (lv_at hl 0 rfl) ?_
        refine r_Vv (As := []) (rest := []) C hM hS (c6_stopFeeding l D kA N0 _ g _ mk2) (hob3) rfl gX6_feedLimb_X6_stopFeeding rfl rfl rfl ⟨rfl, by decide +kernel, by decide +kernel, (by decide +kernel : (parseMethodDescriptor yX6_stopFeeding.desc).map (fun d => d.parameters.length) = some 0)⟩ ⟨Nat.le_of_ble_eq_true rfl, Nat.le_of_ble_eq_true rfl⟩ hl.1 rfl (Nat.le_of_ble_eq_true rfl) dX6_feedLimb_73 ⟨Nat.le_of_ble_eq_true rfl, Nat.le_of_ble_eq_true rfl⟩ (fun M3 H locs hp hM hS => ?_)
        refine lv_iconst (v := nI 1) hx hb dX6_feedLimb_76 (by decide) ?_
        exact hend _ _ _ _ _ _ hM hS (by decide) (⟨rfl, hp.1, fun b hb => by rw [hp.2 b (by omega), xset_n (by omega)]; exact hfr9 b hb⟩) dX6_feedLimb_77
    · rw [ile, t_0] at hc2
      exact hF _ _ ls (fun q => by omega) hM hS hl
set_option maxRecDepth 100000 in
theorem c6_isSame (l : Launch) (D : va_G) (kA : Nat → ClassId) (N0 : Nat) (M : xM) (g : Nat) (S : St) (x y : Int32) (hsi : Si S) (mk : Mk kA M g S) : cI l yX6_isSame wsX6_isSame (xR 1) [.ref g, .int x, .int y] D kA N0 M (fun v M1 => v = spSame S x y ∧ M1 = M) := by
  obtain ⟨⟨us, hob⟩, ⟨f, hf, nf, hmf⟩, ⟨z, hz, hmz⟩, hw⟩ := mk
  have hL0 := hsi.L1
  have hL9 := hsi.L9
  unfold spSame
  refine r_mZ (cc := cX6_isSame) (maxL := 5) (by decide) rfl (Nat.le_of_ble_eq_true rfl) ?_
  intro p e s m below meth c ls A0 Qp C hM hnm hl hend
  obtain ⟨hx, hb, hml, hown, hts, hr, hlocks, hK, hN⟩ := _root_.id C
  have hS : va_S (xA N0) s.heap s.heap [] := va_S.rf
  have hl : lv_has ls 5 [(0, .ref g), (1, .int x), (2, .int y)] := hl
  have hF : ∀ (v1 v2 : Int32) (H : Heap) (locs : List Loc) (ls : Array Slot), ¬ (isPo x ∧ isPo y ∧ S.pr (ix x) = S.pr (ix y) ∧ S.a (ix x) = S.a (ix y) ∧ S.b (ix x) = S.b (ix y)) → xW D vwCl N0 M H → va_S (xA N0) s.heap H locs → lv_has ls 5 [(0, .ref g), (1, .int v1), (2, .int v2)] → W p l e (xR 1) s m A0 below meth c H locs 0 0 Qp (F0 m 29 ls []) := by
    intro v1 v2 H locs ls hq hM hS hl
    rw [if_neg hq] at hend
    refine lv_iconst (v := nI 0) hx hb dX6_isSame_29 (by decide) ?_
    exact hend _ _ _ _ _ _ hM hS (by decide) (⟨rfl, rfl⟩) dX6_isSame_30
  refine lv_iload_n hx hb dX6_isSame_0 rfl (lv_at hl 1 rfl) ?_
  refine r_Si (As := [.int x]) (rest := []) C hM hS (c6_isPoint l D kA N0 M x) gX6_isSame_X6_isPoint rfl rfl rfl ⟨by decide +kernel, by decide +kernel, (by decide +kernel : (parseMethodDescriptor yX6_isPoint.desc).map (fun d => d.parameters.length) = some 1)⟩ ⟨Nat.le_of_ble_eq_true rfl, Nat.le_of_ble_eq_true rfl⟩ hl.1 rfl (Nat.le_of_ble_eq_true rfl) dX6_isSame_1 ⟨Nat.le_of_ble_eq_true rfl, Nat.le_of_ble_eq_true rfl⟩ (fun v M1 H locs hp hM hS => ?_)
  obtain ⟨eM, hv⟩ := hp
  rw [eM] at hM
  refine lv_if_eq (tgt := 29) hx hb dX6_isSame_4 (by decide) (fun hc1 => ?_) (fun hc1 => ?_)
  · have hn : ¬ isPo x := by
      rcases hv with ⟨h1, h2⟩ | ⟨h1, h2⟩
      · rw [h1] at hc1; exact absurd hc1 (by decide)
      · exact h2
    exact hF x y _ _ ls (fun q => hn q.1) hM hS hl
  · have hn : isPo x := by
      rcases hv with ⟨h1, h2⟩ | ⟨h1, h2⟩
      · exact h2
      · exact absurd h1 hc1
    refine lv_iload_n hx hb dX6_isSame_7 rfl (lv_at hl 2 rfl) ?_
    refine r_Si (As := [.int y]) (rest := []) C hM hS (c6_isPoint l D kA N0 M y) gX6_isSame_X6_isPoint rfl rfl rfl ⟨by decide +kernel, by decide +kernel, (by decide +kernel : (parseMethodDescriptor yX6_isPoint.desc).map (fun d => d.parameters.length) = some 1)⟩ ⟨Nat.le_of_ble_eq_true rfl, Nat.le_of_ble_eq_true rfl⟩ hl.1 rfl (Nat.le_of_ble_eq_true rfl) dX6_isSame_8 ⟨Nat.le_of_ble_eq_true rfl, Nat.le_of_ble_eq_true rfl⟩ (fun v2 M1 H locs hp hM hS => ?_)
    obtain ⟨eM2, hv2⟩ := hp
    rw [eM2] at hM
    refine lv_if_eq (tgt := 29) hx hb dX6_isSame_11 (by decide) (fun hc2 => ?_) (fun hc2 => ?_)
    · have hn2 : ¬ isPo y := by
        rcases hv2 with ⟨h1, h2⟩ | ⟨h1, h2⟩
        · rw [h1] at hc2; exact absurd hc2 (by decide)
        · exact h2
      exact hF x y _ _ ls (fun q => hn2 q.2.1) hM hS hl
    · have hn2 : isPo y := by
        rcases hv2 with ⟨h1, h2⟩ | ⟨h1, h2⟩
        · exact h2
        · exact absurd h1 hc2
      have hxr := po_ix hn
      have hxe := ix_eq (x := x) (by omega)
      have hyr := po_ix hn2
      have hye := ix_eq (x := y) (by omega)
      have hl : lv_has ls 5 [(0, .ref g), (1, .int (nI (ix x))), (2, .int (nI (ix y)))] := by rw [← hxe, ← hye]; exact hl
      have hbx := hsi.prb (ix x)
      have hby := hsi.prb (ix y)
      obtain ⟨ga, gb⟩ := hmf (ix x) (by omega)
      have gb := gb hxr.1 hxr.2
      obtain ⟨ga2, gb2⟩ := hmf (ix y) (by omega)
      have gb2 := gb2 hyr.1 hyr.2
      refine lv_aload_n hx hb dX6_isSame_14 rfl (lv_at hl 0 rfl) ?_
      refine x_get (v := .ref (g + 2)) hx hb hts in_X6_isSame_X6 hown hK hM (hob) rfl 2 (by decide) (hts (.fieldLink RX6 13 "LimbCurvesModel" "isPair" "[Z") (by decide +kernel)) (fun _ h9 => h9) rfl dX6_isSame_15 ?_
      refine lv_iload_n hx hb dX6_isSame_18 rfl (lv_at hl 1 rfl) ?_
      refine r_zald C hM (hz) rfl (by omega) (by omega) dX6_isSame_19 ?_
      rw [hmz _ hxr.1 hxr.2]
      refine lv_aload_n hx hb dX6_isSame_20 rfl (lv_at hl 0 rfl) ?_
      refine x_get (v := .ref (g + 2)) hx hb hts in_X6_isSame_X6 hown hK hM (hob) rfl 2 (by decide) (hts (.fieldLink RX6 13 "LimbCurvesModel" "isPair" "[Z") (by decide +kernel)) (fun _ h9 => h9) rfl dX6_isSame_21 ?_
      refine lv_iload_n hx hb dX6_isSame_24 rfl (lv_at hl 2 rfl) ?_
      refine r_zald C hM (hz) rfl (by omega) (by omega) dX6_isSame_25 ?_
      rw [hmz _ hyr.1 hyr.2]
      refine r_icmp_eqN (tgt := 31) C (by omega) (by omega) dX6_isSame_26 (by decide) (fun hc3 => ?_) (fun hc3 => ?_)
      · have lp : ∀ (k i sm : Nat) (H : Heap) (locs : List Loc) (ls : Array Slot), i + k = 2 * S.L → sm ≤ 1 → (sm = 1 ↔ ∀ j, j < i → f (18 * ix x + j) = f (18 * ix y + j)) → xW D vwCl N0 M H → va_S (xA N0) s.heap H locs → lv_has ls 5 [(4, .int (nI i)), (3, .int (nI sm)), (0, .ref g), (1, .int (nI (ix x))), (2, .int (nI (ix y)))] → W p l e (xR 1) s m A0 below meth c H locs 0 0 Qp (F0 m 36 ls []) := by
          intro k
          induction k with
          | zero =>
            intro i sm H locs ls hik hsm hI hM hS hl
            refine lv_iload hx hb dX6_isSame_36 (lv_at hl 0 rfl) ?_
            refine lv_iconst (v := nI 2) hx hb dX6_isSame_38 (by decide) ?_
            refine lv_aload_n hx hb dX6_isSame_39 rfl (lv_at hl 2 rfl) ?_
            refine x_get (v := .int (nI S.L)) hx hb hts in_X6_isSame_X6 hown hK hM (hob) rfl 0 (by decide) (hts (.fieldLink RX6 36 "LimbCurvesModel" "limbs" "I") (by decide +kernel)) (fun _ h9 => h9) rfl dX6_isSame_40 ?_
            refine r_imulN C dX6_isSame_43 ?_
            refine r_icmp_geN (tgt := 90) C (by omega) (by omega) dX6_isSame_44 (by decide) (fun hd => ?_) (fun hd => ?_)
            · have hi2 : i = 2 * S.L := by omega
              have h01 : nI sm = 0 ∨ nI sm = 1 := by
                rcases Nat.le_one_iff_eq_zero_or_eq_one.mp hsm with q | q
                · exact Or.inl (by rw [q]; rfl)
                · exact Or.inr (by rw [q]; rfl)
              have hres : nI sm = if isPo x ∧ isPo y ∧ S.pr (ix x) = S.pr (ix y) ∧ S.a (ix x) = S.a (ix y) ∧ S.b (ix x) = S.b (ix y) then 1 else 0 := by
                by_cases q1 : sm = 1
                · have hall := hI.mp q1
                  have ha9 : S.a (ix x) = S.a (ix y) := by
                    rw [← ga, ← ga2]
                    exact Vw_same (fun j hj => hall j (by omega))
                  have hb9 : S.b (ix x) = S.b (ix y) := by
                    rw [← gb, ← gb2]
                    exact Vw_same (fun j hj => by rw [Nat.add_assoc, Nat.add_assoc]; exact hall _ (by omega))
                  rw [if_pos ⟨hn, hn2, hc3, ha9, hb9⟩, q1]
                  rfl
                · have hno : ¬ (isPo x ∧ isPo y ∧ S.pr (ix x) = S.pr (ix y) ∧ S.a (ix x) = S.a (ix y) ∧ S.b (ix x) = S.b (ix y)) := fun q => q1 (hI.mpr (fun j hj => by
                    have ha9 := Vw_inj2 (f := f) (a := 18 * ix x) (b := 18 * ix y) (n := S.L) (fun j hj => nf _ (by omega)) (fun j hj => nf _ (by omega)) (by rw [ga, ga2]; exact q.2.2.2.1)
                    have hb9 := Vw_inj2 (f := f) (a := 18 * ix x + S.L) (b := 18 * ix y + S.L) (n := S.L) (fun j hj => nf _ (by omega)) (fun j hj => nf _ (by omega)) (by rw [gb, gb2]; exact q.2.2.2.2)
                    by_cases q2 : j < S.L
                    · exact ha9 j q2
                    · have := hb9 (j - S.L) (by omega)
                      rw [show 18 * ix x + S.L + (j - S.L) = 18 * ix x + j by omega, show 18 * ix y + S.L + (j - S.L) = 18 * ix y + j by omega] at this
                      exact this))
                  rw [if_neg hno, show sm = 0 by omega]
                  rfl
              refine lv_iload_n hx hb dX6_isSame_90 rfl (lv_at hl 1 rfl) ?_
              exact hend _ _ _ _ _ _ hM hS (h01) (⟨hres, rfl⟩) dX6_isSame_91
            · omega
          | succ k ih =>
            intro i sm H locs ls hik hsm hI hM hS hl
            refine lv_iload hx hb dX6_isSame_36 (lv_at hl 0 rfl) ?_
            refine lv_iconst (v := nI 2) hx hb dX6_isSame_38 (by decide) ?_
            refine lv_aload_n hx hb dX6_isSame_39 rfl (lv_at hl 2 rfl) ?_
            refine x_get (v := .int (nI S.L)) hx hb hts in_X6_isSame_X6 hown hK hM (hob) rfl 0 (by decide) (hts (.fieldLink RX6 36 "LimbCurvesModel" "limbs" "I") (by decide +kernel)) (fun _ h9 => h9) rfl dX6_isSame_40 ?_
            refine r_imulN C dX6_isSame_43 ?_
            refine r_icmp_geN (tgt := 90) C (by omega) (by omega) dX6_isSame_44 (by decide) (fun hd => ?_) (fun hd => ?_)
            · omega
            · refine lv_iload_n hx hb dX6_isSame_47 rfl (lv_at hl 1 rfl) ?_
              refine r_if_eqN (tgt := 82) C (by omega) dX6_isSame_48 (by decide) (fun he => ?_) (fun he => ?_)
              · refine lv_iconst (v := nI 0) hx hb dX6_isSame_82 (by decide) ?_
                refine lv_istore_n (lv' := [(3, .int (nI 0)), (4, .int (nI i)), (0, .ref g), (1, .int (nI (ix x))), (2, .int (nI (ix y)))]) hx hb dX6_isSame_83 rfl hl (by decide) rfl (fun ls hl => ?_)
                refine lv_iinc (v := nI (i + 1)) (lv' := [(4, .int (nI (i + 1))), (3, .int (nI 0)), (0, .ref g), (1, .int (nI (ix x))), (2, .int (nI (ix y)))]) hx hb dX6_isSame_84 hl (k := 1) rfl (r_inc _) (by decide) rfl (fun ls hl => ?_)
                refine lv_goto (tgt := 36) hx hb dX6_isSame_87 (by decide) ?_
                refine ih (i + 1) 0 H locs ls (by omega) (by omega) ⟨fun q => by omega, fun q => ?_⟩ hM hS hl
                have := hI.mpr (fun j hj => q j (by omega))
                omega
              · have hs1 : sm = 1 := by omega
                have hI1 := hI.mp hs1
                refine lv_aload_n hx hb dX6_isSame_51 rfl (lv_at hl 2 rfl) ?_
                refine x_get (v := .ref (g + 1)) hx hb hts in_X6_isSame_X6 hown hK hM (hob) rfl 1 (by decide) (hts (.fieldLink RX6 7 "LimbCurvesModel" "slots" "[I") (by decide +kernel)) (fun _ h9 => h9) rfl dX6_isSame_52 ?_
                refine lv_bipush (v := nI 18) hx hb dX6_isSame_55 (by decide) ?_
                refine lv_iload_n hx hb dX6_isSame_57 rfl (lv_at hl 3 rfl) ?_
                refine r_imulN C dX6_isSame_58 ?_
                refine lv_iload hx hb dX6_isSame_59 (lv_at hl 0 rfl) ?_
                refine r_iaddN C dX6_isSame_61 ?_
                refine r_iald C hM (hf) rfl (by omega) (by omega) dX6_isSame_62 ?_
                refine lv_aload_n hx hb dX6_isSame_63 rfl (lv_at hl 2 rfl) ?_
                refine x_get (v := .ref (g + 1)) hx hb hts in_X6_isSame_X6 hown hK hM (hob) rfl 1 (by decide) (hts (.fieldLink RX6 7 "LimbCurvesModel" "slots" "[I") (by decide +kernel)) (fun _ h9 => h9) rfl dX6_isSame_64 ?_
                refine lv_bipush (v := nI 18) hx hb dX6_isSame_67 (by decide) ?_
                refine lv_iload_n hx hb dX6_isSame_69 rfl (lv_at hl 4 rfl) ?_
                refine r_imulN C dX6_isSame_70 ?_
                refine lv_iload hx hb dX6_isSame_71 (lv_at hl 0 rfl) ?_
                refine r_iaddN C dX6_isSame_73 ?_
                refine r_iald C hM (hf) rfl (by omega) (by omega) dX6_isSame_74 ?_
                refine lv_icmp_ne (tgt := 82) hx hb dX6_isSame_75 (by decide) (fun hg9 => ?_) (fun hg9 => ?_)
                · refine lv_iconst (v := nI 0) hx hb dX6_isSame_82 (by decide) ?_
                  refine lv_istore_n (lv' := [(3, .int (nI 0)), (4, .int (nI i)), (0, .ref g), (1, .int (nI (ix x))), (2, .int (nI (ix y)))]) hx hb dX6_isSame_83 rfl hl (by decide) rfl (fun ls hl => ?_)
                  refine lv_iinc (v := nI (i + 1)) (lv' := [(4, .int (nI (i + 1))), (3, .int (nI 0)), (0, .ref g), (1, .int (nI (ix x))), (2, .int (nI (ix y)))]) hx hb dX6_isSame_84 hl (k := 1) rfl (r_inc _) (by decide) rfl (fun ls hl => ?_)
                  refine lv_goto (tgt := 36) hx hb dX6_isSame_87 (by decide) ?_
                  refine ih (i + 1) 0 H locs ls (by omega) (by omega) ⟨fun q => by omega, fun q => absurd (q i (by omega)) hg9⟩ hM hS hl
                · refine lv_iconst (v := nI 1) hx hb dX6_isSame_78 (by decide) ?_
                  refine lv_goto (tgt := 83) hx hb dX6_isSame_79 (by decide) ?_
                  refine lv_istore_n (lv' := [(3, .int (nI 1)), (4, .int (nI i)), (0, .ref g), (1, .int (nI (ix x))), (2, .int (nI (ix y)))]) hx hb dX6_isSame_83 rfl hl (by decide) rfl (fun ls hl => ?_)
                  refine lv_iinc (v := nI (i + 1)) (lv' := [(4, .int (nI (i + 1))), (3, .int (nI 1)), (0, .ref g), (1, .int (nI (ix x))), (2, .int (nI (ix y)))]) hx hb dX6_isSame_84 hl (k := 1) rfl (r_inc _) (by decide) rfl (fun ls hl => ?_)
                  refine lv_goto (tgt := 36) hx hb dX6_isSame_87 (by decide) ?_
                  refine ih (i + 1) 1 H locs ls (by omega) (by omega) ⟨fun _ j hj => ?_, fun _ => rfl⟩ hM hS hl
                  by_cases q1 : j = i
                  · rw [q1]; exact hg9
                  · exact hI1 j (by omega)
        refine lv_iconst (v := nI 1) hx hb dX6_isSame_31 (by decide) ?_
        refine lv_istore_n (lv' := [(3, .int (nI 1)), (0, .ref g), (1, .int (nI (ix x))), (2, .int (nI (ix y)))]) hx hb dX6_isSame_32 rfl hl (by decide) rfl (fun ls hl => ?_)
        refine lv_iconst (v := nI 0) hx hb dX6_isSame_33 (by decide) ?_
        refine lv_istore (lv' := [(4, .int (nI 0)), (3, .int (nI 1)), (0, .ref g), (1, .int (nI (ix x))), (2, .int (nI (ix y)))]) hx hb dX6_isSame_34 hl (by decide) rfl (fun ls hl => ?_)
        exact lp (2 * S.L) 0 1 _ _ _ (by omega) (by omega) ⟨fun _ j hj => by omega, fun _ => rfl⟩ hM hS hl
      · exact hF _ _ _ _ ls (fun q => hc3 q.2.2.1) hM hS hl
end NM15
