theorem in_X5_feedLimb_X2 : ∀ w ∈ wsX20, w ∈ wsX5_feedLimb := by decide +kernel
theorem in_X5_feedLimb_X5 : ∀ w ∈ wsX50, w ∈ wsX5_feedLimb := by decide +kernel
theorem un_id (f : Nat → Nat) (i : Nat) : un f i (f i) = f := by
  funext j
  by_cases e : j = i
  · rw [e, un_s]
  · rw [un_n e]
theorem fedV_lt {S : St} (h : S.fed < 20) : fedV S = nI S.fed := by unfold fedV; rw [if_pos h]
theorem fedV_ge {S : St} (h : ¬ S.fed < 20) : fedV S = -1 := by unfold fedV; rw [if_neg h]
theorem fedV_no {S : St} (h : S.fed < 20) : fedV S ≠ -1 := by
  rw [fedV_lt h]
  intro q
  have h1 := congrArg Int32.toInt q
  rw [t_nI (by omega)] at h1
  have h2 : (-1 : Int32).toInt = -1 := by decide
  omega
abbrev finS (S : St) : St := if S.fl + 1 = lim S S.fed then mkS S.L S.a S.b S.pr S.sealed 20 0 else mkS S.L S.a S.b S.pr S.sealed S.fed (S.fl + 1)
theorem nn_upd {f : Nat → Int32} {L j : Nat} {w : Int32} (h : nn f L) (hw : 0 ≤ w.toInt) : nn (upd f j w) L := fun i hi => by
  by_cases e : i = j
  · subst e; rw [pk_us]; exact hw
  · rw [pk_un e]; exact h i hi
section CL2
variable {p : Program} {l : Launch} {e : Env} {R : Room} {s : State} {m : MethodId} {args : Array Value} {below : List Frame} {meth : Method} {c : Code} {Q : State → Prop} {cells slots : Nat} {ret : Option FieldType} {D : va_G} {kA : Nat → ClassId} {N0 : Nat}
set_option maxRecDepth 100000 in
theorem fe_58 {M : xM} {h : Nat} {S : St} {w : Int32} {H : Heap} {locs : List Loc} {ls : Array Slot} {post : Int32 → xM → Prop} (C : xC p s m args meth c cX5_feedLimb 2 (some .boolean) RX5 wsX5_feedLimb D vwCl (xT kA) N0) (hM : xW D vwCl N0 M H) (hS : va_S (xA N0) s.heap H locs) (hl : lv_has ls 2 [(0, .ref h), (1, .int w)]) (d : Dc kA M h S) (hf : S.fed < 20) (hfl : S.fl < lim S S.fed) (hL : S.L ≤ 9) (hpost : ∀ M1, Dc kA M1 h (finS S) → (∀ b, b ≠ h → M1 b = M b) → post 1 M1) : W p l e (xR 2) s m args below meth c H locs 0 0 (MQ below (va_Qi post (xB D vwCl (xT kA) N0) (xA N0)) args s 0 0 (xA N0)) (F0 m 58 ls []) := by
  have hlim : lim S S.fed ≤ 18 := by unfold lim; split <;> omega
  have hob := d.ob
  rw [fedV_lt hf] at hob
  obtain ⟨hx, hb, hml, hown, hts, hr, hlocks, hK, hN⟩ := _root_.id C
  refine lv_aload_n hx hb dX5_feedLimb_58 rfl (lv_at hl 0 rfl) ?_
  refine lv_dup hx hb dX5_feedLimb_59 rfl ?_
  refine x_get (v := .int (nI S.fl)) hx hb hts in_X5_feedLimb_X5 hown hK hM (hob) rfl 12 (by decide) (hts (.fieldLink RX5 82 "LimbCurves" "fedLimbs" "I") (by decide +kernel)) (fun _ h9 => h9) rfl dX5_feedLimb_60 ?_
  refine lv_iconst (v := nI 1) hx hb dX5_feedLimb_63 (by decide) ?_
  refine r_iaddN C dX5_feedLimb_64 ?_
  refine x_put (v := .int (nI (S.fl + 1))) (ty := .int) hx hb hts in_X5_feedLimb_X5 tyX5 tyX5_ok nmX5 hown hK hM hS (hob) rfl 12 (by decide) (hts (.fieldLink RX5 82 "LimbCurves" "fedLimbs" "I") (by decide +kernel)) (fun _ h9 => h9) rfl (by decide +kernel) rfl rfl (Nat.le_of_ble_eq_true rfl) dX5_feedLimb_65 (fun H locs hM hS => ?_)
  have hM : xW D vwCl N0 (xset M h (oLc h (nI S.L) (nI S.sealed) (nI S.fed) (nI (S.fl + 1)))) H := hM
  have d1 : Dc kA (xset M h (oLc h (nI S.L) (nI S.sealed) (nI S.fed) (nI (S.fl + 1)))) h (mkS S.L S.a S.b S.pr S.sealed S.fed (S.fl + 1)) := d.fld rfl (by unfold fedV; rw [mk_fd, if_pos hf]) rfl rfl
  have hob1 : xset M h (oLc h (nI S.L) (nI S.sealed) (nI S.fed) (nI (S.fl + 1))) h = some (oLc h (nI S.L) (nI S.sealed) (nI S.fed) (nI (S.fl + 1))) := xset_s
  refine lv_aload_n hx hb dX5_feedLimb_68 rfl (lv_at hl 0 rfl) ?_
  refine x_get (v := .int (nI (S.fl + 1))) hx hb hts in_X5_feedLimb_X5 hown hK hM (hob1) rfl 12 (by decide) (hts (.fieldLink RX5 82 "LimbCurves" "fedLimbs" "I") (by decide +kernel)) (fun _ h9 => h9) rfl dX5_feedLimb_69 ?_
  refine lv_aload_n hx hb dX5_feedLimb_72 rfl (lv_at hl 0 rfl) ?_
  refine lv_aload_n hx hb dX5_feedLimb_73 rfl (lv_at hl 0 rfl) ?_
  refine x_get (v := .int (nI S.fed)) hx hb hts in_X5_feedLimb_X5 hown hK hM (hob1) rfl 11 (by decide) (hts (.fieldLink RX5 79 "LimbCurves" "fedSlot" "I") (by decide +kernel)) (fun _ h9 => h9) rfl dX5_feedLimb_74 ?_
  refine r_Vi (As := [.int (nI S.fed)]) (rest := [.int (nI (S.fl + 1))]) C hM hS (c_limbsOf l D kA N0 (xset M h (oLc h (nI S.L) (nI S.sealed) (nI S.fed) (nI (S.fl + 1)))) h S.fed (mkS S.L S.a S.b S.pr S.sealed S.fed (S.fl + 1)) d1 hf hL) (hob1) rfl gX5_feedLimb_X5_limbsOf rfl rfl rfl ⟨rfl, by decide +kernel, by decide +kernel, (by decide +kernel : (parseMethodDescriptor yX5_limbsOf.desc).map (fun d => d.parameters.length) = some 1)⟩ ⟨Nat.le_of_ble_eq_true rfl, Nat.le_of_ble_eq_true rfl⟩ hl.1 rfl (Nat.le_of_ble_eq_true rfl) dX5_feedLimb_77 ⟨Nat.le_of_ble_eq_true rfl, Nat.le_of_ble_eq_true rfl⟩ (fun v M2 H locs hp hM hS => ?_)
  obtain ⟨eM2, ev⟩ := hp
  rw [eM2] at hM
  have ev : v = nI (lim S S.fed) := ev
  rw [ev]
  refine r_icmp_ltN (tgt := 91) C (by omega) (by omega) dX5_feedLimb_80 (by decide) (fun hc => ?_) (fun hc => ?_)
  · refine lv_iconst (v := nI 1) hx hb dX5_feedLimb_91 (by decide) ?_
    have hfin : finS S = mkS S.L S.a S.b S.pr S.sealed S.fed (S.fl + 1) := if_neg (by omega)
    exact r_zret C hM hS rfl (hpost _ (by rw [hfin]; exact d1) (fun b hb => xset_n hb)) dX5_feedLimb_92
  · refine lv_aload_n hx hb dX5_feedLimb_83 rfl (lv_at hl 0 rfl) ?_
    refine lv_aload_n hx hb dX5_feedLimb_84 rfl (lv_at hl 0 rfl) ?_
    refine x_get (v := .int (nI S.fed)) hx hb hts in_X5_feedLimb_X5 hown hK hM (hob1) rfl 11 (by decide) (hts (.fieldLink RX5 79 "LimbCurves" "fedSlot" "I") (by decide +kernel)) (fun _ h9 => h9) rfl dX5_feedLimb_85 ?_
    refine r_Vv (As := [.int (nI S.fed)]) (rest := []) C hM hS (c_endFeeding l D kA N0 (xset M h (oLc h (nI S.L) (nI S.sealed) (nI S.fed) (nI (S.fl + 1)))) h S.fed (mkS S.L S.a S.b S.pr S.sealed S.fed (S.fl + 1)) d1 hf) (hob1) rfl gX5_feedLimb_X5_endFeeding rfl rfl rfl ⟨rfl, by decide +kernel, by decide +kernel, (by decide +kernel : (parseMethodDescriptor yX5_endFeeding.desc).map (fun d => d.parameters.length) = some 1)⟩ ⟨Nat.le_of_ble_eq_true rfl, Nat.le_of_ble_eq_true rfl⟩ hl.1 rfl (Nat.le_of_ble_eq_true rfl) dX5_feedLimb_88 ⟨Nat.le_of_ble_eq_true rfl, Nat.le_of_ble_eq_true rfl⟩ (fun M3 H locs hp hM hS => ?_)
    obtain ⟨d3, hf3⟩ := hp
    have hfin : finS S = mkS S.L S.a S.b S.pr S.sealed 20 0 := if_pos (by omega)
    have he : endf (mkS S.L S.a S.b S.pr S.sealed S.fed (S.fl + 1)) S.fed = mkS S.L S.a S.b S.pr S.sealed 20 0 := endf_y rfl
    rw [he] at d3
    refine lv_iconst (v := nI 1) hx hb dX5_feedLimb_91 (by decide) ?_
    exact r_zret C hM hS rfl (hpost _ (by rw [hfin]; exact d3) (fun b hb => by rw [hf3 b hb, xset_n hb])) dX5_feedLimb_92
theorem fedS_1 {S : St} {w : Nat} (h : S.fl < S.L) : fedS S w = mkS S.L (un S.a S.fed (S.a S.fed + w * BB ^ S.fl)) S.b (if 4 ≤ S.fed ∧ S.fed < 12 then un S.pr S.fed 1 else S.pr) S.sealed S.fed S.fl := if_pos h
theorem fedS_2 {S : St} {w : Nat} (h : ¬ S.fl < S.L) : fedS S w = mkS S.L S.a (un S.b S.fed (S.b S.fed + w * BB ^ (S.fl - S.L))) (if 4 ≤ S.fed ∧ S.fed < 12 then un S.pr S.fed 1 else S.pr) S.sealed S.fed S.fl := if_neg h
theorem fedS_fed {S : St} {w : Nat} : (fedS S w).fed = S.fed ∧ (fedS S w).fl = S.fl ∧ (fedS S w).L = S.L ∧ (fedS S w).sealed = S.sealed := by
  by_cases h : S.fl < S.L
  · rw [fedS_1 h]; exact ⟨rfl, rfl, rfl, rfl⟩
  · rw [fedS_2 h]; exact ⟨rfl, rfl, rfl, rfl⟩
theorem spFeed_y {S : St} {w : Int32} (h : S.fed < 20) (hw : 0 ≤ w.toInt) : spFeed S w = (1, finS (fedS S (ix w))) := by
  unfold spFeed
  rw [if_pos ⟨h, hw⟩]
  obtain ⟨e1, e2, e3, e4⟩ := fedS_fed (S := S) (w := ix w)
  have hl : lim (fedS S (ix w)) (fedS S (ix w)).fed = lim S S.fed := by unfold lim; rw [e1, e3]
  by_cases q : S.fl + 1 = lim S S.fed
  · rw [if_pos q, show finS (fedS S (ix w)) = _ from if_pos (by rw [hl, e2]; exact q)]
  · rw [if_neg q, show finS (fedS S (ix w)) = _ from if_neg (by rw [hl, e2]; exact q), e2]
set_option maxRecDepth 100000 in
theorem c_feedLimb (l : Launch) (D : va_G) (kA : Nat → ClassId) (N0 : Nat) (M : xM) (h : Nat) (S : St) (w : Int32) (dk : Dk kA M h S) : cI l yX5_feedLimb wsX5_feedLimb (xR 2) [.ref h, .int w] D kA N0 M (fun v M1 => v = (spFeed S w).1 ∧ Dk kA M1 h (spFeed S w).2 ∧ ∀ b, b < h ∨ h + 75 < b → M1 b = M b) := by
  have hsi' := Si_feed dk.1 w
  have dk0 := dk
  obtain ⟨hsi, d, ds⟩ := dk
  have hob := d.ob
  have hL0 := hsi.L1
  have hL9 := hsi.L9
  have hsl := hsi.sl
  refine r_met (cc := cX5_feedLimb) (maxL := 2) (ret := (some .boolean)) (by decide) rfl (Nat.le_of_ble_eq_true rfl) ?_
  intro p e s m below meth c ls C hM hnm hl
  obtain ⟨hx, hb, hml, hown, hts, hr, hlocks, hK, hN⟩ := _root_.id C
  have hS : va_S (xA N0) s.heap s.heap [] := va_S.rf
  have hl : lv_has ls 2 [(0, .ref h), (1, .int w)] := hl
  have hno : ∀ v : Int32, ¬ (S.fed < 20 ∧ 0 ≤ w.toInt) → v = 0 → v = (spFeed S w).1 ∧ Dk kA M h (spFeed S w).2 ∧ ∀ b, b < h ∨ h + 75 < b → M b = M b := fun v q ev => by
    unfold spFeed
    rw [if_neg q]
    exact ⟨ev, dk0, fun _ _ => rfl⟩
  refine lv_aload_n hx hb dX5_feedLimb_0 rfl (lv_at hl 0 rfl) ?_
  refine x_get (v := .int (fedV S)) hx hb hts in_X5_feedLimb_X5 hown hK hM (hob) rfl 11 (by decide) (hts (.fieldLink RX5 79 "LimbCurves" "fedSlot" "I") (by decide +kernel)) (fun _ h9 => h9) rfl dX5_feedLimb_1 ?_
  refine lv_iconst (v := (-1)) hx hb dX5_feedLimb_4 (by decide) ?_
  refine lv_icmp_eq (tgt := 12) hx hb dX5_feedLimb_5 (by decide) (fun hc => ?_) (fun hc => ?_)
  · have hf : ¬ S.fed < 20 := fun q => fedV_no q hc
    refine lv_iconst (v := nI 0) hx hb dX5_feedLimb_12 (by decide) ?_
    exact r_zret C hM hS rfl (hno _ (fun q => hf q.1) rfl) dX5_feedLimb_13
  · have hf : S.fed < 20 := by
      by_cases q : S.fed < 20
      · exact q
      · exact absurd (fedV_ge q) hc
    refine lv_iload_n hx hb dX5_feedLimb_8 rfl (lv_at hl 1 rfl) ?_
    refine lv_if_ge (tgt := 14) hx hb dX5_feedLimb_9 (by decide) (fun hc2 => ?_) (fun hc2 => ?_)
    · rw [ile, t_0] at hc2
      rw [fedV_lt hf] at hob
      obtain ⟨f1, f2, f3, f4⟩ := hsi.fd hf
      have hlim : lim S S.fed ≤ 18 := by unfold lim; split <;> omega
      have hlim2 : lim S S.fed ≤ 2 * S.L := by unfold lim; split <;> omega
      have ht := t_nI (n := S.fed) (by omega)
      refine lv_aload_n hx hb dX5_feedLimb_14 rfl (lv_at hl 0 rfl) ?_
      refine lv_aload_n hx hb dX5_feedLimb_15 rfl (lv_at hl 0 rfl) ?_
      refine x_get (v := .int (nI S.fed)) hx hb hts in_X5_feedLimb_X5 hown hK hM (hob) rfl 11 (by decide) (hts (.fieldLink RX5 79 "LimbCurves" "fedSlot" "I") (by decide +kernel)) (fun _ h9 => h9) rfl dX5_feedLimb_16 ?_
      refine lv_aload_n hx hb dX5_feedLimb_19 rfl (lv_at hl 0 rfl) ?_
      refine x_get (v := .int (nI S.fl)) hx hb hts in_X5_feedLimb_X5 hown hK hM (hob) rfl 12 (by decide) (hts (.fieldLink RX5 82 "LimbCurves" "fedLimbs" "I") (by decide +kernel)) (fun _ h9 => h9) rfl dX5_feedLimb_20 ?_
      refine r_VrQ (As := [.int (nI S.fed), .int (nI S.fl)]) (rest := []) C hM hS (c_rowOf l D kA N0 M h S.fed S.fl S d hf (by omega) hL9) (hob) rfl gX5_feedLimb_X5_rowOf rfl rfl rfl ⟨rfl, by decide +kernel, by decide +kernel, (by decide +kernel : (parseMethodDescriptor yX5_rowOf.desc).map (fun d => d.parameters.length) = some 2)⟩ ⟨Nat.le_of_ble_eq_true rfl, Nat.le_of_ble_eq_true rfl⟩ hl.1 rfl (Nat.le_of_ble_eq_true rfl) dX5_feedLimb_23 ⟨Nat.le_of_ble_eq_true rfl, Nat.le_of_ble_eq_true rfl⟩ (fun ra M3 H locs hp hM hS => ?_)
      obtain ⟨eM3, era⟩ := hp
      have eM3 : M3 = M := eM3
      have era : ra = (if S.fed < 4 then h + 2 + S.fed else if 12 ≤ S.fed then (h + 32 + (S.fed - 12)) else if S.fl < S.L then (h + 7 + 3 * (S.fed - 4)) + 1 else (h + 7 + 3 * (S.fed - 4)) + 2) := era
      rw [eM3] at hM
      refine lv_aload_n hx hb dX5_feedLimb_26 rfl (lv_at hl 0 rfl) ?_
      refine lv_aload_n hx hb dX5_feedLimb_27 rfl (lv_at hl 0 rfl) ?_
      refine x_get (v := .int (nI S.fl)) hx hb hts in_X5_feedLimb_X5 hown hK hM (hob) rfl 12 (by decide) (hts (.fieldLink RX5 82 "LimbCurves" "fedLimbs" "I") (by decide +kernel)) (fun _ h9 => h9) rfl dX5_feedLimb_28 ?_
      refine r_Vi (As := [.int (nI S.fl)]) (rest := [.ref ra]) C hM hS (c_placeInRow l D kA N0 M h S.fl S d (by omega) hL9) (hob) rfl gX5_feedLimb_X5_placeInRow rfl rfl rfl ⟨rfl, by decide +kernel, by decide +kernel, (by decide +kernel : (parseMethodDescriptor yX5_placeInRow.desc).map (fun d => d.parameters.length) = some 1)⟩ ⟨Nat.le_of_ble_eq_true rfl, Nat.le_of_ble_eq_true rfl⟩ hl.1 rfl (Nat.le_of_ble_eq_true rfl) dX5_feedLimb_31 ⟨Nat.le_of_ble_eq_true rfl, Nat.le_of_ble_eq_true rfl⟩ (fun v M4 H locs hp hM hS => ?_)
      obtain ⟨eM4, ev⟩ := hp
      rw [eM4] at hM
      obtain ⟨j, hj⟩ : ∃ j, j = if S.fl < S.L then S.fl else S.fl - S.L := ⟨_, rfl⟩
      rw [← hj] at ev
      rw [ev]
      have hpl : ¬ S.fl < S.L → 4 ≤ S.fed ∧ S.fed < 12 := fun q => by
        unfold lim at f1
        split at f1
        · assumption
        · omega
      have hjL : j < S.L := by
        rw [hj]
        split
        · assumption
        · omega
      have hrow : isN kA M ra S.L (if S.fl < S.L then S.a S.fed else S.b S.fed) := by
        by_cases h4 : S.fed < 4
        · rw [if_pos h4] at era
          rw [if_pos (by omega), era]
          exact d.pa h4
        · rw [if_neg h4] at era
          by_cases h12 : 12 ≤ S.fed
          · rw [if_pos h12] at era
            rw [if_pos (by omega), era]
            exact d.sc h12 hf
          · rw [if_neg h12] at era
            have hpo := d.po (s := S.fed) (by omega) (by omega)
            by_cases hq : S.fl < S.L
            · rw [if_pos hq] at era ⊢
              rw [era]
              exact hpo.2.1
            · rw [if_neg hq] at era ⊢
              rw [era]
              exact hpo.2.2
      obtain ⟨f, hfr, nf, Vf⟩ := hrow
      refine lv_iload_n hx hb dX5_feedLimb_34 rfl (lv_at hl 1 rfl) ?_
      refine r_iast C hM hS (hfr) rfl (by omega) (by omega) dX5_feedLimb_35 (fun H locs hM hS => ?_)
      have hra : h < ra ∧ ra < h + 40 := by
        rw [era]
        split
        · omega
        · split
          · omega
          · split <;> omega
      have hne : ra ≠ h := by omega
      have hob1 : xset M ra (xI (kA 0) S.L (upd f j w)) h = some (oLc h (nI S.L) (nI S.sealed) (nI S.fed) (nI S.fl)) := by rw [xset_n (by omega)]; exact hob
      have hVn : V (upd f j w) S.L = if S.fl < S.L then S.a S.fed + ix w * BB ^ S.fl else S.b S.fed + ix w * BB ^ (S.fl - S.L) := by
        by_cases hq : S.fl < S.L
        · rw [if_pos hq] at hj Vf ⊢
          rw [feed_V nf hjL (by rw [Vf, hj]; exact f2), Vf, hj]
          rfl
        · rw [if_neg hq] at hj Vf ⊢
          rw [feed_V nf hjL (by rw [Vf, hj]; exact f3), Vf, hj]
          rfl
      have hnew : isN kA (xset M ra (xI (kA 0) S.L (upd f j w))) ra S.L (V (upd f j w) S.L) := ⟨_, xset_s, nn_upd nf hc2, rfl⟩
      obtain ⟨e1, e2, e3, e4⟩ := fedS_fed (S := S) (w := ix w)
      have hlimS : lim (fedS S (ix w)) (fedS S (ix w)).fed = lim S S.fed := by unfold lim; rw [e1, e3]
      have hfinL : ∀ S : St, (finS S).L = S.L ∧ (finS S).sealed = S.sealed ∧ (finS S).a = S.a := fun S => by
        by_cases q : S.fl + 1 = lim S S.fed
        · rw [show finS S = mkS S.L S.a S.b S.pr S.sealed 20 0 from if_pos q]; exact ⟨rfl, rfl, rfl⟩
        · rw [show finS S = mkS S.L S.a S.b S.pr S.sealed S.fed (S.fl + 1) from if_neg q]; exact ⟨rfl, rfl, rfl⟩
      have hend : ∀ (M2 : xM), Dc kA M2 h (fedS S (ix w)) → (∀ b, b < h ∨ h + 39 < b → M2 b = M b) → ∀ M1, Dc kA M1 h (finS (fedS S (ix w))) → (∀ b, b ≠ h → M1 b = M2 b) → (1 : Int32) = (spFeed S w).1 ∧ Dk kA M1 h (spFeed S w).2 ∧ ∀ b, b < h ∨ h + 75 < b → M1 b = M b := fun M2 _ g2 M1 d1 g1 => by
        rw [spFeed_y hf hc2] at hsi' ⊢
        refine ⟨rfl, ⟨hsi', d1, ?_⟩, fun b hb => by rw [g1 b (by omega), g2 b (by omega)]⟩
        obtain ⟨l1, l2, l3⟩ := hfinL (fedS S (ix w))
        show Ds kA M1 h (finS (fedS S (ix w))).L (finS (fedS S (ix w))).sealed ((finS (fedS S (ix w))).a 0)
        rw [l1, l2, l3, e3, e4]
        refine (ds.kept (fun b b1 b2 => by rw [g1 b (by omega), g2 b (by omega)])).pp (fun q => ?_)
        have := f4 q
        by_cases hq : S.fl < S.L
        · rw [fedS_1 hq, mk_a, un_n (by omega)]
        · rw [fedS_2 hq, mk_a]
      refine lv_aload_n hx hb dX5_feedLimb_36 rfl (lv_at hl 0 rfl) ?_
      refine x_get (v := .int (nI S.fed)) hx hb hts in_X5_feedLimb_X5 hown hK hM (hob1) rfl 11 (by decide) (hts (.fieldLink RX5 79 "LimbCurves" "fedSlot" "I") (by decide +kernel)) (fun _ h9 => h9) rfl dX5_feedLimb_37 ?_
      refine r_Si (As := [.int (nI S.fed)]) (rest := []) C hM hS (c_isPoint l D kA N0 (xset M ra (xI (kA 0) S.L (upd f j w))) (nI S.fed)) gX5_feedLimb_X5_isPoint rfl rfl rfl ⟨by decide +kernel, by decide +kernel, (by decide +kernel : (parseMethodDescriptor yX5_isPoint.desc).map (fun d => d.parameters.length) = some 1)⟩ ⟨Nat.le_of_ble_eq_true rfl, Nat.le_of_ble_eq_true rfl⟩ hl.1 rfl (Nat.le_of_ble_eq_true rfl) dX5_feedLimb_40 ⟨Nat.le_of_ble_eq_true rfl, Nat.le_of_ble_eq_true rfl⟩ (fun v5 M5 H locs hp hM hS => ?_)
      obtain ⟨eM5, hv5⟩ := hp
      rw [eM5] at hM
      refine lv_if_eq (tgt := 58) hx hb dX5_feedLimb_43 (by decide) (fun hc3 => ?_) (fun hc3 => ?_)
      · have hn : ¬ (4 ≤ S.fed ∧ S.fed < 12) := by
          rcases hv5 with ⟨h1, h2⟩ | ⟨h1, h2⟩
          · rw [h1] at hc3; exact absurd hc3 (by decide)
          · unfold isPo at h2; rw [ht] at h2; omega
        have hq : S.fl < S.L := by
          by_cases q : S.fl < S.L
          · exact q
          · exact absurd (hpl q) hn
        rw [if_pos hq] at hVn
        rw [hVn] at hnew
        have hw : (S.fed < 4 ∧ ra = h + 2 + S.fed) ∨ (12 ≤ S.fed ∧ S.fed < 20 ∧ ra = (h + 32 + (S.fed - 12))) := by
          by_cases h4 : S.fed < 4
          · rw [if_pos h4] at era; exact Or.inl ⟨h4, era⟩
          · rw [if_neg h4, if_pos (by omega)] at era; exact Or.inr ⟨by omega, hf, era⟩
        have d1 : Dc kA (xset M ra (xI (kA 0) S.L (upd f j w))) h (fedS S (ix w)) := by
          rw [fedS_1 hq, if_neg hn]
          exact d.wrN hw hnew (fun _ _ _ => ⟨rfl, rfl⟩) (fun b _ _ hb => xset_n hb)
        exact fe_58 C hM hS hl d1 (by omega) (by rw [hlimS]; omega) (by omega) (hend _ d1 (fun b hb => xset_n (by omega)))
      · have hn : 4 ≤ S.fed ∧ S.fed < 12 := by
          rcases hv5 with ⟨h1, h2⟩ | ⟨h1, h2⟩
          · unfold isPo at h2; rw [ht] at h2; omega
          · exact absurd h1 hc3
        rw [if_neg (by omega), if_neg (by omega)] at era
        have hpo := d.po hn.1 hn.2
        have hp1 : xset M ra (xI (kA 0) S.L (upd f j w)) ((h + 7 + 3 * (S.fed - 4))) = some (oPt ((h + 7 + 3 * (S.fed - 4))) (nI (1 - S.pr S.fed))) := by
          rw [xset_n (by rw [era]; split <;> omega)]
          exact hpo.1
        have dq : Dc kA (xset M ra (xI (kA 0) S.L (upd f j w))) h (if S.fl < S.L then mkS S.L (un S.a S.fed (S.a S.fed + ix w * BB ^ S.fl)) (un S.b S.fed (S.b S.fed)) (un S.pr S.fed (S.pr S.fed)) S.sealed S.fed S.fl else mkS S.L (un S.a S.fed (S.a S.fed)) (un S.b S.fed (S.b S.fed + ix w * BB ^ (S.fl - S.L))) (un S.pr S.fed (S.pr S.fed)) S.sealed S.fed S.fl) := by
          by_cases hq : S.fl < S.L
          · rw [if_pos hq] at era hVn ⊢
            rw [hVn] at hnew
            rw [era] at hnew hp1 ⊢
            exact d.wrP hn.1 hn.2 hp1 hnew (hpo.2.2.kept (xset_n (by omega))) (fun b _ _ hb => xset_n (by omega))
          · rw [if_neg hq] at era hVn ⊢
            rw [hVn] at hnew
            rw [era] at hnew hp1 ⊢
            exact d.wrP hn.1 hn.2 hp1 (hpo.2.1.kept (xset_n (by omega))) hnew (fun b _ _ hb => xset_n (by omega))
        have hq1 := dq.q2
        obtain ⟨S9, eS9⟩ : ∃ S9, S9 = (if S.fl < S.L then mkS S.L (un S.a S.fed (S.a S.fed + ix w * BB ^ S.fl)) (un S.b S.fed (S.b S.fed)) (un S.pr S.fed (S.pr S.fed)) S.sealed S.fed S.fl else mkS S.L (un S.a S.fed (S.a S.fed)) (un S.b S.fed (S.b S.fed + ix w * BB ^ (S.fl - S.L))) (un S.pr S.fed (S.pr S.fed)) S.sealed S.fed S.fl) := ⟨_, rfl⟩
        rw [← eS9] at dq
        refine lv_aload_n hx hb dX5_feedLimb_46 rfl (lv_at hl 0 rfl) ?_
        refine lv_aload_n hx hb dX5_feedLimb_47 rfl (lv_at hl 0 rfl) ?_
        refine x_get (v := .int (nI S.fed)) hx hb hts in_X5_feedLimb_X5 hown hK hM (hob1) rfl 11 (by decide) (hts (.fieldLink RX5 79 "LimbCurves" "fedSlot" "I") (by decide +kernel)) (fun _ h9 => h9) rfl dX5_feedLimb_48 ?_
        refine r_VrQ (As := [.int (nI S.fed)]) (rest := []) C hM hS (c_pointIn l D kA N0 (xset M ra (xI (kA 0) S.L (upd f j w))) h S.fed S9 dq hn.1 hn.2) (hob1) rfl gX5_feedLimb_X5_pointIn rfl rfl rfl ⟨rfl, by decide +kernel, by decide +kernel, (by decide +kernel : (parseMethodDescriptor yX5_pointIn.desc).map (fun d => d.parameters.length) = some 1)⟩ ⟨Nat.le_of_ble_eq_true rfl, Nat.le_of_ble_eq_true rfl⟩ hl.1 rfl (Nat.le_of_ble_eq_true rfl) dX5_feedLimb_51 ⟨Nat.le_of_ble_eq_true rfl, Nat.le_of_ble_eq_true rfl⟩ (fun rp M6 H locs hp hM hS => ?_)
        obtain ⟨eM6, erp⟩ := hp
        have eM6 : M6 = xset M ra (xI (kA 0) S.L (upd f j w)) := eM6
        have erp : rp = (h + 7 + 3 * (S.fed - 4)) := erp
        rw [eM6] at hM
        rw [erp]
        refine lv_iconst (v := nI 0) hx hb dX5_feedLimb_54 (by decide) ?_
        refine x_put (v := .int (nI 0)) (ty := .boolean) hx hb hts in_X5_feedLimb_X2 tyX2 tyX2_ok nmX2 hown hK hM hS (hp1) rfl 2 (by decide) (hts (.fieldLink RX5 110 "LimbCurves$Point" "identity" "Z") (by decide +kernel)) (fun _ h9 => h9) rfl (by decide +kernel) rfl rfl (Nat.le_of_ble_eq_true rfl) dX5_feedLimb_55 (fun H locs hM hS => ?_)
        have hM : xW D vwCl N0 (xset (xset M ra (xI (kA 0) S.L (upd f j w))) ((h + 7 + 3 * (S.fed - 4))) (oPt ((h + 7 + 3 * (S.fed - 4))) (nI 0))) H := hM
        have d1 : Dc kA (xset (xset M ra (xI (kA 0) S.L (upd f j w))) ((h + 7 + 3 * (S.fed - 4))) (oPt ((h + 7 + 3 * (S.fed - 4))) (nI 0))) h (fedS S (ix w)) := by
          by_cases hq : S.fl < S.L
          · rw [fedS_1 hq, if_pos hn]
            rw [if_pos hq] at era hVn
            rw [hVn] at hnew
            rw [era] at hnew ⊢
            have := d.wrP (r := 1) hn.1 hn.2 (M1 := xset (xset M ((h + 7 + 3 * (S.fed - 4)) + 1) (xI (kA 0) S.L (upd f j w))) ((h + 7 + 3 * (S.fed - 4))) (oPt ((h + 7 + 3 * (S.fed - 4))) (nI 0))) xset_s (hnew.kept (xset_n (by omega))) (hpo.2.2.kept (by rw [xset_n (by omega), xset_n (by omega)])) (fun b _ _ hb => by rw [xset_n (by omega), xset_n (by omega)])
            rw [un_id] at this
            exact this
          · rw [fedS_2 hq, if_pos hn]
            rw [if_neg hq] at era hVn
            rw [hVn] at hnew
            rw [era] at hnew ⊢
            have := d.wrP (r := 1) hn.1 hn.2 (M1 := xset (xset M ((h + 7 + 3 * (S.fed - 4)) + 2) (xI (kA 0) S.L (upd f j w))) ((h + 7 + 3 * (S.fed - 4))) (oPt ((h + 7 + 3 * (S.fed - 4))) (nI 0))) xset_s (hpo.2.1.kept (by rw [xset_n (by omega), xset_n (by omega)])) (hnew.kept (xset_n (by omega))) (fun b _ _ hb => by rw [xset_n (by omega), xset_n (by omega)])
            rw [un_id] at this
            exact this
        exact fe_58 C hM hS hl d1 (by omega) (by rw [hlimS]; omega) (by omega) (hend _ d1 (fun b hb => by rw [xset_n (by omega), xset_n (by omega)]))
    · rw [ile, t_0] at hc2
      refine lv_iconst (v := nI 0) hx hb dX5_feedLimb_12 (by decide) ?_
      exact r_zret C hM hS rfl (hno _ (fun q => hc2 q.2) rfl) dX5_feedLimb_13
end CL2
