theorem in_X3_add_X3 : ∀ w ∈ wsX30, w ∈ wsX3_add := by decide +kernel
theorem in_X3_subtract_X3 : ∀ w ∈ wsX30, w ∈ wsX3_subtract := by decide +kernel
theorem in_X3_thrice_X3 : ∀ w ∈ wsX30, w ∈ wsX3_thrice := by decide +kernel
-- A NUMBER OF L LIMBS AT AN ADDRESS; A ROW OF n LIMBS
def isN (kA : Nat → ClassId) (M : xM) (a L v : Nat) : Prop := ∃ f : Nat → Int32, M a = some (xI (kA 0) L f) ∧ nn f L ∧ V f L = v
def isA (kA : Nat → ClassId) (M : xM) (a n : Nat) : Prop := ∃ f : Nat → Int32, M a = some (xI (kA 0) n f)
theorem isN.isA {kA : Nat → ClassId} {M : xM} {a L v : Nat} (h : isN kA M a L v) : isA kA M a L := by
  obtain ⟨f, h, -⟩ := h
  exact ⟨f, h⟩
theorem isN.lt {kA : Nat → ClassId} {M : xM} {a L v : Nat} (h : isN kA M a L v) : v < BB ^ L := by
  obtain ⟨f, -, -, h⟩ := h
  rw [← h]
  exact V_lt f L
theorem isN.kept {kA : Nat → ClassId} {M M1 : xM} {a L v : Nat} (h : isN kA M a L v) (e : M1 a = M a) : isN kA M1 a L v := by
  unfold isN
  rw [e]
  exact h
theorem isA.kept {kA : Nat → ClassId} {M M1 : xM} {a L : Nat} (h : isA kA M a L) (e : M1 a = M a) : isA kA M1 a L := by
  unfold isA
  rw [e]
  exact h
theorem isA.ne {kA : Nat → ClassId} {M : xM} {a n b ci : Nat} {fs : List Value} (h : isA kA M a n) (hb : M b = some (xO ci fs)) : b ≠ a := by
  intro q
  subst q
  obtain ⟨f, h⟩ := h
  rw [h] at hb
  cases hb
/-- a Residues at r: its rows lie behind it: modulus, divisor, work, spare, the two rests, the two factors -/
abbrev oRes (r : Nat) (sz sh : Int32) : va_E := xO 2 [.ref (r + 1), .ref (r + 2), .ref (r + 3), .ref (r + 4), .ref (r + 5), .ref (r + 6), .ref (r + 7), .ref (r + 8), .int sz, .int sh]
/-- .. ready to reckon modulo m -/
def Rs (kA : Nat → ClassId) (M : xM) (r L m : Nat) : Prop := ∃ (sz sh : Nat) (fm fd : Nat → Int32), M r = some (oRes r (nI sz) (nI sh)) ∧ M (r + 1) = some (xI (kA 0) L fm) ∧ M (r + 2) = some (xI (kA 0) L fd) ∧ nn fm L ∧ nn fd L ∧ V fm L = m ∧ 0 < sz ∧ sz ≤ L ∧ (∀ j, sz ≤ j → j < L → fm j = 0) ∧ 0 < dg (fm (sz - 1)) ∧ sh < 31 ∧ V fd L = m * 2 ^ sh ∧ (∀ j, sz ≤ j → j < L → fd j = 0) ∧ 1073741824 ≤ dg (fd (sz - 1))
theorem Rs.kept {kA : Nat → ClassId} {M M1 : xM} {r L m : Nat} (h : Rs kA M r L m) (e0 : M1 r = M r) (e1 : M1 (r + 1) = M (r + 1)) (e2 : M1 (r + 2) = M (r + 2)) : Rs kA M1 r L m := by
  unfold Rs
  rw [e0, e1, e2]
  exact h
theorem Rs.pos {kA : Nat → ClassId} {M : xM} {r L m : Nat} (h : Rs kA M r L m) : 0 < m := by
  obtain ⟨sz, sh, fm, fd, -, -, -, -, -, h6, h7, h8, -, h10, -⟩ := h
  have := V_pos (f := fm) (n := L) (k := sz - 1) (by omega) h10
  have := BBp (sz - 1)
  omega
theorem Rs.lt {kA : Nat → ClassId} {M : xM} {r L m : Nat} (h : Rs kA M r L m) : m < BB ^ L := by
  obtain ⟨sz, sh, fm, fd, -, -, -, -, -, h6, -⟩ := h
  rw [← h6]
  exact V_lt fm L
theorem lc0 (x y : Int64) : lg_cmp x y = 0 ↔ x = y := by
  unfold lg_cmp
  by_cases h1 : x > y
  · rw [if_pos h1]
    constructor
    · intro h; exact absurd h (by decide)
    · intro h
      rw [h] at h1
      exact absurd h1 Int64.lt_irrefl
  · rw [if_neg h1]
    by_cases h2 : x = y
    · rw [if_pos h2]
      exact ⟨fun _ => h2, fun _ => rfl⟩
    · rw [if_neg h2]
      exact ⟨fun h => absurd h (by decide), fun h => absurd h h2⟩
theorem l0 {x : Int64} : x = 0 ↔ x.toInt = 0 := ⟨fun h => by rw [h]; rfl, fun h => l_eqI h⟩
section R1
variable {p : Program} {l : Launch} {e : Env} {R : Room} {s : State} {m : MethodId} {args : Array Value} {below : List Frame} {meth : Method} {c : Code} {Q : State → Prop} {cells slots : Nat} {ret : Option FieldType} {D : va_G} {kA : Nat → ClassId} {N0 : Nat}
set_option maxRecDepth 100000 in
theorem ad_27 {M : xM} {r out L mm : Nat} {f fm : Nat → Int32} {sz sh : Int32} {H : Heap} {locs : List Loc} {ls : Array Slot} (C : xC p s m args meth c cX3_add 6 ret RX3 wsX3_add D vwCl (xT kA) N0) (hM : xW D vwCl N0 (xset M out (xI (kA 0) L f)) H) (hS : va_S (xA N0) s.heap H locs) (hob : xset M out (xI (kA 0) L f) r = some (oRes r sz sh)) (hm1 : xset M out (xI (kA 0) L f) (r + 1) = some (xI (kA 0) L fm)) (nf : nn f L) (nm : nn fm L) (hV : V fm L = mm) (hL : L < 1000) (hl : lv_has ls 6 [(0, .ref r), (1, .ref out)])
    (hexit : ∀ (f' : Nat → Int32) (cy : Int) (H : Heap) (locs : List Loc) (ls : Array Slot), nn f' L → (V f' L : Int) + cy * ((BB ^ L : Nat) : Int) = V f L - mm → xW D vwCl N0 (xset M out (xI (kA 0) L f')) H → va_S (xA N0) s.heap H locs → W p l e (xR 1) s m args below meth c H locs 0 0 Q (F0 m 38 ls [])) : W p l e (xR 1) s m args below meth c H locs 0 0 Q (F0 m 27 ls []) := by
  obtain ⟨hx, hb, hml, hown, hts, hr, hlocks, hK, hN⟩ := id C
  refine lv_aload_n hx hb dX3_add_27 rfl (lv_at hl 1 rfl) ?_
  refine lv_aload_n hx hb dX3_add_28 rfl (lv_at hl 1 rfl) ?_
  refine lv_aload_n hx hb dX3_add_29 rfl (lv_at hl 0 rfl) ?_
  refine x_get (v := .ref (r + 1)) hx hb hts in_X3_add_X3 hown hK hM (hob) rfl 0 (by decide) (hts (.fieldLink RX3 9 "LimbCurves$Residues" "modulus" "[I") (by decide +kernel)) (fun _ h9 => h9) rfl dX3_add_30 ?_
  refine lv_iconst (v := (-1)) hx hb dX3_add_33 (by decide) ?_
  refine r_Sl (As := [.ref out, .ref out, .ref (r + 1), .int (-1)]) (rest := []) C hM hS (c_combine l D kA N0 (xset M out (xI (kA 0) L f)) out out (r + 1) L f f fm (-1) (-1) xset_s xset_s hm1 nf nm (by decide) (Or.inr rfl) (by omega)) gX3_add_X1_combine rfl rfl rfl ⟨by decide +kernel, by decide +kernel, (by decide +kernel : (parseMethodDescriptor yX1_combine.desc).map (fun d => d.parameters.length) = some 4)⟩ ⟨Nat.le_of_ble_eq_true rfl, Nat.le_of_ble_eq_true rfl⟩ hl.1 rfl (Nat.le_of_ble_eq_true rfl) dX3_add_34 ⟨Nat.le_of_ble_eq_true rfl, Nat.le_of_ble_eq_true rfl⟩ (fun cy M1 H locs hp hM hS => ?_)
  obtain ⟨f', rfl, nf', hI, c1, c2⟩ := hp
  rw [xset_xset] at hM
  refine lv_pop2_2 hx hb dX3_add_37 rfl ?_
  exact hexit f' cy.toInt H locs ls nf' (by rw [hI, hV]; omega) hM hS
theorem frame1 {M : xM} {out : Nat} {e : va_E} : ∀ b, b ≠ out → xset M out e b = M b := fun b h => xset_n h
set_option maxRecDepth 100000 in
theorem c_add (l : Launch) (D : va_G) (kA : Nat → ClassId) (N0 : Nat) (M : xM) (r L mm out one other u v : Nat) (hr0 : Rs kA M r L mm) (h0 : isA kA M out L) (h1 : isN kA M one L u) (h2 : isN kA M other L v) (hu : u < mm) (hv : v < mm) (hne : out ≠ r + 1) (hL : L < 1000) : cV l yX3_add wsX3_add (xR 1) [.ref r, .ref out, .ref one, .ref other] D kA N0 M (fun M1 => isN kA M1 out L ((u + v) % mm) ∧ ∀ b, b ≠ out → M1 b = M b) := by
  have hmlt := hr0.lt
  obtain ⟨sz, sh, fm, fd, hob, hm, hd, nm, nd, Vm, -⟩ := hr0
  have hro := h0.ne hob
  obtain ⟨f0, h0⟩ := h0
  obtain ⟨f1, h1, n1, V1⟩ := h1
  obtain ⟨f2, h2, n2, V2⟩ := h2
  refine r_met (cc := cX3_add) (maxL := 6) (ret := none) (by decide) rfl (Nat.le_of_ble_eq_true rfl) ?_
  intro p e s m below meth c ls C hM hnm hl
  obtain ⟨hx, hb, hml, hown, hts, hr, hlocks, hK, hN⟩ := id C
  have hS : va_S (xA N0) s.heap s.heap [] := va_S.rf
  have hl : lv_has ls 6 [(0, .ref r), (1, .ref out), (2, .ref one), (3, .ref other)] := hl
  refine lv_aload_n hx hb dX3_add_0 rfl (lv_at hl 1 rfl) ?_
  refine lv_aload_n hx hb dX3_add_1 rfl (lv_at hl 2 rfl) ?_
  refine lv_aload_n hx hb dX3_add_2 rfl (lv_at hl 3 rfl) ?_
  refine lv_iconst (v := nI 1) hx hb dX3_add_3 (by decide) ?_
  refine r_Sl (As := [.ref out, .ref one, .ref other, .int (nI 1)]) (rest := []) C hM hS (c_combine l D kA N0 M out one other L f0 f1 f2 (nI 1) 1 h0 h1 h2 n1 n2 (by decide) (Or.inl rfl) (by omega)) gX3_add_X1_combine rfl rfl rfl ⟨by decide +kernel, by decide +kernel, (by decide +kernel : (parseMethodDescriptor yX1_combine.desc).map (fun d => d.parameters.length) = some 4)⟩ ⟨Nat.le_of_ble_eq_true rfl, Nat.le_of_ble_eq_true rfl⟩ hl.1 rfl (Nat.le_of_ble_eq_true rfl) dX3_add_4 ⟨Nat.le_of_ble_eq_true rfl, Nat.le_of_ble_eq_true rfl⟩ (fun cy M1 H locs hp hM hS => ?_)
  obtain ⟨f, rfl, nf, hI, c1, c2⟩ := hp
  have hob1 : xset M out (xI (kA 0) L f) r = some (oRes r (nI sz) (nI sh)) := by rw [xset_n hro]; exact hob
  have hm1 : xset M out (xI (kA 0) L f) (r + 1) = some (xI (kA 0) L fm) := by rw [xset_n (Ne.symm hne)]; exact hm
  rw [V1, V2, Int.one_mul] at hI
  have hfl := V_lt f L
  have key : mm ≤ u + v → ∀ (f' : Nat → Int32) (cy' : Int), nn f' L → (V f' L : Int) + cy' * ((BB ^ L : Nat) : Int) = V f L - mm → V f' L = (u + v) % mm := by
    intro hge f' cy' nf' hI'
    have e1 : (u + v) % mm = u + v - mm := by
      rw [Nat.mod_eq_sub_mod hge, Nat.mod_eq_of_lt (by omega)]
    rw [e1]
    refine fit_mod (cy := cy' + cy.toInt) (T := (u : Int) + v - mm) ?_ (V_lt f' L) (by omega) (by omega)
    rw [Int.add_mul, ← hI]
    omega
  refine lv_lstore (lv' := [(4, .long cy), (0, .ref r), (1, .ref out), (2, .ref one), (3, .ref other)]) hx hb dX3_add_7 hl (by decide) rfl (fun ls hl => ?_)
  refine lv_lload hx hb dX3_add_9 (lv_at hl 0 rfl) ?_
  refine lv_lconst (v := 0) hx hb dX3_add_11 (by decide) ?_
  refine W.lcmp hx hb dX3_add_12 ?_
  refine lv_if_ne (tgt := 27) hx hb dX3_add_13 (by decide) (fun hc => ?_) (fun hc => ?_)
  · rw [lc0, l0] at hc
    have hge : mm ≤ u + v := by
      have h3 : cy.toInt = -1 ∨ cy.toInt = 1 := by omega
      rcases h3 with h3 | h3
      · rw [h3] at hI; omega
      · rw [h3] at hI; omega
    refine ad_27 C hM hS hob1 hm1 nf nm Vm hL (lv_sub hl [1, 2] rfl) (fun f' cy' H locs ls nf' hI' hM hS => ?_)
    exact r_vret C hM hS (⟨⟨f', xset_s, nf', key hge f' cy' nf' hI'⟩, frame1⟩) dX3_add_38
  · rw [lc0, l0] at hc
    rw [hc, Int.zero_mul, Int.add_zero] at hI
    refine lv_aload_n hx hb dX3_add_16 rfl (lv_at hl 2 rfl) ?_
    refine lv_aload_n hx hb dX3_add_17 rfl (lv_at hl 1 rfl) ?_
    refine x_get (v := .ref (r + 1)) hx hb hts in_X3_add_X3 hown hK hM (hob1) rfl 0 (by decide) (hts (.fieldLink RX3 9 "LimbCurves$Residues" "modulus" "[I") (by decide +kernel)) (fun _ h9 => h9) rfl dX3_add_18 ?_
    refine r_Si (As := [.ref out, .ref (r + 1)]) (rest := []) C hM hS (c_compare l D kA N0 (xset M out (xI (kA 0) L f)) out (r + 1) L f fm xset_s hm1 nf nm (by omega)) gX3_add_X1_compare rfl rfl rfl ⟨by decide +kernel, by decide +kernel, (by decide +kernel : (parseMethodDescriptor yX1_compare.desc).map (fun d => d.parameters.length) = some 2)⟩ ⟨Nat.le_of_ble_eq_true rfl, Nat.le_of_ble_eq_true rfl⟩ hl.1 rfl (Nat.le_of_ble_eq_true rfl) dX3_add_21 ⟨Nat.le_of_ble_eq_true rfl, Nat.le_of_ble_eq_true rfl⟩ (fun q M2 H locs hp hM hS => ?_)
    obtain ⟨eM, hcmp⟩ := hp
    rw [eM] at hM
    rw [Vm] at hcmp
    refine lv_if_lt (tgt := 38) hx hb dX3_add_24 (by decide) (fun hd2 => ?_) (fun hd2 => ?_)
    · have hlt : V f L < mm := by
        rcases hcmp with ⟨h3, h4⟩ | ⟨h3, h4⟩ | ⟨h3, h4⟩
        · rw [h3] at hd2; exact absurd hd2 (by decide)
        · exact h4
        · rw [h3] at hd2; exact absurd hd2 (by decide)
      exact r_vret C hM hS (⟨⟨f, xset_s, nf, by rw [Nat.mod_eq_of_lt (by omega)]; omega⟩, frame1⟩) dX3_add_38
    · have hge : mm ≤ u + v := by
        rcases hcmp with ⟨h3, h4⟩ | ⟨h3, h4⟩ | ⟨h3, h4⟩
        · omega
        · rw [h3] at hd2; exact absurd (by decide) hd2
        · omega
      refine ad_27 C hM hS hob1 hm1 nf nm Vm hL (lv_sub hl [1, 2] rfl) (fun f' cy' H locs ls nf' hI' hM hS => ?_)
      exact r_vret C hM hS (⟨⟨f', xset_s, nf', key hge f' cy' nf' hI'⟩, frame1⟩) dX3_add_38
set_option maxRecDepth 100000 in
theorem c_subtract (l : Launch) (D : va_G) (kA : Nat → ClassId) (N0 : Nat) (M : xM) (r L mm out one other u v : Nat) (sz sh : Int32) (hob : M r = some (oRes r sz sh)) (hmm : isN kA M (r + 1) L mm) (h0 : isA kA M out L) (h1 : isN kA M one L u) (h2 : isN kA M other L v) (hu : u < mm) (hv : v ≤ mm) (hne : out ≠ r + 1) (hL : L < 1000) : cV l yX3_subtract wsX3_subtract (xR 1) [.ref r, .ref out, .ref one, .ref other] D kA N0 M (fun M1 => isN kA M1 out L ((u + (mm - v)) % mm) ∧ ∀ b, b ≠ out → M1 b = M b) := by
  have hmlt := hmm.lt
  obtain ⟨fm, hm, nm, Vm⟩ := hmm
  have hro := h0.ne hob
  obtain ⟨f0, h0⟩ := h0
  obtain ⟨f1, h1, n1, V1⟩ := h1
  obtain ⟨f2, h2, n2, V2⟩ := h2
  refine r_met (cc := cX3_subtract) (maxL := 6) (ret := none) (by decide) rfl (Nat.le_of_ble_eq_true rfl) ?_
  intro p e s m below meth c ls C hM hnm hl
  obtain ⟨hx, hb, hml, hown, hts, hr, hlocks, hK, hN⟩ := id C
  have hS : va_S (xA N0) s.heap s.heap [] := va_S.rf
  have hl : lv_has ls 6 [(0, .ref r), (1, .ref out), (2, .ref one), (3, .ref other)] := hl
  refine lv_aload_n hx hb dX3_subtract_0 rfl (lv_at hl 1 rfl) ?_
  refine lv_aload_n hx hb dX3_subtract_1 rfl (lv_at hl 2 rfl) ?_
  refine lv_aload_n hx hb dX3_subtract_2 rfl (lv_at hl 3 rfl) ?_
  refine lv_iconst (v := (-1)) hx hb dX3_subtract_3 (by decide) ?_
  refine r_Sl (As := [.ref out, .ref one, .ref other, .int (-1)]) (rest := []) C hM hS (c_combine l D kA N0 M out one other L f0 f1 f2 (-1) (-1) h0 h1 h2 n1 n2 (by decide) (Or.inr rfl) (by omega)) gX3_subtract_X1_combine rfl rfl rfl ⟨by decide +kernel, by decide +kernel, (by decide +kernel : (parseMethodDescriptor yX1_combine.desc).map (fun d => d.parameters.length) = some 4)⟩ ⟨Nat.le_of_ble_eq_true rfl, Nat.le_of_ble_eq_true rfl⟩ hl.1 rfl (Nat.le_of_ble_eq_true rfl) dX3_subtract_4 ⟨Nat.le_of_ble_eq_true rfl, Nat.le_of_ble_eq_true rfl⟩ (fun cy M1 H locs hp hM hS => ?_)
  obtain ⟨f, rfl, nf, hI, c1, c2⟩ := hp
  have hob1 : xset M out (xI (kA 0) L f) r = some (oRes r sz sh) := by rw [xset_n hro]; exact hob
  have hm1 : xset M out (xI (kA 0) L f) (r + 1) = some (xI (kA 0) L fm) := by rw [xset_n (Ne.symm hne)]; exact hm
  rw [V1, V2] at hI
  have hfl := V_lt f L
  refine lv_lstore (lv' := [(4, .long cy), (0, .ref r), (1, .ref out), (2, .ref one), (3, .ref other)]) hx hb dX3_subtract_7 hl (by decide) rfl (fun ls hl => ?_)
  refine lv_lload hx hb dX3_subtract_9 (lv_at hl 0 rfl) ?_
  refine lv_lconst (v := 0) hx hb dX3_subtract_11 (by decide) ?_
  refine W.lcmp hx hb dX3_subtract_12 ?_
  refine lv_if_eq (tgt := 27) hx hb dX3_subtract_13 (by decide) (fun hc => ?_) (fun hc => ?_)
  · rw [lc0, l0] at hc
    rw [hc, Int.zero_mul, Int.add_zero] at hI
    refine r_vret C hM hS ⟨⟨f, xset_s, nf, ?_⟩, frame1⟩ dX3_subtract_27
    have e1 : u + (mm - v) = (u - v) + mm := by omega
    rw [e1, Nat.add_mod_right, Nat.mod_eq_of_lt (by omega)]
    omega
  · rw [lc0, l0] at hc
    refine lv_aload_n hx hb dX3_subtract_16 rfl (lv_at hl 2 rfl) ?_
    refine lv_aload_n hx hb dX3_subtract_17 rfl (lv_at hl 2 rfl) ?_
    refine lv_aload_n hx hb dX3_subtract_18 rfl (lv_at hl 1 rfl) ?_
    refine x_get (v := .ref (r + 1)) hx hb hts in_X3_subtract_X3 hown hK hM (hob1) rfl 0 (by decide) (hts (.fieldLink RX3 9 "LimbCurves$Residues" "modulus" "[I") (by decide +kernel)) (fun _ h9 => h9) rfl dX3_subtract_19 ?_
    refine lv_iconst (v := nI 1) hx hb dX3_subtract_22 (by decide) ?_
    refine r_Sl (As := [.ref out, .ref out, .ref (r + 1), .int (nI 1)]) (rest := []) C hM hS (c_combine l D kA N0 (xset M out (xI (kA 0) L f)) out out (r + 1) L f f fm (nI 1) 1 xset_s xset_s hm1 nf nm (by decide) (Or.inl rfl) (by omega)) gX3_subtract_X1_combine rfl rfl rfl ⟨by decide +kernel, by decide +kernel, (by decide +kernel : (parseMethodDescriptor yX1_combine.desc).map (fun d => d.parameters.length) = some 4)⟩ ⟨Nat.le_of_ble_eq_true rfl, Nat.le_of_ble_eq_true rfl⟩ hl.1 rfl (Nat.le_of_ble_eq_true rfl) dX3_subtract_23 ⟨Nat.le_of_ble_eq_true rfl, Nat.le_of_ble_eq_true rfl⟩ (fun cy2 M1 H locs hp hM hS => ?_)
    obtain ⟨f', rfl, nf', hI', c1', c2'⟩ := hp
    rw [xset_xset] at hM
    refine lv_pop2_2 hx hb dX3_subtract_26 rfl ?_
    refine r_vret C hM hS ⟨⟨f', xset_s, nf', ?_⟩, frame1⟩ dX3_subtract_27
    rw [Vm, Int.one_mul] at hI'
    have hlt : u < v := by
      have h3 : cy.toInt = -1 ∨ cy.toInt = 1 := by omega
      rcases h3 with h3 | h3
      · rw [h3] at hI; omega
      · rw [h3] at hI; omega
    rw [Nat.mod_eq_of_lt (by omega)]
    refine fit_mod (cy := cy2.toInt + cy.toInt) (T := (u : Int) - v + mm) ?_ (V_lt f' L) (by omega) (by omega)
    rw [Int.add_mul]
    omega
set_option maxRecDepth 100000 in
theorem c_twice (l : Launch) (D : va_G) (kA : Nat → ClassId) (N0 : Nat) (M : xM) (r L mm out one u : Nat) (hr0 : Rs kA M r L mm) (h0 : isA kA M out L) (h1 : isN kA M one L u) (hu : u < mm) (hne : out ≠ r + 1) (hL : L < 1000) : cV l yX3_twice wsX3_twice (xR 2) [.ref r, .ref out, .ref one] D kA N0 M (fun M1 => isN kA M1 out L ((u + u) % mm) ∧ ∀ b, b ≠ out → M1 b = M b) := by
  have hr1 := hr0
  obtain ⟨sz, sh, fm, fd, hob, -⟩ := hr0
  refine r_met (cc := cX3_twice) (maxL := 3) (ret := none) (by decide) rfl (Nat.le_of_ble_eq_true rfl) ?_
  intro p e s m below meth c ls C hM hnm hl
  obtain ⟨hx, hb, hml, hown, hts, hr, hlocks, hK, hN⟩ := id C
  have hS : va_S (xA N0) s.heap s.heap [] := va_S.rf
  have hl : lv_has ls 3 [(0, .ref r), (1, .ref out), (2, .ref one)] := hl
  refine lv_aload_n hx hb dX3_twice_0 rfl (lv_at hl 0 rfl) ?_
  refine lv_aload_n hx hb dX3_twice_1 rfl (lv_at hl 1 rfl) ?_
  refine lv_aload_n hx hb dX3_twice_2 rfl (lv_at hl 2 rfl) ?_
  refine lv_aload_n hx hb dX3_twice_3 rfl (lv_at hl 2 rfl) ?_
  refine r_Vv (As := [.ref out, .ref one, .ref one]) (rest := []) C hM hS (c_add l D kA N0 M r L mm out one one u u hr1 h0 h1 h1 hu hu hne hL) (hob) rfl gX3_twice_X3_add rfl rfl rfl ⟨rfl, by decide +kernel, by decide +kernel, (by decide +kernel : (parseMethodDescriptor yX3_add.desc).map (fun d => d.parameters.length) = some 3)⟩ ⟨Nat.le_of_ble_eq_true rfl, Nat.le_of_ble_eq_true rfl⟩ hl.1 rfl (Nat.le_of_ble_eq_true rfl) dX3_twice_4 ⟨Nat.le_of_ble_eq_true rfl, Nat.le_of_ble_eq_true rfl⟩ (fun M1 H locs hp hM hS => ?_)
  exact r_vret C hM hS (hp) dX3_twice_7
set_option maxRecDepth 100000 in
theorem c_thrice (l : Launch) (D : va_G) (kA : Nat → ClassId) (N0 : Nat) (M : xM) (r L mm out one u : Nat) (hr0 : Rs kA M r L mm) (hsp : isA kA M (r + 4) L) (h0 : isA kA M out L) (h1 : isN kA M one L u) (hu : u < mm) (hne : out ≠ r + 1) (hn4 : one ≠ r + 4) (hL : L < 1000) : cV l yX3_thrice wsX3_thrice (xR 2) [.ref r, .ref out, .ref one] D kA N0 M (fun M1 => isN kA M1 out L (((u + u) % mm + u) % mm) ∧ isA kA M1 (r + 4) L ∧ ∀ b, b ≠ out → b ≠ r + 4 → M1 b = M b) := by
  have hr1 := hr0
  have hpos := hr0.pos
  obtain ⟨sz, sh, fm, fd, hob, -⟩ := hr0
  refine r_met (cc := cX3_thrice) (maxL := 3) (ret := none) (by decide) rfl (Nat.le_of_ble_eq_true rfl) ?_
  intro p e s m below meth c ls C hM hnm hl
  obtain ⟨hx, hb, hml, hown, hts, hr, hlocks, hK, hN⟩ := id C
  have hS : va_S (xA N0) s.heap s.heap [] := va_S.rf
  have hl : lv_has ls 3 [(0, .ref r), (1, .ref out), (2, .ref one)] := hl
  refine lv_aload_n hx hb dX3_thrice_0 rfl (lv_at hl 0 rfl) ?_
  refine lv_aload_n hx hb dX3_thrice_1 rfl (lv_at hl 0 rfl) ?_
  refine x_get (v := .ref (r + 4)) hx hb hts in_X3_thrice_X3 hown hK hM (hob) rfl 3 (by decide) (hts (.fieldLink RX3 21 "LimbCurves$Residues" "spare" "[I") (by decide +kernel)) (fun _ h9 => h9) rfl dX3_thrice_2 ?_
  refine lv_aload_n hx hb dX3_thrice_5 rfl (lv_at hl 2 rfl) ?_
  refine lv_aload_n hx hb dX3_thrice_6 rfl (lv_at hl 2 rfl) ?_
  refine r_Vv (As := [.ref (r + 4), .ref one, .ref one]) (rest := []) C hM hS (c_add l D kA N0 M r L mm (r + 4) one one u u hr1 hsp h1 h1 hu hu (by omega) hL) (hob) rfl gX3_thrice_X3_add rfl rfl rfl ⟨rfl, by decide +kernel, by decide +kernel, (by decide +kernel : (parseMethodDescriptor yX3_add.desc).map (fun d => d.parameters.length) = some 3)⟩ ⟨Nat.le_of_ble_eq_true rfl, Nat.le_of_ble_eq_true rfl⟩ hl.1 rfl (Nat.le_of_ble_eq_true rfl) dX3_thrice_7 ⟨Nat.le_of_ble_eq_true rfl, Nat.le_of_ble_eq_true rfl⟩ (fun M1 H locs hp hM hS => ?_)
  obtain ⟨ha, hf⟩ := hp
  have hob1 : M1 r = some (oRes r (nI sz) (nI sh)) := by rw [hf r (by omega)]; exact hob
  have hr2 : Rs kA M1 r L mm := hr1.kept (hf _ (by omega)) (hf _ (by omega)) (hf _ (by omega))
  have h0' : isA kA M1 out L := by
    by_cases h : out = r + 4
    · rw [h]; exact ha.isA
    · exact h0.kept (hf _ h)
  refine lv_aload_n hx hb dX3_thrice_10 rfl (lv_at hl 0 rfl) ?_
  refine lv_aload_n hx hb dX3_thrice_11 rfl (lv_at hl 1 rfl) ?_
  refine lv_aload_n hx hb dX3_thrice_12 rfl (lv_at hl 0 rfl) ?_
  refine x_get (v := .ref (r + 4)) hx hb hts in_X3_thrice_X3 hown hK hM (hob1) rfl 3 (by decide) (hts (.fieldLink RX3 21 "LimbCurves$Residues" "spare" "[I") (by decide +kernel)) (fun _ h9 => h9) rfl dX3_thrice_13 ?_
  refine lv_aload_n hx hb dX3_thrice_16 rfl (lv_at hl 2 rfl) ?_
  refine r_Vv (As := [.ref out, .ref (r + 4), .ref one]) (rest := []) C hM hS (c_add l D kA N0 M1 r L mm out (r + 4) one ((u + u) % mm) u hr2 h0' ha (h1.kept (hf _ hn4)) (Nat.mod_lt _ hpos) hu hne hL) (hob1) rfl gX3_thrice_X3_add rfl rfl rfl ⟨rfl, by decide +kernel, by decide +kernel, (by decide +kernel : (parseMethodDescriptor yX3_add.desc).map (fun d => d.parameters.length) = some 3)⟩ ⟨Nat.le_of_ble_eq_true rfl, Nat.le_of_ble_eq_true rfl⟩ hl.1 rfl (Nat.le_of_ble_eq_true rfl) dX3_thrice_17 ⟨Nat.le_of_ble_eq_true rfl, Nat.le_of_ble_eq_true rfl⟩ (fun M2 H locs hp hM hS => ?_)
  obtain ⟨hb, hg⟩ := hp
  refine r_vret C hM hS ⟨hb, ?_, fun b h1 h2 => by rw [hg b h1, hf b h2]⟩ dX3_thrice_20
  by_cases h : r + 4 = out
  · rw [h]; exact hb.isA
  · exact ha.isA.kept (hg _ h)
end R1
