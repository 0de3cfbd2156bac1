theorem in_X3_takeDivisorAway_X3 : ∀ w ∈ wsX30, w ∈ wsX3_takeDivisorAway := by decide +kernel
theorem mul_bd {G d : Nat} (hG : G < BB) (hd : d < BB) : G * d ≤ 4611686014132420609 := by
  have hB : BB = 2147483648 := rfl
  have : G * d ≤ 2147483647 * 2147483647 := Nat.mul_le_mul (by omega) (by omega)
  omega
theorem tda_v {b g : Int64} {w d : Int32} {G : Nat} (hg : g.toInt = G) (hG : G < BB) (hd : 0 ≤ d.toInt) (hw : 0 ≤ w.toInt) (h1 : -2147483648 ≤ b.toInt) (h2 : b.toInt ≤ 0) : (b + (w.toInt64 - g * d.toInt64)).toInt = b.toInt + ((dg w : Int) + -(G : Int) * (dg d : Int)) ∧ -2147483648 ≤ (b.toInt + ((dg w : Int) + -(G : Int) * (dg d : Int))) / 2147483648 ∧ (b.toInt + ((dg w : Int) + -(G : Int) * (dg d : Int))) / 2147483648 ≤ 0 := by
  have hB : BB = 2147483648 := rfl
  have e1 := dg_int hd
  have e2 := dg_int hw
  have l1 := dg_lt d
  have l2 := dg_lt w
  have hm := mul_bd hG l1
  have hmi : (G : Int) * (dg d : Int) = ((G * dg d : Nat) : Int) := by rw [Int.natCast_mul]
  have hmul : (g * d.toInt64).toInt = (G : Int) * (dg d : Int) := by
    rw [e1]
    refine l_mul hg (l_i2l rfl) ?_ ?_
    · rw [← e1, hmi]; omega
    · rw [← e1, hmi]; omega
  have hsub : (w.toInt64 - g * d.toInt64).toInt = (dg w : Int) - (G : Int) * (dg d : Int) := by
    refine l_sub (l_i2l e2.symm) hmul ?_ ?_ <;> rw [hmi] <;> omega
  rw [Int.neg_mul, ← Int.sub_eq_add_neg]
  refine ⟨l_add rfl hsub ?_ ?_, ?_, ?_⟩ <;> rw [hmi] <;> omega
theorem add_v {b : Int64} {w d : Int32} (hd : 0 ≤ d.toInt) (hw : 0 ≤ w.toInt) (h1 : 0 ≤ b.toInt) (h2 : b.toInt ≤ 1) : (b + (w.toInt64 + d.toInt64)).toInt = b.toInt + ((dg w : Int) + 1 * (dg d : Int)) ∧ 0 ≤ (b.toInt + ((dg w : Int) + 1 * (dg d : Int))) / 2147483648 ∧ (b.toInt + ((dg w : Int) + 1 * (dg d : Int))) / 2147483648 ≤ 1 := by
  have hB : BB = 2147483648 := rfl
  have e1 := dg_int hd
  have e2 := dg_int hw
  have l1 := dg_lt d
  have l2 := dg_lt w
  rw [Int.one_mul]
  exact ⟨l_add rfl (l_add (l_i2l e2.symm) (l_i2l e1.symm) (by omega) (by omega)) (by omega) (by omega), by omega, by omega⟩
theorem dg_out (v : Int64) : dg ((v &&& 2147483647).toInt32) = (v.toInt % 2147483648).toNat := by
  unfold dg
  rw [cmb_o]
section R3
variable {p : Program} {l : Launch} {e : Env} {R : Room} {s : State} {m : MethodId} {args : Array Value} {below : List Frame} {meth : Method} {c : Code} {Q : State → Prop} {cells slots : Nat} {ret : Option FieldType} {D : va_G} {kA : Nat → ClassId} {N0 : Nat}
set_option maxRecDepth 100000 in
theorem lp_away1 {M : xM} {r L W0 sz pl G : Nat} {f0 fd : Nat → Int32} {g : Int64} {sh : Int32} (C : xC p s m args meth c cX3_takeDivisorAway 10 ret RX3 wsX3_takeDivisorAway D vwCl (xT kA) N0) (hob : M r = some (oRes r (nI sz) sh)) (hd : M (r + 2) = some (xI (kA 0) L fd)) (nd : nn fd L) (n0 : ∀ j, pl ≤ j → j ≤ pl + sz → 0 ≤ (f0 j).toInt) (hsz : sz ≤ L) (hL : L < 1000) (hW : W0 < 10000) (hpl : pl + sz < W0) (hg : g.toInt = G) (hG : G < BB)
    (hexit : ∀ (f : Nat → Int32) (b : Int64) (H : Heap) (locs : List Loc) (ls : Array Slot), (∀ j, j < pl ∨ pl + sz ≤ j → f j = f0 j) → (∀ j, pl ≤ j → j < pl + sz → 0 ≤ (f j).toInt) → (Vw f pl sz : Int) + b.toInt * ((BB ^ sz : Nat) : Int) = Vw f0 pl sz + -(G : Int) * V fd sz → -2147483648 ≤ b.toInt → b.toInt ≤ 0 → xW D vwCl N0 (xset M (r + 3) (xI (kA 0) W0 f)) H → va_S (xA N0) s.heap H locs → lv_has ls 10 [(4, .long b), (0, .ref r), (3, .int (nI pl))] → W p l e R s m args below meth c H locs cells slots Q (F0 m 70 ls [])) :
    ∀ (k i : Nat) (f : Nat → Int32) (b : Int64) (H : Heap) (locs : List Loc) (ls : Array Slot), i + k = sz → (∀ j, j < pl ∨ pl + i ≤ j → f j = f0 j) → (∀ j, pl ≤ j → j < pl + i → 0 ≤ (f j).toInt) → (Vw f pl i : Int) + b.toInt * ((BB ^ i : Nat) : Int) = Vw f0 pl i + -(G : Int) * V fd i → -2147483648 ≤ b.toInt → b.toInt ≤ 0 → xW D vwCl N0 (xset M (r + 3) (xI (kA 0) W0 f)) H → va_S (xA N0) s.heap H locs → lv_has ls 10 [(6, .int (nI i)), (4, .long b), (0, .ref r), (1, .long g), (3, .int (nI pl))] → W p l e R s m args below meth c H locs cells slots Q (F0 m 6 ls []) := by
  obtain ⟨hx, hb, hml, hown, hts, hr, hlocks, hK, hN⟩ := id C
  intro k
  induction k with
  | zero =>
    intro i f b H locs ls hi hf hnf hI b1 b2 hM hS hl
    have hob1 : xset M (r + 3) (xI (kA 0) W0 f) r = some (oRes r (nI sz) sh) := by rw [xset_n (by omega)]; exact hob
    refine lv_iload hx hb dX3_takeDivisorAway_6 (lv_at hl 0 rfl) ?_
    refine lv_aload_n hx hb dX3_takeDivisorAway_8 rfl (lv_at hl 2 rfl) ?_
    refine x_get (v := .int (nI sz)) hx hb hts in_X3_takeDivisorAway_X3 hown hK hM (hob1) rfl 8 (by decide) (hts (.fieldLink RX3 36 "LimbCurves$Residues" "size" "I") (by decide +kernel)) (fun _ h9 => h9) rfl dX3_takeDivisorAway_9 ?_
    refine r_icmp_geN (tgt := 70) C (by omega) (by omega) dX3_takeDivisorAway_12 (by decide) (fun hc => ?_) (fun hc => ?_)
    · have hi : i = sz := by omega
      subst hi
      exact hexit f b H locs ls hf hnf hI b1 b2 hM hS (lv_sub hl [1, 2, 4] rfl)
    · omega
  | succ k ih =>
    intro i f b H locs ls hi hf hnf hI b1 b2 hM hS hl
    have hob1 : xset M (r + 3) (xI (kA 0) W0 f) r = some (oRes r (nI sz) sh) := by rw [xset_n (by omega)]; exact hob
    have hd1 : xset M (r + 3) (xI (kA 0) W0 f) (r + 2) = some (xI (kA 0) L fd) := by rw [xset_n (by omega)]; exact hd
    refine lv_iload hx hb dX3_takeDivisorAway_6 (lv_at hl 0 rfl) ?_
    refine lv_aload_n hx hb dX3_takeDivisorAway_8 rfl (lv_at hl 2 rfl) ?_
    refine x_get (v := .int (nI sz)) hx hb hts in_X3_takeDivisorAway_X3 hown hK hM (hob1) rfl 8 (by decide) (hts (.fieldLink RX3 36 "LimbCurves$Residues" "size" "I") (by decide +kernel)) (fun _ h9 => h9) rfl dX3_takeDivisorAway_9 ?_
    refine r_icmp_geN (tgt := 70) C (by omega) (by omega) dX3_takeDivisorAway_12 (by decide) (fun hc => ?_) (fun hc => ?_)
    · omega
    · refine lv_lload hx hb dX3_takeDivisorAway_15 (lv_at hl 1 rfl) ?_
      refine lv_aload_n hx hb dX3_takeDivisorAway_17 rfl (lv_at hl 2 rfl) ?_
      refine x_get (v := .ref (r + 3)) hx hb hts in_X3_takeDivisorAway_X3 hown hK hM (hob1) rfl 2 (by decide) (hts (.fieldLink RX3 18 "LimbCurves$Residues" "work" "[I") (by decide +kernel)) (fun _ h9 => h9) rfl dX3_takeDivisorAway_18 ?_
      refine lv_iload_n hx hb dX3_takeDivisorAway_21 rfl (lv_at hl 4 rfl) ?_
      refine lv_iload hx hb dX3_takeDivisorAway_22 (lv_at hl 0 rfl) ?_
      refine r_iaddN C dX3_takeDivisorAway_24 ?_
      refine r_iald C hM (xset_s) rfl (by omega) (by omega) dX3_takeDivisorAway_25 ?_
      refine lv_i2l (v := (f (pl + i)).toInt64) hx hb dX3_takeDivisorAway_26 rfl ?_
      refine lv_lload_n hx hb dX3_takeDivisorAway_27 rfl (lv_at hl 3 rfl) ?_
      refine lv_aload_n hx hb dX3_takeDivisorAway_28 rfl (lv_at hl 2 rfl) ?_
      refine x_get (v := .ref (r + 2)) hx hb hts in_X3_takeDivisorAway_X3 hown hK hM (hob1) rfl 1 (by decide) (hts (.fieldLink RX3 15 "LimbCurves$Residues" "divisor" "[I") (by decide +kernel)) (fun _ h9 => h9) rfl dX3_takeDivisorAway_29 ?_
      refine lv_iload hx hb dX3_takeDivisorAway_32 (lv_at hl 0 rfl) ?_
      refine r_iald C hM (hd1) rfl (by omega) (by omega) dX3_takeDivisorAway_34 ?_
      refine lv_i2l (v := (fd i).toInt64) hx hb dX3_takeDivisorAway_35 rfl ?_
      refine lv_lmul hx hb dX3_takeDivisorAway_36 ?_
      refine lv_lsub hx hb dX3_takeDivisorAway_37 ?_
      refine lv_ladd hx hb dX3_takeDivisorAway_38 ?_
      refine lv_topl (fun v_1 ev_1 => ?_)
      refine lv_lstore (lv' := [(4, .long v_1), (6, .int (nI i)), (0, .ref r), (1, .long g), (3, .int (nI pl))]) hx hb dX3_takeDivisorAway_39 hl (by decide) rfl (fun ls hl => ?_)
      refine lv_aload_n hx hb dX3_takeDivisorAway_41 rfl (lv_at hl 2 rfl) ?_
      refine x_get (v := .ref (r + 3)) hx hb hts in_X3_takeDivisorAway_X3 hown hK hM (hob1) rfl 2 (by decide) (hts (.fieldLink RX3 18 "LimbCurves$Residues" "work" "[I") (by decide +kernel)) (fun _ h9 => h9) rfl dX3_takeDivisorAway_42 ?_
      refine lv_iload_n hx hb dX3_takeDivisorAway_45 rfl (lv_at hl 4 rfl) ?_
      refine lv_iload hx hb dX3_takeDivisorAway_46 (lv_at hl 1 rfl) ?_
      refine r_iaddN C dX3_takeDivisorAway_48 ?_
      refine lv_lload hx hb dX3_takeDivisorAway_49 (lv_at hl 0 rfl) ?_
      refine lv_ldc2 (v := 2147483647) hx hb hown (hts (.constantLong RX3 90 (2147483647)) (by decide +kernel)) dX3_takeDivisorAway_51 ?_
      refine lv_land hx hb dX3_takeDivisorAway_54 ?_
      refine lv_l2i (v := (v_1 &&& 2147483647).toInt32) hx hb dX3_takeDivisorAway_55 rfl ?_
      refine r_iast C hM hS (xset_s) rfl (by omega) (by omega) dX3_takeDivisorAway_56 (fun H locs hM hS => ?_)
      rw [xset_xset] at hM
      refine lv_lload hx hb dX3_takeDivisorAway_57 (lv_at hl 0 rfl) ?_
      refine lv_bipush (v := nI 31) hx hb dX3_takeDivisorAway_59 (by decide) ?_
      refine lv_lshr (v := v_1 >>> ((nI 31).toInt64 &&& 63)) hx hb dX3_takeDivisorAway_61 rfl ?_
      refine lv_topl (fun v_2 ev_2 => ?_)
      refine lv_lstore (lv' := [(4, .long v_2), (6, .int (nI i)), (0, .ref r), (1, .long g), (3, .int (nI pl))]) hx hb dX3_takeDivisorAway_62 hl (by decide) rfl (fun ls hl => ?_)
      refine lv_iinc (v := nI (i + 1)) (lv' := [(6, .int (nI (i + 1))), (4, .long v_2), (0, .ref r), (1, .long g), (3, .int (nI pl))]) hx hb dX3_takeDivisorAway_64 hl (k := 1) rfl (r_inc _) (by decide) rfl (fun ls hl => ?_)
      refine lv_goto (tgt := 6) hx hb dX3_takeDivisorAway_67 (by decide) ?_
      have hfi : f (pl + i) = f0 (pl + i) := hf _ (Or.inr (Nat.le_refl _))
      have hv := tda_v (b := b) (w := f (pl + i)) (d := fd i) hg hG (nd i (by omega)) (by rw [hfi]; exact n0 _ (by omega) (by omega)) b1 b2
      rw [← ev_1, hfi] at hv
      have hv2 := cmb_c v_1
      rw [← ev_2] at hv2
      have ho := cmb_o v_1
      have hst := cmb_step (d1 := dg (f0 (pl + i))) (d2 := dg (fd i)) hI hv.1
      refine ih (i + 1) (upd f (pl + i) ((v_1 &&& 2147483647).toInt32)) v_2 H locs ls (by omega) (fun j hj => ?_) (fun j h1 h2 => ?_) ?_ ?_ ?_ hM hS (lv_sub hl [0, 1, 2, 3, 4] rfl)
      · rw [pk_un (by omega)]
        exact hf j (by omega)
      · by_cases hq : j = pl + i
        · rw [hq, pk_us, ho]
          omega
        · rw [pk_un hq]
          exact hnf j h1 (by omega)
      · rw [Vw_upd_s, Vw_s, V_s, Nat.pow_succ, hv2, dg_out]
        exact hst
      · rw [hv2, hv.1]
        exact hv.2.1
      · rw [hv2, hv.1]
        exact hv.2.2
set_option maxRecDepth 100000 in
theorem lp_away3 {M : xM} {r L W0 sz pl t : Nat} {f0 fd : Nat → Int32} {B : Int64} {sh : Int32} (C : xC p s m args meth c cX3_takeDivisorAway 10 ret RX3 wsX3_takeDivisorAway D vwCl (xT kA) N0) (hob : M r = some (oRes r (nI sz) sh)) (hd : M (r + 2) = some (xI (kA 0) L fd)) (nd : nn fd L) (n0 : ∀ j, pl ≤ j → j < pl + sz → 0 ≤ (f0 j).toInt) (hsz : sz ≤ L) (hL : L < 1000) (hW : W0 < 10000) (hpl : pl + sz < W0)
    (hexit : ∀ (f : Nat → Int32) (b : Int64) (H : Heap) (locs : List Loc) (ls : Array Slot), (∀ j, j < pl ∨ pl + sz ≤ j → f j = f0 j) → (∀ j, pl ≤ j → j < pl + sz → 0 ≤ (f j).toInt) → (Vw f pl sz : Int) + b.toInt * ((BB ^ sz : Nat) : Int) = Vw f0 pl sz + 1 * V fd sz → 0 ≤ b.toInt → b.toInt ≤ 1 → xW D vwCl N0 (xset M (r + 3) (xI (kA 0) W0 f)) H → va_S (xA N0) s.heap H locs → lv_has ls 10 [(7, .long b), (6, .int (nI t)), (4, .long B), (0, .ref r), (3, .int (nI pl))] → W p l e R s m args below meth c H locs cells slots Q (F0 m 171 ls [])) :
    ∀ (k i : Nat) (f : Nat → Int32) (b : Int64) (H : Heap) (locs : List Loc) (ls : Array Slot), i + k = sz → (∀ j, j < pl ∨ pl + i ≤ j → f j = f0 j) → (∀ j, pl ≤ j → j < pl + i → 0 ≤ (f j).toInt) → (Vw f pl i : Int) + b.toInt * ((BB ^ i : Nat) : Int) = Vw f0 pl i + 1 * V fd i → 0 ≤ b.toInt → b.toInt ≤ 1 → xW D vwCl N0 (xset M (r + 3) (xI (kA 0) W0 f)) H → va_S (xA N0) s.heap H locs → lv_has ls 10 [(9, .int (nI i)), (7, .long b), (6, .int (nI t)), (4, .long B), (0, .ref r), (3, .int (nI pl))] → W p l e R s m args below meth c H locs cells slots Q (F0 m 109 ls []) := by
  obtain ⟨hx, hb, hml, hown, hts, hr, hlocks, hK, hN⟩ := id C
  intro k
  induction k with
  | zero =>
    intro i f b H locs ls hi hf hnf hI b1 b2 hM hS hl
    have hob1 : xset M (r + 3) (xI (kA 0) W0 f) r = some (oRes r (nI sz) sh) := by rw [xset_n (by omega)]; exact hob
    refine lv_iload hx hb dX3_takeDivisorAway_109 (lv_at hl 0 rfl) ?_
    refine lv_aload_n hx hb dX3_takeDivisorAway_111 rfl (lv_at hl 4 rfl) ?_
    refine x_get (v := .int (nI sz)) hx hb hts in_X3_takeDivisorAway_X3 hown hK hM (hob1) rfl 8 (by decide) (hts (.fieldLink RX3 36 "LimbCurves$Residues" "size" "I") (by decide +kernel)) (fun _ h9 => h9) rfl dX3_takeDivisorAway_112 ?_
    refine r_icmp_geN (tgt := 171) C (by omega) (by omega) dX3_takeDivisorAway_115 (by decide) (fun hc => ?_) (fun hc => ?_)
    · have hi : i = sz := by omega
      subst hi
      exact hexit f b H locs ls hf hnf hI b1 b2 hM hS (lv_sub hl [1, 2, 3, 4, 5] rfl)
    · omega
  | succ k ih =>
    intro i f b H locs ls hi hf hnf hI b1 b2 hM hS hl
    have hob1 : xset M (r + 3) (xI (kA 0) W0 f) r = some (oRes r (nI sz) sh) := by rw [xset_n (by omega)]; exact hob
    have hd1 : xset M (r + 3) (xI (kA 0) W0 f) (r + 2) = some (xI (kA 0) L fd) := by rw [xset_n (by omega)]; exact hd
    refine lv_iload hx hb dX3_takeDivisorAway_109 (lv_at hl 0 rfl) ?_
    refine lv_aload_n hx hb dX3_takeDivisorAway_111 rfl (lv_at hl 4 rfl) ?_
    refine x_get (v := .int (nI sz)) hx hb hts in_X3_takeDivisorAway_X3 hown hK hM (hob1) rfl 8 (by decide) (hts (.fieldLink RX3 36 "LimbCurves$Residues" "size" "I") (by decide +kernel)) (fun _ h9 => h9) rfl dX3_takeDivisorAway_112 ?_
    refine r_icmp_geN (tgt := 171) C (by omega) (by omega) dX3_takeDivisorAway_115 (by decide) (fun hc => ?_) (fun hc => ?_)
    · omega
    · refine lv_lload hx hb dX3_takeDivisorAway_118 (lv_at hl 1 rfl) ?_
      refine lv_aload_n hx hb dX3_takeDivisorAway_120 rfl (lv_at hl 4 rfl) ?_
      refine x_get (v := .ref (r + 3)) hx hb hts in_X3_takeDivisorAway_X3 hown hK hM (hob1) rfl 2 (by decide) (hts (.fieldLink RX3 18 "LimbCurves$Residues" "work" "[I") (by decide +kernel)) (fun _ h9 => h9) rfl dX3_takeDivisorAway_121 ?_
      refine lv_iload_n hx hb dX3_takeDivisorAway_124 rfl (lv_at hl 5 rfl) ?_
      refine lv_iload hx hb dX3_takeDivisorAway_125 (lv_at hl 0 rfl) ?_
      refine r_iaddN C dX3_takeDivisorAway_127 ?_
      refine r_iald C hM (xset_s) rfl (by omega) (by omega) dX3_takeDivisorAway_128 ?_
      refine lv_i2l (v := (f (pl + i)).toInt64) hx hb dX3_takeDivisorAway_129 rfl ?_
      refine lv_aload_n hx hb dX3_takeDivisorAway_130 rfl (lv_at hl 4 rfl) ?_
      refine x_get (v := .ref (r + 2)) hx hb hts in_X3_takeDivisorAway_X3 hown hK hM (hob1) rfl 1 (by decide) (hts (.fieldLink RX3 15 "LimbCurves$Residues" "divisor" "[I") (by decide +kernel)) (fun _ h9 => h9) rfl dX3_takeDivisorAway_131 ?_
      refine lv_iload hx hb dX3_takeDivisorAway_134 (lv_at hl 0 rfl) ?_
      refine r_iald C hM (hd1) rfl (by omega) (by omega) dX3_takeDivisorAway_136 ?_
      refine lv_i2l (v := (fd i).toInt64) hx hb dX3_takeDivisorAway_137 rfl ?_
      refine lv_ladd hx hb dX3_takeDivisorAway_138 ?_
      refine lv_ladd hx hb dX3_takeDivisorAway_139 ?_
      refine lv_topl (fun v_3 ev_3 => ?_)
      refine lv_lstore (lv' := [(7, .long v_3), (9, .int (nI i)), (6, .int (nI t)), (4, .long B), (0, .ref r), (3, .int (nI pl))]) hx hb dX3_takeDivisorAway_140 hl (by decide) rfl (fun ls hl => ?_)
      refine lv_aload_n hx hb dX3_takeDivisorAway_142 rfl (lv_at hl 4 rfl) ?_
      refine x_get (v := .ref (r + 3)) hx hb hts in_X3_takeDivisorAway_X3 hown hK hM (hob1) rfl 2 (by decide) (hts (.fieldLink RX3 18 "LimbCurves$Residues" "work" "[I") (by decide +kernel)) (fun _ h9 => h9) rfl dX3_takeDivisorAway_143 ?_
      refine lv_iload_n hx hb dX3_takeDivisorAway_146 rfl (lv_at hl 5 rfl) ?_
      refine lv_iload hx hb dX3_takeDivisorAway_147 (lv_at hl 1 rfl) ?_
      refine r_iaddN C dX3_takeDivisorAway_149 ?_
      refine lv_lload hx hb dX3_takeDivisorAway_150 (lv_at hl 0 rfl) ?_
      refine lv_ldc2 (v := 2147483647) hx hb hown (hts (.constantLong RX3 90 (2147483647)) (by decide +kernel)) dX3_takeDivisorAway_152 ?_
      refine lv_land hx hb dX3_takeDivisorAway_155 ?_
      refine lv_l2i (v := (v_3 &&& 2147483647).toInt32) hx hb dX3_takeDivisorAway_156 rfl ?_
      refine r_iast C hM hS (xset_s) rfl (by omega) (by omega) dX3_takeDivisorAway_157 (fun H locs hM hS => ?_)
      rw [xset_xset] at hM
      refine lv_lload hx hb dX3_takeDivisorAway_158 (lv_at hl 0 rfl) ?_
      refine lv_bipush (v := nI 31) hx hb dX3_takeDivisorAway_160 (by decide) ?_
      refine lv_lshr (v := v_3 >>> ((nI 31).toInt64 &&& 63)) hx hb dX3_takeDivisorAway_162 rfl ?_
      refine lv_topl (fun v_4 ev_4 => ?_)
      refine lv_lstore (lv' := [(7, .long v_4), (9, .int (nI i)), (6, .int (nI t)), (4, .long B), (0, .ref r), (3, .int (nI pl))]) hx hb dX3_takeDivisorAway_163 hl (by decide) rfl (fun ls hl => ?_)
      refine lv_iinc (v := nI (i + 1)) (lv' := [(9, .int (nI (i + 1))), (7, .long v_4), (6, .int (nI t)), (4, .long B), (0, .ref r), (3, .int (nI pl))]) hx hb dX3_takeDivisorAway_165 hl (k := 1) rfl (r_inc _) (by decide) rfl (fun ls hl => ?_)
      refine lv_goto (tgt := 109) hx hb dX3_takeDivisorAway_168 (by decide) ?_
      have hfi : f (pl + i) = f0 (pl + i) := hf _ (Or.inr (Nat.le_refl _))
      have hv := add_v (b := b) (w := f (pl + i)) (d := fd i) (nd i (by omega)) (by rw [hfi]; exact n0 _ (by omega) (by omega)) b1 b2
      rw [← ev_3, hfi] at hv
      have hv2 := cmb_c v_3
      rw [← ev_4] at hv2
      have ho := cmb_o v_3
      have hst := cmb_step (d1 := dg (f0 (pl + i))) (d2 := dg (fd i)) hI hv.1
      refine ih (i + 1) (upd f (pl + i) ((v_3 &&& 2147483647).toInt32)) v_4 H locs ls (by omega) (fun j hj => ?_) (fun j h1 h2 => ?_) ?_ ?_ ?_ hM hS (lv_sub hl [0, 1, 2, 3, 4, 5] rfl)
      · rw [pk_un (by omega)]
        exact hf j (by omega)
      · by_cases hq : j = pl + i
        · rw [hq, pk_us, ho]
          omega
        · rw [pk_un hq]
          exact hnf j h1 (by omega)
      · rw [Vw_upd_s, Vw_s, V_s, Nat.pow_succ, hv2, dg_out]
        exact hst
      · rw [hv2, hv.1]
        exact hv.2.1
      · rw [hv2, hv.1]
        exact hv.2.2
set_option maxRecDepth 100000 in
theorem lp_away2 {M : xM} {r L W0 sz pl : Nat} {f0 fd : Nat → Int32} {X : Int} {sh : Int32} (C : xC p s m args meth c cX3_takeDivisorAway 10 ret RX3 wsX3_takeDivisorAway D vwCl (xT kA) N0) (hob : M r = some (oRes r (nI sz) sh)) (hd : M (r + 2) = some (xI (kA 0) L fd)) (nd : nn fd L) (hsz : sz ≤ L) (hL : L < 1000) (hW : W0 < 10000) (hpl : pl + sz < W0) (hX : 0 ≤ X + 2 * V fd sz)
    (hexit : ∀ (f : Nat → Int32) (B : Int64) (t : Nat) (H : Heap) (locs : List Loc) (ls : Array Slot), (∀ j, j < pl ∨ pl + sz ≤ j → f j = f0 j) → (∀ j, pl ≤ j → j < pl + sz → 0 ≤ (f j).toInt) → (Vw f pl sz : Int) + B.toInt * ((BB ^ sz : Nat) : Int) = X + t * V fd sz → X + t * V fd sz < V fd sz → 0 ≤ B.toInt → xW D vwCl N0 (xset M (r + 3) (xI (kA 0) W0 f)) H → va_S (xA N0) s.heap H locs → lv_has ls 10 [(0, .ref r), (3, .int (nI pl))] → W p l e R s m args below meth c H locs cells slots Q (F0 m 184 ls [])) :
    ∀ (k t : Nat) (f : Nat → Int32) (B : Int64) (H : Heap) (locs : List Loc) (ls : Array Slot), t + k = 2 → (∀ j, j < pl ∨ pl + sz ≤ j → f j = f0 j) → (∀ j, pl ≤ j → j < pl + sz → 0 ≤ (f j).toInt) → (Vw f pl sz : Int) + B.toInt * ((BB ^ sz : Nat) : Int) = X + t * V fd sz → X + t * V fd sz < V fd sz → -2147483648 ≤ B.toInt → B.toInt ≤ 2147483648 + t → xW D vwCl N0 (xset M (r + 3) (xI (kA 0) W0 f)) H → va_S (xA N0) s.heap H locs → lv_has ls 10 [(6, .int (nI t)), (4, .long B), (0, .ref r), (3, .int (nI pl))] → W p l e R s m args below meth c H locs cells slots Q (F0 m 90 ls []) := by
  obtain ⟨hx, hb, hml, hown, hts, hr, hlocks, hK, hN⟩ := id C
  intro k
  induction k with
  | zero =>
    intro t f B H locs ls ht hf hnf hI hlt b1 b2 hM hS hl
    refine lv_iload hx hb dX3_takeDivisorAway_90 (lv_at hl 0 rfl) ?_
    refine lv_iconst (v := nI 2) hx hb dX3_takeDivisorAway_92 (by decide) ?_
    refine r_icmp_geN (tgt := 184) C (by omega) (by omega) dX3_takeDivisorAway_93 (by decide) (fun hc => ?_) (fun hc => ?_)
    · have ht2 : t = 2 := by omega
      subst ht2
      have hB : 0 ≤ B.toInt := by
        have h1 := Vw_lt f pl sz
        rcases Int.lt_or_le B.toInt 0 with h | h
        · have h2 : B.toInt * ((BB ^ sz : Nat) : Int) ≤ (-1) * ((BB ^ sz : Nat) : Int) := Int.mul_le_mul_of_nonneg_right (by omega) (by omega)
          have h3 : ((2 : Nat) : Int) = 2 := rfl
          rw [h3] at hI
          omega
        · exact h
      exact hexit f B 2 H locs ls hf hnf hI hlt hB hM hS (lv_sub hl [2, 3] rfl)
    · omega
  | succ k ih =>
    intro t f B H locs ls ht hf hnf hI hlt b1 b2 hM hS hl
    refine lv_iload hx hb dX3_takeDivisorAway_90 (lv_at hl 0 rfl) ?_
    refine lv_iconst (v := nI 2) hx hb dX3_takeDivisorAway_92 (by decide) ?_
    refine r_icmp_geN (tgt := 184) C (by omega) (by omega) dX3_takeDivisorAway_93 (by decide) (fun hc => ?_) (fun hc => ?_)
    · omega
    · refine lv_lload hx hb dX3_takeDivisorAway_96 (lv_at hl 1 rfl) ?_
      refine lv_lconst (v := 0) hx hb dX3_takeDivisorAway_98 (by decide) ?_
      refine W.lcmp hx hb dX3_takeDivisorAway_99 ?_
      refine lv_if_ge (tgt := 184) hx hb dX3_takeDivisorAway_100 (by decide) (fun hd2 => ?_) (fun hd2 => ?_)
      · rw [lg_cmp_ge, l_le] at hd2
        exact hexit f B t H locs ls hf hnf hI hlt hd2 hM hS (lv_sub hl [2, 3] rfl)
      · rw [lg_cmp_ge, l_le] at hd2
        have h0 : (0 : Int64).toInt = 0 := rfl
        rw [h0] at hd2
        have hneg : X + t * V fd sz < 0 := by
          have h1 := Vw_lt f pl sz
          have h2 : B.toInt * ((BB ^ sz : Nat) : Int) ≤ (-1) * ((BB ^ sz : Nat) : Int) := Int.mul_le_mul_of_nonneg_right (by omega) (by omega)
          omega
        refine lv_lconst (v := 0) hx hb dX3_takeDivisorAway_103 (by decide) ?_
        refine lv_lstore (lv' := [(7, .long 0), (6, .int (nI t)), (4, .long B), (0, .ref r), (3, .int (nI pl))]) hx hb dX3_takeDivisorAway_104 hl (by decide) rfl (fun ls hl => ?_)
        refine lv_iconst (v := nI 0) hx hb dX3_takeDivisorAway_106 (by decide) ?_
        refine lv_istore (lv' := [(9, .int (nI 0)), (7, .long 0), (6, .int (nI t)), (4, .long B), (0, .ref r), (3, .int (nI pl))]) hx hb dX3_takeDivisorAway_107 hl (by decide) rfl (fun ls hl => ?_)
        refine lp_away3 (f0 := f) (t := t) (B := B) C hob hd nd hnf hsz hL hW hpl (fun f' b H locs ls hf' hnf' hI' c1 c2 hM hS hl => ?_) sz 0 f 0 H locs ls (by omega) (fun j hj => rfl) (fun j h1 h2 => by omega) (by simp [Vw_0, V_0]) (by decide) (by decide) hM hS (lv_sub hl [0, 1, 2, 3, 4, 5] rfl)
        refine lv_lload hx hb dX3_takeDivisorAway_171 (lv_at hl 2 rfl) ?_
        refine lv_lload hx hb dX3_takeDivisorAway_173 (lv_at hl 0 rfl) ?_
        refine lv_ladd hx hb dX3_takeDivisorAway_175 ?_
        refine lv_topl (fun v_5 ev_5 => ?_)
        refine lv_lstore (lv' := [(4, .long v_5), (7, .long b), (6, .int (nI t)), (0, .ref r), (3, .int (nI pl))]) hx hb dX3_takeDivisorAway_176 hl (by decide) rfl (fun ls hl => ?_)
        refine lv_iinc (v := nI (t + 1)) (lv' := [(6, .int (nI (t + 1))), (4, .long v_5), (7, .long b), (0, .ref r), (3, .int (nI pl))]) hx hb dX3_takeDivisorAway_178 hl (k := 2) rfl (r_inc _) (by decide) rfl (fun ls hl => ?_)
        refine lv_goto (tgt := 90) hx hb dX3_takeDivisorAway_181 (by decide) ?_
        have hv : v_5.toInt = B.toInt + b.toInt := by rw [ev_5]; exact l_add rfl rfl (by omega) (by omega)
        refine ih (t + 1) f' v_5 H locs ls (by omega) (fun j hj => by rw [hf' j hj]; exact hf j hj) hnf' ?_ ?_ (by omega) (by omega) hM hS (lv_sub hl [0, 1, 3, 4] rfl)
        · rw [hv, Int.add_mul, Int.natCast_add, Int.add_mul]
          have e1 : ((1 : Nat) : Int) * (V fd sz : Int) = 1 * V fd sz := rfl
          rw [e1]
          omega
        · rw [Int.natCast_add, Int.add_mul]
          have e1 : ((1 : Nat) : Int) * (V fd sz : Int) = V fd sz := Int.one_mul _
          rw [e1]
          omega
set_option maxRecDepth 100000 in
theorem c_takeDivisorAway (l : Launch) (D : va_G) (kA : Nat → ClassId) (N0 : Nat) (M : xM) (r L W0 sz pl G : Nat) (f0 fd : Nat → Int32) (g : Int64) (sh : Int32) (hob : M r = some (oRes r (nI sz) sh)) (hd : M (r + 2) = some (xI (kA 0) L fd)) (hw : M (r + 3) = some (xI (kA 0) W0 f0)) (nd : nn fd L) (n0 : ∀ j, pl ≤ j → j ≤ pl + sz → 0 ≤ (f0 j).toInt) (hsz : sz ≤ L) (hL : L < 1000) (hW : W0 < 10000) (hpl : pl + sz < W0) (hg : g.toInt = G) (hG : G < BB) (hDv : 0 < V fd sz) (q1 : Vw f0 pl (sz + 1) / V fd sz ≤ G) (q2 : G ≤ Vw f0 pl (sz + 1) / V fd sz + 2) : cV l yX3_takeDivisorAway wsX3_takeDivisorAway (xR 0) [.ref r, .long g, .int (nI pl)] D kA N0 M (fun M1 => ∃ f, M1 = xset M (r + 3) (xI (kA 0) W0 f) ∧ (∀ j, j < pl ∨ pl + sz < j → f j = f0 j) ∧ (∀ j, pl ≤ j → j ≤ pl + sz → 0 ≤ (f j).toInt) ∧ f (pl + sz) = 0 ∧ Vw f pl sz = Vw f0 pl (sz + 1) % V fd sz) := by
  refine r_met (cc := cX3_takeDivisorAway) (maxL := 10) (ret := none) (by decide) rfl (Nat.le_of_ble_eq_true rfl) ?_
  intro p e s m below meth c ls C hM hnm hl
  obtain ⟨hx, hb, hml, hown, hts, hr, hlocks, hK, hN⟩ := id C
  have hS : va_S (xA N0) s.heap s.heap [] := va_S.rf
  have hl : lv_has ls 10 [(0, .ref r), (1, .long g), (3, .int (nI pl))] := hl
  refine lv_lconst (v := 0) hx hb dX3_takeDivisorAway_0 (by decide) ?_
  refine lv_lstore (lv' := [(4, .long 0), (0, .ref r), (1, .long g), (3, .int (nI pl))]) hx hb dX3_takeDivisorAway_1 hl (by decide) rfl (fun ls hl => ?_)
  refine lv_iconst (v := nI 0) hx hb dX3_takeDivisorAway_3 (by decide) ?_
  refine lv_istore (lv' := [(6, .int (nI 0)), (4, .long 0), (0, .ref r), (1, .long g), (3, .int (nI pl))]) hx hb dX3_takeDivisorAway_4 hl (by decide) rfl (fun ls hl => ?_)
  have hM' : xW D vwCl N0 (xset M (r + 3) (xI (kA 0) W0 f0)) s.heap := by rw [xset_id hw]; exact hM
  refine lp_away1 C hob hd nd n0 hsz hL hW hpl hg hG (fun f b H locs ls hf hnf hI b1 b2 hM hS hl => ?_) sz 0 f0 0 s.heap [] ls (by omega) (fun j hj => rfl) (fun j h1 h2 => by omega) (by simp [Vw_0, V_0]) (by decide) (by decide) hM' hS (lv_sub hl [0, 1, 2, 3, 4] rfl)
  have hob1 : xset M (r + 3) (xI (kA 0) W0 f) r = some (oRes r (nI sz) sh) := by rw [xset_n (by omega)]; exact hob
  refine lv_lload hx hb dX3_takeDivisorAway_70 (lv_at hl 0 rfl) ?_
  refine lv_aload_n hx hb dX3_takeDivisorAway_72 rfl (lv_at hl 1 rfl) ?_
  refine x_get (v := .ref (r + 3)) hx hb hts in_X3_takeDivisorAway_X3 hown hK hM (hob1) rfl 2 (by decide) (hts (.fieldLink RX3 18 "LimbCurves$Residues" "work" "[I") (by decide +kernel)) (fun _ h9 => h9) rfl dX3_takeDivisorAway_73 ?_
  refine lv_iload_n hx hb dX3_takeDivisorAway_76 rfl (lv_at hl 2 rfl) ?_
  refine lv_aload_n hx hb dX3_takeDivisorAway_77 rfl (lv_at hl 1 rfl) ?_
  refine x_get (v := .int (nI sz)) hx hb hts in_X3_takeDivisorAway_X3 hown hK hM (hob1) rfl 8 (by decide) (hts (.fieldLink RX3 36 "LimbCurves$Residues" "size" "I") (by decide +kernel)) (fun _ h9 => h9) rfl dX3_takeDivisorAway_78 ?_
  refine r_iaddN C dX3_takeDivisorAway_81 ?_
  refine r_iald C hM (xset_s) rfl (by omega) (by omega) dX3_takeDivisorAway_82 ?_
  refine lv_i2l (v := (f (pl + sz)).toInt64) hx hb dX3_takeDivisorAway_83 rfl ?_
  refine lv_ladd hx hb dX3_takeDivisorAway_84 ?_
  refine lv_topl (fun v_6 ev_6 => ?_)
  refine lv_lstore (lv' := [(4, .long v_6), (0, .ref r), (3, .int (nI pl))]) hx hb dX3_takeDivisorAway_85 hl (by decide) rfl (fun ls hl => ?_)
  refine lv_iconst (v := nI 0) hx hb dX3_takeDivisorAway_87 (by decide) ?_
  refine lv_istore (lv' := [(6, .int (nI 0)), (4, .long v_6), (0, .ref r), (3, .int (nI pl))]) hx hb dX3_takeDivisorAway_88 hl (by decide) rfl (fun ls hl => ?_)
  have hft : f (pl + sz) = f0 (pl + sz) := hf _ (Or.inr (Nat.le_refl _))
  have nt := n0 (pl + sz) (by omega) (Nat.le_refl _)
  have dt := dg_int nt
  have lt := dg_lt (f0 (pl + sz))
  have hB : BB = 2147483648 := rfl
  rw [hft] at ev_6
  have hv : v_6.toInt = b.toInt + dg (f0 (pl + sz)) := by rw [ev_6]; exact l_add rfl (l_i2l dt.symm) (by omega) (by omega)
  have hU : (Vw f0 pl (sz + 1) : Int) = Vw f0 pl sz + dg (f0 (pl + sz)) * ((BB ^ sz : Nat) : Int) := by rw [Vw_s, Int.natCast_add, Int.natCast_mul]
  obtain ⟨X, hX⟩ : ∃ X : Int, X = (Vw f0 pl (sz + 1) : Int) - G * V fd sz := ⟨_, rfl⟩
  have hdm := Nat.div_add_mod (Vw f0 pl (sz + 1)) (V fd sz)
  have hml := Nat.mod_lt (Vw f0 pl (sz + 1)) hDv
  have hQ := kn_rest hDv q1
  obtain ⟨dl, hdl⟩ : ∃ dl : Nat, G - Vw f0 pl (sz + 1) / V fd sz = dl := ⟨_, rfl⟩
  rw [hdl] at hQ
  have hX2 : X + dl * V fd sz = ((Vw f0 pl (sz + 1) % V fd sz : Nat) : Int) := by rw [hX]; exact hQ
  have hdl2 : (dl : Int) * V fd sz ≤ 2 * V fd sz := Int.mul_le_mul_of_nonneg_right (by omega) (by omega)
  have hdl0 : (0 : Int) ≤ dl * V fd sz := Int.mul_nonneg (by omega) (by omega)
  have hex : ∀ (f : Nat → Int32) (B : Int64) (t : Nat), (Vw f pl sz : Int) + B.toInt * ((BB ^ sz : Nat) : Int) = X + t * V fd sz → X + t * V fd sz < V fd sz → 0 ≤ B.toInt → Vw f pl sz = Vw f0 pl (sz + 1) % V fd sz := by
    intro f B t h1 h2 h3
    have h4 := Vw_lt f pl sz
    have h5 := V_lt fd sz
    have h6 : B.toInt = 0 := by
      rcases Int.lt_or_le 0 B.toInt with h | h
      · have h7 : 1 * ((BB ^ sz : Nat) : Int) ≤ B.toInt * ((BB ^ sz : Nat) : Int) := Int.mul_le_mul_of_nonneg_right (by omega) (by omega)
        omega
      · omega
    rw [h6, Int.zero_mul, Int.add_zero] at h1
    have e1 : ((Vw f pl sz : Nat) : Int) % (V fd sz : Int) = ((Vw f0 pl (sz + 1) % V fd sz : Nat) : Int) % (V fd sz : Int) := by
      rw [h1, ← hX2, Int.add_mul_emod_self_right, Int.add_mul_emod_self_right]
    rw [← Int.natCast_emod, ← Int.natCast_emod, Nat.mod_eq_of_lt (show Vw f pl sz < V fd sz by omega), Nat.mod_mod] at e1
    exact Int.ofNat.inj e1
  refine lp_away2 (f0 := f) (X := X) C hob hd nd hsz hL hW hpl (by omega) (fun f' B t H locs ls hf' hnf' h1 h2 h3 hM hS hl => ?_) 2 0 f v_6 H locs ls (by omega) (fun j hj => rfl) hnf ?_ ?_ (by omega) (by omega) hM hS (lv_sub hl [0, 1, 2, 3] rfl)
  · have hob2 : xset M (r + 3) (xI (kA 0) W0 f') r = some (oRes r (nI sz) sh) := by rw [xset_n (by omega)]; exact hob
    refine lv_aload_n hx hb dX3_takeDivisorAway_184 rfl (lv_at hl 0 rfl) ?_
    refine x_get (v := .ref (r + 3)) hx hb hts in_X3_takeDivisorAway_X3 hown hK hM (hob2) rfl 2 (by decide) (hts (.fieldLink RX3 18 "LimbCurves$Residues" "work" "[I") (by decide +kernel)) (fun _ h9 => h9) rfl dX3_takeDivisorAway_185 ?_
    refine lv_iload_n hx hb dX3_takeDivisorAway_188 rfl (lv_at hl 1 rfl) ?_
    refine lv_aload_n hx hb dX3_takeDivisorAway_189 rfl (lv_at hl 0 rfl) ?_
    refine x_get (v := .int (nI sz)) hx hb hts in_X3_takeDivisorAway_X3 hown hK hM (hob2) rfl 8 (by decide) (hts (.fieldLink RX3 36 "LimbCurves$Residues" "size" "I") (by decide +kernel)) (fun _ h9 => h9) rfl dX3_takeDivisorAway_190 ?_
    refine r_iaddN C dX3_takeDivisorAway_193 ?_
    refine lv_iconst (v := nI 0) hx hb dX3_takeDivisorAway_194 (by decide) ?_
    refine r_iast C hM hS (xset_s) rfl (by omega) (by omega) dX3_takeDivisorAway_195 (fun H locs hM hS => ?_)
    rw [xset_xset] at hM
    refine r_vret C hM hS ⟨upd f' (pl + sz) (nI 0), rfl, fun j hj => ?_, fun j a b => ?_, pk_us, ?_⟩ dX3_takeDivisorAway_196
    · rw [pk_un (by omega), hf' j (by omega), hf j (by omega)]
    · by_cases h : j = pl + sz
      · rw [h, pk_us]; decide
      · rw [pk_un h]; exact hnf' j a (by omega)
    · rw [Vw_upd_out (Or.inr (Nat.le_refl _))]
      exact hex f' B t h1 h2 h3
  · have e0 : ((0 : Nat) : Int) * (V fd sz : Int) = 0 := Int.zero_mul _
    rw [e0, hv, hX, hU, Int.add_mul]
    rw [Int.neg_mul] at hI
    omega
  · have e0 : ((0 : Nat) : Int) * (V fd sz : Int) = 0 := Int.zero_mul _
    rw [e0]
    omega
end R3
