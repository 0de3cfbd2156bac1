theorem in_X3_multiply_X3 : ∀ w ∈ wsX30, w ∈ wsX3_multiply := by decide +kernel
theorem in_X3_reduce_X3 : ∀ w ∈ wsX30, w ∈ wsX3_reduce := by decide +kernel
theorem mul_v {b g : Int64} {w d : Int32} {a : Nat} (hg : g.toInt = a) (ha : a < BB) (hd : 0 ≤ d.toInt) (hw : 0 ≤ w.toInt) (h1 : 0 ≤ b.toInt) (h2 : b.toInt < 2147483648) : (b + (g * d.toInt64 + w.toInt64)).toInt = b.toInt + ((dg w : Int) + (a : Int) * (dg d : Int)) ∧ 0 ≤ (b.toInt + ((dg w : Int) + (a : Int) * (dg d : Int))) / 2147483648 ∧ (b.toInt + ((dg w : Int) + (a : Int) * (dg d : Int))) / 2147483648 < 2147483648 := by
  have hB : BB = 2147483648 := rfl
  have e1 := dg_int hd
  have e2 := dg_int hw
  have l1 := dg_lt d
  have l2 := dg_lt w
  have hm := mul_bd ha l1
  have hmi : (a : Int) * (dg d : Int) = ((a * dg d : Nat) : Int) := by rw [Int.natCast_mul]
  have hmul : (g * d.toInt64).toInt = (a : Int) * (dg d : Int) := by
    rw [e1]
    refine l_mul hg (l_i2l rfl) ?_ ?_
    · rw [← e1, hmi]; omega
    · rw [← e1, hmi]; omega
  have hadd : (g * d.toInt64 + w.toInt64).toInt = (a : Int) * (dg d : Int) + (dg w : Int) := by
    refine l_add hmul (l_i2l e2.symm) ?_ ?_ <;> rw [hmi] <;> omega
  have e3 : (dg w : Int) + (a : Int) * (dg d : Int) = (a : Int) * (dg d : Int) + (dg w : Int) := Int.add_comm _ _
  rw [e3]
  refine ⟨l_add rfl hadd ?_ ?_, ?_, ?_⟩ <;> rw [hmi] <;> omega
theorem mul_row {w w1 : Nat → Int32} {i sz P a cy F : Nat} (h1 : ∀ t, t < i → w1 t = w t) (hI : Vw w1 i (sz + 1) = Vw w i sz + a * F) (hP : V w (i + sz) = P * F) : V w1 (i + (sz + 1)) = (P + a * BB ^ i) * F := by
  rw [V_split, V_congr h1, hI, Nat.mul_add, ← Nat.add_assoc, ← V_split, hP, Nat.add_mul]
  congr 1
  simp only [Nat.mul_assoc, Nat.mul_comm, Nat.mul_left_comm]
section R5
variable {p : Program} {l : Launch} {e : Env} {R : Room} {s : State} {m : MethodId} {args : Array Value} {below : List Frame} {meth : Method} {c : Code} {Q : State → Prop} {cells slots : Nat} {ret : Option FieldType} {D : va_G} {kA : Nat → ClassId} {N0 : Nat}
set_option maxRecDepth 100000 in
theorem lp_mul2 {M : xM} {r out one other L W0 sz i a : Nat} {w0 f2 : Nat → Int32} {sh : Int32} (C : xC p s m args meth c cX3_multiply 10 ret RX3 wsX3_multiply D vwCl (xT kA) N0) (hob : M r = some (oRes r (nI sz) sh)) (h2 : M other = some (xI (kA 0) L f2)) (ho : other ≠ r + 3) (n2 : nn f2 L) (n0 : nn w0 W0) (ha : a < BB) (hsz : sz ≤ L) (hL : L < 1000) (hW : W0 < 10000) (hi : i + sz < W0)
    (hexit : ∀ (w : Nat → Int32) (cy : Int64) (H : Heap) (locs : List Loc) (ls : Array Slot), (∀ t, t < i ∨ i + sz ≤ t → w t = w0 t) → nn w W0 → (Vw w i sz : Int) + cy.toInt * ((BB ^ sz : Nat) : Int) = Vw w0 i sz + (a : Int) * V f2 sz → 0 ≤ cy.toInt → cy.toInt < 2147483648 → xW D vwCl N0 (xset M (r + 3) (xI (kA 0) W0 w)) H → va_S (xA N0) s.heap H locs → lv_has ls 10 [(7, .long cy), (4, .int (nI i)), (0, .ref r), (1, .ref out), (2, .ref one), (3, .ref other)] → W p l e R s m args below meth c H locs cells slots Q (F0 m 97 ls [])) :
    ∀ (k j : Nat) (w : Nat → Int32) (cy : Int64) (H : Heap) (locs : List Loc) (ls : Array Slot), j + k = sz → (∀ t, t < i ∨ i + j ≤ t → w t = w0 t) → nn w W0 → (Vw w i j : Int) + cy.toInt * ((BB ^ j : Nat) : Int) = Vw w0 i j + (a : Int) * V f2 j → 0 ≤ cy.toInt → cy.toInt < 2147483648 → xW D vwCl N0 (xset M (r + 3) (xI (kA 0) W0 w)) H → va_S (xA N0) s.heap H locs → lv_has ls 10 [(9, .int (nI j)), (7, .long cy), (5, .long (lN a)), (4, .int (nI i)), (0, .ref r), (1, .ref out), (2, .ref one), (3, .ref other)] → W p l e R s m args below meth c H locs cells slots Q (F0 m 33 ls []) := by
  obtain ⟨hx, hb, hml, hown, hts, hr, hlocks, hK, hN⟩ := id C
  have hB : BB = 2147483648 := rfl
  intro k
  induction k with
  | zero =>
    intro j w cy H locs ls hj hw hn hI c1 c2 hM hS hl
    have hob1 : xset M (r + 3) (xI (kA 0) W0 w) r = some (oRes r (nI sz) sh) := by rw [xset_n (by omega)]; exact hob
    refine lv_iload hx hb dX3_multiply_33 (lv_at hl 0 rfl) ?_
    refine lv_aload_n hx hb dX3_multiply_35 rfl (lv_at hl 4 rfl) ?_
    refine x_get (v := .int (nI sz)) hx hb hts in_X3_multiply_X3 hown hK hM (hob1) rfl 8 (by decide) (hts (.fieldLink RX3 36 "LimbCurves$Residues" "size" "I") (by decide +kernel)) (fun _ h9 => h9) rfl dX3_multiply_36 ?_
    refine r_icmp_geN (tgt := 97) C (by omega) (by omega) dX3_multiply_39 (by decide) (fun hc => ?_) (fun hc => ?_)
    · have hj : j = sz := by omega
      subst hj
      exact hexit w cy H locs ls hw hn hI c1 c2 hM hS (lv_sub hl [1, 3, 4, 5, 6, 7] rfl)
    · omega
  | succ k ih =>
    intro j w cy H locs ls hj hw hn hI c1 c2 hM hS hl
    have hob1 : xset M (r + 3) (xI (kA 0) W0 w) r = some (oRes r (nI sz) sh) := by rw [xset_n (by omega)]; exact hob
    have h21 : xset M (r + 3) (xI (kA 0) W0 w) other = some (xI (kA 0) L f2) := by rw [xset_n ho]; exact h2
    refine lv_iload hx hb dX3_multiply_33 (lv_at hl 0 rfl) ?_
    refine lv_aload_n hx hb dX3_multiply_35 rfl (lv_at hl 4 rfl) ?_
    refine x_get (v := .int (nI sz)) hx hb hts in_X3_multiply_X3 hown hK hM (hob1) rfl 8 (by decide) (hts (.fieldLink RX3 36 "LimbCurves$Residues" "size" "I") (by decide +kernel)) (fun _ h9 => h9) rfl dX3_multiply_36 ?_
    refine r_icmp_geN (tgt := 97) C (by omega) (by omega) dX3_multiply_39 (by decide) (fun hc => ?_) (fun hc => ?_)
    · omega
    · refine lv_lload hx hb dX3_multiply_42 (lv_at hl 1 rfl) ?_
      refine lv_lload hx hb dX3_multiply_44 (lv_at hl 2 rfl) ?_
      refine lv_aload_n hx hb dX3_multiply_46 rfl (lv_at hl 7 rfl) ?_
      refine lv_iload hx hb dX3_multiply_47 (lv_at hl 0 rfl) ?_
      refine r_iald C hM (h21) rfl (by omega) (by omega) dX3_multiply_49 ?_
      refine lv_i2l (v := (f2 j).toInt64) hx hb dX3_multiply_50 rfl ?_
      refine lv_lmul hx hb dX3_multiply_51 ?_
      refine lv_aload_n hx hb dX3_multiply_52 rfl (lv_at hl 4 rfl) ?_
      refine x_get (v := .ref (r + 3)) hx hb hts in_X3_multiply_X3 hown hK hM (hob1) rfl 2 (by decide) (hts (.fieldLink RX3 18 "LimbCurves$Residues" "work" "[I") (by decide +kernel)) (fun _ h9 => h9) rfl dX3_multiply_53 ?_
      refine lv_iload hx hb dX3_multiply_56 (lv_at hl 3 rfl) ?_
      refine lv_iload hx hb dX3_multiply_58 (lv_at hl 0 rfl) ?_
      refine r_iaddN C dX3_multiply_60 ?_
      refine r_iald C hM (xset_s) rfl (by omega) (by omega) dX3_multiply_61 ?_
      refine lv_i2l (v := (w (i + j)).toInt64) hx hb dX3_multiply_62 rfl ?_
      refine lv_ladd hx hb dX3_multiply_63 ?_
      refine lv_ladd hx hb dX3_multiply_64 ?_
      refine lv_topl (fun v_1 ev_1 => ?_)
      refine lv_lstore (lv' := [(7, .long v_1), (9, .int (nI j)), (5, .long (lN a)), (4, .int (nI i)), (0, .ref r), (1, .ref out), (2, .ref one), (3, .ref other)]) hx hb dX3_multiply_65 hl (by decide) rfl (fun ls hl => ?_)
      refine lv_aload_n hx hb dX3_multiply_67 rfl (lv_at hl 4 rfl) ?_
      refine x_get (v := .ref (r + 3)) hx hb hts in_X3_multiply_X3 hown hK hM (hob1) rfl 2 (by decide) (hts (.fieldLink RX3 18 "LimbCurves$Residues" "work" "[I") (by decide +kernel)) (fun _ h9 => h9) rfl dX3_multiply_68 ?_
      refine lv_iload hx hb dX3_multiply_71 (lv_at hl 3 rfl) ?_
      refine lv_iload hx hb dX3_multiply_73 (lv_at hl 1 rfl) ?_
      refine r_iaddN C dX3_multiply_75 ?_
      refine lv_lload hx hb dX3_multiply_76 (lv_at hl 0 rfl) ?_
      refine lv_ldc2 (v := 2147483647) hx hb hown (hts (.constantLong RX3 90 (2147483647)) (by decide +kernel)) dX3_multiply_78 ?_
      refine lv_land hx hb dX3_multiply_81 ?_
      refine lv_l2i (v := (v_1 &&& 2147483647).toInt32) hx hb dX3_multiply_82 rfl ?_
      refine r_iast C hM hS (xset_s) rfl (by omega) (by omega) dX3_multiply_83 (fun H locs hM hS => ?_)
      rw [xset_xset] at hM
      refine lv_lload hx hb dX3_multiply_84 (lv_at hl 0 rfl) ?_
      refine lv_bipush (v := nI 31) hx hb dX3_multiply_86 (by decide) ?_
      refine lv_lshr (v := v_1 >>> ((nI 31).toInt64 &&& 63)) hx hb dX3_multiply_88 rfl ?_
      refine lv_topl (fun v_2 ev_2 => ?_)
      refine lv_lstore (lv' := [(7, .long v_2), (9, .int (nI j)), (5, .long (lN a)), (4, .int (nI i)), (0, .ref r), (1, .ref out), (2, .ref one), (3, .ref other)]) hx hb dX3_multiply_89 hl (by decide) rfl (fun ls hl => ?_)
      refine lv_iinc (v := nI (j + 1)) (lv' := [(9, .int (nI (j + 1))), (7, .long v_2), (5, .long (lN a)), (4, .int (nI i)), (0, .ref r), (1, .ref out), (2, .ref one), (3, .ref other)]) hx hb dX3_multiply_91 hl (k := 1) rfl (r_inc _) (by decide) rfl (fun ls hl => ?_)
      refine lv_goto (tgt := 33) hx hb dX3_multiply_94 (by decide) ?_
      have hwi : w (i + j) = w0 (i + j) := hw _ (Or.inr (Nat.le_refl _))
      have hv := mul_v (b := cy) (g := lN a) (w := w (i + j)) (d := f2 j) (pk_lT (by omega)) ha (n2 j (by omega)) (hn _ (by omega)) c1 c2
      rw [← ev_1, hwi] at hv
      have hv2 := cmb_c v_1
      rw [← ev_2] at hv2
      have ho := cmb_o v_1
      have hst := cmb_step (d1 := dg (w0 (i + j))) (d2 := dg (f2 j)) hI hv.1
      refine ih (j + 1) (upd w (i + j) ((v_1 &&& 2147483647).toInt32)) v_2 H locs ls (by omega) (fun t ht => ?_) (fun t ht => ?_) ?_ ?_ ?_ hM hS (lv_sub hl [0, 1, 2, 3, 4, 5, 6, 7] rfl)
      · rw [pk_un (by omega)]
        exact hw t (by omega)
      · by_cases hq : t = i + j
        · rw [hq, pk_us, ho]
          omega
        · rw [pk_un hq]
          exact hn t ht
      · rw [Vw_upd_s, Vw_s, V_s, Nat.pow_succ, hv2, dg_out]
        exact hst
      · rw [hv2, hv.1]
        exact hv.2.1
      · rw [hv2, hv.1]
        exact hv.2.2
set_option maxRecDepth 100000 in
theorem lp_mul1 {M : xM} {r out one other L W0 sz : Nat} {f1 f2 : Nat → Int32} {sh : Int32} (C : xC p s m args meth c cX3_multiply 10 ret RX3 wsX3_multiply D vwCl (xT kA) N0) (hob : M r = some (oRes r (nI sz) sh)) (h1 : M one = some (xI (kA 0) L f1)) (h2 : M other = some (xI (kA 0) L f2)) (ho1 : one ≠ r + 3) (ho : other ≠ r + 3) (n1 : nn f1 L) (n2 : nn f2 L) (hsz : sz ≤ L) (hL : L < 1000) (hW : W0 < 10000) (h2s : 2 * sz < W0)
    (hexit : ∀ (w : Nat → Int32) (H : Heap) (locs : List Loc) (ls : Array Slot), nn w W0 → V w (sz + sz) = V f1 sz * V f2 sz → xW D vwCl N0 (xset M (r + 3) (xI (kA 0) W0 w)) H → va_S (xA N0) s.heap H locs → lv_has ls 10 [(0, .ref r), (1, .ref out)] → W p l e R s m args below meth c H locs cells slots Q (F0 m 118 ls [])) :
    ∀ (k i : Nat) (w : Nat → Int32) (H : Heap) (locs : List Loc) (ls : Array Slot), i + k = sz → nn w W0 → (∀ t, i + sz ≤ t → t < W0 → w t = 0) → V w (i + sz) = V f1 i * V f2 sz → xW D vwCl N0 (xset M (r + 3) (xI (kA 0) W0 w)) H → va_S (xA N0) s.heap H locs → lv_has ls 10 [(4, .int (nI i)), (0, .ref r), (1, .ref out), (2, .ref one), (3, .ref other)] → W p l e R s m args below meth c H locs cells slots Q (F0 m 11 ls []) := by
  obtain ⟨hx, hb, hml, hown, hts, hr, hlocks, hK, hN⟩ := id C
  have hB : BB = 2147483648 := rfl
  intro k
  induction k with
  | zero =>
    intro i w H locs ls hi hn hz hV hM hS hl
    have hob1 : xset M (r + 3) (xI (kA 0) W0 w) r = some (oRes r (nI sz) sh) := by rw [xset_n (by omega)]; exact hob
    refine lv_iload hx hb dX3_multiply_11 (lv_at hl 0 rfl) ?_
    refine lv_aload_n hx hb dX3_multiply_13 rfl (lv_at hl 1 rfl) ?_
    refine x_get (v := .int (nI sz)) hx hb hts in_X3_multiply_X3 hown hK hM (hob1) rfl 8 (by decide) (hts (.fieldLink RX3 36 "LimbCurves$Residues" "size" "I") (by decide +kernel)) (fun _ h9 => h9) rfl dX3_multiply_14 ?_
    refine r_icmp_geN (tgt := 118) C (by omega) (by omega) dX3_multiply_17 (by decide) (fun hc => ?_) (fun hc => ?_)
    · have hi : i = sz := by omega
      subst hi
      exact hexit w H locs ls hn hV hM hS (lv_sub hl [1, 2] rfl)
    · omega
  | succ k ih =>
    intro i w H locs ls hi hn hz hV hM hS hl
    have hob1 : xset M (r + 3) (xI (kA 0) W0 w) r = some (oRes r (nI sz) sh) := by rw [xset_n (by omega)]; exact hob
    have h11 : xset M (r + 3) (xI (kA 0) W0 w) one = some (xI (kA 0) L f1) := by rw [xset_n ho1]; exact h1
    refine lv_iload hx hb dX3_multiply_11 (lv_at hl 0 rfl) ?_
    refine lv_aload_n hx hb dX3_multiply_13 rfl (lv_at hl 1 rfl) ?_
    refine x_get (v := .int (nI sz)) hx hb hts in_X3_multiply_X3 hown hK hM (hob1) rfl 8 (by decide) (hts (.fieldLink RX3 36 "LimbCurves$Residues" "size" "I") (by decide +kernel)) (fun _ h9 => h9) rfl dX3_multiply_14 ?_
    refine r_icmp_geN (tgt := 118) C (by omega) (by omega) dX3_multiply_17 (by decide) (fun hc => ?_) (fun hc => ?_)
    · omega
    · refine lv_aload_n hx hb dX3_multiply_20 rfl (lv_at hl 3 rfl) ?_
      refine lv_iload hx hb dX3_multiply_21 (lv_at hl 0 rfl) ?_
      refine r_iald C hM (h11) rfl (by omega) (by omega) dX3_multiply_23 ?_
      refine lv_i2l (v := (f1 i).toInt64) hx hb dX3_multiply_24 rfl ?_
      refine lv_topl (fun v_3 ev_3 => ?_)
      refine lv_lstore (lv' := [(5, .long v_3), (4, .int (nI i)), (0, .ref r), (1, .ref out), (2, .ref one), (3, .ref other)]) hx hb dX3_multiply_25 hl (by decide) rfl (fun ls hl => ?_)
      refine lv_lconst (v := 0) hx hb dX3_multiply_27 (by decide) ?_
      refine lv_lstore (lv' := [(7, .long 0), (5, .long v_3), (4, .int (nI i)), (0, .ref r), (1, .ref out), (2, .ref one), (3, .ref other)]) hx hb dX3_multiply_28 hl (by decide) rfl (fun ls hl => ?_)
      refine lv_iconst (v := nI 0) hx hb dX3_multiply_30 (by decide) ?_
      refine lv_istore (lv' := [(9, .int (nI 0)), (7, .long 0), (5, .long v_3), (4, .int (nI i)), (0, .ref r), (1, .ref out), (2, .ref one), (3, .ref other)]) hx hb dX3_multiply_31 hl (by decide) rfl (fun ls hl => ?_)
      rw [i2l_dg (n1 i (by omega))] at ev_3
      subst ev_3
      refine lp_mul2 (out := out) (one := one) (w0 := w) C hob h2 ho n2 hn (dg_lt (f1 i)) hsz hL hW (by omega) (fun w1 cy H locs ls e1 e2 hI c1 c2 hM hS hl => ?_) sz 0 w 0 H locs ls (by omega) (fun t ht => rfl) hn (by simp [Vw_0, V_0]) (by decide) (by decide) hM hS (lv_sub hl [0, 1, 2, 3, 4, 5, 6, 7] rfl)
      have hob2 : xset M (r + 3) (xI (kA 0) W0 w1) r = some (oRes r (nI sz) sh) := by rw [xset_n (by omega)]; exact hob
      refine lv_aload_n hx hb dX3_multiply_97 rfl (lv_at hl 2 rfl) ?_
      refine x_get (v := .ref (r + 3)) hx hb hts in_X3_multiply_X3 hown hK hM (hob2) rfl 2 (by decide) (hts (.fieldLink RX3 18 "LimbCurves$Residues" "work" "[I") (by decide +kernel)) (fun _ h9 => h9) rfl dX3_multiply_98 ?_
      refine lv_iload hx hb dX3_multiply_101 (lv_at hl 1 rfl) ?_
      refine lv_aload_n hx hb dX3_multiply_103 rfl (lv_at hl 2 rfl) ?_
      refine x_get (v := .int (nI sz)) hx hb hts in_X3_multiply_X3 hown hK hM (hob2) rfl 8 (by decide) (hts (.fieldLink RX3 36 "LimbCurves$Residues" "size" "I") (by decide +kernel)) (fun _ h9 => h9) rfl dX3_multiply_104 ?_
      refine r_iaddN C dX3_multiply_107 ?_
      refine lv_lload hx hb dX3_multiply_108 (lv_at hl 0 rfl) ?_
      refine lv_l2i (v := cy.toInt32) hx hb dX3_multiply_110 rfl ?_
      refine r_iast C hM hS (xset_s) rfl (by omega) (by omega) dX3_multiply_111 (fun H locs hM hS => ?_)
      rw [xset_xset] at hM
      refine lv_iinc (v := nI (i + 1)) (lv' := [(4, .int (nI (i + 1))), (7, .long cy), (0, .ref r), (1, .ref out), (2, .ref one), (3, .ref other)]) hx hb dX3_multiply_112 hl (k := 1) rfl (r_inc _) (by decide) rfl (fun ls hl => ?_)
      refine lv_goto (tgt := 11) hx hb dX3_multiply_115 (by decide) ?_
      have hcy : (cy.toInt32).toInt = cy.toInt := l_l2i rfl (by omega) (by omega)
      have hdc : (dg cy.toInt32 : Int) = cy.toInt := by rw [dg_int (by rw [hcy]; exact c1), hcy]
      refine ih (i + 1) (upd w1 (i + sz) cy.toInt32) H locs ls (by omega) (fun t ht => ?_) (fun t h1 h2 => ?_) ?_ hM hS (lv_sub hl [0, 2, 3, 4, 5] rfl)
      · by_cases hq : t = i + sz
        · rw [hq, pk_us, hcy]; exact c1
        · rw [pk_un hq]; exact e2 t ht
      · rw [pk_un (by omega), e1 t (by omega)]
        exact hz t (by omega) h2
      · rw [V_s, show i + 1 + sz = i + (sz + 1) by omega]
        refine mul_row (w := w) (cy := 0) (fun t ht => by rw [pk_un (by omega)]; exact e1 t (Or.inl ht)) ?_ hV
        rw [Vw_upd_s]
        have : ((Vw w1 i sz + dg cy.toInt32 * BB ^ sz : Nat) : Int) = ((Vw w i sz + dg (f1 i) * V f2 sz : Nat) : Int) := by
          rw [Int.natCast_add, Int.natCast_add, Int.natCast_mul, Int.natCast_mul, hdc]
          exact hI
        exact Int.ofNat.inj this
set_option maxRecDepth 100000 in
theorem c_multiply (l : Launch) (D : va_G) (kA : Nat → ClassId) (N0 : Nat) (M : xM) (r L mm out one other u v : Nat) (hr0 : Rs kA M r L mm) (hw : isA kA M (r + 3) (2 * L + 1)) (h0 : isA kA M out L) (h1 : isN kA M one L u) (h2 : isN kA M other L v) (hu : u < mm) (hv : v < mm) (ho1 : out ≠ r + 2) (ho2 : out ≠ r + 3) (q1 : one ≠ r + 3) (q2 : other ≠ r + 3) (hL : L < 1000) : cV l yX3_multiply wsX3_multiply (xR 2) [.ref r, .ref out, .ref one, .ref other] D kA N0 M (fun M1 => isN kA M1 out L (u * v % mm) ∧ isA kA M1 (r + 3) (2 * L + 1) ∧ ∀ b, b ≠ out → b ≠ r + 3 → M1 b = M b) := by
  obtain ⟨sz, sh, fm, fd, hob, hm, hd, nm, nd, Vm, hsz0, hsz, hzm, htm, hsh, hVd, hzd, hd1⟩ := hr0
  have hmlt : mm < BB ^ sz := by rw [← Vm, V_top hsz hzm]; exact V_lt fm sz
  obtain ⟨w0, hw⟩ := hw
  obtain ⟨f1, h1, n1, V1⟩ := h1
  obtain ⟨f2, h2, n2, V2⟩ := h2
  have hV1 : V f1 sz = u := by
    rw [← V1]
    exact (V_top hsz (fun j a b => nn_zero n1 b (V_digit0 (show V f1 L < BB ^ sz by rw [V1]; omega) j a b))).symm
  have hV2 : V f2 sz = v := by
    rw [← V2]
    exact (V_top hsz (fun j a b => nn_zero n2 b (V_digit0 (show V f2 L < BB ^ sz by rw [V2]; omega) j a b))).symm
  refine r_met (cc := cX3_multiply) (maxL := 10) (ret := none) (by decide) rfl (Nat.le_of_ble_eq_true rfl) ?_
  intro p e s m below meth c ls C hM hnm hl
  obtain ⟨hx, hb, hml, hown, hts, hr, hlocks, hK, hN⟩ := id C
  have hS : va_S (xA N0) s.heap s.heap [] := va_S.rf
  have hl : lv_has ls 10 [(0, .ref r), (1, .ref out), (2, .ref one), (3, .ref other)] := hl
  refine lv_aload_n hx hb dX3_multiply_0 rfl (lv_at hl 0 rfl) ?_
  refine x_get (v := .ref (r + 3)) hx hb hts in_X3_multiply_X3 hown hK hM (hob) rfl 2 (by decide) (hts (.fieldLink RX3 18 "LimbCurves$Residues" "work" "[I") (by decide +kernel)) (fun _ h9 => h9) rfl dX3_multiply_1 ?_
  refine lv_iconst (v := nI 0) hx hb dX3_multiply_4 (by decide) ?_
  refine r_Sv (As := [.ref (r + 3), .int (nI 0)]) (rest := []) C hM hS (c_fill l D kA N0 M (r + 3) (2 * L + 1) w0 (nI 0) hw (by omega)) gX3_multiply_J7_fill_53178 rfl rfl rfl ⟨by decide +kernel, by decide +kernel, (by decide +kernel : (parseMethodDescriptor yJ7_fill_53178.desc).map (fun d => d.parameters.length) = some 2)⟩ ⟨Nat.le_of_ble_eq_true rfl, Nat.le_of_ble_eq_true rfl⟩ hl.1 rfl (Nat.le_of_ble_eq_true rfl) dX3_multiply_5 ⟨Nat.le_of_ble_eq_true rfl, Nat.le_of_ble_eq_true rfl⟩ (fun M1 H locs hp hM hS => ?_)
  obtain ⟨w, rfl, hwz⟩ := hp
  refine lv_iconst (v := nI 0) hx hb dX3_multiply_8 (by decide) ?_
  refine lv_istore (lv' := [(4, .int (nI 0)), (0, .ref r), (1, .ref out), (2, .ref one), (3, .ref other)]) hx hb dX3_multiply_9 hl (by decide) rfl (fun ls hl => ?_)
  refine lp_mul1 (f1 := f1) (f2 := f2) C hob h1 h2 q1 q2 n1 n2 hsz hL (show 2 * L + 1 < 10000 by omega) (by omega) (fun w H locs ls hn hV hM hS hl => ?_) sz 0 w H _ ls (by omega) (fun j hj => by rw [hwz j hj]; decide) (fun t _ ht => hwz t ht) (by rw [V_0, Nat.zero_mul]; exact V_zero (fun j hj => hwz j (by omega))) hM hS (lv_sub hl [0, 1, 2, 3, 4] rfl)
  have hob1 : xset M (r + 3) (xI (kA 0) (2 * L + 1) w) r = some (oRes r (nI sz) (nI sh)) := by rw [xset_n (by omega)]; exact hob
  have hd2 : xset M (r + 3) (xI (kA 0) (2 * L + 1) w) (r + 2) = some (xI (kA 0) L fd) := by rw [xset_n (by omega)]; exact hd
  refine lv_aload_n hx hb dX3_multiply_118 rfl (lv_at hl 0 rfl) ?_
  refine lv_aload_n hx hb dX3_multiply_119 rfl (lv_at hl 1 rfl) ?_
  refine lv_iconst (v := nI 2) hx hb dX3_multiply_120 (by decide) ?_
  refine lv_aload_n hx hb dX3_multiply_121 rfl (lv_at hl 0 rfl) ?_
  refine x_get (v := .int (nI sz)) hx hb hts in_X3_multiply_X3 hown hK hM (hob1) rfl 8 (by decide) (hts (.fieldLink RX3 36 "LimbCurves$Residues" "size" "I") (by decide +kernel)) (fun _ h9 => h9) rfl dX3_multiply_122 ?_
  refine r_imulN C dX3_multiply_125 ?_
  refine r_Vv (As := [.ref out, .int (nI (2 * sz))]) (rest := []) C hM hS (c_takeRemainder l D kA N0 (xset M (r + 3) (xI (kA 0) (2 * L + 1) w)) r L mm out (2 * sz) (2 * L + 1) sz sh fm fd w hob1 hd2 xset_s (h0.kept (xset_n ho2)) (fun j hj => hn j (by omega)) nd hsz0 hsz hsh hVd hzd hd1 (by omega) (by omega) (by omega) hL ho1 ho2) (hob1) rfl gX3_multiply_X3_takeRemainder rfl rfl rfl ⟨rfl, by decide +kernel, by decide +kernel, (by decide +kernel : (parseMethodDescriptor yX3_takeRemainder.desc).map (fun d => d.parameters.length) = some 2)⟩ ⟨Nat.le_of_ble_eq_true rfl, Nat.le_of_ble_eq_true rfl⟩ hl.1 rfl (Nat.le_of_ble_eq_true rfl) dX3_multiply_126 ⟨Nat.le_of_ble_eq_true rfl, Nat.le_of_ble_eq_true rfl⟩ (fun M1 H locs hp hM hS => ?_)
  obtain ⟨a1, a2, a3⟩ := hp
  rw [show 2 * sz = sz + sz by omega, hV, hV1, hV2] at a1
  exact r_vret C hM hS (⟨a1, a2, fun b h1 h2 => by rw [a3 b h1 h2, xset_n h2]⟩) dX3_multiply_129
set_option maxRecDepth 100000 in
theorem c_reduce (l : Launch) (D : va_G) (kA : Nat → ClassId) (N0 : Nat) (M : xM) (r L mm out num v : Nat) (hr0 : Rs kA M r L mm) (hw : isA kA M (r + 3) (2 * L + 1)) (h0 : isA kA M out L) (h1 : isN kA M num L v) (ho1 : out ≠ r + 2) (ho2 : out ≠ r + 3) (q1 : num ≠ r + 3) (hL : L < 1000) : cV l yX3_reduce wsX3_reduce (xR 2) [.ref r, .ref out, .ref num] D kA N0 M (fun M1 => isN kA M1 out L (v % mm) ∧ isA kA M1 (r + 3) (2 * L + 1) ∧ ∀ b, b ≠ out → b ≠ r + 3 → M1 b = M b) := by
  obtain ⟨sz, sh, fm, fd, hob, hm, hd, nm, nd, Vm, hsz0, hsz, hzm, htm, hsh, hVd, hzd, hd1⟩ := hr0
  obtain ⟨w0, hw⟩ := hw
  obtain ⟨f1, h1, n1, V1⟩ := h1
  refine r_met (cc := cX3_reduce) (maxL := 3) (ret := none) (by decide) rfl (Nat.le_of_ble_eq_true rfl) ?_
  intro p e s m below meth c ls C hM hnm hl
  obtain ⟨hx, hb, hml, hown, hts, hr, hlocks, hK, hN⟩ := id C
  have hS : va_S (xA N0) s.heap s.heap [] := va_S.rf
  have hl : lv_has ls 3 [(0, .ref r), (1, .ref out), (2, .ref num)] := hl
  refine lv_aload_n hx hb dX3_reduce_0 rfl (lv_at hl 2 rfl) ?_
  refine lv_iconst (v := nI 0) hx hb dX3_reduce_1 (by decide) ?_
  refine lv_aload_n hx hb dX3_reduce_2 rfl (lv_at hl 0 rfl) ?_
  refine x_get (v := .ref (r + 3)) hx hb hts in_X3_reduce_X3 hown hK hM (hob) rfl 2 (by decide) (hts (.fieldLink RX3 18 "LimbCurves$Residues" "work" "[I") (by decide +kernel)) (fun _ h9 => h9) rfl dX3_reduce_3 ?_
  refine lv_iconst (v := nI 0) hx hb dX3_reduce_6 (by decide) ?_
  refine lv_aload_n hx hb dX3_reduce_7 rfl (lv_at hl 2 rfl) ?_
  refine r_alen C hM (h1) rfl dX3_reduce_8 ?_
  refine r_copy (rest := []) C hM hS (h1) (hw) rfl (by omega) (by omega) (by omega) (by omega) (hts (.methodLink RX3 63 arraycopyName) (by decide +kernel)) (hts (.native arraycopyName) (by decide +kernel)) (hts (.static arraycopyName) (by decide +kernel)) (hts (.initialized "java/lang/System") (by decide +kernel)) hl.1 (Nat.le_of_ble_eq_true rfl) (by decide) dX3_reduce_9 (fun H locs hM hS => ?_)
  have hob1 : xset M (r + 3) (xI (kA 0) (2 * L + 1) (va_cpy f1 w0 0 0 L)) r = some (oRes r (nI sz) (nI sh)) := by rw [xset_n (by omega)]; exact hob
  have hd2 : xset M (r + 3) (xI (kA 0) (2 * L + 1) (va_cpy f1 w0 0 0 L)) (r + 2) = some (xI (kA 0) L fd) := by rw [xset_n (by omega)]; exact hd
  have h11 : xset M (r + 3) (xI (kA 0) (2 * L + 1) (va_cpy f1 w0 0 0 L)) num = some (xI (kA 0) L f1) := by rw [xset_n q1]; exact h1
  have hcp : ∀ j, j < L → va_cpy f1 w0 0 0 L j = f1 j := fun j hj => by rw [pk_cpy_in (by omega) (by omega)]; simp
  refine lv_aload_n hx hb dX3_reduce_12 rfl (lv_at hl 0 rfl) ?_
  refine lv_aload_n hx hb dX3_reduce_13 rfl (lv_at hl 1 rfl) ?_
  refine lv_aload_n hx hb dX3_reduce_14 rfl (lv_at hl 2 rfl) ?_
  refine r_alen C hM (h11) rfl dX3_reduce_15 ?_
  refine r_Vv (As := [.ref out, .int (nI L)]) (rest := []) C hM hS (c_takeRemainder l D kA N0 (xset M (r + 3) (xI (kA 0) (2 * L + 1) (va_cpy f1 w0 0 0 L))) r L mm out L (2 * L + 1) sz sh fm fd (va_cpy f1 w0 0 0 L) hob1 hd2 xset_s (h0.kept (xset_n ho2)) (fun j hj => by rw [hcp j hj]; exact n1 j hj) nd hsz0 hsz hsh hVd hzd hd1 hsz (by omega) (by omega) hL ho1 ho2) (hob1) rfl gX3_reduce_X3_takeRemainder rfl rfl rfl ⟨rfl, by decide +kernel, by decide +kernel, (by decide +kernel : (parseMethodDescriptor yX3_takeRemainder.desc).map (fun d => d.parameters.length) = some 2)⟩ ⟨Nat.le_of_ble_eq_true rfl, Nat.le_of_ble_eq_true rfl⟩ hl.1 rfl (Nat.le_of_ble_eq_true rfl) dX3_reduce_16 ⟨Nat.le_of_ble_eq_true rfl, Nat.le_of_ble_eq_true rfl⟩ (fun M1 H locs hp hM hS => ?_)
  obtain ⟨a1, a2, a3⟩ := hp
  rw [V_congr hcp, V1] at a1
  exact r_vret C hM hS (⟨a1, a2, fun b h1 h2 => by rw [a3 b h1 h2, xset_n h2]⟩) dX3_reduce_19
end R5
