theorem in_X3_takeRemainder_X3 : ∀ w ∈ wsX30, w ∈ wsX3_takeRemainder := by decide +kernel
/-- one step of the long division: the number modulo the divisor stays -/
theorem rem_step {f f' : Nat → Int32} {at_ sz Dv : Nat} (h1 : ∀ j, j < at_ → f' j = f j) (h2 : Vw f' at_ sz = Vw f at_ (sz + 1) % Dv) : V f' (at_ + sz) % Dv = V f (at_ + (sz + 1)) % Dv := by
  rw [V_split, V_split, h2, V_congr h1, Nat.add_mod, Nat.mul_mod, Nat.mod_mod, ← Nat.mul_mod, ← Nat.add_mod]
theorem lmin {a : Nat} (h : a < 2 ^ 63) : (if (2147483647 : Int64) < lN a then 2147483647 else lN a) = lN (min a (BB - 1)) := by
  have hB : BB = 2147483648 := rfl
  have e : (2147483647 : Int64) = lN (BB - 1) := by decide
  rw [e]
  by_cases h1 : BB - 1 < a
  · rw [if_pos ((pk_lLT (by omega) h).mpr h1), Nat.min_eq_right (by omega)]
  · rw [if_neg (fun q => h1 ((pk_lLT (by omega) h).mp q)), Nat.min_eq_left (by omega)]
theorem head_val {x y : Int32} (hx : 0 ≤ x.toInt) (hy : 0 ≤ y.toInt) : ((x.toInt64 <<< ((nI 31).toInt64 &&& 63)) ||| y.toInt64) = lN (dg x * BB + dg y) := by
  have hB : BB = 2147483648 := rfl
  have h1 := dg_lt x
  have h2 := dg_lt y
  rw [i2l_dg hx, i2l_dg hy, wb_shl _ (by decide), wb_or (by omega) (by omega)]
  have := Nat.shiftLeft_add_eq_or_of_lt (i := 31) (b := dg y) (by omega) (dg x)
  rw [Nat.shiftLeft_eq] at this
  rw [← this]
  rfl
theorem top_small {f : Nat → Int32} {n sz sh N Dv d1 : Nat} (hsz : 0 < sz) (hn : sz ≤ n) (hs : sh < 31) (hN : N < BB ^ n) (hV : V f (n + 1) = N * 2 ^ sh) (hd : 1073741824 ≤ d1) (hDv : d1 * BB ^ (sz - 1) ≤ Dv) : Vw f (n - sz + 1) sz < Dv := by
  have e : n + 1 = (n - sz + 1) + sz := by omega
  rw [e, V_split] at hV
  have h1 : BB ^ (n - sz + 1) * Vw f (n - sz + 1) sz ≤ N * 2 ^ sh := by omega
  have h2 : N * 2 ^ sh < BB ^ n * 2 ^ sh := Nat.mul_lt_mul_of_pos_right hN (Nat.two_pow_pos sh)
  have h3 : BB ^ n = BB ^ (n - sz + 1) * BB ^ (sz - 1) := by
    rw [← Nat.pow_add]
    congr 1
    omega
  have h4 : BB ^ (n - sz + 1) * Vw f (n - sz + 1) sz < BB ^ (n - sz + 1) * (BB ^ (sz - 1) * 2 ^ sh) := by
    rw [← Nat.mul_assoc, ← h3]
    omega
  have h5 := Nat.lt_of_mul_lt_mul_left h4
  have h6 : 2 ^ sh ≤ d1 := by
    have : 2 ^ sh ≤ 2 ^ 30 := Nat.pow_le_pow_right (by decide) (by omega)
    omega
  have h7 : BB ^ (sz - 1) * 2 ^ sh ≤ BB ^ (sz - 1) * d1 := Nat.mul_le_mul_left _ h6
  rw [Nat.mul_comm _ d1] at h7
  omega
section R4
variable {p : Program} {l : Launch} {e : Env} {R : Room} {s : State} {m : MethodId} {args : Array Value} {below : List Frame} {meth : Method} {c : Code} {Q : State → Prop} {cells slots : Nat} {ret : Option FieldType} {D : va_G} {kA : Nat → ClassId} {N0 : Nat}
set_option maxRecDepth 100000 in
theorem lp_rem {M : xM} {r out L W0 sz n X : Nat} {fd : Nat → Int32} {sh : Int32} (C : xC p s m args meth c cX3_takeRemainder 8 ret RX3 wsX3_takeRemainder D vwCl (xT kA) N0) (hob : M r = some (oRes r (nI sz) sh)) (hd : M (r + 2) = some (xI (kA 0) L fd)) (nd : nn fd L) (hsz0 : 0 < sz) (hsz : sz ≤ L) (hL : L < 1000) (hW : W0 < 10000) (hn : n < W0) (hszn : sz ≤ n) (hd1 : 1073741824 ≤ dg (fd (sz - 1)))
    (hexit : ∀ (f : Nat → Int32) (H : Heap) (locs : List Loc) (ls : Array Slot), nn f sz → f sz = 0 → V f sz = X % V fd sz → xW D vwCl N0 (xset M (r + 3) (xI (kA 0) W0 f)) H → va_S (xA N0) s.heap H locs → lv_has ls 8 [(0, .ref r), (1, .ref out)] → W p l e (xR 1) s m args below meth c H locs 0 0 Q (F0 m 105 ls [])) :
    ∀ (k : Nat) (f : Nat → Int32) (H : Heap) (locs : List Loc) (ls : Array Slot), k ≤ n - sz + 1 → nn f (k + sz) → (k ≤ n - sz → f (k + sz) = 0) → Vw f k sz < V fd sz → V f (k + sz) % V fd sz = X % V fd sz → xW D vwCl N0 (xset M (r + 3) (xI (kA 0) W0 f)) H → va_S (xA N0) s.heap H locs → lv_has ls 8 [(5, .int (nI k - 1)), (0, .ref r), (1, .ref out), (3, .long (lN (dg (fd (sz - 1)))))] → W p l e (xR 1) s m args below meth c H locs 0 0 Q (F0 m 44 ls []) := by
  obtain ⟨hx, hb, hml, hown, hts, hr, hlocks, hK, hN⟩ := id C
  have hB : BB = 2147483648 := rfl
  have hDe : V fd sz = V fd (sz - 1) + dg (fd (sz - 1)) * BB ^ (sz - 1) := by
    obtain ⟨j, rfl⟩ : ∃ j, sz = j + 1 := ⟨sz - 1, by omega⟩
    rw [V_s, Nat.add_sub_cancel]
  have hDv : 0 < V fd sz := by
    have h1 : 1 * BB ^ (sz - 1) ≤ dg (fd (sz - 1)) * BB ^ (sz - 1) := Nat.mul_le_mul_right _ (by omega)
    have h2 := BBp (sz - 1)
    omega
  have hdlt := dg_lt (fd (sz - 1))
  intro k
  induction k with
  | zero =>
    intro f H locs ls hk hnf hz hlt hX hM hS hl
    refine lv_iload hx hb dX3_takeRemainder_44 (lv_at hl 0 rfl) ?_
    refine lv_if_lt (tgt := 105) hx hb dX3_takeRemainder_46 (by decide) (fun hc => ?_) (fun hc => ?_)
    · rw [Nat.zero_add] at hnf hz hX
      have h1 : V f sz < V fd sz := hlt
      exact hexit f H locs ls hnf (hz (Nat.zero_le _)) (by rw [← hX, Nat.mod_eq_of_lt h1]) hM hS (lv_sub hl [1, 2] rfl)
    · exact absurd (by decide) hc
  | succ k ih =>
    intro f H locs ls hk hnf hz hlt hX hM hS hl
    have hl : lv_has ls 8 [(5, .int (nI k)), (0, .ref r), (1, .ref out), (3, .long (lN (dg (fd (sz - 1)))))] := by rw [nI_pred] at hl; exact hl
    have hob1 : xset M (r + 3) (xI (kA 0) W0 f) r = some (oRes r (nI sz) sh) := by rw [xset_n (by omega)]; exact hob
    have hd2 : xset M (r + 3) (xI (kA 0) W0 f) (r + 2) = some (xI (kA 0) L fd) := by rw [xset_n (by omega)]; exact hd
    refine lv_iload hx hb dX3_takeRemainder_44 (lv_at hl 0 rfl) ?_
    refine r_if_ltN (tgt := 105) C (by omega) dX3_takeRemainder_46 (by decide) (fun hc => ?_) (fun hc => ?_)
    · exact hc.elim
    · refine lv_aload_n hx hb dX3_takeRemainder_49 rfl (lv_at hl 1 rfl) ?_
      refine x_get (v := .ref (r + 3)) hx hb hts in_X3_takeRemainder_X3 hown hK hM (hob1) rfl 2 (by decide) (hts (.fieldLink RX3 18 "LimbCurves$Residues" "work" "[I") (by decide +kernel)) (fun _ h9 => h9) rfl dX3_takeRemainder_50 ?_
      refine lv_iload hx hb dX3_takeRemainder_53 (lv_at hl 0 rfl) ?_
      refine lv_aload_n hx hb dX3_takeRemainder_55 rfl (lv_at hl 1 rfl) ?_
      refine x_get (v := .int (nI sz)) hx hb hts in_X3_takeRemainder_X3 hown hK hM (hob1) rfl 8 (by decide) (hts (.fieldLink RX3 36 "LimbCurves$Residues" "size" "I") (by decide +kernel)) (fun _ h9 => h9) rfl dX3_takeRemainder_56 ?_
      refine r_iaddN C dX3_takeRemainder_59 ?_
      refine r_iald C hM (xset_s) rfl (by omega) (by omega) dX3_takeRemainder_60 ?_
      refine lv_i2l (v := (f (k + sz)).toInt64) hx hb dX3_takeRemainder_61 rfl ?_
      refine lv_bipush (v := nI 31) hx hb dX3_takeRemainder_62 (by decide) ?_
      refine lv_lshl (v := ((f (k + sz)).toInt64) <<< ((nI 31).toInt64 &&& 63)) hx hb dX3_takeRemainder_64 rfl ?_
      refine lv_aload_n hx hb dX3_takeRemainder_65 rfl (lv_at hl 1 rfl) ?_
      refine x_get (v := .ref (r + 3)) hx hb hts in_X3_takeRemainder_X3 hown hK hM (hob1) rfl 2 (by decide) (hts (.fieldLink RX3 18 "LimbCurves$Residues" "work" "[I") (by decide +kernel)) (fun _ h9 => h9) rfl dX3_takeRemainder_66 ?_
      refine lv_iload hx hb dX3_takeRemainder_69 (lv_at hl 0 rfl) ?_
      refine lv_aload_n hx hb dX3_takeRemainder_71 rfl (lv_at hl 1 rfl) ?_
      refine x_get (v := .int (nI sz)) hx hb hts in_X3_takeRemainder_X3 hown hK hM (hob1) rfl 8 (by decide) (hts (.fieldLink RX3 36 "LimbCurves$Residues" "size" "I") (by decide +kernel)) (fun _ h9 => h9) rfl dX3_takeRemainder_72 ?_
      refine r_iaddN C dX3_takeRemainder_75 ?_
      refine lv_iconst (v := nI 1) hx hb dX3_takeRemainder_76 (by decide) ?_
      refine r_isubN C (by omega) dX3_takeRemainder_77 ?_
      refine r_iald C hM (xset_s) rfl (by omega) (by omega) dX3_takeRemainder_78 ?_
      refine lv_i2l (v := (f ((k + sz) - 1)).toInt64) hx hb dX3_takeRemainder_79 rfl ?_
      refine lv_lor hx hb dX3_takeRemainder_80 ?_
      refine lv_topl (fun v_1 ev_1 => ?_)
      refine lv_lstore (lv' := [(6, .long v_1), (5, .int (nI k)), (0, .ref r), (1, .ref out), (3, .long (lN (dg (fd (sz - 1)))))]) hx hb dX3_takeRemainder_81 hl (by decide) rfl (fun ls hl => ?_)
      refine lv_aload_n hx hb dX3_takeRemainder_83 rfl (lv_at hl 2 rfl) ?_
      refine lv_lload hx hb dX3_takeRemainder_84 (lv_at hl 0 rfl) ?_
      refine lv_lload_n hx hb dX3_takeRemainder_86 rfl (lv_at hl 4 rfl) ?_
      rw [head_val (hnf (k + sz) (by omega)) (hnf (k + sz - 1) (by omega))] at ev_1
      subst ev_1
      obtain ⟨hd9, hhd⟩ : ∃ q, q = dg (f (k + sz)) * BB + dg (f (k + sz - 1)) := ⟨_, rfl⟩
      rw [← hhd] at hl ⊢
      have l1 := dg_lt (f (k + sz))
      have l2 := dg_lt (f (k + sz - 1))
      have hhl : hd9 < 4611686018427387904 := by
        rw [hB] at hhd
        omega
      refine lv_ldiv hx hb dX3_takeRemainder_87 (fun q => ?_) ?_
      · have := congrArg Int64.toInt q
        rw [pk_lT (by omega)] at this
        have h0 : (0 : Int64).toInt = 0 := rfl
        omega
      refine r_topl C (lN (hd9 / dg (fd (sz - 1)))) (pk_lDiv (by omega) (by omega) (by omega)) ?_
      refine lv_ldc2 (v := 2147483647) hx hb hown (hts (.constantLong RX3 90 (2147483647)) (by decide +kernel)) dX3_takeRemainder_88 ?_
      have hqle : hd9 / dg (fd (sz - 1)) ≤ hd9 := Nat.div_le_self _ _
      refine va_mmin_long (rest := [.ref r]) hx hb (hml.trans hl.1.symm) hown (hts (.methodLink RX3 116 Lib.MathLoose.min_long.x) (by decide +kernel)) (hts (.static Lib.MathLoose.min_long.x) (by decide +kernel)) (hts (.initialized "java/lang/Math") (by decide +kernel)) (hts (.code Lib.MathLoose.min_long.x Lib.MathLoose.min_long.code 4 (some .long)) (by decide +kernel)) (Nat.le_of_ble_eq_true rfl) (Nat.le_of_ble_eq_true rfl) (Nat.le_of_ble_eq_true rfl) (Nat.le_of_ble_eq_true rfl) dX3_takeRemainder_91 ?_
      refine r_topl C (lN (min (hd9 / dg (fd (sz - 1))) (BB - 1))) (lmin (by omega)) ?_
      obtain ⟨G, hG⟩ : ∃ G, G = min (hd9 / dg (fd (sz - 1))) (BB - 1) := ⟨_, rfl⟩
      rw [← hG]
      have hGB : G < BB := by
        have : G ≤ BB - 1 := by rw [hG]; exact Nat.min_le_right _ _
        omega
      have hGi : (lN G).toInt = (G : Int) := pk_lT (by omega)
      have hU1 : Vw f k (sz + 1) = hd9 * BB ^ (sz - 1) + Vw f k (sz - 1) := by
        obtain ⟨j, rfl⟩ : ∃ j, sz = j + 1 := ⟨sz - 1, by omega⟩
        rw [Vw_s, Vw_s, Nat.add_sub_cancel, hhd, Nat.pow_succ, Nat.add_mul, show k + (j + 1) - 1 = k + j by omega]
        have : dg (f (k + (j + 1))) * (BB ^ j * BB) = dg (f (k + (j + 1))) * BB * BB ^ j := by simp only [Nat.mul_assoc, Nat.mul_comm, Nat.mul_left_comm]
        rw [this]
        omega
      have hUlt : Vw f k (sz + 1) < V fd sz * BB := by
        rw [Vw_head]
        have l3 := dg_lt (f k)
        have h1 : BB * (Vw f (k + 1) sz + 1) ≤ BB * V fd sz := Nat.mul_le_mul_left _ hlt
        rw [Nat.mul_add, Nat.mul_one, Nat.mul_comm BB (V fd sz)] at h1
        omega
      have hk1 := kn_guess (d1 := dg (fd (sz - 1))) (d' := V fd (sz - 1)) hU1 (Vw_lt f k (sz - 1)) (Dv := V fd sz) (by rw [hDe, Nat.add_comm]) (V_lt fd (sz - 1)) (by omega) hUlt
      rw [← hG] at hk1
      refine lv_iload hx hb dX3_takeRemainder_94 (lv_at hl 1 rfl) ?_
      refine r_Vv (As := [.long (lN G), .int (nI k)]) (rest := []) C hM hS (c_takeDivisorAway l D kA N0 (xset M (r + 3) (xI (kA 0) W0 f)) r L W0 sz k G f fd (lN G) sh hob1 hd2 xset_s nd (fun j a b => hnf j (by omega)) hsz hL hW (by omega) hGi hGB hDv hk1.1 hk1.2) (hob1) rfl gX3_takeRemainder_X3_takeDivisorAway rfl rfl rfl ⟨rfl, by decide +kernel, by decide +kernel, (by decide +kernel : (parseMethodDescriptor yX3_takeDivisorAway.desc).map (fun d => d.parameters.length) = some 2)⟩ ⟨Nat.le_of_ble_eq_true rfl, Nat.le_of_ble_eq_true rfl⟩ hl.1 rfl (Nat.le_of_ble_eq_true rfl) dX3_takeRemainder_96 ⟨Nat.le_of_ble_eq_true rfl, Nat.le_of_ble_eq_true rfl⟩ (fun M1 H locs hp hM hS => ?_)
      obtain ⟨f', rfl, e1, e2, e3, e4⟩ := hp
      rw [xset_xset] at hM
      refine lv_iinc (v := nI k - 1) (lv' := [(5, .int (nI k - 1)), (6, .long (lN hd9)), (0, .ref r), (1, .ref out), (3, .long (lN (dg (fd (sz - 1)))))]) hx hb dX3_takeRemainder_99 hl (k := 1) rfl (r_decI _) (by decide) rfl (fun ls hl => ?_)
      refine lv_goto (tgt := 44) hx hb dX3_takeRemainder_102 (by decide) ?_
      refine ih f' H locs ls (by omega) (fun j hj => ?_) (fun _ => e3) (by rw [e4]; exact Nat.mod_lt _ hDv) ?_ hM hS (lv_sub hl [0, 2, 3, 4] rfl)
      · by_cases h : j < k
        · rw [e1 j (Or.inl h)]; exact hnf j (by omega)
        · exact e2 j (by omega) (by omega)
      · rw [rem_step (fun j hj => e1 j (Or.inl hj)) e4, ← hX]
        congr 2
        omega
set_option maxRecDepth 100000 in
theorem lp_out {M : xM} {r out L W0 sz sh : Nat} {f : Nat → Int32} (C : xC p s m args meth c cX3_takeRemainder 8 ret RX3 wsX3_takeRemainder D vwCl (xT kA) N0) (hob : M r = some (oRes r (nI sz) (nI sh))) (hw : M (r + 3) = some (xI (kA 0) W0 f)) (nf : nn f sz) (hf0 : f sz = 0) (hro : r ≠ out) (hwo : r + 3 ≠ out) (hsz : sz < W0) (hL : L < 1000) (hW : W0 < 10000) (hsh : sh < 31)
    (hexit : ∀ (o : Nat → Int32) (H : Heap) (locs : List Loc) (ls : Array Slot), (∀ j, j < L → o j = if j < sz then nI ((dg (f (j + 1)) * BB + dg (f j)) / 2 ^ sh % BB) else 0) → xW D vwCl N0 (xset M out (xI (kA 0) L o)) H → va_S (xA N0) s.heap H locs → W p l e (xR 1) s m args below meth c H locs 0 0 Q (F0 m 144 ls [])) :
    ∀ (k i : Nat) (o : Nat → Int32) (H : Heap) (locs : List Loc) (ls : Array Slot), i + k = L → (∀ j, j < i → o j = if j < sz then nI ((dg (f (j + 1)) * BB + dg (f j)) / 2 ^ sh % BB) else 0) → xW D vwCl N0 (xset M out (xI (kA 0) L o)) H → va_S (xA N0) s.heap H locs → lv_has ls 8 [(5, .int (nI i)), (0, .ref r), (1, .ref out)] → W p l e (xR 1) s m args below meth c H locs 0 0 Q (F0 m 108 ls []) := by
  obtain ⟨hx, hb, hml, hown, hts, hr, hlocks, hK, hN⟩ := id C
  intro k
  induction k with
  | zero =>
    intro i o H locs ls hi ho hM hS hl
    refine lv_iload hx hb dX3_takeRemainder_108 (lv_at hl 0 rfl) ?_
    refine lv_aload_n hx hb dX3_takeRemainder_110 rfl (lv_at hl 2 rfl) ?_
    refine r_alen C hM (xset_s) rfl dX3_takeRemainder_111 ?_
    refine r_icmp_geN (tgt := 144) C (by omega) (by omega) dX3_takeRemainder_112 (by decide) (fun hc => ?_) (fun hc => ?_)
    · exact hexit o H locs ls (fun j hj => ho j (by omega)) hM hS
    · omega
  | succ k ih =>
    intro i o H locs ls hi ho hM hS hl
    have hob1 : xset M out (xI (kA 0) L o) r = some (oRes r (nI sz) (nI sh)) := by rw [xset_n hro]; exact hob
    have hw1 : xset M out (xI (kA 0) L o) (r + 3) = some (xI (kA 0) W0 f) := by rw [xset_n hwo]; exact hw
    refine lv_iload hx hb dX3_takeRemainder_108 (lv_at hl 0 rfl) ?_
    refine lv_aload_n hx hb dX3_takeRemainder_110 rfl (lv_at hl 2 rfl) ?_
    refine r_alen C hM (xset_s) rfl dX3_takeRemainder_111 ?_
    refine r_icmp_geN (tgt := 144) C (by omega) (by omega) dX3_takeRemainder_112 (by decide) (fun hc => ?_) (fun hc => ?_)
    · omega
    · refine lv_aload_n hx hb dX3_takeRemainder_115 rfl (lv_at hl 2 rfl) ?_
      refine lv_iload hx hb dX3_takeRemainder_116 (lv_at hl 0 rfl) ?_
      refine lv_iload hx hb dX3_takeRemainder_118 (lv_at hl 0 rfl) ?_
      refine lv_aload_n hx hb dX3_takeRemainder_120 rfl (lv_at hl 1 rfl) ?_
      refine x_get (v := .int (nI sz)) hx hb hts in_X3_takeRemainder_X3 hown hK hM (hob1) rfl 8 (by decide) (hts (.fieldLink RX3 36 "LimbCurves$Residues" "size" "I") (by decide +kernel)) (fun _ h9 => h9) rfl dX3_takeRemainder_121 ?_
      refine r_icmp_geN (tgt := 136) C (by omega) (by omega) dX3_takeRemainder_124 (by decide) (fun hd => ?_) (fun hd => ?_)
      · refine lv_iconst (v := nI 0) hx hb dX3_takeRemainder_136 (by decide) ?_
        refine r_iast C hM hS (xset_s) rfl (by omega) (by omega) dX3_takeRemainder_137 (fun H locs hM hS => ?_)
        rw [xset_xset] at hM
        refine lv_iinc (v := nI (i + 1)) (lv' := [(5, .int (nI (i + 1))), (0, .ref r), (1, .ref out)]) hx hb dX3_takeRemainder_138 hl (k := 0) rfl (r_inc _) (by decide) rfl (fun ls hl => ?_)
        refine lv_goto (tgt := 108) hx hb dX3_takeRemainder_141 (by decide) ?_
        refine ih (i + 1) (upd o i (nI 0)) H locs ls (by omega) (fun j hj => ?_) hM hS (lv_sub hl [0, 1, 2] rfl)
        by_cases h : j = i
        · rw [h, pk_us, if_neg (by omega)]; rfl
        · rw [pk_un h]
          exact ho j (by omega)
      · have hnx : 0 ≤ (f (i + 1)).toInt := by
          by_cases h : i + 1 < sz
          · exact nf _ h
          · rw [show i + 1 = sz by omega, hf0]
            decide
        refine lv_aload_n hx hb dX3_takeRemainder_127 rfl (lv_at hl 1 rfl) ?_
        refine lv_iload hx hb dX3_takeRemainder_128 (lv_at hl 0 rfl) ?_
        refine r_Vi (As := [.int (nI i)]) (rest := [.int (nI i), .ref out]) C hM hS (c_unshiftedLimb l D kA N0 (xset M out (xI (kA 0) L o)) r i W0 sh f (nI sz) hob1 hw1 hnx (nf i hd) (by omega) hW hsh) (hob1) rfl gX3_takeRemainder_X3_unshiftedLimb rfl rfl rfl ⟨rfl, by decide +kernel, by decide +kernel, (by decide +kernel : (parseMethodDescriptor yX3_unshiftedLimb.desc).map (fun d => d.parameters.length) = some 1)⟩ ⟨Nat.le_of_ble_eq_true rfl, Nat.le_of_ble_eq_true rfl⟩ hl.1 rfl (Nat.le_of_ble_eq_true rfl) dX3_takeRemainder_130 ⟨Nat.le_of_ble_eq_true rfl, Nat.le_of_ble_eq_true rfl⟩ (fun q M1 H locs hp hM hS => ?_)
        obtain ⟨eM, eq⟩ := hp
        rw [eM] at hM
        refine lv_goto (tgt := 137) hx hb dX3_takeRemainder_133 (by decide) ?_
        refine r_iast C hM hS (xset_s) rfl (by omega) (by omega) dX3_takeRemainder_137 (fun H locs hM hS => ?_)
        rw [xset_xset] at hM
        refine lv_iinc (v := nI (i + 1)) (lv' := [(5, .int (nI (i + 1))), (0, .ref r), (1, .ref out)]) hx hb dX3_takeRemainder_138 hl (k := 0) rfl (r_inc _) (by decide) rfl (fun ls hl => ?_)
        refine lv_goto (tgt := 108) hx hb dX3_takeRemainder_141 (by decide) ?_
        refine ih (i + 1) (upd o i q) H locs ls (by omega) (fun j hj => ?_) hM hS (lv_sub hl [0, 1, 2] rfl)
        by_cases h : j = i
        · rw [h, pk_us, if_pos hd]; exact eq
        · rw [pk_un h]
          exact ho j (by omega)
set_option maxRecDepth 100000 in
theorem c_takeRemainder (l : Launch) (D : va_G) (kA : Nat → ClassId) (N0 : Nat) (M : xM) (r L mm out n W0 sz sh : Nat) (fm fd f : Nat → Int32) (hob : M r = some (oRes r (nI sz) (nI sh))) (hd : M (r + 2) = some (xI (kA 0) L fd)) (hw : M (r + 3) = some (xI (kA 0) W0 f)) (h0 : isA kA M out L) (nf : nn f n) (nd : nn fd L) (hsz0 : 0 < sz) (hsz : sz ≤ L) (hsh : sh < 31) (hVd : V fd L = mm * 2 ^ sh) (hzd : ∀ j, sz ≤ j → j < L → fd j = 0) (hd1 : 1073741824 ≤ dg (fd (sz - 1))) (hszn : sz ≤ n) (hn : n < W0) (hW : W0 < 10000) (hL : L < 1000) (ho1 : out ≠ r + 2) (ho2 : out ≠ r + 3) : cV l yX3_takeRemainder wsX3_takeRemainder (xR 1) [.ref r, .ref out, .int (nI n)] D kA N0 M (fun M1 => isN kA M1 out L (V f n % mm) ∧ isA kA M1 (r + 3) W0 ∧ ∀ b, b ≠ out → b ≠ r + 3 → M1 b = M b) := by
  have hro := h0.ne hob
  obtain ⟨o0, h0⟩ := h0
  have hB : BB = 2147483648 := rfl
  have hDv : V fd sz = mm * 2 ^ sh := by rw [← V_top hsz hzd]; exact hVd
  have hdlt := dg_lt (fd (sz - 1))
  refine r_met (cc := cX3_takeRemainder) (maxL := 8) (ret := none) (by decide) rfl (Nat.le_of_ble_eq_true rfl) ?_
  intro p e s m below meth c ls C hM hnm hl
  obtain ⟨hx, hb, hml, hown, hts, hr, hlocks, hK, hN⟩ := id C
  have hS : va_S (xA N0) s.heap s.heap [] := va_S.rf
  have hl : lv_has ls 8 [(0, .ref r), (1, .ref out), (2, .int (nI n))] := hl
  refine lv_aload_n hx hb dX3_takeRemainder_0 rfl (lv_at hl 0 rfl) ?_
  refine lv_iload_n hx hb dX3_takeRemainder_1 rfl (lv_at hl 2 rfl) ?_
  refine r_Vv (As := [.int (nI n)]) (rest := []) C hM hS (c_shiftWork l D kA N0 M r n W0 sh f (nI sz) hob hw nf hn hW hsh) (hob) rfl gX3_takeRemainder_X3_shiftWork rfl rfl rfl ⟨rfl, by decide +kernel, by decide +kernel, (by decide +kernel : (parseMethodDescriptor yX3_shiftWork.desc).map (fun d => d.parameters.length) = some 1)⟩ ⟨Nat.le_of_ble_eq_true rfl, Nat.le_of_ble_eq_true rfl⟩ hl.1 rfl (Nat.le_of_ble_eq_true rfl) dX3_takeRemainder_2 ⟨Nat.le_of_ble_eq_true rfl, Nat.le_of_ble_eq_true rfl⟩ (fun M1 H locs hp hM hS => ?_)
  obtain ⟨f1, rfl, nf1, hV1⟩ := hp
  have hob1 : xset M (r + 3) (xI (kA 0) W0 f1) r = some (oRes r (nI sz) (nI sh)) := by rw [xset_n (by omega)]; exact hob
  have hd2 : xset M (r + 3) (xI (kA 0) W0 f1) (r + 2) = some (xI (kA 0) L fd) := by rw [xset_n (by omega)]; exact hd
  refine lv_aload_n hx hb dX3_takeRemainder_5 rfl (lv_at hl 0 rfl) ?_
  refine x_get (v := .int (nI sz)) hx hb hts in_X3_takeRemainder_X3 hown hK hM (hob1) rfl 8 (by decide) (hts (.fieldLink RX3 36 "LimbCurves$Residues" "size" "I") (by decide +kernel)) (fun _ h9 => h9) rfl dX3_takeRemainder_6 ?_
  refine r_if_leN (tgt := 27) C (by omega) dX3_takeRemainder_9 (by decide) (fun hc => ?_) (fun hc => ?_)
  · omega
  · refine lv_aload_n hx hb dX3_takeRemainder_12 rfl (lv_at hl 0 rfl) ?_
    refine x_get (v := .ref (r + 2)) hx hb hts in_X3_takeRemainder_X3 hown hK hM (hob1) rfl 1 (by decide) (hts (.fieldLink RX3 15 "LimbCurves$Residues" "divisor" "[I") (by decide +kernel)) (fun _ h9 => h9) rfl dX3_takeRemainder_13 ?_
    refine lv_aload_n hx hb dX3_takeRemainder_16 rfl (lv_at hl 0 rfl) ?_
    refine x_get (v := .int (nI sz)) hx hb hts in_X3_takeRemainder_X3 hown hK hM (hob1) rfl 8 (by decide) (hts (.fieldLink RX3 36 "LimbCurves$Residues" "size" "I") (by decide +kernel)) (fun _ h9 => h9) rfl dX3_takeRemainder_17 ?_
    refine lv_iconst (v := nI 1) hx hb dX3_takeRemainder_20 (by decide) ?_
    refine r_isubN C (by omega) dX3_takeRemainder_21 ?_
    refine r_iald C hM (hd2) rfl (by omega) (by omega) dX3_takeRemainder_22 ?_
    refine lv_i2l (v := (fd (sz - 1)).toInt64) hx hb dX3_takeRemainder_23 rfl ?_
    refine lv_goto (tgt := 28) hx hb dX3_takeRemainder_24 (by decide) ?_
    refine lv_topl (fun v_2 ev_2 => ?_)
    refine lv_lstore_n (lv' := [(3, .long v_2), (0, .ref r), (1, .ref out), (2, .int (nI n))]) hx hb dX3_takeRemainder_28 rfl hl (by decide) rfl (fun ls hl => ?_)
    refine lv_lload_n hx hb dX3_takeRemainder_29 rfl (lv_at hl 0 rfl) ?_
    refine lv_lconst (v := 0) hx hb dX3_takeRemainder_30 (by decide) ?_
    refine W.lcmp hx hb dX3_takeRemainder_31 ?_
    rw [i2l_dg (nd _ (by omega))] at ev_2
    subst ev_2
    refine lv_if_ne (tgt := 36) hx hb dX3_takeRemainder_32 (by decide) (fun hq => ?_) (fun hq => ?_)
    · refine lv_iload_n hx hb dX3_takeRemainder_36 rfl (lv_at hl 3 rfl) ?_
      refine lv_aload_n hx hb dX3_takeRemainder_37 rfl (lv_at hl 1 rfl) ?_
      refine x_get (v := .int (nI sz)) hx hb hts in_X3_takeRemainder_X3 hown hK hM (hob1) rfl 8 (by decide) (hts (.fieldLink RX3 36 "LimbCurves$Residues" "size" "I") (by decide +kernel)) (fun _ h9 => h9) rfl dX3_takeRemainder_38 ?_
      refine r_isubN C (by omega) dX3_takeRemainder_41 ?_
      have e1 : n - sz = n - sz + 1 - 1 := by omega
      refine lv_istore (lv' := [(5, .int (nI (n - sz + 1) - 1)), (3, .long (lN (dg (fd (sz - 1))))), (0, .ref r), (1, .ref out), (2, .int (nI n))]) hx hb dX3_takeRemainder_42 hl (by decide) (by rw [nI_pred]; rfl) (fun ls hl => ?_)
      refine lp_rem (X := V f1 (n + 1)) (out := out) C hob hd nd hsz0 hsz hL hW hn hszn hd1 (fun f2 H locs ls nf2 hz2 hV2 hM hS hl => ?_) (n - sz + 1) f1 H _ ls (Nat.le_refl _) (fun j hj => nf1 j (by omega)) (fun h => by omega) (top_small hsz0 hszn hsh (V_lt f n) hV1 hd1 ?_) (by rw [show n - sz + 1 + sz = n + 1 by omega]) hM hS (lv_sub hl [0, 2, 3, 1] rfl)
      · have hob2 : xset M (r + 3) (xI (kA 0) W0 f2) r = some (oRes r (nI sz) (nI sh)) := by rw [xset_n (by omega)]; exact hob
        refine lv_iconst (v := nI 0) hx hb dX3_takeRemainder_105 (by decide) ?_
        refine lv_istore (lv' := [(5, .int (nI 0)), (0, .ref r), (1, .ref out)]) hx hb dX3_takeRemainder_106 hl (by decide) rfl (fun ls hl => ?_)
        have hM' : xW D vwCl N0 (xset (xset M (r + 3) (xI (kA 0) W0 f2)) out (xI (kA 0) L o0)) H := by
          rw [xset_id (M := xset M (r + 3) (xI (kA 0) W0 f2))]
          · exact hM
          · rw [xset_n ho2]; exact h0
        refine lp_out (W0 := W0) (sz := sz) (sh := sh) (f := f2) C hob2 xset_s nf2 hz2 hro (Ne.symm ho2) (by omega) hL hW hsh (fun o H locs ls ho hM hS => ?_) L 0 o0 H _ ls (by omega) (fun j hj => by omega) hM' hS (lv_sub hl [0, 1, 2] rfl)
        have hv : V f2 sz = V f n % mm * 2 ^ sh := by rw [hV2, hV1, hDv, Nat.mul_mod_mul_right]
        have hVo : V o L = V f n % mm := by
          rw [V_top hsz (fun j a b => by rw [ho j b, if_neg (by omega)])]
          have e2 : V o sz = V (fun j => nI ((dg (f2 (j + 1)) * BB + dg (f2 j)) / 2 ^ sh % BB)) sz := V_congr (fun j hj => by rw [ho j (by omega), if_pos hj])
          rw [e2]
          exact V_ushr hsh (fun j => rfl) hz2 hv hsz0
        have no : nn o L := fun j hj => by
          rw [ho j hj]
          by_cases h : j < sz
          · rw [if_pos h]
            have := Nat.mod_lt ((dg (f2 (j + 1)) * BB + dg (f2 j)) / 2 ^ sh) BB_pos
            rw [nI_toInt (by omega)]
            omega
          · rw [if_neg h]; decide
        exact r_vret C hM hS (⟨⟨o, xset_s, no, hVo⟩, ⟨f2, by rw [xset_n (Ne.symm ho2), xset_s]⟩, fun b h1 h2 => by rw [xset_n h1, xset_n h2]⟩) dX3_takeRemainder_144
      · obtain ⟨j, rfl⟩ : ∃ j, sz = j + 1 := ⟨sz - 1, by omega⟩
        rw [V_s, Nat.add_sub_cancel]
        omega
    · exfalso
      rw [lc0, l0, pk_lT (by omega)] at hq
      omega
end R4
