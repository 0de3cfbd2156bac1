theorem in_X6_digit_X6 : ∀ w ∈ wsX60, w ∈ wsX6_digit := by decide +kernel
theorem lNa {a b : Nat} (h : a + b < 2 ^ 63) : lN a + lN b = lN (a + b) := by
  apply l_eqI
  rw [l_add (pk_lT (n := a) (by omega)) (pk_lT (n := b) (by omega)) (by omega) (by omega), pk_lT h]
  omega
theorem lNs {a b : Nat} (h : b ≤ a) (ha : a < 2 ^ 63) : lN a - lN b = lN (a - b) := by
  apply l_eqI
  rw [l_sub (pk_lT (n := a) (by omega)) (pk_lT (n := b) (by omega)) (by omega) (by omega), pk_lT (by omega)]
  omega
theorem lNm {a b : Nat} (ha : a < 2 ^ 63) (hb : b < 2 ^ 63) (h : a * b < 2 ^ 63) : lN a * lN b = lN (a * b) := by
  apply l_eqI
  rw [l_mul (pk_lT ha) (pk_lT hb) (by rw [← Int.natCast_mul]; omega) (by rw [← Int.natCast_mul]; omega), pk_lT h, Int.natCast_mul]
theorem lN_BB : (2147483648 : Int64) = lN 2147483648 := by decide
theorem lN1 : (1 : Int64) = lN 1 := by decide
theorem cmpN {a b : Nat} (ha : a < 2 ^ 63) (hb : b < 2 ^ 63) : 0 ≤ lg_cmp (lN a) (lN b) ↔ b ≤ a := by
  rw [lcge, pk_lT ha, pk_lT hb]
  omega
theorem cmpN0 {a b : Nat} (ha : a < 2 ^ 63) (hb : b < 2 ^ 63) : lg_cmp (lN a) (lN b) ≤ 0 ↔ a ≤ b := by
  unfold lg_cmp
  by_cases h1 : lN a > lN b
  · rw [if_pos h1]
    have h2 := (pk_lLT hb ha).mp h1
    exact ⟨fun q => absurd q (by decide), fun q => by omega⟩
  · rw [if_neg h1]
    have h2 : ¬ b < a := fun q => h1 ((pk_lLT hb ha).mpr q)
    refine ⟨fun _ => by omega, fun _ => ?_⟩
    split <;> decide
/-- the guess is not too small -/
theorem dq_lo {U V1 P T v1 ul vl : Nat} (hP : 0 < P) (hU : U = T * P + ul) (hul : ul < P) (hV : V1 = v1 * P + vl) (hv : 0 < v1) : U / V1 ≤ T / v1 := by
  have hV0 : 0 < V1 := by have := Nat.mul_pos hv hP; omega
  have h1 : U / V1 * V1 ≤ U := Nat.div_mul_le_self U V1
  rw [Nat.le_div_iff_mul_le hv]
  generalize U / V1 = D at *
  have h2 : D * v1 * P ≤ U := by
    have : D * V1 = D * v1 * P + D * vl := by rw [hV, Nat.mul_add, Nat.mul_assoc]
    omega
  have h3 : D * v1 * P < (T + 1) * P := by rw [Nat.add_mul]; omega
  have := Nat.lt_of_mul_lt_mul_right h3
  omega
/-- where the second digit tells that the guess is too great, it is -/
theorem dq_st {U V1 P T v1 v2 u2 ul vl d l : Nat} (hP : 0 < P) (hU : U = (T * BB + u2) * P + ul) (hul : ul < P) (hV : V1 = (v1 * BB + v2) * P + vl) (hv : 0 < v1) (hT : d * v1 + l = T) (h : l * BB + u2 < d * v2) : U / V1 < d := by
  have hB := BB_pos
  have hV0 : 0 < V1 := by have := Nat.mul_pos (Nat.mul_pos hv hB) hP; rw [Nat.add_mul] at hV; omega
  rw [Nat.div_lt_iff_lt_mul hV0, hU]
  have h1 : T * BB + u2 + 1 ≤ d * (v1 * BB + v2) := by
    rw [← hT, Nat.mul_add, Nat.add_mul, ← Nat.mul_assoc]
    omega
  have h2 := Nat.mul_le_mul_right P h1
  rw [Nat.add_mul _ 1] at h2
  have h3 : d * V1 = d * (v1 * BB + v2) * P + d * vl := by rw [hV, Nat.mul_add, Nat.mul_assoc]
  omega
/-- where it does not, the guess is too great by one at most -/
theorem dq_up {U V1 P T v1 v2 u2 ul vl d l : Nat} (hU : U = (T * BB + u2) * P + ul) (hV : V1 = (v1 * BB + v2) * P + vl) (hvl : vl < P) (hv : 0 < v1) (hT : d * v1 + l = T) (h : d * v2 ≤ l * BB + u2) (hd : d < BB) : d ≤ U / V1 + 1 := by
  have hB := BB_pos
  have hP : 0 < P := by omega
  have hVP : BB * P ≤ V1 := by
    have : BB * P ≤ v1 * BB * P := by
      rw [Nat.mul_assoc]
      exact Nat.le_mul_of_pos_left _ hv
    rw [Nat.add_mul] at hV
    omega
  have hV0 : 0 < V1 := by have := Nat.mul_pos hB hP; omega
  have h1 : d * (v1 * BB + v2) ≤ T * BB + u2 := by
    rw [← hT, Nat.mul_add, Nat.add_mul, ← Nat.mul_assoc]
    omega
  have h2 := Nat.mul_le_mul_right P h1
  have h3 : d * V1 = d * (v1 * BB + v2) * P + d * vl := by rw [hV, Nat.mul_add, Nat.mul_assoc]
  have h4 : d * vl ≤ BB * P := Nat.mul_le_mul (by omega) (by omega)
  have h5 : d * vl < BB * P := by
    rcases Nat.eq_zero_or_pos d with q | q
    · rw [q, Nat.zero_mul]; exact Nat.mul_pos hB hP
    · exact Nat.lt_of_lt_of_le (Nat.mul_lt_mul_of_pos_left hvl q) (Nat.mul_le_mul_right P (by omega))
  rcases Nat.lt_or_ge (U / V1 + 1) d with q | q
  · exfalso
    have h6 : (U / V1 + 2) * V1 ≤ d * V1 := Nat.mul_le_mul_right V1 q
    have h7 := Nat.lt_div_mul_add hV0 (a := U)
    rw [Nat.add_mul] at h6
    omega
  · exact q
theorem ms_st {A C E P d w cn uv f x q r ub : Nat} (h : A + d * E = C + (cn + uv) * P) (hq : d * w + cn = BB * q + r) (hx : x + r + uv = f + ub * BB) : A + x * P + d * (E + w * P) = C + f * P + (q + ub) * (P * BB) := by
  have h1 : x * P + d * w * P + (cn + uv) * P = f * P + (q + ub) * (P * BB) := by
    have e1 : (q + ub) * (P * BB) = (BB * q + ub * BB) * P := by
      rw [Nat.mul_comm P BB, ← Nat.mul_assoc, Nat.add_mul q ub BB, Nat.mul_comm q BB]
    rw [e1, ← Nat.add_mul, ← Nat.add_mul, ← Nat.add_mul]
    congr 1
    omega
  rw [Nat.mul_add, ← Nat.mul_assoc]
  omega
theorem ms_end {A U1 Uv V1 P d cn : Nat} (hd : d = Uv / V1 ∨ d = Uv / V1 + 1) (hV0 : 0 < V1) (hVP : V1 ≤ P) (hA : A < P) (h : A + d * V1 + U1 * P = Uv + cn * P) : (d = Uv / V1 ∧ U1 = cn ∧ A = Uv % V1) ∨ (d = Uv / V1 + 1 ∧ cn = U1 + 1 ∧ A + V1 = Uv % V1 + P) := by
  have hm := Nat.div_add_mod Uv V1
  have hr := Nat.mod_lt Uv hV0
  rw [Nat.mul_comm] at hm
  rcases hd with q | q
  · left
    rw [← q] at hm
    have h1 : A + U1 * P = Uv % V1 + cn * P := by omega
    have h2 : (A + U1 * P) / P = (Uv % V1 + cn * P) / P := by rw [h1]
    have h3 : (A + U1 * P) % P = (Uv % V1 + cn * P) % P := by rw [h1]
    have hP : 0 < P := by omega
    rw [Nat.add_mul_div_right _ _ hP, Nat.add_mul_div_right _ _ hP, Nat.div_eq_of_lt hA, Nat.div_eq_of_lt (by omega)] at h2
    rw [Nat.add_mul_mod_self_right, Nat.add_mul_mod_self_right, Nat.mod_eq_of_lt hA, Nat.mod_eq_of_lt (by omega)] at h3
    exact ⟨q, by omega, h3⟩
  · right
    rw [q, Nat.add_mul, Nat.one_mul] at h
    have h1 : A + V1 + U1 * P = Uv % V1 + cn * P := by omega
    have hP : 0 < P := by omega
    rcases Nat.lt_trichotomy cn (U1 + 1) with h2 | h2 | h2
    · exfalso
      have h3 : cn * P ≤ U1 * P := Nat.mul_le_mul_right P (by omega)
      omega
    · refine ⟨q, h2, ?_⟩
      rw [h2, Nat.add_mul, Nat.one_mul] at h1
      omega
    · exfalso
      have h3 : (U1 + 2) * P ≤ cn * P := Nat.mul_le_mul_right P (by omega)
      rw [Nat.add_mul] at h3
      omega
section NM4
variable {p : Program} {l : Launch} {e : Env} {R : Room} {s : State} {m : MethodId} {args : Array Value} {below : List Frame} {meth : Method} {c : Code} {Q : State → Prop} {cells slots : Nat} {ret : Option FieldType} {D : va_G} {kA : Nat → ClassId} {N0 : Nat}
set_option maxRecDepth 100000 in
theorem c6_digit (l : Launch) (D : va_G) (kA : Nat → ClassId) (N0 : Nat) (M : xM) (g j n : Nat) (B : Int32 × Int32 × Int32 × Int32) (us : Int32) (f w : Nat → Int32) (hob : M g = some (oMd g B us)) (hu : M (g + 5) = some (xI (kA 0) 24 f)) (hv : M (g + 6) = some (xI (kA 0) 12 w)) (nf : nn f 24) (nw : nn w n) (hn0 : 0 < n) (hn : n ≤ 10) (hj : j + n < 24) (hno : 1073741824 ≤ dg (w (n - 1))) (hlt : Vw f j (n + 1) < BB * V w n) : cJ l yX6_digit wsX6_digit (xR 0) [.ref g, .int (nI j), .int (nI n)] D kA N0 M (fun r M1 => r = lN (Vw f j (n + 1) / V w n) ∧ ∃ f', M1 = xset M (g + 5) (xI (kA 0) 24 f') ∧ nn f' 24 ∧ (∀ q, q < j ∨ j + n < q → f' q = f q) ∧ f' (j + n) = 0 ∧ Vw f' j n = Vw f j (n + 1) % V w n) := by
  have hB : BB = 2147483648 := rfl
  obtain ⟨U1, eU1⟩ : ∃ x, x = dg (f (j + n)) := ⟨_, rfl⟩
  obtain ⟨U0, eU0⟩ : ∃ x, x = dg (f (j + n - 1)) := ⟨_, rfl⟩
  obtain ⟨v1, ev1⟩ : ∃ x, x = dg (w (n - 1)) := ⟨_, rfl⟩
  obtain ⟨Uv, eUv⟩ : ∃ x, x = Vw f j (n + 1) := ⟨_, rfl⟩
  obtain ⟨Vv, eVv⟩ : ∃ x, x = V w n := ⟨_, rfl⟩
  have hU1 : U1 < 2147483648 := by rw [eU1]; exact dg_lt _
  have hU0 : U0 < 2147483648 := by rw [eU0]; exact dg_lt _
  have hv1 : v1 < 2147483648 := by rw [ev1]; exact dg_lt _
  rw [← ev1] at hno
  rw [← eUv, ← eVv] at hlt ⊢
  have hVs : Vv = v1 * BB ^ (n - 1) + V w (n - 1) := by
    rw [eVv, ev1, show n = (n - 1) + 1 by omega, V_s, Nat.add_sub_cancel]
    omega
  have hVl := V_lt w (n - 1)
  have hUs : Uv = (U1 * BB + U0) * BB ^ (n - 1) + Vw f j (n - 1) := by
    rw [eUv, eU1, eU0, Vw_s, show n = (n - 1) + 1 by omega, Vw_s, Nat.add_sub_cancel, Nat.pow_succ, show j + (n - 1 + 1) - 1 = j + (n - 1) by omega, Nat.add_mul, Nat.mul_assoc, Nat.mul_comm (BB ^ (n - 1)) BB]
    omega
  have hUl := Vw_lt f j (n - 1)
  have hP := BBp (n - 1)
  have hV0 : 0 < Vv := by have := Nat.mul_pos (show 0 < v1 by omega) hP; omega
  have hVP : Vv ≤ BB ^ n := by rw [eVv]; exact Nat.le_of_lt (V_lt w n)
  have hDB : Uv / Vv < BB := (Nat.div_lt_iff_lt_mul hV0).mpr (by rw [Nat.mul_comm] at hlt; rw [Nat.mul_comm]; exact hlt)
  have hU1v : U1 ≤ v1 := by
    rcases Nat.lt_or_ge v1 U1 with q | q
    · exfalso
      have h1 : (v1 + 1) * BB * BB ^ (n - 1) ≤ (U1 * BB + U0) * BB ^ (n - 1) := Nat.mul_le_mul_right _ (by have := Nat.mul_le_mul_right BB (show v1 + 1 ≤ U1 from q); omega)
      have h2 : BB * Vv < BB * ((v1 + 1) * BB ^ (n - 1)) := Nat.mul_lt_mul_of_pos_left (by rw [Nat.add_mul]; omega) BB_pos
      rw [Nat.mul_comm (v1 + 1) BB, Nat.mul_assoc] at h1
      omega
    · exact q
  obtain ⟨T, eT⟩ : ∃ x, x = U1 * BB + U0 := ⟨_, rfl⟩
  rw [← eT] at hUs
  have hTm : T ≤ v1 * BB + 2147483647 := by
    have := Nat.mul_le_mul_right BB hU1v
    omega
  have hT62 : T < 4611686018427387904 := by
    rw [hB] at hTm
    omega
  have hob1 : ∀ f' : Nat → Int32, xset M (g + 5) (xI (kA 0) 24 f') g = some (oMd g B us) := fun f' => by rw [xset_n (by omega)]; exact hob
  have hv9 : ∀ f' : Nat → Int32, xset M (g + 5) (xI (kA 0) 24 f') (g + 6) = some (xI (kA 0) 12 w) := fun f' => by rw [xset_n (by omega)]; exact hv
  refine r_mL (cc := cX6_digit) (maxL := 21) (by decide) rfl (Nat.le_of_ble_eq_true rfl) ?_
  intro p e s m below meth c ls A0 Qp C hM hnm hl hend
  obtain ⟨hx, hb, hml, hown, hts, hr, hlocks, hK, hN⟩ := _root_.id C
  have hS : va_S (xA N0) s.heap s.heap [] := va_S.rf
  have hl : lv_has ls 21 [(0, .ref g), (1, .int (nI j)), (2, .int (nI n))] := hl
  have hM : xW D vwCl N0 (xset M (g + 5) (xI (kA 0) 24 f)) s.heap := by rw [xset_id hu]; exact hM
  have fin9 : ∀ (f' : Nat → Int32) (t : Int64) (H : Heap) (locs : List Loc) (ls : Array Slot), t.toInt = 0 → nn f' 24 → (∀ q, q < j ∨ j + n ≤ q → f' q = f q) → Vw f' j n = Uv % Vv → xW D vwCl N0 (xset M (g + 5) (xI (kA 0) 24 f')) H → va_S (xA N0) s.heap H locs → lv_has ls 21 [(14, .long t), (5, .long (lN (Uv / Vv))), (0, .ref g), (1, .int (nI j)), (2, .int (nI n))] → W p l e (xR 0) s m A0 below meth c H locs 0 0 Qp (F0 m 360 ls []) := by
    intro f' t H locs ls ht nf' hq hr hM hS hl
    have hob2 := hob1 f'
    have ht32 : t.toInt32 = 0 := by
      apply i_eqI
      rw [l_l2i ht (by omega) (by omega)]
      rfl
    refine lv_aload_n hx hb dX6_digit_360 rfl (lv_at hl 2 rfl) ?_
    refine x_get (v := .ref (g + 5)) hx hb hts in_X6_digit_X6 hown hK hM (hob2) rfl 8 (by decide) (hts (.fieldLink RX6 27 "LimbCurvesModel" "u" "[I") (by decide +kernel)) (fun _ h9 => h9) rfl dX6_digit_361 ?_
    refine lv_iload_n hx hb dX6_digit_364 rfl (lv_at hl 3 rfl) ?_
    refine lv_iload_n hx hb dX6_digit_365 rfl (lv_at hl 4 rfl) ?_
    refine r_iaddN C dX6_digit_366 ?_
    refine lv_lload hx hb dX6_digit_367 (lv_at hl 0 rfl) ?_
    refine lv_l2i (v := t.toInt32) hx hb dX6_digit_369 rfl ?_
    refine r_iast C hM hS (xset_s) rfl (by omega) (by omega) dX6_digit_370 (fun H locs hM hS => ?_)
    rw [xset_xset, ht32] at hM
    refine lv_lload hx hb dX6_digit_371 (lv_at hl 1 rfl) ?_
    exact hend _ _ _ _ _ _ hM hS (⟨rfl, _, rfl, nn_upd nf' (by decide), fun q h1 => by rw [pk_un (by omega)]; exact hq q (by omega), pk_us, by rw [Vw_upd_out (by omega)]; exact hr⟩) dX6_digit_373
  have lpc : ∀ (k i ov : Nat) (t : Int64) (fa f' : Nat → Int32) (H : Heap) (locs : List Loc) (ls : Array Slot), i + k = n → t.toInt = -1 → (∀ q, q < j ∨ j + n ≤ q → fa q = f q) → nn fa 24 → Vw fa j n + Vv = Uv % Vv + BB ^ n → nn f' 24 → (∀ q, q < j ∨ j + i ≤ q → f' q = fa q) → Vw f' j i + ov * BB ^ i = Vw fa j i + V w i → ov ≤ 1 → xW D vwCl N0 (xset M (g + 5) (xI (kA 0) 24 f')) H → va_S (xA N0) s.heap H locs → lv_has ls 21 [(18, .int (nI i)), (16, .long (lN ov)), (14, .long t), (5, .long (lN (Uv / Vv))), (0, .ref g), (1, .int (nI j)), (2, .int (nI n))] → W p l e (xR 0) s m A0 below meth c H locs 0 0 Qp (F0 m 294 ls []) := by
    intro k
    induction k with
    | zero =>
      intro i ov t fa f' H locs ls hik ht hfa nfa hA nf' hq hI hov hM hS hl
      refine lv_iload hx hb dX6_digit_294 (lv_at hl 0 rfl) ?_
      refine lv_iload_n hx hb dX6_digit_296 rfl (lv_at hl 6 rfl) ?_
      refine r_icmp_geN (tgt := 353) C (by omega) (by omega) dX6_digit_297 (by decide) (fun hc => ?_) (fun hc => ?_)
      · have hin : i = n := by omega
        rw [hin, ← eVv, hA] at hI
        rw [hin] at hq
        have hrl := Nat.mod_lt Uv hV0
        have hfl := Vw_lt f' j n
        have hov1 : ov = 1 := by
          rcases Nat.eq_zero_or_pos ov with q | q
          · rw [q, Nat.zero_mul] at hI; omega
          · omega
        rw [hov1, Nat.one_mul] at hI
        refine lv_lload hx hb dX6_digit_353 (lv_at hl 2 rfl) ?_
        refine lv_lload hx hb dX6_digit_355 (lv_at hl 1 rfl) ?_
        refine lv_ladd hx hb dX6_digit_357 ?_
        refine lv_topl (fun t9 et9 => ?_)
        have ht9 : t9.toInt = 0 := by
          rw [et9, hov1]
          exact l_add ht (pk_lT (by omega)) (by omega) (by omega)
        clear et9
        refine lv_lstore (lv' := [(14, .long t9), (18, .int (nI i)), (16, .long (lN ov)), (5, .long (lN (Uv / Vv))), (0, .ref g), (1, .int (nI j)), (2, .int (nI n))]) hx hb dX6_digit_358 hl (by decide) rfl (fun ls hl => ?_)
        exact fin9 f' t9 H locs ls ht9 nf' (fun q h1 => by rw [hq q h1]; exact hfa q h1) (by omega) hM hS (lv_sub hl [0, 3, 4, 5, 6] rfl)
      · omega
    | succ k ih =>
      intro i ov t fa f' H locs ls hik ht hfa nfa hA nf' hq hI hov hM hS hl
      have hob2 := hob1 f'
      have hv2 := hv9 f'
      have lf := dg_lt (f' (i + j))
      have lw := dg_lt (w i)
      have zf := nf' (i + j) (by omega)
      have zw := nw i (by omega)
      refine lv_iload hx hb dX6_digit_294 (lv_at hl 0 rfl) ?_
      refine lv_iload_n hx hb dX6_digit_296 rfl (lv_at hl 6 rfl) ?_
      refine r_icmp_geN (tgt := 353) C (by omega) (by omega) dX6_digit_297 (by decide) (fun hc => ?_) (fun hc => ?_)
      · omega
      · refine lv_aload_n hx hb dX6_digit_300 rfl (lv_at hl 4 rfl) ?_
        refine x_get (v := .ref (g + 5)) hx hb hts in_X6_digit_X6 hown hK hM (hob2) rfl 8 (by decide) (hts (.fieldLink RX6 27 "LimbCurvesModel" "u" "[I") (by decide +kernel)) (fun _ h9 => h9) rfl dX6_digit_301 ?_
        refine lv_iload hx hb dX6_digit_304 (lv_at hl 0 rfl) ?_
        refine lv_iload_n hx hb dX6_digit_306 rfl (lv_at hl 5 rfl) ?_
        refine r_iaddN C dX6_digit_307 ?_
        refine r_iald C hM (xset_s) rfl (by omega) (by omega) dX6_digit_308 ?_
        refine lv_i2l (v := (f' (i + j)).toInt64) hx hb dX6_digit_309 rfl ?_
        refine r_topl C (lN (dg (f' (i + j)))) (i2l_dg zf) ?_
        refine lv_aload_n hx hb dX6_digit_310 rfl (lv_at hl 4 rfl) ?_
        refine x_get (v := .ref (g + 6)) hx hb hts in_X6_digit_X6 hown hK hM (hob2) rfl 9 (by decide) (hts (.fieldLink RX6 30 "LimbCurvesModel" "v" "[I") (by decide +kernel)) (fun _ h9 => h9) rfl dX6_digit_311 ?_
        refine lv_iload hx hb dX6_digit_314 (lv_at hl 0 rfl) ?_
        refine r_iald C hM (hv2) rfl (by omega) (by omega) dX6_digit_316 ?_
        refine lv_i2l (v := (w i).toInt64) hx hb dX6_digit_317 rfl ?_
        refine r_topl C (lN (dg (w i))) (i2l_dg zw) ?_
        refine lv_ladd hx hb dX6_digit_318 ?_
        refine r_topl C (lN (dg (f' (i + j)) + dg (w i))) (lNa (by omega)) ?_
        refine lv_lload hx hb dX6_digit_319 (lv_at hl 1 rfl) ?_
        refine lv_ladd hx hb dX6_digit_321 ?_
        refine r_topl C (lN (dg (f' (i + j)) + dg (w i) + ov)) (lNa (by omega)) ?_
        obtain ⟨sm, esm⟩ : ∃ x, x = dg (f' (i + j)) + dg (w i) + ov := ⟨_, rfl⟩
        rw [← esm]
        have hsm : sm < 4294967296 := by omega
        refine lv_topl (fun s9 es9 => ?_)
        refine lv_lstore (lv' := [(19, .long s9), (18, .int (nI i)), (16, .long (lN ov)), (14, .long t), (5, .long (lN (Uv / Vv))), (0, .ref g), (1, .int (nI j)), (2, .int (nI n))]) hx hb dX6_digit_322 hl (by decide) rfl (fun ls hl => ?_)
        refine lv_lload hx hb dX6_digit_324 (lv_at hl 0 rfl) ?_
        refine lv_bipush (v := nI 31) hx hb dX6_digit_326 (by decide) ?_
        refine lv_lshr (v := s9 >>> ((nI 31).toInt64 &&& 63)) hx hb dX6_digit_328 rfl ?_
        have hsT : s9.toInt = sm := by rw [es9]; exact pk_lT (by omega)
        have ho := cmb_o s9
        have hcr := cmb_c s9
        rw [hsT] at ho hcr
        clear es9
        refine r_topl C (lN (sm / BB)) (l_eqI (by rw [hcr, pk_lT (by rw [hB]; omega), hB]; omega)) ?_
        refine lv_lstore (lv' := [(16, .long (lN (sm / BB))), (19, .long s9), (18, .int (nI i)), (14, .long t), (5, .long (lN (Uv / Vv))), (0, .ref g), (1, .int (nI j)), (2, .int (nI n))]) hx hb dX6_digit_329 hl (by decide) rfl (fun ls hl => ?_)
        refine lv_aload_n hx hb dX6_digit_331 rfl (lv_at hl 5 rfl) ?_
        refine x_get (v := .ref (g + 5)) hx hb hts in_X6_digit_X6 hown hK hM (hob2) rfl 8 (by decide) (hts (.fieldLink RX6 27 "LimbCurvesModel" "u" "[I") (by decide +kernel)) (fun _ h9 => h9) rfl dX6_digit_332 ?_
        refine lv_iload hx hb dX6_digit_335 (lv_at hl 2 rfl) ?_
        refine lv_iload_n hx hb dX6_digit_337 rfl (lv_at hl 6 rfl) ?_
        refine r_iaddN C dX6_digit_338 ?_
        refine lv_lload hx hb dX6_digit_339 (lv_at hl 1 rfl) ?_
        refine lv_ldc2 (v := 2147483647) hx hb hown (hts (.constantLong RX6 75 (2147483647)) (by decide +kernel)) dX6_digit_341 ?_
        refine lv_land hx hb dX6_digit_344 ?_
        refine lv_l2i (v := (s9 &&& 2147483647).toInt32) hx hb dX6_digit_345 rfl ?_
        have hx0 : 0 ≤ ((s9 &&& 2147483647).toInt32).toInt := by rw [ho]; omega
        have hdx : dg ((s9 &&& 2147483647).toInt32) = sm % BB := by
          have h9 : (dg ((s9 &&& 2147483647).toInt32) : Int) = (sm : Int) % 2147483648 := by rw [dg_int hx0, ho]
          rw [hB]
          omega
        refine r_iast C hM hS (xset_s) rfl (by omega) (by omega) dX6_digit_346 (fun H locs hM hS => ?_)
        rw [xset_xset] at hM
        refine lv_iinc (v := nI (i + 1)) (lv' := [(18, .int (nI (i + 1))), (16, .long (lN (sm / BB))), (19, .long s9), (14, .long t), (5, .long (lN (Uv / Vv))), (0, .ref g), (1, .int (nI j)), (2, .int (nI n))]) hx hb dX6_digit_347 hl (k := 2) rfl (r_inc _) (by decide) rfl (fun ls hl => ?_)
        refine lv_goto (tgt := 294) hx hb dX6_digit_350 (by decide) ?_
        refine ih (i + 1) (sm / BB) t fa _ H locs ls (by omega) ht hfa nfa hA (nn_upd nf' hx0) (fun q h1 => ?_) ?_ (by rw [hB]; omega) hM hS (lv_sub hl [0, 1, 3, 4, 5, 6, 7] rfl)
        · rw [pk_un (by omega)]
          exact hq q (by omega)
        · rw [Nat.add_comm i j, Vw_updA, Vw_s, V_s, Nat.pow_succ, hdx, esm, ← hq (j + i) (by omega), Nat.add_comm i j]
          exact pl_st hI rfl
  have lpb : ∀ (k i dn cn uv : Nat) (f' : Nat → Int32) (H : Heap) (locs : List Loc) (ls : Array Slot), i + k = n → dn < BB → (dn = Uv / Vv ∨ dn = Uv / Vv + 1) → nn f' 24 → (∀ q, q < j ∨ j + i ≤ q → f' q = f q) → Vw f' j i + dn * V w i = Vw f j i + (cn + uv) * BB ^ i → cn < BB → uv ≤ 1 → xW D vwCl N0 (xset M (g + 5) (xI (kA 0) 24 f')) H → va_S (xA N0) s.heap H locs → lv_has ls 21 [(14, .int (nI i)), (12, .long (lN uv)), (10, .long (lN cn)), (5, .long (lN dn)), (0, .ref g), (1, .int (nI j)), (2, .int (nI n))] → W p l e (xR 0) s m A0 below meth c H locs 0 0 Qp (F0 m 159 ls []) := by
    intro k
    induction k with
    | zero =>
      intro i dn cn uv f' H locs ls hik hdn hdD nf' hq hI hcn huv hM hS hl
      have hob2 := hob1 f'
      have zn := nf' (j + n) (by omega)
      refine lv_iload hx hb dX6_digit_159 (lv_at hl 0 rfl) ?_
      refine lv_iload_n hx hb dX6_digit_161 rfl (lv_at hl 6 rfl) ?_
      refine r_icmp_geN (tgt := 258) C (by omega) (by omega) dX6_digit_162 (by decide) (fun hc => ?_) (fun hc => ?_)
      · have hin : i = n := by omega
        rw [hin, ← eVv] at hI
        rw [hin] at hq
        have hUn : Uv = Vw f j n + U1 * BB ^ n := by rw [eUv, Vw_s, eU1]
        have hfn : f' (j + n) = f (j + n) := hq _ (by omega)
        have hcases := ms_end (A := Vw f' j n) (U1 := U1) (P := BB ^ n) (cn := cn + uv) hdD hV0 hVP (Vw_lt f' j n) (by omega)
        refine lv_aload_n hx hb dX6_digit_258 rfl (lv_at hl 4 rfl) ?_
        refine x_get (v := .ref (g + 5)) hx hb hts in_X6_digit_X6 hown hK hM (hob2) rfl 8 (by decide) (hts (.fieldLink RX6 27 "LimbCurvesModel" "u" "[I") (by decide +kernel)) (fun _ h9 => h9) rfl dX6_digit_259 ?_
        refine lv_iload_n hx hb dX6_digit_262 rfl (lv_at hl 5 rfl) ?_
        refine lv_iload_n hx hb dX6_digit_263 rfl (lv_at hl 6 rfl) ?_
        refine r_iaddN C dX6_digit_264 ?_
        refine r_iald C hM (xset_s) rfl (by omega) (by omega) dX6_digit_265 ?_
        refine lv_i2l (v := (f' (j + n)).toInt64) hx hb dX6_digit_266 rfl ?_
        refine r_topl C (lN U1) (by rw [i2l_dg zn, hfn, eU1]) ?_
        refine lv_lload hx hb dX6_digit_267 (lv_at hl 2 rfl) ?_
        refine lv_lsub hx hb dX6_digit_269 ?_
        refine lv_lload hx hb dX6_digit_270 (lv_at hl 1 rfl) ?_
        refine lv_lsub hx hb dX6_digit_272 ?_
        refine lv_topl (fun v_1 ev_1 => ?_)
        refine lv_lstore (lv' := [(14, .long v_1), (12, .long (lN uv)), (10, .long (lN cn)), (5, .long (lN dn)), (0, .ref g), (1, .int (nI j)), (2, .int (nI n))]) hx hb dX6_digit_273 hl (by decide) rfl (fun ls hl => ?_)
        have hT9 : v_1.toInt = (U1 : Int) - cn - uv := by
          rw [ev_1]
          exact l_sub (l_sub (pk_lT (by omega)) (pk_lT (by omega)) (by omega) (by omega)) (pk_lT (by omega)) (by omega) (by omega)
        clear ev_1
        have hz0 : (0 : Int64).toInt = 0 := by decide
        refine lv_lload hx hb dX6_digit_275 (lv_at hl 0 rfl) ?_
        refine lv_lconst (v := 0) hx hb dX6_digit_277 (by decide) ?_
        refine W.lcmp hx hb dX6_digit_278 ?_
        refine lv_if_ge (tgt := 360) hx hb dX6_digit_279 (by decide) (fun hd => ?_) (fun hd => ?_)
        · rw [lcge, hz0] at hd
          rcases hcases with ⟨e1, e2, e3⟩ | ⟨e1, e2, e3⟩
          · rw [e1] at hl
            exact fin9 f' v_1 H locs ls (by omega) nf' (fun q h1 => hq q (by omega)) e3 hM hS (lv_sub hl [0, 3, 4, 5, 6] rfl)
          · omega
        · rw [lcge, hz0] at hd
          rcases hcases with ⟨e1, e2, e3⟩ | ⟨e1, e2, e3⟩
          · omega
          · have hd1 : 1 ≤ dn := by rw [e1]; exact Nat.le_add_left 1 _
            refine lv_lload hx hb dX6_digit_282 (lv_at hl 3 rfl) ?_
            refine lv_lconst (v := 1) hx hb dX6_digit_284 (by decide) ?_
            refine lv_lsub hx hb dX6_digit_285 ?_
            refine r_topl C (lN (Uv / Vv)) (by rw [lN1, lNs (by omega) (by omega), e1, Nat.add_sub_cancel]) ?_
            refine lv_lstore (lv' := [(5, .long (lN (Uv / Vv))), (14, .long v_1), (12, .long (lN uv)), (10, .long (lN cn)), (0, .ref g), (1, .int (nI j)), (2, .int (nI n))]) hx hb dX6_digit_286 hl (by decide) rfl (fun ls hl => ?_)
            refine lv_lconst (v := 0) hx hb dX6_digit_288 (by decide) ?_
            refine lv_lstore (lv' := [(16, .long 0), (5, .long (lN (Uv / Vv))), (14, .long v_1), (12, .long (lN uv)), (10, .long (lN cn)), (0, .ref g), (1, .int (nI j)), (2, .int (nI n))]) hx hb dX6_digit_289 hl (by decide) rfl (fun ls hl => ?_)
            refine lv_iconst (v := nI 0) hx hb dX6_digit_291 (by decide) ?_
            refine lv_istore (lv' := [(18, .int (nI 0)), (16, .long 0), (5, .long (lN (Uv / Vv))), (14, .long v_1), (12, .long (lN uv)), (10, .long (lN cn)), (0, .ref g), (1, .int (nI j)), (2, .int (nI n))]) hx hb dX6_digit_292 hl (by decide) rfl (fun ls hl => ?_)
            exact lpc n 0 0 v_1 f' f' H locs ls (by omega) (by omega) (fun q h1 => hq q (by omega)) nf' e3 nf' (fun _ _ => rfl) (by simp [Vw_0, V_0]) (by omega) hM hS (lv_sub hl [0, 1, 3, 2, 6, 7, 8] rfl)
      · omega
    | succ k ih =>
      intro i dn cn uv f' H locs ls hik hdn hdD nf' hq hI hcn huv hM hS hl
      have hob2 := hob1 f'
      have hv2 := hv9 f'
      have lf := dg_lt (f' (i + j))
      have lw := dg_lt (w i)
      have zf := nf' (i + j) (by omega)
      have zw := nw i (by omega)
      refine lv_iload hx hb dX6_digit_159 (lv_at hl 0 rfl) ?_
      refine lv_iload_n hx hb dX6_digit_161 rfl (lv_at hl 6 rfl) ?_
      refine r_icmp_geN (tgt := 258) C (by omega) (by omega) dX6_digit_162 (by decide) (fun hc => ?_) (fun hc => ?_)
      · omega
      · have hprod := pr_lt hdn lw (show 0 < BB from BB_pos) hcn
        have hBB : BB * BB = 4611686018427387904 := rfl
        rw [hBB, Nat.add_zero] at hprod
        refine lv_lload hx hb dX6_digit_165 (lv_at hl 3 rfl) ?_
        refine lv_aload_n hx hb dX6_digit_167 rfl (lv_at hl 4 rfl) ?_
        refine x_get (v := .ref (g + 6)) hx hb hts in_X6_digit_X6 hown hK hM (hob2) rfl 9 (by decide) (hts (.fieldLink RX6 30 "LimbCurvesModel" "v" "[I") (by decide +kernel)) (fun _ h9 => h9) rfl dX6_digit_168 ?_
        refine lv_iload hx hb dX6_digit_171 (lv_at hl 0 rfl) ?_
        refine r_iald C hM (hv2) rfl (by omega) (by omega) dX6_digit_173 ?_
        refine lv_i2l (v := (w i).toInt64) hx hb dX6_digit_174 rfl ?_
        refine r_topl C (lN (dg (w i))) (i2l_dg zw) ?_
        refine lv_lmul hx hb dX6_digit_175 ?_
        refine r_topl C (lN (dn * dg (w i))) (lNm (by omega) (by omega) (by omega)) ?_
        refine lv_lload hx hb dX6_digit_176 (lv_at hl 2 rfl) ?_
        refine lv_ladd hx hb dX6_digit_178 ?_
        refine r_topl C (lN (dn * dg (w i) + cn)) (lNa (by omega)) ?_
        obtain ⟨pm, epm⟩ : ∃ x, x = dn * dg (w i) + cn := ⟨_, rfl⟩
        rw [← epm] at hprod ⊢
        refine lv_topl (fun s9 es9 => ?_)
        have hsT : s9.toInt = pm := by rw [es9]; exact pk_lT (by omega)
        have hcr := cmb_c s9
        have har := l_and31 s9
        rw [hsT] at hcr har
        clear es9
        refine lv_lstore (lv' := [(15, .long s9), (14, .int (nI i)), (12, .long (lN uv)), (10, .long (lN cn)), (5, .long (lN dn)), (0, .ref g), (1, .int (nI j)), (2, .int (nI n))]) hx hb dX6_digit_179 hl (by decide) rfl (fun ls hl => ?_)
        refine lv_lload hx hb dX6_digit_181 (lv_at hl 0 rfl) ?_
        refine lv_bipush (v := nI 31) hx hb dX6_digit_183 (by decide) ?_
        refine lv_lshr (v := s9 >>> ((nI 31).toInt64 &&& 63)) hx hb dX6_digit_185 rfl ?_
        refine r_topl C (lN (pm / BB)) (l_eqI (by rw [hcr, pk_lT (by rw [hB]; omega), hB]; omega)) ?_
        refine lv_lstore (lv' := [(10, .long (lN (pm / BB))), (15, .long s9), (14, .int (nI i)), (12, .long (lN uv)), (5, .long (lN dn)), (0, .ref g), (1, .int (nI j)), (2, .int (nI n))]) hx hb dX6_digit_186 hl (by decide) rfl (fun ls hl => ?_)
        refine lv_aload_n hx hb dX6_digit_188 rfl (lv_at hl 5 rfl) ?_
        refine x_get (v := .ref (g + 5)) hx hb hts in_X6_digit_X6 hown hK hM (hob2) rfl 8 (by decide) (hts (.fieldLink RX6 27 "LimbCurvesModel" "u" "[I") (by decide +kernel)) (fun _ h9 => h9) rfl dX6_digit_189 ?_
        refine lv_iload hx hb dX6_digit_192 (lv_at hl 2 rfl) ?_
        refine lv_iload_n hx hb dX6_digit_194 rfl (lv_at hl 6 rfl) ?_
        refine r_iaddN C dX6_digit_195 ?_
        refine r_iald C hM (xset_s) rfl (by omega) (by omega) dX6_digit_196 ?_
        refine lv_i2l (v := (f' (i + j)).toInt64) hx hb dX6_digit_197 rfl ?_
        refine r_topl C (lN (dg (f' (i + j)))) (i2l_dg zf) ?_
        refine lv_lload hx hb dX6_digit_198 (lv_at hl 1 rfl) ?_
        refine lv_ldc2 (v := 2147483647) hx hb hown (hts (.constantLong RX6 75 (2147483647)) (by decide +kernel)) dX6_digit_200 ?_
        refine lv_land hx hb dX6_digit_203 ?_
        refine lv_lsub hx hb dX6_digit_204 ?_
        refine lv_lload hx hb dX6_digit_205 (lv_at hl 3 rfl) ?_
        refine lv_lsub hx hb dX6_digit_207 ?_
        refine lv_topl (fun t9 et9 => ?_)
        have htT : t9.toInt = (dg (f' (i + j)) : Int) - (pm % BB : Nat) - uv := by
          rw [et9]
          have h1 : (s9 &&& 2147483647).toInt = ((pm % BB : Nat) : Int) := by rw [har, hB]; omega
          exact l_sub (l_sub (pk_lT (by omega)) h1 (by rw [hB]; omega) (by rw [hB]; omega)) (pk_lT (by omega)) (by rw [hB]; omega) (by rw [hB]; omega)
        clear et9 har
        have hpr : pm % BB < BB := Nat.mod_lt _ BB_pos
        have hdm := Nat.div_add_mod pm BB
        have hz0 : (0 : Int64).toInt = 0 := by decide
        refine lv_lstore (lv' := [(17, .long t9), (10, .long (lN (pm / BB))), (15, .long s9), (14, .int (nI i)), (12, .long (lN uv)), (5, .long (lN dn)), (0, .ref g), (1, .int (nI j)), (2, .int (nI n))]) hx hb dX6_digit_208 hl (by decide) rfl (fun ls hl => ?_)
        refine lv_lload hx hb dX6_digit_210 (lv_at hl 0 rfl) ?_
        refine lv_lconst (v := 0) hx hb dX6_digit_212 (by decide) ?_
        refine W.lcmp hx hb dX6_digit_213 ?_
        refine lv_if_ge (tgt := 221) hx hb dX6_digit_214 (by decide) (fun hd => ?_) (fun hd => ?_)
        · rw [lcge, hz0] at hd
          refine lv_lconst (v := 0) hx hb dX6_digit_221 (by decide) ?_
          refine lv_lstore (lv' := [(12, .long 0), (17, .long t9), (10, .long (lN (pm / BB))), (15, .long s9), (14, .int (nI i)), (5, .long (lN dn)), (0, .ref g), (1, .int (nI j)), (2, .int (nI n))]) hx hb dX6_digit_222 hl (by decide) rfl (fun ls hl => ?_)
          refine lv_aload_n hx hb dX6_digit_224 rfl (lv_at hl 6 rfl) ?_
          refine x_get (v := .ref (g + 5)) hx hb hts in_X6_digit_X6 hown hK hM (hob2) rfl 8 (by decide) (hts (.fieldLink RX6 27 "LimbCurvesModel" "u" "[I") (by decide +kernel)) (fun _ h9 => h9) rfl dX6_digit_225 ?_
          refine lv_iload hx hb dX6_digit_228 (lv_at hl 4 rfl) ?_
          refine lv_iload_n hx hb dX6_digit_230 rfl (lv_at hl 7 rfl) ?_
          refine r_iaddN C dX6_digit_231 ?_
          refine lv_lload hx hb dX6_digit_232 (lv_at hl 1 rfl) ?_
          refine lv_lconst (v := 0) hx hb dX6_digit_234 (by decide) ?_
          refine W.lcmp hx hb dX6_digit_235 ?_
          refine lv_if_ge (tgt := 248) hx hb dX6_digit_236 (by decide) (fun hd2 => ?_) (fun hd2 => ?_)
          · refine lv_lload hx hb dX6_digit_248 (lv_at hl 1 rfl) ?_
            refine lv_l2i (v := t9.toInt32) hx hb dX6_digit_250 rfl ?_
            have hx0 : (t9.toInt32).toInt = t9.toInt := l_l2i rfl (by omega) (by omega)
            have hdx : dg (t9.toInt32) + pm % BB + uv = dg (f' (i + j)) + 0 * BB := by
              have : (dg (t9.toInt32) : Int) = t9.toInt := by rw [dg_int (by omega)]; exact hx0
              omega
            refine r_iast C hM hS (xset_s) rfl (by omega) (by omega) dX6_digit_251 (fun H locs hM hS => ?_)
            rw [xset_xset] at hM
            refine lv_iinc (v := nI (i + 1)) (lv' := [(14, .int (nI (i + 1))), (12, .long 0), (17, .long t9), (10, .long (lN (pm / BB))), (15, .long s9), (5, .long (lN dn)), (0, .ref g), (1, .int (nI j)), (2, .int (nI n))]) hx hb dX6_digit_252 hl (k := 4) rfl (r_inc _) (by decide) rfl (fun ls hl => ?_)
            refine lv_goto (tgt := 159) hx hb dX6_digit_255 (by decide) ?_
            refine ih (i + 1) dn (pm / BB) 0 _ H locs ls (by omega) hdn hdD (nn_upd nf' (by omega)) (fun q h1 => ?_) ?_ (Nat.div_lt_of_lt_mul (by rw [hBB]; exact hprod)) (by omega) hM hS (lv_sub hl [0, 1, 3, 5, 6, 7, 8] rfl)
            · rw [pk_un (by omega)]
              exact hq q (by omega)
            · rw [Nat.add_comm i j, Vw_updA, Vw_s, V_s, Nat.pow_succ, ← hq (j + i) (by omega)]
              rw [Nat.add_comm i j] at hdx
              exact ms_st hI (by rw [← epm]; exact hdm.symm) hdx
          · rw [lcge, hz0] at hd2
            omega
        · rw [lcge, hz0] at hd
          refine lv_lconst (v := 1) hx hb dX6_digit_217 (by decide) ?_
          refine lv_goto (tgt := 222) hx hb dX6_digit_218 (by decide) ?_
          refine lv_lstore (lv' := [(12, .long 1), (17, .long t9), (10, .long (lN (pm / BB))), (15, .long s9), (14, .int (nI i)), (5, .long (lN dn)), (0, .ref g), (1, .int (nI j)), (2, .int (nI n))]) hx hb dX6_digit_222 hl (by decide) rfl (fun ls hl => ?_)
          refine lv_aload_n hx hb dX6_digit_224 rfl (lv_at hl 6 rfl) ?_
          refine x_get (v := .ref (g + 5)) hx hb hts in_X6_digit_X6 hown hK hM (hob2) rfl 8 (by decide) (hts (.fieldLink RX6 27 "LimbCurvesModel" "u" "[I") (by decide +kernel)) (fun _ h9 => h9) rfl dX6_digit_225 ?_
          refine lv_iload hx hb dX6_digit_228 (lv_at hl 4 rfl) ?_
          refine lv_iload_n hx hb dX6_digit_230 rfl (lv_at hl 7 rfl) ?_
          refine r_iaddN C dX6_digit_231 ?_
          refine lv_lload hx hb dX6_digit_232 (lv_at hl 1 rfl) ?_
          refine lv_lconst (v := 0) hx hb dX6_digit_234 (by decide) ?_
          refine W.lcmp hx hb dX6_digit_235 ?_
          refine lv_if_ge (tgt := 248) hx hb dX6_digit_236 (by decide) (fun hd2 => ?_) (fun hd2 => ?_)
          · rw [lcge, hz0] at hd2
            omega
          · refine lv_lload hx hb dX6_digit_239 (lv_at hl 1 rfl) ?_
            refine lv_ldc2 (v := 2147483648) hx hb hown (hts (.constantLong RX6 77 (2147483648)) (by decide +kernel)) dX6_digit_241 ?_
            refine lv_ladd hx hb dX6_digit_244 ?_
            refine lv_topl (fun w9 ew9 => ?_)
            have hw9 : w9.toInt = t9.toInt + 2147483648 := by rw [ew9]; exact hs2x t9 (by omega) (by omega)
            clear ew9
            refine lv_goto (tgt := 250) hx hb dX6_digit_245 (by decide) ?_
            refine lv_l2i (v := w9.toInt32) hx hb dX6_digit_250 rfl ?_
            have hx0 : (w9.toInt32).toInt = t9.toInt + 2147483648 := l_l2i hw9 (by omega) (by omega)
            have hdx : dg (w9.toInt32) + pm % BB + uv = dg (f' (i + j)) + 1 * BB := by
              have : (dg (w9.toInt32) : Int) = t9.toInt + 2147483648 := by rw [dg_int (by omega)]; exact hx0
              omega
            refine r_iast C hM hS (xset_s) rfl (by omega) (by omega) dX6_digit_251 (fun H locs hM hS => ?_)
            rw [xset_xset] at hM
            refine lv_iinc (v := nI (i + 1)) (lv' := [(14, .int (nI (i + 1))), (12, .long 1), (17, .long t9), (10, .long (lN (pm / BB))), (15, .long s9), (5, .long (lN dn)), (0, .ref g), (1, .int (nI j)), (2, .int (nI n))]) hx hb dX6_digit_252 hl (k := 4) rfl (r_inc _) (by decide) rfl (fun ls hl => ?_)
            refine lv_goto (tgt := 159) hx hb dX6_digit_255 (by decide) ?_
            refine ih (i + 1) dn (pm / BB) 1 _ H locs ls (by omega) hdn hdD (nn_upd nf' (by omega)) (fun q h1 => ?_) ?_ (Nat.div_lt_of_lt_mul (by rw [hBB]; exact hprod)) (by omega) hM hS (lv_sub hl [0, 1, 3, 5, 6, 7, 8] rfl)
            · rw [pk_un (by omega)]
              exact hq q (by omega)
            · rw [Nat.add_comm i j, Vw_updA, Vw_s, V_s, Nat.pow_succ, ← hq (j + i) (by omega)]
              rw [Nat.add_comm i j] at hdx
              exact ms_st hI (by rw [← epm]; exact hdm.symm) hdx
  have ex150 : ∀ (dn : Nat) (H : Heap) (locs : List Loc) (ls : Array Slot), dn < BB → (dn = Uv / Vv ∨ dn = Uv / Vv + 1) → xW D vwCl N0 (xset M (g + 5) (xI (kA 0) 24 f)) H → va_S (xA N0) s.heap H locs → lv_has ls 21 [(5, .long (lN dn)), (0, .ref g), (1, .int (nI j)), (2, .int (nI n))] → W p l e (xR 0) s m A0 below meth c H locs 0 0 Qp (F0 m 150 ls []) := by
    intro dn H locs ls h1 h2 hM hS hl
    refine lv_lconst (v := 0) hx hb dX6_digit_150 (by decide) ?_
    refine lv_lstore (lv' := [(10, .long 0), (5, .long (lN dn)), (0, .ref g), (1, .int (nI j)), (2, .int (nI n))]) hx hb dX6_digit_151 hl (by decide) rfl (fun ls hl => ?_)
    refine lv_lconst (v := 0) hx hb dX6_digit_153 (by decide) ?_
    refine lv_lstore (lv' := [(12, .long 0), (10, .long 0), (5, .long (lN dn)), (0, .ref g), (1, .int (nI j)), (2, .int (nI n))]) hx hb dX6_digit_154 hl (by decide) rfl (fun ls hl => ?_)
    refine lv_iconst (v := nI 0) hx hb dX6_digit_156 (by decide) ?_
    refine lv_istore (lv' := [(14, .int (nI 0)), (12, .long 0), (10, .long 0), (5, .long (lN dn)), (0, .ref g), (1, .int (nI j)), (2, .int (nI n))]) hx hb dX6_digit_157 hl (by decide) rfl (fun ls hl => ?_)
    exact lpb n 0 dn 0 0 f H locs ls (by omega) h1 h2 nf (fun _ _ => rfl) (by simp [Vw_0, V_0]) (by omega) (by omega) hM hS (lv_sub hl [0, 1, 2, 3, 4, 5, 6] rfl)
  have hex : ∀ dn ln : Nat, dn * v1 + ln = T → Uv / Vv ≤ dn → dn < BB → (n = 1 ∨ dn * dg (w (n - 2)) ≤ ln * BB + dg (f (j + n - 2))) → dn = Uv / Vv ∨ dn = Uv / Vv + 1 := by
    intro dn ln h1 h2 h3 h4
    have hup : dn ≤ Uv / Vv + 1 := by
      rcases h4 with q | q
      · have h5 : dn ≤ Uv / Vv := by
          rw [Nat.le_div_iff_mul_le hV0, hUs, hVs, q]
          simp [Vw_0, V_0]
          omega
        omega
      · by_cases q1 : n = 1
        · have h5 : dn ≤ Uv / Vv := by
            rw [Nat.le_div_iff_mul_le hV0, hUs, hVs, q1]
            simp [Vw_0, V_0]
            omega
          omega
        · have hw2 : V w (n - 1) = dg (w (n - 2)) * BB ^ (n - 2) + V w (n - 2) := by
            rw [show n - 1 = (n - 2) + 1 by omega, V_s]
            omega
          have hf2 : Vw f j (n - 1) = dg (f (j + n - 2)) * BB ^ (n - 2) + Vw f j (n - 2) := by
            rw [show n - 1 = (n - 2) + 1 by omega, Vw_s, show j + (n - 2) = j + n - 2 by omega]
            omega
          have hpw : BB ^ (n - 1) = BB * BB ^ (n - 2) := by rw [show n - 1 = (n - 2) + 1 by omega, Nat.pow_succ, Nat.mul_comm]
          refine dq_up (P := BB ^ (n - 2)) (ul := Vw f j (n - 2)) (vl := V w (n - 2)) (T := T) (v1 := v1) (v2 := dg (w (n - 2))) (u2 := dg (f (j + n - 2))) (l := ln) ?_ ?_ (V_lt w (n - 2)) (by omega) h1 q h3
          · rw [hUs, hf2, hpw, Nat.add_mul, Nat.mul_assoc]
            omega
          · rw [hVs, hw2, hpw, Nat.add_mul, Nat.mul_assoc]
            omega
    omega
  have hstep : ∀ dn ln : Nat, dn * v1 + ln = T → Uv / Vv ≤ dn → 1 < n → ln * BB + dg (f (j + n - 2)) < dn * dg (w (n - 2)) → Uv / Vv < dn := by
    intro dn ln h1 h2 h3 h4
    have hw2 : V w (n - 1) = dg (w (n - 2)) * BB ^ (n - 2) + V w (n - 2) := by
      rw [show n - 1 = (n - 2) + 1 by omega, V_s]
      omega
    have hf2 : Vw f j (n - 1) = dg (f (j + n - 2)) * BB ^ (n - 2) + Vw f j (n - 2) := by
      rw [show n - 1 = (n - 2) + 1 by omega, Vw_s, show j + (n - 2) = j + n - 2 by omega]
      omega
    have hpw : BB ^ (n - 1) = BB * BB ^ (n - 2) := by rw [show n - 1 = (n - 2) + 1 by omega, Nat.pow_succ, Nat.mul_comm]
    refine dq_st (P := BB ^ (n - 2)) (ul := Vw f j (n - 2)) (vl := V w (n - 2)) (T := T) (v1 := v1) (v2 := dg (w (n - 2))) (u2 := dg (f (j + n - 2))) (l := ln) (BBp _) ?_ (Vw_lt f j (n - 2)) ?_ (by omega) h1 h4
    · rw [hUs, hf2, hpw, Nat.add_mul, Nat.mul_assoc]
      omega
    · rw [hVs, hw2, hpw, Nat.add_mul, Nat.mul_assoc]
      omega
  have hob2 := hob1 f
  have hv2 := hv9 f
  have lpa : ∀ (k dn ln : Nat) (H : Heap) (locs : List Loc) (ls : Array Slot), dn * v1 + ln = T → Uv / Vv ≤ dn → BB ≤ ln + k * v1 → ln < 4294967296 → dn < 4294967296 → xW D vwCl N0 (xset M (g + 5) (xI (kA 0) 24 f)) H → va_S (xA N0) s.heap H locs → lv_has ls 21 [(9, .int (nI 1)), (7, .long (lN ln)), (5, .long (lN dn)), (0, .ref g), (1, .int (nI j)), (2, .int (nI n))] → W p l e (xR 0) s m A0 below meth c H locs 0 0 Qp (F0 m 54 ls []) := by
    intro k
    induction k with
    | zero =>
      intro dn ln H locs ls h1 h2 h3 h4 h5 hM hS hl
      have hdB : dn < BB := by
        rcases Nat.lt_or_ge dn BB with q | q
        · exact q
        · exfalso
          have := Nat.mul_le_mul_right v1 q
          rw [Nat.mul_comm BB v1] at this
          omega
      have hsm : dn * dg (w (n - 2)) ≤ ln * BB + dg (f (j + n - 2)) := by
        have h6 : dn * dg (w (n - 2)) ≤ BB * BB := Nat.mul_le_mul (Nat.le_of_lt hdB) (Nat.le_of_lt (dg_lt _))
        have h7 : BB * BB ≤ ln * BB := Nat.mul_le_mul_right BB (by omega)
        omega
      refine lv_iload hx hb dX6_digit_54 (lv_at hl 0 rfl) ?_
      refine r_if_eqN (tgt := 150) C (by omega) dX6_digit_56 (by decide) (fun hc => ?_) (fun hc => ?_)
      · omega
      · refine lv_lload hx hb dX6_digit_59 (lv_at hl 1 rfl) ?_
        refine lv_ldc2 (v := 2147483648) hx hb hown (hts (.constantLong RX6 77 (2147483648)) (by decide +kernel)) dX6_digit_61 ?_
        refine r_topl C (lN 2147483648) (lN_BB) ?_
        refine W.lcmp hx hb dX6_digit_64 ?_
        refine lv_if_ge (tgt := 150) hx hb dX6_digit_65 (by decide) (fun hd => ?_) (fun hd => ?_)
        · exact ex150 dn H locs ls hdB (hex dn ln h1 h2 hdB (Or.inr hsm)) hM hS (lv_sub hl [2, 3, 4, 5] rfl)
        · rw [cmpN (by omega) (by omega)] at hd
          omega
    | succ k ih =>
      intro dn ln H locs ls h1 h2 h3 h4 h5 hM hS hl
      have hdec : ∀ (H : Heap) (locs : List Loc) (ls : Array Slot), Uv / Vv < dn → ln < BB → xW D vwCl N0 (xset M (g + 5) (xI (kA 0) 24 f)) H → va_S (xA N0) s.heap H locs → lv_has ls 21 [(9, .int (nI 1)), (7, .long (lN ln)), (5, .long (lN dn)), (0, .ref g), (1, .int (nI j)), (2, .int (nI n))] → W p l e (xR 0) s m A0 below meth c H locs 0 0 Qp (F0 m 122 ls []) := by
        intro H locs ls hDd hlB hM hS hl
        have hd1 : 0 < dn := Nat.lt_of_le_of_lt (Nat.zero_le _) hDd
        have zw := nw (n - 1) (by omega)
        refine lv_iload hx hb dX6_digit_122 (lv_at hl 0 rfl) ?_
        refine r_if_eqN (tgt := 54) C (by omega) dX6_digit_124 (by decide) (fun hc => ?_) (fun hc => ?_)
        · omega
        · refine lv_lload hx hb dX6_digit_127 (lv_at hl 2 rfl) ?_
          refine lv_lconst (v := 1) hx hb dX6_digit_129 (by decide) ?_
          refine lv_lsub hx hb dX6_digit_130 ?_
          refine r_topl C (lN (dn - 1)) (by rw [lN1, lNs (by omega) (by omega)]) ?_
          refine lv_lstore (lv' := [(5, .long (lN (dn - 1))), (9, .int (nI 1)), (7, .long (lN ln)), (0, .ref g), (1, .int (nI j)), (2, .int (nI n))]) hx hb dX6_digit_131 hl (by decide) rfl (fun ls hl => ?_)
          refine lv_lload hx hb dX6_digit_133 (lv_at hl 2 rfl) ?_
          refine lv_aload_n hx hb dX6_digit_135 rfl (lv_at hl 3 rfl) ?_
          refine x_get (v := .ref (g + 6)) hx hb hts in_X6_digit_X6 hown hK hM (hob2) rfl 9 (by decide) (hts (.fieldLink RX6 30 "LimbCurvesModel" "v" "[I") (by decide +kernel)) (fun _ h9 => h9) rfl dX6_digit_136 ?_
          refine lv_iload_n hx hb dX6_digit_139 rfl (lv_at hl 5 rfl) ?_
          refine lv_iconst (v := nI 1) hx hb dX6_digit_140 (by decide) ?_
          refine r_isubN C (by omega) dX6_digit_141 ?_
          refine r_iald C hM (hv2) rfl (by omega) (by omega) dX6_digit_142 ?_
          refine lv_i2l (v := (w (n - 1)).toInt64) hx hb dX6_digit_143 rfl ?_
          refine r_topl C (lN v1) (by rw [i2l_dg zw, ev1]) ?_
          refine lv_ladd hx hb dX6_digit_144 ?_
          refine r_topl C (lN (ln + v1)) (lNa (by omega)) ?_
          refine lv_lstore (lv' := [(7, .long (lN (ln + v1))), (5, .long (lN (dn - 1))), (9, .int (nI 1)), (0, .ref g), (1, .int (nI j)), (2, .int (nI n))]) hx hb dX6_digit_145 hl (by decide) rfl (fun ls hl => ?_)
          refine lv_goto (tgt := 54) hx hb dX6_digit_147 (by decide) ?_
          refine ih (dn - 1) (ln + v1) H locs ls ?_ (by omega) ?_ (by omega) (by omega) hM hS (lv_sub hl [2, 0, 1, 3, 4, 5] rfl)
          · obtain ⟨d9, ed9⟩ : ∃ d9, dn = d9 + 1 := ⟨dn - 1, by omega⟩
            rw [ed9, Nat.add_mul] at h1
            rw [ed9, Nat.add_sub_cancel]
            omega
          · rw [Nat.add_mul] at h3
            omega
      refine lv_iload hx hb dX6_digit_54 (lv_at hl 0 rfl) ?_
      refine r_if_eqN (tgt := 150) C (by omega) dX6_digit_56 (by decide) (fun hc => ?_) (fun hc => ?_)
      · omega
      · refine lv_lload hx hb dX6_digit_59 (lv_at hl 1 rfl) ?_
        refine lv_ldc2 (v := 2147483648) hx hb hown (hts (.constantLong RX6 77 (2147483648)) (by decide +kernel)) dX6_digit_61 ?_
        refine r_topl C (lN 2147483648) (lN_BB) ?_
        refine W.lcmp hx hb dX6_digit_64 ?_
        refine lv_if_ge (tgt := 150) hx hb dX6_digit_65 (by decide) (fun hd => ?_) (fun hd => ?_)
        · rw [cmpN (by omega) (by omega)] at hd
          have hdB : dn < BB := by
            rcases Nat.lt_or_ge dn BB with q | q
            · exact q
            · exfalso
              have := Nat.mul_le_mul_right v1 q
              rw [Nat.mul_comm BB v1] at this
              omega
          have hsm : dn * dg (w (n - 2)) ≤ ln * BB + dg (f (j + n - 2)) := by
            have h6 : dn * dg (w (n - 2)) ≤ BB * BB := Nat.mul_le_mul (Nat.le_of_lt hdB) (Nat.le_of_lt (dg_lt _))
            have h7 : BB * BB ≤ ln * BB := Nat.mul_le_mul_right BB (by omega)
            omega
          exact ex150 dn H locs ls hdB (hex dn ln h1 h2 hdB (Or.inr hsm)) hM hS (lv_sub hl [2, 3, 4, 5] rfl)
        · rw [cmpN (by omega) (by omega)] at hd
          refine lv_lload hx hb dX6_digit_68 (lv_at hl 2 rfl) ?_
          refine lv_ldc2 (v := 2147483648) hx hb hown (hts (.constantLong RX6 77 (2147483648)) (by decide +kernel)) dX6_digit_70 ?_
          refine r_topl C (lN 2147483648) (lN_BB) ?_
          refine W.lcmp hx hb dX6_digit_73 ?_
          refine lv_if_ge (tgt := 115) hx hb dX6_digit_74 (by decide) (fun he => ?_) (fun he => ?_)
          · rw [cmpN (by omega) (by omega)] at he
            refine lv_iconst (v := nI 1) hx hb dX6_digit_115 (by decide) ?_
            refine lv_goto (tgt := 120) hx hb dX6_digit_116 (by decide) ?_
            refine lv_istore (lv' := [(9, .int (nI 1)), (7, .long (lN ln)), (5, .long (lN dn)), (0, .ref g), (1, .int (nI j)), (2, .int (nI n))]) hx hb dX6_digit_120 hl (by decide) rfl (fun ls hl => ?_)
            exact hdec H locs ls (by omega) (by omega) hM hS (lv_sub hl [0, 1, 2, 3, 4, 5] rfl)
          · rw [cmpN (by omega) (by omega)] at he
            have hdB : dn < BB := by omega
            refine lv_iload_n hx hb dX6_digit_77 rfl (lv_at hl 5 rfl) ?_
            refine lv_iconst (v := nI 1) hx hb dX6_digit_78 (by decide) ?_
            refine r_icmp_leN (tgt := 119) C (by omega) (by omega) dX6_digit_79 (by decide) (fun hf1 => ?_) (fun hf1 => ?_)
            · refine lv_iconst (v := nI 0) hx hb dX6_digit_119 (by decide) ?_
              refine lv_istore (lv' := [(9, .int (nI 0)), (7, .long (lN ln)), (5, .long (lN dn)), (0, .ref g), (1, .int (nI j)), (2, .int (nI n))]) hx hb dX6_digit_120 hl (by decide) rfl (fun ls hl => ?_)
              refine lv_iload hx hb dX6_digit_122 (lv_at hl 0 rfl) ?_
              refine r_if_eqN (tgt := 54) C (by omega) dX6_digit_124 (by decide) (fun hf2 => ?_) (fun hf2 => ?_)
              · refine lv_iload hx hb dX6_digit_54 (lv_at hl 0 rfl) ?_
                refine r_if_eqN (tgt := 150) C (by omega) dX6_digit_56 (by decide) (fun hf3 => ?_) (fun hf3 => ?_)
                · exact ex150 dn H locs ls hdB (hex dn ln h1 h2 hdB (Or.inl (by omega))) hM hS (lv_sub hl [2, 3, 4, 5] rfl)
                · omega
              · omega
            · have zw := nw (n - 2) (by omega)
              have zf := nf (j + n - 2) (by omega)
              have lw := dg_lt (w (n - 2))
              have lf := dg_lt (f (j + n - 2))
              have hm1 : dn * dg (w (n - 2)) ≤ BB * BB := Nat.mul_le_mul (Nat.le_of_lt hdB) (Nat.le_of_lt lw)
              have hm2 : ln * BB ≤ BB * BB := Nat.mul_le_mul_right BB (by omega)
              have hBB : BB * BB = 4611686018427387904 := rfl
              refine lv_lload hx hb dX6_digit_82 (lv_at hl 2 rfl) ?_
              refine lv_aload_n hx hb dX6_digit_84 rfl (lv_at hl 3 rfl) ?_
              refine x_get (v := .ref (g + 6)) hx hb hts in_X6_digit_X6 hown hK hM (hob2) rfl 9 (by decide) (hts (.fieldLink RX6 30 "LimbCurvesModel" "v" "[I") (by decide +kernel)) (fun _ h9 => h9) rfl dX6_digit_85 ?_
              refine lv_iload_n hx hb dX6_digit_88 rfl (lv_at hl 5 rfl) ?_
              refine lv_iconst (v := nI 2) hx hb dX6_digit_89 (by decide) ?_
              refine r_isubN C (by omega) dX6_digit_90 ?_
              refine r_iald C hM (hv2) rfl (by omega) (by omega) dX6_digit_91 ?_
              refine lv_i2l (v := (w (n - 2)).toInt64) hx hb dX6_digit_92 rfl ?_
              refine r_topl C (lN (dg (w (n - 2)))) (i2l_dg zw) ?_
              refine lv_lmul hx hb dX6_digit_93 ?_
              refine r_topl C (lN (dn * dg (w (n - 2)))) (lNm (by omega) (by omega) (by omega)) ?_
              refine lv_lload hx hb dX6_digit_94 (lv_at hl 1 rfl) ?_
              refine lv_bipush (v := nI 31) hx hb dX6_digit_96 (by decide) ?_
              refine lv_lshl (v := (lN ln) <<< ((nI 31).toInt64 &&& 63)) hx hb dX6_digit_98 rfl ?_
              refine r_topl C (lN (ln * BB)) (by rw [wb_shl ln (by decide)]; rfl) ?_
              refine lv_aload_n hx hb dX6_digit_99 rfl (lv_at hl 3 rfl) ?_
              refine x_get (v := .ref (g + 5)) hx hb hts in_X6_digit_X6 hown hK hM (hob2) rfl 8 (by decide) (hts (.fieldLink RX6 27 "LimbCurvesModel" "u" "[I") (by decide +kernel)) (fun _ h9 => h9) rfl dX6_digit_100 ?_
              refine lv_iload_n hx hb dX6_digit_103 rfl (lv_at hl 4 rfl) ?_
              refine lv_iload_n hx hb dX6_digit_104 rfl (lv_at hl 5 rfl) ?_
              refine r_iaddN C dX6_digit_105 ?_
              refine lv_iconst (v := nI 2) hx hb dX6_digit_106 (by decide) ?_
              refine r_isubN C (by omega) dX6_digit_107 ?_
              refine r_iald C hM (xset_s) rfl (by omega) (by omega) dX6_digit_108 ?_
              refine lv_i2l (v := (f ((j + n) - 2)).toInt64) hx hb dX6_digit_109 rfl ?_
              refine r_topl C (lN (dg (f (j + n - 2)))) (i2l_dg zf) ?_
              refine lv_ladd hx hb dX6_digit_110 ?_
              refine r_topl C (lN (ln * BB + dg (f (j + n - 2)))) (lNa (by omega)) ?_
              refine W.lcmp hx hb dX6_digit_111 ?_
              refine lv_if_le (tgt := 119) hx hb dX6_digit_112 (by decide) (fun hf4 => ?_) (fun hf4 => ?_)
              · rw [cmpN0 (by omega) (by omega)] at hf4
                refine lv_iconst (v := nI 0) hx hb dX6_digit_119 (by decide) ?_
                refine lv_istore (lv' := [(9, .int (nI 0)), (7, .long (lN ln)), (5, .long (lN dn)), (0, .ref g), (1, .int (nI j)), (2, .int (nI n))]) hx hb dX6_digit_120 hl (by decide) rfl (fun ls hl => ?_)
                refine lv_iload hx hb dX6_digit_122 (lv_at hl 0 rfl) ?_
                refine r_if_eqN (tgt := 54) C (by omega) dX6_digit_124 (by decide) (fun hf2 => ?_) (fun hf2 => ?_)
                · refine lv_iload hx hb dX6_digit_54 (lv_at hl 0 rfl) ?_
                  refine r_if_eqN (tgt := 150) C (by omega) dX6_digit_56 (by decide) (fun hf3 => ?_) (fun hf3 => ?_)
                  · exact ex150 dn H locs ls hdB (hex dn ln h1 h2 hdB (Or.inr hf4)) hM hS (lv_sub hl [2, 3, 4, 5] rfl)
                  · omega
                · omega
              · rw [cmpN0 (by omega) (by omega)] at hf4
                refine lv_iconst (v := nI 1) hx hb dX6_digit_115 (by decide) ?_
                refine lv_goto (tgt := 120) hx hb dX6_digit_116 (by decide) ?_
                refine lv_istore (lv' := [(9, .int (nI 1)), (7, .long (lN ln)), (5, .long (lN dn)), (0, .ref g), (1, .int (nI j)), (2, .int (nI n))]) hx hb dX6_digit_120 hl (by decide) rfl (fun ls hl => ?_)
                exact hdec H locs ls (hstep dn ln h1 h2 (by omega) (by omega)) (by omega) hM hS (lv_sub hl [0, 1, 2, 3, 4, 5] rfl)
  have zn := nf (j + n) (by omega)
  have zn1 := nf (j + n - 1) (by omega)
  have zw1 := nw (n - 1) (by omega)
  have hmodlt := Nat.mod_lt T (show 0 < v1 by omega)
  have hdm := Nat.div_add_mod T v1
  refine lv_aload_n hx hb dX6_digit_0 rfl (lv_at hl 0 rfl) ?_
  refine x_get (v := .ref (g + 5)) hx hb hts in_X6_digit_X6 hown hK hM (hob2) rfl 8 (by decide) (hts (.fieldLink RX6 27 "LimbCurvesModel" "u" "[I") (by decide +kernel)) (fun _ h9 => h9) rfl dX6_digit_1 ?_
  refine lv_iload_n hx hb dX6_digit_4 rfl (lv_at hl 1 rfl) ?_
  refine lv_iload_n hx hb dX6_digit_5 rfl (lv_at hl 2 rfl) ?_
  refine r_iaddN C dX6_digit_6 ?_
  refine r_iald C hM (xset_s) rfl (by omega) (by omega) dX6_digit_7 ?_
  refine lv_i2l (v := (f (j + n)).toInt64) hx hb dX6_digit_8 rfl ?_
  refine r_topl C (lN U1) (by rw [i2l_dg zn, eU1]) ?_
  refine lv_bipush (v := nI 31) hx hb dX6_digit_9 (by decide) ?_
  refine lv_lshl (v := (lN U1) <<< ((nI 31).toInt64 &&& 63)) hx hb dX6_digit_11 rfl ?_
  refine r_topl C (lN (U1 * BB)) (by rw [wb_shl U1 (by decide)]; rfl) ?_
  refine lv_aload_n hx hb dX6_digit_12 rfl (lv_at hl 0 rfl) ?_
  refine x_get (v := .ref (g + 5)) hx hb hts in_X6_digit_X6 hown hK hM (hob2) rfl 8 (by decide) (hts (.fieldLink RX6 27 "LimbCurvesModel" "u" "[I") (by decide +kernel)) (fun _ h9 => h9) rfl dX6_digit_13 ?_
  refine lv_iload_n hx hb dX6_digit_16 rfl (lv_at hl 1 rfl) ?_
  refine lv_iload_n hx hb dX6_digit_17 rfl (lv_at hl 2 rfl) ?_
  refine r_iaddN C dX6_digit_18 ?_
  refine lv_iconst (v := nI 1) hx hb dX6_digit_19 (by decide) ?_
  refine r_isubN C (by omega) dX6_digit_20 ?_
  refine r_iald C hM (xset_s) rfl (by omega) (by omega) dX6_digit_21 ?_
  refine lv_i2l (v := (f ((j + n) - 1)).toInt64) hx hb dX6_digit_22 rfl ?_
  refine r_topl C (lN U0) (by rw [i2l_dg zn1, eU0]) ?_
  have hUB : U1 * BB < 4611686018427387904 := by rw [hB]; omega
  refine lv_ladd hx hb dX6_digit_23 ?_
  refine r_topl C (lN T) (by rw [lNa (by omega), eT]) ?_
  refine lv_topl (fun t9 et9 => ?_)
  rw [et9]
  refine lv_lstore_n (lv' := [(3, .long (lN T)), (0, .ref g), (1, .int (nI j)), (2, .int (nI n))]) hx hb dX6_digit_24 rfl hl (by decide) rfl (fun ls hl => ?_)
  refine lv_lload_n hx hb dX6_digit_25 rfl (lv_at hl 0 rfl) ?_
  refine lv_aload_n hx hb dX6_digit_26 rfl (lv_at hl 1 rfl) ?_
  refine x_get (v := .ref (g + 6)) hx hb hts in_X6_digit_X6 hown hK hM (hob2) rfl 9 (by decide) (hts (.fieldLink RX6 30 "LimbCurvesModel" "v" "[I") (by decide +kernel)) (fun _ h9 => h9) rfl dX6_digit_27 ?_
  refine lv_iload_n hx hb dX6_digit_30 rfl (lv_at hl 3 rfl) ?_
  refine lv_iconst (v := nI 1) hx hb dX6_digit_31 (by decide) ?_
  refine r_isubN C (by omega) dX6_digit_32 ?_
  refine r_iald C hM (hv2) rfl (by omega) (by omega) dX6_digit_33 ?_
  refine lv_i2l (v := (w (n - 1)).toInt64) hx hb dX6_digit_34 rfl ?_
  refine r_topl C (lN v1) (by rw [i2l_dg zw1, ev1]) ?_
  have hvne : ¬ lN v1 = 0 := fun q => by
    have := congrArg Int64.toInt q
    rw [pk_lT (by omega)] at this
    have h0 : (0 : Int64).toInt = 0 := rfl
    omega
  refine lv_ldiv hx hb dX6_digit_35 hvne ?_
  refine r_topl C (lN (T / v1)) (pk_lDiv (by omega) (by omega) (by omega)) ?_
  refine lv_lstore (lv' := [(5, .long (lN (T / v1))), (3, .long (lN T)), (0, .ref g), (1, .int (nI j)), (2, .int (nI n))]) hx hb dX6_digit_36 hl (by decide) rfl (fun ls hl => ?_)
  refine lv_lload_n hx hb dX6_digit_38 rfl (lv_at hl 1 rfl) ?_
  refine lv_aload_n hx hb dX6_digit_39 rfl (lv_at hl 2 rfl) ?_
  refine x_get (v := .ref (g + 6)) hx hb hts in_X6_digit_X6 hown hK hM (hob2) rfl 9 (by decide) (hts (.fieldLink RX6 30 "LimbCurvesModel" "v" "[I") (by decide +kernel)) (fun _ h9 => h9) rfl dX6_digit_40 ?_
  refine lv_iload_n hx hb dX6_digit_43 rfl (lv_at hl 4 rfl) ?_
  refine lv_iconst (v := nI 1) hx hb dX6_digit_44 (by decide) ?_
  refine r_isubN C (by omega) dX6_digit_45 ?_
  refine r_iald C hM (hv2) rfl (by omega) (by omega) dX6_digit_46 ?_
  refine lv_i2l (v := (w (n - 1)).toInt64) hx hb dX6_digit_47 rfl ?_
  refine r_topl C (lN v1) (by rw [i2l_dg zw1, ev1]) ?_
  refine lv_lrem hx hb dX6_digit_48 hvne ?_
  refine r_topl C (lN (T % v1)) (pk_lRem (by omega) (by omega) (by omega)) ?_
  refine lv_lstore (lv' := [(7, .long (lN (T % v1))), (5, .long (lN (T / v1))), (3, .long (lN T)), (0, .ref g), (1, .int (nI j)), (2, .int (nI n))]) hx hb dX6_digit_49 hl (by decide) rfl (fun ls hl => ?_)
  refine lv_iconst (v := nI 1) hx hb dX6_digit_51 (by decide) ?_
  refine lv_istore (lv' := [(9, .int (nI 1)), (7, .long (lN (T % v1))), (5, .long (lN (T / v1))), (3, .long (lN T)), (0, .ref g), (1, .int (nI j)), (2, .int (nI n))]) hx hb dX6_digit_52 hl (by decide) rfl (fun ls hl => ?_)
  have hTd : T / v1 < 4294967296 := by
    rw [Nat.div_lt_iff_lt_mul (by omega)]
    rw [hB] at hTm
    omega
  exact lpa 2 (T / v1) (T % v1) _ _ ls (by rw [Nat.mul_comm]; exact hdm) (dq_lo hP hUs hUl hVs (by omega)) (by omega) (by omega) hTd hM hS (lv_sub hl [0, 1, 2, 4, 5, 6] rfl)
end NM4
