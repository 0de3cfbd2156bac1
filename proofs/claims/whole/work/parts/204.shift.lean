section N4
variable {p : Program} {l : Launch} {e : Env} {R : Room} {s : State} {m : MethodId} {args : Array Value} {below : List Frame} {meth : Method} {c : Code} {Q : State → Prop} {cells slots : Nat} {ret : Option FieldType} {D : va_G} {kA : Nat → ClassId} {N0 : Nat} {H : Heap} {locs : List Loc}
set_option maxRecDepth 100000 in
theorem sl_38 (C : xC p s m args meth c cX1_shiftedLimb 8 ret RX1 wsX1_shiftedLimb D vwCl (xT kA) N0) {h w gap : Nat} {ls : Array Slot} (h1 : h < BB) (h2 : w < BB) (hg : gap < 2 ^ 31) (hl : lv_has ls 8 [(4, .long (lN h)), (6, .long (lN w)), (2, .int (nI gap))])
    (hexit : ∀ ls, W p l e R s m args below meth c H locs cells slots Q (F0 m 59 ls [.int (nI ((h * BB + w) / 2 ^ (31 - gap % 31) % BB))])) : W p l e R s m args below meth c H locs cells slots Q (F0 m 38 ls []) := by
  obtain ⟨hx, hb, hml, hown, hts, hr, hlocks, hK, hN⟩ := id C
  refine lv_lload hx hb dX1_shiftedLimb_38 (lv_at hl 0 rfl) ?_
  refine lv_bipush (v := nI 31) hx hb dX1_shiftedLimb_40 (by decide) ?_
  refine lv_lshl (v := (lN h) <<< ((nI 31).toInt64 &&& 63)) hx hb dX1_shiftedLimb_42 rfl ?_
  refine lv_lload hx hb dX1_shiftedLimb_43 (lv_at hl 1 rfl) ?_
  refine lv_lor hx hb dX1_shiftedLimb_45 ?_
  refine lv_bipush (v := nI 31) hx hb dX1_shiftedLimb_46 (by decide) ?_
  refine lv_iload_n hx hb dX1_shiftedLimb_48 rfl (lv_at hl 2 rfl) ?_
  refine lv_bipush (v := nI 31) hx hb dX1_shiftedLimb_49 (by decide) ?_
  refine lv_irem hx hb dX1_shiftedLimb_51 (nI_ne0 (by omega) (by omega)) ?_
  refine r_topi C (nI (gap % 31)) (pk_rem (by omega) (by omega) (by omega)) ?_
  refine r_isubN C (by omega) dX1_shiftedLimb_52 ?_
  refine lv_lushr (v := ((((lN h) <<< ((nI 31).toInt64 &&& 63)) ||| (lN w)).toUInt64 >>> ((nI (31 - (gap % 31))).toInt64.toUInt64 &&& Int64.toUInt64 63)).toInt64) hx hb dX1_shiftedLimb_53 rfl ?_
  refine lv_ldc2 (v := 2147483647) hx hb hown (hts (.constantLong RX1 33 (2147483647)) (by decide +kernel)) dX1_shiftedLimb_54 ?_
  refine lv_land hx hb dX1_shiftedLimb_57 ?_
  refine lv_l2i (v := ((((((lN h) <<< ((nI 31).toInt64 &&& 63)) ||| (lN w)).toUInt64 >>> ((nI (31 - (gap % 31))).toInt64.toUInt64 &&& Int64.toUInt64 63)).toInt64) &&& 2147483647).toInt32) hx hb dX1_shiftedLimb_58 rfl ?_
  refine r_topi C (nI ((h * BB + w) / 2 ^ (31 - gap % 31) % BB)) (pair_val h1 h2 (by omega)) ?_
  exact hexit ls
set_option maxRecDepth 100000 in
theorem c_shiftedLimb (l : Launch) (D : va_G) (kA : Nat → ClassId) (N0 : Nat) (M : xM) (row n i gap : Nat) (f : Nat → Int32) (ha : M row = some (xI (kA 0) n f)) (nf : nn f n) (hi : i < n) (hg : gap < 2 ^ 31) (hn : n < 2 ^ 31) : cI l yX1_shiftedLimb wsX1_shiftedLimb (xR 0) [.ref row, .int (nI i), .int (nI gap)] D kA N0 M (fun r M1 => M1 = M ∧ r = nI (shl f (gap / 31) (gap % 31) i)) := by
  refine r_met (cc := cX1_shiftedLimb) (maxL := 8) (ret := (some .int)) (by decide) rfl (Nat.le_of_ble_eq_true rfl) ?_
  intro p e s m below meth c ls C hM hnm hl
  obtain ⟨hx, hb, hml, hown, hts, hr, hlocks, hK, hN⟩ := id C
  have hS : va_S (xA N0) s.heap s.heap [] := va_S.rf
  have hl : lv_has ls 8 [(0, .ref row), (1, .int (nI i)), (2, .int (nI gap))] := hl
  by_cases hq : gap / 31 ≤ i
  refine lv_iload_n hx hb dX1_shiftedLimb_0 rfl (lv_at hl 1 rfl) ?_
  refine lv_iload_n hx hb dX1_shiftedLimb_1 rfl (lv_at hl 2 rfl) ?_
  refine lv_bipush (v := nI 31) hx hb dX1_shiftedLimb_2 (by decide) ?_
  refine lv_idiv hx hb dX1_shiftedLimb_4 (nI_ne0 (by omega) (by omega)) ?_
  refine r_topi C (nI (gap / 31)) (pk_div (by omega) (by omega) (by omega)) ?_
  refine r_isubN C (by omega) dX1_shiftedLimb_5 ?_
  refine lv_istore_n (lv' := [(3, .int (nI (i - (gap / 31)))), (0, .ref row), (1, .int (nI i)), (2, .int (nI gap))]) hx hb dX1_shiftedLimb_6 rfl hl (by decide) rfl (fun ls hl => ?_)
  refine lv_iload_n hx hb dX1_shiftedLimb_7 rfl (lv_at hl 0 rfl) ?_
  · refine r_if_ltN (tgt := 18) C (by omega) dX1_shiftedLimb_8 (by decide) (fun h1 => ?_) (fun h1 => ?_)
    · exact h1.elim
    · refine lv_aload_n hx hb dX1_shiftedLimb_11 rfl (lv_at hl 1 rfl) ?_
      refine lv_iload_n hx hb dX1_shiftedLimb_12 rfl (lv_at hl 0 rfl) ?_
      refine r_iald C hM (ha) rfl (by omega) (by omega) dX1_shiftedLimb_13 ?_
      refine lv_i2l (v := (f (i - (gap / 31))).toInt64) hx hb dX1_shiftedLimb_14 rfl ?_
      refine lv_goto (tgt := 19) hx hb dX1_shiftedLimb_15 (by decide) ?_
      refine lv_topl (fun v_1 ev_1 => ?_)
      refine lv_lstore (lv' := [(4, .long v_1), (3, .int (nI (i - (gap / 31)))), (0, .ref row), (1, .int (nI i)), (2, .int (nI gap))]) hx hb dX1_shiftedLimb_19 hl (by decide) rfl (fun ls hl => ?_)
      refine lv_iload_n hx hb dX1_shiftedLimb_21 rfl (lv_at hl 1 rfl) ?_
      refine lv_iconst (v := nI 1) hx hb dX1_shiftedLimb_22 (by decide) ?_
      rw [i2l_dg (nf _ (by omega))] at ev_1
      subst ev_1
      refine r_icmp_ltN (tgt := 35) C (by omega) (by omega) dX1_shiftedLimb_23 (by decide) (fun h2 => ?_) (fun h2 => ?_)
      · refine lv_lconst (v := 0) hx hb dX1_shiftedLimb_35 (by decide) ?_
        refine lv_lstore (lv' := [(6, .long 0), (4, .long (lN (dg (f (i - gap / 31))))), (3, .int (nI (i - (gap / 31)))), (0, .ref row), (1, .int (nI i)), (2, .int (nI gap))]) hx hb dX1_shiftedLimb_36 hl (by decide) rfl (fun ls hl => ?_)
        refine sl_38 C (dg_lt (f (i - gap / 31))) BB_pos hg (lv_sub hl [1, 0, 5] rfl) (fun ls => ?_)
        refine r_iret C hM hS ⟨rfl, ?_⟩ dX1_shiftedLimb_59
        unfold shl
        rw [if_pos hq, if_neg (by omega)]
      · refine lv_aload_n hx hb dX1_shiftedLimb_26 rfl (lv_at hl 2 rfl) ?_
        refine lv_iload_n hx hb dX1_shiftedLimb_27 rfl (lv_at hl 1 rfl) ?_
        refine lv_iconst (v := nI 1) hx hb dX1_shiftedLimb_28 (by decide) ?_
        refine r_isubN C (by omega) dX1_shiftedLimb_29 ?_
        refine r_iald C hM (ha) rfl (by omega) (by omega) dX1_shiftedLimb_30 ?_
        refine lv_i2l (v := (f ((i - (gap / 31)) - 1)).toInt64) hx hb dX1_shiftedLimb_31 rfl ?_
        refine lv_goto (tgt := 36) hx hb dX1_shiftedLimb_32 (by decide) ?_
        refine lv_topl (fun v_2 ev_2 => ?_)
        refine lv_lstore (lv' := [(6, .long v_2), (4, .long (lN (dg (f (i - gap / 31))))), (3, .int (nI (i - (gap / 31)))), (0, .ref row), (1, .int (nI i)), (2, .int (nI gap))]) hx hb dX1_shiftedLimb_36 hl (by decide) rfl (fun ls hl => ?_)
        rw [i2l_dg (nf _ (by omega))] at ev_2
        subst ev_2
        refine sl_38 C (dg_lt (f (i - gap / 31))) (dg_lt (f (i - gap / 31 - 1))) hg (lv_sub hl [1, 0, 5] rfl) (fun ls => ?_)
        refine r_iret C hM hS ⟨rfl, ?_⟩ dX1_shiftedLimb_59
        unfold shl
        rw [if_pos hq, if_pos (by omega)]
  · have hneg : nI i - nI (gap / 31) < 0 := by
      rw [i_lt, pk_sub_toInt (by omega) (by omega), Int32.toInt_zero]
      omega
    refine lv_iload_n hx hb dX1_shiftedLimb_0 rfl (lv_at hl 1 rfl) ?_
    refine lv_iload_n hx hb dX1_shiftedLimb_1 rfl (lv_at hl 2 rfl) ?_
    refine lv_bipush (v := nI 31) hx hb dX1_shiftedLimb_2 (by decide) ?_
    refine lv_idiv hx hb dX1_shiftedLimb_4 (nI_ne0 (by omega) (by omega)) ?_
    refine r_topi C (nI (gap / 31)) (pk_div (by omega) (by omega) (by omega)) ?_
    refine lv_isub hx hb dX1_shiftedLimb_5 ?_
    refine lv_topi (fun v_3 ev_3 => ?_)
    refine lv_istore_n (lv' := [(3, .int v_3), (0, .ref row), (1, .int (nI i)), (2, .int (nI gap))]) hx hb dX1_shiftedLimb_6 rfl hl (by decide) rfl (fun ls hl => ?_)
    refine lv_iload_n hx hb dX1_shiftedLimb_7 rfl (lv_at hl 0 rfl) ?_
    rw [← ev_3] at hneg
    refine lv_if_lt (tgt := 18) hx hb dX1_shiftedLimb_8 (by decide) (fun h1 => ?_) (fun h1 => ?_)
    · refine lv_lconst (v := 0) hx hb dX1_shiftedLimb_18 (by decide) ?_
      refine lv_lstore (lv' := [(4, .long 0), (3, .int v_3), (0, .ref row), (1, .int (nI i)), (2, .int (nI gap))]) hx hb dX1_shiftedLimb_19 hl (by decide) rfl (fun ls hl => ?_)
      refine lv_iload_n hx hb dX1_shiftedLimb_21 rfl (lv_at hl 1 rfl) ?_
      refine lv_iconst (v := nI 1) hx hb dX1_shiftedLimb_22 (by decide) ?_
      refine lv_icmp_lt (tgt := 35) hx hb dX1_shiftedLimb_23 (by decide) (fun h2 => ?_) (fun h2 => ?_)
      · refine lv_lconst (v := 0) hx hb dX1_shiftedLimb_35 (by decide) ?_
        refine lv_lstore (lv' := [(6, .long 0), (4, .long 0), (3, .int v_3), (0, .ref row), (1, .int (nI i)), (2, .int (nI gap))]) hx hb dX1_shiftedLimb_36 hl (by decide) rfl (fun ls hl => ?_)
        refine sl_38 C BB_pos BB_pos hg (lv_sub hl [1, 0, 5] rfl) (fun ls => ?_)
        refine r_iret C hM hS ⟨rfl, ?_⟩ dX1_shiftedLimb_59
        unfold shl
        rw [if_neg hq, if_neg (by omega)]
      · exfalso
        rw [i_lt] at h2 hneg
        rw [nI_toInt (by omega)] at h2
        rw [Int32.toInt_zero] at hneg
        omega
    · exact absurd hneg h1
theorem shl_dg (f : Nat → Int32) (q r i : Nat) : dg (nI (shl f q r i)) = shl f q r i := dg_nI (shl_lt f q r i)
theorem V_shl (f : Nat → Int32) (q r : Nat) : ∀ n, V (fun i => nI (shl f q r i)) n = shV f q r n := by
  intro n
  induction n with
  | zero => rfl
  | succ n ih =>
    rw [V_s, ih, shl_dg]
    rfl
theorem nn_shl (f : Nat → Int32) (q r n : Nat) : nn (fun i => nI (shl f q r i)) n := by
  intro j _
  have := shl_lt f q r j
  have hB : BB = 2147483648 := rfl
  show 0 ≤ (nI (shl f q r j)).toInt
  rw [nI_toInt (by omega)]
  omega
set_option maxRecDepth 100000 in
theorem lp_below {M : xM} {one other n gap : Nat} {f g : Nat → Int32} (C : xC p s m args meth c cX1_isBelowShifted 5 ret RX1 wsX1_isBelowShifted D vwCl (xT kA) N0) (ha : M one = some (xI (kA 0) n f)) (hb2 : M other = some (xI (kA 0) n g)) (ng : nn g n) (hg : gap < 2 ^ 31) (hn : n < 2 ^ 31)
    (hexit : ∀ (v : Int32) (pc : Nat) (H : Heap) (locs : List Loc) (ls : Array Slot), (pc = 38 ∨ pc = 46) → ((v = 0 ∧ ∀ j, j < n → f j = nI (shl g (gap / 31) (gap % 31) j)) ∨ (∃ k, k < n ∧ (∀ j, k < j → j < n → f j = nI (shl g (gap / 31) (gap % 31) j)) ∧ ((v = 1 ∧ f k < nI (shl g (gap / 31) (gap % 31) k)) ∨ (v = 0 ∧ nI (shl g (gap / 31) (gap % 31) k) < f k)))) → xW D vwCl N0 M H → va_S (xA N0) s.heap H locs → W p l e (xR 1) s m args below meth c H locs 0 0 Q (F0 m pc ls [.int v])) :
    ∀ (k : Nat) (H : Heap) (locs : List Loc) (ls : Array Slot), k ≤ n → (∀ j, k ≤ j → j < n → f j = nI (shl g (gap / 31) (gap % 31) j)) → xW D vwCl N0 M H → va_S (xA N0) s.heap H locs → lv_has ls 5 [(3, .int (nI k - 1)), (0, .ref one), (1, .ref other), (2, .int (nI gap))] → W p l e (xR 1) s m args below meth c H locs 0 0 Q (F0 m 5 ls []) := by
  obtain ⟨hx, hb, hml, hown, hts, hr, hlocks, hK, hN⟩ := id C
  intro k
  induction k with
  | zero =>
    intro H locs ls hk hz hM hS hl
    refine lv_iload_n hx hb dX1_isBelowShifted_5 rfl (lv_at hl 0 rfl) ?_
    refine lv_if_lt (tgt := 45) hx hb dX1_isBelowShifted_6 (by decide) (fun hc => ?_) (fun hc => ?_)
    · refine lv_iconst (v := nI 0) hx hb dX1_isBelowShifted_45 (by decide) ?_
      exact hexit _ 46 H locs ls (Or.inr rfl) (Or.inl ⟨nI_0, fun j hj => hz j (by omega) hj⟩) hM hS
    · exact absurd (by decide) hc
  | succ k ih =>
    intro H locs ls hk hz hM hS hl
    have hl : lv_has ls 5 [(3, .int (nI k)), (0, .ref one), (1, .ref other), (2, .int (nI gap))] := by rw [nI_pred] at hl; exact hl
    refine lv_iload_n hx hb dX1_isBelowShifted_5 rfl (lv_at hl 0 rfl) ?_
    refine r_if_ltN (tgt := 45) C (by omega) dX1_isBelowShifted_6 (by decide) (fun hc => ?_) (fun hc => ?_)
    · exact hc.elim
    · refine lv_aload_n hx hb dX1_isBelowShifted_9 rfl (lv_at hl 2 rfl) ?_
      refine lv_iload_n hx hb dX1_isBelowShifted_10 rfl (lv_at hl 0 rfl) ?_
      refine lv_iload_n hx hb dX1_isBelowShifted_11 rfl (lv_at hl 3 rfl) ?_
      refine r_Si (As := [.ref other, .int (nI k), .int (nI gap)]) (rest := []) C hM hS (c_shiftedLimb l D kA N0 M other n k gap g hb2 ng (by omega) hg hn) gX1_isBelowShifted_X1_shiftedLimb rfl rfl rfl ⟨by decide +kernel, by decide +kernel, (by decide +kernel : (parseMethodDescriptor yX1_shiftedLimb.desc).map (fun d => d.parameters.length) = some 3)⟩ ⟨Nat.le_of_ble_eq_true rfl, Nat.le_of_ble_eq_true rfl⟩ hl.1 rfl (Nat.le_of_ble_eq_true rfl) dX1_isBelowShifted_12 ⟨Nat.le_of_ble_eq_true rfl, Nat.le_of_ble_eq_true rfl⟩ (fun r M1 H locs hp hM hS => ?_)
      obtain ⟨eM, er⟩ := hp
      rw [eM] at hM
      refine lv_istore (lv' := [(4, .int r), (3, .int (nI k)), (0, .ref one), (1, .ref other), (2, .int (nI gap))]) hx hb dX1_isBelowShifted_15 hl (by decide) rfl (fun ls hl => ?_)
      refine lv_aload_n hx hb dX1_isBelowShifted_17 rfl (lv_at hl 2 rfl) ?_
      refine lv_iload_n hx hb dX1_isBelowShifted_18 rfl (lv_at hl 1 rfl) ?_
      refine r_iald C hM (ha) rfl (by omega) (by omega) dX1_isBelowShifted_19 ?_
      refine lv_iload hx hb dX1_isBelowShifted_20 (lv_at hl 0 rfl) ?_
      refine lv_icmp_eq (tgt := 39) hx hb dX1_isBelowShifted_22 (by decide) (fun hd => ?_) (fun hd => ?_)
      · refine lv_iinc (v := nI k - 1) (lv' := [(3, .int (nI k - 1)), (4, .int r), (0, .ref one), (1, .ref other), (2, .int (nI gap))]) hx hb dX1_isBelowShifted_39 hl (k := 1) rfl (r_decI _) (by decide) rfl (fun ls hl => ?_)
        refine lv_goto (tgt := 5) hx hb dX1_isBelowShifted_42 (by decide) ?_
        exact ih H locs ls (by omega) (fun j h1 h2 => by
          by_cases h : j = k
          · rw [h, ← er]; exact hd
          · exact hz j (by omega) h2) hM hS (lv_sub hl [0, 2, 3, 4] rfl)
      · refine lv_aload_n hx hb dX1_isBelowShifted_25 rfl (lv_at hl 2 rfl) ?_
        refine lv_iload_n hx hb dX1_isBelowShifted_26 rfl (lv_at hl 1 rfl) ?_
        refine r_iald C hM (ha) rfl (by omega) (by omega) dX1_isBelowShifted_27 ?_
        refine lv_iload hx hb dX1_isBelowShifted_28 (lv_at hl 0 rfl) ?_
        refine lv_icmp_ge (tgt := 37) hx hb dX1_isBelowShifted_30 (by decide) (fun hg2 => ?_) (fun hg2 => ?_)
        · refine lv_iconst (v := nI 0) hx hb dX1_isBelowShifted_37 (by decide) ?_
          refine hexit _ 38 H locs ls (Or.inl rfl) (Or.inr ⟨k, by omega, fun j h1 h2 => hz j (by omega) h2, Or.inr ⟨rfl, ?_⟩⟩) hM hS
          rw [← er]
          rw [i_le] at hg2
          rw [i_lt]
          have : (f k).toInt ≠ r.toInt := fun h => hd (i_eqI h)
          omega
        · refine lv_iconst (v := nI 1) hx hb dX1_isBelowShifted_33 (by decide) ?_
          refine lv_goto (tgt := 38) hx hb dX1_isBelowShifted_34 (by decide) ?_
          refine hexit _ 38 H locs ls (Or.inl rfl) (Or.inr ⟨k, by omega, fun j h1 h2 => hz j (by omega) h2, Or.inl ⟨rfl, ?_⟩⟩) hM hS
          rw [← er]
          rw [i_le] at hg2
          rw [i_lt]
          omega
set_option maxRecDepth 100000 in
theorem c_isBelowShifted (l : Launch) (D : va_G) (kA : Nat → ClassId) (N0 : Nat) (M : xM) (one other n gap : Nat) (f g : Nat → Int32) (ha : M one = some (xI (kA 0) n f)) (hb2 : M other = some (xI (kA 0) n g)) (nf : nn f n) (ng : nn g n) (hg : gap < 2 ^ 31) (hn : n < 2 ^ 31) : cI l yX1_isBelowShifted wsX1_isBelowShifted (xR 1) [.ref one, .ref other, .int (nI gap)] D kA N0 M (fun r M1 => M1 = M ∧ ((r = 1 ∧ V f n < shV g (gap / 31) (gap % 31) n) ∨ (r = 0 ∧ shV g (gap / 31) (gap % 31) n ≤ V f n))) := by
  refine r_met (cc := cX1_isBelowShifted) (maxL := 5) (ret := (some .boolean)) (by decide) rfl (Nat.le_of_ble_eq_true rfl) ?_
  intro p e s m below meth c ls C hM hnm hl
  obtain ⟨hx, hb, hml, hown, hts, hr, hlocks, hK, hN⟩ := id C
  have hS : va_S (xA N0) s.heap s.heap [] := va_S.rf
  have hl : lv_has ls 5 [(0, .ref one), (1, .ref other), (2, .int (nI gap))] := hl
  refine lv_aload_n hx hb dX1_isBelowShifted_0 rfl (lv_at hl 0 rfl) ?_
  refine r_alen C hM (ha) rfl dX1_isBelowShifted_1 ?_
  refine lv_iconst (v := 1) hx hb dX1_isBelowShifted_2 (by decide) ?_
  refine lv_isub hx hb dX1_isBelowShifted_3 ?_
  refine lv_istore_n (lv' := [(3, .int (nI n - 1)), (0, .ref one), (1, .ref other), (2, .int (nI gap))]) hx hb dX1_isBelowShifted_4 rfl hl (by decide) rfl (fun ls hl => ?_)
  refine lp_below C ha hb2 ng hg hn (fun v pc H locs ls hpc hv hM hS => ?_) n s.heap [] ls (Nat.le_refl n) (fun j h1 h2 => by omega) hM hS hl
  have hp : M = M ∧ ((v = 1 ∧ V f n < shV g (gap / 31) (gap % 31) n) ∨ (v = 0 ∧ shV g (gap / 31) (gap % 31) n ≤ V f n)) := by
    refine ⟨rfl, ?_⟩
    rw [← V_shl]
    rcases hv with ⟨h1, h2⟩ | ⟨k, hk, h2, h3⟩
    · exact Or.inr ⟨h1, by rw [V_congr (f := f) h2]; exact Nat.le_refl _⟩
    · have n1 := nn_dg nf hk
      have n2 := nn_dg (nn_shl g (gap / 31) (gap % 31) n) hk
      rcases h3 with ⟨h3, h4⟩ | ⟨h3, h4⟩
      · exact Or.inl ⟨h3, V_less hk h2 (by rw [i_lt] at h4; omega)⟩
      · exact Or.inr ⟨h3, Nat.le_of_lt (V_less hk (fun j a b => (h2 j a b).symm) (by rw [i_lt] at h4; omega))⟩
  have hz : narrow .boolean (.int v) = .int v := by
    rcases hp.2 with ⟨h, -⟩ | ⟨h, -⟩ <;> rw [h] <;> rfl
  rcases hpc with rfl | rfl
  · exact r_zret C hM hS hz hp dX1_isBelowShifted_38
  · exact r_zret C hM hS hz hp dX1_isBelowShifted_46
/-- a row shifted, where nothing goes past it -/
theorem shV_fit {g : Nat → Int32} {n k : Nat} (h : V g n * 2 ^ k < BB ^ n) : shV g (k / 31) (k % 31) n = V g n * 2 ^ k := by
  have e : BB ^ (k / 31) * 2 ^ (k % 31) = 2 ^ k := by
    rw [BB_two, ← Nat.pow_add]
    congr 1
    omega
  rw [shV_eq (Nat.mod_lt _ (by decide)), e, Nat.mod_eq_of_lt h]
theorem gap_fit {a b n : Nat} (hb : 0 < b) (ha : a < BB ^ n) (h : bl b ≤ bl a) : b * 2 ^ (bl a - bl b) < BB ^ n ∧ a < 2 ^ (bl a - bl b + 1) * b ∧ (0 < bl a - bl b → 2 ^ (bl a - bl b - 1) * b ≤ a) ∧ bl a ≤ 31 * n := by
  have h1 := bl_hi a
  have h2 := bl_hi b
  have h3 := bl_lo hb
  have h4 := bl_pos hb
  have ha0 : 0 < a := by
    rcases Nat.eq_zero_or_pos a with q | q
    · rw [q, bl_0] at h; omega
    · exact q
  have h5 := bl_lo ha0
  have h6 : bl a ≤ 31 * n := bl_le (by rw [← BB_two]; exact ha)
  obtain ⟨k, hk⟩ : ∃ k, bl a = bl b + k := ⟨bl a - bl b, by omega⟩
  rw [hk] at h1 h5 h6 ⊢
  rw [Nat.add_sub_cancel_left]
  obtain ⟨j, hj⟩ : ∃ j, bl b = j + 1 := ⟨bl b - 1, by omega⟩
  rw [hj] at h1 h2 h3 h5 h6 ⊢
  rw [Nat.add_sub_cancel] at h3
  have hp := Nat.two_pow_pos k
  refine ⟨?_, ?_, ?_, by omega⟩
  · have q1 : b * 2 ^ k < 2 ^ (j + 1) * 2 ^ k := Nat.mul_lt_mul_of_pos_right h2 hp
    rw [← Nat.pow_add] at q1
    rw [BB_two]
    exact Nat.lt_of_lt_of_le q1 (Nat.pow_le_pow_right (by decide) h6)
  · have q1 : 2 ^ (k + 1) * 2 ^ j ≤ 2 ^ (k + 1) * b := Nat.mul_le_mul_left _ h3
    rw [← Nat.pow_add] at q1
    have e : k + 1 + j = j + 1 + k := by omega
    rw [e] at q1
    omega
  · intro hk0
    obtain ⟨i, rfl⟩ : ∃ i, k = i + 1 := ⟨k - 1, by omega⟩
    rw [Nat.add_sub_cancel]
    have q1 : 2 ^ i * b ≤ 2 ^ i * 2 ^ (j + 1) := Nat.mul_le_mul_left _ (Nat.le_of_lt h2)
    rw [← Nat.pow_add] at q1
    have e : j + 1 + (i + 1) - 1 = i + (j + 1) := by omega
    rw [e] at h5
    omega
set_option maxRecDepth 100000 in
theorem c_gapBetween (l : Launch) (D : va_G) (kA : Nat → ClassId) (N0 : Nat) (M : xM) (up lo n : Nat) (f g : Nat → Int32) (ha : M up = some (xI (kA 0) n f)) (hb2 : M lo = some (xI (kA 0) n g)) (nf : nn f n) (ng : nn g n) (hpos : 0 < V g n) (hn : n < 1000) : cI l yX1_gapBetween wsX1_gapBetween (xR 2) [.ref up, .ref lo] D kA N0 M (fun r M1 => M1 = M ∧ ((r < 0 ∧ V f n < V g n) ∨ (∃ k, r = nI k ∧ 2 ^ k * V g n ≤ V f n ∧ V f n < 2 ^ (k + 1) * V g n ∧ k ≤ 31 * n))) := by
  refine r_met (cc := cX1_gapBetween) (maxL := 3) (ret := (some .int)) (by decide) rfl (Nat.le_of_ble_eq_true rfl) ?_
  intro p e s m below meth c ls C hM hnm hl
  obtain ⟨hx, hb, hml, hown, hts, hr, hlocks, hK, hN⟩ := id C
  have hS : va_S (xA N0) s.heap s.heap [] := va_S.rf
  have hl : lv_has ls 3 [(0, .ref up), (1, .ref lo)] := hl
  refine lv_aload_n hx hb dX1_gapBetween_0 rfl (lv_at hl 0 rfl) ?_
  refine r_Si (As := [.ref up]) (rest := []) C hM hS (c_bitsOf l D kA N0 M up n f ha nf hn) gX1_gapBetween_X1_bitsOf rfl rfl rfl ⟨by decide +kernel, by decide +kernel, (by decide +kernel : (parseMethodDescriptor yX1_bitsOf.desc).map (fun d => d.parameters.length) = some 1)⟩ ⟨Nat.le_of_ble_eq_true rfl, Nat.le_of_ble_eq_true rfl⟩ hl.1 rfl (Nat.le_of_ble_eq_true rfl) dX1_gapBetween_1 ⟨Nat.le_of_ble_eq_true rfl, Nat.le_of_ble_eq_true rfl⟩ (fun r M1 H locs hp hM hS => ?_)
  obtain ⟨eM, rfl⟩ := hp
  rw [eM] at hM
  refine lv_aload_n hx hb dX1_gapBetween_4 rfl (lv_at hl 1 rfl) ?_
  refine r_Si (As := [.ref lo]) (rest := [.int (nI (bl (V f n)))]) C hM hS (c_bitsOf l D kA N0 M lo n g hb2 ng hn) gX1_gapBetween_X1_bitsOf rfl rfl rfl ⟨by decide +kernel, by decide +kernel, (by decide +kernel : (parseMethodDescriptor yX1_bitsOf.desc).map (fun d => d.parameters.length) = some 1)⟩ ⟨Nat.le_of_ble_eq_true rfl, Nat.le_of_ble_eq_true rfl⟩ hl.1 rfl (Nat.le_of_ble_eq_true rfl) dX1_gapBetween_5 ⟨Nat.le_of_ble_eq_true rfl, Nat.le_of_ble_eq_true rfl⟩ (fun r M2 H locs hp hM hS => ?_)
  obtain ⟨eM2, rfl⟩ := hp
  rw [eM2] at hM
  have b1 : bl (V f n) ≤ 31 * n := bl_le (by rw [← BB_two]; exact V_lt f n)
  have b2 : bl (V g n) ≤ 31 * n := bl_le (by rw [← BB_two]; exact V_lt g n)
  by_cases hlt : bl (V f n) < bl (V g n)
  · have hneg : nI (bl (V f n)) - nI (bl (V g n)) < 0 := by
      rw [i_lt, pk_sub_toInt (by omega) (by omega), Int32.toInt_zero]
      omega
    have hless : V f n < V g n := by
      have q1 := bl_hi (V f n)
      have q2 := bl_lo hpos
      have q3 : 2 ^ bl (V f n) ≤ 2 ^ (bl (V g n) - 1) := Nat.pow_le_pow_right (by decide) (by omega)
      omega
    refine lv_isub hx hb dX1_gapBetween_8 ?_
    refine lv_topi (fun v_4 ev_4 => ?_)
    refine lv_istore_n (lv' := [(2, .int v_4), (0, .ref up), (1, .ref lo)]) hx hb dX1_gapBetween_9 rfl hl (by decide) rfl (fun ls hl => ?_)
    refine lv_iload_n hx hb dX1_gapBetween_10 rfl (lv_at hl 0 rfl) ?_
    rw [← ev_4] at hneg
    refine lv_if_lt (tgt := 29) hx hb dX1_gapBetween_11 (by decide) (fun hc => ?_) (fun hc => ?_)
    · refine lv_iload_n hx hb dX1_gapBetween_29 rfl (lv_at hl 0 rfl) ?_
      exact r_iret C hM hS (⟨rfl, Or.inl ⟨hneg, hless⟩⟩) dX1_gapBetween_30
    · exact absurd hneg hc
  · obtain ⟨q1, q2, q3, q4⟩ := gap_fit hpos (V_lt f n) (Nat.le_of_not_lt hlt)
    obtain ⟨k, hk⟩ : ∃ k, bl (V f n) - bl (V g n) = k := ⟨_, rfl⟩
    have hfit : shV g (k / 31) (k % 31) n = V g n * 2 ^ k := shV_fit (by rw [← hk]; exact q1)
    refine r_isubN C (by omega) dX1_gapBetween_8 ?_
    rw [hk] at q1 q2 q3 ⊢
    refine lv_istore_n (lv' := [(2, .int (nI k)), (0, .ref up), (1, .ref lo)]) hx hb dX1_gapBetween_9 rfl hl (by decide) rfl (fun ls hl => ?_)
    refine lv_iload_n hx hb dX1_gapBetween_10 rfl (lv_at hl 0 rfl) ?_
    refine r_if_ltN (tgt := 29) C (by omega) dX1_gapBetween_11 (by decide) (fun hc => ?_) (fun hc => ?_)
    · exact hc.elim
    · refine lv_aload_n hx hb dX1_gapBetween_14 rfl (lv_at hl 1 rfl) ?_
      refine lv_aload_n hx hb dX1_gapBetween_15 rfl (lv_at hl 2 rfl) ?_
      refine lv_iload_n hx hb dX1_gapBetween_16 rfl (lv_at hl 0 rfl) ?_
      refine r_Si (As := [.ref up, .ref lo, .int (nI k)]) (rest := []) C hM hS (c_isBelowShifted l D kA N0 M up lo n k f g ha hb2 nf ng (by omega) (by omega)) gX1_gapBetween_X1_isBelowShifted rfl rfl rfl ⟨by decide +kernel, by decide +kernel, (by decide +kernel : (parseMethodDescriptor yX1_isBelowShifted.desc).map (fun d => d.parameters.length) = some 3)⟩ ⟨Nat.le_of_ble_eq_true rfl, Nat.le_of_ble_eq_true rfl⟩ hl.1 rfl (Nat.le_of_ble_eq_true rfl) dX1_gapBetween_17 ⟨Nat.le_of_ble_eq_true rfl, Nat.le_of_ble_eq_true rfl⟩ (fun r M3 H locs hp hM hS => ?_)
      obtain ⟨eM3, hr2⟩ := hp
      rw [eM3] at hM
      rw [hfit] at hr2
      refine lv_if_eq (tgt := 29) hx hb dX1_gapBetween_20 (by decide) (fun hd => ?_) (fun hd => ?_)
      · refine lv_iload_n hx hb dX1_gapBetween_29 rfl (lv_at hl 0 rfl) ?_
        rcases hr2 with ⟨h1, h2⟩ | ⟨h1, h2⟩
        · rw [h1] at hd
          exact absurd hd (by decide)
        exact r_iret C hM hS (⟨rfl, Or.inr ⟨k, rfl, by rw [Nat.mul_comm]; exact h2, q2, by omega⟩⟩) dX1_gapBetween_30
      · rcases hr2 with ⟨h1, h2⟩ | ⟨h1, h2⟩
        · by_cases hk0 : k = 0
          · subst hk0
            refine lv_iload_n hx hb dX1_gapBetween_23 rfl (lv_at hl 0 rfl) ?_
            refine lv_iconst (v := nI 1) hx hb dX1_gapBetween_24 (by decide) ?_
            refine lv_isub hx hb dX1_gapBetween_25 ?_
            refine lv_goto (tgt := 30) hx hb dX1_gapBetween_26 (by decide) ?_
            exact r_iret C hM hS (⟨rfl, Or.inl ⟨by decide, by omega⟩⟩) dX1_gapBetween_30
          · refine lv_iload_n hx hb dX1_gapBetween_23 rfl (lv_at hl 0 rfl) ?_
            refine lv_iconst (v := nI 1) hx hb dX1_gapBetween_24 (by decide) ?_
            refine r_isubN C (by omega) dX1_gapBetween_25 ?_
            refine lv_goto (tgt := 30) hx hb dX1_gapBetween_26 (by decide) ?_
            refine r_iret C hM hS ⟨rfl, Or.inr ⟨k - 1, rfl, q3 (by omega), ?_, by omega⟩⟩ dX1_gapBetween_30
            rw [Nat.sub_add_cancel (by omega), Nat.mul_comm]
            exact h2
        · exact absurd h1 hd
end N4
