section N5
variable {p : Program} {l : Launch} {e : Env} {R : Room} {s : State} {m : MethodId} {args : Array Value} {below : List Frame} {meth : Method} {c : Code} {Q : State → Prop} {cells slots : Nat} {ret : Option FieldType} {D : va_G} {kA : Nat → ClassId} {N0 : Nat}
set_option maxRecDepth 100000 in
theorem lp_addsh {M : xM} {row other n gap : Nat} {f0 g : Nat → Int32} {sg : Int32} {σ : Int} (C : xC p s m args meth c cX1_addShifted 7 ret RX1 wsX1_addShifted D vwCl (xT kA) N0) (hne : other ≠ row) (h2 : M other = some (xI (kA 0) n g)) (n1 : nn f0 n) (n2 : nn g n) (hσ : sg.toInt = σ) (hs : σ = 1 ∨ σ = -1) (hg : gap < 2 ^ 31) (hn : n < 2 ^ 31)
    (hexit : ∀ (f : Nat → Int32) (cy : Int) (H : Heap) (locs : List Loc) (ls : Array Slot), nn f n → (V f n : Int) + cy * ((BB ^ n : Nat) : Int) = V f0 n + σ * shV g (gap / 31) (gap % 31) n → xW D vwCl N0 (xset M row (xI (kA 0) n f)) H → va_S (xA N0) s.heap H locs → W p l e (xR 1) s m args below meth c H locs 0 0 Q (F0 m 59 ls [])) :
    ∀ (k i : Nat) (f : Nat → Int32) (cy : Int64) (H : Heap) (locs : List Loc) (ls : Array Slot), i + k = n → (∀ j, i ≤ j → f j = f0 j) → nn f i → (V f i : Int) + cy.toInt * ((BB ^ i : Nat) : Int) = V f0 i + σ * shV g (gap / 31) (gap % 31) i → -1 ≤ cy.toInt → cy.toInt ≤ 1 → xW D vwCl N0 (xset M row (xI (kA 0) n f)) H → va_S (xA N0) s.heap H locs → lv_has ls 7 [(6, .int (nI i)), (4, .long cy), (0, .ref row), (1, .ref other), (2, .int (nI gap)), (3, .int sg)] → W p l e (xR 1) s m args below meth c H locs 0 0 Q (F0 m 6 ls []) := by
  obtain ⟨hx, hb, hml, hown, hts, hr, hlocks, hK, hN⟩ := id C
  intro k
  induction k with
  | zero =>
    intro i f cy H locs ls hi hf hnf hI c1 c2 hM hS hl
    refine lv_iload hx hb dX1_addShifted_6 (lv_at hl 0 rfl) ?_
    refine lv_aload_n hx hb dX1_addShifted_8 rfl (lv_at hl 2 rfl) ?_
    refine r_alen C hM (xset_s) rfl dX1_addShifted_9 ?_
    refine r_icmp_geN (tgt := 59) C (by omega) (by omega) dX1_addShifted_10 (by decide) (fun hc => ?_) (fun hc => ?_)
    · have hi : i = n := by omega
      subst hi
      exact hexit f cy.toInt H locs ls hnf hI hM hS
    · omega
  | succ k ih =>
    intro i f cy H locs ls hi hf hnf hI c1 c2 hM hS hl
    refine lv_iload hx hb dX1_addShifted_6 (lv_at hl 0 rfl) ?_
    refine lv_aload_n hx hb dX1_addShifted_8 rfl (lv_at hl 2 rfl) ?_
    refine r_alen C hM (xset_s) rfl dX1_addShifted_9 ?_
    refine r_icmp_geN (tgt := 59) C (by omega) (by omega) dX1_addShifted_10 (by decide) (fun hc => ?_) (fun hc => ?_)
    · omega
    · refine lv_lload hx hb dX1_addShifted_13 (lv_at hl 1 rfl) ?_
      refine lv_aload_n hx hb dX1_addShifted_15 rfl (lv_at hl 2 rfl) ?_
      refine lv_iload hx hb dX1_addShifted_16 (lv_at hl 0 rfl) ?_
      refine r_iald C hM (xset_s) rfl (by omega) (by omega) dX1_addShifted_18 ?_
      refine lv_i2l (v := (f i).toInt64) hx hb dX1_addShifted_19 rfl ?_
      refine lv_iload_n hx hb dX1_addShifted_20 rfl (lv_at hl 5 rfl) ?_
      refine lv_i2l (v := sg.toInt64) hx hb dX1_addShifted_21 rfl ?_
      refine lv_aload_n hx hb dX1_addShifted_22 rfl (lv_at hl 3 rfl) ?_
      refine lv_iload hx hb dX1_addShifted_23 (lv_at hl 0 rfl) ?_
      refine lv_iload_n hx hb dX1_addShifted_25 rfl (lv_at hl 4 rfl) ?_
      refine r_Si (As := [.ref other, .int (nI i), .int (nI gap)]) (rest := [.long sg.toInt64, .long ((f i).toInt64), .long cy]) C hM hS (c_shiftedLimb l D kA N0 (xset M row (xI (kA 0) n f)) other n i gap g (by rw [xset_n hne]; exact h2) n2 (by omega) hg hn) gX1_addShifted_X1_shiftedLimb rfl rfl rfl ⟨by decide +kernel, by decide +kernel, (by decide +kernel : (parseMethodDescriptor yX1_shiftedLimb.desc).map (fun d => d.parameters.length) = some 3)⟩ ⟨Nat.le_of_ble_eq_true rfl, Nat.le_of_ble_eq_true rfl⟩ hl.1 rfl (Nat.le_of_ble_eq_true rfl) dX1_addShifted_26 ⟨Nat.le_of_ble_eq_true rfl, Nat.le_of_ble_eq_true rfl⟩ (fun r M1 H locs hp hM hS => ?_)
      obtain ⟨eM, er⟩ := hp
      rw [eM] at hM
      refine lv_i2l (v := r.toInt64) hx hb dX1_addShifted_29 rfl ?_
      refine lv_lmul hx hb dX1_addShifted_30 ?_
      refine lv_ladd hx hb dX1_addShifted_31 ?_
      refine lv_ladd hx hb dX1_addShifted_32 ?_
      refine lv_topl (fun v_1 ev_1 => ?_)
      refine lv_lstore (lv' := [(4, .long v_1), (6, .int (nI i)), (0, .ref row), (1, .ref other), (2, .int (nI gap)), (3, .int sg)]) hx hb dX1_addShifted_33 hl (by decide) rfl (fun ls hl => ?_)
      refine lv_aload_n hx hb dX1_addShifted_35 rfl (lv_at hl 2 rfl) ?_
      refine lv_iload hx hb dX1_addShifted_36 (lv_at hl 1 rfl) ?_
      refine lv_lload hx hb dX1_addShifted_38 (lv_at hl 0 rfl) ?_
      refine lv_ldc2 (v := 2147483647) hx hb hown (hts (.constantLong RX1 33 (2147483647)) (by decide +kernel)) dX1_addShifted_40 ?_
      refine lv_land hx hb dX1_addShifted_43 ?_
      refine lv_l2i (v := (v_1 &&& 2147483647).toInt32) hx hb dX1_addShifted_44 rfl ?_
      refine r_iast C hM hS (xset_s) rfl (by omega) (by omega) dX1_addShifted_45 (fun H locs hM hS => ?_)
      rw [xset_xset] at hM
      refine lv_lload hx hb dX1_addShifted_46 (lv_at hl 0 rfl) ?_
      refine lv_bipush (v := nI 31) hx hb dX1_addShifted_48 (by decide) ?_
      refine lv_lshr (v := v_1 >>> ((nI 31).toInt64 &&& 63)) hx hb dX1_addShifted_50 rfl ?_
      refine lv_topl (fun v_2 ev_2 => ?_)
      refine lv_lstore (lv' := [(4, .long v_2), (6, .int (nI i)), (0, .ref row), (1, .ref other), (2, .int (nI gap)), (3, .int sg)]) hx hb dX1_addShifted_51 hl (by decide) rfl (fun ls hl => ?_)
      refine lv_iinc (v := nI (i + 1)) (lv' := [(6, .int (nI (i + 1))), (4, .long v_2), (0, .ref row), (1, .ref other), (2, .int (nI gap)), (3, .int sg)]) hx hb dX1_addShifted_53 hl (k := 1) rfl (r_inc _) (by decide) rfl (fun ls hl => ?_)
      refine lv_goto (tgt := 6) hx hb dX1_addShifted_56 (by decide) ?_
      have hv1 := cmb_v (x := f i) (y := r) hσ hs c1 c2
      rw [← ev_1] at hv1
      have hv2 := cmb_c v_1
      rw [← ev_2] at hv2
      have ho := cmb_o v_1
      have hB : BB = 2147483648 := rfl
      have l2 := shl_lt g (gap / 31) (gap % 31) i
      have d1 := nn_dg n1 (show i < n by omega)
      have d2 : r.toInt = (shl g (gap / 31) (gap % 31) i : Int) := by rw [er, nI_toInt (by omega)]
      rw [hf i (Nat.le_refl i), d2] at hv1
      have l1 := dg_lt (f0 i)
      have hT : v_1.toInt = cy.toInt + ((dg (f0 i) : Int) + σ * (shl g (gap / 31) (gap % 31) i : Int)) := by rw [hv1, d1]
      have hst := cmb_step (d1 := dg (f0 i)) (d2 := shl g (gap / 31) (gap % 31) i) hI hT
      refine ih (i + 1) (upd f i ((v_1 &&& 2147483647).toInt32)) v_2 H locs ls (by omega) (fun j hj => ?_) (fun j hj => ?_) ?_ ?_ ?_ hM hS (lv_sub hl [0, 1, 2, 3, 4, 5] rfl)
      · rw [pk_un (by omega)]
        exact hf j (by omega)
      · by_cases hq : j = i
        · rw [hq, pk_us, ho]
          omega
        · rw [pk_un hq]
          exact hnf j (by omega)
      · rw [V_upd, V_s, Nat.pow_succ, hv2]
        have : dg ((v_1 &&& 2147483647).toInt32) = (v_1.toInt % 2147483648).toNat := by
          unfold dg
          rw [ho]
        rw [this]
        exact hst
      · rw [hv2]
        rcases hs with h | h <;> rw [h] at hT <;> omega
      · rw [hv2]
        rcases hs with h | h <;> rw [h] at hT <;> omega
set_option maxRecDepth 100000 in
theorem c_addShifted (l : Launch) (D : va_G) (kA : Nat → ClassId) (N0 : Nat) (M : xM) (row other n gap : Nat) (f0 g : Nat → Int32) (sg : Int32) (σ : Int) (h0 : M row = some (xI (kA 0) n f0)) (h2 : M other = some (xI (kA 0) n g)) (hne : other ≠ row) (n1 : nn f0 n) (n2 : nn g n) (hσ : sg.toInt = σ) (hs : σ = 1 ∨ σ = -1) (hg : gap < 2 ^ 31) (hn : n < 2 ^ 31) : cV l yX1_addShifted wsX1_addShifted (xR 1) [.ref row, .ref other, .int (nI gap), .int sg] D kA N0 M (fun M1 => ∃ (f : Nat → Int32) (cy : Int), M1 = xset M row (xI (kA 0) n f) ∧ nn f n ∧ (V f n : Int) + cy * ((BB ^ n : Nat) : Int) = V f0 n + σ * shV g (gap / 31) (gap % 31) n) := by
  refine r_met (cc := cX1_addShifted) (maxL := 7) (ret := none) (by decide) rfl (Nat.le_of_ble_eq_true rfl) ?_
  intro p e s m below meth c ls C hM hnm hl
  obtain ⟨hx, hb, hml, hown, hts, hr, hlocks, hK, hN⟩ := id C
  have hS : va_S (xA N0) s.heap s.heap [] := va_S.rf
  have hl : lv_has ls 7 [(0, .ref row), (1, .ref other), (2, .int (nI gap)), (3, .int sg)] := hl
  refine lv_lconst (v := 0) hx hb dX1_addShifted_0 (by decide) ?_
  refine lv_lstore (lv' := [(4, .long 0), (0, .ref row), (1, .ref other), (2, .int (nI gap)), (3, .int sg)]) hx hb dX1_addShifted_1 hl (by decide) rfl (fun ls hl => ?_)
  refine lv_iconst (v := nI 0) hx hb dX1_addShifted_3 (by decide) ?_
  refine lv_istore (lv' := [(6, .int (nI 0)), (4, .long 0), (0, .ref row), (1, .ref other), (2, .int (nI gap)), (3, .int sg)]) hx hb dX1_addShifted_4 hl (by decide) rfl (fun ls hl => ?_)
  have hM' : xW D vwCl N0 (xset M row (xI (kA 0) n f0)) s.heap := by rw [xset_id h0]; exact hM
  refine lp_addsh C hne h2 n1 n2 hσ hs hg hn (fun f cy H locs ls hnf hI hM hS => ?_) n 0 f0 0 s.heap [] ls (by omega) (fun j hj => rfl) (fun j hj => by omega) (by simp [V_0, shV]) (by decide) (by decide) hM' hS (lv_sub hl [0, 1, 2, 3, 4, 5] rfl)
  exact r_vret C hM hS (⟨f, cy, rfl, hnf, hI⟩) dX1_addShifted_59
/-- a sum, a difference that fit their row -/
theorem fit_mod {A B n : Nat} {T cy : Int} (h : (A : Int) + cy * ((BB ^ n : Nat) : Int) = T) (hA : A < BB ^ n) (hB : T = (B : Int)) (hB2 : B < BB ^ n) : A = B := by
  have e : (A : Int) % ((BB ^ n : Nat) : Int) = (B : Int) % ((BB ^ n : Nat) : Int) := by
    rw [← hB, ← h, Int.add_mul_emod_self_right]
  rw [← Int.natCast_emod, ← Int.natCast_emod, Nat.mod_eq_of_lt hA, Nat.mod_eq_of_lt hB2] at e
  exact Int.ofNat.inj e
end N5
