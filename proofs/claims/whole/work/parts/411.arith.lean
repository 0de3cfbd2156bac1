theorem in_X6_load_X6 : ∀ w ∈ wsX60, w ∈ wsX6_load := by decide +kernel
theorem lcge {x y : Int64} : 0 ≤ lg_cmp x y ↔ y.toInt ≤ x.toInt := by
  unfold lg_cmp
  by_cases h1 : x > y
  · rw [if_pos h1]
    have h2 : y < x := h1
    rw [Int64.lt_iff_toInt_lt] at h2
    exact ⟨fun _ => by omega, fun _ => by decide⟩
  · rw [if_neg h1]
    have h2 : ¬ y < x := h1
    rw [Int64.lt_iff_toInt_lt] at h2
    by_cases h3 : x = y
    · rw [if_pos h3, h3]
      exact ⟨fun _ => by omega, fun _ => by decide⟩
    · rw [if_neg h3]
      refine ⟨fun q => absurd q (by decide), fun q => ?_⟩
      exact absurd (l_eqI (x := x) (y := y) (by omega)) h3
theorem t_BB : (2147483648 : Int64).toInt = 2147483648 := by decide
theorem hs2x (v : Int64) (h1 : v.toInt < 0) (h2 : -2147483648 ≤ v.toInt) : (v + 2147483648).toInt = v.toInt + 2147483648 := l_add rfl t_BB (by omega) (by omega)
section NM2
variable {p : Program} {l : Launch} {e : Env} {R : Room} {s : State} {m : MethodId} {args : Array Value} {below : List Frame} {meth : Method} {c : Code} {Q : State → Prop} {cells slots : Nat} {ret : Option FieldType} {D : va_G} {kA : Nat → ClassId} {N0 : Nat}
theorem pl_st {A B P d1 d2 ov v x : Nat} (h : v + ov * P = A + B) (hx : x = (d1 + d2 + ov) % BB) : v + x * P + (d1 + d2 + ov) / BB * (P * BB) = A + d1 * P + (B + d2 * P) := by
  have := Nat.div_add_mod (d1 + d2 + ov) BB
  rw [hx]
  generalize (d1 + d2 + ov) / BB = q at *
  generalize (d1 + d2 + ov) % BB = r at *
  have e1 : q * (P * BB) = BB * q * P := by rw [Nat.mul_comm P BB, ← Nat.mul_assoc, Nat.mul_comm q BB]
  rw [e1, Nat.add_assoc, ← Nat.add_mul, Nat.add_comm r, this, Nat.add_mul, Nat.add_mul]
  omega
set_option maxRecDepth 100000 in
theorem c6_plus (l : Launch) (D : va_G) (kA : Nat → ClassId) (N0 : Nat) (M0 M : xM) (g to n t : Nat) (B : Int32 × Int32 × Int32 × Int32) (N : Nat → Nat) (hm : MN kA M0 M g B N) (hto : to < 30) (hn : n < 30) (ht : t < 30) (hlt : N n + N t < BB ^ 10) : cV l yX6_plus wsX6_plus (xR 1) [.ref g, .int (nI to), .int (nI n), .int (nI t)] D kA N0 M (fun M1 => MN kA M0 M1 g B (un N to (N n + N t))) := by
  obtain ⟨us, E0, hob, hF, hnf, hst⟩ := hm.op
  refine r_mV (cc := cX6_plus) (maxL := 9) (by decide) rfl (Nat.le_of_ble_eq_true rfl) ?_
  intro p e s m below meth c ls A0 Qp C hM hnm hl hend
  obtain ⟨hx, hb, hml, hown, hts, hr, hlocks, hK, hN⟩ := _root_.id C
  have hS : va_S (xA N0) s.heap s.heap [] := va_S.rf
  have hl : lv_has ls 9 [(0, .ref g), (1, .int (nI to)), (2, .int (nI n)), (3, .int (nI t))] := hl
  refine lv_lconst (v := 0) hx hb dX6_plus_0 (by decide) ?_
  refine lv_lstore (lv' := [(4, .long 0), (0, .ref g), (1, .int (nI to)), (2, .int (nI n)), (3, .int (nI t))]) hx hb dX6_plus_1 hl (by decide) rfl (fun ls hl => ?_)
  refine lv_iconst (v := nI 0) hx hb dX6_plus_3 (by decide) ?_
  refine lv_istore (lv' := [(6, .int (nI 0)), (4, .long 0), (0, .ref g), (1, .int (nI to)), (2, .int (nI n)), (3, .int (nI t))]) hx hb dX6_plus_4 hl (by decide) rfl (fun ls hl => ?_)
  have hM : xW D vwCl N0 (xset M (g + 3) (xI (kA 0) 300 E0)) s.heap := by rw [xset_id hF]; exact hM
  have lp : ∀ (k i v ov : Nat) (cy : Int64) (F : Nat → Int32) (H : Heap) (locs : List Loc) (ls : Array Slot), i + k = 10 → Lp E0 F to i v → v + ov * BB ^ i = Vw E0 (10 * n) i + Vw E0 (10 * t) i → cy.toInt = ov → ov ≤ 1 → xW D vwCl N0 (xset M (g + 3) (xI (kA 0) 300 F)) H → va_S (xA N0) s.heap H locs → lv_has ls 9 [(6, .int (nI i)), (4, .long cy), (0, .ref g), (1, .int (nI to)), (2, .int (nI n)), (3, .int (nI t))] → W p l e (xR 1) s m A0 below meth c H locs 0 0 Qp (F0 m 6 ls []) := by
    intro k
    induction k with
    | zero =>
      intro i v ov cy F H locs ls hik hL hI hcy hov hM hS hl
      refine lv_iload hx hb dX6_plus_6 (lv_at hl 0 rfl) ?_
      refine lv_bipush (v := nI 10) hx hb dX6_plus_8 (by decide) ?_
      refine r_icmp_geN (tgt := 62) C (by omega) (by omega) dX6_plus_10 (by decide) (fun hc => ?_) (fun hc => ?_)
      · have hi10 : i = 10 := by omega
        subst hi10
        rw [hnf.2 n hn, hnf.2 t ht] at hI
        have hov0 : ov = 0 := by
          rcases Nat.eq_zero_or_pos ov with q | q
          · exact q
          · have : ov = 1 := by omega
            rw [this, Nat.one_mul] at hI
            omega
        rw [hov0, Nat.zero_mul, Nat.add_zero] at hI
        rw [hI] at hL
        exact hend _ _ _ _ _ hM hS (hst _ _ (hL.fin hnf hto)) dX6_plus_62
      · omega
    | succ k ih =>
      intro i v ov cy F H locs ls hik hL hI hcy hov hM hS hl
      have hob1 : xset M (g + 3) (xI (kA 0) 300 F) g = some (oMd g B us) := by rw [xset_n (by omega)]; exact hob
      refine lv_iload hx hb dX6_plus_6 (lv_at hl 0 rfl) ?_
      refine lv_bipush (v := nI 10) hx hb dX6_plus_8 (by decide) ?_
      refine r_icmp_geN (tgt := 62) C (by omega) (by omega) dX6_plus_10 (by decide) (fun hc => ?_) (fun hc => ?_)
      · omega
      · refine lv_aload_n hx hb dX6_plus_13 rfl (lv_at hl 2 rfl) ?_
        refine lv_iload_n hx hb dX6_plus_14 rfl (lv_at hl 4 rfl) ?_
        refine lv_iload hx hb dX6_plus_15 (lv_at hl 0 rfl) ?_
        refine r_Vi (As := [.int (nI n), .int (nI i)]) (rest := []) C hM hS (c6_get l D kA N0 (xset M (g + 3) (xI (kA 0) 300 F)) g n i B us F hob1 xset_s hn (by omega)) (hob1) rfl gX6_plus_X6_get rfl rfl rfl ⟨rfl, by decide +kernel, by decide +kernel, (by decide +kernel : (parseMethodDescriptor yX6_get.desc).map (fun d => d.parameters.length) = some 2)⟩ ⟨Nat.le_of_ble_eq_true rfl, Nat.le_of_ble_eq_true rfl⟩ hl.1 rfl (Nat.le_of_ble_eq_true rfl) dX6_plus_17 ⟨Nat.le_of_ble_eq_true rfl, Nat.le_of_ble_eq_true rfl⟩ (fun x1 M1 H locs hp hM hS => ?_)
        obtain ⟨ex1, eM⟩ := hp
        rw [eM] at hM
        rw [hL.rd (Nat.le_refl i) (by omega)] at ex1
        refine lv_i2l (v := x1.toInt64) hx hb dX6_plus_20 rfl ?_
        refine lv_aload_n hx hb dX6_plus_21 rfl (lv_at hl 2 rfl) ?_
        refine lv_iload_n hx hb dX6_plus_22 rfl (lv_at hl 5 rfl) ?_
        refine lv_iload hx hb dX6_plus_23 (lv_at hl 0 rfl) ?_
        refine r_Vi (As := [.int (nI t), .int (nI i)]) (rest := [.long x1.toInt64]) C hM hS (c6_get l D kA N0 (xset M (g + 3) (xI (kA 0) 300 F)) g t i B us F hob1 xset_s ht (by omega)) (hob1) rfl gX6_plus_X6_get rfl rfl rfl ⟨rfl, by decide +kernel, by decide +kernel, (by decide +kernel : (parseMethodDescriptor yX6_get.desc).map (fun d => d.parameters.length) = some 2)⟩ ⟨Nat.le_of_ble_eq_true rfl, Nat.le_of_ble_eq_true rfl⟩ hl.1 rfl (Nat.le_of_ble_eq_true rfl) dX6_plus_25 ⟨Nat.le_of_ble_eq_true rfl, Nat.le_of_ble_eq_true rfl⟩ (fun x2 M1 H locs hp hM hS => ?_)
        obtain ⟨ex2, eM2⟩ := hp
        rw [eM2] at hM
        rw [hL.rd (Nat.le_refl i) (by omega)] at ex2
        have z1 := hnf.nn9 (i := i) hn (by omega)
        have z2 := hnf.nn9 (i := i) ht (by omega)
        have y1 := dg_int z1
        have y2 := dg_int z2
        have l1 := dg_lt (E0 (10 * n + i))
        have l2 := dg_lt (E0 (10 * t + i))
        have hB : BB = 2147483648 := rfl
        refine lv_i2l (v := x2.toInt64) hx hb dX6_plus_28 rfl ?_
        refine lv_ladd hx hb dX6_plus_29 ?_
        refine lv_lload hx hb dX6_plus_30 (lv_at hl 1 rfl) ?_
        refine lv_ladd hx hb dX6_plus_32 ?_
        refine lv_topl (fun v_1 ev_1 => ?_)
        refine lv_lstore (lv' := [(7, .long v_1), (6, .int (nI i)), (4, .long cy), (0, .ref g), (1, .int (nI to)), (2, .int (nI n)), (3, .int (nI t))]) hx hb dX6_plus_33 hl (by decide) rfl (fun ls hl => ?_)
        refine lv_aload_n hx hb dX6_plus_35 rfl (lv_at hl 3 rfl) ?_
        refine lv_iload_n hx hb dX6_plus_36 rfl (lv_at hl 4 rfl) ?_
        refine lv_iload hx hb dX6_plus_37 (lv_at hl 1 rfl) ?_
        refine lv_lload hx hb dX6_plus_39 (lv_at hl 0 rfl) ?_
        refine lv_ldc2 (v := 2147483647) hx hb hown (hts (.constantLong RX6 75 (2147483647)) (by decide +kernel)) dX6_plus_41 ?_
        refine lv_land hx hb dX6_plus_44 ?_
        refine lv_l2i (v := (v_1 &&& 2147483647).toInt32) hx hb dX6_plus_45 rfl ?_
        have hT : v_1.toInt = ((dg (E0 (10 * n + i)) + dg (E0 (10 * t + i)) + ov : Nat) : Int) := by
          rw [ev_1, ex1, ex2]
          have h3 : ((E0 (10 * n + i)).toInt64 + (E0 (10 * t + i)).toInt64).toInt = (E0 (10 * n + i)).toInt + (E0 (10 * t + i)).toInt := l_add (l_i2l rfl) (l_i2l rfl) (by omega) (by omega)
          rw [l_add h3 hcy (by omega) (by omega)]
          omega
        have ho := cmb_o v_1
        have hcr := cmb_c v_1
        rw [hT] at ho hcr
        have hx0 : 0 ≤ ((v_1 &&& 2147483647).toInt32).toInt := by rw [ho]; omega
        have hdx : dg ((v_1 &&& 2147483647).toInt32) = (dg (E0 (10 * n + i)) + dg (E0 (10 * t + i)) + ov) % BB := by
          have h9 : (dg ((v_1 &&& 2147483647).toInt32) : Int) = ((dg (E0 (10 * n + i)) + dg (E0 (10 * t + i)) + ov : Nat) : Int) % 2147483648 := by rw [dg_int hx0, ho]
          rw [hB]
          omega
        refine r_Vv (As := [.int (nI to), .int (nI i), .int ((v_1 &&& 2147483647).toInt32)]) (rest := []) C hM hS (c6_set l D kA N0 (xset M (g + 3) (xI (kA 0) 300 F)) g to i ((v_1 &&& 2147483647).toInt32) B us F hob1 xset_s hto (by omega)) (hob1) rfl gX6_plus_X6_set rfl rfl rfl ⟨rfl, by decide +kernel, by decide +kernel, (by decide +kernel : (parseMethodDescriptor yX6_set.desc).map (fun d => d.parameters.length) = some 3)⟩ ⟨Nat.le_of_ble_eq_true rfl, Nat.le_of_ble_eq_true rfl⟩ hl.1 rfl (Nat.le_of_ble_eq_true rfl) dX6_plus_46 ⟨Nat.le_of_ble_eq_true rfl, Nat.le_of_ble_eq_true rfl⟩ (fun M1 H locs hp hM hS => ?_)
        rw [hp, xset_xset] at hM
        refine lv_lload hx hb dX6_plus_49 (lv_at hl 0 rfl) ?_
        refine lv_bipush (v := nI 31) hx hb dX6_plus_51 (by decide) ?_
        refine lv_lshr (v := v_1 >>> ((nI 31).toInt64 &&& 63)) hx hb dX6_plus_53 rfl ?_
        refine lv_topl (fun v_2 ev_2 => ?_)
        refine lv_lstore (lv' := [(4, .long v_2), (7, .long v_1), (6, .int (nI i)), (0, .ref g), (1, .int (nI to)), (2, .int (nI n)), (3, .int (nI t))]) hx hb dX6_plus_54 hl (by decide) rfl (fun ls hl => ?_)
        refine lv_iinc (v := nI (i + 1)) (lv' := [(6, .int (nI (i + 1))), (4, .long v_2), (7, .long v_1), (0, .ref g), (1, .int (nI to)), (2, .int (nI n)), (3, .int (nI t))]) hx hb dX6_plus_56 hl (k := 2) rfl (r_inc _) (by decide) rfl (fun ls hl => ?_)
        refine lv_goto (tgt := 6) hx hb dX6_plus_59 (by decide) ?_
        refine ih (i + 1) _ ((dg (E0 (10 * n + i)) + dg (E0 (10 * t + i)) + ov) / BB) v_2 _ H locs ls (by omega) (hL.s hx0 rfl) ?_ ?_ ?_ hM hS (lv_sub hl [0, 1, 3, 4, 5, 6] rfl)
        · rw [Vw_s, Vw_s, Nat.pow_succ]
          exact pl_st hI hdx
        · rw [ev_2, hcr, hB]
          omega
        · rw [hB]
          omega
  exact lp 10 0 0 0 0 E0 _ _ _ rfl (Lp.ini E0 to) rfl (by decide) (by omega) hM hS (lv_sub hl [0, 1, 2, 3, 4, 5] rfl)
set_option maxRecDepth 100000 in
theorem c6_minus (l : Launch) (D : va_G) (kA : Nat → ClassId) (N0 : Nat) (M0 M : xM) (g to n t : Nat) (B : Int32 × Int32 × Int32 × Int32) (N : Nat → Nat) (hm : MN kA M0 M g B N) (hto : to < 30) (hn : n < 30) (ht : t < 30) (hle : N t ≤ N n) : cV l yX6_minus wsX6_minus (xR 1) [.ref g, .int (nI to), .int (nI n), .int (nI t)] D kA N0 M (fun M1 => MN kA M0 M1 g B (un N to (N n - N t))) := by
  obtain ⟨us, E0, hob, hF, hnf, hst⟩ := hm.op
  refine r_mV (cc := cX6_minus) (maxL := 9) (by decide) rfl (Nat.le_of_ble_eq_true rfl) ?_
  intro p e s m below meth c ls A0 Qp C hM hnm hl hend
  obtain ⟨hx, hb, hml, hown, hts, hr, hlocks, hK, hN⟩ := _root_.id C
  have hS : va_S (xA N0) s.heap s.heap [] := va_S.rf
  have hl : lv_has ls 9 [(0, .ref g), (1, .int (nI to)), (2, .int (nI n)), (3, .int (nI t))] := hl
  refine lv_lconst (v := 0) hx hb dX6_minus_0 (by decide) ?_
  refine lv_lstore (lv' := [(4, .long 0), (0, .ref g), (1, .int (nI to)), (2, .int (nI n)), (3, .int (nI t))]) hx hb dX6_minus_1 hl (by decide) rfl (fun ls hl => ?_)
  refine lv_iconst (v := nI 0) hx hb dX6_minus_3 (by decide) ?_
  refine lv_istore (lv' := [(6, .int (nI 0)), (4, .long 0), (0, .ref g), (1, .int (nI to)), (2, .int (nI n)), (3, .int (nI t))]) hx hb dX6_minus_4 hl (by decide) rfl (fun ls hl => ?_)
  have hM : xW D vwCl N0 (xset M (g + 3) (xI (kA 0) 300 E0)) s.heap := by rw [xset_id hF]; exact hM
  have lp : ∀ (k i v ov : Nat) (cy : Int64) (F : Nat → Int32) (H : Heap) (locs : List Loc) (ls : Array Slot), i + k = 10 → Lp E0 F to i v → v + Vw E0 (10 * t) i = Vw E0 (10 * n) i + ov * BB ^ i → cy.toInt = ov → ov ≤ 1 → xW D vwCl N0 (xset M (g + 3) (xI (kA 0) 300 F)) H → va_S (xA N0) s.heap H locs → lv_has ls 9 [(6, .int (nI i)), (4, .long cy), (0, .ref g), (1, .int (nI to)), (2, .int (nI n)), (3, .int (nI t))] → W p l e (xR 1) s m A0 below meth c H locs 0 0 Qp (F0 m 6 ls []) := by
    intro k
    induction k with
    | zero =>
      intro i v ov cy F H locs ls hik hL hI hcy hov hM hS hl
      refine lv_iload hx hb dX6_minus_6 (lv_at hl 0 rfl) ?_
      refine lv_bipush (v := nI 10) hx hb dX6_minus_8 (by decide) ?_
      refine r_icmp_geN (tgt := 81) C (by omega) (by omega) dX6_minus_10 (by decide) (fun hc => ?_) (fun hc => ?_)
      · have hi10 : i = 10 := by omega
        subst hi10
        rw [hnf.2 n hn, hnf.2 t ht] at hI
        have hvl : v < BB ^ 10 := by rw [← hL.2.2]; exact Vw_lt F _ 10
        have hov0 : ov = 0 := by
          rcases Nat.eq_zero_or_pos ov with q | q
          · exact q
          · have : ov = 1 := by omega
            rw [this, Nat.one_mul] at hI
            omega
        rw [hov0, Nat.zero_mul, Nat.add_zero] at hI
        rw [show v = N n - N t by omega] at hL
        exact hend _ _ _ _ _ hM hS (hst _ _ (hL.fin hnf hto)) dX6_minus_81
      · omega
    | succ k ih =>
      intro i v ov cy F H locs ls hik hL hI hcy hov hM hS hl
      have hob1 : xset M (g + 3) (xI (kA 0) 300 F) g = some (oMd g B us) := by rw [xset_n (by omega)]; exact hob
      refine lv_iload hx hb dX6_minus_6 (lv_at hl 0 rfl) ?_
      refine lv_bipush (v := nI 10) hx hb dX6_minus_8 (by decide) ?_
      refine r_icmp_geN (tgt := 81) C (by omega) (by omega) dX6_minus_10 (by decide) (fun hc => ?_) (fun hc => ?_)
      · omega
      · refine lv_aload_n hx hb dX6_minus_13 rfl (lv_at hl 2 rfl) ?_
        refine lv_iload_n hx hb dX6_minus_14 rfl (lv_at hl 4 rfl) ?_
        refine lv_iload hx hb dX6_minus_15 (lv_at hl 0 rfl) ?_
        refine r_Vi (As := [.int (nI n), .int (nI i)]) (rest := []) C hM hS (c6_get l D kA N0 (xset M (g + 3) (xI (kA 0) 300 F)) g n i B us F hob1 xset_s hn (by omega)) (hob1) rfl gX6_minus_X6_get rfl rfl rfl ⟨rfl, by decide +kernel, by decide +kernel, (by decide +kernel : (parseMethodDescriptor yX6_get.desc).map (fun d => d.parameters.length) = some 2)⟩ ⟨Nat.le_of_ble_eq_true rfl, Nat.le_of_ble_eq_true rfl⟩ hl.1 rfl (Nat.le_of_ble_eq_true rfl) dX6_minus_17 ⟨Nat.le_of_ble_eq_true rfl, Nat.le_of_ble_eq_true rfl⟩ (fun x1 M1 H locs hp hM hS => ?_)
        obtain ⟨ex1, eM⟩ := hp
        rw [eM] at hM
        rw [hL.rd (Nat.le_refl i) (by omega)] at ex1
        refine lv_i2l (v := x1.toInt64) hx hb dX6_minus_20 rfl ?_
        refine lv_aload_n hx hb dX6_minus_21 rfl (lv_at hl 2 rfl) ?_
        refine lv_iload_n hx hb dX6_minus_22 rfl (lv_at hl 5 rfl) ?_
        refine lv_iload hx hb dX6_minus_23 (lv_at hl 0 rfl) ?_
        refine r_Vi (As := [.int (nI t), .int (nI i)]) (rest := [.long x1.toInt64]) C hM hS (c6_get l D kA N0 (xset M (g + 3) (xI (kA 0) 300 F)) g t i B us F hob1 xset_s ht (by omega)) (hob1) rfl gX6_minus_X6_get rfl rfl rfl ⟨rfl, by decide +kernel, by decide +kernel, (by decide +kernel : (parseMethodDescriptor yX6_get.desc).map (fun d => d.parameters.length) = some 2)⟩ ⟨Nat.le_of_ble_eq_true rfl, Nat.le_of_ble_eq_true rfl⟩ hl.1 rfl (Nat.le_of_ble_eq_true rfl) dX6_minus_25 ⟨Nat.le_of_ble_eq_true rfl, Nat.le_of_ble_eq_true rfl⟩ (fun x2 M1 H locs hp hM hS => ?_)
        obtain ⟨ex2, eM2⟩ := hp
        rw [eM2] at hM
        rw [hL.rd (Nat.le_refl i) (by omega)] at ex2
        have z1 := hnf.nn9 (i := i) hn (by omega)
        have z2 := hnf.nn9 (i := i) ht (by omega)
        have y1 := dg_int z1
        have y2 := dg_int z2
        have l1 := dg_lt (E0 (10 * n + i))
        have l2 := dg_lt (E0 (10 * t + i))
        have hB : BB = 2147483648 := rfl
        refine lv_i2l (v := x2.toInt64) hx hb dX6_minus_28 rfl ?_
        refine lv_lsub hx hb dX6_minus_29 ?_
        refine lv_lload hx hb dX6_minus_30 (lv_at hl 1 rfl) ?_
        refine lv_lsub hx hb dX6_minus_32 ?_
        refine lv_topl (fun v_1 ev_1 => ?_)
        refine lv_lstore (lv' := [(7, .long v_1), (6, .int (nI i)), (4, .long cy), (0, .ref g), (1, .int (nI to)), (2, .int (nI n)), (3, .int (nI t))]) hx hb dX6_minus_33 hl (by decide) rfl (fun ls hl => ?_)
        have hT : v_1.toInt = (dg (E0 (10 * n + i)) : Int) - dg (E0 (10 * t + i)) - ov := by
          rw [ev_1, ex1, ex2]
          have h3 : ((E0 (10 * n + i)).toInt64 - (E0 (10 * t + i)).toInt64).toInt = (E0 (10 * n + i)).toInt - (E0 (10 * t + i)).toInt := l_sub (l_i2l rfl) (l_i2l rfl) (by omega) (by omega)
          rw [l_sub h3 hcy (by omega) (by omega)]
          omega
        have hz : (0 : Int64).toInt = 0 := by decide
        refine lv_lload hx hb dX6_minus_35 (lv_at hl 0 rfl) ?_
        refine lv_lconst (v := 0) hx hb dX6_minus_37 (by decide) ?_
        refine W.lcmp hx hb dX6_minus_38 ?_
        refine lv_if_ge (tgt := 46) hx hb dX6_minus_39 (by decide) (fun hd => ?_) (fun hd => ?_)
        · rw [lcge, hz] at hd
          refine lv_lconst (v := 0) hx hb dX6_minus_46 (by decide) ?_
          refine lv_lstore (lv' := [(4, .long 0), (7, .long v_1), (6, .int (nI i)), (0, .ref g), (1, .int (nI to)), (2, .int (nI n)), (3, .int (nI t))]) hx hb dX6_minus_47 hl (by decide) rfl (fun ls hl => ?_)
          refine lv_aload_n hx hb dX6_minus_49 rfl (lv_at hl 3 rfl) ?_
          refine lv_iload_n hx hb dX6_minus_50 rfl (lv_at hl 4 rfl) ?_
          refine lv_iload hx hb dX6_minus_51 (lv_at hl 2 rfl) ?_
          refine lv_lload hx hb dX6_minus_53 (lv_at hl 1 rfl) ?_
          refine lv_lconst (v := 0) hx hb dX6_minus_55 (by decide) ?_
          refine W.lcmp hx hb dX6_minus_56 ?_
          refine lv_if_ge (tgt := 69) hx hb dX6_minus_57 (by decide) (fun hd2 => ?_) (fun hd2 => ?_)
          · refine lv_lload hx hb dX6_minus_69 (lv_at hl 1 rfl) ?_
            refine lv_l2i (v := v_1.toInt32) hx hb dX6_minus_71 rfl ?_
            have hx0 : ((v_1).toInt32).toInt = v_1.toInt := l_l2i rfl (by omega) (by omega)
            have hdx : dg (v_1.toInt32) + dg (E0 (10 * t + i)) + ov = dg (E0 (10 * n + i)) := by
              have : (dg (v_1.toInt32) : Int) = v_1.toInt := by rw [dg_int (by omega)]; exact hx0
              omega
            refine r_Vv (As := [.int (nI to), .int (nI i), .int v_1.toInt32]) (rest := []) C hM hS (c6_set l D kA N0 (xset M (g + 3) (xI (kA 0) 300 F)) g to i (v_1.toInt32) B us F hob1 xset_s hto (by omega)) (hob1) rfl gX6_minus_X6_set rfl rfl rfl ⟨rfl, by decide +kernel, by decide +kernel, (by decide +kernel : (parseMethodDescriptor yX6_set.desc).map (fun d => d.parameters.length) = some 3)⟩ ⟨Nat.le_of_ble_eq_true rfl, Nat.le_of_ble_eq_true rfl⟩ hl.1 rfl (Nat.le_of_ble_eq_true rfl) dX6_minus_72 ⟨Nat.le_of_ble_eq_true rfl, Nat.le_of_ble_eq_true rfl⟩ (fun M1 H locs hp hM hS => ?_)
            rw [hp, xset_xset] at hM
            refine lv_iinc (v := nI (i + 1)) (lv' := [(6, .int (nI (i + 1))), (4, .long 0), (7, .long v_1), (0, .ref g), (1, .int (nI to)), (2, .int (nI n)), (3, .int (nI t))]) hx hb dX6_minus_75 hl (k := 2) rfl (r_inc _) (by decide) rfl (fun ls hl => ?_)
            refine lv_goto (tgt := 6) hx hb dX6_minus_78 (by decide) ?_
            refine ih (i + 1) _ 0 0 _ H locs ls (by omega) (hL.s (by omega) rfl) ?_ (by decide) (by omega) hM hS (lv_sub hl [0, 1, 3, 4, 5, 6] rfl)
            rw [Vw_s, Vw_s, ← hdx, Nat.add_mul, Nat.add_mul]
            omega
          · rw [lcge, hz] at hd2
            omega
        · rw [lcge, hz] at hd
          refine lv_lconst (v := 1) hx hb dX6_minus_42 (by decide) ?_
          refine lv_goto (tgt := 47) hx hb dX6_minus_43 (by decide) ?_
          refine lv_lstore (lv' := [(4, .long 1), (7, .long v_1), (6, .int (nI i)), (0, .ref g), (1, .int (nI to)), (2, .int (nI n)), (3, .int (nI t))]) hx hb dX6_minus_47 hl (by decide) rfl (fun ls hl => ?_)
          refine lv_aload_n hx hb dX6_minus_49 rfl (lv_at hl 3 rfl) ?_
          refine lv_iload_n hx hb dX6_minus_50 rfl (lv_at hl 4 rfl) ?_
          refine lv_iload hx hb dX6_minus_51 (lv_at hl 2 rfl) ?_
          refine lv_lload hx hb dX6_minus_53 (lv_at hl 1 rfl) ?_
          refine lv_lconst (v := 0) hx hb dX6_minus_55 (by decide) ?_
          refine W.lcmp hx hb dX6_minus_56 ?_
          refine lv_if_ge (tgt := 69) hx hb dX6_minus_57 (by decide) (fun hd2 => ?_) (fun hd2 => ?_)
          · rw [lcge, hz] at hd2
            omega
          · refine lv_lload hx hb dX6_minus_60 (lv_at hl 1 rfl) ?_
            refine lv_ldc2 (v := 2147483648) hx hb hown (hts (.constantLong RX6 77 (2147483648)) (by decide +kernel)) dX6_minus_62 ?_
            refine lv_ladd hx hb dX6_minus_65 ?_
            refine lv_goto (tgt := 71) hx hb dX6_minus_66 (by decide) ?_
            refine lv_topl (fun w9 ew9 => ?_)
            have hw9 : w9.toInt = v_1.toInt + 2147483648 := by rw [ew9]; exact hs2x v_1 (by omega) (by omega)
            clear ew9
            refine lv_l2i (v := w9.toInt32) hx hb dX6_minus_71 rfl ?_
            have hx0 : (w9.toInt32).toInt = v_1.toInt + 2147483648 := l_l2i hw9 (by omega) (by omega)
            have hdx : dg (w9.toInt32) + dg (E0 (10 * t + i)) + ov = dg (E0 (10 * n + i)) + BB := by
              have : (dg (w9.toInt32) : Int) = v_1.toInt + 2147483648 := by rw [dg_int (by omega)]; exact hx0
              omega
            refine r_Vv (As := [.int (nI to), .int (nI i), .int w9.toInt32]) (rest := []) C hM hS (c6_set l D kA N0 (xset M (g + 3) (xI (kA 0) 300 F)) g to i (w9.toInt32) B us F hob1 xset_s hto (by omega)) (hob1) rfl gX6_minus_X6_set rfl rfl rfl ⟨rfl, by decide +kernel, by decide +kernel, (by decide +kernel : (parseMethodDescriptor yX6_set.desc).map (fun d => d.parameters.length) = some 3)⟩ ⟨Nat.le_of_ble_eq_true rfl, Nat.le_of_ble_eq_true rfl⟩ hl.1 rfl (Nat.le_of_ble_eq_true rfl) dX6_minus_72 ⟨Nat.le_of_ble_eq_true rfl, Nat.le_of_ble_eq_true rfl⟩ (fun M1 H locs hp hM hS => ?_)
            rw [hp, xset_xset] at hM
            refine lv_iinc (v := nI (i + 1)) (lv' := [(6, .int (nI (i + 1))), (4, .long 1), (7, .long v_1), (0, .ref g), (1, .int (nI to)), (2, .int (nI n)), (3, .int (nI t))]) hx hb dX6_minus_75 hl (k := 2) rfl (r_inc _) (by decide) rfl (fun ls hl => ?_)
            refine lv_goto (tgt := 6) hx hb dX6_minus_78 (by decide) ?_
            refine ih (i + 1) _ 1 1 _ H locs ls (by omega) (hL.s (by omega) rfl) ?_ (by decide) (by omega) hM hS (lv_sub hl [0, 1, 3, 4, 5, 6] rfl)
            have h9 : (dg (w9.toInt32) + dg (E0 (10 * t + i)) + ov) * BB ^ i = (dg (E0 (10 * n + i)) + BB) * BB ^ i := by rw [hdx]
            rw [Vw_s, Vw_s, Nat.pow_succ, Nat.one_mul, Nat.mul_comm (BB ^ i) BB]
            rw [Nat.add_mul, Nat.add_mul, Nat.add_mul] at h9
            omega
  exact lp 10 0 0 0 0 E0 _ _ _ rfl (Lp.ini E0 to) rfl (by decide) (by omega) hM hS (lv_sub hl [0, 1, 2, 3, 4, 5] rfl)
theorem ior_n {a b : Nat} (ha : a < 2 ^ 32) (hb : b < 2 ^ 32) : nI a ||| nI b = nI (a ||| b) := by
  apply Int32.toBitVec_inj.mp
  apply BitVec.eq_of_toNat_eq
  rw [Int32.toBitVec_or, BitVec.toNat_or, pk_tn ha, pk_tn hb, pk_tn (Nat.or_lt_two_pow ha hb)]
theorem or_add {a b k : Nat} (ha : a < 2 ^ k) : a ||| (b * 2 ^ k) = a + b * 2 ^ k := by
  have := Nat.two_pow_add_eq_or_of_lt ha b
  rw [Nat.mul_comm (2 ^ k) b] at this
  rw [Nat.or_comm, ← this, Nat.add_comm]
theorem ior_add {a b k : Nat} (ha : a < 2 ^ k) (hb : a + b * 2 ^ k < 2 ^ 31) : nI a ||| nI (b * 2 ^ k) = nI (a + b * 2 ^ k) := by
  rw [ior_n (by omega) (by omega), or_add ha]
theorem hv_st {A P v d0 d d1 x : Nat} (h : 2 * v + d0 = A + d % 2 * P) (hx : x = d / 2 + d1 * 1073741824) : 2 * (v + x * P) + d0 = A + d * P + d1 * (P * BB) := by
  have e1 : d1 * (P * BB) = 2 * (d1 * 1073741824 * P) := by
    have hB : BB = 2 * 1073741824 := rfl
    rw [hB]
    grind
  have e2 : d * P = 2 * (d / 2 * P) + d % 2 * P := by
    have := Nat.div_add_mod d 2
    rw [← Nat.mul_assoc, ← Nat.add_mul, this]
  rw [hx, Nat.add_mul, e1, e2]
  omega
set_option maxRecDepth 100000 in
theorem c6_halve (l : Launch) (D : va_G) (kA : Nat → ClassId) (N0 : Nat) (M0 M : xM) (g n : Nat) (B : Int32 × Int32 × Int32 × Int32) (N : Nat → Nat) (hm : MN kA M0 M g B N) (hn : n < 30) : cV l yX6_halve wsX6_halve (xR 1) [.ref g, .int (nI n)] D kA N0 M (fun M1 => MN kA M0 M1 g B (un N n (N n / 2))) := by
  obtain ⟨us, E0, hob, hF, hnf, hst⟩ := hm.op
  have ho := hnf.odd hn
  obtain ⟨dn, hdn⟩ : ∃ dn : Nat → Nat, dn = fun i => if i < 10 then dg (E0 (10 * n + i)) else 0 := ⟨_, rfl⟩
  have hdi : ∀ i, i < 10 → dn i = dg (E0 (10 * n + i)) := fun i hi => by rw [hdn]; simp [hi]
  have hd10 : dn 10 = 0 := by rw [hdn]; rfl
  have hB : BB = 2147483648 := rfl
  have hdl : ∀ i, i < 10 → dn i < 2147483648 := fun i hi => by rw [hdi i hi]; exact dg_lt _
  refine r_mV (cc := cX6_halve) (maxL := 4) (by decide) rfl (Nat.le_of_ble_eq_true rfl) ?_
  intro p e s m below meth c ls A0 Qp C hM hnm hl hend
  obtain ⟨hx, hb, hml, hown, hts, hr, hlocks, hK, hN⟩ := _root_.id C
  have hS : va_S (xA N0) s.heap s.heap [] := va_S.rf
  have hl : lv_has ls 4 [(0, .ref g), (1, .int (nI n))] := hl
  refine lv_iconst (v := nI 0) hx hb dX6_halve_0 (by decide) ?_
  refine lv_istore_n (lv' := [(2, .int (nI 0)), (0, .ref g), (1, .int (nI n))]) hx hb dX6_halve_1 rfl hl (by decide) rfl (fun ls hl => ?_)
  have hM : xW D vwCl N0 (xset M (g + 3) (xI (kA 0) 300 E0)) s.heap := by rw [xset_id hF]; exact hM
  have lp : ∀ (k i v : Nat) (F : Nat → Int32) (H : Heap) (locs : List Loc) (ls : Array Slot), i + k = 10 → Lp E0 F n i v → 2 * v + dn 0 % 2 = Vw E0 (10 * n) i + dn i % 2 * BB ^ i → xW D vwCl N0 (xset M (g + 3) (xI (kA 0) 300 F)) H → va_S (xA N0) s.heap H locs → lv_has ls 4 [(2, .int (nI i)), (0, .ref g), (1, .int (nI n))] → W p l e (xR 1) s m A0 below meth c H locs 0 0 Qp (F0 m 2 ls []) := by
    intro k
    induction k with
    | zero =>
      intro i v F H locs ls hik hL hI hM hS hl
      refine lv_iload_n hx hb dX6_halve_2 rfl (lv_at hl 0 rfl) ?_
      refine lv_bipush (v := nI 10) hx hb dX6_halve_3 (by decide) ?_
      refine r_icmp_geN (tgt := 54) C (by omega) (by omega) dX6_halve_5 (by decide) (fun hc => ?_) (fun hc => ?_)
      · have hi10 : i = 10 := by omega
        subst hi10
        rw [hnf.2 n hn, hd10] at hI
        have hd0 : dn 0 % 2 = N n % 2 := by rw [hdi 0 (by omega), ho]; rfl
        rw [show v = N n / 2 by omega] at hL
        exact hend _ _ _ _ _ hM hS (hst _ _ (hL.fin hnf hn)) dX6_halve_54
      · omega
    | succ k ih =>
      intro i v F H locs ls hik hL hI hM hS hl
      have hob1 : xset M (g + 3) (xI (kA 0) 300 F) g = some (oMd g B us) := by rw [xset_n (by omega)]; exact hob
      have hh : ∀ (H : Heap) (locs : List Loc) (ls : Array Slot), xW D vwCl N0 (xset M (g + 3) (xI (kA 0) 300 F)) H → va_S (xA N0) s.heap H locs → lv_has ls 4 [(3, .int (nI (dn (i + 1) % 2))), (2, .int (nI i)), (0, .ref g), (1, .int (nI n))] → W p l e (xR 1) s m A0 below meth c H locs 0 0 Qp (F0 m 29 ls []) := by
        intro H locs ls hM hS hl
        refine lv_aload_n hx hb dX6_halve_29 rfl (lv_at hl 2 rfl) ?_
        refine lv_iload_n hx hb dX6_halve_30 rfl (lv_at hl 3 rfl) ?_
        refine lv_iload_n hx hb dX6_halve_31 rfl (lv_at hl 1 rfl) ?_
        refine lv_aload_n hx hb dX6_halve_32 rfl (lv_at hl 2 rfl) ?_
        refine lv_iload_n hx hb dX6_halve_33 rfl (lv_at hl 3 rfl) ?_
        refine lv_iload_n hx hb dX6_halve_34 rfl (lv_at hl 1 rfl) ?_
        refine r_Vi (As := [.int (nI n), .int (nI i)]) (rest := [.int (nI i), .int (nI n), .ref g]) C hM hS (c6_get l D kA N0 (xset M (g + 3) (xI (kA 0) 300 F)) g n i B us F hob1 xset_s hn (by omega)) (hob1) rfl gX6_halve_X6_get rfl rfl rfl ⟨rfl, by decide +kernel, by decide +kernel, (by decide +kernel : (parseMethodDescriptor yX6_get.desc).map (fun d => d.parameters.length) = some 2)⟩ ⟨Nat.le_of_ble_eq_true rfl, Nat.le_of_ble_eq_true rfl⟩ hl.1 rfl (Nat.le_of_ble_eq_true rfl) dX6_halve_35 ⟨Nat.le_of_ble_eq_true rfl, Nat.le_of_ble_eq_true rfl⟩ (fun x1 M1 H locs hp hM hS => ?_)
        obtain ⟨ex1, eM⟩ := hp
        rw [eM] at hM
        rw [hL.rd (Nat.le_refl i) (by omega), hnf.dg9 hn (by omega), ← hdi i (by omega)] at ex1
        rw [ex1]
        have hl1 := hdl i (by omega)
        refine lv_iconst (v := nI 1) hx hb dX6_halve_38 (by decide) ?_
        refine lv_ishr hx hb dX6_halve_39 ?_
        refine r_topi C (nI (dn i / 2)) (pk_shrN (by omega) _ 1 (by decide)) ?_
        refine lv_iload_n hx hb dX6_halve_40 rfl (lv_at hl 0 rfl) ?_
        refine lv_bipush (v := nI 30) hx hb dX6_halve_41 (by decide) ?_
        refine lv_ishl hx hb dX6_halve_43 ?_
        refine r_topi C (nI (dn (i + 1) % 2 * 2 ^ 30)) (pk_shlN _ 30 (by decide) (by omega)) ?_
        refine lv_ior hx hb dX6_halve_44 ?_
        refine r_topi C (nI (dn i / 2 + dn (i + 1) % 2 * 2 ^ 30)) (ior_add (by omega) (by omega)) ?_
        refine r_Vv (As := [.int (nI n), .int (nI i), .int (nI (dn i / 2 + dn (i + 1) % 2 * 2 ^ 30))]) (rest := []) C hM hS (c6_set l D kA N0 (xset M (g + 3) (xI (kA 0) 300 F)) g n i (nI (dn i / 2 + dn (i + 1) % 2 * 2 ^ 30)) B us F hob1 xset_s hn (by omega)) (hob1) rfl gX6_halve_X6_set rfl rfl rfl ⟨rfl, by decide +kernel, by decide +kernel, (by decide +kernel : (parseMethodDescriptor yX6_set.desc).map (fun d => d.parameters.length) = some 3)⟩ ⟨Nat.le_of_ble_eq_true rfl, Nat.le_of_ble_eq_true rfl⟩ hl.1 rfl (Nat.le_of_ble_eq_true rfl) dX6_halve_45 ⟨Nat.le_of_ble_eq_true rfl, Nat.le_of_ble_eq_true rfl⟩ (fun M1 H locs hp hM hS => ?_)
        rw [hp, xset_xset] at hM
        refine lv_iinc (v := nI (i + 1)) (lv' := [(2, .int (nI (i + 1))), (3, .int (nI (dn (i + 1) % 2))), (0, .ref g), (1, .int (nI n))]) hx hb dX6_halve_48 hl (k := 1) rfl (r_inc _) (by decide) rfl (fun ls hl => ?_)
        refine lv_goto (tgt := 2) hx hb dX6_halve_51 (by decide) ?_
        refine ih (i + 1) _ _ H locs ls (by omega) (hL.s (by rw [t_nI (by omega)]; omega) rfl) ?_ hM hS (lv_sub hl [0, 2, 3] rfl)
        rw [Vw_s, Nat.pow_succ, ← hdi i (by omega), dg_nI (by omega)]
        exact hv_st hI rfl
      refine lv_iload_n hx hb dX6_halve_2 rfl (lv_at hl 0 rfl) ?_
      refine lv_bipush (v := nI 10) hx hb dX6_halve_3 (by decide) ?_
      refine r_icmp_geN (tgt := 54) C (by omega) (by omega) dX6_halve_5 (by decide) (fun hc => ?_) (fun hc => ?_)
      · omega
      · refine lv_iload_n hx hb dX6_halve_8 rfl (lv_at hl 0 rfl) ?_
        refine lv_bipush (v := nI 9) hx hb dX6_halve_9 (by decide) ?_
        refine r_icmp_geN (tgt := 27) C (by omega) (by omega) dX6_halve_11 (by decide) (fun hd => ?_) (fun hd => ?_)
        · have hi9 : i + 1 = 10 := by omega
          refine lv_iconst (v := nI 0) hx hb dX6_halve_27 (by decide) ?_
          refine lv_istore_n (lv' := [(3, .int (nI 0)), (2, .int (nI i)), (0, .ref g), (1, .int (nI n))]) hx hb dX6_halve_28 rfl hl (by decide) rfl (fun ls hl => ?_)
          refine hh H locs ls hM hS ?_
          rw [hi9, hd10]
          exact (lv_sub hl [0, 1, 2, 3] rfl)
        · refine lv_aload_n hx hb dX6_halve_14 rfl (lv_at hl 1 rfl) ?_
          refine lv_iload_n hx hb dX6_halve_15 rfl (lv_at hl 2 rfl) ?_
          refine lv_iload_n hx hb dX6_halve_16 rfl (lv_at hl 0 rfl) ?_
          refine lv_iconst (v := nI 1) hx hb dX6_halve_17 (by decide) ?_
          refine r_iaddN C dX6_halve_18 ?_
          refine r_Vi (As := [.int (nI n), .int (nI (i + 1))]) (rest := []) C hM hS (c6_get l D kA N0 (xset M (g + 3) (xI (kA 0) 300 F)) g n (i + 1) B us F hob1 xset_s hn (by omega)) (hob1) rfl gX6_halve_X6_get rfl rfl rfl ⟨rfl, by decide +kernel, by decide +kernel, (by decide +kernel : (parseMethodDescriptor yX6_get.desc).map (fun d => d.parameters.length) = some 2)⟩ ⟨Nat.le_of_ble_eq_true rfl, Nat.le_of_ble_eq_true rfl⟩ hl.1 rfl (Nat.le_of_ble_eq_true rfl) dX6_halve_19 ⟨Nat.le_of_ble_eq_true rfl, Nat.le_of_ble_eq_true rfl⟩ (fun x1 M1 H locs hp hM hS => ?_)
          obtain ⟨ex1, eM⟩ := hp
          rw [eM] at hM
          rw [hL.rd (by omega) (by omega), hnf.dg9 hn (by omega), ← hdi (i + 1) (by omega)] at ex1
          rw [ex1]
          have hl1 := hdl (i + 1) (by omega)
          refine lv_iconst (v := nI 1) hx hb dX6_halve_22 (by decide) ?_
          refine lv_iand hx hb dX6_halve_23 ?_
          refine r_topi C (nI (dn (i + 1) % 2)) (pk_andN (by omega) 1 (by decide)) ?_
          refine lv_goto (tgt := 28) hx hb dX6_halve_24 (by decide) ?_
          refine lv_istore_n (lv' := [(3, .int (nI (dn (i + 1) % 2))), (2, .int (nI i)), (0, .ref g), (1, .int (nI n))]) hx hb dX6_halve_28 rfl hl (by decide) rfl (fun ls hl => ?_)
          exact hh H locs ls hM hS (lv_sub hl [0, 1, 2, 3] rfl)
  exact lp 10 0 0 E0 _ _ _ rfl (Lp.ini E0 n) (by simp [Vw_0]) hM hS (lv_sub hl [0, 1, 2] rfl)
set_option maxRecDepth 100000 in
theorem c6_load (l : Launch) (D : va_G) (kA : Nat → ClassId) (N0 : Nat) (M0 M : xM) (g n sl fr L : Nat) (B : Int32 × Int32 × Int32 × Int32) (N : Nat → Nat) (f : Nat → Int32) (hm : MN kA M0 M g B N) (hn : n < 30) (hsl : M (g + 1) = some (xI (kA 0) 360 f)) (nf : nn f 360) (hB1 : B.1 = nI L) (hL9 : L ≤ 9) (hb9 : 18 * sl + fr + L ≤ 360) : cV l yX6_load wsX6_load (xR 1) [.ref g, .int (nI n), .int (nI sl), .int (nI fr)] D kA N0 M (fun M1 => MN kA M0 M1 g B (un N n (Vw f (18 * sl + fr) L))) := by
  obtain ⟨B1, B2⟩ := B
  have hB1 : B1 = nI L := hB1
  subst hB1
  obtain ⟨us, E0, hob, hF, hnf, hst⟩ := hm.op
  refine r_mV (cc := cX6_load) (maxL := 5) (by decide) rfl (Nat.le_of_ble_eq_true rfl) ?_
  intro p e s m below meth c ls A0 Qp C hM hnm hl hend
  obtain ⟨hx, hb, hml, hown, hts, hr, hlocks, hK, hN⟩ := _root_.id C
  have hS : va_S (xA N0) s.heap s.heap [] := va_S.rf
  have hl : lv_has ls 5 [(0, .ref g), (1, .int (nI n)), (2, .int (nI sl)), (3, .int (nI fr))] := hl
  refine lv_iconst (v := nI 0) hx hb dX6_load_0 (by decide) ?_
  refine lv_istore (lv' := [(4, .int (nI 0)), (0, .ref g), (1, .int (nI n)), (2, .int (nI sl)), (3, .int (nI fr))]) hx hb dX6_load_1 hl (by decide) rfl (fun ls hl => ?_)
  have hM : xW D vwCl N0 (xset M (g + 3) (xI (kA 0) 300 E0)) s.heap := by rw [xset_id hF]; exact hM
  have lp : ∀ (k i : Nat) (F : Nat → Int32) (H : Heap) (locs : List Loc) (ls : Array Slot), i + k = 10 → Lp E0 F n i (Vw f (18 * sl + fr) (if i < L then i else L)) → xW D vwCl N0 (xset M (g + 3) (xI (kA 0) 300 F)) H → va_S (xA N0) s.heap H locs → lv_has ls 5 [(4, .int (nI i)), (0, .ref g), (1, .int (nI n)), (2, .int (nI sl)), (3, .int (nI fr))] → W p l e (xR 1) s m A0 below meth c H locs 0 0 Qp (F0 m 3 ls []) := by
    intro k
    induction k with
    | zero =>
      intro i F H locs ls hik hL hM hS hl
      refine lv_iload hx hb dX6_load_3 (lv_at hl 0 rfl) ?_
      refine lv_bipush (v := nI 10) hx hb dX6_load_5 (by decide) ?_
      refine r_icmp_geN (tgt := 50) C (by omega) (by omega) dX6_load_7 (by decide) (fun hc => ?_) (fun hc => ?_)
      · have hi10 : i = 10 := by omega
        subst hi10
        rw [if_neg (by omega)] at hL
        exact hend _ _ _ _ _ hM hS (hst _ _ (hL.fin hnf hn)) dX6_load_50
      · omega
    | succ k ih =>
      intro i F H locs ls hik hL hM hS hl
      have hob1 : xset M (g + 3) (xI (kA 0) 300 F) g = some (oMd g (nI L, B2) us) := by rw [xset_n (by omega)]; exact hob
      have hsl1 : xset M (g + 3) (xI (kA 0) 300 F) (g + 1) = some (xI (kA 0) 360 f) := by rw [xset_n (by omega)]; exact hsl
      refine lv_iload hx hb dX6_load_3 (lv_at hl 0 rfl) ?_
      refine lv_bipush (v := nI 10) hx hb dX6_load_5 (by decide) ?_
      refine r_icmp_geN (tgt := 50) C (by omega) (by omega) dX6_load_7 (by decide) (fun hc => ?_) (fun hc => ?_)
      · omega
      · refine lv_aload_n hx hb dX6_load_10 rfl (lv_at hl 1 rfl) ?_
        refine lv_iload_n hx hb dX6_load_11 rfl (lv_at hl 2 rfl) ?_
        refine lv_iload hx hb dX6_load_12 (lv_at hl 0 rfl) ?_
        refine lv_iload hx hb dX6_load_14 (lv_at hl 0 rfl) ?_
        refine lv_aload_n hx hb dX6_load_16 rfl (lv_at hl 1 rfl) ?_
        refine x_get (v := .int (nI L)) hx hb hts in_X6_load_X6 hown hK hM (hob1) rfl 0 (by decide) (hts (.fieldLink RX6 36 "LimbCurvesModel" "limbs" "I") (by decide +kernel)) (fun _ h9 => h9) rfl dX6_load_17 ?_
        refine r_icmp_geN (tgt := 40) C (by omega) (by omega) dX6_load_20 (by decide) (fun hd => ?_) (fun hd => ?_)
        · refine lv_iconst (v := nI 0) hx hb dX6_load_40 (by decide) ?_
          refine r_Vv (As := [.int (nI n), .int (nI i), .int (nI 0)]) (rest := []) C hM hS (c6_set l D kA N0 (xset M (g + 3) (xI (kA 0) 300 F)) g n i (nI 0) (nI L, B2) us F hob1 xset_s hn (by omega)) (hob1) rfl gX6_load_X6_set rfl rfl rfl ⟨rfl, by decide +kernel, by decide +kernel, (by decide +kernel : (parseMethodDescriptor yX6_set.desc).map (fun d => d.parameters.length) = some 3)⟩ ⟨Nat.le_of_ble_eq_true rfl, Nat.le_of_ble_eq_true rfl⟩ hl.1 rfl (Nat.le_of_ble_eq_true rfl) dX6_load_41 ⟨Nat.le_of_ble_eq_true rfl, Nat.le_of_ble_eq_true rfl⟩ (fun M1 H locs hp hM hS => ?_)
          rw [hp, xset_xset] at hM
          refine lv_iinc (v := nI (i + 1)) (lv' := [(4, .int (nI (i + 1))), (0, .ref g), (1, .int (nI n)), (2, .int (nI sl)), (3, .int (nI fr))]) hx hb dX6_load_44 hl (k := 0) rfl (r_inc _) (by decide) rfl (fun ls hl => ?_)
          refine lv_goto (tgt := 3) hx hb dX6_load_47 (by decide) ?_
          refine ih (i + 1) _ H locs ls (by omega) (hL.s (by decide) ?_) hM hS (lv_sub hl [0, 1, 2, 3, 4] rfl)
          rw [if_neg (by omega), if_neg (by omega), dg_nI (by omega), Nat.zero_mul, Nat.add_zero]
        · refine lv_aload_n hx hb dX6_load_23 rfl (lv_at hl 1 rfl) ?_
          refine x_get (v := .ref (g + 1)) hx hb hts in_X6_load_X6 hown hK hM (hob1) rfl 1 (by decide) (hts (.fieldLink RX6 7 "LimbCurvesModel" "slots" "[I") (by decide +kernel)) (fun _ h9 => h9) rfl dX6_load_24 ?_
          refine lv_bipush (v := nI 18) hx hb dX6_load_27 (by decide) ?_
          refine lv_iload_n hx hb dX6_load_29 rfl (lv_at hl 3 rfl) ?_
          refine r_imulN C dX6_load_30 ?_
          refine lv_iload_n hx hb dX6_load_31 rfl (lv_at hl 4 rfl) ?_
          refine r_iaddN C dX6_load_32 ?_
          refine lv_iload hx hb dX6_load_33 (lv_at hl 0 rfl) ?_
          refine r_iaddN C dX6_load_35 ?_
          refine r_iald C hM (hsl1) rfl (by omega) (by omega) dX6_load_36 ?_
          refine lv_goto (tgt := 41) hx hb dX6_load_37 (by decide) ?_
          refine r_Vv (As := [.int (nI n), .int (nI i), .int (f (((18 * sl) + fr) + i))]) (rest := []) C hM hS (c6_set l D kA N0 (xset M (g + 3) (xI (kA 0) 300 F)) g n i (f (18 * sl + fr + i)) (nI L, B2) us F hob1 xset_s hn (by omega)) (hob1) rfl gX6_load_X6_set rfl rfl rfl ⟨rfl, by decide +kernel, by decide +kernel, (by decide +kernel : (parseMethodDescriptor yX6_set.desc).map (fun d => d.parameters.length) = some 3)⟩ ⟨Nat.le_of_ble_eq_true rfl, Nat.le_of_ble_eq_true rfl⟩ hl.1 rfl (Nat.le_of_ble_eq_true rfl) dX6_load_41 ⟨Nat.le_of_ble_eq_true rfl, Nat.le_of_ble_eq_true rfl⟩ (fun M1 H locs hp hM hS => ?_)
          rw [hp, xset_xset] at hM
          refine lv_iinc (v := nI (i + 1)) (lv' := [(4, .int (nI (i + 1))), (0, .ref g), (1, .int (nI n)), (2, .int (nI sl)), (3, .int (nI fr))]) hx hb dX6_load_44 hl (k := 0) rfl (r_inc _) (by decide) rfl (fun ls hl => ?_)
          refine lv_goto (tgt := 3) hx hb dX6_load_47 (by decide) ?_
          refine ih (i + 1) _ H locs ls (by omega) (hL.s (nf _ (by omega)) ?_) hM hS (lv_sub hl [0, 1, 2, 3, 4] rfl)
          rw [if_pos (by omega), ← Vw_s]
          by_cases q : i + 1 < L
          · rw [if_pos q]
          · rw [if_neg q, show i + 1 = L by omega]
  exact lp 10 0 E0 _ _ _ rfl (by have := Lp.ini E0 n; split <;> first | exact this | (rw [show L = 0 by omega]; exact this)) hM hS (lv_sub hl [0, 1, 2, 3, 4] rfl)
set_option maxRecDepth 100000 in
theorem c6_loadParameters (l : Launch) (D : va_G) (kA : Nat → ClassId) (N0 : Nat) (M0 M : xM) (g L : Nat) (B : Int32 × Int32 × Int32 × Int32) (N : Nat → Nat) (f : Nat → Int32) (hm : MN kA M0 M g B N) (hsl : M (g + 1) = some (xI (kA 0) 360 f)) (nf : nn f 360) (hB1 : B.1 = nI L) (hL9 : L ≤ 9) : cV l yX6_loadParameters wsX6_loadParameters (xR 2) [.ref g] D kA N0 M (fun M1 => ∃ N', MN kA M0 M1 g B N' ∧ (∀ k, k < 4 → N' k = Vw f (18 * k) L) ∧ N' 4 = 1 ∧ ∀ k, 4 < k → N' k = N k) := by
  refine r_mV (cc := cX6_loadParameters) (maxL := 2) (by decide) rfl (Nat.le_of_ble_eq_true rfl) ?_
  intro p e s m below meth c ls A0 Qp C hM hnm hl hend
  obtain ⟨hx, hb, hml, hown, hts, hr, hlocks, hK, hN⟩ := _root_.id C
  have hS : va_S (xA N0) s.heap s.heap [] := va_S.rf
  have hl : lv_has ls 2 [(0, .ref g)] := hl
  have hsl0 : M0 (g + 1) = some (xI (kA 0) 360 f) := by rw [← hm.2.2.2.2.2 _ (by omega) (by omega) (by omega) (by omega) (by omega)]; exact hsl
  refine lv_iconst (v := nI 0) hx hb dX6_loadParameters_0 (by decide) ?_
  refine lv_istore_n (lv' := [(1, .int (nI 0)), (0, .ref g)]) hx hb dX6_loadParameters_1 rfl hl (by decide) rfl (fun ls hl => ?_)
  have lp : ∀ (j k : Nat) (N1 : Nat → Nat) (M1 : xM) (H : Heap) (locs : List Loc) (ls : Array Slot), k + j = 4 → MN kA M0 M1 g B N1 → (∀ t, t < k → N1 t = Vw f (18 * t) L) → (∀ t, 4 < t → N1 t = N t) → xW D vwCl N0 M1 H → va_S (xA N0) s.heap H locs → lv_has ls 2 [(1, .int (nI k)), (0, .ref g)] → W p l e (xR 2) s m A0 below meth c H locs 0 0 Qp (F0 m 2 ls []) := by
    intro j
    induction j with
    | zero =>
      intro k N1 M1 H locs ls hk hm1 h1 h2 hM hS hl
      obtain ⟨us, hob⟩ := hm1.1
      refine lv_iload_n hx hb dX6_loadParameters_2 rfl (lv_at hl 0 rfl) ?_
      refine lv_iconst (v := nI 4) hx hb dX6_loadParameters_3 (by decide) ?_
      refine r_icmp_geN (tgt := 20) C (by omega) (by omega) dX6_loadParameters_4 (by decide) (fun hc => ?_) (fun hc => ?_)
      · have hk4 : k = 4 := by omega
        subst hk4
        refine lv_aload_n hx hb dX6_loadParameters_20 rfl (lv_at hl 1 rfl) ?_
        refine lv_iconst (v := nI 4) hx hb dX6_loadParameters_21 (by decide) ?_
        refine lv_iconst (v := nI 1) hx hb dX6_loadParameters_22 (by decide) ?_
        refine r_Vv (As := [.int (nI 4), .int (nI 1)]) (rest := []) C hM hS (c6_small l D kA N0 M0 M1 g 4 1 B N1 hm1 (by omega) (by omega)) (hob) rfl gX6_loadParameters_X6_small rfl rfl rfl ⟨rfl, by decide +kernel, by decide +kernel, (by decide +kernel : (parseMethodDescriptor yX6_small.desc).map (fun d => d.parameters.length) = some 2)⟩ ⟨Nat.le_of_ble_eq_true rfl, Nat.le_of_ble_eq_true rfl⟩ hl.1 rfl (Nat.le_of_ble_eq_true rfl) dX6_loadParameters_23 ⟨Nat.le_of_ble_eq_true rfl, Nat.le_of_ble_eq_true rfl⟩ (fun M2 H locs hm2 hM hS => ?_)
        exact hend _ _ _ _ _ hM hS (⟨_, hm2, fun t ht => by rw [un_n (by omega)]; exact h1 t ht, un_s, fun t ht => by rw [un_n (by omega)]; exact h2 t ht⟩) dX6_loadParameters_26
      · omega
    | succ j ih =>
      intro k N1 M1 H locs ls hk hm1 h1 h2 hM hS hl
      obtain ⟨us, hob⟩ := hm1.1
      have hsl1 : M1 (g + 1) = some (xI (kA 0) 360 f) := by rw [hm1.2.2.2.2.2 _ (by omega) (by omega) (by omega) (by omega) (by omega)]; exact hsl0
      refine lv_iload_n hx hb dX6_loadParameters_2 rfl (lv_at hl 0 rfl) ?_
      refine lv_iconst (v := nI 4) hx hb dX6_loadParameters_3 (by decide) ?_
      refine r_icmp_geN (tgt := 20) C (by omega) (by omega) dX6_loadParameters_4 (by decide) (fun hc => ?_) (fun hc => ?_)
      · omega
      · refine lv_aload_n hx hb dX6_loadParameters_7 rfl (lv_at hl 1 rfl) ?_
        refine lv_iload_n hx hb dX6_loadParameters_8 rfl (lv_at hl 0 rfl) ?_
        refine lv_iload_n hx hb dX6_loadParameters_9 rfl (lv_at hl 0 rfl) ?_
        refine lv_iconst (v := nI 0) hx hb dX6_loadParameters_10 (by decide) ?_
        refine r_Vv (As := [.int (nI k), .int (nI k), .int (nI 0)]) (rest := []) C hM hS (c6_load l D kA N0 M0 M1 g k k 0 L B N1 f hm1 (by omega) hsl1 nf hB1 hL9 (by omega)) (hob) rfl gX6_loadParameters_X6_load rfl rfl rfl ⟨rfl, by decide +kernel, by decide +kernel, (by decide +kernel : (parseMethodDescriptor yX6_load.desc).map (fun d => d.parameters.length) = some 3)⟩ ⟨Nat.le_of_ble_eq_true rfl, Nat.le_of_ble_eq_true rfl⟩ hl.1 rfl (Nat.le_of_ble_eq_true rfl) dX6_loadParameters_11 ⟨Nat.le_of_ble_eq_true rfl, Nat.le_of_ble_eq_true rfl⟩ (fun M2 H locs hm2 hM hS => ?_)
        refine lv_iinc (v := nI (k + 1)) (lv' := [(1, .int (nI (k + 1))), (0, .ref g)]) hx hb dX6_loadParameters_14 hl (k := 0) rfl (r_inc _) (by decide) rfl (fun ls hl => ?_)
        refine lv_goto (tgt := 2) hx hb dX6_loadParameters_17 (by decide) ?_
        refine ih (k + 1) _ M2 H locs ls (by omega) hm2 (fun t ht => ?_) (fun t ht => by rw [un_n (by omega)]; exact h2 t ht) hM hS (lv_sub hl [0, 1] rfl)
        by_cases q : t = k
        · rw [q, un_s]
          rfl
        · rw [un_n q]
          exact h1 t (by omega)
  exact lp 4 0 N M _ _ _ rfl hm (fun t ht => by omega) (fun _ _ => rfl) hM hS (lv_sub hl [0, 1] rfl)
end NM2
