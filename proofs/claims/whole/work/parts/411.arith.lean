theorem lcge {x y : Int64} : 0 ≤ lg_cmp x y ↔ y.toInt ≤ x.toInt := by
  unfold lg_cmp
  by_cases h1 : x > y
  · rw [if_pos h1]
    have h2 : y < x := h1
    rw [Int64.lt_iff_toInt_lt] at h2
    exact ⟨fun _ => by omega, fun _ => by decide⟩
  · rw [if_neg h1]
    have h2 : ¬ y < x := h1
    rw [Int64.lt_iff_toInt_lt] at h2
    by_cases h3 : x = y
    · rw [if_pos h3, h3]
      exact ⟨fun _ => by omega, fun _ => by decide⟩
    · rw [if_neg h3]
      refine ⟨fun q => absurd q (by decide), fun q => ?_⟩
      exact absurd (l_eqI (x := x) (y := y) (by omega)) h3
section NM2
variable {p : Program} {l : Launch} {e : Env} {R : Room} {s : State} {m : MethodId} {args : Array Value} {below : List Frame} {meth : Method} {c : Code} {Q : State → Prop} {cells slots : Nat} {ret : Option FieldType} {D : va_G} {kA : Nat → ClassId} {N0 : Nat}
theorem pl_st {A B P d1 d2 ov v x : Nat} (h : v + ov * P = A + B) (hx : x = (d1 + d2 + ov) % BB) : v + x * P + (d1 + d2 + ov) / BB * (P * BB) = A + d1 * P + (B + d2 * P) := by
  have := Nat.div_add_mod (d1 + d2 + ov) BB
  rw [hx]
  generalize (d1 + d2 + ov) / BB = q at *
  generalize (d1 + d2 + ov) % BB = r at *
  have e1 : q * (P * BB) = BB * q * P := by rw [Nat.mul_comm P BB, ← Nat.mul_assoc, Nat.mul_comm q BB]
  rw [e1, Nat.add_assoc, ← Nat.add_mul, Nat.add_comm r, this, Nat.add_mul, Nat.add_mul]
  omega
set_option maxRecDepth 100000 in
theorem c6_plus (l : Launch) (D : va_G) (kA : Nat → ClassId) (N0 : Nat) (M0 M : xM) (g to n t : Nat) (B : Int32 × Int32 × Int32 × Int32) (N : Nat → Nat) (hm : MN kA M0 M g B N) (hto : to < 30) (hn : n < 30) (ht : t < 30) (hlt : N n + N t < BB ^ 10) : cV l yX6_plus wsX6_plus (xR 1) [.ref g, .int (nI to), .int (nI n), .int (nI t)] D kA N0 M (fun M1 => MN kA M0 M1 g B (un N to (N n + N t))) := by
  obtain ⟨us, E0, hob, hF, hnf, hst⟩ := hm.op
  refine r_mV (cc := cX6_plus) (maxL := 9) (by decide) rfl (Nat.le_of_ble_eq_true rfl) ?_
  intro p e s m below meth c ls A0 Qp C hM hnm hl hend
  obtain ⟨hx, hb, hml, hown, hts, hr, hlocks, hK, hN⟩ := _root_.id C
  have hS : va_S (xA N0) s.heap s.heap [] := va_S.rf
  have hl : lv_has ls 9 [(0, .ref g), (1, .int (nI to)), (2, .int (nI n)), (3, .int (nI t))] := hl
  refine lv_lconst (v := 0) hx hb dX6_plus_0 (by decide) ?_
  refine lv_lstore (lv' := [(4, .long 0), (0, .ref g), (1, .int (nI to)), (2, .int (nI n)), (3, .int (nI t))]) hx hb dX6_plus_1 hl (by decide) rfl (fun ls hl => ?_)
  refine lv_iconst (v := nI 0) hx hb dX6_plus_3 (by decide) ?_
  refine lv_istore (lv' := [(6, .int (nI 0)), (4, .long 0), (0, .ref g), (1, .int (nI to)), (2, .int (nI n)), (3, .int (nI t))]) hx hb dX6_plus_4 hl (by decide) rfl (fun ls hl => ?_)
  have hM : xW D vwCl N0 (xset M (g + 3) (xI (kA 0) 300 E0)) s.heap := by rw [xset_id hF]; exact hM
  have lp : ∀ (k i v ov : Nat) (cy : Int64) (F : Nat → Int32) (H : Heap) (locs : List Loc) (ls : Array Slot), i + k = 10 → Lp E0 F to i v → v + ov * BB ^ i = Vw E0 (10 * n) i + Vw E0 (10 * t) i → cy.toInt = ov → ov ≤ 1 → xW D vwCl N0 (xset M (g + 3) (xI (kA 0) 300 F)) H → va_S (xA N0) s.heap H locs → lv_has ls 9 [(6, .int (nI i)), (4, .long cy), (0, .ref g), (1, .int (nI to)), (2, .int (nI n)), (3, .int (nI t))] → W p l e (xR 1) s m A0 below meth c H locs 0 0 Qp (F0 m 6 ls []) := by
    intro k
    induction k with
    | zero =>
      intro i v ov cy F H locs ls hik hL hI hcy hov hM hS hl
      refine lv_iload hx hb dX6_plus_6 (lv_at hl 0 rfl) ?_
      refine lv_bipush (v := nI 10) hx hb dX6_plus_8 (by decide) ?_
      refine r_icmp_geN (tgt := 62) C (by omega) (by omega) dX6_plus_10 (by decide) (fun hc => ?_) (fun hc => ?_)
      · have hi10 : i = 10 := by omega
        subst hi10
        rw [hnf.2 n hn, hnf.2 t ht] at hI
        have hov0 : ov = 0 := by
          rcases Nat.eq_zero_or_pos ov with q | q
          · exact q
          · have : ov = 1 := by omega
            rw [this, Nat.one_mul] at hI
            omega
        rw [hov0, Nat.zero_mul, Nat.add_zero] at hI
        rw [hI] at hL
        exact hend _ _ _ _ _ hM hS (hst _ _ (hL.fin hnf hto)) dX6_plus_62
      · omega
    | succ k ih =>
      intro i v ov cy F H locs ls hik hL hI hcy hov hM hS hl
      have hob1 : xset M (g + 3) (xI (kA 0) 300 F) g = some (oMd g B us) := by rw [xset_n (by omega)]; exact hob
      refine lv_iload hx hb dX6_plus_6 (lv_at hl 0 rfl) ?_
      refine lv_bipush (v := nI 10) hx hb dX6_plus_8 (by decide) ?_
      refine r_icmp_geN (tgt := 62) C (by omega) (by omega) dX6_plus_10 (by decide) (fun hc => ?_) (fun hc => ?_)
      · omega
      · refine lv_aload_n hx hb dX6_plus_13 rfl (lv_at hl 2 rfl) ?_
        refine lv_iload_n hx hb dX6_plus_14 rfl (lv_at hl 4 rfl) ?_
        refine lv_iload hx hb dX6_plus_15 (lv_at hl 0 rfl) ?_
        refine r_Vi (As := [.int (nI n), .int (nI i)]) (rest := []) C hM hS (c6_get l D kA N0 (xset M (g + 3) (xI (kA 0) 300 F)) g n i B us F hob1 xset_s hn (by omega)) (hob1) rfl gX6_plus_X6_get rfl rfl rfl ⟨rfl, by decide +kernel, by decide +kernel, (by decide +kernel : (parseMethodDescriptor yX6_get.desc).map (fun d => d.parameters.length) = some 2)⟩ ⟨Nat.le_of_ble_eq_true rfl, Nat.le_of_ble_eq_true rfl⟩ hl.1 rfl (Nat.le_of_ble_eq_true rfl) dX6_plus_17 ⟨Nat.le_of_ble_eq_true rfl, Nat.le_of_ble_eq_true rfl⟩ (fun x1 M1 H locs hp hM hS => ?_)
        obtain ⟨ex1, eM⟩ := hp
        rw [eM] at hM
        rw [hL.rd (Nat.le_refl i) (by omega)] at ex1
        refine lv_i2l (v := x1.toInt64) hx hb dX6_plus_20 rfl ?_
        refine lv_aload_n hx hb dX6_plus_21 rfl (lv_at hl 2 rfl) ?_
        refine lv_iload_n hx hb dX6_plus_22 rfl (lv_at hl 5 rfl) ?_
        refine lv_iload hx hb dX6_plus_23 (lv_at hl 0 rfl) ?_
        refine r_Vi (As := [.int (nI t), .int (nI i)]) (rest := [.long x1.toInt64]) C hM hS (c6_get l D kA N0 (xset M (g + 3) (xI (kA 0) 300 F)) g t i B us F hob1 xset_s ht (by omega)) (hob1) rfl gX6_plus_X6_get rfl rfl rfl ⟨rfl, by decide +kernel, by decide +kernel, (by decide +kernel : (parseMethodDescriptor yX6_get.desc).map (fun d => d.parameters.length) = some 2)⟩ ⟨Nat.le_of_ble_eq_true rfl, Nat.le_of_ble_eq_true rfl⟩ hl.1 rfl (Nat.le_of_ble_eq_true rfl) dX6_plus_25 ⟨Nat.le_of_ble_eq_true rfl, Nat.le_of_ble_eq_true rfl⟩ (fun x2 M1 H locs hp hM hS => ?_)
        obtain ⟨ex2, eM2⟩ := hp
        rw [eM2] at hM
        rw [hL.rd (Nat.le_refl i) (by omega)] at ex2
        have z1 := hnf.nn9 (i := i) hn (by omega)
        have z2 := hnf.nn9 (i := i) ht (by omega)
        have y1 := dg_int z1
        have y2 := dg_int z2
        have l1 := dg_lt (E0 (10 * n + i))
        have l2 := dg_lt (E0 (10 * t + i))
        have hB : BB = 2147483648 := rfl
        refine lv_i2l (v := x2.toInt64) hx hb dX6_plus_28 rfl ?_
        refine lv_ladd hx hb dX6_plus_29 ?_
        refine lv_lload hx hb dX6_plus_30 (lv_at hl 1 rfl) ?_
        refine lv_ladd hx hb dX6_plus_32 ?_
        refine lv_topl (fun v_1 ev_1 => ?_)
        refine lv_lstore (lv' := [(7, .long v_1), (6, .int (nI i)), (4, .long cy), (0, .ref g), (1, .int (nI to)), (2, .int (nI n)), (3, .int (nI t))]) hx hb dX6_plus_33 hl (by decide) rfl (fun ls hl => ?_)
        refine lv_aload_n hx hb dX6_plus_35 rfl (lv_at hl 3 rfl) ?_
        refine lv_iload_n hx hb dX6_plus_36 rfl (lv_at hl 4 rfl) ?_
        refine lv_iload hx hb dX6_plus_37 (lv_at hl 1 rfl) ?_
        refine lv_lload hx hb dX6_plus_39 (lv_at hl 0 rfl) ?_
        refine lv_ldc2 (v := 2147483647) hx hb hown (hts (.constantLong RX6 75 (2147483647)) (by decide +kernel)) dX6_plus_41 ?_
        refine lv_land hx hb dX6_plus_44 ?_
        refine lv_l2i (v := (v_1 &&& 2147483647).toInt32) hx hb dX6_plus_45 rfl ?_
        have hT : v_1.toInt = ((dg (E0 (10 * n + i)) + dg (E0 (10 * t + i)) + ov : Nat) : Int) := by
          rw [ev_1, ex1, ex2]
          have h3 : ((E0 (10 * n + i)).toInt64 + (E0 (10 * t + i)).toInt64).toInt = (E0 (10 * n + i)).toInt + (E0 (10 * t + i)).toInt := l_add (l_i2l rfl) (l_i2l rfl) (by omega) (by omega)
          rw [l_add h3 hcy (by omega) (by omega)]
          omega
        have ho := cmb_o v_1
        have hcr := cmb_c v_1
        rw [hT] at ho hcr
        have hx0 : 0 ≤ ((v_1 &&& 2147483647).toInt32).toInt := by rw [ho]; omega
        have hdx : dg ((v_1 &&& 2147483647).toInt32) = (dg (E0 (10 * n + i)) + dg (E0 (10 * t + i)) + ov) % BB := by
          unfold dg
          rw [ho]
          unfold dg at *
          omega
        refine r_Vv (As := [.int (nI to), .int (nI i), .int ((v_1 &&& 2147483647).toInt32)]) (rest := []) C hM hS (c6_set l D kA N0 (xset M (g + 3) (xI (kA 0) 300 F)) g to i ((v_1 &&& 2147483647).toInt32) B us F hob1 xset_s hto (by omega)) (hob1) rfl gX6_plus_X6_set rfl rfl rfl ⟨rfl, by decide +kernel, by decide +kernel, (by decide +kernel : (parseMethodDescriptor yX6_set.desc).map (fun d => d.parameters.length) = some 3)⟩ ⟨Nat.le_of_ble_eq_true rfl, Nat.le_of_ble_eq_true rfl⟩ hl.1 rfl (Nat.le_of_ble_eq_true rfl) dX6_plus_46 ⟨Nat.le_of_ble_eq_true rfl, Nat.le_of_ble_eq_true rfl⟩ (fun M1 H locs hp hM hS => ?_)
        rw [hp, xset_xset] at hM
        refine lv_lload hx hb dX6_plus_49 (lv_at hl 0 rfl) ?_
        refine lv_bipush (v := nI 31) hx hb dX6_plus_51 (by decide) ?_
        refine lv_lshr (v := v_1 >>> ((nI 31).toInt64 &&& 63)) hx hb dX6_plus_53 rfl ?_
        refine lv_topl (fun v_2 ev_2 => ?_)
        refine lv_lstore (lv' := [(4, .long v_2), (7, .long v_1), (6, .int (nI i)), (0, .ref g), (1, .int (nI to)), (2, .int (nI n)), (3, .int (nI t))]) hx hb dX6_plus_54 hl (by decide) rfl (fun ls hl => ?_)
        refine lv_iinc (v := nI (i + 1)) (lv' := [(6, .int (nI (i + 1))), (4, .long v_2), (7, .long v_1), (0, .ref g), (1, .int (nI to)), (2, .int (nI n)), (3, .int (nI t))]) hx hb dX6_plus_56 hl (k := 2) rfl (r_inc _) (by decide) rfl (fun ls hl => ?_)
        refine lv_goto (tgt := 6) hx hb dX6_plus_59 (by decide) ?_
        refine ih (i + 1) _ ((dg (E0 (10 * n + i)) + dg (E0 (10 * t + i)) + ov) / BB) v_2 _ H locs ls (by omega) (hL.s hx0 rfl) ?_ ?_ ?_ hM hS (lv_sub hl [0, 1, 3, 4, 5, 6] rfl)
        · rw [Vw_s, Vw_s, Nat.pow_succ]
          exact pl_st hI hdx
        · rw [ev_2, hcr]
          omega
        · omega
  exact lp 10 0 0 0 0 E0 _ _ _ rfl (Lp.ini E0 to) rfl (by decide) (by omega) hM hS (lv_sub hl [0, 1, 2, 3, 4, 5] rfl)
set_option maxRecDepth 100000 in
theorem c6_minus (l : Launch) (D : va_G) (kA : Nat → ClassId) (N0 : Nat) (M0 M : xM) (g to n t : Nat) (B : Int32 × Int32 × Int32 × Int32) (N : Nat → Nat) (hm : MN kA M0 M g B N) (hto : to < 30) (hn : n < 30) (ht : t < 30) (hle : N t ≤ N n) : cV l yX6_minus wsX6_minus (xR 1) [.ref g, .int (nI to), .int (nI n), .int (nI t)] D kA N0 M (fun M1 => MN kA M0 M1 g B (un N to (N n - N t))) := by
  obtain ⟨us, E0, hob, hF, hnf, hst⟩ := hm.op
  refine r_mV (cc := cX6_minus) (maxL := 9) (by decide) rfl (Nat.le_of_ble_eq_true rfl) ?_
  intro p e s m below meth c ls A0 Qp C hM hnm hl hend
  obtain ⟨hx, hb, hml, hown, hts, hr, hlocks, hK, hN⟩ := _root_.id C
  have hS : va_S (xA N0) s.heap s.heap [] := va_S.rf
  have hl : lv_has ls 9 [(0, .ref g), (1, .int (nI to)), (2, .int (nI n)), (3, .int (nI t))] := hl
  refine lv_lconst (v := 0) hx hb dX6_minus_0 (by decide) ?_
  refine lv_lstore (lv' := [(4, .long 0), (0, .ref g), (1, .int (nI to)), (2, .int (nI n)), (3, .int (nI t))]) hx hb dX6_minus_1 hl (by decide) rfl (fun ls hl => ?_)
  refine lv_iconst (v := nI 0) hx hb dX6_minus_3 (by decide) ?_
  refine lv_istore (lv' := [(6, .int (nI 0)), (4, .long 0), (0, .ref g), (1, .int (nI to)), (2, .int (nI n)), (3, .int (nI t))]) hx hb dX6_minus_4 hl (by decide) rfl (fun ls hl => ?_)
  have hM : xW D vwCl N0 (xset M (g + 3) (xI (kA 0) 300 E0)) s.heap := by rw [xset_id hF]; exact hM
  have lp : ∀ (k i v ov : Nat) (cy : Int64) (F : Nat → Int32) (H : Heap) (locs : List Loc) (ls : Array Slot), i + k = 10 → Lp E0 F to i v → v + Vw E0 (10 * t) i = Vw E0 (10 * n) i + ov * BB ^ i → cy.toInt = ov → ov ≤ 1 → xW D vwCl N0 (xset M (g + 3) (xI (kA 0) 300 F)) H → va_S (xA N0) s.heap H locs → lv_has ls 9 [(6, .int (nI i)), (4, .long cy), (0, .ref g), (1, .int (nI to)), (2, .int (nI n)), (3, .int (nI t))] → W p l e (xR 1) s m A0 below meth c H locs 0 0 Qp (F0 m 6 ls []) := by
    intro k
    induction k with
    | zero =>
      intro i v ov cy F H locs ls hik hL hI hcy hov hM hS hl
      refine lv_iload hx hb dX6_minus_6 (lv_at hl 0 rfl) ?_
      refine lv_bipush (v := nI 10) hx hb dX6_minus_8 (by decide) ?_
      refine r_icmp_geN (tgt := 81) C (by omega) (by omega) dX6_minus_10 (by decide) (fun hc => ?_) (fun hc => ?_)
      · have hi10 : i = 10 := by omega
        subst hi10
        rw [hnf.2 n hn, hnf.2 t ht] at hI
        have hvl : v < BB ^ 10 := by rw [← hL.2.2]; exact Vw_lt F _ 10
        have hov0 : ov = 0 := by
          rcases Nat.eq_zero_or_pos ov with q | q
          · exact q
          · have : ov = 1 := by omega
            rw [this, Nat.one_mul] at hI
            omega
        rw [hov0, Nat.zero_mul, Nat.add_zero] at hI
        rw [show v = N n - N t by omega] at hL
        exact hend _ _ _ _ _ hM hS (hst _ _ (hL.fin hnf hto)) dX6_minus_81
      · omega
    | succ k ih =>
      intro i v ov cy F H locs ls hik hL hI hcy hov hM hS hl
      have hob1 : xset M (g + 3) (xI (kA 0) 300 F) g = some (oMd g B us) := by rw [xset_n (by omega)]; exact hob
      refine lv_iload hx hb dX6_minus_6 (lv_at hl 0 rfl) ?_
      refine lv_bipush (v := nI 10) hx hb dX6_minus_8 (by decide) ?_
      refine r_icmp_geN (tgt := 81) C (by omega) (by omega) dX6_minus_10 (by decide) (fun hc => ?_) (fun hc => ?_)
      · omega
      · refine lv_aload_n hx hb dX6_minus_13 rfl (lv_at hl 2 rfl) ?_
        refine lv_iload_n hx hb dX6_minus_14 rfl (lv_at hl 4 rfl) ?_
        refine lv_iload hx hb dX6_minus_15 (lv_at hl 0 rfl) ?_
        refine r_Vi (As := [.int (nI n), .int (nI i)]) (rest := []) C hM hS (c6_get l D kA N0 (xset M (g + 3) (xI (kA 0) 300 F)) g n i B us F hob1 xset_s hn (by omega)) (hob1) rfl gX6_minus_X6_get rfl rfl rfl ⟨rfl, by decide +kernel, by decide +kernel, (by decide +kernel : (parseMethodDescriptor yX6_get.desc).map (fun d => d.parameters.length) = some 2)⟩ ⟨Nat.le_of_ble_eq_true rfl, Nat.le_of_ble_eq_true rfl⟩ hl.1 rfl (Nat.le_of_ble_eq_true rfl) dX6_minus_17 ⟨Nat.le_of_ble_eq_true rfl, Nat.le_of_ble_eq_true rfl⟩ (fun x1 M1 H locs hp hM hS => ?_)
        obtain ⟨ex1, eM⟩ := hp
        rw [eM] at hM
        rw [hL.rd (Nat.le_refl i) (by omega)] at ex1
        refine lv_i2l (v := x1.toInt64) hx hb dX6_minus_20 rfl ?_
        refine lv_aload_n hx hb dX6_minus_21 rfl (lv_at hl 2 rfl) ?_
        refine lv_iload_n hx hb dX6_minus_22 rfl (lv_at hl 5 rfl) ?_
        refine lv_iload hx hb dX6_minus_23 (lv_at hl 0 rfl) ?_
        refine r_Vi (As := [.int (nI t), .int (nI i)]) (rest := [.long x1.toInt64]) C hM hS (c6_get l D kA N0 (xset M (g + 3) (xI (kA 0) 300 F)) g t i B us F hob1 xset_s ht (by omega)) (hob1) rfl gX6_minus_X6_get rfl rfl rfl ⟨rfl, by decide +kernel, by decide +kernel, (by decide +kernel : (parseMethodDescriptor yX6_get.desc).map (fun d => d.parameters.length) = some 2)⟩ ⟨Nat.le_of_ble_eq_true rfl, Nat.le_of_ble_eq_true rfl⟩ hl.1 rfl (Nat.le_of_ble_eq_true rfl) dX6_minus_25 ⟨Nat.le_of_ble_eq_true rfl, Nat.le_of_ble_eq_true rfl⟩ (fun x2 M1 H locs hp hM hS => ?_)
        obtain ⟨ex2, eM2⟩ := hp
        rw [eM2] at hM
        rw [hL.rd (Nat.le_refl i) (by omega)] at ex2
        have z1 := hnf.nn9 (i := i) hn (by omega)
        have z2 := hnf.nn9 (i := i) ht (by omega)
        have y1 := dg_int z1
        have y2 := dg_int z2
        have l1 := dg_lt (E0 (10 * n + i))
        have l2 := dg_lt (E0 (10 * t + i))
        have hB : BB = 2147483648 := rfl
        refine lv_i2l (v := x2.toInt64) hx hb dX6_minus_28 rfl ?_
        refine lv_lsub hx hb dX6_minus_29 ?_
        refine lv_lload hx hb dX6_minus_30 (lv_at hl 1 rfl) ?_
        refine lv_lsub hx hb dX6_minus_32 ?_
        refine lv_topl (fun v_3 ev_3 => ?_)
        refine lv_lstore (lv' := [(7, .long v_3), (6, .int (nI i)), (4, .long cy), (0, .ref g), (1, .int (nI to)), (2, .int (nI n)), (3, .int (nI t))]) hx hb dX6_minus_33 hl (by decide) rfl (fun ls hl => ?_)
        have hT : v_1.toInt = (dg (E0 (10 * n + i)) : Int) - dg (E0 (10 * t + i)) - ov := by
          rw [ev_1, ex1, ex2]
          have h3 : ((E0 (10 * n + i)).toInt64 - (E0 (10 * t + i)).toInt64).toInt = (E0 (10 * n + i)).toInt - (E0 (10 * t + i)).toInt := l_sub (l_i2l rfl) (l_i2l rfl) (by omega) (by omega)
          rw [l_sub h3 hcy (by omega) (by omega)]
          omega
        have hz : (0 : Int64).toInt = 0 := by decide
        refine lv_lload hx hb dX6_minus_35 (lv_at hl 0 rfl) ?_
        refine lv_lconst (v := 0) hx hb dX6_minus_37 (by decide) ?_
        refine W.lcmp hx hb dX6_minus_38 ?_
        refine lv_if_ge (tgt := 46) hx hb dX6_minus_39 (by decide) (fun hd => ?_) (fun hd => ?_)
        · rw [lcge, hz] at hd
          refine lv_lconst (v := 0) hx hb dX6_minus_46 (by decide) ?_
          refine lv_lstore (lv' := [(4, .long 0), (7, .long v_3), (6, .int (nI i)), (0, .ref g), (1, .int (nI to)), (2, .int (nI n)), (3, .int (nI t))]) hx hb dX6_minus_47 hl (by decide) rfl (fun ls hl => ?_)
          refine lv_aload_n hx hb dX6_minus_49 rfl (lv_at hl 3 rfl) ?_
          refine lv_iload_n hx hb dX6_minus_50 rfl (lv_at hl 4 rfl) ?_
          refine lv_iload hx hb dX6_minus_51 (lv_at hl 2 rfl) ?_
          refine lv_lload hx hb dX6_minus_53 (lv_at hl 1 rfl) ?_
          refine lv_lconst (v := 0) hx hb dX6_minus_55 (by decide) ?_
          refine W.lcmp hx hb dX6_minus_56 ?_
          refine lv_if_ge (tgt := 69) hx hb dX6_minus_57 (by decide) (fun hd2 => ?_) (fun hd2 => ?_)
          · refine lv_lload hx hb dX6_minus_69 (lv_at hl 1 rfl) ?_
            refine lv_l2i (v := v_3.toInt32) hx hb dX6_minus_71 rfl ?_
            have hx0 : ((v_1).toInt32).toInt = v_1.toInt := l_l2i rfl (by omega) (by omega)
            have hdx : dg (v_1.toInt32) + dg (E0 (10 * t + i)) + ov = dg (E0 (10 * n + i)) := by
              have : (dg (v_1.toInt32) : Int) = v_1.toInt := by rw [dg_int (by omega)]; exact hx0
              omega
            refine r_Vv (As := [.int (nI to), .int (nI i), .int v_3.toInt32]) (rest := []) C hM hS (c6_set l D kA N0 (xset M (g + 3) (xI (kA 0) 300 F)) g to i (v_1.toInt32) B us F hob1 xset_s hto (by omega)) (hob1) rfl gX6_minus_X6_set rfl rfl rfl ⟨rfl, by decide +kernel, by decide +kernel, (by decide +kernel : (parseMethodDescriptor yX6_set.desc).map (fun d => d.parameters.length) = some 3)⟩ ⟨Nat.le_of_ble_eq_true rfl, Nat.le_of_ble_eq_true rfl⟩ hl.1 rfl (Nat.le_of_ble_eq_true rfl) dX6_minus_72 ⟨Nat.le_of_ble_eq_true rfl, Nat.le_of_ble_eq_true rfl⟩ (fun M1 H locs hp hM hS => ?_)
            rw [hp, xset_xset] at hM
            refine lv_iinc (v := nI (i + 1)) (lv' := [(6, .int (nI (i + 1))), (4, .long 0), (7, .long v_3), (0, .ref g), (1, .int (nI to)), (2, .int (nI n)), (3, .int (nI t))]) hx hb dX6_minus_75 hl (k := 2) rfl (r_inc _) (by decide) rfl (fun ls hl => ?_)
            refine lv_goto (tgt := 6) hx hb dX6_minus_78 (by decide) ?_
            refine ih (i + 1) _ 0 0 _ H locs ls (by omega) (hL.s (by omega) rfl) ?_ (by decide) (by omega) hM hS (lv_sub hl [0, 1, 3, 4, 5, 6] rfl)
            rw [Vw_s, Vw_s, ← hdx, Nat.add_mul, Nat.add_mul]
            omega
          · rw [lcge, hz] at hd2
            omega
        · rw [lcge, hz] at hd
          refine lv_lconst (v := 1) hx hb dX6_minus_42 (by decide) ?_
          refine lv_goto (tgt := 47) hx hb dX6_minus_43 (by decide) ?_
          refine lv_lstore (lv' := [(4, .long 1), (7, .long v_3), (6, .int (nI i)), (0, .ref g), (1, .int (nI to)), (2, .int (nI n)), (3, .int (nI t))]) hx hb dX6_minus_47 hl (by decide) rfl (fun ls hl => ?_)
          refine lv_aload_n hx hb dX6_minus_49 rfl (lv_at hl 3 rfl) ?_
          refine lv_iload_n hx hb dX6_minus_50 rfl (lv_at hl 4 rfl) ?_
          refine lv_iload hx hb dX6_minus_51 (lv_at hl 2 rfl) ?_
          refine lv_lload hx hb dX6_minus_53 (lv_at hl 1 rfl) ?_
          refine lv_lconst (v := 0) hx hb dX6_minus_55 (by decide) ?_
          refine W.lcmp hx hb dX6_minus_56 ?_
          refine lv_if_ge (tgt := 69) hx hb dX6_minus_57 (by decide) (fun hd2 => ?_) (fun hd2 => ?_)
          · rw [lcge, hz] at hd2
            omega
          · refine lv_lload hx hb dX6_minus_60 (lv_at hl 1 rfl) ?_
            refine lv_ldc2 (v := 2147483648) hx hb hown (hts (.constantLong RX6 77 (2147483648)) (by decide +kernel)) dX6_minus_62 ?_
            refine lv_ladd hx hb dX6_minus_65 ?_
            refine lv_goto (tgt := 71) hx hb dX6_minus_66 (by decide) ?_
            refine lv_l2i (v := (v_3 + 2147483648).toInt32) hx hb dX6_minus_71 rfl ?_
            have hs2 : (v_1 + 2147483648).toInt = v_1.toInt + 2147483648 := l_add rfl (by decide) (by omega) (by omega)
            have hx0 : ((v_1 + 2147483648).toInt32).toInt = v_1.toInt + 2147483648 := l_l2i hs2 (by omega) (by omega)
            have hdx : dg ((v_1 + 2147483648).toInt32) + dg (E0 (10 * t + i)) + ov = dg (E0 (10 * n + i)) + BB := by
              have : (dg ((v_1 + 2147483648).toInt32) : Int) = v_1.toInt + 2147483648 := by rw [dg_int (by omega)]; exact hx0
              omega
            refine r_Vv (As := [.int (nI to), .int (nI i), .int ((v_3 + 2147483648).toInt32)]) (rest := []) C hM hS (c6_set l D kA N0 (xset M (g + 3) (xI (kA 0) 300 F)) g to i ((v_1 + 2147483648).toInt32) B us F hob1 xset_s hto (by omega)) (hob1) rfl gX6_minus_X6_set rfl rfl rfl ⟨rfl, by decide +kernel, by decide +kernel, (by decide +kernel : (parseMethodDescriptor yX6_set.desc).map (fun d => d.parameters.length) = some 3)⟩ ⟨Nat.le_of_ble_eq_true rfl, Nat.le_of_ble_eq_true rfl⟩ hl.1 rfl (Nat.le_of_ble_eq_true rfl) dX6_minus_72 ⟨Nat.le_of_ble_eq_true rfl, Nat.le_of_ble_eq_true rfl⟩ (fun M1 H locs hp hM hS => ?_)
            rw [hp, xset_xset] at hM
            refine lv_iinc (v := nI (i + 1)) (lv' := [(6, .int (nI (i + 1))), (4, .long 1), (7, .long v_3), (0, .ref g), (1, .int (nI to)), (2, .int (nI n)), (3, .int (nI t))]) hx hb dX6_minus_75 hl (k := 2) rfl (r_inc _) (by decide) rfl (fun ls hl => ?_)
            refine lv_goto (tgt := 6) hx hb dX6_minus_78 (by decide) ?_
            refine ih (i + 1) _ 1 1 _ H locs ls (by omega) (hL.s (by omega) rfl) ?_ (by decide) (by omega) hM hS (lv_sub hl [0, 1, 3, 4, 5, 6] rfl)
            have h9 : (dg ((v_1 + 2147483648).toInt32) + dg (E0 (10 * t + i)) + ov) * BB ^ i = (dg (E0 (10 * n + i)) + BB) * BB ^ i := by rw [hdx]
            rw [Vw_s, Vw_s, Nat.pow_succ, Nat.one_mul, Nat.mul_comm (BB ^ i) BB]
            rw [Nat.add_mul, Nat.add_mul, Nat.add_mul] at h9
            omega
  exact lp 10 0 0 0 0 E0 _ _ _ rfl (Lp.ini E0 to) rfl (by decide) (by omega) hM hS (lv_sub hl [0, 1, 2, 3, 4, 5] rfl)
theorem hv_ior {a b : Nat} (ha : a < 1073741824) (hb : b < 2) : (nI a ||| nI b <<< (nI 30 &&& 31)) = nI (a + b * 1073741824) := by
  have hb2 : b = 0 ∨ b = 1 := by omega
  rcases hb2 with q | q
  · subst q
    have : (nI 0 <<< (nI 30 &&& 31) : Int32) = 0 := by decide
    rw [this]
    simp
  · subst q
    have e1 : (nI 1 <<< (nI 30 &&& 31) : Int32) = nI 1073741824 := by decide
    rw [e1]
    apply i_nI
    have h2 := Nat.two_pow_add_eq_or_of_lt (i := 30) (b := a) (by omega) 1
    sorry
end NM2
