theorem in_X6_productToU_X6 : ∀ w ∈ wsX60, w ∈ wsX6_productToU := by decide +kernel
theorem in_X6_toU_X6 : ∀ w ∈ wsX60, w ∈ wsX6_toU := by decide +kernel
theorem MN.u {kA : Nat → ClassId} {M0 M : xM} {g : Nat} {B : Int32 × Int32 × Int32 × Int32} {N : Nat → Nat} (h : MN kA M0 M g B N) (f : Nat → Int32) : MN kA M0 (xset M (g + 5) (xI (kA 0) 24 f)) g B N := by
  obtain ⟨⟨us, h1⟩, ⟨F, h2, h3⟩, h4, h5, h6, h7⟩ := h
  exact ⟨⟨us, by rw [xset_n (by omega)]; exact h1⟩, ⟨F, by rw [xset_n (by omega)]; exact h2, h3⟩, ⟨f, xset_s⟩, h5.kept (xset_n (by omega)), h6.kept (xset_n (by omega)), fun b b1 b2 b3 b4 b5 => by rw [xset_n b3]; exact h7 b b1 b2 b3 b4 b5⟩
theorem MN.us {kA : Nat → ClassId} {M0 M : xM} {g : Nat} {B : Int32 × Int32 × Int32 × Int32} {N : Nat → Nat} (h : MN kA M0 M g B N) (us : Int32) : MN kA M0 (xset M g (oMd g B us)) g B N := by
  obtain ⟨h1, ⟨F, h2, h3⟩, h4, h5, h6, h7⟩ := h
  exact ⟨⟨us, xset_s⟩, ⟨F, by rw [xset_n (by omega)]; exact h2, h3⟩, h4.kept (xset_n (by omega)), h5.kept (xset_n (by omega)), h6.kept (xset_n (by omega)), fun b b1 b2 b3 b4 b5 => by rw [xset_n b1]; exact h7 b b1 b2 b3 b4 b5⟩
theorem pr_st {A C P d e c f x : Nat} (h : A + c * P = C) (hx : x = (d * e + f + c) % BB) : A + x * P + (d * e + f + c) / BB * (P * BB) = C + f * P + d * (e * P) := by
  have := Nat.div_add_mod (d * e + f + c) BB
  rw [hx]
  generalize hq : (d * e + f + c) / BB = q at *
  generalize hr : (d * e + f + c) % BB = r at *
  have e1 : q * (P * BB) = BB * q * P := by rw [Nat.mul_comm P BB, ← Nat.mul_assoc, Nat.mul_comm q BB]
  rw [e1, Nat.add_assoc, ← Nat.add_mul, Nat.add_comm r, this, Nat.add_mul, Nat.add_mul, ← h, Nat.mul_assoc]
  omega
theorem pr_lt {d e f c : Nat} (hd : d < BB) (he : e < BB) (hf : f < BB) (hc : c < BB) : d * e + f + c < BB * BB := by
  have h1 : d * e ≤ (BB - 1) * (BB - 1) := Nat.mul_le_mul (by omega) (by omega)
  have h2 : (BB - 1) * (BB - 1) = 4611686014132420609 := rfl
  have h3 : BB * BB = 4611686018427387904 := rfl
  have hB : BB = 2147483648 := rfl
  omega
section NM3
variable {p : Program} {l : Launch} {e : Env} {R : Room} {s : State} {m : MethodId} {args : Array Value} {below : List Frame} {meth : Method} {c : Code} {Q : State → Prop} {cells slots : Nat} {ret : Option FieldType} {D : va_G} {kA : Nat → ClassId} {N0 : Nat}
set_option maxRecDepth 100000 in
theorem c6_toU (l : Launch) (D : va_G) (kA : Nat → ClassId) (N0 : Nat) (M0 M : xM) (g n : Nat) (B : Int32 × Int32 × Int32 × Int32) (N : Nat → Nat) (hm : MN kA M0 M g B N) (hn : n < 30) : cV l yX6_toU wsX6_toU (xR 1) [.ref g, .int (nI n)] D kA N0 M (fun M1 => MN kA M0 M1 g B N ∧ M1 g = some (oMd g B (nI 10)) ∧ ∃ f, M1 (g + 5) = some (xI (kA 0) 24 f) ∧ nn f 24 ∧ V f 10 = N n ∧ ∀ j, 10 ≤ j → j < 24 → f j = 0) := by
  obtain ⟨us, E0, hob, hF, hnf, hst⟩ := hm.op
  obtain ⟨f0, hf0⟩ := hm.2.2.1
  refine r_mV (cc := cX6_toU) (maxL := 3) (by decide) rfl (Nat.le_of_ble_eq_true rfl) ?_
  intro p e s m below meth c ls A0 Qp C hM hnm hl hend
  obtain ⟨hx, hb, hml, hown, hts, hr, hlocks, hK, hN⟩ := _root_.id C
  have hS : va_S (xA N0) s.heap s.heap [] := va_S.rf
  have hl : lv_has ls 3 [(0, .ref g), (1, .int (nI n))] := hl
  refine lv_iconst (v := nI 0) hx hb dX6_toU_0 (by decide) ?_
  refine lv_istore_n (lv' := [(2, .int (nI 0)), (0, .ref g), (1, .int (nI n))]) hx hb dX6_toU_1 rfl hl (by decide) rfl (fun ls hl => ?_)
  have hM : xW D vwCl N0 (xset M (g + 5) (xI (kA 0) 24 f0)) s.heap := by rw [xset_id hf0]; exact hM
  have lp : ∀ (k i : Nat) (f : Nat → Int32) (H : Heap) (locs : List Loc) (ls : Array Slot), i + k = 24 → (∀ j, j < i → f j = if j < 10 then E0 (10 * n + j) else 0) → xW D vwCl N0 (xset M (g + 5) (xI (kA 0) 24 f)) H → va_S (xA N0) s.heap H locs → lv_has ls 3 [(2, .int (nI i)), (0, .ref g), (1, .int (nI n))] → W p l e (xR 1) s m A0 below meth c H locs 0 0 Qp (F0 m 2 ls []) := by
    intro k
    induction k with
    | zero =>
      intro i f H locs ls hik hf hM hS hl
      have hob1 : xset M (g + 5) (xI (kA 0) 24 f) g = some (oMd g B us) := by rw [xset_n (by omega)]; exact hob
      refine lv_iload_n hx hb dX6_toU_2 rfl (lv_at hl 0 rfl) ?_
      refine lv_bipush (v := nI 24) hx hb dX6_toU_3 (by decide) ?_
      refine r_icmp_geN (tgt := 36) C (by omega) (by omega) dX6_toU_5 (by decide) (fun hc => ?_) (fun hc => ?_)
      · refine lv_aload_n hx hb dX6_toU_36 rfl (lv_at hl 1 rfl) ?_
        refine lv_bipush (v := nI 10) hx hb dX6_toU_37 (by decide) ?_
        refine x_put (v := .int (nI 10)) (ty := .int) hx hb hts in_X6_toU_X6 tyX6 tyX6_ok nmX6 hown hK hM hS (hob1) rfl 11 (by decide) (hts (.fieldLink RX6 79 "LimbCurvesModel" "uSize" "I") (by decide +kernel)) (fun _ h9 => h9) rfl (by decide +kernel) rfl rfl (Nat.le_of_ble_eq_true rfl) dX6_toU_39 (fun H locs hM hS => ?_)
        have hM : xW D vwCl N0 (xset (xset M (g + 5) (xI (kA 0) 24 f)) g (oMd g B (nI 10))) H := hM
        have hnn : nn f 24 := fun j hj => by
          rw [hf j (by omega)]
          split
          · exact hnf.nn9 hn (by omega)
          · decide
        have hV : V f 10 = N n := by
          rw [← hnf.2 n hn, Vw_V]
          exact V_congr (fun j hj => by rw [hf j (by omega), if_pos hj])
        exact hend _ _ _ _ _ hM hS (⟨(hm.u f).us (nI 10), xset_s, f, by rw [xset_n (by omega), xset_s], hnn, hV, fun j h1 h2 => by rw [hf j (by omega), if_neg (by omega)]⟩) dX6_toU_42
      · omega
    | succ k ih =>
      intro i f H locs ls hik hf hM hS hl
      have hob1 : xset M (g + 5) (xI (kA 0) 24 f) g = some (oMd g B us) := by rw [xset_n (by omega)]; exact hob
      have hF1 : xset M (g + 5) (xI (kA 0) 24 f) (g + 3) = some (xI (kA 0) 300 E0) := by rw [xset_n (by omega)]; exact hF
      have hnx : ∀ (x : Int32), x = (if i < 10 then E0 (10 * n + i) else 0) → ∀ j, j < i + 1 → upd f i x j = if j < 10 then E0 (10 * n + j) else 0 := fun x ex j hj => by
        by_cases q : j = i
        · rw [q, pk_us]; exact ex
        · rw [pk_un q]; exact hf j (by omega)
      refine lv_iload_n hx hb dX6_toU_2 rfl (lv_at hl 0 rfl) ?_
      refine lv_bipush (v := nI 24) hx hb dX6_toU_3 (by decide) ?_
      refine r_icmp_geN (tgt := 36) C (by omega) (by omega) dX6_toU_5 (by decide) (fun hc => ?_) (fun hc => ?_)
      · omega
      · refine lv_aload_n hx hb dX6_toU_8 rfl (lv_at hl 1 rfl) ?_
        refine x_get (v := .ref (g + 5)) hx hb hts in_X6_toU_X6 hown hK hM (hob1) rfl 8 (by decide) (hts (.fieldLink RX6 27 "LimbCurvesModel" "u" "[I") (by decide +kernel)) (fun _ h9 => h9) rfl dX6_toU_9 ?_
        refine lv_iload_n hx hb dX6_toU_12 rfl (lv_at hl 0 rfl) ?_
        refine lv_iload_n hx hb dX6_toU_13 rfl (lv_at hl 0 rfl) ?_
        refine lv_bipush (v := nI 10) hx hb dX6_toU_14 (by decide) ?_
        refine r_icmp_geN (tgt := 28) C (by omega) (by omega) dX6_toU_16 (by decide) (fun hd => ?_) (fun hd => ?_)
        · refine lv_iconst (v := nI 0) hx hb dX6_toU_28 (by decide) ?_
          refine r_iast C hM hS (xset_s) rfl (by omega) (by omega) dX6_toU_29 (fun H locs hM hS => ?_)
          rw [xset_xset] at hM
          refine lv_iinc (v := nI (i + 1)) (lv' := [(2, .int (nI (i + 1))), (0, .ref g), (1, .int (nI n))]) hx hb dX6_toU_30 hl (k := 0) rfl (r_inc _) (by decide) rfl (fun ls hl => ?_)
          refine lv_goto (tgt := 2) hx hb dX6_toU_33 (by decide) ?_
          exact ih (i + 1) _ H locs ls (by omega) (hnx _ (by rw [if_neg (by omega)]; rfl)) hM hS (lv_sub hl [0, 1, 2] rfl)
        · refine lv_aload_n hx hb dX6_toU_19 rfl (lv_at hl 1 rfl) ?_
          refine lv_iload_n hx hb dX6_toU_20 rfl (lv_at hl 2 rfl) ?_
          refine lv_iload_n hx hb dX6_toU_21 rfl (lv_at hl 0 rfl) ?_
          refine r_Vi (As := [.int (nI n), .int (nI i)]) (rest := [.int (nI i), .ref (g + 5)]) C hM hS (c6_get l D kA N0 (xset M (g + 5) (xI (kA 0) 24 f)) g n i B us E0 hob1 hF1 hn (by omega)) (hob1) rfl gX6_toU_X6_get rfl rfl rfl ⟨rfl, by decide +kernel, by decide +kernel, (by decide +kernel : (parseMethodDescriptor yX6_get.desc).map (fun d => d.parameters.length) = some 2)⟩ ⟨Nat.le_of_ble_eq_true rfl, Nat.le_of_ble_eq_true rfl⟩ hl.1 rfl (Nat.le_of_ble_eq_true rfl) dX6_toU_22 ⟨Nat.le_of_ble_eq_true rfl, Nat.le_of_ble_eq_true rfl⟩ (fun x M1 H locs hp hM hS => ?_)
          obtain ⟨ex, eM⟩ := hp
          rw [eM] at hM
          refine lv_goto (tgt := 29) hx hb dX6_toU_25 (by decide) ?_
          refine r_iast C hM hS (xset_s) rfl (by omega) (by omega) dX6_toU_29 (fun H locs hM hS => ?_)
          rw [xset_xset] at hM
          refine lv_iinc (v := nI (i + 1)) (lv' := [(2, .int (nI (i + 1))), (0, .ref g), (1, .int (nI n))]) hx hb dX6_toU_30 hl (k := 0) rfl (r_inc _) (by decide) rfl (fun ls hl => ?_)
          refine lv_goto (tgt := 2) hx hb dX6_toU_33 (by decide) ?_
          exact ih (i + 1) _ H locs ls (by omega) (hnx _ (by rw [if_pos (by omega)]; exact ex)) hM hS (lv_sub hl [0, 1, 2] rfl)
  exact lp 24 0 f0 _ _ _ rfl (fun j hj => by omega) hM hS (lv_sub hl [0, 1, 2] rfl)
set_option maxRecDepth 100000 in
theorem c6_productToU (l : Launch) (D : va_G) (kA : Nat → ClassId) (N0 : Nat) (M0 M : xM) (g n t : Nat) (B : Int32 × Int32 × Int32 × Int32) (N : Nat → Nat) (hm : MN kA M0 M g B N) (hn : n < 30) (ht : t < 30) : cV l yX6_productToU wsX6_productToU (xR 1) [.ref g, .int (nI n), .int (nI t)] D kA N0 M (fun M1 => MN kA M0 M1 g B N ∧ M1 g = some (oMd g B (nI 20)) ∧ ∃ f, M1 (g + 5) = some (xI (kA 0) 24 f) ∧ nn f 24 ∧ V f 20 = N n * N t ∧ ∀ j, 20 ≤ j → j < 24 → f j = 0) := by
  obtain ⟨us, E0, hob, hF, hnf, hst⟩ := hm.op
  obtain ⟨f0, hf0⟩ := hm.2.2.1
  have hB : BB = 2147483648 := rfl
  refine r_mV (cc := cX6_productToU) (maxL := 9) (by decide) rfl (Nat.le_of_ble_eq_true rfl) ?_
  intro p e s m below meth c ls A0 Qp C hM hnm hl hend
  obtain ⟨hx, hb, hml, hown, hts, hr, hlocks, hK, hN⟩ := _root_.id C
  have hS : va_S (xA N0) s.heap s.heap [] := va_S.rf
  have hl : lv_has ls 9 [(0, .ref g), (1, .int (nI n)), (2, .int (nI t))] := hl
  refine lv_iconst (v := nI 0) hx hb dX6_productToU_0 (by decide) ?_
  refine lv_istore_n (lv' := [(3, .int (nI 0)), (0, .ref g), (1, .int (nI n)), (2, .int (nI t))]) hx hb dX6_productToU_1 rfl hl (by decide) rfl (fun ls hl => ?_)
  have hM : xW D vwCl N0 (xset M (g + 5) (xI (kA 0) 24 f0)) s.heap := by rw [xset_id hf0]; exact hM
  have hob1 : ∀ f : Nat → Int32, xset M (g + 5) (xI (kA 0) 24 f) g = some (oMd g B us) := fun f => by rw [xset_n (by omega)]; exact hob
  have hF1 : ∀ f : Nat → Int32, xset M (g + 5) (xI (kA 0) 24 f) (g + 3) = some (xI (kA 0) 300 E0) := fun f => by rw [xset_n (by omega)]; exact hF
  have lp2 : ∀ (k i : Nat) (f : Nat → Int32) (H : Heap) (locs : List Loc) (ls : Array Slot), i + k = 10 → nn f 24 → V f (i + 10) = Vw E0 (10 * n) i * N t → (∀ j, i + 10 ≤ j → j < 24 → f j = 0) → xW D vwCl N0 (xset M (g + 5) (xI (kA 0) 24 f)) H → va_S (xA N0) s.heap H locs → lv_has ls 9 [(3, .int (nI i)), (0, .ref g), (1, .int (nI n)), (2, .int (nI t))] → W p l e (xR 1) s m A0 below meth c H locs 0 0 Qp (F0 m 23 ls []) := by
    intro k
    induction k with
    | zero =>
      intro i f H locs ls hik nf hV hz hM hS hl
      have hob2 := hob1 f
      refine lv_iload_n hx hb dX6_productToU_23 rfl (lv_at hl 0 rfl) ?_
      refine lv_bipush (v := nI 10) hx hb dX6_productToU_24 (by decide) ?_
      refine r_icmp_geN (tgt := 121) C (by omega) (by omega) dX6_productToU_26 (by decide) (fun hc => ?_) (fun hc => ?_)
      · have hi10 : i = 10 := by omega
        subst hi10
        rw [hnf.2 n hn] at hV
        refine lv_aload_n hx hb dX6_productToU_121 rfl (lv_at hl 1 rfl) ?_
        refine lv_bipush (v := nI 20) hx hb dX6_productToU_122 (by decide) ?_
        refine x_put (v := .int (nI 20)) (ty := .int) hx hb hts in_X6_productToU_X6 tyX6 tyX6_ok nmX6 hown hK hM hS (hob2) rfl 11 (by decide) (hts (.fieldLink RX6 79 "LimbCurvesModel" "uSize" "I") (by decide +kernel)) (fun _ h9 => h9) rfl (by decide +kernel) rfl rfl (Nat.le_of_ble_eq_true rfl) dX6_productToU_124 (fun H locs hM hS => ?_)
        have hM : xW D vwCl N0 (xset (xset M (g + 5) (xI (kA 0) 24 f)) g (oMd g B (nI 20))) H := hM
        exact hend _ _ _ _ _ hM hS (⟨(hm.u f).us (nI 20), xset_s, f, by rw [xset_n (by omega), xset_s], nf, hV, hz⟩) dX6_productToU_127
      · omega
    | succ k ih =>
      intro i f H locs ls hik nf hV hz hM hS hl
      have li := dg_lt (E0 (10 * n + i))
      have zi := dg_int (hnf.nn9 (i := i) hn (by omega))
      have lp3 : ∀ (k2 j cn : Nat) (cy : Int64) (f' : Nat → Int32) (H : Heap) (locs : List Loc) (ls : Array Slot), j + k2 = 10 → nn f' 24 → cy.toInt = cn → cn < BB → V f' (i + j) + cn * BB ^ (i + j) = V f (i + j) + dg (E0 (10 * n + i)) * (Vw E0 (10 * t) j * BB ^ i) → (∀ q, i + j ≤ q → f' q = f q) → xW D vwCl N0 (xset M (g + 5) (xI (kA 0) 24 f')) H → va_S (xA N0) s.heap H locs → lv_has ls 9 [(6, .int (nI j)), (4, .long cy), (3, .int (nI i)), (0, .ref g), (1, .int (nI n)), (2, .int (nI t))] → W p l e (xR 1) s m A0 below meth c H locs 0 0 Qp (F0 m 35 ls []) := by
        intro k2
        induction k2 with
        | zero =>
          intro j cn cy f' H locs ls hjk nf' hcy hcn hI hq hM hS hl
          have hob2 := hob1 f'
          refine lv_iload hx hb dX6_productToU_35 (lv_at hl 0 rfl) ?_
          refine lv_bipush (v := nI 10) hx hb dX6_productToU_37 (by decide) ?_
          refine r_icmp_geN (tgt := 103) C (by omega) (by omega) dX6_productToU_39 (by decide) (fun hc => ?_) (fun hc => ?_)
          · have hj10 : j = 10 := by omega
            rw [hj10] at hI hq
            refine lv_aload_n hx hb dX6_productToU_103 rfl (lv_at hl 3 rfl) ?_
            refine x_get (v := .ref (g + 5)) hx hb hts in_X6_productToU_X6 hown hK hM (hob2) rfl 8 (by decide) (hts (.fieldLink RX6 27 "LimbCurvesModel" "u" "[I") (by decide +kernel)) (fun _ h9 => h9) rfl dX6_productToU_104 ?_
            refine lv_iload_n hx hb dX6_productToU_107 rfl (lv_at hl 2 rfl) ?_
            refine lv_bipush (v := nI 10) hx hb dX6_productToU_108 (by decide) ?_
            refine r_iaddN C dX6_productToU_110 ?_
            refine lv_lload hx hb dX6_productToU_111 (lv_at hl 1 rfl) ?_
            refine lv_l2i (v := cy.toInt32) hx hb dX6_productToU_113 rfl ?_
            refine r_iast C hM hS (xset_s) rfl (by omega) (by omega) dX6_productToU_114 (fun H locs hM hS => ?_)
            rw [xset_xset] at hM
            have hci : (cy.toInt32).toInt = cn := l_l2i hcy (by omega) (by omega)
            have hdc : dg (cy.toInt32) = cn := by
              have := dg_int (x := cy.toInt32) (by omega)
              omega
            refine lv_iinc (v := nI (i + 1)) (lv' := [(3, .int (nI (i + 1))), (6, .int (nI j)), (4, .long cy), (0, .ref g), (1, .int (nI n)), (2, .int (nI t))]) hx hb dX6_productToU_115 hl (k := 2) rfl (r_inc _) (by decide) rfl (fun ls hl => ?_)
            refine lv_goto (tgt := 23) hx hb dX6_productToU_118 (by decide) ?_
            refine ih (i + 1) (upd f' (i + 10) cy.toInt32) H locs ls (by omega) (nn_upd nf' (by omega)) ?_ (fun q h1 h2 => ?_) hM hS (lv_sub hl [0, 3, 4, 5] rfl)
            · rw [show i + 1 + 10 = (i + 10) + 1 by omega, V_upd, hdc, hI, hV, hnf.2 t ht, Vw_s, Nat.add_mul, Nat.mul_assoc, Nat.mul_comm (N t) (BB ^ i)]
            · rw [pk_un (by omega), hq q (by omega)]
              exact hz q (by omega) h2
          · omega
        | succ k2 ih2 =>
          intro j cn cy f' H locs ls hjk nf' hcy hcn hI hq hM hS hl
          have hob2 := hob1 f'
          have hF2 := hF1 f'
          have lj := dg_lt (E0 (10 * t + j))
          have zj := dg_int (hnf.nn9 (i := j) ht (by omega))
          have lf := dg_lt (f' (i + j))
          have zf := dg_int (nf' (i + j) (by omega))
          refine lv_iload hx hb dX6_productToU_35 (lv_at hl 0 rfl) ?_
          refine lv_bipush (v := nI 10) hx hb dX6_productToU_37 (by decide) ?_
          refine r_icmp_geN (tgt := 103) C (by omega) (by omega) dX6_productToU_39 (by decide) (fun hc => ?_) (fun hc => ?_)
          · omega
          · refine lv_aload_n hx hb dX6_productToU_42 rfl (lv_at hl 3 rfl) ?_
            refine lv_iload_n hx hb dX6_productToU_43 rfl (lv_at hl 4 rfl) ?_
            refine lv_iload_n hx hb dX6_productToU_44 rfl (lv_at hl 2 rfl) ?_
            refine r_Vi (As := [.int (nI n), .int (nI i)]) (rest := []) C hM hS (c6_get l D kA N0 (xset M (g + 5) (xI (kA 0) 24 f')) g n i B us E0 hob2 hF2 hn (by omega)) (hob2) rfl gX6_productToU_X6_get rfl rfl rfl ⟨rfl, by decide +kernel, by decide +kernel, (by decide +kernel : (parseMethodDescriptor yX6_get.desc).map (fun d => d.parameters.length) = some 2)⟩ ⟨Nat.le_of_ble_eq_true rfl, Nat.le_of_ble_eq_true rfl⟩ hl.1 rfl (Nat.le_of_ble_eq_true rfl) dX6_productToU_45 ⟨Nat.le_of_ble_eq_true rfl, Nat.le_of_ble_eq_true rfl⟩ (fun x1 M1 H locs hp hM hS => ?_)
            obtain ⟨ex1, eM1⟩ := hp
            rw [eM1] at hM
            refine lv_i2l (v := x1.toInt64) hx hb dX6_productToU_48 rfl ?_
            refine lv_aload_n hx hb dX6_productToU_49 rfl (lv_at hl 3 rfl) ?_
            refine lv_iload_n hx hb dX6_productToU_50 rfl (lv_at hl 5 rfl) ?_
            refine lv_iload hx hb dX6_productToU_51 (lv_at hl 0 rfl) ?_
            refine r_Vi (As := [.int (nI t), .int (nI j)]) (rest := [.long x1.toInt64]) C hM hS (c6_get l D kA N0 (xset M (g + 5) (xI (kA 0) 24 f')) g t j B us E0 hob2 hF2 ht (by omega)) (hob2) rfl gX6_productToU_X6_get rfl rfl rfl ⟨rfl, by decide +kernel, by decide +kernel, (by decide +kernel : (parseMethodDescriptor yX6_get.desc).map (fun d => d.parameters.length) = some 2)⟩ ⟨Nat.le_of_ble_eq_true rfl, Nat.le_of_ble_eq_true rfl⟩ hl.1 rfl (Nat.le_of_ble_eq_true rfl) dX6_productToU_53 ⟨Nat.le_of_ble_eq_true rfl, Nat.le_of_ble_eq_true rfl⟩ (fun x2 M1 H locs hp hM hS => ?_)
            obtain ⟨ex2, eM2⟩ := hp
            rw [eM2] at hM
            refine lv_i2l (v := x2.toInt64) hx hb dX6_productToU_56 rfl ?_
            refine lv_lmul hx hb dX6_productToU_57 ?_
            refine lv_aload_n hx hb dX6_productToU_58 rfl (lv_at hl 3 rfl) ?_
            refine x_get (v := .ref (g + 5)) hx hb hts in_X6_productToU_X6 hown hK hM (hob2) rfl 8 (by decide) (hts (.fieldLink RX6 27 "LimbCurvesModel" "u" "[I") (by decide +kernel)) (fun _ h9 => h9) rfl dX6_productToU_59 ?_
            refine lv_iload_n hx hb dX6_productToU_62 rfl (lv_at hl 2 rfl) ?_
            refine lv_iload hx hb dX6_productToU_63 (lv_at hl 0 rfl) ?_
            refine r_iaddN C dX6_productToU_65 ?_
            refine r_iald C hM (xset_s) rfl (by omega) (by omega) dX6_productToU_66 ?_
            have hlt := pr_lt li lj lf hcn
            have hmul : dg (E0 (10 * n + i)) * dg (E0 (10 * t + j)) ≤ dg (E0 (10 * n + i)) * dg (E0 (10 * t + j)) + dg (f' (i + j)) + cn := by omega
            refine lv_i2l (v := (f' (i + j)).toInt64) hx hb dX6_productToU_67 rfl ?_
            refine lv_ladd hx hb dX6_productToU_68 ?_
            refine lv_lload hx hb dX6_productToU_69 (lv_at hl 1 rfl) ?_
            refine lv_ladd hx hb dX6_productToU_71 ?_
            refine lv_topl (fun v_1 ev_1 => ?_)
            refine lv_lstore (lv' := [(7, .long v_1), (6, .int (nI j)), (4, .long cy), (3, .int (nI i)), (0, .ref g), (1, .int (nI n)), (2, .int (nI t))]) hx hb dX6_productToU_72 hl (by decide) rfl (fun ls hl => ?_)
            have hT : v_1.toInt = ((dg (E0 (10 * n + i)) * dg (E0 (10 * t + j)) + dg (f' (i + j)) + cn : Nat) : Int) := by
              rw [ev_1, ex1, ex2]
              have hBB : BB * BB = 4611686018427387904 := rfl
              have h2 : ((E0 (10 * n + i)).toInt64 * (E0 (10 * t + j)).toInt64).toInt = ((dg (E0 (10 * n + i)) * dg (E0 (10 * t + j)) : Nat) : Int) := by
                rw [Int.natCast_mul]
                exact l_mul (l_i2l zi.symm) (l_i2l zj.symm) (by rw [← Int.natCast_mul]; omega) (by rw [← Int.natCast_mul]; omega)
              have h3 : ((E0 (10 * n + i)).toInt64 * (E0 (10 * t + j)).toInt64 + (f' (i + j)).toInt64).toInt = ((dg (E0 (10 * n + i)) * dg (E0 (10 * t + j)) : Nat) : Int) + (dg (f' (i + j)) : Int) := l_add h2 (l_i2l zf.symm) (by omega) (by omega)
              rw [l_add h3 hcy (by omega) (by omega)]
              omega
            clear ev_1
            have ho := cmb_o v_1
            have hcr := cmb_c v_1
            rw [hT] at ho hcr
            have hx0 : 0 ≤ ((v_1 &&& 2147483647).toInt32).toInt := by rw [ho]; omega
            have hdx : dg ((v_1 &&& 2147483647).toInt32) = (dg (E0 (10 * n + i)) * dg (E0 (10 * t + j)) + dg (f' (i + j)) + cn) % BB := by
              have h9 : (dg ((v_1 &&& 2147483647).toInt32) : Int) = ((dg (E0 (10 * n + i)) * dg (E0 (10 * t + j)) + dg (f' (i + j)) + cn : Nat) : Int) % 2147483648 := by rw [dg_int hx0, ho]
              rw [hB]
              omega
            refine lv_aload_n hx hb dX6_productToU_74 rfl (lv_at hl 4 rfl) ?_
            refine x_get (v := .ref (g + 5)) hx hb hts in_X6_productToU_X6 hown hK hM (hob2) rfl 8 (by decide) (hts (.fieldLink RX6 27 "LimbCurvesModel" "u" "[I") (by decide +kernel)) (fun _ h9 => h9) rfl dX6_productToU_75 ?_
            refine lv_iload_n hx hb dX6_productToU_78 rfl (lv_at hl 3 rfl) ?_
            refine lv_iload hx hb dX6_productToU_79 (lv_at hl 1 rfl) ?_
            refine r_iaddN C dX6_productToU_81 ?_
            refine lv_lload hx hb dX6_productToU_82 (lv_at hl 0 rfl) ?_
            refine lv_ldc2 (v := 2147483647) hx hb hown (hts (.constantLong RX6 75 (2147483647)) (by decide +kernel)) dX6_productToU_84 ?_
            refine lv_land hx hb dX6_productToU_87 ?_
            refine lv_l2i (v := (v_1 &&& 2147483647).toInt32) hx hb dX6_productToU_88 rfl ?_
            refine r_iast C hM hS (xset_s) rfl (by omega) (by omega) dX6_productToU_89 (fun H locs hM hS => ?_)
            rw [xset_xset] at hM
            refine lv_lload hx hb dX6_productToU_90 (lv_at hl 0 rfl) ?_
            refine lv_bipush (v := nI 31) hx hb dX6_productToU_92 (by decide) ?_
            refine lv_lshr (v := v_1 >>> ((nI 31).toInt64 &&& 63)) hx hb dX6_productToU_94 rfl ?_
            refine lv_topl (fun v_2 ev_2 => ?_)
            refine lv_lstore (lv' := [(4, .long v_2), (7, .long v_1), (6, .int (nI j)), (3, .int (nI i)), (0, .ref g), (1, .int (nI n)), (2, .int (nI t))]) hx hb dX6_productToU_95 hl (by decide) rfl (fun ls hl => ?_)
            refine lv_iinc (v := nI (j + 1)) (lv' := [(6, .int (nI (j + 1))), (4, .long v_2), (7, .long v_1), (3, .int (nI i)), (0, .ref g), (1, .int (nI n)), (2, .int (nI t))]) hx hb dX6_productToU_97 hl (k := 2) rfl (r_inc _) (by decide) rfl (fun ls hl => ?_)
            refine lv_goto (tgt := 35) hx hb dX6_productToU_100 (by decide) ?_
            refine ih2 (j + 1) ((dg (E0 (10 * n + i)) * dg (E0 (10 * t + j)) + dg (f' (i + j)) + cn) / BB) _ _ H locs ls (by omega) (nn_upd nf' hx0) ?_ ?_ ?_ (fun q h1 => ?_) hM hS (lv_sub hl [0, 1, 3, 4, 5, 6] rfl)
            · rw [ev_2, hcr, hB]
              omega
            · exact Nat.div_lt_of_lt_mul hlt
            · rw [show i + (j + 1) = (i + j) + 1 by omega, V_upd, Nat.pow_succ, pr_st hI hdx, V_s, Vw_s, hq (i + j) (Nat.le_refl _), Nat.add_mul, Nat.mul_add, Nat.mul_assoc (dg (E0 (10 * t + j))), ← Nat.pow_add, Nat.add_comm j i]
              omega
            · rw [pk_un (by omega)]
              exact hq q (by omega)
      refine lv_iload_n hx hb dX6_productToU_23 rfl (lv_at hl 0 rfl) ?_
      refine lv_bipush (v := nI 10) hx hb dX6_productToU_24 (by decide) ?_
      refine r_icmp_geN (tgt := 121) C (by omega) (by omega) dX6_productToU_26 (by decide) (fun hc => ?_) (fun hc => ?_)
      · omega
      · refine lv_lconst (v := 0) hx hb dX6_productToU_29 (by decide) ?_
        refine lv_lstore (lv' := [(4, .long 0), (3, .int (nI i)), (0, .ref g), (1, .int (nI n)), (2, .int (nI t))]) hx hb dX6_productToU_30 hl (by decide) rfl (fun ls hl => ?_)
        refine lv_iconst (v := nI 0) hx hb dX6_productToU_32 (by decide) ?_
        refine lv_istore (lv' := [(6, .int (nI 0)), (4, .long 0), (3, .int (nI i)), (0, .ref g), (1, .int (nI n)), (2, .int (nI t))]) hx hb dX6_productToU_33 hl (by decide) rfl (fun ls hl => ?_)
        exact lp3 10 0 0 0 f H locs ls (by omega) nf (by decide) (by omega) (by simp [Vw_0]) (fun q _ => rfl) hM hS (lv_sub hl [0, 1, 2, 3, 4, 5] rfl)
  have lp1 : ∀ (k i : Nat) (f : Nat → Int32) (H : Heap) (locs : List Loc) (ls : Array Slot), i + k = 24 → (∀ j, j < i → f j = 0) → xW D vwCl N0 (xset M (g + 5) (xI (kA 0) 24 f)) H → va_S (xA N0) s.heap H locs → lv_has ls 9 [(3, .int (nI i)), (0, .ref g), (1, .int (nI n)), (2, .int (nI t))] → W p l e (xR 1) s m A0 below meth c H locs 0 0 Qp (F0 m 2 ls []) := by
    intro k
    induction k with
    | zero =>
      intro i f H locs ls hik hf hM hS hl
      refine lv_iload_n hx hb dX6_productToU_2 rfl (lv_at hl 0 rfl) ?_
      refine lv_bipush (v := nI 24) hx hb dX6_productToU_3 (by decide) ?_
      refine r_icmp_geN (tgt := 21) C (by omega) (by omega) dX6_productToU_5 (by decide) (fun hc => ?_) (fun hc => ?_)
      · refine lv_iconst (v := nI 0) hx hb dX6_productToU_21 (by decide) ?_
        refine lv_istore_n (lv' := [(3, .int (nI 0)), (0, .ref g), (1, .int (nI n)), (2, .int (nI t))]) hx hb dX6_productToU_22 rfl hl (by decide) rfl (fun ls hl => ?_)
        refine lp2 10 0 f H locs ls (by omega) (fun j hj => by rw [hf j (by omega)]; decide) ?_ (fun j _ hj => hf j (by omega)) hM hS (lv_sub hl [0, 1, 2, 3] rfl)
        rw [Vw_0, Nat.zero_mul]
        exact V_zero (fun j hj => hf j (by omega))
      · omega
    | succ k ih =>
      intro i f H locs ls hik hf hM hS hl
      have hob2 := hob1 f
      refine lv_iload_n hx hb dX6_productToU_2 rfl (lv_at hl 0 rfl) ?_
      refine lv_bipush (v := nI 24) hx hb dX6_productToU_3 (by decide) ?_
      refine r_icmp_geN (tgt := 21) C (by omega) (by omega) dX6_productToU_5 (by decide) (fun hc => ?_) (fun hc => ?_)
      · omega
      · refine lv_aload_n hx hb dX6_productToU_8 rfl (lv_at hl 1 rfl) ?_
        refine x_get (v := .ref (g + 5)) hx hb hts in_X6_productToU_X6 hown hK hM (hob2) rfl 8 (by decide) (hts (.fieldLink RX6 27 "LimbCurvesModel" "u" "[I") (by decide +kernel)) (fun _ h9 => h9) rfl dX6_productToU_9 ?_
        refine lv_iload_n hx hb dX6_productToU_12 rfl (lv_at hl 0 rfl) ?_
        refine lv_iconst (v := nI 0) hx hb dX6_productToU_13 (by decide) ?_
        refine r_iast C hM hS (xset_s) rfl (by omega) (by omega) dX6_productToU_14 (fun H locs hM hS => ?_)
        rw [xset_xset] at hM
        refine lv_iinc (v := nI (i + 1)) (lv' := [(3, .int (nI (i + 1))), (0, .ref g), (1, .int (nI n)), (2, .int (nI t))]) hx hb dX6_productToU_15 hl (k := 0) rfl (r_inc _) (by decide) rfl (fun ls hl => ?_)
        refine lv_goto (tgt := 2) hx hb dX6_productToU_18 (by decide) ?_
        refine ih (i + 1) _ H locs ls (by omega) (fun j hj => ?_) hM hS (lv_sub hl [0, 1, 2, 3] rfl)
        by_cases q : j = i
        · rw [q, pk_us]; rfl
        · rw [pk_un q]; exact hf j (by omega)
  exact lp1 24 0 f0 _ _ _ rfl (fun j hj => by omega) hM hS (lv_sub hl [0, 1, 2, 3] rfl)
end NM3
