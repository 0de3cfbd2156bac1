theorem in_X6_get_X6 : ∀ w ∈ wsX60, w ∈ wsX6_get := by decide +kernel
theorem in_X6_set_X6 : ∀ w ∈ wsX60, w ∈ wsX6_set := by decide +kernel
section NM1
variable {p : Program} {l : Launch} {e : Env} {R : Room} {s : State} {m : MethodId} {args : Array Value} {below : List Frame} {meth : Method} {c : Code} {Q : State → Prop} {cells slots : Nat} {ret : Option FieldType} {D : va_G} {kA : Nat → ClassId} {N0 : Nat}
set_option maxRecDepth 100000 in
theorem c6_get (l : Launch) (D : va_G) (kA : Nat → ClassId) (N0 : Nat) (M : xM) (g n i : Nat) (B : Int32 × Int32 × Int32 × Int32) (us : Int32) (F : Nat → Int32) (hob : M g = some (oMd g B us)) (hF : M (g + 3) = some (xI (kA 0) 300 F)) (hn : n < 30) (hi : i < 10) : cI l yX6_get wsX6_get (xR 0) [.ref g, .int (nI n), .int (nI i)] D kA N0 M (fun v M1 => v = F (10 * n + i) ∧ M1 = M) := by
  refine r_mI (cc := cX6_get) (maxL := 3) (by decide) rfl (Nat.le_of_ble_eq_true rfl) ?_
  intro p e s m below meth c ls A0 Qp C hM hnm hl hend
  obtain ⟨hx, hb, hml, hown, hts, hr, hlocks, hK, hN⟩ := _root_.id C
  have hS : va_S (xA N0) s.heap s.heap [] := va_S.rf
  have hl : lv_has ls 3 [(0, .ref g), (1, .int (nI n)), (2, .int (nI i))] := hl
  refine lv_aload_n hx hb dX6_get_0 rfl (lv_at hl 0 rfl) ?_
  refine x_get (v := .ref (g + 3)) hx hb hts in_X6_get_X6 hown hK hM (hob) rfl 6 (by decide) (hts (.fieldLink RX6 21 "LimbCurvesModel" "numbers" "[I") (by decide +kernel)) (fun _ h9 => h9) rfl dX6_get_1 ?_
  refine lv_bipush (v := nI 10) hx hb dX6_get_4 (by decide) ?_
  refine lv_iload_n hx hb dX6_get_6 rfl (lv_at hl 1 rfl) ?_
  refine r_imulN C dX6_get_7 ?_
  refine lv_iload_n hx hb dX6_get_8 rfl (lv_at hl 2 rfl) ?_
  refine r_iaddN C dX6_get_9 ?_
  refine r_iald C hM (hF) rfl (by omega) (by omega) dX6_get_10 ?_
  exact hend _ _ _ _ _ _ hM hS (⟨rfl, rfl⟩) dX6_get_11
set_option maxRecDepth 100000 in
theorem c6_set (l : Launch) (D : va_G) (kA : Nat → ClassId) (N0 : Nat) (M : xM) (g n i : Nat) (x : Int32) (B : Int32 × Int32 × Int32 × Int32) (us : Int32) (F : Nat → Int32) (hob : M g = some (oMd g B us)) (hF : M (g + 3) = some (xI (kA 0) 300 F)) (hn : n < 30) (hi : i < 10) : cV l yX6_set wsX6_set (xR 0) [.ref g, .int (nI n), .int (nI i), .int x] D kA N0 M (fun M1 => M1 = xset M (g + 3) (xI (kA 0) 300 (upd F (10 * n + i) x))) := by
  refine r_mV (cc := cX6_set) (maxL := 4) (by decide) rfl (Nat.le_of_ble_eq_true rfl) ?_
  intro p e s m below meth c ls A0 Qp C hM hnm hl hend
  obtain ⟨hx, hb, hml, hown, hts, hr, hlocks, hK, hN⟩ := _root_.id C
  have hS : va_S (xA N0) s.heap s.heap [] := va_S.rf
  have hl : lv_has ls 4 [(0, .ref g), (1, .int (nI n)), (2, .int (nI i)), (3, .int x)] := hl
  refine lv_aload_n hx hb dX6_set_0 rfl (lv_at hl 0 rfl) ?_
  refine x_get (v := .ref (g + 3)) hx hb hts in_X6_set_X6 hown hK hM (hob) rfl 6 (by decide) (hts (.fieldLink RX6 21 "LimbCurvesModel" "numbers" "[I") (by decide +kernel)) (fun _ h9 => h9) rfl dX6_set_1 ?_
  refine lv_bipush (v := nI 10) hx hb dX6_set_4 (by decide) ?_
  refine lv_iload_n hx hb dX6_set_6 rfl (lv_at hl 1 rfl) ?_
  refine r_imulN C dX6_set_7 ?_
  refine lv_iload_n hx hb dX6_set_8 rfl (lv_at hl 2 rfl) ?_
  refine r_iaddN C dX6_set_9 ?_
  refine lv_iload_n hx hb dX6_set_10 rfl (lv_at hl 3 rfl) ?_
  refine r_iast C hM hS (hF) rfl (by omega) (by omega) dX6_set_11 (fun H locs hM hS => ?_)
  exact hend _ _ _ _ _ hM hS (rfl) dX6_set_12
set_option maxRecDepth 100000 in
theorem c6_small (l : Launch) (D : va_G) (kA : Nat → ClassId) (N0 : Nat) (M0 M : xM) (g n v : Nat) (B : Int32 × Int32 × Int32 × Int32) (N : Nat → Nat) (hm : MN kA M0 M g B N) (hn : n < 30) (hv : v < 1000) : cV l yX6_small wsX6_small (xR 1) [.ref g, .int (nI n), .int (nI v)] D kA N0 M (fun M1 => MN kA M0 M1 g B (un N n v)) := by
  obtain ⟨us, E0, hob, hF, hnf, hst⟩ := hm.op
  refine r_mV (cc := cX6_small) (maxL := 4) (by decide) rfl (Nat.le_of_ble_eq_true rfl) ?_
  intro p e s m below meth c ls A0 Qp C hM hnm hl hend
  obtain ⟨hx, hb, hml, hown, hts, hr, hlocks, hK, hN⟩ := _root_.id C
  have hS : va_S (xA N0) s.heap s.heap [] := va_S.rf
  have hl : lv_has ls 4 [(0, .ref g), (1, .int (nI n)), (2, .int (nI v))] := hl
  refine lv_iconst (v := nI 0) hx hb dX6_small_0 (by decide) ?_
  refine lv_istore_n (lv' := [(3, .int (nI 0)), (0, .ref g), (1, .int (nI n)), (2, .int (nI v))]) hx hb dX6_small_1 rfl hl (by decide) rfl (fun ls hl => ?_)
  have hM : xW D vwCl N0 (xset M (g + 3) (xI (kA 0) 300 E0)) s.heap := by rw [xset_id hF]; exact hM
  have lp : ∀ (k i : Nat) (F : Nat → Int32) (H : Heap) (locs : List Loc) (ls : Array Slot), i + k = 10 → Lp E0 F n i (if i = 0 then 0 else v) → xW D vwCl N0 (xset M (g + 3) (xI (kA 0) 300 F)) H → va_S (xA N0) s.heap H locs → lv_has ls 4 [(3, .int (nI i)), (0, .ref g), (1, .int (nI n)), (2, .int (nI v))] → W p l e (xR 1) s m A0 below meth c H locs 0 0 Qp (F0 m 2 ls []) := by
    intro k
    induction k with
    | zero =>
      intro i F H locs ls hik hL hM hS hl
      refine lv_iload_n hx hb dX6_small_2 rfl (lv_at hl 0 rfl) ?_
      refine lv_bipush (v := nI 10) hx hb dX6_small_3 (by decide) ?_
      refine r_icmp_geN (tgt := 29) C (by omega) (by omega) dX6_small_5 (by decide) (fun hc => ?_) (fun hc => ?_)
      · rw [show i = 10 by omega] at hL
        exact hend _ _ _ _ _ hM hS (hst _ _ (hL.fin hnf hn)) dX6_small_29
      · omega
    | succ k ih =>
      intro i F H locs ls hik hL hM hS hl
      have hob1 : xset M (g + 3) (xI (kA 0) 300 F) g = some (oMd g B us) := by rw [xset_n (by omega)]; exact hob
      refine lv_iload_n hx hb dX6_small_2 rfl (lv_at hl 0 rfl) ?_
      refine lv_bipush (v := nI 10) hx hb dX6_small_3 (by decide) ?_
      refine r_icmp_geN (tgt := 29) C (by omega) (by omega) dX6_small_5 (by decide) (fun hc => ?_) (fun hc => ?_)
      · omega
      · have hend9 : ∀ (x : Int32) (H : Heap) (locs : List Loc), x = (if i = 0 then nI v else nI 0) → xW D vwCl N0 (xset M (g + 3) (xI (kA 0) 300 F)) H → va_S (xA N0) s.heap H locs → W p l e (xR 1) s m A0 below meth c H locs 0 0 Qp (F0 m 20 ls [.int x, .int (nI i), .int (nI n), .ref g]) := by
          intro x H locs ex hM hS
          refine r_Vv (As := [.int (nI n), .int (nI i), .int x]) (rest := []) C hM hS (c6_set l D kA N0 (xset M (g + 3) (xI (kA 0) 300 F)) g n i x B us F hob1 xset_s hn (by omega)) (hob1) rfl gX6_small_X6_set rfl rfl rfl ⟨rfl, by decide +kernel, by decide +kernel, (by decide +kernel : (parseMethodDescriptor yX6_set.desc).map (fun d => d.parameters.length) = some 3)⟩ ⟨Nat.le_of_ble_eq_true rfl, Nat.le_of_ble_eq_true rfl⟩ hl.1 rfl (Nat.le_of_ble_eq_true rfl) dX6_small_20 ⟨Nat.le_of_ble_eq_true rfl, Nat.le_of_ble_eq_true rfl⟩ (fun M1 H locs hp hM hS => ?_)
          rw [hp, xset_xset] at hM
          refine lv_iinc (v := nI (i + 1)) (lv' := [(3, .int (nI (i + 1))), (0, .ref g), (1, .int (nI n)), (2, .int (nI v))]) hx hb dX6_small_23 hl (k := 0) rfl (r_inc _) (by decide) rfl (fun ls hl => ?_)
          refine lv_goto (tgt := 2) hx hb dX6_small_26 (by decide) ?_
          refine ih (i + 1) _ H locs ls (by omega) (hL.s ?_ ?_) hM hS (lv_sub hl [0, 1, 2, 3] rfl)
          · rw [ex]
            split
            · rw [t_nI (by omega)]; omega
            · decide
          · rw [ex]
            by_cases q : i = 0
            · rw [if_pos q, if_pos q, if_neg (by omega), q, dg_nI (by omega), Nat.pow_zero]
              omega
            · rw [if_neg q, if_neg q, if_neg (by omega), dg_nI (by omega)]
              omega
        refine lv_aload_n hx hb dX6_small_8 rfl (lv_at hl 1 rfl) ?_
        refine lv_iload_n hx hb dX6_small_9 rfl (lv_at hl 2 rfl) ?_
        refine lv_iload_n hx hb dX6_small_10 rfl (lv_at hl 0 rfl) ?_
        refine lv_iload_n hx hb dX6_small_11 rfl (lv_at hl 0 rfl) ?_
        refine r_if_neN (tgt := 19) C (by omega) dX6_small_12 (by decide) (fun hd => ?_) (fun hd => ?_)
        · refine lv_iconst (v := nI 0) hx hb dX6_small_19 (by decide) ?_
          exact hend9 _ H locs (by rw [if_neg hd]) hM hS
        · refine lv_iload_n hx hb dX6_small_15 rfl (lv_at hl 3 rfl) ?_
          refine lv_goto (tgt := 20) hx hb dX6_small_16 (by decide) ?_
          exact hend9 _ H locs (by rw [if_pos (by omega)]) hM hS
  exact lp 10 0 E0 _ _ _ rfl (Lp.ini E0 n) hM hS (lv_sub hl [0, 1, 2, 3] rfl)
set_option maxRecDepth 100000 in
theorem c6_copy (l : Launch) (D : va_G) (kA : Nat → ClassId) (N0 : Nat) (M0 M : xM) (g n t : Nat) (B : Int32 × Int32 × Int32 × Int32) (N : Nat → Nat) (hm : MN kA M0 M g B N) (hn : n < 30) (ht : t < 30) : cV l yX6_copy wsX6_copy (xR 1) [.ref g, .int (nI n), .int (nI t)] D kA N0 M (fun M1 => MN kA M0 M1 g B (un N n (N t))) := by
  obtain ⟨us, E0, hob, hF, hnf, hst⟩ := hm.op
  refine r_mV (cc := cX6_copy) (maxL := 4) (by decide) rfl (Nat.le_of_ble_eq_true rfl) ?_
  intro p e s m below meth c ls A0 Qp C hM hnm hl hend
  obtain ⟨hx, hb, hml, hown, hts, hr, hlocks, hK, hN⟩ := _root_.id C
  have hS : va_S (xA N0) s.heap s.heap [] := va_S.rf
  have hl : lv_has ls 4 [(0, .ref g), (1, .int (nI n)), (2, .int (nI t))] := hl
  refine lv_iconst (v := nI 0) hx hb dX6_copy_0 (by decide) ?_
  refine lv_istore_n (lv' := [(3, .int (nI 0)), (0, .ref g), (1, .int (nI n)), (2, .int (nI t))]) hx hb dX6_copy_1 rfl hl (by decide) rfl (fun ls hl => ?_)
  have hM : xW D vwCl N0 (xset M (g + 3) (xI (kA 0) 300 E0)) s.heap := by rw [xset_id hF]; exact hM
  have lp : ∀ (k i : Nat) (F : Nat → Int32) (H : Heap) (locs : List Loc) (ls : Array Slot), i + k = 10 → Lp E0 F n i (Vw E0 (10 * t) i) → xW D vwCl N0 (xset M (g + 3) (xI (kA 0) 300 F)) H → va_S (xA N0) s.heap H locs → lv_has ls 4 [(3, .int (nI i)), (0, .ref g), (1, .int (nI n)), (2, .int (nI t))] → W p l e (xR 1) s m A0 below meth c H locs 0 0 Qp (F0 m 2 ls []) := by
    intro k
    induction k with
    | zero =>
      intro i F H locs ls hik hL hM hS hl
      refine lv_iload_n hx hb dX6_copy_2 rfl (lv_at hl 0 rfl) ?_
      refine lv_bipush (v := nI 10) hx hb dX6_copy_3 (by decide) ?_
      refine r_icmp_geN (tgt := 26) C (by omega) (by omega) dX6_copy_5 (by decide) (fun hc => ?_) (fun hc => ?_)
      · rw [show i = 10 by omega, hnf.2 t ht] at hL
        exact hend _ _ _ _ _ hM hS (hst _ _ (hL.fin hnf hn)) dX6_copy_26
      · omega
    | succ k ih =>
      intro i F H locs ls hik hL hM hS hl
      have hob1 : xset M (g + 3) (xI (kA 0) 300 F) g = some (oMd g B us) := by rw [xset_n (by omega)]; exact hob
      refine lv_iload_n hx hb dX6_copy_2 rfl (lv_at hl 0 rfl) ?_
      refine lv_bipush (v := nI 10) hx hb dX6_copy_3 (by decide) ?_
      refine r_icmp_geN (tgt := 26) C (by omega) (by omega) dX6_copy_5 (by decide) (fun hc => ?_) (fun hc => ?_)
      · omega
      · refine lv_aload_n hx hb dX6_copy_8 rfl (lv_at hl 1 rfl) ?_
        refine lv_iload_n hx hb dX6_copy_9 rfl (lv_at hl 2 rfl) ?_
        refine lv_iload_n hx hb dX6_copy_10 rfl (lv_at hl 0 rfl) ?_
        refine lv_aload_n hx hb dX6_copy_11 rfl (lv_at hl 1 rfl) ?_
        refine lv_iload_n hx hb dX6_copy_12 rfl (lv_at hl 3 rfl) ?_
        refine lv_iload_n hx hb dX6_copy_13 rfl (lv_at hl 0 rfl) ?_
        refine r_Vi (As := [.int (nI t), .int (nI i)]) (rest := [.int (nI i), .int (nI n), .ref g]) C hM hS (c6_get l D kA N0 (xset M (g + 3) (xI (kA 0) 300 F)) g t i B us F hob1 xset_s ht (by omega)) (hob1) rfl gX6_copy_X6_get rfl rfl rfl ⟨rfl, by decide +kernel, by decide +kernel, (by decide +kernel : (parseMethodDescriptor yX6_get.desc).map (fun d => d.parameters.length) = some 2)⟩ ⟨Nat.le_of_ble_eq_true rfl, Nat.le_of_ble_eq_true rfl⟩ hl.1 rfl (Nat.le_of_ble_eq_true rfl) dX6_copy_14 ⟨Nat.le_of_ble_eq_true rfl, Nat.le_of_ble_eq_true rfl⟩ (fun x M1 H locs hp hM hS => ?_)
        obtain ⟨ex, eM⟩ := hp
        rw [eM] at hM
        rw [hL.rd (Nat.le_refl i) (by omega)] at ex
        refine r_Vv (As := [.int (nI n), .int (nI i), .int x]) (rest := []) C hM hS (c6_set l D kA N0 (xset M (g + 3) (xI (kA 0) 300 F)) g n i x B us F hob1 xset_s hn (by omega)) (hob1) rfl gX6_copy_X6_set rfl rfl rfl ⟨rfl, by decide +kernel, by decide +kernel, (by decide +kernel : (parseMethodDescriptor yX6_set.desc).map (fun d => d.parameters.length) = some 3)⟩ ⟨Nat.le_of_ble_eq_true rfl, Nat.le_of_ble_eq_true rfl⟩ hl.1 rfl (Nat.le_of_ble_eq_true rfl) dX6_copy_17 ⟨Nat.le_of_ble_eq_true rfl, Nat.le_of_ble_eq_true rfl⟩ (fun M1 H locs hp hM hS => ?_)
        rw [hp, xset_xset] at hM
        refine lv_iinc (v := nI (i + 1)) (lv' := [(3, .int (nI (i + 1))), (0, .ref g), (1, .int (nI n)), (2, .int (nI t))]) hx hb dX6_copy_20 hl (k := 0) rfl (r_inc _) (by decide) rfl (fun ls hl => ?_)
        refine lv_goto (tgt := 2) hx hb dX6_copy_23 (by decide) ?_
        exact ih (i + 1) _ H locs ls (by omega) (hL.s (by rw [ex]; exact hnf.nn9 ht (by omega)) (by rw [ex, Vw_s])) hM hS (lv_sub hl [0, 1, 2, 3] rfl)
  exact lp 10 0 E0 _ _ _ rfl (Lp.ini E0 n) hM hS (lv_sub hl [0, 1, 2, 3] rfl)
/-- numbers of places told by their digits from the highest on -/
theorem Vw_less {F G : Nat → Int32} {a b k n : Nat} (hk : k < n) (he : ∀ j, k < j → j < n → F (a + j) = G (b + j)) (h : dg (F (a + k)) < dg (G (b + k))) : Vw F a n < Vw G b n := by
  have h1 : ∀ (F : Nat → Int32) (a n : Nat), Vw F a n = V (fun j => F (a + j)) n := fun F a n => by
    induction n with
    | zero => rfl
    | succ n ih => rw [Vw_s, V_s, ih]
  rw [h1, h1]
  exact V_less hk he h
theorem Vw_V (F : Nat → Int32) (a n : Nat) : Vw F a n = V (fun j => F (a + j)) n := by
  induction n with
  | zero => rfl
  | succ n ih => rw [Vw_s, V_s, ih]
set_option maxRecDepth 100000 in
theorem c6_compare (l : Launch) (D : va_G) (kA : Nat → ClassId) (N0 : Nat) (M0 M : xM) (g n t : Nat) (B : Int32 × Int32 × Int32 × Int32) (N : Nat → Nat) (hm : MN kA M0 M g B N) (hn : n < 30) (ht : t < 30) : cI l yX6_compare wsX6_compare (xR 1) [.ref g, .int (nI n), .int (nI t)] D kA N0 M (fun r M1 => M1 = M ∧ ((r = 0 ∧ N n = N t) ∨ (r = -1 ∧ N n < N t) ∨ (r = 1 ∧ N t < N n))) := by
  obtain ⟨us, F, hob, hF, hnf, hst⟩ := hm.op
  refine r_mI (cc := cX6_compare) (maxL := 4) (by decide) rfl (Nat.le_of_ble_eq_true rfl) ?_
  intro p e s m below meth c ls A0 Qp C hM hnm hl hend
  obtain ⟨hx, hb, hml, hown, hts, hr, hlocks, hK, hN⟩ := _root_.id C
  have hS : va_S (xA N0) s.heap s.heap [] := va_S.rf
  have hl : lv_has ls 4 [(0, .ref g), (1, .int (nI n)), (2, .int (nI t))] := hl
  refine lv_bipush (v := nI 9) hx hb dX6_compare_0 (by decide) ?_
  refine lv_istore_n (lv' := [(3, .int (nI 9)), (0, .ref g), (1, .int (nI n)), (2, .int (nI t))]) hx hb dX6_compare_2 rfl hl (by decide) rfl (fun ls hl => ?_)
  have lp : ∀ (k : Nat) (H : Heap) (locs : List Loc) (ls : Array Slot), k ≤ 10 → (∀ j, k ≤ j → j < 10 → F (10 * n + j) = F (10 * t + j)) → xW D vwCl N0 M H → va_S (xA N0) s.heap H locs → lv_has ls 4 [(3, .int (nI k - 1)), (0, .ref g), (1, .int (nI n)), (2, .int (nI t))] → W p l e (xR 1) s m A0 below meth c H locs 0 0 Qp (F0 m 3 ls []) := by
    intro k
    induction k with
    | zero =>
      intro H locs ls hk he hM hS hl
      refine lv_iload_n hx hb dX6_compare_3 rfl (lv_at hl 0 rfl) ?_
      refine lv_if_lt (tgt := 49) hx hb dX6_compare_4 (by decide) (fun hc => ?_) (fun hc => ?_)
      · have heq : N n = N t := by
          rw [← hnf.2 n hn, ← hnf.2 t ht, Vw_V, Vw_V]
          exact V_congr (fun j hj => he j (Nat.zero_le j) hj)
        refine lv_iconst (v := nI 0) hx hb dX6_compare_49 (by decide) ?_
        exact hend _ _ _ _ _ _ hM hS (⟨rfl, Or.inl ⟨rfl, heq⟩⟩) dX6_compare_50
      · exact absurd (by decide) hc
    | succ k ih =>
      intro H locs ls hk he hM hS hl
      have hl : lv_has ls 4 [(3, .int (nI k)), (0, .ref g), (1, .int (nI n)), (2, .int (nI t))] := by rw [nI_pred] at hl; exact hl
      refine lv_iload_n hx hb dX6_compare_3 rfl (lv_at hl 0 rfl) ?_
      refine r_if_ltN (tgt := 49) C (by omega) dX6_compare_4 (by decide) (fun hc => ?_) (fun hc => ?_)
      · exact hc.elim
      · refine lv_aload_n hx hb dX6_compare_7 rfl (lv_at hl 1 rfl) ?_
        refine lv_iload_n hx hb dX6_compare_8 rfl (lv_at hl 2 rfl) ?_
        refine lv_iload_n hx hb dX6_compare_9 rfl (lv_at hl 0 rfl) ?_
        refine r_Vi (As := [.int (nI n), .int (nI k)]) (rest := []) C hM hS (c6_get l D kA N0 M g n k B us F hob hF hn (by omega)) (hob) rfl gX6_compare_X6_get rfl rfl rfl ⟨rfl, by decide +kernel, by decide +kernel, (by decide +kernel : (parseMethodDescriptor yX6_get.desc).map (fun d => d.parameters.length) = some 2)⟩ ⟨Nat.le_of_ble_eq_true rfl, Nat.le_of_ble_eq_true rfl⟩ hl.1 rfl (Nat.le_of_ble_eq_true rfl) dX6_compare_10 ⟨Nat.le_of_ble_eq_true rfl, Nat.le_of_ble_eq_true rfl⟩ (fun x1 M1 H locs hp hM hS => ?_)
        obtain ⟨ex1, eM⟩ := hp
        rw [eM] at hM
        refine lv_aload_n hx hb dX6_compare_13 rfl (lv_at hl 1 rfl) ?_
        refine lv_iload_n hx hb dX6_compare_14 rfl (lv_at hl 3 rfl) ?_
        refine lv_iload_n hx hb dX6_compare_15 rfl (lv_at hl 0 rfl) ?_
        refine r_Vi (As := [.int (nI t), .int (nI k)]) (rest := [.int x1]) C hM hS (c6_get l D kA N0 M g t k B us F hob hF ht (by omega)) (hob) rfl gX6_compare_X6_get rfl rfl rfl ⟨rfl, by decide +kernel, by decide +kernel, (by decide +kernel : (parseMethodDescriptor yX6_get.desc).map (fun d => d.parameters.length) = some 2)⟩ ⟨Nat.le_of_ble_eq_true rfl, Nat.le_of_ble_eq_true rfl⟩ hl.1 rfl (Nat.le_of_ble_eq_true rfl) dX6_compare_16 ⟨Nat.le_of_ble_eq_true rfl, Nat.le_of_ble_eq_true rfl⟩ (fun x2 M1 H locs hp hM hS => ?_)
        obtain ⟨ex2, eM2⟩ := hp
        rw [eM2] at hM
        have z1 := hnf.nn9 (i := k) hn (by omega)
        have z2 := hnf.nn9 (i := k) ht (by omega)
        have y1 := dg_int z1
        have y2 := dg_int z2
        refine lv_icmp_eq (tgt := 43) hx hb dX6_compare_19 (by decide) (fun hd => ?_) (fun hd => ?_)
        · rw [ex1, ex2] at hd
          refine lv_iinc (v := nI k - 1) (lv' := [(3, .int (nI k - 1)), (0, .ref g), (1, .int (nI n)), (2, .int (nI t))]) hx hb dX6_compare_43 hl (k := 0) rfl (r_decI _) (by decide) rfl (fun ls hl => ?_)
          refine lv_goto (tgt := 3) hx hb dX6_compare_46 (by decide) ?_
          refine ih H locs ls (by omega) (fun j h1 h2 => ?_) hM hS (lv_sub hl [0, 1, 2, 3] rfl)
          by_cases q : j = k
          · rw [q]; exact hd
          · exact he j (by omega) h2
        · rw [ex1, ex2] at hd
          have hne : dg (F (10 * n + k)) ≠ dg (F (10 * t + k)) := fun q => hd (by rw [nI_dg z1, nI_dg z2, q])
          refine lv_aload_n hx hb dX6_compare_22 rfl (lv_at hl 1 rfl) ?_
          refine lv_iload_n hx hb dX6_compare_23 rfl (lv_at hl 2 rfl) ?_
          refine lv_iload_n hx hb dX6_compare_24 rfl (lv_at hl 0 rfl) ?_
          refine r_Vi (As := [.int (nI n), .int (nI k)]) (rest := []) C hM hS (c6_get l D kA N0 M g n k B us F hob hF hn (by omega)) (hob) rfl gX6_compare_X6_get rfl rfl rfl ⟨rfl, by decide +kernel, by decide +kernel, (by decide +kernel : (parseMethodDescriptor yX6_get.desc).map (fun d => d.parameters.length) = some 2)⟩ ⟨Nat.le_of_ble_eq_true rfl, Nat.le_of_ble_eq_true rfl⟩ hl.1 rfl (Nat.le_of_ble_eq_true rfl) dX6_compare_25 ⟨Nat.le_of_ble_eq_true rfl, Nat.le_of_ble_eq_true rfl⟩ (fun x3 M1 H locs hp hM hS => ?_)
          obtain ⟨ex3, eM3⟩ := hp
          rw [eM3] at hM
          refine lv_aload_n hx hb dX6_compare_28 rfl (lv_at hl 1 rfl) ?_
          refine lv_iload_n hx hb dX6_compare_29 rfl (lv_at hl 3 rfl) ?_
          refine lv_iload_n hx hb dX6_compare_30 rfl (lv_at hl 0 rfl) ?_
          refine r_Vi (As := [.int (nI t), .int (nI k)]) (rest := [.int x3]) C hM hS (c6_get l D kA N0 M g t k B us F hob hF ht (by omega)) (hob) rfl gX6_compare_X6_get rfl rfl rfl ⟨rfl, by decide +kernel, by decide +kernel, (by decide +kernel : (parseMethodDescriptor yX6_get.desc).map (fun d => d.parameters.length) = some 2)⟩ ⟨Nat.le_of_ble_eq_true rfl, Nat.le_of_ble_eq_true rfl⟩ hl.1 rfl (Nat.le_of_ble_eq_true rfl) dX6_compare_31 ⟨Nat.le_of_ble_eq_true rfl, Nat.le_of_ble_eq_true rfl⟩ (fun x4 M1 H locs hp hM hS => ?_)
          obtain ⟨ex4, eM4⟩ := hp
          rw [eM4] at hM
          refine lv_icmp_ge (tgt := 41) hx hb dX6_compare_34 (by decide) (fun hq => ?_) (fun hq => ?_)
          · rw [ex3, ex4, ile] at hq
            have hlt : N t < N n := by
              rw [← hnf.2 n hn, ← hnf.2 t ht]
              exact Vw_less (k := k) (by omega) (fun j h1 h2 => (he j (by omega) h2).symm) (by omega)
            refine lv_iconst (v := nI 1) hx hb dX6_compare_41 (by decide) ?_
            exact hend _ _ _ _ _ _ hM hS (⟨rfl, Or.inr (Or.inr ⟨rfl, hlt⟩)⟩) dX6_compare_42
          · rw [ex3, ex4, ile] at hq
            have hlt : N n < N t := by
              rw [← hnf.2 n hn, ← hnf.2 t ht]
              exact Vw_less (k := k) (by omega) (fun j h1 h2 => he j (by omega) h2) (by omega)
            refine lv_iconst (v := (-1)) hx hb dX6_compare_37 (by decide) ?_
            refine lv_goto (tgt := 42) hx hb dX6_compare_38 (by decide) ?_
            exact hend _ _ _ _ _ _ hM hS (⟨rfl, Or.inr (Or.inl ⟨rfl, hlt⟩)⟩) dX6_compare_42
  exact lp 10 _ _ _ (Nat.le_refl 10) (fun j h1 h2 => by omega) hM hS (lv_sub hl [0, 1, 2, 3] rfl)
set_option maxRecDepth 100000 in
theorem c6_isOne (l : Launch) (D : va_G) (kA : Nat → ClassId) (N0 : Nat) (M0 M : xM) (g n : Nat) (B : Int32 × Int32 × Int32 × Int32) (N : Nat → Nat) (hm : MN kA M0 M g B N) (hn : n < 30) (h4 : N 4 = 1) : cI l yX6_isOne wsX6_isOne (xR 2) [.ref g, .int (nI n)] D kA N0 M (fun r M1 => M1 = M ∧ ((r = 1 ∧ N n = 1) ∨ (r = 0 ∧ ¬ N n = 1))) := by
  obtain ⟨us, F, hob, hF, hnf, hst⟩ := hm.op
  refine r_mZ (cc := cX6_isOne) (maxL := 2) (by decide) rfl (Nat.le_of_ble_eq_true rfl) ?_
  intro p e s m below meth c ls A0 Qp C hM hnm hl hend
  obtain ⟨hx, hb, hml, hown, hts, hr, hlocks, hK, hN⟩ := _root_.id C
  have hS : va_S (xA N0) s.heap s.heap [] := va_S.rf
  have hl : lv_has ls 2 [(0, .ref g), (1, .int (nI n))] := hl
  refine lv_aload_n hx hb dX6_isOne_0 rfl (lv_at hl 0 rfl) ?_
  refine lv_iload_n hx hb dX6_isOne_1 rfl (lv_at hl 1 rfl) ?_
  refine lv_iconst (v := nI 4) hx hb dX6_isOne_2 (by decide) ?_
  refine r_Vi (As := [.int (nI n), .int (nI 4)]) (rest := []) C hM hS (c6_compare l D kA N0 M0 M g n 4 B N hm hn (by omega)) (hob) rfl gX6_isOne_X6_compare rfl rfl rfl ⟨rfl, by decide +kernel, by decide +kernel, (by decide +kernel : (parseMethodDescriptor yX6_compare.desc).map (fun d => d.parameters.length) = some 2)⟩ ⟨Nat.le_of_ble_eq_true rfl, Nat.le_of_ble_eq_true rfl⟩ hl.1 rfl (Nat.le_of_ble_eq_true rfl) dX6_isOne_3 ⟨Nat.le_of_ble_eq_true rfl, Nat.le_of_ble_eq_true rfl⟩ (fun v M1 H locs hp hM hS => ?_)
  obtain ⟨eM, hv⟩ := hp
  rw [eM] at hM
  rw [h4] at hv
  refine lv_if_ne (tgt := 13) hx hb dX6_isOne_6 (by decide) (fun hc => ?_) (fun hc => ?_)
  · have hne : ¬ N n = 1 := fun q => by
      rcases hv with ⟨h1, h2⟩ | ⟨h1, h2⟩ | ⟨h1, h2⟩
      · exact hc h1
      · omega
      · omega
    refine lv_iconst (v := nI 0) hx hb dX6_isOne_13 (by decide) ?_
    exact hend _ _ _ _ _ _ hM hS (by decide) (⟨rfl, Or.inr ⟨rfl, hne⟩⟩) dX6_isOne_14
  · have heq : N n = 1 := by
      rcases hv with ⟨h1, h2⟩ | ⟨h1, h2⟩ | ⟨h1, h2⟩
      · exact h2
      · rw [h1] at hc; exact absurd hc (by decide)
      · rw [h1] at hc; exact absurd hc (by decide)
    refine lv_iconst (v := nI 1) hx hb dX6_isOne_9 (by decide) ?_
    refine lv_goto (tgt := 14) hx hb dX6_isOne_10 (by decide) ?_
    exact hend _ _ _ _ _ _ hM hS (by decide) (⟨rfl, Or.inl ⟨rfl, heq⟩⟩) dX6_isOne_14
theorem Nf.odd {F : Nat → Int32} {N : Nat → Nat} (h : Nf F N) {n : Nat} (hn : n < 30) : N n % 2 = dg (F (10 * n)) % 2 := by
  rw [← h.2 n hn, Vw_V, odd_of (by omega)]
  rfl
set_option maxRecDepth 100000 in
theorem c6_isOdd (l : Launch) (D : va_G) (kA : Nat → ClassId) (N0 : Nat) (M0 M : xM) (g n : Nat) (B : Int32 × Int32 × Int32 × Int32) (N : Nat → Nat) (hm : MN kA M0 M g B N) (hn : n < 30) : cI l yX6_isOdd wsX6_isOdd (xR 1) [.ref g, .int (nI n)] D kA N0 M (fun r M1 => M1 = M ∧ ((r = 1 ∧ N n % 2 = 1) ∨ (r = 0 ∧ ¬ N n % 2 = 1))) := by
  obtain ⟨us, F, hob, hF, hnf, hst⟩ := hm.op
  have ho := hnf.odd hn
  have z1 := hnf.dg9 (i := 0) hn (by omega)
  simp only [Nat.add_zero] at z1
  have hdl := dg_lt (F (10 * n))
  have hBB : BB = 2147483648 := rfl
  refine r_mZ (cc := cX6_isOdd) (maxL := 2) (by decide) rfl (Nat.le_of_ble_eq_true rfl) ?_
  intro p e s m below meth c ls A0 Qp C hM hnm hl hend
  obtain ⟨hx, hb, hml, hown, hts, hr, hlocks, hK, hN⟩ := _root_.id C
  have hS : va_S (xA N0) s.heap s.heap [] := va_S.rf
  have hl : lv_has ls 2 [(0, .ref g), (1, .int (nI n))] := hl
  refine lv_aload_n hx hb dX6_isOdd_0 rfl (lv_at hl 0 rfl) ?_
  refine lv_iload_n hx hb dX6_isOdd_1 rfl (lv_at hl 1 rfl) ?_
  refine lv_iconst (v := nI 0) hx hb dX6_isOdd_2 (by decide) ?_
  refine r_Vi (As := [.int (nI n), .int (nI 0)]) (rest := []) C hM hS (c6_get l D kA N0 M g n 0 B us F hob hF hn (by omega)) (hob) rfl gX6_isOdd_X6_get rfl rfl rfl ⟨rfl, by decide +kernel, by decide +kernel, (by decide +kernel : (parseMethodDescriptor yX6_get.desc).map (fun d => d.parameters.length) = some 2)⟩ ⟨Nat.le_of_ble_eq_true rfl, Nat.le_of_ble_eq_true rfl⟩ hl.1 rfl (Nat.le_of_ble_eq_true rfl) dX6_isOdd_3 ⟨Nat.le_of_ble_eq_true rfl, Nat.le_of_ble_eq_true rfl⟩ (fun x M1 H locs hp hM hS => ?_)
  obtain ⟨ex, eM⟩ := hp
  rw [eM] at hM
  simp only [Nat.add_zero] at ex
  rw [z1] at ex
  rw [ex]
  refine lv_iconst (v := nI 1) hx hb dX6_isOdd_6 (by decide) ?_
  refine lv_iand hx hb dX6_isOdd_7 ?_
  refine r_topi C (nI (dg (F (10 * n)) % 2)) (pk_andN (by omega) 1 (by decide)) ?_
  refine lv_iconst (v := nI 1) hx hb dX6_isOdd_8 (by decide) ?_
  refine r_icmp_neN (tgt := 16) C (by omega) (by omega) dX6_isOdd_9 (by decide) (fun hc => ?_) (fun hc => ?_)
  · refine lv_iconst (v := nI 0) hx hb dX6_isOdd_16 (by decide) ?_
    exact hend _ _ _ _ _ _ hM hS (by decide) (⟨rfl, Or.inr ⟨rfl, by omega⟩⟩) dX6_isOdd_17
  · refine lv_iconst (v := nI 1) hx hb dX6_isOdd_12 (by decide) ?_
    refine lv_goto (tgt := 17) hx hb dX6_isOdd_13 (by decide) ?_
    exact hend _ _ _ _ _ _ hM hS (by decide) (⟨rfl, Or.inl ⟨rfl, by omega⟩⟩) dX6_isOdd_17
set_option maxRecDepth 100000 in
theorem c6_isZero (l : Launch) (D : va_G) (kA : Nat → ClassId) (N0 : Nat) (M0 M : xM) (g n : Nat) (B : Int32 × Int32 × Int32 × Int32) (N : Nat → Nat) (hm : MN kA M0 M g B N) (hn : n < 30) : cI l yX6_isZero wsX6_isZero (xR 1) [.ref g, .int (nI n)] D kA N0 M (fun r M1 => M1 = M ∧ ((r = 1 ∧ N n = 0) ∨ (r = 0 ∧ ¬ N n = 0))) := by
  obtain ⟨us, F, hob, hF, hnf, hst⟩ := hm.op
  refine r_mZ (cc := cX6_isZero) (maxL := 4) (by decide) rfl (Nat.le_of_ble_eq_true rfl) ?_
  intro p e s m below meth c ls A0 Qp C hM hnm hl hend
  obtain ⟨hx, hb, hml, hown, hts, hr, hlocks, hK, hN⟩ := _root_.id C
  have hS : va_S (xA N0) s.heap s.heap [] := va_S.rf
  have hl : lv_has ls 4 [(0, .ref g), (1, .int (nI n))] := hl
  refine lv_iconst (v := nI 1) hx hb dX6_isZero_0 (by decide) ?_
  refine lv_istore_n (lv' := [(2, .int (nI 1)), (0, .ref g), (1, .int (nI n))]) hx hb dX6_isZero_1 rfl hl (by decide) rfl (fun ls hl => ?_)
  refine lv_iconst (v := nI 0) hx hb dX6_isZero_2 (by decide) ?_
  refine lv_istore_n (lv' := [(3, .int (nI 0)), (2, .int (nI 1)), (0, .ref g), (1, .int (nI n))]) hx hb dX6_isZero_3 rfl hl (by decide) rfl (fun ls hl => ?_)
  have lp : ∀ (k i q : Nat) (H : Heap) (locs : List Loc) (ls : Array Slot), i + k = 10 → ((q = 1 ∧ ∀ j, j < i → F (10 * n + j) = 0) ∨ (q = 0 ∧ ∃ j, j < i ∧ F (10 * n + j) ≠ 0)) → xW D vwCl N0 M H → va_S (xA N0) s.heap H locs → lv_has ls 4 [(3, .int (nI i)), (2, .int (nI q)), (0, .ref g), (1, .int (nI n))] → W p l e (xR 1) s m A0 below meth c H locs 0 0 Qp (F0 m 4 ls []) := by
    intro k
    induction k with
    | zero =>
      intro i q H locs ls hik hq hM hS hl
      refine lv_iload_n hx hb dX6_isZero_4 rfl (lv_at hl 0 rfl) ?_
      refine lv_bipush (v := nI 10) hx hb dX6_isZero_5 (by decide) ?_
      refine r_icmp_geN (tgt := 35) C (by omega) (by omega) dX6_isZero_7 (by decide) (fun hc => ?_) (fun hc => ?_)
      · have hi10 : i = 10 := by omega
        subst hi10
        have hz : (q = 1 ∧ N n = 0) ∨ (q = 0 ∧ ¬ N n = 0) := by
          rcases hq with ⟨h1, h2⟩ | ⟨h1, j, h2, h3⟩
          · refine Or.inl ⟨h1, ?_⟩
            rw [← hnf.2 n hn]
            exact Vw_zero (fun j hj => h2 j hj)
          · refine Or.inr ⟨h1, fun hz => ?_⟩
            rw [← hnf.2 n hn, Vw_V] at hz
            have := V_eq0 hz j h2
            have z1 := hnf.dg9 (i := j) hn h2
            rw [this] at z1
            exact h3 z1
        have hpost : M = M ∧ ((nI q = 1 ∧ N n = 0) ∨ (nI q = 0 ∧ ¬ N n = 0)) := by
          rcases hz with ⟨h1, h2⟩ | ⟨h1, h2⟩
          · exact ⟨rfl, Or.inl ⟨by rw [h1]; rfl, h2⟩⟩
          · exact ⟨rfl, Or.inr ⟨by rw [h1]; rfl, h2⟩⟩
        have hb01 : nI q = 0 ∨ nI q = 1 := by
          rcases hz with ⟨h1, h2⟩ | ⟨h1, h2⟩
          · exact Or.inr (by rw [h1]; rfl)
          · exact Or.inl (by rw [h1]; rfl)
        refine lv_iload_n hx hb dX6_isZero_35 rfl (lv_at hl 1 rfl) ?_
        exact hend _ _ _ _ _ _ hM hS (hb01) (hpost) dX6_isZero_36
      · omega
    | succ k ih =>
      intro i q H locs ls hik hq hM hS hl
      have hq1 : q ≤ 1 := by rcases hq with ⟨h1, -⟩ | ⟨h1, -⟩ <;> omega
      refine lv_iload_n hx hb dX6_isZero_4 rfl (lv_at hl 0 rfl) ?_
      refine lv_bipush (v := nI 10) hx hb dX6_isZero_5 (by decide) ?_
      refine r_icmp_geN (tgt := 35) C (by omega) (by omega) dX6_isZero_7 (by decide) (fun hc => ?_) (fun hc => ?_)
      · omega
      · refine lv_iload_n hx hb dX6_isZero_10 rfl (lv_at hl 1 rfl) ?_
        refine r_if_eqN (tgt := 27) C (by omega) dX6_isZero_11 (by decide) (fun hd => ?_) (fun hd => ?_)
        · have hq0 : ∃ j, j < i + 1 ∧ F (10 * n + j) ≠ 0 := by
            rcases hq with ⟨h1, -⟩ | ⟨-, j, h2, h3⟩
            · omega
            · exact ⟨j, by omega, h3⟩
          refine lv_iconst (v := nI 0) hx hb dX6_isZero_27 (by decide) ?_
          refine lv_istore_n (lv' := [(2, .int (nI 0)), (3, .int (nI i)), (0, .ref g), (1, .int (nI n))]) hx hb dX6_isZero_28 rfl hl (by decide) rfl (fun ls hl => ?_)
          refine lv_iinc (v := nI (i + 1)) (lv' := [(3, .int (nI (i + 1))), (2, .int (nI 0)), (0, .ref g), (1, .int (nI n))]) hx hb dX6_isZero_29 hl (k := 1) rfl (r_inc _) (by decide) rfl (fun ls hl => ?_)
          refine lv_goto (tgt := 4) hx hb dX6_isZero_32 (by decide) ?_
          exact ih (i + 1) 0 H locs ls (by omega) (Or.inr ⟨rfl, hq0⟩) hM hS (lv_sub hl [0, 1, 2, 3] rfl)
        · have hqz : ∀ j, j < i → F (10 * n + j) = 0 := by
            rcases hq with ⟨-, h2⟩ | ⟨h1, -⟩
            · exact h2
            · omega
          refine lv_aload_n hx hb dX6_isZero_14 rfl (lv_at hl 2 rfl) ?_
          refine lv_iload_n hx hb dX6_isZero_15 rfl (lv_at hl 3 rfl) ?_
          refine lv_iload_n hx hb dX6_isZero_16 rfl (lv_at hl 0 rfl) ?_
          refine r_Vi (As := [.int (nI n), .int (nI i)]) (rest := []) C hM hS (c6_get l D kA N0 M g n i B us F hob hF hn (by omega)) (hob) rfl gX6_isZero_X6_get rfl rfl rfl ⟨rfl, by decide +kernel, by decide +kernel, (by decide +kernel : (parseMethodDescriptor yX6_get.desc).map (fun d => d.parameters.length) = some 2)⟩ ⟨Nat.le_of_ble_eq_true rfl, Nat.le_of_ble_eq_true rfl⟩ hl.1 rfl (Nat.le_of_ble_eq_true rfl) dX6_isZero_17 ⟨Nat.le_of_ble_eq_true rfl, Nat.le_of_ble_eq_true rfl⟩ (fun x M1 H locs hp hM hS => ?_)
          obtain ⟨ex, eM⟩ := hp
          rw [eM] at hM
          refine lv_if_ne (tgt := 27) hx hb dX6_isZero_20 (by decide) (fun hf => ?_) (fun hf => ?_)
          · rw [ex] at hf
            refine lv_iconst (v := nI 0) hx hb dX6_isZero_27 (by decide) ?_
            refine lv_istore_n (lv' := [(2, .int (nI 0)), (3, .int (nI i)), (0, .ref g), (1, .int (nI n))]) hx hb dX6_isZero_28 rfl hl (by decide) rfl (fun ls hl => ?_)
            refine lv_iinc (v := nI (i + 1)) (lv' := [(3, .int (nI (i + 1))), (2, .int (nI 0)), (0, .ref g), (1, .int (nI n))]) hx hb dX6_isZero_29 hl (k := 1) rfl (r_inc _) (by decide) rfl (fun ls hl => ?_)
            refine lv_goto (tgt := 4) hx hb dX6_isZero_32 (by decide) ?_
            exact ih (i + 1) 0 H locs ls (by omega) (Or.inr ⟨rfl, i, by omega, hf⟩) hM hS (lv_sub hl [0, 1, 2, 3] rfl)
          · rw [ex] at hf
            refine lv_iconst (v := nI 1) hx hb dX6_isZero_23 (by decide) ?_
            refine lv_goto (tgt := 28) hx hb dX6_isZero_24 (by decide) ?_
            refine lv_istore_n (lv' := [(2, .int (nI 1)), (3, .int (nI i)), (0, .ref g), (1, .int (nI n))]) hx hb dX6_isZero_28 rfl hl (by decide) rfl (fun ls hl => ?_)
            refine lv_iinc (v := nI (i + 1)) (lv' := [(3, .int (nI (i + 1))), (2, .int (nI 1)), (0, .ref g), (1, .int (nI n))]) hx hb dX6_isZero_29 hl (k := 1) rfl (r_inc _) (by decide) rfl (fun ls hl => ?_)
            refine lv_goto (tgt := 4) hx hb dX6_isZero_32 (by decide) ?_
            refine ih (i + 1) 1 H locs ls (by omega) (Or.inl ⟨rfl, fun j hj => ?_⟩) hM hS (lv_sub hl [0, 1, 2, 3] rfl)
            by_cases e9 : j = i
            · rw [e9]; exact hf
            · exact hqz j (by omega)
  exact lp 10 0 1 _ _ _ rfl (Or.inl ⟨rfl, fun j hj => by omega⟩) hM hS (lv_sub hl [0, 1, 2, 3] rfl)
set_option maxRecDepth 100000 in
theorem c6_length (l : Launch) (D : va_G) (kA : Nat → ClassId) (N0 : Nat) (M : xM) (g n : Nat) (B : Int32 × Int32 × Int32 × Int32) (us : Int32) (F : Nat → Int32) (hob : M g = some (oMd g B us)) (hF : M (g + 3) = some (xI (kA 0) 300 F)) (hn : n < 30) : cI l yX6_length wsX6_length (xR 1) [.ref g, .int (nI n)] D kA N0 M (fun r M1 => M1 = M ∧ ∃ z, r = nI z ∧ z ≤ 10 ∧ (∀ j, z ≤ j → j < 10 → F (10 * n + j) = 0) ∧ (0 < z → F (10 * n + (z - 1)) ≠ 0)) := by
  refine r_mI (cc := cX6_length) (maxL := 3) (by decide) rfl (Nat.le_of_ble_eq_true rfl) ?_
  intro p e s m below meth c ls A0 Qp C hM hnm hl hend
  obtain ⟨hx, hb, hml, hown, hts, hr, hlocks, hK, hN⟩ := _root_.id C
  have hS : va_S (xA N0) s.heap s.heap [] := va_S.rf
  have hl : lv_has ls 3 [(0, .ref g), (1, .int (nI n))] := hl
  refine lv_bipush (v := nI 10) hx hb dX6_length_0 (by decide) ?_
  refine lv_istore_n (lv' := [(2, .int (nI 10)), (0, .ref g), (1, .int (nI n))]) hx hb dX6_length_2 rfl hl (by decide) rfl (fun ls hl => ?_)
  have lp : ∀ (k : Nat) (H : Heap) (locs : List Loc) (ls : Array Slot), k ≤ 10 → (∀ j, k ≤ j → j < 10 → F (10 * n + j) = 0) → xW D vwCl N0 M H → va_S (xA N0) s.heap H locs → lv_has ls 3 [(2, .int (nI k)), (0, .ref g), (1, .int (nI n))] → W p l e (xR 1) s m A0 below meth c H locs 0 0 Qp (F0 m 3 ls []) := by
    intro k
    induction k with
    | zero =>
      intro H locs ls hk he hM hS hl
      refine lv_iload_n hx hb dX6_length_3 rfl (lv_at hl 0 rfl) ?_
      refine r_if_leN (tgt := 24) C (by omega) dX6_length_4 (by decide) (fun hc => ?_) (fun hc => ?_)
      · refine lv_iload_n hx hb dX6_length_24 rfl (lv_at hl 0 rfl) ?_
        exact hend _ _ _ _ _ _ hM hS (⟨rfl, 0, rfl, by omega, he, fun h => by omega⟩) dX6_length_25
      · omega
    | succ k ih =>
      intro H locs ls hk he hM hS hl
      refine lv_iload_n hx hb dX6_length_3 rfl (lv_at hl 0 rfl) ?_
      refine r_if_leN (tgt := 24) C (by omega) dX6_length_4 (by decide) (fun hc => ?_) (fun hc => ?_)
      · omega
      · refine lv_aload_n hx hb dX6_length_7 rfl (lv_at hl 1 rfl) ?_
        refine lv_iload_n hx hb dX6_length_8 rfl (lv_at hl 2 rfl) ?_
        refine lv_iload_n hx hb dX6_length_9 rfl (lv_at hl 0 rfl) ?_
        refine lv_iconst (v := nI 1) hx hb dX6_length_10 (by decide) ?_
        refine r_isubN C (Nat.le_add_left 1 _) dX6_length_11 ?_
        refine W.eq (g2 := F0 m 12 ls (.int (nI k) :: .int (nI n) :: .ref g :: [])) rfl ?_
        refine r_Vi (As := [.int (nI n), .int (nI k)]) (rest := []) C hM hS (c6_get l D kA N0 M g n k B us F hob hF hn (by omega)) (hob) rfl gX6_length_X6_get rfl rfl rfl ⟨rfl, by decide +kernel, by decide +kernel, (by decide +kernel : (parseMethodDescriptor yX6_get.desc).map (fun d => d.parameters.length) = some 2)⟩ ⟨Nat.le_of_ble_eq_true rfl, Nat.le_of_ble_eq_true rfl⟩ hl.1 rfl (Nat.le_of_ble_eq_true rfl) dX6_length_12 ⟨Nat.le_of_ble_eq_true rfl, Nat.le_of_ble_eq_true rfl⟩ (fun x M1 H locs hp hM hS => ?_)
        obtain ⟨ex, eM⟩ := hp
        rw [eM] at hM
        refine lv_if_ne (tgt := 24) hx hb dX6_length_15 (by decide) (fun hd => ?_) (fun hd => ?_)
        · rw [ex] at hd
          refine lv_iload_n hx hb dX6_length_24 rfl (lv_at hl 0 rfl) ?_
          exact hend _ _ _ _ _ _ hM hS (⟨rfl, k + 1, rfl, hk, he, fun _ => hd⟩) dX6_length_25
        · rw [ex] at hd
          refine lv_iinc (v := nI k) (lv' := [(2, .int (nI k)), (0, .ref g), (1, .int (nI n))]) hx hb dX6_length_18 hl (k := 0) rfl (r_dec _) (by decide) rfl (fun ls hl => ?_)
          refine lv_goto (tgt := 3) hx hb dX6_length_21 (by decide) ?_
          refine ih H locs ls (by omega) (fun j h1 h2 => ?_) hM hS (lv_sub hl [0, 1, 2] rfl)
          by_cases q : j = k
          · rw [q]; exact hd
          · exact he j (by omega) h2
  exact lp 10 _ _ _ (Nat.le_refl 10) (fun j h1 h2 => by omega) hM hS (lv_sub hl [0, 1, 2] rfl)
end NM1
